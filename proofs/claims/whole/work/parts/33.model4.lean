theorem mo_num {tx : Nat → Nat} {L p lo hi : Nat} (hp : p ≤ L) (hh : hi < 100) : (mo_s tx L p = 2 ∧ lo ≤ mo_w tx L p ∧ mo_w tx L p ≤ hi) ↔ cl_in tx L p lo hi := by
  have hb := tn_b (tx := tx) hp
  have e1 : tk_st tx L p = tn_s tx L p := rfl
  have e2 : tk_en tx L (tk_st tx L p) = tn_e tx L p := rfl
  unfold cl_in tn_v tk_num mo_w mo_v mo_s
  rw [e1, show tk_en tx L (tn_s tx L p) = tn_e tx L p from rfl]
  by_cases h1 : tn_s tx L p < L
  · rw [if_pos h1]
    by_cases h2 : tx_s tx L (tn_s tx L p) = 2
    · rw [if_pos h2]
      rcases (show tn_e tx L p - tn_s tx L p = 1 ∨ tn_e tx L p - tn_s tx L p = 2 ∨ 2 < tn_e tx L p - tn_s tx L p by omega) with h | h | h
      · rw [if_neg (by omega), if_pos h, if_pos ⟨by omega, by omega, h2⟩, if_pos h]; omega
      · rw [if_neg (by omega), if_neg (by omega), if_pos h, if_pos ⟨by omega, by omega, h2⟩, if_neg (by omega)]; omega
      · rw [if_neg (by omega), if_neg (by omega), if_neg (by omega), if_neg (by omega)]; omega
    · rw [if_neg (show ¬ (tn_s tx L p < tn_e tx L p ∧ tn_e tx L p - tn_s tx L p ≤ 2 ∧ tx_s tx L (tn_s tx L p) = 2) from fun h => h2 h.2.2)]
      omega
  · have h3 : tx_s tx L (tn_s tx L p) = 3 := if_neg h1
    rw [if_neg h1, if_neg (show ¬ (tn_s tx L p < tn_e tx L p ∧ tn_e tx L p - tn_s tx L p ≤ 2 ∧ tx_s tx L (tn_s tx L p) = 2) from fun h => by omega)]
    omega
theorem mo_val {tx : Nat → Nat} {L p lo hi : Nat} (hp : p ≤ L) (hh : hi < 100) (h : cl_in tx L p lo hi) : mo_w tx L p = tn_v tx L p := by
  have h0 := (mo_num hp hh).mpr h
  have hb := tn_b (tx := tx) hp
  have h4 : mo_w tx L p ≤ 99 := by omega
  obtain ⟨h1, h2⟩ := cl_in_iff.mp h
  have hs := h0.1
  have hL : tn_s tx L p < L := by
    rcases Nat.lt_or_ge (tn_s tx L p) L with q | q
    · exact q
    · unfold mo_s at hs; rw [if_neg (by omega)] at hs; omega
  have hx : tx_s tx L (tn_s tx L p) = 2 := by unfold mo_s at hs; rw [if_pos hL] at hs; exact hs
  unfold mo_w mo_v at h4 ⊢
  rw [if_pos hs] at h4 ⊢
  unfold tn_v tk_num
  rw [show tk_st tx L p = tn_s tx L p from rfl, show tk_en tx L (tn_s tx L p) = tn_e tx L p from rfl]
  rcases (show tn_e tx L p - tn_s tx L p = 1 ∨ tn_e tx L p - tn_s tx L p = 2 ∨ 2 < tn_e tx L p - tn_s tx L p by omega) with q | q | q
  · rw [if_neg (by omega), if_pos q, if_pos ⟨by omega, by omega, hx⟩, if_pos q]
  · rw [if_neg (by omega), if_neg (by omega), if_pos q, if_pos ⟨by omega, by omega, hx⟩, if_neg (by omega)]
  · rw [if_neg (by omega), if_neg (by omega), if_neg (by omega)] at h4; omega
theorem mo_chr : ∀ i, i < 9 → ∀ j, j < ta_len.getD i 0 → 97 ≤ ta_chr i j ∧ ta_chr i j ≤ 122 := by decide +kernel
/-- a word of small letters is of sort 1 -/
theorem mo_is1 {tx : Nat → Nat} {L p i : Nat} (hi : i < 9) (hp : p ≤ L) (h : tk_is tx (tn_s tx L p) (tn_e tx L p) i) : mo_s tx L p = 1 := by
  have hb := tn_b (tx := tx) hp
  have hl := ta_len_ok i (by omega)
  have h1 := h.1
  have h2 := h.2 0 (by omega)
  have h3 := mo_chr i hi 0 (by omega)
  rw [Nat.add_zero] at h2
  unfold mo_s tx_s
  rw [if_pos (by omega), if_pos (by omega), if_pos (by omega)]
theorem mo_row {tx : Nat → Nat} {L p : Nat} (h : mo_s tx L p = 1) : ∀ j, tn_s tx L p ≤ j → j < tn_e tx L p → 97 ≤ tx j ∧ tx j ≤ 122 := by
  intro j h1 h2
  have hx : tx_s tx L (tn_s tx L p) = 1 := by
    unfold mo_s at h
    rcases Nat.lt_or_ge (tn_s tx L p) L with q | q
    · rw [if_pos q] at h; exact h
    · rw [if_neg (by omega)] at h; omega
  have hj : tx_s tx L j = 1 := by rw [← hx]; exact tk_en_a (Or.inl hx) j h1 h2
  have hjL := tx_s0 (tx := tx) (L := L) (p := j) (by omega)
  unfold tx_s at hj
  rw [if_pos hjL] at hj
  (repeat' split at hj) <;> omega
theorem mo_wb {tx : Nat → Nat} {L p : Nat} (hx : tx_ok tx L) (hp : p ≤ L) : mo_w tx L p ≤ 3000 := by
  unfold mo_w
  split
  · rename_i h
    have hb := tn_b (tx := tx) hp
    have hL : tn_s tx L p < L := by
      rcases Nat.lt_or_ge (tn_s tx L p) L with q | q
      · exact q
      · unfold mo_s at h; rw [if_neg (by omega)] at h; omega
    have h1 := hx.2 (tn_s tx L p) hL
    unfold mo_v
    split
    · omega
    split
    · omega
    split
    · have h2 := hx.2 (tn_s tx L p + 1) (by omega)
      omega
    · omega
  · omega
set_option maxHeartbeats 4000000 in
set_option maxRecDepth 100000 in
theorem c_X8_number (l : Launch) (D : va_G) (k : ta_C) (z : Nat → Nat) (kn : Nat) (no : Nat) (at_ : Nat) (so : Nat) (sr : Nat) (va : Nat) (L : Nat) (tx : Nat → Nat) (lo : Nat) (hi : Nat) (hx0 : tx_ok tx L) (hat : at_ ≤ L) (hlh : lo ≤ hi ∧ hi < 100) : ta_Mi (S := Unit) l D k yX8_number cX8_number 3 .boolean 3 90 [.ref (z 0), .int (nI lo), .int (nI hi)] [(z 0, .inr (8, [.ref (z 1), .int (nI L), .ref (z 2), .ref (z 3), .ref (z 4), .ref (z 5), .int (nI kn), .ref (z 6), .ref (z 7), .ref (z 8), .int (nI no), .int (nI at_), .int (nI so), .int (nI sr), .int (nI va), .ref (z 9)])), (z 1, .inl (k.1 0, 160, .inl (ta_e tx)))] (fun r _ => (cl_in tx L at_ lo hi ∧ mo_w tx L at_ = tn_v tx L at_ ∧ r = nI 1) ∨ (¬ cl_in tx L at_ lo hi ∧ r = nI 0)) (fun u => [(z 0, .inr (8, [.ref (z 1), .int (nI L), .ref (z 2), .ref (z 3), .ref (z 4), .ref (z 5), .int (nI kn), .ref (z 6), .ref (z 7), .ref (z 8), .int (nI no), .int (nI (tn_e tx L at_)), .int (nI (mo_s tx L at_)), .int (nI (tn_s tx L at_)), .int (nI (mo_w tx L at_)), .ref (z 9)])), (z 1, .inl (k.1 0, 160, .inl (ta_e tx)))]) := by
  refine ta_enter_i (by decide) (Nat.le_of_ble_eq_true rfl) ?_
  intro p e s m below meth c A ls Q C ret hP hD hS hl
  have C : ta_At p l D k s m ([.ref (z 0), .int (nI lo), .int (nI hi)] : List Value).toArray c RX8 cX8_number 3 A := C
  have hx := C.1.1
  have hb := C.1.2.1
  have hl : lv_has ls 3 [(0, .ref (z 0)), (1, .int (nI lo)), (2, .int (nI hi))] := hl
  obtain ⟨H, hH⟩ : ∃ H, H = s.heap := ⟨_, rfl⟩
  obtain ⟨locs, hlocs⟩ : ∃ q : List Loc, q = [] := ⟨_, rfl⟩
  have hP : va_P D vwCl [(z 0, .inr (8, [.ref (z 1), .int (nI L), .ref (z 2), .ref (z 3), .ref (z 4), .ref (z 5), .int (nI kn), .ref (z 6), .ref (z 7), .ref (z 8), .int (nI no), .int (nI at_), .int (nI so), .int (nI sr), .int (nI va), .ref (z 9)])), (z 1, .inl (k.1 0, 160, .inl (ta_e tx)))] H := by rw [hH]; exact hP
  have hS : va_S A s.heap H locs := by rw [hH, hlocs]; exact hS
  rw [← hlocs]
  suffices hgoal : W p l e ({ frames := 3, cells := 0, slots := 0, locals := 90 }) s m ([.ref (z 0), .int (nI lo), .int (nI hi)] : List Value).toArray below meth c H locs 0 0 Q (F0 m 0 ls []) by rw [hH] at hgoal; exact hgoal
  clear hH hlocs
  obtain ⟨hL, hc⟩ := id hx0
  refine lv_aload_n hx hb dX8_number_0 rfl (lv_at hl 0 rfl) ?_
  refine ta_callVv (As := []) (rest0 := []) (Wr := []) C hP hD hS (c_X8_token l D k z kn no at_ so sr va L tx hx0 (by omega)) 0 rfl rfl rfl [0, 1] [] rfl rfl (by decide) (by decide) (by decide) tw_314 tw_311 tw_5 tw_312 tw_313 ⟨by decide, by decide, rfl⟩ ⟨Nat.le_of_ble_eq_true rfl, Nat.le_of_ble_eq_true rfl⟩ ⟨Nat.zero_le _, Nat.zero_le _⟩ hl.1 rfl (Nat.le_of_ble_eq_true rfl) dX8_number_1 (fun u2 H locs h3 hP hD hS => ?_)
  have hP : va_P D vwCl [(z 0, .inr (8, [.ref (z 1), .int (nI L), .ref (z 2), .ref (z 3), .ref (z 4), .ref (z 5), .int (nI kn), .ref (z 6), .ref (z 7), .ref (z 8), .int (nI no), .int (nI (tn_e tx L at_)), .int (nI (mo_s tx L at_)), .int (nI (tn_s tx L at_)), .int (nI (mo_w tx L at_)), .ref (z 9)])), (z 1, .inl (k.1 0, 160, .inl (ta_e tx)))] H := hP
  have hD : va_D A [(z 0, .inr (8, [.ref (z 1), .int (nI L), .ref (z 2), .ref (z 3), .ref (z 4), .ref (z 5), .int (nI kn), .ref (z 6), .ref (z 7), .ref (z 8), .int (nI no), .int (nI (tn_e tx L at_)), .int (nI (mo_s tx L at_)), .int (nI (tn_s tx L at_)), .int (nI (mo_w tx L at_)), .ref (z 9)])), (z 1, .inl (k.1 0, 160, .inl (ta_e tx)))] := hD
  have hms4 : mo_s tx L at_ < 4 := by unfold mo_s; have h4 := tx_s4 tx L (tn_s tx L at_); split <;> omega
  have hmw := mo_wb hx0 hat
  refine lv_aload_n hx hb dX8_number_4 rfl (lv_at hl 0 rfl) ?_
  refine ta_get C hP 0 inlX8 rfl rfl 12 (by decide) tw_310 rfl dX8_number_5 ?_
  refine ta_iconst C 2 dX8_number_8 (by decide) ?_
  refine ta_cne C (a := mo_s tx L at_) (b := 2) (tgt := 28) (by omega) (by omega) dX8_number_9 (by decide) (fun c4 => ?_) (fun c4 => ?_)
  · refine ta_iconst C 0 dX8_number_28 (by decide) ?_
    exact ret _ () dX8_number_29 (by decide) (Or.inr ⟨fun h => by have h9 := ((mo_num hat hlh.2).mpr h).1; omega, rfl⟩) hP hD hS
  · refine lv_aload_n hx hb dX8_number_12 rfl (lv_at hl 0 rfl) ?_
    refine ta_get C hP 0 inlX8 rfl rfl 14 (by decide) tw_315 rfl dX8_number_13 ?_
    refine lv_iload_n hx hb dX8_number_16 rfl (lv_at hl 1 rfl) ?_
    refine lv_iload_n hx hb dX8_number_17 rfl (lv_at hl 2 rfl) ?_
    refine ta_callSi (As := [.int (nI (mo_w tx L at_)), .int (nI lo), .int (nI hi)]) (rest0 := []) (Wr := [(z 0, .inr (8, [.ref (z 1), .int (nI L), .ref (z 2), .ref (z 3), .ref (z 4), .ref (z 5), .int (nI kn), .ref (z 6), .ref (z 7), .ref (z 8), .int (nI no), .int (nI (tn_e tx L at_)), .int (nI (mo_s tx L at_)), .int (nI (tn_s tx L at_)), .int (nI (mo_w tx L at_)), .ref (z 9)])), (z 1, .inl (k.1 0, 160, .inl (ta_e tx)))]) C hP hD hS (c_X8_in_w l D k (mo_w tx L at_) lo hi (by omega) (by omega) (by omega)) [] [0, 1] rfl rfl (by decide) (by decide) (by decide) tw_159 tw_157 tw_5 tw_158 ⟨by decide, by decide, rfl⟩ ⟨Nat.le_of_ble_eq_true rfl, Nat.le_of_ble_eq_true rfl⟩ ⟨Nat.zero_le _, Nat.zero_le _⟩ hl.1 rfl (Nat.le_of_ble_eq_true rfl) dX8_number_18 (fun r5 u6 H locs h7 hP hD hS => ?_)
    rcases h7 with h0 | h0
    · obtain ⟨hi8, rfl⟩ := h0
      have hP : va_P D vwCl [(z 0, .inr (8, [.ref (z 1), .int (nI L), .ref (z 2), .ref (z 3), .ref (z 4), .ref (z 5), .int (nI kn), .ref (z 6), .ref (z 7), .ref (z 8), .int (nI no), .int (nI (tn_e tx L at_)), .int (nI (mo_s tx L at_)), .int (nI (tn_s tx L at_)), .int (nI (mo_w tx L at_)), .ref (z 9)])), (z 1, .inl (k.1 0, 160, .inl (ta_e tx)))] H := hP
      have hD : va_D A [(z 0, .inr (8, [.ref (z 1), .int (nI L), .ref (z 2), .ref (z 3), .ref (z 4), .ref (z 5), .int (nI kn), .ref (z 6), .ref (z 7), .ref (z 8), .int (nI no), .int (nI (tn_e tx L at_)), .int (nI (mo_s tx L at_)), .int (nI (tn_s tx L at_)), .int (nI (mo_w tx L at_)), .ref (z 9)])), (z 1, .inl (k.1 0, 160, .inl (ta_e tx)))] := hD
      refine lv_if_eq (tgt := 28) hx hb dX8_number_21 (by decide) (fun c9 => ?_) (fun c9 => ?_)
      · exact absurd c9 (by decide)
      · refine ta_iconst C 1 dX8_number_24 (by decide) ?_
        refine lv_goto (tgt := 29) hx hb dX8_number_25 (by decide) ?_
        exact ret _ () dX8_number_29 (by decide) (Or.inl ⟨(mo_num hat hlh.2).mp ⟨by omega, hi8⟩, mo_val hat hlh.2 ((mo_num hat hlh.2).mp ⟨by omega, hi8⟩), rfl⟩) hP hD hS
    · obtain ⟨hi10, rfl⟩ := h0
      have hP : va_P D vwCl [(z 0, .inr (8, [.ref (z 1), .int (nI L), .ref (z 2), .ref (z 3), .ref (z 4), .ref (z 5), .int (nI kn), .ref (z 6), .ref (z 7), .ref (z 8), .int (nI no), .int (nI (tn_e tx L at_)), .int (nI (mo_s tx L at_)), .int (nI (tn_s tx L at_)), .int (nI (mo_w tx L at_)), .ref (z 9)])), (z 1, .inl (k.1 0, 160, .inl (ta_e tx)))] H := hP
      have hD : va_D A [(z 0, .inr (8, [.ref (z 1), .int (nI L), .ref (z 2), .ref (z 3), .ref (z 4), .ref (z 5), .int (nI kn), .ref (z 6), .ref (z 7), .ref (z 8), .int (nI no), .int (nI (tn_e tx L at_)), .int (nI (mo_s tx L at_)), .int (nI (tn_s tx L at_)), .int (nI (mo_w tx L at_)), .ref (z 9)])), (z 1, .inl (k.1 0, 160, .inl (ta_e tx)))] := hD
      refine lv_if_eq (tgt := 28) hx hb dX8_number_21 (by decide) (fun c11 => ?_) (fun c11 => ?_)
      · refine ta_iconst C 0 dX8_number_28 (by decide) ?_
        exact ret _ () dX8_number_29 (by decide) (Or.inr ⟨fun h => hi10 ((mo_num hat hlh.2).mpr h).2, rfl⟩) hP hD hS
      · exact absurd c11 (by decide)

set_option maxHeartbeats 4000000 in
set_option maxRecDepth 100000 in
theorem c_X8_isWord_0 (l : Launch) (D : va_G) (k : ta_C) (z : Nat → Nat) (kn : Nat) (no : Nat) (va : Nat) (L : Nat) (tx : Nat → Nat) (p0 : Nat) (hx0 : tx_ok tx L) (hp0 : p0 ≤ L) : ta_Mi (S := Unit) l D k yX8_isWord cX8_isWord 10 .boolean 0 0 [.ref (z 0), .int (nI 103), .int (nI 114), .int (nI 111), .int (nI 117), .int (nI 110), .int (nI 100)] [(z 0, .inr (8, [.ref (z 1), .int (nI L), .ref (z 2), .ref (z 3), .ref (z 4), .ref (z 5), .int (nI kn), .ref (z 6), .ref (z 7), .ref (z 8), .int (nI no), .int (nI (tn_e tx L p0)), .int (nI (mo_s tx L p0)), .int (nI (tn_s tx L p0)), .int (nI va), .ref (z 9)])), (z 1, .inl (k.1 0, 160, .inl (ta_e tx)))] (fun r _ => (tk_is tx (tn_s tx L p0) (tn_e tx L p0) 0 ∧ r = nI 1) ∨ (¬ tk_is tx (tn_s tx L p0) (tn_e tx L p0) 0 ∧ r = nI 0)) (fun u => [(z 0, .inr (8, [.ref (z 1), .int (nI L), .ref (z 2), .ref (z 3), .ref (z 4), .ref (z 5), .int (nI kn), .ref (z 6), .ref (z 7), .ref (z 8), .int (nI no), .int (nI (tn_e tx L p0)), .int (nI (mo_s tx L p0)), .int (nI (tn_s tx L p0)), .int (nI va), .ref (z 9)])), (z 1, .inl (k.1 0, 160, .inl (ta_e tx)))]) := by
  refine ta_enter_i (by decide) (Nat.le_of_ble_eq_true rfl) ?_
  intro p e s m below meth c A ls Q C ret hP hD hS hl
  have C : ta_At p l D k s m ([.ref (z 0), .int (nI 103), .int (nI 114), .int (nI 111), .int (nI 117), .int (nI 110), .int (nI 100)] : List Value).toArray c RX8 cX8_isWord 10 A := C
  have hx := C.1.1
  have hb := C.1.2.1
  have hl : lv_has ls 10 [(0, .ref (z 0)), (1, .int (nI 103)), (2, .int (nI 114)), (3, .int (nI 111)), (4, .int (nI 117)), (5, .int (nI 110)), (6, .int (nI 100))] := hl
  obtain ⟨H, hH⟩ : ∃ H, H = s.heap := ⟨_, rfl⟩
  obtain ⟨locs, hlocs⟩ : ∃ q : List Loc, q = [] := ⟨_, rfl⟩
  have hP : va_P D vwCl [(z 0, .inr (8, [.ref (z 1), .int (nI L), .ref (z 2), .ref (z 3), .ref (z 4), .ref (z 5), .int (nI kn), .ref (z 6), .ref (z 7), .ref (z 8), .int (nI no), .int (nI (tn_e tx L p0)), .int (nI (mo_s tx L p0)), .int (nI (tn_s tx L p0)), .int (nI va), .ref (z 9)])), (z 1, .inl (k.1 0, 160, .inl (ta_e tx)))] H := by rw [hH]; exact hP
  have hS : va_S A s.heap H locs := by rw [hH, hlocs]; exact hS
  rw [← hlocs]
  suffices hgoal : W p l e ({ frames := 0, cells := 0, slots := 0, locals := 0 }) s m ([.ref (z 0), .int (nI 103), .int (nI 114), .int (nI 111), .int (nI 117), .int (nI 110), .int (nI 100)] : List Value).toArray below meth c H locs 0 0 Q (F0 m 0 ls []) by rw [hH] at hgoal; exact hgoal
  clear hH hlocs
  obtain ⟨hL, hc⟩ := id hx0
  obtain ⟨b1, b2, b3, b4⟩ := tn_b (tx := tx) hp0
  have hms4 : mo_s tx L p0 < 4 := by unfold mo_s; have h4 := tx_s4 tx L (tn_s tx L p0); split <;> omega
  refine lv_aload_n hx hb dX8_isWord_0 rfl (lv_at hl 0 rfl) ?_
  refine ta_get C hP 0 inlX8 rfl rfl 12 (by decide) tw_310 rfl dX8_isWord_1 ?_
  refine ta_iconst C 1 dX8_isWord_4 (by decide) ?_
  refine ta_cne C (a := mo_s tx L p0) (b := 1) (tgt := 26) (by omega) (by omega) dX8_isWord_5 (by decide) (fun c1 => ?_) (fun c1 => ?_)
  · refine ta_iconst C 0 dX8_isWord_26 (by decide) ?_
    refine lv_istore (lv' := [(7, .int (nI 0)), (0, .ref (z 0)), (1, .int (nI 103)), (2, .int (nI 114)), (3, .int (nI 111)), (4, .int (nI 117)), (5, .int (nI 110)), (6, .int (nI 100))]) hx hb dX8_isWord_27 hl (by decide) rfl (fun ls hl => ?_)
    refine ta_iconst C 0 dX8_isWord_29 (by decide) ?_
    refine lv_istore (lv' := [(8, .int (nI 0)), (7, .int (nI 0)), (0, .ref (z 0)), (1, .int (nI 103)), (2, .int (nI 114)), (3, .int (nI 111)), (4, .int (nI 117)), (5, .int (nI 110)), (6, .int (nI 100))]) hx hb dX8_isWord_30 hl (by decide) rfl (fun ls hl => ?_)
    refine lv_iload hx hb dX8_isWord_32 (lv_at hl 0 rfl) ?_
    refine ta_bipush C 6 dX8_isWord_34 (by decide) ?_
    refine lv_icmp_ge (tgt := 156) hx hb dX8_isWord_36 (by decide) (fun c2 => ?_) (fun c2 => ?_)
    · exact absurd c2 (by decide)
    · refine lv_iload hx hb dX8_isWord_39 (lv_at hl 1 rfl) ?_
      refine lv_if_eq (tgt := 156) hx hb dX8_isWord_41 (by decide) (fun c3 => ?_) (fun c3 => ?_)
      · refine lv_iload hx hb dX8_isWord_156 (lv_at hl 1 rfl) ?_
        have hnw : ¬ tk_is tx (tn_s tx L p0) (tn_e tx L p0) 0 := fun h => by have h9 := mo_is1 (i := 0) (by decide) hp0 h; omega
        exact ret _ () dX8_isWord_158 (by decide) (Or.inr ⟨hnw, rfl⟩) hP hD hS
      · exact absurd c3 (by decide)
  · have hrow := mo_row c1
    refine lv_aload_n hx hb dX8_isWord_8 rfl (lv_at hl 0 rfl) ?_
    refine ta_get C hP 0 inlX8 rfl rfl 11 (by decide) tw_309 rfl dX8_isWord_9 ?_
    refine lv_aload_n hx hb dX8_isWord_12 rfl (lv_at hl 0 rfl) ?_
    refine ta_get C hP 0 inlX8 rfl rfl 13 (by decide) tw_304 rfl dX8_isWord_13 ?_
    refine ta_isub C (a := tn_e tx L p0) (b := tn_s tx L p0) (by omega) dX8_isWord_16 ?_
    refine ta_bipush C 7 dX8_isWord_17 (by decide) ?_
    refine ta_cge C (a := (tn_e tx L p0) - (tn_s tx L p0)) (b := 7) (tgt := 26) (by omega) (by omega) dX8_isWord_19 (by decide) (fun c4 => ?_) (fun c4 => ?_)
    · refine ta_iconst C 0 dX8_isWord_26 (by decide) ?_
      refine lv_istore (lv' := [(7, .int (nI 0)), (0, .ref (z 0)), (1, .int (nI 103)), (2, .int (nI 114)), (3, .int (nI 111)), (4, .int (nI 117)), (5, .int (nI 110)), (6, .int (nI 100))]) hx hb dX8_isWord_27 hl (by decide) rfl (fun ls hl => ?_)
      refine ta_iconst C 0 dX8_isWord_29 (by decide) ?_
      refine lv_istore (lv' := [(8, .int (nI 0)), (7, .int (nI 0)), (0, .ref (z 0)), (1, .int (nI 103)), (2, .int (nI 114)), (3, .int (nI 111)), (4, .int (nI 117)), (5, .int (nI 110)), (6, .int (nI 100))]) hx hb dX8_isWord_30 hl (by decide) rfl (fun ls hl => ?_)
      refine lv_iload hx hb dX8_isWord_32 (lv_at hl 0 rfl) ?_
      refine ta_bipush C 6 dX8_isWord_34 (by decide) ?_
      refine lv_icmp_ge (tgt := 156) hx hb dX8_isWord_36 (by decide) (fun c5 => ?_) (fun c5 => ?_)
      · exact absurd c5 (by decide)
      · refine lv_iload hx hb dX8_isWord_39 (lv_at hl 1 rfl) ?_
        refine lv_if_eq (tgt := 156) hx hb dX8_isWord_41 (by decide) (fun c6 => ?_) (fun c6 => ?_)
        · refine lv_iload hx hb dX8_isWord_156 (lv_at hl 1 rfl) ?_
          have hnw : ¬ tk_is tx (tn_s tx L p0) (tn_e tx L p0) 0 := fun h => by have h9 : tn_e tx L p0 - tn_s tx L p0 = 6 := h.1; omega
          exact ret _ () dX8_isWord_158 (by decide) (Or.inr ⟨hnw, rfl⟩) hP hD hS
        · exact absurd c6 (by decide)
    · refine ta_iconst C 1 dX8_isWord_22 (by decide) ?_
      refine lv_goto (tgt := 27) hx hb dX8_isWord_23 (by decide) ?_
      refine lv_istore (lv' := [(7, .int (nI 1)), (0, .ref (z 0)), (1, .int (nI 103)), (2, .int (nI 114)), (3, .int (nI 111)), (4, .int (nI 117)), (5, .int (nI 110)), (6, .int (nI 100))]) hx hb dX8_isWord_27 hl (by decide) rfl (fun ls hl => ?_)
      refine ta_iconst C 0 dX8_isWord_29 (by decide) ?_
      refine lv_istore (lv' := [(8, .int (nI 0)), (7, .int (nI 1)), (0, .ref (z 0)), (1, .int (nI 103)), (2, .int (nI 114)), (3, .int (nI 111)), (4, .int (nI 117)), (5, .int (nI 110)), (6, .int (nI 100))]) hx hb dX8_isWord_30 hl (by decide) rfl (fun ls hl => ?_)
      refine lv_iload hx hb dX8_isWord_32 (lv_at hl 0 rfl) ?_
      refine ta_bipush C 6 dX8_isWord_34 (by decide) ?_
      refine lv_icmp_ge (tgt := 156) hx hb dX8_isWord_36 (by decide) (fun c7 => ?_) (fun c7 => ?_)
      · exact absurd c7 (by decide)
      · refine lv_iload hx hb dX8_isWord_39 (lv_at hl 1 rfl) ?_
        refine lv_if_eq (tgt := 156) hx hb dX8_isWord_41 (by decide) (fun c8 => ?_) (fun c8 => ?_)
        · exact absurd c8 (by decide)
        · refine lv_iload hx hb dX8_isWord_44 (lv_at hl 0 rfl) ?_
          refine lv_if_ne (tgt := 53) hx hb dX8_isWord_46 (by decide) (fun c9 => ?_) (fun c9 => ?_)
          · exact absurd c9 (by decide)
          · refine lv_iload_n hx hb dX8_isWord_49 rfl (lv_at hl 3 rfl) ?_
            refine lv_goto (tgt := 97) hx hb dX8_isWord_50 (by decide) ?_
            refine lv_istore (lv' := [(9, .int (nI 103)), (8, .int (nI 0)), (7, .int (nI 1)), (0, .ref (z 0)), (1, .int (nI 103)), (2, .int (nI 114)), (3, .int (nI 111)), (4, .int (nI 117)), (5, .int (nI 110)), (6, .int (nI 100))]) hx hb dX8_isWord_97 hl (by decide) rfl (fun ls hl => ?_)
            refine lv_aload_n hx hb dX8_isWord_99 rfl (lv_at hl 3 rfl) ?_
            refine ta_get C hP 0 inlX8 rfl rfl 13 (by decide) tw_304 rfl dX8_isWord_100 ?_
            refine lv_iload hx hb dX8_isWord_103 (lv_at hl 1 rfl) ?_
            refine ta_iadd C (a := tn_s tx L p0) (b := 0) dX8_isWord_105 ?_
            refine lv_aload_n hx hb dX8_isWord_106 rfl (lv_at hl 3 rfl) ?_
            refine ta_get C hP 0 inlX8 rfl rfl 11 (by decide) tw_309 rfl dX8_isWord_107 ?_
            refine ta_cge C (a := (tn_s tx L p0) + 0) (b := tn_e tx L p0) (tgt := 138) (by omega) (by omega) dX8_isWord_110 (by decide) (fun c10 => ?_) (fun c10 => ?_)
            · refine lv_iload hx hb dX8_isWord_138 (lv_at hl 0 rfl) ?_
              refine lv_if_ne (tgt := 147) hx hb dX8_isWord_140 (by decide) (fun c11 => ?_) (fun c11 => ?_)
              · refine ta_iconst C 0 dX8_isWord_147 (by decide) ?_
                refine lv_istore (lv' := [(7, .int (nI 0)), (9, .int (nI 103)), (8, .int (nI 0)), (0, .ref (z 0)), (1, .int (nI 103)), (2, .int (nI 114)), (3, .int (nI 111)), (4, .int (nI 117)), (5, .int (nI 110)), (6, .int (nI 100))]) hx hb dX8_isWord_148 hl (by decide) rfl (fun ls hl => ?_)
                refine lv_iinc (v := nI 1) (lv' := [(8, .int (nI 1)), (7, .int (nI 0)), (9, .int (nI 103)), (0, .ref (z 0)), (1, .int (nI 103)), (2, .int (nI 114)), (3, .int (nI 111)), (4, .int (nI 117)), (5, .int (nI 110)), (6, .int (nI 100))]) hx hb dX8_isWord_150 hl (k := 2) rfl (by decide) (by decide) rfl (fun ls hl => ?_)
                refine lv_goto (tgt := 32) hx hb dX8_isWord_153 (by decide) ?_
                refine lv_iload hx hb dX8_isWord_32 (lv_at hl 0 rfl) ?_
                refine ta_bipush C 6 dX8_isWord_34 (by decide) ?_
                refine lv_icmp_ge (tgt := 156) hx hb dX8_isWord_36 (by decide) (fun c12 => ?_) (fun c12 => ?_)
                · exact absurd c12 (by decide)
                · refine lv_iload hx hb dX8_isWord_39 (lv_at hl 1 rfl) ?_
                  refine lv_if_eq (tgt := 156) hx hb dX8_isWord_41 (by decide) (fun c13 => ?_) (fun c13 => ?_)
                  · refine lv_iload hx hb dX8_isWord_156 (lv_at hl 1 rfl) ?_
                    have hnw : ¬ tk_is tx (tn_s tx L p0) (tn_e tx L p0) 0 := by
                      intro h
                      have h9 : tn_e tx L p0 - tn_s tx L p0 = 6 := h.1
                      have h8 : tx (tn_s tx L p0 + 0) = 103 := h.2 0 (by decide)
                      omega
                    exact ret _ () dX8_isWord_158 (by decide) (Or.inr ⟨hnw, rfl⟩) hP hD hS
                  · exact absurd c13 (by decide)
              · exact absurd c11 (by decide)
            · have hr0 := hrow (tn_s tx L p0 + 0) (by omega) (by omega)
              refine lv_aload_n hx hb dX8_isWord_113 rfl (lv_at hl 3 rfl) ?_
              refine ta_get C hP 0 inlX8 rfl rfl 0 (by decide) tw_125 rfl dX8_isWord_114 ?_
              refine lv_aload_n hx hb dX8_isWord_117 rfl (lv_at hl 3 rfl) ?_
              refine ta_get C hP 0 inlX8 rfl rfl 13 (by decide) tw_304 rfl dX8_isWord_118 ?_
              refine lv_iload hx hb dX8_isWord_121 (lv_at hl 1 rfl) ?_
              refine ta_iadd C (a := tn_s tx L p0) (b := 0) dX8_isWord_123 ?_
              refine ta_iald C hP 1 rfl (i := (tn_s tx L p0) + 0) (by omega) dX8_isWord_124 ?_
              refine lv_iload hx hb dX8_isWord_125 (lv_at hl 0 rfl) ?_
              refine ta_cne C (a := tx ((tn_s tx L p0) + 0)) (b := 103) (tgt := 134) (by omega) (by omega) dX8_isWord_127 (by decide) (fun c14 => ?_) (fun c14 => ?_)
              · refine ta_iconst C 0 dX8_isWord_134 (by decide) ?_
                refine lv_goto (tgt := 148) hx hb dX8_isWord_135 (by decide) ?_
                refine lv_istore (lv' := [(7, .int (nI 0)), (9, .int (nI 103)), (8, .int (nI 0)), (0, .ref (z 0)), (1, .int (nI 103)), (2, .int (nI 114)), (3, .int (nI 111)), (4, .int (nI 117)), (5, .int (nI 110)), (6, .int (nI 100))]) hx hb dX8_isWord_148 hl (by decide) rfl (fun ls hl => ?_)
                refine lv_iinc (v := nI 1) (lv' := [(8, .int (nI 1)), (7, .int (nI 0)), (9, .int (nI 103)), (0, .ref (z 0)), (1, .int (nI 103)), (2, .int (nI 114)), (3, .int (nI 111)), (4, .int (nI 117)), (5, .int (nI 110)), (6, .int (nI 100))]) hx hb dX8_isWord_150 hl (k := 2) rfl (by decide) (by decide) rfl (fun ls hl => ?_)
                refine lv_goto (tgt := 32) hx hb dX8_isWord_153 (by decide) ?_
                refine lv_iload hx hb dX8_isWord_32 (lv_at hl 0 rfl) ?_
                refine ta_bipush C 6 dX8_isWord_34 (by decide) ?_
                refine lv_icmp_ge (tgt := 156) hx hb dX8_isWord_36 (by decide) (fun c15 => ?_) (fun c15 => ?_)
                · exact absurd c15 (by decide)
                · refine lv_iload hx hb dX8_isWord_39 (lv_at hl 1 rfl) ?_
                  refine lv_if_eq (tgt := 156) hx hb dX8_isWord_41 (by decide) (fun c16 => ?_) (fun c16 => ?_)
                  · refine lv_iload hx hb dX8_isWord_156 (lv_at hl 1 rfl) ?_
                    have hnw : ¬ tk_is tx (tn_s tx L p0) (tn_e tx L p0) 0 := by
                      intro h
                      have h9 : tn_e tx L p0 - tn_s tx L p0 = 6 := h.1
                      have h8 : tx (tn_s tx L p0 + 0) = 103 := h.2 0 (by decide)
                      omega
                    exact ret _ () dX8_isWord_158 (by decide) (Or.inr ⟨hnw, rfl⟩) hP hD hS
                  · exact absurd c16 (by decide)
              · refine ta_iconst C 1 dX8_isWord_130 (by decide) ?_
                refine lv_goto (tgt := 148) hx hb dX8_isWord_131 (by decide) ?_
                refine lv_istore (lv' := [(7, .int (nI 1)), (9, .int (nI 103)), (8, .int (nI 0)), (0, .ref (z 0)), (1, .int (nI 103)), (2, .int (nI 114)), (3, .int (nI 111)), (4, .int (nI 117)), (5, .int (nI 110)), (6, .int (nI 100))]) hx hb dX8_isWord_148 hl (by decide) rfl (fun ls hl => ?_)
                refine lv_iinc (v := nI 1) (lv' := [(8, .int (nI 1)), (7, .int (nI 1)), (9, .int (nI 103)), (0, .ref (z 0)), (1, .int (nI 103)), (2, .int (nI 114)), (3, .int (nI 111)), (4, .int (nI 117)), (5, .int (nI 110)), (6, .int (nI 100))]) hx hb dX8_isWord_150 hl (k := 2) rfl (by decide) (by decide) rfl (fun ls hl => ?_)
                refine lv_goto (tgt := 32) hx hb dX8_isWord_153 (by decide) ?_
                refine lv_iload hx hb dX8_isWord_32 (lv_at hl 0 rfl) ?_
                refine ta_bipush C 6 dX8_isWord_34 (by decide) ?_
                refine lv_icmp_ge (tgt := 156) hx hb dX8_isWord_36 (by decide) (fun c17 => ?_) (fun c17 => ?_)
                · exact absurd c17 (by decide)
                · refine lv_iload hx hb dX8_isWord_39 (lv_at hl 1 rfl) ?_
                  refine lv_if_eq (tgt := 156) hx hb dX8_isWord_41 (by decide) (fun c18 => ?_) (fun c18 => ?_)
                  · exact absurd c18 (by decide)
                  · refine lv_iload hx hb dX8_isWord_44 (lv_at hl 0 rfl) ?_
                    refine lv_if_ne (tgt := 53) hx hb dX8_isWord_46 (by decide) (fun c19 => ?_) (fun c19 => ?_)
                    · refine lv_iload hx hb dX8_isWord_53 (lv_at hl 0 rfl) ?_
                      refine ta_iconst C 1 dX8_isWord_55 (by decide) ?_
                      refine lv_icmp_ne (tgt := 63) hx hb dX8_isWord_56 (by decide) (fun c20 => ?_) (fun c20 => ?_)
                      · exact absurd c20 (by decide)
                      · refine lv_iload_n hx hb dX8_isWord_59 rfl (lv_at hl 5 rfl) ?_
                        refine lv_goto (tgt := 97) hx hb dX8_isWord_60 (by decide) ?_
                        refine lv_istore (lv' := [(9, .int (nI 114)), (8, .int (nI 1)), (7, .int (nI 1)), (0, .ref (z 0)), (1, .int (nI 103)), (2, .int (nI 114)), (3, .int (nI 111)), (4, .int (nI 117)), (5, .int (nI 110)), (6, .int (nI 100))]) hx hb dX8_isWord_97 hl (by decide) rfl (fun ls hl => ?_)
                        refine lv_aload_n hx hb dX8_isWord_99 rfl (lv_at hl 3 rfl) ?_
                        refine ta_get C hP 0 inlX8 rfl rfl 13 (by decide) tw_304 rfl dX8_isWord_100 ?_
                        refine lv_iload hx hb dX8_isWord_103 (lv_at hl 1 rfl) ?_
                        refine ta_iadd C (a := tn_s tx L p0) (b := 1) dX8_isWord_105 ?_
                        refine lv_aload_n hx hb dX8_isWord_106 rfl (lv_at hl 3 rfl) ?_
                        refine ta_get C hP 0 inlX8 rfl rfl 11 (by decide) tw_309 rfl dX8_isWord_107 ?_
                        refine ta_cge C (a := (tn_s tx L p0) + 1) (b := tn_e tx L p0) (tgt := 138) (by omega) (by omega) dX8_isWord_110 (by decide) (fun c21 => ?_) (fun c21 => ?_)
                        · refine lv_iload hx hb dX8_isWord_138 (lv_at hl 0 rfl) ?_
                          refine lv_if_ne (tgt := 147) hx hb dX8_isWord_140 (by decide) (fun c22 => ?_) (fun c22 => ?_)
                          · refine ta_iconst C 0 dX8_isWord_147 (by decide) ?_
                            refine lv_istore (lv' := [(7, .int (nI 0)), (9, .int (nI 114)), (8, .int (nI 1)), (0, .ref (z 0)), (1, .int (nI 103)), (2, .int (nI 114)), (3, .int (nI 111)), (4, .int (nI 117)), (5, .int (nI 110)), (6, .int (nI 100))]) hx hb dX8_isWord_148 hl (by decide) rfl (fun ls hl => ?_)
                            refine lv_iinc (v := nI 2) (lv' := [(8, .int (nI 2)), (7, .int (nI 0)), (9, .int (nI 114)), (0, .ref (z 0)), (1, .int (nI 103)), (2, .int (nI 114)), (3, .int (nI 111)), (4, .int (nI 117)), (5, .int (nI 110)), (6, .int (nI 100))]) hx hb dX8_isWord_150 hl (k := 2) rfl (by decide) (by decide) rfl (fun ls hl => ?_)
                            refine lv_goto (tgt := 32) hx hb dX8_isWord_153 (by decide) ?_
                            refine lv_iload hx hb dX8_isWord_32 (lv_at hl 0 rfl) ?_
                            refine ta_bipush C 6 dX8_isWord_34 (by decide) ?_
                            refine lv_icmp_ge (tgt := 156) hx hb dX8_isWord_36 (by decide) (fun c23 => ?_) (fun c23 => ?_)
                            · exact absurd c23 (by decide)
                            · refine lv_iload hx hb dX8_isWord_39 (lv_at hl 1 rfl) ?_
                              refine lv_if_eq (tgt := 156) hx hb dX8_isWord_41 (by decide) (fun c24 => ?_) (fun c24 => ?_)
                              · refine lv_iload hx hb dX8_isWord_156 (lv_at hl 1 rfl) ?_
                                have hnw : ¬ tk_is tx (tn_s tx L p0) (tn_e tx L p0) 0 := by
                                  intro h
                                  have h9 : tn_e tx L p0 - tn_s tx L p0 = 6 := h.1
                                  have h8 : tx (tn_s tx L p0 + 1) = 114 := h.2 1 (by decide)
                                  omega
                                exact ret _ () dX8_isWord_158 (by decide) (Or.inr ⟨hnw, rfl⟩) hP hD hS
                              · exact absurd c24 (by decide)
                          · exact absurd c22 (by decide)
                        · have hr1 := hrow (tn_s tx L p0 + 1) (by omega) (by omega)
                          refine lv_aload_n hx hb dX8_isWord_113 rfl (lv_at hl 3 rfl) ?_
                          refine ta_get C hP 0 inlX8 rfl rfl 0 (by decide) tw_125 rfl dX8_isWord_114 ?_
                          refine lv_aload_n hx hb dX8_isWord_117 rfl (lv_at hl 3 rfl) ?_
                          refine ta_get C hP 0 inlX8 rfl rfl 13 (by decide) tw_304 rfl dX8_isWord_118 ?_
                          refine lv_iload hx hb dX8_isWord_121 (lv_at hl 1 rfl) ?_
                          refine ta_iadd C (a := tn_s tx L p0) (b := 1) dX8_isWord_123 ?_
                          refine ta_iald C hP 1 rfl (i := (tn_s tx L p0) + 1) (by omega) dX8_isWord_124 ?_
                          refine lv_iload hx hb dX8_isWord_125 (lv_at hl 0 rfl) ?_
                          refine ta_cne C (a := tx ((tn_s tx L p0) + 1)) (b := 114) (tgt := 134) (by omega) (by omega) dX8_isWord_127 (by decide) (fun c25 => ?_) (fun c25 => ?_)
                          · refine ta_iconst C 0 dX8_isWord_134 (by decide) ?_
                            refine lv_goto (tgt := 148) hx hb dX8_isWord_135 (by decide) ?_
                            refine lv_istore (lv' := [(7, .int (nI 0)), (9, .int (nI 114)), (8, .int (nI 1)), (0, .ref (z 0)), (1, .int (nI 103)), (2, .int (nI 114)), (3, .int (nI 111)), (4, .int (nI 117)), (5, .int (nI 110)), (6, .int (nI 100))]) hx hb dX8_isWord_148 hl (by decide) rfl (fun ls hl => ?_)
                            refine lv_iinc (v := nI 2) (lv' := [(8, .int (nI 2)), (7, .int (nI 0)), (9, .int (nI 114)), (0, .ref (z 0)), (1, .int (nI 103)), (2, .int (nI 114)), (3, .int (nI 111)), (4, .int (nI 117)), (5, .int (nI 110)), (6, .int (nI 100))]) hx hb dX8_isWord_150 hl (k := 2) rfl (by decide) (by decide) rfl (fun ls hl => ?_)
                            refine lv_goto (tgt := 32) hx hb dX8_isWord_153 (by decide) ?_
                            refine lv_iload hx hb dX8_isWord_32 (lv_at hl 0 rfl) ?_
                            refine ta_bipush C 6 dX8_isWord_34 (by decide) ?_
                            refine lv_icmp_ge (tgt := 156) hx hb dX8_isWord_36 (by decide) (fun c26 => ?_) (fun c26 => ?_)
                            · exact absurd c26 (by decide)
                            · refine lv_iload hx hb dX8_isWord_39 (lv_at hl 1 rfl) ?_
                              refine lv_if_eq (tgt := 156) hx hb dX8_isWord_41 (by decide) (fun c27 => ?_) (fun c27 => ?_)
                              · refine lv_iload hx hb dX8_isWord_156 (lv_at hl 1 rfl) ?_
                                have hnw : ¬ tk_is tx (tn_s tx L p0) (tn_e tx L p0) 0 := by
                                  intro h
                                  have h9 : tn_e tx L p0 - tn_s tx L p0 = 6 := h.1
                                  have h8 : tx (tn_s tx L p0 + 1) = 114 := h.2 1 (by decide)
                                  omega
                                exact ret _ () dX8_isWord_158 (by decide) (Or.inr ⟨hnw, rfl⟩) hP hD hS
                              · exact absurd c27 (by decide)
                          · refine ta_iconst C 1 dX8_isWord_130 (by decide) ?_
                            refine lv_goto (tgt := 148) hx hb dX8_isWord_131 (by decide) ?_
                            refine lv_istore (lv' := [(7, .int (nI 1)), (9, .int (nI 114)), (8, .int (nI 1)), (0, .ref (z 0)), (1, .int (nI 103)), (2, .int (nI 114)), (3, .int (nI 111)), (4, .int (nI 117)), (5, .int (nI 110)), (6, .int (nI 100))]) hx hb dX8_isWord_148 hl (by decide) rfl (fun ls hl => ?_)
                            refine lv_iinc (v := nI 2) (lv' := [(8, .int (nI 2)), (7, .int (nI 1)), (9, .int (nI 114)), (0, .ref (z 0)), (1, .int (nI 103)), (2, .int (nI 114)), (3, .int (nI 111)), (4, .int (nI 117)), (5, .int (nI 110)), (6, .int (nI 100))]) hx hb dX8_isWord_150 hl (k := 2) rfl (by decide) (by decide) rfl (fun ls hl => ?_)
                            refine lv_goto (tgt := 32) hx hb dX8_isWord_153 (by decide) ?_
                            refine lv_iload hx hb dX8_isWord_32 (lv_at hl 0 rfl) ?_
                            refine ta_bipush C 6 dX8_isWord_34 (by decide) ?_
                            refine lv_icmp_ge (tgt := 156) hx hb dX8_isWord_36 (by decide) (fun c28 => ?_) (fun c28 => ?_)
                            · exact absurd c28 (by decide)
                            · refine lv_iload hx hb dX8_isWord_39 (lv_at hl 1 rfl) ?_
                              refine lv_if_eq (tgt := 156) hx hb dX8_isWord_41 (by decide) (fun c29 => ?_) (fun c29 => ?_)
                              · exact absurd c29 (by decide)
                              · refine lv_iload hx hb dX8_isWord_44 (lv_at hl 0 rfl) ?_
                                refine lv_if_ne (tgt := 53) hx hb dX8_isWord_46 (by decide) (fun c30 => ?_) (fun c30 => ?_)
                                · refine lv_iload hx hb dX8_isWord_53 (lv_at hl 0 rfl) ?_
                                  refine ta_iconst C 1 dX8_isWord_55 (by decide) ?_
                                  refine lv_icmp_ne (tgt := 63) hx hb dX8_isWord_56 (by decide) (fun c31 => ?_) (fun c31 => ?_)
                                  · refine lv_iload hx hb dX8_isWord_63 (lv_at hl 0 rfl) ?_
                                    refine ta_iconst C 2 dX8_isWord_65 (by decide) ?_
                                    refine lv_icmp_ne (tgt := 73) hx hb dX8_isWord_66 (by decide) (fun c32 => ?_) (fun c32 => ?_)
                                    · exact absurd c32 (by decide)
                                    · refine lv_iload_n hx hb dX8_isWord_69 rfl (lv_at hl 6 rfl) ?_
                                      refine lv_goto (tgt := 97) hx hb dX8_isWord_70 (by decide) ?_
                                      refine lv_istore (lv' := [(9, .int (nI 111)), (8, .int (nI 2)), (7, .int (nI 1)), (0, .ref (z 0)), (1, .int (nI 103)), (2, .int (nI 114)), (3, .int (nI 111)), (4, .int (nI 117)), (5, .int (nI 110)), (6, .int (nI 100))]) hx hb dX8_isWord_97 hl (by decide) rfl (fun ls hl => ?_)
                                      refine lv_aload_n hx hb dX8_isWord_99 rfl (lv_at hl 3 rfl) ?_
                                      refine ta_get C hP 0 inlX8 rfl rfl 13 (by decide) tw_304 rfl dX8_isWord_100 ?_
                                      refine lv_iload hx hb dX8_isWord_103 (lv_at hl 1 rfl) ?_
                                      refine ta_iadd C (a := tn_s tx L p0) (b := 2) dX8_isWord_105 ?_
                                      refine lv_aload_n hx hb dX8_isWord_106 rfl (lv_at hl 3 rfl) ?_
                                      refine ta_get C hP 0 inlX8 rfl rfl 11 (by decide) tw_309 rfl dX8_isWord_107 ?_
                                      refine ta_cge C (a := (tn_s tx L p0) + 2) (b := tn_e tx L p0) (tgt := 138) (by omega) (by omega) dX8_isWord_110 (by decide) (fun c33 => ?_) (fun c33 => ?_)
                                      · refine lv_iload hx hb dX8_isWord_138 (lv_at hl 0 rfl) ?_
                                        refine lv_if_ne (tgt := 147) hx hb dX8_isWord_140 (by decide) (fun c34 => ?_) (fun c34 => ?_)
                                        · refine ta_iconst C 0 dX8_isWord_147 (by decide) ?_
                                          refine lv_istore (lv' := [(7, .int (nI 0)), (9, .int (nI 111)), (8, .int (nI 2)), (0, .ref (z 0)), (1, .int (nI 103)), (2, .int (nI 114)), (3, .int (nI 111)), (4, .int (nI 117)), (5, .int (nI 110)), (6, .int (nI 100))]) hx hb dX8_isWord_148 hl (by decide) rfl (fun ls hl => ?_)
                                          refine lv_iinc (v := nI 3) (lv' := [(8, .int (nI 3)), (7, .int (nI 0)), (9, .int (nI 111)), (0, .ref (z 0)), (1, .int (nI 103)), (2, .int (nI 114)), (3, .int (nI 111)), (4, .int (nI 117)), (5, .int (nI 110)), (6, .int (nI 100))]) hx hb dX8_isWord_150 hl (k := 2) rfl (by decide) (by decide) rfl (fun ls hl => ?_)
                                          refine lv_goto (tgt := 32) hx hb dX8_isWord_153 (by decide) ?_
                                          refine lv_iload hx hb dX8_isWord_32 (lv_at hl 0 rfl) ?_
                                          refine ta_bipush C 6 dX8_isWord_34 (by decide) ?_
                                          refine lv_icmp_ge (tgt := 156) hx hb dX8_isWord_36 (by decide) (fun c35 => ?_) (fun c35 => ?_)
                                          · exact absurd c35 (by decide)
                                          · refine lv_iload hx hb dX8_isWord_39 (lv_at hl 1 rfl) ?_
                                            refine lv_if_eq (tgt := 156) hx hb dX8_isWord_41 (by decide) (fun c36 => ?_) (fun c36 => ?_)
                                            · refine lv_iload hx hb dX8_isWord_156 (lv_at hl 1 rfl) ?_
                                              have hnw : ¬ tk_is tx (tn_s tx L p0) (tn_e tx L p0) 0 := by
                                                intro h
                                                have h9 : tn_e tx L p0 - tn_s tx L p0 = 6 := h.1
                                                have h8 : tx (tn_s tx L p0 + 2) = 111 := h.2 2 (by decide)
                                                omega
                                              exact ret _ () dX8_isWord_158 (by decide) (Or.inr ⟨hnw, rfl⟩) hP hD hS
                                            · exact absurd c36 (by decide)
                                        · exact absurd c34 (by decide)
                                      · have hr2 := hrow (tn_s tx L p0 + 2) (by omega) (by omega)
                                        refine lv_aload_n hx hb dX8_isWord_113 rfl (lv_at hl 3 rfl) ?_
                                        refine ta_get C hP 0 inlX8 rfl rfl 0 (by decide) tw_125 rfl dX8_isWord_114 ?_
                                        refine lv_aload_n hx hb dX8_isWord_117 rfl (lv_at hl 3 rfl) ?_
                                        refine ta_get C hP 0 inlX8 rfl rfl 13 (by decide) tw_304 rfl dX8_isWord_118 ?_
                                        refine lv_iload hx hb dX8_isWord_121 (lv_at hl 1 rfl) ?_
                                        refine ta_iadd C (a := tn_s tx L p0) (b := 2) dX8_isWord_123 ?_
                                        refine ta_iald C hP 1 rfl (i := (tn_s tx L p0) + 2) (by omega) dX8_isWord_124 ?_
                                        refine lv_iload hx hb dX8_isWord_125 (lv_at hl 0 rfl) ?_
                                        refine ta_cne C (a := tx ((tn_s tx L p0) + 2)) (b := 111) (tgt := 134) (by omega) (by omega) dX8_isWord_127 (by decide) (fun c37 => ?_) (fun c37 => ?_)
                                        · refine ta_iconst C 0 dX8_isWord_134 (by decide) ?_
                                          refine lv_goto (tgt := 148) hx hb dX8_isWord_135 (by decide) ?_
                                          refine lv_istore (lv' := [(7, .int (nI 0)), (9, .int (nI 111)), (8, .int (nI 2)), (0, .ref (z 0)), (1, .int (nI 103)), (2, .int (nI 114)), (3, .int (nI 111)), (4, .int (nI 117)), (5, .int (nI 110)), (6, .int (nI 100))]) hx hb dX8_isWord_148 hl (by decide) rfl (fun ls hl => ?_)
                                          refine lv_iinc (v := nI 3) (lv' := [(8, .int (nI 3)), (7, .int (nI 0)), (9, .int (nI 111)), (0, .ref (z 0)), (1, .int (nI 103)), (2, .int (nI 114)), (3, .int (nI 111)), (4, .int (nI 117)), (5, .int (nI 110)), (6, .int (nI 100))]) hx hb dX8_isWord_150 hl (k := 2) rfl (by decide) (by decide) rfl (fun ls hl => ?_)
                                          refine lv_goto (tgt := 32) hx hb dX8_isWord_153 (by decide) ?_
                                          refine lv_iload hx hb dX8_isWord_32 (lv_at hl 0 rfl) ?_
                                          refine ta_bipush C 6 dX8_isWord_34 (by decide) ?_
                                          refine lv_icmp_ge (tgt := 156) hx hb dX8_isWord_36 (by decide) (fun c38 => ?_) (fun c38 => ?_)
                                          · exact absurd c38 (by decide)
                                          · refine lv_iload hx hb dX8_isWord_39 (lv_at hl 1 rfl) ?_
                                            refine lv_if_eq (tgt := 156) hx hb dX8_isWord_41 (by decide) (fun c39 => ?_) (fun c39 => ?_)
                                            · refine lv_iload hx hb dX8_isWord_156 (lv_at hl 1 rfl) ?_
                                              have hnw : ¬ tk_is tx (tn_s tx L p0) (tn_e tx L p0) 0 := by
                                                intro h
                                                have h9 : tn_e tx L p0 - tn_s tx L p0 = 6 := h.1
                                                have h8 : tx (tn_s tx L p0 + 2) = 111 := h.2 2 (by decide)
                                                omega
                                              exact ret _ () dX8_isWord_158 (by decide) (Or.inr ⟨hnw, rfl⟩) hP hD hS
                                            · exact absurd c39 (by decide)
                                        · refine ta_iconst C 1 dX8_isWord_130 (by decide) ?_
                                          refine lv_goto (tgt := 148) hx hb dX8_isWord_131 (by decide) ?_
                                          refine lv_istore (lv' := [(7, .int (nI 1)), (9, .int (nI 111)), (8, .int (nI 2)), (0, .ref (z 0)), (1, .int (nI 103)), (2, .int (nI 114)), (3, .int (nI 111)), (4, .int (nI 117)), (5, .int (nI 110)), (6, .int (nI 100))]) hx hb dX8_isWord_148 hl (by decide) rfl (fun ls hl => ?_)
                                          refine lv_iinc (v := nI 3) (lv' := [(8, .int (nI 3)), (7, .int (nI 1)), (9, .int (nI 111)), (0, .ref (z 0)), (1, .int (nI 103)), (2, .int (nI 114)), (3, .int (nI 111)), (4, .int (nI 117)), (5, .int (nI 110)), (6, .int (nI 100))]) hx hb dX8_isWord_150 hl (k := 2) rfl (by decide) (by decide) rfl (fun ls hl => ?_)
                                          refine lv_goto (tgt := 32) hx hb dX8_isWord_153 (by decide) ?_
                                          refine lv_iload hx hb dX8_isWord_32 (lv_at hl 0 rfl) ?_
                                          refine ta_bipush C 6 dX8_isWord_34 (by decide) ?_
                                          refine lv_icmp_ge (tgt := 156) hx hb dX8_isWord_36 (by decide) (fun c40 => ?_) (fun c40 => ?_)
                                          · exact absurd c40 (by decide)
                                          · refine lv_iload hx hb dX8_isWord_39 (lv_at hl 1 rfl) ?_
                                            refine lv_if_eq (tgt := 156) hx hb dX8_isWord_41 (by decide) (fun c41 => ?_) (fun c41 => ?_)
                                            · exact absurd c41 (by decide)
                                            · refine lv_iload hx hb dX8_isWord_44 (lv_at hl 0 rfl) ?_
                                              refine lv_if_ne (tgt := 53) hx hb dX8_isWord_46 (by decide) (fun c42 => ?_) (fun c42 => ?_)
                                              · refine lv_iload hx hb dX8_isWord_53 (lv_at hl 0 rfl) ?_
                                                refine ta_iconst C 1 dX8_isWord_55 (by decide) ?_
                                                refine lv_icmp_ne (tgt := 63) hx hb dX8_isWord_56 (by decide) (fun c43 => ?_) (fun c43 => ?_)
                                                · refine lv_iload hx hb dX8_isWord_63 (lv_at hl 0 rfl) ?_
                                                  refine ta_iconst C 2 dX8_isWord_65 (by decide) ?_
                                                  refine lv_icmp_ne (tgt := 73) hx hb dX8_isWord_66 (by decide) (fun c44 => ?_) (fun c44 => ?_)
                                                  · refine lv_iload hx hb dX8_isWord_73 (lv_at hl 0 rfl) ?_
                                                    refine ta_iconst C 3 dX8_isWord_75 (by decide) ?_
                                                    refine lv_icmp_ne (tgt := 84) hx hb dX8_isWord_76 (by decide) (fun c45 => ?_) (fun c45 => ?_)
                                                    · exact absurd c45 (by decide)
                                                    · refine lv_iload hx hb dX8_isWord_79 (lv_at hl 7 rfl) ?_
                                                      refine lv_goto (tgt := 97) hx hb dX8_isWord_81 (by decide) ?_
                                                      refine lv_istore (lv' := [(9, .int (nI 117)), (8, .int (nI 3)), (7, .int (nI 1)), (0, .ref (z 0)), (1, .int (nI 103)), (2, .int (nI 114)), (3, .int (nI 111)), (4, .int (nI 117)), (5, .int (nI 110)), (6, .int (nI 100))]) hx hb dX8_isWord_97 hl (by decide) rfl (fun ls hl => ?_)
                                                      refine lv_aload_n hx hb dX8_isWord_99 rfl (lv_at hl 3 rfl) ?_
                                                      refine ta_get C hP 0 inlX8 rfl rfl 13 (by decide) tw_304 rfl dX8_isWord_100 ?_
                                                      refine lv_iload hx hb dX8_isWord_103 (lv_at hl 1 rfl) ?_
                                                      refine ta_iadd C (a := tn_s tx L p0) (b := 3) dX8_isWord_105 ?_
                                                      refine lv_aload_n hx hb dX8_isWord_106 rfl (lv_at hl 3 rfl) ?_
                                                      refine ta_get C hP 0 inlX8 rfl rfl 11 (by decide) tw_309 rfl dX8_isWord_107 ?_
                                                      refine ta_cge C (a := (tn_s tx L p0) + 3) (b := tn_e tx L p0) (tgt := 138) (by omega) (by omega) dX8_isWord_110 (by decide) (fun c46 => ?_) (fun c46 => ?_)
                                                      · refine lv_iload hx hb dX8_isWord_138 (lv_at hl 0 rfl) ?_
                                                        refine lv_if_ne (tgt := 147) hx hb dX8_isWord_140 (by decide) (fun c47 => ?_) (fun c47 => ?_)
                                                        · refine ta_iconst C 0 dX8_isWord_147 (by decide) ?_
                                                          refine lv_istore (lv' := [(7, .int (nI 0)), (9, .int (nI 117)), (8, .int (nI 3)), (0, .ref (z 0)), (1, .int (nI 103)), (2, .int (nI 114)), (3, .int (nI 111)), (4, .int (nI 117)), (5, .int (nI 110)), (6, .int (nI 100))]) hx hb dX8_isWord_148 hl (by decide) rfl (fun ls hl => ?_)
                                                          refine lv_iinc (v := nI 4) (lv' := [(8, .int (nI 4)), (7, .int (nI 0)), (9, .int (nI 117)), (0, .ref (z 0)), (1, .int (nI 103)), (2, .int (nI 114)), (3, .int (nI 111)), (4, .int (nI 117)), (5, .int (nI 110)), (6, .int (nI 100))]) hx hb dX8_isWord_150 hl (k := 2) rfl (by decide) (by decide) rfl (fun ls hl => ?_)
                                                          refine lv_goto (tgt := 32) hx hb dX8_isWord_153 (by decide) ?_
                                                          refine lv_iload hx hb dX8_isWord_32 (lv_at hl 0 rfl) ?_
                                                          refine ta_bipush C 6 dX8_isWord_34 (by decide) ?_
                                                          refine lv_icmp_ge (tgt := 156) hx hb dX8_isWord_36 (by decide) (fun c48 => ?_) (fun c48 => ?_)
                                                          · exact absurd c48 (by decide)
                                                          · refine lv_iload hx hb dX8_isWord_39 (lv_at hl 1 rfl) ?_
                                                            refine lv_if_eq (tgt := 156) hx hb dX8_isWord_41 (by decide) (fun c49 => ?_) (fun c49 => ?_)
                                                            · refine lv_iload hx hb dX8_isWord_156 (lv_at hl 1 rfl) ?_
                                                              have hnw : ¬ tk_is tx (tn_s tx L p0) (tn_e tx L p0) 0 := by
                                                                intro h
                                                                have h9 : tn_e tx L p0 - tn_s tx L p0 = 6 := h.1
                                                                have h8 : tx (tn_s tx L p0 + 3) = 117 := h.2 3 (by decide)
                                                                omega
                                                              exact ret _ () dX8_isWord_158 (by decide) (Or.inr ⟨hnw, rfl⟩) hP hD hS
                                                            · exact absurd c49 (by decide)
                                                        · exact absurd c47 (by decide)
                                                      · have hr3 := hrow (tn_s tx L p0 + 3) (by omega) (by omega)
                                                        refine lv_aload_n hx hb dX8_isWord_113 rfl (lv_at hl 3 rfl) ?_
                                                        refine ta_get C hP 0 inlX8 rfl rfl 0 (by decide) tw_125 rfl dX8_isWord_114 ?_
                                                        refine lv_aload_n hx hb dX8_isWord_117 rfl (lv_at hl 3 rfl) ?_
                                                        refine ta_get C hP 0 inlX8 rfl rfl 13 (by decide) tw_304 rfl dX8_isWord_118 ?_
                                                        refine lv_iload hx hb dX8_isWord_121 (lv_at hl 1 rfl) ?_
                                                        refine ta_iadd C (a := tn_s tx L p0) (b := 3) dX8_isWord_123 ?_
                                                        refine ta_iald C hP 1 rfl (i := (tn_s tx L p0) + 3) (by omega) dX8_isWord_124 ?_
                                                        refine lv_iload hx hb dX8_isWord_125 (lv_at hl 0 rfl) ?_
                                                        refine ta_cne C (a := tx ((tn_s tx L p0) + 3)) (b := 117) (tgt := 134) (by omega) (by omega) dX8_isWord_127 (by decide) (fun c50 => ?_) (fun c50 => ?_)
                                                        · refine ta_iconst C 0 dX8_isWord_134 (by decide) ?_
                                                          refine lv_goto (tgt := 148) hx hb dX8_isWord_135 (by decide) ?_
                                                          refine lv_istore (lv' := [(7, .int (nI 0)), (9, .int (nI 117)), (8, .int (nI 3)), (0, .ref (z 0)), (1, .int (nI 103)), (2, .int (nI 114)), (3, .int (nI 111)), (4, .int (nI 117)), (5, .int (nI 110)), (6, .int (nI 100))]) hx hb dX8_isWord_148 hl (by decide) rfl (fun ls hl => ?_)
                                                          refine lv_iinc (v := nI 4) (lv' := [(8, .int (nI 4)), (7, .int (nI 0)), (9, .int (nI 117)), (0, .ref (z 0)), (1, .int (nI 103)), (2, .int (nI 114)), (3, .int (nI 111)), (4, .int (nI 117)), (5, .int (nI 110)), (6, .int (nI 100))]) hx hb dX8_isWord_150 hl (k := 2) rfl (by decide) (by decide) rfl (fun ls hl => ?_)
                                                          refine lv_goto (tgt := 32) hx hb dX8_isWord_153 (by decide) ?_
                                                          refine lv_iload hx hb dX8_isWord_32 (lv_at hl 0 rfl) ?_
                                                          refine ta_bipush C 6 dX8_isWord_34 (by decide) ?_
                                                          refine lv_icmp_ge (tgt := 156) hx hb dX8_isWord_36 (by decide) (fun c51 => ?_) (fun c51 => ?_)
                                                          · exact absurd c51 (by decide)
                                                          · refine lv_iload hx hb dX8_isWord_39 (lv_at hl 1 rfl) ?_
                                                            refine lv_if_eq (tgt := 156) hx hb dX8_isWord_41 (by decide) (fun c52 => ?_) (fun c52 => ?_)
                                                            · refine lv_iload hx hb dX8_isWord_156 (lv_at hl 1 rfl) ?_
                                                              have hnw : ¬ tk_is tx (tn_s tx L p0) (tn_e tx L p0) 0 := by
                                                                intro h
                                                                have h9 : tn_e tx L p0 - tn_s tx L p0 = 6 := h.1
                                                                have h8 : tx (tn_s tx L p0 + 3) = 117 := h.2 3 (by decide)
                                                                omega
                                                              exact ret _ () dX8_isWord_158 (by decide) (Or.inr ⟨hnw, rfl⟩) hP hD hS
                                                            · exact absurd c52 (by decide)
                                                        · refine ta_iconst C 1 dX8_isWord_130 (by decide) ?_
                                                          refine lv_goto (tgt := 148) hx hb dX8_isWord_131 (by decide) ?_
                                                          refine lv_istore (lv' := [(7, .int (nI 1)), (9, .int (nI 117)), (8, .int (nI 3)), (0, .ref (z 0)), (1, .int (nI 103)), (2, .int (nI 114)), (3, .int (nI 111)), (4, .int (nI 117)), (5, .int (nI 110)), (6, .int (nI 100))]) hx hb dX8_isWord_148 hl (by decide) rfl (fun ls hl => ?_)
                                                          refine lv_iinc (v := nI 4) (lv' := [(8, .int (nI 4)), (7, .int (nI 1)), (9, .int (nI 117)), (0, .ref (z 0)), (1, .int (nI 103)), (2, .int (nI 114)), (3, .int (nI 111)), (4, .int (nI 117)), (5, .int (nI 110)), (6, .int (nI 100))]) hx hb dX8_isWord_150 hl (k := 2) rfl (by decide) (by decide) rfl (fun ls hl => ?_)
                                                          refine lv_goto (tgt := 32) hx hb dX8_isWord_153 (by decide) ?_
                                                          refine lv_iload hx hb dX8_isWord_32 (lv_at hl 0 rfl) ?_
                                                          refine ta_bipush C 6 dX8_isWord_34 (by decide) ?_
                                                          refine lv_icmp_ge (tgt := 156) hx hb dX8_isWord_36 (by decide) (fun c53 => ?_) (fun c53 => ?_)
                                                          · exact absurd c53 (by decide)
                                                          · refine lv_iload hx hb dX8_isWord_39 (lv_at hl 1 rfl) ?_
                                                            refine lv_if_eq (tgt := 156) hx hb dX8_isWord_41 (by decide) (fun c54 => ?_) (fun c54 => ?_)
                                                            · exact absurd c54 (by decide)
                                                            · refine lv_iload hx hb dX8_isWord_44 (lv_at hl 0 rfl) ?_
                                                              refine lv_if_ne (tgt := 53) hx hb dX8_isWord_46 (by decide) (fun c55 => ?_) (fun c55 => ?_)
                                                              · refine lv_iload hx hb dX8_isWord_53 (lv_at hl 0 rfl) ?_
                                                                refine ta_iconst C 1 dX8_isWord_55 (by decide) ?_
                                                                refine lv_icmp_ne (tgt := 63) hx hb dX8_isWord_56 (by decide) (fun c56 => ?_) (fun c56 => ?_)
                                                                · refine lv_iload hx hb dX8_isWord_63 (lv_at hl 0 rfl) ?_
                                                                  refine ta_iconst C 2 dX8_isWord_65 (by decide) ?_
                                                                  refine lv_icmp_ne (tgt := 73) hx hb dX8_isWord_66 (by decide) (fun c57 => ?_) (fun c57 => ?_)
                                                                  · refine lv_iload hx hb dX8_isWord_73 (lv_at hl 0 rfl) ?_
                                                                    refine ta_iconst C 3 dX8_isWord_75 (by decide) ?_
                                                                    refine lv_icmp_ne (tgt := 84) hx hb dX8_isWord_76 (by decide) (fun c58 => ?_) (fun c58 => ?_)
                                                                    · refine lv_iload hx hb dX8_isWord_84 (lv_at hl 0 rfl) ?_
                                                                      refine ta_iconst C 4 dX8_isWord_86 (by decide) ?_
                                                                      refine lv_icmp_ne (tgt := 95) hx hb dX8_isWord_87 (by decide) (fun c59 => ?_) (fun c59 => ?_)
                                                                      · exact absurd c59 (by decide)
                                                                      · refine lv_iload hx hb dX8_isWord_90 (lv_at hl 8 rfl) ?_
                                                                        refine lv_goto (tgt := 97) hx hb dX8_isWord_92 (by decide) ?_
                                                                        refine lv_istore (lv' := [(9, .int (nI 110)), (8, .int (nI 4)), (7, .int (nI 1)), (0, .ref (z 0)), (1, .int (nI 103)), (2, .int (nI 114)), (3, .int (nI 111)), (4, .int (nI 117)), (5, .int (nI 110)), (6, .int (nI 100))]) hx hb dX8_isWord_97 hl (by decide) rfl (fun ls hl => ?_)
                                                                        refine lv_aload_n hx hb dX8_isWord_99 rfl (lv_at hl 3 rfl) ?_
                                                                        refine ta_get C hP 0 inlX8 rfl rfl 13 (by decide) tw_304 rfl dX8_isWord_100 ?_
                                                                        refine lv_iload hx hb dX8_isWord_103 (lv_at hl 1 rfl) ?_
                                                                        refine ta_iadd C (a := tn_s tx L p0) (b := 4) dX8_isWord_105 ?_
                                                                        refine lv_aload_n hx hb dX8_isWord_106 rfl (lv_at hl 3 rfl) ?_
                                                                        refine ta_get C hP 0 inlX8 rfl rfl 11 (by decide) tw_309 rfl dX8_isWord_107 ?_
                                                                        refine ta_cge C (a := (tn_s tx L p0) + 4) (b := tn_e tx L p0) (tgt := 138) (by omega) (by omega) dX8_isWord_110 (by decide) (fun c60 => ?_) (fun c60 => ?_)
                                                                        · refine lv_iload hx hb dX8_isWord_138 (lv_at hl 0 rfl) ?_
                                                                          refine lv_if_ne (tgt := 147) hx hb dX8_isWord_140 (by decide) (fun c61 => ?_) (fun c61 => ?_)
                                                                          · refine ta_iconst C 0 dX8_isWord_147 (by decide) ?_
                                                                            refine lv_istore (lv' := [(7, .int (nI 0)), (9, .int (nI 110)), (8, .int (nI 4)), (0, .ref (z 0)), (1, .int (nI 103)), (2, .int (nI 114)), (3, .int (nI 111)), (4, .int (nI 117)), (5, .int (nI 110)), (6, .int (nI 100))]) hx hb dX8_isWord_148 hl (by decide) rfl (fun ls hl => ?_)
                                                                            refine lv_iinc (v := nI 5) (lv' := [(8, .int (nI 5)), (7, .int (nI 0)), (9, .int (nI 110)), (0, .ref (z 0)), (1, .int (nI 103)), (2, .int (nI 114)), (3, .int (nI 111)), (4, .int (nI 117)), (5, .int (nI 110)), (6, .int (nI 100))]) hx hb dX8_isWord_150 hl (k := 2) rfl (by decide) (by decide) rfl (fun ls hl => ?_)
                                                                            refine lv_goto (tgt := 32) hx hb dX8_isWord_153 (by decide) ?_
                                                                            refine lv_iload hx hb dX8_isWord_32 (lv_at hl 0 rfl) ?_
                                                                            refine ta_bipush C 6 dX8_isWord_34 (by decide) ?_
                                                                            refine lv_icmp_ge (tgt := 156) hx hb dX8_isWord_36 (by decide) (fun c62 => ?_) (fun c62 => ?_)
                                                                            · exact absurd c62 (by decide)
                                                                            · refine lv_iload hx hb dX8_isWord_39 (lv_at hl 1 rfl) ?_
                                                                              refine lv_if_eq (tgt := 156) hx hb dX8_isWord_41 (by decide) (fun c63 => ?_) (fun c63 => ?_)
                                                                              · refine lv_iload hx hb dX8_isWord_156 (lv_at hl 1 rfl) ?_
                                                                                have hnw : ¬ tk_is tx (tn_s tx L p0) (tn_e tx L p0) 0 := by
                                                                                  intro h
                                                                                  have h9 : tn_e tx L p0 - tn_s tx L p0 = 6 := h.1
                                                                                  have h8 : tx (tn_s tx L p0 + 4) = 110 := h.2 4 (by decide)
                                                                                  omega
                                                                                exact ret _ () dX8_isWord_158 (by decide) (Or.inr ⟨hnw, rfl⟩) hP hD hS
                                                                              · exact absurd c63 (by decide)
                                                                          · exact absurd c61 (by decide)
                                                                        · have hr4 := hrow (tn_s tx L p0 + 4) (by omega) (by omega)
                                                                          refine lv_aload_n hx hb dX8_isWord_113 rfl (lv_at hl 3 rfl) ?_
                                                                          refine ta_get C hP 0 inlX8 rfl rfl 0 (by decide) tw_125 rfl dX8_isWord_114 ?_
                                                                          refine lv_aload_n hx hb dX8_isWord_117 rfl (lv_at hl 3 rfl) ?_
                                                                          refine ta_get C hP 0 inlX8 rfl rfl 13 (by decide) tw_304 rfl dX8_isWord_118 ?_
                                                                          refine lv_iload hx hb dX8_isWord_121 (lv_at hl 1 rfl) ?_
                                                                          refine ta_iadd C (a := tn_s tx L p0) (b := 4) dX8_isWord_123 ?_
                                                                          refine ta_iald C hP 1 rfl (i := (tn_s tx L p0) + 4) (by omega) dX8_isWord_124 ?_
                                                                          refine lv_iload hx hb dX8_isWord_125 (lv_at hl 0 rfl) ?_
                                                                          refine ta_cne C (a := tx ((tn_s tx L p0) + 4)) (b := 110) (tgt := 134) (by omega) (by omega) dX8_isWord_127 (by decide) (fun c64 => ?_) (fun c64 => ?_)
                                                                          · refine ta_iconst C 0 dX8_isWord_134 (by decide) ?_
                                                                            refine lv_goto (tgt := 148) hx hb dX8_isWord_135 (by decide) ?_
                                                                            refine lv_istore (lv' := [(7, .int (nI 0)), (9, .int (nI 110)), (8, .int (nI 4)), (0, .ref (z 0)), (1, .int (nI 103)), (2, .int (nI 114)), (3, .int (nI 111)), (4, .int (nI 117)), (5, .int (nI 110)), (6, .int (nI 100))]) hx hb dX8_isWord_148 hl (by decide) rfl (fun ls hl => ?_)
                                                                            refine lv_iinc (v := nI 5) (lv' := [(8, .int (nI 5)), (7, .int (nI 0)), (9, .int (nI 110)), (0, .ref (z 0)), (1, .int (nI 103)), (2, .int (nI 114)), (3, .int (nI 111)), (4, .int (nI 117)), (5, .int (nI 110)), (6, .int (nI 100))]) hx hb dX8_isWord_150 hl (k := 2) rfl (by decide) (by decide) rfl (fun ls hl => ?_)
                                                                            refine lv_goto (tgt := 32) hx hb dX8_isWord_153 (by decide) ?_
                                                                            refine lv_iload hx hb dX8_isWord_32 (lv_at hl 0 rfl) ?_
                                                                            refine ta_bipush C 6 dX8_isWord_34 (by decide) ?_
                                                                            refine lv_icmp_ge (tgt := 156) hx hb dX8_isWord_36 (by decide) (fun c65 => ?_) (fun c65 => ?_)
                                                                            · exact absurd c65 (by decide)
                                                                            · refine lv_iload hx hb dX8_isWord_39 (lv_at hl 1 rfl) ?_
                                                                              refine lv_if_eq (tgt := 156) hx hb dX8_isWord_41 (by decide) (fun c66 => ?_) (fun c66 => ?_)
                                                                              · refine lv_iload hx hb dX8_isWord_156 (lv_at hl 1 rfl) ?_
                                                                                have hnw : ¬ tk_is tx (tn_s tx L p0) (tn_e tx L p0) 0 := by
                                                                                  intro h
                                                                                  have h9 : tn_e tx L p0 - tn_s tx L p0 = 6 := h.1
                                                                                  have h8 : tx (tn_s tx L p0 + 4) = 110 := h.2 4 (by decide)
                                                                                  omega
                                                                                exact ret _ () dX8_isWord_158 (by decide) (Or.inr ⟨hnw, rfl⟩) hP hD hS
                                                                              · exact absurd c66 (by decide)
                                                                          · refine ta_iconst C 1 dX8_isWord_130 (by decide) ?_
                                                                            refine lv_goto (tgt := 148) hx hb dX8_isWord_131 (by decide) ?_
                                                                            refine lv_istore (lv' := [(7, .int (nI 1)), (9, .int (nI 110)), (8, .int (nI 4)), (0, .ref (z 0)), (1, .int (nI 103)), (2, .int (nI 114)), (3, .int (nI 111)), (4, .int (nI 117)), (5, .int (nI 110)), (6, .int (nI 100))]) hx hb dX8_isWord_148 hl (by decide) rfl (fun ls hl => ?_)
                                                                            refine lv_iinc (v := nI 5) (lv' := [(8, .int (nI 5)), (7, .int (nI 1)), (9, .int (nI 110)), (0, .ref (z 0)), (1, .int (nI 103)), (2, .int (nI 114)), (3, .int (nI 111)), (4, .int (nI 117)), (5, .int (nI 110)), (6, .int (nI 100))]) hx hb dX8_isWord_150 hl (k := 2) rfl (by decide) (by decide) rfl (fun ls hl => ?_)
                                                                            refine lv_goto (tgt := 32) hx hb dX8_isWord_153 (by decide) ?_
                                                                            refine lv_iload hx hb dX8_isWord_32 (lv_at hl 0 rfl) ?_
                                                                            refine ta_bipush C 6 dX8_isWord_34 (by decide) ?_
                                                                            refine lv_icmp_ge (tgt := 156) hx hb dX8_isWord_36 (by decide) (fun c67 => ?_) (fun c67 => ?_)
                                                                            · exact absurd c67 (by decide)
                                                                            · refine lv_iload hx hb dX8_isWord_39 (lv_at hl 1 rfl) ?_
                                                                              refine lv_if_eq (tgt := 156) hx hb dX8_isWord_41 (by decide) (fun c68 => ?_) (fun c68 => ?_)
                                                                              · exact absurd c68 (by decide)
                                                                              · refine lv_iload hx hb dX8_isWord_44 (lv_at hl 0 rfl) ?_
                                                                                refine lv_if_ne (tgt := 53) hx hb dX8_isWord_46 (by decide) (fun c69 => ?_) (fun c69 => ?_)
                                                                                · refine lv_iload hx hb dX8_isWord_53 (lv_at hl 0 rfl) ?_
                                                                                  refine ta_iconst C 1 dX8_isWord_55 (by decide) ?_
                                                                                  refine lv_icmp_ne (tgt := 63) hx hb dX8_isWord_56 (by decide) (fun c70 => ?_) (fun c70 => ?_)
                                                                                  · refine lv_iload hx hb dX8_isWord_63 (lv_at hl 0 rfl) ?_
                                                                                    refine ta_iconst C 2 dX8_isWord_65 (by decide) ?_
                                                                                    refine lv_icmp_ne (tgt := 73) hx hb dX8_isWord_66 (by decide) (fun c71 => ?_) (fun c71 => ?_)
                                                                                    · refine lv_iload hx hb dX8_isWord_73 (lv_at hl 0 rfl) ?_
                                                                                      refine ta_iconst C 3 dX8_isWord_75 (by decide) ?_
                                                                                      refine lv_icmp_ne (tgt := 84) hx hb dX8_isWord_76 (by decide) (fun c72 => ?_) (fun c72 => ?_)
                                                                                      · refine lv_iload hx hb dX8_isWord_84 (lv_at hl 0 rfl) ?_
                                                                                        refine ta_iconst C 4 dX8_isWord_86 (by decide) ?_
                                                                                        refine lv_icmp_ne (tgt := 95) hx hb dX8_isWord_87 (by decide) (fun c73 => ?_) (fun c73 => ?_)
                                                                                        · refine lv_iload hx hb dX8_isWord_95 (lv_at hl 9 rfl) ?_
                                                                                          refine lv_istore (lv' := [(9, .int (nI 100)), (8, .int (nI 5)), (7, .int (nI 1)), (0, .ref (z 0)), (1, .int (nI 103)), (2, .int (nI 114)), (3, .int (nI 111)), (4, .int (nI 117)), (5, .int (nI 110)), (6, .int (nI 100))]) hx hb dX8_isWord_97 hl (by decide) rfl (fun ls hl => ?_)
                                                                                          refine lv_aload_n hx hb dX8_isWord_99 rfl (lv_at hl 3 rfl) ?_
                                                                                          refine ta_get C hP 0 inlX8 rfl rfl 13 (by decide) tw_304 rfl dX8_isWord_100 ?_
                                                                                          refine lv_iload hx hb dX8_isWord_103 (lv_at hl 1 rfl) ?_
                                                                                          refine ta_iadd C (a := tn_s tx L p0) (b := 5) dX8_isWord_105 ?_
                                                                                          refine lv_aload_n hx hb dX8_isWord_106 rfl (lv_at hl 3 rfl) ?_
                                                                                          refine ta_get C hP 0 inlX8 rfl rfl 11 (by decide) tw_309 rfl dX8_isWord_107 ?_
                                                                                          refine ta_cge C (a := (tn_s tx L p0) + 5) (b := tn_e tx L p0) (tgt := 138) (by omega) (by omega) dX8_isWord_110 (by decide) (fun c74 => ?_) (fun c74 => ?_)
                                                                                          · refine lv_iload hx hb dX8_isWord_138 (lv_at hl 0 rfl) ?_
                                                                                            refine lv_if_ne (tgt := 147) hx hb dX8_isWord_140 (by decide) (fun c75 => ?_) (fun c75 => ?_)
                                                                                            · refine ta_iconst C 0 dX8_isWord_147 (by decide) ?_
                                                                                              refine lv_istore (lv' := [(7, .int (nI 0)), (9, .int (nI 100)), (8, .int (nI 5)), (0, .ref (z 0)), (1, .int (nI 103)), (2, .int (nI 114)), (3, .int (nI 111)), (4, .int (nI 117)), (5, .int (nI 110)), (6, .int (nI 100))]) hx hb dX8_isWord_148 hl (by decide) rfl (fun ls hl => ?_)
                                                                                              refine lv_iinc (v := nI 6) (lv' := [(8, .int (nI 6)), (7, .int (nI 0)), (9, .int (nI 100)), (0, .ref (z 0)), (1, .int (nI 103)), (2, .int (nI 114)), (3, .int (nI 111)), (4, .int (nI 117)), (5, .int (nI 110)), (6, .int (nI 100))]) hx hb dX8_isWord_150 hl (k := 2) rfl (by decide) (by decide) rfl (fun ls hl => ?_)
                                                                                              refine lv_goto (tgt := 32) hx hb dX8_isWord_153 (by decide) ?_
                                                                                              refine lv_iload hx hb dX8_isWord_32 (lv_at hl 0 rfl) ?_
                                                                                              refine ta_bipush C 6 dX8_isWord_34 (by decide) ?_
                                                                                              refine lv_icmp_ge (tgt := 156) hx hb dX8_isWord_36 (by decide) (fun c76 => ?_) (fun c76 => ?_)
                                                                                              · refine lv_iload hx hb dX8_isWord_156 (lv_at hl 1 rfl) ?_
                                                                                                have hnw : ¬ tk_is tx (tn_s tx L p0) (tn_e tx L p0) 0 := by
                                                                                                  intro h
                                                                                                  have h9 : tn_e tx L p0 - tn_s tx L p0 = 6 := h.1
                                                                                                  have h8 : tx (tn_s tx L p0 + 5) = 100 := h.2 5 (by decide)
                                                                                                  omega
                                                                                                exact ret _ () dX8_isWord_158 (by decide) (Or.inr ⟨hnw, rfl⟩) hP hD hS
                                                                                              · exact absurd c76 (by decide)
                                                                                            · exact absurd c75 (by decide)
                                                                                          · have hr5 := hrow (tn_s tx L p0 + 5) (by omega) (by omega)
                                                                                            refine lv_aload_n hx hb dX8_isWord_113 rfl (lv_at hl 3 rfl) ?_
                                                                                            refine ta_get C hP 0 inlX8 rfl rfl 0 (by decide) tw_125 rfl dX8_isWord_114 ?_
                                                                                            refine lv_aload_n hx hb dX8_isWord_117 rfl (lv_at hl 3 rfl) ?_
                                                                                            refine ta_get C hP 0 inlX8 rfl rfl 13 (by decide) tw_304 rfl dX8_isWord_118 ?_
                                                                                            refine lv_iload hx hb dX8_isWord_121 (lv_at hl 1 rfl) ?_
                                                                                            refine ta_iadd C (a := tn_s tx L p0) (b := 5) dX8_isWord_123 ?_
                                                                                            refine ta_iald C hP 1 rfl (i := (tn_s tx L p0) + 5) (by omega) dX8_isWord_124 ?_
                                                                                            refine lv_iload hx hb dX8_isWord_125 (lv_at hl 0 rfl) ?_
                                                                                            refine ta_cne C (a := tx ((tn_s tx L p0) + 5)) (b := 100) (tgt := 134) (by omega) (by omega) dX8_isWord_127 (by decide) (fun c77 => ?_) (fun c77 => ?_)
                                                                                            · refine ta_iconst C 0 dX8_isWord_134 (by decide) ?_
                                                                                              refine lv_goto (tgt := 148) hx hb dX8_isWord_135 (by decide) ?_
                                                                                              refine lv_istore (lv' := [(7, .int (nI 0)), (9, .int (nI 100)), (8, .int (nI 5)), (0, .ref (z 0)), (1, .int (nI 103)), (2, .int (nI 114)), (3, .int (nI 111)), (4, .int (nI 117)), (5, .int (nI 110)), (6, .int (nI 100))]) hx hb dX8_isWord_148 hl (by decide) rfl (fun ls hl => ?_)
                                                                                              refine lv_iinc (v := nI 6) (lv' := [(8, .int (nI 6)), (7, .int (nI 0)), (9, .int (nI 100)), (0, .ref (z 0)), (1, .int (nI 103)), (2, .int (nI 114)), (3, .int (nI 111)), (4, .int (nI 117)), (5, .int (nI 110)), (6, .int (nI 100))]) hx hb dX8_isWord_150 hl (k := 2) rfl (by decide) (by decide) rfl (fun ls hl => ?_)
                                                                                              refine lv_goto (tgt := 32) hx hb dX8_isWord_153 (by decide) ?_
                                                                                              refine lv_iload hx hb dX8_isWord_32 (lv_at hl 0 rfl) ?_
                                                                                              refine ta_bipush C 6 dX8_isWord_34 (by decide) ?_
                                                                                              refine lv_icmp_ge (tgt := 156) hx hb dX8_isWord_36 (by decide) (fun c78 => ?_) (fun c78 => ?_)
                                                                                              · refine lv_iload hx hb dX8_isWord_156 (lv_at hl 1 rfl) ?_
                                                                                                have hnw : ¬ tk_is tx (tn_s tx L p0) (tn_e tx L p0) 0 := by
                                                                                                  intro h
                                                                                                  have h9 : tn_e tx L p0 - tn_s tx L p0 = 6 := h.1
                                                                                                  have h8 : tx (tn_s tx L p0 + 5) = 100 := h.2 5 (by decide)
                                                                                                  omega
                                                                                                exact ret _ () dX8_isWord_158 (by decide) (Or.inr ⟨hnw, rfl⟩) hP hD hS
                                                                                              · exact absurd c78 (by decide)
                                                                                            · refine ta_iconst C 1 dX8_isWord_130 (by decide) ?_
                                                                                              refine lv_goto (tgt := 148) hx hb dX8_isWord_131 (by decide) ?_
                                                                                              refine lv_istore (lv' := [(7, .int (nI 1)), (9, .int (nI 100)), (8, .int (nI 5)), (0, .ref (z 0)), (1, .int (nI 103)), (2, .int (nI 114)), (3, .int (nI 111)), (4, .int (nI 117)), (5, .int (nI 110)), (6, .int (nI 100))]) hx hb dX8_isWord_148 hl (by decide) rfl (fun ls hl => ?_)
                                                                                              refine lv_iinc (v := nI 6) (lv' := [(8, .int (nI 6)), (7, .int (nI 1)), (9, .int (nI 100)), (0, .ref (z 0)), (1, .int (nI 103)), (2, .int (nI 114)), (3, .int (nI 111)), (4, .int (nI 117)), (5, .int (nI 110)), (6, .int (nI 100))]) hx hb dX8_isWord_150 hl (k := 2) rfl (by decide) (by decide) rfl (fun ls hl => ?_)
                                                                                              refine lv_goto (tgt := 32) hx hb dX8_isWord_153 (by decide) ?_
                                                                                              refine lv_iload hx hb dX8_isWord_32 (lv_at hl 0 rfl) ?_
                                                                                              refine ta_bipush C 6 dX8_isWord_34 (by decide) ?_
                                                                                              refine lv_icmp_ge (tgt := 156) hx hb dX8_isWord_36 (by decide) (fun c79 => ?_) (fun c79 => ?_)
                                                                                              · refine lv_iload hx hb dX8_isWord_156 (lv_at hl 1 rfl) ?_
                                                                                                have hw : tk_is tx (tn_s tx L p0) (tn_e tx L p0) 0 := by
                                                                                                  refine ⟨show tn_e tx L p0 - tn_s tx L p0 = 6 by omega, fun j hj => ?_⟩
                                                                                                  have hj : j < 6 := hj
                                                                                                  rcases (show j = 0 ∨ j = 1 ∨ j = 2 ∨ j = 3 ∨ j = 4 ∨ j = 5 by omega) with rfl | rfl | rfl | rfl | rfl | rfl
                                                                                                  · show tx (tn_s tx L p0 + 0) = 103; omega
                                                                                                  · show tx (tn_s tx L p0 + 1) = 114; omega
                                                                                                  · show tx (tn_s tx L p0 + 2) = 111; omega
                                                                                                  · show tx (tn_s tx L p0 + 3) = 117; omega
                                                                                                  · show tx (tn_s tx L p0 + 4) = 110; omega
                                                                                                  · show tx (tn_s tx L p0 + 5) = 100; omega
                                                                                                exact ret _ () dX8_isWord_158 (by decide) (Or.inl ⟨hw, rfl⟩) hP hD hS
                                                                                              · exact absurd c79 (by decide)
                                                                                        · exact absurd c73 (by decide)
                                                                                      · exact absurd c72 (by decide)
                                                                                    · exact absurd c71 (by decide)
                                                                                  · exact absurd c70 (by decide)
                                                                                · exact absurd c69 (by decide)
                                                                    · exact absurd c58 (by decide)
                                                                  · exact absurd c57 (by decide)
                                                                · exact absurd c56 (by decide)
                                                              · exact absurd c55 (by decide)
                                                  · exact absurd c44 (by decide)
                                                · exact absurd c43 (by decide)
                                              · exact absurd c42 (by decide)
                                  · exact absurd c31 (by decide)
                                · exact absurd c30 (by decide)
                    · exact absurd c19 (by decide)

set_option maxHeartbeats 4000000 in
set_option maxRecDepth 100000 in
theorem c_X8_isWord_1 (l : Launch) (D : va_G) (k : ta_C) (z : Nat → Nat) (kn : Nat) (no : Nat) (va : Nat) (L : Nat) (tx : Nat → Nat) (p0 : Nat) (hx0 : tx_ok tx L) (hp0 : p0 ≤ L) : ta_Mi (S := Unit) l D k yX8_isWord cX8_isWord 10 .boolean 0 0 [.ref (z 0), .int (nI 115), .int (nI 116), .int (nI 97), .int (nI 110), .int (nI 100), .int (nI 0)] [(z 0, .inr (8, [.ref (z 1), .int (nI L), .ref (z 2), .ref (z 3), .ref (z 4), .ref (z 5), .int (nI kn), .ref (z 6), .ref (z 7), .ref (z 8), .int (nI no), .int (nI (tn_e tx L p0)), .int (nI (mo_s tx L p0)), .int (nI (tn_s tx L p0)), .int (nI va), .ref (z 9)])), (z 1, .inl (k.1 0, 160, .inl (ta_e tx)))] (fun r _ => (tk_is tx (tn_s tx L p0) (tn_e tx L p0) 1 ∧ r = nI 1) ∨ (¬ tk_is tx (tn_s tx L p0) (tn_e tx L p0) 1 ∧ r = nI 0)) (fun u => [(z 0, .inr (8, [.ref (z 1), .int (nI L), .ref (z 2), .ref (z 3), .ref (z 4), .ref (z 5), .int (nI kn), .ref (z 6), .ref (z 7), .ref (z 8), .int (nI no), .int (nI (tn_e tx L p0)), .int (nI (mo_s tx L p0)), .int (nI (tn_s tx L p0)), .int (nI va), .ref (z 9)])), (z 1, .inl (k.1 0, 160, .inl (ta_e tx)))]) := by
  refine ta_enter_i (by decide) (Nat.le_of_ble_eq_true rfl) ?_
  intro p e s m below meth c A ls Q C ret hP hD hS hl
  have C : ta_At p l D k s m ([.ref (z 0), .int (nI 115), .int (nI 116), .int (nI 97), .int (nI 110), .int (nI 100), .int (nI 0)] : List Value).toArray c RX8 cX8_isWord 10 A := C
  have hx := C.1.1
  have hb := C.1.2.1
  have hl : lv_has ls 10 [(0, .ref (z 0)), (1, .int (nI 115)), (2, .int (nI 116)), (3, .int (nI 97)), (4, .int (nI 110)), (5, .int (nI 100)), (6, .int (nI 0))] := hl
  obtain ⟨H, hH⟩ : ∃ H, H = s.heap := ⟨_, rfl⟩
  obtain ⟨locs, hlocs⟩ : ∃ q : List Loc, q = [] := ⟨_, rfl⟩
  have hP : va_P D vwCl [(z 0, .inr (8, [.ref (z 1), .int (nI L), .ref (z 2), .ref (z 3), .ref (z 4), .ref (z 5), .int (nI kn), .ref (z 6), .ref (z 7), .ref (z 8), .int (nI no), .int (nI (tn_e tx L p0)), .int (nI (mo_s tx L p0)), .int (nI (tn_s tx L p0)), .int (nI va), .ref (z 9)])), (z 1, .inl (k.1 0, 160, .inl (ta_e tx)))] H := by rw [hH]; exact hP
  have hS : va_S A s.heap H locs := by rw [hH, hlocs]; exact hS
  rw [← hlocs]
  suffices hgoal : W p l e ({ frames := 0, cells := 0, slots := 0, locals := 0 }) s m ([.ref (z 0), .int (nI 115), .int (nI 116), .int (nI 97), .int (nI 110), .int (nI 100), .int (nI 0)] : List Value).toArray below meth c H locs 0 0 Q (F0 m 0 ls []) by rw [hH] at hgoal; exact hgoal
  clear hH hlocs
  obtain ⟨hL, hc⟩ := id hx0
  obtain ⟨b1, b2, b3, b4⟩ := tn_b (tx := tx) hp0
  have hms4 : mo_s tx L p0 < 4 := by unfold mo_s; have h4 := tx_s4 tx L (tn_s tx L p0); split <;> omega
  refine lv_aload_n hx hb dX8_isWord_0 rfl (lv_at hl 0 rfl) ?_
  refine ta_get C hP 0 inlX8 rfl rfl 12 (by decide) tw_310 rfl dX8_isWord_1 ?_
  refine ta_iconst C 1 dX8_isWord_4 (by decide) ?_
  refine ta_cne C (a := mo_s tx L p0) (b := 1) (tgt := 26) (by omega) (by omega) dX8_isWord_5 (by decide) (fun c1 => ?_) (fun c1 => ?_)
  · refine ta_iconst C 0 dX8_isWord_26 (by decide) ?_
    refine lv_istore (lv' := [(7, .int (nI 0)), (0, .ref (z 0)), (1, .int (nI 115)), (2, .int (nI 116)), (3, .int (nI 97)), (4, .int (nI 110)), (5, .int (nI 100)), (6, .int (nI 0))]) hx hb dX8_isWord_27 hl (by decide) rfl (fun ls hl => ?_)
    refine ta_iconst C 0 dX8_isWord_29 (by decide) ?_
    refine lv_istore (lv' := [(8, .int (nI 0)), (7, .int (nI 0)), (0, .ref (z 0)), (1, .int (nI 115)), (2, .int (nI 116)), (3, .int (nI 97)), (4, .int (nI 110)), (5, .int (nI 100)), (6, .int (nI 0))]) hx hb dX8_isWord_30 hl (by decide) rfl (fun ls hl => ?_)
    refine lv_iload hx hb dX8_isWord_32 (lv_at hl 0 rfl) ?_
    refine ta_bipush C 6 dX8_isWord_34 (by decide) ?_
    refine lv_icmp_ge (tgt := 156) hx hb dX8_isWord_36 (by decide) (fun c2 => ?_) (fun c2 => ?_)
    · exact absurd c2 (by decide)
    · refine lv_iload hx hb dX8_isWord_39 (lv_at hl 1 rfl) ?_
      refine lv_if_eq (tgt := 156) hx hb dX8_isWord_41 (by decide) (fun c3 => ?_) (fun c3 => ?_)
      · refine lv_iload hx hb dX8_isWord_156 (lv_at hl 1 rfl) ?_
        have hnw : ¬ tk_is tx (tn_s tx L p0) (tn_e tx L p0) 1 := fun h => by have h9 := mo_is1 (i := 1) (by decide) hp0 h; omega
        exact ret _ () dX8_isWord_158 (by decide) (Or.inr ⟨hnw, rfl⟩) hP hD hS
      · exact absurd c3 (by decide)
  · have hrow := mo_row c1
    refine lv_aload_n hx hb dX8_isWord_8 rfl (lv_at hl 0 rfl) ?_
    refine ta_get C hP 0 inlX8 rfl rfl 11 (by decide) tw_309 rfl dX8_isWord_9 ?_
    refine lv_aload_n hx hb dX8_isWord_12 rfl (lv_at hl 0 rfl) ?_
    refine ta_get C hP 0 inlX8 rfl rfl 13 (by decide) tw_304 rfl dX8_isWord_13 ?_
    refine ta_isub C (a := tn_e tx L p0) (b := tn_s tx L p0) (by omega) dX8_isWord_16 ?_
    refine ta_bipush C 7 dX8_isWord_17 (by decide) ?_
    refine ta_cge C (a := (tn_e tx L p0) - (tn_s tx L p0)) (b := 7) (tgt := 26) (by omega) (by omega) dX8_isWord_19 (by decide) (fun c4 => ?_) (fun c4 => ?_)
    · refine ta_iconst C 0 dX8_isWord_26 (by decide) ?_
      refine lv_istore (lv' := [(7, .int (nI 0)), (0, .ref (z 0)), (1, .int (nI 115)), (2, .int (nI 116)), (3, .int (nI 97)), (4, .int (nI 110)), (5, .int (nI 100)), (6, .int (nI 0))]) hx hb dX8_isWord_27 hl (by decide) rfl (fun ls hl => ?_)
      refine ta_iconst C 0 dX8_isWord_29 (by decide) ?_
      refine lv_istore (lv' := [(8, .int (nI 0)), (7, .int (nI 0)), (0, .ref (z 0)), (1, .int (nI 115)), (2, .int (nI 116)), (3, .int (nI 97)), (4, .int (nI 110)), (5, .int (nI 100)), (6, .int (nI 0))]) hx hb dX8_isWord_30 hl (by decide) rfl (fun ls hl => ?_)
      refine lv_iload hx hb dX8_isWord_32 (lv_at hl 0 rfl) ?_
      refine ta_bipush C 6 dX8_isWord_34 (by decide) ?_
      refine lv_icmp_ge (tgt := 156) hx hb dX8_isWord_36 (by decide) (fun c5 => ?_) (fun c5 => ?_)
      · exact absurd c5 (by decide)
      · refine lv_iload hx hb dX8_isWord_39 (lv_at hl 1 rfl) ?_
        refine lv_if_eq (tgt := 156) hx hb dX8_isWord_41 (by decide) (fun c6 => ?_) (fun c6 => ?_)
        · refine lv_iload hx hb dX8_isWord_156 (lv_at hl 1 rfl) ?_
          have hnw : ¬ tk_is tx (tn_s tx L p0) (tn_e tx L p0) 1 := fun h => by have h9 : tn_e tx L p0 - tn_s tx L p0 = 5 := h.1; omega
          exact ret _ () dX8_isWord_158 (by decide) (Or.inr ⟨hnw, rfl⟩) hP hD hS
        · exact absurd c6 (by decide)
    · refine ta_iconst C 1 dX8_isWord_22 (by decide) ?_
      refine lv_goto (tgt := 27) hx hb dX8_isWord_23 (by decide) ?_
      refine lv_istore (lv' := [(7, .int (nI 1)), (0, .ref (z 0)), (1, .int (nI 115)), (2, .int (nI 116)), (3, .int (nI 97)), (4, .int (nI 110)), (5, .int (nI 100)), (6, .int (nI 0))]) hx hb dX8_isWord_27 hl (by decide) rfl (fun ls hl => ?_)
      refine ta_iconst C 0 dX8_isWord_29 (by decide) ?_
      refine lv_istore (lv' := [(8, .int (nI 0)), (7, .int (nI 1)), (0, .ref (z 0)), (1, .int (nI 115)), (2, .int (nI 116)), (3, .int (nI 97)), (4, .int (nI 110)), (5, .int (nI 100)), (6, .int (nI 0))]) hx hb dX8_isWord_30 hl (by decide) rfl (fun ls hl => ?_)
      refine lv_iload hx hb dX8_isWord_32 (lv_at hl 0 rfl) ?_
      refine ta_bipush C 6 dX8_isWord_34 (by decide) ?_
      refine lv_icmp_ge (tgt := 156) hx hb dX8_isWord_36 (by decide) (fun c7 => ?_) (fun c7 => ?_)
      · exact absurd c7 (by decide)
      · refine lv_iload hx hb dX8_isWord_39 (lv_at hl 1 rfl) ?_
        refine lv_if_eq (tgt := 156) hx hb dX8_isWord_41 (by decide) (fun c8 => ?_) (fun c8 => ?_)
        · exact absurd c8 (by decide)
        · refine lv_iload hx hb dX8_isWord_44 (lv_at hl 0 rfl) ?_
          refine lv_if_ne (tgt := 53) hx hb dX8_isWord_46 (by decide) (fun c9 => ?_) (fun c9 => ?_)
          · exact absurd c9 (by decide)
          · refine lv_iload_n hx hb dX8_isWord_49 rfl (lv_at hl 3 rfl) ?_
            refine lv_goto (tgt := 97) hx hb dX8_isWord_50 (by decide) ?_
            refine lv_istore (lv' := [(9, .int (nI 115)), (8, .int (nI 0)), (7, .int (nI 1)), (0, .ref (z 0)), (1, .int (nI 115)), (2, .int (nI 116)), (3, .int (nI 97)), (4, .int (nI 110)), (5, .int (nI 100)), (6, .int (nI 0))]) hx hb dX8_isWord_97 hl (by decide) rfl (fun ls hl => ?_)
            refine lv_aload_n hx hb dX8_isWord_99 rfl (lv_at hl 3 rfl) ?_
            refine ta_get C hP 0 inlX8 rfl rfl 13 (by decide) tw_304 rfl dX8_isWord_100 ?_
            refine lv_iload hx hb dX8_isWord_103 (lv_at hl 1 rfl) ?_
            refine ta_iadd C (a := tn_s tx L p0) (b := 0) dX8_isWord_105 ?_
            refine lv_aload_n hx hb dX8_isWord_106 rfl (lv_at hl 3 rfl) ?_
            refine ta_get C hP 0 inlX8 rfl rfl 11 (by decide) tw_309 rfl dX8_isWord_107 ?_
            refine ta_cge C (a := (tn_s tx L p0) + 0) (b := tn_e tx L p0) (tgt := 138) (by omega) (by omega) dX8_isWord_110 (by decide) (fun c10 => ?_) (fun c10 => ?_)
            · refine lv_iload hx hb dX8_isWord_138 (lv_at hl 0 rfl) ?_
              refine lv_if_ne (tgt := 147) hx hb dX8_isWord_140 (by decide) (fun c11 => ?_) (fun c11 => ?_)
              · refine ta_iconst C 0 dX8_isWord_147 (by decide) ?_
                refine lv_istore (lv' := [(7, .int (nI 0)), (9, .int (nI 115)), (8, .int (nI 0)), (0, .ref (z 0)), (1, .int (nI 115)), (2, .int (nI 116)), (3, .int (nI 97)), (4, .int (nI 110)), (5, .int (nI 100)), (6, .int (nI 0))]) hx hb dX8_isWord_148 hl (by decide) rfl (fun ls hl => ?_)
                refine lv_iinc (v := nI 1) (lv' := [(8, .int (nI 1)), (7, .int (nI 0)), (9, .int (nI 115)), (0, .ref (z 0)), (1, .int (nI 115)), (2, .int (nI 116)), (3, .int (nI 97)), (4, .int (nI 110)), (5, .int (nI 100)), (6, .int (nI 0))]) hx hb dX8_isWord_150 hl (k := 2) rfl (by decide) (by decide) rfl (fun ls hl => ?_)
                refine lv_goto (tgt := 32) hx hb dX8_isWord_153 (by decide) ?_
                refine lv_iload hx hb dX8_isWord_32 (lv_at hl 0 rfl) ?_
                refine ta_bipush C 6 dX8_isWord_34 (by decide) ?_
                refine lv_icmp_ge (tgt := 156) hx hb dX8_isWord_36 (by decide) (fun c12 => ?_) (fun c12 => ?_)
                · exact absurd c12 (by decide)
                · refine lv_iload hx hb dX8_isWord_39 (lv_at hl 1 rfl) ?_
                  refine lv_if_eq (tgt := 156) hx hb dX8_isWord_41 (by decide) (fun c13 => ?_) (fun c13 => ?_)
                  · refine lv_iload hx hb dX8_isWord_156 (lv_at hl 1 rfl) ?_
                    have hnw : ¬ tk_is tx (tn_s tx L p0) (tn_e tx L p0) 1 := by
                      intro h
                      have h9 : tn_e tx L p0 - tn_s tx L p0 = 5 := h.1
                      have h8 : tx (tn_s tx L p0 + 0) = 115 := h.2 0 (by decide)
                      omega
                    exact ret _ () dX8_isWord_158 (by decide) (Or.inr ⟨hnw, rfl⟩) hP hD hS
                  · exact absurd c13 (by decide)
              · exact absurd c11 (by decide)
            · have hr0 := hrow (tn_s tx L p0 + 0) (by omega) (by omega)
              refine lv_aload_n hx hb dX8_isWord_113 rfl (lv_at hl 3 rfl) ?_
              refine ta_get C hP 0 inlX8 rfl rfl 0 (by decide) tw_125 rfl dX8_isWord_114 ?_
              refine lv_aload_n hx hb dX8_isWord_117 rfl (lv_at hl 3 rfl) ?_
              refine ta_get C hP 0 inlX8 rfl rfl 13 (by decide) tw_304 rfl dX8_isWord_118 ?_
              refine lv_iload hx hb dX8_isWord_121 (lv_at hl 1 rfl) ?_
              refine ta_iadd C (a := tn_s tx L p0) (b := 0) dX8_isWord_123 ?_
              refine ta_iald C hP 1 rfl (i := (tn_s tx L p0) + 0) (by omega) dX8_isWord_124 ?_
              refine lv_iload hx hb dX8_isWord_125 (lv_at hl 0 rfl) ?_
              refine ta_cne C (a := tx ((tn_s tx L p0) + 0)) (b := 115) (tgt := 134) (by omega) (by omega) dX8_isWord_127 (by decide) (fun c14 => ?_) (fun c14 => ?_)
              · refine ta_iconst C 0 dX8_isWord_134 (by decide) ?_
                refine lv_goto (tgt := 148) hx hb dX8_isWord_135 (by decide) ?_
                refine lv_istore (lv' := [(7, .int (nI 0)), (9, .int (nI 115)), (8, .int (nI 0)), (0, .ref (z 0)), (1, .int (nI 115)), (2, .int (nI 116)), (3, .int (nI 97)), (4, .int (nI 110)), (5, .int (nI 100)), (6, .int (nI 0))]) hx hb dX8_isWord_148 hl (by decide) rfl (fun ls hl => ?_)
                refine lv_iinc (v := nI 1) (lv' := [(8, .int (nI 1)), (7, .int (nI 0)), (9, .int (nI 115)), (0, .ref (z 0)), (1, .int (nI 115)), (2, .int (nI 116)), (3, .int (nI 97)), (4, .int (nI 110)), (5, .int (nI 100)), (6, .int (nI 0))]) hx hb dX8_isWord_150 hl (k := 2) rfl (by decide) (by decide) rfl (fun ls hl => ?_)
                refine lv_goto (tgt := 32) hx hb dX8_isWord_153 (by decide) ?_
                refine lv_iload hx hb dX8_isWord_32 (lv_at hl 0 rfl) ?_
                refine ta_bipush C 6 dX8_isWord_34 (by decide) ?_
                refine lv_icmp_ge (tgt := 156) hx hb dX8_isWord_36 (by decide) (fun c15 => ?_) (fun c15 => ?_)
                · exact absurd c15 (by decide)
                · refine lv_iload hx hb dX8_isWord_39 (lv_at hl 1 rfl) ?_
                  refine lv_if_eq (tgt := 156) hx hb dX8_isWord_41 (by decide) (fun c16 => ?_) (fun c16 => ?_)
                  · refine lv_iload hx hb dX8_isWord_156 (lv_at hl 1 rfl) ?_
                    have hnw : ¬ tk_is tx (tn_s tx L p0) (tn_e tx L p0) 1 := by
                      intro h
                      have h9 : tn_e tx L p0 - tn_s tx L p0 = 5 := h.1
                      have h8 : tx (tn_s tx L p0 + 0) = 115 := h.2 0 (by decide)
                      omega
                    exact ret _ () dX8_isWord_158 (by decide) (Or.inr ⟨hnw, rfl⟩) hP hD hS
                  · exact absurd c16 (by decide)
              · refine ta_iconst C 1 dX8_isWord_130 (by decide) ?_
                refine lv_goto (tgt := 148) hx hb dX8_isWord_131 (by decide) ?_
                refine lv_istore (lv' := [(7, .int (nI 1)), (9, .int (nI 115)), (8, .int (nI 0)), (0, .ref (z 0)), (1, .int (nI 115)), (2, .int (nI 116)), (3, .int (nI 97)), (4, .int (nI 110)), (5, .int (nI 100)), (6, .int (nI 0))]) hx hb dX8_isWord_148 hl (by decide) rfl (fun ls hl => ?_)
                refine lv_iinc (v := nI 1) (lv' := [(8, .int (nI 1)), (7, .int (nI 1)), (9, .int (nI 115)), (0, .ref (z 0)), (1, .int (nI 115)), (2, .int (nI 116)), (3, .int (nI 97)), (4, .int (nI 110)), (5, .int (nI 100)), (6, .int (nI 0))]) hx hb dX8_isWord_150 hl (k := 2) rfl (by decide) (by decide) rfl (fun ls hl => ?_)
                refine lv_goto (tgt := 32) hx hb dX8_isWord_153 (by decide) ?_
                refine lv_iload hx hb dX8_isWord_32 (lv_at hl 0 rfl) ?_
                refine ta_bipush C 6 dX8_isWord_34 (by decide) ?_
                refine lv_icmp_ge (tgt := 156) hx hb dX8_isWord_36 (by decide) (fun c17 => ?_) (fun c17 => ?_)
                · exact absurd c17 (by decide)
                · refine lv_iload hx hb dX8_isWord_39 (lv_at hl 1 rfl) ?_
                  refine lv_if_eq (tgt := 156) hx hb dX8_isWord_41 (by decide) (fun c18 => ?_) (fun c18 => ?_)
                  · exact absurd c18 (by decide)
                  · refine lv_iload hx hb dX8_isWord_44 (lv_at hl 0 rfl) ?_
                    refine lv_if_ne (tgt := 53) hx hb dX8_isWord_46 (by decide) (fun c19 => ?_) (fun c19 => ?_)
                    · refine lv_iload hx hb dX8_isWord_53 (lv_at hl 0 rfl) ?_
                      refine ta_iconst C 1 dX8_isWord_55 (by decide) ?_
                      refine lv_icmp_ne (tgt := 63) hx hb dX8_isWord_56 (by decide) (fun c20 => ?_) (fun c20 => ?_)
                      · exact absurd c20 (by decide)
                      · refine lv_iload_n hx hb dX8_isWord_59 rfl (lv_at hl 5 rfl) ?_
                        refine lv_goto (tgt := 97) hx hb dX8_isWord_60 (by decide) ?_
                        refine lv_istore (lv' := [(9, .int (nI 116)), (8, .int (nI 1)), (7, .int (nI 1)), (0, .ref (z 0)), (1, .int (nI 115)), (2, .int (nI 116)), (3, .int (nI 97)), (4, .int (nI 110)), (5, .int (nI 100)), (6, .int (nI 0))]) hx hb dX8_isWord_97 hl (by decide) rfl (fun ls hl => ?_)
                        refine lv_aload_n hx hb dX8_isWord_99 rfl (lv_at hl 3 rfl) ?_
                        refine ta_get C hP 0 inlX8 rfl rfl 13 (by decide) tw_304 rfl dX8_isWord_100 ?_
                        refine lv_iload hx hb dX8_isWord_103 (lv_at hl 1 rfl) ?_
                        refine ta_iadd C (a := tn_s tx L p0) (b := 1) dX8_isWord_105 ?_
                        refine lv_aload_n hx hb dX8_isWord_106 rfl (lv_at hl 3 rfl) ?_
                        refine ta_get C hP 0 inlX8 rfl rfl 11 (by decide) tw_309 rfl dX8_isWord_107 ?_
                        refine ta_cge C (a := (tn_s tx L p0) + 1) (b := tn_e tx L p0) (tgt := 138) (by omega) (by omega) dX8_isWord_110 (by decide) (fun c21 => ?_) (fun c21 => ?_)
                        · refine lv_iload hx hb dX8_isWord_138 (lv_at hl 0 rfl) ?_
                          refine lv_if_ne (tgt := 147) hx hb dX8_isWord_140 (by decide) (fun c22 => ?_) (fun c22 => ?_)
                          · refine ta_iconst C 0 dX8_isWord_147 (by decide) ?_
                            refine lv_istore (lv' := [(7, .int (nI 0)), (9, .int (nI 116)), (8, .int (nI 1)), (0, .ref (z 0)), (1, .int (nI 115)), (2, .int (nI 116)), (3, .int (nI 97)), (4, .int (nI 110)), (5, .int (nI 100)), (6, .int (nI 0))]) hx hb dX8_isWord_148 hl (by decide) rfl (fun ls hl => ?_)
                            refine lv_iinc (v := nI 2) (lv' := [(8, .int (nI 2)), (7, .int (nI 0)), (9, .int (nI 116)), (0, .ref (z 0)), (1, .int (nI 115)), (2, .int (nI 116)), (3, .int (nI 97)), (4, .int (nI 110)), (5, .int (nI 100)), (6, .int (nI 0))]) hx hb dX8_isWord_150 hl (k := 2) rfl (by decide) (by decide) rfl (fun ls hl => ?_)
                            refine lv_goto (tgt := 32) hx hb dX8_isWord_153 (by decide) ?_
                            refine lv_iload hx hb dX8_isWord_32 (lv_at hl 0 rfl) ?_
                            refine ta_bipush C 6 dX8_isWord_34 (by decide) ?_
                            refine lv_icmp_ge (tgt := 156) hx hb dX8_isWord_36 (by decide) (fun c23 => ?_) (fun c23 => ?_)
                            · exact absurd c23 (by decide)
                            · refine lv_iload hx hb dX8_isWord_39 (lv_at hl 1 rfl) ?_
                              refine lv_if_eq (tgt := 156) hx hb dX8_isWord_41 (by decide) (fun c24 => ?_) (fun c24 => ?_)
                              · refine lv_iload hx hb dX8_isWord_156 (lv_at hl 1 rfl) ?_
                                have hnw : ¬ tk_is tx (tn_s tx L p0) (tn_e tx L p0) 1 := by
                                  intro h
                                  have h9 : tn_e tx L p0 - tn_s tx L p0 = 5 := h.1
                                  have h8 : tx (tn_s tx L p0 + 1) = 116 := h.2 1 (by decide)
                                  omega
                                exact ret _ () dX8_isWord_158 (by decide) (Or.inr ⟨hnw, rfl⟩) hP hD hS
                              · exact absurd c24 (by decide)
                          · exact absurd c22 (by decide)
                        · have hr1 := hrow (tn_s tx L p0 + 1) (by omega) (by omega)
                          refine lv_aload_n hx hb dX8_isWord_113 rfl (lv_at hl 3 rfl) ?_
                          refine ta_get C hP 0 inlX8 rfl rfl 0 (by decide) tw_125 rfl dX8_isWord_114 ?_
                          refine lv_aload_n hx hb dX8_isWord_117 rfl (lv_at hl 3 rfl) ?_
                          refine ta_get C hP 0 inlX8 rfl rfl 13 (by decide) tw_304 rfl dX8_isWord_118 ?_
                          refine lv_iload hx hb dX8_isWord_121 (lv_at hl 1 rfl) ?_
                          refine ta_iadd C (a := tn_s tx L p0) (b := 1) dX8_isWord_123 ?_
                          refine ta_iald C hP 1 rfl (i := (tn_s tx L p0) + 1) (by omega) dX8_isWord_124 ?_
                          refine lv_iload hx hb dX8_isWord_125 (lv_at hl 0 rfl) ?_
                          refine ta_cne C (a := tx ((tn_s tx L p0) + 1)) (b := 116) (tgt := 134) (by omega) (by omega) dX8_isWord_127 (by decide) (fun c25 => ?_) (fun c25 => ?_)
                          · refine ta_iconst C 0 dX8_isWord_134 (by decide) ?_
                            refine lv_goto (tgt := 148) hx hb dX8_isWord_135 (by decide) ?_
                            refine lv_istore (lv' := [(7, .int (nI 0)), (9, .int (nI 116)), (8, .int (nI 1)), (0, .ref (z 0)), (1, .int (nI 115)), (2, .int (nI 116)), (3, .int (nI 97)), (4, .int (nI 110)), (5, .int (nI 100)), (6, .int (nI 0))]) hx hb dX8_isWord_148 hl (by decide) rfl (fun ls hl => ?_)
                            refine lv_iinc (v := nI 2) (lv' := [(8, .int (nI 2)), (7, .int (nI 0)), (9, .int (nI 116)), (0, .ref (z 0)), (1, .int (nI 115)), (2, .int (nI 116)), (3, .int (nI 97)), (4, .int (nI 110)), (5, .int (nI 100)), (6, .int (nI 0))]) hx hb dX8_isWord_150 hl (k := 2) rfl (by decide) (by decide) rfl (fun ls hl => ?_)
                            refine lv_goto (tgt := 32) hx hb dX8_isWord_153 (by decide) ?_
                            refine lv_iload hx hb dX8_isWord_32 (lv_at hl 0 rfl) ?_
                            refine ta_bipush C 6 dX8_isWord_34 (by decide) ?_
                            refine lv_icmp_ge (tgt := 156) hx hb dX8_isWord_36 (by decide) (fun c26 => ?_) (fun c26 => ?_)
                            · exact absurd c26 (by decide)
                            · refine lv_iload hx hb dX8_isWord_39 (lv_at hl 1 rfl) ?_
                              refine lv_if_eq (tgt := 156) hx hb dX8_isWord_41 (by decide) (fun c27 => ?_) (fun c27 => ?_)
                              · refine lv_iload hx hb dX8_isWord_156 (lv_at hl 1 rfl) ?_
                                have hnw : ¬ tk_is tx (tn_s tx L p0) (tn_e tx L p0) 1 := by
                                  intro h
                                  have h9 : tn_e tx L p0 - tn_s tx L p0 = 5 := h.1
                                  have h8 : tx (tn_s tx L p0 + 1) = 116 := h.2 1 (by decide)
                                  omega
                                exact ret _ () dX8_isWord_158 (by decide) (Or.inr ⟨hnw, rfl⟩) hP hD hS
                              · exact absurd c27 (by decide)
                          · refine ta_iconst C 1 dX8_isWord_130 (by decide) ?_
                            refine lv_goto (tgt := 148) hx hb dX8_isWord_131 (by decide) ?_
                            refine lv_istore (lv' := [(7, .int (nI 1)), (9, .int (nI 116)), (8, .int (nI 1)), (0, .ref (z 0)), (1, .int (nI 115)), (2, .int (nI 116)), (3, .int (nI 97)), (4, .int (nI 110)), (5, .int (nI 100)), (6, .int (nI 0))]) hx hb dX8_isWord_148 hl (by decide) rfl (fun ls hl => ?_)
                            refine lv_iinc (v := nI 2) (lv' := [(8, .int (nI 2)), (7, .int (nI 1)), (9, .int (nI 116)), (0, .ref (z 0)), (1, .int (nI 115)), (2, .int (nI 116)), (3, .int (nI 97)), (4, .int (nI 110)), (5, .int (nI 100)), (6, .int (nI 0))]) hx hb dX8_isWord_150 hl (k := 2) rfl (by decide) (by decide) rfl (fun ls hl => ?_)
                            refine lv_goto (tgt := 32) hx hb dX8_isWord_153 (by decide) ?_
                            refine lv_iload hx hb dX8_isWord_32 (lv_at hl 0 rfl) ?_
                            refine ta_bipush C 6 dX8_isWord_34 (by decide) ?_
                            refine lv_icmp_ge (tgt := 156) hx hb dX8_isWord_36 (by decide) (fun c28 => ?_) (fun c28 => ?_)
                            · exact absurd c28 (by decide)
                            · refine lv_iload hx hb dX8_isWord_39 (lv_at hl 1 rfl) ?_
                              refine lv_if_eq (tgt := 156) hx hb dX8_isWord_41 (by decide) (fun c29 => ?_) (fun c29 => ?_)
                              · exact absurd c29 (by decide)
                              · refine lv_iload hx hb dX8_isWord_44 (lv_at hl 0 rfl) ?_
                                refine lv_if_ne (tgt := 53) hx hb dX8_isWord_46 (by decide) (fun c30 => ?_) (fun c30 => ?_)
                                · refine lv_iload hx hb dX8_isWord_53 (lv_at hl 0 rfl) ?_
                                  refine ta_iconst C 1 dX8_isWord_55 (by decide) ?_
                                  refine lv_icmp_ne (tgt := 63) hx hb dX8_isWord_56 (by decide) (fun c31 => ?_) (fun c31 => ?_)
                                  · refine lv_iload hx hb dX8_isWord_63 (lv_at hl 0 rfl) ?_
                                    refine ta_iconst C 2 dX8_isWord_65 (by decide) ?_
                                    refine lv_icmp_ne (tgt := 73) hx hb dX8_isWord_66 (by decide) (fun c32 => ?_) (fun c32 => ?_)
                                    · exact absurd c32 (by decide)
                                    · refine lv_iload_n hx hb dX8_isWord_69 rfl (lv_at hl 6 rfl) ?_
                                      refine lv_goto (tgt := 97) hx hb dX8_isWord_70 (by decide) ?_
                                      refine lv_istore (lv' := [(9, .int (nI 97)), (8, .int (nI 2)), (7, .int (nI 1)), (0, .ref (z 0)), (1, .int (nI 115)), (2, .int (nI 116)), (3, .int (nI 97)), (4, .int (nI 110)), (5, .int (nI 100)), (6, .int (nI 0))]) hx hb dX8_isWord_97 hl (by decide) rfl (fun ls hl => ?_)
                                      refine lv_aload_n hx hb dX8_isWord_99 rfl (lv_at hl 3 rfl) ?_
                                      refine ta_get C hP 0 inlX8 rfl rfl 13 (by decide) tw_304 rfl dX8_isWord_100 ?_
                                      refine lv_iload hx hb dX8_isWord_103 (lv_at hl 1 rfl) ?_
                                      refine ta_iadd C (a := tn_s tx L p0) (b := 2) dX8_isWord_105 ?_
                                      refine lv_aload_n hx hb dX8_isWord_106 rfl (lv_at hl 3 rfl) ?_
                                      refine ta_get C hP 0 inlX8 rfl rfl 11 (by decide) tw_309 rfl dX8_isWord_107 ?_
                                      refine ta_cge C (a := (tn_s tx L p0) + 2) (b := tn_e tx L p0) (tgt := 138) (by omega) (by omega) dX8_isWord_110 (by decide) (fun c33 => ?_) (fun c33 => ?_)
                                      · refine lv_iload hx hb dX8_isWord_138 (lv_at hl 0 rfl) ?_
                                        refine lv_if_ne (tgt := 147) hx hb dX8_isWord_140 (by decide) (fun c34 => ?_) (fun c34 => ?_)
                                        · refine ta_iconst C 0 dX8_isWord_147 (by decide) ?_
                                          refine lv_istore (lv' := [(7, .int (nI 0)), (9, .int (nI 97)), (8, .int (nI 2)), (0, .ref (z 0)), (1, .int (nI 115)), (2, .int (nI 116)), (3, .int (nI 97)), (4, .int (nI 110)), (5, .int (nI 100)), (6, .int (nI 0))]) hx hb dX8_isWord_148 hl (by decide) rfl (fun ls hl => ?_)
                                          refine lv_iinc (v := nI 3) (lv' := [(8, .int (nI 3)), (7, .int (nI 0)), (9, .int (nI 97)), (0, .ref (z 0)), (1, .int (nI 115)), (2, .int (nI 116)), (3, .int (nI 97)), (4, .int (nI 110)), (5, .int (nI 100)), (6, .int (nI 0))]) hx hb dX8_isWord_150 hl (k := 2) rfl (by decide) (by decide) rfl (fun ls hl => ?_)
                                          refine lv_goto (tgt := 32) hx hb dX8_isWord_153 (by decide) ?_
                                          refine lv_iload hx hb dX8_isWord_32 (lv_at hl 0 rfl) ?_
                                          refine ta_bipush C 6 dX8_isWord_34 (by decide) ?_
                                          refine lv_icmp_ge (tgt := 156) hx hb dX8_isWord_36 (by decide) (fun c35 => ?_) (fun c35 => ?_)
                                          · exact absurd c35 (by decide)
                                          · refine lv_iload hx hb dX8_isWord_39 (lv_at hl 1 rfl) ?_
                                            refine lv_if_eq (tgt := 156) hx hb dX8_isWord_41 (by decide) (fun c36 => ?_) (fun c36 => ?_)
                                            · refine lv_iload hx hb dX8_isWord_156 (lv_at hl 1 rfl) ?_
                                              have hnw : ¬ tk_is tx (tn_s tx L p0) (tn_e tx L p0) 1 := by
                                                intro h
                                                have h9 : tn_e tx L p0 - tn_s tx L p0 = 5 := h.1
                                                have h8 : tx (tn_s tx L p0 + 2) = 97 := h.2 2 (by decide)
                                                omega
                                              exact ret _ () dX8_isWord_158 (by decide) (Or.inr ⟨hnw, rfl⟩) hP hD hS
                                            · exact absurd c36 (by decide)
                                        · exact absurd c34 (by decide)
                                      · have hr2 := hrow (tn_s tx L p0 + 2) (by omega) (by omega)
                                        refine lv_aload_n hx hb dX8_isWord_113 rfl (lv_at hl 3 rfl) ?_
                                        refine ta_get C hP 0 inlX8 rfl rfl 0 (by decide) tw_125 rfl dX8_isWord_114 ?_
                                        refine lv_aload_n hx hb dX8_isWord_117 rfl (lv_at hl 3 rfl) ?_
                                        refine ta_get C hP 0 inlX8 rfl rfl 13 (by decide) tw_304 rfl dX8_isWord_118 ?_
                                        refine lv_iload hx hb dX8_isWord_121 (lv_at hl 1 rfl) ?_
                                        refine ta_iadd C (a := tn_s tx L p0) (b := 2) dX8_isWord_123 ?_
                                        refine ta_iald C hP 1 rfl (i := (tn_s tx L p0) + 2) (by omega) dX8_isWord_124 ?_
                                        refine lv_iload hx hb dX8_isWord_125 (lv_at hl 0 rfl) ?_
                                        refine ta_cne C (a := tx ((tn_s tx L p0) + 2)) (b := 97) (tgt := 134) (by omega) (by omega) dX8_isWord_127 (by decide) (fun c37 => ?_) (fun c37 => ?_)
                                        · refine ta_iconst C 0 dX8_isWord_134 (by decide) ?_
                                          refine lv_goto (tgt := 148) hx hb dX8_isWord_135 (by decide) ?_
                                          refine lv_istore (lv' := [(7, .int (nI 0)), (9, .int (nI 97)), (8, .int (nI 2)), (0, .ref (z 0)), (1, .int (nI 115)), (2, .int (nI 116)), (3, .int (nI 97)), (4, .int (nI 110)), (5, .int (nI 100)), (6, .int (nI 0))]) hx hb dX8_isWord_148 hl (by decide) rfl (fun ls hl => ?_)
                                          refine lv_iinc (v := nI 3) (lv' := [(8, .int (nI 3)), (7, .int (nI 0)), (9, .int (nI 97)), (0, .ref (z 0)), (1, .int (nI 115)), (2, .int (nI 116)), (3, .int (nI 97)), (4, .int (nI 110)), (5, .int (nI 100)), (6, .int (nI 0))]) hx hb dX8_isWord_150 hl (k := 2) rfl (by decide) (by decide) rfl (fun ls hl => ?_)
                                          refine lv_goto (tgt := 32) hx hb dX8_isWord_153 (by decide) ?_
                                          refine lv_iload hx hb dX8_isWord_32 (lv_at hl 0 rfl) ?_
                                          refine ta_bipush C 6 dX8_isWord_34 (by decide) ?_
                                          refine lv_icmp_ge (tgt := 156) hx hb dX8_isWord_36 (by decide) (fun c38 => ?_) (fun c38 => ?_)
                                          · exact absurd c38 (by decide)
                                          · refine lv_iload hx hb dX8_isWord_39 (lv_at hl 1 rfl) ?_
                                            refine lv_if_eq (tgt := 156) hx hb dX8_isWord_41 (by decide) (fun c39 => ?_) (fun c39 => ?_)
                                            · refine lv_iload hx hb dX8_isWord_156 (lv_at hl 1 rfl) ?_
                                              have hnw : ¬ tk_is tx (tn_s tx L p0) (tn_e tx L p0) 1 := by
                                                intro h
                                                have h9 : tn_e tx L p0 - tn_s tx L p0 = 5 := h.1
                                                have h8 : tx (tn_s tx L p0 + 2) = 97 := h.2 2 (by decide)
                                                omega
                                              exact ret _ () dX8_isWord_158 (by decide) (Or.inr ⟨hnw, rfl⟩) hP hD hS
                                            · exact absurd c39 (by decide)
                                        · refine ta_iconst C 1 dX8_isWord_130 (by decide) ?_
                                          refine lv_goto (tgt := 148) hx hb dX8_isWord_131 (by decide) ?_
                                          refine lv_istore (lv' := [(7, .int (nI 1)), (9, .int (nI 97)), (8, .int (nI 2)), (0, .ref (z 0)), (1, .int (nI 115)), (2, .int (nI 116)), (3, .int (nI 97)), (4, .int (nI 110)), (5, .int (nI 100)), (6, .int (nI 0))]) hx hb dX8_isWord_148 hl (by decide) rfl (fun ls hl => ?_)
                                          refine lv_iinc (v := nI 3) (lv' := [(8, .int (nI 3)), (7, .int (nI 1)), (9, .int (nI 97)), (0, .ref (z 0)), (1, .int (nI 115)), (2, .int (nI 116)), (3, .int (nI 97)), (4, .int (nI 110)), (5, .int (nI 100)), (6, .int (nI 0))]) hx hb dX8_isWord_150 hl (k := 2) rfl (by decide) (by decide) rfl (fun ls hl => ?_)
                                          refine lv_goto (tgt := 32) hx hb dX8_isWord_153 (by decide) ?_
                                          refine lv_iload hx hb dX8_isWord_32 (lv_at hl 0 rfl) ?_
                                          refine ta_bipush C 6 dX8_isWord_34 (by decide) ?_
                                          refine lv_icmp_ge (tgt := 156) hx hb dX8_isWord_36 (by decide) (fun c40 => ?_) (fun c40 => ?_)
                                          · exact absurd c40 (by decide)
                                          · refine lv_iload hx hb dX8_isWord_39 (lv_at hl 1 rfl) ?_
                                            refine lv_if_eq (tgt := 156) hx hb dX8_isWord_41 (by decide) (fun c41 => ?_) (fun c41 => ?_)
                                            · exact absurd c41 (by decide)
                                            · refine lv_iload hx hb dX8_isWord_44 (lv_at hl 0 rfl) ?_
                                              refine lv_if_ne (tgt := 53) hx hb dX8_isWord_46 (by decide) (fun c42 => ?_) (fun c42 => ?_)
                                              · refine lv_iload hx hb dX8_isWord_53 (lv_at hl 0 rfl) ?_
                                                refine ta_iconst C 1 dX8_isWord_55 (by decide) ?_
                                                refine lv_icmp_ne (tgt := 63) hx hb dX8_isWord_56 (by decide) (fun c43 => ?_) (fun c43 => ?_)
                                                · refine lv_iload hx hb dX8_isWord_63 (lv_at hl 0 rfl) ?_
                                                  refine ta_iconst C 2 dX8_isWord_65 (by decide) ?_
                                                  refine lv_icmp_ne (tgt := 73) hx hb dX8_isWord_66 (by decide) (fun c44 => ?_) (fun c44 => ?_)
                                                  · refine lv_iload hx hb dX8_isWord_73 (lv_at hl 0 rfl) ?_
                                                    refine ta_iconst C 3 dX8_isWord_75 (by decide) ?_
                                                    refine lv_icmp_ne (tgt := 84) hx hb dX8_isWord_76 (by decide) (fun c45 => ?_) (fun c45 => ?_)
                                                    · exact absurd c45 (by decide)
                                                    · refine lv_iload hx hb dX8_isWord_79 (lv_at hl 7 rfl) ?_
                                                      refine lv_goto (tgt := 97) hx hb dX8_isWord_81 (by decide) ?_
                                                      refine lv_istore (lv' := [(9, .int (nI 110)), (8, .int (nI 3)), (7, .int (nI 1)), (0, .ref (z 0)), (1, .int (nI 115)), (2, .int (nI 116)), (3, .int (nI 97)), (4, .int (nI 110)), (5, .int (nI 100)), (6, .int (nI 0))]) hx hb dX8_isWord_97 hl (by decide) rfl (fun ls hl => ?_)
                                                      refine lv_aload_n hx hb dX8_isWord_99 rfl (lv_at hl 3 rfl) ?_
                                                      refine ta_get C hP 0 inlX8 rfl rfl 13 (by decide) tw_304 rfl dX8_isWord_100 ?_
                                                      refine lv_iload hx hb dX8_isWord_103 (lv_at hl 1 rfl) ?_
                                                      refine ta_iadd C (a := tn_s tx L p0) (b := 3) dX8_isWord_105 ?_
                                                      refine lv_aload_n hx hb dX8_isWord_106 rfl (lv_at hl 3 rfl) ?_
                                                      refine ta_get C hP 0 inlX8 rfl rfl 11 (by decide) tw_309 rfl dX8_isWord_107 ?_
                                                      refine ta_cge C (a := (tn_s tx L p0) + 3) (b := tn_e tx L p0) (tgt := 138) (by omega) (by omega) dX8_isWord_110 (by decide) (fun c46 => ?_) (fun c46 => ?_)
                                                      · refine lv_iload hx hb dX8_isWord_138 (lv_at hl 0 rfl) ?_
                                                        refine lv_if_ne (tgt := 147) hx hb dX8_isWord_140 (by decide) (fun c47 => ?_) (fun c47 => ?_)
                                                        · refine ta_iconst C 0 dX8_isWord_147 (by decide) ?_
                                                          refine lv_istore (lv' := [(7, .int (nI 0)), (9, .int (nI 110)), (8, .int (nI 3)), (0, .ref (z 0)), (1, .int (nI 115)), (2, .int (nI 116)), (3, .int (nI 97)), (4, .int (nI 110)), (5, .int (nI 100)), (6, .int (nI 0))]) hx hb dX8_isWord_148 hl (by decide) rfl (fun ls hl => ?_)
                                                          refine lv_iinc (v := nI 4) (lv' := [(8, .int (nI 4)), (7, .int (nI 0)), (9, .int (nI 110)), (0, .ref (z 0)), (1, .int (nI 115)), (2, .int (nI 116)), (3, .int (nI 97)), (4, .int (nI 110)), (5, .int (nI 100)), (6, .int (nI 0))]) hx hb dX8_isWord_150 hl (k := 2) rfl (by decide) (by decide) rfl (fun ls hl => ?_)
                                                          refine lv_goto (tgt := 32) hx hb dX8_isWord_153 (by decide) ?_
                                                          refine lv_iload hx hb dX8_isWord_32 (lv_at hl 0 rfl) ?_
                                                          refine ta_bipush C 6 dX8_isWord_34 (by decide) ?_
                                                          refine lv_icmp_ge (tgt := 156) hx hb dX8_isWord_36 (by decide) (fun c48 => ?_) (fun c48 => ?_)
                                                          · exact absurd c48 (by decide)
                                                          · refine lv_iload hx hb dX8_isWord_39 (lv_at hl 1 rfl) ?_
                                                            refine lv_if_eq (tgt := 156) hx hb dX8_isWord_41 (by decide) (fun c49 => ?_) (fun c49 => ?_)
                                                            · refine lv_iload hx hb dX8_isWord_156 (lv_at hl 1 rfl) ?_
                                                              have hnw : ¬ tk_is tx (tn_s tx L p0) (tn_e tx L p0) 1 := by
                                                                intro h
                                                                have h9 : tn_e tx L p0 - tn_s tx L p0 = 5 := h.1
                                                                have h8 : tx (tn_s tx L p0 + 3) = 110 := h.2 3 (by decide)
                                                                omega
                                                              exact ret _ () dX8_isWord_158 (by decide) (Or.inr ⟨hnw, rfl⟩) hP hD hS
                                                            · exact absurd c49 (by decide)
                                                        · exact absurd c47 (by decide)
                                                      · have hr3 := hrow (tn_s tx L p0 + 3) (by omega) (by omega)
                                                        refine lv_aload_n hx hb dX8_isWord_113 rfl (lv_at hl 3 rfl) ?_
                                                        refine ta_get C hP 0 inlX8 rfl rfl 0 (by decide) tw_125 rfl dX8_isWord_114 ?_
                                                        refine lv_aload_n hx hb dX8_isWord_117 rfl (lv_at hl 3 rfl) ?_
                                                        refine ta_get C hP 0 inlX8 rfl rfl 13 (by decide) tw_304 rfl dX8_isWord_118 ?_
                                                        refine lv_iload hx hb dX8_isWord_121 (lv_at hl 1 rfl) ?_
                                                        refine ta_iadd C (a := tn_s tx L p0) (b := 3) dX8_isWord_123 ?_
                                                        refine ta_iald C hP 1 rfl (i := (tn_s tx L p0) + 3) (by omega) dX8_isWord_124 ?_
                                                        refine lv_iload hx hb dX8_isWord_125 (lv_at hl 0 rfl) ?_
                                                        refine ta_cne C (a := tx ((tn_s tx L p0) + 3)) (b := 110) (tgt := 134) (by omega) (by omega) dX8_isWord_127 (by decide) (fun c50 => ?_) (fun c50 => ?_)
                                                        · refine ta_iconst C 0 dX8_isWord_134 (by decide) ?_
                                                          refine lv_goto (tgt := 148) hx hb dX8_isWord_135 (by decide) ?_
                                                          refine lv_istore (lv' := [(7, .int (nI 0)), (9, .int (nI 110)), (8, .int (nI 3)), (0, .ref (z 0)), (1, .int (nI 115)), (2, .int (nI 116)), (3, .int (nI 97)), (4, .int (nI 110)), (5, .int (nI 100)), (6, .int (nI 0))]) hx hb dX8_isWord_148 hl (by decide) rfl (fun ls hl => ?_)
                                                          refine lv_iinc (v := nI 4) (lv' := [(8, .int (nI 4)), (7, .int (nI 0)), (9, .int (nI 110)), (0, .ref (z 0)), (1, .int (nI 115)), (2, .int (nI 116)), (3, .int (nI 97)), (4, .int (nI 110)), (5, .int (nI 100)), (6, .int (nI 0))]) hx hb dX8_isWord_150 hl (k := 2) rfl (by decide) (by decide) rfl (fun ls hl => ?_)
                                                          refine lv_goto (tgt := 32) hx hb dX8_isWord_153 (by decide) ?_
                                                          refine lv_iload hx hb dX8_isWord_32 (lv_at hl 0 rfl) ?_
                                                          refine ta_bipush C 6 dX8_isWord_34 (by decide) ?_
                                                          refine lv_icmp_ge (tgt := 156) hx hb dX8_isWord_36 (by decide) (fun c51 => ?_) (fun c51 => ?_)
                                                          · exact absurd c51 (by decide)
                                                          · refine lv_iload hx hb dX8_isWord_39 (lv_at hl 1 rfl) ?_
                                                            refine lv_if_eq (tgt := 156) hx hb dX8_isWord_41 (by decide) (fun c52 => ?_) (fun c52 => ?_)
                                                            · refine lv_iload hx hb dX8_isWord_156 (lv_at hl 1 rfl) ?_
                                                              have hnw : ¬ tk_is tx (tn_s tx L p0) (tn_e tx L p0) 1 := by
                                                                intro h
                                                                have h9 : tn_e tx L p0 - tn_s tx L p0 = 5 := h.1
                                                                have h8 : tx (tn_s tx L p0 + 3) = 110 := h.2 3 (by decide)
                                                                omega
                                                              exact ret _ () dX8_isWord_158 (by decide) (Or.inr ⟨hnw, rfl⟩) hP hD hS
                                                            · exact absurd c52 (by decide)
                                                        · refine ta_iconst C 1 dX8_isWord_130 (by decide) ?_
                                                          refine lv_goto (tgt := 148) hx hb dX8_isWord_131 (by decide) ?_
                                                          refine lv_istore (lv' := [(7, .int (nI 1)), (9, .int (nI 110)), (8, .int (nI 3)), (0, .ref (z 0)), (1, .int (nI 115)), (2, .int (nI 116)), (3, .int (nI 97)), (4, .int (nI 110)), (5, .int (nI 100)), (6, .int (nI 0))]) hx hb dX8_isWord_148 hl (by decide) rfl (fun ls hl => ?_)
                                                          refine lv_iinc (v := nI 4) (lv' := [(8, .int (nI 4)), (7, .int (nI 1)), (9, .int (nI 110)), (0, .ref (z 0)), (1, .int (nI 115)), (2, .int (nI 116)), (3, .int (nI 97)), (4, .int (nI 110)), (5, .int (nI 100)), (6, .int (nI 0))]) hx hb dX8_isWord_150 hl (k := 2) rfl (by decide) (by decide) rfl (fun ls hl => ?_)
                                                          refine lv_goto (tgt := 32) hx hb dX8_isWord_153 (by decide) ?_
                                                          refine lv_iload hx hb dX8_isWord_32 (lv_at hl 0 rfl) ?_
                                                          refine ta_bipush C 6 dX8_isWord_34 (by decide) ?_
                                                          refine lv_icmp_ge (tgt := 156) hx hb dX8_isWord_36 (by decide) (fun c53 => ?_) (fun c53 => ?_)
                                                          · exact absurd c53 (by decide)
                                                          · refine lv_iload hx hb dX8_isWord_39 (lv_at hl 1 rfl) ?_
                                                            refine lv_if_eq (tgt := 156) hx hb dX8_isWord_41 (by decide) (fun c54 => ?_) (fun c54 => ?_)
                                                            · exact absurd c54 (by decide)
                                                            · refine lv_iload hx hb dX8_isWord_44 (lv_at hl 0 rfl) ?_
                                                              refine lv_if_ne (tgt := 53) hx hb dX8_isWord_46 (by decide) (fun c55 => ?_) (fun c55 => ?_)
                                                              · refine lv_iload hx hb dX8_isWord_53 (lv_at hl 0 rfl) ?_
                                                                refine ta_iconst C 1 dX8_isWord_55 (by decide) ?_
                                                                refine lv_icmp_ne (tgt := 63) hx hb dX8_isWord_56 (by decide) (fun c56 => ?_) (fun c56 => ?_)
                                                                · refine lv_iload hx hb dX8_isWord_63 (lv_at hl 0 rfl) ?_
                                                                  refine ta_iconst C 2 dX8_isWord_65 (by decide) ?_
                                                                  refine lv_icmp_ne (tgt := 73) hx hb dX8_isWord_66 (by decide) (fun c57 => ?_) (fun c57 => ?_)
                                                                  · refine lv_iload hx hb dX8_isWord_73 (lv_at hl 0 rfl) ?_
                                                                    refine ta_iconst C 3 dX8_isWord_75 (by decide) ?_
                                                                    refine lv_icmp_ne (tgt := 84) hx hb dX8_isWord_76 (by decide) (fun c58 => ?_) (fun c58 => ?_)
                                                                    · refine lv_iload hx hb dX8_isWord_84 (lv_at hl 0 rfl) ?_
                                                                      refine ta_iconst C 4 dX8_isWord_86 (by decide) ?_
                                                                      refine lv_icmp_ne (tgt := 95) hx hb dX8_isWord_87 (by decide) (fun c59 => ?_) (fun c59 => ?_)
                                                                      · exact absurd c59 (by decide)
                                                                      · refine lv_iload hx hb dX8_isWord_90 (lv_at hl 8 rfl) ?_
                                                                        refine lv_goto (tgt := 97) hx hb dX8_isWord_92 (by decide) ?_
                                                                        refine lv_istore (lv' := [(9, .int (nI 100)), (8, .int (nI 4)), (7, .int (nI 1)), (0, .ref (z 0)), (1, .int (nI 115)), (2, .int (nI 116)), (3, .int (nI 97)), (4, .int (nI 110)), (5, .int (nI 100)), (6, .int (nI 0))]) hx hb dX8_isWord_97 hl (by decide) rfl (fun ls hl => ?_)
                                                                        refine lv_aload_n hx hb dX8_isWord_99 rfl (lv_at hl 3 rfl) ?_
                                                                        refine ta_get C hP 0 inlX8 rfl rfl 13 (by decide) tw_304 rfl dX8_isWord_100 ?_
                                                                        refine lv_iload hx hb dX8_isWord_103 (lv_at hl 1 rfl) ?_
                                                                        refine ta_iadd C (a := tn_s tx L p0) (b := 4) dX8_isWord_105 ?_
                                                                        refine lv_aload_n hx hb dX8_isWord_106 rfl (lv_at hl 3 rfl) ?_
                                                                        refine ta_get C hP 0 inlX8 rfl rfl 11 (by decide) tw_309 rfl dX8_isWord_107 ?_
                                                                        refine ta_cge C (a := (tn_s tx L p0) + 4) (b := tn_e tx L p0) (tgt := 138) (by omega) (by omega) dX8_isWord_110 (by decide) (fun c60 => ?_) (fun c60 => ?_)
                                                                        · refine lv_iload hx hb dX8_isWord_138 (lv_at hl 0 rfl) ?_
                                                                          refine lv_if_ne (tgt := 147) hx hb dX8_isWord_140 (by decide) (fun c61 => ?_) (fun c61 => ?_)
                                                                          · refine ta_iconst C 0 dX8_isWord_147 (by decide) ?_
                                                                            refine lv_istore (lv' := [(7, .int (nI 0)), (9, .int (nI 100)), (8, .int (nI 4)), (0, .ref (z 0)), (1, .int (nI 115)), (2, .int (nI 116)), (3, .int (nI 97)), (4, .int (nI 110)), (5, .int (nI 100)), (6, .int (nI 0))]) hx hb dX8_isWord_148 hl (by decide) rfl (fun ls hl => ?_)
                                                                            refine lv_iinc (v := nI 5) (lv' := [(8, .int (nI 5)), (7, .int (nI 0)), (9, .int (nI 100)), (0, .ref (z 0)), (1, .int (nI 115)), (2, .int (nI 116)), (3, .int (nI 97)), (4, .int (nI 110)), (5, .int (nI 100)), (6, .int (nI 0))]) hx hb dX8_isWord_150 hl (k := 2) rfl (by decide) (by decide) rfl (fun ls hl => ?_)
                                                                            refine lv_goto (tgt := 32) hx hb dX8_isWord_153 (by decide) ?_
                                                                            refine lv_iload hx hb dX8_isWord_32 (lv_at hl 0 rfl) ?_
                                                                            refine ta_bipush C 6 dX8_isWord_34 (by decide) ?_
                                                                            refine lv_icmp_ge (tgt := 156) hx hb dX8_isWord_36 (by decide) (fun c62 => ?_) (fun c62 => ?_)
                                                                            · exact absurd c62 (by decide)
                                                                            · refine lv_iload hx hb dX8_isWord_39 (lv_at hl 1 rfl) ?_
                                                                              refine lv_if_eq (tgt := 156) hx hb dX8_isWord_41 (by decide) (fun c63 => ?_) (fun c63 => ?_)
                                                                              · refine lv_iload hx hb dX8_isWord_156 (lv_at hl 1 rfl) ?_
                                                                                have hnw : ¬ tk_is tx (tn_s tx L p0) (tn_e tx L p0) 1 := by
                                                                                  intro h
                                                                                  have h9 : tn_e tx L p0 - tn_s tx L p0 = 5 := h.1
                                                                                  have h8 : tx (tn_s tx L p0 + 4) = 100 := h.2 4 (by decide)
                                                                                  omega
                                                                                exact ret _ () dX8_isWord_158 (by decide) (Or.inr ⟨hnw, rfl⟩) hP hD hS
                                                                              · exact absurd c63 (by decide)
                                                                          · exact absurd c61 (by decide)
                                                                        · have hr4 := hrow (tn_s tx L p0 + 4) (by omega) (by omega)
                                                                          refine lv_aload_n hx hb dX8_isWord_113 rfl (lv_at hl 3 rfl) ?_
                                                                          refine ta_get C hP 0 inlX8 rfl rfl 0 (by decide) tw_125 rfl dX8_isWord_114 ?_
                                                                          refine lv_aload_n hx hb dX8_isWord_117 rfl (lv_at hl 3 rfl) ?_
                                                                          refine ta_get C hP 0 inlX8 rfl rfl 13 (by decide) tw_304 rfl dX8_isWord_118 ?_
                                                                          refine lv_iload hx hb dX8_isWord_121 (lv_at hl 1 rfl) ?_
                                                                          refine ta_iadd C (a := tn_s tx L p0) (b := 4) dX8_isWord_123 ?_
                                                                          refine ta_iald C hP 1 rfl (i := (tn_s tx L p0) + 4) (by omega) dX8_isWord_124 ?_
                                                                          refine lv_iload hx hb dX8_isWord_125 (lv_at hl 0 rfl) ?_
                                                                          refine ta_cne C (a := tx ((tn_s tx L p0) + 4)) (b := 100) (tgt := 134) (by omega) (by omega) dX8_isWord_127 (by decide) (fun c64 => ?_) (fun c64 => ?_)
                                                                          · refine ta_iconst C 0 dX8_isWord_134 (by decide) ?_
                                                                            refine lv_goto (tgt := 148) hx hb dX8_isWord_135 (by decide) ?_
                                                                            refine lv_istore (lv' := [(7, .int (nI 0)), (9, .int (nI 100)), (8, .int (nI 4)), (0, .ref (z 0)), (1, .int (nI 115)), (2, .int (nI 116)), (3, .int (nI 97)), (4, .int (nI 110)), (5, .int (nI 100)), (6, .int (nI 0))]) hx hb dX8_isWord_148 hl (by decide) rfl (fun ls hl => ?_)
                                                                            refine lv_iinc (v := nI 5) (lv' := [(8, .int (nI 5)), (7, .int (nI 0)), (9, .int (nI 100)), (0, .ref (z 0)), (1, .int (nI 115)), (2, .int (nI 116)), (3, .int (nI 97)), (4, .int (nI 110)), (5, .int (nI 100)), (6, .int (nI 0))]) hx hb dX8_isWord_150 hl (k := 2) rfl (by decide) (by decide) rfl (fun ls hl => ?_)
                                                                            refine lv_goto (tgt := 32) hx hb dX8_isWord_153 (by decide) ?_
                                                                            refine lv_iload hx hb dX8_isWord_32 (lv_at hl 0 rfl) ?_
                                                                            refine ta_bipush C 6 dX8_isWord_34 (by decide) ?_
                                                                            refine lv_icmp_ge (tgt := 156) hx hb dX8_isWord_36 (by decide) (fun c65 => ?_) (fun c65 => ?_)
                                                                            · exact absurd c65 (by decide)
                                                                            · refine lv_iload hx hb dX8_isWord_39 (lv_at hl 1 rfl) ?_
                                                                              refine lv_if_eq (tgt := 156) hx hb dX8_isWord_41 (by decide) (fun c66 => ?_) (fun c66 => ?_)
                                                                              · refine lv_iload hx hb dX8_isWord_156 (lv_at hl 1 rfl) ?_
                                                                                have hnw : ¬ tk_is tx (tn_s tx L p0) (tn_e tx L p0) 1 := by
                                                                                  intro h
                                                                                  have h9 : tn_e tx L p0 - tn_s tx L p0 = 5 := h.1
                                                                                  have h8 : tx (tn_s tx L p0 + 4) = 100 := h.2 4 (by decide)
                                                                                  omega
                                                                                exact ret _ () dX8_isWord_158 (by decide) (Or.inr ⟨hnw, rfl⟩) hP hD hS
                                                                              · exact absurd c66 (by decide)
                                                                          · refine ta_iconst C 1 dX8_isWord_130 (by decide) ?_
                                                                            refine lv_goto (tgt := 148) hx hb dX8_isWord_131 (by decide) ?_
                                                                            refine lv_istore (lv' := [(7, .int (nI 1)), (9, .int (nI 100)), (8, .int (nI 4)), (0, .ref (z 0)), (1, .int (nI 115)), (2, .int (nI 116)), (3, .int (nI 97)), (4, .int (nI 110)), (5, .int (nI 100)), (6, .int (nI 0))]) hx hb dX8_isWord_148 hl (by decide) rfl (fun ls hl => ?_)
                                                                            refine lv_iinc (v := nI 5) (lv' := [(8, .int (nI 5)), (7, .int (nI 1)), (9, .int (nI 100)), (0, .ref (z 0)), (1, .int (nI 115)), (2, .int (nI 116)), (3, .int (nI 97)), (4, .int (nI 110)), (5, .int (nI 100)), (6, .int (nI 0))]) hx hb dX8_isWord_150 hl (k := 2) rfl (by decide) (by decide) rfl (fun ls hl => ?_)
                                                                            refine lv_goto (tgt := 32) hx hb dX8_isWord_153 (by decide) ?_
                                                                            refine lv_iload hx hb dX8_isWord_32 (lv_at hl 0 rfl) ?_
                                                                            refine ta_bipush C 6 dX8_isWord_34 (by decide) ?_
                                                                            refine lv_icmp_ge (tgt := 156) hx hb dX8_isWord_36 (by decide) (fun c67 => ?_) (fun c67 => ?_)
                                                                            · exact absurd c67 (by decide)
                                                                            · refine lv_iload hx hb dX8_isWord_39 (lv_at hl 1 rfl) ?_
                                                                              refine lv_if_eq (tgt := 156) hx hb dX8_isWord_41 (by decide) (fun c68 => ?_) (fun c68 => ?_)
                                                                              · exact absurd c68 (by decide)
                                                                              · refine lv_iload hx hb dX8_isWord_44 (lv_at hl 0 rfl) ?_
                                                                                refine lv_if_ne (tgt := 53) hx hb dX8_isWord_46 (by decide) (fun c69 => ?_) (fun c69 => ?_)
                                                                                · refine lv_iload hx hb dX8_isWord_53 (lv_at hl 0 rfl) ?_
                                                                                  refine ta_iconst C 1 dX8_isWord_55 (by decide) ?_
                                                                                  refine lv_icmp_ne (tgt := 63) hx hb dX8_isWord_56 (by decide) (fun c70 => ?_) (fun c70 => ?_)
                                                                                  · refine lv_iload hx hb dX8_isWord_63 (lv_at hl 0 rfl) ?_
                                                                                    refine ta_iconst C 2 dX8_isWord_65 (by decide) ?_
                                                                                    refine lv_icmp_ne (tgt := 73) hx hb dX8_isWord_66 (by decide) (fun c71 => ?_) (fun c71 => ?_)
                                                                                    · refine lv_iload hx hb dX8_isWord_73 (lv_at hl 0 rfl) ?_
                                                                                      refine ta_iconst C 3 dX8_isWord_75 (by decide) ?_
                                                                                      refine lv_icmp_ne (tgt := 84) hx hb dX8_isWord_76 (by decide) (fun c72 => ?_) (fun c72 => ?_)
                                                                                      · refine lv_iload hx hb dX8_isWord_84 (lv_at hl 0 rfl) ?_
                                                                                        refine ta_iconst C 4 dX8_isWord_86 (by decide) ?_
                                                                                        refine lv_icmp_ne (tgt := 95) hx hb dX8_isWord_87 (by decide) (fun c73 => ?_) (fun c73 => ?_)
                                                                                        · refine lv_iload hx hb dX8_isWord_95 (lv_at hl 9 rfl) ?_
                                                                                          refine lv_istore (lv' := [(9, .int (nI 0)), (8, .int (nI 5)), (7, .int (nI 1)), (0, .ref (z 0)), (1, .int (nI 115)), (2, .int (nI 116)), (3, .int (nI 97)), (4, .int (nI 110)), (5, .int (nI 100)), (6, .int (nI 0))]) hx hb dX8_isWord_97 hl (by decide) rfl (fun ls hl => ?_)
                                                                                          refine lv_aload_n hx hb dX8_isWord_99 rfl (lv_at hl 3 rfl) ?_
                                                                                          refine ta_get C hP 0 inlX8 rfl rfl 13 (by decide) tw_304 rfl dX8_isWord_100 ?_
                                                                                          refine lv_iload hx hb dX8_isWord_103 (lv_at hl 1 rfl) ?_
                                                                                          refine ta_iadd C (a := tn_s tx L p0) (b := 5) dX8_isWord_105 ?_
                                                                                          refine lv_aload_n hx hb dX8_isWord_106 rfl (lv_at hl 3 rfl) ?_
                                                                                          refine ta_get C hP 0 inlX8 rfl rfl 11 (by decide) tw_309 rfl dX8_isWord_107 ?_
                                                                                          refine ta_cge C (a := (tn_s tx L p0) + 5) (b := tn_e tx L p0) (tgt := 138) (by omega) (by omega) dX8_isWord_110 (by decide) (fun c74 => ?_) (fun c74 => ?_)
                                                                                          · refine lv_iload hx hb dX8_isWord_138 (lv_at hl 0 rfl) ?_
                                                                                            refine lv_if_ne (tgt := 147) hx hb dX8_isWord_140 (by decide) (fun c75 => ?_) (fun c75 => ?_)
                                                                                            · exact absurd c75 (by decide)
                                                                                            · refine ta_iconst C 1 dX8_isWord_143 (by decide) ?_
                                                                                              refine lv_goto (tgt := 148) hx hb dX8_isWord_144 (by decide) ?_
                                                                                              refine lv_istore (lv' := [(7, .int (nI 1)), (9, .int (nI 0)), (8, .int (nI 5)), (0, .ref (z 0)), (1, .int (nI 115)), (2, .int (nI 116)), (3, .int (nI 97)), (4, .int (nI 110)), (5, .int (nI 100)), (6, .int (nI 0))]) hx hb dX8_isWord_148 hl (by decide) rfl (fun ls hl => ?_)
                                                                                              refine lv_iinc (v := nI 6) (lv' := [(8, .int (nI 6)), (7, .int (nI 1)), (9, .int (nI 0)), (0, .ref (z 0)), (1, .int (nI 115)), (2, .int (nI 116)), (3, .int (nI 97)), (4, .int (nI 110)), (5, .int (nI 100)), (6, .int (nI 0))]) hx hb dX8_isWord_150 hl (k := 2) rfl (by decide) (by decide) rfl (fun ls hl => ?_)
                                                                                              refine lv_goto (tgt := 32) hx hb dX8_isWord_153 (by decide) ?_
                                                                                              refine lv_iload hx hb dX8_isWord_32 (lv_at hl 0 rfl) ?_
                                                                                              refine ta_bipush C 6 dX8_isWord_34 (by decide) ?_
                                                                                              refine lv_icmp_ge (tgt := 156) hx hb dX8_isWord_36 (by decide) (fun c76 => ?_) (fun c76 => ?_)
                                                                                              · refine lv_iload hx hb dX8_isWord_156 (lv_at hl 1 rfl) ?_
                                                                                                have hw : tk_is tx (tn_s tx L p0) (tn_e tx L p0) 1 := by
                                                                                                  refine ⟨show tn_e tx L p0 - tn_s tx L p0 = 5 by omega, fun j hj => ?_⟩
                                                                                                  have hj : j < 5 := hj
                                                                                                  rcases (show j = 0 ∨ j = 1 ∨ j = 2 ∨ j = 3 ∨ j = 4 by omega) with rfl | rfl | rfl | rfl | rfl
                                                                                                  · show tx (tn_s tx L p0 + 0) = 115; omega
                                                                                                  · show tx (tn_s tx L p0 + 1) = 116; omega
                                                                                                  · show tx (tn_s tx L p0 + 2) = 97; omega
                                                                                                  · show tx (tn_s tx L p0 + 3) = 110; omega
                                                                                                  · show tx (tn_s tx L p0 + 4) = 100; omega
                                                                                                exact ret _ () dX8_isWord_158 (by decide) (Or.inl ⟨hw, rfl⟩) hP hD hS
                                                                                              · exact absurd c76 (by decide)
                                                                                          · have hr5 := hrow (tn_s tx L p0 + 5) (by omega) (by omega)
                                                                                            refine lv_aload_n hx hb dX8_isWord_113 rfl (lv_at hl 3 rfl) ?_
                                                                                            refine ta_get C hP 0 inlX8 rfl rfl 0 (by decide) tw_125 rfl dX8_isWord_114 ?_
                                                                                            refine lv_aload_n hx hb dX8_isWord_117 rfl (lv_at hl 3 rfl) ?_
                                                                                            refine ta_get C hP 0 inlX8 rfl rfl 13 (by decide) tw_304 rfl dX8_isWord_118 ?_
                                                                                            refine lv_iload hx hb dX8_isWord_121 (lv_at hl 1 rfl) ?_
                                                                                            refine ta_iadd C (a := tn_s tx L p0) (b := 5) dX8_isWord_123 ?_
                                                                                            refine ta_iald C hP 1 rfl (i := (tn_s tx L p0) + 5) (by omega) dX8_isWord_124 ?_
                                                                                            refine lv_iload hx hb dX8_isWord_125 (lv_at hl 0 rfl) ?_
                                                                                            refine ta_cne C (a := tx ((tn_s tx L p0) + 5)) (b := 0) (tgt := 134) (by omega) (by omega) dX8_isWord_127 (by decide) (fun c77 => ?_) (fun c77 => ?_)
                                                                                            · refine ta_iconst C 0 dX8_isWord_134 (by decide) ?_
                                                                                              refine lv_goto (tgt := 148) hx hb dX8_isWord_135 (by decide) ?_
                                                                                              refine lv_istore (lv' := [(7, .int (nI 0)), (9, .int (nI 0)), (8, .int (nI 5)), (0, .ref (z 0)), (1, .int (nI 115)), (2, .int (nI 116)), (3, .int (nI 97)), (4, .int (nI 110)), (5, .int (nI 100)), (6, .int (nI 0))]) hx hb dX8_isWord_148 hl (by decide) rfl (fun ls hl => ?_)
                                                                                              refine lv_iinc (v := nI 6) (lv' := [(8, .int (nI 6)), (7, .int (nI 0)), (9, .int (nI 0)), (0, .ref (z 0)), (1, .int (nI 115)), (2, .int (nI 116)), (3, .int (nI 97)), (4, .int (nI 110)), (5, .int (nI 100)), (6, .int (nI 0))]) hx hb dX8_isWord_150 hl (k := 2) rfl (by decide) (by decide) rfl (fun ls hl => ?_)
                                                                                              refine lv_goto (tgt := 32) hx hb dX8_isWord_153 (by decide) ?_
                                                                                              refine lv_iload hx hb dX8_isWord_32 (lv_at hl 0 rfl) ?_
                                                                                              refine ta_bipush C 6 dX8_isWord_34 (by decide) ?_
                                                                                              refine lv_icmp_ge (tgt := 156) hx hb dX8_isWord_36 (by decide) (fun c78 => ?_) (fun c78 => ?_)
                                                                                              · refine lv_iload hx hb dX8_isWord_156 (lv_at hl 1 rfl) ?_
                                                                                                have hnw : ¬ tk_is tx (tn_s tx L p0) (tn_e tx L p0) 1 := by
                                                                                                  intro h
                                                                                                  have h9 : tn_e tx L p0 - tn_s tx L p0 = 5 := h.1
                                                                                                  omega
                                                                                                exact ret _ () dX8_isWord_158 (by decide) (Or.inr ⟨hnw, rfl⟩) hP hD hS
                                                                                              · exact absurd c78 (by decide)
                                                                                            · exfalso; omega
                                                                                        · exact absurd c73 (by decide)
                                                                                      · exact absurd c72 (by decide)
                                                                                    · exact absurd c71 (by decide)
                                                                                  · exact absurd c70 (by decide)
                                                                                · exact absurd c69 (by decide)
                                                                    · exact absurd c58 (by decide)
                                                                  · exact absurd c57 (by decide)
                                                                · exact absurd c56 (by decide)
                                                              · exact absurd c55 (by decide)
                                                  · exact absurd c44 (by decide)
                                                · exact absurd c43 (by decide)
                                              · exact absurd c42 (by decide)
                                  · exact absurd c31 (by decide)
                                · exact absurd c30 (by decide)
                    · exact absurd c19 (by decide)

set_option maxHeartbeats 4000000 in
set_option maxRecDepth 100000 in
theorem c_X8_isWord_2 (l : Launch) (D : va_G) (k : ta_C) (z : Nat → Nat) (kn : Nat) (no : Nat) (va : Nat) (L : Nat) (tx : Nat → Nat) (p0 : Nat) (hx0 : tx_ok tx L) (hp0 : p0 ≤ L) : ta_Mi (S := Unit) l D k yX8_isWord cX8_isWord 10 .boolean 0 0 [.ref (z 0), .int (nI 104), .int (nI 111), .int (nI 117), .int (nI 114), .int (nI 0), .int (nI 0)] [(z 0, .inr (8, [.ref (z 1), .int (nI L), .ref (z 2), .ref (z 3), .ref (z 4), .ref (z 5), .int (nI kn), .ref (z 6), .ref (z 7), .ref (z 8), .int (nI no), .int (nI (tn_e tx L p0)), .int (nI (mo_s tx L p0)), .int (nI (tn_s tx L p0)), .int (nI va), .ref (z 9)])), (z 1, .inl (k.1 0, 160, .inl (ta_e tx)))] (fun r _ => (tk_is tx (tn_s tx L p0) (tn_e tx L p0) 2 ∧ r = nI 1) ∨ (¬ tk_is tx (tn_s tx L p0) (tn_e tx L p0) 2 ∧ r = nI 0)) (fun u => [(z 0, .inr (8, [.ref (z 1), .int (nI L), .ref (z 2), .ref (z 3), .ref (z 4), .ref (z 5), .int (nI kn), .ref (z 6), .ref (z 7), .ref (z 8), .int (nI no), .int (nI (tn_e tx L p0)), .int (nI (mo_s tx L p0)), .int (nI (tn_s tx L p0)), .int (nI va), .ref (z 9)])), (z 1, .inl (k.1 0, 160, .inl (ta_e tx)))]) := by
  refine ta_enter_i (by decide) (Nat.le_of_ble_eq_true rfl) ?_
  intro p e s m below meth c A ls Q C ret hP hD hS hl
  have C : ta_At p l D k s m ([.ref (z 0), .int (nI 104), .int (nI 111), .int (nI 117), .int (nI 114), .int (nI 0), .int (nI 0)] : List Value).toArray c RX8 cX8_isWord 10 A := C
  have hx := C.1.1
  have hb := C.1.2.1
  have hl : lv_has ls 10 [(0, .ref (z 0)), (1, .int (nI 104)), (2, .int (nI 111)), (3, .int (nI 117)), (4, .int (nI 114)), (5, .int (nI 0)), (6, .int (nI 0))] := hl
  obtain ⟨H, hH⟩ : ∃ H, H = s.heap := ⟨_, rfl⟩
  obtain ⟨locs, hlocs⟩ : ∃ q : List Loc, q = [] := ⟨_, rfl⟩
  have hP : va_P D vwCl [(z 0, .inr (8, [.ref (z 1), .int (nI L), .ref (z 2), .ref (z 3), .ref (z 4), .ref (z 5), .int (nI kn), .ref (z 6), .ref (z 7), .ref (z 8), .int (nI no), .int (nI (tn_e tx L p0)), .int (nI (mo_s tx L p0)), .int (nI (tn_s tx L p0)), .int (nI va), .ref (z 9)])), (z 1, .inl (k.1 0, 160, .inl (ta_e tx)))] H := by rw [hH]; exact hP
  have hS : va_S A s.heap H locs := by rw [hH, hlocs]; exact hS
  rw [← hlocs]
  suffices hgoal : W p l e ({ frames := 0, cells := 0, slots := 0, locals := 0 }) s m ([.ref (z 0), .int (nI 104), .int (nI 111), .int (nI 117), .int (nI 114), .int (nI 0), .int (nI 0)] : List Value).toArray below meth c H locs 0 0 Q (F0 m 0 ls []) by rw [hH] at hgoal; exact hgoal
  clear hH hlocs
  obtain ⟨hL, hc⟩ := id hx0
  obtain ⟨b1, b2, b3, b4⟩ := tn_b (tx := tx) hp0
  have hms4 : mo_s tx L p0 < 4 := by unfold mo_s; have h4 := tx_s4 tx L (tn_s tx L p0); split <;> omega
  refine lv_aload_n hx hb dX8_isWord_0 rfl (lv_at hl 0 rfl) ?_
  refine ta_get C hP 0 inlX8 rfl rfl 12 (by decide) tw_310 rfl dX8_isWord_1 ?_
  refine ta_iconst C 1 dX8_isWord_4 (by decide) ?_
  refine ta_cne C (a := mo_s tx L p0) (b := 1) (tgt := 26) (by omega) (by omega) dX8_isWord_5 (by decide) (fun c1 => ?_) (fun c1 => ?_)
  · refine ta_iconst C 0 dX8_isWord_26 (by decide) ?_
    refine lv_istore (lv' := [(7, .int (nI 0)), (0, .ref (z 0)), (1, .int (nI 104)), (2, .int (nI 111)), (3, .int (nI 117)), (4, .int (nI 114)), (5, .int (nI 0)), (6, .int (nI 0))]) hx hb dX8_isWord_27 hl (by decide) rfl (fun ls hl => ?_)
    refine ta_iconst C 0 dX8_isWord_29 (by decide) ?_
    refine lv_istore (lv' := [(8, .int (nI 0)), (7, .int (nI 0)), (0, .ref (z 0)), (1, .int (nI 104)), (2, .int (nI 111)), (3, .int (nI 117)), (4, .int (nI 114)), (5, .int (nI 0)), (6, .int (nI 0))]) hx hb dX8_isWord_30 hl (by decide) rfl (fun ls hl => ?_)
    refine lv_iload hx hb dX8_isWord_32 (lv_at hl 0 rfl) ?_
    refine ta_bipush C 6 dX8_isWord_34 (by decide) ?_
    refine lv_icmp_ge (tgt := 156) hx hb dX8_isWord_36 (by decide) (fun c2 => ?_) (fun c2 => ?_)
    · exact absurd c2 (by decide)
    · refine lv_iload hx hb dX8_isWord_39 (lv_at hl 1 rfl) ?_
      refine lv_if_eq (tgt := 156) hx hb dX8_isWord_41 (by decide) (fun c3 => ?_) (fun c3 => ?_)
      · refine lv_iload hx hb dX8_isWord_156 (lv_at hl 1 rfl) ?_
        have hnw : ¬ tk_is tx (tn_s tx L p0) (tn_e tx L p0) 2 := fun h => by have h9 := mo_is1 (i := 2) (by decide) hp0 h; omega
        exact ret _ () dX8_isWord_158 (by decide) (Or.inr ⟨hnw, rfl⟩) hP hD hS
      · exact absurd c3 (by decide)
  · have hrow := mo_row c1
    refine lv_aload_n hx hb dX8_isWord_8 rfl (lv_at hl 0 rfl) ?_
    refine ta_get C hP 0 inlX8 rfl rfl 11 (by decide) tw_309 rfl dX8_isWord_9 ?_
    refine lv_aload_n hx hb dX8_isWord_12 rfl (lv_at hl 0 rfl) ?_
    refine ta_get C hP 0 inlX8 rfl rfl 13 (by decide) tw_304 rfl dX8_isWord_13 ?_
    refine ta_isub C (a := tn_e tx L p0) (b := tn_s tx L p0) (by omega) dX8_isWord_16 ?_
    refine ta_bipush C 7 dX8_isWord_17 (by decide) ?_
    refine ta_cge C (a := (tn_e tx L p0) - (tn_s tx L p0)) (b := 7) (tgt := 26) (by omega) (by omega) dX8_isWord_19 (by decide) (fun c4 => ?_) (fun c4 => ?_)
    · refine ta_iconst C 0 dX8_isWord_26 (by decide) ?_
      refine lv_istore (lv' := [(7, .int (nI 0)), (0, .ref (z 0)), (1, .int (nI 104)), (2, .int (nI 111)), (3, .int (nI 117)), (4, .int (nI 114)), (5, .int (nI 0)), (6, .int (nI 0))]) hx hb dX8_isWord_27 hl (by decide) rfl (fun ls hl => ?_)
      refine ta_iconst C 0 dX8_isWord_29 (by decide) ?_
      refine lv_istore (lv' := [(8, .int (nI 0)), (7, .int (nI 0)), (0, .ref (z 0)), (1, .int (nI 104)), (2, .int (nI 111)), (3, .int (nI 117)), (4, .int (nI 114)), (5, .int (nI 0)), (6, .int (nI 0))]) hx hb dX8_isWord_30 hl (by decide) rfl (fun ls hl => ?_)
      refine lv_iload hx hb dX8_isWord_32 (lv_at hl 0 rfl) ?_
      refine ta_bipush C 6 dX8_isWord_34 (by decide) ?_
      refine lv_icmp_ge (tgt := 156) hx hb dX8_isWord_36 (by decide) (fun c5 => ?_) (fun c5 => ?_)
      · exact absurd c5 (by decide)
      · refine lv_iload hx hb dX8_isWord_39 (lv_at hl 1 rfl) ?_
        refine lv_if_eq (tgt := 156) hx hb dX8_isWord_41 (by decide) (fun c6 => ?_) (fun c6 => ?_)
        · refine lv_iload hx hb dX8_isWord_156 (lv_at hl 1 rfl) ?_
          have hnw : ¬ tk_is tx (tn_s tx L p0) (tn_e tx L p0) 2 := fun h => by have h9 : tn_e tx L p0 - tn_s tx L p0 = 4 := h.1; omega
          exact ret _ () dX8_isWord_158 (by decide) (Or.inr ⟨hnw, rfl⟩) hP hD hS
        · exact absurd c6 (by decide)
    · refine ta_iconst C 1 dX8_isWord_22 (by decide) ?_
      refine lv_goto (tgt := 27) hx hb dX8_isWord_23 (by decide) ?_
      refine lv_istore (lv' := [(7, .int (nI 1)), (0, .ref (z 0)), (1, .int (nI 104)), (2, .int (nI 111)), (3, .int (nI 117)), (4, .int (nI 114)), (5, .int (nI 0)), (6, .int (nI 0))]) hx hb dX8_isWord_27 hl (by decide) rfl (fun ls hl => ?_)
      refine ta_iconst C 0 dX8_isWord_29 (by decide) ?_
      refine lv_istore (lv' := [(8, .int (nI 0)), (7, .int (nI 1)), (0, .ref (z 0)), (1, .int (nI 104)), (2, .int (nI 111)), (3, .int (nI 117)), (4, .int (nI 114)), (5, .int (nI 0)), (6, .int (nI 0))]) hx hb dX8_isWord_30 hl (by decide) rfl (fun ls hl => ?_)
      refine lv_iload hx hb dX8_isWord_32 (lv_at hl 0 rfl) ?_
      refine ta_bipush C 6 dX8_isWord_34 (by decide) ?_
      refine lv_icmp_ge (tgt := 156) hx hb dX8_isWord_36 (by decide) (fun c7 => ?_) (fun c7 => ?_)
      · exact absurd c7 (by decide)
      · refine lv_iload hx hb dX8_isWord_39 (lv_at hl 1 rfl) ?_
        refine lv_if_eq (tgt := 156) hx hb dX8_isWord_41 (by decide) (fun c8 => ?_) (fun c8 => ?_)
        · exact absurd c8 (by decide)
        · refine lv_iload hx hb dX8_isWord_44 (lv_at hl 0 rfl) ?_
          refine lv_if_ne (tgt := 53) hx hb dX8_isWord_46 (by decide) (fun c9 => ?_) (fun c9 => ?_)
          · exact absurd c9 (by decide)
          · refine lv_iload_n hx hb dX8_isWord_49 rfl (lv_at hl 3 rfl) ?_
            refine lv_goto (tgt := 97) hx hb dX8_isWord_50 (by decide) ?_
            refine lv_istore (lv' := [(9, .int (nI 104)), (8, .int (nI 0)), (7, .int (nI 1)), (0, .ref (z 0)), (1, .int (nI 104)), (2, .int (nI 111)), (3, .int (nI 117)), (4, .int (nI 114)), (5, .int (nI 0)), (6, .int (nI 0))]) hx hb dX8_isWord_97 hl (by decide) rfl (fun ls hl => ?_)
            refine lv_aload_n hx hb dX8_isWord_99 rfl (lv_at hl 3 rfl) ?_
            refine ta_get C hP 0 inlX8 rfl rfl 13 (by decide) tw_304 rfl dX8_isWord_100 ?_
            refine lv_iload hx hb dX8_isWord_103 (lv_at hl 1 rfl) ?_
            refine ta_iadd C (a := tn_s tx L p0) (b := 0) dX8_isWord_105 ?_
            refine lv_aload_n hx hb dX8_isWord_106 rfl (lv_at hl 3 rfl) ?_
            refine ta_get C hP 0 inlX8 rfl rfl 11 (by decide) tw_309 rfl dX8_isWord_107 ?_
            refine ta_cge C (a := (tn_s tx L p0) + 0) (b := tn_e tx L p0) (tgt := 138) (by omega) (by omega) dX8_isWord_110 (by decide) (fun c10 => ?_) (fun c10 => ?_)
            · refine lv_iload hx hb dX8_isWord_138 (lv_at hl 0 rfl) ?_
              refine lv_if_ne (tgt := 147) hx hb dX8_isWord_140 (by decide) (fun c11 => ?_) (fun c11 => ?_)
              · refine ta_iconst C 0 dX8_isWord_147 (by decide) ?_
                refine lv_istore (lv' := [(7, .int (nI 0)), (9, .int (nI 104)), (8, .int (nI 0)), (0, .ref (z 0)), (1, .int (nI 104)), (2, .int (nI 111)), (3, .int (nI 117)), (4, .int (nI 114)), (5, .int (nI 0)), (6, .int (nI 0))]) hx hb dX8_isWord_148 hl (by decide) rfl (fun ls hl => ?_)
                refine lv_iinc (v := nI 1) (lv' := [(8, .int (nI 1)), (7, .int (nI 0)), (9, .int (nI 104)), (0, .ref (z 0)), (1, .int (nI 104)), (2, .int (nI 111)), (3, .int (nI 117)), (4, .int (nI 114)), (5, .int (nI 0)), (6, .int (nI 0))]) hx hb dX8_isWord_150 hl (k := 2) rfl (by decide) (by decide) rfl (fun ls hl => ?_)
                refine lv_goto (tgt := 32) hx hb dX8_isWord_153 (by decide) ?_
                refine lv_iload hx hb dX8_isWord_32 (lv_at hl 0 rfl) ?_
                refine ta_bipush C 6 dX8_isWord_34 (by decide) ?_
                refine lv_icmp_ge (tgt := 156) hx hb dX8_isWord_36 (by decide) (fun c12 => ?_) (fun c12 => ?_)
                · exact absurd c12 (by decide)
                · refine lv_iload hx hb dX8_isWord_39 (lv_at hl 1 rfl) ?_
                  refine lv_if_eq (tgt := 156) hx hb dX8_isWord_41 (by decide) (fun c13 => ?_) (fun c13 => ?_)
                  · refine lv_iload hx hb dX8_isWord_156 (lv_at hl 1 rfl) ?_
                    have hnw : ¬ tk_is tx (tn_s tx L p0) (tn_e tx L p0) 2 := by
                      intro h
                      have h9 : tn_e tx L p0 - tn_s tx L p0 = 4 := h.1
                      have h8 : tx (tn_s tx L p0 + 0) = 104 := h.2 0 (by decide)
                      omega
                    exact ret _ () dX8_isWord_158 (by decide) (Or.inr ⟨hnw, rfl⟩) hP hD hS
                  · exact absurd c13 (by decide)
              · exact absurd c11 (by decide)
            · have hr0 := hrow (tn_s tx L p0 + 0) (by omega) (by omega)
              refine lv_aload_n hx hb dX8_isWord_113 rfl (lv_at hl 3 rfl) ?_
              refine ta_get C hP 0 inlX8 rfl rfl 0 (by decide) tw_125 rfl dX8_isWord_114 ?_
              refine lv_aload_n hx hb dX8_isWord_117 rfl (lv_at hl 3 rfl) ?_
              refine ta_get C hP 0 inlX8 rfl rfl 13 (by decide) tw_304 rfl dX8_isWord_118 ?_
              refine lv_iload hx hb dX8_isWord_121 (lv_at hl 1 rfl) ?_
              refine ta_iadd C (a := tn_s tx L p0) (b := 0) dX8_isWord_123 ?_
              refine ta_iald C hP 1 rfl (i := (tn_s tx L p0) + 0) (by omega) dX8_isWord_124 ?_
              refine lv_iload hx hb dX8_isWord_125 (lv_at hl 0 rfl) ?_
              refine ta_cne C (a := tx ((tn_s tx L p0) + 0)) (b := 104) (tgt := 134) (by omega) (by omega) dX8_isWord_127 (by decide) (fun c14 => ?_) (fun c14 => ?_)
              · refine ta_iconst C 0 dX8_isWord_134 (by decide) ?_
                refine lv_goto (tgt := 148) hx hb dX8_isWord_135 (by decide) ?_
                refine lv_istore (lv' := [(7, .int (nI 0)), (9, .int (nI 104)), (8, .int (nI 0)), (0, .ref (z 0)), (1, .int (nI 104)), (2, .int (nI 111)), (3, .int (nI 117)), (4, .int (nI 114)), (5, .int (nI 0)), (6, .int (nI 0))]) hx hb dX8_isWord_148 hl (by decide) rfl (fun ls hl => ?_)
                refine lv_iinc (v := nI 1) (lv' := [(8, .int (nI 1)), (7, .int (nI 0)), (9, .int (nI 104)), (0, .ref (z 0)), (1, .int (nI 104)), (2, .int (nI 111)), (3, .int (nI 117)), (4, .int (nI 114)), (5, .int (nI 0)), (6, .int (nI 0))]) hx hb dX8_isWord_150 hl (k := 2) rfl (by decide) (by decide) rfl (fun ls hl => ?_)
                refine lv_goto (tgt := 32) hx hb dX8_isWord_153 (by decide) ?_
                refine lv_iload hx hb dX8_isWord_32 (lv_at hl 0 rfl) ?_
                refine ta_bipush C 6 dX8_isWord_34 (by decide) ?_
                refine lv_icmp_ge (tgt := 156) hx hb dX8_isWord_36 (by decide) (fun c15 => ?_) (fun c15 => ?_)
                · exact absurd c15 (by decide)
                · refine lv_iload hx hb dX8_isWord_39 (lv_at hl 1 rfl) ?_
                  refine lv_if_eq (tgt := 156) hx hb dX8_isWord_41 (by decide) (fun c16 => ?_) (fun c16 => ?_)
                  · refine lv_iload hx hb dX8_isWord_156 (lv_at hl 1 rfl) ?_
                    have hnw : ¬ tk_is tx (tn_s tx L p0) (tn_e tx L p0) 2 := by
                      intro h
                      have h9 : tn_e tx L p0 - tn_s tx L p0 = 4 := h.1
                      have h8 : tx (tn_s tx L p0 + 0) = 104 := h.2 0 (by decide)
                      omega
                    exact ret _ () dX8_isWord_158 (by decide) (Or.inr ⟨hnw, rfl⟩) hP hD hS
                  · exact absurd c16 (by decide)
              · refine ta_iconst C 1 dX8_isWord_130 (by decide) ?_
                refine lv_goto (tgt := 148) hx hb dX8_isWord_131 (by decide) ?_
                refine lv_istore (lv' := [(7, .int (nI 1)), (9, .int (nI 104)), (8, .int (nI 0)), (0, .ref (z 0)), (1, .int (nI 104)), (2, .int (nI 111)), (3, .int (nI 117)), (4, .int (nI 114)), (5, .int (nI 0)), (6, .int (nI 0))]) hx hb dX8_isWord_148 hl (by decide) rfl (fun ls hl => ?_)
                refine lv_iinc (v := nI 1) (lv' := [(8, .int (nI 1)), (7, .int (nI 1)), (9, .int (nI 104)), (0, .ref (z 0)), (1, .int (nI 104)), (2, .int (nI 111)), (3, .int (nI 117)), (4, .int (nI 114)), (5, .int (nI 0)), (6, .int (nI 0))]) hx hb dX8_isWord_150 hl (k := 2) rfl (by decide) (by decide) rfl (fun ls hl => ?_)
                refine lv_goto (tgt := 32) hx hb dX8_isWord_153 (by decide) ?_
                refine lv_iload hx hb dX8_isWord_32 (lv_at hl 0 rfl) ?_
                refine ta_bipush C 6 dX8_isWord_34 (by decide) ?_
                refine lv_icmp_ge (tgt := 156) hx hb dX8_isWord_36 (by decide) (fun c17 => ?_) (fun c17 => ?_)
                · exact absurd c17 (by decide)
                · refine lv_iload hx hb dX8_isWord_39 (lv_at hl 1 rfl) ?_
                  refine lv_if_eq (tgt := 156) hx hb dX8_isWord_41 (by decide) (fun c18 => ?_) (fun c18 => ?_)
                  · exact absurd c18 (by decide)
                  · refine lv_iload hx hb dX8_isWord_44 (lv_at hl 0 rfl) ?_
                    refine lv_if_ne (tgt := 53) hx hb dX8_isWord_46 (by decide) (fun c19 => ?_) (fun c19 => ?_)
                    · refine lv_iload hx hb dX8_isWord_53 (lv_at hl 0 rfl) ?_
                      refine ta_iconst C 1 dX8_isWord_55 (by decide) ?_
                      refine lv_icmp_ne (tgt := 63) hx hb dX8_isWord_56 (by decide) (fun c20 => ?_) (fun c20 => ?_)
                      · exact absurd c20 (by decide)
                      · refine lv_iload_n hx hb dX8_isWord_59 rfl (lv_at hl 5 rfl) ?_
                        refine lv_goto (tgt := 97) hx hb dX8_isWord_60 (by decide) ?_
                        refine lv_istore (lv' := [(9, .int (nI 111)), (8, .int (nI 1)), (7, .int (nI 1)), (0, .ref (z 0)), (1, .int (nI 104)), (2, .int (nI 111)), (3, .int (nI 117)), (4, .int (nI 114)), (5, .int (nI 0)), (6, .int (nI 0))]) hx hb dX8_isWord_97 hl (by decide) rfl (fun ls hl => ?_)
                        refine lv_aload_n hx hb dX8_isWord_99 rfl (lv_at hl 3 rfl) ?_
                        refine ta_get C hP 0 inlX8 rfl rfl 13 (by decide) tw_304 rfl dX8_isWord_100 ?_
                        refine lv_iload hx hb dX8_isWord_103 (lv_at hl 1 rfl) ?_
                        refine ta_iadd C (a := tn_s tx L p0) (b := 1) dX8_isWord_105 ?_
                        refine lv_aload_n hx hb dX8_isWord_106 rfl (lv_at hl 3 rfl) ?_
                        refine ta_get C hP 0 inlX8 rfl rfl 11 (by decide) tw_309 rfl dX8_isWord_107 ?_
                        refine ta_cge C (a := (tn_s tx L p0) + 1) (b := tn_e tx L p0) (tgt := 138) (by omega) (by omega) dX8_isWord_110 (by decide) (fun c21 => ?_) (fun c21 => ?_)
                        · refine lv_iload hx hb dX8_isWord_138 (lv_at hl 0 rfl) ?_
                          refine lv_if_ne (tgt := 147) hx hb dX8_isWord_140 (by decide) (fun c22 => ?_) (fun c22 => ?_)
                          · refine ta_iconst C 0 dX8_isWord_147 (by decide) ?_
                            refine lv_istore (lv' := [(7, .int (nI 0)), (9, .int (nI 111)), (8, .int (nI 1)), (0, .ref (z 0)), (1, .int (nI 104)), (2, .int (nI 111)), (3, .int (nI 117)), (4, .int (nI 114)), (5, .int (nI 0)), (6, .int (nI 0))]) hx hb dX8_isWord_148 hl (by decide) rfl (fun ls hl => ?_)
                            refine lv_iinc (v := nI 2) (lv' := [(8, .int (nI 2)), (7, .int (nI 0)), (9, .int (nI 111)), (0, .ref (z 0)), (1, .int (nI 104)), (2, .int (nI 111)), (3, .int (nI 117)), (4, .int (nI 114)), (5, .int (nI 0)), (6, .int (nI 0))]) hx hb dX8_isWord_150 hl (k := 2) rfl (by decide) (by decide) rfl (fun ls hl => ?_)
                            refine lv_goto (tgt := 32) hx hb dX8_isWord_153 (by decide) ?_
                            refine lv_iload hx hb dX8_isWord_32 (lv_at hl 0 rfl) ?_
                            refine ta_bipush C 6 dX8_isWord_34 (by decide) ?_
                            refine lv_icmp_ge (tgt := 156) hx hb dX8_isWord_36 (by decide) (fun c23 => ?_) (fun c23 => ?_)
                            · exact absurd c23 (by decide)
                            · refine lv_iload hx hb dX8_isWord_39 (lv_at hl 1 rfl) ?_
                              refine lv_if_eq (tgt := 156) hx hb dX8_isWord_41 (by decide) (fun c24 => ?_) (fun c24 => ?_)
                              · refine lv_iload hx hb dX8_isWord_156 (lv_at hl 1 rfl) ?_
                                have hnw : ¬ tk_is tx (tn_s tx L p0) (tn_e tx L p0) 2 := by
                                  intro h
                                  have h9 : tn_e tx L p0 - tn_s tx L p0 = 4 := h.1
                                  have h8 : tx (tn_s tx L p0 + 1) = 111 := h.2 1 (by decide)
                                  omega
                                exact ret _ () dX8_isWord_158 (by decide) (Or.inr ⟨hnw, rfl⟩) hP hD hS
                              · exact absurd c24 (by decide)
                          · exact absurd c22 (by decide)
                        · have hr1 := hrow (tn_s tx L p0 + 1) (by omega) (by omega)
                          refine lv_aload_n hx hb dX8_isWord_113 rfl (lv_at hl 3 rfl) ?_
                          refine ta_get C hP 0 inlX8 rfl rfl 0 (by decide) tw_125 rfl dX8_isWord_114 ?_
                          refine lv_aload_n hx hb dX8_isWord_117 rfl (lv_at hl 3 rfl) ?_
                          refine ta_get C hP 0 inlX8 rfl rfl 13 (by decide) tw_304 rfl dX8_isWord_118 ?_
                          refine lv_iload hx hb dX8_isWord_121 (lv_at hl 1 rfl) ?_
                          refine ta_iadd C (a := tn_s tx L p0) (b := 1) dX8_isWord_123 ?_
                          refine ta_iald C hP 1 rfl (i := (tn_s tx L p0) + 1) (by omega) dX8_isWord_124 ?_
                          refine lv_iload hx hb dX8_isWord_125 (lv_at hl 0 rfl) ?_
                          refine ta_cne C (a := tx ((tn_s tx L p0) + 1)) (b := 111) (tgt := 134) (by omega) (by omega) dX8_isWord_127 (by decide) (fun c25 => ?_) (fun c25 => ?_)
                          · refine ta_iconst C 0 dX8_isWord_134 (by decide) ?_
                            refine lv_goto (tgt := 148) hx hb dX8_isWord_135 (by decide) ?_
                            refine lv_istore (lv' := [(7, .int (nI 0)), (9, .int (nI 111)), (8, .int (nI 1)), (0, .ref (z 0)), (1, .int (nI 104)), (2, .int (nI 111)), (3, .int (nI 117)), (4, .int (nI 114)), (5, .int (nI 0)), (6, .int (nI 0))]) hx hb dX8_isWord_148 hl (by decide) rfl (fun ls hl => ?_)
                            refine lv_iinc (v := nI 2) (lv' := [(8, .int (nI 2)), (7, .int (nI 0)), (9, .int (nI 111)), (0, .ref (z 0)), (1, .int (nI 104)), (2, .int (nI 111)), (3, .int (nI 117)), (4, .int (nI 114)), (5, .int (nI 0)), (6, .int (nI 0))]) hx hb dX8_isWord_150 hl (k := 2) rfl (by decide) (by decide) rfl (fun ls hl => ?_)
                            refine lv_goto (tgt := 32) hx hb dX8_isWord_153 (by decide) ?_
                            refine lv_iload hx hb dX8_isWord_32 (lv_at hl 0 rfl) ?_
                            refine ta_bipush C 6 dX8_isWord_34 (by decide) ?_
                            refine lv_icmp_ge (tgt := 156) hx hb dX8_isWord_36 (by decide) (fun c26 => ?_) (fun c26 => ?_)
                            · exact absurd c26 (by decide)
                            · refine lv_iload hx hb dX8_isWord_39 (lv_at hl 1 rfl) ?_
                              refine lv_if_eq (tgt := 156) hx hb dX8_isWord_41 (by decide) (fun c27 => ?_) (fun c27 => ?_)
                              · refine lv_iload hx hb dX8_isWord_156 (lv_at hl 1 rfl) ?_
                                have hnw : ¬ tk_is tx (tn_s tx L p0) (tn_e tx L p0) 2 := by
                                  intro h
                                  have h9 : tn_e tx L p0 - tn_s tx L p0 = 4 := h.1
                                  have h8 : tx (tn_s tx L p0 + 1) = 111 := h.2 1 (by decide)
                                  omega
                                exact ret _ () dX8_isWord_158 (by decide) (Or.inr ⟨hnw, rfl⟩) hP hD hS
                              · exact absurd c27 (by decide)
                          · refine ta_iconst C 1 dX8_isWord_130 (by decide) ?_
                            refine lv_goto (tgt := 148) hx hb dX8_isWord_131 (by decide) ?_
                            refine lv_istore (lv' := [(7, .int (nI 1)), (9, .int (nI 111)), (8, .int (nI 1)), (0, .ref (z 0)), (1, .int (nI 104)), (2, .int (nI 111)), (3, .int (nI 117)), (4, .int (nI 114)), (5, .int (nI 0)), (6, .int (nI 0))]) hx hb dX8_isWord_148 hl (by decide) rfl (fun ls hl => ?_)
                            refine lv_iinc (v := nI 2) (lv' := [(8, .int (nI 2)), (7, .int (nI 1)), (9, .int (nI 111)), (0, .ref (z 0)), (1, .int (nI 104)), (2, .int (nI 111)), (3, .int (nI 117)), (4, .int (nI 114)), (5, .int (nI 0)), (6, .int (nI 0))]) hx hb dX8_isWord_150 hl (k := 2) rfl (by decide) (by decide) rfl (fun ls hl => ?_)
                            refine lv_goto (tgt := 32) hx hb dX8_isWord_153 (by decide) ?_
                            refine lv_iload hx hb dX8_isWord_32 (lv_at hl 0 rfl) ?_
                            refine ta_bipush C 6 dX8_isWord_34 (by decide) ?_
                            refine lv_icmp_ge (tgt := 156) hx hb dX8_isWord_36 (by decide) (fun c28 => ?_) (fun c28 => ?_)
                            · exact absurd c28 (by decide)
                            · refine lv_iload hx hb dX8_isWord_39 (lv_at hl 1 rfl) ?_
                              refine lv_if_eq (tgt := 156) hx hb dX8_isWord_41 (by decide) (fun c29 => ?_) (fun c29 => ?_)
                              · exact absurd c29 (by decide)
                              · refine lv_iload hx hb dX8_isWord_44 (lv_at hl 0 rfl) ?_
                                refine lv_if_ne (tgt := 53) hx hb dX8_isWord_46 (by decide) (fun c30 => ?_) (fun c30 => ?_)
                                · refine lv_iload hx hb dX8_isWord_53 (lv_at hl 0 rfl) ?_
                                  refine ta_iconst C 1 dX8_isWord_55 (by decide) ?_
                                  refine lv_icmp_ne (tgt := 63) hx hb dX8_isWord_56 (by decide) (fun c31 => ?_) (fun c31 => ?_)
                                  · refine lv_iload hx hb dX8_isWord_63 (lv_at hl 0 rfl) ?_
                                    refine ta_iconst C 2 dX8_isWord_65 (by decide) ?_
                                    refine lv_icmp_ne (tgt := 73) hx hb dX8_isWord_66 (by decide) (fun c32 => ?_) (fun c32 => ?_)
                                    · exact absurd c32 (by decide)
                                    · refine lv_iload_n hx hb dX8_isWord_69 rfl (lv_at hl 6 rfl) ?_
                                      refine lv_goto (tgt := 97) hx hb dX8_isWord_70 (by decide) ?_
                                      refine lv_istore (lv' := [(9, .int (nI 117)), (8, .int (nI 2)), (7, .int (nI 1)), (0, .ref (z 0)), (1, .int (nI 104)), (2, .int (nI 111)), (3, .int (nI 117)), (4, .int (nI 114)), (5, .int (nI 0)), (6, .int (nI 0))]) hx hb dX8_isWord_97 hl (by decide) rfl (fun ls hl => ?_)
                                      refine lv_aload_n hx hb dX8_isWord_99 rfl (lv_at hl 3 rfl) ?_
                                      refine ta_get C hP 0 inlX8 rfl rfl 13 (by decide) tw_304 rfl dX8_isWord_100 ?_
                                      refine lv_iload hx hb dX8_isWord_103 (lv_at hl 1 rfl) ?_
                                      refine ta_iadd C (a := tn_s tx L p0) (b := 2) dX8_isWord_105 ?_
                                      refine lv_aload_n hx hb dX8_isWord_106 rfl (lv_at hl 3 rfl) ?_
                                      refine ta_get C hP 0 inlX8 rfl rfl 11 (by decide) tw_309 rfl dX8_isWord_107 ?_
                                      refine ta_cge C (a := (tn_s tx L p0) + 2) (b := tn_e tx L p0) (tgt := 138) (by omega) (by omega) dX8_isWord_110 (by decide) (fun c33 => ?_) (fun c33 => ?_)
                                      · refine lv_iload hx hb dX8_isWord_138 (lv_at hl 0 rfl) ?_
                                        refine lv_if_ne (tgt := 147) hx hb dX8_isWord_140 (by decide) (fun c34 => ?_) (fun c34 => ?_)
                                        · refine ta_iconst C 0 dX8_isWord_147 (by decide) ?_
                                          refine lv_istore (lv' := [(7, .int (nI 0)), (9, .int (nI 117)), (8, .int (nI 2)), (0, .ref (z 0)), (1, .int (nI 104)), (2, .int (nI 111)), (3, .int (nI 117)), (4, .int (nI 114)), (5, .int (nI 0)), (6, .int (nI 0))]) hx hb dX8_isWord_148 hl (by decide) rfl (fun ls hl => ?_)
                                          refine lv_iinc (v := nI 3) (lv' := [(8, .int (nI 3)), (7, .int (nI 0)), (9, .int (nI 117)), (0, .ref (z 0)), (1, .int (nI 104)), (2, .int (nI 111)), (3, .int (nI 117)), (4, .int (nI 114)), (5, .int (nI 0)), (6, .int (nI 0))]) hx hb dX8_isWord_150 hl (k := 2) rfl (by decide) (by decide) rfl (fun ls hl => ?_)
                                          refine lv_goto (tgt := 32) hx hb dX8_isWord_153 (by decide) ?_
                                          refine lv_iload hx hb dX8_isWord_32 (lv_at hl 0 rfl) ?_
                                          refine ta_bipush C 6 dX8_isWord_34 (by decide) ?_
                                          refine lv_icmp_ge (tgt := 156) hx hb dX8_isWord_36 (by decide) (fun c35 => ?_) (fun c35 => ?_)
                                          · exact absurd c35 (by decide)
                                          · refine lv_iload hx hb dX8_isWord_39 (lv_at hl 1 rfl) ?_
                                            refine lv_if_eq (tgt := 156) hx hb dX8_isWord_41 (by decide) (fun c36 => ?_) (fun c36 => ?_)
                                            · refine lv_iload hx hb dX8_isWord_156 (lv_at hl 1 rfl) ?_
                                              have hnw : ¬ tk_is tx (tn_s tx L p0) (tn_e tx L p0) 2 := by
                                                intro h
                                                have h9 : tn_e tx L p0 - tn_s tx L p0 = 4 := h.1
                                                have h8 : tx (tn_s tx L p0 + 2) = 117 := h.2 2 (by decide)
                                                omega
                                              exact ret _ () dX8_isWord_158 (by decide) (Or.inr ⟨hnw, rfl⟩) hP hD hS
                                            · exact absurd c36 (by decide)
                                        · exact absurd c34 (by decide)
                                      · have hr2 := hrow (tn_s tx L p0 + 2) (by omega) (by omega)
                                        refine lv_aload_n hx hb dX8_isWord_113 rfl (lv_at hl 3 rfl) ?_
                                        refine ta_get C hP 0 inlX8 rfl rfl 0 (by decide) tw_125 rfl dX8_isWord_114 ?_
                                        refine lv_aload_n hx hb dX8_isWord_117 rfl (lv_at hl 3 rfl) ?_
                                        refine ta_get C hP 0 inlX8 rfl rfl 13 (by decide) tw_304 rfl dX8_isWord_118 ?_
                                        refine lv_iload hx hb dX8_isWord_121 (lv_at hl 1 rfl) ?_
                                        refine ta_iadd C (a := tn_s tx L p0) (b := 2) dX8_isWord_123 ?_
                                        refine ta_iald C hP 1 rfl (i := (tn_s tx L p0) + 2) (by omega) dX8_isWord_124 ?_
                                        refine lv_iload hx hb dX8_isWord_125 (lv_at hl 0 rfl) ?_
                                        refine ta_cne C (a := tx ((tn_s tx L p0) + 2)) (b := 117) (tgt := 134) (by omega) (by omega) dX8_isWord_127 (by decide) (fun c37 => ?_) (fun c37 => ?_)
                                        · refine ta_iconst C 0 dX8_isWord_134 (by decide) ?_
                                          refine lv_goto (tgt := 148) hx hb dX8_isWord_135 (by decide) ?_
                                          refine lv_istore (lv' := [(7, .int (nI 0)), (9, .int (nI 117)), (8, .int (nI 2)), (0, .ref (z 0)), (1, .int (nI 104)), (2, .int (nI 111)), (3, .int (nI 117)), (4, .int (nI 114)), (5, .int (nI 0)), (6, .int (nI 0))]) hx hb dX8_isWord_148 hl (by decide) rfl (fun ls hl => ?_)
                                          refine lv_iinc (v := nI 3) (lv' := [(8, .int (nI 3)), (7, .int (nI 0)), (9, .int (nI 117)), (0, .ref (z 0)), (1, .int (nI 104)), (2, .int (nI 111)), (3, .int (nI 117)), (4, .int (nI 114)), (5, .int (nI 0)), (6, .int (nI 0))]) hx hb dX8_isWord_150 hl (k := 2) rfl (by decide) (by decide) rfl (fun ls hl => ?_)
                                          refine lv_goto (tgt := 32) hx hb dX8_isWord_153 (by decide) ?_
                                          refine lv_iload hx hb dX8_isWord_32 (lv_at hl 0 rfl) ?_
                                          refine ta_bipush C 6 dX8_isWord_34 (by decide) ?_
                                          refine lv_icmp_ge (tgt := 156) hx hb dX8_isWord_36 (by decide) (fun c38 => ?_) (fun c38 => ?_)
                                          · exact absurd c38 (by decide)
                                          · refine lv_iload hx hb dX8_isWord_39 (lv_at hl 1 rfl) ?_
                                            refine lv_if_eq (tgt := 156) hx hb dX8_isWord_41 (by decide) (fun c39 => ?_) (fun c39 => ?_)
                                            · refine lv_iload hx hb dX8_isWord_156 (lv_at hl 1 rfl) ?_
                                              have hnw : ¬ tk_is tx (tn_s tx L p0) (tn_e tx L p0) 2 := by
                                                intro h
                                                have h9 : tn_e tx L p0 - tn_s tx L p0 = 4 := h.1
                                                have h8 : tx (tn_s tx L p0 + 2) = 117 := h.2 2 (by decide)
                                                omega
                                              exact ret _ () dX8_isWord_158 (by decide) (Or.inr ⟨hnw, rfl⟩) hP hD hS
                                            · exact absurd c39 (by decide)
                                        · refine ta_iconst C 1 dX8_isWord_130 (by decide) ?_
                                          refine lv_goto (tgt := 148) hx hb dX8_isWord_131 (by decide) ?_
                                          refine lv_istore (lv' := [(7, .int (nI 1)), (9, .int (nI 117)), (8, .int (nI 2)), (0, .ref (z 0)), (1, .int (nI 104)), (2, .int (nI 111)), (3, .int (nI 117)), (4, .int (nI 114)), (5, .int (nI 0)), (6, .int (nI 0))]) hx hb dX8_isWord_148 hl (by decide) rfl (fun ls hl => ?_)
                                          refine lv_iinc (v := nI 3) (lv' := [(8, .int (nI 3)), (7, .int (nI 1)), (9, .int (nI 117)), (0, .ref (z 0)), (1, .int (nI 104)), (2, .int (nI 111)), (3, .int (nI 117)), (4, .int (nI 114)), (5, .int (nI 0)), (6, .int (nI 0))]) hx hb dX8_isWord_150 hl (k := 2) rfl (by decide) (by decide) rfl (fun ls hl => ?_)
                                          refine lv_goto (tgt := 32) hx hb dX8_isWord_153 (by decide) ?_
                                          refine lv_iload hx hb dX8_isWord_32 (lv_at hl 0 rfl) ?_
                                          refine ta_bipush C 6 dX8_isWord_34 (by decide) ?_
                                          refine lv_icmp_ge (tgt := 156) hx hb dX8_isWord_36 (by decide) (fun c40 => ?_) (fun c40 => ?_)
                                          · exact absurd c40 (by decide)
                                          · refine lv_iload hx hb dX8_isWord_39 (lv_at hl 1 rfl) ?_
                                            refine lv_if_eq (tgt := 156) hx hb dX8_isWord_41 (by decide) (fun c41 => ?_) (fun c41 => ?_)
                                            · exact absurd c41 (by decide)
                                            · refine lv_iload hx hb dX8_isWord_44 (lv_at hl 0 rfl) ?_
                                              refine lv_if_ne (tgt := 53) hx hb dX8_isWord_46 (by decide) (fun c42 => ?_) (fun c42 => ?_)
                                              · refine lv_iload hx hb dX8_isWord_53 (lv_at hl 0 rfl) ?_
                                                refine ta_iconst C 1 dX8_isWord_55 (by decide) ?_
                                                refine lv_icmp_ne (tgt := 63) hx hb dX8_isWord_56 (by decide) (fun c43 => ?_) (fun c43 => ?_)
                                                · refine lv_iload hx hb dX8_isWord_63 (lv_at hl 0 rfl) ?_
                                                  refine ta_iconst C 2 dX8_isWord_65 (by decide) ?_
                                                  refine lv_icmp_ne (tgt := 73) hx hb dX8_isWord_66 (by decide) (fun c44 => ?_) (fun c44 => ?_)
                                                  · refine lv_iload hx hb dX8_isWord_73 (lv_at hl 0 rfl) ?_
                                                    refine ta_iconst C 3 dX8_isWord_75 (by decide) ?_
                                                    refine lv_icmp_ne (tgt := 84) hx hb dX8_isWord_76 (by decide) (fun c45 => ?_) (fun c45 => ?_)
                                                    · exact absurd c45 (by decide)
                                                    · refine lv_iload hx hb dX8_isWord_79 (lv_at hl 7 rfl) ?_
                                                      refine lv_goto (tgt := 97) hx hb dX8_isWord_81 (by decide) ?_
                                                      refine lv_istore (lv' := [(9, .int (nI 114)), (8, .int (nI 3)), (7, .int (nI 1)), (0, .ref (z 0)), (1, .int (nI 104)), (2, .int (nI 111)), (3, .int (nI 117)), (4, .int (nI 114)), (5, .int (nI 0)), (6, .int (nI 0))]) hx hb dX8_isWord_97 hl (by decide) rfl (fun ls hl => ?_)
                                                      refine lv_aload_n hx hb dX8_isWord_99 rfl (lv_at hl 3 rfl) ?_
                                                      refine ta_get C hP 0 inlX8 rfl rfl 13 (by decide) tw_304 rfl dX8_isWord_100 ?_
                                                      refine lv_iload hx hb dX8_isWord_103 (lv_at hl 1 rfl) ?_
                                                      refine ta_iadd C (a := tn_s tx L p0) (b := 3) dX8_isWord_105 ?_
                                                      refine lv_aload_n hx hb dX8_isWord_106 rfl (lv_at hl 3 rfl) ?_
                                                      refine ta_get C hP 0 inlX8 rfl rfl 11 (by decide) tw_309 rfl dX8_isWord_107 ?_
                                                      refine ta_cge C (a := (tn_s tx L p0) + 3) (b := tn_e tx L p0) (tgt := 138) (by omega) (by omega) dX8_isWord_110 (by decide) (fun c46 => ?_) (fun c46 => ?_)
                                                      · refine lv_iload hx hb dX8_isWord_138 (lv_at hl 0 rfl) ?_
                                                        refine lv_if_ne (tgt := 147) hx hb dX8_isWord_140 (by decide) (fun c47 => ?_) (fun c47 => ?_)
                                                        · refine ta_iconst C 0 dX8_isWord_147 (by decide) ?_
                                                          refine lv_istore (lv' := [(7, .int (nI 0)), (9, .int (nI 114)), (8, .int (nI 3)), (0, .ref (z 0)), (1, .int (nI 104)), (2, .int (nI 111)), (3, .int (nI 117)), (4, .int (nI 114)), (5, .int (nI 0)), (6, .int (nI 0))]) hx hb dX8_isWord_148 hl (by decide) rfl (fun ls hl => ?_)
                                                          refine lv_iinc (v := nI 4) (lv' := [(8, .int (nI 4)), (7, .int (nI 0)), (9, .int (nI 114)), (0, .ref (z 0)), (1, .int (nI 104)), (2, .int (nI 111)), (3, .int (nI 117)), (4, .int (nI 114)), (5, .int (nI 0)), (6, .int (nI 0))]) hx hb dX8_isWord_150 hl (k := 2) rfl (by decide) (by decide) rfl (fun ls hl => ?_)
                                                          refine lv_goto (tgt := 32) hx hb dX8_isWord_153 (by decide) ?_
                                                          refine lv_iload hx hb dX8_isWord_32 (lv_at hl 0 rfl) ?_
                                                          refine ta_bipush C 6 dX8_isWord_34 (by decide) ?_
                                                          refine lv_icmp_ge (tgt := 156) hx hb dX8_isWord_36 (by decide) (fun c48 => ?_) (fun c48 => ?_)
                                                          · exact absurd c48 (by decide)
                                                          · refine lv_iload hx hb dX8_isWord_39 (lv_at hl 1 rfl) ?_
                                                            refine lv_if_eq (tgt := 156) hx hb dX8_isWord_41 (by decide) (fun c49 => ?_) (fun c49 => ?_)
                                                            · refine lv_iload hx hb dX8_isWord_156 (lv_at hl 1 rfl) ?_
                                                              have hnw : ¬ tk_is tx (tn_s tx L p0) (tn_e tx L p0) 2 := by
                                                                intro h
                                                                have h9 : tn_e tx L p0 - tn_s tx L p0 = 4 := h.1
                                                                have h8 : tx (tn_s tx L p0 + 3) = 114 := h.2 3 (by decide)
                                                                omega
                                                              exact ret _ () dX8_isWord_158 (by decide) (Or.inr ⟨hnw, rfl⟩) hP hD hS
                                                            · exact absurd c49 (by decide)
                                                        · exact absurd c47 (by decide)
                                                      · have hr3 := hrow (tn_s tx L p0 + 3) (by omega) (by omega)
                                                        refine lv_aload_n hx hb dX8_isWord_113 rfl (lv_at hl 3 rfl) ?_
                                                        refine ta_get C hP 0 inlX8 rfl rfl 0 (by decide) tw_125 rfl dX8_isWord_114 ?_
                                                        refine lv_aload_n hx hb dX8_isWord_117 rfl (lv_at hl 3 rfl) ?_
                                                        refine ta_get C hP 0 inlX8 rfl rfl 13 (by decide) tw_304 rfl dX8_isWord_118 ?_
                                                        refine lv_iload hx hb dX8_isWord_121 (lv_at hl 1 rfl) ?_
                                                        refine ta_iadd C (a := tn_s tx L p0) (b := 3) dX8_isWord_123 ?_
                                                        refine ta_iald C hP 1 rfl (i := (tn_s tx L p0) + 3) (by omega) dX8_isWord_124 ?_
                                                        refine lv_iload hx hb dX8_isWord_125 (lv_at hl 0 rfl) ?_
                                                        refine ta_cne C (a := tx ((tn_s tx L p0) + 3)) (b := 114) (tgt := 134) (by omega) (by omega) dX8_isWord_127 (by decide) (fun c50 => ?_) (fun c50 => ?_)
                                                        · refine ta_iconst C 0 dX8_isWord_134 (by decide) ?_
                                                          refine lv_goto (tgt := 148) hx hb dX8_isWord_135 (by decide) ?_
                                                          refine lv_istore (lv' := [(7, .int (nI 0)), (9, .int (nI 114)), (8, .int (nI 3)), (0, .ref (z 0)), (1, .int (nI 104)), (2, .int (nI 111)), (3, .int (nI 117)), (4, .int (nI 114)), (5, .int (nI 0)), (6, .int (nI 0))]) hx hb dX8_isWord_148 hl (by decide) rfl (fun ls hl => ?_)
                                                          refine lv_iinc (v := nI 4) (lv' := [(8, .int (nI 4)), (7, .int (nI 0)), (9, .int (nI 114)), (0, .ref (z 0)), (1, .int (nI 104)), (2, .int (nI 111)), (3, .int (nI 117)), (4, .int (nI 114)), (5, .int (nI 0)), (6, .int (nI 0))]) hx hb dX8_isWord_150 hl (k := 2) rfl (by decide) (by decide) rfl (fun ls hl => ?_)
                                                          refine lv_goto (tgt := 32) hx hb dX8_isWord_153 (by decide) ?_
                                                          refine lv_iload hx hb dX8_isWord_32 (lv_at hl 0 rfl) ?_
                                                          refine ta_bipush C 6 dX8_isWord_34 (by decide) ?_
                                                          refine lv_icmp_ge (tgt := 156) hx hb dX8_isWord_36 (by decide) (fun c51 => ?_) (fun c51 => ?_)
                                                          · exact absurd c51 (by decide)
                                                          · refine lv_iload hx hb dX8_isWord_39 (lv_at hl 1 rfl) ?_
                                                            refine lv_if_eq (tgt := 156) hx hb dX8_isWord_41 (by decide) (fun c52 => ?_) (fun c52 => ?_)
                                                            · refine lv_iload hx hb dX8_isWord_156 (lv_at hl 1 rfl) ?_
                                                              have hnw : ¬ tk_is tx (tn_s tx L p0) (tn_e tx L p0) 2 := by
                                                                intro h
                                                                have h9 : tn_e tx L p0 - tn_s tx L p0 = 4 := h.1
                                                                have h8 : tx (tn_s tx L p0 + 3) = 114 := h.2 3 (by decide)
                                                                omega
                                                              exact ret _ () dX8_isWord_158 (by decide) (Or.inr ⟨hnw, rfl⟩) hP hD hS
                                                            · exact absurd c52 (by decide)
                                                        · refine ta_iconst C 1 dX8_isWord_130 (by decide) ?_
                                                          refine lv_goto (tgt := 148) hx hb dX8_isWord_131 (by decide) ?_
                                                          refine lv_istore (lv' := [(7, .int (nI 1)), (9, .int (nI 114)), (8, .int (nI 3)), (0, .ref (z 0)), (1, .int (nI 104)), (2, .int (nI 111)), (3, .int (nI 117)), (4, .int (nI 114)), (5, .int (nI 0)), (6, .int (nI 0))]) hx hb dX8_isWord_148 hl (by decide) rfl (fun ls hl => ?_)
                                                          refine lv_iinc (v := nI 4) (lv' := [(8, .int (nI 4)), (7, .int (nI 1)), (9, .int (nI 114)), (0, .ref (z 0)), (1, .int (nI 104)), (2, .int (nI 111)), (3, .int (nI 117)), (4, .int (nI 114)), (5, .int (nI 0)), (6, .int (nI 0))]) hx hb dX8_isWord_150 hl (k := 2) rfl (by decide) (by decide) rfl (fun ls hl => ?_)
                                                          refine lv_goto (tgt := 32) hx hb dX8_isWord_153 (by decide) ?_
                                                          refine lv_iload hx hb dX8_isWord_32 (lv_at hl 0 rfl) ?_
                                                          refine ta_bipush C 6 dX8_isWord_34 (by decide) ?_
                                                          refine lv_icmp_ge (tgt := 156) hx hb dX8_isWord_36 (by decide) (fun c53 => ?_) (fun c53 => ?_)
                                                          · exact absurd c53 (by decide)
                                                          · refine lv_iload hx hb dX8_isWord_39 (lv_at hl 1 rfl) ?_
                                                            refine lv_if_eq (tgt := 156) hx hb dX8_isWord_41 (by decide) (fun c54 => ?_) (fun c54 => ?_)
                                                            · exact absurd c54 (by decide)
                                                            · refine lv_iload hx hb dX8_isWord_44 (lv_at hl 0 rfl) ?_
                                                              refine lv_if_ne (tgt := 53) hx hb dX8_isWord_46 (by decide) (fun c55 => ?_) (fun c55 => ?_)
                                                              · refine lv_iload hx hb dX8_isWord_53 (lv_at hl 0 rfl) ?_
                                                                refine ta_iconst C 1 dX8_isWord_55 (by decide) ?_
                                                                refine lv_icmp_ne (tgt := 63) hx hb dX8_isWord_56 (by decide) (fun c56 => ?_) (fun c56 => ?_)
                                                                · refine lv_iload hx hb dX8_isWord_63 (lv_at hl 0 rfl) ?_
                                                                  refine ta_iconst C 2 dX8_isWord_65 (by decide) ?_
                                                                  refine lv_icmp_ne (tgt := 73) hx hb dX8_isWord_66 (by decide) (fun c57 => ?_) (fun c57 => ?_)
                                                                  · refine lv_iload hx hb dX8_isWord_73 (lv_at hl 0 rfl) ?_
                                                                    refine ta_iconst C 3 dX8_isWord_75 (by decide) ?_
                                                                    refine lv_icmp_ne (tgt := 84) hx hb dX8_isWord_76 (by decide) (fun c58 => ?_) (fun c58 => ?_)
                                                                    · refine lv_iload hx hb dX8_isWord_84 (lv_at hl 0 rfl) ?_
                                                                      refine ta_iconst C 4 dX8_isWord_86 (by decide) ?_
                                                                      refine lv_icmp_ne (tgt := 95) hx hb dX8_isWord_87 (by decide) (fun c59 => ?_) (fun c59 => ?_)
                                                                      · exact absurd c59 (by decide)
                                                                      · refine lv_iload hx hb dX8_isWord_90 (lv_at hl 8 rfl) ?_
                                                                        refine lv_goto (tgt := 97) hx hb dX8_isWord_92 (by decide) ?_
                                                                        refine lv_istore (lv' := [(9, .int (nI 0)), (8, .int (nI 4)), (7, .int (nI 1)), (0, .ref (z 0)), (1, .int (nI 104)), (2, .int (nI 111)), (3, .int (nI 117)), (4, .int (nI 114)), (5, .int (nI 0)), (6, .int (nI 0))]) hx hb dX8_isWord_97 hl (by decide) rfl (fun ls hl => ?_)
                                                                        refine lv_aload_n hx hb dX8_isWord_99 rfl (lv_at hl 3 rfl) ?_
                                                                        refine ta_get C hP 0 inlX8 rfl rfl 13 (by decide) tw_304 rfl dX8_isWord_100 ?_
                                                                        refine lv_iload hx hb dX8_isWord_103 (lv_at hl 1 rfl) ?_
                                                                        refine ta_iadd C (a := tn_s tx L p0) (b := 4) dX8_isWord_105 ?_
                                                                        refine lv_aload_n hx hb dX8_isWord_106 rfl (lv_at hl 3 rfl) ?_
                                                                        refine ta_get C hP 0 inlX8 rfl rfl 11 (by decide) tw_309 rfl dX8_isWord_107 ?_
                                                                        refine ta_cge C (a := (tn_s tx L p0) + 4) (b := tn_e tx L p0) (tgt := 138) (by omega) (by omega) dX8_isWord_110 (by decide) (fun c60 => ?_) (fun c60 => ?_)
                                                                        · refine lv_iload hx hb dX8_isWord_138 (lv_at hl 0 rfl) ?_
                                                                          refine lv_if_ne (tgt := 147) hx hb dX8_isWord_140 (by decide) (fun c61 => ?_) (fun c61 => ?_)
                                                                          · exact absurd c61 (by decide)
                                                                          · refine ta_iconst C 1 dX8_isWord_143 (by decide) ?_
                                                                            refine lv_goto (tgt := 148) hx hb dX8_isWord_144 (by decide) ?_
                                                                            refine lv_istore (lv' := [(7, .int (nI 1)), (9, .int (nI 0)), (8, .int (nI 4)), (0, .ref (z 0)), (1, .int (nI 104)), (2, .int (nI 111)), (3, .int (nI 117)), (4, .int (nI 114)), (5, .int (nI 0)), (6, .int (nI 0))]) hx hb dX8_isWord_148 hl (by decide) rfl (fun ls hl => ?_)
                                                                            refine lv_iinc (v := nI 5) (lv' := [(8, .int (nI 5)), (7, .int (nI 1)), (9, .int (nI 0)), (0, .ref (z 0)), (1, .int (nI 104)), (2, .int (nI 111)), (3, .int (nI 117)), (4, .int (nI 114)), (5, .int (nI 0)), (6, .int (nI 0))]) hx hb dX8_isWord_150 hl (k := 2) rfl (by decide) (by decide) rfl (fun ls hl => ?_)
                                                                            refine lv_goto (tgt := 32) hx hb dX8_isWord_153 (by decide) ?_
                                                                            refine lv_iload hx hb dX8_isWord_32 (lv_at hl 0 rfl) ?_
                                                                            refine ta_bipush C 6 dX8_isWord_34 (by decide) ?_
                                                                            refine lv_icmp_ge (tgt := 156) hx hb dX8_isWord_36 (by decide) (fun c62 => ?_) (fun c62 => ?_)
                                                                            · exact absurd c62 (by decide)
                                                                            · refine lv_iload hx hb dX8_isWord_39 (lv_at hl 1 rfl) ?_
                                                                              refine lv_if_eq (tgt := 156) hx hb dX8_isWord_41 (by decide) (fun c63 => ?_) (fun c63 => ?_)
                                                                              · exact absurd c63 (by decide)
                                                                              · refine lv_iload hx hb dX8_isWord_44 (lv_at hl 0 rfl) ?_
                                                                                refine lv_if_ne (tgt := 53) hx hb dX8_isWord_46 (by decide) (fun c64 => ?_) (fun c64 => ?_)
                                                                                · refine lv_iload hx hb dX8_isWord_53 (lv_at hl 0 rfl) ?_
                                                                                  refine ta_iconst C 1 dX8_isWord_55 (by decide) ?_
                                                                                  refine lv_icmp_ne (tgt := 63) hx hb dX8_isWord_56 (by decide) (fun c65 => ?_) (fun c65 => ?_)
                                                                                  · refine lv_iload hx hb dX8_isWord_63 (lv_at hl 0 rfl) ?_
                                                                                    refine ta_iconst C 2 dX8_isWord_65 (by decide) ?_
                                                                                    refine lv_icmp_ne (tgt := 73) hx hb dX8_isWord_66 (by decide) (fun c66 => ?_) (fun c66 => ?_)
                                                                                    · refine lv_iload hx hb dX8_isWord_73 (lv_at hl 0 rfl) ?_
                                                                                      refine ta_iconst C 3 dX8_isWord_75 (by decide) ?_
                                                                                      refine lv_icmp_ne (tgt := 84) hx hb dX8_isWord_76 (by decide) (fun c67 => ?_) (fun c67 => ?_)
                                                                                      · refine lv_iload hx hb dX8_isWord_84 (lv_at hl 0 rfl) ?_
                                                                                        refine ta_iconst C 4 dX8_isWord_86 (by decide) ?_
                                                                                        refine lv_icmp_ne (tgt := 95) hx hb dX8_isWord_87 (by decide) (fun c68 => ?_) (fun c68 => ?_)
                                                                                        · refine lv_iload hx hb dX8_isWord_95 (lv_at hl 9 rfl) ?_
                                                                                          refine lv_istore (lv' := [(9, .int (nI 0)), (8, .int (nI 5)), (7, .int (nI 1)), (0, .ref (z 0)), (1, .int (nI 104)), (2, .int (nI 111)), (3, .int (nI 117)), (4, .int (nI 114)), (5, .int (nI 0)), (6, .int (nI 0))]) hx hb dX8_isWord_97 hl (by decide) rfl (fun ls hl => ?_)
                                                                                          refine lv_aload_n hx hb dX8_isWord_99 rfl (lv_at hl 3 rfl) ?_
                                                                                          refine ta_get C hP 0 inlX8 rfl rfl 13 (by decide) tw_304 rfl dX8_isWord_100 ?_
                                                                                          refine lv_iload hx hb dX8_isWord_103 (lv_at hl 1 rfl) ?_
                                                                                          refine ta_iadd C (a := tn_s tx L p0) (b := 5) dX8_isWord_105 ?_
                                                                                          refine lv_aload_n hx hb dX8_isWord_106 rfl (lv_at hl 3 rfl) ?_
                                                                                          refine ta_get C hP 0 inlX8 rfl rfl 11 (by decide) tw_309 rfl dX8_isWord_107 ?_
                                                                                          refine ta_cge C (a := (tn_s tx L p0) + 5) (b := tn_e tx L p0) (tgt := 138) (by omega) (by omega) dX8_isWord_110 (by decide) (fun c69 => ?_) (fun c69 => ?_)
                                                                                          · refine lv_iload hx hb dX8_isWord_138 (lv_at hl 0 rfl) ?_
                                                                                            refine lv_if_ne (tgt := 147) hx hb dX8_isWord_140 (by decide) (fun c70 => ?_) (fun c70 => ?_)
                                                                                            · exact absurd c70 (by decide)
                                                                                            · refine ta_iconst C 1 dX8_isWord_143 (by decide) ?_
                                                                                              refine lv_goto (tgt := 148) hx hb dX8_isWord_144 (by decide) ?_
                                                                                              refine lv_istore (lv' := [(7, .int (nI 1)), (9, .int (nI 0)), (8, .int (nI 5)), (0, .ref (z 0)), (1, .int (nI 104)), (2, .int (nI 111)), (3, .int (nI 117)), (4, .int (nI 114)), (5, .int (nI 0)), (6, .int (nI 0))]) hx hb dX8_isWord_148 hl (by decide) rfl (fun ls hl => ?_)
                                                                                              refine lv_iinc (v := nI 6) (lv' := [(8, .int (nI 6)), (7, .int (nI 1)), (9, .int (nI 0)), (0, .ref (z 0)), (1, .int (nI 104)), (2, .int (nI 111)), (3, .int (nI 117)), (4, .int (nI 114)), (5, .int (nI 0)), (6, .int (nI 0))]) hx hb dX8_isWord_150 hl (k := 2) rfl (by decide) (by decide) rfl (fun ls hl => ?_)
                                                                                              refine lv_goto (tgt := 32) hx hb dX8_isWord_153 (by decide) ?_
                                                                                              refine lv_iload hx hb dX8_isWord_32 (lv_at hl 0 rfl) ?_
                                                                                              refine ta_bipush C 6 dX8_isWord_34 (by decide) ?_
                                                                                              refine lv_icmp_ge (tgt := 156) hx hb dX8_isWord_36 (by decide) (fun c71 => ?_) (fun c71 => ?_)
                                                                                              · refine lv_iload hx hb dX8_isWord_156 (lv_at hl 1 rfl) ?_
                                                                                                have hw : tk_is tx (tn_s tx L p0) (tn_e tx L p0) 2 := by
                                                                                                  refine ⟨show tn_e tx L p0 - tn_s tx L p0 = 4 by omega, fun j hj => ?_⟩
                                                                                                  have hj : j < 4 := hj
                                                                                                  rcases (show j = 0 ∨ j = 1 ∨ j = 2 ∨ j = 3 by omega) with rfl | rfl | rfl | rfl
                                                                                                  · show tx (tn_s tx L p0 + 0) = 104; omega
                                                                                                  · show tx (tn_s tx L p0 + 1) = 111; omega
                                                                                                  · show tx (tn_s tx L p0 + 2) = 117; omega
                                                                                                  · show tx (tn_s tx L p0 + 3) = 114; omega
                                                                                                exact ret _ () dX8_isWord_158 (by decide) (Or.inl ⟨hw, rfl⟩) hP hD hS
                                                                                              · exact absurd c71 (by decide)
                                                                                          · have hr5 := hrow (tn_s tx L p0 + 5) (by omega) (by omega)
                                                                                            refine lv_aload_n hx hb dX8_isWord_113 rfl (lv_at hl 3 rfl) ?_
                                                                                            refine ta_get C hP 0 inlX8 rfl rfl 0 (by decide) tw_125 rfl dX8_isWord_114 ?_
                                                                                            refine lv_aload_n hx hb dX8_isWord_117 rfl (lv_at hl 3 rfl) ?_
                                                                                            refine ta_get C hP 0 inlX8 rfl rfl 13 (by decide) tw_304 rfl dX8_isWord_118 ?_
                                                                                            refine lv_iload hx hb dX8_isWord_121 (lv_at hl 1 rfl) ?_
                                                                                            refine ta_iadd C (a := tn_s tx L p0) (b := 5) dX8_isWord_123 ?_
                                                                                            refine ta_iald C hP 1 rfl (i := (tn_s tx L p0) + 5) (by omega) dX8_isWord_124 ?_
                                                                                            refine lv_iload hx hb dX8_isWord_125 (lv_at hl 0 rfl) ?_
                                                                                            refine ta_cne C (a := tx ((tn_s tx L p0) + 5)) (b := 0) (tgt := 134) (by omega) (by omega) dX8_isWord_127 (by decide) (fun c72 => ?_) (fun c72 => ?_)
                                                                                            · refine ta_iconst C 0 dX8_isWord_134 (by decide) ?_
                                                                                              refine lv_goto (tgt := 148) hx hb dX8_isWord_135 (by decide) ?_
                                                                                              refine lv_istore (lv' := [(7, .int (nI 0)), (9, .int (nI 0)), (8, .int (nI 5)), (0, .ref (z 0)), (1, .int (nI 104)), (2, .int (nI 111)), (3, .int (nI 117)), (4, .int (nI 114)), (5, .int (nI 0)), (6, .int (nI 0))]) hx hb dX8_isWord_148 hl (by decide) rfl (fun ls hl => ?_)
                                                                                              refine lv_iinc (v := nI 6) (lv' := [(8, .int (nI 6)), (7, .int (nI 0)), (9, .int (nI 0)), (0, .ref (z 0)), (1, .int (nI 104)), (2, .int (nI 111)), (3, .int (nI 117)), (4, .int (nI 114)), (5, .int (nI 0)), (6, .int (nI 0))]) hx hb dX8_isWord_150 hl (k := 2) rfl (by decide) (by decide) rfl (fun ls hl => ?_)
                                                                                              refine lv_goto (tgt := 32) hx hb dX8_isWord_153 (by decide) ?_
                                                                                              refine lv_iload hx hb dX8_isWord_32 (lv_at hl 0 rfl) ?_
                                                                                              refine ta_bipush C 6 dX8_isWord_34 (by decide) ?_
                                                                                              refine lv_icmp_ge (tgt := 156) hx hb dX8_isWord_36 (by decide) (fun c73 => ?_) (fun c73 => ?_)
                                                                                              · refine lv_iload hx hb dX8_isWord_156 (lv_at hl 1 rfl) ?_
                                                                                                have hnw : ¬ tk_is tx (tn_s tx L p0) (tn_e tx L p0) 2 := by
                                                                                                  intro h
                                                                                                  have h9 : tn_e tx L p0 - tn_s tx L p0 = 4 := h.1
                                                                                                  omega
                                                                                                exact ret _ () dX8_isWord_158 (by decide) (Or.inr ⟨hnw, rfl⟩) hP hD hS
                                                                                              · exact absurd c73 (by decide)
                                                                                            · exfalso; omega
                                                                                        · exact absurd c68 (by decide)
                                                                                      · exact absurd c67 (by decide)
                                                                                    · exact absurd c66 (by decide)
                                                                                  · exact absurd c65 (by decide)
                                                                                · exact absurd c64 (by decide)
                                                                        · have hr4 := hrow (tn_s tx L p0 + 4) (by omega) (by omega)
                                                                          refine lv_aload_n hx hb dX8_isWord_113 rfl (lv_at hl 3 rfl) ?_
                                                                          refine ta_get C hP 0 inlX8 rfl rfl 0 (by decide) tw_125 rfl dX8_isWord_114 ?_
                                                                          refine lv_aload_n hx hb dX8_isWord_117 rfl (lv_at hl 3 rfl) ?_
                                                                          refine ta_get C hP 0 inlX8 rfl rfl 13 (by decide) tw_304 rfl dX8_isWord_118 ?_
                                                                          refine lv_iload hx hb dX8_isWord_121 (lv_at hl 1 rfl) ?_
                                                                          refine ta_iadd C (a := tn_s tx L p0) (b := 4) dX8_isWord_123 ?_
                                                                          refine ta_iald C hP 1 rfl (i := (tn_s tx L p0) + 4) (by omega) dX8_isWord_124 ?_
                                                                          refine lv_iload hx hb dX8_isWord_125 (lv_at hl 0 rfl) ?_
                                                                          refine ta_cne C (a := tx ((tn_s tx L p0) + 4)) (b := 0) (tgt := 134) (by omega) (by omega) dX8_isWord_127 (by decide) (fun c74 => ?_) (fun c74 => ?_)
                                                                          · refine ta_iconst C 0 dX8_isWord_134 (by decide) ?_
                                                                            refine lv_goto (tgt := 148) hx hb dX8_isWord_135 (by decide) ?_
                                                                            refine lv_istore (lv' := [(7, .int (nI 0)), (9, .int (nI 0)), (8, .int (nI 4)), (0, .ref (z 0)), (1, .int (nI 104)), (2, .int (nI 111)), (3, .int (nI 117)), (4, .int (nI 114)), (5, .int (nI 0)), (6, .int (nI 0))]) hx hb dX8_isWord_148 hl (by decide) rfl (fun ls hl => ?_)
                                                                            refine lv_iinc (v := nI 5) (lv' := [(8, .int (nI 5)), (7, .int (nI 0)), (9, .int (nI 0)), (0, .ref (z 0)), (1, .int (nI 104)), (2, .int (nI 111)), (3, .int (nI 117)), (4, .int (nI 114)), (5, .int (nI 0)), (6, .int (nI 0))]) hx hb dX8_isWord_150 hl (k := 2) rfl (by decide) (by decide) rfl (fun ls hl => ?_)
                                                                            refine lv_goto (tgt := 32) hx hb dX8_isWord_153 (by decide) ?_
                                                                            refine lv_iload hx hb dX8_isWord_32 (lv_at hl 0 rfl) ?_
                                                                            refine ta_bipush C 6 dX8_isWord_34 (by decide) ?_
                                                                            refine lv_icmp_ge (tgt := 156) hx hb dX8_isWord_36 (by decide) (fun c75 => ?_) (fun c75 => ?_)
                                                                            · exact absurd c75 (by decide)
                                                                            · refine lv_iload hx hb dX8_isWord_39 (lv_at hl 1 rfl) ?_
                                                                              refine lv_if_eq (tgt := 156) hx hb dX8_isWord_41 (by decide) (fun c76 => ?_) (fun c76 => ?_)
                                                                              · refine lv_iload hx hb dX8_isWord_156 (lv_at hl 1 rfl) ?_
                                                                                have hnw : ¬ tk_is tx (tn_s tx L p0) (tn_e tx L p0) 2 := by
                                                                                  intro h
                                                                                  have h9 : tn_e tx L p0 - tn_s tx L p0 = 4 := h.1
                                                                                  omega
                                                                                exact ret _ () dX8_isWord_158 (by decide) (Or.inr ⟨hnw, rfl⟩) hP hD hS
                                                                              · exact absurd c76 (by decide)
                                                                          · exfalso; omega
                                                                    · exact absurd c58 (by decide)
                                                                  · exact absurd c57 (by decide)
                                                                · exact absurd c56 (by decide)
                                                              · exact absurd c55 (by decide)
                                                  · exact absurd c44 (by decide)
                                                · exact absurd c43 (by decide)
                                              · exact absurd c42 (by decide)
                                  · exact absurd c31 (by decide)
                                · exact absurd c30 (by decide)
                    · exact absurd c19 (by decide)

set_option maxHeartbeats 4000000 in
set_option maxRecDepth 100000 in
theorem c_X8_isWord_3 (l : Launch) (D : va_G) (k : ta_C) (z : Nat → Nat) (kn : Nat) (no : Nat) (va : Nat) (L : Nat) (tx : Nat → Nat) (p0 : Nat) (hx0 : tx_ok tx L) (hp0 : p0 ≤ L) : ta_Mi (S := Unit) l D k yX8_isWord cX8_isWord 10 .boolean 0 0 [.ref (z 0), .int (nI 114), .int (nI 101), .int (nI 115), .int (nI 116), .int (nI 0), .int (nI 0)] [(z 0, .inr (8, [.ref (z 1), .int (nI L), .ref (z 2), .ref (z 3), .ref (z 4), .ref (z 5), .int (nI kn), .ref (z 6), .ref (z 7), .ref (z 8), .int (nI no), .int (nI (tn_e tx L p0)), .int (nI (mo_s tx L p0)), .int (nI (tn_s tx L p0)), .int (nI va), .ref (z 9)])), (z 1, .inl (k.1 0, 160, .inl (ta_e tx)))] (fun r _ => (tk_is tx (tn_s tx L p0) (tn_e tx L p0) 3 ∧ r = nI 1) ∨ (¬ tk_is tx (tn_s tx L p0) (tn_e tx L p0) 3 ∧ r = nI 0)) (fun u => [(z 0, .inr (8, [.ref (z 1), .int (nI L), .ref (z 2), .ref (z 3), .ref (z 4), .ref (z 5), .int (nI kn), .ref (z 6), .ref (z 7), .ref (z 8), .int (nI no), .int (nI (tn_e tx L p0)), .int (nI (mo_s tx L p0)), .int (nI (tn_s tx L p0)), .int (nI va), .ref (z 9)])), (z 1, .inl (k.1 0, 160, .inl (ta_e tx)))]) := by
  refine ta_enter_i (by decide) (Nat.le_of_ble_eq_true rfl) ?_
  intro p e s m below meth c A ls Q C ret hP hD hS hl
  have C : ta_At p l D k s m ([.ref (z 0), .int (nI 114), .int (nI 101), .int (nI 115), .int (nI 116), .int (nI 0), .int (nI 0)] : List Value).toArray c RX8 cX8_isWord 10 A := C
  have hx := C.1.1
  have hb := C.1.2.1
  have hl : lv_has ls 10 [(0, .ref (z 0)), (1, .int (nI 114)), (2, .int (nI 101)), (3, .int (nI 115)), (4, .int (nI 116)), (5, .int (nI 0)), (6, .int (nI 0))] := hl
  obtain ⟨H, hH⟩ : ∃ H, H = s.heap := ⟨_, rfl⟩
  obtain ⟨locs, hlocs⟩ : ∃ q : List Loc, q = [] := ⟨_, rfl⟩
  have hP : va_P D vwCl [(z 0, .inr (8, [.ref (z 1), .int (nI L), .ref (z 2), .ref (z 3), .ref (z 4), .ref (z 5), .int (nI kn), .ref (z 6), .ref (z 7), .ref (z 8), .int (nI no), .int (nI (tn_e tx L p0)), .int (nI (mo_s tx L p0)), .int (nI (tn_s tx L p0)), .int (nI va), .ref (z 9)])), (z 1, .inl (k.1 0, 160, .inl (ta_e tx)))] H := by rw [hH]; exact hP
  have hS : va_S A s.heap H locs := by rw [hH, hlocs]; exact hS
  rw [← hlocs]
  suffices hgoal : W p l e ({ frames := 0, cells := 0, slots := 0, locals := 0 }) s m ([.ref (z 0), .int (nI 114), .int (nI 101), .int (nI 115), .int (nI 116), .int (nI 0), .int (nI 0)] : List Value).toArray below meth c H locs 0 0 Q (F0 m 0 ls []) by rw [hH] at hgoal; exact hgoal
  clear hH hlocs
  obtain ⟨hL, hc⟩ := id hx0
  obtain ⟨b1, b2, b3, b4⟩ := tn_b (tx := tx) hp0
  have hms4 : mo_s tx L p0 < 4 := by unfold mo_s; have h4 := tx_s4 tx L (tn_s tx L p0); split <;> omega
  refine lv_aload_n hx hb dX8_isWord_0 rfl (lv_at hl 0 rfl) ?_
  refine ta_get C hP 0 inlX8 rfl rfl 12 (by decide) tw_310 rfl dX8_isWord_1 ?_
  refine ta_iconst C 1 dX8_isWord_4 (by decide) ?_
  refine ta_cne C (a := mo_s tx L p0) (b := 1) (tgt := 26) (by omega) (by omega) dX8_isWord_5 (by decide) (fun c1 => ?_) (fun c1 => ?_)
  · refine ta_iconst C 0 dX8_isWord_26 (by decide) ?_
    refine lv_istore (lv' := [(7, .int (nI 0)), (0, .ref (z 0)), (1, .int (nI 114)), (2, .int (nI 101)), (3, .int (nI 115)), (4, .int (nI 116)), (5, .int (nI 0)), (6, .int (nI 0))]) hx hb dX8_isWord_27 hl (by decide) rfl (fun ls hl => ?_)
    refine ta_iconst C 0 dX8_isWord_29 (by decide) ?_
    refine lv_istore (lv' := [(8, .int (nI 0)), (7, .int (nI 0)), (0, .ref (z 0)), (1, .int (nI 114)), (2, .int (nI 101)), (3, .int (nI 115)), (4, .int (nI 116)), (5, .int (nI 0)), (6, .int (nI 0))]) hx hb dX8_isWord_30 hl (by decide) rfl (fun ls hl => ?_)
    refine lv_iload hx hb dX8_isWord_32 (lv_at hl 0 rfl) ?_
    refine ta_bipush C 6 dX8_isWord_34 (by decide) ?_
    refine lv_icmp_ge (tgt := 156) hx hb dX8_isWord_36 (by decide) (fun c2 => ?_) (fun c2 => ?_)
    · exact absurd c2 (by decide)
    · refine lv_iload hx hb dX8_isWord_39 (lv_at hl 1 rfl) ?_
      refine lv_if_eq (tgt := 156) hx hb dX8_isWord_41 (by decide) (fun c3 => ?_) (fun c3 => ?_)
      · refine lv_iload hx hb dX8_isWord_156 (lv_at hl 1 rfl) ?_
        have hnw : ¬ tk_is tx (tn_s tx L p0) (tn_e tx L p0) 3 := fun h => by have h9 := mo_is1 (i := 3) (by decide) hp0 h; omega
        exact ret _ () dX8_isWord_158 (by decide) (Or.inr ⟨hnw, rfl⟩) hP hD hS
      · exact absurd c3 (by decide)
  · have hrow := mo_row c1
    refine lv_aload_n hx hb dX8_isWord_8 rfl (lv_at hl 0 rfl) ?_
    refine ta_get C hP 0 inlX8 rfl rfl 11 (by decide) tw_309 rfl dX8_isWord_9 ?_
    refine lv_aload_n hx hb dX8_isWord_12 rfl (lv_at hl 0 rfl) ?_
    refine ta_get C hP 0 inlX8 rfl rfl 13 (by decide) tw_304 rfl dX8_isWord_13 ?_
    refine ta_isub C (a := tn_e tx L p0) (b := tn_s tx L p0) (by omega) dX8_isWord_16 ?_
    refine ta_bipush C 7 dX8_isWord_17 (by decide) ?_
    refine ta_cge C (a := (tn_e tx L p0) - (tn_s tx L p0)) (b := 7) (tgt := 26) (by omega) (by omega) dX8_isWord_19 (by decide) (fun c4 => ?_) (fun c4 => ?_)
    · refine ta_iconst C 0 dX8_isWord_26 (by decide) ?_
      refine lv_istore (lv' := [(7, .int (nI 0)), (0, .ref (z 0)), (1, .int (nI 114)), (2, .int (nI 101)), (3, .int (nI 115)), (4, .int (nI 116)), (5, .int (nI 0)), (6, .int (nI 0))]) hx hb dX8_isWord_27 hl (by decide) rfl (fun ls hl => ?_)
      refine ta_iconst C 0 dX8_isWord_29 (by decide) ?_
      refine lv_istore (lv' := [(8, .int (nI 0)), (7, .int (nI 0)), (0, .ref (z 0)), (1, .int (nI 114)), (2, .int (nI 101)), (3, .int (nI 115)), (4, .int (nI 116)), (5, .int (nI 0)), (6, .int (nI 0))]) hx hb dX8_isWord_30 hl (by decide) rfl (fun ls hl => ?_)
      refine lv_iload hx hb dX8_isWord_32 (lv_at hl 0 rfl) ?_
      refine ta_bipush C 6 dX8_isWord_34 (by decide) ?_
      refine lv_icmp_ge (tgt := 156) hx hb dX8_isWord_36 (by decide) (fun c5 => ?_) (fun c5 => ?_)
      · exact absurd c5 (by decide)
      · refine lv_iload hx hb dX8_isWord_39 (lv_at hl 1 rfl) ?_
        refine lv_if_eq (tgt := 156) hx hb dX8_isWord_41 (by decide) (fun c6 => ?_) (fun c6 => ?_)
        · refine lv_iload hx hb dX8_isWord_156 (lv_at hl 1 rfl) ?_
          have hnw : ¬ tk_is tx (tn_s tx L p0) (tn_e tx L p0) 3 := fun h => by have h9 : tn_e tx L p0 - tn_s tx L p0 = 4 := h.1; omega
          exact ret _ () dX8_isWord_158 (by decide) (Or.inr ⟨hnw, rfl⟩) hP hD hS
        · exact absurd c6 (by decide)
    · refine ta_iconst C 1 dX8_isWord_22 (by decide) ?_
      refine lv_goto (tgt := 27) hx hb dX8_isWord_23 (by decide) ?_
      refine lv_istore (lv' := [(7, .int (nI 1)), (0, .ref (z 0)), (1, .int (nI 114)), (2, .int (nI 101)), (3, .int (nI 115)), (4, .int (nI 116)), (5, .int (nI 0)), (6, .int (nI 0))]) hx hb dX8_isWord_27 hl (by decide) rfl (fun ls hl => ?_)
      refine ta_iconst C 0 dX8_isWord_29 (by decide) ?_
      refine lv_istore (lv' := [(8, .int (nI 0)), (7, .int (nI 1)), (0, .ref (z 0)), (1, .int (nI 114)), (2, .int (nI 101)), (3, .int (nI 115)), (4, .int (nI 116)), (5, .int (nI 0)), (6, .int (nI 0))]) hx hb dX8_isWord_30 hl (by decide) rfl (fun ls hl => ?_)
      refine lv_iload hx hb dX8_isWord_32 (lv_at hl 0 rfl) ?_
      refine ta_bipush C 6 dX8_isWord_34 (by decide) ?_
      refine lv_icmp_ge (tgt := 156) hx hb dX8_isWord_36 (by decide) (fun c7 => ?_) (fun c7 => ?_)
      · exact absurd c7 (by decide)
      · refine lv_iload hx hb dX8_isWord_39 (lv_at hl 1 rfl) ?_
        refine lv_if_eq (tgt := 156) hx hb dX8_isWord_41 (by decide) (fun c8 => ?_) (fun c8 => ?_)
        · exact absurd c8 (by decide)
        · refine lv_iload hx hb dX8_isWord_44 (lv_at hl 0 rfl) ?_
          refine lv_if_ne (tgt := 53) hx hb dX8_isWord_46 (by decide) (fun c9 => ?_) (fun c9 => ?_)
          · exact absurd c9 (by decide)
          · refine lv_iload_n hx hb dX8_isWord_49 rfl (lv_at hl 3 rfl) ?_
            refine lv_goto (tgt := 97) hx hb dX8_isWord_50 (by decide) ?_
            refine lv_istore (lv' := [(9, .int (nI 114)), (8, .int (nI 0)), (7, .int (nI 1)), (0, .ref (z 0)), (1, .int (nI 114)), (2, .int (nI 101)), (3, .int (nI 115)), (4, .int (nI 116)), (5, .int (nI 0)), (6, .int (nI 0))]) hx hb dX8_isWord_97 hl (by decide) rfl (fun ls hl => ?_)
            refine lv_aload_n hx hb dX8_isWord_99 rfl (lv_at hl 3 rfl) ?_
            refine ta_get C hP 0 inlX8 rfl rfl 13 (by decide) tw_304 rfl dX8_isWord_100 ?_
            refine lv_iload hx hb dX8_isWord_103 (lv_at hl 1 rfl) ?_
            refine ta_iadd C (a := tn_s tx L p0) (b := 0) dX8_isWord_105 ?_
            refine lv_aload_n hx hb dX8_isWord_106 rfl (lv_at hl 3 rfl) ?_
            refine ta_get C hP 0 inlX8 rfl rfl 11 (by decide) tw_309 rfl dX8_isWord_107 ?_
            refine ta_cge C (a := (tn_s tx L p0) + 0) (b := tn_e tx L p0) (tgt := 138) (by omega) (by omega) dX8_isWord_110 (by decide) (fun c10 => ?_) (fun c10 => ?_)
            · refine lv_iload hx hb dX8_isWord_138 (lv_at hl 0 rfl) ?_
              refine lv_if_ne (tgt := 147) hx hb dX8_isWord_140 (by decide) (fun c11 => ?_) (fun c11 => ?_)
              · refine ta_iconst C 0 dX8_isWord_147 (by decide) ?_
                refine lv_istore (lv' := [(7, .int (nI 0)), (9, .int (nI 114)), (8, .int (nI 0)), (0, .ref (z 0)), (1, .int (nI 114)), (2, .int (nI 101)), (3, .int (nI 115)), (4, .int (nI 116)), (5, .int (nI 0)), (6, .int (nI 0))]) hx hb dX8_isWord_148 hl (by decide) rfl (fun ls hl => ?_)
                refine lv_iinc (v := nI 1) (lv' := [(8, .int (nI 1)), (7, .int (nI 0)), (9, .int (nI 114)), (0, .ref (z 0)), (1, .int (nI 114)), (2, .int (nI 101)), (3, .int (nI 115)), (4, .int (nI 116)), (5, .int (nI 0)), (6, .int (nI 0))]) hx hb dX8_isWord_150 hl (k := 2) rfl (by decide) (by decide) rfl (fun ls hl => ?_)
                refine lv_goto (tgt := 32) hx hb dX8_isWord_153 (by decide) ?_
                refine lv_iload hx hb dX8_isWord_32 (lv_at hl 0 rfl) ?_
                refine ta_bipush C 6 dX8_isWord_34 (by decide) ?_
                refine lv_icmp_ge (tgt := 156) hx hb dX8_isWord_36 (by decide) (fun c12 => ?_) (fun c12 => ?_)
                · exact absurd c12 (by decide)
                · refine lv_iload hx hb dX8_isWord_39 (lv_at hl 1 rfl) ?_
                  refine lv_if_eq (tgt := 156) hx hb dX8_isWord_41 (by decide) (fun c13 => ?_) (fun c13 => ?_)
                  · refine lv_iload hx hb dX8_isWord_156 (lv_at hl 1 rfl) ?_
                    have hnw : ¬ tk_is tx (tn_s tx L p0) (tn_e tx L p0) 3 := by
                      intro h
                      have h9 : tn_e tx L p0 - tn_s tx L p0 = 4 := h.1
                      have h8 : tx (tn_s tx L p0 + 0) = 114 := h.2 0 (by decide)
                      omega
                    exact ret _ () dX8_isWord_158 (by decide) (Or.inr ⟨hnw, rfl⟩) hP hD hS
                  · exact absurd c13 (by decide)
              · exact absurd c11 (by decide)
            · have hr0 := hrow (tn_s tx L p0 + 0) (by omega) (by omega)
              refine lv_aload_n hx hb dX8_isWord_113 rfl (lv_at hl 3 rfl) ?_
              refine ta_get C hP 0 inlX8 rfl rfl 0 (by decide) tw_125 rfl dX8_isWord_114 ?_
              refine lv_aload_n hx hb dX8_isWord_117 rfl (lv_at hl 3 rfl) ?_
              refine ta_get C hP 0 inlX8 rfl rfl 13 (by decide) tw_304 rfl dX8_isWord_118 ?_
              refine lv_iload hx hb dX8_isWord_121 (lv_at hl 1 rfl) ?_
              refine ta_iadd C (a := tn_s tx L p0) (b := 0) dX8_isWord_123 ?_
              refine ta_iald C hP 1 rfl (i := (tn_s tx L p0) + 0) (by omega) dX8_isWord_124 ?_
              refine lv_iload hx hb dX8_isWord_125 (lv_at hl 0 rfl) ?_
              refine ta_cne C (a := tx ((tn_s tx L p0) + 0)) (b := 114) (tgt := 134) (by omega) (by omega) dX8_isWord_127 (by decide) (fun c14 => ?_) (fun c14 => ?_)
              · refine ta_iconst C 0 dX8_isWord_134 (by decide) ?_
                refine lv_goto (tgt := 148) hx hb dX8_isWord_135 (by decide) ?_
                refine lv_istore (lv' := [(7, .int (nI 0)), (9, .int (nI 114)), (8, .int (nI 0)), (0, .ref (z 0)), (1, .int (nI 114)), (2, .int (nI 101)), (3, .int (nI 115)), (4, .int (nI 116)), (5, .int (nI 0)), (6, .int (nI 0))]) hx hb dX8_isWord_148 hl (by decide) rfl (fun ls hl => ?_)
                refine lv_iinc (v := nI 1) (lv' := [(8, .int (nI 1)), (7, .int (nI 0)), (9, .int (nI 114)), (0, .ref (z 0)), (1, .int (nI 114)), (2, .int (nI 101)), (3, .int (nI 115)), (4, .int (nI 116)), (5, .int (nI 0)), (6, .int (nI 0))]) hx hb dX8_isWord_150 hl (k := 2) rfl (by decide) (by decide) rfl (fun ls hl => ?_)
                refine lv_goto (tgt := 32) hx hb dX8_isWord_153 (by decide) ?_
                refine lv_iload hx hb dX8_isWord_32 (lv_at hl 0 rfl) ?_
                refine ta_bipush C 6 dX8_isWord_34 (by decide) ?_
                refine lv_icmp_ge (tgt := 156) hx hb dX8_isWord_36 (by decide) (fun c15 => ?_) (fun c15 => ?_)
                · exact absurd c15 (by decide)
                · refine lv_iload hx hb dX8_isWord_39 (lv_at hl 1 rfl) ?_
                  refine lv_if_eq (tgt := 156) hx hb dX8_isWord_41 (by decide) (fun c16 => ?_) (fun c16 => ?_)
                  · refine lv_iload hx hb dX8_isWord_156 (lv_at hl 1 rfl) ?_
                    have hnw : ¬ tk_is tx (tn_s tx L p0) (tn_e tx L p0) 3 := by
                      intro h
                      have h9 : tn_e tx L p0 - tn_s tx L p0 = 4 := h.1
                      have h8 : tx (tn_s tx L p0 + 0) = 114 := h.2 0 (by decide)
                      omega
                    exact ret _ () dX8_isWord_158 (by decide) (Or.inr ⟨hnw, rfl⟩) hP hD hS
                  · exact absurd c16 (by decide)
              · refine ta_iconst C 1 dX8_isWord_130 (by decide) ?_
                refine lv_goto (tgt := 148) hx hb dX8_isWord_131 (by decide) ?_
                refine lv_istore (lv' := [(7, .int (nI 1)), (9, .int (nI 114)), (8, .int (nI 0)), (0, .ref (z 0)), (1, .int (nI 114)), (2, .int (nI 101)), (3, .int (nI 115)), (4, .int (nI 116)), (5, .int (nI 0)), (6, .int (nI 0))]) hx hb dX8_isWord_148 hl (by decide) rfl (fun ls hl => ?_)
                refine lv_iinc (v := nI 1) (lv' := [(8, .int (nI 1)), (7, .int (nI 1)), (9, .int (nI 114)), (0, .ref (z 0)), (1, .int (nI 114)), (2, .int (nI 101)), (3, .int (nI 115)), (4, .int (nI 116)), (5, .int (nI 0)), (6, .int (nI 0))]) hx hb dX8_isWord_150 hl (k := 2) rfl (by decide) (by decide) rfl (fun ls hl => ?_)
                refine lv_goto (tgt := 32) hx hb dX8_isWord_153 (by decide) ?_
                refine lv_iload hx hb dX8_isWord_32 (lv_at hl 0 rfl) ?_
                refine ta_bipush C 6 dX8_isWord_34 (by decide) ?_
                refine lv_icmp_ge (tgt := 156) hx hb dX8_isWord_36 (by decide) (fun c17 => ?_) (fun c17 => ?_)
                · exact absurd c17 (by decide)
                · refine lv_iload hx hb dX8_isWord_39 (lv_at hl 1 rfl) ?_
                  refine lv_if_eq (tgt := 156) hx hb dX8_isWord_41 (by decide) (fun c18 => ?_) (fun c18 => ?_)
                  · exact absurd c18 (by decide)
                  · refine lv_iload hx hb dX8_isWord_44 (lv_at hl 0 rfl) ?_
                    refine lv_if_ne (tgt := 53) hx hb dX8_isWord_46 (by decide) (fun c19 => ?_) (fun c19 => ?_)
                    · refine lv_iload hx hb dX8_isWord_53 (lv_at hl 0 rfl) ?_
                      refine ta_iconst C 1 dX8_isWord_55 (by decide) ?_
                      refine lv_icmp_ne (tgt := 63) hx hb dX8_isWord_56 (by decide) (fun c20 => ?_) (fun c20 => ?_)
                      · exact absurd c20 (by decide)
                      · refine lv_iload_n hx hb dX8_isWord_59 rfl (lv_at hl 5 rfl) ?_
                        refine lv_goto (tgt := 97) hx hb dX8_isWord_60 (by decide) ?_
                        refine lv_istore (lv' := [(9, .int (nI 101)), (8, .int (nI 1)), (7, .int (nI 1)), (0, .ref (z 0)), (1, .int (nI 114)), (2, .int (nI 101)), (3, .int (nI 115)), (4, .int (nI 116)), (5, .int (nI 0)), (6, .int (nI 0))]) hx hb dX8_isWord_97 hl (by decide) rfl (fun ls hl => ?_)
                        refine lv_aload_n hx hb dX8_isWord_99 rfl (lv_at hl 3 rfl) ?_
                        refine ta_get C hP 0 inlX8 rfl rfl 13 (by decide) tw_304 rfl dX8_isWord_100 ?_
                        refine lv_iload hx hb dX8_isWord_103 (lv_at hl 1 rfl) ?_
                        refine ta_iadd C (a := tn_s tx L p0) (b := 1) dX8_isWord_105 ?_
                        refine lv_aload_n hx hb dX8_isWord_106 rfl (lv_at hl 3 rfl) ?_
                        refine ta_get C hP 0 inlX8 rfl rfl 11 (by decide) tw_309 rfl dX8_isWord_107 ?_
                        refine ta_cge C (a := (tn_s tx L p0) + 1) (b := tn_e tx L p0) (tgt := 138) (by omega) (by omega) dX8_isWord_110 (by decide) (fun c21 => ?_) (fun c21 => ?_)
                        · refine lv_iload hx hb dX8_isWord_138 (lv_at hl 0 rfl) ?_
                          refine lv_if_ne (tgt := 147) hx hb dX8_isWord_140 (by decide) (fun c22 => ?_) (fun c22 => ?_)
                          · refine ta_iconst C 0 dX8_isWord_147 (by decide) ?_
                            refine lv_istore (lv' := [(7, .int (nI 0)), (9, .int (nI 101)), (8, .int (nI 1)), (0, .ref (z 0)), (1, .int (nI 114)), (2, .int (nI 101)), (3, .int (nI 115)), (4, .int (nI 116)), (5, .int (nI 0)), (6, .int (nI 0))]) hx hb dX8_isWord_148 hl (by decide) rfl (fun ls hl => ?_)
                            refine lv_iinc (v := nI 2) (lv' := [(8, .int (nI 2)), (7, .int (nI 0)), (9, .int (nI 101)), (0, .ref (z 0)), (1, .int (nI 114)), (2, .int (nI 101)), (3, .int (nI 115)), (4, .int (nI 116)), (5, .int (nI 0)), (6, .int (nI 0))]) hx hb dX8_isWord_150 hl (k := 2) rfl (by decide) (by decide) rfl (fun ls hl => ?_)
                            refine lv_goto (tgt := 32) hx hb dX8_isWord_153 (by decide) ?_
                            refine lv_iload hx hb dX8_isWord_32 (lv_at hl 0 rfl) ?_
                            refine ta_bipush C 6 dX8_isWord_34 (by decide) ?_
                            refine lv_icmp_ge (tgt := 156) hx hb dX8_isWord_36 (by decide) (fun c23 => ?_) (fun c23 => ?_)
                            · exact absurd c23 (by decide)
                            · refine lv_iload hx hb dX8_isWord_39 (lv_at hl 1 rfl) ?_
                              refine lv_if_eq (tgt := 156) hx hb dX8_isWord_41 (by decide) (fun c24 => ?_) (fun c24 => ?_)
                              · refine lv_iload hx hb dX8_isWord_156 (lv_at hl 1 rfl) ?_
                                have hnw : ¬ tk_is tx (tn_s tx L p0) (tn_e tx L p0) 3 := by
                                  intro h
                                  have h9 : tn_e tx L p0 - tn_s tx L p0 = 4 := h.1
                                  have h8 : tx (tn_s tx L p0 + 1) = 101 := h.2 1 (by decide)
                                  omega
                                exact ret _ () dX8_isWord_158 (by decide) (Or.inr ⟨hnw, rfl⟩) hP hD hS
                              · exact absurd c24 (by decide)
                          · exact absurd c22 (by decide)
                        · have hr1 := hrow (tn_s tx L p0 + 1) (by omega) (by omega)
                          refine lv_aload_n hx hb dX8_isWord_113 rfl (lv_at hl 3 rfl) ?_
                          refine ta_get C hP 0 inlX8 rfl rfl 0 (by decide) tw_125 rfl dX8_isWord_114 ?_
                          refine lv_aload_n hx hb dX8_isWord_117 rfl (lv_at hl 3 rfl) ?_
                          refine ta_get C hP 0 inlX8 rfl rfl 13 (by decide) tw_304 rfl dX8_isWord_118 ?_
                          refine lv_iload hx hb dX8_isWord_121 (lv_at hl 1 rfl) ?_
                          refine ta_iadd C (a := tn_s tx L p0) (b := 1) dX8_isWord_123 ?_
                          refine ta_iald C hP 1 rfl (i := (tn_s tx L p0) + 1) (by omega) dX8_isWord_124 ?_
                          refine lv_iload hx hb dX8_isWord_125 (lv_at hl 0 rfl) ?_
                          refine ta_cne C (a := tx ((tn_s tx L p0) + 1)) (b := 101) (tgt := 134) (by omega) (by omega) dX8_isWord_127 (by decide) (fun c25 => ?_) (fun c25 => ?_)
                          · refine ta_iconst C 0 dX8_isWord_134 (by decide) ?_
                            refine lv_goto (tgt := 148) hx hb dX8_isWord_135 (by decide) ?_
                            refine lv_istore (lv' := [(7, .int (nI 0)), (9, .int (nI 101)), (8, .int (nI 1)), (0, .ref (z 0)), (1, .int (nI 114)), (2, .int (nI 101)), (3, .int (nI 115)), (4, .int (nI 116)), (5, .int (nI 0)), (6, .int (nI 0))]) hx hb dX8_isWord_148 hl (by decide) rfl (fun ls hl => ?_)
                            refine lv_iinc (v := nI 2) (lv' := [(8, .int (nI 2)), (7, .int (nI 0)), (9, .int (nI 101)), (0, .ref (z 0)), (1, .int (nI 114)), (2, .int (nI 101)), (3, .int (nI 115)), (4, .int (nI 116)), (5, .int (nI 0)), (6, .int (nI 0))]) hx hb dX8_isWord_150 hl (k := 2) rfl (by decide) (by decide) rfl (fun ls hl => ?_)
                            refine lv_goto (tgt := 32) hx hb dX8_isWord_153 (by decide) ?_
                            refine lv_iload hx hb dX8_isWord_32 (lv_at hl 0 rfl) ?_
                            refine ta_bipush C 6 dX8_isWord_34 (by decide) ?_
                            refine lv_icmp_ge (tgt := 156) hx hb dX8_isWord_36 (by decide) (fun c26 => ?_) (fun c26 => ?_)
                            · exact absurd c26 (by decide)
                            · refine lv_iload hx hb dX8_isWord_39 (lv_at hl 1 rfl) ?_
                              refine lv_if_eq (tgt := 156) hx hb dX8_isWord_41 (by decide) (fun c27 => ?_) (fun c27 => ?_)
                              · refine lv_iload hx hb dX8_isWord_156 (lv_at hl 1 rfl) ?_
                                have hnw : ¬ tk_is tx (tn_s tx L p0) (tn_e tx L p0) 3 := by
                                  intro h
                                  have h9 : tn_e tx L p0 - tn_s tx L p0 = 4 := h.1
                                  have h8 : tx (tn_s tx L p0 + 1) = 101 := h.2 1 (by decide)
                                  omega
                                exact ret _ () dX8_isWord_158 (by decide) (Or.inr ⟨hnw, rfl⟩) hP hD hS
                              · exact absurd c27 (by decide)
                          · refine ta_iconst C 1 dX8_isWord_130 (by decide) ?_
                            refine lv_goto (tgt := 148) hx hb dX8_isWord_131 (by decide) ?_
                            refine lv_istore (lv' := [(7, .int (nI 1)), (9, .int (nI 101)), (8, .int (nI 1)), (0, .ref (z 0)), (1, .int (nI 114)), (2, .int (nI 101)), (3, .int (nI 115)), (4, .int (nI 116)), (5, .int (nI 0)), (6, .int (nI 0))]) hx hb dX8_isWord_148 hl (by decide) rfl (fun ls hl => ?_)
                            refine lv_iinc (v := nI 2) (lv' := [(8, .int (nI 2)), (7, .int (nI 1)), (9, .int (nI 101)), (0, .ref (z 0)), (1, .int (nI 114)), (2, .int (nI 101)), (3, .int (nI 115)), (4, .int (nI 116)), (5, .int (nI 0)), (6, .int (nI 0))]) hx hb dX8_isWord_150 hl (k := 2) rfl (by decide) (by decide) rfl (fun ls hl => ?_)
                            refine lv_goto (tgt := 32) hx hb dX8_isWord_153 (by decide) ?_
                            refine lv_iload hx hb dX8_isWord_32 (lv_at hl 0 rfl) ?_
                            refine ta_bipush C 6 dX8_isWord_34 (by decide) ?_
                            refine lv_icmp_ge (tgt := 156) hx hb dX8_isWord_36 (by decide) (fun c28 => ?_) (fun c28 => ?_)
                            · exact absurd c28 (by decide)
                            · refine lv_iload hx hb dX8_isWord_39 (lv_at hl 1 rfl) ?_
                              refine lv_if_eq (tgt := 156) hx hb dX8_isWord_41 (by decide) (fun c29 => ?_) (fun c29 => ?_)
                              · exact absurd c29 (by decide)
                              · refine lv_iload hx hb dX8_isWord_44 (lv_at hl 0 rfl) ?_
                                refine lv_if_ne (tgt := 53) hx hb dX8_isWord_46 (by decide) (fun c30 => ?_) (fun c30 => ?_)
                                · refine lv_iload hx hb dX8_isWord_53 (lv_at hl 0 rfl) ?_
                                  refine ta_iconst C 1 dX8_isWord_55 (by decide) ?_
                                  refine lv_icmp_ne (tgt := 63) hx hb dX8_isWord_56 (by decide) (fun c31 => ?_) (fun c31 => ?_)
                                  · refine lv_iload hx hb dX8_isWord_63 (lv_at hl 0 rfl) ?_
                                    refine ta_iconst C 2 dX8_isWord_65 (by decide) ?_
                                    refine lv_icmp_ne (tgt := 73) hx hb dX8_isWord_66 (by decide) (fun c32 => ?_) (fun c32 => ?_)
                                    · exact absurd c32 (by decide)
                                    · refine lv_iload_n hx hb dX8_isWord_69 rfl (lv_at hl 6 rfl) ?_
                                      refine lv_goto (tgt := 97) hx hb dX8_isWord_70 (by decide) ?_
                                      refine lv_istore (lv' := [(9, .int (nI 115)), (8, .int (nI 2)), (7, .int (nI 1)), (0, .ref (z 0)), (1, .int (nI 114)), (2, .int (nI 101)), (3, .int (nI 115)), (4, .int (nI 116)), (5, .int (nI 0)), (6, .int (nI 0))]) hx hb dX8_isWord_97 hl (by decide) rfl (fun ls hl => ?_)
                                      refine lv_aload_n hx hb dX8_isWord_99 rfl (lv_at hl 3 rfl) ?_
                                      refine ta_get C hP 0 inlX8 rfl rfl 13 (by decide) tw_304 rfl dX8_isWord_100 ?_
                                      refine lv_iload hx hb dX8_isWord_103 (lv_at hl 1 rfl) ?_
                                      refine ta_iadd C (a := tn_s tx L p0) (b := 2) dX8_isWord_105 ?_
                                      refine lv_aload_n hx hb dX8_isWord_106 rfl (lv_at hl 3 rfl) ?_
                                      refine ta_get C hP 0 inlX8 rfl rfl 11 (by decide) tw_309 rfl dX8_isWord_107 ?_
                                      refine ta_cge C (a := (tn_s tx L p0) + 2) (b := tn_e tx L p0) (tgt := 138) (by omega) (by omega) dX8_isWord_110 (by decide) (fun c33 => ?_) (fun c33 => ?_)
                                      · refine lv_iload hx hb dX8_isWord_138 (lv_at hl 0 rfl) ?_
                                        refine lv_if_ne (tgt := 147) hx hb dX8_isWord_140 (by decide) (fun c34 => ?_) (fun c34 => ?_)
                                        · refine ta_iconst C 0 dX8_isWord_147 (by decide) ?_
                                          refine lv_istore (lv' := [(7, .int (nI 0)), (9, .int (nI 115)), (8, .int (nI 2)), (0, .ref (z 0)), (1, .int (nI 114)), (2, .int (nI 101)), (3, .int (nI 115)), (4, .int (nI 116)), (5, .int (nI 0)), (6, .int (nI 0))]) hx hb dX8_isWord_148 hl (by decide) rfl (fun ls hl => ?_)
                                          refine lv_iinc (v := nI 3) (lv' := [(8, .int (nI 3)), (7, .int (nI 0)), (9, .int (nI 115)), (0, .ref (z 0)), (1, .int (nI 114)), (2, .int (nI 101)), (3, .int (nI 115)), (4, .int (nI 116)), (5, .int (nI 0)), (6, .int (nI 0))]) hx hb dX8_isWord_150 hl (k := 2) rfl (by decide) (by decide) rfl (fun ls hl => ?_)
                                          refine lv_goto (tgt := 32) hx hb dX8_isWord_153 (by decide) ?_
                                          refine lv_iload hx hb dX8_isWord_32 (lv_at hl 0 rfl) ?_
                                          refine ta_bipush C 6 dX8_isWord_34 (by decide) ?_
                                          refine lv_icmp_ge (tgt := 156) hx hb dX8_isWord_36 (by decide) (fun c35 => ?_) (fun c35 => ?_)
                                          · exact absurd c35 (by decide)
                                          · refine lv_iload hx hb dX8_isWord_39 (lv_at hl 1 rfl) ?_
                                            refine lv_if_eq (tgt := 156) hx hb dX8_isWord_41 (by decide) (fun c36 => ?_) (fun c36 => ?_)
                                            · refine lv_iload hx hb dX8_isWord_156 (lv_at hl 1 rfl) ?_
                                              have hnw : ¬ tk_is tx (tn_s tx L p0) (tn_e tx L p0) 3 := by
                                                intro h
                                                have h9 : tn_e tx L p0 - tn_s tx L p0 = 4 := h.1
                                                have h8 : tx (tn_s tx L p0 + 2) = 115 := h.2 2 (by decide)
                                                omega
                                              exact ret _ () dX8_isWord_158 (by decide) (Or.inr ⟨hnw, rfl⟩) hP hD hS
                                            · exact absurd c36 (by decide)
                                        · exact absurd c34 (by decide)
                                      · have hr2 := hrow (tn_s tx L p0 + 2) (by omega) (by omega)
                                        refine lv_aload_n hx hb dX8_isWord_113 rfl (lv_at hl 3 rfl) ?_
                                        refine ta_get C hP 0 inlX8 rfl rfl 0 (by decide) tw_125 rfl dX8_isWord_114 ?_
                                        refine lv_aload_n hx hb dX8_isWord_117 rfl (lv_at hl 3 rfl) ?_
                                        refine ta_get C hP 0 inlX8 rfl rfl 13 (by decide) tw_304 rfl dX8_isWord_118 ?_
                                        refine lv_iload hx hb dX8_isWord_121 (lv_at hl 1 rfl) ?_
                                        refine ta_iadd C (a := tn_s tx L p0) (b := 2) dX8_isWord_123 ?_
                                        refine ta_iald C hP 1 rfl (i := (tn_s tx L p0) + 2) (by omega) dX8_isWord_124 ?_
                                        refine lv_iload hx hb dX8_isWord_125 (lv_at hl 0 rfl) ?_
                                        refine ta_cne C (a := tx ((tn_s tx L p0) + 2)) (b := 115) (tgt := 134) (by omega) (by omega) dX8_isWord_127 (by decide) (fun c37 => ?_) (fun c37 => ?_)
                                        · refine ta_iconst C 0 dX8_isWord_134 (by decide) ?_
                                          refine lv_goto (tgt := 148) hx hb dX8_isWord_135 (by decide) ?_
                                          refine lv_istore (lv' := [(7, .int (nI 0)), (9, .int (nI 115)), (8, .int (nI 2)), (0, .ref (z 0)), (1, .int (nI 114)), (2, .int (nI 101)), (3, .int (nI 115)), (4, .int (nI 116)), (5, .int (nI 0)), (6, .int (nI 0))]) hx hb dX8_isWord_148 hl (by decide) rfl (fun ls hl => ?_)
                                          refine lv_iinc (v := nI 3) (lv' := [(8, .int (nI 3)), (7, .int (nI 0)), (9, .int (nI 115)), (0, .ref (z 0)), (1, .int (nI 114)), (2, .int (nI 101)), (3, .int (nI 115)), (4, .int (nI 116)), (5, .int (nI 0)), (6, .int (nI 0))]) hx hb dX8_isWord_150 hl (k := 2) rfl (by decide) (by decide) rfl (fun ls hl => ?_)
                                          refine lv_goto (tgt := 32) hx hb dX8_isWord_153 (by decide) ?_
                                          refine lv_iload hx hb dX8_isWord_32 (lv_at hl 0 rfl) ?_
                                          refine ta_bipush C 6 dX8_isWord_34 (by decide) ?_
                                          refine lv_icmp_ge (tgt := 156) hx hb dX8_isWord_36 (by decide) (fun c38 => ?_) (fun c38 => ?_)
                                          · exact absurd c38 (by decide)
                                          · refine lv_iload hx hb dX8_isWord_39 (lv_at hl 1 rfl) ?_
                                            refine lv_if_eq (tgt := 156) hx hb dX8_isWord_41 (by decide) (fun c39 => ?_) (fun c39 => ?_)
                                            · refine lv_iload hx hb dX8_isWord_156 (lv_at hl 1 rfl) ?_
                                              have hnw : ¬ tk_is tx (tn_s tx L p0) (tn_e tx L p0) 3 := by
                                                intro h
                                                have h9 : tn_e tx L p0 - tn_s tx L p0 = 4 := h.1
                                                have h8 : tx (tn_s tx L p0 + 2) = 115 := h.2 2 (by decide)
                                                omega
                                              exact ret _ () dX8_isWord_158 (by decide) (Or.inr ⟨hnw, rfl⟩) hP hD hS
                                            · exact absurd c39 (by decide)
                                        · refine ta_iconst C 1 dX8_isWord_130 (by decide) ?_
                                          refine lv_goto (tgt := 148) hx hb dX8_isWord_131 (by decide) ?_
                                          refine lv_istore (lv' := [(7, .int (nI 1)), (9, .int (nI 115)), (8, .int (nI 2)), (0, .ref (z 0)), (1, .int (nI 114)), (2, .int (nI 101)), (3, .int (nI 115)), (4, .int (nI 116)), (5, .int (nI 0)), (6, .int (nI 0))]) hx hb dX8_isWord_148 hl (by decide) rfl (fun ls hl => ?_)
                                          refine lv_iinc (v := nI 3) (lv' := [(8, .int (nI 3)), (7, .int (nI 1)), (9, .int (nI 115)), (0, .ref (z 0)), (1, .int (nI 114)), (2, .int (nI 101)), (3, .int (nI 115)), (4, .int (nI 116)), (5, .int (nI 0)), (6, .int (nI 0))]) hx hb dX8_isWord_150 hl (k := 2) rfl (by decide) (by decide) rfl (fun ls hl => ?_)
                                          refine lv_goto (tgt := 32) hx hb dX8_isWord_153 (by decide) ?_
                                          refine lv_iload hx hb dX8_isWord_32 (lv_at hl 0 rfl) ?_
                                          refine ta_bipush C 6 dX8_isWord_34 (by decide) ?_
                                          refine lv_icmp_ge (tgt := 156) hx hb dX8_isWord_36 (by decide) (fun c40 => ?_) (fun c40 => ?_)
                                          · exact absurd c40 (by decide)
                                          · refine lv_iload hx hb dX8_isWord_39 (lv_at hl 1 rfl) ?_
                                            refine lv_if_eq (tgt := 156) hx hb dX8_isWord_41 (by decide) (fun c41 => ?_) (fun c41 => ?_)
                                            · exact absurd c41 (by decide)
                                            · refine lv_iload hx hb dX8_isWord_44 (lv_at hl 0 rfl) ?_
                                              refine lv_if_ne (tgt := 53) hx hb dX8_isWord_46 (by decide) (fun c42 => ?_) (fun c42 => ?_)
                                              · refine lv_iload hx hb dX8_isWord_53 (lv_at hl 0 rfl) ?_
                                                refine ta_iconst C 1 dX8_isWord_55 (by decide) ?_
                                                refine lv_icmp_ne (tgt := 63) hx hb dX8_isWord_56 (by decide) (fun c43 => ?_) (fun c43 => ?_)
                                                · refine lv_iload hx hb dX8_isWord_63 (lv_at hl 0 rfl) ?_
                                                  refine ta_iconst C 2 dX8_isWord_65 (by decide) ?_
                                                  refine lv_icmp_ne (tgt := 73) hx hb dX8_isWord_66 (by decide) (fun c44 => ?_) (fun c44 => ?_)
                                                  · refine lv_iload hx hb dX8_isWord_73 (lv_at hl 0 rfl) ?_
                                                    refine ta_iconst C 3 dX8_isWord_75 (by decide) ?_
                                                    refine lv_icmp_ne (tgt := 84) hx hb dX8_isWord_76 (by decide) (fun c45 => ?_) (fun c45 => ?_)
                                                    · exact absurd c45 (by decide)
                                                    · refine lv_iload hx hb dX8_isWord_79 (lv_at hl 7 rfl) ?_
                                                      refine lv_goto (tgt := 97) hx hb dX8_isWord_81 (by decide) ?_
                                                      refine lv_istore (lv' := [(9, .int (nI 116)), (8, .int (nI 3)), (7, .int (nI 1)), (0, .ref (z 0)), (1, .int (nI 114)), (2, .int (nI 101)), (3, .int (nI 115)), (4, .int (nI 116)), (5, .int (nI 0)), (6, .int (nI 0))]) hx hb dX8_isWord_97 hl (by decide) rfl (fun ls hl => ?_)
                                                      refine lv_aload_n hx hb dX8_isWord_99 rfl (lv_at hl 3 rfl) ?_
                                                      refine ta_get C hP 0 inlX8 rfl rfl 13 (by decide) tw_304 rfl dX8_isWord_100 ?_
                                                      refine lv_iload hx hb dX8_isWord_103 (lv_at hl 1 rfl) ?_
                                                      refine ta_iadd C (a := tn_s tx L p0) (b := 3) dX8_isWord_105 ?_
                                                      refine lv_aload_n hx hb dX8_isWord_106 rfl (lv_at hl 3 rfl) ?_
                                                      refine ta_get C hP 0 inlX8 rfl rfl 11 (by decide) tw_309 rfl dX8_isWord_107 ?_
                                                      refine ta_cge C (a := (tn_s tx L p0) + 3) (b := tn_e tx L p0) (tgt := 138) (by omega) (by omega) dX8_isWord_110 (by decide) (fun c46 => ?_) (fun c46 => ?_)
                                                      · refine lv_iload hx hb dX8_isWord_138 (lv_at hl 0 rfl) ?_
                                                        refine lv_if_ne (tgt := 147) hx hb dX8_isWord_140 (by decide) (fun c47 => ?_) (fun c47 => ?_)
                                                        · refine ta_iconst C 0 dX8_isWord_147 (by decide) ?_
                                                          refine lv_istore (lv' := [(7, .int (nI 0)), (9, .int (nI 116)), (8, .int (nI 3)), (0, .ref (z 0)), (1, .int (nI 114)), (2, .int (nI 101)), (3, .int (nI 115)), (4, .int (nI 116)), (5, .int (nI 0)), (6, .int (nI 0))]) hx hb dX8_isWord_148 hl (by decide) rfl (fun ls hl => ?_)
                                                          refine lv_iinc (v := nI 4) (lv' := [(8, .int (nI 4)), (7, .int (nI 0)), (9, .int (nI 116)), (0, .ref (z 0)), (1, .int (nI 114)), (2, .int (nI 101)), (3, .int (nI 115)), (4, .int (nI 116)), (5, .int (nI 0)), (6, .int (nI 0))]) hx hb dX8_isWord_150 hl (k := 2) rfl (by decide) (by decide) rfl (fun ls hl => ?_)
                                                          refine lv_goto (tgt := 32) hx hb dX8_isWord_153 (by decide) ?_
                                                          refine lv_iload hx hb dX8_isWord_32 (lv_at hl 0 rfl) ?_
                                                          refine ta_bipush C 6 dX8_isWord_34 (by decide) ?_
                                                          refine lv_icmp_ge (tgt := 156) hx hb dX8_isWord_36 (by decide) (fun c48 => ?_) (fun c48 => ?_)
                                                          · exact absurd c48 (by decide)
                                                          · refine lv_iload hx hb dX8_isWord_39 (lv_at hl 1 rfl) ?_
                                                            refine lv_if_eq (tgt := 156) hx hb dX8_isWord_41 (by decide) (fun c49 => ?_) (fun c49 => ?_)
                                                            · refine lv_iload hx hb dX8_isWord_156 (lv_at hl 1 rfl) ?_
                                                              have hnw : ¬ tk_is tx (tn_s tx L p0) (tn_e tx L p0) 3 := by
                                                                intro h
                                                                have h9 : tn_e tx L p0 - tn_s tx L p0 = 4 := h.1
                                                                have h8 : tx (tn_s tx L p0 + 3) = 116 := h.2 3 (by decide)
                                                                omega
                                                              exact ret _ () dX8_isWord_158 (by decide) (Or.inr ⟨hnw, rfl⟩) hP hD hS
                                                            · exact absurd c49 (by decide)
                                                        · exact absurd c47 (by decide)
                                                      · have hr3 := hrow (tn_s tx L p0 + 3) (by omega) (by omega)
                                                        refine lv_aload_n hx hb dX8_isWord_113 rfl (lv_at hl 3 rfl) ?_
                                                        refine ta_get C hP 0 inlX8 rfl rfl 0 (by decide) tw_125 rfl dX8_isWord_114 ?_
                                                        refine lv_aload_n hx hb dX8_isWord_117 rfl (lv_at hl 3 rfl) ?_
                                                        refine ta_get C hP 0 inlX8 rfl rfl 13 (by decide) tw_304 rfl dX8_isWord_118 ?_
                                                        refine lv_iload hx hb dX8_isWord_121 (lv_at hl 1 rfl) ?_
                                                        refine ta_iadd C (a := tn_s tx L p0) (b := 3) dX8_isWord_123 ?_
                                                        refine ta_iald C hP 1 rfl (i := (tn_s tx L p0) + 3) (by omega) dX8_isWord_124 ?_
                                                        refine lv_iload hx hb dX8_isWord_125 (lv_at hl 0 rfl) ?_
                                                        refine ta_cne C (a := tx ((tn_s tx L p0) + 3)) (b := 116) (tgt := 134) (by omega) (by omega) dX8_isWord_127 (by decide) (fun c50 => ?_) (fun c50 => ?_)
                                                        · refine ta_iconst C 0 dX8_isWord_134 (by decide) ?_
                                                          refine lv_goto (tgt := 148) hx hb dX8_isWord_135 (by decide) ?_
                                                          refine lv_istore (lv' := [(7, .int (nI 0)), (9, .int (nI 116)), (8, .int (nI 3)), (0, .ref (z 0)), (1, .int (nI 114)), (2, .int (nI 101)), (3, .int (nI 115)), (4, .int (nI 116)), (5, .int (nI 0)), (6, .int (nI 0))]) hx hb dX8_isWord_148 hl (by decide) rfl (fun ls hl => ?_)
                                                          refine lv_iinc (v := nI 4) (lv' := [(8, .int (nI 4)), (7, .int (nI 0)), (9, .int (nI 116)), (0, .ref (z 0)), (1, .int (nI 114)), (2, .int (nI 101)), (3, .int (nI 115)), (4, .int (nI 116)), (5, .int (nI 0)), (6, .int (nI 0))]) hx hb dX8_isWord_150 hl (k := 2) rfl (by decide) (by decide) rfl (fun ls hl => ?_)
                                                          refine lv_goto (tgt := 32) hx hb dX8_isWord_153 (by decide) ?_
                                                          refine lv_iload hx hb dX8_isWord_32 (lv_at hl 0 rfl) ?_
                                                          refine ta_bipush C 6 dX8_isWord_34 (by decide) ?_
                                                          refine lv_icmp_ge (tgt := 156) hx hb dX8_isWord_36 (by decide) (fun c51 => ?_) (fun c51 => ?_)
                                                          · exact absurd c51 (by decide)
                                                          · refine lv_iload hx hb dX8_isWord_39 (lv_at hl 1 rfl) ?_
                                                            refine lv_if_eq (tgt := 156) hx hb dX8_isWord_41 (by decide) (fun c52 => ?_) (fun c52 => ?_)
                                                            · refine lv_iload hx hb dX8_isWord_156 (lv_at hl 1 rfl) ?_
                                                              have hnw : ¬ tk_is tx (tn_s tx L p0) (tn_e tx L p0) 3 := by
                                                                intro h
                                                                have h9 : tn_e tx L p0 - tn_s tx L p0 = 4 := h.1
                                                                have h8 : tx (tn_s tx L p0 + 3) = 116 := h.2 3 (by decide)
                                                                omega
                                                              exact ret _ () dX8_isWord_158 (by decide) (Or.inr ⟨hnw, rfl⟩) hP hD hS
                                                            · exact absurd c52 (by decide)
                                                        · refine ta_iconst C 1 dX8_isWord_130 (by decide) ?_
                                                          refine lv_goto (tgt := 148) hx hb dX8_isWord_131 (by decide) ?_
                                                          refine lv_istore (lv' := [(7, .int (nI 1)), (9, .int (nI 116)), (8, .int (nI 3)), (0, .ref (z 0)), (1, .int (nI 114)), (2, .int (nI 101)), (3, .int (nI 115)), (4, .int (nI 116)), (5, .int (nI 0)), (6, .int (nI 0))]) hx hb dX8_isWord_148 hl (by decide) rfl (fun ls hl => ?_)
                                                          refine lv_iinc (v := nI 4) (lv' := [(8, .int (nI 4)), (7, .int (nI 1)), (9, .int (nI 116)), (0, .ref (z 0)), (1, .int (nI 114)), (2, .int (nI 101)), (3, .int (nI 115)), (4, .int (nI 116)), (5, .int (nI 0)), (6, .int (nI 0))]) hx hb dX8_isWord_150 hl (k := 2) rfl (by decide) (by decide) rfl (fun ls hl => ?_)
                                                          refine lv_goto (tgt := 32) hx hb dX8_isWord_153 (by decide) ?_
                                                          refine lv_iload hx hb dX8_isWord_32 (lv_at hl 0 rfl) ?_
                                                          refine ta_bipush C 6 dX8_isWord_34 (by decide) ?_
                                                          refine lv_icmp_ge (tgt := 156) hx hb dX8_isWord_36 (by decide) (fun c53 => ?_) (fun c53 => ?_)
                                                          · exact absurd c53 (by decide)
                                                          · refine lv_iload hx hb dX8_isWord_39 (lv_at hl 1 rfl) ?_
                                                            refine lv_if_eq (tgt := 156) hx hb dX8_isWord_41 (by decide) (fun c54 => ?_) (fun c54 => ?_)
                                                            · exact absurd c54 (by decide)
                                                            · refine lv_iload hx hb dX8_isWord_44 (lv_at hl 0 rfl) ?_
                                                              refine lv_if_ne (tgt := 53) hx hb dX8_isWord_46 (by decide) (fun c55 => ?_) (fun c55 => ?_)
                                                              · refine lv_iload hx hb dX8_isWord_53 (lv_at hl 0 rfl) ?_
                                                                refine ta_iconst C 1 dX8_isWord_55 (by decide) ?_
                                                                refine lv_icmp_ne (tgt := 63) hx hb dX8_isWord_56 (by decide) (fun c56 => ?_) (fun c56 => ?_)
                                                                · refine lv_iload hx hb dX8_isWord_63 (lv_at hl 0 rfl) ?_
                                                                  refine ta_iconst C 2 dX8_isWord_65 (by decide) ?_
                                                                  refine lv_icmp_ne (tgt := 73) hx hb dX8_isWord_66 (by decide) (fun c57 => ?_) (fun c57 => ?_)
                                                                  · refine lv_iload hx hb dX8_isWord_73 (lv_at hl 0 rfl) ?_
                                                                    refine ta_iconst C 3 dX8_isWord_75 (by decide) ?_
                                                                    refine lv_icmp_ne (tgt := 84) hx hb dX8_isWord_76 (by decide) (fun c58 => ?_) (fun c58 => ?_)
                                                                    · refine lv_iload hx hb dX8_isWord_84 (lv_at hl 0 rfl) ?_
                                                                      refine ta_iconst C 4 dX8_isWord_86 (by decide) ?_
                                                                      refine lv_icmp_ne (tgt := 95) hx hb dX8_isWord_87 (by decide) (fun c59 => ?_) (fun c59 => ?_)
                                                                      · exact absurd c59 (by decide)
                                                                      · refine lv_iload hx hb dX8_isWord_90 (lv_at hl 8 rfl) ?_
                                                                        refine lv_goto (tgt := 97) hx hb dX8_isWord_92 (by decide) ?_
                                                                        refine lv_istore (lv' := [(9, .int (nI 0)), (8, .int (nI 4)), (7, .int (nI 1)), (0, .ref (z 0)), (1, .int (nI 114)), (2, .int (nI 101)), (3, .int (nI 115)), (4, .int (nI 116)), (5, .int (nI 0)), (6, .int (nI 0))]) hx hb dX8_isWord_97 hl (by decide) rfl (fun ls hl => ?_)
                                                                        refine lv_aload_n hx hb dX8_isWord_99 rfl (lv_at hl 3 rfl) ?_
                                                                        refine ta_get C hP 0 inlX8 rfl rfl 13 (by decide) tw_304 rfl dX8_isWord_100 ?_
                                                                        refine lv_iload hx hb dX8_isWord_103 (lv_at hl 1 rfl) ?_
                                                                        refine ta_iadd C (a := tn_s tx L p0) (b := 4) dX8_isWord_105 ?_
                                                                        refine lv_aload_n hx hb dX8_isWord_106 rfl (lv_at hl 3 rfl) ?_
                                                                        refine ta_get C hP 0 inlX8 rfl rfl 11 (by decide) tw_309 rfl dX8_isWord_107 ?_
                                                                        refine ta_cge C (a := (tn_s tx L p0) + 4) (b := tn_e tx L p0) (tgt := 138) (by omega) (by omega) dX8_isWord_110 (by decide) (fun c60 => ?_) (fun c60 => ?_)
                                                                        · refine lv_iload hx hb dX8_isWord_138 (lv_at hl 0 rfl) ?_
                                                                          refine lv_if_ne (tgt := 147) hx hb dX8_isWord_140 (by decide) (fun c61 => ?_) (fun c61 => ?_)
                                                                          · exact absurd c61 (by decide)
                                                                          · refine ta_iconst C 1 dX8_isWord_143 (by decide) ?_
                                                                            refine lv_goto (tgt := 148) hx hb dX8_isWord_144 (by decide) ?_
                                                                            refine lv_istore (lv' := [(7, .int (nI 1)), (9, .int (nI 0)), (8, .int (nI 4)), (0, .ref (z 0)), (1, .int (nI 114)), (2, .int (nI 101)), (3, .int (nI 115)), (4, .int (nI 116)), (5, .int (nI 0)), (6, .int (nI 0))]) hx hb dX8_isWord_148 hl (by decide) rfl (fun ls hl => ?_)
                                                                            refine lv_iinc (v := nI 5) (lv' := [(8, .int (nI 5)), (7, .int (nI 1)), (9, .int (nI 0)), (0, .ref (z 0)), (1, .int (nI 114)), (2, .int (nI 101)), (3, .int (nI 115)), (4, .int (nI 116)), (5, .int (nI 0)), (6, .int (nI 0))]) hx hb dX8_isWord_150 hl (k := 2) rfl (by decide) (by decide) rfl (fun ls hl => ?_)
                                                                            refine lv_goto (tgt := 32) hx hb dX8_isWord_153 (by decide) ?_
                                                                            refine lv_iload hx hb dX8_isWord_32 (lv_at hl 0 rfl) ?_
                                                                            refine ta_bipush C 6 dX8_isWord_34 (by decide) ?_
                                                                            refine lv_icmp_ge (tgt := 156) hx hb dX8_isWord_36 (by decide) (fun c62 => ?_) (fun c62 => ?_)
                                                                            · exact absurd c62 (by decide)
                                                                            · refine lv_iload hx hb dX8_isWord_39 (lv_at hl 1 rfl) ?_
                                                                              refine lv_if_eq (tgt := 156) hx hb dX8_isWord_41 (by decide) (fun c63 => ?_) (fun c63 => ?_)
                                                                              · exact absurd c63 (by decide)
                                                                              · refine lv_iload hx hb dX8_isWord_44 (lv_at hl 0 rfl) ?_
                                                                                refine lv_if_ne (tgt := 53) hx hb dX8_isWord_46 (by decide) (fun c64 => ?_) (fun c64 => ?_)
                                                                                · refine lv_iload hx hb dX8_isWord_53 (lv_at hl 0 rfl) ?_
                                                                                  refine ta_iconst C 1 dX8_isWord_55 (by decide) ?_
                                                                                  refine lv_icmp_ne (tgt := 63) hx hb dX8_isWord_56 (by decide) (fun c65 => ?_) (fun c65 => ?_)
                                                                                  · refine lv_iload hx hb dX8_isWord_63 (lv_at hl 0 rfl) ?_
                                                                                    refine ta_iconst C 2 dX8_isWord_65 (by decide) ?_
                                                                                    refine lv_icmp_ne (tgt := 73) hx hb dX8_isWord_66 (by decide) (fun c66 => ?_) (fun c66 => ?_)
                                                                                    · refine lv_iload hx hb dX8_isWord_73 (lv_at hl 0 rfl) ?_
                                                                                      refine ta_iconst C 3 dX8_isWord_75 (by decide) ?_
                                                                                      refine lv_icmp_ne (tgt := 84) hx hb dX8_isWord_76 (by decide) (fun c67 => ?_) (fun c67 => ?_)
                                                                                      · refine lv_iload hx hb dX8_isWord_84 (lv_at hl 0 rfl) ?_
                                                                                        refine ta_iconst C 4 dX8_isWord_86 (by decide) ?_
                                                                                        refine lv_icmp_ne (tgt := 95) hx hb dX8_isWord_87 (by decide) (fun c68 => ?_) (fun c68 => ?_)
                                                                                        · refine lv_iload hx hb dX8_isWord_95 (lv_at hl 9 rfl) ?_
                                                                                          refine lv_istore (lv' := [(9, .int (nI 0)), (8, .int (nI 5)), (7, .int (nI 1)), (0, .ref (z 0)), (1, .int (nI 114)), (2, .int (nI 101)), (3, .int (nI 115)), (4, .int (nI 116)), (5, .int (nI 0)), (6, .int (nI 0))]) hx hb dX8_isWord_97 hl (by decide) rfl (fun ls hl => ?_)
                                                                                          refine lv_aload_n hx hb dX8_isWord_99 rfl (lv_at hl 3 rfl) ?_
                                                                                          refine ta_get C hP 0 inlX8 rfl rfl 13 (by decide) tw_304 rfl dX8_isWord_100 ?_
                                                                                          refine lv_iload hx hb dX8_isWord_103 (lv_at hl 1 rfl) ?_
                                                                                          refine ta_iadd C (a := tn_s tx L p0) (b := 5) dX8_isWord_105 ?_
                                                                                          refine lv_aload_n hx hb dX8_isWord_106 rfl (lv_at hl 3 rfl) ?_
                                                                                          refine ta_get C hP 0 inlX8 rfl rfl 11 (by decide) tw_309 rfl dX8_isWord_107 ?_
                                                                                          refine ta_cge C (a := (tn_s tx L p0) + 5) (b := tn_e tx L p0) (tgt := 138) (by omega) (by omega) dX8_isWord_110 (by decide) (fun c69 => ?_) (fun c69 => ?_)
                                                                                          · refine lv_iload hx hb dX8_isWord_138 (lv_at hl 0 rfl) ?_
                                                                                            refine lv_if_ne (tgt := 147) hx hb dX8_isWord_140 (by decide) (fun c70 => ?_) (fun c70 => ?_)
                                                                                            · exact absurd c70 (by decide)
                                                                                            · refine ta_iconst C 1 dX8_isWord_143 (by decide) ?_
                                                                                              refine lv_goto (tgt := 148) hx hb dX8_isWord_144 (by decide) ?_
                                                                                              refine lv_istore (lv' := [(7, .int (nI 1)), (9, .int (nI 0)), (8, .int (nI 5)), (0, .ref (z 0)), (1, .int (nI 114)), (2, .int (nI 101)), (3, .int (nI 115)), (4, .int (nI 116)), (5, .int (nI 0)), (6, .int (nI 0))]) hx hb dX8_isWord_148 hl (by decide) rfl (fun ls hl => ?_)
                                                                                              refine lv_iinc (v := nI 6) (lv' := [(8, .int (nI 6)), (7, .int (nI 1)), (9, .int (nI 0)), (0, .ref (z 0)), (1, .int (nI 114)), (2, .int (nI 101)), (3, .int (nI 115)), (4, .int (nI 116)), (5, .int (nI 0)), (6, .int (nI 0))]) hx hb dX8_isWord_150 hl (k := 2) rfl (by decide) (by decide) rfl (fun ls hl => ?_)
                                                                                              refine lv_goto (tgt := 32) hx hb dX8_isWord_153 (by decide) ?_
                                                                                              refine lv_iload hx hb dX8_isWord_32 (lv_at hl 0 rfl) ?_
                                                                                              refine ta_bipush C 6 dX8_isWord_34 (by decide) ?_
                                                                                              refine lv_icmp_ge (tgt := 156) hx hb dX8_isWord_36 (by decide) (fun c71 => ?_) (fun c71 => ?_)
                                                                                              · refine lv_iload hx hb dX8_isWord_156 (lv_at hl 1 rfl) ?_
                                                                                                have hw : tk_is tx (tn_s tx L p0) (tn_e tx L p0) 3 := by
                                                                                                  refine ⟨show tn_e tx L p0 - tn_s tx L p0 = 4 by omega, fun j hj => ?_⟩
                                                                                                  have hj : j < 4 := hj
                                                                                                  rcases (show j = 0 ∨ j = 1 ∨ j = 2 ∨ j = 3 by omega) with rfl | rfl | rfl | rfl
                                                                                                  · show tx (tn_s tx L p0 + 0) = 114; omega
                                                                                                  · show tx (tn_s tx L p0 + 1) = 101; omega
                                                                                                  · show tx (tn_s tx L p0 + 2) = 115; omega
                                                                                                  · show tx (tn_s tx L p0 + 3) = 116; omega
                                                                                                exact ret _ () dX8_isWord_158 (by decide) (Or.inl ⟨hw, rfl⟩) hP hD hS
                                                                                              · exact absurd c71 (by decide)
                                                                                          · have hr5 := hrow (tn_s tx L p0 + 5) (by omega) (by omega)
                                                                                            refine lv_aload_n hx hb dX8_isWord_113 rfl (lv_at hl 3 rfl) ?_
                                                                                            refine ta_get C hP 0 inlX8 rfl rfl 0 (by decide) tw_125 rfl dX8_isWord_114 ?_
                                                                                            refine lv_aload_n hx hb dX8_isWord_117 rfl (lv_at hl 3 rfl) ?_
                                                                                            refine ta_get C hP 0 inlX8 rfl rfl 13 (by decide) tw_304 rfl dX8_isWord_118 ?_
                                                                                            refine lv_iload hx hb dX8_isWord_121 (lv_at hl 1 rfl) ?_
                                                                                            refine ta_iadd C (a := tn_s tx L p0) (b := 5) dX8_isWord_123 ?_
                                                                                            refine ta_iald C hP 1 rfl (i := (tn_s tx L p0) + 5) (by omega) dX8_isWord_124 ?_
                                                                                            refine lv_iload hx hb dX8_isWord_125 (lv_at hl 0 rfl) ?_
                                                                                            refine ta_cne C (a := tx ((tn_s tx L p0) + 5)) (b := 0) (tgt := 134) (by omega) (by omega) dX8_isWord_127 (by decide) (fun c72 => ?_) (fun c72 => ?_)
                                                                                            · refine ta_iconst C 0 dX8_isWord_134 (by decide) ?_
                                                                                              refine lv_goto (tgt := 148) hx hb dX8_isWord_135 (by decide) ?_
                                                                                              refine lv_istore (lv' := [(7, .int (nI 0)), (9, .int (nI 0)), (8, .int (nI 5)), (0, .ref (z 0)), (1, .int (nI 114)), (2, .int (nI 101)), (3, .int (nI 115)), (4, .int (nI 116)), (5, .int (nI 0)), (6, .int (nI 0))]) hx hb dX8_isWord_148 hl (by decide) rfl (fun ls hl => ?_)
                                                                                              refine lv_iinc (v := nI 6) (lv' := [(8, .int (nI 6)), (7, .int (nI 0)), (9, .int (nI 0)), (0, .ref (z 0)), (1, .int (nI 114)), (2, .int (nI 101)), (3, .int (nI 115)), (4, .int (nI 116)), (5, .int (nI 0)), (6, .int (nI 0))]) hx hb dX8_isWord_150 hl (k := 2) rfl (by decide) (by decide) rfl (fun ls hl => ?_)
                                                                                              refine lv_goto (tgt := 32) hx hb dX8_isWord_153 (by decide) ?_
                                                                                              refine lv_iload hx hb dX8_isWord_32 (lv_at hl 0 rfl) ?_
                                                                                              refine ta_bipush C 6 dX8_isWord_34 (by decide) ?_
                                                                                              refine lv_icmp_ge (tgt := 156) hx hb dX8_isWord_36 (by decide) (fun c73 => ?_) (fun c73 => ?_)
                                                                                              · refine lv_iload hx hb dX8_isWord_156 (lv_at hl 1 rfl) ?_
                                                                                                have hnw : ¬ tk_is tx (tn_s tx L p0) (tn_e tx L p0) 3 := by
                                                                                                  intro h
                                                                                                  have h9 : tn_e tx L p0 - tn_s tx L p0 = 4 := h.1
                                                                                                  omega
                                                                                                exact ret _ () dX8_isWord_158 (by decide) (Or.inr ⟨hnw, rfl⟩) hP hD hS
                                                                                              · exact absurd c73 (by decide)
                                                                                            · exfalso; omega
                                                                                        · exact absurd c68 (by decide)
                                                                                      · exact absurd c67 (by decide)
                                                                                    · exact absurd c66 (by decide)
                                                                                  · exact absurd c65 (by decide)
                                                                                · exact absurd c64 (by decide)
                                                                        · have hr4 := hrow (tn_s tx L p0 + 4) (by omega) (by omega)
                                                                          refine lv_aload_n hx hb dX8_isWord_113 rfl (lv_at hl 3 rfl) ?_
                                                                          refine ta_get C hP 0 inlX8 rfl rfl 0 (by decide) tw_125 rfl dX8_isWord_114 ?_
                                                                          refine lv_aload_n hx hb dX8_isWord_117 rfl (lv_at hl 3 rfl) ?_
                                                                          refine ta_get C hP 0 inlX8 rfl rfl 13 (by decide) tw_304 rfl dX8_isWord_118 ?_
                                                                          refine lv_iload hx hb dX8_isWord_121 (lv_at hl 1 rfl) ?_
                                                                          refine ta_iadd C (a := tn_s tx L p0) (b := 4) dX8_isWord_123 ?_
                                                                          refine ta_iald C hP 1 rfl (i := (tn_s tx L p0) + 4) (by omega) dX8_isWord_124 ?_
                                                                          refine lv_iload hx hb dX8_isWord_125 (lv_at hl 0 rfl) ?_
                                                                          refine ta_cne C (a := tx ((tn_s tx L p0) + 4)) (b := 0) (tgt := 134) (by omega) (by omega) dX8_isWord_127 (by decide) (fun c74 => ?_) (fun c74 => ?_)
                                                                          · refine ta_iconst C 0 dX8_isWord_134 (by decide) ?_
                                                                            refine lv_goto (tgt := 148) hx hb dX8_isWord_135 (by decide) ?_
                                                                            refine lv_istore (lv' := [(7, .int (nI 0)), (9, .int (nI 0)), (8, .int (nI 4)), (0, .ref (z 0)), (1, .int (nI 114)), (2, .int (nI 101)), (3, .int (nI 115)), (4, .int (nI 116)), (5, .int (nI 0)), (6, .int (nI 0))]) hx hb dX8_isWord_148 hl (by decide) rfl (fun ls hl => ?_)
                                                                            refine lv_iinc (v := nI 5) (lv' := [(8, .int (nI 5)), (7, .int (nI 0)), (9, .int (nI 0)), (0, .ref (z 0)), (1, .int (nI 114)), (2, .int (nI 101)), (3, .int (nI 115)), (4, .int (nI 116)), (5, .int (nI 0)), (6, .int (nI 0))]) hx hb dX8_isWord_150 hl (k := 2) rfl (by decide) (by decide) rfl (fun ls hl => ?_)
                                                                            refine lv_goto (tgt := 32) hx hb dX8_isWord_153 (by decide) ?_
                                                                            refine lv_iload hx hb dX8_isWord_32 (lv_at hl 0 rfl) ?_
                                                                            refine ta_bipush C 6 dX8_isWord_34 (by decide) ?_
                                                                            refine lv_icmp_ge (tgt := 156) hx hb dX8_isWord_36 (by decide) (fun c75 => ?_) (fun c75 => ?_)
                                                                            · exact absurd c75 (by decide)
                                                                            · refine lv_iload hx hb dX8_isWord_39 (lv_at hl 1 rfl) ?_
                                                                              refine lv_if_eq (tgt := 156) hx hb dX8_isWord_41 (by decide) (fun c76 => ?_) (fun c76 => ?_)
                                                                              · refine lv_iload hx hb dX8_isWord_156 (lv_at hl 1 rfl) ?_
                                                                                have hnw : ¬ tk_is tx (tn_s tx L p0) (tn_e tx L p0) 3 := by
                                                                                  intro h
                                                                                  have h9 : tn_e tx L p0 - tn_s tx L p0 = 4 := h.1
                                                                                  omega
                                                                                exact ret _ () dX8_isWord_158 (by decide) (Or.inr ⟨hnw, rfl⟩) hP hD hS
                                                                              · exact absurd c76 (by decide)
                                                                          · exfalso; omega
                                                                    · exact absurd c58 (by decide)
                                                                  · exact absurd c57 (by decide)
                                                                · exact absurd c56 (by decide)
                                                              · exact absurd c55 (by decide)
                                                  · exact absurd c44 (by decide)
                                                · exact absurd c43 (by decide)
                                              · exact absurd c42 (by decide)
                                  · exact absurd c31 (by decide)
                                · exact absurd c30 (by decide)
                    · exact absurd c19 (by decide)

set_option maxHeartbeats 4000000 in
set_option maxRecDepth 100000 in
theorem c_X8_isWord_4 (l : Launch) (D : va_G) (k : ta_C) (z : Nat → Nat) (kn : Nat) (no : Nat) (va : Nat) (L : Nat) (tx : Nat → Nat) (p0 : Nat) (hx0 : tx_ok tx L) (hp0 : p0 ≤ L) : ta_Mi (S := Unit) l D k yX8_isWord cX8_isWord 10 .boolean 0 0 [.ref (z 0), .int (nI 109), .int (nI 97), .int (nI 114), .int (nI 99), .int (nI 104), .int (nI 0)] [(z 0, .inr (8, [.ref (z 1), .int (nI L), .ref (z 2), .ref (z 3), .ref (z 4), .ref (z 5), .int (nI kn), .ref (z 6), .ref (z 7), .ref (z 8), .int (nI no), .int (nI (tn_e tx L p0)), .int (nI (mo_s tx L p0)), .int (nI (tn_s tx L p0)), .int (nI va), .ref (z 9)])), (z 1, .inl (k.1 0, 160, .inl (ta_e tx)))] (fun r _ => (tk_is tx (tn_s tx L p0) (tn_e tx L p0) 4 ∧ r = nI 1) ∨ (¬ tk_is tx (tn_s tx L p0) (tn_e tx L p0) 4 ∧ r = nI 0)) (fun u => [(z 0, .inr (8, [.ref (z 1), .int (nI L), .ref (z 2), .ref (z 3), .ref (z 4), .ref (z 5), .int (nI kn), .ref (z 6), .ref (z 7), .ref (z 8), .int (nI no), .int (nI (tn_e tx L p0)), .int (nI (mo_s tx L p0)), .int (nI (tn_s tx L p0)), .int (nI va), .ref (z 9)])), (z 1, .inl (k.1 0, 160, .inl (ta_e tx)))]) := by
  refine ta_enter_i (by decide) (Nat.le_of_ble_eq_true rfl) ?_
  intro p e s m below meth c A ls Q C ret hP hD hS hl
  have C : ta_At p l D k s m ([.ref (z 0), .int (nI 109), .int (nI 97), .int (nI 114), .int (nI 99), .int (nI 104), .int (nI 0)] : List Value).toArray c RX8 cX8_isWord 10 A := C
  have hx := C.1.1
  have hb := C.1.2.1
  have hl : lv_has ls 10 [(0, .ref (z 0)), (1, .int (nI 109)), (2, .int (nI 97)), (3, .int (nI 114)), (4, .int (nI 99)), (5, .int (nI 104)), (6, .int (nI 0))] := hl
  obtain ⟨H, hH⟩ : ∃ H, H = s.heap := ⟨_, rfl⟩
  obtain ⟨locs, hlocs⟩ : ∃ q : List Loc, q = [] := ⟨_, rfl⟩
  have hP : va_P D vwCl [(z 0, .inr (8, [.ref (z 1), .int (nI L), .ref (z 2), .ref (z 3), .ref (z 4), .ref (z 5), .int (nI kn), .ref (z 6), .ref (z 7), .ref (z 8), .int (nI no), .int (nI (tn_e tx L p0)), .int (nI (mo_s tx L p0)), .int (nI (tn_s tx L p0)), .int (nI va), .ref (z 9)])), (z 1, .inl (k.1 0, 160, .inl (ta_e tx)))] H := by rw [hH]; exact hP
  have hS : va_S A s.heap H locs := by rw [hH, hlocs]; exact hS
  rw [← hlocs]
  suffices hgoal : W p l e ({ frames := 0, cells := 0, slots := 0, locals := 0 }) s m ([.ref (z 0), .int (nI 109), .int (nI 97), .int (nI 114), .int (nI 99), .int (nI 104), .int (nI 0)] : List Value).toArray below meth c H locs 0 0 Q (F0 m 0 ls []) by rw [hH] at hgoal; exact hgoal
  clear hH hlocs
  obtain ⟨hL, hc⟩ := id hx0
  obtain ⟨b1, b2, b3, b4⟩ := tn_b (tx := tx) hp0
  have hms4 : mo_s tx L p0 < 4 := by unfold mo_s; have h4 := tx_s4 tx L (tn_s tx L p0); split <;> omega
  refine lv_aload_n hx hb dX8_isWord_0 rfl (lv_at hl 0 rfl) ?_
  refine ta_get C hP 0 inlX8 rfl rfl 12 (by decide) tw_310 rfl dX8_isWord_1 ?_
  refine ta_iconst C 1 dX8_isWord_4 (by decide) ?_
  refine ta_cne C (a := mo_s tx L p0) (b := 1) (tgt := 26) (by omega) (by omega) dX8_isWord_5 (by decide) (fun c1 => ?_) (fun c1 => ?_)
  · refine ta_iconst C 0 dX8_isWord_26 (by decide) ?_
    refine lv_istore (lv' := [(7, .int (nI 0)), (0, .ref (z 0)), (1, .int (nI 109)), (2, .int (nI 97)), (3, .int (nI 114)), (4, .int (nI 99)), (5, .int (nI 104)), (6, .int (nI 0))]) hx hb dX8_isWord_27 hl (by decide) rfl (fun ls hl => ?_)
    refine ta_iconst C 0 dX8_isWord_29 (by decide) ?_
    refine lv_istore (lv' := [(8, .int (nI 0)), (7, .int (nI 0)), (0, .ref (z 0)), (1, .int (nI 109)), (2, .int (nI 97)), (3, .int (nI 114)), (4, .int (nI 99)), (5, .int (nI 104)), (6, .int (nI 0))]) hx hb dX8_isWord_30 hl (by decide) rfl (fun ls hl => ?_)
    refine lv_iload hx hb dX8_isWord_32 (lv_at hl 0 rfl) ?_
    refine ta_bipush C 6 dX8_isWord_34 (by decide) ?_
    refine lv_icmp_ge (tgt := 156) hx hb dX8_isWord_36 (by decide) (fun c2 => ?_) (fun c2 => ?_)
    · exact absurd c2 (by decide)
    · refine lv_iload hx hb dX8_isWord_39 (lv_at hl 1 rfl) ?_
      refine lv_if_eq (tgt := 156) hx hb dX8_isWord_41 (by decide) (fun c3 => ?_) (fun c3 => ?_)
      · refine lv_iload hx hb dX8_isWord_156 (lv_at hl 1 rfl) ?_
        have hnw : ¬ tk_is tx (tn_s tx L p0) (tn_e tx L p0) 4 := fun h => by have h9 := mo_is1 (i := 4) (by decide) hp0 h; omega
        exact ret _ () dX8_isWord_158 (by decide) (Or.inr ⟨hnw, rfl⟩) hP hD hS
      · exact absurd c3 (by decide)
  · have hrow := mo_row c1
    refine lv_aload_n hx hb dX8_isWord_8 rfl (lv_at hl 0 rfl) ?_
    refine ta_get C hP 0 inlX8 rfl rfl 11 (by decide) tw_309 rfl dX8_isWord_9 ?_
    refine lv_aload_n hx hb dX8_isWord_12 rfl (lv_at hl 0 rfl) ?_
    refine ta_get C hP 0 inlX8 rfl rfl 13 (by decide) tw_304 rfl dX8_isWord_13 ?_
    refine ta_isub C (a := tn_e tx L p0) (b := tn_s tx L p0) (by omega) dX8_isWord_16 ?_
    refine ta_bipush C 7 dX8_isWord_17 (by decide) ?_
    refine ta_cge C (a := (tn_e tx L p0) - (tn_s tx L p0)) (b := 7) (tgt := 26) (by omega) (by omega) dX8_isWord_19 (by decide) (fun c4 => ?_) (fun c4 => ?_)
    · refine ta_iconst C 0 dX8_isWord_26 (by decide) ?_
      refine lv_istore (lv' := [(7, .int (nI 0)), (0, .ref (z 0)), (1, .int (nI 109)), (2, .int (nI 97)), (3, .int (nI 114)), (4, .int (nI 99)), (5, .int (nI 104)), (6, .int (nI 0))]) hx hb dX8_isWord_27 hl (by decide) rfl (fun ls hl => ?_)
      refine ta_iconst C 0 dX8_isWord_29 (by decide) ?_
      refine lv_istore (lv' := [(8, .int (nI 0)), (7, .int (nI 0)), (0, .ref (z 0)), (1, .int (nI 109)), (2, .int (nI 97)), (3, .int (nI 114)), (4, .int (nI 99)), (5, .int (nI 104)), (6, .int (nI 0))]) hx hb dX8_isWord_30 hl (by decide) rfl (fun ls hl => ?_)
      refine lv_iload hx hb dX8_isWord_32 (lv_at hl 0 rfl) ?_
      refine ta_bipush C 6 dX8_isWord_34 (by decide) ?_
      refine lv_icmp_ge (tgt := 156) hx hb dX8_isWord_36 (by decide) (fun c5 => ?_) (fun c5 => ?_)
      · exact absurd c5 (by decide)
      · refine lv_iload hx hb dX8_isWord_39 (lv_at hl 1 rfl) ?_
        refine lv_if_eq (tgt := 156) hx hb dX8_isWord_41 (by decide) (fun c6 => ?_) (fun c6 => ?_)
        · refine lv_iload hx hb dX8_isWord_156 (lv_at hl 1 rfl) ?_
          have hnw : ¬ tk_is tx (tn_s tx L p0) (tn_e tx L p0) 4 := fun h => by have h9 : tn_e tx L p0 - tn_s tx L p0 = 5 := h.1; omega
          exact ret _ () dX8_isWord_158 (by decide) (Or.inr ⟨hnw, rfl⟩) hP hD hS
        · exact absurd c6 (by decide)
    · refine ta_iconst C 1 dX8_isWord_22 (by decide) ?_
      refine lv_goto (tgt := 27) hx hb dX8_isWord_23 (by decide) ?_
      refine lv_istore (lv' := [(7, .int (nI 1)), (0, .ref (z 0)), (1, .int (nI 109)), (2, .int (nI 97)), (3, .int (nI 114)), (4, .int (nI 99)), (5, .int (nI 104)), (6, .int (nI 0))]) hx hb dX8_isWord_27 hl (by decide) rfl (fun ls hl => ?_)
      refine ta_iconst C 0 dX8_isWord_29 (by decide) ?_
      refine lv_istore (lv' := [(8, .int (nI 0)), (7, .int (nI 1)), (0, .ref (z 0)), (1, .int (nI 109)), (2, .int (nI 97)), (3, .int (nI 114)), (4, .int (nI 99)), (5, .int (nI 104)), (6, .int (nI 0))]) hx hb dX8_isWord_30 hl (by decide) rfl (fun ls hl => ?_)
      refine lv_iload hx hb dX8_isWord_32 (lv_at hl 0 rfl) ?_
      refine ta_bipush C 6 dX8_isWord_34 (by decide) ?_
      refine lv_icmp_ge (tgt := 156) hx hb dX8_isWord_36 (by decide) (fun c7 => ?_) (fun c7 => ?_)
      · exact absurd c7 (by decide)
      · refine lv_iload hx hb dX8_isWord_39 (lv_at hl 1 rfl) ?_
        refine lv_if_eq (tgt := 156) hx hb dX8_isWord_41 (by decide) (fun c8 => ?_) (fun c8 => ?_)
        · exact absurd c8 (by decide)
        · refine lv_iload hx hb dX8_isWord_44 (lv_at hl 0 rfl) ?_
          refine lv_if_ne (tgt := 53) hx hb dX8_isWord_46 (by decide) (fun c9 => ?_) (fun c9 => ?_)
          · exact absurd c9 (by decide)
          · refine lv_iload_n hx hb dX8_isWord_49 rfl (lv_at hl 3 rfl) ?_
            refine lv_goto (tgt := 97) hx hb dX8_isWord_50 (by decide) ?_
            refine lv_istore (lv' := [(9, .int (nI 109)), (8, .int (nI 0)), (7, .int (nI 1)), (0, .ref (z 0)), (1, .int (nI 109)), (2, .int (nI 97)), (3, .int (nI 114)), (4, .int (nI 99)), (5, .int (nI 104)), (6, .int (nI 0))]) hx hb dX8_isWord_97 hl (by decide) rfl (fun ls hl => ?_)
            refine lv_aload_n hx hb dX8_isWord_99 rfl (lv_at hl 3 rfl) ?_
            refine ta_get C hP 0 inlX8 rfl rfl 13 (by decide) tw_304 rfl dX8_isWord_100 ?_
            refine lv_iload hx hb dX8_isWord_103 (lv_at hl 1 rfl) ?_
            refine ta_iadd C (a := tn_s tx L p0) (b := 0) dX8_isWord_105 ?_
            refine lv_aload_n hx hb dX8_isWord_106 rfl (lv_at hl 3 rfl) ?_
            refine ta_get C hP 0 inlX8 rfl rfl 11 (by decide) tw_309 rfl dX8_isWord_107 ?_
            refine ta_cge C (a := (tn_s tx L p0) + 0) (b := tn_e tx L p0) (tgt := 138) (by omega) (by omega) dX8_isWord_110 (by decide) (fun c10 => ?_) (fun c10 => ?_)
            · refine lv_iload hx hb dX8_isWord_138 (lv_at hl 0 rfl) ?_
              refine lv_if_ne (tgt := 147) hx hb dX8_isWord_140 (by decide) (fun c11 => ?_) (fun c11 => ?_)
              · refine ta_iconst C 0 dX8_isWord_147 (by decide) ?_
                refine lv_istore (lv' := [(7, .int (nI 0)), (9, .int (nI 109)), (8, .int (nI 0)), (0, .ref (z 0)), (1, .int (nI 109)), (2, .int (nI 97)), (3, .int (nI 114)), (4, .int (nI 99)), (5, .int (nI 104)), (6, .int (nI 0))]) hx hb dX8_isWord_148 hl (by decide) rfl (fun ls hl => ?_)
                refine lv_iinc (v := nI 1) (lv' := [(8, .int (nI 1)), (7, .int (nI 0)), (9, .int (nI 109)), (0, .ref (z 0)), (1, .int (nI 109)), (2, .int (nI 97)), (3, .int (nI 114)), (4, .int (nI 99)), (5, .int (nI 104)), (6, .int (nI 0))]) hx hb dX8_isWord_150 hl (k := 2) rfl (by decide) (by decide) rfl (fun ls hl => ?_)
                refine lv_goto (tgt := 32) hx hb dX8_isWord_153 (by decide) ?_
                refine lv_iload hx hb dX8_isWord_32 (lv_at hl 0 rfl) ?_
                refine ta_bipush C 6 dX8_isWord_34 (by decide) ?_
                refine lv_icmp_ge (tgt := 156) hx hb dX8_isWord_36 (by decide) (fun c12 => ?_) (fun c12 => ?_)
                · exact absurd c12 (by decide)
                · refine lv_iload hx hb dX8_isWord_39 (lv_at hl 1 rfl) ?_
                  refine lv_if_eq (tgt := 156) hx hb dX8_isWord_41 (by decide) (fun c13 => ?_) (fun c13 => ?_)
                  · refine lv_iload hx hb dX8_isWord_156 (lv_at hl 1 rfl) ?_
                    have hnw : ¬ tk_is tx (tn_s tx L p0) (tn_e tx L p0) 4 := by
                      intro h
                      have h9 : tn_e tx L p0 - tn_s tx L p0 = 5 := h.1
                      have h8 : tx (tn_s tx L p0 + 0) = 109 := h.2 0 (by decide)
                      omega
                    exact ret _ () dX8_isWord_158 (by decide) (Or.inr ⟨hnw, rfl⟩) hP hD hS
                  · exact absurd c13 (by decide)
              · exact absurd c11 (by decide)
            · have hr0 := hrow (tn_s tx L p0 + 0) (by omega) (by omega)
              refine lv_aload_n hx hb dX8_isWord_113 rfl (lv_at hl 3 rfl) ?_
              refine ta_get C hP 0 inlX8 rfl rfl 0 (by decide) tw_125 rfl dX8_isWord_114 ?_
              refine lv_aload_n hx hb dX8_isWord_117 rfl (lv_at hl 3 rfl) ?_
              refine ta_get C hP 0 inlX8 rfl rfl 13 (by decide) tw_304 rfl dX8_isWord_118 ?_
              refine lv_iload hx hb dX8_isWord_121 (lv_at hl 1 rfl) ?_
              refine ta_iadd C (a := tn_s tx L p0) (b := 0) dX8_isWord_123 ?_
              refine ta_iald C hP 1 rfl (i := (tn_s tx L p0) + 0) (by omega) dX8_isWord_124 ?_
              refine lv_iload hx hb dX8_isWord_125 (lv_at hl 0 rfl) ?_
              refine ta_cne C (a := tx ((tn_s tx L p0) + 0)) (b := 109) (tgt := 134) (by omega) (by omega) dX8_isWord_127 (by decide) (fun c14 => ?_) (fun c14 => ?_)
              · refine ta_iconst C 0 dX8_isWord_134 (by decide) ?_
                refine lv_goto (tgt := 148) hx hb dX8_isWord_135 (by decide) ?_
                refine lv_istore (lv' := [(7, .int (nI 0)), (9, .int (nI 109)), (8, .int (nI 0)), (0, .ref (z 0)), (1, .int (nI 109)), (2, .int (nI 97)), (3, .int (nI 114)), (4, .int (nI 99)), (5, .int (nI 104)), (6, .int (nI 0))]) hx hb dX8_isWord_148 hl (by decide) rfl (fun ls hl => ?_)
                refine lv_iinc (v := nI 1) (lv' := [(8, .int (nI 1)), (7, .int (nI 0)), (9, .int (nI 109)), (0, .ref (z 0)), (1, .int (nI 109)), (2, .int (nI 97)), (3, .int (nI 114)), (4, .int (nI 99)), (5, .int (nI 104)), (6, .int (nI 0))]) hx hb dX8_isWord_150 hl (k := 2) rfl (by decide) (by decide) rfl (fun ls hl => ?_)
                refine lv_goto (tgt := 32) hx hb dX8_isWord_153 (by decide) ?_
                refine lv_iload hx hb dX8_isWord_32 (lv_at hl 0 rfl) ?_
                refine ta_bipush C 6 dX8_isWord_34 (by decide) ?_
                refine lv_icmp_ge (tgt := 156) hx hb dX8_isWord_36 (by decide) (fun c15 => ?_) (fun c15 => ?_)
                · exact absurd c15 (by decide)
                · refine lv_iload hx hb dX8_isWord_39 (lv_at hl 1 rfl) ?_
                  refine lv_if_eq (tgt := 156) hx hb dX8_isWord_41 (by decide) (fun c16 => ?_) (fun c16 => ?_)
                  · refine lv_iload hx hb dX8_isWord_156 (lv_at hl 1 rfl) ?_
                    have hnw : ¬ tk_is tx (tn_s tx L p0) (tn_e tx L p0) 4 := by
                      intro h
                      have h9 : tn_e tx L p0 - tn_s tx L p0 = 5 := h.1
                      have h8 : tx (tn_s tx L p0 + 0) = 109 := h.2 0 (by decide)
                      omega
                    exact ret _ () dX8_isWord_158 (by decide) (Or.inr ⟨hnw, rfl⟩) hP hD hS
                  · exact absurd c16 (by decide)
              · refine ta_iconst C 1 dX8_isWord_130 (by decide) ?_
                refine lv_goto (tgt := 148) hx hb dX8_isWord_131 (by decide) ?_
                refine lv_istore (lv' := [(7, .int (nI 1)), (9, .int (nI 109)), (8, .int (nI 0)), (0, .ref (z 0)), (1, .int (nI 109)), (2, .int (nI 97)), (3, .int (nI 114)), (4, .int (nI 99)), (5, .int (nI 104)), (6, .int (nI 0))]) hx hb dX8_isWord_148 hl (by decide) rfl (fun ls hl => ?_)
                refine lv_iinc (v := nI 1) (lv' := [(8, .int (nI 1)), (7, .int (nI 1)), (9, .int (nI 109)), (0, .ref (z 0)), (1, .int (nI 109)), (2, .int (nI 97)), (3, .int (nI 114)), (4, .int (nI 99)), (5, .int (nI 104)), (6, .int (nI 0))]) hx hb dX8_isWord_150 hl (k := 2) rfl (by decide) (by decide) rfl (fun ls hl => ?_)
                refine lv_goto (tgt := 32) hx hb dX8_isWord_153 (by decide) ?_
                refine lv_iload hx hb dX8_isWord_32 (lv_at hl 0 rfl) ?_
                refine ta_bipush C 6 dX8_isWord_34 (by decide) ?_
                refine lv_icmp_ge (tgt := 156) hx hb dX8_isWord_36 (by decide) (fun c17 => ?_) (fun c17 => ?_)
                · exact absurd c17 (by decide)
                · refine lv_iload hx hb dX8_isWord_39 (lv_at hl 1 rfl) ?_
                  refine lv_if_eq (tgt := 156) hx hb dX8_isWord_41 (by decide) (fun c18 => ?_) (fun c18 => ?_)
                  · exact absurd c18 (by decide)
                  · refine lv_iload hx hb dX8_isWord_44 (lv_at hl 0 rfl) ?_
                    refine lv_if_ne (tgt := 53) hx hb dX8_isWord_46 (by decide) (fun c19 => ?_) (fun c19 => ?_)
                    · refine lv_iload hx hb dX8_isWord_53 (lv_at hl 0 rfl) ?_
                      refine ta_iconst C 1 dX8_isWord_55 (by decide) ?_
                      refine lv_icmp_ne (tgt := 63) hx hb dX8_isWord_56 (by decide) (fun c20 => ?_) (fun c20 => ?_)
                      · exact absurd c20 (by decide)
                      · refine lv_iload_n hx hb dX8_isWord_59 rfl (lv_at hl 5 rfl) ?_
                        refine lv_goto (tgt := 97) hx hb dX8_isWord_60 (by decide) ?_
                        refine lv_istore (lv' := [(9, .int (nI 97)), (8, .int (nI 1)), (7, .int (nI 1)), (0, .ref (z 0)), (1, .int (nI 109)), (2, .int (nI 97)), (3, .int (nI 114)), (4, .int (nI 99)), (5, .int (nI 104)), (6, .int (nI 0))]) hx hb dX8_isWord_97 hl (by decide) rfl (fun ls hl => ?_)
                        refine lv_aload_n hx hb dX8_isWord_99 rfl (lv_at hl 3 rfl) ?_
                        refine ta_get C hP 0 inlX8 rfl rfl 13 (by decide) tw_304 rfl dX8_isWord_100 ?_
                        refine lv_iload hx hb dX8_isWord_103 (lv_at hl 1 rfl) ?_
                        refine ta_iadd C (a := tn_s tx L p0) (b := 1) dX8_isWord_105 ?_
                        refine lv_aload_n hx hb dX8_isWord_106 rfl (lv_at hl 3 rfl) ?_
                        refine ta_get C hP 0 inlX8 rfl rfl 11 (by decide) tw_309 rfl dX8_isWord_107 ?_
                        refine ta_cge C (a := (tn_s tx L p0) + 1) (b := tn_e tx L p0) (tgt := 138) (by omega) (by omega) dX8_isWord_110 (by decide) (fun c21 => ?_) (fun c21 => ?_)
                        · refine lv_iload hx hb dX8_isWord_138 (lv_at hl 0 rfl) ?_
                          refine lv_if_ne (tgt := 147) hx hb dX8_isWord_140 (by decide) (fun c22 => ?_) (fun c22 => ?_)
                          · refine ta_iconst C 0 dX8_isWord_147 (by decide) ?_
                            refine lv_istore (lv' := [(7, .int (nI 0)), (9, .int (nI 97)), (8, .int (nI 1)), (0, .ref (z 0)), (1, .int (nI 109)), (2, .int (nI 97)), (3, .int (nI 114)), (4, .int (nI 99)), (5, .int (nI 104)), (6, .int (nI 0))]) hx hb dX8_isWord_148 hl (by decide) rfl (fun ls hl => ?_)
                            refine lv_iinc (v := nI 2) (lv' := [(8, .int (nI 2)), (7, .int (nI 0)), (9, .int (nI 97)), (0, .ref (z 0)), (1, .int (nI 109)), (2, .int (nI 97)), (3, .int (nI 114)), (4, .int (nI 99)), (5, .int (nI 104)), (6, .int (nI 0))]) hx hb dX8_isWord_150 hl (k := 2) rfl (by decide) (by decide) rfl (fun ls hl => ?_)
                            refine lv_goto (tgt := 32) hx hb dX8_isWord_153 (by decide) ?_
                            refine lv_iload hx hb dX8_isWord_32 (lv_at hl 0 rfl) ?_
                            refine ta_bipush C 6 dX8_isWord_34 (by decide) ?_
                            refine lv_icmp_ge (tgt := 156) hx hb dX8_isWord_36 (by decide) (fun c23 => ?_) (fun c23 => ?_)
                            · exact absurd c23 (by decide)
                            · refine lv_iload hx hb dX8_isWord_39 (lv_at hl 1 rfl) ?_
                              refine lv_if_eq (tgt := 156) hx hb dX8_isWord_41 (by decide) (fun c24 => ?_) (fun c24 => ?_)
                              · refine lv_iload hx hb dX8_isWord_156 (lv_at hl 1 rfl) ?_
                                have hnw : ¬ tk_is tx (tn_s tx L p0) (tn_e tx L p0) 4 := by
                                  intro h
                                  have h9 : tn_e tx L p0 - tn_s tx L p0 = 5 := h.1
                                  have h8 : tx (tn_s tx L p0 + 1) = 97 := h.2 1 (by decide)
                                  omega
                                exact ret _ () dX8_isWord_158 (by decide) (Or.inr ⟨hnw, rfl⟩) hP hD hS
                              · exact absurd c24 (by decide)
                          · exact absurd c22 (by decide)
                        · have hr1 := hrow (tn_s tx L p0 + 1) (by omega) (by omega)
                          refine lv_aload_n hx hb dX8_isWord_113 rfl (lv_at hl 3 rfl) ?_
                          refine ta_get C hP 0 inlX8 rfl rfl 0 (by decide) tw_125 rfl dX8_isWord_114 ?_
                          refine lv_aload_n hx hb dX8_isWord_117 rfl (lv_at hl 3 rfl) ?_
                          refine ta_get C hP 0 inlX8 rfl rfl 13 (by decide) tw_304 rfl dX8_isWord_118 ?_
                          refine lv_iload hx hb dX8_isWord_121 (lv_at hl 1 rfl) ?_
                          refine ta_iadd C (a := tn_s tx L p0) (b := 1) dX8_isWord_123 ?_
                          refine ta_iald C hP 1 rfl (i := (tn_s tx L p0) + 1) (by omega) dX8_isWord_124 ?_
                          refine lv_iload hx hb dX8_isWord_125 (lv_at hl 0 rfl) ?_
                          refine ta_cne C (a := tx ((tn_s tx L p0) + 1)) (b := 97) (tgt := 134) (by omega) (by omega) dX8_isWord_127 (by decide) (fun c25 => ?_) (fun c25 => ?_)
                          · refine ta_iconst C 0 dX8_isWord_134 (by decide) ?_
                            refine lv_goto (tgt := 148) hx hb dX8_isWord_135 (by decide) ?_
                            refine lv_istore (lv' := [(7, .int (nI 0)), (9, .int (nI 97)), (8, .int (nI 1)), (0, .ref (z 0)), (1, .int (nI 109)), (2, .int (nI 97)), (3, .int (nI 114)), (4, .int (nI 99)), (5, .int (nI 104)), (6, .int (nI 0))]) hx hb dX8_isWord_148 hl (by decide) rfl (fun ls hl => ?_)
                            refine lv_iinc (v := nI 2) (lv' := [(8, .int (nI 2)), (7, .int (nI 0)), (9, .int (nI 97)), (0, .ref (z 0)), (1, .int (nI 109)), (2, .int (nI 97)), (3, .int (nI 114)), (4, .int (nI 99)), (5, .int (nI 104)), (6, .int (nI 0))]) hx hb dX8_isWord_150 hl (k := 2) rfl (by decide) (by decide) rfl (fun ls hl => ?_)
                            refine lv_goto (tgt := 32) hx hb dX8_isWord_153 (by decide) ?_
                            refine lv_iload hx hb dX8_isWord_32 (lv_at hl 0 rfl) ?_
                            refine ta_bipush C 6 dX8_isWord_34 (by decide) ?_
                            refine lv_icmp_ge (tgt := 156) hx hb dX8_isWord_36 (by decide) (fun c26 => ?_) (fun c26 => ?_)
                            · exact absurd c26 (by decide)
                            · refine lv_iload hx hb dX8_isWord_39 (lv_at hl 1 rfl) ?_
                              refine lv_if_eq (tgt := 156) hx hb dX8_isWord_41 (by decide) (fun c27 => ?_) (fun c27 => ?_)
                              · refine lv_iload hx hb dX8_isWord_156 (lv_at hl 1 rfl) ?_
                                have hnw : ¬ tk_is tx (tn_s tx L p0) (tn_e tx L p0) 4 := by
                                  intro h
                                  have h9 : tn_e tx L p0 - tn_s tx L p0 = 5 := h.1
                                  have h8 : tx (tn_s tx L p0 + 1) = 97 := h.2 1 (by decide)
                                  omega
                                exact ret _ () dX8_isWord_158 (by decide) (Or.inr ⟨hnw, rfl⟩) hP hD hS
                              · exact absurd c27 (by decide)
                          · refine ta_iconst C 1 dX8_isWord_130 (by decide) ?_
                            refine lv_goto (tgt := 148) hx hb dX8_isWord_131 (by decide) ?_
                            refine lv_istore (lv' := [(7, .int (nI 1)), (9, .int (nI 97)), (8, .int (nI 1)), (0, .ref (z 0)), (1, .int (nI 109)), (2, .int (nI 97)), (3, .int (nI 114)), (4, .int (nI 99)), (5, .int (nI 104)), (6, .int (nI 0))]) hx hb dX8_isWord_148 hl (by decide) rfl (fun ls hl => ?_)
                            refine lv_iinc (v := nI 2) (lv' := [(8, .int (nI 2)), (7, .int (nI 1)), (9, .int (nI 97)), (0, .ref (z 0)), (1, .int (nI 109)), (2, .int (nI 97)), (3, .int (nI 114)), (4, .int (nI 99)), (5, .int (nI 104)), (6, .int (nI 0))]) hx hb dX8_isWord_150 hl (k := 2) rfl (by decide) (by decide) rfl (fun ls hl => ?_)
                            refine lv_goto (tgt := 32) hx hb dX8_isWord_153 (by decide) ?_
                            refine lv_iload hx hb dX8_isWord_32 (lv_at hl 0 rfl) ?_
                            refine ta_bipush C 6 dX8_isWord_34 (by decide) ?_
                            refine lv_icmp_ge (tgt := 156) hx hb dX8_isWord_36 (by decide) (fun c28 => ?_) (fun c28 => ?_)
                            · exact absurd c28 (by decide)
                            · refine lv_iload hx hb dX8_isWord_39 (lv_at hl 1 rfl) ?_
                              refine lv_if_eq (tgt := 156) hx hb dX8_isWord_41 (by decide) (fun c29 => ?_) (fun c29 => ?_)
                              · exact absurd c29 (by decide)
                              · refine lv_iload hx hb dX8_isWord_44 (lv_at hl 0 rfl) ?_
                                refine lv_if_ne (tgt := 53) hx hb dX8_isWord_46 (by decide) (fun c30 => ?_) (fun c30 => ?_)
                                · refine lv_iload hx hb dX8_isWord_53 (lv_at hl 0 rfl) ?_
                                  refine ta_iconst C 1 dX8_isWord_55 (by decide) ?_
                                  refine lv_icmp_ne (tgt := 63) hx hb dX8_isWord_56 (by decide) (fun c31 => ?_) (fun c31 => ?_)
                                  · refine lv_iload hx hb dX8_isWord_63 (lv_at hl 0 rfl) ?_
                                    refine ta_iconst C 2 dX8_isWord_65 (by decide) ?_
                                    refine lv_icmp_ne (tgt := 73) hx hb dX8_isWord_66 (by decide) (fun c32 => ?_) (fun c32 => ?_)
                                    · exact absurd c32 (by decide)
                                    · refine lv_iload_n hx hb dX8_isWord_69 rfl (lv_at hl 6 rfl) ?_
                                      refine lv_goto (tgt := 97) hx hb dX8_isWord_70 (by decide) ?_
                                      refine lv_istore (lv' := [(9, .int (nI 114)), (8, .int (nI 2)), (7, .int (nI 1)), (0, .ref (z 0)), (1, .int (nI 109)), (2, .int (nI 97)), (3, .int (nI 114)), (4, .int (nI 99)), (5, .int (nI 104)), (6, .int (nI 0))]) hx hb dX8_isWord_97 hl (by decide) rfl (fun ls hl => ?_)
                                      refine lv_aload_n hx hb dX8_isWord_99 rfl (lv_at hl 3 rfl) ?_
                                      refine ta_get C hP 0 inlX8 rfl rfl 13 (by decide) tw_304 rfl dX8_isWord_100 ?_
                                      refine lv_iload hx hb dX8_isWord_103 (lv_at hl 1 rfl) ?_
                                      refine ta_iadd C (a := tn_s tx L p0) (b := 2) dX8_isWord_105 ?_
                                      refine lv_aload_n hx hb dX8_isWord_106 rfl (lv_at hl 3 rfl) ?_
                                      refine ta_get C hP 0 inlX8 rfl rfl 11 (by decide) tw_309 rfl dX8_isWord_107 ?_
                                      refine ta_cge C (a := (tn_s tx L p0) + 2) (b := tn_e tx L p0) (tgt := 138) (by omega) (by omega) dX8_isWord_110 (by decide) (fun c33 => ?_) (fun c33 => ?_)
                                      · refine lv_iload hx hb dX8_isWord_138 (lv_at hl 0 rfl) ?_
                                        refine lv_if_ne (tgt := 147) hx hb dX8_isWord_140 (by decide) (fun c34 => ?_) (fun c34 => ?_)
                                        · refine ta_iconst C 0 dX8_isWord_147 (by decide) ?_
                                          refine lv_istore (lv' := [(7, .int (nI 0)), (9, .int (nI 114)), (8, .int (nI 2)), (0, .ref (z 0)), (1, .int (nI 109)), (2, .int (nI 97)), (3, .int (nI 114)), (4, .int (nI 99)), (5, .int (nI 104)), (6, .int (nI 0))]) hx hb dX8_isWord_148 hl (by decide) rfl (fun ls hl => ?_)
                                          refine lv_iinc (v := nI 3) (lv' := [(8, .int (nI 3)), (7, .int (nI 0)), (9, .int (nI 114)), (0, .ref (z 0)), (1, .int (nI 109)), (2, .int (nI 97)), (3, .int (nI 114)), (4, .int (nI 99)), (5, .int (nI 104)), (6, .int (nI 0))]) hx hb dX8_isWord_150 hl (k := 2) rfl (by decide) (by decide) rfl (fun ls hl => ?_)
                                          refine lv_goto (tgt := 32) hx hb dX8_isWord_153 (by decide) ?_
                                          refine lv_iload hx hb dX8_isWord_32 (lv_at hl 0 rfl) ?_
                                          refine ta_bipush C 6 dX8_isWord_34 (by decide) ?_
                                          refine lv_icmp_ge (tgt := 156) hx hb dX8_isWord_36 (by decide) (fun c35 => ?_) (fun c35 => ?_)
                                          · exact absurd c35 (by decide)
                                          · refine lv_iload hx hb dX8_isWord_39 (lv_at hl 1 rfl) ?_
                                            refine lv_if_eq (tgt := 156) hx hb dX8_isWord_41 (by decide) (fun c36 => ?_) (fun c36 => ?_)
                                            · refine lv_iload hx hb dX8_isWord_156 (lv_at hl 1 rfl) ?_
                                              have hnw : ¬ tk_is tx (tn_s tx L p0) (tn_e tx L p0) 4 := by
                                                intro h
                                                have h9 : tn_e tx L p0 - tn_s tx L p0 = 5 := h.1
                                                have h8 : tx (tn_s tx L p0 + 2) = 114 := h.2 2 (by decide)
                                                omega
                                              exact ret _ () dX8_isWord_158 (by decide) (Or.inr ⟨hnw, rfl⟩) hP hD hS
                                            · exact absurd c36 (by decide)
                                        · exact absurd c34 (by decide)
                                      · have hr2 := hrow (tn_s tx L p0 + 2) (by omega) (by omega)
                                        refine lv_aload_n hx hb dX8_isWord_113 rfl (lv_at hl 3 rfl) ?_
                                        refine ta_get C hP 0 inlX8 rfl rfl 0 (by decide) tw_125 rfl dX8_isWord_114 ?_
                                        refine lv_aload_n hx hb dX8_isWord_117 rfl (lv_at hl 3 rfl) ?_
                                        refine ta_get C hP 0 inlX8 rfl rfl 13 (by decide) tw_304 rfl dX8_isWord_118 ?_
                                        refine lv_iload hx hb dX8_isWord_121 (lv_at hl 1 rfl) ?_
                                        refine ta_iadd C (a := tn_s tx L p0) (b := 2) dX8_isWord_123 ?_
                                        refine ta_iald C hP 1 rfl (i := (tn_s tx L p0) + 2) (by omega) dX8_isWord_124 ?_
                                        refine lv_iload hx hb dX8_isWord_125 (lv_at hl 0 rfl) ?_
                                        refine ta_cne C (a := tx ((tn_s tx L p0) + 2)) (b := 114) (tgt := 134) (by omega) (by omega) dX8_isWord_127 (by decide) (fun c37 => ?_) (fun c37 => ?_)
                                        · refine ta_iconst C 0 dX8_isWord_134 (by decide) ?_
                                          refine lv_goto (tgt := 148) hx hb dX8_isWord_135 (by decide) ?_
                                          refine lv_istore (lv' := [(7, .int (nI 0)), (9, .int (nI 114)), (8, .int (nI 2)), (0, .ref (z 0)), (1, .int (nI 109)), (2, .int (nI 97)), (3, .int (nI 114)), (4, .int (nI 99)), (5, .int (nI 104)), (6, .int (nI 0))]) hx hb dX8_isWord_148 hl (by decide) rfl (fun ls hl => ?_)
                                          refine lv_iinc (v := nI 3) (lv' := [(8, .int (nI 3)), (7, .int (nI 0)), (9, .int (nI 114)), (0, .ref (z 0)), (1, .int (nI 109)), (2, .int (nI 97)), (3, .int (nI 114)), (4, .int (nI 99)), (5, .int (nI 104)), (6, .int (nI 0))]) hx hb dX8_isWord_150 hl (k := 2) rfl (by decide) (by decide) rfl (fun ls hl => ?_)
                                          refine lv_goto (tgt := 32) hx hb dX8_isWord_153 (by decide) ?_
                                          refine lv_iload hx hb dX8_isWord_32 (lv_at hl 0 rfl) ?_
                                          refine ta_bipush C 6 dX8_isWord_34 (by decide) ?_
                                          refine lv_icmp_ge (tgt := 156) hx hb dX8_isWord_36 (by decide) (fun c38 => ?_) (fun c38 => ?_)
                                          · exact absurd c38 (by decide)
                                          · refine lv_iload hx hb dX8_isWord_39 (lv_at hl 1 rfl) ?_
                                            refine lv_if_eq (tgt := 156) hx hb dX8_isWord_41 (by decide) (fun c39 => ?_) (fun c39 => ?_)
                                            · refine lv_iload hx hb dX8_isWord_156 (lv_at hl 1 rfl) ?_
                                              have hnw : ¬ tk_is tx (tn_s tx L p0) (tn_e tx L p0) 4 := by
                                                intro h
                                                have h9 : tn_e tx L p0 - tn_s tx L p0 = 5 := h.1
                                                have h8 : tx (tn_s tx L p0 + 2) = 114 := h.2 2 (by decide)
                                                omega
                                              exact ret _ () dX8_isWord_158 (by decide) (Or.inr ⟨hnw, rfl⟩) hP hD hS
                                            · exact absurd c39 (by decide)
                                        · refine ta_iconst C 1 dX8_isWord_130 (by decide) ?_
                                          refine lv_goto (tgt := 148) hx hb dX8_isWord_131 (by decide) ?_
                                          refine lv_istore (lv' := [(7, .int (nI 1)), (9, .int (nI 114)), (8, .int (nI 2)), (0, .ref (z 0)), (1, .int (nI 109)), (2, .int (nI 97)), (3, .int (nI 114)), (4, .int (nI 99)), (5, .int (nI 104)), (6, .int (nI 0))]) hx hb dX8_isWord_148 hl (by decide) rfl (fun ls hl => ?_)
                                          refine lv_iinc (v := nI 3) (lv' := [(8, .int (nI 3)), (7, .int (nI 1)), (9, .int (nI 114)), (0, .ref (z 0)), (1, .int (nI 109)), (2, .int (nI 97)), (3, .int (nI 114)), (4, .int (nI 99)), (5, .int (nI 104)), (6, .int (nI 0))]) hx hb dX8_isWord_150 hl (k := 2) rfl (by decide) (by decide) rfl (fun ls hl => ?_)
                                          refine lv_goto (tgt := 32) hx hb dX8_isWord_153 (by decide) ?_
                                          refine lv_iload hx hb dX8_isWord_32 (lv_at hl 0 rfl) ?_
                                          refine ta_bipush C 6 dX8_isWord_34 (by decide) ?_
                                          refine lv_icmp_ge (tgt := 156) hx hb dX8_isWord_36 (by decide) (fun c40 => ?_) (fun c40 => ?_)
                                          · exact absurd c40 (by decide)
                                          · refine lv_iload hx hb dX8_isWord_39 (lv_at hl 1 rfl) ?_
                                            refine lv_if_eq (tgt := 156) hx hb dX8_isWord_41 (by decide) (fun c41 => ?_) (fun c41 => ?_)
                                            · exact absurd c41 (by decide)
                                            · refine lv_iload hx hb dX8_isWord_44 (lv_at hl 0 rfl) ?_
                                              refine lv_if_ne (tgt := 53) hx hb dX8_isWord_46 (by decide) (fun c42 => ?_) (fun c42 => ?_)
                                              · refine lv_iload hx hb dX8_isWord_53 (lv_at hl 0 rfl) ?_
                                                refine ta_iconst C 1 dX8_isWord_55 (by decide) ?_
                                                refine lv_icmp_ne (tgt := 63) hx hb dX8_isWord_56 (by decide) (fun c43 => ?_) (fun c43 => ?_)
                                                · refine lv_iload hx hb dX8_isWord_63 (lv_at hl 0 rfl) ?_
                                                  refine ta_iconst C 2 dX8_isWord_65 (by decide) ?_
                                                  refine lv_icmp_ne (tgt := 73) hx hb dX8_isWord_66 (by decide) (fun c44 => ?_) (fun c44 => ?_)
                                                  · refine lv_iload hx hb dX8_isWord_73 (lv_at hl 0 rfl) ?_
                                                    refine ta_iconst C 3 dX8_isWord_75 (by decide) ?_
                                                    refine lv_icmp_ne (tgt := 84) hx hb dX8_isWord_76 (by decide) (fun c45 => ?_) (fun c45 => ?_)
                                                    · exact absurd c45 (by decide)
                                                    · refine lv_iload hx hb dX8_isWord_79 (lv_at hl 7 rfl) ?_
                                                      refine lv_goto (tgt := 97) hx hb dX8_isWord_81 (by decide) ?_
                                                      refine lv_istore (lv' := [(9, .int (nI 99)), (8, .int (nI 3)), (7, .int (nI 1)), (0, .ref (z 0)), (1, .int (nI 109)), (2, .int (nI 97)), (3, .int (nI 114)), (4, .int (nI 99)), (5, .int (nI 104)), (6, .int (nI 0))]) hx hb dX8_isWord_97 hl (by decide) rfl (fun ls hl => ?_)
                                                      refine lv_aload_n hx hb dX8_isWord_99 rfl (lv_at hl 3 rfl) ?_
                                                      refine ta_get C hP 0 inlX8 rfl rfl 13 (by decide) tw_304 rfl dX8_isWord_100 ?_
                                                      refine lv_iload hx hb dX8_isWord_103 (lv_at hl 1 rfl) ?_
                                                      refine ta_iadd C (a := tn_s tx L p0) (b := 3) dX8_isWord_105 ?_
                                                      refine lv_aload_n hx hb dX8_isWord_106 rfl (lv_at hl 3 rfl) ?_
                                                      refine ta_get C hP 0 inlX8 rfl rfl 11 (by decide) tw_309 rfl dX8_isWord_107 ?_
                                                      refine ta_cge C (a := (tn_s tx L p0) + 3) (b := tn_e tx L p0) (tgt := 138) (by omega) (by omega) dX8_isWord_110 (by decide) (fun c46 => ?_) (fun c46 => ?_)
                                                      · refine lv_iload hx hb dX8_isWord_138 (lv_at hl 0 rfl) ?_
                                                        refine lv_if_ne (tgt := 147) hx hb dX8_isWord_140 (by decide) (fun c47 => ?_) (fun c47 => ?_)
                                                        · refine ta_iconst C 0 dX8_isWord_147 (by decide) ?_
                                                          refine lv_istore (lv' := [(7, .int (nI 0)), (9, .int (nI 99)), (8, .int (nI 3)), (0, .ref (z 0)), (1, .int (nI 109)), (2, .int (nI 97)), (3, .int (nI 114)), (4, .int (nI 99)), (5, .int (nI 104)), (6, .int (nI 0))]) hx hb dX8_isWord_148 hl (by decide) rfl (fun ls hl => ?_)
                                                          refine lv_iinc (v := nI 4) (lv' := [(8, .int (nI 4)), (7, .int (nI 0)), (9, .int (nI 99)), (0, .ref (z 0)), (1, .int (nI 109)), (2, .int (nI 97)), (3, .int (nI 114)), (4, .int (nI 99)), (5, .int (nI 104)), (6, .int (nI 0))]) hx hb dX8_isWord_150 hl (k := 2) rfl (by decide) (by decide) rfl (fun ls hl => ?_)
                                                          refine lv_goto (tgt := 32) hx hb dX8_isWord_153 (by decide) ?_
                                                          refine lv_iload hx hb dX8_isWord_32 (lv_at hl 0 rfl) ?_
                                                          refine ta_bipush C 6 dX8_isWord_34 (by decide) ?_
                                                          refine lv_icmp_ge (tgt := 156) hx hb dX8_isWord_36 (by decide) (fun c48 => ?_) (fun c48 => ?_)
                                                          · exact absurd c48 (by decide)
                                                          · refine lv_iload hx hb dX8_isWord_39 (lv_at hl 1 rfl) ?_
                                                            refine lv_if_eq (tgt := 156) hx hb dX8_isWord_41 (by decide) (fun c49 => ?_) (fun c49 => ?_)
                                                            · refine lv_iload hx hb dX8_isWord_156 (lv_at hl 1 rfl) ?_
                                                              have hnw : ¬ tk_is tx (tn_s tx L p0) (tn_e tx L p0) 4 := by
                                                                intro h
                                                                have h9 : tn_e tx L p0 - tn_s tx L p0 = 5 := h.1
                                                                have h8 : tx (tn_s tx L p0 + 3) = 99 := h.2 3 (by decide)
                                                                omega
                                                              exact ret _ () dX8_isWord_158 (by decide) (Or.inr ⟨hnw, rfl⟩) hP hD hS
                                                            · exact absurd c49 (by decide)
                                                        · exact absurd c47 (by decide)
                                                      · have hr3 := hrow (tn_s tx L p0 + 3) (by omega) (by omega)
                                                        refine lv_aload_n hx hb dX8_isWord_113 rfl (lv_at hl 3 rfl) ?_
                                                        refine ta_get C hP 0 inlX8 rfl rfl 0 (by decide) tw_125 rfl dX8_isWord_114 ?_
                                                        refine lv_aload_n hx hb dX8_isWord_117 rfl (lv_at hl 3 rfl) ?_
                                                        refine ta_get C hP 0 inlX8 rfl rfl 13 (by decide) tw_304 rfl dX8_isWord_118 ?_
                                                        refine lv_iload hx hb dX8_isWord_121 (lv_at hl 1 rfl) ?_
                                                        refine ta_iadd C (a := tn_s tx L p0) (b := 3) dX8_isWord_123 ?_
                                                        refine ta_iald C hP 1 rfl (i := (tn_s tx L p0) + 3) (by omega) dX8_isWord_124 ?_
                                                        refine lv_iload hx hb dX8_isWord_125 (lv_at hl 0 rfl) ?_
                                                        refine ta_cne C (a := tx ((tn_s tx L p0) + 3)) (b := 99) (tgt := 134) (by omega) (by omega) dX8_isWord_127 (by decide) (fun c50 => ?_) (fun c50 => ?_)
                                                        · refine ta_iconst C 0 dX8_isWord_134 (by decide) ?_
                                                          refine lv_goto (tgt := 148) hx hb dX8_isWord_135 (by decide) ?_
                                                          refine lv_istore (lv' := [(7, .int (nI 0)), (9, .int (nI 99)), (8, .int (nI 3)), (0, .ref (z 0)), (1, .int (nI 109)), (2, .int (nI 97)), (3, .int (nI 114)), (4, .int (nI 99)), (5, .int (nI 104)), (6, .int (nI 0))]) hx hb dX8_isWord_148 hl (by decide) rfl (fun ls hl => ?_)
                                                          refine lv_iinc (v := nI 4) (lv' := [(8, .int (nI 4)), (7, .int (nI 0)), (9, .int (nI 99)), (0, .ref (z 0)), (1, .int (nI 109)), (2, .int (nI 97)), (3, .int (nI 114)), (4, .int (nI 99)), (5, .int (nI 104)), (6, .int (nI 0))]) hx hb dX8_isWord_150 hl (k := 2) rfl (by decide) (by decide) rfl (fun ls hl => ?_)
                                                          refine lv_goto (tgt := 32) hx hb dX8_isWord_153 (by decide) ?_
                                                          refine lv_iload hx hb dX8_isWord_32 (lv_at hl 0 rfl) ?_
                                                          refine ta_bipush C 6 dX8_isWord_34 (by decide) ?_
                                                          refine lv_icmp_ge (tgt := 156) hx hb dX8_isWord_36 (by decide) (fun c51 => ?_) (fun c51 => ?_)
                                                          · exact absurd c51 (by decide)
                                                          · refine lv_iload hx hb dX8_isWord_39 (lv_at hl 1 rfl) ?_
                                                            refine lv_if_eq (tgt := 156) hx hb dX8_isWord_41 (by decide) (fun c52 => ?_) (fun c52 => ?_)
                                                            · refine lv_iload hx hb dX8_isWord_156 (lv_at hl 1 rfl) ?_
                                                              have hnw : ¬ tk_is tx (tn_s tx L p0) (tn_e tx L p0) 4 := by
                                                                intro h
                                                                have h9 : tn_e tx L p0 - tn_s tx L p0 = 5 := h.1
                                                                have h8 : tx (tn_s tx L p0 + 3) = 99 := h.2 3 (by decide)
                                                                omega
                                                              exact ret _ () dX8_isWord_158 (by decide) (Or.inr ⟨hnw, rfl⟩) hP hD hS
                                                            · exact absurd c52 (by decide)
                                                        · refine ta_iconst C 1 dX8_isWord_130 (by decide) ?_
                                                          refine lv_goto (tgt := 148) hx hb dX8_isWord_131 (by decide) ?_
                                                          refine lv_istore (lv' := [(7, .int (nI 1)), (9, .int (nI 99)), (8, .int (nI 3)), (0, .ref (z 0)), (1, .int (nI 109)), (2, .int (nI 97)), (3, .int (nI 114)), (4, .int (nI 99)), (5, .int (nI 104)), (6, .int (nI 0))]) hx hb dX8_isWord_148 hl (by decide) rfl (fun ls hl => ?_)
                                                          refine lv_iinc (v := nI 4) (lv' := [(8, .int (nI 4)), (7, .int (nI 1)), (9, .int (nI 99)), (0, .ref (z 0)), (1, .int (nI 109)), (2, .int (nI 97)), (3, .int (nI 114)), (4, .int (nI 99)), (5, .int (nI 104)), (6, .int (nI 0))]) hx hb dX8_isWord_150 hl (k := 2) rfl (by decide) (by decide) rfl (fun ls hl => ?_)
                                                          refine lv_goto (tgt := 32) hx hb dX8_isWord_153 (by decide) ?_
                                                          refine lv_iload hx hb dX8_isWord_32 (lv_at hl 0 rfl) ?_
                                                          refine ta_bipush C 6 dX8_isWord_34 (by decide) ?_
                                                          refine lv_icmp_ge (tgt := 156) hx hb dX8_isWord_36 (by decide) (fun c53 => ?_) (fun c53 => ?_)
                                                          · exact absurd c53 (by decide)
                                                          · refine lv_iload hx hb dX8_isWord_39 (lv_at hl 1 rfl) ?_
                                                            refine lv_if_eq (tgt := 156) hx hb dX8_isWord_41 (by decide) (fun c54 => ?_) (fun c54 => ?_)
                                                            · exact absurd c54 (by decide)
                                                            · refine lv_iload hx hb dX8_isWord_44 (lv_at hl 0 rfl) ?_
                                                              refine lv_if_ne (tgt := 53) hx hb dX8_isWord_46 (by decide) (fun c55 => ?_) (fun c55 => ?_)
                                                              · refine lv_iload hx hb dX8_isWord_53 (lv_at hl 0 rfl) ?_
                                                                refine ta_iconst C 1 dX8_isWord_55 (by decide) ?_
                                                                refine lv_icmp_ne (tgt := 63) hx hb dX8_isWord_56 (by decide) (fun c56 => ?_) (fun c56 => ?_)
                                                                · refine lv_iload hx hb dX8_isWord_63 (lv_at hl 0 rfl) ?_
                                                                  refine ta_iconst C 2 dX8_isWord_65 (by decide) ?_
                                                                  refine lv_icmp_ne (tgt := 73) hx hb dX8_isWord_66 (by decide) (fun c57 => ?_) (fun c57 => ?_)
                                                                  · refine lv_iload hx hb dX8_isWord_73 (lv_at hl 0 rfl) ?_
                                                                    refine ta_iconst C 3 dX8_isWord_75 (by decide) ?_
                                                                    refine lv_icmp_ne (tgt := 84) hx hb dX8_isWord_76 (by decide) (fun c58 => ?_) (fun c58 => ?_)
                                                                    · refine lv_iload hx hb dX8_isWord_84 (lv_at hl 0 rfl) ?_
                                                                      refine ta_iconst C 4 dX8_isWord_86 (by decide) ?_
                                                                      refine lv_icmp_ne (tgt := 95) hx hb dX8_isWord_87 (by decide) (fun c59 => ?_) (fun c59 => ?_)
                                                                      · exact absurd c59 (by decide)
                                                                      · refine lv_iload hx hb dX8_isWord_90 (lv_at hl 8 rfl) ?_
                                                                        refine lv_goto (tgt := 97) hx hb dX8_isWord_92 (by decide) ?_
                                                                        refine lv_istore (lv' := [(9, .int (nI 104)), (8, .int (nI 4)), (7, .int (nI 1)), (0, .ref (z 0)), (1, .int (nI 109)), (2, .int (nI 97)), (3, .int (nI 114)), (4, .int (nI 99)), (5, .int (nI 104)), (6, .int (nI 0))]) hx hb dX8_isWord_97 hl (by decide) rfl (fun ls hl => ?_)
                                                                        refine lv_aload_n hx hb dX8_isWord_99 rfl (lv_at hl 3 rfl) ?_
                                                                        refine ta_get C hP 0 inlX8 rfl rfl 13 (by decide) tw_304 rfl dX8_isWord_100 ?_
                                                                        refine lv_iload hx hb dX8_isWord_103 (lv_at hl 1 rfl) ?_
                                                                        refine ta_iadd C (a := tn_s tx L p0) (b := 4) dX8_isWord_105 ?_
                                                                        refine lv_aload_n hx hb dX8_isWord_106 rfl (lv_at hl 3 rfl) ?_
                                                                        refine ta_get C hP 0 inlX8 rfl rfl 11 (by decide) tw_309 rfl dX8_isWord_107 ?_
                                                                        refine ta_cge C (a := (tn_s tx L p0) + 4) (b := tn_e tx L p0) (tgt := 138) (by omega) (by omega) dX8_isWord_110 (by decide) (fun c60 => ?_) (fun c60 => ?_)
                                                                        · refine lv_iload hx hb dX8_isWord_138 (lv_at hl 0 rfl) ?_
                                                                          refine lv_if_ne (tgt := 147) hx hb dX8_isWord_140 (by decide) (fun c61 => ?_) (fun c61 => ?_)
                                                                          · refine ta_iconst C 0 dX8_isWord_147 (by decide) ?_
                                                                            refine lv_istore (lv' := [(7, .int (nI 0)), (9, .int (nI 104)), (8, .int (nI 4)), (0, .ref (z 0)), (1, .int (nI 109)), (2, .int (nI 97)), (3, .int (nI 114)), (4, .int (nI 99)), (5, .int (nI 104)), (6, .int (nI 0))]) hx hb dX8_isWord_148 hl (by decide) rfl (fun ls hl => ?_)
                                                                            refine lv_iinc (v := nI 5) (lv' := [(8, .int (nI 5)), (7, .int (nI 0)), (9, .int (nI 104)), (0, .ref (z 0)), (1, .int (nI 109)), (2, .int (nI 97)), (3, .int (nI 114)), (4, .int (nI 99)), (5, .int (nI 104)), (6, .int (nI 0))]) hx hb dX8_isWord_150 hl (k := 2) rfl (by decide) (by decide) rfl (fun ls hl => ?_)
                                                                            refine lv_goto (tgt := 32) hx hb dX8_isWord_153 (by decide) ?_
                                                                            refine lv_iload hx hb dX8_isWord_32 (lv_at hl 0 rfl) ?_
                                                                            refine ta_bipush C 6 dX8_isWord_34 (by decide) ?_
                                                                            refine lv_icmp_ge (tgt := 156) hx hb dX8_isWord_36 (by decide) (fun c62 => ?_) (fun c62 => ?_)
                                                                            · exact absurd c62 (by decide)
                                                                            · refine lv_iload hx hb dX8_isWord_39 (lv_at hl 1 rfl) ?_
                                                                              refine lv_if_eq (tgt := 156) hx hb dX8_isWord_41 (by decide) (fun c63 => ?_) (fun c63 => ?_)
                                                                              · refine lv_iload hx hb dX8_isWord_156 (lv_at hl 1 rfl) ?_
                                                                                have hnw : ¬ tk_is tx (tn_s tx L p0) (tn_e tx L p0) 4 := by
                                                                                  intro h
                                                                                  have h9 : tn_e tx L p0 - tn_s tx L p0 = 5 := h.1
                                                                                  have h8 : tx (tn_s tx L p0 + 4) = 104 := h.2 4 (by decide)
                                                                                  omega
                                                                                exact ret _ () dX8_isWord_158 (by decide) (Or.inr ⟨hnw, rfl⟩) hP hD hS
                                                                              · exact absurd c63 (by decide)
                                                                          · exact absurd c61 (by decide)
                                                                        · have hr4 := hrow (tn_s tx L p0 + 4) (by omega) (by omega)
                                                                          refine lv_aload_n hx hb dX8_isWord_113 rfl (lv_at hl 3 rfl) ?_
                                                                          refine ta_get C hP 0 inlX8 rfl rfl 0 (by decide) tw_125 rfl dX8_isWord_114 ?_
                                                                          refine lv_aload_n hx hb dX8_isWord_117 rfl (lv_at hl 3 rfl) ?_
                                                                          refine ta_get C hP 0 inlX8 rfl rfl 13 (by decide) tw_304 rfl dX8_isWord_118 ?_
                                                                          refine lv_iload hx hb dX8_isWord_121 (lv_at hl 1 rfl) ?_
                                                                          refine ta_iadd C (a := tn_s tx L p0) (b := 4) dX8_isWord_123 ?_
                                                                          refine ta_iald C hP 1 rfl (i := (tn_s tx L p0) + 4) (by omega) dX8_isWord_124 ?_
                                                                          refine lv_iload hx hb dX8_isWord_125 (lv_at hl 0 rfl) ?_
                                                                          refine ta_cne C (a := tx ((tn_s tx L p0) + 4)) (b := 104) (tgt := 134) (by omega) (by omega) dX8_isWord_127 (by decide) (fun c64 => ?_) (fun c64 => ?_)
                                                                          · refine ta_iconst C 0 dX8_isWord_134 (by decide) ?_
                                                                            refine lv_goto (tgt := 148) hx hb dX8_isWord_135 (by decide) ?_
                                                                            refine lv_istore (lv' := [(7, .int (nI 0)), (9, .int (nI 104)), (8, .int (nI 4)), (0, .ref (z 0)), (1, .int (nI 109)), (2, .int (nI 97)), (3, .int (nI 114)), (4, .int (nI 99)), (5, .int (nI 104)), (6, .int (nI 0))]) hx hb dX8_isWord_148 hl (by decide) rfl (fun ls hl => ?_)
                                                                            refine lv_iinc (v := nI 5) (lv' := [(8, .int (nI 5)), (7, .int (nI 0)), (9, .int (nI 104)), (0, .ref (z 0)), (1, .int (nI 109)), (2, .int (nI 97)), (3, .int (nI 114)), (4, .int (nI 99)), (5, .int (nI 104)), (6, .int (nI 0))]) hx hb dX8_isWord_150 hl (k := 2) rfl (by decide) (by decide) rfl (fun ls hl => ?_)
                                                                            refine lv_goto (tgt := 32) hx hb dX8_isWord_153 (by decide) ?_
                                                                            refine lv_iload hx hb dX8_isWord_32 (lv_at hl 0 rfl) ?_
                                                                            refine ta_bipush C 6 dX8_isWord_34 (by decide) ?_
                                                                            refine lv_icmp_ge (tgt := 156) hx hb dX8_isWord_36 (by decide) (fun c65 => ?_) (fun c65 => ?_)
                                                                            · exact absurd c65 (by decide)
                                                                            · refine lv_iload hx hb dX8_isWord_39 (lv_at hl 1 rfl) ?_
                                                                              refine lv_if_eq (tgt := 156) hx hb dX8_isWord_41 (by decide) (fun c66 => ?_) (fun c66 => ?_)
                                                                              · refine lv_iload hx hb dX8_isWord_156 (lv_at hl 1 rfl) ?_
                                                                                have hnw : ¬ tk_is tx (tn_s tx L p0) (tn_e tx L p0) 4 := by
                                                                                  intro h
                                                                                  have h9 : tn_e tx L p0 - tn_s tx L p0 = 5 := h.1
                                                                                  have h8 : tx (tn_s tx L p0 + 4) = 104 := h.2 4 (by decide)
                                                                                  omega
                                                                                exact ret _ () dX8_isWord_158 (by decide) (Or.inr ⟨hnw, rfl⟩) hP hD hS
                                                                              · exact absurd c66 (by decide)
                                                                          · refine ta_iconst C 1 dX8_isWord_130 (by decide) ?_
                                                                            refine lv_goto (tgt := 148) hx hb dX8_isWord_131 (by decide) ?_
                                                                            refine lv_istore (lv' := [(7, .int (nI 1)), (9, .int (nI 104)), (8, .int (nI 4)), (0, .ref (z 0)), (1, .int (nI 109)), (2, .int (nI 97)), (3, .int (nI 114)), (4, .int (nI 99)), (5, .int (nI 104)), (6, .int (nI 0))]) hx hb dX8_isWord_148 hl (by decide) rfl (fun ls hl => ?_)
                                                                            refine lv_iinc (v := nI 5) (lv' := [(8, .int (nI 5)), (7, .int (nI 1)), (9, .int (nI 104)), (0, .ref (z 0)), (1, .int (nI 109)), (2, .int (nI 97)), (3, .int (nI 114)), (4, .int (nI 99)), (5, .int (nI 104)), (6, .int (nI 0))]) hx hb dX8_isWord_150 hl (k := 2) rfl (by decide) (by decide) rfl (fun ls hl => ?_)
                                                                            refine lv_goto (tgt := 32) hx hb dX8_isWord_153 (by decide) ?_
                                                                            refine lv_iload hx hb dX8_isWord_32 (lv_at hl 0 rfl) ?_
                                                                            refine ta_bipush C 6 dX8_isWord_34 (by decide) ?_
                                                                            refine lv_icmp_ge (tgt := 156) hx hb dX8_isWord_36 (by decide) (fun c67 => ?_) (fun c67 => ?_)
                                                                            · exact absurd c67 (by decide)
                                                                            · refine lv_iload hx hb dX8_isWord_39 (lv_at hl 1 rfl) ?_
                                                                              refine lv_if_eq (tgt := 156) hx hb dX8_isWord_41 (by decide) (fun c68 => ?_) (fun c68 => ?_)
                                                                              · exact absurd c68 (by decide)
                                                                              · refine lv_iload hx hb dX8_isWord_44 (lv_at hl 0 rfl) ?_
                                                                                refine lv_if_ne (tgt := 53) hx hb dX8_isWord_46 (by decide) (fun c69 => ?_) (fun c69 => ?_)
                                                                                · refine lv_iload hx hb dX8_isWord_53 (lv_at hl 0 rfl) ?_
                                                                                  refine ta_iconst C 1 dX8_isWord_55 (by decide) ?_
                                                                                  refine lv_icmp_ne (tgt := 63) hx hb dX8_isWord_56 (by decide) (fun c70 => ?_) (fun c70 => ?_)
                                                                                  · refine lv_iload hx hb dX8_isWord_63 (lv_at hl 0 rfl) ?_
                                                                                    refine ta_iconst C 2 dX8_isWord_65 (by decide) ?_
                                                                                    refine lv_icmp_ne (tgt := 73) hx hb dX8_isWord_66 (by decide) (fun c71 => ?_) (fun c71 => ?_)
                                                                                    · refine lv_iload hx hb dX8_isWord_73 (lv_at hl 0 rfl) ?_
                                                                                      refine ta_iconst C 3 dX8_isWord_75 (by decide) ?_
                                                                                      refine lv_icmp_ne (tgt := 84) hx hb dX8_isWord_76 (by decide) (fun c72 => ?_) (fun c72 => ?_)
                                                                                      · refine lv_iload hx hb dX8_isWord_84 (lv_at hl 0 rfl) ?_
                                                                                        refine ta_iconst C 4 dX8_isWord_86 (by decide) ?_
                                                                                        refine lv_icmp_ne (tgt := 95) hx hb dX8_isWord_87 (by decide) (fun c73 => ?_) (fun c73 => ?_)
                                                                                        · refine lv_iload hx hb dX8_isWord_95 (lv_at hl 9 rfl) ?_
                                                                                          refine lv_istore (lv' := [(9, .int (nI 0)), (8, .int (nI 5)), (7, .int (nI 1)), (0, .ref (z 0)), (1, .int (nI 109)), (2, .int (nI 97)), (3, .int (nI 114)), (4, .int (nI 99)), (5, .int (nI 104)), (6, .int (nI 0))]) hx hb dX8_isWord_97 hl (by decide) rfl (fun ls hl => ?_)
                                                                                          refine lv_aload_n hx hb dX8_isWord_99 rfl (lv_at hl 3 rfl) ?_
                                                                                          refine ta_get C hP 0 inlX8 rfl rfl 13 (by decide) tw_304 rfl dX8_isWord_100 ?_
                                                                                          refine lv_iload hx hb dX8_isWord_103 (lv_at hl 1 rfl) ?_
                                                                                          refine ta_iadd C (a := tn_s tx L p0) (b := 5) dX8_isWord_105 ?_
                                                                                          refine lv_aload_n hx hb dX8_isWord_106 rfl (lv_at hl 3 rfl) ?_
                                                                                          refine ta_get C hP 0 inlX8 rfl rfl 11 (by decide) tw_309 rfl dX8_isWord_107 ?_
                                                                                          refine ta_cge C (a := (tn_s tx L p0) + 5) (b := tn_e tx L p0) (tgt := 138) (by omega) (by omega) dX8_isWord_110 (by decide) (fun c74 => ?_) (fun c74 => ?_)
                                                                                          · refine lv_iload hx hb dX8_isWord_138 (lv_at hl 0 rfl) ?_
                                                                                            refine lv_if_ne (tgt := 147) hx hb dX8_isWord_140 (by decide) (fun c75 => ?_) (fun c75 => ?_)
                                                                                            · exact absurd c75 (by decide)
                                                                                            · refine ta_iconst C 1 dX8_isWord_143 (by decide) ?_
                                                                                              refine lv_goto (tgt := 148) hx hb dX8_isWord_144 (by decide) ?_
                                                                                              refine lv_istore (lv' := [(7, .int (nI 1)), (9, .int (nI 0)), (8, .int (nI 5)), (0, .ref (z 0)), (1, .int (nI 109)), (2, .int (nI 97)), (3, .int (nI 114)), (4, .int (nI 99)), (5, .int (nI 104)), (6, .int (nI 0))]) hx hb dX8_isWord_148 hl (by decide) rfl (fun ls hl => ?_)
                                                                                              refine lv_iinc (v := nI 6) (lv' := [(8, .int (nI 6)), (7, .int (nI 1)), (9, .int (nI 0)), (0, .ref (z 0)), (1, .int (nI 109)), (2, .int (nI 97)), (3, .int (nI 114)), (4, .int (nI 99)), (5, .int (nI 104)), (6, .int (nI 0))]) hx hb dX8_isWord_150 hl (k := 2) rfl (by decide) (by decide) rfl (fun ls hl => ?_)
                                                                                              refine lv_goto (tgt := 32) hx hb dX8_isWord_153 (by decide) ?_
                                                                                              refine lv_iload hx hb dX8_isWord_32 (lv_at hl 0 rfl) ?_
                                                                                              refine ta_bipush C 6 dX8_isWord_34 (by decide) ?_
                                                                                              refine lv_icmp_ge (tgt := 156) hx hb dX8_isWord_36 (by decide) (fun c76 => ?_) (fun c76 => ?_)
                                                                                              · refine lv_iload hx hb dX8_isWord_156 (lv_at hl 1 rfl) ?_
                                                                                                have hw : tk_is tx (tn_s tx L p0) (tn_e tx L p0) 4 := by
                                                                                                  refine ⟨show tn_e tx L p0 - tn_s tx L p0 = 5 by omega, fun j hj => ?_⟩
                                                                                                  have hj : j < 5 := hj
                                                                                                  rcases (show j = 0 ∨ j = 1 ∨ j = 2 ∨ j = 3 ∨ j = 4 by omega) with rfl | rfl | rfl | rfl | rfl
                                                                                                  · show tx (tn_s tx L p0 + 0) = 109; omega
                                                                                                  · show tx (tn_s tx L p0 + 1) = 97; omega
                                                                                                  · show tx (tn_s tx L p0 + 2) = 114; omega
                                                                                                  · show tx (tn_s tx L p0 + 3) = 99; omega
                                                                                                  · show tx (tn_s tx L p0 + 4) = 104; omega
                                                                                                exact ret _ () dX8_isWord_158 (by decide) (Or.inl ⟨hw, rfl⟩) hP hD hS
                                                                                              · exact absurd c76 (by decide)
                                                                                          · have hr5 := hrow (tn_s tx L p0 + 5) (by omega) (by omega)
                                                                                            refine lv_aload_n hx hb dX8_isWord_113 rfl (lv_at hl 3 rfl) ?_
                                                                                            refine ta_get C hP 0 inlX8 rfl rfl 0 (by decide) tw_125 rfl dX8_isWord_114 ?_
                                                                                            refine lv_aload_n hx hb dX8_isWord_117 rfl (lv_at hl 3 rfl) ?_
                                                                                            refine ta_get C hP 0 inlX8 rfl rfl 13 (by decide) tw_304 rfl dX8_isWord_118 ?_
                                                                                            refine lv_iload hx hb dX8_isWord_121 (lv_at hl 1 rfl) ?_
                                                                                            refine ta_iadd C (a := tn_s tx L p0) (b := 5) dX8_isWord_123 ?_
                                                                                            refine ta_iald C hP 1 rfl (i := (tn_s tx L p0) + 5) (by omega) dX8_isWord_124 ?_
                                                                                            refine lv_iload hx hb dX8_isWord_125 (lv_at hl 0 rfl) ?_
                                                                                            refine ta_cne C (a := tx ((tn_s tx L p0) + 5)) (b := 0) (tgt := 134) (by omega) (by omega) dX8_isWord_127 (by decide) (fun c77 => ?_) (fun c77 => ?_)
                                                                                            · refine ta_iconst C 0 dX8_isWord_134 (by decide) ?_
                                                                                              refine lv_goto (tgt := 148) hx hb dX8_isWord_135 (by decide) ?_
                                                                                              refine lv_istore (lv' := [(7, .int (nI 0)), (9, .int (nI 0)), (8, .int (nI 5)), (0, .ref (z 0)), (1, .int (nI 109)), (2, .int (nI 97)), (3, .int (nI 114)), (4, .int (nI 99)), (5, .int (nI 104)), (6, .int (nI 0))]) hx hb dX8_isWord_148 hl (by decide) rfl (fun ls hl => ?_)
                                                                                              refine lv_iinc (v := nI 6) (lv' := [(8, .int (nI 6)), (7, .int (nI 0)), (9, .int (nI 0)), (0, .ref (z 0)), (1, .int (nI 109)), (2, .int (nI 97)), (3, .int (nI 114)), (4, .int (nI 99)), (5, .int (nI 104)), (6, .int (nI 0))]) hx hb dX8_isWord_150 hl (k := 2) rfl (by decide) (by decide) rfl (fun ls hl => ?_)
                                                                                              refine lv_goto (tgt := 32) hx hb dX8_isWord_153 (by decide) ?_
                                                                                              refine lv_iload hx hb dX8_isWord_32 (lv_at hl 0 rfl) ?_
                                                                                              refine ta_bipush C 6 dX8_isWord_34 (by decide) ?_
                                                                                              refine lv_icmp_ge (tgt := 156) hx hb dX8_isWord_36 (by decide) (fun c78 => ?_) (fun c78 => ?_)
                                                                                              · refine lv_iload hx hb dX8_isWord_156 (lv_at hl 1 rfl) ?_
                                                                                                have hnw : ¬ tk_is tx (tn_s tx L p0) (tn_e tx L p0) 4 := by
                                                                                                  intro h
                                                                                                  have h9 : tn_e tx L p0 - tn_s tx L p0 = 5 := h.1
                                                                                                  omega
                                                                                                exact ret _ () dX8_isWord_158 (by decide) (Or.inr ⟨hnw, rfl⟩) hP hD hS
                                                                                              · exact absurd c78 (by decide)
                                                                                            · exfalso; omega
                                                                                        · exact absurd c73 (by decide)
                                                                                      · exact absurd c72 (by decide)
                                                                                    · exact absurd c71 (by decide)
                                                                                  · exact absurd c70 (by decide)
                                                                                · exact absurd c69 (by decide)
                                                                    · exact absurd c58 (by decide)
                                                                  · exact absurd c57 (by decide)
                                                                · exact absurd c56 (by decide)
                                                              · exact absurd c55 (by decide)
                                                  · exact absurd c44 (by decide)
                                                · exact absurd c43 (by decide)
                                              · exact absurd c42 (by decide)
                                  · exact absurd c31 (by decide)
                                · exact absurd c30 (by decide)
                    · exact absurd c19 (by decide)

set_option maxHeartbeats 4000000 in
set_option maxRecDepth 100000 in
theorem c_X8_isWord_5 (l : Launch) (D : va_G) (k : ta_C) (z : Nat → Nat) (kn : Nat) (no : Nat) (va : Nat) (L : Nat) (tx : Nat → Nat) (p0 : Nat) (hx0 : tx_ok tx L) (hp0 : p0 ≤ L) : ta_Mi (S := Unit) l D k yX8_isWord cX8_isWord 10 .boolean 0 0 [.ref (z 0), .int (nI 98), .int (nI 97), .int (nI 99), .int (nI 107), .int (nI 0), .int (nI 0)] [(z 0, .inr (8, [.ref (z 1), .int (nI L), .ref (z 2), .ref (z 3), .ref (z 4), .ref (z 5), .int (nI kn), .ref (z 6), .ref (z 7), .ref (z 8), .int (nI no), .int (nI (tn_e tx L p0)), .int (nI (mo_s tx L p0)), .int (nI (tn_s tx L p0)), .int (nI va), .ref (z 9)])), (z 1, .inl (k.1 0, 160, .inl (ta_e tx)))] (fun r _ => (tk_is tx (tn_s tx L p0) (tn_e tx L p0) 5 ∧ r = nI 1) ∨ (¬ tk_is tx (tn_s tx L p0) (tn_e tx L p0) 5 ∧ r = nI 0)) (fun u => [(z 0, .inr (8, [.ref (z 1), .int (nI L), .ref (z 2), .ref (z 3), .ref (z 4), .ref (z 5), .int (nI kn), .ref (z 6), .ref (z 7), .ref (z 8), .int (nI no), .int (nI (tn_e tx L p0)), .int (nI (mo_s tx L p0)), .int (nI (tn_s tx L p0)), .int (nI va), .ref (z 9)])), (z 1, .inl (k.1 0, 160, .inl (ta_e tx)))]) := by
  refine ta_enter_i (by decide) (Nat.le_of_ble_eq_true rfl) ?_
  intro p e s m below meth c A ls Q C ret hP hD hS hl
  have C : ta_At p l D k s m ([.ref (z 0), .int (nI 98), .int (nI 97), .int (nI 99), .int (nI 107), .int (nI 0), .int (nI 0)] : List Value).toArray c RX8 cX8_isWord 10 A := C
  have hx := C.1.1
  have hb := C.1.2.1
  have hl : lv_has ls 10 [(0, .ref (z 0)), (1, .int (nI 98)), (2, .int (nI 97)), (3, .int (nI 99)), (4, .int (nI 107)), (5, .int (nI 0)), (6, .int (nI 0))] := hl
  obtain ⟨H, hH⟩ : ∃ H, H = s.heap := ⟨_, rfl⟩
  obtain ⟨locs, hlocs⟩ : ∃ q : List Loc, q = [] := ⟨_, rfl⟩
  have hP : va_P D vwCl [(z 0, .inr (8, [.ref (z 1), .int (nI L), .ref (z 2), .ref (z 3), .ref (z 4), .ref (z 5), .int (nI kn), .ref (z 6), .ref (z 7), .ref (z 8), .int (nI no), .int (nI (tn_e tx L p0)), .int (nI (mo_s tx L p0)), .int (nI (tn_s tx L p0)), .int (nI va), .ref (z 9)])), (z 1, .inl (k.1 0, 160, .inl (ta_e tx)))] H := by rw [hH]; exact hP
  have hS : va_S A s.heap H locs := by rw [hH, hlocs]; exact hS
  rw [← hlocs]
  suffices hgoal : W p l e ({ frames := 0, cells := 0, slots := 0, locals := 0 }) s m ([.ref (z 0), .int (nI 98), .int (nI 97), .int (nI 99), .int (nI 107), .int (nI 0), .int (nI 0)] : List Value).toArray below meth c H locs 0 0 Q (F0 m 0 ls []) by rw [hH] at hgoal; exact hgoal
  clear hH hlocs
  obtain ⟨hL, hc⟩ := id hx0
  obtain ⟨b1, b2, b3, b4⟩ := tn_b (tx := tx) hp0
  have hms4 : mo_s tx L p0 < 4 := by unfold mo_s; have h4 := tx_s4 tx L (tn_s tx L p0); split <;> omega
  refine lv_aload_n hx hb dX8_isWord_0 rfl (lv_at hl 0 rfl) ?_
  refine ta_get C hP 0 inlX8 rfl rfl 12 (by decide) tw_310 rfl dX8_isWord_1 ?_
  refine ta_iconst C 1 dX8_isWord_4 (by decide) ?_
  refine ta_cne C (a := mo_s tx L p0) (b := 1) (tgt := 26) (by omega) (by omega) dX8_isWord_5 (by decide) (fun c1 => ?_) (fun c1 => ?_)
  · refine ta_iconst C 0 dX8_isWord_26 (by decide) ?_
    refine lv_istore (lv' := [(7, .int (nI 0)), (0, .ref (z 0)), (1, .int (nI 98)), (2, .int (nI 97)), (3, .int (nI 99)), (4, .int (nI 107)), (5, .int (nI 0)), (6, .int (nI 0))]) hx hb dX8_isWord_27 hl (by decide) rfl (fun ls hl => ?_)
    refine ta_iconst C 0 dX8_isWord_29 (by decide) ?_
    refine lv_istore (lv' := [(8, .int (nI 0)), (7, .int (nI 0)), (0, .ref (z 0)), (1, .int (nI 98)), (2, .int (nI 97)), (3, .int (nI 99)), (4, .int (nI 107)), (5, .int (nI 0)), (6, .int (nI 0))]) hx hb dX8_isWord_30 hl (by decide) rfl (fun ls hl => ?_)
    refine lv_iload hx hb dX8_isWord_32 (lv_at hl 0 rfl) ?_
    refine ta_bipush C 6 dX8_isWord_34 (by decide) ?_
    refine lv_icmp_ge (tgt := 156) hx hb dX8_isWord_36 (by decide) (fun c2 => ?_) (fun c2 => ?_)
    · exact absurd c2 (by decide)
    · refine lv_iload hx hb dX8_isWord_39 (lv_at hl 1 rfl) ?_
      refine lv_if_eq (tgt := 156) hx hb dX8_isWord_41 (by decide) (fun c3 => ?_) (fun c3 => ?_)
      · refine lv_iload hx hb dX8_isWord_156 (lv_at hl 1 rfl) ?_
        have hnw : ¬ tk_is tx (tn_s tx L p0) (tn_e tx L p0) 5 := fun h => by have h9 := mo_is1 (i := 5) (by decide) hp0 h; omega
        exact ret _ () dX8_isWord_158 (by decide) (Or.inr ⟨hnw, rfl⟩) hP hD hS
      · exact absurd c3 (by decide)
  · have hrow := mo_row c1
    refine lv_aload_n hx hb dX8_isWord_8 rfl (lv_at hl 0 rfl) ?_
    refine ta_get C hP 0 inlX8 rfl rfl 11 (by decide) tw_309 rfl dX8_isWord_9 ?_
    refine lv_aload_n hx hb dX8_isWord_12 rfl (lv_at hl 0 rfl) ?_
    refine ta_get C hP 0 inlX8 rfl rfl 13 (by decide) tw_304 rfl dX8_isWord_13 ?_
    refine ta_isub C (a := tn_e tx L p0) (b := tn_s tx L p0) (by omega) dX8_isWord_16 ?_
    refine ta_bipush C 7 dX8_isWord_17 (by decide) ?_
    refine ta_cge C (a := (tn_e tx L p0) - (tn_s tx L p0)) (b := 7) (tgt := 26) (by omega) (by omega) dX8_isWord_19 (by decide) (fun c4 => ?_) (fun c4 => ?_)
    · refine ta_iconst C 0 dX8_isWord_26 (by decide) ?_
      refine lv_istore (lv' := [(7, .int (nI 0)), (0, .ref (z 0)), (1, .int (nI 98)), (2, .int (nI 97)), (3, .int (nI 99)), (4, .int (nI 107)), (5, .int (nI 0)), (6, .int (nI 0))]) hx hb dX8_isWord_27 hl (by decide) rfl (fun ls hl => ?_)
      refine ta_iconst C 0 dX8_isWord_29 (by decide) ?_
      refine lv_istore (lv' := [(8, .int (nI 0)), (7, .int (nI 0)), (0, .ref (z 0)), (1, .int (nI 98)), (2, .int (nI 97)), (3, .int (nI 99)), (4, .int (nI 107)), (5, .int (nI 0)), (6, .int (nI 0))]) hx hb dX8_isWord_30 hl (by decide) rfl (fun ls hl => ?_)
      refine lv_iload hx hb dX8_isWord_32 (lv_at hl 0 rfl) ?_
      refine ta_bipush C 6 dX8_isWord_34 (by decide) ?_
      refine lv_icmp_ge (tgt := 156) hx hb dX8_isWord_36 (by decide) (fun c5 => ?_) (fun c5 => ?_)
      · exact absurd c5 (by decide)
      · refine lv_iload hx hb dX8_isWord_39 (lv_at hl 1 rfl) ?_
        refine lv_if_eq (tgt := 156) hx hb dX8_isWord_41 (by decide) (fun c6 => ?_) (fun c6 => ?_)
        · refine lv_iload hx hb dX8_isWord_156 (lv_at hl 1 rfl) ?_
          have hnw : ¬ tk_is tx (tn_s tx L p0) (tn_e tx L p0) 5 := fun h => by have h9 : tn_e tx L p0 - tn_s tx L p0 = 4 := h.1; omega
          exact ret _ () dX8_isWord_158 (by decide) (Or.inr ⟨hnw, rfl⟩) hP hD hS
        · exact absurd c6 (by decide)
    · refine ta_iconst C 1 dX8_isWord_22 (by decide) ?_
      refine lv_goto (tgt := 27) hx hb dX8_isWord_23 (by decide) ?_
      refine lv_istore (lv' := [(7, .int (nI 1)), (0, .ref (z 0)), (1, .int (nI 98)), (2, .int (nI 97)), (3, .int (nI 99)), (4, .int (nI 107)), (5, .int (nI 0)), (6, .int (nI 0))]) hx hb dX8_isWord_27 hl (by decide) rfl (fun ls hl => ?_)
      refine ta_iconst C 0 dX8_isWord_29 (by decide) ?_
      refine lv_istore (lv' := [(8, .int (nI 0)), (7, .int (nI 1)), (0, .ref (z 0)), (1, .int (nI 98)), (2, .int (nI 97)), (3, .int (nI 99)), (4, .int (nI 107)), (5, .int (nI 0)), (6, .int (nI 0))]) hx hb dX8_isWord_30 hl (by decide) rfl (fun ls hl => ?_)
      refine lv_iload hx hb dX8_isWord_32 (lv_at hl 0 rfl) ?_
      refine ta_bipush C 6 dX8_isWord_34 (by decide) ?_
      refine lv_icmp_ge (tgt := 156) hx hb dX8_isWord_36 (by decide) (fun c7 => ?_) (fun c7 => ?_)
      · exact absurd c7 (by decide)
      · refine lv_iload hx hb dX8_isWord_39 (lv_at hl 1 rfl) ?_
        refine lv_if_eq (tgt := 156) hx hb dX8_isWord_41 (by decide) (fun c8 => ?_) (fun c8 => ?_)
        · exact absurd c8 (by decide)
        · refine lv_iload hx hb dX8_isWord_44 (lv_at hl 0 rfl) ?_
          refine lv_if_ne (tgt := 53) hx hb dX8_isWord_46 (by decide) (fun c9 => ?_) (fun c9 => ?_)
          · exact absurd c9 (by decide)
          · refine lv_iload_n hx hb dX8_isWord_49 rfl (lv_at hl 3 rfl) ?_
            refine lv_goto (tgt := 97) hx hb dX8_isWord_50 (by decide) ?_
            refine lv_istore (lv' := [(9, .int (nI 98)), (8, .int (nI 0)), (7, .int (nI 1)), (0, .ref (z 0)), (1, .int (nI 98)), (2, .int (nI 97)), (3, .int (nI 99)), (4, .int (nI 107)), (5, .int (nI 0)), (6, .int (nI 0))]) hx hb dX8_isWord_97 hl (by decide) rfl (fun ls hl => ?_)
            refine lv_aload_n hx hb dX8_isWord_99 rfl (lv_at hl 3 rfl) ?_
            refine ta_get C hP 0 inlX8 rfl rfl 13 (by decide) tw_304 rfl dX8_isWord_100 ?_
            refine lv_iload hx hb dX8_isWord_103 (lv_at hl 1 rfl) ?_
            refine ta_iadd C (a := tn_s tx L p0) (b := 0) dX8_isWord_105 ?_
            refine lv_aload_n hx hb dX8_isWord_106 rfl (lv_at hl 3 rfl) ?_
            refine ta_get C hP 0 inlX8 rfl rfl 11 (by decide) tw_309 rfl dX8_isWord_107 ?_
            refine ta_cge C (a := (tn_s tx L p0) + 0) (b := tn_e tx L p0) (tgt := 138) (by omega) (by omega) dX8_isWord_110 (by decide) (fun c10 => ?_) (fun c10 => ?_)
            · refine lv_iload hx hb dX8_isWord_138 (lv_at hl 0 rfl) ?_
              refine lv_if_ne (tgt := 147) hx hb dX8_isWord_140 (by decide) (fun c11 => ?_) (fun c11 => ?_)
              · refine ta_iconst C 0 dX8_isWord_147 (by decide) ?_
                refine lv_istore (lv' := [(7, .int (nI 0)), (9, .int (nI 98)), (8, .int (nI 0)), (0, .ref (z 0)), (1, .int (nI 98)), (2, .int (nI 97)), (3, .int (nI 99)), (4, .int (nI 107)), (5, .int (nI 0)), (6, .int (nI 0))]) hx hb dX8_isWord_148 hl (by decide) rfl (fun ls hl => ?_)
                refine lv_iinc (v := nI 1) (lv' := [(8, .int (nI 1)), (7, .int (nI 0)), (9, .int (nI 98)), (0, .ref (z 0)), (1, .int (nI 98)), (2, .int (nI 97)), (3, .int (nI 99)), (4, .int (nI 107)), (5, .int (nI 0)), (6, .int (nI 0))]) hx hb dX8_isWord_150 hl (k := 2) rfl (by decide) (by decide) rfl (fun ls hl => ?_)
                refine lv_goto (tgt := 32) hx hb dX8_isWord_153 (by decide) ?_
                refine lv_iload hx hb dX8_isWord_32 (lv_at hl 0 rfl) ?_
                refine ta_bipush C 6 dX8_isWord_34 (by decide) ?_
                refine lv_icmp_ge (tgt := 156) hx hb dX8_isWord_36 (by decide) (fun c12 => ?_) (fun c12 => ?_)
                · exact absurd c12 (by decide)
                · refine lv_iload hx hb dX8_isWord_39 (lv_at hl 1 rfl) ?_
                  refine lv_if_eq (tgt := 156) hx hb dX8_isWord_41 (by decide) (fun c13 => ?_) (fun c13 => ?_)
                  · refine lv_iload hx hb dX8_isWord_156 (lv_at hl 1 rfl) ?_
                    have hnw : ¬ tk_is tx (tn_s tx L p0) (tn_e tx L p0) 5 := by
                      intro h
                      have h9 : tn_e tx L p0 - tn_s tx L p0 = 4 := h.1
                      have h8 : tx (tn_s tx L p0 + 0) = 98 := h.2 0 (by decide)
                      omega
                    exact ret _ () dX8_isWord_158 (by decide) (Or.inr ⟨hnw, rfl⟩) hP hD hS
                  · exact absurd c13 (by decide)
              · exact absurd c11 (by decide)
            · have hr0 := hrow (tn_s tx L p0 + 0) (by omega) (by omega)
              refine lv_aload_n hx hb dX8_isWord_113 rfl (lv_at hl 3 rfl) ?_
              refine ta_get C hP 0 inlX8 rfl rfl 0 (by decide) tw_125 rfl dX8_isWord_114 ?_
              refine lv_aload_n hx hb dX8_isWord_117 rfl (lv_at hl 3 rfl) ?_
              refine ta_get C hP 0 inlX8 rfl rfl 13 (by decide) tw_304 rfl dX8_isWord_118 ?_
              refine lv_iload hx hb dX8_isWord_121 (lv_at hl 1 rfl) ?_
              refine ta_iadd C (a := tn_s tx L p0) (b := 0) dX8_isWord_123 ?_
              refine ta_iald C hP 1 rfl (i := (tn_s tx L p0) + 0) (by omega) dX8_isWord_124 ?_
              refine lv_iload hx hb dX8_isWord_125 (lv_at hl 0 rfl) ?_
              refine ta_cne C (a := tx ((tn_s tx L p0) + 0)) (b := 98) (tgt := 134) (by omega) (by omega) dX8_isWord_127 (by decide) (fun c14 => ?_) (fun c14 => ?_)
              · refine ta_iconst C 0 dX8_isWord_134 (by decide) ?_
                refine lv_goto (tgt := 148) hx hb dX8_isWord_135 (by decide) ?_
                refine lv_istore (lv' := [(7, .int (nI 0)), (9, .int (nI 98)), (8, .int (nI 0)), (0, .ref (z 0)), (1, .int (nI 98)), (2, .int (nI 97)), (3, .int (nI 99)), (4, .int (nI 107)), (5, .int (nI 0)), (6, .int (nI 0))]) hx hb dX8_isWord_148 hl (by decide) rfl (fun ls hl => ?_)
                refine lv_iinc (v := nI 1) (lv' := [(8, .int (nI 1)), (7, .int (nI 0)), (9, .int (nI 98)), (0, .ref (z 0)), (1, .int (nI 98)), (2, .int (nI 97)), (3, .int (nI 99)), (4, .int (nI 107)), (5, .int (nI 0)), (6, .int (nI 0))]) hx hb dX8_isWord_150 hl (k := 2) rfl (by decide) (by decide) rfl (fun ls hl => ?_)
                refine lv_goto (tgt := 32) hx hb dX8_isWord_153 (by decide) ?_
                refine lv_iload hx hb dX8_isWord_32 (lv_at hl 0 rfl) ?_
                refine ta_bipush C 6 dX8_isWord_34 (by decide) ?_
                refine lv_icmp_ge (tgt := 156) hx hb dX8_isWord_36 (by decide) (fun c15 => ?_) (fun c15 => ?_)
                · exact absurd c15 (by decide)
                · refine lv_iload hx hb dX8_isWord_39 (lv_at hl 1 rfl) ?_
                  refine lv_if_eq (tgt := 156) hx hb dX8_isWord_41 (by decide) (fun c16 => ?_) (fun c16 => ?_)
                  · refine lv_iload hx hb dX8_isWord_156 (lv_at hl 1 rfl) ?_
                    have hnw : ¬ tk_is tx (tn_s tx L p0) (tn_e tx L p0) 5 := by
                      intro h
                      have h9 : tn_e tx L p0 - tn_s tx L p0 = 4 := h.1
                      have h8 : tx (tn_s tx L p0 + 0) = 98 := h.2 0 (by decide)
                      omega
                    exact ret _ () dX8_isWord_158 (by decide) (Or.inr ⟨hnw, rfl⟩) hP hD hS
                  · exact absurd c16 (by decide)
              · refine ta_iconst C 1 dX8_isWord_130 (by decide) ?_
                refine lv_goto (tgt := 148) hx hb dX8_isWord_131 (by decide) ?_
                refine lv_istore (lv' := [(7, .int (nI 1)), (9, .int (nI 98)), (8, .int (nI 0)), (0, .ref (z 0)), (1, .int (nI 98)), (2, .int (nI 97)), (3, .int (nI 99)), (4, .int (nI 107)), (5, .int (nI 0)), (6, .int (nI 0))]) hx hb dX8_isWord_148 hl (by decide) rfl (fun ls hl => ?_)
                refine lv_iinc (v := nI 1) (lv' := [(8, .int (nI 1)), (7, .int (nI 1)), (9, .int (nI 98)), (0, .ref (z 0)), (1, .int (nI 98)), (2, .int (nI 97)), (3, .int (nI 99)), (4, .int (nI 107)), (5, .int (nI 0)), (6, .int (nI 0))]) hx hb dX8_isWord_150 hl (k := 2) rfl (by decide) (by decide) rfl (fun ls hl => ?_)
                refine lv_goto (tgt := 32) hx hb dX8_isWord_153 (by decide) ?_
                refine lv_iload hx hb dX8_isWord_32 (lv_at hl 0 rfl) ?_
                refine ta_bipush C 6 dX8_isWord_34 (by decide) ?_
                refine lv_icmp_ge (tgt := 156) hx hb dX8_isWord_36 (by decide) (fun c17 => ?_) (fun c17 => ?_)
                · exact absurd c17 (by decide)
                · refine lv_iload hx hb dX8_isWord_39 (lv_at hl 1 rfl) ?_
                  refine lv_if_eq (tgt := 156) hx hb dX8_isWord_41 (by decide) (fun c18 => ?_) (fun c18 => ?_)
                  · exact absurd c18 (by decide)
                  · refine lv_iload hx hb dX8_isWord_44 (lv_at hl 0 rfl) ?_
                    refine lv_if_ne (tgt := 53) hx hb dX8_isWord_46 (by decide) (fun c19 => ?_) (fun c19 => ?_)
                    · refine lv_iload hx hb dX8_isWord_53 (lv_at hl 0 rfl) ?_
                      refine ta_iconst C 1 dX8_isWord_55 (by decide) ?_
                      refine lv_icmp_ne (tgt := 63) hx hb dX8_isWord_56 (by decide) (fun c20 => ?_) (fun c20 => ?_)
                      · exact absurd c20 (by decide)
                      · refine lv_iload_n hx hb dX8_isWord_59 rfl (lv_at hl 5 rfl) ?_
                        refine lv_goto (tgt := 97) hx hb dX8_isWord_60 (by decide) ?_
                        refine lv_istore (lv' := [(9, .int (nI 97)), (8, .int (nI 1)), (7, .int (nI 1)), (0, .ref (z 0)), (1, .int (nI 98)), (2, .int (nI 97)), (3, .int (nI 99)), (4, .int (nI 107)), (5, .int (nI 0)), (6, .int (nI 0))]) hx hb dX8_isWord_97 hl (by decide) rfl (fun ls hl => ?_)
                        refine lv_aload_n hx hb dX8_isWord_99 rfl (lv_at hl 3 rfl) ?_
                        refine ta_get C hP 0 inlX8 rfl rfl 13 (by decide) tw_304 rfl dX8_isWord_100 ?_
                        refine lv_iload hx hb dX8_isWord_103 (lv_at hl 1 rfl) ?_
                        refine ta_iadd C (a := tn_s tx L p0) (b := 1) dX8_isWord_105 ?_
                        refine lv_aload_n hx hb dX8_isWord_106 rfl (lv_at hl 3 rfl) ?_
                        refine ta_get C hP 0 inlX8 rfl rfl 11 (by decide) tw_309 rfl dX8_isWord_107 ?_
                        refine ta_cge C (a := (tn_s tx L p0) + 1) (b := tn_e tx L p0) (tgt := 138) (by omega) (by omega) dX8_isWord_110 (by decide) (fun c21 => ?_) (fun c21 => ?_)
                        · refine lv_iload hx hb dX8_isWord_138 (lv_at hl 0 rfl) ?_
                          refine lv_if_ne (tgt := 147) hx hb dX8_isWord_140 (by decide) (fun c22 => ?_) (fun c22 => ?_)
                          · refine ta_iconst C 0 dX8_isWord_147 (by decide) ?_
                            refine lv_istore (lv' := [(7, .int (nI 0)), (9, .int (nI 97)), (8, .int (nI 1)), (0, .ref (z 0)), (1, .int (nI 98)), (2, .int (nI 97)), (3, .int (nI 99)), (4, .int (nI 107)), (5, .int (nI 0)), (6, .int (nI 0))]) hx hb dX8_isWord_148 hl (by decide) rfl (fun ls hl => ?_)
                            refine lv_iinc (v := nI 2) (lv' := [(8, .int (nI 2)), (7, .int (nI 0)), (9, .int (nI 97)), (0, .ref (z 0)), (1, .int (nI 98)), (2, .int (nI 97)), (3, .int (nI 99)), (4, .int (nI 107)), (5, .int (nI 0)), (6, .int (nI 0))]) hx hb dX8_isWord_150 hl (k := 2) rfl (by decide) (by decide) rfl (fun ls hl => ?_)
                            refine lv_goto (tgt := 32) hx hb dX8_isWord_153 (by decide) ?_
                            refine lv_iload hx hb dX8_isWord_32 (lv_at hl 0 rfl) ?_
                            refine ta_bipush C 6 dX8_isWord_34 (by decide) ?_
                            refine lv_icmp_ge (tgt := 156) hx hb dX8_isWord_36 (by decide) (fun c23 => ?_) (fun c23 => ?_)
                            · exact absurd c23 (by decide)
                            · refine lv_iload hx hb dX8_isWord_39 (lv_at hl 1 rfl) ?_
                              refine lv_if_eq (tgt := 156) hx hb dX8_isWord_41 (by decide) (fun c24 => ?_) (fun c24 => ?_)
                              · refine lv_iload hx hb dX8_isWord_156 (lv_at hl 1 rfl) ?_
                                have hnw : ¬ tk_is tx (tn_s tx L p0) (tn_e tx L p0) 5 := by
                                  intro h
                                  have h9 : tn_e tx L p0 - tn_s tx L p0 = 4 := h.1
                                  have h8 : tx (tn_s tx L p0 + 1) = 97 := h.2 1 (by decide)
                                  omega
                                exact ret _ () dX8_isWord_158 (by decide) (Or.inr ⟨hnw, rfl⟩) hP hD hS
                              · exact absurd c24 (by decide)
                          · exact absurd c22 (by decide)
                        · have hr1 := hrow (tn_s tx L p0 + 1) (by omega) (by omega)
                          refine lv_aload_n hx hb dX8_isWord_113 rfl (lv_at hl 3 rfl) ?_
                          refine ta_get C hP 0 inlX8 rfl rfl 0 (by decide) tw_125 rfl dX8_isWord_114 ?_
                          refine lv_aload_n hx hb dX8_isWord_117 rfl (lv_at hl 3 rfl) ?_
                          refine ta_get C hP 0 inlX8 rfl rfl 13 (by decide) tw_304 rfl dX8_isWord_118 ?_
                          refine lv_iload hx hb dX8_isWord_121 (lv_at hl 1 rfl) ?_
                          refine ta_iadd C (a := tn_s tx L p0) (b := 1) dX8_isWord_123 ?_
                          refine ta_iald C hP 1 rfl (i := (tn_s tx L p0) + 1) (by omega) dX8_isWord_124 ?_
                          refine lv_iload hx hb dX8_isWord_125 (lv_at hl 0 rfl) ?_
                          refine ta_cne C (a := tx ((tn_s tx L p0) + 1)) (b := 97) (tgt := 134) (by omega) (by omega) dX8_isWord_127 (by decide) (fun c25 => ?_) (fun c25 => ?_)
                          · refine ta_iconst C 0 dX8_isWord_134 (by decide) ?_
                            refine lv_goto (tgt := 148) hx hb dX8_isWord_135 (by decide) ?_
                            refine lv_istore (lv' := [(7, .int (nI 0)), (9, .int (nI 97)), (8, .int (nI 1)), (0, .ref (z 0)), (1, .int (nI 98)), (2, .int (nI 97)), (3, .int (nI 99)), (4, .int (nI 107)), (5, .int (nI 0)), (6, .int (nI 0))]) hx hb dX8_isWord_148 hl (by decide) rfl (fun ls hl => ?_)
                            refine lv_iinc (v := nI 2) (lv' := [(8, .int (nI 2)), (7, .int (nI 0)), (9, .int (nI 97)), (0, .ref (z 0)), (1, .int (nI 98)), (2, .int (nI 97)), (3, .int (nI 99)), (4, .int (nI 107)), (5, .int (nI 0)), (6, .int (nI 0))]) hx hb dX8_isWord_150 hl (k := 2) rfl (by decide) (by decide) rfl (fun ls hl => ?_)
                            refine lv_goto (tgt := 32) hx hb dX8_isWord_153 (by decide) ?_
                            refine lv_iload hx hb dX8_isWord_32 (lv_at hl 0 rfl) ?_
                            refine ta_bipush C 6 dX8_isWord_34 (by decide) ?_
                            refine lv_icmp_ge (tgt := 156) hx hb dX8_isWord_36 (by decide) (fun c26 => ?_) (fun c26 => ?_)
                            · exact absurd c26 (by decide)
                            · refine lv_iload hx hb dX8_isWord_39 (lv_at hl 1 rfl) ?_
                              refine lv_if_eq (tgt := 156) hx hb dX8_isWord_41 (by decide) (fun c27 => ?_) (fun c27 => ?_)
                              · refine lv_iload hx hb dX8_isWord_156 (lv_at hl 1 rfl) ?_
                                have hnw : ¬ tk_is tx (tn_s tx L p0) (tn_e tx L p0) 5 := by
                                  intro h
                                  have h9 : tn_e tx L p0 - tn_s tx L p0 = 4 := h.1
                                  have h8 : tx (tn_s tx L p0 + 1) = 97 := h.2 1 (by decide)
                                  omega
                                exact ret _ () dX8_isWord_158 (by decide) (Or.inr ⟨hnw, rfl⟩) hP hD hS
                              · exact absurd c27 (by decide)
                          · refine ta_iconst C 1 dX8_isWord_130 (by decide) ?_
                            refine lv_goto (tgt := 148) hx hb dX8_isWord_131 (by decide) ?_
                            refine lv_istore (lv' := [(7, .int (nI 1)), (9, .int (nI 97)), (8, .int (nI 1)), (0, .ref (z 0)), (1, .int (nI 98)), (2, .int (nI 97)), (3, .int (nI 99)), (4, .int (nI 107)), (5, .int (nI 0)), (6, .int (nI 0))]) hx hb dX8_isWord_148 hl (by decide) rfl (fun ls hl => ?_)
                            refine lv_iinc (v := nI 2) (lv' := [(8, .int (nI 2)), (7, .int (nI 1)), (9, .int (nI 97)), (0, .ref (z 0)), (1, .int (nI 98)), (2, .int (nI 97)), (3, .int (nI 99)), (4, .int (nI 107)), (5, .int (nI 0)), (6, .int (nI 0))]) hx hb dX8_isWord_150 hl (k := 2) rfl (by decide) (by decide) rfl (fun ls hl => ?_)
                            refine lv_goto (tgt := 32) hx hb dX8_isWord_153 (by decide) ?_
                            refine lv_iload hx hb dX8_isWord_32 (lv_at hl 0 rfl) ?_
                            refine ta_bipush C 6 dX8_isWord_34 (by decide) ?_
                            refine lv_icmp_ge (tgt := 156) hx hb dX8_isWord_36 (by decide) (fun c28 => ?_) (fun c28 => ?_)
                            · exact absurd c28 (by decide)
                            · refine lv_iload hx hb dX8_isWord_39 (lv_at hl 1 rfl) ?_
                              refine lv_if_eq (tgt := 156) hx hb dX8_isWord_41 (by decide) (fun c29 => ?_) (fun c29 => ?_)
                              · exact absurd c29 (by decide)
                              · refine lv_iload hx hb dX8_isWord_44 (lv_at hl 0 rfl) ?_
                                refine lv_if_ne (tgt := 53) hx hb dX8_isWord_46 (by decide) (fun c30 => ?_) (fun c30 => ?_)
                                · refine lv_iload hx hb dX8_isWord_53 (lv_at hl 0 rfl) ?_
                                  refine ta_iconst C 1 dX8_isWord_55 (by decide) ?_
                                  refine lv_icmp_ne (tgt := 63) hx hb dX8_isWord_56 (by decide) (fun c31 => ?_) (fun c31 => ?_)
                                  · refine lv_iload hx hb dX8_isWord_63 (lv_at hl 0 rfl) ?_
                                    refine ta_iconst C 2 dX8_isWord_65 (by decide) ?_
                                    refine lv_icmp_ne (tgt := 73) hx hb dX8_isWord_66 (by decide) (fun c32 => ?_) (fun c32 => ?_)
                                    · exact absurd c32 (by decide)
                                    · refine lv_iload_n hx hb dX8_isWord_69 rfl (lv_at hl 6 rfl) ?_
                                      refine lv_goto (tgt := 97) hx hb dX8_isWord_70 (by decide) ?_
                                      refine lv_istore (lv' := [(9, .int (nI 99)), (8, .int (nI 2)), (7, .int (nI 1)), (0, .ref (z 0)), (1, .int (nI 98)), (2, .int (nI 97)), (3, .int (nI 99)), (4, .int (nI 107)), (5, .int (nI 0)), (6, .int (nI 0))]) hx hb dX8_isWord_97 hl (by decide) rfl (fun ls hl => ?_)
                                      refine lv_aload_n hx hb dX8_isWord_99 rfl (lv_at hl 3 rfl) ?_
                                      refine ta_get C hP 0 inlX8 rfl rfl 13 (by decide) tw_304 rfl dX8_isWord_100 ?_
                                      refine lv_iload hx hb dX8_isWord_103 (lv_at hl 1 rfl) ?_
                                      refine ta_iadd C (a := tn_s tx L p0) (b := 2) dX8_isWord_105 ?_
                                      refine lv_aload_n hx hb dX8_isWord_106 rfl (lv_at hl 3 rfl) ?_
                                      refine ta_get C hP 0 inlX8 rfl rfl 11 (by decide) tw_309 rfl dX8_isWord_107 ?_
                                      refine ta_cge C (a := (tn_s tx L p0) + 2) (b := tn_e tx L p0) (tgt := 138) (by omega) (by omega) dX8_isWord_110 (by decide) (fun c33 => ?_) (fun c33 => ?_)
                                      · refine lv_iload hx hb dX8_isWord_138 (lv_at hl 0 rfl) ?_
                                        refine lv_if_ne (tgt := 147) hx hb dX8_isWord_140 (by decide) (fun c34 => ?_) (fun c34 => ?_)
                                        · refine ta_iconst C 0 dX8_isWord_147 (by decide) ?_
                                          refine lv_istore (lv' := [(7, .int (nI 0)), (9, .int (nI 99)), (8, .int (nI 2)), (0, .ref (z 0)), (1, .int (nI 98)), (2, .int (nI 97)), (3, .int (nI 99)), (4, .int (nI 107)), (5, .int (nI 0)), (6, .int (nI 0))]) hx hb dX8_isWord_148 hl (by decide) rfl (fun ls hl => ?_)
                                          refine lv_iinc (v := nI 3) (lv' := [(8, .int (nI 3)), (7, .int (nI 0)), (9, .int (nI 99)), (0, .ref (z 0)), (1, .int (nI 98)), (2, .int (nI 97)), (3, .int (nI 99)), (4, .int (nI 107)), (5, .int (nI 0)), (6, .int (nI 0))]) hx hb dX8_isWord_150 hl (k := 2) rfl (by decide) (by decide) rfl (fun ls hl => ?_)
                                          refine lv_goto (tgt := 32) hx hb dX8_isWord_153 (by decide) ?_
                                          refine lv_iload hx hb dX8_isWord_32 (lv_at hl 0 rfl) ?_
                                          refine ta_bipush C 6 dX8_isWord_34 (by decide) ?_
                                          refine lv_icmp_ge (tgt := 156) hx hb dX8_isWord_36 (by decide) (fun c35 => ?_) (fun c35 => ?_)
                                          · exact absurd c35 (by decide)
                                          · refine lv_iload hx hb dX8_isWord_39 (lv_at hl 1 rfl) ?_
                                            refine lv_if_eq (tgt := 156) hx hb dX8_isWord_41 (by decide) (fun c36 => ?_) (fun c36 => ?_)
                                            · refine lv_iload hx hb dX8_isWord_156 (lv_at hl 1 rfl) ?_
                                              have hnw : ¬ tk_is tx (tn_s tx L p0) (tn_e tx L p0) 5 := by
                                                intro h
                                                have h9 : tn_e tx L p0 - tn_s tx L p0 = 4 := h.1
                                                have h8 : tx (tn_s tx L p0 + 2) = 99 := h.2 2 (by decide)
                                                omega
                                              exact ret _ () dX8_isWord_158 (by decide) (Or.inr ⟨hnw, rfl⟩) hP hD hS
                                            · exact absurd c36 (by decide)
                                        · exact absurd c34 (by decide)
                                      · have hr2 := hrow (tn_s tx L p0 + 2) (by omega) (by omega)
                                        refine lv_aload_n hx hb dX8_isWord_113 rfl (lv_at hl 3 rfl) ?_
                                        refine ta_get C hP 0 inlX8 rfl rfl 0 (by decide) tw_125 rfl dX8_isWord_114 ?_
                                        refine lv_aload_n hx hb dX8_isWord_117 rfl (lv_at hl 3 rfl) ?_
                                        refine ta_get C hP 0 inlX8 rfl rfl 13 (by decide) tw_304 rfl dX8_isWord_118 ?_
                                        refine lv_iload hx hb dX8_isWord_121 (lv_at hl 1 rfl) ?_
                                        refine ta_iadd C (a := tn_s tx L p0) (b := 2) dX8_isWord_123 ?_
                                        refine ta_iald C hP 1 rfl (i := (tn_s tx L p0) + 2) (by omega) dX8_isWord_124 ?_
                                        refine lv_iload hx hb dX8_isWord_125 (lv_at hl 0 rfl) ?_
                                        refine ta_cne C (a := tx ((tn_s tx L p0) + 2)) (b := 99) (tgt := 134) (by omega) (by omega) dX8_isWord_127 (by decide) (fun c37 => ?_) (fun c37 => ?_)
                                        · refine ta_iconst C 0 dX8_isWord_134 (by decide) ?_
                                          refine lv_goto (tgt := 148) hx hb dX8_isWord_135 (by decide) ?_
                                          refine lv_istore (lv' := [(7, .int (nI 0)), (9, .int (nI 99)), (8, .int (nI 2)), (0, .ref (z 0)), (1, .int (nI 98)), (2, .int (nI 97)), (3, .int (nI 99)), (4, .int (nI 107)), (5, .int (nI 0)), (6, .int (nI 0))]) hx hb dX8_isWord_148 hl (by decide) rfl (fun ls hl => ?_)
                                          refine lv_iinc (v := nI 3) (lv' := [(8, .int (nI 3)), (7, .int (nI 0)), (9, .int (nI 99)), (0, .ref (z 0)), (1, .int (nI 98)), (2, .int (nI 97)), (3, .int (nI 99)), (4, .int (nI 107)), (5, .int (nI 0)), (6, .int (nI 0))]) hx hb dX8_isWord_150 hl (k := 2) rfl (by decide) (by decide) rfl (fun ls hl => ?_)
                                          refine lv_goto (tgt := 32) hx hb dX8_isWord_153 (by decide) ?_
                                          refine lv_iload hx hb dX8_isWord_32 (lv_at hl 0 rfl) ?_
                                          refine ta_bipush C 6 dX8_isWord_34 (by decide) ?_
                                          refine lv_icmp_ge (tgt := 156) hx hb dX8_isWord_36 (by decide) (fun c38 => ?_) (fun c38 => ?_)
                                          · exact absurd c38 (by decide)
                                          · refine lv_iload hx hb dX8_isWord_39 (lv_at hl 1 rfl) ?_
                                            refine lv_if_eq (tgt := 156) hx hb dX8_isWord_41 (by decide) (fun c39 => ?_) (fun c39 => ?_)
                                            · refine lv_iload hx hb dX8_isWord_156 (lv_at hl 1 rfl) ?_
                                              have hnw : ¬ tk_is tx (tn_s tx L p0) (tn_e tx L p0) 5 := by
                                                intro h
                                                have h9 : tn_e tx L p0 - tn_s tx L p0 = 4 := h.1
                                                have h8 : tx (tn_s tx L p0 + 2) = 99 := h.2 2 (by decide)
                                                omega
                                              exact ret _ () dX8_isWord_158 (by decide) (Or.inr ⟨hnw, rfl⟩) hP hD hS
                                            · exact absurd c39 (by decide)
                                        · refine ta_iconst C 1 dX8_isWord_130 (by decide) ?_
                                          refine lv_goto (tgt := 148) hx hb dX8_isWord_131 (by decide) ?_
                                          refine lv_istore (lv' := [(7, .int (nI 1)), (9, .int (nI 99)), (8, .int (nI 2)), (0, .ref (z 0)), (1, .int (nI 98)), (2, .int (nI 97)), (3, .int (nI 99)), (4, .int (nI 107)), (5, .int (nI 0)), (6, .int (nI 0))]) hx hb dX8_isWord_148 hl (by decide) rfl (fun ls hl => ?_)
                                          refine lv_iinc (v := nI 3) (lv' := [(8, .int (nI 3)), (7, .int (nI 1)), (9, .int (nI 99)), (0, .ref (z 0)), (1, .int (nI 98)), (2, .int (nI 97)), (3, .int (nI 99)), (4, .int (nI 107)), (5, .int (nI 0)), (6, .int (nI 0))]) hx hb dX8_isWord_150 hl (k := 2) rfl (by decide) (by decide) rfl (fun ls hl => ?_)
                                          refine lv_goto (tgt := 32) hx hb dX8_isWord_153 (by decide) ?_
                                          refine lv_iload hx hb dX8_isWord_32 (lv_at hl 0 rfl) ?_
                                          refine ta_bipush C 6 dX8_isWord_34 (by decide) ?_
                                          refine lv_icmp_ge (tgt := 156) hx hb dX8_isWord_36 (by decide) (fun c40 => ?_) (fun c40 => ?_)
                                          · exact absurd c40 (by decide)
                                          · refine lv_iload hx hb dX8_isWord_39 (lv_at hl 1 rfl) ?_
                                            refine lv_if_eq (tgt := 156) hx hb dX8_isWord_41 (by decide) (fun c41 => ?_) (fun c41 => ?_)
                                            · exact absurd c41 (by decide)
                                            · refine lv_iload hx hb dX8_isWord_44 (lv_at hl 0 rfl) ?_
                                              refine lv_if_ne (tgt := 53) hx hb dX8_isWord_46 (by decide) (fun c42 => ?_) (fun c42 => ?_)
                                              · refine lv_iload hx hb dX8_isWord_53 (lv_at hl 0 rfl) ?_
                                                refine ta_iconst C 1 dX8_isWord_55 (by decide) ?_
                                                refine lv_icmp_ne (tgt := 63) hx hb dX8_isWord_56 (by decide) (fun c43 => ?_) (fun c43 => ?_)
                                                · refine lv_iload hx hb dX8_isWord_63 (lv_at hl 0 rfl) ?_
                                                  refine ta_iconst C 2 dX8_isWord_65 (by decide) ?_
                                                  refine lv_icmp_ne (tgt := 73) hx hb dX8_isWord_66 (by decide) (fun c44 => ?_) (fun c44 => ?_)
                                                  · refine lv_iload hx hb dX8_isWord_73 (lv_at hl 0 rfl) ?_
                                                    refine ta_iconst C 3 dX8_isWord_75 (by decide) ?_
                                                    refine lv_icmp_ne (tgt := 84) hx hb dX8_isWord_76 (by decide) (fun c45 => ?_) (fun c45 => ?_)
                                                    · exact absurd c45 (by decide)
                                                    · refine lv_iload hx hb dX8_isWord_79 (lv_at hl 7 rfl) ?_
                                                      refine lv_goto (tgt := 97) hx hb dX8_isWord_81 (by decide) ?_
                                                      refine lv_istore (lv' := [(9, .int (nI 107)), (8, .int (nI 3)), (7, .int (nI 1)), (0, .ref (z 0)), (1, .int (nI 98)), (2, .int (nI 97)), (3, .int (nI 99)), (4, .int (nI 107)), (5, .int (nI 0)), (6, .int (nI 0))]) hx hb dX8_isWord_97 hl (by decide) rfl (fun ls hl => ?_)
                                                      refine lv_aload_n hx hb dX8_isWord_99 rfl (lv_at hl 3 rfl) ?_
                                                      refine ta_get C hP 0 inlX8 rfl rfl 13 (by decide) tw_304 rfl dX8_isWord_100 ?_
                                                      refine lv_iload hx hb dX8_isWord_103 (lv_at hl 1 rfl) ?_
                                                      refine ta_iadd C (a := tn_s tx L p0) (b := 3) dX8_isWord_105 ?_
                                                      refine lv_aload_n hx hb dX8_isWord_106 rfl (lv_at hl 3 rfl) ?_
                                                      refine ta_get C hP 0 inlX8 rfl rfl 11 (by decide) tw_309 rfl dX8_isWord_107 ?_
                                                      refine ta_cge C (a := (tn_s tx L p0) + 3) (b := tn_e tx L p0) (tgt := 138) (by omega) (by omega) dX8_isWord_110 (by decide) (fun c46 => ?_) (fun c46 => ?_)
                                                      · refine lv_iload hx hb dX8_isWord_138 (lv_at hl 0 rfl) ?_
                                                        refine lv_if_ne (tgt := 147) hx hb dX8_isWord_140 (by decide) (fun c47 => ?_) (fun c47 => ?_)
                                                        · refine ta_iconst C 0 dX8_isWord_147 (by decide) ?_
                                                          refine lv_istore (lv' := [(7, .int (nI 0)), (9, .int (nI 107)), (8, .int (nI 3)), (0, .ref (z 0)), (1, .int (nI 98)), (2, .int (nI 97)), (3, .int (nI 99)), (4, .int (nI 107)), (5, .int (nI 0)), (6, .int (nI 0))]) hx hb dX8_isWord_148 hl (by decide) rfl (fun ls hl => ?_)
                                                          refine lv_iinc (v := nI 4) (lv' := [(8, .int (nI 4)), (7, .int (nI 0)), (9, .int (nI 107)), (0, .ref (z 0)), (1, .int (nI 98)), (2, .int (nI 97)), (3, .int (nI 99)), (4, .int (nI 107)), (5, .int (nI 0)), (6, .int (nI 0))]) hx hb dX8_isWord_150 hl (k := 2) rfl (by decide) (by decide) rfl (fun ls hl => ?_)
                                                          refine lv_goto (tgt := 32) hx hb dX8_isWord_153 (by decide) ?_
                                                          refine lv_iload hx hb dX8_isWord_32 (lv_at hl 0 rfl) ?_
                                                          refine ta_bipush C 6 dX8_isWord_34 (by decide) ?_
                                                          refine lv_icmp_ge (tgt := 156) hx hb dX8_isWord_36 (by decide) (fun c48 => ?_) (fun c48 => ?_)
                                                          · exact absurd c48 (by decide)
                                                          · refine lv_iload hx hb dX8_isWord_39 (lv_at hl 1 rfl) ?_
                                                            refine lv_if_eq (tgt := 156) hx hb dX8_isWord_41 (by decide) (fun c49 => ?_) (fun c49 => ?_)
                                                            · refine lv_iload hx hb dX8_isWord_156 (lv_at hl 1 rfl) ?_
                                                              have hnw : ¬ tk_is tx (tn_s tx L p0) (tn_e tx L p0) 5 := by
                                                                intro h
                                                                have h9 : tn_e tx L p0 - tn_s tx L p0 = 4 := h.1
                                                                have h8 : tx (tn_s tx L p0 + 3) = 107 := h.2 3 (by decide)
                                                                omega
                                                              exact ret _ () dX8_isWord_158 (by decide) (Or.inr ⟨hnw, rfl⟩) hP hD hS
                                                            · exact absurd c49 (by decide)
                                                        · exact absurd c47 (by decide)
                                                      · have hr3 := hrow (tn_s tx L p0 + 3) (by omega) (by omega)
                                                        refine lv_aload_n hx hb dX8_isWord_113 rfl (lv_at hl 3 rfl) ?_
                                                        refine ta_get C hP 0 inlX8 rfl rfl 0 (by decide) tw_125 rfl dX8_isWord_114 ?_
                                                        refine lv_aload_n hx hb dX8_isWord_117 rfl (lv_at hl 3 rfl) ?_
                                                        refine ta_get C hP 0 inlX8 rfl rfl 13 (by decide) tw_304 rfl dX8_isWord_118 ?_
                                                        refine lv_iload hx hb dX8_isWord_121 (lv_at hl 1 rfl) ?_
                                                        refine ta_iadd C (a := tn_s tx L p0) (b := 3) dX8_isWord_123 ?_
                                                        refine ta_iald C hP 1 rfl (i := (tn_s tx L p0) + 3) (by omega) dX8_isWord_124 ?_
                                                        refine lv_iload hx hb dX8_isWord_125 (lv_at hl 0 rfl) ?_
                                                        refine ta_cne C (a := tx ((tn_s tx L p0) + 3)) (b := 107) (tgt := 134) (by omega) (by omega) dX8_isWord_127 (by decide) (fun c50 => ?_) (fun c50 => ?_)
                                                        · refine ta_iconst C 0 dX8_isWord_134 (by decide) ?_
                                                          refine lv_goto (tgt := 148) hx hb dX8_isWord_135 (by decide) ?_
                                                          refine lv_istore (lv' := [(7, .int (nI 0)), (9, .int (nI 107)), (8, .int (nI 3)), (0, .ref (z 0)), (1, .int (nI 98)), (2, .int (nI 97)), (3, .int (nI 99)), (4, .int (nI 107)), (5, .int (nI 0)), (6, .int (nI 0))]) hx hb dX8_isWord_148 hl (by decide) rfl (fun ls hl => ?_)
                                                          refine lv_iinc (v := nI 4) (lv' := [(8, .int (nI 4)), (7, .int (nI 0)), (9, .int (nI 107)), (0, .ref (z 0)), (1, .int (nI 98)), (2, .int (nI 97)), (3, .int (nI 99)), (4, .int (nI 107)), (5, .int (nI 0)), (6, .int (nI 0))]) hx hb dX8_isWord_150 hl (k := 2) rfl (by decide) (by decide) rfl (fun ls hl => ?_)
                                                          refine lv_goto (tgt := 32) hx hb dX8_isWord_153 (by decide) ?_
                                                          refine lv_iload hx hb dX8_isWord_32 (lv_at hl 0 rfl) ?_
                                                          refine ta_bipush C 6 dX8_isWord_34 (by decide) ?_
                                                          refine lv_icmp_ge (tgt := 156) hx hb dX8_isWord_36 (by decide) (fun c51 => ?_) (fun c51 => ?_)
                                                          · exact absurd c51 (by decide)
                                                          · refine lv_iload hx hb dX8_isWord_39 (lv_at hl 1 rfl) ?_
                                                            refine lv_if_eq (tgt := 156) hx hb dX8_isWord_41 (by decide) (fun c52 => ?_) (fun c52 => ?_)
                                                            · refine lv_iload hx hb dX8_isWord_156 (lv_at hl 1 rfl) ?_
                                                              have hnw : ¬ tk_is tx (tn_s tx L p0) (tn_e tx L p0) 5 := by
                                                                intro h
                                                                have h9 : tn_e tx L p0 - tn_s tx L p0 = 4 := h.1
                                                                have h8 : tx (tn_s tx L p0 + 3) = 107 := h.2 3 (by decide)
                                                                omega
                                                              exact ret _ () dX8_isWord_158 (by decide) (Or.inr ⟨hnw, rfl⟩) hP hD hS
                                                            · exact absurd c52 (by decide)
                                                        · refine ta_iconst C 1 dX8_isWord_130 (by decide) ?_
                                                          refine lv_goto (tgt := 148) hx hb dX8_isWord_131 (by decide) ?_
                                                          refine lv_istore (lv' := [(7, .int (nI 1)), (9, .int (nI 107)), (8, .int (nI 3)), (0, .ref (z 0)), (1, .int (nI 98)), (2, .int (nI 97)), (3, .int (nI 99)), (4, .int (nI 107)), (5, .int (nI 0)), (6, .int (nI 0))]) hx hb dX8_isWord_148 hl (by decide) rfl (fun ls hl => ?_)
                                                          refine lv_iinc (v := nI 4) (lv' := [(8, .int (nI 4)), (7, .int (nI 1)), (9, .int (nI 107)), (0, .ref (z 0)), (1, .int (nI 98)), (2, .int (nI 97)), (3, .int (nI 99)), (4, .int (nI 107)), (5, .int (nI 0)), (6, .int (nI 0))]) hx hb dX8_isWord_150 hl (k := 2) rfl (by decide) (by decide) rfl (fun ls hl => ?_)
                                                          refine lv_goto (tgt := 32) hx hb dX8_isWord_153 (by decide) ?_
                                                          refine lv_iload hx hb dX8_isWord_32 (lv_at hl 0 rfl) ?_
                                                          refine ta_bipush C 6 dX8_isWord_34 (by decide) ?_
                                                          refine lv_icmp_ge (tgt := 156) hx hb dX8_isWord_36 (by decide) (fun c53 => ?_) (fun c53 => ?_)
                                                          · exact absurd c53 (by decide)
                                                          · refine lv_iload hx hb dX8_isWord_39 (lv_at hl 1 rfl) ?_
                                                            refine lv_if_eq (tgt := 156) hx hb dX8_isWord_41 (by decide) (fun c54 => ?_) (fun c54 => ?_)
                                                            · exact absurd c54 (by decide)
                                                            · refine lv_iload hx hb dX8_isWord_44 (lv_at hl 0 rfl) ?_
                                                              refine lv_if_ne (tgt := 53) hx hb dX8_isWord_46 (by decide) (fun c55 => ?_) (fun c55 => ?_)
                                                              · refine lv_iload hx hb dX8_isWord_53 (lv_at hl 0 rfl) ?_
                                                                refine ta_iconst C 1 dX8_isWord_55 (by decide) ?_
                                                                refine lv_icmp_ne (tgt := 63) hx hb dX8_isWord_56 (by decide) (fun c56 => ?_) (fun c56 => ?_)
                                                                · refine lv_iload hx hb dX8_isWord_63 (lv_at hl 0 rfl) ?_
                                                                  refine ta_iconst C 2 dX8_isWord_65 (by decide) ?_
                                                                  refine lv_icmp_ne (tgt := 73) hx hb dX8_isWord_66 (by decide) (fun c57 => ?_) (fun c57 => ?_)
                                                                  · refine lv_iload hx hb dX8_isWord_73 (lv_at hl 0 rfl) ?_
                                                                    refine ta_iconst C 3 dX8_isWord_75 (by decide) ?_
                                                                    refine lv_icmp_ne (tgt := 84) hx hb dX8_isWord_76 (by decide) (fun c58 => ?_) (fun c58 => ?_)
                                                                    · refine lv_iload hx hb dX8_isWord_84 (lv_at hl 0 rfl) ?_
                                                                      refine ta_iconst C 4 dX8_isWord_86 (by decide) ?_
                                                                      refine lv_icmp_ne (tgt := 95) hx hb dX8_isWord_87 (by decide) (fun c59 => ?_) (fun c59 => ?_)
                                                                      · exact absurd c59 (by decide)
                                                                      · refine lv_iload hx hb dX8_isWord_90 (lv_at hl 8 rfl) ?_
                                                                        refine lv_goto (tgt := 97) hx hb dX8_isWord_92 (by decide) ?_
                                                                        refine lv_istore (lv' := [(9, .int (nI 0)), (8, .int (nI 4)), (7, .int (nI 1)), (0, .ref (z 0)), (1, .int (nI 98)), (2, .int (nI 97)), (3, .int (nI 99)), (4, .int (nI 107)), (5, .int (nI 0)), (6, .int (nI 0))]) hx hb dX8_isWord_97 hl (by decide) rfl (fun ls hl => ?_)
                                                                        refine lv_aload_n hx hb dX8_isWord_99 rfl (lv_at hl 3 rfl) ?_
                                                                        refine ta_get C hP 0 inlX8 rfl rfl 13 (by decide) tw_304 rfl dX8_isWord_100 ?_
                                                                        refine lv_iload hx hb dX8_isWord_103 (lv_at hl 1 rfl) ?_
                                                                        refine ta_iadd C (a := tn_s tx L p0) (b := 4) dX8_isWord_105 ?_
                                                                        refine lv_aload_n hx hb dX8_isWord_106 rfl (lv_at hl 3 rfl) ?_
                                                                        refine ta_get C hP 0 inlX8 rfl rfl 11 (by decide) tw_309 rfl dX8_isWord_107 ?_
                                                                        refine ta_cge C (a := (tn_s tx L p0) + 4) (b := tn_e tx L p0) (tgt := 138) (by omega) (by omega) dX8_isWord_110 (by decide) (fun c60 => ?_) (fun c60 => ?_)
                                                                        · refine lv_iload hx hb dX8_isWord_138 (lv_at hl 0 rfl) ?_
                                                                          refine lv_if_ne (tgt := 147) hx hb dX8_isWord_140 (by decide) (fun c61 => ?_) (fun c61 => ?_)
                                                                          · exact absurd c61 (by decide)
                                                                          · refine ta_iconst C 1 dX8_isWord_143 (by decide) ?_
                                                                            refine lv_goto (tgt := 148) hx hb dX8_isWord_144 (by decide) ?_
                                                                            refine lv_istore (lv' := [(7, .int (nI 1)), (9, .int (nI 0)), (8, .int (nI 4)), (0, .ref (z 0)), (1, .int (nI 98)), (2, .int (nI 97)), (3, .int (nI 99)), (4, .int (nI 107)), (5, .int (nI 0)), (6, .int (nI 0))]) hx hb dX8_isWord_148 hl (by decide) rfl (fun ls hl => ?_)
                                                                            refine lv_iinc (v := nI 5) (lv' := [(8, .int (nI 5)), (7, .int (nI 1)), (9, .int (nI 0)), (0, .ref (z 0)), (1, .int (nI 98)), (2, .int (nI 97)), (3, .int (nI 99)), (4, .int (nI 107)), (5, .int (nI 0)), (6, .int (nI 0))]) hx hb dX8_isWord_150 hl (k := 2) rfl (by decide) (by decide) rfl (fun ls hl => ?_)
                                                                            refine lv_goto (tgt := 32) hx hb dX8_isWord_153 (by decide) ?_
                                                                            refine lv_iload hx hb dX8_isWord_32 (lv_at hl 0 rfl) ?_
                                                                            refine ta_bipush C 6 dX8_isWord_34 (by decide) ?_
                                                                            refine lv_icmp_ge (tgt := 156) hx hb dX8_isWord_36 (by decide) (fun c62 => ?_) (fun c62 => ?_)
                                                                            · exact absurd c62 (by decide)
                                                                            · refine lv_iload hx hb dX8_isWord_39 (lv_at hl 1 rfl) ?_
                                                                              refine lv_if_eq (tgt := 156) hx hb dX8_isWord_41 (by decide) (fun c63 => ?_) (fun c63 => ?_)
                                                                              · exact absurd c63 (by decide)
                                                                              · refine lv_iload hx hb dX8_isWord_44 (lv_at hl 0 rfl) ?_
                                                                                refine lv_if_ne (tgt := 53) hx hb dX8_isWord_46 (by decide) (fun c64 => ?_) (fun c64 => ?_)
                                                                                · refine lv_iload hx hb dX8_isWord_53 (lv_at hl 0 rfl) ?_
                                                                                  refine ta_iconst C 1 dX8_isWord_55 (by decide) ?_
                                                                                  refine lv_icmp_ne (tgt := 63) hx hb dX8_isWord_56 (by decide) (fun c65 => ?_) (fun c65 => ?_)
                                                                                  · refine lv_iload hx hb dX8_isWord_63 (lv_at hl 0 rfl) ?_
                                                                                    refine ta_iconst C 2 dX8_isWord_65 (by decide) ?_
                                                                                    refine lv_icmp_ne (tgt := 73) hx hb dX8_isWord_66 (by decide) (fun c66 => ?_) (fun c66 => ?_)
                                                                                    · refine lv_iload hx hb dX8_isWord_73 (lv_at hl 0 rfl) ?_
                                                                                      refine ta_iconst C 3 dX8_isWord_75 (by decide) ?_
                                                                                      refine lv_icmp_ne (tgt := 84) hx hb dX8_isWord_76 (by decide) (fun c67 => ?_) (fun c67 => ?_)
                                                                                      · refine lv_iload hx hb dX8_isWord_84 (lv_at hl 0 rfl) ?_
                                                                                        refine ta_iconst C 4 dX8_isWord_86 (by decide) ?_
                                                                                        refine lv_icmp_ne (tgt := 95) hx hb dX8_isWord_87 (by decide) (fun c68 => ?_) (fun c68 => ?_)
                                                                                        · refine lv_iload hx hb dX8_isWord_95 (lv_at hl 9 rfl) ?_
                                                                                          refine lv_istore (lv' := [(9, .int (nI 0)), (8, .int (nI 5)), (7, .int (nI 1)), (0, .ref (z 0)), (1, .int (nI 98)), (2, .int (nI 97)), (3, .int (nI 99)), (4, .int (nI 107)), (5, .int (nI 0)), (6, .int (nI 0))]) hx hb dX8_isWord_97 hl (by decide) rfl (fun ls hl => ?_)
                                                                                          refine lv_aload_n hx hb dX8_isWord_99 rfl (lv_at hl 3 rfl) ?_
                                                                                          refine ta_get C hP 0 inlX8 rfl rfl 13 (by decide) tw_304 rfl dX8_isWord_100 ?_
                                                                                          refine lv_iload hx hb dX8_isWord_103 (lv_at hl 1 rfl) ?_
                                                                                          refine ta_iadd C (a := tn_s tx L p0) (b := 5) dX8_isWord_105 ?_
                                                                                          refine lv_aload_n hx hb dX8_isWord_106 rfl (lv_at hl 3 rfl) ?_
                                                                                          refine ta_get C hP 0 inlX8 rfl rfl 11 (by decide) tw_309 rfl dX8_isWord_107 ?_
                                                                                          refine ta_cge C (a := (tn_s tx L p0) + 5) (b := tn_e tx L p0) (tgt := 138) (by omega) (by omega) dX8_isWord_110 (by decide) (fun c69 => ?_) (fun c69 => ?_)
                                                                                          · refine lv_iload hx hb dX8_isWord_138 (lv_at hl 0 rfl) ?_
                                                                                            refine lv_if_ne (tgt := 147) hx hb dX8_isWord_140 (by decide) (fun c70 => ?_) (fun c70 => ?_)
                                                                                            · exact absurd c70 (by decide)
                                                                                            · refine ta_iconst C 1 dX8_isWord_143 (by decide) ?_
                                                                                              refine lv_goto (tgt := 148) hx hb dX8_isWord_144 (by decide) ?_
                                                                                              refine lv_istore (lv' := [(7, .int (nI 1)), (9, .int (nI 0)), (8, .int (nI 5)), (0, .ref (z 0)), (1, .int (nI 98)), (2, .int (nI 97)), (3, .int (nI 99)), (4, .int (nI 107)), (5, .int (nI 0)), (6, .int (nI 0))]) hx hb dX8_isWord_148 hl (by decide) rfl (fun ls hl => ?_)
                                                                                              refine lv_iinc (v := nI 6) (lv' := [(8, .int (nI 6)), (7, .int (nI 1)), (9, .int (nI 0)), (0, .ref (z 0)), (1, .int (nI 98)), (2, .int (nI 97)), (3, .int (nI 99)), (4, .int (nI 107)), (5, .int (nI 0)), (6, .int (nI 0))]) hx hb dX8_isWord_150 hl (k := 2) rfl (by decide) (by decide) rfl (fun ls hl => ?_)
                                                                                              refine lv_goto (tgt := 32) hx hb dX8_isWord_153 (by decide) ?_
                                                                                              refine lv_iload hx hb dX8_isWord_32 (lv_at hl 0 rfl) ?_
                                                                                              refine ta_bipush C 6 dX8_isWord_34 (by decide) ?_
                                                                                              refine lv_icmp_ge (tgt := 156) hx hb dX8_isWord_36 (by decide) (fun c71 => ?_) (fun c71 => ?_)
                                                                                              · refine lv_iload hx hb dX8_isWord_156 (lv_at hl 1 rfl) ?_
                                                                                                have hw : tk_is tx (tn_s tx L p0) (tn_e tx L p0) 5 := by
                                                                                                  refine ⟨show tn_e tx L p0 - tn_s tx L p0 = 4 by omega, fun j hj => ?_⟩
                                                                                                  have hj : j < 4 := hj
                                                                                                  rcases (show j = 0 ∨ j = 1 ∨ j = 2 ∨ j = 3 by omega) with rfl | rfl | rfl | rfl
                                                                                                  · show tx (tn_s tx L p0 + 0) = 98; omega
                                                                                                  · show tx (tn_s tx L p0 + 1) = 97; omega
                                                                                                  · show tx (tn_s tx L p0 + 2) = 99; omega
                                                                                                  · show tx (tn_s tx L p0 + 3) = 107; omega
                                                                                                exact ret _ () dX8_isWord_158 (by decide) (Or.inl ⟨hw, rfl⟩) hP hD hS
                                                                                              · exact absurd c71 (by decide)
                                                                                          · have hr5 := hrow (tn_s tx L p0 + 5) (by omega) (by omega)
                                                                                            refine lv_aload_n hx hb dX8_isWord_113 rfl (lv_at hl 3 rfl) ?_
                                                                                            refine ta_get C hP 0 inlX8 rfl rfl 0 (by decide) tw_125 rfl dX8_isWord_114 ?_
                                                                                            refine lv_aload_n hx hb dX8_isWord_117 rfl (lv_at hl 3 rfl) ?_
                                                                                            refine ta_get C hP 0 inlX8 rfl rfl 13 (by decide) tw_304 rfl dX8_isWord_118 ?_
                                                                                            refine lv_iload hx hb dX8_isWord_121 (lv_at hl 1 rfl) ?_
                                                                                            refine ta_iadd C (a := tn_s tx L p0) (b := 5) dX8_isWord_123 ?_
                                                                                            refine ta_iald C hP 1 rfl (i := (tn_s tx L p0) + 5) (by omega) dX8_isWord_124 ?_
                                                                                            refine lv_iload hx hb dX8_isWord_125 (lv_at hl 0 rfl) ?_
                                                                                            refine ta_cne C (a := tx ((tn_s tx L p0) + 5)) (b := 0) (tgt := 134) (by omega) (by omega) dX8_isWord_127 (by decide) (fun c72 => ?_) (fun c72 => ?_)
                                                                                            · refine ta_iconst C 0 dX8_isWord_134 (by decide) ?_
                                                                                              refine lv_goto (tgt := 148) hx hb dX8_isWord_135 (by decide) ?_
                                                                                              refine lv_istore (lv' := [(7, .int (nI 0)), (9, .int (nI 0)), (8, .int (nI 5)), (0, .ref (z 0)), (1, .int (nI 98)), (2, .int (nI 97)), (3, .int (nI 99)), (4, .int (nI 107)), (5, .int (nI 0)), (6, .int (nI 0))]) hx hb dX8_isWord_148 hl (by decide) rfl (fun ls hl => ?_)
                                                                                              refine lv_iinc (v := nI 6) (lv' := [(8, .int (nI 6)), (7, .int (nI 0)), (9, .int (nI 0)), (0, .ref (z 0)), (1, .int (nI 98)), (2, .int (nI 97)), (3, .int (nI 99)), (4, .int (nI 107)), (5, .int (nI 0)), (6, .int (nI 0))]) hx hb dX8_isWord_150 hl (k := 2) rfl (by decide) (by decide) rfl (fun ls hl => ?_)
                                                                                              refine lv_goto (tgt := 32) hx hb dX8_isWord_153 (by decide) ?_
                                                                                              refine lv_iload hx hb dX8_isWord_32 (lv_at hl 0 rfl) ?_
                                                                                              refine ta_bipush C 6 dX8_isWord_34 (by decide) ?_
                                                                                              refine lv_icmp_ge (tgt := 156) hx hb dX8_isWord_36 (by decide) (fun c73 => ?_) (fun c73 => ?_)
                                                                                              · refine lv_iload hx hb dX8_isWord_156 (lv_at hl 1 rfl) ?_
                                                                                                have hnw : ¬ tk_is tx (tn_s tx L p0) (tn_e tx L p0) 5 := by
                                                                                                  intro h
                                                                                                  have h9 : tn_e tx L p0 - tn_s tx L p0 = 4 := h.1
                                                                                                  omega
                                                                                                exact ret _ () dX8_isWord_158 (by decide) (Or.inr ⟨hnw, rfl⟩) hP hD hS
                                                                                              · exact absurd c73 (by decide)
                                                                                            · exfalso; omega
                                                                                        · exact absurd c68 (by decide)
                                                                                      · exact absurd c67 (by decide)
                                                                                    · exact absurd c66 (by decide)
                                                                                  · exact absurd c65 (by decide)
                                                                                · exact absurd c64 (by decide)
                                                                        · have hr4 := hrow (tn_s tx L p0 + 4) (by omega) (by omega)
                                                                          refine lv_aload_n hx hb dX8_isWord_113 rfl (lv_at hl 3 rfl) ?_
                                                                          refine ta_get C hP 0 inlX8 rfl rfl 0 (by decide) tw_125 rfl dX8_isWord_114 ?_
                                                                          refine lv_aload_n hx hb dX8_isWord_117 rfl (lv_at hl 3 rfl) ?_
                                                                          refine ta_get C hP 0 inlX8 rfl rfl 13 (by decide) tw_304 rfl dX8_isWord_118 ?_
                                                                          refine lv_iload hx hb dX8_isWord_121 (lv_at hl 1 rfl) ?_
                                                                          refine ta_iadd C (a := tn_s tx L p0) (b := 4) dX8_isWord_123 ?_
                                                                          refine ta_iald C hP 1 rfl (i := (tn_s tx L p0) + 4) (by omega) dX8_isWord_124 ?_
                                                                          refine lv_iload hx hb dX8_isWord_125 (lv_at hl 0 rfl) ?_
                                                                          refine ta_cne C (a := tx ((tn_s tx L p0) + 4)) (b := 0) (tgt := 134) (by omega) (by omega) dX8_isWord_127 (by decide) (fun c74 => ?_) (fun c74 => ?_)
                                                                          · refine ta_iconst C 0 dX8_isWord_134 (by decide) ?_
                                                                            refine lv_goto (tgt := 148) hx hb dX8_isWord_135 (by decide) ?_
                                                                            refine lv_istore (lv' := [(7, .int (nI 0)), (9, .int (nI 0)), (8, .int (nI 4)), (0, .ref (z 0)), (1, .int (nI 98)), (2, .int (nI 97)), (3, .int (nI 99)), (4, .int (nI 107)), (5, .int (nI 0)), (6, .int (nI 0))]) hx hb dX8_isWord_148 hl (by decide) rfl (fun ls hl => ?_)
                                                                            refine lv_iinc (v := nI 5) (lv' := [(8, .int (nI 5)), (7, .int (nI 0)), (9, .int (nI 0)), (0, .ref (z 0)), (1, .int (nI 98)), (2, .int (nI 97)), (3, .int (nI 99)), (4, .int (nI 107)), (5, .int (nI 0)), (6, .int (nI 0))]) hx hb dX8_isWord_150 hl (k := 2) rfl (by decide) (by decide) rfl (fun ls hl => ?_)
                                                                            refine lv_goto (tgt := 32) hx hb dX8_isWord_153 (by decide) ?_
                                                                            refine lv_iload hx hb dX8_isWord_32 (lv_at hl 0 rfl) ?_
                                                                            refine ta_bipush C 6 dX8_isWord_34 (by decide) ?_
                                                                            refine lv_icmp_ge (tgt := 156) hx hb dX8_isWord_36 (by decide) (fun c75 => ?_) (fun c75 => ?_)
                                                                            · exact absurd c75 (by decide)
                                                                            · refine lv_iload hx hb dX8_isWord_39 (lv_at hl 1 rfl) ?_
                                                                              refine lv_if_eq (tgt := 156) hx hb dX8_isWord_41 (by decide) (fun c76 => ?_) (fun c76 => ?_)
                                                                              · refine lv_iload hx hb dX8_isWord_156 (lv_at hl 1 rfl) ?_
                                                                                have hnw : ¬ tk_is tx (tn_s tx L p0) (tn_e tx L p0) 5 := by
                                                                                  intro h
                                                                                  have h9 : tn_e tx L p0 - tn_s tx L p0 = 4 := h.1
                                                                                  omega
                                                                                exact ret _ () dX8_isWord_158 (by decide) (Or.inr ⟨hnw, rfl⟩) hP hD hS
                                                                              · exact absurd c76 (by decide)
                                                                          · exfalso; omega
                                                                    · exact absurd c58 (by decide)
                                                                  · exact absurd c57 (by decide)
                                                                · exact absurd c56 (by decide)
                                                              · exact absurd c55 (by decide)
                                                  · exact absurd c44 (by decide)
                                                · exact absurd c43 (by decide)
                                              · exact absurd c42 (by decide)
                                  · exact absurd c31 (by decide)
                                · exact absurd c30 (by decide)
                    · exact absurd c19 (by decide)

set_option maxHeartbeats 4000000 in
set_option maxRecDepth 100000 in
theorem c_X8_isWord_6 (l : Launch) (D : va_G) (k : ta_C) (z : Nat → Nat) (kn : Nat) (no : Nat) (va : Nat) (L : Nat) (tx : Nat → Nat) (p0 : Nat) (hx0 : tx_ok tx L) (hp0 : p0 ≤ L) : ta_Mi (S := Unit) l D k yX8_isWord cX8_isWord 10 .boolean 0 0 [.ref (z 0), .int (nI 100), .int (nI 111), .int (nI 117), .int (nI 98), .int (nI 108), .int (nI 101)] [(z 0, .inr (8, [.ref (z 1), .int (nI L), .ref (z 2), .ref (z 3), .ref (z 4), .ref (z 5), .int (nI kn), .ref (z 6), .ref (z 7), .ref (z 8), .int (nI no), .int (nI (tn_e tx L p0)), .int (nI (mo_s tx L p0)), .int (nI (tn_s tx L p0)), .int (nI va), .ref (z 9)])), (z 1, .inl (k.1 0, 160, .inl (ta_e tx)))] (fun r _ => (tk_is tx (tn_s tx L p0) (tn_e tx L p0) 6 ∧ r = nI 1) ∨ (¬ tk_is tx (tn_s tx L p0) (tn_e tx L p0) 6 ∧ r = nI 0)) (fun u => [(z 0, .inr (8, [.ref (z 1), .int (nI L), .ref (z 2), .ref (z 3), .ref (z 4), .ref (z 5), .int (nI kn), .ref (z 6), .ref (z 7), .ref (z 8), .int (nI no), .int (nI (tn_e tx L p0)), .int (nI (mo_s tx L p0)), .int (nI (tn_s tx L p0)), .int (nI va), .ref (z 9)])), (z 1, .inl (k.1 0, 160, .inl (ta_e tx)))]) := by
  refine ta_enter_i (by decide) (Nat.le_of_ble_eq_true rfl) ?_
  intro p e s m below meth c A ls Q C ret hP hD hS hl
  have C : ta_At p l D k s m ([.ref (z 0), .int (nI 100), .int (nI 111), .int (nI 117), .int (nI 98), .int (nI 108), .int (nI 101)] : List Value).toArray c RX8 cX8_isWord 10 A := C
  have hx := C.1.1
  have hb := C.1.2.1
  have hl : lv_has ls 10 [(0, .ref (z 0)), (1, .int (nI 100)), (2, .int (nI 111)), (3, .int (nI 117)), (4, .int (nI 98)), (5, .int (nI 108)), (6, .int (nI 101))] := hl
  obtain ⟨H, hH⟩ : ∃ H, H = s.heap := ⟨_, rfl⟩
  obtain ⟨locs, hlocs⟩ : ∃ q : List Loc, q = [] := ⟨_, rfl⟩
  have hP : va_P D vwCl [(z 0, .inr (8, [.ref (z 1), .int (nI L), .ref (z 2), .ref (z 3), .ref (z 4), .ref (z 5), .int (nI kn), .ref (z 6), .ref (z 7), .ref (z 8), .int (nI no), .int (nI (tn_e tx L p0)), .int (nI (mo_s tx L p0)), .int (nI (tn_s tx L p0)), .int (nI va), .ref (z 9)])), (z 1, .inl (k.1 0, 160, .inl (ta_e tx)))] H := by rw [hH]; exact hP
  have hS : va_S A s.heap H locs := by rw [hH, hlocs]; exact hS
  rw [← hlocs]
  suffices hgoal : W p l e ({ frames := 0, cells := 0, slots := 0, locals := 0 }) s m ([.ref (z 0), .int (nI 100), .int (nI 111), .int (nI 117), .int (nI 98), .int (nI 108), .int (nI 101)] : List Value).toArray below meth c H locs 0 0 Q (F0 m 0 ls []) by rw [hH] at hgoal; exact hgoal
  clear hH hlocs
  obtain ⟨hL, hc⟩ := id hx0
  obtain ⟨b1, b2, b3, b4⟩ := tn_b (tx := tx) hp0
  have hms4 : mo_s tx L p0 < 4 := by unfold mo_s; have h4 := tx_s4 tx L (tn_s tx L p0); split <;> omega
  refine lv_aload_n hx hb dX8_isWord_0 rfl (lv_at hl 0 rfl) ?_
  refine ta_get C hP 0 inlX8 rfl rfl 12 (by decide) tw_310 rfl dX8_isWord_1 ?_
  refine ta_iconst C 1 dX8_isWord_4 (by decide) ?_
  refine ta_cne C (a := mo_s tx L p0) (b := 1) (tgt := 26) (by omega) (by omega) dX8_isWord_5 (by decide) (fun c1 => ?_) (fun c1 => ?_)
  · refine ta_iconst C 0 dX8_isWord_26 (by decide) ?_
    refine lv_istore (lv' := [(7, .int (nI 0)), (0, .ref (z 0)), (1, .int (nI 100)), (2, .int (nI 111)), (3, .int (nI 117)), (4, .int (nI 98)), (5, .int (nI 108)), (6, .int (nI 101))]) hx hb dX8_isWord_27 hl (by decide) rfl (fun ls hl => ?_)
    refine ta_iconst C 0 dX8_isWord_29 (by decide) ?_
    refine lv_istore (lv' := [(8, .int (nI 0)), (7, .int (nI 0)), (0, .ref (z 0)), (1, .int (nI 100)), (2, .int (nI 111)), (3, .int (nI 117)), (4, .int (nI 98)), (5, .int (nI 108)), (6, .int (nI 101))]) hx hb dX8_isWord_30 hl (by decide) rfl (fun ls hl => ?_)
    refine lv_iload hx hb dX8_isWord_32 (lv_at hl 0 rfl) ?_
    refine ta_bipush C 6 dX8_isWord_34 (by decide) ?_
    refine lv_icmp_ge (tgt := 156) hx hb dX8_isWord_36 (by decide) (fun c2 => ?_) (fun c2 => ?_)
    · exact absurd c2 (by decide)
    · refine lv_iload hx hb dX8_isWord_39 (lv_at hl 1 rfl) ?_
      refine lv_if_eq (tgt := 156) hx hb dX8_isWord_41 (by decide) (fun c3 => ?_) (fun c3 => ?_)
      · refine lv_iload hx hb dX8_isWord_156 (lv_at hl 1 rfl) ?_
        have hnw : ¬ tk_is tx (tn_s tx L p0) (tn_e tx L p0) 6 := fun h => by have h9 := mo_is1 (i := 6) (by decide) hp0 h; omega
        exact ret _ () dX8_isWord_158 (by decide) (Or.inr ⟨hnw, rfl⟩) hP hD hS
      · exact absurd c3 (by decide)
  · have hrow := mo_row c1
    refine lv_aload_n hx hb dX8_isWord_8 rfl (lv_at hl 0 rfl) ?_
    refine ta_get C hP 0 inlX8 rfl rfl 11 (by decide) tw_309 rfl dX8_isWord_9 ?_
    refine lv_aload_n hx hb dX8_isWord_12 rfl (lv_at hl 0 rfl) ?_
    refine ta_get C hP 0 inlX8 rfl rfl 13 (by decide) tw_304 rfl dX8_isWord_13 ?_
    refine ta_isub C (a := tn_e tx L p0) (b := tn_s tx L p0) (by omega) dX8_isWord_16 ?_
    refine ta_bipush C 7 dX8_isWord_17 (by decide) ?_
    refine ta_cge C (a := (tn_e tx L p0) - (tn_s tx L p0)) (b := 7) (tgt := 26) (by omega) (by omega) dX8_isWord_19 (by decide) (fun c4 => ?_) (fun c4 => ?_)
    · refine ta_iconst C 0 dX8_isWord_26 (by decide) ?_
      refine lv_istore (lv' := [(7, .int (nI 0)), (0, .ref (z 0)), (1, .int (nI 100)), (2, .int (nI 111)), (3, .int (nI 117)), (4, .int (nI 98)), (5, .int (nI 108)), (6, .int (nI 101))]) hx hb dX8_isWord_27 hl (by decide) rfl (fun ls hl => ?_)
      refine ta_iconst C 0 dX8_isWord_29 (by decide) ?_
      refine lv_istore (lv' := [(8, .int (nI 0)), (7, .int (nI 0)), (0, .ref (z 0)), (1, .int (nI 100)), (2, .int (nI 111)), (3, .int (nI 117)), (4, .int (nI 98)), (5, .int (nI 108)), (6, .int (nI 101))]) hx hb dX8_isWord_30 hl (by decide) rfl (fun ls hl => ?_)
      refine lv_iload hx hb dX8_isWord_32 (lv_at hl 0 rfl) ?_
      refine ta_bipush C 6 dX8_isWord_34 (by decide) ?_
      refine lv_icmp_ge (tgt := 156) hx hb dX8_isWord_36 (by decide) (fun c5 => ?_) (fun c5 => ?_)
      · exact absurd c5 (by decide)
      · refine lv_iload hx hb dX8_isWord_39 (lv_at hl 1 rfl) ?_
        refine lv_if_eq (tgt := 156) hx hb dX8_isWord_41 (by decide) (fun c6 => ?_) (fun c6 => ?_)
        · refine lv_iload hx hb dX8_isWord_156 (lv_at hl 1 rfl) ?_
          have hnw : ¬ tk_is tx (tn_s tx L p0) (tn_e tx L p0) 6 := fun h => by have h9 : tn_e tx L p0 - tn_s tx L p0 = 6 := h.1; omega
          exact ret _ () dX8_isWord_158 (by decide) (Or.inr ⟨hnw, rfl⟩) hP hD hS
        · exact absurd c6 (by decide)
    · refine ta_iconst C 1 dX8_isWord_22 (by decide) ?_
      refine lv_goto (tgt := 27) hx hb dX8_isWord_23 (by decide) ?_
      refine lv_istore (lv' := [(7, .int (nI 1)), (0, .ref (z 0)), (1, .int (nI 100)), (2, .int (nI 111)), (3, .int (nI 117)), (4, .int (nI 98)), (5, .int (nI 108)), (6, .int (nI 101))]) hx hb dX8_isWord_27 hl (by decide) rfl (fun ls hl => ?_)
      refine ta_iconst C 0 dX8_isWord_29 (by decide) ?_
      refine lv_istore (lv' := [(8, .int (nI 0)), (7, .int (nI 1)), (0, .ref (z 0)), (1, .int (nI 100)), (2, .int (nI 111)), (3, .int (nI 117)), (4, .int (nI 98)), (5, .int (nI 108)), (6, .int (nI 101))]) hx hb dX8_isWord_30 hl (by decide) rfl (fun ls hl => ?_)
      refine lv_iload hx hb dX8_isWord_32 (lv_at hl 0 rfl) ?_
      refine ta_bipush C 6 dX8_isWord_34 (by decide) ?_
      refine lv_icmp_ge (tgt := 156) hx hb dX8_isWord_36 (by decide) (fun c7 => ?_) (fun c7 => ?_)
      · exact absurd c7 (by decide)
      · refine lv_iload hx hb dX8_isWord_39 (lv_at hl 1 rfl) ?_
        refine lv_if_eq (tgt := 156) hx hb dX8_isWord_41 (by decide) (fun c8 => ?_) (fun c8 => ?_)
        · exact absurd c8 (by decide)
        · refine lv_iload hx hb dX8_isWord_44 (lv_at hl 0 rfl) ?_
          refine lv_if_ne (tgt := 53) hx hb dX8_isWord_46 (by decide) (fun c9 => ?_) (fun c9 => ?_)
          · exact absurd c9 (by decide)
          · refine lv_iload_n hx hb dX8_isWord_49 rfl (lv_at hl 3 rfl) ?_
            refine lv_goto (tgt := 97) hx hb dX8_isWord_50 (by decide) ?_
            refine lv_istore (lv' := [(9, .int (nI 100)), (8, .int (nI 0)), (7, .int (nI 1)), (0, .ref (z 0)), (1, .int (nI 100)), (2, .int (nI 111)), (3, .int (nI 117)), (4, .int (nI 98)), (5, .int (nI 108)), (6, .int (nI 101))]) hx hb dX8_isWord_97 hl (by decide) rfl (fun ls hl => ?_)
            refine lv_aload_n hx hb dX8_isWord_99 rfl (lv_at hl 3 rfl) ?_
            refine ta_get C hP 0 inlX8 rfl rfl 13 (by decide) tw_304 rfl dX8_isWord_100 ?_
            refine lv_iload hx hb dX8_isWord_103 (lv_at hl 1 rfl) ?_
            refine ta_iadd C (a := tn_s tx L p0) (b := 0) dX8_isWord_105 ?_
            refine lv_aload_n hx hb dX8_isWord_106 rfl (lv_at hl 3 rfl) ?_
            refine ta_get C hP 0 inlX8 rfl rfl 11 (by decide) tw_309 rfl dX8_isWord_107 ?_
            refine ta_cge C (a := (tn_s tx L p0) + 0) (b := tn_e tx L p0) (tgt := 138) (by omega) (by omega) dX8_isWord_110 (by decide) (fun c10 => ?_) (fun c10 => ?_)
            · refine lv_iload hx hb dX8_isWord_138 (lv_at hl 0 rfl) ?_
              refine lv_if_ne (tgt := 147) hx hb dX8_isWord_140 (by decide) (fun c11 => ?_) (fun c11 => ?_)
              · refine ta_iconst C 0 dX8_isWord_147 (by decide) ?_
                refine lv_istore (lv' := [(7, .int (nI 0)), (9, .int (nI 100)), (8, .int (nI 0)), (0, .ref (z 0)), (1, .int (nI 100)), (2, .int (nI 111)), (3, .int (nI 117)), (4, .int (nI 98)), (5, .int (nI 108)), (6, .int (nI 101))]) hx hb dX8_isWord_148 hl (by decide) rfl (fun ls hl => ?_)
                refine lv_iinc (v := nI 1) (lv' := [(8, .int (nI 1)), (7, .int (nI 0)), (9, .int (nI 100)), (0, .ref (z 0)), (1, .int (nI 100)), (2, .int (nI 111)), (3, .int (nI 117)), (4, .int (nI 98)), (5, .int (nI 108)), (6, .int (nI 101))]) hx hb dX8_isWord_150 hl (k := 2) rfl (by decide) (by decide) rfl (fun ls hl => ?_)
                refine lv_goto (tgt := 32) hx hb dX8_isWord_153 (by decide) ?_
                refine lv_iload hx hb dX8_isWord_32 (lv_at hl 0 rfl) ?_
                refine ta_bipush C 6 dX8_isWord_34 (by decide) ?_
                refine lv_icmp_ge (tgt := 156) hx hb dX8_isWord_36 (by decide) (fun c12 => ?_) (fun c12 => ?_)
                · exact absurd c12 (by decide)
                · refine lv_iload hx hb dX8_isWord_39 (lv_at hl 1 rfl) ?_
                  refine lv_if_eq (tgt := 156) hx hb dX8_isWord_41 (by decide) (fun c13 => ?_) (fun c13 => ?_)
                  · refine lv_iload hx hb dX8_isWord_156 (lv_at hl 1 rfl) ?_
                    have hnw : ¬ tk_is tx (tn_s tx L p0) (tn_e tx L p0) 6 := by
                      intro h
                      have h9 : tn_e tx L p0 - tn_s tx L p0 = 6 := h.1
                      have h8 : tx (tn_s tx L p0 + 0) = 100 := h.2 0 (by decide)
                      omega
                    exact ret _ () dX8_isWord_158 (by decide) (Or.inr ⟨hnw, rfl⟩) hP hD hS
                  · exact absurd c13 (by decide)
              · exact absurd c11 (by decide)
            · have hr0 := hrow (tn_s tx L p0 + 0) (by omega) (by omega)
              refine lv_aload_n hx hb dX8_isWord_113 rfl (lv_at hl 3 rfl) ?_
              refine ta_get C hP 0 inlX8 rfl rfl 0 (by decide) tw_125 rfl dX8_isWord_114 ?_
              refine lv_aload_n hx hb dX8_isWord_117 rfl (lv_at hl 3 rfl) ?_
              refine ta_get C hP 0 inlX8 rfl rfl 13 (by decide) tw_304 rfl dX8_isWord_118 ?_
              refine lv_iload hx hb dX8_isWord_121 (lv_at hl 1 rfl) ?_
              refine ta_iadd C (a := tn_s tx L p0) (b := 0) dX8_isWord_123 ?_
              refine ta_iald C hP 1 rfl (i := (tn_s tx L p0) + 0) (by omega) dX8_isWord_124 ?_
              refine lv_iload hx hb dX8_isWord_125 (lv_at hl 0 rfl) ?_
              refine ta_cne C (a := tx ((tn_s tx L p0) + 0)) (b := 100) (tgt := 134) (by omega) (by omega) dX8_isWord_127 (by decide) (fun c14 => ?_) (fun c14 => ?_)
              · refine ta_iconst C 0 dX8_isWord_134 (by decide) ?_
                refine lv_goto (tgt := 148) hx hb dX8_isWord_135 (by decide) ?_
                refine lv_istore (lv' := [(7, .int (nI 0)), (9, .int (nI 100)), (8, .int (nI 0)), (0, .ref (z 0)), (1, .int (nI 100)), (2, .int (nI 111)), (3, .int (nI 117)), (4, .int (nI 98)), (5, .int (nI 108)), (6, .int (nI 101))]) hx hb dX8_isWord_148 hl (by decide) rfl (fun ls hl => ?_)
                refine lv_iinc (v := nI 1) (lv' := [(8, .int (nI 1)), (7, .int (nI 0)), (9, .int (nI 100)), (0, .ref (z 0)), (1, .int (nI 100)), (2, .int (nI 111)), (3, .int (nI 117)), (4, .int (nI 98)), (5, .int (nI 108)), (6, .int (nI 101))]) hx hb dX8_isWord_150 hl (k := 2) rfl (by decide) (by decide) rfl (fun ls hl => ?_)
                refine lv_goto (tgt := 32) hx hb dX8_isWord_153 (by decide) ?_
                refine lv_iload hx hb dX8_isWord_32 (lv_at hl 0 rfl) ?_
                refine ta_bipush C 6 dX8_isWord_34 (by decide) ?_
                refine lv_icmp_ge (tgt := 156) hx hb dX8_isWord_36 (by decide) (fun c15 => ?_) (fun c15 => ?_)
                · exact absurd c15 (by decide)
                · refine lv_iload hx hb dX8_isWord_39 (lv_at hl 1 rfl) ?_
                  refine lv_if_eq (tgt := 156) hx hb dX8_isWord_41 (by decide) (fun c16 => ?_) (fun c16 => ?_)
                  · refine lv_iload hx hb dX8_isWord_156 (lv_at hl 1 rfl) ?_
                    have hnw : ¬ tk_is tx (tn_s tx L p0) (tn_e tx L p0) 6 := by
                      intro h
                      have h9 : tn_e tx L p0 - tn_s tx L p0 = 6 := h.1
                      have h8 : tx (tn_s tx L p0 + 0) = 100 := h.2 0 (by decide)
                      omega
                    exact ret _ () dX8_isWord_158 (by decide) (Or.inr ⟨hnw, rfl⟩) hP hD hS
                  · exact absurd c16 (by decide)
              · refine ta_iconst C 1 dX8_isWord_130 (by decide) ?_
                refine lv_goto (tgt := 148) hx hb dX8_isWord_131 (by decide) ?_
                refine lv_istore (lv' := [(7, .int (nI 1)), (9, .int (nI 100)), (8, .int (nI 0)), (0, .ref (z 0)), (1, .int (nI 100)), (2, .int (nI 111)), (3, .int (nI 117)), (4, .int (nI 98)), (5, .int (nI 108)), (6, .int (nI 101))]) hx hb dX8_isWord_148 hl (by decide) rfl (fun ls hl => ?_)
                refine lv_iinc (v := nI 1) (lv' := [(8, .int (nI 1)), (7, .int (nI 1)), (9, .int (nI 100)), (0, .ref (z 0)), (1, .int (nI 100)), (2, .int (nI 111)), (3, .int (nI 117)), (4, .int (nI 98)), (5, .int (nI 108)), (6, .int (nI 101))]) hx hb dX8_isWord_150 hl (k := 2) rfl (by decide) (by decide) rfl (fun ls hl => ?_)
                refine lv_goto (tgt := 32) hx hb dX8_isWord_153 (by decide) ?_
                refine lv_iload hx hb dX8_isWord_32 (lv_at hl 0 rfl) ?_
                refine ta_bipush C 6 dX8_isWord_34 (by decide) ?_
                refine lv_icmp_ge (tgt := 156) hx hb dX8_isWord_36 (by decide) (fun c17 => ?_) (fun c17 => ?_)
                · exact absurd c17 (by decide)
                · refine lv_iload hx hb dX8_isWord_39 (lv_at hl 1 rfl) ?_
                  refine lv_if_eq (tgt := 156) hx hb dX8_isWord_41 (by decide) (fun c18 => ?_) (fun c18 => ?_)
                  · exact absurd c18 (by decide)
                  · refine lv_iload hx hb dX8_isWord_44 (lv_at hl 0 rfl) ?_
                    refine lv_if_ne (tgt := 53) hx hb dX8_isWord_46 (by decide) (fun c19 => ?_) (fun c19 => ?_)
                    · refine lv_iload hx hb dX8_isWord_53 (lv_at hl 0 rfl) ?_
                      refine ta_iconst C 1 dX8_isWord_55 (by decide) ?_
                      refine lv_icmp_ne (tgt := 63) hx hb dX8_isWord_56 (by decide) (fun c20 => ?_) (fun c20 => ?_)
                      · exact absurd c20 (by decide)
                      · refine lv_iload_n hx hb dX8_isWord_59 rfl (lv_at hl 5 rfl) ?_
                        refine lv_goto (tgt := 97) hx hb dX8_isWord_60 (by decide) ?_
                        refine lv_istore (lv' := [(9, .int (nI 111)), (8, .int (nI 1)), (7, .int (nI 1)), (0, .ref (z 0)), (1, .int (nI 100)), (2, .int (nI 111)), (3, .int (nI 117)), (4, .int (nI 98)), (5, .int (nI 108)), (6, .int (nI 101))]) hx hb dX8_isWord_97 hl (by decide) rfl (fun ls hl => ?_)
                        refine lv_aload_n hx hb dX8_isWord_99 rfl (lv_at hl 3 rfl) ?_
                        refine ta_get C hP 0 inlX8 rfl rfl 13 (by decide) tw_304 rfl dX8_isWord_100 ?_
                        refine lv_iload hx hb dX8_isWord_103 (lv_at hl 1 rfl) ?_
                        refine ta_iadd C (a := tn_s tx L p0) (b := 1) dX8_isWord_105 ?_
                        refine lv_aload_n hx hb dX8_isWord_106 rfl (lv_at hl 3 rfl) ?_
                        refine ta_get C hP 0 inlX8 rfl rfl 11 (by decide) tw_309 rfl dX8_isWord_107 ?_
                        refine ta_cge C (a := (tn_s tx L p0) + 1) (b := tn_e tx L p0) (tgt := 138) (by omega) (by omega) dX8_isWord_110 (by decide) (fun c21 => ?_) (fun c21 => ?_)
                        · refine lv_iload hx hb dX8_isWord_138 (lv_at hl 0 rfl) ?_
                          refine lv_if_ne (tgt := 147) hx hb dX8_isWord_140 (by decide) (fun c22 => ?_) (fun c22 => ?_)
                          · refine ta_iconst C 0 dX8_isWord_147 (by decide) ?_
                            refine lv_istore (lv' := [(7, .int (nI 0)), (9, .int (nI 111)), (8, .int (nI 1)), (0, .ref (z 0)), (1, .int (nI 100)), (2, .int (nI 111)), (3, .int (nI 117)), (4, .int (nI 98)), (5, .int (nI 108)), (6, .int (nI 101))]) hx hb dX8_isWord_148 hl (by decide) rfl (fun ls hl => ?_)
                            refine lv_iinc (v := nI 2) (lv' := [(8, .int (nI 2)), (7, .int (nI 0)), (9, .int (nI 111)), (0, .ref (z 0)), (1, .int (nI 100)), (2, .int (nI 111)), (3, .int (nI 117)), (4, .int (nI 98)), (5, .int (nI 108)), (6, .int (nI 101))]) hx hb dX8_isWord_150 hl (k := 2) rfl (by decide) (by decide) rfl (fun ls hl => ?_)
                            refine lv_goto (tgt := 32) hx hb dX8_isWord_153 (by decide) ?_
                            refine lv_iload hx hb dX8_isWord_32 (lv_at hl 0 rfl) ?_
                            refine ta_bipush C 6 dX8_isWord_34 (by decide) ?_
                            refine lv_icmp_ge (tgt := 156) hx hb dX8_isWord_36 (by decide) (fun c23 => ?_) (fun c23 => ?_)
                            · exact absurd c23 (by decide)
                            · refine lv_iload hx hb dX8_isWord_39 (lv_at hl 1 rfl) ?_
                              refine lv_if_eq (tgt := 156) hx hb dX8_isWord_41 (by decide) (fun c24 => ?_) (fun c24 => ?_)
                              · refine lv_iload hx hb dX8_isWord_156 (lv_at hl 1 rfl) ?_
                                have hnw : ¬ tk_is tx (tn_s tx L p0) (tn_e tx L p0) 6 := by
                                  intro h
                                  have h9 : tn_e tx L p0 - tn_s tx L p0 = 6 := h.1
                                  have h8 : tx (tn_s tx L p0 + 1) = 111 := h.2 1 (by decide)
                                  omega
                                exact ret _ () dX8_isWord_158 (by decide) (Or.inr ⟨hnw, rfl⟩) hP hD hS
                              · exact absurd c24 (by decide)
                          · exact absurd c22 (by decide)
                        · have hr1 := hrow (tn_s tx L p0 + 1) (by omega) (by omega)
                          refine lv_aload_n hx hb dX8_isWord_113 rfl (lv_at hl 3 rfl) ?_
                          refine ta_get C hP 0 inlX8 rfl rfl 0 (by decide) tw_125 rfl dX8_isWord_114 ?_
                          refine lv_aload_n hx hb dX8_isWord_117 rfl (lv_at hl 3 rfl) ?_
                          refine ta_get C hP 0 inlX8 rfl rfl 13 (by decide) tw_304 rfl dX8_isWord_118 ?_
                          refine lv_iload hx hb dX8_isWord_121 (lv_at hl 1 rfl) ?_
                          refine ta_iadd C (a := tn_s tx L p0) (b := 1) dX8_isWord_123 ?_
                          refine ta_iald C hP 1 rfl (i := (tn_s tx L p0) + 1) (by omega) dX8_isWord_124 ?_
                          refine lv_iload hx hb dX8_isWord_125 (lv_at hl 0 rfl) ?_
                          refine ta_cne C (a := tx ((tn_s tx L p0) + 1)) (b := 111) (tgt := 134) (by omega) (by omega) dX8_isWord_127 (by decide) (fun c25 => ?_) (fun c25 => ?_)
                          · refine ta_iconst C 0 dX8_isWord_134 (by decide) ?_
                            refine lv_goto (tgt := 148) hx hb dX8_isWord_135 (by decide) ?_
                            refine lv_istore (lv' := [(7, .int (nI 0)), (9, .int (nI 111)), (8, .int (nI 1)), (0, .ref (z 0)), (1, .int (nI 100)), (2, .int (nI 111)), (3, .int (nI 117)), (4, .int (nI 98)), (5, .int (nI 108)), (6, .int (nI 101))]) hx hb dX8_isWord_148 hl (by decide) rfl (fun ls hl => ?_)
                            refine lv_iinc (v := nI 2) (lv' := [(8, .int (nI 2)), (7, .int (nI 0)), (9, .int (nI 111)), (0, .ref (z 0)), (1, .int (nI 100)), (2, .int (nI 111)), (3, .int (nI 117)), (4, .int (nI 98)), (5, .int (nI 108)), (6, .int (nI 101))]) hx hb dX8_isWord_150 hl (k := 2) rfl (by decide) (by decide) rfl (fun ls hl => ?_)
                            refine lv_goto (tgt := 32) hx hb dX8_isWord_153 (by decide) ?_
                            refine lv_iload hx hb dX8_isWord_32 (lv_at hl 0 rfl) ?_
                            refine ta_bipush C 6 dX8_isWord_34 (by decide) ?_
                            refine lv_icmp_ge (tgt := 156) hx hb dX8_isWord_36 (by decide) (fun c26 => ?_) (fun c26 => ?_)
                            · exact absurd c26 (by decide)
                            · refine lv_iload hx hb dX8_isWord_39 (lv_at hl 1 rfl) ?_
                              refine lv_if_eq (tgt := 156) hx hb dX8_isWord_41 (by decide) (fun c27 => ?_) (fun c27 => ?_)
                              · refine lv_iload hx hb dX8_isWord_156 (lv_at hl 1 rfl) ?_
                                have hnw : ¬ tk_is tx (tn_s tx L p0) (tn_e tx L p0) 6 := by
                                  intro h
                                  have h9 : tn_e tx L p0 - tn_s tx L p0 = 6 := h.1
                                  have h8 : tx (tn_s tx L p0 + 1) = 111 := h.2 1 (by decide)
                                  omega
                                exact ret _ () dX8_isWord_158 (by decide) (Or.inr ⟨hnw, rfl⟩) hP hD hS
                              · exact absurd c27 (by decide)
                          · refine ta_iconst C 1 dX8_isWord_130 (by decide) ?_
                            refine lv_goto (tgt := 148) hx hb dX8_isWord_131 (by decide) ?_
                            refine lv_istore (lv' := [(7, .int (nI 1)), (9, .int (nI 111)), (8, .int (nI 1)), (0, .ref (z 0)), (1, .int (nI 100)), (2, .int (nI 111)), (3, .int (nI 117)), (4, .int (nI 98)), (5, .int (nI 108)), (6, .int (nI 101))]) hx hb dX8_isWord_148 hl (by decide) rfl (fun ls hl => ?_)
                            refine lv_iinc (v := nI 2) (lv' := [(8, .int (nI 2)), (7, .int (nI 1)), (9, .int (nI 111)), (0, .ref (z 0)), (1, .int (nI 100)), (2, .int (nI 111)), (3, .int (nI 117)), (4, .int (nI 98)), (5, .int (nI 108)), (6, .int (nI 101))]) hx hb dX8_isWord_150 hl (k := 2) rfl (by decide) (by decide) rfl (fun ls hl => ?_)
                            refine lv_goto (tgt := 32) hx hb dX8_isWord_153 (by decide) ?_
                            refine lv_iload hx hb dX8_isWord_32 (lv_at hl 0 rfl) ?_
                            refine ta_bipush C 6 dX8_isWord_34 (by decide) ?_
                            refine lv_icmp_ge (tgt := 156) hx hb dX8_isWord_36 (by decide) (fun c28 => ?_) (fun c28 => ?_)
                            · exact absurd c28 (by decide)
                            · refine lv_iload hx hb dX8_isWord_39 (lv_at hl 1 rfl) ?_
                              refine lv_if_eq (tgt := 156) hx hb dX8_isWord_41 (by decide) (fun c29 => ?_) (fun c29 => ?_)
                              · exact absurd c29 (by decide)
                              · refine lv_iload hx hb dX8_isWord_44 (lv_at hl 0 rfl) ?_
                                refine lv_if_ne (tgt := 53) hx hb dX8_isWord_46 (by decide) (fun c30 => ?_) (fun c30 => ?_)
                                · refine lv_iload hx hb dX8_isWord_53 (lv_at hl 0 rfl) ?_
                                  refine ta_iconst C 1 dX8_isWord_55 (by decide) ?_
                                  refine lv_icmp_ne (tgt := 63) hx hb dX8_isWord_56 (by decide) (fun c31 => ?_) (fun c31 => ?_)
                                  · refine lv_iload hx hb dX8_isWord_63 (lv_at hl 0 rfl) ?_
                                    refine ta_iconst C 2 dX8_isWord_65 (by decide) ?_
                                    refine lv_icmp_ne (tgt := 73) hx hb dX8_isWord_66 (by decide) (fun c32 => ?_) (fun c32 => ?_)
                                    · exact absurd c32 (by decide)
                                    · refine lv_iload_n hx hb dX8_isWord_69 rfl (lv_at hl 6 rfl) ?_
                                      refine lv_goto (tgt := 97) hx hb dX8_isWord_70 (by decide) ?_
                                      refine lv_istore (lv' := [(9, .int (nI 117)), (8, .int (nI 2)), (7, .int (nI 1)), (0, .ref (z 0)), (1, .int (nI 100)), (2, .int (nI 111)), (3, .int (nI 117)), (4, .int (nI 98)), (5, .int (nI 108)), (6, .int (nI 101))]) hx hb dX8_isWord_97 hl (by decide) rfl (fun ls hl => ?_)
                                      refine lv_aload_n hx hb dX8_isWord_99 rfl (lv_at hl 3 rfl) ?_
                                      refine ta_get C hP 0 inlX8 rfl rfl 13 (by decide) tw_304 rfl dX8_isWord_100 ?_
                                      refine lv_iload hx hb dX8_isWord_103 (lv_at hl 1 rfl) ?_
                                      refine ta_iadd C (a := tn_s tx L p0) (b := 2) dX8_isWord_105 ?_
                                      refine lv_aload_n hx hb dX8_isWord_106 rfl (lv_at hl 3 rfl) ?_
                                      refine ta_get C hP 0 inlX8 rfl rfl 11 (by decide) tw_309 rfl dX8_isWord_107 ?_
                                      refine ta_cge C (a := (tn_s tx L p0) + 2) (b := tn_e tx L p0) (tgt := 138) (by omega) (by omega) dX8_isWord_110 (by decide) (fun c33 => ?_) (fun c33 => ?_)
                                      · refine lv_iload hx hb dX8_isWord_138 (lv_at hl 0 rfl) ?_
                                        refine lv_if_ne (tgt := 147) hx hb dX8_isWord_140 (by decide) (fun c34 => ?_) (fun c34 => ?_)
                                        · refine ta_iconst C 0 dX8_isWord_147 (by decide) ?_
                                          refine lv_istore (lv' := [(7, .int (nI 0)), (9, .int (nI 117)), (8, .int (nI 2)), (0, .ref (z 0)), (1, .int (nI 100)), (2, .int (nI 111)), (3, .int (nI 117)), (4, .int (nI 98)), (5, .int (nI 108)), (6, .int (nI 101))]) hx hb dX8_isWord_148 hl (by decide) rfl (fun ls hl => ?_)
                                          refine lv_iinc (v := nI 3) (lv' := [(8, .int (nI 3)), (7, .int (nI 0)), (9, .int (nI 117)), (0, .ref (z 0)), (1, .int (nI 100)), (2, .int (nI 111)), (3, .int (nI 117)), (4, .int (nI 98)), (5, .int (nI 108)), (6, .int (nI 101))]) hx hb dX8_isWord_150 hl (k := 2) rfl (by decide) (by decide) rfl (fun ls hl => ?_)
                                          refine lv_goto (tgt := 32) hx hb dX8_isWord_153 (by decide) ?_
                                          refine lv_iload hx hb dX8_isWord_32 (lv_at hl 0 rfl) ?_
                                          refine ta_bipush C 6 dX8_isWord_34 (by decide) ?_
                                          refine lv_icmp_ge (tgt := 156) hx hb dX8_isWord_36 (by decide) (fun c35 => ?_) (fun c35 => ?_)
                                          · exact absurd c35 (by decide)
                                          · refine lv_iload hx hb dX8_isWord_39 (lv_at hl 1 rfl) ?_
                                            refine lv_if_eq (tgt := 156) hx hb dX8_isWord_41 (by decide) (fun c36 => ?_) (fun c36 => ?_)
                                            · refine lv_iload hx hb dX8_isWord_156 (lv_at hl 1 rfl) ?_
                                              have hnw : ¬ tk_is tx (tn_s tx L p0) (tn_e tx L p0) 6 := by
                                                intro h
                                                have h9 : tn_e tx L p0 - tn_s tx L p0 = 6 := h.1
                                                have h8 : tx (tn_s tx L p0 + 2) = 117 := h.2 2 (by decide)
                                                omega
                                              exact ret _ () dX8_isWord_158 (by decide) (Or.inr ⟨hnw, rfl⟩) hP hD hS
                                            · exact absurd c36 (by decide)
                                        · exact absurd c34 (by decide)
                                      · have hr2 := hrow (tn_s tx L p0 + 2) (by omega) (by omega)
                                        refine lv_aload_n hx hb dX8_isWord_113 rfl (lv_at hl 3 rfl) ?_
                                        refine ta_get C hP 0 inlX8 rfl rfl 0 (by decide) tw_125 rfl dX8_isWord_114 ?_
                                        refine lv_aload_n hx hb dX8_isWord_117 rfl (lv_at hl 3 rfl) ?_
                                        refine ta_get C hP 0 inlX8 rfl rfl 13 (by decide) tw_304 rfl dX8_isWord_118 ?_
                                        refine lv_iload hx hb dX8_isWord_121 (lv_at hl 1 rfl) ?_
                                        refine ta_iadd C (a := tn_s tx L p0) (b := 2) dX8_isWord_123 ?_
                                        refine ta_iald C hP 1 rfl (i := (tn_s tx L p0) + 2) (by omega) dX8_isWord_124 ?_
                                        refine lv_iload hx hb dX8_isWord_125 (lv_at hl 0 rfl) ?_
                                        refine ta_cne C (a := tx ((tn_s tx L p0) + 2)) (b := 117) (tgt := 134) (by omega) (by omega) dX8_isWord_127 (by decide) (fun c37 => ?_) (fun c37 => ?_)
                                        · refine ta_iconst C 0 dX8_isWord_134 (by decide) ?_
                                          refine lv_goto (tgt := 148) hx hb dX8_isWord_135 (by decide) ?_
                                          refine lv_istore (lv' := [(7, .int (nI 0)), (9, .int (nI 117)), (8, .int (nI 2)), (0, .ref (z 0)), (1, .int (nI 100)), (2, .int (nI 111)), (3, .int (nI 117)), (4, .int (nI 98)), (5, .int (nI 108)), (6, .int (nI 101))]) hx hb dX8_isWord_148 hl (by decide) rfl (fun ls hl => ?_)
                                          refine lv_iinc (v := nI 3) (lv' := [(8, .int (nI 3)), (7, .int (nI 0)), (9, .int (nI 117)), (0, .ref (z 0)), (1, .int (nI 100)), (2, .int (nI 111)), (3, .int (nI 117)), (4, .int (nI 98)), (5, .int (nI 108)), (6, .int (nI 101))]) hx hb dX8_isWord_150 hl (k := 2) rfl (by decide) (by decide) rfl (fun ls hl => ?_)
                                          refine lv_goto (tgt := 32) hx hb dX8_isWord_153 (by decide) ?_
                                          refine lv_iload hx hb dX8_isWord_32 (lv_at hl 0 rfl) ?_
                                          refine ta_bipush C 6 dX8_isWord_34 (by decide) ?_
                                          refine lv_icmp_ge (tgt := 156) hx hb dX8_isWord_36 (by decide) (fun c38 => ?_) (fun c38 => ?_)
                                          · exact absurd c38 (by decide)
                                          · refine lv_iload hx hb dX8_isWord_39 (lv_at hl 1 rfl) ?_
                                            refine lv_if_eq (tgt := 156) hx hb dX8_isWord_41 (by decide) (fun c39 => ?_) (fun c39 => ?_)
                                            · refine lv_iload hx hb dX8_isWord_156 (lv_at hl 1 rfl) ?_
                                              have hnw : ¬ tk_is tx (tn_s tx L p0) (tn_e tx L p0) 6 := by
                                                intro h
                                                have h9 : tn_e tx L p0 - tn_s tx L p0 = 6 := h.1
                                                have h8 : tx (tn_s tx L p0 + 2) = 117 := h.2 2 (by decide)
                                                omega
                                              exact ret _ () dX8_isWord_158 (by decide) (Or.inr ⟨hnw, rfl⟩) hP hD hS
                                            · exact absurd c39 (by decide)
                                        · refine ta_iconst C 1 dX8_isWord_130 (by decide) ?_
                                          refine lv_goto (tgt := 148) hx hb dX8_isWord_131 (by decide) ?_
                                          refine lv_istore (lv' := [(7, .int (nI 1)), (9, .int (nI 117)), (8, .int (nI 2)), (0, .ref (z 0)), (1, .int (nI 100)), (2, .int (nI 111)), (3, .int (nI 117)), (4, .int (nI 98)), (5, .int (nI 108)), (6, .int (nI 101))]) hx hb dX8_isWord_148 hl (by decide) rfl (fun ls hl => ?_)
                                          refine lv_iinc (v := nI 3) (lv' := [(8, .int (nI 3)), (7, .int (nI 1)), (9, .int (nI 117)), (0, .ref (z 0)), (1, .int (nI 100)), (2, .int (nI 111)), (3, .int (nI 117)), (4, .int (nI 98)), (5, .int (nI 108)), (6, .int (nI 101))]) hx hb dX8_isWord_150 hl (k := 2) rfl (by decide) (by decide) rfl (fun ls hl => ?_)
                                          refine lv_goto (tgt := 32) hx hb dX8_isWord_153 (by decide) ?_
                                          refine lv_iload hx hb dX8_isWord_32 (lv_at hl 0 rfl) ?_
                                          refine ta_bipush C 6 dX8_isWord_34 (by decide) ?_
                                          refine lv_icmp_ge (tgt := 156) hx hb dX8_isWord_36 (by decide) (fun c40 => ?_) (fun c40 => ?_)
                                          · exact absurd c40 (by decide)
                                          · refine lv_iload hx hb dX8_isWord_39 (lv_at hl 1 rfl) ?_
                                            refine lv_if_eq (tgt := 156) hx hb dX8_isWord_41 (by decide) (fun c41 => ?_) (fun c41 => ?_)
                                            · exact absurd c41 (by decide)
                                            · refine lv_iload hx hb dX8_isWord_44 (lv_at hl 0 rfl) ?_
                                              refine lv_if_ne (tgt := 53) hx hb dX8_isWord_46 (by decide) (fun c42 => ?_) (fun c42 => ?_)
                                              · refine lv_iload hx hb dX8_isWord_53 (lv_at hl 0 rfl) ?_
                                                refine ta_iconst C 1 dX8_isWord_55 (by decide) ?_
                                                refine lv_icmp_ne (tgt := 63) hx hb dX8_isWord_56 (by decide) (fun c43 => ?_) (fun c43 => ?_)
                                                · refine lv_iload hx hb dX8_isWord_63 (lv_at hl 0 rfl) ?_
                                                  refine ta_iconst C 2 dX8_isWord_65 (by decide) ?_
                                                  refine lv_icmp_ne (tgt := 73) hx hb dX8_isWord_66 (by decide) (fun c44 => ?_) (fun c44 => ?_)
                                                  · refine lv_iload hx hb dX8_isWord_73 (lv_at hl 0 rfl) ?_
                                                    refine ta_iconst C 3 dX8_isWord_75 (by decide) ?_
                                                    refine lv_icmp_ne (tgt := 84) hx hb dX8_isWord_76 (by decide) (fun c45 => ?_) (fun c45 => ?_)
                                                    · exact absurd c45 (by decide)
                                                    · refine lv_iload hx hb dX8_isWord_79 (lv_at hl 7 rfl) ?_
                                                      refine lv_goto (tgt := 97) hx hb dX8_isWord_81 (by decide) ?_
                                                      refine lv_istore (lv' := [(9, .int (nI 98)), (8, .int (nI 3)), (7, .int (nI 1)), (0, .ref (z 0)), (1, .int (nI 100)), (2, .int (nI 111)), (3, .int (nI 117)), (4, .int (nI 98)), (5, .int (nI 108)), (6, .int (nI 101))]) hx hb dX8_isWord_97 hl (by decide) rfl (fun ls hl => ?_)
                                                      refine lv_aload_n hx hb dX8_isWord_99 rfl (lv_at hl 3 rfl) ?_
                                                      refine ta_get C hP 0 inlX8 rfl rfl 13 (by decide) tw_304 rfl dX8_isWord_100 ?_
                                                      refine lv_iload hx hb dX8_isWord_103 (lv_at hl 1 rfl) ?_
                                                      refine ta_iadd C (a := tn_s tx L p0) (b := 3) dX8_isWord_105 ?_
                                                      refine lv_aload_n hx hb dX8_isWord_106 rfl (lv_at hl 3 rfl) ?_
                                                      refine ta_get C hP 0 inlX8 rfl rfl 11 (by decide) tw_309 rfl dX8_isWord_107 ?_
                                                      refine ta_cge C (a := (tn_s tx L p0) + 3) (b := tn_e tx L p0) (tgt := 138) (by omega) (by omega) dX8_isWord_110 (by decide) (fun c46 => ?_) (fun c46 => ?_)
                                                      · refine lv_iload hx hb dX8_isWord_138 (lv_at hl 0 rfl) ?_
                                                        refine lv_if_ne (tgt := 147) hx hb dX8_isWord_140 (by decide) (fun c47 => ?_) (fun c47 => ?_)
                                                        · refine ta_iconst C 0 dX8_isWord_147 (by decide) ?_
                                                          refine lv_istore (lv' := [(7, .int (nI 0)), (9, .int (nI 98)), (8, .int (nI 3)), (0, .ref (z 0)), (1, .int (nI 100)), (2, .int (nI 111)), (3, .int (nI 117)), (4, .int (nI 98)), (5, .int (nI 108)), (6, .int (nI 101))]) hx hb dX8_isWord_148 hl (by decide) rfl (fun ls hl => ?_)
                                                          refine lv_iinc (v := nI 4) (lv' := [(8, .int (nI 4)), (7, .int (nI 0)), (9, .int (nI 98)), (0, .ref (z 0)), (1, .int (nI 100)), (2, .int (nI 111)), (3, .int (nI 117)), (4, .int (nI 98)), (5, .int (nI 108)), (6, .int (nI 101))]) hx hb dX8_isWord_150 hl (k := 2) rfl (by decide) (by decide) rfl (fun ls hl => ?_)
                                                          refine lv_goto (tgt := 32) hx hb dX8_isWord_153 (by decide) ?_
                                                          refine lv_iload hx hb dX8_isWord_32 (lv_at hl 0 rfl) ?_
                                                          refine ta_bipush C 6 dX8_isWord_34 (by decide) ?_
                                                          refine lv_icmp_ge (tgt := 156) hx hb dX8_isWord_36 (by decide) (fun c48 => ?_) (fun c48 => ?_)
                                                          · exact absurd c48 (by decide)
                                                          · refine lv_iload hx hb dX8_isWord_39 (lv_at hl 1 rfl) ?_
                                                            refine lv_if_eq (tgt := 156) hx hb dX8_isWord_41 (by decide) (fun c49 => ?_) (fun c49 => ?_)
                                                            · refine lv_iload hx hb dX8_isWord_156 (lv_at hl 1 rfl) ?_
                                                              have hnw : ¬ tk_is tx (tn_s tx L p0) (tn_e tx L p0) 6 := by
                                                                intro h
                                                                have h9 : tn_e tx L p0 - tn_s tx L p0 = 6 := h.1
                                                                have h8 : tx (tn_s tx L p0 + 3) = 98 := h.2 3 (by decide)
                                                                omega
                                                              exact ret _ () dX8_isWord_158 (by decide) (Or.inr ⟨hnw, rfl⟩) hP hD hS
                                                            · exact absurd c49 (by decide)
                                                        · exact absurd c47 (by decide)
                                                      · have hr3 := hrow (tn_s tx L p0 + 3) (by omega) (by omega)
                                                        refine lv_aload_n hx hb dX8_isWord_113 rfl (lv_at hl 3 rfl) ?_
                                                        refine ta_get C hP 0 inlX8 rfl rfl 0 (by decide) tw_125 rfl dX8_isWord_114 ?_
                                                        refine lv_aload_n hx hb dX8_isWord_117 rfl (lv_at hl 3 rfl) ?_
                                                        refine ta_get C hP 0 inlX8 rfl rfl 13 (by decide) tw_304 rfl dX8_isWord_118 ?_
                                                        refine lv_iload hx hb dX8_isWord_121 (lv_at hl 1 rfl) ?_
                                                        refine ta_iadd C (a := tn_s tx L p0) (b := 3) dX8_isWord_123 ?_
                                                        refine ta_iald C hP 1 rfl (i := (tn_s tx L p0) + 3) (by omega) dX8_isWord_124 ?_
                                                        refine lv_iload hx hb dX8_isWord_125 (lv_at hl 0 rfl) ?_
                                                        refine ta_cne C (a := tx ((tn_s tx L p0) + 3)) (b := 98) (tgt := 134) (by omega) (by omega) dX8_isWord_127 (by decide) (fun c50 => ?_) (fun c50 => ?_)
                                                        · refine ta_iconst C 0 dX8_isWord_134 (by decide) ?_
                                                          refine lv_goto (tgt := 148) hx hb dX8_isWord_135 (by decide) ?_
                                                          refine lv_istore (lv' := [(7, .int (nI 0)), (9, .int (nI 98)), (8, .int (nI 3)), (0, .ref (z 0)), (1, .int (nI 100)), (2, .int (nI 111)), (3, .int (nI 117)), (4, .int (nI 98)), (5, .int (nI 108)), (6, .int (nI 101))]) hx hb dX8_isWord_148 hl (by decide) rfl (fun ls hl => ?_)
                                                          refine lv_iinc (v := nI 4) (lv' := [(8, .int (nI 4)), (7, .int (nI 0)), (9, .int (nI 98)), (0, .ref (z 0)), (1, .int (nI 100)), (2, .int (nI 111)), (3, .int (nI 117)), (4, .int (nI 98)), (5, .int (nI 108)), (6, .int (nI 101))]) hx hb dX8_isWord_150 hl (k := 2) rfl (by decide) (by decide) rfl (fun ls hl => ?_)
                                                          refine lv_goto (tgt := 32) hx hb dX8_isWord_153 (by decide) ?_
                                                          refine lv_iload hx hb dX8_isWord_32 (lv_at hl 0 rfl) ?_
                                                          refine ta_bipush C 6 dX8_isWord_34 (by decide) ?_
                                                          refine lv_icmp_ge (tgt := 156) hx hb dX8_isWord_36 (by decide) (fun c51 => ?_) (fun c51 => ?_)
                                                          · exact absurd c51 (by decide)
                                                          · refine lv_iload hx hb dX8_isWord_39 (lv_at hl 1 rfl) ?_
                                                            refine lv_if_eq (tgt := 156) hx hb dX8_isWord_41 (by decide) (fun c52 => ?_) (fun c52 => ?_)
                                                            · refine lv_iload hx hb dX8_isWord_156 (lv_at hl 1 rfl) ?_
                                                              have hnw : ¬ tk_is tx (tn_s tx L p0) (tn_e tx L p0) 6 := by
                                                                intro h
                                                                have h9 : tn_e tx L p0 - tn_s tx L p0 = 6 := h.1
                                                                have h8 : tx (tn_s tx L p0 + 3) = 98 := h.2 3 (by decide)
                                                                omega
                                                              exact ret _ () dX8_isWord_158 (by decide) (Or.inr ⟨hnw, rfl⟩) hP hD hS
                                                            · exact absurd c52 (by decide)
                                                        · refine ta_iconst C 1 dX8_isWord_130 (by decide) ?_
                                                          refine lv_goto (tgt := 148) hx hb dX8_isWord_131 (by decide) ?_
                                                          refine lv_istore (lv' := [(7, .int (nI 1)), (9, .int (nI 98)), (8, .int (nI 3)), (0, .ref (z 0)), (1, .int (nI 100)), (2, .int (nI 111)), (3, .int (nI 117)), (4, .int (nI 98)), (5, .int (nI 108)), (6, .int (nI 101))]) hx hb dX8_isWord_148 hl (by decide) rfl (fun ls hl => ?_)
                                                          refine lv_iinc (v := nI 4) (lv' := [(8, .int (nI 4)), (7, .int (nI 1)), (9, .int (nI 98)), (0, .ref (z 0)), (1, .int (nI 100)), (2, .int (nI 111)), (3, .int (nI 117)), (4, .int (nI 98)), (5, .int (nI 108)), (6, .int (nI 101))]) hx hb dX8_isWord_150 hl (k := 2) rfl (by decide) (by decide) rfl (fun ls hl => ?_)
                                                          refine lv_goto (tgt := 32) hx hb dX8_isWord_153 (by decide) ?_
                                                          refine lv_iload hx hb dX8_isWord_32 (lv_at hl 0 rfl) ?_
                                                          refine ta_bipush C 6 dX8_isWord_34 (by decide) ?_
                                                          refine lv_icmp_ge (tgt := 156) hx hb dX8_isWord_36 (by decide) (fun c53 => ?_) (fun c53 => ?_)
                                                          · exact absurd c53 (by decide)
                                                          · refine lv_iload hx hb dX8_isWord_39 (lv_at hl 1 rfl) ?_
                                                            refine lv_if_eq (tgt := 156) hx hb dX8_isWord_41 (by decide) (fun c54 => ?_) (fun c54 => ?_)
                                                            · exact absurd c54 (by decide)
                                                            · refine lv_iload hx hb dX8_isWord_44 (lv_at hl 0 rfl) ?_
                                                              refine lv_if_ne (tgt := 53) hx hb dX8_isWord_46 (by decide) (fun c55 => ?_) (fun c55 => ?_)
                                                              · refine lv_iload hx hb dX8_isWord_53 (lv_at hl 0 rfl) ?_
                                                                refine ta_iconst C 1 dX8_isWord_55 (by decide) ?_
                                                                refine lv_icmp_ne (tgt := 63) hx hb dX8_isWord_56 (by decide) (fun c56 => ?_) (fun c56 => ?_)
                                                                · refine lv_iload hx hb dX8_isWord_63 (lv_at hl 0 rfl) ?_
                                                                  refine ta_iconst C 2 dX8_isWord_65 (by decide) ?_
                                                                  refine lv_icmp_ne (tgt := 73) hx hb dX8_isWord_66 (by decide) (fun c57 => ?_) (fun c57 => ?_)
                                                                  · refine lv_iload hx hb dX8_isWord_73 (lv_at hl 0 rfl) ?_
                                                                    refine ta_iconst C 3 dX8_isWord_75 (by decide) ?_
                                                                    refine lv_icmp_ne (tgt := 84) hx hb dX8_isWord_76 (by decide) (fun c58 => ?_) (fun c58 => ?_)
                                                                    · refine lv_iload hx hb dX8_isWord_84 (lv_at hl 0 rfl) ?_
                                                                      refine ta_iconst C 4 dX8_isWord_86 (by decide) ?_
                                                                      refine lv_icmp_ne (tgt := 95) hx hb dX8_isWord_87 (by decide) (fun c59 => ?_) (fun c59 => ?_)
                                                                      · exact absurd c59 (by decide)
                                                                      · refine lv_iload hx hb dX8_isWord_90 (lv_at hl 8 rfl) ?_
                                                                        refine lv_goto (tgt := 97) hx hb dX8_isWord_92 (by decide) ?_
                                                                        refine lv_istore (lv' := [(9, .int (nI 108)), (8, .int (nI 4)), (7, .int (nI 1)), (0, .ref (z 0)), (1, .int (nI 100)), (2, .int (nI 111)), (3, .int (nI 117)), (4, .int (nI 98)), (5, .int (nI 108)), (6, .int (nI 101))]) hx hb dX8_isWord_97 hl (by decide) rfl (fun ls hl => ?_)
                                                                        refine lv_aload_n hx hb dX8_isWord_99 rfl (lv_at hl 3 rfl) ?_
                                                                        refine ta_get C hP 0 inlX8 rfl rfl 13 (by decide) tw_304 rfl dX8_isWord_100 ?_
                                                                        refine lv_iload hx hb dX8_isWord_103 (lv_at hl 1 rfl) ?_
                                                                        refine ta_iadd C (a := tn_s tx L p0) (b := 4) dX8_isWord_105 ?_
                                                                        refine lv_aload_n hx hb dX8_isWord_106 rfl (lv_at hl 3 rfl) ?_
                                                                        refine ta_get C hP 0 inlX8 rfl rfl 11 (by decide) tw_309 rfl dX8_isWord_107 ?_
                                                                        refine ta_cge C (a := (tn_s tx L p0) + 4) (b := tn_e tx L p0) (tgt := 138) (by omega) (by omega) dX8_isWord_110 (by decide) (fun c60 => ?_) (fun c60 => ?_)
                                                                        · refine lv_iload hx hb dX8_isWord_138 (lv_at hl 0 rfl) ?_
                                                                          refine lv_if_ne (tgt := 147) hx hb dX8_isWord_140 (by decide) (fun c61 => ?_) (fun c61 => ?_)
                                                                          · refine ta_iconst C 0 dX8_isWord_147 (by decide) ?_
                                                                            refine lv_istore (lv' := [(7, .int (nI 0)), (9, .int (nI 108)), (8, .int (nI 4)), (0, .ref (z 0)), (1, .int (nI 100)), (2, .int (nI 111)), (3, .int (nI 117)), (4, .int (nI 98)), (5, .int (nI 108)), (6, .int (nI 101))]) hx hb dX8_isWord_148 hl (by decide) rfl (fun ls hl => ?_)
                                                                            refine lv_iinc (v := nI 5) (lv' := [(8, .int (nI 5)), (7, .int (nI 0)), (9, .int (nI 108)), (0, .ref (z 0)), (1, .int (nI 100)), (2, .int (nI 111)), (3, .int (nI 117)), (4, .int (nI 98)), (5, .int (nI 108)), (6, .int (nI 101))]) hx hb dX8_isWord_150 hl (k := 2) rfl (by decide) (by decide) rfl (fun ls hl => ?_)
                                                                            refine lv_goto (tgt := 32) hx hb dX8_isWord_153 (by decide) ?_
                                                                            refine lv_iload hx hb dX8_isWord_32 (lv_at hl 0 rfl) ?_
                                                                            refine ta_bipush C 6 dX8_isWord_34 (by decide) ?_
                                                                            refine lv_icmp_ge (tgt := 156) hx hb dX8_isWord_36 (by decide) (fun c62 => ?_) (fun c62 => ?_)
                                                                            · exact absurd c62 (by decide)
                                                                            · refine lv_iload hx hb dX8_isWord_39 (lv_at hl 1 rfl) ?_
                                                                              refine lv_if_eq (tgt := 156) hx hb dX8_isWord_41 (by decide) (fun c63 => ?_) (fun c63 => ?_)
                                                                              · refine lv_iload hx hb dX8_isWord_156 (lv_at hl 1 rfl) ?_
                                                                                have hnw : ¬ tk_is tx (tn_s tx L p0) (tn_e tx L p0) 6 := by
                                                                                  intro h
                                                                                  have h9 : tn_e tx L p0 - tn_s tx L p0 = 6 := h.1
                                                                                  have h8 : tx (tn_s tx L p0 + 4) = 108 := h.2 4 (by decide)
                                                                                  omega
                                                                                exact ret _ () dX8_isWord_158 (by decide) (Or.inr ⟨hnw, rfl⟩) hP hD hS
                                                                              · exact absurd c63 (by decide)
                                                                          · exact absurd c61 (by decide)
                                                                        · have hr4 := hrow (tn_s tx L p0 + 4) (by omega) (by omega)
                                                                          refine lv_aload_n hx hb dX8_isWord_113 rfl (lv_at hl 3 rfl) ?_
                                                                          refine ta_get C hP 0 inlX8 rfl rfl 0 (by decide) tw_125 rfl dX8_isWord_114 ?_
                                                                          refine lv_aload_n hx hb dX8_isWord_117 rfl (lv_at hl 3 rfl) ?_
                                                                          refine ta_get C hP 0 inlX8 rfl rfl 13 (by decide) tw_304 rfl dX8_isWord_118 ?_
                                                                          refine lv_iload hx hb dX8_isWord_121 (lv_at hl 1 rfl) ?_
                                                                          refine ta_iadd C (a := tn_s tx L p0) (b := 4) dX8_isWord_123 ?_
                                                                          refine ta_iald C hP 1 rfl (i := (tn_s tx L p0) + 4) (by omega) dX8_isWord_124 ?_
                                                                          refine lv_iload hx hb dX8_isWord_125 (lv_at hl 0 rfl) ?_
                                                                          refine ta_cne C (a := tx ((tn_s tx L p0) + 4)) (b := 108) (tgt := 134) (by omega) (by omega) dX8_isWord_127 (by decide) (fun c64 => ?_) (fun c64 => ?_)
                                                                          · refine ta_iconst C 0 dX8_isWord_134 (by decide) ?_
                                                                            refine lv_goto (tgt := 148) hx hb dX8_isWord_135 (by decide) ?_
                                                                            refine lv_istore (lv' := [(7, .int (nI 0)), (9, .int (nI 108)), (8, .int (nI 4)), (0, .ref (z 0)), (1, .int (nI 100)), (2, .int (nI 111)), (3, .int (nI 117)), (4, .int (nI 98)), (5, .int (nI 108)), (6, .int (nI 101))]) hx hb dX8_isWord_148 hl (by decide) rfl (fun ls hl => ?_)
                                                                            refine lv_iinc (v := nI 5) (lv' := [(8, .int (nI 5)), (7, .int (nI 0)), (9, .int (nI 108)), (0, .ref (z 0)), (1, .int (nI 100)), (2, .int (nI 111)), (3, .int (nI 117)), (4, .int (nI 98)), (5, .int (nI 108)), (6, .int (nI 101))]) hx hb dX8_isWord_150 hl (k := 2) rfl (by decide) (by decide) rfl (fun ls hl => ?_)
                                                                            refine lv_goto (tgt := 32) hx hb dX8_isWord_153 (by decide) ?_
                                                                            refine lv_iload hx hb dX8_isWord_32 (lv_at hl 0 rfl) ?_
                                                                            refine ta_bipush C 6 dX8_isWord_34 (by decide) ?_
                                                                            refine lv_icmp_ge (tgt := 156) hx hb dX8_isWord_36 (by decide) (fun c65 => ?_) (fun c65 => ?_)
                                                                            · exact absurd c65 (by decide)
                                                                            · refine lv_iload hx hb dX8_isWord_39 (lv_at hl 1 rfl) ?_
                                                                              refine lv_if_eq (tgt := 156) hx hb dX8_isWord_41 (by decide) (fun c66 => ?_) (fun c66 => ?_)
                                                                              · refine lv_iload hx hb dX8_isWord_156 (lv_at hl 1 rfl) ?_
                                                                                have hnw : ¬ tk_is tx (tn_s tx L p0) (tn_e tx L p0) 6 := by
                                                                                  intro h
                                                                                  have h9 : tn_e tx L p0 - tn_s tx L p0 = 6 := h.1
                                                                                  have h8 : tx (tn_s tx L p0 + 4) = 108 := h.2 4 (by decide)
                                                                                  omega
                                                                                exact ret _ () dX8_isWord_158 (by decide) (Or.inr ⟨hnw, rfl⟩) hP hD hS
                                                                              · exact absurd c66 (by decide)
                                                                          · refine ta_iconst C 1 dX8_isWord_130 (by decide) ?_
                                                                            refine lv_goto (tgt := 148) hx hb dX8_isWord_131 (by decide) ?_
                                                                            refine lv_istore (lv' := [(7, .int (nI 1)), (9, .int (nI 108)), (8, .int (nI 4)), (0, .ref (z 0)), (1, .int (nI 100)), (2, .int (nI 111)), (3, .int (nI 117)), (4, .int (nI 98)), (5, .int (nI 108)), (6, .int (nI 101))]) hx hb dX8_isWord_148 hl (by decide) rfl (fun ls hl => ?_)
                                                                            refine lv_iinc (v := nI 5) (lv' := [(8, .int (nI 5)), (7, .int (nI 1)), (9, .int (nI 108)), (0, .ref (z 0)), (1, .int (nI 100)), (2, .int (nI 111)), (3, .int (nI 117)), (4, .int (nI 98)), (5, .int (nI 108)), (6, .int (nI 101))]) hx hb dX8_isWord_150 hl (k := 2) rfl (by decide) (by decide) rfl (fun ls hl => ?_)
                                                                            refine lv_goto (tgt := 32) hx hb dX8_isWord_153 (by decide) ?_
                                                                            refine lv_iload hx hb dX8_isWord_32 (lv_at hl 0 rfl) ?_
                                                                            refine ta_bipush C 6 dX8_isWord_34 (by decide) ?_
                                                                            refine lv_icmp_ge (tgt := 156) hx hb dX8_isWord_36 (by decide) (fun c67 => ?_) (fun c67 => ?_)
                                                                            · exact absurd c67 (by decide)
                                                                            · refine lv_iload hx hb dX8_isWord_39 (lv_at hl 1 rfl) ?_
                                                                              refine lv_if_eq (tgt := 156) hx hb dX8_isWord_41 (by decide) (fun c68 => ?_) (fun c68 => ?_)
                                                                              · exact absurd c68 (by decide)
                                                                              · refine lv_iload hx hb dX8_isWord_44 (lv_at hl 0 rfl) ?_
                                                                                refine lv_if_ne (tgt := 53) hx hb dX8_isWord_46 (by decide) (fun c69 => ?_) (fun c69 => ?_)
                                                                                · refine lv_iload hx hb dX8_isWord_53 (lv_at hl 0 rfl) ?_
                                                                                  refine ta_iconst C 1 dX8_isWord_55 (by decide) ?_
                                                                                  refine lv_icmp_ne (tgt := 63) hx hb dX8_isWord_56 (by decide) (fun c70 => ?_) (fun c70 => ?_)
                                                                                  · refine lv_iload hx hb dX8_isWord_63 (lv_at hl 0 rfl) ?_
                                                                                    refine ta_iconst C 2 dX8_isWord_65 (by decide) ?_
                                                                                    refine lv_icmp_ne (tgt := 73) hx hb dX8_isWord_66 (by decide) (fun c71 => ?_) (fun c71 => ?_)
                                                                                    · refine lv_iload hx hb dX8_isWord_73 (lv_at hl 0 rfl) ?_
                                                                                      refine ta_iconst C 3 dX8_isWord_75 (by decide) ?_
                                                                                      refine lv_icmp_ne (tgt := 84) hx hb dX8_isWord_76 (by decide) (fun c72 => ?_) (fun c72 => ?_)
                                                                                      · refine lv_iload hx hb dX8_isWord_84 (lv_at hl 0 rfl) ?_
                                                                                        refine ta_iconst C 4 dX8_isWord_86 (by decide) ?_
                                                                                        refine lv_icmp_ne (tgt := 95) hx hb dX8_isWord_87 (by decide) (fun c73 => ?_) (fun c73 => ?_)
                                                                                        · refine lv_iload hx hb dX8_isWord_95 (lv_at hl 9 rfl) ?_
                                                                                          refine lv_istore (lv' := [(9, .int (nI 101)), (8, .int (nI 5)), (7, .int (nI 1)), (0, .ref (z 0)), (1, .int (nI 100)), (2, .int (nI 111)), (3, .int (nI 117)), (4, .int (nI 98)), (5, .int (nI 108)), (6, .int (nI 101))]) hx hb dX8_isWord_97 hl (by decide) rfl (fun ls hl => ?_)
                                                                                          refine lv_aload_n hx hb dX8_isWord_99 rfl (lv_at hl 3 rfl) ?_
                                                                                          refine ta_get C hP 0 inlX8 rfl rfl 13 (by decide) tw_304 rfl dX8_isWord_100 ?_
                                                                                          refine lv_iload hx hb dX8_isWord_103 (lv_at hl 1 rfl) ?_
                                                                                          refine ta_iadd C (a := tn_s tx L p0) (b := 5) dX8_isWord_105 ?_
                                                                                          refine lv_aload_n hx hb dX8_isWord_106 rfl (lv_at hl 3 rfl) ?_
                                                                                          refine ta_get C hP 0 inlX8 rfl rfl 11 (by decide) tw_309 rfl dX8_isWord_107 ?_
                                                                                          refine ta_cge C (a := (tn_s tx L p0) + 5) (b := tn_e tx L p0) (tgt := 138) (by omega) (by omega) dX8_isWord_110 (by decide) (fun c74 => ?_) (fun c74 => ?_)
                                                                                          · refine lv_iload hx hb dX8_isWord_138 (lv_at hl 0 rfl) ?_
                                                                                            refine lv_if_ne (tgt := 147) hx hb dX8_isWord_140 (by decide) (fun c75 => ?_) (fun c75 => ?_)
                                                                                            · refine ta_iconst C 0 dX8_isWord_147 (by decide) ?_
                                                                                              refine lv_istore (lv' := [(7, .int (nI 0)), (9, .int (nI 101)), (8, .int (nI 5)), (0, .ref (z 0)), (1, .int (nI 100)), (2, .int (nI 111)), (3, .int (nI 117)), (4, .int (nI 98)), (5, .int (nI 108)), (6, .int (nI 101))]) hx hb dX8_isWord_148 hl (by decide) rfl (fun ls hl => ?_)
                                                                                              refine lv_iinc (v := nI 6) (lv' := [(8, .int (nI 6)), (7, .int (nI 0)), (9, .int (nI 101)), (0, .ref (z 0)), (1, .int (nI 100)), (2, .int (nI 111)), (3, .int (nI 117)), (4, .int (nI 98)), (5, .int (nI 108)), (6, .int (nI 101))]) hx hb dX8_isWord_150 hl (k := 2) rfl (by decide) (by decide) rfl (fun ls hl => ?_)
                                                                                              refine lv_goto (tgt := 32) hx hb dX8_isWord_153 (by decide) ?_
                                                                                              refine lv_iload hx hb dX8_isWord_32 (lv_at hl 0 rfl) ?_
                                                                                              refine ta_bipush C 6 dX8_isWord_34 (by decide) ?_
                                                                                              refine lv_icmp_ge (tgt := 156) hx hb dX8_isWord_36 (by decide) (fun c76 => ?_) (fun c76 => ?_)
                                                                                              · refine lv_iload hx hb dX8_isWord_156 (lv_at hl 1 rfl) ?_
                                                                                                have hnw : ¬ tk_is tx (tn_s tx L p0) (tn_e tx L p0) 6 := by
                                                                                                  intro h
                                                                                                  have h9 : tn_e tx L p0 - tn_s tx L p0 = 6 := h.1
                                                                                                  have h8 : tx (tn_s tx L p0 + 5) = 101 := h.2 5 (by decide)
                                                                                                  omega
                                                                                                exact ret _ () dX8_isWord_158 (by decide) (Or.inr ⟨hnw, rfl⟩) hP hD hS
                                                                                              · exact absurd c76 (by decide)
                                                                                            · exact absurd c75 (by decide)
                                                                                          · have hr5 := hrow (tn_s tx L p0 + 5) (by omega) (by omega)
                                                                                            refine lv_aload_n hx hb dX8_isWord_113 rfl (lv_at hl 3 rfl) ?_
                                                                                            refine ta_get C hP 0 inlX8 rfl rfl 0 (by decide) tw_125 rfl dX8_isWord_114 ?_
                                                                                            refine lv_aload_n hx hb dX8_isWord_117 rfl (lv_at hl 3 rfl) ?_
                                                                                            refine ta_get C hP 0 inlX8 rfl rfl 13 (by decide) tw_304 rfl dX8_isWord_118 ?_
                                                                                            refine lv_iload hx hb dX8_isWord_121 (lv_at hl 1 rfl) ?_
                                                                                            refine ta_iadd C (a := tn_s tx L p0) (b := 5) dX8_isWord_123 ?_
                                                                                            refine ta_iald C hP 1 rfl (i := (tn_s tx L p0) + 5) (by omega) dX8_isWord_124 ?_
                                                                                            refine lv_iload hx hb dX8_isWord_125 (lv_at hl 0 rfl) ?_
                                                                                            refine ta_cne C (a := tx ((tn_s tx L p0) + 5)) (b := 101) (tgt := 134) (by omega) (by omega) dX8_isWord_127 (by decide) (fun c77 => ?_) (fun c77 => ?_)
                                                                                            · refine ta_iconst C 0 dX8_isWord_134 (by decide) ?_
                                                                                              refine lv_goto (tgt := 148) hx hb dX8_isWord_135 (by decide) ?_
                                                                                              refine lv_istore (lv' := [(7, .int (nI 0)), (9, .int (nI 101)), (8, .int (nI 5)), (0, .ref (z 0)), (1, .int (nI 100)), (2, .int (nI 111)), (3, .int (nI 117)), (4, .int (nI 98)), (5, .int (nI 108)), (6, .int (nI 101))]) hx hb dX8_isWord_148 hl (by decide) rfl (fun ls hl => ?_)
                                                                                              refine lv_iinc (v := nI 6) (lv' := [(8, .int (nI 6)), (7, .int (nI 0)), (9, .int (nI 101)), (0, .ref (z 0)), (1, .int (nI 100)), (2, .int (nI 111)), (3, .int (nI 117)), (4, .int (nI 98)), (5, .int (nI 108)), (6, .int (nI 101))]) hx hb dX8_isWord_150 hl (k := 2) rfl (by decide) (by decide) rfl (fun ls hl => ?_)
                                                                                              refine lv_goto (tgt := 32) hx hb dX8_isWord_153 (by decide) ?_
                                                                                              refine lv_iload hx hb dX8_isWord_32 (lv_at hl 0 rfl) ?_
                                                                                              refine ta_bipush C 6 dX8_isWord_34 (by decide) ?_
                                                                                              refine lv_icmp_ge (tgt := 156) hx hb dX8_isWord_36 (by decide) (fun c78 => ?_) (fun c78 => ?_)
                                                                                              · refine lv_iload hx hb dX8_isWord_156 (lv_at hl 1 rfl) ?_
                                                                                                have hnw : ¬ tk_is tx (tn_s tx L p0) (tn_e tx L p0) 6 := by
                                                                                                  intro h
                                                                                                  have h9 : tn_e tx L p0 - tn_s tx L p0 = 6 := h.1
                                                                                                  have h8 : tx (tn_s tx L p0 + 5) = 101 := h.2 5 (by decide)
                                                                                                  omega
                                                                                                exact ret _ () dX8_isWord_158 (by decide) (Or.inr ⟨hnw, rfl⟩) hP hD hS
                                                                                              · exact absurd c78 (by decide)
                                                                                            · refine ta_iconst C 1 dX8_isWord_130 (by decide) ?_
                                                                                              refine lv_goto (tgt := 148) hx hb dX8_isWord_131 (by decide) ?_
                                                                                              refine lv_istore (lv' := [(7, .int (nI 1)), (9, .int (nI 101)), (8, .int (nI 5)), (0, .ref (z 0)), (1, .int (nI 100)), (2, .int (nI 111)), (3, .int (nI 117)), (4, .int (nI 98)), (5, .int (nI 108)), (6, .int (nI 101))]) hx hb dX8_isWord_148 hl (by decide) rfl (fun ls hl => ?_)
                                                                                              refine lv_iinc (v := nI 6) (lv' := [(8, .int (nI 6)), (7, .int (nI 1)), (9, .int (nI 101)), (0, .ref (z 0)), (1, .int (nI 100)), (2, .int (nI 111)), (3, .int (nI 117)), (4, .int (nI 98)), (5, .int (nI 108)), (6, .int (nI 101))]) hx hb dX8_isWord_150 hl (k := 2) rfl (by decide) (by decide) rfl (fun ls hl => ?_)
                                                                                              refine lv_goto (tgt := 32) hx hb dX8_isWord_153 (by decide) ?_
                                                                                              refine lv_iload hx hb dX8_isWord_32 (lv_at hl 0 rfl) ?_
                                                                                              refine ta_bipush C 6 dX8_isWord_34 (by decide) ?_
                                                                                              refine lv_icmp_ge (tgt := 156) hx hb dX8_isWord_36 (by decide) (fun c79 => ?_) (fun c79 => ?_)
                                                                                              · refine lv_iload hx hb dX8_isWord_156 (lv_at hl 1 rfl) ?_
                                                                                                have hw : tk_is tx (tn_s tx L p0) (tn_e tx L p0) 6 := by
                                                                                                  refine ⟨show tn_e tx L p0 - tn_s tx L p0 = 6 by omega, fun j hj => ?_⟩
                                                                                                  have hj : j < 6 := hj
                                                                                                  rcases (show j = 0 ∨ j = 1 ∨ j = 2 ∨ j = 3 ∨ j = 4 ∨ j = 5 by omega) with rfl | rfl | rfl | rfl | rfl | rfl
                                                                                                  · show tx (tn_s tx L p0 + 0) = 100; omega
                                                                                                  · show tx (tn_s tx L p0 + 1) = 111; omega
                                                                                                  · show tx (tn_s tx L p0 + 2) = 117; omega
                                                                                                  · show tx (tn_s tx L p0 + 3) = 98; omega
                                                                                                  · show tx (tn_s tx L p0 + 4) = 108; omega
                                                                                                  · show tx (tn_s tx L p0 + 5) = 101; omega
                                                                                                exact ret _ () dX8_isWord_158 (by decide) (Or.inl ⟨hw, rfl⟩) hP hD hS
                                                                                              · exact absurd c79 (by decide)
                                                                                        · exact absurd c73 (by decide)
                                                                                      · exact absurd c72 (by decide)
                                                                                    · exact absurd c71 (by decide)
                                                                                  · exact absurd c70 (by decide)
                                                                                · exact absurd c69 (by decide)
                                                                    · exact absurd c58 (by decide)
                                                                  · exact absurd c57 (by decide)
                                                                · exact absurd c56 (by decide)
                                                              · exact absurd c55 (by decide)
                                                  · exact absurd c44 (by decide)
                                                · exact absurd c43 (by decide)
                                              · exact absurd c42 (by decide)
                                  · exact absurd c31 (by decide)
                                · exact absurd c30 (by decide)
                    · exact absurd c19 (by decide)

set_option maxHeartbeats 4000000 in
set_option maxRecDepth 100000 in
theorem c_X8_isWord_7 (l : Launch) (D : va_G) (k : ta_C) (z : Nat → Nat) (kn : Nat) (no : Nat) (va : Nat) (L : Nat) (tx : Nat → Nat) (p0 : Nat) (hx0 : tx_ok tx L) (hp0 : p0 ≤ L) : ta_Mi (S := Unit) l D k yX8_isWord cX8_isWord 10 .boolean 0 0 [.ref (z 0), .int (nI 116), .int (nI 117), .int (nI 114), .int (nI 110), .int (nI 0), .int (nI 0)] [(z 0, .inr (8, [.ref (z 1), .int (nI L), .ref (z 2), .ref (z 3), .ref (z 4), .ref (z 5), .int (nI kn), .ref (z 6), .ref (z 7), .ref (z 8), .int (nI no), .int (nI (tn_e tx L p0)), .int (nI (mo_s tx L p0)), .int (nI (tn_s tx L p0)), .int (nI va), .ref (z 9)])), (z 1, .inl (k.1 0, 160, .inl (ta_e tx)))] (fun r _ => (tk_is tx (tn_s tx L p0) (tn_e tx L p0) 7 ∧ r = nI 1) ∨ (¬ tk_is tx (tn_s tx L p0) (tn_e tx L p0) 7 ∧ r = nI 0)) (fun u => [(z 0, .inr (8, [.ref (z 1), .int (nI L), .ref (z 2), .ref (z 3), .ref (z 4), .ref (z 5), .int (nI kn), .ref (z 6), .ref (z 7), .ref (z 8), .int (nI no), .int (nI (tn_e tx L p0)), .int (nI (mo_s tx L p0)), .int (nI (tn_s tx L p0)), .int (nI va), .ref (z 9)])), (z 1, .inl (k.1 0, 160, .inl (ta_e tx)))]) := by
  refine ta_enter_i (by decide) (Nat.le_of_ble_eq_true rfl) ?_
  intro p e s m below meth c A ls Q C ret hP hD hS hl
  have C : ta_At p l D k s m ([.ref (z 0), .int (nI 116), .int (nI 117), .int (nI 114), .int (nI 110), .int (nI 0), .int (nI 0)] : List Value).toArray c RX8 cX8_isWord 10 A := C
  have hx := C.1.1
  have hb := C.1.2.1
  have hl : lv_has ls 10 [(0, .ref (z 0)), (1, .int (nI 116)), (2, .int (nI 117)), (3, .int (nI 114)), (4, .int (nI 110)), (5, .int (nI 0)), (6, .int (nI 0))] := hl
  obtain ⟨H, hH⟩ : ∃ H, H = s.heap := ⟨_, rfl⟩
  obtain ⟨locs, hlocs⟩ : ∃ q : List Loc, q = [] := ⟨_, rfl⟩
  have hP : va_P D vwCl [(z 0, .inr (8, [.ref (z 1), .int (nI L), .ref (z 2), .ref (z 3), .ref (z 4), .ref (z 5), .int (nI kn), .ref (z 6), .ref (z 7), .ref (z 8), .int (nI no), .int (nI (tn_e tx L p0)), .int (nI (mo_s tx L p0)), .int (nI (tn_s tx L p0)), .int (nI va), .ref (z 9)])), (z 1, .inl (k.1 0, 160, .inl (ta_e tx)))] H := by rw [hH]; exact hP
  have hS : va_S A s.heap H locs := by rw [hH, hlocs]; exact hS
  rw [← hlocs]
  suffices hgoal : W p l e ({ frames := 0, cells := 0, slots := 0, locals := 0 }) s m ([.ref (z 0), .int (nI 116), .int (nI 117), .int (nI 114), .int (nI 110), .int (nI 0), .int (nI 0)] : List Value).toArray below meth c H locs 0 0 Q (F0 m 0 ls []) by rw [hH] at hgoal; exact hgoal
  clear hH hlocs
  obtain ⟨hL, hc⟩ := id hx0
  obtain ⟨b1, b2, b3, b4⟩ := tn_b (tx := tx) hp0
  have hms4 : mo_s tx L p0 < 4 := by unfold mo_s; have h4 := tx_s4 tx L (tn_s tx L p0); split <;> omega
  refine lv_aload_n hx hb dX8_isWord_0 rfl (lv_at hl 0 rfl) ?_
  refine ta_get C hP 0 inlX8 rfl rfl 12 (by decide) tw_310 rfl dX8_isWord_1 ?_
  refine ta_iconst C 1 dX8_isWord_4 (by decide) ?_
  refine ta_cne C (a := mo_s tx L p0) (b := 1) (tgt := 26) (by omega) (by omega) dX8_isWord_5 (by decide) (fun c1 => ?_) (fun c1 => ?_)
  · refine ta_iconst C 0 dX8_isWord_26 (by decide) ?_
    refine lv_istore (lv' := [(7, .int (nI 0)), (0, .ref (z 0)), (1, .int (nI 116)), (2, .int (nI 117)), (3, .int (nI 114)), (4, .int (nI 110)), (5, .int (nI 0)), (6, .int (nI 0))]) hx hb dX8_isWord_27 hl (by decide) rfl (fun ls hl => ?_)
    refine ta_iconst C 0 dX8_isWord_29 (by decide) ?_
    refine lv_istore (lv' := [(8, .int (nI 0)), (7, .int (nI 0)), (0, .ref (z 0)), (1, .int (nI 116)), (2, .int (nI 117)), (3, .int (nI 114)), (4, .int (nI 110)), (5, .int (nI 0)), (6, .int (nI 0))]) hx hb dX8_isWord_30 hl (by decide) rfl (fun ls hl => ?_)
    refine lv_iload hx hb dX8_isWord_32 (lv_at hl 0 rfl) ?_
    refine ta_bipush C 6 dX8_isWord_34 (by decide) ?_
    refine lv_icmp_ge (tgt := 156) hx hb dX8_isWord_36 (by decide) (fun c2 => ?_) (fun c2 => ?_)
    · exact absurd c2 (by decide)
    · refine lv_iload hx hb dX8_isWord_39 (lv_at hl 1 rfl) ?_
      refine lv_if_eq (tgt := 156) hx hb dX8_isWord_41 (by decide) (fun c3 => ?_) (fun c3 => ?_)
      · refine lv_iload hx hb dX8_isWord_156 (lv_at hl 1 rfl) ?_
        have hnw : ¬ tk_is tx (tn_s tx L p0) (tn_e tx L p0) 7 := fun h => by have h9 := mo_is1 (i := 7) (by decide) hp0 h; omega
        exact ret _ () dX8_isWord_158 (by decide) (Or.inr ⟨hnw, rfl⟩) hP hD hS
      · exact absurd c3 (by decide)
  · have hrow := mo_row c1
    refine lv_aload_n hx hb dX8_isWord_8 rfl (lv_at hl 0 rfl) ?_
    refine ta_get C hP 0 inlX8 rfl rfl 11 (by decide) tw_309 rfl dX8_isWord_9 ?_
    refine lv_aload_n hx hb dX8_isWord_12 rfl (lv_at hl 0 rfl) ?_
    refine ta_get C hP 0 inlX8 rfl rfl 13 (by decide) tw_304 rfl dX8_isWord_13 ?_
    refine ta_isub C (a := tn_e tx L p0) (b := tn_s tx L p0) (by omega) dX8_isWord_16 ?_
    refine ta_bipush C 7 dX8_isWord_17 (by decide) ?_
    refine ta_cge C (a := (tn_e tx L p0) - (tn_s tx L p0)) (b := 7) (tgt := 26) (by omega) (by omega) dX8_isWord_19 (by decide) (fun c4 => ?_) (fun c4 => ?_)
    · refine ta_iconst C 0 dX8_isWord_26 (by decide) ?_
      refine lv_istore (lv' := [(7, .int (nI 0)), (0, .ref (z 0)), (1, .int (nI 116)), (2, .int (nI 117)), (3, .int (nI 114)), (4, .int (nI 110)), (5, .int (nI 0)), (6, .int (nI 0))]) hx hb dX8_isWord_27 hl (by decide) rfl (fun ls hl => ?_)
      refine ta_iconst C 0 dX8_isWord_29 (by decide) ?_
      refine lv_istore (lv' := [(8, .int (nI 0)), (7, .int (nI 0)), (0, .ref (z 0)), (1, .int (nI 116)), (2, .int (nI 117)), (3, .int (nI 114)), (4, .int (nI 110)), (5, .int (nI 0)), (6, .int (nI 0))]) hx hb dX8_isWord_30 hl (by decide) rfl (fun ls hl => ?_)
      refine lv_iload hx hb dX8_isWord_32 (lv_at hl 0 rfl) ?_
      refine ta_bipush C 6 dX8_isWord_34 (by decide) ?_
      refine lv_icmp_ge (tgt := 156) hx hb dX8_isWord_36 (by decide) (fun c5 => ?_) (fun c5 => ?_)
      · exact absurd c5 (by decide)
      · refine lv_iload hx hb dX8_isWord_39 (lv_at hl 1 rfl) ?_
        refine lv_if_eq (tgt := 156) hx hb dX8_isWord_41 (by decide) (fun c6 => ?_) (fun c6 => ?_)
        · refine lv_iload hx hb dX8_isWord_156 (lv_at hl 1 rfl) ?_
          have hnw : ¬ tk_is tx (tn_s tx L p0) (tn_e tx L p0) 7 := fun h => by have h9 : tn_e tx L p0 - tn_s tx L p0 = 4 := h.1; omega
          exact ret _ () dX8_isWord_158 (by decide) (Or.inr ⟨hnw, rfl⟩) hP hD hS
        · exact absurd c6 (by decide)
    · refine ta_iconst C 1 dX8_isWord_22 (by decide) ?_
      refine lv_goto (tgt := 27) hx hb dX8_isWord_23 (by decide) ?_
      refine lv_istore (lv' := [(7, .int (nI 1)), (0, .ref (z 0)), (1, .int (nI 116)), (2, .int (nI 117)), (3, .int (nI 114)), (4, .int (nI 110)), (5, .int (nI 0)), (6, .int (nI 0))]) hx hb dX8_isWord_27 hl (by decide) rfl (fun ls hl => ?_)
      refine ta_iconst C 0 dX8_isWord_29 (by decide) ?_
      refine lv_istore (lv' := [(8, .int (nI 0)), (7, .int (nI 1)), (0, .ref (z 0)), (1, .int (nI 116)), (2, .int (nI 117)), (3, .int (nI 114)), (4, .int (nI 110)), (5, .int (nI 0)), (6, .int (nI 0))]) hx hb dX8_isWord_30 hl (by decide) rfl (fun ls hl => ?_)
      refine lv_iload hx hb dX8_isWord_32 (lv_at hl 0 rfl) ?_
      refine ta_bipush C 6 dX8_isWord_34 (by decide) ?_
      refine lv_icmp_ge (tgt := 156) hx hb dX8_isWord_36 (by decide) (fun c7 => ?_) (fun c7 => ?_)
      · exact absurd c7 (by decide)
      · refine lv_iload hx hb dX8_isWord_39 (lv_at hl 1 rfl) ?_
        refine lv_if_eq (tgt := 156) hx hb dX8_isWord_41 (by decide) (fun c8 => ?_) (fun c8 => ?_)
        · exact absurd c8 (by decide)
        · refine lv_iload hx hb dX8_isWord_44 (lv_at hl 0 rfl) ?_
          refine lv_if_ne (tgt := 53) hx hb dX8_isWord_46 (by decide) (fun c9 => ?_) (fun c9 => ?_)
          · exact absurd c9 (by decide)
          · refine lv_iload_n hx hb dX8_isWord_49 rfl (lv_at hl 3 rfl) ?_
            refine lv_goto (tgt := 97) hx hb dX8_isWord_50 (by decide) ?_
            refine lv_istore (lv' := [(9, .int (nI 116)), (8, .int (nI 0)), (7, .int (nI 1)), (0, .ref (z 0)), (1, .int (nI 116)), (2, .int (nI 117)), (3, .int (nI 114)), (4, .int (nI 110)), (5, .int (nI 0)), (6, .int (nI 0))]) hx hb dX8_isWord_97 hl (by decide) rfl (fun ls hl => ?_)
            refine lv_aload_n hx hb dX8_isWord_99 rfl (lv_at hl 3 rfl) ?_
            refine ta_get C hP 0 inlX8 rfl rfl 13 (by decide) tw_304 rfl dX8_isWord_100 ?_
            refine lv_iload hx hb dX8_isWord_103 (lv_at hl 1 rfl) ?_
            refine ta_iadd C (a := tn_s tx L p0) (b := 0) dX8_isWord_105 ?_
            refine lv_aload_n hx hb dX8_isWord_106 rfl (lv_at hl 3 rfl) ?_
            refine ta_get C hP 0 inlX8 rfl rfl 11 (by decide) tw_309 rfl dX8_isWord_107 ?_
            refine ta_cge C (a := (tn_s tx L p0) + 0) (b := tn_e tx L p0) (tgt := 138) (by omega) (by omega) dX8_isWord_110 (by decide) (fun c10 => ?_) (fun c10 => ?_)
            · refine lv_iload hx hb dX8_isWord_138 (lv_at hl 0 rfl) ?_
              refine lv_if_ne (tgt := 147) hx hb dX8_isWord_140 (by decide) (fun c11 => ?_) (fun c11 => ?_)
              · refine ta_iconst C 0 dX8_isWord_147 (by decide) ?_
                refine lv_istore (lv' := [(7, .int (nI 0)), (9, .int (nI 116)), (8, .int (nI 0)), (0, .ref (z 0)), (1, .int (nI 116)), (2, .int (nI 117)), (3, .int (nI 114)), (4, .int (nI 110)), (5, .int (nI 0)), (6, .int (nI 0))]) hx hb dX8_isWord_148 hl (by decide) rfl (fun ls hl => ?_)
                refine lv_iinc (v := nI 1) (lv' := [(8, .int (nI 1)), (7, .int (nI 0)), (9, .int (nI 116)), (0, .ref (z 0)), (1, .int (nI 116)), (2, .int (nI 117)), (3, .int (nI 114)), (4, .int (nI 110)), (5, .int (nI 0)), (6, .int (nI 0))]) hx hb dX8_isWord_150 hl (k := 2) rfl (by decide) (by decide) rfl (fun ls hl => ?_)
                refine lv_goto (tgt := 32) hx hb dX8_isWord_153 (by decide) ?_
                refine lv_iload hx hb dX8_isWord_32 (lv_at hl 0 rfl) ?_
                refine ta_bipush C 6 dX8_isWord_34 (by decide) ?_
                refine lv_icmp_ge (tgt := 156) hx hb dX8_isWord_36 (by decide) (fun c12 => ?_) (fun c12 => ?_)
                · exact absurd c12 (by decide)
                · refine lv_iload hx hb dX8_isWord_39 (lv_at hl 1 rfl) ?_
                  refine lv_if_eq (tgt := 156) hx hb dX8_isWord_41 (by decide) (fun c13 => ?_) (fun c13 => ?_)
                  · refine lv_iload hx hb dX8_isWord_156 (lv_at hl 1 rfl) ?_
                    have hnw : ¬ tk_is tx (tn_s tx L p0) (tn_e tx L p0) 7 := by
                      intro h
                      have h9 : tn_e tx L p0 - tn_s tx L p0 = 4 := h.1
                      have h8 : tx (tn_s tx L p0 + 0) = 116 := h.2 0 (by decide)
                      omega
                    exact ret _ () dX8_isWord_158 (by decide) (Or.inr ⟨hnw, rfl⟩) hP hD hS
                  · exact absurd c13 (by decide)
              · exact absurd c11 (by decide)
            · have hr0 := hrow (tn_s tx L p0 + 0) (by omega) (by omega)
              refine lv_aload_n hx hb dX8_isWord_113 rfl (lv_at hl 3 rfl) ?_
              refine ta_get C hP 0 inlX8 rfl rfl 0 (by decide) tw_125 rfl dX8_isWord_114 ?_
              refine lv_aload_n hx hb dX8_isWord_117 rfl (lv_at hl 3 rfl) ?_
              refine ta_get C hP 0 inlX8 rfl rfl 13 (by decide) tw_304 rfl dX8_isWord_118 ?_
              refine lv_iload hx hb dX8_isWord_121 (lv_at hl 1 rfl) ?_
              refine ta_iadd C (a := tn_s tx L p0) (b := 0) dX8_isWord_123 ?_
              refine ta_iald C hP 1 rfl (i := (tn_s tx L p0) + 0) (by omega) dX8_isWord_124 ?_
              refine lv_iload hx hb dX8_isWord_125 (lv_at hl 0 rfl) ?_
              refine ta_cne C (a := tx ((tn_s tx L p0) + 0)) (b := 116) (tgt := 134) (by omega) (by omega) dX8_isWord_127 (by decide) (fun c14 => ?_) (fun c14 => ?_)
              · refine ta_iconst C 0 dX8_isWord_134 (by decide) ?_
                refine lv_goto (tgt := 148) hx hb dX8_isWord_135 (by decide) ?_
                refine lv_istore (lv' := [(7, .int (nI 0)), (9, .int (nI 116)), (8, .int (nI 0)), (0, .ref (z 0)), (1, .int (nI 116)), (2, .int (nI 117)), (3, .int (nI 114)), (4, .int (nI 110)), (5, .int (nI 0)), (6, .int (nI 0))]) hx hb dX8_isWord_148 hl (by decide) rfl (fun ls hl => ?_)
                refine lv_iinc (v := nI 1) (lv' := [(8, .int (nI 1)), (7, .int (nI 0)), (9, .int (nI 116)), (0, .ref (z 0)), (1, .int (nI 116)), (2, .int (nI 117)), (3, .int (nI 114)), (4, .int (nI 110)), (5, .int (nI 0)), (6, .int (nI 0))]) hx hb dX8_isWord_150 hl (k := 2) rfl (by decide) (by decide) rfl (fun ls hl => ?_)
                refine lv_goto (tgt := 32) hx hb dX8_isWord_153 (by decide) ?_
                refine lv_iload hx hb dX8_isWord_32 (lv_at hl 0 rfl) ?_
                refine ta_bipush C 6 dX8_isWord_34 (by decide) ?_
                refine lv_icmp_ge (tgt := 156) hx hb dX8_isWord_36 (by decide) (fun c15 => ?_) (fun c15 => ?_)
                · exact absurd c15 (by decide)
                · refine lv_iload hx hb dX8_isWord_39 (lv_at hl 1 rfl) ?_
                  refine lv_if_eq (tgt := 156) hx hb dX8_isWord_41 (by decide) (fun c16 => ?_) (fun c16 => ?_)
                  · refine lv_iload hx hb dX8_isWord_156 (lv_at hl 1 rfl) ?_
                    have hnw : ¬ tk_is tx (tn_s tx L p0) (tn_e tx L p0) 7 := by
                      intro h
                      have h9 : tn_e tx L p0 - tn_s tx L p0 = 4 := h.1
                      have h8 : tx (tn_s tx L p0 + 0) = 116 := h.2 0 (by decide)
                      omega
                    exact ret _ () dX8_isWord_158 (by decide) (Or.inr ⟨hnw, rfl⟩) hP hD hS
                  · exact absurd c16 (by decide)
              · refine ta_iconst C 1 dX8_isWord_130 (by decide) ?_
                refine lv_goto (tgt := 148) hx hb dX8_isWord_131 (by decide) ?_
                refine lv_istore (lv' := [(7, .int (nI 1)), (9, .int (nI 116)), (8, .int (nI 0)), (0, .ref (z 0)), (1, .int (nI 116)), (2, .int (nI 117)), (3, .int (nI 114)), (4, .int (nI 110)), (5, .int (nI 0)), (6, .int (nI 0))]) hx hb dX8_isWord_148 hl (by decide) rfl (fun ls hl => ?_)
                refine lv_iinc (v := nI 1) (lv' := [(8, .int (nI 1)), (7, .int (nI 1)), (9, .int (nI 116)), (0, .ref (z 0)), (1, .int (nI 116)), (2, .int (nI 117)), (3, .int (nI 114)), (4, .int (nI 110)), (5, .int (nI 0)), (6, .int (nI 0))]) hx hb dX8_isWord_150 hl (k := 2) rfl (by decide) (by decide) rfl (fun ls hl => ?_)
                refine lv_goto (tgt := 32) hx hb dX8_isWord_153 (by decide) ?_
                refine lv_iload hx hb dX8_isWord_32 (lv_at hl 0 rfl) ?_
                refine ta_bipush C 6 dX8_isWord_34 (by decide) ?_
                refine lv_icmp_ge (tgt := 156) hx hb dX8_isWord_36 (by decide) (fun c17 => ?_) (fun c17 => ?_)
                · exact absurd c17 (by decide)
                · refine lv_iload hx hb dX8_isWord_39 (lv_at hl 1 rfl) ?_
                  refine lv_if_eq (tgt := 156) hx hb dX8_isWord_41 (by decide) (fun c18 => ?_) (fun c18 => ?_)
                  · exact absurd c18 (by decide)
                  · refine lv_iload hx hb dX8_isWord_44 (lv_at hl 0 rfl) ?_
                    refine lv_if_ne (tgt := 53) hx hb dX8_isWord_46 (by decide) (fun c19 => ?_) (fun c19 => ?_)
                    · refine lv_iload hx hb dX8_isWord_53 (lv_at hl 0 rfl) ?_
                      refine ta_iconst C 1 dX8_isWord_55 (by decide) ?_
                      refine lv_icmp_ne (tgt := 63) hx hb dX8_isWord_56 (by decide) (fun c20 => ?_) (fun c20 => ?_)
                      · exact absurd c20 (by decide)
                      · refine lv_iload_n hx hb dX8_isWord_59 rfl (lv_at hl 5 rfl) ?_
                        refine lv_goto (tgt := 97) hx hb dX8_isWord_60 (by decide) ?_
                        refine lv_istore (lv' := [(9, .int (nI 117)), (8, .int (nI 1)), (7, .int (nI 1)), (0, .ref (z 0)), (1, .int (nI 116)), (2, .int (nI 117)), (3, .int (nI 114)), (4, .int (nI 110)), (5, .int (nI 0)), (6, .int (nI 0))]) hx hb dX8_isWord_97 hl (by decide) rfl (fun ls hl => ?_)
                        refine lv_aload_n hx hb dX8_isWord_99 rfl (lv_at hl 3 rfl) ?_
                        refine ta_get C hP 0 inlX8 rfl rfl 13 (by decide) tw_304 rfl dX8_isWord_100 ?_
                        refine lv_iload hx hb dX8_isWord_103 (lv_at hl 1 rfl) ?_
                        refine ta_iadd C (a := tn_s tx L p0) (b := 1) dX8_isWord_105 ?_
                        refine lv_aload_n hx hb dX8_isWord_106 rfl (lv_at hl 3 rfl) ?_
                        refine ta_get C hP 0 inlX8 rfl rfl 11 (by decide) tw_309 rfl dX8_isWord_107 ?_
                        refine ta_cge C (a := (tn_s tx L p0) + 1) (b := tn_e tx L p0) (tgt := 138) (by omega) (by omega) dX8_isWord_110 (by decide) (fun c21 => ?_) (fun c21 => ?_)
                        · refine lv_iload hx hb dX8_isWord_138 (lv_at hl 0 rfl) ?_
                          refine lv_if_ne (tgt := 147) hx hb dX8_isWord_140 (by decide) (fun c22 => ?_) (fun c22 => ?_)
                          · refine ta_iconst C 0 dX8_isWord_147 (by decide) ?_
                            refine lv_istore (lv' := [(7, .int (nI 0)), (9, .int (nI 117)), (8, .int (nI 1)), (0, .ref (z 0)), (1, .int (nI 116)), (2, .int (nI 117)), (3, .int (nI 114)), (4, .int (nI 110)), (5, .int (nI 0)), (6, .int (nI 0))]) hx hb dX8_isWord_148 hl (by decide) rfl (fun ls hl => ?_)
                            refine lv_iinc (v := nI 2) (lv' := [(8, .int (nI 2)), (7, .int (nI 0)), (9, .int (nI 117)), (0, .ref (z 0)), (1, .int (nI 116)), (2, .int (nI 117)), (3, .int (nI 114)), (4, .int (nI 110)), (5, .int (nI 0)), (6, .int (nI 0))]) hx hb dX8_isWord_150 hl (k := 2) rfl (by decide) (by decide) rfl (fun ls hl => ?_)
                            refine lv_goto (tgt := 32) hx hb dX8_isWord_153 (by decide) ?_
                            refine lv_iload hx hb dX8_isWord_32 (lv_at hl 0 rfl) ?_
                            refine ta_bipush C 6 dX8_isWord_34 (by decide) ?_
                            refine lv_icmp_ge (tgt := 156) hx hb dX8_isWord_36 (by decide) (fun c23 => ?_) (fun c23 => ?_)
                            · exact absurd c23 (by decide)
                            · refine lv_iload hx hb dX8_isWord_39 (lv_at hl 1 rfl) ?_
                              refine lv_if_eq (tgt := 156) hx hb dX8_isWord_41 (by decide) (fun c24 => ?_) (fun c24 => ?_)
                              · refine lv_iload hx hb dX8_isWord_156 (lv_at hl 1 rfl) ?_
                                have hnw : ¬ tk_is tx (tn_s tx L p0) (tn_e tx L p0) 7 := by
                                  intro h
                                  have h9 : tn_e tx L p0 - tn_s tx L p0 = 4 := h.1
                                  have h8 : tx (tn_s tx L p0 + 1) = 117 := h.2 1 (by decide)
                                  omega
                                exact ret _ () dX8_isWord_158 (by decide) (Or.inr ⟨hnw, rfl⟩) hP hD hS
                              · exact absurd c24 (by decide)
                          · exact absurd c22 (by decide)
                        · have hr1 := hrow (tn_s tx L p0 + 1) (by omega) (by omega)
                          refine lv_aload_n hx hb dX8_isWord_113 rfl (lv_at hl 3 rfl) ?_
                          refine ta_get C hP 0 inlX8 rfl rfl 0 (by decide) tw_125 rfl dX8_isWord_114 ?_
                          refine lv_aload_n hx hb dX8_isWord_117 rfl (lv_at hl 3 rfl) ?_
                          refine ta_get C hP 0 inlX8 rfl rfl 13 (by decide) tw_304 rfl dX8_isWord_118 ?_
                          refine lv_iload hx hb dX8_isWord_121 (lv_at hl 1 rfl) ?_
                          refine ta_iadd C (a := tn_s tx L p0) (b := 1) dX8_isWord_123 ?_
                          refine ta_iald C hP 1 rfl (i := (tn_s tx L p0) + 1) (by omega) dX8_isWord_124 ?_
                          refine lv_iload hx hb dX8_isWord_125 (lv_at hl 0 rfl) ?_
                          refine ta_cne C (a := tx ((tn_s tx L p0) + 1)) (b := 117) (tgt := 134) (by omega) (by omega) dX8_isWord_127 (by decide) (fun c25 => ?_) (fun c25 => ?_)
                          · refine ta_iconst C 0 dX8_isWord_134 (by decide) ?_
                            refine lv_goto (tgt := 148) hx hb dX8_isWord_135 (by decide) ?_
                            refine lv_istore (lv' := [(7, .int (nI 0)), (9, .int (nI 117)), (8, .int (nI 1)), (0, .ref (z 0)), (1, .int (nI 116)), (2, .int (nI 117)), (3, .int (nI 114)), (4, .int (nI 110)), (5, .int (nI 0)), (6, .int (nI 0))]) hx hb dX8_isWord_148 hl (by decide) rfl (fun ls hl => ?_)
                            refine lv_iinc (v := nI 2) (lv' := [(8, .int (nI 2)), (7, .int (nI 0)), (9, .int (nI 117)), (0, .ref (z 0)), (1, .int (nI 116)), (2, .int (nI 117)), (3, .int (nI 114)), (4, .int (nI 110)), (5, .int (nI 0)), (6, .int (nI 0))]) hx hb dX8_isWord_150 hl (k := 2) rfl (by decide) (by decide) rfl (fun ls hl => ?_)
                            refine lv_goto (tgt := 32) hx hb dX8_isWord_153 (by decide) ?_
                            refine lv_iload hx hb dX8_isWord_32 (lv_at hl 0 rfl) ?_
                            refine ta_bipush C 6 dX8_isWord_34 (by decide) ?_
                            refine lv_icmp_ge (tgt := 156) hx hb dX8_isWord_36 (by decide) (fun c26 => ?_) (fun c26 => ?_)
                            · exact absurd c26 (by decide)
                            · refine lv_iload hx hb dX8_isWord_39 (lv_at hl 1 rfl) ?_
                              refine lv_if_eq (tgt := 156) hx hb dX8_isWord_41 (by decide) (fun c27 => ?_) (fun c27 => ?_)
                              · refine lv_iload hx hb dX8_isWord_156 (lv_at hl 1 rfl) ?_
                                have hnw : ¬ tk_is tx (tn_s tx L p0) (tn_e tx L p0) 7 := by
                                  intro h
                                  have h9 : tn_e tx L p0 - tn_s tx L p0 = 4 := h.1
                                  have h8 : tx (tn_s tx L p0 + 1) = 117 := h.2 1 (by decide)
                                  omega
                                exact ret _ () dX8_isWord_158 (by decide) (Or.inr ⟨hnw, rfl⟩) hP hD hS
                              · exact absurd c27 (by decide)
                          · refine ta_iconst C 1 dX8_isWord_130 (by decide) ?_
                            refine lv_goto (tgt := 148) hx hb dX8_isWord_131 (by decide) ?_
                            refine lv_istore (lv' := [(7, .int (nI 1)), (9, .int (nI 117)), (8, .int (nI 1)), (0, .ref (z 0)), (1, .int (nI 116)), (2, .int (nI 117)), (3, .int (nI 114)), (4, .int (nI 110)), (5, .int (nI 0)), (6, .int (nI 0))]) hx hb dX8_isWord_148 hl (by decide) rfl (fun ls hl => ?_)
                            refine lv_iinc (v := nI 2) (lv' := [(8, .int (nI 2)), (7, .int (nI 1)), (9, .int (nI 117)), (0, .ref (z 0)), (1, .int (nI 116)), (2, .int (nI 117)), (3, .int (nI 114)), (4, .int (nI 110)), (5, .int (nI 0)), (6, .int (nI 0))]) hx hb dX8_isWord_150 hl (k := 2) rfl (by decide) (by decide) rfl (fun ls hl => ?_)
                            refine lv_goto (tgt := 32) hx hb dX8_isWord_153 (by decide) ?_
                            refine lv_iload hx hb dX8_isWord_32 (lv_at hl 0 rfl) ?_
                            refine ta_bipush C 6 dX8_isWord_34 (by decide) ?_
                            refine lv_icmp_ge (tgt := 156) hx hb dX8_isWord_36 (by decide) (fun c28 => ?_) (fun c28 => ?_)
                            · exact absurd c28 (by decide)
                            · refine lv_iload hx hb dX8_isWord_39 (lv_at hl 1 rfl) ?_
                              refine lv_if_eq (tgt := 156) hx hb dX8_isWord_41 (by decide) (fun c29 => ?_) (fun c29 => ?_)
                              · exact absurd c29 (by decide)
                              · refine lv_iload hx hb dX8_isWord_44 (lv_at hl 0 rfl) ?_
                                refine lv_if_ne (tgt := 53) hx hb dX8_isWord_46 (by decide) (fun c30 => ?_) (fun c30 => ?_)
                                · refine lv_iload hx hb dX8_isWord_53 (lv_at hl 0 rfl) ?_
                                  refine ta_iconst C 1 dX8_isWord_55 (by decide) ?_
                                  refine lv_icmp_ne (tgt := 63) hx hb dX8_isWord_56 (by decide) (fun c31 => ?_) (fun c31 => ?_)
                                  · refine lv_iload hx hb dX8_isWord_63 (lv_at hl 0 rfl) ?_
                                    refine ta_iconst C 2 dX8_isWord_65 (by decide) ?_
                                    refine lv_icmp_ne (tgt := 73) hx hb dX8_isWord_66 (by decide) (fun c32 => ?_) (fun c32 => ?_)
                                    · exact absurd c32 (by decide)
                                    · refine lv_iload_n hx hb dX8_isWord_69 rfl (lv_at hl 6 rfl) ?_
                                      refine lv_goto (tgt := 97) hx hb dX8_isWord_70 (by decide) ?_
                                      refine lv_istore (lv' := [(9, .int (nI 114)), (8, .int (nI 2)), (7, .int (nI 1)), (0, .ref (z 0)), (1, .int (nI 116)), (2, .int (nI 117)), (3, .int (nI 114)), (4, .int (nI 110)), (5, .int (nI 0)), (6, .int (nI 0))]) hx hb dX8_isWord_97 hl (by decide) rfl (fun ls hl => ?_)
                                      refine lv_aload_n hx hb dX8_isWord_99 rfl (lv_at hl 3 rfl) ?_
                                      refine ta_get C hP 0 inlX8 rfl rfl 13 (by decide) tw_304 rfl dX8_isWord_100 ?_
                                      refine lv_iload hx hb dX8_isWord_103 (lv_at hl 1 rfl) ?_
                                      refine ta_iadd C (a := tn_s tx L p0) (b := 2) dX8_isWord_105 ?_
                                      refine lv_aload_n hx hb dX8_isWord_106 rfl (lv_at hl 3 rfl) ?_
                                      refine ta_get C hP 0 inlX8 rfl rfl 11 (by decide) tw_309 rfl dX8_isWord_107 ?_
                                      refine ta_cge C (a := (tn_s tx L p0) + 2) (b := tn_e tx L p0) (tgt := 138) (by omega) (by omega) dX8_isWord_110 (by decide) (fun c33 => ?_) (fun c33 => ?_)
                                      · refine lv_iload hx hb dX8_isWord_138 (lv_at hl 0 rfl) ?_
                                        refine lv_if_ne (tgt := 147) hx hb dX8_isWord_140 (by decide) (fun c34 => ?_) (fun c34 => ?_)
                                        · refine ta_iconst C 0 dX8_isWord_147 (by decide) ?_
                                          refine lv_istore (lv' := [(7, .int (nI 0)), (9, .int (nI 114)), (8, .int (nI 2)), (0, .ref (z 0)), (1, .int (nI 116)), (2, .int (nI 117)), (3, .int (nI 114)), (4, .int (nI 110)), (5, .int (nI 0)), (6, .int (nI 0))]) hx hb dX8_isWord_148 hl (by decide) rfl (fun ls hl => ?_)
                                          refine lv_iinc (v := nI 3) (lv' := [(8, .int (nI 3)), (7, .int (nI 0)), (9, .int (nI 114)), (0, .ref (z 0)), (1, .int (nI 116)), (2, .int (nI 117)), (3, .int (nI 114)), (4, .int (nI 110)), (5, .int (nI 0)), (6, .int (nI 0))]) hx hb dX8_isWord_150 hl (k := 2) rfl (by decide) (by decide) rfl (fun ls hl => ?_)
                                          refine lv_goto (tgt := 32) hx hb dX8_isWord_153 (by decide) ?_
                                          refine lv_iload hx hb dX8_isWord_32 (lv_at hl 0 rfl) ?_
                                          refine ta_bipush C 6 dX8_isWord_34 (by decide) ?_
                                          refine lv_icmp_ge (tgt := 156) hx hb dX8_isWord_36 (by decide) (fun c35 => ?_) (fun c35 => ?_)
                                          · exact absurd c35 (by decide)
                                          · refine lv_iload hx hb dX8_isWord_39 (lv_at hl 1 rfl) ?_
                                            refine lv_if_eq (tgt := 156) hx hb dX8_isWord_41 (by decide) (fun c36 => ?_) (fun c36 => ?_)
                                            · refine lv_iload hx hb dX8_isWord_156 (lv_at hl 1 rfl) ?_
                                              have hnw : ¬ tk_is tx (tn_s tx L p0) (tn_e tx L p0) 7 := by
                                                intro h
                                                have h9 : tn_e tx L p0 - tn_s tx L p0 = 4 := h.1
                                                have h8 : tx (tn_s tx L p0 + 2) = 114 := h.2 2 (by decide)
                                                omega
                                              exact ret _ () dX8_isWord_158 (by decide) (Or.inr ⟨hnw, rfl⟩) hP hD hS
                                            · exact absurd c36 (by decide)
                                        · exact absurd c34 (by decide)
                                      · have hr2 := hrow (tn_s tx L p0 + 2) (by omega) (by omega)
                                        refine lv_aload_n hx hb dX8_isWord_113 rfl (lv_at hl 3 rfl) ?_
                                        refine ta_get C hP 0 inlX8 rfl rfl 0 (by decide) tw_125 rfl dX8_isWord_114 ?_
                                        refine lv_aload_n hx hb dX8_isWord_117 rfl (lv_at hl 3 rfl) ?_
                                        refine ta_get C hP 0 inlX8 rfl rfl 13 (by decide) tw_304 rfl dX8_isWord_118 ?_
                                        refine lv_iload hx hb dX8_isWord_121 (lv_at hl 1 rfl) ?_
                                        refine ta_iadd C (a := tn_s tx L p0) (b := 2) dX8_isWord_123 ?_
                                        refine ta_iald C hP 1 rfl (i := (tn_s tx L p0) + 2) (by omega) dX8_isWord_124 ?_
                                        refine lv_iload hx hb dX8_isWord_125 (lv_at hl 0 rfl) ?_
                                        refine ta_cne C (a := tx ((tn_s tx L p0) + 2)) (b := 114) (tgt := 134) (by omega) (by omega) dX8_isWord_127 (by decide) (fun c37 => ?_) (fun c37 => ?_)
                                        · refine ta_iconst C 0 dX8_isWord_134 (by decide) ?_
                                          refine lv_goto (tgt := 148) hx hb dX8_isWord_135 (by decide) ?_
                                          refine lv_istore (lv' := [(7, .int (nI 0)), (9, .int (nI 114)), (8, .int (nI 2)), (0, .ref (z 0)), (1, .int (nI 116)), (2, .int (nI 117)), (3, .int (nI 114)), (4, .int (nI 110)), (5, .int (nI 0)), (6, .int (nI 0))]) hx hb dX8_isWord_148 hl (by decide) rfl (fun ls hl => ?_)
                                          refine lv_iinc (v := nI 3) (lv' := [(8, .int (nI 3)), (7, .int (nI 0)), (9, .int (nI 114)), (0, .ref (z 0)), (1, .int (nI 116)), (2, .int (nI 117)), (3, .int (nI 114)), (4, .int (nI 110)), (5, .int (nI 0)), (6, .int (nI 0))]) hx hb dX8_isWord_150 hl (k := 2) rfl (by decide) (by decide) rfl (fun ls hl => ?_)
                                          refine lv_goto (tgt := 32) hx hb dX8_isWord_153 (by decide) ?_
                                          refine lv_iload hx hb dX8_isWord_32 (lv_at hl 0 rfl) ?_
                                          refine ta_bipush C 6 dX8_isWord_34 (by decide) ?_
                                          refine lv_icmp_ge (tgt := 156) hx hb dX8_isWord_36 (by decide) (fun c38 => ?_) (fun c38 => ?_)
                                          · exact absurd c38 (by decide)
                                          · refine lv_iload hx hb dX8_isWord_39 (lv_at hl 1 rfl) ?_
                                            refine lv_if_eq (tgt := 156) hx hb dX8_isWord_41 (by decide) (fun c39 => ?_) (fun c39 => ?_)
                                            · refine lv_iload hx hb dX8_isWord_156 (lv_at hl 1 rfl) ?_
                                              have hnw : ¬ tk_is tx (tn_s tx L p0) (tn_e tx L p0) 7 := by
                                                intro h
                                                have h9 : tn_e tx L p0 - tn_s tx L p0 = 4 := h.1
                                                have h8 : tx (tn_s tx L p0 + 2) = 114 := h.2 2 (by decide)
                                                omega
                                              exact ret _ () dX8_isWord_158 (by decide) (Or.inr ⟨hnw, rfl⟩) hP hD hS
                                            · exact absurd c39 (by decide)
                                        · refine ta_iconst C 1 dX8_isWord_130 (by decide) ?_
                                          refine lv_goto (tgt := 148) hx hb dX8_isWord_131 (by decide) ?_
                                          refine lv_istore (lv' := [(7, .int (nI 1)), (9, .int (nI 114)), (8, .int (nI 2)), (0, .ref (z 0)), (1, .int (nI 116)), (2, .int (nI 117)), (3, .int (nI 114)), (4, .int (nI 110)), (5, .int (nI 0)), (6, .int (nI 0))]) hx hb dX8_isWord_148 hl (by decide) rfl (fun ls hl => ?_)
                                          refine lv_iinc (v := nI 3) (lv' := [(8, .int (nI 3)), (7, .int (nI 1)), (9, .int (nI 114)), (0, .ref (z 0)), (1, .int (nI 116)), (2, .int (nI 117)), (3, .int (nI 114)), (4, .int (nI 110)), (5, .int (nI 0)), (6, .int (nI 0))]) hx hb dX8_isWord_150 hl (k := 2) rfl (by decide) (by decide) rfl (fun ls hl => ?_)
                                          refine lv_goto (tgt := 32) hx hb dX8_isWord_153 (by decide) ?_
                                          refine lv_iload hx hb dX8_isWord_32 (lv_at hl 0 rfl) ?_
                                          refine ta_bipush C 6 dX8_isWord_34 (by decide) ?_
                                          refine lv_icmp_ge (tgt := 156) hx hb dX8_isWord_36 (by decide) (fun c40 => ?_) (fun c40 => ?_)
                                          · exact absurd c40 (by decide)
                                          · refine lv_iload hx hb dX8_isWord_39 (lv_at hl 1 rfl) ?_
                                            refine lv_if_eq (tgt := 156) hx hb dX8_isWord_41 (by decide) (fun c41 => ?_) (fun c41 => ?_)
                                            · exact absurd c41 (by decide)
                                            · refine lv_iload hx hb dX8_isWord_44 (lv_at hl 0 rfl) ?_
                                              refine lv_if_ne (tgt := 53) hx hb dX8_isWord_46 (by decide) (fun c42 => ?_) (fun c42 => ?_)
                                              · refine lv_iload hx hb dX8_isWord_53 (lv_at hl 0 rfl) ?_
                                                refine ta_iconst C 1 dX8_isWord_55 (by decide) ?_
                                                refine lv_icmp_ne (tgt := 63) hx hb dX8_isWord_56 (by decide) (fun c43 => ?_) (fun c43 => ?_)
                                                · refine lv_iload hx hb dX8_isWord_63 (lv_at hl 0 rfl) ?_
                                                  refine ta_iconst C 2 dX8_isWord_65 (by decide) ?_
                                                  refine lv_icmp_ne (tgt := 73) hx hb dX8_isWord_66 (by decide) (fun c44 => ?_) (fun c44 => ?_)
                                                  · refine lv_iload hx hb dX8_isWord_73 (lv_at hl 0 rfl) ?_
                                                    refine ta_iconst C 3 dX8_isWord_75 (by decide) ?_
                                                    refine lv_icmp_ne (tgt := 84) hx hb dX8_isWord_76 (by decide) (fun c45 => ?_) (fun c45 => ?_)
                                                    · exact absurd c45 (by decide)
                                                    · refine lv_iload hx hb dX8_isWord_79 (lv_at hl 7 rfl) ?_
                                                      refine lv_goto (tgt := 97) hx hb dX8_isWord_81 (by decide) ?_
                                                      refine lv_istore (lv' := [(9, .int (nI 110)), (8, .int (nI 3)), (7, .int (nI 1)), (0, .ref (z 0)), (1, .int (nI 116)), (2, .int (nI 117)), (3, .int (nI 114)), (4, .int (nI 110)), (5, .int (nI 0)), (6, .int (nI 0))]) hx hb dX8_isWord_97 hl (by decide) rfl (fun ls hl => ?_)
                                                      refine lv_aload_n hx hb dX8_isWord_99 rfl (lv_at hl 3 rfl) ?_
                                                      refine ta_get C hP 0 inlX8 rfl rfl 13 (by decide) tw_304 rfl dX8_isWord_100 ?_
                                                      refine lv_iload hx hb dX8_isWord_103 (lv_at hl 1 rfl) ?_
                                                      refine ta_iadd C (a := tn_s tx L p0) (b := 3) dX8_isWord_105 ?_
                                                      refine lv_aload_n hx hb dX8_isWord_106 rfl (lv_at hl 3 rfl) ?_
                                                      refine ta_get C hP 0 inlX8 rfl rfl 11 (by decide) tw_309 rfl dX8_isWord_107 ?_
                                                      refine ta_cge C (a := (tn_s tx L p0) + 3) (b := tn_e tx L p0) (tgt := 138) (by omega) (by omega) dX8_isWord_110 (by decide) (fun c46 => ?_) (fun c46 => ?_)
                                                      · refine lv_iload hx hb dX8_isWord_138 (lv_at hl 0 rfl) ?_
                                                        refine lv_if_ne (tgt := 147) hx hb dX8_isWord_140 (by decide) (fun c47 => ?_) (fun c47 => ?_)
                                                        · refine ta_iconst C 0 dX8_isWord_147 (by decide) ?_
                                                          refine lv_istore (lv' := [(7, .int (nI 0)), (9, .int (nI 110)), (8, .int (nI 3)), (0, .ref (z 0)), (1, .int (nI 116)), (2, .int (nI 117)), (3, .int (nI 114)), (4, .int (nI 110)), (5, .int (nI 0)), (6, .int (nI 0))]) hx hb dX8_isWord_148 hl (by decide) rfl (fun ls hl => ?_)
                                                          refine lv_iinc (v := nI 4) (lv' := [(8, .int (nI 4)), (7, .int (nI 0)), (9, .int (nI 110)), (0, .ref (z 0)), (1, .int (nI 116)), (2, .int (nI 117)), (3, .int (nI 114)), (4, .int (nI 110)), (5, .int (nI 0)), (6, .int (nI 0))]) hx hb dX8_isWord_150 hl (k := 2) rfl (by decide) (by decide) rfl (fun ls hl => ?_)
                                                          refine lv_goto (tgt := 32) hx hb dX8_isWord_153 (by decide) ?_
                                                          refine lv_iload hx hb dX8_isWord_32 (lv_at hl 0 rfl) ?_
                                                          refine ta_bipush C 6 dX8_isWord_34 (by decide) ?_
                                                          refine lv_icmp_ge (tgt := 156) hx hb dX8_isWord_36 (by decide) (fun c48 => ?_) (fun c48 => ?_)
                                                          · exact absurd c48 (by decide)
                                                          · refine lv_iload hx hb dX8_isWord_39 (lv_at hl 1 rfl) ?_
                                                            refine lv_if_eq (tgt := 156) hx hb dX8_isWord_41 (by decide) (fun c49 => ?_) (fun c49 => ?_)
                                                            · refine lv_iload hx hb dX8_isWord_156 (lv_at hl 1 rfl) ?_
                                                              have hnw : ¬ tk_is tx (tn_s tx L p0) (tn_e tx L p0) 7 := by
                                                                intro h
                                                                have h9 : tn_e tx L p0 - tn_s tx L p0 = 4 := h.1
                                                                have h8 : tx (tn_s tx L p0 + 3) = 110 := h.2 3 (by decide)
                                                                omega
                                                              exact ret _ () dX8_isWord_158 (by decide) (Or.inr ⟨hnw, rfl⟩) hP hD hS
                                                            · exact absurd c49 (by decide)
                                                        · exact absurd c47 (by decide)
                                                      · have hr3 := hrow (tn_s tx L p0 + 3) (by omega) (by omega)
                                                        refine lv_aload_n hx hb dX8_isWord_113 rfl (lv_at hl 3 rfl) ?_
                                                        refine ta_get C hP 0 inlX8 rfl rfl 0 (by decide) tw_125 rfl dX8_isWord_114 ?_
                                                        refine lv_aload_n hx hb dX8_isWord_117 rfl (lv_at hl 3 rfl) ?_
                                                        refine ta_get C hP 0 inlX8 rfl rfl 13 (by decide) tw_304 rfl dX8_isWord_118 ?_
                                                        refine lv_iload hx hb dX8_isWord_121 (lv_at hl 1 rfl) ?_
                                                        refine ta_iadd C (a := tn_s tx L p0) (b := 3) dX8_isWord_123 ?_
                                                        refine ta_iald C hP 1 rfl (i := (tn_s tx L p0) + 3) (by omega) dX8_isWord_124 ?_
                                                        refine lv_iload hx hb dX8_isWord_125 (lv_at hl 0 rfl) ?_
                                                        refine ta_cne C (a := tx ((tn_s tx L p0) + 3)) (b := 110) (tgt := 134) (by omega) (by omega) dX8_isWord_127 (by decide) (fun c50 => ?_) (fun c50 => ?_)
                                                        · refine ta_iconst C 0 dX8_isWord_134 (by decide) ?_
                                                          refine lv_goto (tgt := 148) hx hb dX8_isWord_135 (by decide) ?_
                                                          refine lv_istore (lv' := [(7, .int (nI 0)), (9, .int (nI 110)), (8, .int (nI 3)), (0, .ref (z 0)), (1, .int (nI 116)), (2, .int (nI 117)), (3, .int (nI 114)), (4, .int (nI 110)), (5, .int (nI 0)), (6, .int (nI 0))]) hx hb dX8_isWord_148 hl (by decide) rfl (fun ls hl => ?_)
                                                          refine lv_iinc (v := nI 4) (lv' := [(8, .int (nI 4)), (7, .int (nI 0)), (9, .int (nI 110)), (0, .ref (z 0)), (1, .int (nI 116)), (2, .int (nI 117)), (3, .int (nI 114)), (4, .int (nI 110)), (5, .int (nI 0)), (6, .int (nI 0))]) hx hb dX8_isWord_150 hl (k := 2) rfl (by decide) (by decide) rfl (fun ls hl => ?_)
                                                          refine lv_goto (tgt := 32) hx hb dX8_isWord_153 (by decide) ?_
                                                          refine lv_iload hx hb dX8_isWord_32 (lv_at hl 0 rfl) ?_
                                                          refine ta_bipush C 6 dX8_isWord_34 (by decide) ?_
                                                          refine lv_icmp_ge (tgt := 156) hx hb dX8_isWord_36 (by decide) (fun c51 => ?_) (fun c51 => ?_)
                                                          · exact absurd c51 (by decide)
                                                          · refine lv_iload hx hb dX8_isWord_39 (lv_at hl 1 rfl) ?_
                                                            refine lv_if_eq (tgt := 156) hx hb dX8_isWord_41 (by decide) (fun c52 => ?_) (fun c52 => ?_)
                                                            · refine lv_iload hx hb dX8_isWord_156 (lv_at hl 1 rfl) ?_
                                                              have hnw : ¬ tk_is tx (tn_s tx L p0) (tn_e tx L p0) 7 := by
                                                                intro h
                                                                have h9 : tn_e tx L p0 - tn_s tx L p0 = 4 := h.1
                                                                have h8 : tx (tn_s tx L p0 + 3) = 110 := h.2 3 (by decide)
                                                                omega
                                                              exact ret _ () dX8_isWord_158 (by decide) (Or.inr ⟨hnw, rfl⟩) hP hD hS
                                                            · exact absurd c52 (by decide)
                                                        · refine ta_iconst C 1 dX8_isWord_130 (by decide) ?_
                                                          refine lv_goto (tgt := 148) hx hb dX8_isWord_131 (by decide) ?_
                                                          refine lv_istore (lv' := [(7, .int (nI 1)), (9, .int (nI 110)), (8, .int (nI 3)), (0, .ref (z 0)), (1, .int (nI 116)), (2, .int (nI 117)), (3, .int (nI 114)), (4, .int (nI 110)), (5, .int (nI 0)), (6, .int (nI 0))]) hx hb dX8_isWord_148 hl (by decide) rfl (fun ls hl => ?_)
                                                          refine lv_iinc (v := nI 4) (lv' := [(8, .int (nI 4)), (7, .int (nI 1)), (9, .int (nI 110)), (0, .ref (z 0)), (1, .int (nI 116)), (2, .int (nI 117)), (3, .int (nI 114)), (4, .int (nI 110)), (5, .int (nI 0)), (6, .int (nI 0))]) hx hb dX8_isWord_150 hl (k := 2) rfl (by decide) (by decide) rfl (fun ls hl => ?_)
                                                          refine lv_goto (tgt := 32) hx hb dX8_isWord_153 (by decide) ?_
                                                          refine lv_iload hx hb dX8_isWord_32 (lv_at hl 0 rfl) ?_
                                                          refine ta_bipush C 6 dX8_isWord_34 (by decide) ?_
                                                          refine lv_icmp_ge (tgt := 156) hx hb dX8_isWord_36 (by decide) (fun c53 => ?_) (fun c53 => ?_)
                                                          · exact absurd c53 (by decide)
                                                          · refine lv_iload hx hb dX8_isWord_39 (lv_at hl 1 rfl) ?_
                                                            refine lv_if_eq (tgt := 156) hx hb dX8_isWord_41 (by decide) (fun c54 => ?_) (fun c54 => ?_)
                                                            · exact absurd c54 (by decide)
                                                            · refine lv_iload hx hb dX8_isWord_44 (lv_at hl 0 rfl) ?_
                                                              refine lv_if_ne (tgt := 53) hx hb dX8_isWord_46 (by decide) (fun c55 => ?_) (fun c55 => ?_)
                                                              · refine lv_iload hx hb dX8_isWord_53 (lv_at hl 0 rfl) ?_
                                                                refine ta_iconst C 1 dX8_isWord_55 (by decide) ?_
                                                                refine lv_icmp_ne (tgt := 63) hx hb dX8_isWord_56 (by decide) (fun c56 => ?_) (fun c56 => ?_)
                                                                · refine lv_iload hx hb dX8_isWord_63 (lv_at hl 0 rfl) ?_
                                                                  refine ta_iconst C 2 dX8_isWord_65 (by decide) ?_
                                                                  refine lv_icmp_ne (tgt := 73) hx hb dX8_isWord_66 (by decide) (fun c57 => ?_) (fun c57 => ?_)
                                                                  · refine lv_iload hx hb dX8_isWord_73 (lv_at hl 0 rfl) ?_
                                                                    refine ta_iconst C 3 dX8_isWord_75 (by decide) ?_
                                                                    refine lv_icmp_ne (tgt := 84) hx hb dX8_isWord_76 (by decide) (fun c58 => ?_) (fun c58 => ?_)
                                                                    · refine lv_iload hx hb dX8_isWord_84 (lv_at hl 0 rfl) ?_
                                                                      refine ta_iconst C 4 dX8_isWord_86 (by decide) ?_
                                                                      refine lv_icmp_ne (tgt := 95) hx hb dX8_isWord_87 (by decide) (fun c59 => ?_) (fun c59 => ?_)
                                                                      · exact absurd c59 (by decide)
                                                                      · refine lv_iload hx hb dX8_isWord_90 (lv_at hl 8 rfl) ?_
                                                                        refine lv_goto (tgt := 97) hx hb dX8_isWord_92 (by decide) ?_
                                                                        refine lv_istore (lv' := [(9, .int (nI 0)), (8, .int (nI 4)), (7, .int (nI 1)), (0, .ref (z 0)), (1, .int (nI 116)), (2, .int (nI 117)), (3, .int (nI 114)), (4, .int (nI 110)), (5, .int (nI 0)), (6, .int (nI 0))]) hx hb dX8_isWord_97 hl (by decide) rfl (fun ls hl => ?_)
                                                                        refine lv_aload_n hx hb dX8_isWord_99 rfl (lv_at hl 3 rfl) ?_
                                                                        refine ta_get C hP 0 inlX8 rfl rfl 13 (by decide) tw_304 rfl dX8_isWord_100 ?_
                                                                        refine lv_iload hx hb dX8_isWord_103 (lv_at hl 1 rfl) ?_
                                                                        refine ta_iadd C (a := tn_s tx L p0) (b := 4) dX8_isWord_105 ?_
                                                                        refine lv_aload_n hx hb dX8_isWord_106 rfl (lv_at hl 3 rfl) ?_
                                                                        refine ta_get C hP 0 inlX8 rfl rfl 11 (by decide) tw_309 rfl dX8_isWord_107 ?_
                                                                        refine ta_cge C (a := (tn_s tx L p0) + 4) (b := tn_e tx L p0) (tgt := 138) (by omega) (by omega) dX8_isWord_110 (by decide) (fun c60 => ?_) (fun c60 => ?_)
                                                                        · refine lv_iload hx hb dX8_isWord_138 (lv_at hl 0 rfl) ?_
                                                                          refine lv_if_ne (tgt := 147) hx hb dX8_isWord_140 (by decide) (fun c61 => ?_) (fun c61 => ?_)
                                                                          · exact absurd c61 (by decide)
                                                                          · refine ta_iconst C 1 dX8_isWord_143 (by decide) ?_
                                                                            refine lv_goto (tgt := 148) hx hb dX8_isWord_144 (by decide) ?_
                                                                            refine lv_istore (lv' := [(7, .int (nI 1)), (9, .int (nI 0)), (8, .int (nI 4)), (0, .ref (z 0)), (1, .int (nI 116)), (2, .int (nI 117)), (3, .int (nI 114)), (4, .int (nI 110)), (5, .int (nI 0)), (6, .int (nI 0))]) hx hb dX8_isWord_148 hl (by decide) rfl (fun ls hl => ?_)
                                                                            refine lv_iinc (v := nI 5) (lv' := [(8, .int (nI 5)), (7, .int (nI 1)), (9, .int (nI 0)), (0, .ref (z 0)), (1, .int (nI 116)), (2, .int (nI 117)), (3, .int (nI 114)), (4, .int (nI 110)), (5, .int (nI 0)), (6, .int (nI 0))]) hx hb dX8_isWord_150 hl (k := 2) rfl (by decide) (by decide) rfl (fun ls hl => ?_)
                                                                            refine lv_goto (tgt := 32) hx hb dX8_isWord_153 (by decide) ?_
                                                                            refine lv_iload hx hb dX8_isWord_32 (lv_at hl 0 rfl) ?_
                                                                            refine ta_bipush C 6 dX8_isWord_34 (by decide) ?_
                                                                            refine lv_icmp_ge (tgt := 156) hx hb dX8_isWord_36 (by decide) (fun c62 => ?_) (fun c62 => ?_)
                                                                            · exact absurd c62 (by decide)
                                                                            · refine lv_iload hx hb dX8_isWord_39 (lv_at hl 1 rfl) ?_
                                                                              refine lv_if_eq (tgt := 156) hx hb dX8_isWord_41 (by decide) (fun c63 => ?_) (fun c63 => ?_)
                                                                              · exact absurd c63 (by decide)
                                                                              · refine lv_iload hx hb dX8_isWord_44 (lv_at hl 0 rfl) ?_
                                                                                refine lv_if_ne (tgt := 53) hx hb dX8_isWord_46 (by decide) (fun c64 => ?_) (fun c64 => ?_)
                                                                                · refine lv_iload hx hb dX8_isWord_53 (lv_at hl 0 rfl) ?_
                                                                                  refine ta_iconst C 1 dX8_isWord_55 (by decide) ?_
                                                                                  refine lv_icmp_ne (tgt := 63) hx hb dX8_isWord_56 (by decide) (fun c65 => ?_) (fun c65 => ?_)
                                                                                  · refine lv_iload hx hb dX8_isWord_63 (lv_at hl 0 rfl) ?_
                                                                                    refine ta_iconst C 2 dX8_isWord_65 (by decide) ?_
                                                                                    refine lv_icmp_ne (tgt := 73) hx hb dX8_isWord_66 (by decide) (fun c66 => ?_) (fun c66 => ?_)
                                                                                    · refine lv_iload hx hb dX8_isWord_73 (lv_at hl 0 rfl) ?_
                                                                                      refine ta_iconst C 3 dX8_isWord_75 (by decide) ?_
                                                                                      refine lv_icmp_ne (tgt := 84) hx hb dX8_isWord_76 (by decide) (fun c67 => ?_) (fun c67 => ?_)
                                                                                      · refine lv_iload hx hb dX8_isWord_84 (lv_at hl 0 rfl) ?_
                                                                                        refine ta_iconst C 4 dX8_isWord_86 (by decide) ?_
                                                                                        refine lv_icmp_ne (tgt := 95) hx hb dX8_isWord_87 (by decide) (fun c68 => ?_) (fun c68 => ?_)
                                                                                        · refine lv_iload hx hb dX8_isWord_95 (lv_at hl 9 rfl) ?_
                                                                                          refine lv_istore (lv' := [(9, .int (nI 0)), (8, .int (nI 5)), (7, .int (nI 1)), (0, .ref (z 0)), (1, .int (nI 116)), (2, .int (nI 117)), (3, .int (nI 114)), (4, .int (nI 110)), (5, .int (nI 0)), (6, .int (nI 0))]) hx hb dX8_isWord_97 hl (by decide) rfl (fun ls hl => ?_)
                                                                                          refine lv_aload_n hx hb dX8_isWord_99 rfl (lv_at hl 3 rfl) ?_
                                                                                          refine ta_get C hP 0 inlX8 rfl rfl 13 (by decide) tw_304 rfl dX8_isWord_100 ?_
                                                                                          refine lv_iload hx hb dX8_isWord_103 (lv_at hl 1 rfl) ?_
                                                                                          refine ta_iadd C (a := tn_s tx L p0) (b := 5) dX8_isWord_105 ?_
                                                                                          refine lv_aload_n hx hb dX8_isWord_106 rfl (lv_at hl 3 rfl) ?_
                                                                                          refine ta_get C hP 0 inlX8 rfl rfl 11 (by decide) tw_309 rfl dX8_isWord_107 ?_
                                                                                          refine ta_cge C (a := (tn_s tx L p0) + 5) (b := tn_e tx L p0) (tgt := 138) (by omega) (by omega) dX8_isWord_110 (by decide) (fun c69 => ?_) (fun c69 => ?_)
                                                                                          · refine lv_iload hx hb dX8_isWord_138 (lv_at hl 0 rfl) ?_
                                                                                            refine lv_if_ne (tgt := 147) hx hb dX8_isWord_140 (by decide) (fun c70 => ?_) (fun c70 => ?_)
                                                                                            · exact absurd c70 (by decide)
                                                                                            · refine ta_iconst C 1 dX8_isWord_143 (by decide) ?_
                                                                                              refine lv_goto (tgt := 148) hx hb dX8_isWord_144 (by decide) ?_
                                                                                              refine lv_istore (lv' := [(7, .int (nI 1)), (9, .int (nI 0)), (8, .int (nI 5)), (0, .ref (z 0)), (1, .int (nI 116)), (2, .int (nI 117)), (3, .int (nI 114)), (4, .int (nI 110)), (5, .int (nI 0)), (6, .int (nI 0))]) hx hb dX8_isWord_148 hl (by decide) rfl (fun ls hl => ?_)
                                                                                              refine lv_iinc (v := nI 6) (lv' := [(8, .int (nI 6)), (7, .int (nI 1)), (9, .int (nI 0)), (0, .ref (z 0)), (1, .int (nI 116)), (2, .int (nI 117)), (3, .int (nI 114)), (4, .int (nI 110)), (5, .int (nI 0)), (6, .int (nI 0))]) hx hb dX8_isWord_150 hl (k := 2) rfl (by decide) (by decide) rfl (fun ls hl => ?_)
                                                                                              refine lv_goto (tgt := 32) hx hb dX8_isWord_153 (by decide) ?_
                                                                                              refine lv_iload hx hb dX8_isWord_32 (lv_at hl 0 rfl) ?_
                                                                                              refine ta_bipush C 6 dX8_isWord_34 (by decide) ?_
                                                                                              refine lv_icmp_ge (tgt := 156) hx hb dX8_isWord_36 (by decide) (fun c71 => ?_) (fun c71 => ?_)
                                                                                              · refine lv_iload hx hb dX8_isWord_156 (lv_at hl 1 rfl) ?_
                                                                                                have hw : tk_is tx (tn_s tx L p0) (tn_e tx L p0) 7 := by
                                                                                                  refine ⟨show tn_e tx L p0 - tn_s tx L p0 = 4 by omega, fun j hj => ?_⟩
                                                                                                  have hj : j < 4 := hj
                                                                                                  rcases (show j = 0 ∨ j = 1 ∨ j = 2 ∨ j = 3 by omega) with rfl | rfl | rfl | rfl
                                                                                                  · show tx (tn_s tx L p0 + 0) = 116; omega
                                                                                                  · show tx (tn_s tx L p0 + 1) = 117; omega
                                                                                                  · show tx (tn_s tx L p0 + 2) = 114; omega
                                                                                                  · show tx (tn_s tx L p0 + 3) = 110; omega
                                                                                                exact ret _ () dX8_isWord_158 (by decide) (Or.inl ⟨hw, rfl⟩) hP hD hS
                                                                                              · exact absurd c71 (by decide)
                                                                                          · have hr5 := hrow (tn_s tx L p0 + 5) (by omega) (by omega)
                                                                                            refine lv_aload_n hx hb dX8_isWord_113 rfl (lv_at hl 3 rfl) ?_
                                                                                            refine ta_get C hP 0 inlX8 rfl rfl 0 (by decide) tw_125 rfl dX8_isWord_114 ?_
                                                                                            refine lv_aload_n hx hb dX8_isWord_117 rfl (lv_at hl 3 rfl) ?_
                                                                                            refine ta_get C hP 0 inlX8 rfl rfl 13 (by decide) tw_304 rfl dX8_isWord_118 ?_
                                                                                            refine lv_iload hx hb dX8_isWord_121 (lv_at hl 1 rfl) ?_
                                                                                            refine ta_iadd C (a := tn_s tx L p0) (b := 5) dX8_isWord_123 ?_
                                                                                            refine ta_iald C hP 1 rfl (i := (tn_s tx L p0) + 5) (by omega) dX8_isWord_124 ?_
                                                                                            refine lv_iload hx hb dX8_isWord_125 (lv_at hl 0 rfl) ?_
                                                                                            refine ta_cne C (a := tx ((tn_s tx L p0) + 5)) (b := 0) (tgt := 134) (by omega) (by omega) dX8_isWord_127 (by decide) (fun c72 => ?_) (fun c72 => ?_)
                                                                                            · refine ta_iconst C 0 dX8_isWord_134 (by decide) ?_
                                                                                              refine lv_goto (tgt := 148) hx hb dX8_isWord_135 (by decide) ?_
                                                                                              refine lv_istore (lv' := [(7, .int (nI 0)), (9, .int (nI 0)), (8, .int (nI 5)), (0, .ref (z 0)), (1, .int (nI 116)), (2, .int (nI 117)), (3, .int (nI 114)), (4, .int (nI 110)), (5, .int (nI 0)), (6, .int (nI 0))]) hx hb dX8_isWord_148 hl (by decide) rfl (fun ls hl => ?_)
                                                                                              refine lv_iinc (v := nI 6) (lv' := [(8, .int (nI 6)), (7, .int (nI 0)), (9, .int (nI 0)), (0, .ref (z 0)), (1, .int (nI 116)), (2, .int (nI 117)), (3, .int (nI 114)), (4, .int (nI 110)), (5, .int (nI 0)), (6, .int (nI 0))]) hx hb dX8_isWord_150 hl (k := 2) rfl (by decide) (by decide) rfl (fun ls hl => ?_)
                                                                                              refine lv_goto (tgt := 32) hx hb dX8_isWord_153 (by decide) ?_
                                                                                              refine lv_iload hx hb dX8_isWord_32 (lv_at hl 0 rfl) ?_
                                                                                              refine ta_bipush C 6 dX8_isWord_34 (by decide) ?_
                                                                                              refine lv_icmp_ge (tgt := 156) hx hb dX8_isWord_36 (by decide) (fun c73 => ?_) (fun c73 => ?_)
                                                                                              · refine lv_iload hx hb dX8_isWord_156 (lv_at hl 1 rfl) ?_
                                                                                                have hnw : ¬ tk_is tx (tn_s tx L p0) (tn_e tx L p0) 7 := by
                                                                                                  intro h
                                                                                                  have h9 : tn_e tx L p0 - tn_s tx L p0 = 4 := h.1
                                                                                                  omega
                                                                                                exact ret _ () dX8_isWord_158 (by decide) (Or.inr ⟨hnw, rfl⟩) hP hD hS
                                                                                              · exact absurd c73 (by decide)
                                                                                            · exfalso; omega
                                                                                        · exact absurd c68 (by decide)
                                                                                      · exact absurd c67 (by decide)
                                                                                    · exact absurd c66 (by decide)
                                                                                  · exact absurd c65 (by decide)
                                                                                · exact absurd c64 (by decide)
                                                                        · have hr4 := hrow (tn_s tx L p0 + 4) (by omega) (by omega)
                                                                          refine lv_aload_n hx hb dX8_isWord_113 rfl (lv_at hl 3 rfl) ?_
                                                                          refine ta_get C hP 0 inlX8 rfl rfl 0 (by decide) tw_125 rfl dX8_isWord_114 ?_
                                                                          refine lv_aload_n hx hb dX8_isWord_117 rfl (lv_at hl 3 rfl) ?_
                                                                          refine ta_get C hP 0 inlX8 rfl rfl 13 (by decide) tw_304 rfl dX8_isWord_118 ?_
                                                                          refine lv_iload hx hb dX8_isWord_121 (lv_at hl 1 rfl) ?_
                                                                          refine ta_iadd C (a := tn_s tx L p0) (b := 4) dX8_isWord_123 ?_
                                                                          refine ta_iald C hP 1 rfl (i := (tn_s tx L p0) + 4) (by omega) dX8_isWord_124 ?_
                                                                          refine lv_iload hx hb dX8_isWord_125 (lv_at hl 0 rfl) ?_
                                                                          refine ta_cne C (a := tx ((tn_s tx L p0) + 4)) (b := 0) (tgt := 134) (by omega) (by omega) dX8_isWord_127 (by decide) (fun c74 => ?_) (fun c74 => ?_)
                                                                          · refine ta_iconst C 0 dX8_isWord_134 (by decide) ?_
                                                                            refine lv_goto (tgt := 148) hx hb dX8_isWord_135 (by decide) ?_
                                                                            refine lv_istore (lv' := [(7, .int (nI 0)), (9, .int (nI 0)), (8, .int (nI 4)), (0, .ref (z 0)), (1, .int (nI 116)), (2, .int (nI 117)), (3, .int (nI 114)), (4, .int (nI 110)), (5, .int (nI 0)), (6, .int (nI 0))]) hx hb dX8_isWord_148 hl (by decide) rfl (fun ls hl => ?_)
                                                                            refine lv_iinc (v := nI 5) (lv' := [(8, .int (nI 5)), (7, .int (nI 0)), (9, .int (nI 0)), (0, .ref (z 0)), (1, .int (nI 116)), (2, .int (nI 117)), (3, .int (nI 114)), (4, .int (nI 110)), (5, .int (nI 0)), (6, .int (nI 0))]) hx hb dX8_isWord_150 hl (k := 2) rfl (by decide) (by decide) rfl (fun ls hl => ?_)
                                                                            refine lv_goto (tgt := 32) hx hb dX8_isWord_153 (by decide) ?_
                                                                            refine lv_iload hx hb dX8_isWord_32 (lv_at hl 0 rfl) ?_
                                                                            refine ta_bipush C 6 dX8_isWord_34 (by decide) ?_
                                                                            refine lv_icmp_ge (tgt := 156) hx hb dX8_isWord_36 (by decide) (fun c75 => ?_) (fun c75 => ?_)
                                                                            · exact absurd c75 (by decide)
                                                                            · refine lv_iload hx hb dX8_isWord_39 (lv_at hl 1 rfl) ?_
                                                                              refine lv_if_eq (tgt := 156) hx hb dX8_isWord_41 (by decide) (fun c76 => ?_) (fun c76 => ?_)
                                                                              · refine lv_iload hx hb dX8_isWord_156 (lv_at hl 1 rfl) ?_
                                                                                have hnw : ¬ tk_is tx (tn_s tx L p0) (tn_e tx L p0) 7 := by
                                                                                  intro h
                                                                                  have h9 : tn_e tx L p0 - tn_s tx L p0 = 4 := h.1
                                                                                  omega
                                                                                exact ret _ () dX8_isWord_158 (by decide) (Or.inr ⟨hnw, rfl⟩) hP hD hS
                                                                              · exact absurd c76 (by decide)
                                                                          · exfalso; omega
                                                                    · exact absurd c58 (by decide)
                                                                  · exact absurd c57 (by decide)
                                                                · exact absurd c56 (by decide)
                                                              · exact absurd c55 (by decide)
                                                  · exact absurd c44 (by decide)
                                                · exact absurd c43 (by decide)
                                              · exact absurd c42 (by decide)
                                  · exact absurd c31 (by decide)
                                · exact absurd c30 (by decide)
                    · exact absurd c19 (by decide)

set_option maxHeartbeats 4000000 in
set_option maxRecDepth 100000 in
theorem c_X8_isWord_8 (l : Launch) (D : va_G) (k : ta_C) (z : Nat → Nat) (kn : Nat) (no : Nat) (va : Nat) (L : Nat) (tx : Nat → Nat) (p0 : Nat) (hx0 : tx_ok tx L) (hp0 : p0 ≤ L) : ta_Mi (S := Unit) l D k yX8_isWord cX8_isWord 10 .boolean 0 0 [.ref (z 0), .int (nI 107), .int (nI 110), .int (nI 101), .int (nI 101), .int (nI 108), .int (nI 0)] [(z 0, .inr (8, [.ref (z 1), .int (nI L), .ref (z 2), .ref (z 3), .ref (z 4), .ref (z 5), .int (nI kn), .ref (z 6), .ref (z 7), .ref (z 8), .int (nI no), .int (nI (tn_e tx L p0)), .int (nI (mo_s tx L p0)), .int (nI (tn_s tx L p0)), .int (nI va), .ref (z 9)])), (z 1, .inl (k.1 0, 160, .inl (ta_e tx)))] (fun r _ => (tk_is tx (tn_s tx L p0) (tn_e tx L p0) 8 ∧ r = nI 1) ∨ (¬ tk_is tx (tn_s tx L p0) (tn_e tx L p0) 8 ∧ r = nI 0)) (fun u => [(z 0, .inr (8, [.ref (z 1), .int (nI L), .ref (z 2), .ref (z 3), .ref (z 4), .ref (z 5), .int (nI kn), .ref (z 6), .ref (z 7), .ref (z 8), .int (nI no), .int (nI (tn_e tx L p0)), .int (nI (mo_s tx L p0)), .int (nI (tn_s tx L p0)), .int (nI va), .ref (z 9)])), (z 1, .inl (k.1 0, 160, .inl (ta_e tx)))]) := by
  refine ta_enter_i (by decide) (Nat.le_of_ble_eq_true rfl) ?_
  intro p e s m below meth c A ls Q C ret hP hD hS hl
  have C : ta_At p l D k s m ([.ref (z 0), .int (nI 107), .int (nI 110), .int (nI 101), .int (nI 101), .int (nI 108), .int (nI 0)] : List Value).toArray c RX8 cX8_isWord 10 A := C
  have hx := C.1.1
  have hb := C.1.2.1
  have hl : lv_has ls 10 [(0, .ref (z 0)), (1, .int (nI 107)), (2, .int (nI 110)), (3, .int (nI 101)), (4, .int (nI 101)), (5, .int (nI 108)), (6, .int (nI 0))] := hl
  obtain ⟨H, hH⟩ : ∃ H, H = s.heap := ⟨_, rfl⟩
  obtain ⟨locs, hlocs⟩ : ∃ q : List Loc, q = [] := ⟨_, rfl⟩
  have hP : va_P D vwCl [(z 0, .inr (8, [.ref (z 1), .int (nI L), .ref (z 2), .ref (z 3), .ref (z 4), .ref (z 5), .int (nI kn), .ref (z 6), .ref (z 7), .ref (z 8), .int (nI no), .int (nI (tn_e tx L p0)), .int (nI (mo_s tx L p0)), .int (nI (tn_s tx L p0)), .int (nI va), .ref (z 9)])), (z 1, .inl (k.1 0, 160, .inl (ta_e tx)))] H := by rw [hH]; exact hP
  have hS : va_S A s.heap H locs := by rw [hH, hlocs]; exact hS
  rw [← hlocs]
  suffices hgoal : W p l e ({ frames := 0, cells := 0, slots := 0, locals := 0 }) s m ([.ref (z 0), .int (nI 107), .int (nI 110), .int (nI 101), .int (nI 101), .int (nI 108), .int (nI 0)] : List Value).toArray below meth c H locs 0 0 Q (F0 m 0 ls []) by rw [hH] at hgoal; exact hgoal
  clear hH hlocs
  obtain ⟨hL, hc⟩ := id hx0
  obtain ⟨b1, b2, b3, b4⟩ := tn_b (tx := tx) hp0
  have hms4 : mo_s tx L p0 < 4 := by unfold mo_s; have h4 := tx_s4 tx L (tn_s tx L p0); split <;> omega
  refine lv_aload_n hx hb dX8_isWord_0 rfl (lv_at hl 0 rfl) ?_
  refine ta_get C hP 0 inlX8 rfl rfl 12 (by decide) tw_310 rfl dX8_isWord_1 ?_
  refine ta_iconst C 1 dX8_isWord_4 (by decide) ?_
  refine ta_cne C (a := mo_s tx L p0) (b := 1) (tgt := 26) (by omega) (by omega) dX8_isWord_5 (by decide) (fun c1 => ?_) (fun c1 => ?_)
  · refine ta_iconst C 0 dX8_isWord_26 (by decide) ?_
    refine lv_istore (lv' := [(7, .int (nI 0)), (0, .ref (z 0)), (1, .int (nI 107)), (2, .int (nI 110)), (3, .int (nI 101)), (4, .int (nI 101)), (5, .int (nI 108)), (6, .int (nI 0))]) hx hb dX8_isWord_27 hl (by decide) rfl (fun ls hl => ?_)
    refine ta_iconst C 0 dX8_isWord_29 (by decide) ?_
    refine lv_istore (lv' := [(8, .int (nI 0)), (7, .int (nI 0)), (0, .ref (z 0)), (1, .int (nI 107)), (2, .int (nI 110)), (3, .int (nI 101)), (4, .int (nI 101)), (5, .int (nI 108)), (6, .int (nI 0))]) hx hb dX8_isWord_30 hl (by decide) rfl (fun ls hl => ?_)
    refine lv_iload hx hb dX8_isWord_32 (lv_at hl 0 rfl) ?_
    refine ta_bipush C 6 dX8_isWord_34 (by decide) ?_
    refine lv_icmp_ge (tgt := 156) hx hb dX8_isWord_36 (by decide) (fun c2 => ?_) (fun c2 => ?_)
    · exact absurd c2 (by decide)
    · refine lv_iload hx hb dX8_isWord_39 (lv_at hl 1 rfl) ?_
      refine lv_if_eq (tgt := 156) hx hb dX8_isWord_41 (by decide) (fun c3 => ?_) (fun c3 => ?_)
      · refine lv_iload hx hb dX8_isWord_156 (lv_at hl 1 rfl) ?_
        have hnw : ¬ tk_is tx (tn_s tx L p0) (tn_e tx L p0) 8 := fun h => by have h9 := mo_is1 (i := 8) (by decide) hp0 h; omega
        exact ret _ () dX8_isWord_158 (by decide) (Or.inr ⟨hnw, rfl⟩) hP hD hS
      · exact absurd c3 (by decide)
  · have hrow := mo_row c1
    refine lv_aload_n hx hb dX8_isWord_8 rfl (lv_at hl 0 rfl) ?_
    refine ta_get C hP 0 inlX8 rfl rfl 11 (by decide) tw_309 rfl dX8_isWord_9 ?_
    refine lv_aload_n hx hb dX8_isWord_12 rfl (lv_at hl 0 rfl) ?_
    refine ta_get C hP 0 inlX8 rfl rfl 13 (by decide) tw_304 rfl dX8_isWord_13 ?_
    refine ta_isub C (a := tn_e tx L p0) (b := tn_s tx L p0) (by omega) dX8_isWord_16 ?_
    refine ta_bipush C 7 dX8_isWord_17 (by decide) ?_
    refine ta_cge C (a := (tn_e tx L p0) - (tn_s tx L p0)) (b := 7) (tgt := 26) (by omega) (by omega) dX8_isWord_19 (by decide) (fun c4 => ?_) (fun c4 => ?_)
    · refine ta_iconst C 0 dX8_isWord_26 (by decide) ?_
      refine lv_istore (lv' := [(7, .int (nI 0)), (0, .ref (z 0)), (1, .int (nI 107)), (2, .int (nI 110)), (3, .int (nI 101)), (4, .int (nI 101)), (5, .int (nI 108)), (6, .int (nI 0))]) hx hb dX8_isWord_27 hl (by decide) rfl (fun ls hl => ?_)
      refine ta_iconst C 0 dX8_isWord_29 (by decide) ?_
      refine lv_istore (lv' := [(8, .int (nI 0)), (7, .int (nI 0)), (0, .ref (z 0)), (1, .int (nI 107)), (2, .int (nI 110)), (3, .int (nI 101)), (4, .int (nI 101)), (5, .int (nI 108)), (6, .int (nI 0))]) hx hb dX8_isWord_30 hl (by decide) rfl (fun ls hl => ?_)
      refine lv_iload hx hb dX8_isWord_32 (lv_at hl 0 rfl) ?_
      refine ta_bipush C 6 dX8_isWord_34 (by decide) ?_
      refine lv_icmp_ge (tgt := 156) hx hb dX8_isWord_36 (by decide) (fun c5 => ?_) (fun c5 => ?_)
      · exact absurd c5 (by decide)
      · refine lv_iload hx hb dX8_isWord_39 (lv_at hl 1 rfl) ?_
        refine lv_if_eq (tgt := 156) hx hb dX8_isWord_41 (by decide) (fun c6 => ?_) (fun c6 => ?_)
        · refine lv_iload hx hb dX8_isWord_156 (lv_at hl 1 rfl) ?_
          have hnw : ¬ tk_is tx (tn_s tx L p0) (tn_e tx L p0) 8 := fun h => by have h9 : tn_e tx L p0 - tn_s tx L p0 = 5 := h.1; omega
          exact ret _ () dX8_isWord_158 (by decide) (Or.inr ⟨hnw, rfl⟩) hP hD hS
        · exact absurd c6 (by decide)
    · refine ta_iconst C 1 dX8_isWord_22 (by decide) ?_
      refine lv_goto (tgt := 27) hx hb dX8_isWord_23 (by decide) ?_
      refine lv_istore (lv' := [(7, .int (nI 1)), (0, .ref (z 0)), (1, .int (nI 107)), (2, .int (nI 110)), (3, .int (nI 101)), (4, .int (nI 101)), (5, .int (nI 108)), (6, .int (nI 0))]) hx hb dX8_isWord_27 hl (by decide) rfl (fun ls hl => ?_)
      refine ta_iconst C 0 dX8_isWord_29 (by decide) ?_
      refine lv_istore (lv' := [(8, .int (nI 0)), (7, .int (nI 1)), (0, .ref (z 0)), (1, .int (nI 107)), (2, .int (nI 110)), (3, .int (nI 101)), (4, .int (nI 101)), (5, .int (nI 108)), (6, .int (nI 0))]) hx hb dX8_isWord_30 hl (by decide) rfl (fun ls hl => ?_)
      refine lv_iload hx hb dX8_isWord_32 (lv_at hl 0 rfl) ?_
      refine ta_bipush C 6 dX8_isWord_34 (by decide) ?_
      refine lv_icmp_ge (tgt := 156) hx hb dX8_isWord_36 (by decide) (fun c7 => ?_) (fun c7 => ?_)
      · exact absurd c7 (by decide)
      · refine lv_iload hx hb dX8_isWord_39 (lv_at hl 1 rfl) ?_
        refine lv_if_eq (tgt := 156) hx hb dX8_isWord_41 (by decide) (fun c8 => ?_) (fun c8 => ?_)
        · exact absurd c8 (by decide)
        · refine lv_iload hx hb dX8_isWord_44 (lv_at hl 0 rfl) ?_
          refine lv_if_ne (tgt := 53) hx hb dX8_isWord_46 (by decide) (fun c9 => ?_) (fun c9 => ?_)
          · exact absurd c9 (by decide)
          · refine lv_iload_n hx hb dX8_isWord_49 rfl (lv_at hl 3 rfl) ?_
            refine lv_goto (tgt := 97) hx hb dX8_isWord_50 (by decide) ?_
            refine lv_istore (lv' := [(9, .int (nI 107)), (8, .int (nI 0)), (7, .int (nI 1)), (0, .ref (z 0)), (1, .int (nI 107)), (2, .int (nI 110)), (3, .int (nI 101)), (4, .int (nI 101)), (5, .int (nI 108)), (6, .int (nI 0))]) hx hb dX8_isWord_97 hl (by decide) rfl (fun ls hl => ?_)
            refine lv_aload_n hx hb dX8_isWord_99 rfl (lv_at hl 3 rfl) ?_
            refine ta_get C hP 0 inlX8 rfl rfl 13 (by decide) tw_304 rfl dX8_isWord_100 ?_
            refine lv_iload hx hb dX8_isWord_103 (lv_at hl 1 rfl) ?_
            refine ta_iadd C (a := tn_s tx L p0) (b := 0) dX8_isWord_105 ?_
            refine lv_aload_n hx hb dX8_isWord_106 rfl (lv_at hl 3 rfl) ?_
            refine ta_get C hP 0 inlX8 rfl rfl 11 (by decide) tw_309 rfl dX8_isWord_107 ?_
            refine ta_cge C (a := (tn_s tx L p0) + 0) (b := tn_e tx L p0) (tgt := 138) (by omega) (by omega) dX8_isWord_110 (by decide) (fun c10 => ?_) (fun c10 => ?_)
            · refine lv_iload hx hb dX8_isWord_138 (lv_at hl 0 rfl) ?_
              refine lv_if_ne (tgt := 147) hx hb dX8_isWord_140 (by decide) (fun c11 => ?_) (fun c11 => ?_)
              · refine ta_iconst C 0 dX8_isWord_147 (by decide) ?_
                refine lv_istore (lv' := [(7, .int (nI 0)), (9, .int (nI 107)), (8, .int (nI 0)), (0, .ref (z 0)), (1, .int (nI 107)), (2, .int (nI 110)), (3, .int (nI 101)), (4, .int (nI 101)), (5, .int (nI 108)), (6, .int (nI 0))]) hx hb dX8_isWord_148 hl (by decide) rfl (fun ls hl => ?_)
                refine lv_iinc (v := nI 1) (lv' := [(8, .int (nI 1)), (7, .int (nI 0)), (9, .int (nI 107)), (0, .ref (z 0)), (1, .int (nI 107)), (2, .int (nI 110)), (3, .int (nI 101)), (4, .int (nI 101)), (5, .int (nI 108)), (6, .int (nI 0))]) hx hb dX8_isWord_150 hl (k := 2) rfl (by decide) (by decide) rfl (fun ls hl => ?_)
                refine lv_goto (tgt := 32) hx hb dX8_isWord_153 (by decide) ?_
                refine lv_iload hx hb dX8_isWord_32 (lv_at hl 0 rfl) ?_
                refine ta_bipush C 6 dX8_isWord_34 (by decide) ?_
                refine lv_icmp_ge (tgt := 156) hx hb dX8_isWord_36 (by decide) (fun c12 => ?_) (fun c12 => ?_)
                · exact absurd c12 (by decide)
                · refine lv_iload hx hb dX8_isWord_39 (lv_at hl 1 rfl) ?_
                  refine lv_if_eq (tgt := 156) hx hb dX8_isWord_41 (by decide) (fun c13 => ?_) (fun c13 => ?_)
                  · refine lv_iload hx hb dX8_isWord_156 (lv_at hl 1 rfl) ?_
                    have hnw : ¬ tk_is tx (tn_s tx L p0) (tn_e tx L p0) 8 := by
                      intro h
                      have h9 : tn_e tx L p0 - tn_s tx L p0 = 5 := h.1
                      have h8 : tx (tn_s tx L p0 + 0) = 107 := h.2 0 (by decide)
                      omega
                    exact ret _ () dX8_isWord_158 (by decide) (Or.inr ⟨hnw, rfl⟩) hP hD hS
                  · exact absurd c13 (by decide)
              · exact absurd c11 (by decide)
            · have hr0 := hrow (tn_s tx L p0 + 0) (by omega) (by omega)
              refine lv_aload_n hx hb dX8_isWord_113 rfl (lv_at hl 3 rfl) ?_
              refine ta_get C hP 0 inlX8 rfl rfl 0 (by decide) tw_125 rfl dX8_isWord_114 ?_
              refine lv_aload_n hx hb dX8_isWord_117 rfl (lv_at hl 3 rfl) ?_
              refine ta_get C hP 0 inlX8 rfl rfl 13 (by decide) tw_304 rfl dX8_isWord_118 ?_
              refine lv_iload hx hb dX8_isWord_121 (lv_at hl 1 rfl) ?_
              refine ta_iadd C (a := tn_s tx L p0) (b := 0) dX8_isWord_123 ?_
              refine ta_iald C hP 1 rfl (i := (tn_s tx L p0) + 0) (by omega) dX8_isWord_124 ?_
              refine lv_iload hx hb dX8_isWord_125 (lv_at hl 0 rfl) ?_
              refine ta_cne C (a := tx ((tn_s tx L p0) + 0)) (b := 107) (tgt := 134) (by omega) (by omega) dX8_isWord_127 (by decide) (fun c14 => ?_) (fun c14 => ?_)
              · refine ta_iconst C 0 dX8_isWord_134 (by decide) ?_
                refine lv_goto (tgt := 148) hx hb dX8_isWord_135 (by decide) ?_
                refine lv_istore (lv' := [(7, .int (nI 0)), (9, .int (nI 107)), (8, .int (nI 0)), (0, .ref (z 0)), (1, .int (nI 107)), (2, .int (nI 110)), (3, .int (nI 101)), (4, .int (nI 101)), (5, .int (nI 108)), (6, .int (nI 0))]) hx hb dX8_isWord_148 hl (by decide) rfl (fun ls hl => ?_)
                refine lv_iinc (v := nI 1) (lv' := [(8, .int (nI 1)), (7, .int (nI 0)), (9, .int (nI 107)), (0, .ref (z 0)), (1, .int (nI 107)), (2, .int (nI 110)), (3, .int (nI 101)), (4, .int (nI 101)), (5, .int (nI 108)), (6, .int (nI 0))]) hx hb dX8_isWord_150 hl (k := 2) rfl (by decide) (by decide) rfl (fun ls hl => ?_)
                refine lv_goto (tgt := 32) hx hb dX8_isWord_153 (by decide) ?_
                refine lv_iload hx hb dX8_isWord_32 (lv_at hl 0 rfl) ?_
                refine ta_bipush C 6 dX8_isWord_34 (by decide) ?_
                refine lv_icmp_ge (tgt := 156) hx hb dX8_isWord_36 (by decide) (fun c15 => ?_) (fun c15 => ?_)
                · exact absurd c15 (by decide)
                · refine lv_iload hx hb dX8_isWord_39 (lv_at hl 1 rfl) ?_
                  refine lv_if_eq (tgt := 156) hx hb dX8_isWord_41 (by decide) (fun c16 => ?_) (fun c16 => ?_)
                  · refine lv_iload hx hb dX8_isWord_156 (lv_at hl 1 rfl) ?_
                    have hnw : ¬ tk_is tx (tn_s tx L p0) (tn_e tx L p0) 8 := by
                      intro h
                      have h9 : tn_e tx L p0 - tn_s tx L p0 = 5 := h.1
                      have h8 : tx (tn_s tx L p0 + 0) = 107 := h.2 0 (by decide)
                      omega
                    exact ret _ () dX8_isWord_158 (by decide) (Or.inr ⟨hnw, rfl⟩) hP hD hS
                  · exact absurd c16 (by decide)
              · refine ta_iconst C 1 dX8_isWord_130 (by decide) ?_
                refine lv_goto (tgt := 148) hx hb dX8_isWord_131 (by decide) ?_
                refine lv_istore (lv' := [(7, .int (nI 1)), (9, .int (nI 107)), (8, .int (nI 0)), (0, .ref (z 0)), (1, .int (nI 107)), (2, .int (nI 110)), (3, .int (nI 101)), (4, .int (nI 101)), (5, .int (nI 108)), (6, .int (nI 0))]) hx hb dX8_isWord_148 hl (by decide) rfl (fun ls hl => ?_)
                refine lv_iinc (v := nI 1) (lv' := [(8, .int (nI 1)), (7, .int (nI 1)), (9, .int (nI 107)), (0, .ref (z 0)), (1, .int (nI 107)), (2, .int (nI 110)), (3, .int (nI 101)), (4, .int (nI 101)), (5, .int (nI 108)), (6, .int (nI 0))]) hx hb dX8_isWord_150 hl (k := 2) rfl (by decide) (by decide) rfl (fun ls hl => ?_)
                refine lv_goto (tgt := 32) hx hb dX8_isWord_153 (by decide) ?_
                refine lv_iload hx hb dX8_isWord_32 (lv_at hl 0 rfl) ?_
                refine ta_bipush C 6 dX8_isWord_34 (by decide) ?_
                refine lv_icmp_ge (tgt := 156) hx hb dX8_isWord_36 (by decide) (fun c17 => ?_) (fun c17 => ?_)
                · exact absurd c17 (by decide)
                · refine lv_iload hx hb dX8_isWord_39 (lv_at hl 1 rfl) ?_
                  refine lv_if_eq (tgt := 156) hx hb dX8_isWord_41 (by decide) (fun c18 => ?_) (fun c18 => ?_)
                  · exact absurd c18 (by decide)
                  · refine lv_iload hx hb dX8_isWord_44 (lv_at hl 0 rfl) ?_
                    refine lv_if_ne (tgt := 53) hx hb dX8_isWord_46 (by decide) (fun c19 => ?_) (fun c19 => ?_)
                    · refine lv_iload hx hb dX8_isWord_53 (lv_at hl 0 rfl) ?_
                      refine ta_iconst C 1 dX8_isWord_55 (by decide) ?_
                      refine lv_icmp_ne (tgt := 63) hx hb dX8_isWord_56 (by decide) (fun c20 => ?_) (fun c20 => ?_)
                      · exact absurd c20 (by decide)
                      · refine lv_iload_n hx hb dX8_isWord_59 rfl (lv_at hl 5 rfl) ?_
                        refine lv_goto (tgt := 97) hx hb dX8_isWord_60 (by decide) ?_
                        refine lv_istore (lv' := [(9, .int (nI 110)), (8, .int (nI 1)), (7, .int (nI 1)), (0, .ref (z 0)), (1, .int (nI 107)), (2, .int (nI 110)), (3, .int (nI 101)), (4, .int (nI 101)), (5, .int (nI 108)), (6, .int (nI 0))]) hx hb dX8_isWord_97 hl (by decide) rfl (fun ls hl => ?_)
                        refine lv_aload_n hx hb dX8_isWord_99 rfl (lv_at hl 3 rfl) ?_
                        refine ta_get C hP 0 inlX8 rfl rfl 13 (by decide) tw_304 rfl dX8_isWord_100 ?_
                        refine lv_iload hx hb dX8_isWord_103 (lv_at hl 1 rfl) ?_
                        refine ta_iadd C (a := tn_s tx L p0) (b := 1) dX8_isWord_105 ?_
                        refine lv_aload_n hx hb dX8_isWord_106 rfl (lv_at hl 3 rfl) ?_
                        refine ta_get C hP 0 inlX8 rfl rfl 11 (by decide) tw_309 rfl dX8_isWord_107 ?_
                        refine ta_cge C (a := (tn_s tx L p0) + 1) (b := tn_e tx L p0) (tgt := 138) (by omega) (by omega) dX8_isWord_110 (by decide) (fun c21 => ?_) (fun c21 => ?_)
                        · refine lv_iload hx hb dX8_isWord_138 (lv_at hl 0 rfl) ?_
                          refine lv_if_ne (tgt := 147) hx hb dX8_isWord_140 (by decide) (fun c22 => ?_) (fun c22 => ?_)
                          · refine ta_iconst C 0 dX8_isWord_147 (by decide) ?_
                            refine lv_istore (lv' := [(7, .int (nI 0)), (9, .int (nI 110)), (8, .int (nI 1)), (0, .ref (z 0)), (1, .int (nI 107)), (2, .int (nI 110)), (3, .int (nI 101)), (4, .int (nI 101)), (5, .int (nI 108)), (6, .int (nI 0))]) hx hb dX8_isWord_148 hl (by decide) rfl (fun ls hl => ?_)
                            refine lv_iinc (v := nI 2) (lv' := [(8, .int (nI 2)), (7, .int (nI 0)), (9, .int (nI 110)), (0, .ref (z 0)), (1, .int (nI 107)), (2, .int (nI 110)), (3, .int (nI 101)), (4, .int (nI 101)), (5, .int (nI 108)), (6, .int (nI 0))]) hx hb dX8_isWord_150 hl (k := 2) rfl (by decide) (by decide) rfl (fun ls hl => ?_)
                            refine lv_goto (tgt := 32) hx hb dX8_isWord_153 (by decide) ?_
                            refine lv_iload hx hb dX8_isWord_32 (lv_at hl 0 rfl) ?_
                            refine ta_bipush C 6 dX8_isWord_34 (by decide) ?_
                            refine lv_icmp_ge (tgt := 156) hx hb dX8_isWord_36 (by decide) (fun c23 => ?_) (fun c23 => ?_)
                            · exact absurd c23 (by decide)
                            · refine lv_iload hx hb dX8_isWord_39 (lv_at hl 1 rfl) ?_
                              refine lv_if_eq (tgt := 156) hx hb dX8_isWord_41 (by decide) (fun c24 => ?_) (fun c24 => ?_)
                              · refine lv_iload hx hb dX8_isWord_156 (lv_at hl 1 rfl) ?_
                                have hnw : ¬ tk_is tx (tn_s tx L p0) (tn_e tx L p0) 8 := by
                                  intro h
                                  have h9 : tn_e tx L p0 - tn_s tx L p0 = 5 := h.1
                                  have h8 : tx (tn_s tx L p0 + 1) = 110 := h.2 1 (by decide)
                                  omega
                                exact ret _ () dX8_isWord_158 (by decide) (Or.inr ⟨hnw, rfl⟩) hP hD hS
                              · exact absurd c24 (by decide)
                          · exact absurd c22 (by decide)
                        · have hr1 := hrow (tn_s tx L p0 + 1) (by omega) (by omega)
                          refine lv_aload_n hx hb dX8_isWord_113 rfl (lv_at hl 3 rfl) ?_
                          refine ta_get C hP 0 inlX8 rfl rfl 0 (by decide) tw_125 rfl dX8_isWord_114 ?_
                          refine lv_aload_n hx hb dX8_isWord_117 rfl (lv_at hl 3 rfl) ?_
                          refine ta_get C hP 0 inlX8 rfl rfl 13 (by decide) tw_304 rfl dX8_isWord_118 ?_
                          refine lv_iload hx hb dX8_isWord_121 (lv_at hl 1 rfl) ?_
                          refine ta_iadd C (a := tn_s tx L p0) (b := 1) dX8_isWord_123 ?_
                          refine ta_iald C hP 1 rfl (i := (tn_s tx L p0) + 1) (by omega) dX8_isWord_124 ?_
                          refine lv_iload hx hb dX8_isWord_125 (lv_at hl 0 rfl) ?_
                          refine ta_cne C (a := tx ((tn_s tx L p0) + 1)) (b := 110) (tgt := 134) (by omega) (by omega) dX8_isWord_127 (by decide) (fun c25 => ?_) (fun c25 => ?_)
                          · refine ta_iconst C 0 dX8_isWord_134 (by decide) ?_
                            refine lv_goto (tgt := 148) hx hb dX8_isWord_135 (by decide) ?_
                            refine lv_istore (lv' := [(7, .int (nI 0)), (9, .int (nI 110)), (8, .int (nI 1)), (0, .ref (z 0)), (1, .int (nI 107)), (2, .int (nI 110)), (3, .int (nI 101)), (4, .int (nI 101)), (5, .int (nI 108)), (6, .int (nI 0))]) hx hb dX8_isWord_148 hl (by decide) rfl (fun ls hl => ?_)
                            refine lv_iinc (v := nI 2) (lv' := [(8, .int (nI 2)), (7, .int (nI 0)), (9, .int (nI 110)), (0, .ref (z 0)), (1, .int (nI 107)), (2, .int (nI 110)), (3, .int (nI 101)), (4, .int (nI 101)), (5, .int (nI 108)), (6, .int (nI 0))]) hx hb dX8_isWord_150 hl (k := 2) rfl (by decide) (by decide) rfl (fun ls hl => ?_)
                            refine lv_goto (tgt := 32) hx hb dX8_isWord_153 (by decide) ?_
                            refine lv_iload hx hb dX8_isWord_32 (lv_at hl 0 rfl) ?_
                            refine ta_bipush C 6 dX8_isWord_34 (by decide) ?_
                            refine lv_icmp_ge (tgt := 156) hx hb dX8_isWord_36 (by decide) (fun c26 => ?_) (fun c26 => ?_)
                            · exact absurd c26 (by decide)
                            · refine lv_iload hx hb dX8_isWord_39 (lv_at hl 1 rfl) ?_
                              refine lv_if_eq (tgt := 156) hx hb dX8_isWord_41 (by decide) (fun c27 => ?_) (fun c27 => ?_)
                              · refine lv_iload hx hb dX8_isWord_156 (lv_at hl 1 rfl) ?_
                                have hnw : ¬ tk_is tx (tn_s tx L p0) (tn_e tx L p0) 8 := by
                                  intro h
                                  have h9 : tn_e tx L p0 - tn_s tx L p0 = 5 := h.1
                                  have h8 : tx (tn_s tx L p0 + 1) = 110 := h.2 1 (by decide)
                                  omega
                                exact ret _ () dX8_isWord_158 (by decide) (Or.inr ⟨hnw, rfl⟩) hP hD hS
                              · exact absurd c27 (by decide)
                          · refine ta_iconst C 1 dX8_isWord_130 (by decide) ?_
                            refine lv_goto (tgt := 148) hx hb dX8_isWord_131 (by decide) ?_
                            refine lv_istore (lv' := [(7, .int (nI 1)), (9, .int (nI 110)), (8, .int (nI 1)), (0, .ref (z 0)), (1, .int (nI 107)), (2, .int (nI 110)), (3, .int (nI 101)), (4, .int (nI 101)), (5, .int (nI 108)), (6, .int (nI 0))]) hx hb dX8_isWord_148 hl (by decide) rfl (fun ls hl => ?_)
                            refine lv_iinc (v := nI 2) (lv' := [(8, .int (nI 2)), (7, .int (nI 1)), (9, .int (nI 110)), (0, .ref (z 0)), (1, .int (nI 107)), (2, .int (nI 110)), (3, .int (nI 101)), (4, .int (nI 101)), (5, .int (nI 108)), (6, .int (nI 0))]) hx hb dX8_isWord_150 hl (k := 2) rfl (by decide) (by decide) rfl (fun ls hl => ?_)
                            refine lv_goto (tgt := 32) hx hb dX8_isWord_153 (by decide) ?_
                            refine lv_iload hx hb dX8_isWord_32 (lv_at hl 0 rfl) ?_
                            refine ta_bipush C 6 dX8_isWord_34 (by decide) ?_
                            refine lv_icmp_ge (tgt := 156) hx hb dX8_isWord_36 (by decide) (fun c28 => ?_) (fun c28 => ?_)
                            · exact absurd c28 (by decide)
                            · refine lv_iload hx hb dX8_isWord_39 (lv_at hl 1 rfl) ?_
                              refine lv_if_eq (tgt := 156) hx hb dX8_isWord_41 (by decide) (fun c29 => ?_) (fun c29 => ?_)
                              · exact absurd c29 (by decide)
                              · refine lv_iload hx hb dX8_isWord_44 (lv_at hl 0 rfl) ?_
                                refine lv_if_ne (tgt := 53) hx hb dX8_isWord_46 (by decide) (fun c30 => ?_) (fun c30 => ?_)
                                · refine lv_iload hx hb dX8_isWord_53 (lv_at hl 0 rfl) ?_
                                  refine ta_iconst C 1 dX8_isWord_55 (by decide) ?_
                                  refine lv_icmp_ne (tgt := 63) hx hb dX8_isWord_56 (by decide) (fun c31 => ?_) (fun c31 => ?_)
                                  · refine lv_iload hx hb dX8_isWord_63 (lv_at hl 0 rfl) ?_
                                    refine ta_iconst C 2 dX8_isWord_65 (by decide) ?_
                                    refine lv_icmp_ne (tgt := 73) hx hb dX8_isWord_66 (by decide) (fun c32 => ?_) (fun c32 => ?_)
                                    · exact absurd c32 (by decide)
                                    · refine lv_iload_n hx hb dX8_isWord_69 rfl (lv_at hl 6 rfl) ?_
                                      refine lv_goto (tgt := 97) hx hb dX8_isWord_70 (by decide) ?_
                                      refine lv_istore (lv' := [(9, .int (nI 101)), (8, .int (nI 2)), (7, .int (nI 1)), (0, .ref (z 0)), (1, .int (nI 107)), (2, .int (nI 110)), (3, .int (nI 101)), (4, .int (nI 101)), (5, .int (nI 108)), (6, .int (nI 0))]) hx hb dX8_isWord_97 hl (by decide) rfl (fun ls hl => ?_)
                                      refine lv_aload_n hx hb dX8_isWord_99 rfl (lv_at hl 3 rfl) ?_
                                      refine ta_get C hP 0 inlX8 rfl rfl 13 (by decide) tw_304 rfl dX8_isWord_100 ?_
                                      refine lv_iload hx hb dX8_isWord_103 (lv_at hl 1 rfl) ?_
                                      refine ta_iadd C (a := tn_s tx L p0) (b := 2) dX8_isWord_105 ?_
                                      refine lv_aload_n hx hb dX8_isWord_106 rfl (lv_at hl 3 rfl) ?_
                                      refine ta_get C hP 0 inlX8 rfl rfl 11 (by decide) tw_309 rfl dX8_isWord_107 ?_
                                      refine ta_cge C (a := (tn_s tx L p0) + 2) (b := tn_e tx L p0) (tgt := 138) (by omega) (by omega) dX8_isWord_110 (by decide) (fun c33 => ?_) (fun c33 => ?_)
                                      · refine lv_iload hx hb dX8_isWord_138 (lv_at hl 0 rfl) ?_
                                        refine lv_if_ne (tgt := 147) hx hb dX8_isWord_140 (by decide) (fun c34 => ?_) (fun c34 => ?_)
                                        · refine ta_iconst C 0 dX8_isWord_147 (by decide) ?_
                                          refine lv_istore (lv' := [(7, .int (nI 0)), (9, .int (nI 101)), (8, .int (nI 2)), (0, .ref (z 0)), (1, .int (nI 107)), (2, .int (nI 110)), (3, .int (nI 101)), (4, .int (nI 101)), (5, .int (nI 108)), (6, .int (nI 0))]) hx hb dX8_isWord_148 hl (by decide) rfl (fun ls hl => ?_)
                                          refine lv_iinc (v := nI 3) (lv' := [(8, .int (nI 3)), (7, .int (nI 0)), (9, .int (nI 101)), (0, .ref (z 0)), (1, .int (nI 107)), (2, .int (nI 110)), (3, .int (nI 101)), (4, .int (nI 101)), (5, .int (nI 108)), (6, .int (nI 0))]) hx hb dX8_isWord_150 hl (k := 2) rfl (by decide) (by decide) rfl (fun ls hl => ?_)
                                          refine lv_goto (tgt := 32) hx hb dX8_isWord_153 (by decide) ?_
                                          refine lv_iload hx hb dX8_isWord_32 (lv_at hl 0 rfl) ?_
                                          refine ta_bipush C 6 dX8_isWord_34 (by decide) ?_
                                          refine lv_icmp_ge (tgt := 156) hx hb dX8_isWord_36 (by decide) (fun c35 => ?_) (fun c35 => ?_)
                                          · exact absurd c35 (by decide)
                                          · refine lv_iload hx hb dX8_isWord_39 (lv_at hl 1 rfl) ?_
                                            refine lv_if_eq (tgt := 156) hx hb dX8_isWord_41 (by decide) (fun c36 => ?_) (fun c36 => ?_)
                                            · refine lv_iload hx hb dX8_isWord_156 (lv_at hl 1 rfl) ?_
                                              have hnw : ¬ tk_is tx (tn_s tx L p0) (tn_e tx L p0) 8 := by
                                                intro h
                                                have h9 : tn_e tx L p0 - tn_s tx L p0 = 5 := h.1
                                                have h8 : tx (tn_s tx L p0 + 2) = 101 := h.2 2 (by decide)
                                                omega
                                              exact ret _ () dX8_isWord_158 (by decide) (Or.inr ⟨hnw, rfl⟩) hP hD hS
                                            · exact absurd c36 (by decide)
                                        · exact absurd c34 (by decide)
                                      · have hr2 := hrow (tn_s tx L p0 + 2) (by omega) (by omega)
                                        refine lv_aload_n hx hb dX8_isWord_113 rfl (lv_at hl 3 rfl) ?_
                                        refine ta_get C hP 0 inlX8 rfl rfl 0 (by decide) tw_125 rfl dX8_isWord_114 ?_
                                        refine lv_aload_n hx hb dX8_isWord_117 rfl (lv_at hl 3 rfl) ?_
                                        refine ta_get C hP 0 inlX8 rfl rfl 13 (by decide) tw_304 rfl dX8_isWord_118 ?_
                                        refine lv_iload hx hb dX8_isWord_121 (lv_at hl 1 rfl) ?_
                                        refine ta_iadd C (a := tn_s tx L p0) (b := 2) dX8_isWord_123 ?_
                                        refine ta_iald C hP 1 rfl (i := (tn_s tx L p0) + 2) (by omega) dX8_isWord_124 ?_
                                        refine lv_iload hx hb dX8_isWord_125 (lv_at hl 0 rfl) ?_
                                        refine ta_cne C (a := tx ((tn_s tx L p0) + 2)) (b := 101) (tgt := 134) (by omega) (by omega) dX8_isWord_127 (by decide) (fun c37 => ?_) (fun c37 => ?_)
                                        · refine ta_iconst C 0 dX8_isWord_134 (by decide) ?_
                                          refine lv_goto (tgt := 148) hx hb dX8_isWord_135 (by decide) ?_
                                          refine lv_istore (lv' := [(7, .int (nI 0)), (9, .int (nI 101)), (8, .int (nI 2)), (0, .ref (z 0)), (1, .int (nI 107)), (2, .int (nI 110)), (3, .int (nI 101)), (4, .int (nI 101)), (5, .int (nI 108)), (6, .int (nI 0))]) hx hb dX8_isWord_148 hl (by decide) rfl (fun ls hl => ?_)
                                          refine lv_iinc (v := nI 3) (lv' := [(8, .int (nI 3)), (7, .int (nI 0)), (9, .int (nI 101)), (0, .ref (z 0)), (1, .int (nI 107)), (2, .int (nI 110)), (3, .int (nI 101)), (4, .int (nI 101)), (5, .int (nI 108)), (6, .int (nI 0))]) hx hb dX8_isWord_150 hl (k := 2) rfl (by decide) (by decide) rfl (fun ls hl => ?_)
                                          refine lv_goto (tgt := 32) hx hb dX8_isWord_153 (by decide) ?_
                                          refine lv_iload hx hb dX8_isWord_32 (lv_at hl 0 rfl) ?_
                                          refine ta_bipush C 6 dX8_isWord_34 (by decide) ?_
                                          refine lv_icmp_ge (tgt := 156) hx hb dX8_isWord_36 (by decide) (fun c38 => ?_) (fun c38 => ?_)
                                          · exact absurd c38 (by decide)
                                          · refine lv_iload hx hb dX8_isWord_39 (lv_at hl 1 rfl) ?_
                                            refine lv_if_eq (tgt := 156) hx hb dX8_isWord_41 (by decide) (fun c39 => ?_) (fun c39 => ?_)
                                            · refine lv_iload hx hb dX8_isWord_156 (lv_at hl 1 rfl) ?_
                                              have hnw : ¬ tk_is tx (tn_s tx L p0) (tn_e tx L p0) 8 := by
                                                intro h
                                                have h9 : tn_e tx L p0 - tn_s tx L p0 = 5 := h.1
                                                have h8 : tx (tn_s tx L p0 + 2) = 101 := h.2 2 (by decide)
                                                omega
                                              exact ret _ () dX8_isWord_158 (by decide) (Or.inr ⟨hnw, rfl⟩) hP hD hS
                                            · exact absurd c39 (by decide)
                                        · refine ta_iconst C 1 dX8_isWord_130 (by decide) ?_
                                          refine lv_goto (tgt := 148) hx hb dX8_isWord_131 (by decide) ?_
                                          refine lv_istore (lv' := [(7, .int (nI 1)), (9, .int (nI 101)), (8, .int (nI 2)), (0, .ref (z 0)), (1, .int (nI 107)), (2, .int (nI 110)), (3, .int (nI 101)), (4, .int (nI 101)), (5, .int (nI 108)), (6, .int (nI 0))]) hx hb dX8_isWord_148 hl (by decide) rfl (fun ls hl => ?_)
                                          refine lv_iinc (v := nI 3) (lv' := [(8, .int (nI 3)), (7, .int (nI 1)), (9, .int (nI 101)), (0, .ref (z 0)), (1, .int (nI 107)), (2, .int (nI 110)), (3, .int (nI 101)), (4, .int (nI 101)), (5, .int (nI 108)), (6, .int (nI 0))]) hx hb dX8_isWord_150 hl (k := 2) rfl (by decide) (by decide) rfl (fun ls hl => ?_)
                                          refine lv_goto (tgt := 32) hx hb dX8_isWord_153 (by decide) ?_
                                          refine lv_iload hx hb dX8_isWord_32 (lv_at hl 0 rfl) ?_
                                          refine ta_bipush C 6 dX8_isWord_34 (by decide) ?_
                                          refine lv_icmp_ge (tgt := 156) hx hb dX8_isWord_36 (by decide) (fun c40 => ?_) (fun c40 => ?_)
                                          · exact absurd c40 (by decide)
                                          · refine lv_iload hx hb dX8_isWord_39 (lv_at hl 1 rfl) ?_
                                            refine lv_if_eq (tgt := 156) hx hb dX8_isWord_41 (by decide) (fun c41 => ?_) (fun c41 => ?_)
                                            · exact absurd c41 (by decide)
                                            · refine lv_iload hx hb dX8_isWord_44 (lv_at hl 0 rfl) ?_
                                              refine lv_if_ne (tgt := 53) hx hb dX8_isWord_46 (by decide) (fun c42 => ?_) (fun c42 => ?_)
                                              · refine lv_iload hx hb dX8_isWord_53 (lv_at hl 0 rfl) ?_
                                                refine ta_iconst C 1 dX8_isWord_55 (by decide) ?_
                                                refine lv_icmp_ne (tgt := 63) hx hb dX8_isWord_56 (by decide) (fun c43 => ?_) (fun c43 => ?_)
                                                · refine lv_iload hx hb dX8_isWord_63 (lv_at hl 0 rfl) ?_
                                                  refine ta_iconst C 2 dX8_isWord_65 (by decide) ?_
                                                  refine lv_icmp_ne (tgt := 73) hx hb dX8_isWord_66 (by decide) (fun c44 => ?_) (fun c44 => ?_)
                                                  · refine lv_iload hx hb dX8_isWord_73 (lv_at hl 0 rfl) ?_
                                                    refine ta_iconst C 3 dX8_isWord_75 (by decide) ?_
                                                    refine lv_icmp_ne (tgt := 84) hx hb dX8_isWord_76 (by decide) (fun c45 => ?_) (fun c45 => ?_)
                                                    · exact absurd c45 (by decide)
                                                    · refine lv_iload hx hb dX8_isWord_79 (lv_at hl 7 rfl) ?_
                                                      refine lv_goto (tgt := 97) hx hb dX8_isWord_81 (by decide) ?_
                                                      refine lv_istore (lv' := [(9, .int (nI 101)), (8, .int (nI 3)), (7, .int (nI 1)), (0, .ref (z 0)), (1, .int (nI 107)), (2, .int (nI 110)), (3, .int (nI 101)), (4, .int (nI 101)), (5, .int (nI 108)), (6, .int (nI 0))]) hx hb dX8_isWord_97 hl (by decide) rfl (fun ls hl => ?_)
                                                      refine lv_aload_n hx hb dX8_isWord_99 rfl (lv_at hl 3 rfl) ?_
                                                      refine ta_get C hP 0 inlX8 rfl rfl 13 (by decide) tw_304 rfl dX8_isWord_100 ?_
                                                      refine lv_iload hx hb dX8_isWord_103 (lv_at hl 1 rfl) ?_
                                                      refine ta_iadd C (a := tn_s tx L p0) (b := 3) dX8_isWord_105 ?_
                                                      refine lv_aload_n hx hb dX8_isWord_106 rfl (lv_at hl 3 rfl) ?_
                                                      refine ta_get C hP 0 inlX8 rfl rfl 11 (by decide) tw_309 rfl dX8_isWord_107 ?_
                                                      refine ta_cge C (a := (tn_s tx L p0) + 3) (b := tn_e tx L p0) (tgt := 138) (by omega) (by omega) dX8_isWord_110 (by decide) (fun c46 => ?_) (fun c46 => ?_)
                                                      · refine lv_iload hx hb dX8_isWord_138 (lv_at hl 0 rfl) ?_
                                                        refine lv_if_ne (tgt := 147) hx hb dX8_isWord_140 (by decide) (fun c47 => ?_) (fun c47 => ?_)
                                                        · refine ta_iconst C 0 dX8_isWord_147 (by decide) ?_
                                                          refine lv_istore (lv' := [(7, .int (nI 0)), (9, .int (nI 101)), (8, .int (nI 3)), (0, .ref (z 0)), (1, .int (nI 107)), (2, .int (nI 110)), (3, .int (nI 101)), (4, .int (nI 101)), (5, .int (nI 108)), (6, .int (nI 0))]) hx hb dX8_isWord_148 hl (by decide) rfl (fun ls hl => ?_)
                                                          refine lv_iinc (v := nI 4) (lv' := [(8, .int (nI 4)), (7, .int (nI 0)), (9, .int (nI 101)), (0, .ref (z 0)), (1, .int (nI 107)), (2, .int (nI 110)), (3, .int (nI 101)), (4, .int (nI 101)), (5, .int (nI 108)), (6, .int (nI 0))]) hx hb dX8_isWord_150 hl (k := 2) rfl (by decide) (by decide) rfl (fun ls hl => ?_)
                                                          refine lv_goto (tgt := 32) hx hb dX8_isWord_153 (by decide) ?_
                                                          refine lv_iload hx hb dX8_isWord_32 (lv_at hl 0 rfl) ?_
                                                          refine ta_bipush C 6 dX8_isWord_34 (by decide) ?_
                                                          refine lv_icmp_ge (tgt := 156) hx hb dX8_isWord_36 (by decide) (fun c48 => ?_) (fun c48 => ?_)
                                                          · exact absurd c48 (by decide)
                                                          · refine lv_iload hx hb dX8_isWord_39 (lv_at hl 1 rfl) ?_
                                                            refine lv_if_eq (tgt := 156) hx hb dX8_isWord_41 (by decide) (fun c49 => ?_) (fun c49 => ?_)
                                                            · refine lv_iload hx hb dX8_isWord_156 (lv_at hl 1 rfl) ?_
                                                              have hnw : ¬ tk_is tx (tn_s tx L p0) (tn_e tx L p0) 8 := by
                                                                intro h
                                                                have h9 : tn_e tx L p0 - tn_s tx L p0 = 5 := h.1
                                                                have h8 : tx (tn_s tx L p0 + 3) = 101 := h.2 3 (by decide)
                                                                omega
                                                              exact ret _ () dX8_isWord_158 (by decide) (Or.inr ⟨hnw, rfl⟩) hP hD hS
                                                            · exact absurd c49 (by decide)
                                                        · exact absurd c47 (by decide)
                                                      · have hr3 := hrow (tn_s tx L p0 + 3) (by omega) (by omega)
                                                        refine lv_aload_n hx hb dX8_isWord_113 rfl (lv_at hl 3 rfl) ?_
                                                        refine ta_get C hP 0 inlX8 rfl rfl 0 (by decide) tw_125 rfl dX8_isWord_114 ?_
                                                        refine lv_aload_n hx hb dX8_isWord_117 rfl (lv_at hl 3 rfl) ?_
                                                        refine ta_get C hP 0 inlX8 rfl rfl 13 (by decide) tw_304 rfl dX8_isWord_118 ?_
                                                        refine lv_iload hx hb dX8_isWord_121 (lv_at hl 1 rfl) ?_
                                                        refine ta_iadd C (a := tn_s tx L p0) (b := 3) dX8_isWord_123 ?_
                                                        refine ta_iald C hP 1 rfl (i := (tn_s tx L p0) + 3) (by omega) dX8_isWord_124 ?_
                                                        refine lv_iload hx hb dX8_isWord_125 (lv_at hl 0 rfl) ?_
                                                        refine ta_cne C (a := tx ((tn_s tx L p0) + 3)) (b := 101) (tgt := 134) (by omega) (by omega) dX8_isWord_127 (by decide) (fun c50 => ?_) (fun c50 => ?_)
                                                        · refine ta_iconst C 0 dX8_isWord_134 (by decide) ?_
                                                          refine lv_goto (tgt := 148) hx hb dX8_isWord_135 (by decide) ?_
                                                          refine lv_istore (lv' := [(7, .int (nI 0)), (9, .int (nI 101)), (8, .int (nI 3)), (0, .ref (z 0)), (1, .int (nI 107)), (2, .int (nI 110)), (3, .int (nI 101)), (4, .int (nI 101)), (5, .int (nI 108)), (6, .int (nI 0))]) hx hb dX8_isWord_148 hl (by decide) rfl (fun ls hl => ?_)
                                                          refine lv_iinc (v := nI 4) (lv' := [(8, .int (nI 4)), (7, .int (nI 0)), (9, .int (nI 101)), (0, .ref (z 0)), (1, .int (nI 107)), (2, .int (nI 110)), (3, .int (nI 101)), (4, .int (nI 101)), (5, .int (nI 108)), (6, .int (nI 0))]) hx hb dX8_isWord_150 hl (k := 2) rfl (by decide) (by decide) rfl (fun ls hl => ?_)
                                                          refine lv_goto (tgt := 32) hx hb dX8_isWord_153 (by decide) ?_
                                                          refine lv_iload hx hb dX8_isWord_32 (lv_at hl 0 rfl) ?_
                                                          refine ta_bipush C 6 dX8_isWord_34 (by decide) ?_
                                                          refine lv_icmp_ge (tgt := 156) hx hb dX8_isWord_36 (by decide) (fun c51 => ?_) (fun c51 => ?_)
                                                          · exact absurd c51 (by decide)
                                                          · refine lv_iload hx hb dX8_isWord_39 (lv_at hl 1 rfl) ?_
                                                            refine lv_if_eq (tgt := 156) hx hb dX8_isWord_41 (by decide) (fun c52 => ?_) (fun c52 => ?_)
                                                            · refine lv_iload hx hb dX8_isWord_156 (lv_at hl 1 rfl) ?_
                                                              have hnw : ¬ tk_is tx (tn_s tx L p0) (tn_e tx L p0) 8 := by
                                                                intro h
                                                                have h9 : tn_e tx L p0 - tn_s tx L p0 = 5 := h.1
                                                                have h8 : tx (tn_s tx L p0 + 3) = 101 := h.2 3 (by decide)
                                                                omega
                                                              exact ret _ () dX8_isWord_158 (by decide) (Or.inr ⟨hnw, rfl⟩) hP hD hS
                                                            · exact absurd c52 (by decide)
                                                        · refine ta_iconst C 1 dX8_isWord_130 (by decide) ?_
                                                          refine lv_goto (tgt := 148) hx hb dX8_isWord_131 (by decide) ?_
                                                          refine lv_istore (lv' := [(7, .int (nI 1)), (9, .int (nI 101)), (8, .int (nI 3)), (0, .ref (z 0)), (1, .int (nI 107)), (2, .int (nI 110)), (3, .int (nI 101)), (4, .int (nI 101)), (5, .int (nI 108)), (6, .int (nI 0))]) hx hb dX8_isWord_148 hl (by decide) rfl (fun ls hl => ?_)
                                                          refine lv_iinc (v := nI 4) (lv' := [(8, .int (nI 4)), (7, .int (nI 1)), (9, .int (nI 101)), (0, .ref (z 0)), (1, .int (nI 107)), (2, .int (nI 110)), (3, .int (nI 101)), (4, .int (nI 101)), (5, .int (nI 108)), (6, .int (nI 0))]) hx hb dX8_isWord_150 hl (k := 2) rfl (by decide) (by decide) rfl (fun ls hl => ?_)
                                                          refine lv_goto (tgt := 32) hx hb dX8_isWord_153 (by decide) ?_
                                                          refine lv_iload hx hb dX8_isWord_32 (lv_at hl 0 rfl) ?_
                                                          refine ta_bipush C 6 dX8_isWord_34 (by decide) ?_
                                                          refine lv_icmp_ge (tgt := 156) hx hb dX8_isWord_36 (by decide) (fun c53 => ?_) (fun c53 => ?_)
                                                          · exact absurd c53 (by decide)
                                                          · refine lv_iload hx hb dX8_isWord_39 (lv_at hl 1 rfl) ?_
                                                            refine lv_if_eq (tgt := 156) hx hb dX8_isWord_41 (by decide) (fun c54 => ?_) (fun c54 => ?_)
                                                            · exact absurd c54 (by decide)
                                                            · refine lv_iload hx hb dX8_isWord_44 (lv_at hl 0 rfl) ?_
                                                              refine lv_if_ne (tgt := 53) hx hb dX8_isWord_46 (by decide) (fun c55 => ?_) (fun c55 => ?_)
                                                              · refine lv_iload hx hb dX8_isWord_53 (lv_at hl 0 rfl) ?_
                                                                refine ta_iconst C 1 dX8_isWord_55 (by decide) ?_
                                                                refine lv_icmp_ne (tgt := 63) hx hb dX8_isWord_56 (by decide) (fun c56 => ?_) (fun c56 => ?_)
                                                                · refine lv_iload hx hb dX8_isWord_63 (lv_at hl 0 rfl) ?_
                                                                  refine ta_iconst C 2 dX8_isWord_65 (by decide) ?_
                                                                  refine lv_icmp_ne (tgt := 73) hx hb dX8_isWord_66 (by decide) (fun c57 => ?_) (fun c57 => ?_)
                                                                  · refine lv_iload hx hb dX8_isWord_73 (lv_at hl 0 rfl) ?_
                                                                    refine ta_iconst C 3 dX8_isWord_75 (by decide) ?_
                                                                    refine lv_icmp_ne (tgt := 84) hx hb dX8_isWord_76 (by decide) (fun c58 => ?_) (fun c58 => ?_)
                                                                    · refine lv_iload hx hb dX8_isWord_84 (lv_at hl 0 rfl) ?_
                                                                      refine ta_iconst C 4 dX8_isWord_86 (by decide) ?_
                                                                      refine lv_icmp_ne (tgt := 95) hx hb dX8_isWord_87 (by decide) (fun c59 => ?_) (fun c59 => ?_)
                                                                      · exact absurd c59 (by decide)
                                                                      · refine lv_iload hx hb dX8_isWord_90 (lv_at hl 8 rfl) ?_
                                                                        refine lv_goto (tgt := 97) hx hb dX8_isWord_92 (by decide) ?_
                                                                        refine lv_istore (lv' := [(9, .int (nI 108)), (8, .int (nI 4)), (7, .int (nI 1)), (0, .ref (z 0)), (1, .int (nI 107)), (2, .int (nI 110)), (3, .int (nI 101)), (4, .int (nI 101)), (5, .int (nI 108)), (6, .int (nI 0))]) hx hb dX8_isWord_97 hl (by decide) rfl (fun ls hl => ?_)
                                                                        refine lv_aload_n hx hb dX8_isWord_99 rfl (lv_at hl 3 rfl) ?_
                                                                        refine ta_get C hP 0 inlX8 rfl rfl 13 (by decide) tw_304 rfl dX8_isWord_100 ?_
                                                                        refine lv_iload hx hb dX8_isWord_103 (lv_at hl 1 rfl) ?_
                                                                        refine ta_iadd C (a := tn_s tx L p0) (b := 4) dX8_isWord_105 ?_
                                                                        refine lv_aload_n hx hb dX8_isWord_106 rfl (lv_at hl 3 rfl) ?_
                                                                        refine ta_get C hP 0 inlX8 rfl rfl 11 (by decide) tw_309 rfl dX8_isWord_107 ?_
                                                                        refine ta_cge C (a := (tn_s tx L p0) + 4) (b := tn_e tx L p0) (tgt := 138) (by omega) (by omega) dX8_isWord_110 (by decide) (fun c60 => ?_) (fun c60 => ?_)
                                                                        · refine lv_iload hx hb dX8_isWord_138 (lv_at hl 0 rfl) ?_
                                                                          refine lv_if_ne (tgt := 147) hx hb dX8_isWord_140 (by decide) (fun c61 => ?_) (fun c61 => ?_)
                                                                          · refine ta_iconst C 0 dX8_isWord_147 (by decide) ?_
                                                                            refine lv_istore (lv' := [(7, .int (nI 0)), (9, .int (nI 108)), (8, .int (nI 4)), (0, .ref (z 0)), (1, .int (nI 107)), (2, .int (nI 110)), (3, .int (nI 101)), (4, .int (nI 101)), (5, .int (nI 108)), (6, .int (nI 0))]) hx hb dX8_isWord_148 hl (by decide) rfl (fun ls hl => ?_)
                                                                            refine lv_iinc (v := nI 5) (lv' := [(8, .int (nI 5)), (7, .int (nI 0)), (9, .int (nI 108)), (0, .ref (z 0)), (1, .int (nI 107)), (2, .int (nI 110)), (3, .int (nI 101)), (4, .int (nI 101)), (5, .int (nI 108)), (6, .int (nI 0))]) hx hb dX8_isWord_150 hl (k := 2) rfl (by decide) (by decide) rfl (fun ls hl => ?_)
                                                                            refine lv_goto (tgt := 32) hx hb dX8_isWord_153 (by decide) ?_
                                                                            refine lv_iload hx hb dX8_isWord_32 (lv_at hl 0 rfl) ?_
                                                                            refine ta_bipush C 6 dX8_isWord_34 (by decide) ?_
                                                                            refine lv_icmp_ge (tgt := 156) hx hb dX8_isWord_36 (by decide) (fun c62 => ?_) (fun c62 => ?_)
                                                                            · exact absurd c62 (by decide)
                                                                            · refine lv_iload hx hb dX8_isWord_39 (lv_at hl 1 rfl) ?_
                                                                              refine lv_if_eq (tgt := 156) hx hb dX8_isWord_41 (by decide) (fun c63 => ?_) (fun c63 => ?_)
                                                                              · refine lv_iload hx hb dX8_isWord_156 (lv_at hl 1 rfl) ?_
                                                                                have hnw : ¬ tk_is tx (tn_s tx L p0) (tn_e tx L p0) 8 := by
                                                                                  intro h
                                                                                  have h9 : tn_e tx L p0 - tn_s tx L p0 = 5 := h.1
                                                                                  have h8 : tx (tn_s tx L p0 + 4) = 108 := h.2 4 (by decide)
                                                                                  omega
                                                                                exact ret _ () dX8_isWord_158 (by decide) (Or.inr ⟨hnw, rfl⟩) hP hD hS
                                                                              · exact absurd c63 (by decide)
                                                                          · exact absurd c61 (by decide)
                                                                        · have hr4 := hrow (tn_s tx L p0 + 4) (by omega) (by omega)
                                                                          refine lv_aload_n hx hb dX8_isWord_113 rfl (lv_at hl 3 rfl) ?_
                                                                          refine ta_get C hP 0 inlX8 rfl rfl 0 (by decide) tw_125 rfl dX8_isWord_114 ?_
                                                                          refine lv_aload_n hx hb dX8_isWord_117 rfl (lv_at hl 3 rfl) ?_
                                                                          refine ta_get C hP 0 inlX8 rfl rfl 13 (by decide) tw_304 rfl dX8_isWord_118 ?_
                                                                          refine lv_iload hx hb dX8_isWord_121 (lv_at hl 1 rfl) ?_
                                                                          refine ta_iadd C (a := tn_s tx L p0) (b := 4) dX8_isWord_123 ?_
                                                                          refine ta_iald C hP 1 rfl (i := (tn_s tx L p0) + 4) (by omega) dX8_isWord_124 ?_
                                                                          refine lv_iload hx hb dX8_isWord_125 (lv_at hl 0 rfl) ?_
                                                                          refine ta_cne C (a := tx ((tn_s tx L p0) + 4)) (b := 108) (tgt := 134) (by omega) (by omega) dX8_isWord_127 (by decide) (fun c64 => ?_) (fun c64 => ?_)
                                                                          · refine ta_iconst C 0 dX8_isWord_134 (by decide) ?_
                                                                            refine lv_goto (tgt := 148) hx hb dX8_isWord_135 (by decide) ?_
                                                                            refine lv_istore (lv' := [(7, .int (nI 0)), (9, .int (nI 108)), (8, .int (nI 4)), (0, .ref (z 0)), (1, .int (nI 107)), (2, .int (nI 110)), (3, .int (nI 101)), (4, .int (nI 101)), (5, .int (nI 108)), (6, .int (nI 0))]) hx hb dX8_isWord_148 hl (by decide) rfl (fun ls hl => ?_)
                                                                            refine lv_iinc (v := nI 5) (lv' := [(8, .int (nI 5)), (7, .int (nI 0)), (9, .int (nI 108)), (0, .ref (z 0)), (1, .int (nI 107)), (2, .int (nI 110)), (3, .int (nI 101)), (4, .int (nI 101)), (5, .int (nI 108)), (6, .int (nI 0))]) hx hb dX8_isWord_150 hl (k := 2) rfl (by decide) (by decide) rfl (fun ls hl => ?_)
                                                                            refine lv_goto (tgt := 32) hx hb dX8_isWord_153 (by decide) ?_
                                                                            refine lv_iload hx hb dX8_isWord_32 (lv_at hl 0 rfl) ?_
                                                                            refine ta_bipush C 6 dX8_isWord_34 (by decide) ?_
                                                                            refine lv_icmp_ge (tgt := 156) hx hb dX8_isWord_36 (by decide) (fun c65 => ?_) (fun c65 => ?_)
                                                                            · exact absurd c65 (by decide)
                                                                            · refine lv_iload hx hb dX8_isWord_39 (lv_at hl 1 rfl) ?_
                                                                              refine lv_if_eq (tgt := 156) hx hb dX8_isWord_41 (by decide) (fun c66 => ?_) (fun c66 => ?_)
                                                                              · refine lv_iload hx hb dX8_isWord_156 (lv_at hl 1 rfl) ?_
                                                                                have hnw : ¬ tk_is tx (tn_s tx L p0) (tn_e tx L p0) 8 := by
                                                                                  intro h
                                                                                  have h9 : tn_e tx L p0 - tn_s tx L p0 = 5 := h.1
                                                                                  have h8 : tx (tn_s tx L p0 + 4) = 108 := h.2 4 (by decide)
                                                                                  omega
                                                                                exact ret _ () dX8_isWord_158 (by decide) (Or.inr ⟨hnw, rfl⟩) hP hD hS
                                                                              · exact absurd c66 (by decide)
                                                                          · refine ta_iconst C 1 dX8_isWord_130 (by decide) ?_
                                                                            refine lv_goto (tgt := 148) hx hb dX8_isWord_131 (by decide) ?_
                                                                            refine lv_istore (lv' := [(7, .int (nI 1)), (9, .int (nI 108)), (8, .int (nI 4)), (0, .ref (z 0)), (1, .int (nI 107)), (2, .int (nI 110)), (3, .int (nI 101)), (4, .int (nI 101)), (5, .int (nI 108)), (6, .int (nI 0))]) hx hb dX8_isWord_148 hl (by decide) rfl (fun ls hl => ?_)
                                                                            refine lv_iinc (v := nI 5) (lv' := [(8, .int (nI 5)), (7, .int (nI 1)), (9, .int (nI 108)), (0, .ref (z 0)), (1, .int (nI 107)), (2, .int (nI 110)), (3, .int (nI 101)), (4, .int (nI 101)), (5, .int (nI 108)), (6, .int (nI 0))]) hx hb dX8_isWord_150 hl (k := 2) rfl (by decide) (by decide) rfl (fun ls hl => ?_)
                                                                            refine lv_goto (tgt := 32) hx hb dX8_isWord_153 (by decide) ?_
                                                                            refine lv_iload hx hb dX8_isWord_32 (lv_at hl 0 rfl) ?_
                                                                            refine ta_bipush C 6 dX8_isWord_34 (by decide) ?_
                                                                            refine lv_icmp_ge (tgt := 156) hx hb dX8_isWord_36 (by decide) (fun c67 => ?_) (fun c67 => ?_)
                                                                            · exact absurd c67 (by decide)
                                                                            · refine lv_iload hx hb dX8_isWord_39 (lv_at hl 1 rfl) ?_
                                                                              refine lv_if_eq (tgt := 156) hx hb dX8_isWord_41 (by decide) (fun c68 => ?_) (fun c68 => ?_)
                                                                              · exact absurd c68 (by decide)
                                                                              · refine lv_iload hx hb dX8_isWord_44 (lv_at hl 0 rfl) ?_
                                                                                refine lv_if_ne (tgt := 53) hx hb dX8_isWord_46 (by decide) (fun c69 => ?_) (fun c69 => ?_)
                                                                                · refine lv_iload hx hb dX8_isWord_53 (lv_at hl 0 rfl) ?_
                                                                                  refine ta_iconst C 1 dX8_isWord_55 (by decide) ?_
                                                                                  refine lv_icmp_ne (tgt := 63) hx hb dX8_isWord_56 (by decide) (fun c70 => ?_) (fun c70 => ?_)
                                                                                  · refine lv_iload hx hb dX8_isWord_63 (lv_at hl 0 rfl) ?_
                                                                                    refine ta_iconst C 2 dX8_isWord_65 (by decide) ?_
                                                                                    refine lv_icmp_ne (tgt := 73) hx hb dX8_isWord_66 (by decide) (fun c71 => ?_) (fun c71 => ?_)
                                                                                    · refine lv_iload hx hb dX8_isWord_73 (lv_at hl 0 rfl) ?_
                                                                                      refine ta_iconst C 3 dX8_isWord_75 (by decide) ?_
                                                                                      refine lv_icmp_ne (tgt := 84) hx hb dX8_isWord_76 (by decide) (fun c72 => ?_) (fun c72 => ?_)
                                                                                      · refine lv_iload hx hb dX8_isWord_84 (lv_at hl 0 rfl) ?_
                                                                                        refine ta_iconst C 4 dX8_isWord_86 (by decide) ?_
                                                                                        refine lv_icmp_ne (tgt := 95) hx hb dX8_isWord_87 (by decide) (fun c73 => ?_) (fun c73 => ?_)
                                                                                        · refine lv_iload hx hb dX8_isWord_95 (lv_at hl 9 rfl) ?_
                                                                                          refine lv_istore (lv' := [(9, .int (nI 0)), (8, .int (nI 5)), (7, .int (nI 1)), (0, .ref (z 0)), (1, .int (nI 107)), (2, .int (nI 110)), (3, .int (nI 101)), (4, .int (nI 101)), (5, .int (nI 108)), (6, .int (nI 0))]) hx hb dX8_isWord_97 hl (by decide) rfl (fun ls hl => ?_)
                                                                                          refine lv_aload_n hx hb dX8_isWord_99 rfl (lv_at hl 3 rfl) ?_
                                                                                          refine ta_get C hP 0 inlX8 rfl rfl 13 (by decide) tw_304 rfl dX8_isWord_100 ?_
                                                                                          refine lv_iload hx hb dX8_isWord_103 (lv_at hl 1 rfl) ?_
                                                                                          refine ta_iadd C (a := tn_s tx L p0) (b := 5) dX8_isWord_105 ?_
                                                                                          refine lv_aload_n hx hb dX8_isWord_106 rfl (lv_at hl 3 rfl) ?_
                                                                                          refine ta_get C hP 0 inlX8 rfl rfl 11 (by decide) tw_309 rfl dX8_isWord_107 ?_
                                                                                          refine ta_cge C (a := (tn_s tx L p0) + 5) (b := tn_e tx L p0) (tgt := 138) (by omega) (by omega) dX8_isWord_110 (by decide) (fun c74 => ?_) (fun c74 => ?_)
                                                                                          · refine lv_iload hx hb dX8_isWord_138 (lv_at hl 0 rfl) ?_
                                                                                            refine lv_if_ne (tgt := 147) hx hb dX8_isWord_140 (by decide) (fun c75 => ?_) (fun c75 => ?_)
                                                                                            · exact absurd c75 (by decide)
                                                                                            · refine ta_iconst C 1 dX8_isWord_143 (by decide) ?_
                                                                                              refine lv_goto (tgt := 148) hx hb dX8_isWord_144 (by decide) ?_
                                                                                              refine lv_istore (lv' := [(7, .int (nI 1)), (9, .int (nI 0)), (8, .int (nI 5)), (0, .ref (z 0)), (1, .int (nI 107)), (2, .int (nI 110)), (3, .int (nI 101)), (4, .int (nI 101)), (5, .int (nI 108)), (6, .int (nI 0))]) hx hb dX8_isWord_148 hl (by decide) rfl (fun ls hl => ?_)
                                                                                              refine lv_iinc (v := nI 6) (lv' := [(8, .int (nI 6)), (7, .int (nI 1)), (9, .int (nI 0)), (0, .ref (z 0)), (1, .int (nI 107)), (2, .int (nI 110)), (3, .int (nI 101)), (4, .int (nI 101)), (5, .int (nI 108)), (6, .int (nI 0))]) hx hb dX8_isWord_150 hl (k := 2) rfl (by decide) (by decide) rfl (fun ls hl => ?_)
                                                                                              refine lv_goto (tgt := 32) hx hb dX8_isWord_153 (by decide) ?_
                                                                                              refine lv_iload hx hb dX8_isWord_32 (lv_at hl 0 rfl) ?_
                                                                                              refine ta_bipush C 6 dX8_isWord_34 (by decide) ?_
                                                                                              refine lv_icmp_ge (tgt := 156) hx hb dX8_isWord_36 (by decide) (fun c76 => ?_) (fun c76 => ?_)
                                                                                              · refine lv_iload hx hb dX8_isWord_156 (lv_at hl 1 rfl) ?_
                                                                                                have hw : tk_is tx (tn_s tx L p0) (tn_e tx L p0) 8 := by
                                                                                                  refine ⟨show tn_e tx L p0 - tn_s tx L p0 = 5 by omega, fun j hj => ?_⟩
                                                                                                  have hj : j < 5 := hj
                                                                                                  rcases (show j = 0 ∨ j = 1 ∨ j = 2 ∨ j = 3 ∨ j = 4 by omega) with rfl | rfl | rfl | rfl | rfl
                                                                                                  · show tx (tn_s tx L p0 + 0) = 107; omega
                                                                                                  · show tx (tn_s tx L p0 + 1) = 110; omega
                                                                                                  · show tx (tn_s tx L p0 + 2) = 101; omega
                                                                                                  · show tx (tn_s tx L p0 + 3) = 101; omega
                                                                                                  · show tx (tn_s tx L p0 + 4) = 108; omega
                                                                                                exact ret _ () dX8_isWord_158 (by decide) (Or.inl ⟨hw, rfl⟩) hP hD hS
                                                                                              · exact absurd c76 (by decide)
                                                                                          · have hr5 := hrow (tn_s tx L p0 + 5) (by omega) (by omega)
                                                                                            refine lv_aload_n hx hb dX8_isWord_113 rfl (lv_at hl 3 rfl) ?_
                                                                                            refine ta_get C hP 0 inlX8 rfl rfl 0 (by decide) tw_125 rfl dX8_isWord_114 ?_
                                                                                            refine lv_aload_n hx hb dX8_isWord_117 rfl (lv_at hl 3 rfl) ?_
                                                                                            refine ta_get C hP 0 inlX8 rfl rfl 13 (by decide) tw_304 rfl dX8_isWord_118 ?_
                                                                                            refine lv_iload hx hb dX8_isWord_121 (lv_at hl 1 rfl) ?_
                                                                                            refine ta_iadd C (a := tn_s tx L p0) (b := 5) dX8_isWord_123 ?_
                                                                                            refine ta_iald C hP 1 rfl (i := (tn_s tx L p0) + 5) (by omega) dX8_isWord_124 ?_
                                                                                            refine lv_iload hx hb dX8_isWord_125 (lv_at hl 0 rfl) ?_
                                                                                            refine ta_cne C (a := tx ((tn_s tx L p0) + 5)) (b := 0) (tgt := 134) (by omega) (by omega) dX8_isWord_127 (by decide) (fun c77 => ?_) (fun c77 => ?_)
                                                                                            · refine ta_iconst C 0 dX8_isWord_134 (by decide) ?_
                                                                                              refine lv_goto (tgt := 148) hx hb dX8_isWord_135 (by decide) ?_
                                                                                              refine lv_istore (lv' := [(7, .int (nI 0)), (9, .int (nI 0)), (8, .int (nI 5)), (0, .ref (z 0)), (1, .int (nI 107)), (2, .int (nI 110)), (3, .int (nI 101)), (4, .int (nI 101)), (5, .int (nI 108)), (6, .int (nI 0))]) hx hb dX8_isWord_148 hl (by decide) rfl (fun ls hl => ?_)
                                                                                              refine lv_iinc (v := nI 6) (lv' := [(8, .int (nI 6)), (7, .int (nI 0)), (9, .int (nI 0)), (0, .ref (z 0)), (1, .int (nI 107)), (2, .int (nI 110)), (3, .int (nI 101)), (4, .int (nI 101)), (5, .int (nI 108)), (6, .int (nI 0))]) hx hb dX8_isWord_150 hl (k := 2) rfl (by decide) (by decide) rfl (fun ls hl => ?_)
                                                                                              refine lv_goto (tgt := 32) hx hb dX8_isWord_153 (by decide) ?_
                                                                                              refine lv_iload hx hb dX8_isWord_32 (lv_at hl 0 rfl) ?_
                                                                                              refine ta_bipush C 6 dX8_isWord_34 (by decide) ?_
                                                                                              refine lv_icmp_ge (tgt := 156) hx hb dX8_isWord_36 (by decide) (fun c78 => ?_) (fun c78 => ?_)
                                                                                              · refine lv_iload hx hb dX8_isWord_156 (lv_at hl 1 rfl) ?_
                                                                                                have hnw : ¬ tk_is tx (tn_s tx L p0) (tn_e tx L p0) 8 := by
                                                                                                  intro h
                                                                                                  have h9 : tn_e tx L p0 - tn_s tx L p0 = 5 := h.1
                                                                                                  omega
                                                                                                exact ret _ () dX8_isWord_158 (by decide) (Or.inr ⟨hnw, rfl⟩) hP hD hS
                                                                                              · exact absurd c78 (by decide)
                                                                                            · exfalso; omega
                                                                                        · exact absurd c73 (by decide)
                                                                                      · exact absurd c72 (by decide)
                                                                                    · exact absurd c71 (by decide)
                                                                                  · exact absurd c70 (by decide)
                                                                                · exact absurd c69 (by decide)
                                                                    · exact absurd c58 (by decide)
                                                                  · exact absurd c57 (by decide)
                                                                · exact absurd c56 (by decide)
                                                              · exact absurd c55 (by decide)
                                                  · exact absurd c44 (by decide)
                                                · exact absurd c43 (by decide)
                                              · exact absurd c42 (by decide)
                                  · exact absurd c31 (by decide)
                                · exact absurd c30 (by decide)
                    · exact absurd c19 (by decide)
