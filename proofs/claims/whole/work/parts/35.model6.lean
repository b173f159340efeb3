theorem mo_s0 {tx : Nat → Nat} {L p : Nat} (h : mo_s tx L p = 0) : L ≤ tn_s tx L p := by
  rcases Nat.lt_or_ge (tn_s tx L p) L with q | q
  · unfold mo_s at h; rw [if_pos q] at h
    exact absurd h (tk_st_nb _ _ rfl)
  · exact q
theorem mo_snz {tx : Nat → Nat} {L p : Nat} (h : 0 < mo_s tx L p) : tn_s tx L p < L := by
  rcases Nat.lt_or_ge (tn_s tx L p) L with q | q
  · exact q
  · unfold mo_s at h; rw [if_neg (by omega)] at h; omega
theorem mo_59 {tx : Nat → Nat} {L p : Nat} (h : tn_s tx L p < L) (h2 : mo_s tx L p ≠ 3) : tx (tn_s tx L p) ≠ 59 := by
  intro e
  apply h2
  unfold mo_s tx_s
  rw [if_pos h, if_pos h, if_neg (by omega), if_neg (by omega), if_neg (by omega)]
set_option maxHeartbeats 4000000 in
set_option maxRecDepth 100000 in
theorem c_X8_readsClause (l : Launch) (D : va_G) (k : ta_C) (z : Nat → Nat) (kn : Nat) (no : Nat) (va : Nat) (L : Nat) (tx : Nat → Nat) (d : Nat → Nat) (p0 : Nat) (hx0 : tx_ok tx L) (hp0 : p0 ≤ L) (hpl : pl_ok d) : ta_Mi (S := Nat × Nat × Nat × Nat × (Nat → Nat)) l D k yX8_readsClause cX8_readsClause 2 .boolean 5 160 [.ref (z 0)] [(z 0, .inr (8, [.ref (z 1), .int (nI L), .ref (z 2), .ref (z 3), .ref (z 4), .ref (z 5), .int (nI kn), .ref (z 6), .ref (z 7), .ref (z 8), .int (nI no), .int (nI (tn_e tx L p0)), .int (nI (mo_s tx L p0)), .int (nI (tn_s tx L p0)), .int (nI va), .ref (z 9)])), (z 1, .inl (k.1 0, 160, .inl (ta_e tx))), (z 3, .inl (k.1 0, 23, .inl (ta_e d)))] (fun r u => mo_post (cl_read tx L p0 d) r u) (fun u => [(z 0, .inr (8, [.ref (z 1), .int (nI L), .ref (z 2), .ref (z 3), .ref (z 4), .ref (z 5), .int (nI kn), .ref (z 6), .ref (z 7), .ref (z 8), .int (nI no), .int (nI u.1), .int (nI u.2.1), .int (nI u.2.2.1), .int (nI u.2.2.2.1), .ref (z 9)])), (z 1, .inl (k.1 0, 160, .inl (ta_e tx))), (z 3, .inl (k.1 0, 23, .inl (ta_e u.2.2.2.2)))]) := by
  refine ta_enter_i (by decide) (Nat.le_of_ble_eq_true rfl) ?_
  intro p e s m below meth c A ls Q C ret hP hD hS hl
  have C : ta_At p l D k s m ([.ref (z 0)] : List Value).toArray c RX8 cX8_readsClause 2 A := C
  have hx := C.1.1
  have hb := C.1.2.1
  have hl : lv_has ls 2 [(0, .ref (z 0))] := hl
  obtain ⟨H, hH⟩ : ∃ H, H = s.heap := ⟨_, rfl⟩
  obtain ⟨locs, hlocs⟩ : ∃ q : List Loc, q = [] := ⟨_, rfl⟩
  have hP : va_P D vwCl [(z 0, .inr (8, [.ref (z 1), .int (nI L), .ref (z 2), .ref (z 3), .ref (z 4), .ref (z 5), .int (nI kn), .ref (z 6), .ref (z 7), .ref (z 8), .int (nI no), .int (nI (tn_e tx L p0)), .int (nI (mo_s tx L p0)), .int (nI (tn_s tx L p0)), .int (nI va), .ref (z 9)])), (z 1, .inl (k.1 0, 160, .inl (ta_e tx))), (z 3, .inl (k.1 0, 23, .inl (ta_e d)))] H := by rw [hH]; exact hP
  have hS : va_S A s.heap H locs := by rw [hH, hlocs]; exact hS
  rw [← hlocs]
  suffices hgoal : W p l e ({ frames := 5, cells := 0, slots := 0, locals := 160 }) s m ([.ref (z 0)] : List Value).toArray below meth c H locs 0 0 Q (F0 m 0 ls []) by rw [hH] at hgoal; exact hgoal
  clear hH hlocs
  obtain ⟨hL, hc⟩ := id hx0
  obtain ⟨b1, b2, b3, b4⟩ := tn_b (tx := tx) hp0
  refine lv_aload_n hx hb dX8_readsClause_0 rfl (lv_at hl 0 rfl) ?_
  refine ta_bipush C 103 dX8_readsClause_1 (by decide) ?_
  refine ta_bipush C 114 dX8_readsClause_3 (by decide) ?_
  refine ta_bipush C 111 dX8_readsClause_5 (by decide) ?_
  refine ta_bipush C 117 dX8_readsClause_7 (by decide) ?_
  refine ta_bipush C 110 dX8_readsClause_9 (by decide) ?_
  refine ta_bipush C 100 dX8_readsClause_11 (by decide) ?_
  refine ta_callVi (As := [.int (nI 103), .int (nI 114), .int (nI 111), .int (nI 117), .int (nI 110), .int (nI 100)]) (rest0 := []) (Wr := [(z 3, .inl (k.1 0, 23, .inl (ta_e d)))]) C hP hD hS (c_X8_isWord_0 l D k z kn no va L tx p0 hx0 hp0) 0 rfl rfl rfl [0, 1] [2] rfl rfl (by decide) (by decide) (by decide) tw_333 tw_330 tw_5 tw_331 tw_332 ⟨by decide, by decide, rfl⟩ ⟨Nat.le_of_ble_eq_true rfl, Nat.le_of_ble_eq_true rfl⟩ ⟨Nat.zero_le _, Nat.zero_le _⟩ hl.1 rfl (Nat.le_of_ble_eq_true rfl) dX8_readsClause_13 (fun r1 u2 H locs h3 hP hD hS => ?_)
  rcases h3 with h0 | h0
  · obtain ⟨his4, rfl⟩ := h0
    have hP : va_P D vwCl [(z 3, .inl (k.1 0, 23, .inl (ta_e d))), (z 0, .inr (8, [.ref (z 1), .int (nI L), .ref (z 2), .ref (z 3), .ref (z 4), .ref (z 5), .int (nI kn), .ref (z 6), .ref (z 7), .ref (z 8), .int (nI no), .int (nI (tn_e tx L p0)), .int (nI (mo_s tx L p0)), .int (nI (tn_s tx L p0)), .int (nI va), .ref (z 9)])), (z 1, .inl (k.1 0, 160, .inl (ta_e tx)))] H := hP
    have hD : va_D A [(z 3, .inl (k.1 0, 23, .inl (ta_e d))), (z 0, .inr (8, [.ref (z 1), .int (nI L), .ref (z 2), .ref (z 3), .ref (z 4), .ref (z 5), .int (nI kn), .ref (z 6), .ref (z 7), .ref (z 8), .int (nI no), .int (nI (tn_e tx L p0)), .int (nI (mo_s tx L p0)), .int (nI (tn_s tx L p0)), .int (nI va), .ref (z 9)])), (z 1, .inl (k.1 0, 160, .inl (ta_e tx)))] := hD
    have hP : va_P D vwCl [(z 0, .inr (8, [.ref (z 1), .int (nI L), .ref (z 2), .ref (z 3), .ref (z 4), .ref (z 5), .int (nI kn), .ref (z 6), .ref (z 7), .ref (z 8), .int (nI no), .int (nI (tn_e tx L p0)), .int (nI (mo_s tx L p0)), .int (nI (tn_s tx L p0)), .int (nI va), .ref (z 9)])), (z 1, .inl (k.1 0, 160, .inl (ta_e tx))), (z 3, .inl (k.1 0, 23, .inl (ta_e d)))] H := hP.sub [1, 2, 0] rfl
    have hD : va_D A [(z 0, .inr (8, [.ref (z 1), .int (nI L), .ref (z 2), .ref (z 3), .ref (z 4), .ref (z 5), .int (nI kn), .ref (z 6), .ref (z 7), .ref (z 8), .int (nI no), .int (nI (tn_e tx L p0)), .int (nI (mo_s tx L p0)), .int (nI (tn_s tx L p0)), .int (nI va), .ref (z 9)])), (z 1, .inl (k.1 0, 160, .inl (ta_e tx))), (z 3, .inl (k.1 0, 23, .inl (ta_e d)))] := hD.sub [1, 2, 0] (by decide) rfl
    refine lv_if_eq (tgt := 24) hx hb dX8_readsClause_16 (by decide) (fun c5 => ?_) (fun c5 => ?_)
    · exact absurd c5 (by decide)
    · refine lv_aload_n hx hb dX8_readsClause_19 rfl (lv_at hl 0 rfl) ?_
      refine ta_callVi (As := []) (rest0 := []) (Wr := []) C hP hD hS (c_X8_readsGround l D k z kn no (tn_e tx L p0) (mo_s tx L p0) (tn_s tx L p0) va L tx d hx0 (by omega) hpl) 0 rfl rfl rfl [0, 1, 2] [] rfl rfl (by decide) (by decide) (by decide) tw_337 tw_334 tw_5 tw_335 tw_336 ⟨by decide, by decide, rfl⟩ ⟨Nat.le_of_ble_eq_true rfl, Nat.le_of_ble_eq_true rfl⟩ ⟨Nat.zero_le _, Nat.zero_le _⟩ hl.1 rfl (Nat.le_of_ble_eq_true rfl) dX8_readsClause_20 (fun r6 u7 H locs h8 hP hD hS => ?_)
      rcases h8 with h0 | h0
      · obtain ⟨ua_9, us_10, ur_11, uv_12, ud_13⟩ := u7
        try dsimp only at h0
        obtain ⟨hF14, rfl, rfl, rfl⟩ := h0
        have hP : va_P D vwCl [(z 0, .inr (8, [.ref (z 1), .int (nI L), .ref (z 2), .ref (z 3), .ref (z 4), .ref (z 5), .int (nI kn), .ref (z 6), .ref (z 7), .ref (z 8), .int (nI no), .int (nI ((cl_ground tx L (tn_e tx L p0) d).2.1)), .int (nI us_10), .int (nI ur_11), .int (nI uv_12), .ref (z 9)])), (z 1, .inl (k.1 0, 160, .inl (ta_e tx))), (z 3, .inl (k.1 0, 23, .inl (ta_e ((cl_ground tx L (tn_e tx L p0) d).2.2))))] H := hP
        have hD : va_D A [(z 0, .inr (8, [.ref (z 1), .int (nI L), .ref (z 2), .ref (z 3), .ref (z 4), .ref (z 5), .int (nI kn), .ref (z 6), .ref (z 7), .ref (z 8), .int (nI no), .int (nI ((cl_ground tx L (tn_e tx L p0) d).2.1)), .int (nI us_10), .int (nI ur_11), .int (nI uv_12), .ref (z 9)])), (z 1, .inl (k.1 0, 160, .inl (ta_e tx))), (z 3, .inl (k.1 0, 23, .inl (ta_e ((cl_ground tx L (tn_e tx L p0) d).2.2))))] := hD
        have eR : cl_read tx L p0 d = cl_ground tx L (tn_e tx L p0) d := by unfold cl_read; rw [cl_p his4]
        exact ret _ ((cl_ground tx L (tn_e tx L p0) d).2.1, us_10, ur_11, uv_12, (cl_ground tx L (tn_e tx L p0) d).2.2) dX8_readsClause_23 (by decide) (Or.inl ⟨by rw [eR]; exact hF14, rfl, by rw [eR], by rw [eR]⟩) hP hD hS
      · obtain ⟨ua_15, us_16, ur_17, uv_18, ud_19⟩ := u7
        try dsimp only at h0
        obtain ⟨hF20, rfl, rfl⟩ := h0
        have hP : va_P D vwCl [(z 0, .inr (8, [.ref (z 1), .int (nI L), .ref (z 2), .ref (z 3), .ref (z 4), .ref (z 5), .int (nI kn), .ref (z 6), .ref (z 7), .ref (z 8), .int (nI no), .int (nI ua_15), .int (nI us_16), .int (nI ((cl_ground tx L (tn_e tx L p0) d).1)), .int (nI uv_18), .ref (z 9)])), (z 1, .inl (k.1 0, 160, .inl (ta_e tx))), (z 3, .inl (k.1 0, 23, .inl (ta_e ud_19)))] H := hP
        have hD : va_D A [(z 0, .inr (8, [.ref (z 1), .int (nI L), .ref (z 2), .ref (z 3), .ref (z 4), .ref (z 5), .int (nI kn), .ref (z 6), .ref (z 7), .ref (z 8), .int (nI no), .int (nI ua_15), .int (nI us_16), .int (nI ((cl_ground tx L (tn_e tx L p0) d).1)), .int (nI uv_18), .ref (z 9)])), (z 1, .inl (k.1 0, 160, .inl (ta_e tx))), (z 3, .inl (k.1 0, 23, .inl (ta_e ud_19)))] := hD
        have eR : cl_read tx L p0 d = cl_ground tx L (tn_e tx L p0) d := by unfold cl_read; rw [cl_p his4]
        exact ret _ (ua_15, us_16, (cl_ground tx L (tn_e tx L p0) d).1, uv_18, ud_19) dX8_readsClause_23 (by decide) (Or.inr ⟨by rw [eR]; exact hF20, rfl, by rw [eR]⟩) hP hD hS
  · obtain ⟨his21, rfl⟩ := h0
    have hP : va_P D vwCl [(z 3, .inl (k.1 0, 23, .inl (ta_e d))), (z 0, .inr (8, [.ref (z 1), .int (nI L), .ref (z 2), .ref (z 3), .ref (z 4), .ref (z 5), .int (nI kn), .ref (z 6), .ref (z 7), .ref (z 8), .int (nI no), .int (nI (tn_e tx L p0)), .int (nI (mo_s tx L p0)), .int (nI (tn_s tx L p0)), .int (nI va), .ref (z 9)])), (z 1, .inl (k.1 0, 160, .inl (ta_e tx)))] H := hP
    have hD : va_D A [(z 3, .inl (k.1 0, 23, .inl (ta_e d))), (z 0, .inr (8, [.ref (z 1), .int (nI L), .ref (z 2), .ref (z 3), .ref (z 4), .ref (z 5), .int (nI kn), .ref (z 6), .ref (z 7), .ref (z 8), .int (nI no), .int (nI (tn_e tx L p0)), .int (nI (mo_s tx L p0)), .int (nI (tn_s tx L p0)), .int (nI va), .ref (z 9)])), (z 1, .inl (k.1 0, 160, .inl (ta_e tx)))] := hD
    have hP : va_P D vwCl [(z 0, .inr (8, [.ref (z 1), .int (nI L), .ref (z 2), .ref (z 3), .ref (z 4), .ref (z 5), .int (nI kn), .ref (z 6), .ref (z 7), .ref (z 8), .int (nI no), .int (nI (tn_e tx L p0)), .int (nI (mo_s tx L p0)), .int (nI (tn_s tx L p0)), .int (nI va), .ref (z 9)])), (z 1, .inl (k.1 0, 160, .inl (ta_e tx))), (z 3, .inl (k.1 0, 23, .inl (ta_e d)))] H := hP.sub [1, 2, 0] rfl
    have hD : va_D A [(z 0, .inr (8, [.ref (z 1), .int (nI L), .ref (z 2), .ref (z 3), .ref (z 4), .ref (z 5), .int (nI kn), .ref (z 6), .ref (z 7), .ref (z 8), .int (nI no), .int (nI (tn_e tx L p0)), .int (nI (mo_s tx L p0)), .int (nI (tn_s tx L p0)), .int (nI va), .ref (z 9)])), (z 1, .inl (k.1 0, 160, .inl (ta_e tx))), (z 3, .inl (k.1 0, 23, .inl (ta_e d)))] := hD.sub [1, 2, 0] (by decide) rfl
    refine lv_if_eq (tgt := 24) hx hb dX8_readsClause_16 (by decide) (fun c22 => ?_) (fun c22 => ?_)
    · refine lv_aload_n hx hb dX8_readsClause_24 rfl (lv_at hl 0 rfl) ?_
      refine ta_bipush C 115 dX8_readsClause_25 (by decide) ?_
      refine ta_bipush C 116 dX8_readsClause_27 (by decide) ?_
      refine ta_bipush C 97 dX8_readsClause_29 (by decide) ?_
      refine ta_bipush C 110 dX8_readsClause_31 (by decide) ?_
      refine ta_bipush C 100 dX8_readsClause_33 (by decide) ?_
      refine ta_iconst C 0 dX8_readsClause_35 (by decide) ?_
      refine ta_callVi (As := [.int (nI 115), .int (nI 116), .int (nI 97), .int (nI 110), .int (nI 100), .int (nI 0)]) (rest0 := []) (Wr := [(z 3, .inl (k.1 0, 23, .inl (ta_e d)))]) C hP hD hS (c_X8_isWord_1 l D k z kn no va L tx p0 hx0 hp0) 0 rfl rfl rfl [0, 1] [2] rfl rfl (by decide) (by decide) (by decide) tw_333 tw_330 tw_5 tw_331 tw_332 ⟨by decide, by decide, rfl⟩ ⟨Nat.le_of_ble_eq_true rfl, Nat.le_of_ble_eq_true rfl⟩ ⟨Nat.zero_le _, Nat.zero_le _⟩ hl.1 rfl (Nat.le_of_ble_eq_true rfl) dX8_readsClause_36 (fun r23 u24 H locs h25 hP hD hS => ?_)
      rcases h25 with h0 | h0
      · obtain ⟨his26, rfl⟩ := h0
        have hP : va_P D vwCl [(z 3, .inl (k.1 0, 23, .inl (ta_e d))), (z 0, .inr (8, [.ref (z 1), .int (nI L), .ref (z 2), .ref (z 3), .ref (z 4), .ref (z 5), .int (nI kn), .ref (z 6), .ref (z 7), .ref (z 8), .int (nI no), .int (nI (tn_e tx L p0)), .int (nI (mo_s tx L p0)), .int (nI (tn_s tx L p0)), .int (nI va), .ref (z 9)])), (z 1, .inl (k.1 0, 160, .inl (ta_e tx)))] H := hP
        have hD : va_D A [(z 3, .inl (k.1 0, 23, .inl (ta_e d))), (z 0, .inr (8, [.ref (z 1), .int (nI L), .ref (z 2), .ref (z 3), .ref (z 4), .ref (z 5), .int (nI kn), .ref (z 6), .ref (z 7), .ref (z 8), .int (nI no), .int (nI (tn_e tx L p0)), .int (nI (mo_s tx L p0)), .int (nI (tn_s tx L p0)), .int (nI va), .ref (z 9)])), (z 1, .inl (k.1 0, 160, .inl (ta_e tx)))] := hD
        have hP : va_P D vwCl [(z 0, .inr (8, [.ref (z 1), .int (nI L), .ref (z 2), .ref (z 3), .ref (z 4), .ref (z 5), .int (nI kn), .ref (z 6), .ref (z 7), .ref (z 8), .int (nI no), .int (nI (tn_e tx L p0)), .int (nI (mo_s tx L p0)), .int (nI (tn_s tx L p0)), .int (nI va), .ref (z 9)])), (z 1, .inl (k.1 0, 160, .inl (ta_e tx))), (z 3, .inl (k.1 0, 23, .inl (ta_e d)))] H := hP.sub [1, 2, 0] rfl
        have hD : va_D A [(z 0, .inr (8, [.ref (z 1), .int (nI L), .ref (z 2), .ref (z 3), .ref (z 4), .ref (z 5), .int (nI kn), .ref (z 6), .ref (z 7), .ref (z 8), .int (nI no), .int (nI (tn_e tx L p0)), .int (nI (mo_s tx L p0)), .int (nI (tn_s tx L p0)), .int (nI va), .ref (z 9)])), (z 1, .inl (k.1 0, 160, .inl (ta_e tx))), (z 3, .inl (k.1 0, 23, .inl (ta_e d)))] := hD.sub [1, 2, 0] (by decide) rfl
        refine lv_if_eq (tgt := 47) hx hb dX8_readsClause_39 (by decide) (fun c27 => ?_) (fun c27 => ?_)
        · exact absurd c27 (by decide)
        · refine lv_aload_n hx hb dX8_readsClause_42 rfl (lv_at hl 0 rfl) ?_
          refine ta_callVi (As := []) (rest0 := []) (Wr := []) C hP hD hS (c_X8_readsStand l D k z kn no (tn_e tx L p0) (mo_s tx L p0) (tn_s tx L p0) va L tx d hx0 (by omega) hpl) 0 rfl rfl rfl [0, 1, 2] [] rfl rfl (by decide) (by decide) (by decide) tw_345 tw_342 tw_5 tw_343 tw_344 ⟨by decide, by decide, rfl⟩ ⟨Nat.le_of_ble_eq_true rfl, Nat.le_of_ble_eq_true rfl⟩ ⟨Nat.zero_le _, Nat.zero_le _⟩ hl.1 rfl (Nat.le_of_ble_eq_true rfl) dX8_readsClause_43 (fun r28 u29 H locs h30 hP hD hS => ?_)
          rcases h30 with h0 | h0
          · obtain ⟨ua_31, us_32, ur_33, uv_34, ud_35⟩ := u29
            try dsimp only at h0
            obtain ⟨hF36, rfl, rfl, rfl⟩ := h0
            have hP : va_P D vwCl [(z 0, .inr (8, [.ref (z 1), .int (nI L), .ref (z 2), .ref (z 3), .ref (z 4), .ref (z 5), .int (nI kn), .ref (z 6), .ref (z 7), .ref (z 8), .int (nI no), .int (nI ((cl_stand tx L (tn_e tx L p0) d).2.1)), .int (nI us_32), .int (nI ur_33), .int (nI uv_34), .ref (z 9)])), (z 1, .inl (k.1 0, 160, .inl (ta_e tx))), (z 3, .inl (k.1 0, 23, .inl (ta_e ((cl_stand tx L (tn_e tx L p0) d).2.2))))] H := hP
            have hD : va_D A [(z 0, .inr (8, [.ref (z 1), .int (nI L), .ref (z 2), .ref (z 3), .ref (z 4), .ref (z 5), .int (nI kn), .ref (z 6), .ref (z 7), .ref (z 8), .int (nI no), .int (nI ((cl_stand tx L (tn_e tx L p0) d).2.1)), .int (nI us_32), .int (nI ur_33), .int (nI uv_34), .ref (z 9)])), (z 1, .inl (k.1 0, 160, .inl (ta_e tx))), (z 3, .inl (k.1 0, 23, .inl (ta_e ((cl_stand tx L (tn_e tx L p0) d).2.2))))] := hD
            have eR : cl_read tx L p0 d = cl_stand tx L (tn_e tx L p0) d := by unfold cl_read; rw [cl_n his21, cl_p his26]
            exact ret _ ((cl_stand tx L (tn_e tx L p0) d).2.1, us_32, ur_33, uv_34, (cl_stand tx L (tn_e tx L p0) d).2.2) dX8_readsClause_46 (by decide) (Or.inl ⟨by rw [eR]; exact hF36, rfl, by rw [eR], by rw [eR]⟩) hP hD hS
          · obtain ⟨ua_37, us_38, ur_39, uv_40, ud_41⟩ := u29
            try dsimp only at h0
            obtain ⟨hF42, rfl, rfl⟩ := h0
            have hP : va_P D vwCl [(z 0, .inr (8, [.ref (z 1), .int (nI L), .ref (z 2), .ref (z 3), .ref (z 4), .ref (z 5), .int (nI kn), .ref (z 6), .ref (z 7), .ref (z 8), .int (nI no), .int (nI ua_37), .int (nI us_38), .int (nI ((cl_stand tx L (tn_e tx L p0) d).1)), .int (nI uv_40), .ref (z 9)])), (z 1, .inl (k.1 0, 160, .inl (ta_e tx))), (z 3, .inl (k.1 0, 23, .inl (ta_e ud_41)))] H := hP
            have hD : va_D A [(z 0, .inr (8, [.ref (z 1), .int (nI L), .ref (z 2), .ref (z 3), .ref (z 4), .ref (z 5), .int (nI kn), .ref (z 6), .ref (z 7), .ref (z 8), .int (nI no), .int (nI ua_37), .int (nI us_38), .int (nI ((cl_stand tx L (tn_e tx L p0) d).1)), .int (nI uv_40), .ref (z 9)])), (z 1, .inl (k.1 0, 160, .inl (ta_e tx))), (z 3, .inl (k.1 0, 23, .inl (ta_e ud_41)))] := hD
            have eR : cl_read tx L p0 d = cl_stand tx L (tn_e tx L p0) d := by unfold cl_read; rw [cl_n his21, cl_p his26]
            exact ret _ (ua_37, us_38, (cl_stand tx L (tn_e tx L p0) d).1, uv_40, ud_41) dX8_readsClause_46 (by decide) (Or.inr ⟨by rw [eR]; exact hF42, rfl, by rw [eR]⟩) hP hD hS
      · obtain ⟨his43, rfl⟩ := h0
        have hP : va_P D vwCl [(z 3, .inl (k.1 0, 23, .inl (ta_e d))), (z 0, .inr (8, [.ref (z 1), .int (nI L), .ref (z 2), .ref (z 3), .ref (z 4), .ref (z 5), .int (nI kn), .ref (z 6), .ref (z 7), .ref (z 8), .int (nI no), .int (nI (tn_e tx L p0)), .int (nI (mo_s tx L p0)), .int (nI (tn_s tx L p0)), .int (nI va), .ref (z 9)])), (z 1, .inl (k.1 0, 160, .inl (ta_e tx)))] H := hP
        have hD : va_D A [(z 3, .inl (k.1 0, 23, .inl (ta_e d))), (z 0, .inr (8, [.ref (z 1), .int (nI L), .ref (z 2), .ref (z 3), .ref (z 4), .ref (z 5), .int (nI kn), .ref (z 6), .ref (z 7), .ref (z 8), .int (nI no), .int (nI (tn_e tx L p0)), .int (nI (mo_s tx L p0)), .int (nI (tn_s tx L p0)), .int (nI va), .ref (z 9)])), (z 1, .inl (k.1 0, 160, .inl (ta_e tx)))] := hD
        have hP : va_P D vwCl [(z 0, .inr (8, [.ref (z 1), .int (nI L), .ref (z 2), .ref (z 3), .ref (z 4), .ref (z 5), .int (nI kn), .ref (z 6), .ref (z 7), .ref (z 8), .int (nI no), .int (nI (tn_e tx L p0)), .int (nI (mo_s tx L p0)), .int (nI (tn_s tx L p0)), .int (nI va), .ref (z 9)])), (z 1, .inl (k.1 0, 160, .inl (ta_e tx))), (z 3, .inl (k.1 0, 23, .inl (ta_e d)))] H := hP.sub [1, 2, 0] rfl
        have hD : va_D A [(z 0, .inr (8, [.ref (z 1), .int (nI L), .ref (z 2), .ref (z 3), .ref (z 4), .ref (z 5), .int (nI kn), .ref (z 6), .ref (z 7), .ref (z 8), .int (nI no), .int (nI (tn_e tx L p0)), .int (nI (mo_s tx L p0)), .int (nI (tn_s tx L p0)), .int (nI va), .ref (z 9)])), (z 1, .inl (k.1 0, 160, .inl (ta_e tx))), (z 3, .inl (k.1 0, 23, .inl (ta_e d)))] := hD.sub [1, 2, 0] (by decide) rfl
        refine lv_if_eq (tgt := 47) hx hb dX8_readsClause_39 (by decide) (fun c44 => ?_) (fun c44 => ?_)
        · refine lv_aload_n hx hb dX8_readsClause_47 rfl (lv_at hl 0 rfl) ?_
          refine ta_bipush C 104 dX8_readsClause_48 (by decide) ?_
          refine ta_bipush C 111 dX8_readsClause_50 (by decide) ?_
          refine ta_bipush C 117 dX8_readsClause_52 (by decide) ?_
          refine ta_bipush C 114 dX8_readsClause_54 (by decide) ?_
          refine ta_iconst C 0 dX8_readsClause_56 (by decide) ?_
          refine ta_iconst C 0 dX8_readsClause_57 (by decide) ?_
          refine ta_callVi (As := [.int (nI 104), .int (nI 111), .int (nI 117), .int (nI 114), .int (nI 0), .int (nI 0)]) (rest0 := []) (Wr := [(z 3, .inl (k.1 0, 23, .inl (ta_e d)))]) C hP hD hS (c_X8_isWord_2 l D k z kn no va L tx p0 hx0 hp0) 0 rfl rfl rfl [0, 1] [2] rfl rfl (by decide) (by decide) (by decide) tw_333 tw_330 tw_5 tw_331 tw_332 ⟨by decide, by decide, rfl⟩ ⟨Nat.le_of_ble_eq_true rfl, Nat.le_of_ble_eq_true rfl⟩ ⟨Nat.zero_le _, Nat.zero_le _⟩ hl.1 rfl (Nat.le_of_ble_eq_true rfl) dX8_readsClause_58 (fun r45 u46 H locs h47 hP hD hS => ?_)
          rcases h47 with h0 | h0
          · obtain ⟨his48, rfl⟩ := h0
            have hP : va_P D vwCl [(z 3, .inl (k.1 0, 23, .inl (ta_e d))), (z 0, .inr (8, [.ref (z 1), .int (nI L), .ref (z 2), .ref (z 3), .ref (z 4), .ref (z 5), .int (nI kn), .ref (z 6), .ref (z 7), .ref (z 8), .int (nI no), .int (nI (tn_e tx L p0)), .int (nI (mo_s tx L p0)), .int (nI (tn_s tx L p0)), .int (nI va), .ref (z 9)])), (z 1, .inl (k.1 0, 160, .inl (ta_e tx)))] H := hP
            have hD : va_D A [(z 3, .inl (k.1 0, 23, .inl (ta_e d))), (z 0, .inr (8, [.ref (z 1), .int (nI L), .ref (z 2), .ref (z 3), .ref (z 4), .ref (z 5), .int (nI kn), .ref (z 6), .ref (z 7), .ref (z 8), .int (nI no), .int (nI (tn_e tx L p0)), .int (nI (mo_s tx L p0)), .int (nI (tn_s tx L p0)), .int (nI va), .ref (z 9)])), (z 1, .inl (k.1 0, 160, .inl (ta_e tx)))] := hD
            have hP : va_P D vwCl [(z 0, .inr (8, [.ref (z 1), .int (nI L), .ref (z 2), .ref (z 3), .ref (z 4), .ref (z 5), .int (nI kn), .ref (z 6), .ref (z 7), .ref (z 8), .int (nI no), .int (nI (tn_e tx L p0)), .int (nI (mo_s tx L p0)), .int (nI (tn_s tx L p0)), .int (nI va), .ref (z 9)])), (z 1, .inl (k.1 0, 160, .inl (ta_e tx))), (z 3, .inl (k.1 0, 23, .inl (ta_e d)))] H := hP.sub [1, 2, 0] rfl
            have hD : va_D A [(z 0, .inr (8, [.ref (z 1), .int (nI L), .ref (z 2), .ref (z 3), .ref (z 4), .ref (z 5), .int (nI kn), .ref (z 6), .ref (z 7), .ref (z 8), .int (nI no), .int (nI (tn_e tx L p0)), .int (nI (mo_s tx L p0)), .int (nI (tn_s tx L p0)), .int (nI va), .ref (z 9)])), (z 1, .inl (k.1 0, 160, .inl (ta_e tx))), (z 3, .inl (k.1 0, 23, .inl (ta_e d)))] := hD.sub [1, 2, 0] (by decide) rfl
            refine lv_if_eq (tgt := 84) hx hb dX8_readsClause_61 (by decide) (fun c49 => ?_) (fun c49 => ?_)
            · exact absurd c49 (by decide)
            · refine lv_aload_n hx hb dX8_readsClause_64 rfl (lv_at hl 0 rfl) ?_
              refine ta_iconst C 2 dX8_readsClause_65 (by decide) ?_
              refine ta_bipush C 9 dX8_readsClause_66 (by decide) ?_
              refine ta_callVi (As := [.int (nI 2), .int (nI 9)]) (rest0 := []) (Wr := [(z 3, .inl (k.1 0, 23, .inl (ta_e d)))]) C hP hD hS (c_X8_number l D k z kn no (tn_e tx L p0) (mo_s tx L p0) (tn_s tx L p0) va L tx 2 9 hx0 (by omega) ⟨by omega, by omega⟩) 0 rfl rfl rfl [0, 1] [2] rfl rfl (by decide) (by decide) (by decide) tw_341 tw_338 tw_5 tw_339 tw_340 ⟨by decide, by decide, rfl⟩ ⟨Nat.le_of_ble_eq_true rfl, Nat.le_of_ble_eq_true rfl⟩ ⟨Nat.zero_le _, Nat.zero_le _⟩ hl.1 rfl (Nat.le_of_ble_eq_true rfl) dX8_readsClause_68 (fun r50 u51 H locs h52 hP hD hS => ?_)
              rcases h52 with h0 | h0
              · obtain ⟨hin53, hv54, rfl⟩ := h0
                have hP : va_P D vwCl [(z 3, .inl (k.1 0, 23, .inl (ta_e d))), (z 0, .inr (8, [.ref (z 1), .int (nI L), .ref (z 2), .ref (z 3), .ref (z 4), .ref (z 5), .int (nI kn), .ref (z 6), .ref (z 7), .ref (z 8), .int (nI no), .int (nI (tn_e tx L (tn_e tx L p0))), .int (nI (mo_s tx L (tn_e tx L p0))), .int (nI (tn_s tx L (tn_e tx L p0))), .int (nI (mo_w tx L (tn_e tx L p0))), .ref (z 9)])), (z 1, .inl (k.1 0, 160, .inl (ta_e tx)))] H := hP
                have hD : va_D A [(z 3, .inl (k.1 0, 23, .inl (ta_e d))), (z 0, .inr (8, [.ref (z 1), .int (nI L), .ref (z 2), .ref (z 3), .ref (z 4), .ref (z 5), .int (nI kn), .ref (z 6), .ref (z 7), .ref (z 8), .int (nI no), .int (nI (tn_e tx L (tn_e tx L p0))), .int (nI (mo_s tx L (tn_e tx L p0))), .int (nI (tn_s tx L (tn_e tx L p0))), .int (nI (mo_w tx L (tn_e tx L p0))), .ref (z 9)])), (z 1, .inl (k.1 0, 160, .inl (ta_e tx)))] := hD
                obtain ⟨b5, b6, b7, b8⟩ := tn_b (tx := tx) (p := tn_e tx L p0) (by omega)
                have hP : va_P D vwCl [(z 0, .inr (8, [.ref (z 1), .int (nI L), .ref (z 2), .ref (z 3), .ref (z 4), .ref (z 5), .int (nI kn), .ref (z 6), .ref (z 7), .ref (z 8), .int (nI no), .int (nI (tn_e tx L (tn_e tx L p0))), .int (nI (mo_s tx L (tn_e tx L p0))), .int (nI (tn_s tx L (tn_e tx L p0))), .int (nI (mo_w tx L (tn_e tx L p0))), .ref (z 9)])), (z 1, .inl (k.1 0, 160, .inl (ta_e tx))), (z 3, .inl (k.1 0, 23, .inl (ta_e d)))] H := hP.sub [1, 2, 0] rfl
                have hD : va_D A [(z 0, .inr (8, [.ref (z 1), .int (nI L), .ref (z 2), .ref (z 3), .ref (z 4), .ref (z 5), .int (nI kn), .ref (z 6), .ref (z 7), .ref (z 8), .int (nI no), .int (nI (tn_e tx L (tn_e tx L p0))), .int (nI (mo_s tx L (tn_e tx L p0))), .int (nI (tn_s tx L (tn_e tx L p0))), .int (nI (mo_w tx L (tn_e tx L p0))), .ref (z 9)])), (z 1, .inl (k.1 0, 160, .inl (ta_e tx))), (z 3, .inl (k.1 0, 23, .inl (ta_e d)))] := hD.sub [1, 2, 0] (by decide) rfl
                refine lv_istore_n (lv' := [(1, .int (nI 1)), (0, .ref (z 0))]) hx hb dX8_readsClause_71 rfl hl (by decide) rfl (fun ls hl => ?_)
                refine lv_aload_n hx hb dX8_readsClause_72 rfl (lv_at hl 1 rfl) ?_
                refine ta_get C hP 0 inlX8 rfl rfl 3 (by decide) tw_127 rfl dX8_readsClause_73 ?_
                refine ta_iconst C 2 dX8_readsClause_76 (by decide) ?_
                refine lv_aload_n hx hb dX8_readsClause_77 rfl (lv_at hl 1 rfl) ?_
                refine ta_get C hP 0 inlX8 rfl rfl 14 (by decide) tw_315 rfl dX8_readsClause_78 ?_
                refine ta_iast C hP hD hS 2 rfl (i := 2) (v := mo_w tx L (tn_e tx L p0)) (by omega) dX8_readsClause_81 (fun H locs hP hD hS => ?_)
                have hP : va_P D vwCl [(z 0, .inr (8, [.ref (z 1), .int (nI L), .ref (z 2), .ref (z 3), .ref (z 4), .ref (z 5), .int (nI kn), .ref (z 6), .ref (z 7), .ref (z 8), .int (nI no), .int (nI (tn_e tx L (tn_e tx L p0))), .int (nI (mo_s tx L (tn_e tx L p0))), .int (nI (tn_s tx L (tn_e tx L p0))), .int (nI (mo_w tx L (tn_e tx L p0))), .ref (z 9)])), (z 1, .inl (k.1 0, 160, .inl (ta_e tx))), (z 3, .inl (k.1 0, 23, .inl (ta_e (ta_u d 2 (mo_w tx L (tn_e tx L p0))))))] H := hP
                have hD : va_D A [(z 0, .inr (8, [.ref (z 1), .int (nI L), .ref (z 2), .ref (z 3), .ref (z 4), .ref (z 5), .int (nI kn), .ref (z 6), .ref (z 7), .ref (z 8), .int (nI no), .int (nI (tn_e tx L (tn_e tx L p0))), .int (nI (mo_s tx L (tn_e tx L p0))), .int (nI (tn_s tx L (tn_e tx L p0))), .int (nI (mo_w tx L (tn_e tx L p0))), .ref (z 9)])), (z 1, .inl (k.1 0, 160, .inl (ta_e tx))), (z 3, .inl (k.1 0, 23, .inl (ta_e (ta_u d 2 (mo_w tx L (tn_e tx L p0))))))] := hD
                refine lv_iload_n hx hb dX8_readsClause_82 rfl (lv_at hl 0 rfl) ?_
                have eR : cl_read tx L p0 d = cl_hour tx L (tn_e tx L p0) d := by unfold cl_read; rw [cl_n his21, cl_n his43, cl_p his48]
                rw [hv54] at hP hD
                have eF : cl_hour tx L (tn_e tx L p0) d = (4294967295, tn_e tx L (tn_e tx L p0), ta_u d 2 (tn_v tx L (tn_e tx L p0))) := by unfold cl_hour; rw [cl_p hin53]
                exact ret _ (tn_e tx L (tn_e tx L p0), mo_s tx L (tn_e tx L p0), tn_s tx L (tn_e tx L p0), tn_v tx L (tn_e tx L p0), ta_u d 2 (tn_v tx L (tn_e tx L p0))) dX8_readsClause_83 (by decide) (Or.inl ⟨by rw [eR, eF], rfl, by rw [eR, eF], by rw [eR, eF]⟩) hP hD hS
              · obtain ⟨hin55, rfl⟩ := h0
                have hP : va_P D vwCl [(z 3, .inl (k.1 0, 23, .inl (ta_e d))), (z 0, .inr (8, [.ref (z 1), .int (nI L), .ref (z 2), .ref (z 3), .ref (z 4), .ref (z 5), .int (nI kn), .ref (z 6), .ref (z 7), .ref (z 8), .int (nI no), .int (nI (tn_e tx L (tn_e tx L p0))), .int (nI (mo_s tx L (tn_e tx L p0))), .int (nI (tn_s tx L (tn_e tx L p0))), .int (nI (mo_w tx L (tn_e tx L p0))), .ref (z 9)])), (z 1, .inl (k.1 0, 160, .inl (ta_e tx)))] H := hP
                have hD : va_D A [(z 3, .inl (k.1 0, 23, .inl (ta_e d))), (z 0, .inr (8, [.ref (z 1), .int (nI L), .ref (z 2), .ref (z 3), .ref (z 4), .ref (z 5), .int (nI kn), .ref (z 6), .ref (z 7), .ref (z 8), .int (nI no), .int (nI (tn_e tx L (tn_e tx L p0))), .int (nI (mo_s tx L (tn_e tx L p0))), .int (nI (tn_s tx L (tn_e tx L p0))), .int (nI (mo_w tx L (tn_e tx L p0))), .ref (z 9)])), (z 1, .inl (k.1 0, 160, .inl (ta_e tx)))] := hD
                obtain ⟨b5, b6, b7, b8⟩ := tn_b (tx := tx) (p := tn_e tx L p0) (by omega)
                have hP : va_P D vwCl [(z 0, .inr (8, [.ref (z 1), .int (nI L), .ref (z 2), .ref (z 3), .ref (z 4), .ref (z 5), .int (nI kn), .ref (z 6), .ref (z 7), .ref (z 8), .int (nI no), .int (nI (tn_e tx L (tn_e tx L p0))), .int (nI (mo_s tx L (tn_e tx L p0))), .int (nI (tn_s tx L (tn_e tx L p0))), .int (nI (mo_w tx L (tn_e tx L p0))), .ref (z 9)])), (z 1, .inl (k.1 0, 160, .inl (ta_e tx))), (z 3, .inl (k.1 0, 23, .inl (ta_e d)))] H := hP.sub [1, 2, 0] rfl
                have hD : va_D A [(z 0, .inr (8, [.ref (z 1), .int (nI L), .ref (z 2), .ref (z 3), .ref (z 4), .ref (z 5), .int (nI kn), .ref (z 6), .ref (z 7), .ref (z 8), .int (nI no), .int (nI (tn_e tx L (tn_e tx L p0))), .int (nI (mo_s tx L (tn_e tx L p0))), .int (nI (tn_s tx L (tn_e tx L p0))), .int (nI (mo_w tx L (tn_e tx L p0))), .ref (z 9)])), (z 1, .inl (k.1 0, 160, .inl (ta_e tx))), (z 3, .inl (k.1 0, 23, .inl (ta_e d)))] := hD.sub [1, 2, 0] (by decide) rfl
                refine lv_istore_n (lv' := [(1, .int (nI 0)), (0, .ref (z 0))]) hx hb dX8_readsClause_71 rfl hl (by decide) rfl (fun ls hl => ?_)
                refine lv_aload_n hx hb dX8_readsClause_72 rfl (lv_at hl 1 rfl) ?_
                refine ta_get C hP 0 inlX8 rfl rfl 3 (by decide) tw_127 rfl dX8_readsClause_73 ?_
                refine ta_iconst C 2 dX8_readsClause_76 (by decide) ?_
                refine lv_aload_n hx hb dX8_readsClause_77 rfl (lv_at hl 1 rfl) ?_
                refine ta_get C hP 0 inlX8 rfl rfl 14 (by decide) tw_315 rfl dX8_readsClause_78 ?_
                refine ta_iast C hP hD hS 2 rfl (i := 2) (v := mo_w tx L (tn_e tx L p0)) (by omega) dX8_readsClause_81 (fun H locs hP hD hS => ?_)
                have hP : va_P D vwCl [(z 0, .inr (8, [.ref (z 1), .int (nI L), .ref (z 2), .ref (z 3), .ref (z 4), .ref (z 5), .int (nI kn), .ref (z 6), .ref (z 7), .ref (z 8), .int (nI no), .int (nI (tn_e tx L (tn_e tx L p0))), .int (nI (mo_s tx L (tn_e tx L p0))), .int (nI (tn_s tx L (tn_e tx L p0))), .int (nI (mo_w tx L (tn_e tx L p0))), .ref (z 9)])), (z 1, .inl (k.1 0, 160, .inl (ta_e tx))), (z 3, .inl (k.1 0, 23, .inl (ta_e (ta_u d 2 (mo_w tx L (tn_e tx L p0))))))] H := hP
                have hD : va_D A [(z 0, .inr (8, [.ref (z 1), .int (nI L), .ref (z 2), .ref (z 3), .ref (z 4), .ref (z 5), .int (nI kn), .ref (z 6), .ref (z 7), .ref (z 8), .int (nI no), .int (nI (tn_e tx L (tn_e tx L p0))), .int (nI (mo_s tx L (tn_e tx L p0))), .int (nI (tn_s tx L (tn_e tx L p0))), .int (nI (mo_w tx L (tn_e tx L p0))), .ref (z 9)])), (z 1, .inl (k.1 0, 160, .inl (ta_e tx))), (z 3, .inl (k.1 0, 23, .inl (ta_e (ta_u d 2 (mo_w tx L (tn_e tx L p0))))))] := hD
                refine lv_iload_n hx hb dX8_readsClause_82 rfl (lv_at hl 0 rfl) ?_
                have eR : cl_read tx L p0 d = cl_hour tx L (tn_e tx L p0) d := by unfold cl_read; rw [cl_n his21, cl_n his43, cl_p his48]
                have eF : cl_hour tx L (tn_e tx L p0) d = (tn_s tx L (tn_e tx L p0), 0, d) := by unfold cl_hour; rw [cl_n hin55]
                exact ret _ (tn_e tx L (tn_e tx L p0), mo_s tx L (tn_e tx L p0), tn_s tx L (tn_e tx L p0), mo_w tx L (tn_e tx L p0), ta_u d 2 (mo_w tx L (tn_e tx L p0))) dX8_readsClause_83 (by decide) (Or.inr ⟨by rw [eR, eF]; exact Nat.ne_of_lt (show tn_s tx L (tn_e tx L p0) < 4294967295 by omega), rfl, by rw [eR, eF]⟩) hP hD hS
          · obtain ⟨his56, rfl⟩ := h0
            have hP : va_P D vwCl [(z 3, .inl (k.1 0, 23, .inl (ta_e d))), (z 0, .inr (8, [.ref (z 1), .int (nI L), .ref (z 2), .ref (z 3), .ref (z 4), .ref (z 5), .int (nI kn), .ref (z 6), .ref (z 7), .ref (z 8), .int (nI no), .int (nI (tn_e tx L p0)), .int (nI (mo_s tx L p0)), .int (nI (tn_s tx L p0)), .int (nI va), .ref (z 9)])), (z 1, .inl (k.1 0, 160, .inl (ta_e tx)))] H := hP
            have hD : va_D A [(z 3, .inl (k.1 0, 23, .inl (ta_e d))), (z 0, .inr (8, [.ref (z 1), .int (nI L), .ref (z 2), .ref (z 3), .ref (z 4), .ref (z 5), .int (nI kn), .ref (z 6), .ref (z 7), .ref (z 8), .int (nI no), .int (nI (tn_e tx L p0)), .int (nI (mo_s tx L p0)), .int (nI (tn_s tx L p0)), .int (nI va), .ref (z 9)])), (z 1, .inl (k.1 0, 160, .inl (ta_e tx)))] := hD
            have hP : va_P D vwCl [(z 0, .inr (8, [.ref (z 1), .int (nI L), .ref (z 2), .ref (z 3), .ref (z 4), .ref (z 5), .int (nI kn), .ref (z 6), .ref (z 7), .ref (z 8), .int (nI no), .int (nI (tn_e tx L p0)), .int (nI (mo_s tx L p0)), .int (nI (tn_s tx L p0)), .int (nI va), .ref (z 9)])), (z 1, .inl (k.1 0, 160, .inl (ta_e tx))), (z 3, .inl (k.1 0, 23, .inl (ta_e d)))] H := hP.sub [1, 2, 0] rfl
            have hD : va_D A [(z 0, .inr (8, [.ref (z 1), .int (nI L), .ref (z 2), .ref (z 3), .ref (z 4), .ref (z 5), .int (nI kn), .ref (z 6), .ref (z 7), .ref (z 8), .int (nI no), .int (nI (tn_e tx L p0)), .int (nI (mo_s tx L p0)), .int (nI (tn_s tx L p0)), .int (nI va), .ref (z 9)])), (z 1, .inl (k.1 0, 160, .inl (ta_e tx))), (z 3, .inl (k.1 0, 23, .inl (ta_e d)))] := hD.sub [1, 2, 0] (by decide) rfl
            refine lv_if_eq (tgt := 84) hx hb dX8_readsClause_61 (by decide) (fun c57 => ?_) (fun c57 => ?_)
            · refine lv_aload_n hx hb dX8_readsClause_84 rfl (lv_at hl 0 rfl) ?_
              refine ta_bipush C 114 dX8_readsClause_85 (by decide) ?_
              refine ta_bipush C 101 dX8_readsClause_87 (by decide) ?_
              refine ta_bipush C 115 dX8_readsClause_89 (by decide) ?_
              refine ta_bipush C 116 dX8_readsClause_91 (by decide) ?_
              refine ta_iconst C 0 dX8_readsClause_93 (by decide) ?_
              refine ta_iconst C 0 dX8_readsClause_94 (by decide) ?_
              refine ta_callVi (As := [.int (nI 114), .int (nI 101), .int (nI 115), .int (nI 116), .int (nI 0), .int (nI 0)]) (rest0 := []) (Wr := [(z 3, .inl (k.1 0, 23, .inl (ta_e d)))]) C hP hD hS (c_X8_isWord_3 l D k z kn no va L tx p0 hx0 hp0) 0 rfl rfl rfl [0, 1] [2] rfl rfl (by decide) (by decide) (by decide) tw_333 tw_330 tw_5 tw_331 tw_332 ⟨by decide, by decide, rfl⟩ ⟨Nat.le_of_ble_eq_true rfl, Nat.le_of_ble_eq_true rfl⟩ ⟨Nat.zero_le _, Nat.zero_le _⟩ hl.1 rfl (Nat.le_of_ble_eq_true rfl) dX8_readsClause_95 (fun r58 u59 H locs h60 hP hD hS => ?_)
              rcases h60 with h0 | h0
              · obtain ⟨his61, rfl⟩ := h0
                have hP : va_P D vwCl [(z 3, .inl (k.1 0, 23, .inl (ta_e d))), (z 0, .inr (8, [.ref (z 1), .int (nI L), .ref (z 2), .ref (z 3), .ref (z 4), .ref (z 5), .int (nI kn), .ref (z 6), .ref (z 7), .ref (z 8), .int (nI no), .int (nI (tn_e tx L p0)), .int (nI (mo_s tx L p0)), .int (nI (tn_s tx L p0)), .int (nI va), .ref (z 9)])), (z 1, .inl (k.1 0, 160, .inl (ta_e tx)))] H := hP
                have hD : va_D A [(z 3, .inl (k.1 0, 23, .inl (ta_e d))), (z 0, .inr (8, [.ref (z 1), .int (nI L), .ref (z 2), .ref (z 3), .ref (z 4), .ref (z 5), .int (nI kn), .ref (z 6), .ref (z 7), .ref (z 8), .int (nI no), .int (nI (tn_e tx L p0)), .int (nI (mo_s tx L p0)), .int (nI (tn_s tx L p0)), .int (nI va), .ref (z 9)])), (z 1, .inl (k.1 0, 160, .inl (ta_e tx)))] := hD
                have hP : va_P D vwCl [(z 0, .inr (8, [.ref (z 1), .int (nI L), .ref (z 2), .ref (z 3), .ref (z 4), .ref (z 5), .int (nI kn), .ref (z 6), .ref (z 7), .ref (z 8), .int (nI no), .int (nI (tn_e tx L p0)), .int (nI (mo_s tx L p0)), .int (nI (tn_s tx L p0)), .int (nI va), .ref (z 9)])), (z 1, .inl (k.1 0, 160, .inl (ta_e tx))), (z 3, .inl (k.1 0, 23, .inl (ta_e d)))] H := hP.sub [1, 2, 0] rfl
                have hD : va_D A [(z 0, .inr (8, [.ref (z 1), .int (nI L), .ref (z 2), .ref (z 3), .ref (z 4), .ref (z 5), .int (nI kn), .ref (z 6), .ref (z 7), .ref (z 8), .int (nI no), .int (nI (tn_e tx L p0)), .int (nI (mo_s tx L p0)), .int (nI (tn_s tx L p0)), .int (nI va), .ref (z 9)])), (z 1, .inl (k.1 0, 160, .inl (ta_e tx))), (z 3, .inl (k.1 0, 23, .inl (ta_e d)))] := hD.sub [1, 2, 0] (by decide) rfl
                refine lv_if_eq (tgt := 106) hx hb dX8_readsClause_98 (by decide) (fun c62 => ?_) (fun c62 => ?_)
                · exact absurd c62 (by decide)
                · refine lv_aload_n hx hb dX8_readsClause_101 rfl (lv_at hl 0 rfl) ?_
                  refine ta_callVi (As := []) (rest0 := []) (Wr := []) C hP hD hS (c_X8_readsRest l D k z kn no (tn_e tx L p0) (mo_s tx L p0) (tn_s tx L p0) va L tx d hx0 (by omega) hpl) 0 rfl rfl rfl [0, 1, 2] [] rfl rfl (by decide) (by decide) (by decide) tw_349 tw_346 tw_5 tw_347 tw_348 ⟨by decide, by decide, rfl⟩ ⟨Nat.le_of_ble_eq_true rfl, Nat.le_of_ble_eq_true rfl⟩ ⟨Nat.zero_le _, Nat.zero_le _⟩ hl.1 rfl (Nat.le_of_ble_eq_true rfl) dX8_readsClause_102 (fun r63 u64 H locs h65 hP hD hS => ?_)
                  rcases h65 with h0 | h0
                  · obtain ⟨ua_66, us_67, ur_68, uv_69, ud_70⟩ := u64
                    try dsimp only at h0
                    obtain ⟨hF71, rfl, rfl, rfl⟩ := h0
                    have hP : va_P D vwCl [(z 0, .inr (8, [.ref (z 1), .int (nI L), .ref (z 2), .ref (z 3), .ref (z 4), .ref (z 5), .int (nI kn), .ref (z 6), .ref (z 7), .ref (z 8), .int (nI no), .int (nI ((cl_rest tx L (tn_e tx L p0) d).2.1)), .int (nI us_67), .int (nI ur_68), .int (nI uv_69), .ref (z 9)])), (z 1, .inl (k.1 0, 160, .inl (ta_e tx))), (z 3, .inl (k.1 0, 23, .inl (ta_e ((cl_rest tx L (tn_e tx L p0) d).2.2))))] H := hP
                    have hD : va_D A [(z 0, .inr (8, [.ref (z 1), .int (nI L), .ref (z 2), .ref (z 3), .ref (z 4), .ref (z 5), .int (nI kn), .ref (z 6), .ref (z 7), .ref (z 8), .int (nI no), .int (nI ((cl_rest tx L (tn_e tx L p0) d).2.1)), .int (nI us_67), .int (nI ur_68), .int (nI uv_69), .ref (z 9)])), (z 1, .inl (k.1 0, 160, .inl (ta_e tx))), (z 3, .inl (k.1 0, 23, .inl (ta_e ((cl_rest tx L (tn_e tx L p0) d).2.2))))] := hD
                    have eR : cl_read tx L p0 d = cl_rest tx L (tn_e tx L p0) d := by unfold cl_read; rw [cl_n his21, cl_n his43, cl_n his56, cl_p his61]
                    exact ret _ ((cl_rest tx L (tn_e tx L p0) d).2.1, us_67, ur_68, uv_69, (cl_rest tx L (tn_e tx L p0) d).2.2) dX8_readsClause_105 (by decide) (Or.inl ⟨by rw [eR]; exact hF71, rfl, by rw [eR], by rw [eR]⟩) hP hD hS
                  · obtain ⟨ua_72, us_73, ur_74, uv_75, ud_76⟩ := u64
                    try dsimp only at h0
                    obtain ⟨hF77, rfl, rfl⟩ := h0
                    have hP : va_P D vwCl [(z 0, .inr (8, [.ref (z 1), .int (nI L), .ref (z 2), .ref (z 3), .ref (z 4), .ref (z 5), .int (nI kn), .ref (z 6), .ref (z 7), .ref (z 8), .int (nI no), .int (nI ua_72), .int (nI us_73), .int (nI ((cl_rest tx L (tn_e tx L p0) d).1)), .int (nI uv_75), .ref (z 9)])), (z 1, .inl (k.1 0, 160, .inl (ta_e tx))), (z 3, .inl (k.1 0, 23, .inl (ta_e ud_76)))] H := hP
                    have hD : va_D A [(z 0, .inr (8, [.ref (z 1), .int (nI L), .ref (z 2), .ref (z 3), .ref (z 4), .ref (z 5), .int (nI kn), .ref (z 6), .ref (z 7), .ref (z 8), .int (nI no), .int (nI ua_72), .int (nI us_73), .int (nI ((cl_rest tx L (tn_e tx L p0) d).1)), .int (nI uv_75), .ref (z 9)])), (z 1, .inl (k.1 0, 160, .inl (ta_e tx))), (z 3, .inl (k.1 0, 23, .inl (ta_e ud_76)))] := hD
                    have eR : cl_read tx L p0 d = cl_rest tx L (tn_e tx L p0) d := by unfold cl_read; rw [cl_n his21, cl_n his43, cl_n his56, cl_p his61]
                    exact ret _ (ua_72, us_73, (cl_rest tx L (tn_e tx L p0) d).1, uv_75, ud_76) dX8_readsClause_105 (by decide) (Or.inr ⟨by rw [eR]; exact hF77, rfl, by rw [eR]⟩) hP hD hS
              · obtain ⟨his78, rfl⟩ := h0
                have hP : va_P D vwCl [(z 3, .inl (k.1 0, 23, .inl (ta_e d))), (z 0, .inr (8, [.ref (z 1), .int (nI L), .ref (z 2), .ref (z 3), .ref (z 4), .ref (z 5), .int (nI kn), .ref (z 6), .ref (z 7), .ref (z 8), .int (nI no), .int (nI (tn_e tx L p0)), .int (nI (mo_s tx L p0)), .int (nI (tn_s tx L p0)), .int (nI va), .ref (z 9)])), (z 1, .inl (k.1 0, 160, .inl (ta_e tx)))] H := hP
                have hD : va_D A [(z 3, .inl (k.1 0, 23, .inl (ta_e d))), (z 0, .inr (8, [.ref (z 1), .int (nI L), .ref (z 2), .ref (z 3), .ref (z 4), .ref (z 5), .int (nI kn), .ref (z 6), .ref (z 7), .ref (z 8), .int (nI no), .int (nI (tn_e tx L p0)), .int (nI (mo_s tx L p0)), .int (nI (tn_s tx L p0)), .int (nI va), .ref (z 9)])), (z 1, .inl (k.1 0, 160, .inl (ta_e tx)))] := hD
                have hP : va_P D vwCl [(z 0, .inr (8, [.ref (z 1), .int (nI L), .ref (z 2), .ref (z 3), .ref (z 4), .ref (z 5), .int (nI kn), .ref (z 6), .ref (z 7), .ref (z 8), .int (nI no), .int (nI (tn_e tx L p0)), .int (nI (mo_s tx L p0)), .int (nI (tn_s tx L p0)), .int (nI va), .ref (z 9)])), (z 1, .inl (k.1 0, 160, .inl (ta_e tx))), (z 3, .inl (k.1 0, 23, .inl (ta_e d)))] H := hP.sub [1, 2, 0] rfl
                have hD : va_D A [(z 0, .inr (8, [.ref (z 1), .int (nI L), .ref (z 2), .ref (z 3), .ref (z 4), .ref (z 5), .int (nI kn), .ref (z 6), .ref (z 7), .ref (z 8), .int (nI no), .int (nI (tn_e tx L p0)), .int (nI (mo_s tx L p0)), .int (nI (tn_s tx L p0)), .int (nI va), .ref (z 9)])), (z 1, .inl (k.1 0, 160, .inl (ta_e tx))), (z 3, .inl (k.1 0, 23, .inl (ta_e d)))] := hD.sub [1, 2, 0] (by decide) rfl
                refine lv_if_eq (tgt := 106) hx hb dX8_readsClause_98 (by decide) (fun c79 => ?_) (fun c79 => ?_)
                · refine lv_aload_n hx hb dX8_readsClause_106 rfl (lv_at hl 0 rfl) ?_
                  refine ta_bipush C 109 dX8_readsClause_107 (by decide) ?_
                  refine ta_bipush C 97 dX8_readsClause_109 (by decide) ?_
                  refine ta_bipush C 114 dX8_readsClause_111 (by decide) ?_
                  refine ta_bipush C 99 dX8_readsClause_113 (by decide) ?_
                  refine ta_bipush C 104 dX8_readsClause_115 (by decide) ?_
                  refine ta_iconst C 0 dX8_readsClause_117 (by decide) ?_
                  refine ta_callVi (As := [.int (nI 109), .int (nI 97), .int (nI 114), .int (nI 99), .int (nI 104), .int (nI 0)]) (rest0 := []) (Wr := [(z 3, .inl (k.1 0, 23, .inl (ta_e d)))]) C hP hD hS (c_X8_isWord_4 l D k z kn no va L tx p0 hx0 hp0) 0 rfl rfl rfl [0, 1] [2] rfl rfl (by decide) (by decide) (by decide) tw_333 tw_330 tw_5 tw_331 tw_332 ⟨by decide, by decide, rfl⟩ ⟨Nat.le_of_ble_eq_true rfl, Nat.le_of_ble_eq_true rfl⟩ ⟨Nat.zero_le _, Nat.zero_le _⟩ hl.1 rfl (Nat.le_of_ble_eq_true rfl) dX8_readsClause_118 (fun r80 u81 H locs h82 hP hD hS => ?_)
                  rcases h82 with h0 | h0
                  · obtain ⟨his83, rfl⟩ := h0
                    have hP : va_P D vwCl [(z 3, .inl (k.1 0, 23, .inl (ta_e d))), (z 0, .inr (8, [.ref (z 1), .int (nI L), .ref (z 2), .ref (z 3), .ref (z 4), .ref (z 5), .int (nI kn), .ref (z 6), .ref (z 7), .ref (z 8), .int (nI no), .int (nI (tn_e tx L p0)), .int (nI (mo_s tx L p0)), .int (nI (tn_s tx L p0)), .int (nI va), .ref (z 9)])), (z 1, .inl (k.1 0, 160, .inl (ta_e tx)))] H := hP
                    have hD : va_D A [(z 3, .inl (k.1 0, 23, .inl (ta_e d))), (z 0, .inr (8, [.ref (z 1), .int (nI L), .ref (z 2), .ref (z 3), .ref (z 4), .ref (z 5), .int (nI kn), .ref (z 6), .ref (z 7), .ref (z 8), .int (nI no), .int (nI (tn_e tx L p0)), .int (nI (mo_s tx L p0)), .int (nI (tn_s tx L p0)), .int (nI va), .ref (z 9)])), (z 1, .inl (k.1 0, 160, .inl (ta_e tx)))] := hD
                    have hP : va_P D vwCl [(z 0, .inr (8, [.ref (z 1), .int (nI L), .ref (z 2), .ref (z 3), .ref (z 4), .ref (z 5), .int (nI kn), .ref (z 6), .ref (z 7), .ref (z 8), .int (nI no), .int (nI (tn_e tx L p0)), .int (nI (mo_s tx L p0)), .int (nI (tn_s tx L p0)), .int (nI va), .ref (z 9)])), (z 1, .inl (k.1 0, 160, .inl (ta_e tx))), (z 3, .inl (k.1 0, 23, .inl (ta_e d)))] H := hP.sub [1, 2, 0] rfl
                    have hD : va_D A [(z 0, .inr (8, [.ref (z 1), .int (nI L), .ref (z 2), .ref (z 3), .ref (z 4), .ref (z 5), .int (nI kn), .ref (z 6), .ref (z 7), .ref (z 8), .int (nI no), .int (nI (tn_e tx L p0)), .int (nI (mo_s tx L p0)), .int (nI (tn_s tx L p0)), .int (nI va), .ref (z 9)])), (z 1, .inl (k.1 0, 160, .inl (ta_e tx))), (z 3, .inl (k.1 0, 23, .inl (ta_e d)))] := hD.sub [1, 2, 0] (by decide) rfl
                    refine lv_if_eq (tgt := 130) hx hb dX8_readsClause_121 (by decide) (fun c84 => ?_) (fun c84 => ?_)
                    · exact absurd c84 (by decide)
                    · refine lv_aload_n hx hb dX8_readsClause_124 rfl (lv_at hl 0 rfl) ?_
                      refine ta_iconst C 0 dX8_readsClause_125 (by decide) ?_
                      refine ta_callVi (As := [.int (nI 0)]) (rest0 := []) (Wr := []) C hP hD hS (c_X8_readsFigure l D k z kn no (tn_e tx L p0) (mo_s tx L p0) (tn_s tx L p0) va L tx d 0 hx0 (by omega) hpl (by decide)) 0 rfl rfl rfl [0, 1, 2] [] rfl rfl (by decide) (by decide) (by decide) tw_353 tw_350 tw_5 tw_351 tw_352 ⟨by decide, by decide, rfl⟩ ⟨Nat.le_of_ble_eq_true rfl, Nat.le_of_ble_eq_true rfl⟩ ⟨Nat.zero_le _, Nat.zero_le _⟩ hl.1 rfl (Nat.le_of_ble_eq_true rfl) dX8_readsClause_126 (fun r85 u86 H locs h87 hP hD hS => ?_)
                      rcases h87 with h0 | h0
                      · obtain ⟨ua_88, us_89, ur_90, uv_91, ud_92⟩ := u86
                        try dsimp only at h0
                        obtain ⟨hF93, rfl, rfl, rfl⟩ := h0
                        have hP : va_P D vwCl [(z 0, .inr (8, [.ref (z 1), .int (nI L), .ref (z 2), .ref (z 3), .ref (z 4), .ref (z 5), .int (nI kn), .ref (z 6), .ref (z 7), .ref (z 8), .int (nI no), .int (nI ((cl_fig 0 tx L (tn_e tx L p0) d).2.1)), .int (nI us_89), .int (nI ur_90), .int (nI uv_91), .ref (z 9)])), (z 1, .inl (k.1 0, 160, .inl (ta_e tx))), (z 3, .inl (k.1 0, 23, .inl (ta_e ((cl_fig 0 tx L (tn_e tx L p0) d).2.2))))] H := hP
                        have hD : va_D A [(z 0, .inr (8, [.ref (z 1), .int (nI L), .ref (z 2), .ref (z 3), .ref (z 4), .ref (z 5), .int (nI kn), .ref (z 6), .ref (z 7), .ref (z 8), .int (nI no), .int (nI ((cl_fig 0 tx L (tn_e tx L p0) d).2.1)), .int (nI us_89), .int (nI ur_90), .int (nI uv_91), .ref (z 9)])), (z 1, .inl (k.1 0, 160, .inl (ta_e tx))), (z 3, .inl (k.1 0, 23, .inl (ta_e ((cl_fig 0 tx L (tn_e tx L p0) d).2.2))))] := hD
                        have eR : cl_read tx L p0 d = cl_fig 0 tx L (tn_e tx L p0) d := by unfold cl_read; rw [cl_n his21, cl_n his43, cl_n his56, cl_n his78, cl_p his83]
                        exact ret _ ((cl_fig 0 tx L (tn_e tx L p0) d).2.1, us_89, ur_90, uv_91, (cl_fig 0 tx L (tn_e tx L p0) d).2.2) dX8_readsClause_129 (by decide) (Or.inl ⟨by rw [eR]; exact hF93, rfl, by rw [eR], by rw [eR]⟩) hP hD hS
                      · obtain ⟨ua_94, us_95, ur_96, uv_97, ud_98⟩ := u86
                        try dsimp only at h0
                        obtain ⟨hF99, rfl, rfl⟩ := h0
                        have hP : va_P D vwCl [(z 0, .inr (8, [.ref (z 1), .int (nI L), .ref (z 2), .ref (z 3), .ref (z 4), .ref (z 5), .int (nI kn), .ref (z 6), .ref (z 7), .ref (z 8), .int (nI no), .int (nI ua_94), .int (nI us_95), .int (nI ((cl_fig 0 tx L (tn_e tx L p0) d).1)), .int (nI uv_97), .ref (z 9)])), (z 1, .inl (k.1 0, 160, .inl (ta_e tx))), (z 3, .inl (k.1 0, 23, .inl (ta_e ud_98)))] H := hP
                        have hD : va_D A [(z 0, .inr (8, [.ref (z 1), .int (nI L), .ref (z 2), .ref (z 3), .ref (z 4), .ref (z 5), .int (nI kn), .ref (z 6), .ref (z 7), .ref (z 8), .int (nI no), .int (nI ua_94), .int (nI us_95), .int (nI ((cl_fig 0 tx L (tn_e tx L p0) d).1)), .int (nI uv_97), .ref (z 9)])), (z 1, .inl (k.1 0, 160, .inl (ta_e tx))), (z 3, .inl (k.1 0, 23, .inl (ta_e ud_98)))] := hD
                        have eR : cl_read tx L p0 d = cl_fig 0 tx L (tn_e tx L p0) d := by unfold cl_read; rw [cl_n his21, cl_n his43, cl_n his56, cl_n his78, cl_p his83]
                        exact ret _ (ua_94, us_95, (cl_fig 0 tx L (tn_e tx L p0) d).1, uv_97, ud_98) dX8_readsClause_129 (by decide) (Or.inr ⟨by rw [eR]; exact hF99, rfl, by rw [eR]⟩) hP hD hS
                  · obtain ⟨his100, rfl⟩ := h0
                    have hP : va_P D vwCl [(z 3, .inl (k.1 0, 23, .inl (ta_e d))), (z 0, .inr (8, [.ref (z 1), .int (nI L), .ref (z 2), .ref (z 3), .ref (z 4), .ref (z 5), .int (nI kn), .ref (z 6), .ref (z 7), .ref (z 8), .int (nI no), .int (nI (tn_e tx L p0)), .int (nI (mo_s tx L p0)), .int (nI (tn_s tx L p0)), .int (nI va), .ref (z 9)])), (z 1, .inl (k.1 0, 160, .inl (ta_e tx)))] H := hP
                    have hD : va_D A [(z 3, .inl (k.1 0, 23, .inl (ta_e d))), (z 0, .inr (8, [.ref (z 1), .int (nI L), .ref (z 2), .ref (z 3), .ref (z 4), .ref (z 5), .int (nI kn), .ref (z 6), .ref (z 7), .ref (z 8), .int (nI no), .int (nI (tn_e tx L p0)), .int (nI (mo_s tx L p0)), .int (nI (tn_s tx L p0)), .int (nI va), .ref (z 9)])), (z 1, .inl (k.1 0, 160, .inl (ta_e tx)))] := hD
                    have hP : va_P D vwCl [(z 0, .inr (8, [.ref (z 1), .int (nI L), .ref (z 2), .ref (z 3), .ref (z 4), .ref (z 5), .int (nI kn), .ref (z 6), .ref (z 7), .ref (z 8), .int (nI no), .int (nI (tn_e tx L p0)), .int (nI (mo_s tx L p0)), .int (nI (tn_s tx L p0)), .int (nI va), .ref (z 9)])), (z 1, .inl (k.1 0, 160, .inl (ta_e tx))), (z 3, .inl (k.1 0, 23, .inl (ta_e d)))] H := hP.sub [1, 2, 0] rfl
                    have hD : va_D A [(z 0, .inr (8, [.ref (z 1), .int (nI L), .ref (z 2), .ref (z 3), .ref (z 4), .ref (z 5), .int (nI kn), .ref (z 6), .ref (z 7), .ref (z 8), .int (nI no), .int (nI (tn_e tx L p0)), .int (nI (mo_s tx L p0)), .int (nI (tn_s tx L p0)), .int (nI va), .ref (z 9)])), (z 1, .inl (k.1 0, 160, .inl (ta_e tx))), (z 3, .inl (k.1 0, 23, .inl (ta_e d)))] := hD.sub [1, 2, 0] (by decide) rfl
                    refine lv_if_eq (tgt := 130) hx hb dX8_readsClause_121 (by decide) (fun c101 => ?_) (fun c101 => ?_)
                    · refine lv_aload_n hx hb dX8_readsClause_130 rfl (lv_at hl 0 rfl) ?_
                      refine ta_bipush C 98 dX8_readsClause_131 (by decide) ?_
                      refine ta_bipush C 97 dX8_readsClause_133 (by decide) ?_
                      refine ta_bipush C 99 dX8_readsClause_135 (by decide) ?_
                      refine ta_bipush C 107 dX8_readsClause_137 (by decide) ?_
                      refine ta_iconst C 0 dX8_readsClause_139 (by decide) ?_
                      refine ta_iconst C 0 dX8_readsClause_140 (by decide) ?_
                      refine ta_callVi (As := [.int (nI 98), .int (nI 97), .int (nI 99), .int (nI 107), .int (nI 0), .int (nI 0)]) (rest0 := []) (Wr := [(z 3, .inl (k.1 0, 23, .inl (ta_e d)))]) C hP hD hS (c_X8_isWord_5 l D k z kn no va L tx p0 hx0 hp0) 0 rfl rfl rfl [0, 1] [2] rfl rfl (by decide) (by decide) (by decide) tw_333 tw_330 tw_5 tw_331 tw_332 ⟨by decide, by decide, rfl⟩ ⟨Nat.le_of_ble_eq_true rfl, Nat.le_of_ble_eq_true rfl⟩ ⟨Nat.zero_le _, Nat.zero_le _⟩ hl.1 rfl (Nat.le_of_ble_eq_true rfl) dX8_readsClause_141 (fun r102 u103 H locs h104 hP hD hS => ?_)
                      rcases h104 with h0 | h0
                      · obtain ⟨his105, rfl⟩ := h0
                        have hP : va_P D vwCl [(z 3, .inl (k.1 0, 23, .inl (ta_e d))), (z 0, .inr (8, [.ref (z 1), .int (nI L), .ref (z 2), .ref (z 3), .ref (z 4), .ref (z 5), .int (nI kn), .ref (z 6), .ref (z 7), .ref (z 8), .int (nI no), .int (nI (tn_e tx L p0)), .int (nI (mo_s tx L p0)), .int (nI (tn_s tx L p0)), .int (nI va), .ref (z 9)])), (z 1, .inl (k.1 0, 160, .inl (ta_e tx)))] H := hP
                        have hD : va_D A [(z 3, .inl (k.1 0, 23, .inl (ta_e d))), (z 0, .inr (8, [.ref (z 1), .int (nI L), .ref (z 2), .ref (z 3), .ref (z 4), .ref (z 5), .int (nI kn), .ref (z 6), .ref (z 7), .ref (z 8), .int (nI no), .int (nI (tn_e tx L p0)), .int (nI (mo_s tx L p0)), .int (nI (tn_s tx L p0)), .int (nI va), .ref (z 9)])), (z 1, .inl (k.1 0, 160, .inl (ta_e tx)))] := hD
                        have hP : va_P D vwCl [(z 0, .inr (8, [.ref (z 1), .int (nI L), .ref (z 2), .ref (z 3), .ref (z 4), .ref (z 5), .int (nI kn), .ref (z 6), .ref (z 7), .ref (z 8), .int (nI no), .int (nI (tn_e tx L p0)), .int (nI (mo_s tx L p0)), .int (nI (tn_s tx L p0)), .int (nI va), .ref (z 9)])), (z 1, .inl (k.1 0, 160, .inl (ta_e tx))), (z 3, .inl (k.1 0, 23, .inl (ta_e d)))] H := hP.sub [1, 2, 0] rfl
                        have hD : va_D A [(z 0, .inr (8, [.ref (z 1), .int (nI L), .ref (z 2), .ref (z 3), .ref (z 4), .ref (z 5), .int (nI kn), .ref (z 6), .ref (z 7), .ref (z 8), .int (nI no), .int (nI (tn_e tx L p0)), .int (nI (mo_s tx L p0)), .int (nI (tn_s tx L p0)), .int (nI va), .ref (z 9)])), (z 1, .inl (k.1 0, 160, .inl (ta_e tx))), (z 3, .inl (k.1 0, 23, .inl (ta_e d)))] := hD.sub [1, 2, 0] (by decide) rfl
                        refine lv_if_eq (tgt := 153) hx hb dX8_readsClause_144 (by decide) (fun c106 => ?_) (fun c106 => ?_)
                        · exact absurd c106 (by decide)
                        · refine lv_aload_n hx hb dX8_readsClause_147 rfl (lv_at hl 0 rfl) ?_
                          refine ta_iconst C 1 dX8_readsClause_148 (by decide) ?_
                          refine ta_callVi (As := [.int (nI 1)]) (rest0 := []) (Wr := []) C hP hD hS (c_X8_readsFigure l D k z kn no (tn_e tx L p0) (mo_s tx L p0) (tn_s tx L p0) va L tx d 1 hx0 (by omega) hpl (by decide)) 0 rfl rfl rfl [0, 1, 2] [] rfl rfl (by decide) (by decide) (by decide) tw_353 tw_350 tw_5 tw_351 tw_352 ⟨by decide, by decide, rfl⟩ ⟨Nat.le_of_ble_eq_true rfl, Nat.le_of_ble_eq_true rfl⟩ ⟨Nat.zero_le _, Nat.zero_le _⟩ hl.1 rfl (Nat.le_of_ble_eq_true rfl) dX8_readsClause_149 (fun r107 u108 H locs h109 hP hD hS => ?_)
                          rcases h109 with h0 | h0
                          · obtain ⟨ua_110, us_111, ur_112, uv_113, ud_114⟩ := u108
                            try dsimp only at h0
                            obtain ⟨hF115, rfl, rfl, rfl⟩ := h0
                            have hP : va_P D vwCl [(z 0, .inr (8, [.ref (z 1), .int (nI L), .ref (z 2), .ref (z 3), .ref (z 4), .ref (z 5), .int (nI kn), .ref (z 6), .ref (z 7), .ref (z 8), .int (nI no), .int (nI ((cl_fig 1 tx L (tn_e tx L p0) d).2.1)), .int (nI us_111), .int (nI ur_112), .int (nI uv_113), .ref (z 9)])), (z 1, .inl (k.1 0, 160, .inl (ta_e tx))), (z 3, .inl (k.1 0, 23, .inl (ta_e ((cl_fig 1 tx L (tn_e tx L p0) d).2.2))))] H := hP
                            have hD : va_D A [(z 0, .inr (8, [.ref (z 1), .int (nI L), .ref (z 2), .ref (z 3), .ref (z 4), .ref (z 5), .int (nI kn), .ref (z 6), .ref (z 7), .ref (z 8), .int (nI no), .int (nI ((cl_fig 1 tx L (tn_e tx L p0) d).2.1)), .int (nI us_111), .int (nI ur_112), .int (nI uv_113), .ref (z 9)])), (z 1, .inl (k.1 0, 160, .inl (ta_e tx))), (z 3, .inl (k.1 0, 23, .inl (ta_e ((cl_fig 1 tx L (tn_e tx L p0) d).2.2))))] := hD
                            have eR : cl_read tx L p0 d = cl_fig 1 tx L (tn_e tx L p0) d := by unfold cl_read; rw [cl_n his21, cl_n his43, cl_n his56, cl_n his78, cl_n his100, cl_p his105]
                            exact ret _ ((cl_fig 1 tx L (tn_e tx L p0) d).2.1, us_111, ur_112, uv_113, (cl_fig 1 tx L (tn_e tx L p0) d).2.2) dX8_readsClause_152 (by decide) (Or.inl ⟨by rw [eR]; exact hF115, rfl, by rw [eR], by rw [eR]⟩) hP hD hS
                          · obtain ⟨ua_116, us_117, ur_118, uv_119, ud_120⟩ := u108
                            try dsimp only at h0
                            obtain ⟨hF121, rfl, rfl⟩ := h0
                            have hP : va_P D vwCl [(z 0, .inr (8, [.ref (z 1), .int (nI L), .ref (z 2), .ref (z 3), .ref (z 4), .ref (z 5), .int (nI kn), .ref (z 6), .ref (z 7), .ref (z 8), .int (nI no), .int (nI ua_116), .int (nI us_117), .int (nI ((cl_fig 1 tx L (tn_e tx L p0) d).1)), .int (nI uv_119), .ref (z 9)])), (z 1, .inl (k.1 0, 160, .inl (ta_e tx))), (z 3, .inl (k.1 0, 23, .inl (ta_e ud_120)))] H := hP
                            have hD : va_D A [(z 0, .inr (8, [.ref (z 1), .int (nI L), .ref (z 2), .ref (z 3), .ref (z 4), .ref (z 5), .int (nI kn), .ref (z 6), .ref (z 7), .ref (z 8), .int (nI no), .int (nI ua_116), .int (nI us_117), .int (nI ((cl_fig 1 tx L (tn_e tx L p0) d).1)), .int (nI uv_119), .ref (z 9)])), (z 1, .inl (k.1 0, 160, .inl (ta_e tx))), (z 3, .inl (k.1 0, 23, .inl (ta_e ud_120)))] := hD
                            have eR : cl_read tx L p0 d = cl_fig 1 tx L (tn_e tx L p0) d := by unfold cl_read; rw [cl_n his21, cl_n his43, cl_n his56, cl_n his78, cl_n his100, cl_p his105]
                            exact ret _ (ua_116, us_117, (cl_fig 1 tx L (tn_e tx L p0) d).1, uv_119, ud_120) dX8_readsClause_152 (by decide) (Or.inr ⟨by rw [eR]; exact hF121, rfl, by rw [eR]⟩) hP hD hS
                      · obtain ⟨his122, rfl⟩ := h0
                        have hP : va_P D vwCl [(z 3, .inl (k.1 0, 23, .inl (ta_e d))), (z 0, .inr (8, [.ref (z 1), .int (nI L), .ref (z 2), .ref (z 3), .ref (z 4), .ref (z 5), .int (nI kn), .ref (z 6), .ref (z 7), .ref (z 8), .int (nI no), .int (nI (tn_e tx L p0)), .int (nI (mo_s tx L p0)), .int (nI (tn_s tx L p0)), .int (nI va), .ref (z 9)])), (z 1, .inl (k.1 0, 160, .inl (ta_e tx)))] H := hP
                        have hD : va_D A [(z 3, .inl (k.1 0, 23, .inl (ta_e d))), (z 0, .inr (8, [.ref (z 1), .int (nI L), .ref (z 2), .ref (z 3), .ref (z 4), .ref (z 5), .int (nI kn), .ref (z 6), .ref (z 7), .ref (z 8), .int (nI no), .int (nI (tn_e tx L p0)), .int (nI (mo_s tx L p0)), .int (nI (tn_s tx L p0)), .int (nI va), .ref (z 9)])), (z 1, .inl (k.1 0, 160, .inl (ta_e tx)))] := hD
                        have hP : va_P D vwCl [(z 0, .inr (8, [.ref (z 1), .int (nI L), .ref (z 2), .ref (z 3), .ref (z 4), .ref (z 5), .int (nI kn), .ref (z 6), .ref (z 7), .ref (z 8), .int (nI no), .int (nI (tn_e tx L p0)), .int (nI (mo_s tx L p0)), .int (nI (tn_s tx L p0)), .int (nI va), .ref (z 9)])), (z 1, .inl (k.1 0, 160, .inl (ta_e tx))), (z 3, .inl (k.1 0, 23, .inl (ta_e d)))] H := hP.sub [1, 2, 0] rfl
                        have hD : va_D A [(z 0, .inr (8, [.ref (z 1), .int (nI L), .ref (z 2), .ref (z 3), .ref (z 4), .ref (z 5), .int (nI kn), .ref (z 6), .ref (z 7), .ref (z 8), .int (nI no), .int (nI (tn_e tx L p0)), .int (nI (mo_s tx L p0)), .int (nI (tn_s tx L p0)), .int (nI va), .ref (z 9)])), (z 1, .inl (k.1 0, 160, .inl (ta_e tx))), (z 3, .inl (k.1 0, 23, .inl (ta_e d)))] := hD.sub [1, 2, 0] (by decide) rfl
                        refine lv_if_eq (tgt := 153) hx hb dX8_readsClause_144 (by decide) (fun c123 => ?_) (fun c123 => ?_)
                        · refine lv_aload_n hx hb dX8_readsClause_153 rfl (lv_at hl 0 rfl) ?_
                          refine ta_bipush C 100 dX8_readsClause_154 (by decide) ?_
                          refine ta_bipush C 111 dX8_readsClause_156 (by decide) ?_
                          refine ta_bipush C 117 dX8_readsClause_158 (by decide) ?_
                          refine ta_bipush C 98 dX8_readsClause_160 (by decide) ?_
                          refine ta_bipush C 108 dX8_readsClause_162 (by decide) ?_
                          refine ta_bipush C 101 dX8_readsClause_164 (by decide) ?_
                          refine ta_callVi (As := [.int (nI 100), .int (nI 111), .int (nI 117), .int (nI 98), .int (nI 108), .int (nI 101)]) (rest0 := []) (Wr := [(z 3, .inl (k.1 0, 23, .inl (ta_e d)))]) C hP hD hS (c_X8_isWord_6 l D k z kn no va L tx p0 hx0 hp0) 0 rfl rfl rfl [0, 1] [2] rfl rfl (by decide) (by decide) (by decide) tw_333 tw_330 tw_5 tw_331 tw_332 ⟨by decide, by decide, rfl⟩ ⟨Nat.le_of_ble_eq_true rfl, Nat.le_of_ble_eq_true rfl⟩ ⟨Nat.zero_le _, Nat.zero_le _⟩ hl.1 rfl (Nat.le_of_ble_eq_true rfl) dX8_readsClause_166 (fun r124 u125 H locs h126 hP hD hS => ?_)
                          rcases h126 with h0 | h0
                          · obtain ⟨his127, rfl⟩ := h0
                            have hP : va_P D vwCl [(z 3, .inl (k.1 0, 23, .inl (ta_e d))), (z 0, .inr (8, [.ref (z 1), .int (nI L), .ref (z 2), .ref (z 3), .ref (z 4), .ref (z 5), .int (nI kn), .ref (z 6), .ref (z 7), .ref (z 8), .int (nI no), .int (nI (tn_e tx L p0)), .int (nI (mo_s tx L p0)), .int (nI (tn_s tx L p0)), .int (nI va), .ref (z 9)])), (z 1, .inl (k.1 0, 160, .inl (ta_e tx)))] H := hP
                            have hD : va_D A [(z 3, .inl (k.1 0, 23, .inl (ta_e d))), (z 0, .inr (8, [.ref (z 1), .int (nI L), .ref (z 2), .ref (z 3), .ref (z 4), .ref (z 5), .int (nI kn), .ref (z 6), .ref (z 7), .ref (z 8), .int (nI no), .int (nI (tn_e tx L p0)), .int (nI (mo_s tx L p0)), .int (nI (tn_s tx L p0)), .int (nI va), .ref (z 9)])), (z 1, .inl (k.1 0, 160, .inl (ta_e tx)))] := hD
                            have hP : va_P D vwCl [(z 0, .inr (8, [.ref (z 1), .int (nI L), .ref (z 2), .ref (z 3), .ref (z 4), .ref (z 5), .int (nI kn), .ref (z 6), .ref (z 7), .ref (z 8), .int (nI no), .int (nI (tn_e tx L p0)), .int (nI (mo_s tx L p0)), .int (nI (tn_s tx L p0)), .int (nI va), .ref (z 9)])), (z 1, .inl (k.1 0, 160, .inl (ta_e tx))), (z 3, .inl (k.1 0, 23, .inl (ta_e d)))] H := hP.sub [1, 2, 0] rfl
                            have hD : va_D A [(z 0, .inr (8, [.ref (z 1), .int (nI L), .ref (z 2), .ref (z 3), .ref (z 4), .ref (z 5), .int (nI kn), .ref (z 6), .ref (z 7), .ref (z 8), .int (nI no), .int (nI (tn_e tx L p0)), .int (nI (mo_s tx L p0)), .int (nI (tn_s tx L p0)), .int (nI va), .ref (z 9)])), (z 1, .inl (k.1 0, 160, .inl (ta_e tx))), (z 3, .inl (k.1 0, 23, .inl (ta_e d)))] := hD.sub [1, 2, 0] (by decide) rfl
                            refine lv_if_eq (tgt := 178) hx hb dX8_readsClause_169 (by decide) (fun c128 => ?_) (fun c128 => ?_)
                            · exact absurd c128 (by decide)
                            · refine lv_aload_n hx hb dX8_readsClause_172 rfl (lv_at hl 0 rfl) ?_
                              refine ta_iconst C 2 dX8_readsClause_173 (by decide) ?_
                              refine ta_callVi (As := [.int (nI 2)]) (rest0 := []) (Wr := []) C hP hD hS (c_X8_readsFigure l D k z kn no (tn_e tx L p0) (mo_s tx L p0) (tn_s tx L p0) va L tx d 2 hx0 (by omega) hpl (by decide)) 0 rfl rfl rfl [0, 1, 2] [] rfl rfl (by decide) (by decide) (by decide) tw_353 tw_350 tw_5 tw_351 tw_352 ⟨by decide, by decide, rfl⟩ ⟨Nat.le_of_ble_eq_true rfl, Nat.le_of_ble_eq_true rfl⟩ ⟨Nat.zero_le _, Nat.zero_le _⟩ hl.1 rfl (Nat.le_of_ble_eq_true rfl) dX8_readsClause_174 (fun r129 u130 H locs h131 hP hD hS => ?_)
                              rcases h131 with h0 | h0
                              · obtain ⟨ua_132, us_133, ur_134, uv_135, ud_136⟩ := u130
                                try dsimp only at h0
                                obtain ⟨hF137, rfl, rfl, rfl⟩ := h0
                                have hP : va_P D vwCl [(z 0, .inr (8, [.ref (z 1), .int (nI L), .ref (z 2), .ref (z 3), .ref (z 4), .ref (z 5), .int (nI kn), .ref (z 6), .ref (z 7), .ref (z 8), .int (nI no), .int (nI ((cl_fig 2 tx L (tn_e tx L p0) d).2.1)), .int (nI us_133), .int (nI ur_134), .int (nI uv_135), .ref (z 9)])), (z 1, .inl (k.1 0, 160, .inl (ta_e tx))), (z 3, .inl (k.1 0, 23, .inl (ta_e ((cl_fig 2 tx L (tn_e tx L p0) d).2.2))))] H := hP
                                have hD : va_D A [(z 0, .inr (8, [.ref (z 1), .int (nI L), .ref (z 2), .ref (z 3), .ref (z 4), .ref (z 5), .int (nI kn), .ref (z 6), .ref (z 7), .ref (z 8), .int (nI no), .int (nI ((cl_fig 2 tx L (tn_e tx L p0) d).2.1)), .int (nI us_133), .int (nI ur_134), .int (nI uv_135), .ref (z 9)])), (z 1, .inl (k.1 0, 160, .inl (ta_e tx))), (z 3, .inl (k.1 0, 23, .inl (ta_e ((cl_fig 2 tx L (tn_e tx L p0) d).2.2))))] := hD
                                have eR : cl_read tx L p0 d = cl_fig 2 tx L (tn_e tx L p0) d := by unfold cl_read; rw [cl_n his21, cl_n his43, cl_n his56, cl_n his78, cl_n his100, cl_n his122, cl_p his127]
                                exact ret _ ((cl_fig 2 tx L (tn_e tx L p0) d).2.1, us_133, ur_134, uv_135, (cl_fig 2 tx L (tn_e tx L p0) d).2.2) dX8_readsClause_177 (by decide) (Or.inl ⟨by rw [eR]; exact hF137, rfl, by rw [eR], by rw [eR]⟩) hP hD hS
                              · obtain ⟨ua_138, us_139, ur_140, uv_141, ud_142⟩ := u130
                                try dsimp only at h0
                                obtain ⟨hF143, rfl, rfl⟩ := h0
                                have hP : va_P D vwCl [(z 0, .inr (8, [.ref (z 1), .int (nI L), .ref (z 2), .ref (z 3), .ref (z 4), .ref (z 5), .int (nI kn), .ref (z 6), .ref (z 7), .ref (z 8), .int (nI no), .int (nI ua_138), .int (nI us_139), .int (nI ((cl_fig 2 tx L (tn_e tx L p0) d).1)), .int (nI uv_141), .ref (z 9)])), (z 1, .inl (k.1 0, 160, .inl (ta_e tx))), (z 3, .inl (k.1 0, 23, .inl (ta_e ud_142)))] H := hP
                                have hD : va_D A [(z 0, .inr (8, [.ref (z 1), .int (nI L), .ref (z 2), .ref (z 3), .ref (z 4), .ref (z 5), .int (nI kn), .ref (z 6), .ref (z 7), .ref (z 8), .int (nI no), .int (nI ua_138), .int (nI us_139), .int (nI ((cl_fig 2 tx L (tn_e tx L p0) d).1)), .int (nI uv_141), .ref (z 9)])), (z 1, .inl (k.1 0, 160, .inl (ta_e tx))), (z 3, .inl (k.1 0, 23, .inl (ta_e ud_142)))] := hD
                                have eR : cl_read tx L p0 d = cl_fig 2 tx L (tn_e tx L p0) d := by unfold cl_read; rw [cl_n his21, cl_n his43, cl_n his56, cl_n his78, cl_n his100, cl_n his122, cl_p his127]
                                exact ret _ (ua_138, us_139, (cl_fig 2 tx L (tn_e tx L p0) d).1, uv_141, ud_142) dX8_readsClause_177 (by decide) (Or.inr ⟨by rw [eR]; exact hF143, rfl, by rw [eR]⟩) hP hD hS
                          · obtain ⟨his144, rfl⟩ := h0
                            have hP : va_P D vwCl [(z 3, .inl (k.1 0, 23, .inl (ta_e d))), (z 0, .inr (8, [.ref (z 1), .int (nI L), .ref (z 2), .ref (z 3), .ref (z 4), .ref (z 5), .int (nI kn), .ref (z 6), .ref (z 7), .ref (z 8), .int (nI no), .int (nI (tn_e tx L p0)), .int (nI (mo_s tx L p0)), .int (nI (tn_s tx L p0)), .int (nI va), .ref (z 9)])), (z 1, .inl (k.1 0, 160, .inl (ta_e tx)))] H := hP
                            have hD : va_D A [(z 3, .inl (k.1 0, 23, .inl (ta_e d))), (z 0, .inr (8, [.ref (z 1), .int (nI L), .ref (z 2), .ref (z 3), .ref (z 4), .ref (z 5), .int (nI kn), .ref (z 6), .ref (z 7), .ref (z 8), .int (nI no), .int (nI (tn_e tx L p0)), .int (nI (mo_s tx L p0)), .int (nI (tn_s tx L p0)), .int (nI va), .ref (z 9)])), (z 1, .inl (k.1 0, 160, .inl (ta_e tx)))] := hD
                            have hP : va_P D vwCl [(z 0, .inr (8, [.ref (z 1), .int (nI L), .ref (z 2), .ref (z 3), .ref (z 4), .ref (z 5), .int (nI kn), .ref (z 6), .ref (z 7), .ref (z 8), .int (nI no), .int (nI (tn_e tx L p0)), .int (nI (mo_s tx L p0)), .int (nI (tn_s tx L p0)), .int (nI va), .ref (z 9)])), (z 1, .inl (k.1 0, 160, .inl (ta_e tx))), (z 3, .inl (k.1 0, 23, .inl (ta_e d)))] H := hP.sub [1, 2, 0] rfl
                            have hD : va_D A [(z 0, .inr (8, [.ref (z 1), .int (nI L), .ref (z 2), .ref (z 3), .ref (z 4), .ref (z 5), .int (nI kn), .ref (z 6), .ref (z 7), .ref (z 8), .int (nI no), .int (nI (tn_e tx L p0)), .int (nI (mo_s tx L p0)), .int (nI (tn_s tx L p0)), .int (nI va), .ref (z 9)])), (z 1, .inl (k.1 0, 160, .inl (ta_e tx))), (z 3, .inl (k.1 0, 23, .inl (ta_e d)))] := hD.sub [1, 2, 0] (by decide) rfl
                            refine lv_if_eq (tgt := 178) hx hb dX8_readsClause_169 (by decide) (fun c145 => ?_) (fun c145 => ?_)
                            · refine lv_aload_n hx hb dX8_readsClause_178 rfl (lv_at hl 0 rfl) ?_
                              refine ta_bipush C 116 dX8_readsClause_179 (by decide) ?_
                              refine ta_bipush C 117 dX8_readsClause_181 (by decide) ?_
                              refine ta_bipush C 114 dX8_readsClause_183 (by decide) ?_
                              refine ta_bipush C 110 dX8_readsClause_185 (by decide) ?_
                              refine ta_iconst C 0 dX8_readsClause_187 (by decide) ?_
                              refine ta_iconst C 0 dX8_readsClause_188 (by decide) ?_
                              refine ta_callVi (As := [.int (nI 116), .int (nI 117), .int (nI 114), .int (nI 110), .int (nI 0), .int (nI 0)]) (rest0 := []) (Wr := [(z 3, .inl (k.1 0, 23, .inl (ta_e d)))]) C hP hD hS (c_X8_isWord_7 l D k z kn no va L tx p0 hx0 hp0) 0 rfl rfl rfl [0, 1] [2] rfl rfl (by decide) (by decide) (by decide) tw_333 tw_330 tw_5 tw_331 tw_332 ⟨by decide, by decide, rfl⟩ ⟨Nat.le_of_ble_eq_true rfl, Nat.le_of_ble_eq_true rfl⟩ ⟨Nat.zero_le _, Nat.zero_le _⟩ hl.1 rfl (Nat.le_of_ble_eq_true rfl) dX8_readsClause_189 (fun r146 u147 H locs h148 hP hD hS => ?_)
                              rcases h148 with h0 | h0
                              · obtain ⟨his149, rfl⟩ := h0
                                have hP : va_P D vwCl [(z 3, .inl (k.1 0, 23, .inl (ta_e d))), (z 0, .inr (8, [.ref (z 1), .int (nI L), .ref (z 2), .ref (z 3), .ref (z 4), .ref (z 5), .int (nI kn), .ref (z 6), .ref (z 7), .ref (z 8), .int (nI no), .int (nI (tn_e tx L p0)), .int (nI (mo_s tx L p0)), .int (nI (tn_s tx L p0)), .int (nI va), .ref (z 9)])), (z 1, .inl (k.1 0, 160, .inl (ta_e tx)))] H := hP
                                have hD : va_D A [(z 3, .inl (k.1 0, 23, .inl (ta_e d))), (z 0, .inr (8, [.ref (z 1), .int (nI L), .ref (z 2), .ref (z 3), .ref (z 4), .ref (z 5), .int (nI kn), .ref (z 6), .ref (z 7), .ref (z 8), .int (nI no), .int (nI (tn_e tx L p0)), .int (nI (mo_s tx L p0)), .int (nI (tn_s tx L p0)), .int (nI va), .ref (z 9)])), (z 1, .inl (k.1 0, 160, .inl (ta_e tx)))] := hD
                                have hP : va_P D vwCl [(z 0, .inr (8, [.ref (z 1), .int (nI L), .ref (z 2), .ref (z 3), .ref (z 4), .ref (z 5), .int (nI kn), .ref (z 6), .ref (z 7), .ref (z 8), .int (nI no), .int (nI (tn_e tx L p0)), .int (nI (mo_s tx L p0)), .int (nI (tn_s tx L p0)), .int (nI va), .ref (z 9)])), (z 1, .inl (k.1 0, 160, .inl (ta_e tx))), (z 3, .inl (k.1 0, 23, .inl (ta_e d)))] H := hP.sub [1, 2, 0] rfl
                                have hD : va_D A [(z 0, .inr (8, [.ref (z 1), .int (nI L), .ref (z 2), .ref (z 3), .ref (z 4), .ref (z 5), .int (nI kn), .ref (z 6), .ref (z 7), .ref (z 8), .int (nI no), .int (nI (tn_e tx L p0)), .int (nI (mo_s tx L p0)), .int (nI (tn_s tx L p0)), .int (nI va), .ref (z 9)])), (z 1, .inl (k.1 0, 160, .inl (ta_e tx))), (z 3, .inl (k.1 0, 23, .inl (ta_e d)))] := hD.sub [1, 2, 0] (by decide) rfl
                                refine lv_if_eq (tgt := 201) hx hb dX8_readsClause_192 (by decide) (fun c150 => ?_) (fun c150 => ?_)
                                · exact absurd c150 (by decide)
                                · refine lv_aload_n hx hb dX8_readsClause_195 rfl (lv_at hl 0 rfl) ?_
                                  refine ta_iconst C 3 dX8_readsClause_196 (by decide) ?_
                                  refine ta_callVi (As := [.int (nI 3)]) (rest0 := []) (Wr := []) C hP hD hS (c_X8_readsFigure l D k z kn no (tn_e tx L p0) (mo_s tx L p0) (tn_s tx L p0) va L tx d 3 hx0 (by omega) hpl (by decide)) 0 rfl rfl rfl [0, 1, 2] [] rfl rfl (by decide) (by decide) (by decide) tw_353 tw_350 tw_5 tw_351 tw_352 ⟨by decide, by decide, rfl⟩ ⟨Nat.le_of_ble_eq_true rfl, Nat.le_of_ble_eq_true rfl⟩ ⟨Nat.zero_le _, Nat.zero_le _⟩ hl.1 rfl (Nat.le_of_ble_eq_true rfl) dX8_readsClause_197 (fun r151 u152 H locs h153 hP hD hS => ?_)
                                  rcases h153 with h0 | h0
                                  · obtain ⟨ua_154, us_155, ur_156, uv_157, ud_158⟩ := u152
                                    try dsimp only at h0
                                    obtain ⟨hF159, rfl, rfl, rfl⟩ := h0
                                    have hP : va_P D vwCl [(z 0, .inr (8, [.ref (z 1), .int (nI L), .ref (z 2), .ref (z 3), .ref (z 4), .ref (z 5), .int (nI kn), .ref (z 6), .ref (z 7), .ref (z 8), .int (nI no), .int (nI ((cl_fig 3 tx L (tn_e tx L p0) d).2.1)), .int (nI us_155), .int (nI ur_156), .int (nI uv_157), .ref (z 9)])), (z 1, .inl (k.1 0, 160, .inl (ta_e tx))), (z 3, .inl (k.1 0, 23, .inl (ta_e ((cl_fig 3 tx L (tn_e tx L p0) d).2.2))))] H := hP
                                    have hD : va_D A [(z 0, .inr (8, [.ref (z 1), .int (nI L), .ref (z 2), .ref (z 3), .ref (z 4), .ref (z 5), .int (nI kn), .ref (z 6), .ref (z 7), .ref (z 8), .int (nI no), .int (nI ((cl_fig 3 tx L (tn_e tx L p0) d).2.1)), .int (nI us_155), .int (nI ur_156), .int (nI uv_157), .ref (z 9)])), (z 1, .inl (k.1 0, 160, .inl (ta_e tx))), (z 3, .inl (k.1 0, 23, .inl (ta_e ((cl_fig 3 tx L (tn_e tx L p0) d).2.2))))] := hD
                                    have eR : cl_read tx L p0 d = cl_fig 3 tx L (tn_e tx L p0) d := by unfold cl_read; rw [cl_n his21, cl_n his43, cl_n his56, cl_n his78, cl_n his100, cl_n his122, cl_n his144, cl_p his149]
                                    exact ret _ ((cl_fig 3 tx L (tn_e tx L p0) d).2.1, us_155, ur_156, uv_157, (cl_fig 3 tx L (tn_e tx L p0) d).2.2) dX8_readsClause_200 (by decide) (Or.inl ⟨by rw [eR]; exact hF159, rfl, by rw [eR], by rw [eR]⟩) hP hD hS
                                  · obtain ⟨ua_160, us_161, ur_162, uv_163, ud_164⟩ := u152
                                    try dsimp only at h0
                                    obtain ⟨hF165, rfl, rfl⟩ := h0
                                    have hP : va_P D vwCl [(z 0, .inr (8, [.ref (z 1), .int (nI L), .ref (z 2), .ref (z 3), .ref (z 4), .ref (z 5), .int (nI kn), .ref (z 6), .ref (z 7), .ref (z 8), .int (nI no), .int (nI ua_160), .int (nI us_161), .int (nI ((cl_fig 3 tx L (tn_e tx L p0) d).1)), .int (nI uv_163), .ref (z 9)])), (z 1, .inl (k.1 0, 160, .inl (ta_e tx))), (z 3, .inl (k.1 0, 23, .inl (ta_e ud_164)))] H := hP
                                    have hD : va_D A [(z 0, .inr (8, [.ref (z 1), .int (nI L), .ref (z 2), .ref (z 3), .ref (z 4), .ref (z 5), .int (nI kn), .ref (z 6), .ref (z 7), .ref (z 8), .int (nI no), .int (nI ua_160), .int (nI us_161), .int (nI ((cl_fig 3 tx L (tn_e tx L p0) d).1)), .int (nI uv_163), .ref (z 9)])), (z 1, .inl (k.1 0, 160, .inl (ta_e tx))), (z 3, .inl (k.1 0, 23, .inl (ta_e ud_164)))] := hD
                                    have eR : cl_read tx L p0 d = cl_fig 3 tx L (tn_e tx L p0) d := by unfold cl_read; rw [cl_n his21, cl_n his43, cl_n his56, cl_n his78, cl_n his100, cl_n his122, cl_n his144, cl_p his149]
                                    exact ret _ (ua_160, us_161, (cl_fig 3 tx L (tn_e tx L p0) d).1, uv_163, ud_164) dX8_readsClause_200 (by decide) (Or.inr ⟨by rw [eR]; exact hF165, rfl, by rw [eR]⟩) hP hD hS
                              · obtain ⟨his166, rfl⟩ := h0
                                have hP : va_P D vwCl [(z 3, .inl (k.1 0, 23, .inl (ta_e d))), (z 0, .inr (8, [.ref (z 1), .int (nI L), .ref (z 2), .ref (z 3), .ref (z 4), .ref (z 5), .int (nI kn), .ref (z 6), .ref (z 7), .ref (z 8), .int (nI no), .int (nI (tn_e tx L p0)), .int (nI (mo_s tx L p0)), .int (nI (tn_s tx L p0)), .int (nI va), .ref (z 9)])), (z 1, .inl (k.1 0, 160, .inl (ta_e tx)))] H := hP
                                have hD : va_D A [(z 3, .inl (k.1 0, 23, .inl (ta_e d))), (z 0, .inr (8, [.ref (z 1), .int (nI L), .ref (z 2), .ref (z 3), .ref (z 4), .ref (z 5), .int (nI kn), .ref (z 6), .ref (z 7), .ref (z 8), .int (nI no), .int (nI (tn_e tx L p0)), .int (nI (mo_s tx L p0)), .int (nI (tn_s tx L p0)), .int (nI va), .ref (z 9)])), (z 1, .inl (k.1 0, 160, .inl (ta_e tx)))] := hD
                                have hP : va_P D vwCl [(z 0, .inr (8, [.ref (z 1), .int (nI L), .ref (z 2), .ref (z 3), .ref (z 4), .ref (z 5), .int (nI kn), .ref (z 6), .ref (z 7), .ref (z 8), .int (nI no), .int (nI (tn_e tx L p0)), .int (nI (mo_s tx L p0)), .int (nI (tn_s tx L p0)), .int (nI va), .ref (z 9)])), (z 1, .inl (k.1 0, 160, .inl (ta_e tx))), (z 3, .inl (k.1 0, 23, .inl (ta_e d)))] H := hP.sub [1, 2, 0] rfl
                                have hD : va_D A [(z 0, .inr (8, [.ref (z 1), .int (nI L), .ref (z 2), .ref (z 3), .ref (z 4), .ref (z 5), .int (nI kn), .ref (z 6), .ref (z 7), .ref (z 8), .int (nI no), .int (nI (tn_e tx L p0)), .int (nI (mo_s tx L p0)), .int (nI (tn_s tx L p0)), .int (nI va), .ref (z 9)])), (z 1, .inl (k.1 0, 160, .inl (ta_e tx))), (z 3, .inl (k.1 0, 23, .inl (ta_e d)))] := hD.sub [1, 2, 0] (by decide) rfl
                                refine lv_if_eq (tgt := 201) hx hb dX8_readsClause_192 (by decide) (fun c167 => ?_) (fun c167 => ?_)
                                · refine lv_aload_n hx hb dX8_readsClause_201 rfl (lv_at hl 0 rfl) ?_
                                  refine ta_bipush C 107 dX8_readsClause_202 (by decide) ?_
                                  refine ta_bipush C 110 dX8_readsClause_204 (by decide) ?_
                                  refine ta_bipush C 101 dX8_readsClause_206 (by decide) ?_
                                  refine ta_bipush C 101 dX8_readsClause_208 (by decide) ?_
                                  refine ta_bipush C 108 dX8_readsClause_210 (by decide) ?_
                                  refine ta_iconst C 0 dX8_readsClause_212 (by decide) ?_
                                  refine ta_callVi (As := [.int (nI 107), .int (nI 110), .int (nI 101), .int (nI 101), .int (nI 108), .int (nI 0)]) (rest0 := []) (Wr := [(z 3, .inl (k.1 0, 23, .inl (ta_e d)))]) C hP hD hS (c_X8_isWord_8 l D k z kn no va L tx p0 hx0 hp0) 0 rfl rfl rfl [0, 1] [2] rfl rfl (by decide) (by decide) (by decide) tw_333 tw_330 tw_5 tw_331 tw_332 ⟨by decide, by decide, rfl⟩ ⟨Nat.le_of_ble_eq_true rfl, Nat.le_of_ble_eq_true rfl⟩ ⟨Nat.zero_le _, Nat.zero_le _⟩ hl.1 rfl (Nat.le_of_ble_eq_true rfl) dX8_readsClause_213 (fun r168 u169 H locs h170 hP hD hS => ?_)
                                  rcases h170 with h0 | h0
                                  · obtain ⟨his171, rfl⟩ := h0
                                    have hP : va_P D vwCl [(z 3, .inl (k.1 0, 23, .inl (ta_e d))), (z 0, .inr (8, [.ref (z 1), .int (nI L), .ref (z 2), .ref (z 3), .ref (z 4), .ref (z 5), .int (nI kn), .ref (z 6), .ref (z 7), .ref (z 8), .int (nI no), .int (nI (tn_e tx L p0)), .int (nI (mo_s tx L p0)), .int (nI (tn_s tx L p0)), .int (nI va), .ref (z 9)])), (z 1, .inl (k.1 0, 160, .inl (ta_e tx)))] H := hP
                                    have hD : va_D A [(z 3, .inl (k.1 0, 23, .inl (ta_e d))), (z 0, .inr (8, [.ref (z 1), .int (nI L), .ref (z 2), .ref (z 3), .ref (z 4), .ref (z 5), .int (nI kn), .ref (z 6), .ref (z 7), .ref (z 8), .int (nI no), .int (nI (tn_e tx L p0)), .int (nI (mo_s tx L p0)), .int (nI (tn_s tx L p0)), .int (nI va), .ref (z 9)])), (z 1, .inl (k.1 0, 160, .inl (ta_e tx)))] := hD
                                    have hP : va_P D vwCl [(z 0, .inr (8, [.ref (z 1), .int (nI L), .ref (z 2), .ref (z 3), .ref (z 4), .ref (z 5), .int (nI kn), .ref (z 6), .ref (z 7), .ref (z 8), .int (nI no), .int (nI (tn_e tx L p0)), .int (nI (mo_s tx L p0)), .int (nI (tn_s tx L p0)), .int (nI va), .ref (z 9)])), (z 1, .inl (k.1 0, 160, .inl (ta_e tx))), (z 3, .inl (k.1 0, 23, .inl (ta_e d)))] H := hP.sub [1, 2, 0] rfl
                                    have hD : va_D A [(z 0, .inr (8, [.ref (z 1), .int (nI L), .ref (z 2), .ref (z 3), .ref (z 4), .ref (z 5), .int (nI kn), .ref (z 6), .ref (z 7), .ref (z 8), .int (nI no), .int (nI (tn_e tx L p0)), .int (nI (mo_s tx L p0)), .int (nI (tn_s tx L p0)), .int (nI va), .ref (z 9)])), (z 1, .inl (k.1 0, 160, .inl (ta_e tx))), (z 3, .inl (k.1 0, 23, .inl (ta_e d)))] := hD.sub [1, 2, 0] (by decide) rfl
                                    refine lv_if_eq (tgt := 231) hx hb dX8_readsClause_216 (by decide) (fun c172 => ?_) (fun c172 => ?_)
                                    · exact absurd c172 (by decide)
                                    · refine lv_aload_n hx hb dX8_readsClause_219 rfl (lv_at hl 0 rfl) ?_
                                      refine ta_iconst C 4 dX8_readsClause_220 (by decide) ?_
                                      refine ta_callVi (As := [.int (nI 4)]) (rest0 := []) (Wr := []) C hP hD hS (c_X8_readsFigure l D k z kn no (tn_e tx L p0) (mo_s tx L p0) (tn_s tx L p0) va L tx d 4 hx0 (by omega) hpl (by decide)) 0 rfl rfl rfl [0, 1, 2] [] rfl rfl (by decide) (by decide) (by decide) tw_353 tw_350 tw_5 tw_351 tw_352 ⟨by decide, by decide, rfl⟩ ⟨Nat.le_of_ble_eq_true rfl, Nat.le_of_ble_eq_true rfl⟩ ⟨Nat.zero_le _, Nat.zero_le _⟩ hl.1 rfl (Nat.le_of_ble_eq_true rfl) dX8_readsClause_221 (fun r173 u174 H locs h175 hP hD hS => ?_)
                                      rcases h175 with h0 | h0
                                      · obtain ⟨ua_176, us_177, ur_178, uv_179, ud_180⟩ := u174
                                        try dsimp only at h0
                                        obtain ⟨hF181, rfl, rfl, rfl⟩ := h0
                                        have hP : va_P D vwCl [(z 0, .inr (8, [.ref (z 1), .int (nI L), .ref (z 2), .ref (z 3), .ref (z 4), .ref (z 5), .int (nI kn), .ref (z 6), .ref (z 7), .ref (z 8), .int (nI no), .int (nI ((cl_fig 4 tx L (tn_e tx L p0) d).2.1)), .int (nI us_177), .int (nI ur_178), .int (nI uv_179), .ref (z 9)])), (z 1, .inl (k.1 0, 160, .inl (ta_e tx))), (z 3, .inl (k.1 0, 23, .inl (ta_e ((cl_fig 4 tx L (tn_e tx L p0) d).2.2))))] H := hP
                                        have hD : va_D A [(z 0, .inr (8, [.ref (z 1), .int (nI L), .ref (z 2), .ref (z 3), .ref (z 4), .ref (z 5), .int (nI kn), .ref (z 6), .ref (z 7), .ref (z 8), .int (nI no), .int (nI ((cl_fig 4 tx L (tn_e tx L p0) d).2.1)), .int (nI us_177), .int (nI ur_178), .int (nI uv_179), .ref (z 9)])), (z 1, .inl (k.1 0, 160, .inl (ta_e tx))), (z 3, .inl (k.1 0, 23, .inl (ta_e ((cl_fig 4 tx L (tn_e tx L p0) d).2.2))))] := hD
                                        refine lv_if_eq (tgt := 231) hx hb dX8_readsClause_224 (by decide) (fun c182 => ?_) (fun c182 => ?_)
                                        · exact absurd c182 (by decide)
                                        · refine ta_iconst C 1 dX8_readsClause_227 (by decide) ?_
                                          refine lv_goto (tgt := 232) hx hb dX8_readsClause_228 (by decide) ?_
                                          have eR : cl_read tx L p0 d = cl_fig 4 tx L (tn_e tx L p0) d := by unfold cl_read; rw [cl_n his21, cl_n his43, cl_n his56, cl_n his78, cl_n his100, cl_n his122, cl_n his144, cl_n his166, cl_p his171]
                                          exact ret _ ((cl_fig 4 tx L (tn_e tx L p0) d).2.1, us_177, ur_178, uv_179, (cl_fig 4 tx L (tn_e tx L p0) d).2.2) dX8_readsClause_232 (by decide) (Or.inl ⟨by rw [eR]; exact hF181, rfl, by rw [eR], by rw [eR]⟩) hP hD hS
                                      · obtain ⟨ua_183, us_184, ur_185, uv_186, ud_187⟩ := u174
                                        try dsimp only at h0
                                        obtain ⟨hF188, rfl, rfl⟩ := h0
                                        have hP : va_P D vwCl [(z 0, .inr (8, [.ref (z 1), .int (nI L), .ref (z 2), .ref (z 3), .ref (z 4), .ref (z 5), .int (nI kn), .ref (z 6), .ref (z 7), .ref (z 8), .int (nI no), .int (nI ua_183), .int (nI us_184), .int (nI ((cl_fig 4 tx L (tn_e tx L p0) d).1)), .int (nI uv_186), .ref (z 9)])), (z 1, .inl (k.1 0, 160, .inl (ta_e tx))), (z 3, .inl (k.1 0, 23, .inl (ta_e ud_187)))] H := hP
                                        have hD : va_D A [(z 0, .inr (8, [.ref (z 1), .int (nI L), .ref (z 2), .ref (z 3), .ref (z 4), .ref (z 5), .int (nI kn), .ref (z 6), .ref (z 7), .ref (z 8), .int (nI no), .int (nI ua_183), .int (nI us_184), .int (nI ((cl_fig 4 tx L (tn_e tx L p0) d).1)), .int (nI uv_186), .ref (z 9)])), (z 1, .inl (k.1 0, 160, .inl (ta_e tx))), (z 3, .inl (k.1 0, 23, .inl (ta_e ud_187)))] := hD
                                        refine lv_if_eq (tgt := 231) hx hb dX8_readsClause_224 (by decide) (fun c189 => ?_) (fun c189 => ?_)
                                        · refine ta_iconst C 0 dX8_readsClause_231 (by decide) ?_
                                          have eR : cl_read tx L p0 d = cl_fig 4 tx L (tn_e tx L p0) d := by unfold cl_read; rw [cl_n his21, cl_n his43, cl_n his56, cl_n his78, cl_n his100, cl_n his122, cl_n his144, cl_n his166, cl_p his171]
                                          exact ret _ (ua_183, us_184, (cl_fig 4 tx L (tn_e tx L p0) d).1, uv_186, ud_187) dX8_readsClause_232 (by decide) (Or.inr ⟨by rw [eR]; exact hF188, rfl, by rw [eR]⟩) hP hD hS
                                        · exact absurd c189 (by decide)
                                  · obtain ⟨his190, rfl⟩ := h0
                                    have hP : va_P D vwCl [(z 3, .inl (k.1 0, 23, .inl (ta_e d))), (z 0, .inr (8, [.ref (z 1), .int (nI L), .ref (z 2), .ref (z 3), .ref (z 4), .ref (z 5), .int (nI kn), .ref (z 6), .ref (z 7), .ref (z 8), .int (nI no), .int (nI (tn_e tx L p0)), .int (nI (mo_s tx L p0)), .int (nI (tn_s tx L p0)), .int (nI va), .ref (z 9)])), (z 1, .inl (k.1 0, 160, .inl (ta_e tx)))] H := hP
                                    have hD : va_D A [(z 3, .inl (k.1 0, 23, .inl (ta_e d))), (z 0, .inr (8, [.ref (z 1), .int (nI L), .ref (z 2), .ref (z 3), .ref (z 4), .ref (z 5), .int (nI kn), .ref (z 6), .ref (z 7), .ref (z 8), .int (nI no), .int (nI (tn_e tx L p0)), .int (nI (mo_s tx L p0)), .int (nI (tn_s tx L p0)), .int (nI va), .ref (z 9)])), (z 1, .inl (k.1 0, 160, .inl (ta_e tx)))] := hD
                                    have hP : va_P D vwCl [(z 0, .inr (8, [.ref (z 1), .int (nI L), .ref (z 2), .ref (z 3), .ref (z 4), .ref (z 5), .int (nI kn), .ref (z 6), .ref (z 7), .ref (z 8), .int (nI no), .int (nI (tn_e tx L p0)), .int (nI (mo_s tx L p0)), .int (nI (tn_s tx L p0)), .int (nI va), .ref (z 9)])), (z 1, .inl (k.1 0, 160, .inl (ta_e tx))), (z 3, .inl (k.1 0, 23, .inl (ta_e d)))] H := hP.sub [1, 2, 0] rfl
                                    have hD : va_D A [(z 0, .inr (8, [.ref (z 1), .int (nI L), .ref (z 2), .ref (z 3), .ref (z 4), .ref (z 5), .int (nI kn), .ref (z 6), .ref (z 7), .ref (z 8), .int (nI no), .int (nI (tn_e tx L p0)), .int (nI (mo_s tx L p0)), .int (nI (tn_s tx L p0)), .int (nI va), .ref (z 9)])), (z 1, .inl (k.1 0, 160, .inl (ta_e tx))), (z 3, .inl (k.1 0, 23, .inl (ta_e d)))] := hD.sub [1, 2, 0] (by decide) rfl
                                    refine lv_if_eq (tgt := 231) hx hb dX8_readsClause_216 (by decide) (fun c191 => ?_) (fun c191 => ?_)
                                    · refine ta_iconst C 0 dX8_readsClause_231 (by decide) ?_
                                      have eF : cl_read tx L p0 d = (tn_s tx L p0, 0, d) := by unfold cl_read; rw [cl_n his21, cl_n his43, cl_n his56, cl_n his78, cl_n his100, cl_n his122, cl_n his144, cl_n his166, cl_n his190]
                                      exact ret _ (tn_e tx L p0, mo_s tx L p0, tn_s tx L p0, va, d) dX8_readsClause_232 (by decide) (Or.inr ⟨by rw [eF]; exact Nat.ne_of_lt (show tn_s tx L p0 < 4294967295 by omega), rfl, by rw [eF]⟩) hP hD hS
                                    · exact absurd c191 (by decide)
                                · exact absurd c167 (by decide)
                            · exact absurd c145 (by decide)
                        · exact absurd c123 (by decide)
                    · exact absurd c101 (by decide)
                · exact absurd c79 (by decide)
            · exact absurd c57 (by decide)
        · exact absurd c44 (by decide)
    · exact absurd c22 (by decide)

set_option maxHeartbeats 4000000 in
set_option maxRecDepth 100000 in
theorem c_X8_reads (l : Launch) (D : va_G) (k : ta_C) (z : Nat → Nat) (kn : Nat) (no : Nat) (at_ : Nat) (so : Nat) (sr : Nat) (va : Nat) (L : Nat) (tx : Nat → Nat) (t : Nat → Nat) (d : Nat → Nat) (hx0 : tx_ok tx L) (hpl : pl_ok t) : ta_Mi (S := Nat × Nat × Nat × Nat × (Nat → Nat)) l D k yX8_reads cX8_reads 3 .int 6 190 [.ref (z 0)] [(z 0, .inr (8, [.ref (z 1), .int (nI L), .ref (z 2), .ref (z 3), .ref (z 4), .ref (z 5), .int (nI kn), .ref (z 6), .ref (z 7), .ref (z 8), .int (nI no), .int (nI at_), .int (nI so), .int (nI sr), .int (nI va), .ref (z 9)])), (z 1, .inl (k.1 0, 160, .inl (ta_e tx))), (z 2, .inl (k.1 0, 23, .inl (ta_e t))), (z 3, .inl (k.1 0, 23, .inl (ta_e d)))] (fun r u => ((rd_go tx L 14 0 t).1 = 4294967295 ∧ r = nI (rd_go tx L 14 0 t).2.1 ∧ u.2.2.2.2 = (rd_go tx L 14 0 t).2.2) ∨ ((rd_go tx L 14 0 t).1 ≠ 4294967295 ∧ r = nI 4294967295 ∧ u.2.2.1 = (rd_go tx L 14 0 t).1)) (fun u => [(z 0, .inr (8, [.ref (z 1), .int (nI L), .ref (z 2), .ref (z 3), .ref (z 4), .ref (z 5), .int (nI kn), .ref (z 6), .ref (z 7), .ref (z 8), .int (nI no), .int (nI u.1), .int (nI u.2.1), .int (nI u.2.2.1), .int (nI u.2.2.2.1), .ref (z 9)])), (z 1, .inl (k.1 0, 160, .inl (ta_e tx))), (z 2, .inl (k.1 0, 23, .inl (ta_e t))), (z 3, .inl (k.1 0, 23, .inl (ta_e u.2.2.2.2)))]) := by
  refine ta_enter_i (by decide) (Nat.le_of_ble_eq_true rfl) ?_
  intro p e s m below meth c A ls Q C ret hP hD hS hl
  have C : ta_At p l D k s m ([.ref (z 0)] : List Value).toArray c RX8 cX8_reads 3 A := C
  have hx := C.1.1
  have hb := C.1.2.1
  have hl : lv_has ls 3 [(0, .ref (z 0))] := hl
  obtain ⟨H, hH⟩ : ∃ H, H = s.heap := ⟨_, rfl⟩
  obtain ⟨locs, hlocs⟩ : ∃ q : List Loc, q = [] := ⟨_, rfl⟩
  have hP : va_P D vwCl [(z 0, .inr (8, [.ref (z 1), .int (nI L), .ref (z 2), .ref (z 3), .ref (z 4), .ref (z 5), .int (nI kn), .ref (z 6), .ref (z 7), .ref (z 8), .int (nI no), .int (nI at_), .int (nI so), .int (nI sr), .int (nI va), .ref (z 9)])), (z 1, .inl (k.1 0, 160, .inl (ta_e tx))), (z 2, .inl (k.1 0, 23, .inl (ta_e t))), (z 3, .inl (k.1 0, 23, .inl (ta_e d)))] H := by rw [hH]; exact hP
  have hS : va_S A s.heap H locs := by rw [hH, hlocs]; exact hS
  rw [← hlocs]
  suffices hgoal : W p l e ({ frames := 6, cells := 0, slots := 0, locals := 190 }) s m ([.ref (z 0)] : List Value).toArray below meth c H locs 0 0 Q (F0 m 0 ls []) by rw [hH] at hgoal; exact hgoal
  clear hH hlocs
  obtain ⟨hL, hc⟩ := id hx0
  refine ta_iconst C 0 dX8_reads_0 (by decide) ?_
  refine lv_istore_n (lv' := [(1, .int (nI 0)), (0, .ref (z 0))]) hx hb dX8_reads_1 rfl hl (by decide) rfl (fun ls hl => ?_)
  have loop_2 : ∀ (N_2 : Nat) (i : Nat) (f2 : Nat → Nat), (i ≤ 23) → (∀ j, j < i → f2 j = t j) → 23 - i < N_2 → ∀ (H : Heap) (locs : List Loc) (ls : Array Slot), va_P D vwCl [(z 0, .inr (8, [.ref (z 1), .int (nI L), .ref (z 2), .ref (z 3), .ref (z 4), .ref (z 5), .int (nI kn), .ref (z 6), .ref (z 7), .ref (z 8), .int (nI no), .int (nI at_), .int (nI so), .int (nI sr), .int (nI va), .ref (z 9)])), (z 1, .inl (k.1 0, 160, .inl (ta_e tx))), (z 2, .inl (k.1 0, 23, .inl (ta_e t))), (z 3, .inl (k.1 0, 23, .inl (ta_e f2)))] H → va_D A [(z 0, .inr (8, [.ref (z 1), .int (nI L), .ref (z 2), .ref (z 3), .ref (z 4), .ref (z 5), .int (nI kn), .ref (z 6), .ref (z 7), .ref (z 8), .int (nI no), .int (nI at_), .int (nI so), .int (nI sr), .int (nI va), .ref (z 9)])), (z 1, .inl (k.1 0, 160, .inl (ta_e tx))), (z 2, .inl (k.1 0, 23, .inl (ta_e t))), (z 3, .inl (k.1 0, 23, .inl (ta_e f2)))] → va_S A s.heap H locs → lv_has ls 3 [(1, .int (nI i)), (0, .ref (z 0))] → W p l e ({ frames := 6, cells := 0, slots := 0, locals := 190 }) s m ([.ref (z 0)] : List Value).toArray below meth c H locs 0 0 Q (F0 m 2 ls []) := by
    clear hP hD hS hl
    intro N_2
    induction N_2 with
    | zero =>
      intro i f2 h1 h2 hf_2
      exact absurd hf_2 (Nat.not_lt_zero _)
    | succ N_2 ih_2 =>
      intro i f2 h1 h2 hf_2 H locs ls hP hD hS hl
      refine lv_iload_n hx hb dX8_reads_2 rfl (lv_at hl 0 rfl) ?_
      refine ta_bipush C 23 dX8_reads_3 (by decide) ?_
      refine ta_cge C (a := i) (b := 23) (tgt := 26) (by omega) (by omega) dX8_reads_5 (by decide) (fun c1 => ?_) (fun c1 => ?_)
      · have hP : va_P D vwCl [(z 0, .inr (8, [.ref (z 1), .int (nI L), .ref (z 2), .ref (z 3), .ref (z 4), .ref (z 5), .int (nI kn), .ref (z 6), .ref (z 7), .ref (z 8), .int (nI no), .int (nI at_), .int (nI so), .int (nI sr), .int (nI va), .ref (z 9)])), (z 1, .inl (k.1 0, 160, .inl (ta_e tx))), (z 2, .inl (k.1 0, 23, .inl (ta_e t))), (z 3, .inl (k.1 0, 23, .inl (ta_e t)))] H := ta_Pc (hP 0 _ rfl) (ta_Pc (hP 1 _ rfl) (ta_Pc (hP 2 _ rfl) (ta_Pc (ta_ae (fun j hj => h2 j (by omega)) (hP 3 _ rfl)) ta_Pn)))
        have hD : va_D A [(z 0, .inr (8, [.ref (z 1), .int (nI L), .ref (z 2), .ref (z 3), .ref (z 4), .ref (z 5), .int (nI kn), .ref (z 6), .ref (z 7), .ref (z 8), .int (nI no), .int (nI at_), .int (nI so), .int (nI sr), .int (nI va), .ref (z 9)])), (z 1, .inl (k.1 0, 160, .inl (ta_e tx))), (z 2, .inl (k.1 0, 23, .inl (ta_e t))), (z 3, .inl (k.1 0, 23, .inl (ta_e t)))] := ta_De hD rfl
        refine lv_aload_n hx hb dX8_reads_26 rfl (lv_at hl 1 rfl) ?_
        refine ta_iconst C 0 dX8_reads_27 (by decide) ?_
        refine ta_put C hP hD hS 0 inlX8 tyX8 tyX8_ok nmX8 rfl rfl 11 (by decide) tw_309 rfl rfl rfl (Nat.le_of_ble_eq_true rfl) dX8_reads_28 (fun H locs hP hD hS => ?_)
        have hP : va_P D vwCl [(z 0, .inr (8, [.ref (z 1), .int (nI L), .ref (z 2), .ref (z 3), .ref (z 4), .ref (z 5), .int (nI kn), .ref (z 6), .ref (z 7), .ref (z 8), .int (nI no), .int (nI 0), .int (nI so), .int (nI sr), .int (nI va), .ref (z 9)])), (z 1, .inl (k.1 0, 160, .inl (ta_e tx))), (z 2, .inl (k.1 0, 23, .inl (ta_e t))), (z 3, .inl (k.1 0, 23, .inl (ta_e t)))] H := hP
        have hD : va_D A [(z 0, .inr (8, [.ref (z 1), .int (nI L), .ref (z 2), .ref (z 3), .ref (z 4), .ref (z 5), .int (nI kn), .ref (z 6), .ref (z 7), .ref (z 8), .int (nI no), .int (nI 0), .int (nI so), .int (nI sr), .int (nI va), .ref (z 9)])), (z 1, .inl (k.1 0, 160, .inl (ta_e tx))), (z 2, .inl (k.1 0, 23, .inl (ta_e t))), (z 3, .inl (k.1 0, 23, .inl (ta_e t)))] := hD
        refine ta_iconst C 0 dX8_reads_31 (by decide) ?_
        refine lv_istore_n (lv' := [(1, .int (nI 0)), (0, .ref (z 0))]) hx hb dX8_reads_32 rfl hl (by decide) rfl (fun ls hl => ?_)
        refine ta_iconst C 1 dX8_reads_33 (by decide) ?_
        refine lv_istore_n (lv' := [(2, .int (nI 1)), (1, .int (nI 0)), (0, .ref (z 0))]) hx hb dX8_reads_34 rfl hl (by decide) rfl (fun ls hl => ?_)
        have loop_35 : ∀ (N_35 : Nat) (n : Nat) (p1 : Nat) (s2 : Nat) (r2 : Nat) (v2 : Nat) (d1 : Nat → Nat), (n ≤ 13) → (p1 ≤ L) → (pl_ok d1) → (rd_go tx L (14 - n) p1 d1 = rd_go tx L 14 0 t) → 14 - n < N_35 → ∀ (H : Heap) (locs : List Loc) (ls : Array Slot), va_P D vwCl [(z 0, .inr (8, [.ref (z 1), .int (nI L), .ref (z 2), .ref (z 3), .ref (z 4), .ref (z 5), .int (nI kn), .ref (z 6), .ref (z 7), .ref (z 8), .int (nI no), .int (nI p1), .int (nI s2), .int (nI r2), .int (nI v2), .ref (z 9)])), (z 1, .inl (k.1 0, 160, .inl (ta_e tx))), (z 2, .inl (k.1 0, 23, .inl (ta_e t))), (z 3, .inl (k.1 0, 23, .inl (ta_e d1)))] H → va_D A [(z 0, .inr (8, [.ref (z 1), .int (nI L), .ref (z 2), .ref (z 3), .ref (z 4), .ref (z 5), .int (nI kn), .ref (z 6), .ref (z 7), .ref (z 8), .int (nI no), .int (nI p1), .int (nI s2), .int (nI r2), .int (nI v2), .ref (z 9)])), (z 1, .inl (k.1 0, 160, .inl (ta_e tx))), (z 2, .inl (k.1 0, 23, .inl (ta_e t))), (z 3, .inl (k.1 0, 23, .inl (ta_e d1)))] → va_S A s.heap H locs → lv_has ls 3 [(2, .int (nI 1)), (1, .int (nI n)), (0, .ref (z 0))] → W p l e ({ frames := 6, cells := 0, slots := 0, locals := 190 }) s m ([.ref (z 0)] : List Value).toArray below meth c H locs 0 0 Q (F0 m 35 ls []) := by
          clear hP hD hS hl
          intro N_35
          induction N_35 with
          | zero =>
            intro n p1 s2 r2 v2 d1 h3 hp1 hd1 hF hf_35
            exact absurd hf_35 (Nat.not_lt_zero _)
          | succ N_35 ih_35 =>
            intro n p1 s2 r2 v2 d1 h3 hp1 hd1 hF hf_35 H locs ls hP hD hS hl
            refine lv_iload_n hx hb dX8_reads_35 rfl (lv_at hl 0 rfl) ?_
            refine lv_if_eq (tgt := 106) hx hb dX8_reads_36 (by decide) (fun c2 => ?_) (fun c2 => ?_)
            · exact absurd c2 (by decide)
            · refine lv_aload_n hx hb dX8_reads_39 rfl (lv_at hl 2 rfl) ?_
              refine ta_callVv (As := []) (rest0 := []) (Wr := [(z 2, .inl (k.1 0, 23, .inl (ta_e t))), (z 3, .inl (k.1 0, 23, .inl (ta_e d1)))]) C hP hD hS (c_X8_token l D k z kn no p1 s2 r2 v2 L tx hx0 hp1) 0 rfl rfl rfl [0, 1] [2, 3] rfl rfl (by decide) (by decide) (by decide) tw_314 tw_311 tw_5 tw_312 tw_313 ⟨by decide, by decide, rfl⟩ ⟨Nat.le_of_ble_eq_true rfl, Nat.le_of_ble_eq_true rfl⟩ ⟨Nat.zero_le _, Nat.zero_le _⟩ hl.1 rfl (Nat.le_of_ble_eq_true rfl) dX8_reads_40 (fun u4 H locs h5 hP hD hS => ?_)
              have hP : va_P D vwCl [(z 2, .inl (k.1 0, 23, .inl (ta_e t))), (z 3, .inl (k.1 0, 23, .inl (ta_e d1))), (z 0, .inr (8, [.ref (z 1), .int (nI L), .ref (z 2), .ref (z 3), .ref (z 4), .ref (z 5), .int (nI kn), .ref (z 6), .ref (z 7), .ref (z 8), .int (nI no), .int (nI (tn_e tx L p1)), .int (nI (mo_s tx L p1)), .int (nI (tn_s tx L p1)), .int (nI (mo_w tx L p1)), .ref (z 9)])), (z 1, .inl (k.1 0, 160, .inl (ta_e tx)))] H := hP
              have hD : va_D A [(z 2, .inl (k.1 0, 23, .inl (ta_e t))), (z 3, .inl (k.1 0, 23, .inl (ta_e d1))), (z 0, .inr (8, [.ref (z 1), .int (nI L), .ref (z 2), .ref (z 3), .ref (z 4), .ref (z 5), .int (nI kn), .ref (z 6), .ref (z 7), .ref (z 8), .int (nI no), .int (nI (tn_e tx L p1)), .int (nI (mo_s tx L p1)), .int (nI (tn_s tx L p1)), .int (nI (mo_w tx L p1)), .ref (z 9)])), (z 1, .inl (k.1 0, 160, .inl (ta_e tx)))] := hD
              refine lv_aload_n hx hb dX8_reads_43 rfl (lv_at hl 2 rfl) ?_
              refine ta_callVi (As := []) (rest0 := []) (Wr := [(z 2, .inl (k.1 0, 23, .inl (ta_e t)))]) C hP hD hS (c_X8_readsClause l D k z kn no (mo_w tx L p1) L tx d1 p1 hx0 hp1 hd1) 2 rfl rfl rfl [2, 3, 1] [0] rfl rfl (by decide) (by decide) (by decide) tw_329 tw_326 tw_5 tw_327 tw_328 ⟨by decide, by decide, rfl⟩ ⟨Nat.le_of_ble_eq_true rfl, Nat.le_of_ble_eq_true rfl⟩ ⟨Nat.zero_le _, Nat.zero_le _⟩ hl.1 rfl (Nat.le_of_ble_eq_true rfl) dX8_reads_44 (fun r6 u7 H locs h8 hP hD hS => ?_)
              rcases h8 with h0 | h0
              · obtain ⟨ua_9, us_10, ur_11, uv_12, ud_13⟩ := u7
                try dsimp only at h0
                obtain ⟨hF14, rfl, rfl, rfl⟩ := h0
                have hP : va_P D vwCl [(z 2, .inl (k.1 0, 23, .inl (ta_e t))), (z 0, .inr (8, [.ref (z 1), .int (nI L), .ref (z 2), .ref (z 3), .ref (z 4), .ref (z 5), .int (nI kn), .ref (z 6), .ref (z 7), .ref (z 8), .int (nI no), .int (nI ((cl_read tx L p1 d1).2.1)), .int (nI us_10), .int (nI ur_11), .int (nI uv_12), .ref (z 9)])), (z 1, .inl (k.1 0, 160, .inl (ta_e tx))), (z 3, .inl (k.1 0, 23, .inl (ta_e ((cl_read tx L p1 d1).2.2))))] H := hP
                have hD : va_D A [(z 2, .inl (k.1 0, 23, .inl (ta_e t))), (z 0, .inr (8, [.ref (z 1), .int (nI L), .ref (z 2), .ref (z 3), .ref (z 4), .ref (z 5), .int (nI kn), .ref (z 6), .ref (z 7), .ref (z 8), .int (nI no), .int (nI ((cl_read tx L p1 d1).2.1)), .int (nI us_10), .int (nI ur_11), .int (nI uv_12), .ref (z 9)])), (z 1, .inl (k.1 0, 160, .inl (ta_e tx))), (z 3, .inl (k.1 0, 23, .inl (ta_e ((cl_read tx L p1 d1).2.2))))] := hD
                have hP : va_P D vwCl [(z 0, .inr (8, [.ref (z 1), .int (nI L), .ref (z 2), .ref (z 3), .ref (z 4), .ref (z 5), .int (nI kn), .ref (z 6), .ref (z 7), .ref (z 8), .int (nI no), .int (nI ((cl_read tx L p1 d1).2.1)), .int (nI us_10), .int (nI ur_11), .int (nI uv_12), .ref (z 9)])), (z 1, .inl (k.1 0, 160, .inl (ta_e tx))), (z 2, .inl (k.1 0, 23, .inl (ta_e t))), (z 3, .inl (k.1 0, 23, .inl (ta_e ((cl_read tx L p1 d1).2.2))))] H := hP.sub [1, 2, 0, 3] rfl
                have hD : va_D A [(z 0, .inr (8, [.ref (z 1), .int (nI L), .ref (z 2), .ref (z 3), .ref (z 4), .ref (z 5), .int (nI kn), .ref (z 6), .ref (z 7), .ref (z 8), .int (nI no), .int (nI ((cl_read tx L p1 d1).2.1)), .int (nI us_10), .int (nI ur_11), .int (nI uv_12), .ref (z 9)])), (z 1, .inl (k.1 0, 160, .inl (ta_e tx))), (z 2, .inl (k.1 0, 23, .inl (ta_e t))), (z 3, .inl (k.1 0, 23, .inl (ta_e ((cl_read tx L p1 d1).2.2))))] := hD.sub [1, 2, 0, 3] (by decide) rfl
                obtain ⟨o1, o2⟩ := cl_read_ok hd1 hp1 hF14 hL
                obtain ⟨b5, b6, b7, b8⟩ := tn_b (tx := tx) o2
                have hms4 : mo_s tx L (cl_read tx L p1 d1).2.1 < 4 := by unfold mo_s; have h4 := tx_s4 tx L (tn_s tx L (cl_read tx L p1 d1).2.1); split <;> omega
                refine lv_if_ne (tgt := 52) hx hb dX8_reads_47 (by decide) (fun c15 => ?_) (fun c15 => ?_)
                · refine lv_iinc (v := nI (n + 1)) (lv' := [(1, .int (nI (n + 1))), (2, .int (nI 1)), (0, .ref (z 0))]) hx hb dX8_reads_52 hl (k := 1) rfl (ta_inc1 _) (by decide) rfl (fun ls hl => ?_)
                  refine lv_aload_n hx hb dX8_reads_55 rfl (lv_at hl 2 rfl) ?_
                  refine ta_callVv (As := []) (rest0 := []) (Wr := [(z 2, .inl (k.1 0, 23, .inl (ta_e t))), (z 3, .inl (k.1 0, 23, .inl (ta_e ((cl_read tx L p1 d1).2.2))))]) C hP hD hS (c_X8_token l D k z kn no ((cl_read tx L p1 d1).2.1) us_10 ur_11 uv_12 L tx hx0 o2) 0 rfl rfl rfl [0, 1] [2, 3] rfl rfl (by decide) (by decide) (by decide) tw_314 tw_311 tw_5 tw_312 tw_313 ⟨by decide, by decide, rfl⟩ ⟨Nat.le_of_ble_eq_true rfl, Nat.le_of_ble_eq_true rfl⟩ ⟨Nat.zero_le _, Nat.zero_le _⟩ hl.1 rfl (Nat.le_of_ble_eq_true rfl) dX8_reads_56 (fun u17 H locs h18 hP hD hS => ?_)
                  have hP : va_P D vwCl [(z 2, .inl (k.1 0, 23, .inl (ta_e t))), (z 3, .inl (k.1 0, 23, .inl (ta_e ((cl_read tx L p1 d1).2.2)))), (z 0, .inr (8, [.ref (z 1), .int (nI L), .ref (z 2), .ref (z 3), .ref (z 4), .ref (z 5), .int (nI kn), .ref (z 6), .ref (z 7), .ref (z 8), .int (nI no), .int (nI (tn_e tx L ((cl_read tx L p1 d1).2.1))), .int (nI (mo_s tx L ((cl_read tx L p1 d1).2.1))), .int (nI (tn_s tx L ((cl_read tx L p1 d1).2.1))), .int (nI (mo_w tx L ((cl_read tx L p1 d1).2.1))), .ref (z 9)])), (z 1, .inl (k.1 0, 160, .inl (ta_e tx)))] H := hP
                  have hD : va_D A [(z 2, .inl (k.1 0, 23, .inl (ta_e t))), (z 3, .inl (k.1 0, 23, .inl (ta_e ((cl_read tx L p1 d1).2.2)))), (z 0, .inr (8, [.ref (z 1), .int (nI L), .ref (z 2), .ref (z 3), .ref (z 4), .ref (z 5), .int (nI kn), .ref (z 6), .ref (z 7), .ref (z 8), .int (nI no), .int (nI (tn_e tx L ((cl_read tx L p1 d1).2.1))), .int (nI (mo_s tx L ((cl_read tx L p1 d1).2.1))), .int (nI (tn_s tx L ((cl_read tx L p1 d1).2.1))), .int (nI (mo_w tx L ((cl_read tx L p1 d1).2.1))), .ref (z 9)])), (z 1, .inl (k.1 0, 160, .inl (ta_e tx)))] := hD
                  have hP : va_P D vwCl [(z 0, .inr (8, [.ref (z 1), .int (nI L), .ref (z 2), .ref (z 3), .ref (z 4), .ref (z 5), .int (nI kn), .ref (z 6), .ref (z 7), .ref (z 8), .int (nI no), .int (nI (tn_e tx L ((cl_read tx L p1 d1).2.1))), .int (nI (mo_s tx L ((cl_read tx L p1 d1).2.1))), .int (nI (tn_s tx L ((cl_read tx L p1 d1).2.1))), .int (nI (mo_w tx L ((cl_read tx L p1 d1).2.1))), .ref (z 9)])), (z 1, .inl (k.1 0, 160, .inl (ta_e tx))), (z 2, .inl (k.1 0, 23, .inl (ta_e t))), (z 3, .inl (k.1 0, 23, .inl (ta_e ((cl_read tx L p1 d1).2.2))))] H := hP.sub [2, 3, 0, 1] rfl
                  have hD : va_D A [(z 0, .inr (8, [.ref (z 1), .int (nI L), .ref (z 2), .ref (z 3), .ref (z 4), .ref (z 5), .int (nI kn), .ref (z 6), .ref (z 7), .ref (z 8), .int (nI no), .int (nI (tn_e tx L ((cl_read tx L p1 d1).2.1))), .int (nI (mo_s tx L ((cl_read tx L p1 d1).2.1))), .int (nI (tn_s tx L ((cl_read tx L p1 d1).2.1))), .int (nI (mo_w tx L ((cl_read tx L p1 d1).2.1))), .ref (z 9)])), (z 1, .inl (k.1 0, 160, .inl (ta_e tx))), (z 2, .inl (k.1 0, 23, .inl (ta_e t))), (z 3, .inl (k.1 0, 23, .inl (ta_e ((cl_read tx L p1 d1).2.2))))] := hD.sub [2, 3, 0, 1] (by decide) rfl
                  refine lv_aload_n hx hb dX8_reads_59 rfl (lv_at hl 2 rfl) ?_
                  refine ta_get C hP 0 inlX8 rfl rfl 12 (by decide) tw_310 rfl dX8_reads_60 ?_
                  refine ta_ieq C (a := mo_s tx L ((cl_read tx L p1 d1).2.1)) (tgt := 70) (by omega) dX8_reads_63 (by decide) (fun c19 => ?_) (fun c19 => ?_)
                  · have hend : L ≤ tn_s tx L (cl_read tx L p1 d1).2.1 := mo_s0 c19
                    refine ta_iconst C 0 dX8_reads_70 (by decide) ?_
                    refine lv_istore_n (lv' := [(2, .int (nI 0)), (1, .int (nI (n + 1))), (0, .ref (z 0))]) hx hb dX8_reads_71 rfl hl (by decide) rfl (fun ls hl => ?_)
                    refine lv_iload_n hx hb dX8_reads_72 rfl (lv_at hl 0 rfl) ?_
                    refine lv_if_eq (tgt := 35) hx hb dX8_reads_73 (by decide) (fun c20 => ?_) (fun c20 => ?_)
                    · refine lv_iload_n hx hb dX8_reads_35 rfl (lv_at hl 0 rfl) ?_
                      refine lv_if_eq (tgt := 106) hx hb dX8_reads_36 (by decide) (fun c21 => ?_) (fun c21 => ?_)
                      · refine lv_iload_n hx hb dX8_reads_106 rfl (lv_at hl 1 rfl) ?_
                        have eA : rd_go tx L 14 0 t = (4294967295, 14 - (14 - (n + 1)), (cl_read tx L p1 d1).2.2) := by rw [← hF, show 14 - n = (14 - (n + 1)) + 1 by omega, rd_go_s, cl_n (fun h => h hF14), cl_p hend]
                        exact ret _ (tn_e tx L ((cl_read tx L p1 d1).2.1), mo_s tx L ((cl_read tx L p1 d1).2.1), tn_s tx L ((cl_read tx L p1 d1).2.1), mo_w tx L ((cl_read tx L p1 d1).2.1), (cl_read tx L p1 d1).2.2) dX8_reads_107 rfl (Or.inl ⟨by rw [eA], by rw [eA]; congr 1; show n + 1 = 14 - (14 - (n + 1)); omega, by rw [eA]⟩) hP hD hS
                      · exact absurd c21 (by decide)
                    · exact absurd c20 (by decide)
                  · have hend : tn_s tx L (cl_read tx L p1 d1).2.1 < L := mo_snz c19
                    have hcs := hc (tn_s tx L (cl_read tx L p1 d1).2.1) hend
                    refine ta_iconst C 1 dX8_reads_66 (by decide) ?_
                    refine lv_goto (tgt := 71) hx hb dX8_reads_67 (by decide) ?_
                    refine lv_istore_n (lv' := [(2, .int (nI 1)), (1, .int (nI (n + 1))), (0, .ref (z 0))]) hx hb dX8_reads_71 rfl hl (by decide) rfl (fun ls hl => ?_)
                    refine lv_iload_n hx hb dX8_reads_72 rfl (lv_at hl 0 rfl) ?_
                    refine lv_if_eq (tgt := 35) hx hb dX8_reads_73 (by decide) (fun c22 => ?_) (fun c22 => ?_)
                    · exact absurd c22 (by decide)
                    · refine lv_aload_n hx hb dX8_reads_76 rfl (lv_at hl 2 rfl) ?_
                      refine ta_get C hP 0 inlX8 rfl rfl 12 (by decide) tw_310 rfl dX8_reads_77 ?_
                      refine ta_iconst C 3 dX8_reads_80 (by decide) ?_
                      refine ta_cne C (a := mo_s tx L ((cl_read tx L p1 d1).2.1)) (b := 3) (tgt := 104) (by omega) (by omega) dX8_reads_81 (by decide) (fun c23 => ?_) (fun c23 => ?_)
                      · refine ta_iconst C 4294967295 dX8_reads_104 (by decide) ?_
                        have eA : rd_go tx L 14 0 t = (tn_s tx L (cl_read tx L p1 d1).2.1, 0, d1) := by rw [← hF, show 14 - n = (14 - (n + 1)) + 1 by omega, rd_go_s, cl_n (fun h => h hF14), cl_n (by omega), cl_p (Or.inr (mo_59 hend c23))]
                        exact ret _ (tn_e tx L ((cl_read tx L p1 d1).2.1), mo_s tx L ((cl_read tx L p1 d1).2.1), tn_s tx L ((cl_read tx L p1 d1).2.1), mo_w tx L ((cl_read tx L p1 d1).2.1), (cl_read tx L p1 d1).2.2) dX8_reads_105 rfl (Or.inr ⟨by rw [eA]; exact Nat.ne_of_lt (show tn_s tx L (cl_read tx L p1 d1).2.1 < 4294967295 by omega), rfl, by rw [eA]⟩) hP hD hS
                      · refine lv_aload_n hx hb dX8_reads_84 rfl (lv_at hl 2 rfl) ?_
                        refine ta_get C hP 0 inlX8 rfl rfl 0 (by decide) tw_125 rfl dX8_reads_85 ?_
                        refine lv_aload_n hx hb dX8_reads_88 rfl (lv_at hl 2 rfl) ?_
                        refine ta_get C hP 0 inlX8 rfl rfl 13 (by decide) tw_304 rfl dX8_reads_89 ?_
                        refine ta_iald C hP 1 rfl (i := tn_s tx L ((cl_read tx L p1 d1).2.1)) (by omega) dX8_reads_92 ?_
                        refine ta_bipush C 59 dX8_reads_93 (by decide) ?_
                        refine ta_cne C (a := tx (tn_s tx L ((cl_read tx L p1 d1).2.1))) (b := 59) (tgt := 104) (by omega) (by omega) dX8_reads_95 (by decide) (fun c24 => ?_) (fun c24 => ?_)
                        · refine ta_iconst C 4294967295 dX8_reads_104 (by decide) ?_
                          have eA : rd_go tx L 14 0 t = (tn_s tx L (cl_read tx L p1 d1).2.1, 0, d1) := by rw [← hF, show 14 - n = (14 - (n + 1)) + 1 by omega, rd_go_s, cl_n (fun h => h hF14), cl_n (by omega), cl_p (Or.inr c24)]
                          exact ret _ (tn_e tx L ((cl_read tx L p1 d1).2.1), mo_s tx L ((cl_read tx L p1 d1).2.1), tn_s tx L ((cl_read tx L p1 d1).2.1), mo_w tx L ((cl_read tx L p1 d1).2.1), (cl_read tx L p1 d1).2.2) dX8_reads_105 rfl (Or.inr ⟨by rw [eA]; exact Nat.ne_of_lt (show tn_s tx L (cl_read tx L p1 d1).2.1 < 4294967295 by omega), rfl, by rw [eA]⟩) hP hD hS
                        · refine lv_iload_n hx hb dX8_reads_98 rfl (lv_at hl 1 rfl) ?_
                          refine ta_bipush C 14 dX8_reads_99 (by decide) ?_
                          refine ta_cne C (a := n + 1) (b := 14) (tgt := 35) (by omega) (by omega) dX8_reads_101 (by decide) (fun c25 => ?_) (fun c25 => ?_)
                          · exact ih_35 (n + 1) (tn_e tx L (cl_read tx L p1 d1).2.1) (mo_s tx L (cl_read tx L p1 d1).2.1) (tn_s tx L (cl_read tx L p1 d1).2.1) (mo_w tx L (cl_read tx L p1 d1).2.1) ((cl_read tx L p1 d1).2.2) (by omega) b7 o1 (by rw [← hF, show 14 - n = (14 - (n + 1)) + 1 by omega, rd_go_s, cl_n (fun h => h hF14), cl_n (by omega), cl_n (by omega)]) (by omega) _ _ _ hP hD hS (lv_sub hl [0, 1, 2] rfl)
                          · refine ta_iconst C 4294967295 dX8_reads_104 (by decide) ?_
                            have eA : rd_go tx L 14 0 t = (tn_s tx L (cl_read tx L p1 d1).2.1, 0, d1) := by rw [← hF, show 14 - n = (14 - (n + 1)) + 1 by omega, rd_go_s, cl_n (fun h => h hF14), cl_n (by omega), cl_p (Or.inl (by omega))]
                            exact ret _ (tn_e tx L ((cl_read tx L p1 d1).2.1), mo_s tx L ((cl_read tx L p1 d1).2.1), tn_s tx L ((cl_read tx L p1 d1).2.1), mo_w tx L ((cl_read tx L p1 d1).2.1), (cl_read tx L p1 d1).2.2) dX8_reads_105 rfl (Or.inr ⟨by rw [eA]; exact Nat.ne_of_lt (show tn_s tx L (cl_read tx L p1 d1).2.1 < 4294967295 by omega), rfl, by rw [eA]⟩) hP hD hS
                · exact absurd c15 (by decide)
              · obtain ⟨ua_26, us_27, ur_28, uv_29, ud_30⟩ := u7
                try dsimp only at h0
                obtain ⟨hF31, rfl, rfl⟩ := h0
                have hP : va_P D vwCl [(z 2, .inl (k.1 0, 23, .inl (ta_e t))), (z 0, .inr (8, [.ref (z 1), .int (nI L), .ref (z 2), .ref (z 3), .ref (z 4), .ref (z 5), .int (nI kn), .ref (z 6), .ref (z 7), .ref (z 8), .int (nI no), .int (nI ua_26), .int (nI us_27), .int (nI ((cl_read tx L p1 d1).1)), .int (nI uv_29), .ref (z 9)])), (z 1, .inl (k.1 0, 160, .inl (ta_e tx))), (z 3, .inl (k.1 0, 23, .inl (ta_e ud_30)))] H := hP
                have hD : va_D A [(z 2, .inl (k.1 0, 23, .inl (ta_e t))), (z 0, .inr (8, [.ref (z 1), .int (nI L), .ref (z 2), .ref (z 3), .ref (z 4), .ref (z 5), .int (nI kn), .ref (z 6), .ref (z 7), .ref (z 8), .int (nI no), .int (nI ua_26), .int (nI us_27), .int (nI ((cl_read tx L p1 d1).1)), .int (nI uv_29), .ref (z 9)])), (z 1, .inl (k.1 0, 160, .inl (ta_e tx))), (z 3, .inl (k.1 0, 23, .inl (ta_e ud_30)))] := hD
                have hP : va_P D vwCl [(z 0, .inr (8, [.ref (z 1), .int (nI L), .ref (z 2), .ref (z 3), .ref (z 4), .ref (z 5), .int (nI kn), .ref (z 6), .ref (z 7), .ref (z 8), .int (nI no), .int (nI ua_26), .int (nI us_27), .int (nI ((cl_read tx L p1 d1).1)), .int (nI uv_29), .ref (z 9)])), (z 1, .inl (k.1 0, 160, .inl (ta_e tx))), (z 2, .inl (k.1 0, 23, .inl (ta_e t))), (z 3, .inl (k.1 0, 23, .inl (ta_e ud_30)))] H := hP.sub [1, 2, 0, 3] rfl
                have hD : va_D A [(z 0, .inr (8, [.ref (z 1), .int (nI L), .ref (z 2), .ref (z 3), .ref (z 4), .ref (z 5), .int (nI kn), .ref (z 6), .ref (z 7), .ref (z 8), .int (nI no), .int (nI ua_26), .int (nI us_27), .int (nI ((cl_read tx L p1 d1).1)), .int (nI uv_29), .ref (z 9)])), (z 1, .inl (k.1 0, 160, .inl (ta_e tx))), (z 2, .inl (k.1 0, 23, .inl (ta_e t))), (z 3, .inl (k.1 0, 23, .inl (ta_e ud_30)))] := hD.sub [1, 2, 0, 3] (by decide) rfl
                refine lv_if_ne (tgt := 52) hx hb dX8_reads_47 (by decide) (fun c32 => ?_) (fun c32 => ?_)
                · exact absurd c32 (by decide)
                · refine ta_iconst C 4294967295 dX8_reads_50 (by decide) ?_
                  have eA : rd_go tx L 14 0 t = ((cl_read tx L p1 d1).1, 0, d1) := by rw [← hF, show 14 - n = (14 - (n + 1)) + 1 by omega, rd_go_s, cl_p hF31]
                  exact ret _ (ua_26, us_27, (cl_read tx L p1 d1).1, uv_29, ud_30) dX8_reads_51 rfl (Or.inr ⟨by rw [eA]; exact hF31, rfl, by rw [eA]⟩) hP hD hS
        exact loop_35 ((14 - 0) + 1) 0 0 so sr va t (by omega) (Nat.zero_le _) hpl rfl (Nat.lt_succ_self _) _ _ _ hP hD hS (lv_sub hl [0, 1, 2] rfl)
      · refine lv_aload_n hx hb dX8_reads_8 rfl (lv_at hl 1 rfl) ?_
        refine ta_get C hP 0 inlX8 rfl rfl 3 (by decide) tw_127 rfl dX8_reads_9 ?_
        refine lv_iload_n hx hb dX8_reads_12 rfl (lv_at hl 0 rfl) ?_
        refine lv_aload_n hx hb dX8_reads_13 rfl (lv_at hl 1 rfl) ?_
        refine ta_get C hP 0 inlX8 rfl rfl 2 (by decide) tw_126 rfl dX8_reads_14 ?_
        refine lv_iload_n hx hb dX8_reads_17 rfl (lv_at hl 0 rfl) ?_
        refine ta_iald C hP 2 rfl (i := i) (by omega) dX8_reads_18 ?_
        refine ta_iast C hP hD hS 3 rfl (i := i) (v := t i) (by omega) dX8_reads_19 (fun H locs hP hD hS => ?_)
        have hP : va_P D vwCl [(z 0, .inr (8, [.ref (z 1), .int (nI L), .ref (z 2), .ref (z 3), .ref (z 4), .ref (z 5), .int (nI kn), .ref (z 6), .ref (z 7), .ref (z 8), .int (nI no), .int (nI at_), .int (nI so), .int (nI sr), .int (nI va), .ref (z 9)])), (z 1, .inl (k.1 0, 160, .inl (ta_e tx))), (z 2, .inl (k.1 0, 23, .inl (ta_e t))), (z 3, .inl (k.1 0, 23, .inl (ta_e (ta_u f2 i (t i)))))] H := hP
        have hD : va_D A [(z 0, .inr (8, [.ref (z 1), .int (nI L), .ref (z 2), .ref (z 3), .ref (z 4), .ref (z 5), .int (nI kn), .ref (z 6), .ref (z 7), .ref (z 8), .int (nI no), .int (nI at_), .int (nI so), .int (nI sr), .int (nI va), .ref (z 9)])), (z 1, .inl (k.1 0, 160, .inl (ta_e tx))), (z 2, .inl (k.1 0, 23, .inl (ta_e t))), (z 3, .inl (k.1 0, 23, .inl (ta_e (ta_u f2 i (t i)))))] := hD
        refine lv_iinc (v := nI (i + 1)) (lv' := [(1, .int (nI (i + 1))), (0, .ref (z 0))]) hx hb dX8_reads_20 hl (k := 0) rfl (ta_inc1 _) (by decide) rfl (fun ls hl => ?_)
        refine lv_goto (tgt := 2) hx hb dX8_reads_23 (by decide) ?_
        exact ih_2 (i + 1) (ta_u f2 i (t i)) (by omega) (ta_fill h2) (by omega) _ _ _ hP hD hS (lv_sub hl [0, 1] rfl)
  exact loop_2 ((23 - 0) + 1) 0 d (by omega) (fun j hj => absurd hj (Nat.not_lt_zero j)) (Nat.lt_succ_self _) _ _ _ hP hD hS (lv_sub hl [0, 1] rfl)
