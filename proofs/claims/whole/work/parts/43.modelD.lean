noncomputable def sp_parade (tx : Nat → Nat) (L : Nat) (t : Nat → Nat) : Nat := if (rd_go tx L 14 0 t).1 = 4294967295 then (rd_go tx L 14 0 t).2.1 else 4294967292
set_option maxHeartbeats 4000000 in
set_option maxRecDepth 100000 in
theorem c_X8_fault (l : Launch) (D : va_G) (k : ta_C) (z : Nat → Nat) (kn : Nat) (no : Nat) (at_ : Nat) (so : Nat) (sr : Nat) (va : Nat) (L : Nat) (tx : Nat → Nat) (t : Nat → Nat) (d : Nat → Nat) (hx0 : tx_ok tx L) (hpl : pl_ok t) : ta_Mi (S := Nat × Nat × Nat × Nat × (Nat → Nat)) l D k yX8_fault cX8_fault 1 .int 7 220 [.ref (z 0)] [(z 0, .inr (8, [.ref (z 1), .int (nI L), .ref (z 2), .ref (z 3), .ref (z 4), .ref (z 5), .int (nI kn), .ref (z 6), .ref (z 7), .ref (z 8), .int (nI no), .int (nI at_), .int (nI so), .int (nI sr), .int (nI va), .ref (z 9)])), (z 1, .inl (k.1 0, 160, .inl (ta_e tx))), (z 2, .inl (k.1 0, 23, .inl (ta_e t))), (z 3, .inl (k.1 0, 23, .inl (ta_e d)))] (fun r _ => r = nI (rd_go tx L 14 0 t).1) (fun u => [(z 0, .inr (8, [.ref (z 1), .int (nI L), .ref (z 2), .ref (z 3), .ref (z 4), .ref (z 5), .int (nI kn), .ref (z 6), .ref (z 7), .ref (z 8), .int (nI no), .int (nI u.1), .int (nI u.2.1), .int (nI u.2.2.1), .int (nI u.2.2.2.1), .ref (z 9)])), (z 1, .inl (k.1 0, 160, .inl (ta_e tx))), (z 2, .inl (k.1 0, 23, .inl (ta_e t))), (z 3, .inl (k.1 0, 23, .inl (ta_e u.2.2.2.2)))]) := by
  refine ta_enter_i (by decide) (Nat.le_of_ble_eq_true rfl) ?_
  intro p e s m below meth c A ls Q C ret hP hD hS hl
  have C : ta_At p l D k s m ([.ref (z 0)] : List Value).toArray c RX8 cX8_fault 1 A := C
  have hx := C.1.1
  have hb := C.1.2.1
  have hl : lv_has ls 1 [(0, .ref (z 0))] := hl
  obtain ⟨H, hH⟩ : ∃ H, H = s.heap := ⟨_, rfl⟩
  obtain ⟨locs, hlocs⟩ : ∃ q : List Loc, q = [] := ⟨_, rfl⟩
  have hP : va_P D vwCl [(z 0, .inr (8, [.ref (z 1), .int (nI L), .ref (z 2), .ref (z 3), .ref (z 4), .ref (z 5), .int (nI kn), .ref (z 6), .ref (z 7), .ref (z 8), .int (nI no), .int (nI at_), .int (nI so), .int (nI sr), .int (nI va), .ref (z 9)])), (z 1, .inl (k.1 0, 160, .inl (ta_e tx))), (z 2, .inl (k.1 0, 23, .inl (ta_e t))), (z 3, .inl (k.1 0, 23, .inl (ta_e d)))] H := by rw [hH]; exact hP
  have hS : va_S A s.heap H locs := by rw [hH, hlocs]; exact hS
  rw [← hlocs]
  suffices hgoal : W p l e ({ frames := 7, cells := 0, slots := 0, locals := 220 }) s m ([.ref (z 0)] : List Value).toArray below meth c H locs 0 0 Q (F0 m 0 ls []) by rw [hH] at hgoal; exact hgoal
  clear hH hlocs
  refine lv_aload_n hx hb dX8_fault_0 rfl (lv_at hl 0 rfl) ?_
  refine ta_callVi (As := []) (rest0 := []) (Wr := []) C hP hD hS (c_X8_reads l D k z kn no at_ so sr va L tx t d hx0 hpl) 0 rfl rfl rfl [0, 1, 2, 3] [] rfl rfl (by decide) (by decide) (by decide) tw_308 tw_305 tw_5 tw_306 tw_307 ⟨by decide, by decide, rfl⟩ ⟨Nat.le_of_ble_eq_true rfl, Nat.le_of_ble_eq_true rfl⟩ ⟨Nat.zero_le _, Nat.zero_le _⟩ hl.1 rfl (Nat.le_of_ble_eq_true rfl) dX8_fault_1 (fun r1 u2 H locs h3 hP hD hS => ?_)
  rcases h3 with h0 | h0
  · obtain ⟨ua_4, us_5, ur_6, uv_7, ud_8⟩ := u2
    try dsimp only at h0
    obtain ⟨hF9, rfl, rfl⟩ := h0
    have hP : va_P D vwCl [(z 0, .inr (8, [.ref (z 1), .int (nI L), .ref (z 2), .ref (z 3), .ref (z 4), .ref (z 5), .int (nI kn), .ref (z 6), .ref (z 7), .ref (z 8), .int (nI no), .int (nI ua_4), .int (nI us_5), .int (nI ur_6), .int (nI uv_7), .ref (z 9)])), (z 1, .inl (k.1 0, 160, .inl (ta_e tx))), (z 2, .inl (k.1 0, 23, .inl (ta_e t))), (z 3, .inl (k.1 0, 23, .inl (ta_e ((rd_go tx L 14 0 t).2.2))))] H := hP
    have hD : va_D A [(z 0, .inr (8, [.ref (z 1), .int (nI L), .ref (z 2), .ref (z 3), .ref (z 4), .ref (z 5), .int (nI kn), .ref (z 6), .ref (z 7), .ref (z 8), .int (nI no), .int (nI ua_4), .int (nI us_5), .int (nI ur_6), .int (nI uv_7), .ref (z 9)])), (z 1, .inl (k.1 0, 160, .inl (ta_e tx))), (z 2, .inl (k.1 0, 23, .inl (ta_e t))), (z 3, .inl (k.1 0, 23, .inl (ta_e ((rd_go tx L 14 0 t).2.2))))] := hD
    have hb14 := (rd_go_ok hx0.1 14 0 t hpl (Nat.zero_le _) hF9).2
    refine ta_iconst C 4294967295 dX8_fault_4 (by decide) ?_
    refine ta_cne C (a := (rd_go tx L 14 0 t).2.1) (b := 4294967295) (tgt := 15) (by omega) (by omega) dX8_fault_5 (by decide) (fun c10 => ?_) (fun c10 => ?_)
    · refine ta_iconst C 4294967295 dX8_fault_15 (by decide) ?_
      exact ret _ (ua_4, us_5, ur_6, uv_7, (rd_go tx L 14 0 t).2.2) dX8_fault_16 rfl (by rw [hF9]) hP hD hS
    · exfalso; omega
  · obtain ⟨ua_11, us_12, ur_13, uv_14, ud_15⟩ := u2
    try dsimp only at h0
    obtain ⟨hF16, rfl, rfl⟩ := h0
    have hP : va_P D vwCl [(z 0, .inr (8, [.ref (z 1), .int (nI L), .ref (z 2), .ref (z 3), .ref (z 4), .ref (z 5), .int (nI kn), .ref (z 6), .ref (z 7), .ref (z 8), .int (nI no), .int (nI ua_11), .int (nI us_12), .int (nI ((rd_go tx L 14 0 t).1)), .int (nI uv_14), .ref (z 9)])), (z 1, .inl (k.1 0, 160, .inl (ta_e tx))), (z 2, .inl (k.1 0, 23, .inl (ta_e t))), (z 3, .inl (k.1 0, 23, .inl (ta_e ud_15)))] H := hP
    have hD : va_D A [(z 0, .inr (8, [.ref (z 1), .int (nI L), .ref (z 2), .ref (z 3), .ref (z 4), .ref (z 5), .int (nI kn), .ref (z 6), .ref (z 7), .ref (z 8), .int (nI no), .int (nI ua_11), .int (nI us_12), .int (nI ((rd_go tx L 14 0 t).1)), .int (nI uv_14), .ref (z 9)])), (z 1, .inl (k.1 0, 160, .inl (ta_e tx))), (z 2, .inl (k.1 0, 23, .inl (ta_e t))), (z 3, .inl (k.1 0, 23, .inl (ta_e ud_15)))] := hD
    refine ta_iconst C 4294967295 dX8_fault_4 (by decide) ?_
    refine lv_icmp_ne (tgt := 15) hx hb dX8_fault_5 (by decide) (fun c17 => ?_) (fun c17 => ?_)
    · exact absurd c17 (by decide)
    · refine lv_aload_n hx hb dX8_fault_8 rfl (lv_at hl 0 rfl) ?_
      refine ta_get C hP 0 inlX8 rfl rfl 13 (by decide) tw_304 rfl dX8_fault_9 ?_
      refine lv_goto (tgt := 16) hx hb dX8_fault_12 (by decide) ?_
      exact ret _ (ua_11, us_12, (rd_go tx L 14 0 t).1, uv_14, ud_15) dX8_fault_16 rfl rfl hP hD hS

set_option maxHeartbeats 4000000 in
set_option maxRecDepth 100000 in
theorem c_X8_parade (l : Launch) (D : va_G) (k : ta_C) (z : Nat → Nat) (kn : Nat) (no : Nat) (at_ : Nat) (so : Nat) (sr : Nat) (va : Nat) (L : Nat) (tx : Nat → Nat) (t : Nat → Nat) (d : Nat → Nat) (g : Nat → Nat) (kp : Nat → Nat) (hx0 : tx_ok tx L) (hpl : pl_ok t) : ta_Mi (S := Nat × Nat × Nat × Nat × (Nat → Nat)) l D k yX8_parade cX8_parade 3 .int 7 220 [.ref (z 0)] [(z 0, .inr (8, [.ref (z 1), .int (nI L), .ref (z 2), .ref (z 3), .ref (z 4), .ref (z 5), .int (nI kn), .ref (z 6), .ref (z 7), .ref (z 8), .int (nI no), .int (nI at_), .int (nI so), .int (nI sr), .int (nI va), .ref (z 9)])), (z 1, .inl (k.1 0, 160, .inl (ta_e tx))), (z 2, .inl (k.1 0, 23, .inl (ta_e t))), (z 3, .inl (k.1 0, 23, .inl (ta_e d))), (z 4, .inl (k.1 0, 66, .inl (ta_e g))), (z 7, .inl (k.1 1, 2, .inl (ta_e kp)))] (fun r _ => r = nI (sp_parade tx L t)) (fun u => [(z 0, .inr (8, [.ref (z 1), .int (nI (cl_if ((rd_go tx L 14 0 t).1 = 4294967295) (0) (L))), .ref (z 2), .ref (z 3), .ref (z 4), .ref (z 5), .int (nI (cl_if ((rd_go tx L 14 0 t).1 = 4294967295) (0) (kn))), .ref (z 6), .ref (z 7), .ref (z 8), .int (nI (cl_if ((rd_go tx L 14 0 t).1 = 4294967295) (0) (no))), .int (nI u.1), .int (nI u.2.1), .int (nI u.2.2.1), .int (nI u.2.2.2.1), .ref (z 9)])), (z 1, .inl (k.1 0, 160, .inl (ta_e tx))), (z 2, .inl (k.1 0, 23, .inl (ta_e (cl_if ((rd_go tx L 14 0 t).1 = 4294967295) ((rd_go tx L 14 0 t).2.2) (t))))), (z 3, .inl (k.1 0, 23, .inl (ta_e u.2.2.2.2))), (z 4, .inl (k.1 0, 66, .inl (ta_e (cl_if ((rd_go tx L 14 0 t).1 = 4294967295) (tg_lay (rd_go tx L 14 0 t).2.2) (g))))), (z 7, .inl (k.1 1, 2, .inl (ta_e (cl_if ((rd_go tx L 14 0 t).1 = 4294967295) (fun _ => 0) (kp)))))]) := by
  refine ta_enter_i (by decide) (Nat.le_of_ble_eq_true rfl) ?_
  intro p e s m below meth c A ls Q C ret hP hD hS hl
  have C : ta_At p l D k s m ([.ref (z 0)] : List Value).toArray c RX8 cX8_parade 3 A := C
  have hx := C.1.1
  have hb := C.1.2.1
  have hl : lv_has ls 3 [(0, .ref (z 0))] := hl
  obtain ⟨H, hH⟩ : ∃ H, H = s.heap := ⟨_, rfl⟩
  obtain ⟨locs, hlocs⟩ : ∃ q : List Loc, q = [] := ⟨_, rfl⟩
  have hP : va_P D vwCl [(z 0, .inr (8, [.ref (z 1), .int (nI L), .ref (z 2), .ref (z 3), .ref (z 4), .ref (z 5), .int (nI kn), .ref (z 6), .ref (z 7), .ref (z 8), .int (nI no), .int (nI at_), .int (nI so), .int (nI sr), .int (nI va), .ref (z 9)])), (z 1, .inl (k.1 0, 160, .inl (ta_e tx))), (z 2, .inl (k.1 0, 23, .inl (ta_e t))), (z 3, .inl (k.1 0, 23, .inl (ta_e d))), (z 4, .inl (k.1 0, 66, .inl (ta_e g))), (z 7, .inl (k.1 1, 2, .inl (ta_e kp)))] H := by rw [hH]; exact hP
  have hS : va_S A s.heap H locs := by rw [hH, hlocs]; exact hS
  rw [← hlocs]
  suffices hgoal : W p l e ({ frames := 7, cells := 0, slots := 0, locals := 220 }) s m ([.ref (z 0)] : List Value).toArray below meth c H locs 0 0 Q (F0 m 0 ls []) by rw [hH] at hgoal; exact hgoal
  clear hH hlocs
  refine lv_aload_n hx hb dX8_parade_0 rfl (lv_at hl 0 rfl) ?_
  refine ta_callVi (As := []) (rest0 := []) (Wr := [(z 4, .inl (k.1 0, 66, .inl (ta_e g))), (z 7, .inl (k.1 1, 2, .inl (ta_e kp)))]) C hP hD hS (c_X8_reads l D k z kn no at_ so sr va L tx t d hx0 hpl) 0 rfl rfl rfl [0, 1, 2, 3] [4, 5] rfl rfl (by decide) (by decide) (by decide) tw_308 tw_305 tw_5 tw_306 tw_307 ⟨by decide, by decide, rfl⟩ ⟨Nat.le_of_ble_eq_true rfl, Nat.le_of_ble_eq_true rfl⟩ ⟨Nat.zero_le _, Nat.zero_le _⟩ hl.1 rfl (Nat.le_of_ble_eq_true rfl) dX8_parade_1 (fun r1 u2 H locs h3 hP hD hS => ?_)
  rcases h3 with h0 | h0
  · obtain ⟨ua_4, us_5, ur_6, uv_7, ud_8⟩ := u2
    try dsimp only at h0
    obtain ⟨hF9, rfl, rfl⟩ := h0
    have hP : va_P D vwCl [(z 4, .inl (k.1 0, 66, .inl (ta_e g))), (z 7, .inl (k.1 1, 2, .inl (ta_e kp))), (z 0, .inr (8, [.ref (z 1), .int (nI L), .ref (z 2), .ref (z 3), .ref (z 4), .ref (z 5), .int (nI kn), .ref (z 6), .ref (z 7), .ref (z 8), .int (nI no), .int (nI ua_4), .int (nI us_5), .int (nI ur_6), .int (nI uv_7), .ref (z 9)])), (z 1, .inl (k.1 0, 160, .inl (ta_e tx))), (z 2, .inl (k.1 0, 23, .inl (ta_e t))), (z 3, .inl (k.1 0, 23, .inl (ta_e ((rd_go tx L 14 0 t).2.2))))] H := hP
    have hD : va_D A [(z 4, .inl (k.1 0, 66, .inl (ta_e g))), (z 7, .inl (k.1 1, 2, .inl (ta_e kp))), (z 0, .inr (8, [.ref (z 1), .int (nI L), .ref (z 2), .ref (z 3), .ref (z 4), .ref (z 5), .int (nI kn), .ref (z 6), .ref (z 7), .ref (z 8), .int (nI no), .int (nI ua_4), .int (nI us_5), .int (nI ur_6), .int (nI uv_7), .ref (z 9)])), (z 1, .inl (k.1 0, 160, .inl (ta_e tx))), (z 2, .inl (k.1 0, 23, .inl (ta_e t))), (z 3, .inl (k.1 0, 23, .inl (ta_e ((rd_go tx L 14 0 t).2.2))))] := hD
    have hb14 := (rd_go_ok hx0.1 14 0 t hpl (Nat.zero_le _) hF9).2
    refine lv_istore_n (lv' := [(1, .int (nI ((rd_go tx L 14 0 t).2.1))), (0, .ref (z 0))]) hx hb dX8_parade_4 rfl hl (by decide) rfl (fun ls hl => ?_)
    refine lv_iload_n hx hb dX8_parade_5 rfl (lv_at hl 0 rfl) ?_
    refine ta_iconst C 4294967295 dX8_parade_6 (by decide) ?_
    refine ta_cne C (a := (rd_go tx L 14 0 t).2.1) (b := 4294967295) (tgt := 13) (by omega) (by omega) dX8_parade_7 (by decide) (fun c10 => ?_) (fun c10 => ?_)
    · refine ta_iconst C 0 dX8_parade_13 (by decide) ?_
      refine lv_istore_n (lv' := [(2, .int (nI 0)), (1, .int (nI ((rd_go tx L 14 0 t).2.1))), (0, .ref (z 0))]) hx hb dX8_parade_14 rfl hl (by decide) rfl (fun ls hl => ?_)
      have loop_15 : ∀ (N_15 : Nat) (i : Nat) (f2 : Nat → Nat), (i ≤ 23) → (∀ j, j < i → f2 j = (rd_go tx L 14 0 t).2.2 j) → 23 - i < N_15 → ∀ (H : Heap) (locs : List Loc) (ls : Array Slot), va_P D vwCl [(z 0, .inr (8, [.ref (z 1), .int (nI L), .ref (z 2), .ref (z 3), .ref (z 4), .ref (z 5), .int (nI kn), .ref (z 6), .ref (z 7), .ref (z 8), .int (nI no), .int (nI ua_4), .int (nI us_5), .int (nI ur_6), .int (nI uv_7), .ref (z 9)])), (z 1, .inl (k.1 0, 160, .inl (ta_e tx))), (z 2, .inl (k.1 0, 23, .inl (ta_e f2))), (z 3, .inl (k.1 0, 23, .inl (ta_e ((rd_go tx L 14 0 t).2.2)))), (z 4, .inl (k.1 0, 66, .inl (ta_e g))), (z 7, .inl (k.1 1, 2, .inl (ta_e kp)))] H → va_D A [(z 0, .inr (8, [.ref (z 1), .int (nI L), .ref (z 2), .ref (z 3), .ref (z 4), .ref (z 5), .int (nI kn), .ref (z 6), .ref (z 7), .ref (z 8), .int (nI no), .int (nI ua_4), .int (nI us_5), .int (nI ur_6), .int (nI uv_7), .ref (z 9)])), (z 1, .inl (k.1 0, 160, .inl (ta_e tx))), (z 2, .inl (k.1 0, 23, .inl (ta_e f2))), (z 3, .inl (k.1 0, 23, .inl (ta_e ((rd_go tx L 14 0 t).2.2)))), (z 4, .inl (k.1 0, 66, .inl (ta_e g))), (z 7, .inl (k.1 1, 2, .inl (ta_e kp)))] → va_S A s.heap H locs → lv_has ls 3 [(2, .int (nI i)), (1, .int (nI ((rd_go tx L 14 0 t).2.1))), (0, .ref (z 0))] → W p l e ({ frames := 7, cells := 0, slots := 0, locals := 220 }) s m ([.ref (z 0)] : List Value).toArray below meth c H locs 0 0 Q (F0 m 15 ls []) := by
        clear hP hD hS hl
        intro N_15
        induction N_15 with
        | zero =>
          intro i f2 h1 h2 hf_15
          exact absurd hf_15 (Nat.not_lt_zero _)
        | succ N_15 ih_15 =>
          intro i f2 h1 h2 hf_15 H locs ls hP hD hS hl
          refine lv_iload_n hx hb dX8_parade_15 rfl (lv_at hl 0 rfl) ?_
          refine ta_bipush C 23 dX8_parade_16 (by decide) ?_
          refine ta_cge C (a := i) (b := 23) (tgt := 39) (by omega) (by omega) dX8_parade_18 (by decide) (fun c11 => ?_) (fun c11 => ?_)
          · have ei : i = 23 := by omega
            have hP : va_P D vwCl [(z 0, .inr (8, [.ref (z 1), .int (nI L), .ref (z 2), .ref (z 3), .ref (z 4), .ref (z 5), .int (nI kn), .ref (z 6), .ref (z 7), .ref (z 8), .int (nI no), .int (nI ua_4), .int (nI us_5), .int (nI ur_6), .int (nI uv_7), .ref (z 9)])), (z 1, .inl (k.1 0, 160, .inl (ta_e tx))), (z 2, .inl (k.1 0, 23, .inl (ta_e ((rd_go tx L 14 0 t).2.2)))), (z 3, .inl (k.1 0, 23, .inl (ta_e ((rd_go tx L 14 0 t).2.2)))), (z 4, .inl (k.1 0, 66, .inl (ta_e g))), (z 7, .inl (k.1 1, 2, .inl (ta_e kp)))] H := ta_Pc (hP 0 _ rfl) (ta_Pc (hP 1 _ rfl) (ta_Pc (ta_ae (fun j hj => h2 j (by omega)) (hP 2 _ rfl)) (ta_Pc (hP 3 _ rfl) (ta_Pc (hP 4 _ rfl) (ta_Pc (hP 5 _ rfl) ta_Pn)))))
            have hD : va_D A [(z 0, .inr (8, [.ref (z 1), .int (nI L), .ref (z 2), .ref (z 3), .ref (z 4), .ref (z 5), .int (nI kn), .ref (z 6), .ref (z 7), .ref (z 8), .int (nI no), .int (nI ua_4), .int (nI us_5), .int (nI ur_6), .int (nI uv_7), .ref (z 9)])), (z 1, .inl (k.1 0, 160, .inl (ta_e tx))), (z 2, .inl (k.1 0, 23, .inl (ta_e ((rd_go tx L 14 0 t).2.2)))), (z 3, .inl (k.1 0, 23, .inl (ta_e ((rd_go tx L 14 0 t).2.2)))), (z 4, .inl (k.1 0, 66, .inl (ta_e g))), (z 7, .inl (k.1 1, 2, .inl (ta_e kp)))] := ta_De hD rfl
            refine lv_aload_n hx hb dX8_parade_39 rfl (lv_at hl 2 rfl) ?_
            refine ta_callVv (As := []) (rest0 := []) (Wr := [(z 1, .inl (k.1 0, 160, .inl (ta_e tx))), (z 3, .inl (k.1 0, 23, .inl (ta_e ((rd_go tx L 14 0 t).2.2))))]) C hP hD hS (c_X8_lays l D k z L kn no ua_4 us_5 ur_6 uv_7 ((rd_go tx L 14 0 t).2.2) g kp) 0 rfl rfl rfl [0, 2, 4, 5] [1, 3] rfl rfl (by decide) (by decide) (by decide) tw_141 tw_138 tw_5 tw_139 tw_140 ⟨by decide, by decide, rfl⟩ ⟨Nat.le_of_ble_eq_true rfl, Nat.le_of_ble_eq_true rfl⟩ ⟨Nat.zero_le _, Nat.zero_le _⟩ hl.1 rfl (Nat.le_of_ble_eq_true rfl) dX8_parade_40 (fun u13 H locs h14 hP hD hS => ?_)
            have hP : va_P D vwCl [(z 1, .inl (k.1 0, 160, .inl (ta_e tx))), (z 3, .inl (k.1 0, 23, .inl (ta_e ((rd_go tx L 14 0 t).2.2)))), (z 0, .inr (8, [.ref (z 1), .int (nI L), .ref (z 2), .ref (z 3), .ref (z 4), .ref (z 5), .int (nI 0), .ref (z 6), .ref (z 7), .ref (z 8), .int (nI 0), .int (nI ua_4), .int (nI us_5), .int (nI ur_6), .int (nI uv_7), .ref (z 9)])), (z 2, .inl (k.1 0, 23, .inl (ta_e ((rd_go tx L 14 0 t).2.2)))), (z 4, .inl (k.1 0, 66, .inl (ta_e (tg_lay ((rd_go tx L 14 0 t).2.2))))), (z 7, .inl (k.1 1, 2, .inl (ta_e (fun _ => 0))))] H := hP
            have hD : va_D A [(z 1, .inl (k.1 0, 160, .inl (ta_e tx))), (z 3, .inl (k.1 0, 23, .inl (ta_e ((rd_go tx L 14 0 t).2.2)))), (z 0, .inr (8, [.ref (z 1), .int (nI L), .ref (z 2), .ref (z 3), .ref (z 4), .ref (z 5), .int (nI 0), .ref (z 6), .ref (z 7), .ref (z 8), .int (nI 0), .int (nI ua_4), .int (nI us_5), .int (nI ur_6), .int (nI uv_7), .ref (z 9)])), (z 2, .inl (k.1 0, 23, .inl (ta_e ((rd_go tx L 14 0 t).2.2)))), (z 4, .inl (k.1 0, 66, .inl (ta_e (tg_lay ((rd_go tx L 14 0 t).2.2))))), (z 7, .inl (k.1 1, 2, .inl (ta_e (fun _ => 0))))] := hD
            refine lv_aload_n hx hb dX8_parade_43 rfl (lv_at hl 2 rfl) ?_
            refine ta_iconst C 0 dX8_parade_44 (by decide) ?_
            refine ta_put C hP hD hS 2 inlX8 tyX8 tyX8_ok nmX8 rfl rfl 1 (by decide) tw_156 rfl rfl rfl (Nat.le_of_ble_eq_true rfl) dX8_parade_45 (fun H locs hP hD hS => ?_)
            have hP : va_P D vwCl [(z 1, .inl (k.1 0, 160, .inl (ta_e tx))), (z 3, .inl (k.1 0, 23, .inl (ta_e ((rd_go tx L 14 0 t).2.2)))), (z 0, .inr (8, [.ref (z 1), .int (nI 0), .ref (z 2), .ref (z 3), .ref (z 4), .ref (z 5), .int (nI 0), .ref (z 6), .ref (z 7), .ref (z 8), .int (nI 0), .int (nI ua_4), .int (nI us_5), .int (nI ur_6), .int (nI uv_7), .ref (z 9)])), (z 2, .inl (k.1 0, 23, .inl (ta_e ((rd_go tx L 14 0 t).2.2)))), (z 4, .inl (k.1 0, 66, .inl (ta_e (tg_lay ((rd_go tx L 14 0 t).2.2))))), (z 7, .inl (k.1 1, 2, .inl (ta_e (fun _ => 0))))] H := hP
            have hD : va_D A [(z 1, .inl (k.1 0, 160, .inl (ta_e tx))), (z 3, .inl (k.1 0, 23, .inl (ta_e ((rd_go tx L 14 0 t).2.2)))), (z 0, .inr (8, [.ref (z 1), .int (nI 0), .ref (z 2), .ref (z 3), .ref (z 4), .ref (z 5), .int (nI 0), .ref (z 6), .ref (z 7), .ref (z 8), .int (nI 0), .int (nI ua_4), .int (nI us_5), .int (nI ur_6), .int (nI uv_7), .ref (z 9)])), (z 2, .inl (k.1 0, 23, .inl (ta_e ((rd_go tx L 14 0 t).2.2)))), (z 4, .inl (k.1 0, 66, .inl (ta_e (tg_lay ((rd_go tx L 14 0 t).2.2))))), (z 7, .inl (k.1 1, 2, .inl (ta_e (fun _ => 0))))] := hD
            refine lv_iload_n hx hb dX8_parade_48 rfl (lv_at hl 1 rfl) ?_
            have hP : va_P D vwCl [(z 0, .inr (8, [.ref (z 1), .int (nI 0), .ref (z 2), .ref (z 3), .ref (z 4), .ref (z 5), .int (nI 0), .ref (z 6), .ref (z 7), .ref (z 8), .int (nI 0), .int (nI ua_4), .int (nI us_5), .int (nI ur_6), .int (nI uv_7), .ref (z 9)])), (z 1, .inl (k.1 0, 160, .inl (ta_e tx))), (z 2, .inl (k.1 0, 23, .inl (ta_e ((rd_go tx L 14 0 t).2.2)))), (z 3, .inl (k.1 0, 23, .inl (ta_e ((rd_go tx L 14 0 t).2.2)))), (z 4, .inl (k.1 0, 66, .inl (ta_e (tg_lay ((rd_go tx L 14 0 t).2.2))))), (z 7, .inl (k.1 1, 2, .inl (ta_e (fun _ => 0))))] H := hP.sub [2, 0, 3, 1, 4, 5] rfl
            have hD : va_D A [(z 0, .inr (8, [.ref (z 1), .int (nI 0), .ref (z 2), .ref (z 3), .ref (z 4), .ref (z 5), .int (nI 0), .ref (z 6), .ref (z 7), .ref (z 8), .int (nI 0), .int (nI ua_4), .int (nI us_5), .int (nI ur_6), .int (nI uv_7), .ref (z 9)])), (z 1, .inl (k.1 0, 160, .inl (ta_e tx))), (z 2, .inl (k.1 0, 23, .inl (ta_e ((rd_go tx L 14 0 t).2.2)))), (z 3, .inl (k.1 0, 23, .inl (ta_e ((rd_go tx L 14 0 t).2.2)))), (z 4, .inl (k.1 0, 66, .inl (ta_e (tg_lay ((rd_go tx L 14 0 t).2.2))))), (z 7, .inl (k.1 1, 2, .inl (ta_e (fun _ => 0))))] := hD.sub [2, 0, 3, 1, 4, 5] (by decide) rfl
            simp only [cl_p hF9] at ret
            have e1 : sp_parade tx L t = (rd_go tx L 14 0 t).2.1 := if_pos hF9
            exact ret _ (ua_4, us_5, ur_6, uv_7, (rd_go tx L 14 0 t).2.2) dX8_parade_49 rfl (by rw [e1]) hP hD hS
          · refine lv_aload_n hx hb dX8_parade_21 rfl (lv_at hl 2 rfl) ?_
            refine ta_get C hP 0 inlX8 rfl rfl 2 (by decide) tw_126 rfl dX8_parade_22 ?_
            refine lv_iload_n hx hb dX8_parade_25 rfl (lv_at hl 0 rfl) ?_
            refine lv_aload_n hx hb dX8_parade_26 rfl (lv_at hl 2 rfl) ?_
            refine ta_get C hP 0 inlX8 rfl rfl 3 (by decide) tw_127 rfl dX8_parade_27 ?_
            refine lv_iload_n hx hb dX8_parade_30 rfl (lv_at hl 0 rfl) ?_
            refine ta_iald C hP 3 rfl (i := i) (by omega) dX8_parade_31 ?_
            refine ta_iast C hP hD hS 2 rfl (i := i) (v := ((rd_go tx L 14 0 t).2.2) i) (by omega) dX8_parade_32 (fun H locs hP hD hS => ?_)
            have hP : va_P D vwCl [(z 0, .inr (8, [.ref (z 1), .int (nI L), .ref (z 2), .ref (z 3), .ref (z 4), .ref (z 5), .int (nI kn), .ref (z 6), .ref (z 7), .ref (z 8), .int (nI no), .int (nI ua_4), .int (nI us_5), .int (nI ur_6), .int (nI uv_7), .ref (z 9)])), (z 1, .inl (k.1 0, 160, .inl (ta_e tx))), (z 2, .inl (k.1 0, 23, .inl (ta_e (ta_u f2 i (((rd_go tx L 14 0 t).2.2) i))))), (z 3, .inl (k.1 0, 23, .inl (ta_e ((rd_go tx L 14 0 t).2.2)))), (z 4, .inl (k.1 0, 66, .inl (ta_e g))), (z 7, .inl (k.1 1, 2, .inl (ta_e kp)))] H := hP
            have hD : va_D A [(z 0, .inr (8, [.ref (z 1), .int (nI L), .ref (z 2), .ref (z 3), .ref (z 4), .ref (z 5), .int (nI kn), .ref (z 6), .ref (z 7), .ref (z 8), .int (nI no), .int (nI ua_4), .int (nI us_5), .int (nI ur_6), .int (nI uv_7), .ref (z 9)])), (z 1, .inl (k.1 0, 160, .inl (ta_e tx))), (z 2, .inl (k.1 0, 23, .inl (ta_e (ta_u f2 i (((rd_go tx L 14 0 t).2.2) i))))), (z 3, .inl (k.1 0, 23, .inl (ta_e ((rd_go tx L 14 0 t).2.2)))), (z 4, .inl (k.1 0, 66, .inl (ta_e g))), (z 7, .inl (k.1 1, 2, .inl (ta_e kp)))] := hD
            refine lv_iinc (v := nI (i + 1)) (lv' := [(2, .int (nI (i + 1))), (1, .int (nI ((rd_go tx L 14 0 t).2.1))), (0, .ref (z 0))]) hx hb dX8_parade_33 hl (k := 0) rfl (ta_inc1 _) (by decide) rfl (fun ls hl => ?_)
            refine lv_goto (tgt := 15) hx hb dX8_parade_36 (by decide) ?_
            exact ih_15 (i + 1) (ta_u f2 i ((rd_go tx L 14 0 t).2.2 i)) (by omega) (ta_fill h2) (by omega) _ _ _ hP hD hS (lv_sub hl [0, 1, 2] rfl)
      exact loop_15 ((23 - 0) + 1) 0 t (by omega) (fun j hj => absurd hj (Nat.not_lt_zero j)) (Nat.lt_succ_self _) _ _ _ (hP.sub [2, 3, 4, 5, 0, 1] rfl) (hD.sub [2, 3, 4, 5, 0, 1] (by decide) rfl) hS (lv_sub hl [0, 1, 2] rfl)
    · exfalso; omega
  · obtain ⟨ua_15, us_16, ur_17, uv_18, ud_19⟩ := u2
    try dsimp only at h0
    obtain ⟨hF20, rfl, rfl⟩ := h0
    have hP : va_P D vwCl [(z 4, .inl (k.1 0, 66, .inl (ta_e g))), (z 7, .inl (k.1 1, 2, .inl (ta_e kp))), (z 0, .inr (8, [.ref (z 1), .int (nI L), .ref (z 2), .ref (z 3), .ref (z 4), .ref (z 5), .int (nI kn), .ref (z 6), .ref (z 7), .ref (z 8), .int (nI no), .int (nI ua_15), .int (nI us_16), .int (nI ((rd_go tx L 14 0 t).1)), .int (nI uv_18), .ref (z 9)])), (z 1, .inl (k.1 0, 160, .inl (ta_e tx))), (z 2, .inl (k.1 0, 23, .inl (ta_e t))), (z 3, .inl (k.1 0, 23, .inl (ta_e ud_19)))] H := hP
    have hD : va_D A [(z 4, .inl (k.1 0, 66, .inl (ta_e g))), (z 7, .inl (k.1 1, 2, .inl (ta_e kp))), (z 0, .inr (8, [.ref (z 1), .int (nI L), .ref (z 2), .ref (z 3), .ref (z 4), .ref (z 5), .int (nI kn), .ref (z 6), .ref (z 7), .ref (z 8), .int (nI no), .int (nI ua_15), .int (nI us_16), .int (nI ((rd_go tx L 14 0 t).1)), .int (nI uv_18), .ref (z 9)])), (z 1, .inl (k.1 0, 160, .inl (ta_e tx))), (z 2, .inl (k.1 0, 23, .inl (ta_e t))), (z 3, .inl (k.1 0, 23, .inl (ta_e ud_19)))] := hD
    refine lv_istore_n (lv' := [(1, .int (nI 4294967295)), (0, .ref (z 0))]) hx hb dX8_parade_4 rfl hl (by decide) rfl (fun ls hl => ?_)
    refine lv_iload_n hx hb dX8_parade_5 rfl (lv_at hl 0 rfl) ?_
    refine ta_iconst C 4294967295 dX8_parade_6 (by decide) ?_
    refine lv_icmp_ne (tgt := 13) hx hb dX8_parade_7 (by decide) (fun c21 => ?_) (fun c21 => ?_)
    · exact absurd c21 (by decide)
    · refine ta_bipush C 4294967292 dX8_parade_10 (by decide) ?_
      have hP : va_P D vwCl [(z 0, .inr (8, [.ref (z 1), .int (nI L), .ref (z 2), .ref (z 3), .ref (z 4), .ref (z 5), .int (nI kn), .ref (z 6), .ref (z 7), .ref (z 8), .int (nI no), .int (nI ua_15), .int (nI us_16), .int (nI ((rd_go tx L 14 0 t).1)), .int (nI uv_18), .ref (z 9)])), (z 1, .inl (k.1 0, 160, .inl (ta_e tx))), (z 2, .inl (k.1 0, 23, .inl (ta_e t))), (z 3, .inl (k.1 0, 23, .inl (ta_e ud_19))), (z 4, .inl (k.1 0, 66, .inl (ta_e g))), (z 7, .inl (k.1 1, 2, .inl (ta_e kp)))] H := hP.sub [2, 3, 4, 5, 0, 1] rfl
      have hD : va_D A [(z 0, .inr (8, [.ref (z 1), .int (nI L), .ref (z 2), .ref (z 3), .ref (z 4), .ref (z 5), .int (nI kn), .ref (z 6), .ref (z 7), .ref (z 8), .int (nI no), .int (nI ua_15), .int (nI us_16), .int (nI ((rd_go tx L 14 0 t).1)), .int (nI uv_18), .ref (z 9)])), (z 1, .inl (k.1 0, 160, .inl (ta_e tx))), (z 2, .inl (k.1 0, 23, .inl (ta_e t))), (z 3, .inl (k.1 0, 23, .inl (ta_e ud_19))), (z 4, .inl (k.1 0, 66, .inl (ta_e g))), (z 7, .inl (k.1 1, 2, .inl (ta_e kp)))] := hD.sub [2, 3, 4, 5, 0, 1] (by decide) rfl
      simp only [cl_n hF20] at ret
      have e1 : sp_parade tx L t = 4294967292 := if_neg hF20
      exact ret _ (ua_15, us_16, (rd_go tx L 14 0 t).1, uv_18, ud_19) dX8_parade_12 rfl (by rw [e1]) hP hD hS

set_option maxHeartbeats 4000000 in
set_option maxRecDepth 100000 in
theorem c_X8_plot (l : Launch) (D : va_G) (k : ta_C) (z : Nat → Nat) (ty : Nat) (kn : Nat) (no : Nat) (at_ : Nat) (so : Nat) (sr : Nat) (va : Nat) (t : Nat → Nat) (g : Nat → Nat) (hd : Nat → Nat) (a : Nat) (n : Nat) (w : Nat) (hok : tg_ok t g) (hh0 : g 0 < 1073741824) (hh1 : g 0 < 1000000) (wa : a < 4294967296) (wn : n < 4294967296) (ww : w < 4294967296) : ta_Mi (S := Nat → Nat) l D k yX8_plot cX8_plot 12 .int 3 100 [.ref (z 0), .int (nI a), .int (nI n), .int (nI w)] [(z 0, .inr (8, [.ref (z 1), .int (nI ty), .ref (z 2), .ref (z 3), .ref (z 4), .ref (z 5), .int (nI kn), .ref (z 6), .ref (z 7), .ref (z 8), .int (nI no), .int (nI at_), .int (nI so), .int (nI sr), .int (nI va), .ref (z 9)])), (z 2, .inl (k.1 0, 23, .inl (ta_e t))), (z 4, .inl (k.1 0, 66, .inl (ta_e g))), (z 9, .inl (k.1 0, 66, .inl (ta_e hd)))] (fun r _ => ∃ v, pl_R t g a n w v ∧ r = nI v) (fun u => [(z 0, .inr (8, [.ref (z 1), .int (nI ty), .ref (z 2), .ref (z 3), .ref (z 4), .ref (z 5), .int (nI kn), .ref (z 6), .ref (z 7), .ref (z 8), .int (nI no), .int (nI at_), .int (nI so), .int (nI sr), .int (nI va), .ref (z 9)])), (z 2, .inl (k.1 0, 23, .inl (ta_e t))), (z 4, .inl (k.1 0, 66, .inl (ta_e g))), (z 9, .inl (k.1 0, 66, .inl (ta_e u)))]) := by
  refine ta_enter_i (by decide) (Nat.le_of_ble_eq_true rfl) ?_
  intro p e s m below meth c A ls Q C ret hP hD hS hl
  have C : ta_At p l D k s m ([.ref (z 0), .int (nI a), .int (nI n), .int (nI w)] : List Value).toArray c RX8 cX8_plot 12 A := C
  have hx := C.1.1
  have hb := C.1.2.1
  have hl : lv_has ls 12 [(0, .ref (z 0)), (1, .int (nI a)), (2, .int (nI n)), (3, .int (nI w))] := hl
  obtain ⟨H, hH⟩ : ∃ H, H = s.heap := ⟨_, rfl⟩
  obtain ⟨locs, hlocs⟩ : ∃ q : List Loc, q = [] := ⟨_, rfl⟩
  have hP : va_P D vwCl [(z 0, .inr (8, [.ref (z 1), .int (nI ty), .ref (z 2), .ref (z 3), .ref (z 4), .ref (z 5), .int (nI kn), .ref (z 6), .ref (z 7), .ref (z 8), .int (nI no), .int (nI at_), .int (nI so), .int (nI sr), .int (nI va), .ref (z 9)])), (z 2, .inl (k.1 0, 23, .inl (ta_e t))), (z 4, .inl (k.1 0, 66, .inl (ta_e g))), (z 9, .inl (k.1 0, 66, .inl (ta_e hd)))] H := by rw [hH]; exact hP
  have hS : va_S A s.heap H locs := by rw [hH, hlocs]; exact hS
  rw [← hlocs]
  suffices hgoal : W p l e ({ frames := 3, cells := 0, slots := 0, locals := 100 }) s m ([.ref (z 0), .int (nI a), .int (nI n), .int (nI w)] : List Value).toArray below meth c H locs 0 0 Q (F0 m 0 ls []) by rw [hH] at hgoal; exact hgoal
  clear hH hlocs
  refine lv_iload_n hx hb dX8_plot_0 rfl (lv_at hl 1 rfl) ?_
  refine ta_iconst C 0 dX8_plot_1 (by decide) ?_
  refine ta_iconst C 1 dX8_plot_2 (by decide) ?_
  refine ta_callSi (As := [.int (nI a), .int (nI 0), .int (nI 1)]) (rest0 := []) (Wr := [(z 0, .inr (8, [.ref (z 1), .int (nI ty), .ref (z 2), .ref (z 3), .ref (z 4), .ref (z 5), .int (nI kn), .ref (z 6), .ref (z 7), .ref (z 8), .int (nI no), .int (nI at_), .int (nI so), .int (nI sr), .int (nI va), .ref (z 9)])), (z 2, .inl (k.1 0, 23, .inl (ta_e t))), (z 4, .inl (k.1 0, 66, .inl (ta_e g))), (z 9, .inl (k.1 0, 66, .inl (ta_e hd)))]) C hP hD hS (c_X8_in_w l D k a 0 1 (by omega) (by omega) (by omega)) [] [0, 1, 2, 3] rfl rfl (by decide) (by decide) (by decide) tw_159 tw_157 tw_5 tw_158 ⟨by decide, by decide, rfl⟩ ⟨Nat.le_of_ble_eq_true rfl, Nat.le_of_ble_eq_true rfl⟩ ⟨Nat.zero_le _, Nat.zero_le _⟩ hl.1 rfl (Nat.le_of_ble_eq_true rfl) dX8_plot_3 (fun r1 u2 H locs h3 hP hD hS => ?_)
  rcases h3 with h0 | h0
  · obtain ⟨hi4, rfl⟩ := h0
    have hP : va_P D vwCl [(z 0, .inr (8, [.ref (z 1), .int (nI ty), .ref (z 2), .ref (z 3), .ref (z 4), .ref (z 5), .int (nI kn), .ref (z 6), .ref (z 7), .ref (z 8), .int (nI no), .int (nI at_), .int (nI so), .int (nI sr), .int (nI va), .ref (z 9)])), (z 2, .inl (k.1 0, 23, .inl (ta_e t))), (z 4, .inl (k.1 0, 66, .inl (ta_e g))), (z 9, .inl (k.1 0, 66, .inl (ta_e hd)))] H := hP
    have hD : va_D A [(z 0, .inr (8, [.ref (z 1), .int (nI ty), .ref (z 2), .ref (z 3), .ref (z 4), .ref (z 5), .int (nI kn), .ref (z 6), .ref (z 7), .ref (z 8), .int (nI no), .int (nI at_), .int (nI so), .int (nI sr), .int (nI va), .ref (z 9)])), (z 2, .inl (k.1 0, 23, .inl (ta_e t))), (z 4, .inl (k.1 0, 66, .inl (ta_e g))), (z 9, .inl (k.1 0, 66, .inl (ta_e hd)))] := hD
    obtain ⟨hn8, hfgs⟩ := tg_ok_a hok (show a < 2 by have h9 := hi4; omega)
    refine lv_if_ne (tgt := 12) hx hb dX8_plot_6 (by decide) (fun c5 => ?_) (fun c5 => ?_)
    · refine lv_iload_n hx hb dX8_plot_12 rfl (lv_at hl 2 rfl) ?_
      refine ta_iconst C 1 dX8_plot_13 (by decide) ?_
      refine ta_bipush C 40 dX8_plot_14 (by decide) ?_
      refine ta_callSi (As := [.int (nI n), .int (nI 1), .int (nI 40)]) (rest0 := []) (Wr := [(z 0, .inr (8, [.ref (z 1), .int (nI ty), .ref (z 2), .ref (z 3), .ref (z 4), .ref (z 5), .int (nI kn), .ref (z 6), .ref (z 7), .ref (z 8), .int (nI no), .int (nI at_), .int (nI so), .int (nI sr), .int (nI va), .ref (z 9)])), (z 2, .inl (k.1 0, 23, .inl (ta_e t))), (z 4, .inl (k.1 0, 66, .inl (ta_e g))), (z 9, .inl (k.1 0, 66, .inl (ta_e hd)))]) C hP hD hS (c_X8_in_w l D k n 1 40 (by omega) (by omega) (by omega)) [] [0, 1, 2, 3] rfl rfl (by decide) (by decide) (by decide) tw_159 tw_157 tw_5 tw_158 ⟨by decide, by decide, rfl⟩ ⟨Nat.le_of_ble_eq_true rfl, Nat.le_of_ble_eq_true rfl⟩ ⟨Nat.zero_le _, Nat.zero_le _⟩ hl.1 rfl (Nat.le_of_ble_eq_true rfl) dX8_plot_16 (fun r6 u7 H locs h8 hP hD hS => ?_)
      rcases h8 with h0 | h0
      · obtain ⟨hi9, rfl⟩ := h0
        have hP : va_P D vwCl [(z 0, .inr (8, [.ref (z 1), .int (nI ty), .ref (z 2), .ref (z 3), .ref (z 4), .ref (z 5), .int (nI kn), .ref (z 6), .ref (z 7), .ref (z 8), .int (nI no), .int (nI at_), .int (nI so), .int (nI sr), .int (nI va), .ref (z 9)])), (z 2, .inl (k.1 0, 23, .inl (ta_e t))), (z 4, .inl (k.1 0, 66, .inl (ta_e g))), (z 9, .inl (k.1 0, 66, .inl (ta_e hd)))] H := hP
        have hD : va_D A [(z 0, .inr (8, [.ref (z 1), .int (nI ty), .ref (z 2), .ref (z 3), .ref (z 4), .ref (z 5), .int (nI kn), .ref (z 6), .ref (z 7), .ref (z 8), .int (nI no), .int (nI at_), .int (nI so), .int (nI sr), .int (nI va), .ref (z 9)])), (z 2, .inl (k.1 0, 23, .inl (ta_e t))), (z 4, .inl (k.1 0, 66, .inl (ta_e g))), (z 9, .inl (k.1 0, 66, .inl (ta_e hd)))] := hD
        refine lv_if_eq (tgt := 31) hx hb dX8_plot_19 (by decide) (fun c10 => ?_) (fun c10 => ?_)
        · exact absurd c10 (by decide)
        · refine lv_iload_n hx hb dX8_plot_22 rfl (lv_at hl 3 rfl) ?_
          refine ta_iconst C 0 dX8_plot_23 (by decide) ?_
          refine ta_iconst C 2 dX8_plot_24 (by decide) ?_
          refine ta_callSi (As := [.int (nI w), .int (nI 0), .int (nI 2)]) (rest0 := []) (Wr := [(z 0, .inr (8, [.ref (z 1), .int (nI ty), .ref (z 2), .ref (z 3), .ref (z 4), .ref (z 5), .int (nI kn), .ref (z 6), .ref (z 7), .ref (z 8), .int (nI no), .int (nI at_), .int (nI so), .int (nI sr), .int (nI va), .ref (z 9)])), (z 2, .inl (k.1 0, 23, .inl (ta_e t))), (z 4, .inl (k.1 0, 66, .inl (ta_e g))), (z 9, .inl (k.1 0, 66, .inl (ta_e hd)))]) C hP hD hS (c_X8_in_w l D k w 0 2 (by omega) (by omega) (by omega)) [] [0, 1, 2, 3] rfl rfl (by decide) (by decide) (by decide) tw_159 tw_157 tw_5 tw_158 ⟨by decide, by decide, rfl⟩ ⟨Nat.le_of_ble_eq_true rfl, Nat.le_of_ble_eq_true rfl⟩ ⟨Nat.zero_le _, Nat.zero_le _⟩ hl.1 rfl (Nat.le_of_ble_eq_true rfl) dX8_plot_25 (fun r11 u12 H locs h13 hP hD hS => ?_)
          rcases h13 with h0 | h0
          · obtain ⟨hi14, rfl⟩ := h0
            have hP : va_P D vwCl [(z 0, .inr (8, [.ref (z 1), .int (nI ty), .ref (z 2), .ref (z 3), .ref (z 4), .ref (z 5), .int (nI kn), .ref (z 6), .ref (z 7), .ref (z 8), .int (nI no), .int (nI at_), .int (nI so), .int (nI sr), .int (nI va), .ref (z 9)])), (z 2, .inl (k.1 0, 23, .inl (ta_e t))), (z 4, .inl (k.1 0, 66, .inl (ta_e g))), (z 9, .inl (k.1 0, 66, .inl (ta_e hd)))] H := hP
            have hD : va_D A [(z 0, .inr (8, [.ref (z 1), .int (nI ty), .ref (z 2), .ref (z 3), .ref (z 4), .ref (z 5), .int (nI kn), .ref (z 6), .ref (z 7), .ref (z 8), .int (nI no), .int (nI at_), .int (nI so), .int (nI sr), .int (nI va), .ref (z 9)])), (z 2, .inl (k.1 0, 23, .inl (ta_e t))), (z 4, .inl (k.1 0, 66, .inl (ta_e g))), (z 9, .inl (k.1 0, 66, .inl (ta_e hd)))] := hD
            refine lv_if_ne (tgt := 34) hx hb dX8_plot_28 (by decide) (fun c15 => ?_) (fun c15 => ?_)
            · refine lv_aload_n hx hb dX8_plot_34 rfl (lv_at hl 0 rfl) ?_
              refine ta_get C hP 0 inlX8 rfl rfl 4 (by decide) tw_128 rfl dX8_plot_35 ?_
              refine ta_bipush C 6 dX8_plot_38 (by decide) ?_
              refine lv_iload_n hx hb dX8_plot_40 rfl (lv_at hl 1 rfl) ?_
              refine ta_iadd C (a := 6) (b := a) dX8_plot_41 ?_
              refine ta_iald C hP 2 rfl (i := 6 + a) (by omega) dX8_plot_42 ?_
              refine ta_bipush C 6 dX8_plot_43 (by decide) ?_
              refine ta_cle C (a := g (6 + a)) (b := 6) (tgt := 51) (by omega) (by omega) dX8_plot_45 (by decide) (fun c16 => ?_) (fun c16 => ?_)
              · refine lv_aload_n hx hb dX8_plot_51 rfl (lv_at hl 0 rfl) ?_
                refine ta_callVv (As := []) (rest0 := []) (Wr := [(z 2, .inl (k.1 0, 23, .inl (ta_e t)))]) C hP hD hS (c_X8_holds l D k z ty kn no at_ so sr va g hd) 0 rfl rfl rfl [0, 2, 3] [1] rfl rfl (by decide) (by decide) (by decide) tw_560 tw_557 tw_5 tw_558 tw_559 ⟨by decide, by decide, rfl⟩ ⟨Nat.le_of_ble_eq_true rfl, Nat.le_of_ble_eq_true rfl⟩ ⟨Nat.zero_le _, Nat.zero_le _⟩ hl.1 rfl (Nat.le_of_ble_eq_true rfl) dX8_plot_52 (fun u18 H locs h19 hP hD hS => ?_)
                have hP : va_P D vwCl [(z 2, .inl (k.1 0, 23, .inl (ta_e t))), (z 0, .inr (8, [.ref (z 1), .int (nI ty), .ref (z 2), .ref (z 3), .ref (z 4), .ref (z 5), .int (nI kn), .ref (z 6), .ref (z 7), .ref (z 8), .int (nI no), .int (nI at_), .int (nI so), .int (nI sr), .int (nI va), .ref (z 9)])), (z 4, .inl (k.1 0, 66, .inl (ta_e g))), (z 9, .inl (k.1 0, 66, .inl (ta_e g)))] H := hP
                have hD : va_D A [(z 2, .inl (k.1 0, 23, .inl (ta_e t))), (z 0, .inr (8, [.ref (z 1), .int (nI ty), .ref (z 2), .ref (z 3), .ref (z 4), .ref (z 5), .int (nI kn), .ref (z 6), .ref (z 7), .ref (z 8), .int (nI no), .int (nI at_), .int (nI so), .int (nI sr), .int (nI va), .ref (z 9)])), (z 4, .inl (k.1 0, 66, .inl (ta_e g))), (z 9, .inl (k.1 0, 66, .inl (ta_e g)))] := hD
                refine ta_iconst C 4294967295 dX8_plot_55 (by decide) ?_
                refine lv_istore (lv' := [(4, .int (nI 4294967295)), (0, .ref (z 0)), (1, .int (nI a)), (2, .int (nI n)), (3, .int (nI w))]) hx hb dX8_plot_56 hl (by decide) rfl (fun ls hl => ?_)
                refine ta_iconst C 4294967295 dX8_plot_58 (by decide) ?_
                refine lv_istore (lv' := [(5, .int (nI 4294967295)), (4, .int (nI 4294967295)), (0, .ref (z 0)), (1, .int (nI a)), (2, .int (nI n)), (3, .int (nI w))]) hx hb dX8_plot_59 hl (by decide) rfl (fun ls hl => ?_)
                refine ta_iconst C 1 dX8_plot_61 (by decide) ?_
                refine lv_istore (lv' := [(6, .int (nI 1)), (5, .int (nI 4294967295)), (4, .int (nI 4294967295)), (0, .ref (z 0)), (1, .int (nI a)), (2, .int (nI n)), (3, .int (nI w))]) hx hb dX8_plot_62 hl (by decide) rfl (fun ls hl => ?_)
                have loop_64 : ∀ (N_64 : Nat) (one : Nat) (m0 : Nat) (x0 : Nat) (y0 : Nat) (mo : Nat) (fo : Nat), (1 ≤ one ∧ one ≤ 50) → (a < 2) → (1 ≤ n ∧ n ≤ 40) → (w ≤ 2) → (g (6 + a) ≤ 6) → (pl_B (pl_v t g a n) (pl_S tg_fig one 1) m0 x0 y0) → (mo = pl_p m0) → (fo = pl_f w x0 y0) → 50 - one < N_64 → ∀ (H : Heap) (locs : List Loc) (ls : Array Slot), va_P D vwCl [(z 0, .inr (8, [.ref (z 1), .int (nI ty), .ref (z 2), .ref (z 3), .ref (z 4), .ref (z 5), .int (nI kn), .ref (z 6), .ref (z 7), .ref (z 8), .int (nI no), .int (nI at_), .int (nI so), .int (nI sr), .int (nI va), .ref (z 9)])), (z 2, .inl (k.1 0, 23, .inl (ta_e t))), (z 4, .inl (k.1 0, 66, .inl (ta_e g))), (z 9, .inl (k.1 0, 66, .inl (ta_e g)))] H → va_D A [(z 0, .inr (8, [.ref (z 1), .int (nI ty), .ref (z 2), .ref (z 3), .ref (z 4), .ref (z 5), .int (nI kn), .ref (z 6), .ref (z 7), .ref (z 8), .int (nI no), .int (nI at_), .int (nI so), .int (nI sr), .int (nI va), .ref (z 9)])), (z 2, .inl (k.1 0, 23, .inl (ta_e t))), (z 4, .inl (k.1 0, 66, .inl (ta_e g))), (z 9, .inl (k.1 0, 66, .inl (ta_e g)))] → va_S A s.heap H locs → lv_has ls 12 [(6, .int (nI one)), (5, .int (nI fo)), (4, .int (nI mo)), (0, .ref (z 0)), (1, .int (nI a)), (2, .int (nI n)), (3, .int (nI w))] → W p l e ({ frames := 3, cells := 0, slots := 0, locals := 100 }) s m ([.ref (z 0), .int (nI a), .int (nI n), .int (nI w)] : List Value).toArray below meth c H locs 0 0 Q (F0 m 64 ls []) := by
                  clear hP hD hS hl
                  intro N_64
                  induction N_64 with
                  | zero =>
                    intro one m0 x0 y0 mo fo h1 ha2 hn1 hw2 hn6 hB hmo hfo hf_64
                    exact absurd hf_64 (Nat.not_lt_zero _)
                  | succ N_64 ih_64 =>
                    intro one m0 x0 y0 mo fo h1 ha2 hn1 hw2 hn6 hB hmo hfo hf_64 H locs ls hP hD hS hl
                    refine lv_iload hx hb dX8_plot_64 (lv_at hl 0 rfl) ?_
                    refine ta_bipush C 50 dX8_plot_66 (by decide) ?_
                    refine ta_cge C (a := one) (b := 50) (tgt := 249) (by omega) (by omega) dX8_plot_68 (by decide) (fun c20 => ?_) (fun c20 => ?_)
                    · refine lv_iload_n hx hb dX8_plot_249 rfl (lv_at hl 6 rfl) ?_
                      refine ta_ine C (a := w) (tgt := 258) (by omega) dX8_plot_250 (by decide) (fun c21 => ?_) (fun c21 => ?_)
                      · refine lv_iload hx hb dX8_plot_258 (lv_at hl 1 rfl) ?_
                        have e1 : fo = if w = 0 then pl_p m0 else pl_f w x0 y0 := by rw [if_neg (by omega)]; exact hfo
                        have eo : one = 50 := by omega
                        rw [eo] at hB
                        exact ret _ g dX8_plot_260 rfl ⟨_, Or.inr (Or.inr (Or.inr ⟨ha2, ⟨⟨by omega, by omega⟩, by omega⟩, hn6, m0, x0, y0, hB, e1⟩)), rfl⟩ hP hD hS
                      · refine lv_iload hx hb dX8_plot_253 (lv_at hl 2 rfl) ?_
                        refine lv_goto (tgt := 260) hx hb dX8_plot_255 (by decide) ?_
                        have e1 : mo = if w = 0 then pl_p m0 else pl_f w x0 y0 := by rw [if_pos (by omega)]; exact hmo
                        have eo : one = 50 := by omega
                        rw [eo] at hB
                        exact ret _ g dX8_plot_260 rfl ⟨_, Or.inr (Or.inr (Or.inr ⟨ha2, ⟨⟨by omega, by omega⟩, by omega⟩, hn6, m0, x0, y0, hB, e1⟩)), rfl⟩ hP hD hS
                    · refine ta_iconst C 1 dX8_plot_71 (by decide) ?_
                      refine lv_istore (lv' := [(7, .int (nI 1)), (6, .int (nI one)), (5, .int (nI fo)), (4, .int (nI mo)), (0, .ref (z 0)), (1, .int (nI a)), (2, .int (nI n)), (3, .int (nI w))]) hx hb dX8_plot_72 hl (by decide) rfl (fun ls hl => ?_)
                      have loop_74 : ∀ (N_74 : Nat) (two : Nat) (m0 : Nat) (x0 : Nat) (y0 : Nat) (mo : Nat) (fo : Nat), (1 ≤ two ∧ two ≤ 50) → (pl_B (pl_v t g a n) (pl_S tg_fig one two) m0 x0 y0) → (mo = pl_p m0) → (fo = pl_f w x0 y0) → 50 - two < N_74 → ∀ (H : Heap) (locs : List Loc) (ls : Array Slot), va_P D vwCl [(z 0, .inr (8, [.ref (z 1), .int (nI ty), .ref (z 2), .ref (z 3), .ref (z 4), .ref (z 5), .int (nI kn), .ref (z 6), .ref (z 7), .ref (z 8), .int (nI no), .int (nI at_), .int (nI so), .int (nI sr), .int (nI va), .ref (z 9)])), (z 2, .inl (k.1 0, 23, .inl (ta_e t))), (z 4, .inl (k.1 0, 66, .inl (ta_e g))), (z 9, .inl (k.1 0, 66, .inl (ta_e g)))] H → va_D A [(z 0, .inr (8, [.ref (z 1), .int (nI ty), .ref (z 2), .ref (z 3), .ref (z 4), .ref (z 5), .int (nI kn), .ref (z 6), .ref (z 7), .ref (z 8), .int (nI no), .int (nI at_), .int (nI so), .int (nI sr), .int (nI va), .ref (z 9)])), (z 2, .inl (k.1 0, 23, .inl (ta_e t))), (z 4, .inl (k.1 0, 66, .inl (ta_e g))), (z 9, .inl (k.1 0, 66, .inl (ta_e g)))] → va_S A s.heap H locs → lv_has ls 12 [(7, .int (nI two)), (6, .int (nI one)), (5, .int (nI fo)), (4, .int (nI mo)), (0, .ref (z 0)), (1, .int (nI a)), (2, .int (nI n)), (3, .int (nI w))] → W p l e ({ frames := 3, cells := 0, slots := 0, locals := 100 }) s m ([.ref (z 0), .int (nI a), .int (nI n), .int (nI w)] : List Value).toArray below meth c H locs 0 0 Q (F0 m 74 ls []) := by
                        clear hP hD hS hl
                        intro N_74
                        induction N_74 with
                        | zero =>
                          intro two m0 x0 y0 mo fo h2 hB2 hmo hfo hf_74
                          exact absurd hf_74 (Nat.not_lt_zero _)
                        | succ N_74 ih_74 =>
                          intro two m0 x0 y0 mo fo h2 hB2 hmo hfo hf_74 H locs ls hP hD hS hl
                          refine lv_iload hx hb dX8_plot_74 (lv_at hl 0 rfl) ?_
                          refine ta_bipush C 50 dX8_plot_76 (by decide) ?_
                          refine ta_cge C (a := two) (b := 50) (tgt := 243) (by omega) (by omega) dX8_plot_78 (by decide) (fun c22 => ?_) (fun c22 => ?_)
                          · have et : two = 50 := by omega
                            rw [et] at hB2
                            refine lv_iinc (v := nI (one + 1)) (lv' := [(6, .int (nI (one + 1))), (7, .int (nI two)), (5, .int (nI fo)), (4, .int (nI mo)), (0, .ref (z 0)), (1, .int (nI a)), (2, .int (nI n)), (3, .int (nI w))]) hx hb dX8_plot_243 hl (k := 1) rfl (ta_inc1 _) (by decide) rfl (fun ls hl => ?_)
                            refine lv_goto (tgt := 64) hx hb dX8_plot_246 (by decide) ?_
                            exact ih_64 (one + 1) m0 x0 y0 mo fo (by omega) (by omega) (by omega) (by omega) (by omega) (pl_B_r hB2 (fun j hj => ⟨by have := hj.2; omega, by have := hj.1; omega⟩)) hmo hfo (by omega) _ _ _ hP hD hS (lv_sub hl [0, 2, 3, 4, 5, 6, 7] rfl)
                          · refine lv_iload hx hb dX8_plot_81 (lv_at hl 1 rfl) ?_
                            refine ta_bipush C 10 dX8_plot_83 (by decide) ?_
                            refine ta_irem C (a := one) (b := 10) (by omega) (by omega) (by omega) dX8_plot_85 ?_
                            refine ta_ile C (a := one % 10) (tgt := 237) (by omega) dX8_plot_86 (by decide) (fun c23 => ?_) (fun c23 => ?_)
                            · refine lv_iinc (v := nI (two + 1)) (lv' := [(7, .int (nI (two + 1))), (6, .int (nI one)), (5, .int (nI fo)), (4, .int (nI mo)), (0, .ref (z 0)), (1, .int (nI a)), (2, .int (nI n)), (3, .int (nI w))]) hx hb dX8_plot_237 hl (k := 0) rfl (ta_inc1 _) (by decide) rfl (fun ls hl => ?_)
                              refine lv_goto (tgt := 74) hx hb dX8_plot_240 (by decide) ?_
                              exact ih_74 (two + 1) m0 x0 y0 mo fo (by omega) (pl_B_n hB2 (fun h8 h9 => by have := h8.2; have := h9.2; omega)) hmo hfo (by omega) _ _ _ hP hD hS (lv_sub hl [0, 1, 2, 3, 4, 5, 6, 7] rfl)
                            · refine lv_iload hx hb dX8_plot_89 (lv_at hl 0 rfl) ?_
                              refine ta_bipush C 10 dX8_plot_91 (by decide) ?_
                              refine ta_irem C (a := two) (b := 10) (by omega) (by omega) (by omega) dX8_plot_93 ?_
                              refine ta_ile C (a := two % 10) (tgt := 237) (by omega) dX8_plot_94 (by decide) (fun c24 => ?_) (fun c24 => ?_)
                              · refine lv_iinc (v := nI (two + 1)) (lv' := [(7, .int (nI (two + 1))), (6, .int (nI one)), (5, .int (nI fo)), (4, .int (nI mo)), (0, .ref (z 0)), (1, .int (nI a)), (2, .int (nI n)), (3, .int (nI w))]) hx hb dX8_plot_237 hl (k := 0) rfl (ta_inc1 _) (by decide) rfl (fun ls hl => ?_)
                                refine lv_goto (tgt := 74) hx hb dX8_plot_240 (by decide) ?_
                                exact ih_74 (two + 1) m0 x0 y0 mo fo (by omega) (pl_B_n hB2 (fun h8 h9 => by have := h8.2; have := h9.2; omega)) hmo hfo (by omega) _ _ _ hP hD hS (lv_sub hl [0, 1, 2, 3, 4, 5, 6, 7] rfl)
                              · have hA1 : tg_fig one := ⟨by omega, by omega⟩
                                have hA2 : tg_fig two := ⟨by omega, by omega⟩
                                refine lv_aload_n hx hb dX8_plot_97 rfl (lv_at hl 4 rfl) ?_
                                refine lv_iload_n hx hb dX8_plot_98 rfl (lv_at hl 5 rfl) ?_
                                refine lv_iload hx hb dX8_plot_99 (lv_at hl 1 rfl) ?_
                                refine ta_callVv (As := [.int (nI a), .int (nI one)]) (rest0 := []) (Wr := [(z 2, .inl (k.1 0, 23, .inl (ta_e t))), (z 9, .inl (k.1 0, 66, .inl (ta_e g)))]) C hP hD hS (c_X8_orders l D k z ty kn no at_ so sr va g a one (by omega) (by omega)) 0 rfl rfl rfl [0, 2] [1, 3] rfl rfl (by decide) (by decide) (by decide) tw_506 tw_503 tw_5 tw_504 tw_505 ⟨by decide, by decide, rfl⟩ ⟨Nat.le_of_ble_eq_true rfl, Nat.le_of_ble_eq_true rfl⟩ ⟨Nat.zero_le _, Nat.zero_le _⟩ hl.1 rfl (Nat.le_of_ble_eq_true rfl) dX8_plot_101 (fun u26 H locs h27 hP hD hS => ?_)
                                have hP : va_P D vwCl [(z 2, .inl (k.1 0, 23, .inl (ta_e t))), (z 9, .inl (k.1 0, 66, .inl (ta_e g))), (z 0, .inr (8, [.ref (z 1), .int (nI ty), .ref (z 2), .ref (z 3), .ref (z 4), .ref (z 5), .int (nI kn), .ref (z 6), .ref (z 7), .ref (z 8), .int (nI no), .int (nI at_), .int (nI so), .int (nI sr), .int (nI va), .ref (z 9)])), (z 4, .inl (k.1 0, 66, .inl (ta_e (tg_ord g a one))))] H := hP
                                have hD : va_D A [(z 2, .inl (k.1 0, 23, .inl (ta_e t))), (z 9, .inl (k.1 0, 66, .inl (ta_e g))), (z 0, .inr (8, [.ref (z 1), .int (nI ty), .ref (z 2), .ref (z 3), .ref (z 4), .ref (z 5), .int (nI kn), .ref (z 6), .ref (z 7), .ref (z 8), .int (nI no), .int (nI at_), .int (nI so), .int (nI sr), .int (nI va), .ref (z 9)])), (z 4, .inl (k.1 0, 66, .inl (ta_e (tg_ord g a one))))] := hD
                                refine lv_aload_n hx hb dX8_plot_104 rfl (lv_at hl 4 rfl) ?_
                                refine lv_iload_n hx hb dX8_plot_105 rfl (lv_at hl 5 rfl) ?_
                                refine lv_iload hx hb dX8_plot_106 (lv_at hl 0 rfl) ?_
                                refine ta_callVv (As := [.int (nI a), .int (nI two)]) (rest0 := []) (Wr := [(z 2, .inl (k.1 0, 23, .inl (ta_e t))), (z 9, .inl (k.1 0, 66, .inl (ta_e g)))]) C hP hD hS (c_X8_orders l D k z ty kn no at_ so sr va (tg_ord g a one) a two (by omega) (by rw [tg_ord_n]; omega)) 2 rfl rfl rfl [2, 3] [0, 1] rfl rfl (by decide) (by decide) (by decide) tw_506 tw_503 tw_5 tw_504 tw_505 ⟨by decide, by decide, rfl⟩ ⟨Nat.le_of_ble_eq_true rfl, Nat.le_of_ble_eq_true rfl⟩ ⟨Nat.zero_le _, Nat.zero_le _⟩ hl.1 rfl (Nat.le_of_ble_eq_true rfl) dX8_plot_108 (fun u29 H locs h30 hP hD hS => ?_)
                                have hP : va_P D vwCl [(z 2, .inl (k.1 0, 23, .inl (ta_e t))), (z 9, .inl (k.1 0, 66, .inl (ta_e g))), (z 0, .inr (8, [.ref (z 1), .int (nI ty), .ref (z 2), .ref (z 3), .ref (z 4), .ref (z 5), .int (nI kn), .ref (z 6), .ref (z 7), .ref (z 8), .int (nI no), .int (nI at_), .int (nI so), .int (nI sr), .int (nI va), .ref (z 9)])), (z 4, .inl (k.1 0, 66, .inl (ta_e (tg_ord (tg_ord g a one) a two))))] H := hP
                                have hD : va_D A [(z 2, .inl (k.1 0, 23, .inl (ta_e t))), (z 9, .inl (k.1 0, 66, .inl (ta_e g))), (z 0, .inr (8, [.ref (z 1), .int (nI ty), .ref (z 2), .ref (z 3), .ref (z 4), .ref (z 5), .int (nI kn), .ref (z 6), .ref (z 7), .ref (z 8), .int (nI no), .int (nI at_), .int (nI so), .int (nI sr), .int (nI va), .ref (z 9)])), (z 4, .inl (k.1 0, 66, .inl (ta_e (tg_ord (tg_ord g a one) a two))))] := hD
                                obtain ⟨G, hG⟩ : ∃ z, z = tg_two g a one two := ⟨_, rfl⟩
                                have eG : tg_ord (tg_ord g a one) a two = G := hG.symm
                                rw [eG] at hP hD
                                have hP : va_P D vwCl [(z 0, .inr (8, [.ref (z 1), .int (nI ty), .ref (z 2), .ref (z 3), .ref (z 4), .ref (z 5), .int (nI kn), .ref (z 6), .ref (z 7), .ref (z 8), .int (nI no), .int (nI at_), .int (nI so), .int (nI sr), .int (nI va), .ref (z 9)])), (z 2, .inl (k.1 0, 23, .inl (ta_e t))), (z 4, .inl (k.1 0, 66, .inl (ta_e G))), (z 9, .inl (k.1 0, 66, .inl (ta_e g)))] H := hP.sub [2, 0, 3, 1] rfl
                                have hD : va_D A [(z 0, .inr (8, [.ref (z 1), .int (nI ty), .ref (z 2), .ref (z 3), .ref (z 4), .ref (z 5), .int (nI kn), .ref (z 6), .ref (z 7), .ref (z 8), .int (nI no), .int (nI at_), .int (nI so), .int (nI sr), .int (nI va), .ref (z 9)])), (z 2, .inl (k.1 0, 23, .inl (ta_e t))), (z 4, .inl (k.1 0, 66, .inl (ta_e G))), (z 9, .inl (k.1 0, 66, .inl (ta_e g)))] := hD.sub [2, 0, 3, 1] (by decide) rfl
                                have hokG : tg_ok t G := by rw [hG]; exact tg_ok_two hok ha2 hn6 hA1 hA2
                                have hG0 : G 0 = g 0 := by rw [hG]; unfold tg_two; rw [tg_ord_k (by omega) (by rw [tg_ord_n]; omega), tg_ord_k (by omega) (by omega)]
                                refine lv_aload_n hx hb dX8_plot_111 rfl (lv_at hl 4 rfl) ?_
                                refine ta_get C hP 0 inlX8 rfl rfl 4 (by decide) tw_128 rfl dX8_plot_112 ?_
                                refine ta_bipush C 24 dX8_plot_115 (by decide) ?_
                                refine lv_iload_n hx hb dX8_plot_117 rfl (lv_at hl 5 rfl) ?_
                                refine ta_iadd C (a := 24) (b := a) dX8_plot_118 ?_
                                refine ta_iald C hP 2 rfl (i := 24 + a) (by omega) dX8_plot_119 ?_
                                refine lv_istore (lv' := [(8, .int (nI (G (24 + a)))), (7, .int (nI two)), (6, .int (nI one)), (5, .int (nI fo)), (4, .int (nI mo)), (0, .ref (z 0)), (1, .int (nI a)), (2, .int (nI n)), (3, .int (nI w))]) hx hb dX8_plot_120 hl (by decide) rfl (fun ls hl => ?_)
                                refine lv_aload_n hx hb dX8_plot_122 rfl (lv_at hl 5 rfl) ?_
                                refine ta_get C hP 0 inlX8 rfl rfl 4 (by decide) tw_128 rfl dX8_plot_123 ?_
                                refine ta_bipush C 25 dX8_plot_126 (by decide) ?_
                                refine lv_iload_n hx hb dX8_plot_128 rfl (lv_at hl 6 rfl) ?_
                                refine ta_isub C (a := 25) (b := a) (by omega) dX8_plot_129 ?_
                                refine ta_iald C hP 2 rfl (i := 25 - a) (by omega) dX8_plot_130 ?_
                                refine lv_istore (lv' := [(9, .int (nI (G (25 - a)))), (8, .int (nI (G (24 + a)))), (7, .int (nI two)), (6, .int (nI one)), (5, .int (nI fo)), (4, .int (nI mo)), (0, .ref (z 0)), (1, .int (nI a)), (2, .int (nI n)), (3, .int (nI w))]) hx hb dX8_plot_131 hl (by decide) rfl (fun ls hl => ?_)
                                refine ta_iconst C 0 dX8_plot_133 (by decide) ?_
                                refine lv_istore (lv' := [(10, .int (nI 0)), (9, .int (nI (G (25 - a)))), (8, .int (nI (G (24 + a)))), (7, .int (nI two)), (6, .int (nI one)), (5, .int (nI fo)), (4, .int (nI mo)), (0, .ref (z 0)), (1, .int (nI a)), (2, .int (nI n)), (3, .int (nI w))]) hx hb dX8_plot_134 hl (by decide) rfl (fun ls hl => ?_)
                                have loop_136 : ∀ (N_136 : Nat) (i : Nat), (i ≤ n) → n - i < N_136 → ∀ (H : Heap) (locs : List Loc) (ls : Array Slot), va_P D vwCl [(z 0, .inr (8, [.ref (z 1), .int (nI ty), .ref (z 2), .ref (z 3), .ref (z 4), .ref (z 5), .int (nI kn), .ref (z 6), .ref (z 7), .ref (z 8), .int (nI no), .int (nI at_), .int (nI so), .int (nI sr), .int (nI va), .ref (z 9)])), (z 2, .inl (k.1 0, 23, .inl (ta_e t))), (z 4, .inl (k.1 0, 66, .inl (ta_e (tg_it t G i)))), (z 9, .inl (k.1 0, 66, .inl (ta_e g)))] H → va_D A [(z 0, .inr (8, [.ref (z 1), .int (nI ty), .ref (z 2), .ref (z 3), .ref (z 4), .ref (z 5), .int (nI kn), .ref (z 6), .ref (z 7), .ref (z 8), .int (nI no), .int (nI at_), .int (nI so), .int (nI sr), .int (nI va), .ref (z 9)])), (z 2, .inl (k.1 0, 23, .inl (ta_e t))), (z 4, .inl (k.1 0, 66, .inl (ta_e (tg_it t G i)))), (z 9, .inl (k.1 0, 66, .inl (ta_e g)))] → va_S A s.heap H locs → lv_has ls 12 [(10, .int (nI i)), (9, .int (nI (G (25 - a)))), (8, .int (nI (G (24 + a)))), (7, .int (nI two)), (6, .int (nI one)), (5, .int (nI fo)), (4, .int (nI mo)), (0, .ref (z 0)), (1, .int (nI a)), (2, .int (nI n)), (3, .int (nI w))] → W p l e ({ frames := 3, cells := 0, slots := 0, locals := 100 }) s m ([.ref (z 0), .int (nI a), .int (nI n), .int (nI w)] : List Value).toArray below meth c H locs 0 0 Q (F0 m 136 ls []) := by
                                  clear hP hD hS hl
                                  intro N_136
                                  induction N_136 with
                                  | zero =>
                                    intro i h4 hf_136
                                    exact absurd hf_136 (Nat.not_lt_zero _)
                                  | succ N_136 ih_136 =>
                                    intro i h4 hf_136 H locs ls hP hD hS hl
                                    refine lv_iload hx hb dX8_plot_136 (lv_at hl 0 rfl) ?_
                                    refine lv_iload_n hx hb dX8_plot_138 rfl (lv_at hl 9 rfl) ?_
                                    refine ta_cge C (a := i) (b := n) (tgt := 153) (by omega) (by omega) dX8_plot_139 (by decide) (fun c31 => ?_) (fun c31 => ?_)
                                    · have ein : i = n := by omega
                                      rw [ein] at hP hD
                                      have hk1 : tg_it t G n (25 - a) = G (25 - a) + tg_kc t G (1 - a) n := by have h9 := tg_it_kn (b := 1 - a) hokG (by omega) n; rw [show 24 + (1 - a) = 25 - a by omega] at h9; exact h9
                                      have hk2 : tg_it t G n (24 + a) = G (24 + a) + tg_kc t G a n := tg_it_kn hokG ha2 n
                                      have hkb1 := tg_kc_b t G (1 - a) n
                                      have hkb2 := tg_kc_b t G a n
                                      have hmb := pl_B_b hB2 (fun c d => pl_v_b t g a n c d)
                                      have hv : pl_v t g a n one two = if tg_kc t G a n = 0 then tg_kc t G (1 - a) n + 1 else 0 := by rw [hG]; rfl
                                      refine lv_aload_n hx hb dX8_plot_153 rfl (lv_at hl 7 rfl) ?_
                                      refine ta_get C hP 0 inlX8 rfl rfl 4 (by decide) tw_128 rfl dX8_plot_154 ?_
                                      refine ta_bipush C 25 dX8_plot_157 (by decide) ?_
                                      refine lv_iload_n hx hb dX8_plot_159 rfl (lv_at hl 8 rfl) ?_
                                      refine ta_isub C (a := 25) (b := a) (by omega) dX8_plot_160 ?_
                                      refine ta_iald C hP 2 rfl (i := 25 - a) (by omega) dX8_plot_161 ?_
                                      refine lv_iload hx hb dX8_plot_162 (lv_at hl 1 rfl) ?_
                                      refine ta_isub C (a := (tg_it t G n) (25 - a)) (b := G (25 - a)) (by omega) dX8_plot_164 ?_
                                      refine ta_nv (y := tg_kc t G (1 - a) n) (by omega) ?_
                                      refine lv_istore (lv' := [(10, .int (nI (tg_kc t G (1 - a) n))), (9, .int (nI (G (25 - a)))), (8, .int (nI (G (24 + a)))), (7, .int (nI two)), (6, .int (nI one)), (5, .int (nI fo)), (4, .int (nI mo)), (0, .ref (z 0)), (1, .int (nI a)), (2, .int (nI n)), (3, .int (nI w))]) hx hb dX8_plot_165 hl (by decide) rfl (fun ls hl => ?_)
                                      refine lv_aload_n hx hb dX8_plot_167 rfl (lv_at hl 7 rfl) ?_
                                      refine ta_get C hP 0 inlX8 rfl rfl 4 (by decide) tw_128 rfl dX8_plot_168 ?_
                                      refine ta_bipush C 24 dX8_plot_171 (by decide) ?_
                                      refine lv_iload_n hx hb dX8_plot_173 rfl (lv_at hl 8 rfl) ?_
                                      refine ta_iadd C (a := 24) (b := a) dX8_plot_174 ?_
                                      refine ta_iald C hP 2 rfl (i := 24 + a) (by omega) dX8_plot_175 ?_
                                      refine lv_iload hx hb dX8_plot_176 (lv_at hl 2 rfl) ?_
                                      refine lv_icmp_ne (tgt := 192) hx hb dX8_plot_178 (by decide) (fun c32 => ?_) (fun c32 => ?_)
                                      · have hk0 : tg_kc t G a n ≠ 0 := fun e9 => c32 (by rw [hk2, e9]; rfl)
                                        have hle : pl_v t g a n one two ≤ m0 := by rw [hv, if_neg hk0]; exact Nat.zero_le _
                                        refine ta_iconst C 0 dX8_plot_192 (by decide) ?_
                                        refine lv_istore (lv' := [(11, .int (nI 0)), (10, .int (nI (tg_kc t G (1 - a) n))), (9, .int (nI (G (25 - a)))), (8, .int (nI (G (24 + a)))), (7, .int (nI two)), (6, .int (nI one)), (5, .int (nI fo)), (4, .int (nI mo)), (0, .ref (z 0)), (1, .int (nI a)), (2, .int (nI n)), (3, .int (nI w))]) hx hb dX8_plot_193 hl (by decide) rfl (fun ls hl => ?_)
                                        refine lv_iload hx hb dX8_plot_195 (lv_at hl 0 rfl) ?_
                                        refine lv_if_eq (tgt := 205) hx hb dX8_plot_197 (by decide) (fun c33 => ?_) (fun c33 => ?_)
                                        · refine lv_iload hx hb dX8_plot_205 (lv_at hl 7 rfl) ?_
                                          refine lv_istore (lv' := [(4, .int (nI mo)), (11, .int (nI 0)), (10, .int (nI (tg_kc t G (1 - a) n))), (9, .int (nI (G (25 - a)))), (8, .int (nI (G (24 + a)))), (7, .int (nI two)), (6, .int (nI one)), (5, .int (nI fo)), (0, .ref (z 0)), (1, .int (nI a)), (2, .int (nI n)), (3, .int (nI w))]) hx hb dX8_plot_207 hl (by decide) rfl (fun ls hl => ?_)
                                          refine lv_iload hx hb dX8_plot_209 (lv_at hl 1 rfl) ?_
                                          refine lv_if_eq (tgt := 229) hx hb dX8_plot_211 (by decide) (fun c34 => ?_) (fun c34 => ?_)
                                          · refine lv_iload hx hb dX8_plot_229 (lv_at hl 7 rfl) ?_
                                            refine lv_istore (lv' := [(5, .int (nI fo)), (4, .int (nI mo)), (11, .int (nI 0)), (10, .int (nI (tg_kc t G (1 - a) n))), (9, .int (nI (G (25 - a)))), (8, .int (nI (G (24 + a)))), (7, .int (nI two)), (6, .int (nI one)), (0, .ref (z 0)), (1, .int (nI a)), (2, .int (nI n)), (3, .int (nI w))]) hx hb dX8_plot_231 hl (by decide) rfl (fun ls hl => ?_)
                                            refine lv_aload_n hx hb dX8_plot_233 rfl (lv_at hl 8 rfl) ?_
                                            refine ta_callVv (As := []) (rest0 := []) (Wr := [(z 2, .inl (k.1 0, 23, .inl (ta_e t)))]) C hP hD hS (c_X8_lets l D k z ty kn no at_ so sr va (tg_it t G n) g) 0 rfl rfl rfl [0, 2, 3] [1] rfl rfl (by decide) (by decide) (by decide) tw_564 tw_561 tw_5 tw_562 tw_563 ⟨by decide, by decide, rfl⟩ ⟨Nat.le_of_ble_eq_true rfl, Nat.le_of_ble_eq_true rfl⟩ ⟨Nat.zero_le _, Nat.zero_le _⟩ hl.1 rfl (Nat.le_of_ble_eq_true rfl) dX8_plot_234 (fun u36 H locs h37 hP hD hS => ?_)
                                            have hP : va_P D vwCl [(z 2, .inl (k.1 0, 23, .inl (ta_e t))), (z 0, .inr (8, [.ref (z 1), .int (nI ty), .ref (z 2), .ref (z 3), .ref (z 4), .ref (z 5), .int (nI kn), .ref (z 6), .ref (z 7), .ref (z 8), .int (nI no), .int (nI at_), .int (nI so), .int (nI sr), .int (nI va), .ref (z 9)])), (z 4, .inl (k.1 0, 66, .inl (ta_e g))), (z 9, .inl (k.1 0, 66, .inl (ta_e g)))] H := hP
                                            have hD : va_D A [(z 2, .inl (k.1 0, 23, .inl (ta_e t))), (z 0, .inr (8, [.ref (z 1), .int (nI ty), .ref (z 2), .ref (z 3), .ref (z 4), .ref (z 5), .int (nI kn), .ref (z 6), .ref (z 7), .ref (z 8), .int (nI no), .int (nI at_), .int (nI so), .int (nI sr), .int (nI va), .ref (z 9)])), (z 4, .inl (k.1 0, 66, .inl (ta_e g))), (z 9, .inl (k.1 0, 66, .inl (ta_e g)))] := hD
                                            refine lv_iinc (v := nI (two + 1)) (lv' := [(7, .int (nI (two + 1))), (5, .int (nI fo)), (4, .int (nI mo)), (11, .int (nI 0)), (10, .int (nI (tg_kc t G (1 - a) n))), (9, .int (nI (G (25 - a)))), (8, .int (nI (G (24 + a)))), (6, .int (nI one)), (0, .ref (z 0)), (1, .int (nI a)), (2, .int (nI n)), (3, .int (nI w))]) hx hb dX8_plot_237 hl (k := 6) rfl (ta_inc1 _) (by decide) rfl (fun ls hl => ?_)
                                            refine lv_goto (tgt := 74) hx hb dX8_plot_240 (by decide) ?_
                                            exact ih_74 (two + 1) m0 x0 y0 mo fo (by omega) (pl_B_n hB2 (fun _ _ => hle)) hmo hfo (by omega) _ _ _ (hP.sub [1, 0, 2, 3] rfl) (hD.sub [1, 0, 2, 3] (by decide) rfl) hS (lv_sub hl [0, 7, 1, 2, 8, 9, 10, 11] rfl)
                                          · exact absurd c34 (by decide)
                                        · exact absurd c33 (by decide)
                                      · have hk0 : tg_kc t G a n = 0 := (ta_add0 (by omega)).mp (by rw [← hk2]; exact c32)
                                        have hpv : pl_v t g a n one two = tg_kc t G (1 - a) n + 1 := by rw [hv, if_pos hk0]
                                        refine lv_iload hx hb dX8_plot_181 (lv_at hl 0 rfl) ?_
                                        refine lv_iload hx hb dX8_plot_183 (lv_at hl 6 rfl) ?_
                                        have hcmp : nI (tg_kc t G (1 - a) n) ≤ nI mo ↔ pl_v t g a n one two ≤ m0 := by rw [hpv, hmo]; exact pl_p_le (v := tg_kc t G (1 - a) n + 1) (by omega) (by omega)
                                        refine lv_icmp_le (tgt := 192) hx hb dX8_plot_185 (by decide) (fun c38 => ?_) (fun c38 => ?_)
                                        · have hle := hcmp.mp c38
                                          refine ta_iconst C 0 dX8_plot_192 (by decide) ?_
                                          refine lv_istore (lv' := [(11, .int (nI 0)), (10, .int (nI (tg_kc t G (1 - a) n))), (9, .int (nI (G (25 - a)))), (8, .int (nI (G (24 + a)))), (7, .int (nI two)), (6, .int (nI one)), (5, .int (nI fo)), (4, .int (nI mo)), (0, .ref (z 0)), (1, .int (nI a)), (2, .int (nI n)), (3, .int (nI w))]) hx hb dX8_plot_193 hl (by decide) rfl (fun ls hl => ?_)
                                          refine lv_iload hx hb dX8_plot_195 (lv_at hl 0 rfl) ?_
                                          refine lv_if_eq (tgt := 205) hx hb dX8_plot_197 (by decide) (fun c39 => ?_) (fun c39 => ?_)
                                          · refine lv_iload hx hb dX8_plot_205 (lv_at hl 7 rfl) ?_
                                            refine lv_istore (lv' := [(4, .int (nI mo)), (11, .int (nI 0)), (10, .int (nI (tg_kc t G (1 - a) n))), (9, .int (nI (G (25 - a)))), (8, .int (nI (G (24 + a)))), (7, .int (nI two)), (6, .int (nI one)), (5, .int (nI fo)), (0, .ref (z 0)), (1, .int (nI a)), (2, .int (nI n)), (3, .int (nI w))]) hx hb dX8_plot_207 hl (by decide) rfl (fun ls hl => ?_)
                                            refine lv_iload hx hb dX8_plot_209 (lv_at hl 1 rfl) ?_
                                            refine lv_if_eq (tgt := 229) hx hb dX8_plot_211 (by decide) (fun c40 => ?_) (fun c40 => ?_)
                                            · refine lv_iload hx hb dX8_plot_229 (lv_at hl 7 rfl) ?_
                                              refine lv_istore (lv' := [(5, .int (nI fo)), (4, .int (nI mo)), (11, .int (nI 0)), (10, .int (nI (tg_kc t G (1 - a) n))), (9, .int (nI (G (25 - a)))), (8, .int (nI (G (24 + a)))), (7, .int (nI two)), (6, .int (nI one)), (0, .ref (z 0)), (1, .int (nI a)), (2, .int (nI n)), (3, .int (nI w))]) hx hb dX8_plot_231 hl (by decide) rfl (fun ls hl => ?_)
                                              refine lv_aload_n hx hb dX8_plot_233 rfl (lv_at hl 8 rfl) ?_
                                              refine ta_callVv (As := []) (rest0 := []) (Wr := [(z 2, .inl (k.1 0, 23, .inl (ta_e t)))]) C hP hD hS (c_X8_lets l D k z ty kn no at_ so sr va (tg_it t G n) g) 0 rfl rfl rfl [0, 2, 3] [1] rfl rfl (by decide) (by decide) (by decide) tw_564 tw_561 tw_5 tw_562 tw_563 ⟨by decide, by decide, rfl⟩ ⟨Nat.le_of_ble_eq_true rfl, Nat.le_of_ble_eq_true rfl⟩ ⟨Nat.zero_le _, Nat.zero_le _⟩ hl.1 rfl (Nat.le_of_ble_eq_true rfl) dX8_plot_234 (fun u42 H locs h43 hP hD hS => ?_)
                                              have hP : va_P D vwCl [(z 2, .inl (k.1 0, 23, .inl (ta_e t))), (z 0, .inr (8, [.ref (z 1), .int (nI ty), .ref (z 2), .ref (z 3), .ref (z 4), .ref (z 5), .int (nI kn), .ref (z 6), .ref (z 7), .ref (z 8), .int (nI no), .int (nI at_), .int (nI so), .int (nI sr), .int (nI va), .ref (z 9)])), (z 4, .inl (k.1 0, 66, .inl (ta_e g))), (z 9, .inl (k.1 0, 66, .inl (ta_e g)))] H := hP
                                              have hD : va_D A [(z 2, .inl (k.1 0, 23, .inl (ta_e t))), (z 0, .inr (8, [.ref (z 1), .int (nI ty), .ref (z 2), .ref (z 3), .ref (z 4), .ref (z 5), .int (nI kn), .ref (z 6), .ref (z 7), .ref (z 8), .int (nI no), .int (nI at_), .int (nI so), .int (nI sr), .int (nI va), .ref (z 9)])), (z 4, .inl (k.1 0, 66, .inl (ta_e g))), (z 9, .inl (k.1 0, 66, .inl (ta_e g)))] := hD
                                              refine lv_iinc (v := nI (two + 1)) (lv' := [(7, .int (nI (two + 1))), (5, .int (nI fo)), (4, .int (nI mo)), (11, .int (nI 0)), (10, .int (nI (tg_kc t G (1 - a) n))), (9, .int (nI (G (25 - a)))), (8, .int (nI (G (24 + a)))), (6, .int (nI one)), (0, .ref (z 0)), (1, .int (nI a)), (2, .int (nI n)), (3, .int (nI w))]) hx hb dX8_plot_237 hl (k := 6) rfl (ta_inc1 _) (by decide) rfl (fun ls hl => ?_)
                                              refine lv_goto (tgt := 74) hx hb dX8_plot_240 (by decide) ?_
                                              exact ih_74 (two + 1) m0 x0 y0 mo fo (by omega) (pl_B_n hB2 (fun _ _ => hle)) hmo hfo (by omega) _ _ _ (hP.sub [1, 0, 2, 3] rfl) (hD.sub [1, 0, 2, 3] (by decide) rfl) hS (lv_sub hl [0, 7, 1, 2, 8, 9, 10, 11] rfl)
                                            · exact absurd c40 (by decide)
                                          · exact absurd c39 (by decide)
                                        · have hgt : m0 < pl_v t g a n one two := Nat.lt_of_not_le (fun h9 => c38 (hcmp.mpr h9))
                                          refine ta_iconst C 1 dX8_plot_188 (by decide) ?_
                                          refine lv_goto (tgt := 193) hx hb dX8_plot_189 (by decide) ?_
                                          refine lv_istore (lv' := [(11, .int (nI 1)), (10, .int (nI (tg_kc t G (1 - a) n))), (9, .int (nI (G (25 - a)))), (8, .int (nI (G (24 + a)))), (7, .int (nI two)), (6, .int (nI one)), (5, .int (nI fo)), (4, .int (nI mo)), (0, .ref (z 0)), (1, .int (nI a)), (2, .int (nI n)), (3, .int (nI w))]) hx hb dX8_plot_193 hl (by decide) rfl (fun ls hl => ?_)
                                          refine lv_iload hx hb dX8_plot_195 (lv_at hl 0 rfl) ?_
                                          refine lv_if_eq (tgt := 205) hx hb dX8_plot_197 (by decide) (fun c44 => ?_) (fun c44 => ?_)
                                          · exact absurd c44 (by decide)
                                          · refine lv_iload hx hb dX8_plot_200 (lv_at hl 1 rfl) ?_
                                            refine lv_goto (tgt := 207) hx hb dX8_plot_202 (by decide) ?_
                                            refine lv_istore (lv' := [(4, .int (nI (tg_kc t G (1 - a) n))), (11, .int (nI 1)), (10, .int (nI (tg_kc t G (1 - a) n))), (9, .int (nI (G (25 - a)))), (8, .int (nI (G (24 + a)))), (7, .int (nI two)), (6, .int (nI one)), (5, .int (nI fo)), (0, .ref (z 0)), (1, .int (nI a)), (2, .int (nI n)), (3, .int (nI w))]) hx hb dX8_plot_207 hl (by decide) rfl (fun ls hl => ?_)
                                            refine lv_iload hx hb dX8_plot_209 (lv_at hl 1 rfl) ?_
                                            refine lv_if_eq (tgt := 229) hx hb dX8_plot_211 (by decide) (fun c45 => ?_) (fun c45 => ?_)
                                            · exact absurd c45 (by decide)
                                            · refine lv_iload_n hx hb dX8_plot_214 rfl (lv_at hl 11 rfl) ?_
                                              refine ta_iconst C 1 dX8_plot_215 (by decide) ?_
                                              refine ta_cne C (a := w) (b := 1) (tgt := 224) (by omega) (by omega) dX8_plot_216 (by decide) (fun c46 => ?_) (fun c46 => ?_)
                                              · refine lv_iload hx hb dX8_plot_224 (lv_at hl 5 rfl) ?_
                                                refine lv_goto (tgt := 231) hx hb dX8_plot_226 (by decide) ?_
                                                refine lv_istore (lv' := [(5, .int (nI two)), (4, .int (nI (tg_kc t G (1 - a) n))), (11, .int (nI 1)), (10, .int (nI (tg_kc t G (1 - a) n))), (9, .int (nI (G (25 - a)))), (8, .int (nI (G (24 + a)))), (7, .int (nI two)), (6, .int (nI one)), (0, .ref (z 0)), (1, .int (nI a)), (2, .int (nI n)), (3, .int (nI w))]) hx hb dX8_plot_231 hl (by decide) rfl (fun ls hl => ?_)
                                                refine lv_aload_n hx hb dX8_plot_233 rfl (lv_at hl 8 rfl) ?_
                                                refine ta_callVv (As := []) (rest0 := []) (Wr := [(z 2, .inl (k.1 0, 23, .inl (ta_e t)))]) C hP hD hS (c_X8_lets l D k z ty kn no at_ so sr va (tg_it t G n) g) 0 rfl rfl rfl [0, 2, 3] [1] rfl rfl (by decide) (by decide) (by decide) tw_564 tw_561 tw_5 tw_562 tw_563 ⟨by decide, by decide, rfl⟩ ⟨Nat.le_of_ble_eq_true rfl, Nat.le_of_ble_eq_true rfl⟩ ⟨Nat.zero_le _, Nat.zero_le _⟩ hl.1 rfl (Nat.le_of_ble_eq_true rfl) dX8_plot_234 (fun u48 H locs h49 hP hD hS => ?_)
                                                have hP : va_P D vwCl [(z 2, .inl (k.1 0, 23, .inl (ta_e t))), (z 0, .inr (8, [.ref (z 1), .int (nI ty), .ref (z 2), .ref (z 3), .ref (z 4), .ref (z 5), .int (nI kn), .ref (z 6), .ref (z 7), .ref (z 8), .int (nI no), .int (nI at_), .int (nI so), .int (nI sr), .int (nI va), .ref (z 9)])), (z 4, .inl (k.1 0, 66, .inl (ta_e g))), (z 9, .inl (k.1 0, 66, .inl (ta_e g)))] H := hP
                                                have hD : va_D A [(z 2, .inl (k.1 0, 23, .inl (ta_e t))), (z 0, .inr (8, [.ref (z 1), .int (nI ty), .ref (z 2), .ref (z 3), .ref (z 4), .ref (z 5), .int (nI kn), .ref (z 6), .ref (z 7), .ref (z 8), .int (nI no), .int (nI at_), .int (nI so), .int (nI sr), .int (nI va), .ref (z 9)])), (z 4, .inl (k.1 0, 66, .inl (ta_e g))), (z 9, .inl (k.1 0, 66, .inl (ta_e g)))] := hD
                                                refine lv_iinc (v := nI (two + 1)) (lv' := [(7, .int (nI (two + 1))), (5, .int (nI two)), (4, .int (nI (tg_kc t G (1 - a) n))), (11, .int (nI 1)), (10, .int (nI (tg_kc t G (1 - a) n))), (9, .int (nI (G (25 - a)))), (8, .int (nI (G (24 + a)))), (6, .int (nI one)), (0, .ref (z 0)), (1, .int (nI a)), (2, .int (nI n)), (3, .int (nI w))]) hx hb dX8_plot_237 hl (k := 6) rfl (ta_inc1 _) (by decide) rfl (fun ls hl => ?_)
                                                refine lv_goto (tgt := 74) hx hb dX8_plot_240 (by decide) ?_
                                                exact ih_74 (two + 1) (pl_v t g a n one two) one two (tg_kc t G (1 - a) n) two (by omega) (pl_B_y hA1 hA2 hB2 hgt) (by rw [hpv]; rfl) (by unfold pl_f; rw [if_neg (by omega)]) (by omega) _ _ _ (hP.sub [1, 0, 2, 3] rfl) (hD.sub [1, 0, 2, 3] (by decide) rfl) hS (lv_sub hl [0, 7, 1, 2, 8, 9, 10, 11] rfl)
                                              · refine lv_iload hx hb dX8_plot_219 (lv_at hl 6 rfl) ?_
                                                refine lv_goto (tgt := 231) hx hb dX8_plot_221 (by decide) ?_
                                                refine lv_istore (lv' := [(5, .int (nI one)), (4, .int (nI (tg_kc t G (1 - a) n))), (11, .int (nI 1)), (10, .int (nI (tg_kc t G (1 - a) n))), (9, .int (nI (G (25 - a)))), (8, .int (nI (G (24 + a)))), (7, .int (nI two)), (6, .int (nI one)), (0, .ref (z 0)), (1, .int (nI a)), (2, .int (nI n)), (3, .int (nI w))]) hx hb dX8_plot_231 hl (by decide) rfl (fun ls hl => ?_)
                                                refine lv_aload_n hx hb dX8_plot_233 rfl (lv_at hl 8 rfl) ?_
                                                refine ta_callVv (As := []) (rest0 := []) (Wr := [(z 2, .inl (k.1 0, 23, .inl (ta_e t)))]) C hP hD hS (c_X8_lets l D k z ty kn no at_ so sr va (tg_it t G n) g) 0 rfl rfl rfl [0, 2, 3] [1] rfl rfl (by decide) (by decide) (by decide) tw_564 tw_561 tw_5 tw_562 tw_563 ⟨by decide, by decide, rfl⟩ ⟨Nat.le_of_ble_eq_true rfl, Nat.le_of_ble_eq_true rfl⟩ ⟨Nat.zero_le _, Nat.zero_le _⟩ hl.1 rfl (Nat.le_of_ble_eq_true rfl) dX8_plot_234 (fun u51 H locs h52 hP hD hS => ?_)
                                                have hP : va_P D vwCl [(z 2, .inl (k.1 0, 23, .inl (ta_e t))), (z 0, .inr (8, [.ref (z 1), .int (nI ty), .ref (z 2), .ref (z 3), .ref (z 4), .ref (z 5), .int (nI kn), .ref (z 6), .ref (z 7), .ref (z 8), .int (nI no), .int (nI at_), .int (nI so), .int (nI sr), .int (nI va), .ref (z 9)])), (z 4, .inl (k.1 0, 66, .inl (ta_e g))), (z 9, .inl (k.1 0, 66, .inl (ta_e g)))] H := hP
                                                have hD : va_D A [(z 2, .inl (k.1 0, 23, .inl (ta_e t))), (z 0, .inr (8, [.ref (z 1), .int (nI ty), .ref (z 2), .ref (z 3), .ref (z 4), .ref (z 5), .int (nI kn), .ref (z 6), .ref (z 7), .ref (z 8), .int (nI no), .int (nI at_), .int (nI so), .int (nI sr), .int (nI va), .ref (z 9)])), (z 4, .inl (k.1 0, 66, .inl (ta_e g))), (z 9, .inl (k.1 0, 66, .inl (ta_e g)))] := hD
                                                refine lv_iinc (v := nI (two + 1)) (lv' := [(7, .int (nI (two + 1))), (5, .int (nI one)), (4, .int (nI (tg_kc t G (1 - a) n))), (11, .int (nI 1)), (10, .int (nI (tg_kc t G (1 - a) n))), (9, .int (nI (G (25 - a)))), (8, .int (nI (G (24 + a)))), (6, .int (nI one)), (0, .ref (z 0)), (1, .int (nI a)), (2, .int (nI n)), (3, .int (nI w))]) hx hb dX8_plot_237 hl (k := 6) rfl (ta_inc1 _) (by decide) rfl (fun ls hl => ?_)
                                                refine lv_goto (tgt := 74) hx hb dX8_plot_240 (by decide) ?_
                                                exact ih_74 (two + 1) (pl_v t g a n one two) one two (tg_kc t G (1 - a) n) one (by omega) (pl_B_y hA1 hA2 hB2 hgt) (by rw [hpv]; rfl) (by unfold pl_f; rw [if_pos (by omega)]) (by omega) _ _ _ (hP.sub [1, 0, 2, 3] rfl) (hD.sub [1, 0, 2, 3] (by decide) rfl) hS (lv_sub hl [0, 7, 1, 2, 8, 9, 10, 11] rfl)
                                    · refine lv_aload_n hx hb dX8_plot_142 rfl (lv_at hl 7 rfl) ?_
                                      refine ta_callVi (As := []) (rest0 := []) (Wr := [(z 9, .inl (k.1 0, 66, .inl (ta_e g)))]) C hP hD hS (c_X8_goes l D k z ty kn no at_ so sr va t (tg_it t G i) (tg_ok_it hokG i) (by have := tg_it_0 hokG i; omega)) 0 rfl rfl rfl [0, 1, 2] [3] rfl rfl (by decide) (by decide) (by decide) tw_481 tw_478 tw_5 tw_479 tw_480 ⟨by decide, by decide, rfl⟩ ⟨Nat.le_of_ble_eq_true rfl, Nat.le_of_ble_eq_true rfl⟩ ⟨Nat.zero_le _, Nat.zero_le _⟩ hl.1 rfl (Nat.le_of_ble_eq_true rfl) dX8_plot_143 (fun r53 u54 H locs h55 hP hD hS => ?_)
                                      obtain rfl := h55
                                      have hP : va_P D vwCl [(z 9, .inl (k.1 0, 66, .inl (ta_e g))), (z 0, .inr (8, [.ref (z 1), .int (nI ty), .ref (z 2), .ref (z 3), .ref (z 4), .ref (z 5), .int (nI kn), .ref (z 6), .ref (z 7), .ref (z 8), .int (nI no), .int (nI at_), .int (nI so), .int (nI sr), .int (nI va), .ref (z 9)])), (z 2, .inl (k.1 0, 23, .inl (ta_e t))), (z 4, .inl (k.1 0, 66, .inl (ta_e (tg_go t (tg_it t G i)))))] H := hP
                                      have hD : va_D A [(z 9, .inl (k.1 0, 66, .inl (ta_e g))), (z 0, .inr (8, [.ref (z 1), .int (nI ty), .ref (z 2), .ref (z 3), .ref (z 4), .ref (z 5), .int (nI kn), .ref (z 6), .ref (z 7), .ref (z 8), .int (nI no), .int (nI at_), .int (nI so), .int (nI sr), .int (nI va), .ref (z 9)])), (z 2, .inl (k.1 0, 23, .inl (ta_e t))), (z 4, .inl (k.1 0, 66, .inl (ta_e (tg_go t (tg_it t G i)))))] := hD
                                      refine lv_pop hx hb dX8_plot_146 rfl ?_
                                      refine lv_iinc (v := nI (i + 1)) (lv' := [(10, .int (nI (i + 1))), (9, .int (nI (G (25 - a)))), (8, .int (nI (G (24 + a)))), (7, .int (nI two)), (6, .int (nI one)), (5, .int (nI fo)), (4, .int (nI mo)), (0, .ref (z 0)), (1, .int (nI a)), (2, .int (nI n)), (3, .int (nI w))]) hx hb dX8_plot_147 hl (k := 0) rfl (ta_inc1 _) (by decide) rfl (fun ls hl => ?_)
                                      refine lv_goto (tgt := 136) hx hb dX8_plot_150 (by decide) ?_
                                      exact ih_136 (i + 1) (by omega) (by omega) _ _ _ (hP.sub [1, 2, 3, 0] rfl) (hD.sub [1, 2, 3, 0] (by decide) rfl) hS (lv_sub hl [0, 1, 2, 3, 4, 5, 6, 7, 8, 9, 10] rfl)
                                exact loop_136 ((n - 0) + 1) 0 (by omega) (Nat.lt_succ_self _) _ _ _ hP hD hS (lv_sub hl [0, 1, 2, 3, 4, 5, 6, 7, 8, 9, 10] rfl)
                      exact loop_74 ((50 - 1) + 1) 1 m0 x0 y0 mo fo (by omega) hB hmo hfo (Nat.lt_succ_self _) _ _ _ hP hD hS (lv_sub hl [0, 1, 2, 3, 4, 5, 6, 7] rfl)
                exact loop_64 ((50 - 1) + 1) 1 0 4294967295 4294967295 4294967295 4294967295 (by omega) (by omega) (by omega) (by omega) (by omega) (pl_B_0 (fun j hj => by have := hj.2; omega)) rfl (by unfold pl_f; split <;> rfl) (Nat.lt_succ_self _) _ _ _ (hP.sub [1, 0, 2, 3] rfl) (hD.sub [1, 0, 2, 3] (by decide) rfl) hS (lv_sub hl [0, 1, 2, 3, 4, 5, 6] rfl)
              · refine ta_bipush C 4294967292 dX8_plot_48 (by decide) ?_
                exact ret _ hd dX8_plot_50 rfl ⟨_, Or.inr (Or.inr (Or.inl ⟨by omega, ⟨⟨by omega, by omega⟩, by omega⟩, by omega, rfl⟩)), rfl⟩ hP hD hS
            · exact absurd c15 (by decide)
          · obtain ⟨hi56, rfl⟩ := h0
            have hP : va_P D vwCl [(z 0, .inr (8, [.ref (z 1), .int (nI ty), .ref (z 2), .ref (z 3), .ref (z 4), .ref (z 5), .int (nI kn), .ref (z 6), .ref (z 7), .ref (z 8), .int (nI no), .int (nI at_), .int (nI so), .int (nI sr), .int (nI va), .ref (z 9)])), (z 2, .inl (k.1 0, 23, .inl (ta_e t))), (z 4, .inl (k.1 0, 66, .inl (ta_e g))), (z 9, .inl (k.1 0, 66, .inl (ta_e hd)))] H := hP
            have hD : va_D A [(z 0, .inr (8, [.ref (z 1), .int (nI ty), .ref (z 2), .ref (z 3), .ref (z 4), .ref (z 5), .int (nI kn), .ref (z 6), .ref (z 7), .ref (z 8), .int (nI no), .int (nI at_), .int (nI so), .int (nI sr), .int (nI va), .ref (z 9)])), (z 2, .inl (k.1 0, 23, .inl (ta_e t))), (z 4, .inl (k.1 0, 66, .inl (ta_e g))), (z 9, .inl (k.1 0, 66, .inl (ta_e hd)))] := hD
            refine lv_if_ne (tgt := 34) hx hb dX8_plot_28 (by decide) (fun c57 => ?_) (fun c57 => ?_)
            · exact absurd c57 (by decide)
            · refine ta_bipush C 4294967293 dX8_plot_31 (by decide) ?_
              exact ret _ hd dX8_plot_33 rfl ⟨_, Or.inr (Or.inl ⟨by omega, by omega, rfl⟩), rfl⟩ hP hD hS
      · obtain ⟨hi58, rfl⟩ := h0
        have hP : va_P D vwCl [(z 0, .inr (8, [.ref (z 1), .int (nI ty), .ref (z 2), .ref (z 3), .ref (z 4), .ref (z 5), .int (nI kn), .ref (z 6), .ref (z 7), .ref (z 8), .int (nI no), .int (nI at_), .int (nI so), .int (nI sr), .int (nI va), .ref (z 9)])), (z 2, .inl (k.1 0, 23, .inl (ta_e t))), (z 4, .inl (k.1 0, 66, .inl (ta_e g))), (z 9, .inl (k.1 0, 66, .inl (ta_e hd)))] H := hP
        have hD : va_D A [(z 0, .inr (8, [.ref (z 1), .int (nI ty), .ref (z 2), .ref (z 3), .ref (z 4), .ref (z 5), .int (nI kn), .ref (z 6), .ref (z 7), .ref (z 8), .int (nI no), .int (nI at_), .int (nI so), .int (nI sr), .int (nI va), .ref (z 9)])), (z 2, .inl (k.1 0, 23, .inl (ta_e t))), (z 4, .inl (k.1 0, 66, .inl (ta_e g))), (z 9, .inl (k.1 0, 66, .inl (ta_e hd)))] := hD
        refine lv_if_eq (tgt := 31) hx hb dX8_plot_19 (by decide) (fun c59 => ?_) (fun c59 => ?_)
        · refine ta_bipush C 4294967293 dX8_plot_31 (by decide) ?_
          exact ret _ hd dX8_plot_33 rfl ⟨_, Or.inr (Or.inl ⟨by omega, by omega, rfl⟩), rfl⟩ hP hD hS
        · exact absurd c59 (by decide)
    · exact absurd c5 (by decide)
  · obtain ⟨hi60, rfl⟩ := h0
    have hP : va_P D vwCl [(z 0, .inr (8, [.ref (z 1), .int (nI ty), .ref (z 2), .ref (z 3), .ref (z 4), .ref (z 5), .int (nI kn), .ref (z 6), .ref (z 7), .ref (z 8), .int (nI no), .int (nI at_), .int (nI so), .int (nI sr), .int (nI va), .ref (z 9)])), (z 2, .inl (k.1 0, 23, .inl (ta_e t))), (z 4, .inl (k.1 0, 66, .inl (ta_e g))), (z 9, .inl (k.1 0, 66, .inl (ta_e hd)))] H := hP
    have hD : va_D A [(z 0, .inr (8, [.ref (z 1), .int (nI ty), .ref (z 2), .ref (z 3), .ref (z 4), .ref (z 5), .int (nI kn), .ref (z 6), .ref (z 7), .ref (z 8), .int (nI no), .int (nI at_), .int (nI so), .int (nI sr), .int (nI va), .ref (z 9)])), (z 2, .inl (k.1 0, 23, .inl (ta_e t))), (z 4, .inl (k.1 0, 66, .inl (ta_e g))), (z 9, .inl (k.1 0, 66, .inl (ta_e hd)))] := hD
    refine lv_if_ne (tgt := 12) hx hb dX8_plot_6 (by decide) (fun c61 => ?_) (fun c61 => ?_)
    · exact absurd c61 (by decide)
    · refine ta_bipush C 4294967294 dX8_plot_9 (by decide) ?_
      exact ret _ hd dX8_plot_11 rfl ⟨_, Or.inl ⟨by omega, rfl⟩, rfl⟩ hP hD hS
