theorem pl_Xk {t h : Nat → Nat} {Y : Nat → Nat → Nat} (e : ∀ j, 5 ≤ j → h j = t j) (hY : pl_X t Y) : pl_X h Y := by
  refine ⟨fun j hj => ?_, fun j hj => ?_⟩
  · rw [e 5 (by omega)] at hj
    rw [e (7 + j) (by omega)]
    exact hY.1 j hj
  · rw [e 6 (by omega)] at hj
    rw [e (15 + j) (by omega)]
    exact hY.2 j hj
theorem pl_Xr0 {t : Nat → Nat} {Y : Nat → Nat → Nat} (hY : pl_X t Y) : pl_X (ta_u t 5 0) Y := ⟨fun j hj => absurd (show j < 0 from hj) (Nat.not_lt_zero j), fun j hj => by
  have hj : j < t 6 := hj
  rw [ta_un (by omega)]
  exact hY.2 j hj⟩
theorem pl_Xr1 {t : Nat → Nat} {Y : Nat → Nat → Nat} (hY : pl_X t Y) : pl_X (ta_u t 6 0) Y := ⟨fun j hj => by
  have hj : j < t 5 := hj
  rw [ta_un (by omega)]
  exact hY.1 j hj, fun j hj => absurd (show j < 0 from hj) (Nat.not_lt_zero j)⟩
theorem cl_put0 {t : Nat → Nat} {c j : Nat} (hj : j < 8) : cl_put t 0 c (7 + j) = if j = t 5 then c else t (7 + j) := by
  have e : t (5 + 0) = t 5 := rfl
  unfold cl_put
  rw [ta_un (by omega), e]
  by_cases h : j = t 5
  · rw [if_pos h, show 7 + j = 7 + 8 * 0 + t 5 by omega, ta_us]
  · rw [if_neg h, ta_un (by omega)]
theorem cl_put1 {t : Nat → Nat} {c j : Nat} (hj : j < 8) : cl_put t 1 c (15 + j) = if j = t 6 then c else t (15 + j) := by
  have e : t (5 + 1) = t 6 := rfl
  unfold cl_put
  rw [ta_un (by omega), e]
  by_cases h : j = t 6
  · rw [if_pos h, show 15 + j = 7 + 8 * 1 + t 6 by omega, ta_us]
  · rw [if_neg h, ta_un (by omega)]
theorem pl_Xa0 {t : Nat → Nat} {Y : Nat → Nat → Nat} {kd v : Nat} (hY : pl_X t Y) (h6 : t 6 ≤ 8) (hn : t 5 < 8) (hv : v < 10) : pl_X (cl_put t 0 (10 * kd + v)) (ta_x4 (ta_u (Y 0) (t 5) kd) (ta_u (Y 1) (t 5) v) (Y 2) (Y 3)) := by
  have e0 : t (5 + 0) = t 5 := rfl
  have e5 : cl_put t 0 (10 * kd + v) 5 = t 5 + 1 := rfl
  have e6 : cl_put t 0 (10 * kd + v) 6 = t 6 := by unfold cl_put; rw [ta_un (by omega), ta_un (by omega)]
  refine ⟨fun j hj => ?_, fun j hj => ?_⟩
  · rw [e5] at hj
    rw [cl_put0 (by omega)]
    show ta_u (Y 0) (t 5) kd j = _ ∧ ta_u (Y 1) (t 5) v j = _
    by_cases h9 : j = t 5
    · rw [if_pos h9, h9, ta_us, ta_us]
      omega
    · rw [if_neg h9, ta_un h9, ta_un h9]
      exact hY.1 j (by omega)
  · rw [e6] at hj
    show Y 2 j = _ ∧ Y 3 j = _
    unfold cl_put
    rw [ta_un (by omega), e0, ta_un (by omega)]
    exact hY.2 j hj
theorem pl_Xa1 {t : Nat → Nat} {Y : Nat → Nat → Nat} {kd v : Nat} (hY : pl_X t Y) (h5 : t 5 ≤ 8) (hn : t 6 < 8) (hv : v < 10) : pl_X (cl_put t 1 (10 * kd + v)) (ta_x4 (Y 0) (Y 1) (ta_u (Y 2) (t 6) kd) (ta_u (Y 3) (t 6) v)) := by
  have e0 : t (5 + 1) = t 6 := rfl
  have e6 : cl_put t 1 (10 * kd + v) 6 = t 6 + 1 := rfl
  have e5 : cl_put t 1 (10 * kd + v) 5 = t 5 := by unfold cl_put; rw [ta_un (by omega), ta_un (by omega)]
  refine ⟨fun j hj => ?_, fun j hj => ?_⟩
  · rw [e5] at hj
    show Y 0 j = _ ∧ Y 1 j = _
    unfold cl_put
    rw [ta_un (by omega), e0, ta_un (by omega)]
    exact hY.1 j hj
  · rw [e6] at hj
    rw [cl_put1 (by omega)]
    show ta_u (Y 2) (t 6) kd j = _ ∧ ta_u (Y 3) (t 6) v j = _
    by_cases h9 : j = t 6
    · rw [if_pos h9, h9, ta_us, ta_us]
      omega
    · rw [if_neg h9, ta_un h9, ta_un h9]
      exact hY.2 j (by omega)
theorem tk_is9 {tx : Nat → Nat} {L s : Nat} (hs : s < L) : tk_is tx s (tk_en tx L s) 9 ↔ tx s = 59 := by
  constructor
  · intro h
    exact h.2 0 (by decide)
  · intro h
    have e3 : tx_s tx L s = 3 := by
      unfold tx_s
      rw [if_pos hs, if_neg (by omega), if_neg (by omega), if_neg (by omega)]
    have ee : tk_en tx L s = s + 1 := by
      unfold tk_en
      rw [if_pos hs, if_neg (by omega)]
    refine ⟨by rw [ee]; show s + 1 - s = 1; omega, fun j hj => ?_⟩
    have hj : j < 1 := hj
    obtain rfl : j = 0 := by omega
    exact h
set_option maxHeartbeats 4000000 in
set_option maxRecDepth 100000 in
theorem c_X4_readStand (l : Launch) (D : va_G) (k : ta_C) (rd : Nat) (pq : Nat → Nat) (st0 : Nat) (en : Nat) (cl : Nat) (x : Nat → Nat) (L : Nat) (tx : Nat → Nat) (t : Nat → Nat) (Y : Nat → Nat → Nat) (hx0 : tx_ok tx L) (hen : en ≤ L) (hpl : pl_ok t) (hY : pl_X t Y) : ta_Mv (S := Nat × Nat × Nat × (Nat → Nat) × (Nat → Nat → Nat)) l D k yX4_readStand cX4_readStand 3 3 120 [.ref rd] ([(rd, .inr (4, [.ref (x 0), .ref (pq 0), .int (nI st0), .int (nI en), .int (nI 4294967295), .int (nI cl)]))] ++ ((txW k x L tx) ++ (plW k pq t Y))) (fun u => cl_post (cl_stand tx L en t) u) (fun u => ([(rd, .inr (4, [.ref (x 0), .ref (pq 0), .int (nI u.1), .int (nI u.2.1), .int (nI u.2.2.1), .int (nI cl)]))] ++ ((txW k x L tx) ++ (plW k pq u.2.2.2.1 u.2.2.2.2)))) := by
  refine ta_enter_v (by decide) (Nat.le_of_ble_eq_true rfl) ?_
  intro p e s m below meth c A ls Q C ret hP hD hS hl
  have C : ta_At p l D k s m ([.ref rd] : List Value).toArray c RX4 cX4_readStand 3 A := C
  have hx := C.1.1
  have hb := C.1.2.1
  have hl : lv_has ls 3 [(0, .ref rd)] := hl
  obtain ⟨H, hH⟩ : ∃ H, H = s.heap := ⟨_, rfl⟩
  obtain ⟨locs, hlocs⟩ : ∃ q : List Loc, q = [] := ⟨_, rfl⟩
  have hP : va_P D vwCl ([(rd, .inr (4, [.ref (x 0), .ref (pq 0), .int (nI st0), .int (nI en), .int (nI 4294967295), .int (nI cl)]))] ++ ((txW k x L tx) ++ (plW k pq t Y))) H := by rw [hH]; exact hP
  have hS : va_S A s.heap H locs := by rw [hH, hlocs]; exact hS
  rw [← hlocs]
  suffices hgoal : W p l e ({ frames := 3, cells := 0, slots := 0, locals := 120 }) s m ([.ref rd] : List Value).toArray below meth c H locs 0 0 Q (F0 m 0 ls []) by rw [hH] at hgoal; exact hgoal
  clear hH hlocs
  obtain ⟨hL, hc⟩ := id hx0
  obtain ⟨⟨a1, a2, a3, a4, a5, a6⟩, pp3, pp4, pp5, pp6, pp7, pp8⟩ := id hpl
  have hm : t 0 * t 1 ≤ 36 := tg_36 a2 a4
  have hm1 : 4 ≤ t 0 * t 1 := Nat.mul_le_mul a1 a3
  refine lv_aload_n hx hb dX4_readStand_0 rfl (lv_at hl 0 rfl) ?_
  refine ta_iconst C 0 dX4_readStand_1 (by decide) ?_
  refine lv_aload_n hx hb dX4_readStand_2 rfl (lv_at hl 0 rfl) ?_
  refine ta_get C hP 0 inlX4 rfl rfl 1 (by decide) tw_69 rfl dX4_readStand_3 ?_
  refine ta_getN C hP 3 inlX3 rfl rfl 0 (by decide) 11 rfl rfl dX4_readStand_6 ?_
  refine lv_aload_n hx hb dX4_readStand_9 rfl (lv_at hl 0 rfl) ?_
  refine ta_get C hP 0 inlX4 rfl rfl 1 (by decide) tw_69 rfl dX4_readStand_10 ?_
  refine ta_getN C hP 3 inlX3 rfl rfl 1 (by decide) 13 rfl rfl dX4_readStand_13 ?_
  refine ta_imul C (a := t 0) (b := t 1) dX4_readStand_16 ?_
  refine ta_iconst C 1 dX4_readStand_17 (by decide) ?_
  refine ta_isub C (a := (t 0) * (t 1)) (b := 1) (by omega) dX4_readStand_18 ?_
  refine ta_callVi (As := [.int (nI 0), .int (nI (((t 0) * (t 1)) - 1))]) (rest0 := []) (Wr := (plW k pq t Y)) C hP hD hS (c_X4_readNumber l D k rd (pq 0) st0 en cl x L tx 0 (((t 0) * (t 1)) - 1) hx0 (by omega) ⟨by omega, by omega⟩) 0 rfl rfl rfl [0, 1, 2] [3, 4, 5, 6, 7, 8, 9, 10] rfl rfl (by decide) (by decide) (by decide) tw_257 tw_254 tw_22 tw_255 tw_256 ⟨by decide, by decide, rfl⟩ ⟨Nat.le_of_ble_eq_true rfl, Nat.le_of_ble_eq_true rfl⟩ ⟨Nat.zero_le _, Nat.zero_le _⟩ hl.1 rfl (Nat.le_of_ble_eq_true rfl) dX4_readStand_19 (fun r1 u2 H locs h3 hP hD hS => ?_)
  rcases h3 with h0 | h0
  · obtain ⟨hin4, rfl, rfl⟩ := h0
    have hP : va_P D vwCl ((plW k pq t Y) ++ ([(rd, .inr (4, [.ref (x 0), .ref (pq 0), .int (nI (tn_s tx L en)), .int (nI (tn_e tx L en)), .int (nI 4294967295), .int (nI cl)]))] ++ (txW k x L tx))) H := hP
    have hD : va_D A ((plW k pq t Y) ++ ([(rd, .inr (4, [.ref (x 0), .ref (pq 0), .int (nI (tn_s tx L en)), .int (nI (tn_e tx L en)), .int (nI 4294967295), .int (nI cl)]))] ++ (txW k x L tx))) := hD
    obtain ⟨b10, b20, b30, b40⟩ := tn_b (tx := tx) (p := en) (by omega)
    refine lv_istore_n (lv' := [(1, .int (nI (tn_v tx L en))), (0, .ref rd)]) hx hb dX4_readStand_22 rfl hl (by decide) rfl (fun ls hl => ?_)
    refine lv_aload_n hx hb dX4_readStand_23 rfl (lv_at hl 1 rfl) ?_
    refine ta_iconst C 0 dX4_readStand_24 (by decide) ?_
    refine ta_iconst C 3 dX4_readStand_25 (by decide) ?_
    refine ta_callVi (As := [.int (nI 0), .int (nI 3)]) (rest0 := []) (Wr := (plW k pq t Y)) C hP hD hS (c_X4_readNumber l D k rd (pq 0) (tn_s tx L en) (tn_e tx L en) cl x L tx 0 3 hx0 (by omega) ⟨by omega, by omega⟩) 8 rfl rfl rfl [8, 9, 10] [0, 1, 2, 3, 4, 5, 6, 7] rfl rfl (by decide) (by decide) (by decide) tw_257 tw_254 tw_22 tw_255 tw_256 ⟨by decide, by decide, rfl⟩ ⟨Nat.le_of_ble_eq_true rfl, Nat.le_of_ble_eq_true rfl⟩ ⟨Nat.zero_le _, Nat.zero_le _⟩ hl.1 rfl (Nat.le_of_ble_eq_true rfl) dX4_readStand_26 (fun r5 u6 H locs h7 hP hD hS => ?_)
    rcases h7 with h0 | h0
    · obtain ⟨hin8, rfl, rfl⟩ := h0
      have hP : va_P D vwCl ((plW k pq t Y) ++ ([(rd, .inr (4, [.ref (x 0), .ref (pq 0), .int (nI (tn_s tx L (tn_e tx L en))), .int (nI (tn_e tx L (tn_e tx L en))), .int (nI 4294967295), .int (nI cl)]))] ++ (txW k x L tx))) H := hP
      have hD : va_D A ((plW k pq t Y) ++ ([(rd, .inr (4, [.ref (x 0), .ref (pq 0), .int (nI (tn_s tx L (tn_e tx L en))), .int (nI (tn_e tx L (tn_e tx L en))), .int (nI 4294967295), .int (nI cl)]))] ++ (txW k x L tx))) := hD
      obtain ⟨b11, b21, b31, b41⟩ := tn_b (tx := tx) (p := tn_e tx L en) (by omega)
      refine lv_istore_n (lv' := [(2, .int (nI (tn_v tx L (tn_e tx L en)))), (1, .int (nI (tn_v tx L en))), (0, .ref rd)]) hx hb dX4_readStand_29 rfl hl (by decide) rfl (fun ls hl => ?_)
      refine lv_aload_n hx hb dX4_readStand_30 rfl (lv_at hl 2 rfl) ?_
      refine ta_get C hP 8 inlX4 rfl rfl 4 (by decide) tw_72 rfl dX4_readStand_31 ?_
      refine ta_iconst C 4294967295 dX4_readStand_34 (by decide) ?_
      refine lv_icmp_ne (tgt := 54) hx hb dX4_readStand_35 (by decide) (fun c9 => ?_) (fun c9 => ?_)
      · exact absurd c9 (by decide)
      · refine lv_aload_n hx hb dX4_readStand_38 rfl (lv_at hl 2 rfl) ?_
        refine ta_get C hP 8 inlX4 rfl rfl 1 (by decide) tw_69 rfl dX4_readStand_39 ?_
        refine lv_iload_n hx hb dX4_readStand_42 rfl (lv_at hl 1 rfl) ?_
        refine ta_putN C hP hD hS 0 inlX3 tyX3 tyX3_ok nmX3 rfl rfl 3 (by decide) 17 rfl rfl rfl rfl (Nat.le_of_ble_eq_true rfl) dX4_readStand_43 (fun H locs hP hD hS => ?_)
        have hP : va_P D vwCl ([(pq 0, .inr (3, [.int (nI (t 0)), .int (nI (t 1)), .int (nI (t 2)), .int (nI (tn_v tx L en)), .int (nI (t 4)), .ref (pq 1)])), (pq 1, .inl (k.1 2, 2, .inr (.inr (.inr (.inr (ta_dr (pq 2) (pq 5))))))), (pq 2, .inr (1, [.ref (pq 3), .ref (pq 4), .int (nI (t 5))])), (pq 3, .inl (k.1 0, 8, .inl (ta_e (Y 0)))), (pq 4, .inl (k.1 0, 8, .inl (ta_e (Y 1)))), (pq 5, .inr (1, [.ref (pq 6), .ref (pq 7), .int (nI (t 6))])), (pq 6, .inl (k.1 0, 8, .inl (ta_e (Y 2)))), (pq 7, .inl (k.1 0, 8, .inl (ta_e (Y 3)))), (rd, .inr (4, [.ref (x 0), .ref (pq 0), .int (nI (tn_s tx L (tn_e tx L en))), .int (nI (tn_e tx L (tn_e tx L en))), .int (nI 4294967295), .int (nI cl)]))] ++ (txW k x L tx)) H := hP
        have hD : va_D A ([(pq 0, .inr (3, [.int (nI (t 0)), .int (nI (t 1)), .int (nI (t 2)), .int (nI (tn_v tx L en)), .int (nI (t 4)), .ref (pq 1)])), (pq 1, .inl (k.1 2, 2, .inr (.inr (.inr (.inr (ta_dr (pq 2) (pq 5))))))), (pq 2, .inr (1, [.ref (pq 3), .ref (pq 4), .int (nI (t 5))])), (pq 3, .inl (k.1 0, 8, .inl (ta_e (Y 0)))), (pq 4, .inl (k.1 0, 8, .inl (ta_e (Y 1)))), (pq 5, .inr (1, [.ref (pq 6), .ref (pq 7), .int (nI (t 6))])), (pq 6, .inl (k.1 0, 8, .inl (ta_e (Y 2)))), (pq 7, .inl (k.1 0, 8, .inl (ta_e (Y 3)))), (rd, .inr (4, [.ref (x 0), .ref (pq 0), .int (nI (tn_s tx L (tn_e tx L en))), .int (nI (tn_e tx L (tn_e tx L en))), .int (nI 4294967295), .int (nI cl)]))] ++ (txW k x L tx)) := hD
        refine lv_aload_n hx hb dX4_readStand_46 rfl (lv_at hl 2 rfl) ?_
        refine ta_get C hP 8 inlX4 rfl rfl 1 (by decide) tw_69 rfl dX4_readStand_47 ?_
        refine lv_iload_n hx hb dX4_readStand_50 rfl (lv_at hl 0 rfl) ?_
        refine ta_putN C hP hD hS 0 inlX3 tyX3 tyX3_ok nmX3 rfl rfl 4 (by decide) 19 rfl rfl rfl rfl (Nat.le_of_ble_eq_true rfl) dX4_readStand_51 (fun H locs hP hD hS => ?_)
        have hP : va_P D vwCl ([(pq 0, .inr (3, [.int (nI (t 0)), .int (nI (t 1)), .int (nI (t 2)), .int (nI (tn_v tx L en)), .int (nI (tn_v tx L (tn_e tx L en))), .ref (pq 1)])), (pq 1, .inl (k.1 2, 2, .inr (.inr (.inr (.inr (ta_dr (pq 2) (pq 5))))))), (pq 2, .inr (1, [.ref (pq 3), .ref (pq 4), .int (nI (t 5))])), (pq 3, .inl (k.1 0, 8, .inl (ta_e (Y 0)))), (pq 4, .inl (k.1 0, 8, .inl (ta_e (Y 1)))), (pq 5, .inr (1, [.ref (pq 6), .ref (pq 7), .int (nI (t 6))])), (pq 6, .inl (k.1 0, 8, .inl (ta_e (Y 2)))), (pq 7, .inl (k.1 0, 8, .inl (ta_e (Y 3)))), (rd, .inr (4, [.ref (x 0), .ref (pq 0), .int (nI (tn_s tx L (tn_e tx L en))), .int (nI (tn_e tx L (tn_e tx L en))), .int (nI 4294967295), .int (nI cl)]))] ++ (txW k x L tx)) H := hP
        have hD : va_D A ([(pq 0, .inr (3, [.int (nI (t 0)), .int (nI (t 1)), .int (nI (t 2)), .int (nI (tn_v tx L en)), .int (nI (tn_v tx L (tn_e tx L en))), .ref (pq 1)])), (pq 1, .inl (k.1 2, 2, .inr (.inr (.inr (.inr (ta_dr (pq 2) (pq 5))))))), (pq 2, .inr (1, [.ref (pq 3), .ref (pq 4), .int (nI (t 5))])), (pq 3, .inl (k.1 0, 8, .inl (ta_e (Y 0)))), (pq 4, .inl (k.1 0, 8, .inl (ta_e (Y 1)))), (pq 5, .inr (1, [.ref (pq 6), .ref (pq 7), .int (nI (t 6))])), (pq 6, .inl (k.1 0, 8, .inl (ta_e (Y 2)))), (pq 7, .inl (k.1 0, 8, .inl (ta_e (Y 3)))), (rd, .inr (4, [.ref (x 0), .ref (pq 0), .int (nI (tn_s tx L (tn_e tx L en))), .int (nI (tn_e tx L (tn_e tx L en))), .int (nI 4294967295), .int (nI cl)]))] ++ (txW k x L tx)) := hD
        have hP : va_P D vwCl [(rd, .inr (4, [.ref (x 0), .ref (pq 0), .int (nI (tn_s tx L (tn_e tx L en))), .int (nI (tn_e tx L (tn_e tx L en))), .int (nI 4294967295), .int (nI cl)])), (x 0, .inr (6, [.ref (x 1), .int (nI L)])), (x 1, .inl (k.1 0, 160, .inl (ta_e tx))), (pq 0, .inr (3, [.int (nI (t 0)), .int (nI (t 1)), .int (nI (t 2)), .int (nI (tn_v tx L en)), .int (nI (tn_v tx L (tn_e tx L en))), .ref (pq 1)])), (pq 1, .inl (k.1 2, 2, .inr (.inr (.inr (.inr (ta_dr (pq 2) (pq 5))))))), (pq 2, .inr (1, [.ref (pq 3), .ref (pq 4), .int (nI (t 5))])), (pq 3, .inl (k.1 0, 8, .inl (ta_e (Y 0)))), (pq 4, .inl (k.1 0, 8, .inl (ta_e (Y 1)))), (pq 5, .inr (1, [.ref (pq 6), .ref (pq 7), .int (nI (t 6))])), (pq 6, .inl (k.1 0, 8, .inl (ta_e (Y 2)))), (pq 7, .inl (k.1 0, 8, .inl (ta_e (Y 3))))] H := hP.sub [8, 9, 10, 0, 1, 2, 3, 4, 5, 6, 7] rfl
        have hD : va_D A [(rd, .inr (4, [.ref (x 0), .ref (pq 0), .int (nI (tn_s tx L (tn_e tx L en))), .int (nI (tn_e tx L (tn_e tx L en))), .int (nI 4294967295), .int (nI cl)])), (x 0, .inr (6, [.ref (x 1), .int (nI L)])), (x 1, .inl (k.1 0, 160, .inl (ta_e tx))), (pq 0, .inr (3, [.int (nI (t 0)), .int (nI (t 1)), .int (nI (t 2)), .int (nI (tn_v tx L en)), .int (nI (tn_v tx L (tn_e tx L en))), .ref (pq 1)])), (pq 1, .inl (k.1 2, 2, .inr (.inr (.inr (.inr (ta_dr (pq 2) (pq 5))))))), (pq 2, .inr (1, [.ref (pq 3), .ref (pq 4), .int (nI (t 5))])), (pq 3, .inl (k.1 0, 8, .inl (ta_e (Y 0)))), (pq 4, .inl (k.1 0, 8, .inl (ta_e (Y 1)))), (pq 5, .inr (1, [.ref (pq 6), .ref (pq 7), .int (nI (t 6))])), (pq 6, .inl (k.1 0, 8, .inl (ta_e (Y 2)))), (pq 7, .inl (k.1 0, 8, .inl (ta_e (Y 3))))] := hD.sub [8, 9, 10, 0, 1, 2, 3, 4, 5, 6, 7] (by decide) rfl
        have hPp : va_P D vwCl [(pq 0, .inr (3, [.int (nI (t 0)), .int (nI (t 1)), .int (nI (t 2)), .int (nI (tn_v tx L en)), .int (nI (tn_v tx L (tn_e tx L en))), .ref (pq 1)])), (pq 1, .inl (k.1 2, 2, .inr (.inr (.inr (.inr (ta_dr (pq 2) (pq 5))))))), (pq 2, .inr (1, [.ref (pq 3), .ref (pq 4), .int (nI (t 5))])), (pq 3, .inl (k.1 0, 8, .inl (ta_e (Y 0)))), (pq 4, .inl (k.1 0, 8, .inl (ta_e (Y 1)))), (pq 5, .inr (1, [.ref (pq 6), .ref (pq 7), .int (nI (t 6))])), (pq 6, .inl (k.1 0, 8, .inl (ta_e (Y 2)))), (pq 7, .inl (k.1 0, 8, .inl (ta_e (Y 3))))] H := hP.sub [3, 4, 5, 6, 7, 8, 9, 10] rfl
        have hP : va_P D vwCl ([(rd, .inr (4, [.ref (x 0), .ref (pq 0), .int (nI (tn_s tx L (tn_e tx L en))), .int (nI (tn_e tx L (tn_e tx L en))), .int (nI 4294967295), .int (nI cl)]))] ++ ((txW k x L tx) ++ (plW k pq (ta_u (ta_u t 3 (tn_v tx L en)) 4 (tn_v tx L (tn_e tx L en))) Y))) H := va_P.app (hP.sub [0] rfl) (va_P.app (hP.sub [1, 2] rfl) (pl_to (t := ta_u (ta_u t 3 (tn_v tx L en)) 4 (tn_v tx L (tn_e tx L en))) ⟨rfl, rfl, rfl, rfl, rfl, rfl, rfl⟩ hPp))
        have hD : va_D A ([(rd, .inr (4, [.ref (x 0), .ref (pq 0), .int (nI (tn_s tx L (tn_e tx L en))), .int (nI (tn_e tx L (tn_e tx L en))), .int (nI 4294967295), .int (nI cl)]))] ++ ((txW k x L tx) ++ (plW k pq (ta_u (ta_u t 3 (tn_v tx L en)) 4 (tn_v tx L (tn_e tx L en))) Y))) := ta_De hD rfl
        have eF : cl_stand tx L en t = (4294967295, tn_e tx L (tn_e tx L en), ta_u (ta_u t 3 (tn_v tx L en)) 4 (tn_v tx L (tn_e tx L en))) := by unfold cl_stand; rw [cl_p hin4, cl_p hin8]
        exact ret (tn_s tx L (tn_e tx L en), tn_e tx L (tn_e tx L en), 4294967295, ta_u (ta_u t 3 (tn_v tx L en)) 4 (tn_v tx L (tn_e tx L en)), Y) dX4_readStand_54 (Or.inl ⟨by rw [eF], rfl, by rw [eF], by rw [eF], by rw [eF]; exact pl_Xk (fun j hj => by show ta_u (ta_u t 3 _) 4 _ j = t j; rw [ta_un (by omega), ta_un (by omega)]) hY⟩) hP hD hS
    · obtain ⟨hin10, rfl, rfl⟩ := h0
      have hP : va_P D vwCl ((plW k pq t Y) ++ ([(rd, .inr (4, [.ref (x 0), .ref (pq 0), .int (nI (tn_s tx L (tn_e tx L en))), .int (nI (tn_e tx L (tn_e tx L en))), .int (nI (tn_s tx L (tn_e tx L en))), .int (nI cl)]))] ++ (txW k x L tx))) H := hP
      have hD : va_D A ((plW k pq t Y) ++ ([(rd, .inr (4, [.ref (x 0), .ref (pq 0), .int (nI (tn_s tx L (tn_e tx L en))), .int (nI (tn_e tx L (tn_e tx L en))), .int (nI (tn_s tx L (tn_e tx L en))), .int (nI cl)]))] ++ (txW k x L tx))) := hD
      obtain ⟨b11, b21, b31, b41⟩ := tn_b (tx := tx) (p := tn_e tx L en) (by omega)
      refine lv_istore_n (lv' := [(2, .int (nI 0)), (1, .int (nI (tn_v tx L en))), (0, .ref rd)]) hx hb dX4_readStand_29 rfl hl (by decide) rfl (fun ls hl => ?_)
      refine lv_aload_n hx hb dX4_readStand_30 rfl (lv_at hl 2 rfl) ?_
      refine ta_get C hP 8 inlX4 rfl rfl 4 (by decide) tw_72 rfl dX4_readStand_31 ?_
      refine ta_iconst C 4294967295 dX4_readStand_34 (by decide) ?_
      refine ta_cne C (a := tn_s tx L (tn_e tx L en)) (b := 4294967295) (tgt := 54) (by omega) (by omega) dX4_readStand_35 (by decide) (fun c11 => ?_) (fun c11 => ?_)
      · have hP : va_P D vwCl ([(rd, .inr (4, [.ref (x 0), .ref (pq 0), .int (nI (tn_s tx L (tn_e tx L en))), .int (nI (tn_e tx L (tn_e tx L en))), .int (nI (tn_s tx L (tn_e tx L en))), .int (nI cl)]))] ++ ((txW k x L tx) ++ (plW k pq t Y))) H := hP.sub [8, 9, 10, 0, 1, 2, 3, 4, 5, 6, 7] rfl
        have hD : va_D A ([(rd, .inr (4, [.ref (x 0), .ref (pq 0), .int (nI (tn_s tx L (tn_e tx L en))), .int (nI (tn_e tx L (tn_e tx L en))), .int (nI (tn_s tx L (tn_e tx L en))), .int (nI cl)]))] ++ ((txW k x L tx) ++ (plW k pq t Y))) := hD.sub [8, 9, 10, 0, 1, 2, 3, 4, 5, 6, 7] (by decide) rfl
        have eF : cl_stand tx L en t = (tn_s tx L (tn_e tx L en), 0, t) := by unfold cl_stand; rw [cl_p hin4, cl_n hin10]
        exact ret (tn_s tx L (tn_e tx L en), tn_e tx L (tn_e tx L en), tn_s tx L (tn_e tx L en), t, Y) dX4_readStand_54 (Or.inr ⟨by rw [eF]; exact Nat.ne_of_lt (show tn_s tx L (tn_e tx L en) < 4294967295 by omega), by rw [eF]⟩) hP hD hS
      · exfalso; omega
  · obtain ⟨hin12, rfl, rfl⟩ := h0
    have hP : va_P D vwCl ((plW k pq t Y) ++ ([(rd, .inr (4, [.ref (x 0), .ref (pq 0), .int (nI (tn_s tx L en)), .int (nI (tn_e tx L en)), .int (nI (tn_s tx L en)), .int (nI cl)]))] ++ (txW k x L tx))) H := hP
    have hD : va_D A ((plW k pq t Y) ++ ([(rd, .inr (4, [.ref (x 0), .ref (pq 0), .int (nI (tn_s tx L en)), .int (nI (tn_e tx L en)), .int (nI (tn_s tx L en)), .int (nI cl)]))] ++ (txW k x L tx))) := hD
    obtain ⟨b10, b20, b30, b40⟩ := tn_b (tx := tx) (p := en) (by omega)
    refine lv_istore_n (lv' := [(1, .int (nI 0)), (0, .ref rd)]) hx hb dX4_readStand_22 rfl hl (by decide) rfl (fun ls hl => ?_)
    refine lv_aload_n hx hb dX4_readStand_23 rfl (lv_at hl 1 rfl) ?_
    refine ta_iconst C 0 dX4_readStand_24 (by decide) ?_
    refine ta_iconst C 3 dX4_readStand_25 (by decide) ?_
    refine ta_callVi (As := [.int (nI 0), .int (nI 3)]) (rest0 := []) (Wr := (plW k pq t Y)) C hP hD hS (c_X4_readNumber_f l D k rd (pq 0) (tn_s tx L en) (tn_e tx L en) (tn_s tx L en) cl x L tx 0 3 (by omega)) 8 rfl rfl rfl [8, 9, 10] [0, 1, 2, 3, 4, 5, 6, 7] rfl rfl (by decide) (by decide) (by decide) tw_257 tw_254 tw_22 tw_255 tw_256 ⟨by decide, by decide, rfl⟩ ⟨Nat.le_of_ble_eq_true rfl, Nat.le_of_ble_eq_true rfl⟩ ⟨Nat.zero_le _, Nat.zero_le _⟩ hl.1 rfl (Nat.le_of_ble_eq_true rfl) dX4_readStand_26 (fun r13 u14 H locs h15 hP hD hS => ?_)
    obtain rfl := h15
    have hP : va_P D vwCl ((plW k pq t Y) ++ ([(rd, .inr (4, [.ref (x 0), .ref (pq 0), .int (nI (tn_s tx L en)), .int (nI (tn_e tx L en)), .int (nI (tn_s tx L en)), .int (nI cl)]))] ++ (txW k x L tx))) H := hP
    have hD : va_D A ((plW k pq t Y) ++ ([(rd, .inr (4, [.ref (x 0), .ref (pq 0), .int (nI (tn_s tx L en)), .int (nI (tn_e tx L en)), .int (nI (tn_s tx L en)), .int (nI cl)]))] ++ (txW k x L tx))) := hD
    refine lv_istore_n (lv' := [(2, .int (nI 0)), (1, .int (nI 0)), (0, .ref rd)]) hx hb dX4_readStand_29 rfl hl (by decide) rfl (fun ls hl => ?_)
    refine lv_aload_n hx hb dX4_readStand_30 rfl (lv_at hl 2 rfl) ?_
    refine ta_get C hP 8 inlX4 rfl rfl 4 (by decide) tw_72 rfl dX4_readStand_31 ?_
    refine ta_iconst C 4294967295 dX4_readStand_34 (by decide) ?_
    refine ta_cne C (a := tn_s tx L en) (b := 4294967295) (tgt := 54) (by omega) (by omega) dX4_readStand_35 (by decide) (fun c16 => ?_) (fun c16 => ?_)
    · have hP : va_P D vwCl ([(rd, .inr (4, [.ref (x 0), .ref (pq 0), .int (nI (tn_s tx L en)), .int (nI (tn_e tx L en)), .int (nI (tn_s tx L en)), .int (nI cl)]))] ++ ((txW k x L tx) ++ (plW k pq t Y))) H := hP.sub [8, 9, 10, 0, 1, 2, 3, 4, 5, 6, 7] rfl
      have hD : va_D A ([(rd, .inr (4, [.ref (x 0), .ref (pq 0), .int (nI (tn_s tx L en)), .int (nI (tn_e tx L en)), .int (nI (tn_s tx L en)), .int (nI cl)]))] ++ ((txW k x L tx) ++ (plW k pq t Y))) := hD.sub [8, 9, 10, 0, 1, 2, 3, 4, 5, 6, 7] (by decide) rfl
      have eF : cl_stand tx L en t = (tn_s tx L en, 0, t) := by unfold cl_stand; rw [cl_n hin12]
      exact ret (tn_s tx L en, tn_e tx L en, tn_s tx L en, t, Y) dX4_readStand_54 (Or.inr ⟨by rw [eF]; exact Nat.ne_of_lt (show tn_s tx L en < 4294967295 by omega), by rw [eF]⟩) hP hD hS
    · exfalso; omega

set_option maxHeartbeats 4000000 in
set_option maxRecDepth 100000 in
theorem c_X4_readHour (l : Launch) (D : va_G) (k : ta_C) (rd : Nat) (pq : Nat → Nat) (st0 : Nat) (en : Nat) (cl : Nat) (x : Nat → Nat) (L : Nat) (tx : Nat → Nat) (t : Nat → Nat) (Y : Nat → Nat → Nat) (hx0 : tx_ok tx L) (hen : en ≤ L) (hpl : pl_ok t) (hY : pl_X t Y) : ta_Mv (S := Nat × Nat × Nat × (Nat → Nat) × (Nat → Nat → Nat)) l D k yX4_readHour cX4_readHour 2 3 120 [.ref rd] ([(rd, .inr (4, [.ref (x 0), .ref (pq 0), .int (nI st0), .int (nI en), .int (nI 4294967295), .int (nI cl)]))] ++ ((txW k x L tx) ++ (plW k pq t Y))) (fun u => cl_post (cl_hour tx L en t) u) (fun u => ([(rd, .inr (4, [.ref (x 0), .ref (pq 0), .int (nI u.1), .int (nI u.2.1), .int (nI u.2.2.1), .int (nI cl)]))] ++ ((txW k x L tx) ++ (plW k pq u.2.2.2.1 u.2.2.2.2)))) := by
  refine ta_enter_v (by decide) (Nat.le_of_ble_eq_true rfl) ?_
  intro p e s m below meth c A ls Q C ret hP hD hS hl
  have C : ta_At p l D k s m ([.ref rd] : List Value).toArray c RX4 cX4_readHour 2 A := C
  have hx := C.1.1
  have hb := C.1.2.1
  have hl : lv_has ls 2 [(0, .ref rd)] := hl
  obtain ⟨H, hH⟩ : ∃ H, H = s.heap := ⟨_, rfl⟩
  obtain ⟨locs, hlocs⟩ : ∃ q : List Loc, q = [] := ⟨_, rfl⟩
  have hP : va_P D vwCl ([(rd, .inr (4, [.ref (x 0), .ref (pq 0), .int (nI st0), .int (nI en), .int (nI 4294967295), .int (nI cl)]))] ++ ((txW k x L tx) ++ (plW k pq t Y))) H := by rw [hH]; exact hP
  have hS : va_S A s.heap H locs := by rw [hH, hlocs]; exact hS
  rw [← hlocs]
  suffices hgoal : W p l e ({ frames := 3, cells := 0, slots := 0, locals := 120 }) s m ([.ref rd] : List Value).toArray below meth c H locs 0 0 Q (F0 m 0 ls []) by rw [hH] at hgoal; exact hgoal
  clear hH hlocs
  obtain ⟨hL, hc⟩ := id hx0
  obtain ⟨⟨a1, a2, a3, a4, a5, a6⟩, pp3, pp4, pp5, pp6, pp7, pp8⟩ := id hpl
  refine lv_aload_n hx hb dX4_readHour_0 rfl (lv_at hl 0 rfl) ?_
  refine ta_iconst C 2 dX4_readHour_1 (by decide) ?_
  refine ta_bipush C 9 dX4_readHour_2 (by decide) ?_
  refine ta_callVi (As := [.int (nI 2), .int (nI 9)]) (rest0 := []) (Wr := (plW k pq t Y)) C hP hD hS (c_X4_readNumber l D k rd (pq 0) st0 en cl x L tx 2 9 hx0 (by omega) ⟨by omega, by omega⟩) 0 rfl rfl rfl [0, 1, 2] [3, 4, 5, 6, 7, 8, 9, 10] rfl rfl (by decide) (by decide) (by decide) tw_257 tw_254 tw_22 tw_255 tw_256 ⟨by decide, by decide, rfl⟩ ⟨Nat.le_of_ble_eq_true rfl, Nat.le_of_ble_eq_true rfl⟩ ⟨Nat.zero_le _, Nat.zero_le _⟩ hl.1 rfl (Nat.le_of_ble_eq_true rfl) dX4_readHour_4 (fun r1 u2 H locs h3 hP hD hS => ?_)
  rcases h3 with h0 | h0
  · obtain ⟨hin4, rfl, rfl⟩ := h0
    have hP : va_P D vwCl ((plW k pq t Y) ++ ([(rd, .inr (4, [.ref (x 0), .ref (pq 0), .int (nI (tn_s tx L en)), .int (nI (tn_e tx L en)), .int (nI 4294967295), .int (nI cl)]))] ++ (txW k x L tx))) H := hP
    have hD : va_D A ((plW k pq t Y) ++ ([(rd, .inr (4, [.ref (x 0), .ref (pq 0), .int (nI (tn_s tx L en)), .int (nI (tn_e tx L en)), .int (nI 4294967295), .int (nI cl)]))] ++ (txW k x L tx))) := hD
    obtain ⟨b10, b20, b30, b40⟩ := tn_b (tx := tx) (p := en) (by omega)
    refine lv_istore_n (lv' := [(1, .int (nI (tn_v tx L en))), (0, .ref rd)]) hx hb dX4_readHour_7 rfl hl (by decide) rfl (fun ls hl => ?_)
    refine lv_aload_n hx hb dX4_readHour_8 rfl (lv_at hl 1 rfl) ?_
    refine ta_get C hP 8 inlX4 rfl rfl 4 (by decide) tw_72 rfl dX4_readHour_9 ?_
    refine ta_iconst C 4294967295 dX4_readHour_12 (by decide) ?_
    refine lv_icmp_ne (tgt := 24) hx hb dX4_readHour_13 (by decide) (fun c5 => ?_) (fun c5 => ?_)
    · exact absurd c5 (by decide)
    · refine lv_aload_n hx hb dX4_readHour_16 rfl (lv_at hl 1 rfl) ?_
      refine ta_get C hP 8 inlX4 rfl rfl 1 (by decide) tw_69 rfl dX4_readHour_17 ?_
      refine lv_iload_n hx hb dX4_readHour_20 rfl (lv_at hl 0 rfl) ?_
      refine ta_putN C hP hD hS 0 inlX3 tyX3 tyX3_ok nmX3 rfl rfl 2 (by decide) 15 rfl rfl rfl rfl (Nat.le_of_ble_eq_true rfl) dX4_readHour_21 (fun H locs hP hD hS => ?_)
      have hP : va_P D vwCl ([(pq 0, .inr (3, [.int (nI (t 0)), .int (nI (t 1)), .int (nI (tn_v tx L en)), .int (nI (t 3)), .int (nI (t 4)), .ref (pq 1)])), (pq 1, .inl (k.1 2, 2, .inr (.inr (.inr (.inr (ta_dr (pq 2) (pq 5))))))), (pq 2, .inr (1, [.ref (pq 3), .ref (pq 4), .int (nI (t 5))])), (pq 3, .inl (k.1 0, 8, .inl (ta_e (Y 0)))), (pq 4, .inl (k.1 0, 8, .inl (ta_e (Y 1)))), (pq 5, .inr (1, [.ref (pq 6), .ref (pq 7), .int (nI (t 6))])), (pq 6, .inl (k.1 0, 8, .inl (ta_e (Y 2)))), (pq 7, .inl (k.1 0, 8, .inl (ta_e (Y 3)))), (rd, .inr (4, [.ref (x 0), .ref (pq 0), .int (nI (tn_s tx L en)), .int (nI (tn_e tx L en)), .int (nI 4294967295), .int (nI cl)]))] ++ (txW k x L tx)) H := hP
      have hD : va_D A ([(pq 0, .inr (3, [.int (nI (t 0)), .int (nI (t 1)), .int (nI (tn_v tx L en)), .int (nI (t 3)), .int (nI (t 4)), .ref (pq 1)])), (pq 1, .inl (k.1 2, 2, .inr (.inr (.inr (.inr (ta_dr (pq 2) (pq 5))))))), (pq 2, .inr (1, [.ref (pq 3), .ref (pq 4), .int (nI (t 5))])), (pq 3, .inl (k.1 0, 8, .inl (ta_e (Y 0)))), (pq 4, .inl (k.1 0, 8, .inl (ta_e (Y 1)))), (pq 5, .inr (1, [.ref (pq 6), .ref (pq 7), .int (nI (t 6))])), (pq 6, .inl (k.1 0, 8, .inl (ta_e (Y 2)))), (pq 7, .inl (k.1 0, 8, .inl (ta_e (Y 3)))), (rd, .inr (4, [.ref (x 0), .ref (pq 0), .int (nI (tn_s tx L en)), .int (nI (tn_e tx L en)), .int (nI 4294967295), .int (nI cl)]))] ++ (txW k x L tx)) := hD
      have hP : va_P D vwCl [(rd, .inr (4, [.ref (x 0), .ref (pq 0), .int (nI (tn_s tx L en)), .int (nI (tn_e tx L en)), .int (nI 4294967295), .int (nI cl)])), (x 0, .inr (6, [.ref (x 1), .int (nI L)])), (x 1, .inl (k.1 0, 160, .inl (ta_e tx))), (pq 0, .inr (3, [.int (nI (t 0)), .int (nI (t 1)), .int (nI (tn_v tx L en)), .int (nI (t 3)), .int (nI (t 4)), .ref (pq 1)])), (pq 1, .inl (k.1 2, 2, .inr (.inr (.inr (.inr (ta_dr (pq 2) (pq 5))))))), (pq 2, .inr (1, [.ref (pq 3), .ref (pq 4), .int (nI (t 5))])), (pq 3, .inl (k.1 0, 8, .inl (ta_e (Y 0)))), (pq 4, .inl (k.1 0, 8, .inl (ta_e (Y 1)))), (pq 5, .inr (1, [.ref (pq 6), .ref (pq 7), .int (nI (t 6))])), (pq 6, .inl (k.1 0, 8, .inl (ta_e (Y 2)))), (pq 7, .inl (k.1 0, 8, .inl (ta_e (Y 3))))] H := hP.sub [8, 9, 10, 0, 1, 2, 3, 4, 5, 6, 7] rfl
      have hD : va_D A [(rd, .inr (4, [.ref (x 0), .ref (pq 0), .int (nI (tn_s tx L en)), .int (nI (tn_e tx L en)), .int (nI 4294967295), .int (nI cl)])), (x 0, .inr (6, [.ref (x 1), .int (nI L)])), (x 1, .inl (k.1 0, 160, .inl (ta_e tx))), (pq 0, .inr (3, [.int (nI (t 0)), .int (nI (t 1)), .int (nI (tn_v tx L en)), .int (nI (t 3)), .int (nI (t 4)), .ref (pq 1)])), (pq 1, .inl (k.1 2, 2, .inr (.inr (.inr (.inr (ta_dr (pq 2) (pq 5))))))), (pq 2, .inr (1, [.ref (pq 3), .ref (pq 4), .int (nI (t 5))])), (pq 3, .inl (k.1 0, 8, .inl (ta_e (Y 0)))), (pq 4, .inl (k.1 0, 8, .inl (ta_e (Y 1)))), (pq 5, .inr (1, [.ref (pq 6), .ref (pq 7), .int (nI (t 6))])), (pq 6, .inl (k.1 0, 8, .inl (ta_e (Y 2)))), (pq 7, .inl (k.1 0, 8, .inl (ta_e (Y 3))))] := hD.sub [8, 9, 10, 0, 1, 2, 3, 4, 5, 6, 7] (by decide) rfl
      have hPp : va_P D vwCl [(pq 0, .inr (3, [.int (nI (t 0)), .int (nI (t 1)), .int (nI (tn_v tx L en)), .int (nI (t 3)), .int (nI (t 4)), .ref (pq 1)])), (pq 1, .inl (k.1 2, 2, .inr (.inr (.inr (.inr (ta_dr (pq 2) (pq 5))))))), (pq 2, .inr (1, [.ref (pq 3), .ref (pq 4), .int (nI (t 5))])), (pq 3, .inl (k.1 0, 8, .inl (ta_e (Y 0)))), (pq 4, .inl (k.1 0, 8, .inl (ta_e (Y 1)))), (pq 5, .inr (1, [.ref (pq 6), .ref (pq 7), .int (nI (t 6))])), (pq 6, .inl (k.1 0, 8, .inl (ta_e (Y 2)))), (pq 7, .inl (k.1 0, 8, .inl (ta_e (Y 3))))] H := hP.sub [3, 4, 5, 6, 7, 8, 9, 10] rfl
      have hP : va_P D vwCl ([(rd, .inr (4, [.ref (x 0), .ref (pq 0), .int (nI (tn_s tx L en)), .int (nI (tn_e tx L en)), .int (nI 4294967295), .int (nI cl)]))] ++ ((txW k x L tx) ++ (plW k pq (ta_u t 2 (tn_v tx L en)) Y))) H := va_P.app (hP.sub [0] rfl) (va_P.app (hP.sub [1, 2] rfl) (pl_to (t := ta_u t 2 (tn_v tx L en)) ⟨rfl, rfl, rfl, rfl, rfl, rfl, rfl⟩ hPp))
      have hD : va_D A ([(rd, .inr (4, [.ref (x 0), .ref (pq 0), .int (nI (tn_s tx L en)), .int (nI (tn_e tx L en)), .int (nI 4294967295), .int (nI cl)]))] ++ ((txW k x L tx) ++ (plW k pq (ta_u t 2 (tn_v tx L en)) Y))) := ta_De hD rfl
      have eF : cl_hour tx L en t = (4294967295, tn_e tx L en, ta_u t 2 (tn_v tx L en)) := by unfold cl_hour; rw [cl_p hin4]
      exact ret (tn_s tx L en, tn_e tx L en, 4294967295, ta_u t 2 (tn_v tx L en), Y) dX4_readHour_24 (Or.inl ⟨by rw [eF], rfl, by rw [eF], by rw [eF], by rw [eF]; exact pl_Xk (fun j hj => ta_un (by omega)) hY⟩) hP hD hS
  · obtain ⟨hin6, rfl, rfl⟩ := h0
    have hP : va_P D vwCl ((plW k pq t Y) ++ ([(rd, .inr (4, [.ref (x 0), .ref (pq 0), .int (nI (tn_s tx L en)), .int (nI (tn_e tx L en)), .int (nI (tn_s tx L en)), .int (nI cl)]))] ++ (txW k x L tx))) H := hP
    have hD : va_D A ((plW k pq t Y) ++ ([(rd, .inr (4, [.ref (x 0), .ref (pq 0), .int (nI (tn_s tx L en)), .int (nI (tn_e tx L en)), .int (nI (tn_s tx L en)), .int (nI cl)]))] ++ (txW k x L tx))) := hD
    obtain ⟨b10, b20, b30, b40⟩ := tn_b (tx := tx) (p := en) (by omega)
    refine lv_istore_n (lv' := [(1, .int (nI 2)), (0, .ref rd)]) hx hb dX4_readHour_7 rfl hl (by decide) rfl (fun ls hl => ?_)
    refine lv_aload_n hx hb dX4_readHour_8 rfl (lv_at hl 1 rfl) ?_
    refine ta_get C hP 8 inlX4 rfl rfl 4 (by decide) tw_72 rfl dX4_readHour_9 ?_
    refine ta_iconst C 4294967295 dX4_readHour_12 (by decide) ?_
    refine ta_cne C (a := tn_s tx L en) (b := 4294967295) (tgt := 24) (by omega) (by omega) dX4_readHour_13 (by decide) (fun c7 => ?_) (fun c7 => ?_)
    · have hP : va_P D vwCl ([(rd, .inr (4, [.ref (x 0), .ref (pq 0), .int (nI (tn_s tx L en)), .int (nI (tn_e tx L en)), .int (nI (tn_s tx L en)), .int (nI cl)]))] ++ ((txW k x L tx) ++ (plW k pq t Y))) H := hP.sub [8, 9, 10, 0, 1, 2, 3, 4, 5, 6, 7] rfl
      have hD : va_D A ([(rd, .inr (4, [.ref (x 0), .ref (pq 0), .int (nI (tn_s tx L en)), .int (nI (tn_e tx L en)), .int (nI (tn_s tx L en)), .int (nI cl)]))] ++ ((txW k x L tx) ++ (plW k pq t Y))) := hD.sub [8, 9, 10, 0, 1, 2, 3, 4, 5, 6, 7] (by decide) rfl
      have eF : cl_hour tx L en t = (tn_s tx L en, 0, t) := by unfold cl_hour; rw [cl_n hin6]
      exact ret (tn_s tx L en, tn_e tx L en, tn_s tx L en, t, Y) dX4_readHour_24 (Or.inr ⟨by rw [eF]; exact Nat.ne_of_lt (show tn_s tx L en < 4294967295 by omega), by rw [eF]⟩) hP hD hS
    · exfalso; omega

set_option maxHeartbeats 4000000 in
set_option maxRecDepth 100000 in
theorem c_X4_readRest (l : Launch) (D : va_G) (k : ta_C) (rd : Nat) (pq : Nat → Nat) (st0 : Nat) (en : Nat) (cl : Nat) (x : Nat → Nat) (L : Nat) (tx : Nat → Nat) (t : Nat → Nat) (Y : Nat → Nat → Nat) (hx0 : tx_ok tx L) (hen : en ≤ L) (hpl : pl_ok t) (hY : pl_X t Y) : ta_Mv (S := Nat × Nat × Nat × (Nat → Nat) × (Nat → Nat → Nat)) l D k yX4_readRest cX4_readRest 2 3 120 [.ref rd] ([(rd, .inr (4, [.ref (x 0), .ref (pq 0), .int (nI st0), .int (nI en), .int (nI 4294967295), .int (nI cl)]))] ++ ((txW k x L tx) ++ (plW k pq t Y))) (fun u => cl_post (cl_rest tx L en t) u) (fun u => ([(rd, .inr (4, [.ref (x 0), .ref (pq 0), .int (nI u.1), .int (nI u.2.1), .int (nI u.2.2.1), .int (nI cl)]))] ++ ((txW k x L tx) ++ (plW k pq u.2.2.2.1 u.2.2.2.2)))) := by
  refine ta_enter_v (by decide) (Nat.le_of_ble_eq_true rfl) ?_
  intro p e s m below meth c A ls Q C ret hP hD hS hl
  have C : ta_At p l D k s m ([.ref rd] : List Value).toArray c RX4 cX4_readRest 2 A := C
  have hx := C.1.1
  have hb := C.1.2.1
  have hl : lv_has ls 2 [(0, .ref rd)] := hl
  obtain ⟨H, hH⟩ : ∃ H, H = s.heap := ⟨_, rfl⟩
  obtain ⟨locs, hlocs⟩ : ∃ q : List Loc, q = [] := ⟨_, rfl⟩
  have hP : va_P D vwCl ([(rd, .inr (4, [.ref (x 0), .ref (pq 0), .int (nI st0), .int (nI en), .int (nI 4294967295), .int (nI cl)]))] ++ ((txW k x L tx) ++ (plW k pq t Y))) H := by rw [hH]; exact hP
  have hS : va_S A s.heap H locs := by rw [hH, hlocs]; exact hS
  rw [← hlocs]
  suffices hgoal : W p l e ({ frames := 3, cells := 0, slots := 0, locals := 120 }) s m ([.ref rd] : List Value).toArray below meth c H locs 0 0 Q (F0 m 0 ls []) by rw [hH] at hgoal; exact hgoal
  clear hH hlocs
  obtain ⟨hL, hc⟩ := id hx0
  obtain ⟨⟨a1, a2, a3, a4, a5, a6⟩, pp3, pp4, pp5, pp6, pp7, pp8⟩ := id hpl
  refine lv_aload_n hx hb dX4_readRest_0 rfl (lv_at hl 0 rfl) ?_
  refine ta_iconst C 0 dX4_readRest_1 (by decide) ?_
  refine ta_iconst C 1 dX4_readRest_2 (by decide) ?_
  refine ta_callVi (As := [.int (nI 0), .int (nI 1)]) (rest0 := []) (Wr := (plW k pq t Y)) C hP hD hS (c_X4_readNumber l D k rd (pq 0) st0 en cl x L tx 0 1 hx0 (by omega) ⟨by omega, by omega⟩) 0 rfl rfl rfl [0, 1, 2] [3, 4, 5, 6, 7, 8, 9, 10] rfl rfl (by decide) (by decide) (by decide) tw_257 tw_254 tw_22 tw_255 tw_256 ⟨by decide, by decide, rfl⟩ ⟨Nat.le_of_ble_eq_true rfl, Nat.le_of_ble_eq_true rfl⟩ ⟨Nat.zero_le _, Nat.zero_le _⟩ hl.1 rfl (Nat.le_of_ble_eq_true rfl) dX4_readRest_3 (fun r1 u2 H locs h3 hP hD hS => ?_)
  rcases h3 with h0 | h0
  · obtain ⟨hin4, rfl, rfl⟩ := h0
    have hP : va_P D vwCl ((plW k pq t Y) ++ ([(rd, .inr (4, [.ref (x 0), .ref (pq 0), .int (nI (tn_s tx L en)), .int (nI (tn_e tx L en)), .int (nI 4294967295), .int (nI cl)]))] ++ (txW k x L tx))) H := hP
    have hD : va_D A ((plW k pq t Y) ++ ([(rd, .inr (4, [.ref (x 0), .ref (pq 0), .int (nI (tn_s tx L en)), .int (nI (tn_e tx L en)), .int (nI 4294967295), .int (nI cl)]))] ++ (txW k x L tx))) := hD
    obtain ⟨b10, b20, b30, b40⟩ := tn_b (tx := tx) (p := en) (by omega)
    refine lv_istore_n (lv' := [(1, .int (nI (tn_v tx L en))), (0, .ref rd)]) hx hb dX4_readRest_6 rfl hl (by decide) rfl (fun ls hl => ?_)
    refine lv_aload_n hx hb dX4_readRest_7 rfl (lv_at hl 1 rfl) ?_
    refine ta_get C hP 8 inlX4 rfl rfl 4 (by decide) tw_72 rfl dX4_readRest_8 ?_
    refine ta_iconst C 4294967295 dX4_readRest_11 (by decide) ?_
    refine lv_icmp_ne (tgt := 28) hx hb dX4_readRest_12 (by decide) (fun c5 => ?_) (fun c5 => ?_)
    · exact absurd c5 (by decide)
    · have hin := cl_in_iff.mp hin4
      obtain ⟨a, ha⟩ : ∃ a, a = tn_v tx L en := ⟨_, rfl⟩
      rw [← ha] at hin hl
      rcases (show a = 0 ∨ a = 1 by omega) with rfl | rfl
      · refine lv_aload_n hx hb dX4_readRest_15 rfl (lv_at hl 1 rfl) ?_
        refine ta_get C hP 8 inlX4 rfl rfl 1 (by decide) tw_69 rfl dX4_readRest_16 ?_
        refine ta_getN C hP 0 inlX3 rfl rfl 5 (by decide) 21 rfl rfl dX4_readRest_19 ?_
        refine lv_iload_n hx hb dX4_readRest_22 rfl (lv_at hl 0 rfl) ?_
        refine ta_aald C hP 1 2 rfl rfl (i := 0) (x := pq 2) (by omega) rfl dX4_readRest_23 ?_
        refine ta_iconst C 0 dX4_readRest_24 (by decide) ?_
        refine ta_putN C hP hD hS 2 inlX1 tyX1 tyX1_ok nmX1 rfl rfl 2 (by decide) 8 rfl rfl rfl rfl (Nat.le_of_ble_eq_true rfl) dX4_readRest_25 (fun H locs hP hD hS => ?_)
        have hP : va_P D vwCl ([(pq 0, .inr (3, [.int (nI (t 0)), .int (nI (t 1)), .int (nI (t 2)), .int (nI (t 3)), .int (nI (t 4)), .ref (pq 1)])), (pq 1, .inl (k.1 2, 2, .inr (.inr (.inr (.inr (ta_dr (pq 2) (pq 5))))))), (pq 2, .inr (1, [.ref (pq 3), .ref (pq 4), .int (nI 0)])), (pq 3, .inl (k.1 0, 8, .inl (ta_e (Y 0)))), (pq 4, .inl (k.1 0, 8, .inl (ta_e (Y 1)))), (pq 5, .inr (1, [.ref (pq 6), .ref (pq 7), .int (nI (t 6))])), (pq 6, .inl (k.1 0, 8, .inl (ta_e (Y 2)))), (pq 7, .inl (k.1 0, 8, .inl (ta_e (Y 3)))), (rd, .inr (4, [.ref (x 0), .ref (pq 0), .int (nI (tn_s tx L en)), .int (nI (tn_e tx L en)), .int (nI 4294967295), .int (nI cl)]))] ++ (txW k x L tx)) H := hP
        have hD : va_D A ([(pq 0, .inr (3, [.int (nI (t 0)), .int (nI (t 1)), .int (nI (t 2)), .int (nI (t 3)), .int (nI (t 4)), .ref (pq 1)])), (pq 1, .inl (k.1 2, 2, .inr (.inr (.inr (.inr (ta_dr (pq 2) (pq 5))))))), (pq 2, .inr (1, [.ref (pq 3), .ref (pq 4), .int (nI 0)])), (pq 3, .inl (k.1 0, 8, .inl (ta_e (Y 0)))), (pq 4, .inl (k.1 0, 8, .inl (ta_e (Y 1)))), (pq 5, .inr (1, [.ref (pq 6), .ref (pq 7), .int (nI (t 6))])), (pq 6, .inl (k.1 0, 8, .inl (ta_e (Y 2)))), (pq 7, .inl (k.1 0, 8, .inl (ta_e (Y 3)))), (rd, .inr (4, [.ref (x 0), .ref (pq 0), .int (nI (tn_s tx L en)), .int (nI (tn_e tx L en)), .int (nI 4294967295), .int (nI cl)]))] ++ (txW k x L tx)) := hD
        have hP : va_P D vwCl [(rd, .inr (4, [.ref (x 0), .ref (pq 0), .int (nI (tn_s tx L en)), .int (nI (tn_e tx L en)), .int (nI 4294967295), .int (nI cl)])), (x 0, .inr (6, [.ref (x 1), .int (nI L)])), (x 1, .inl (k.1 0, 160, .inl (ta_e tx))), (pq 0, .inr (3, [.int (nI (t 0)), .int (nI (t 1)), .int (nI (t 2)), .int (nI (t 3)), .int (nI (t 4)), .ref (pq 1)])), (pq 1, .inl (k.1 2, 2, .inr (.inr (.inr (.inr (ta_dr (pq 2) (pq 5))))))), (pq 2, .inr (1, [.ref (pq 3), .ref (pq 4), .int (nI 0)])), (pq 3, .inl (k.1 0, 8, .inl (ta_e (Y 0)))), (pq 4, .inl (k.1 0, 8, .inl (ta_e (Y 1)))), (pq 5, .inr (1, [.ref (pq 6), .ref (pq 7), .int (nI (t 6))])), (pq 6, .inl (k.1 0, 8, .inl (ta_e (Y 2)))), (pq 7, .inl (k.1 0, 8, .inl (ta_e (Y 3))))] H := hP.sub [8, 9, 10, 0, 1, 2, 3, 4, 5, 6, 7] rfl
        have hD : va_D A [(rd, .inr (4, [.ref (x 0), .ref (pq 0), .int (nI (tn_s tx L en)), .int (nI (tn_e tx L en)), .int (nI 4294967295), .int (nI cl)])), (x 0, .inr (6, [.ref (x 1), .int (nI L)])), (x 1, .inl (k.1 0, 160, .inl (ta_e tx))), (pq 0, .inr (3, [.int (nI (t 0)), .int (nI (t 1)), .int (nI (t 2)), .int (nI (t 3)), .int (nI (t 4)), .ref (pq 1)])), (pq 1, .inl (k.1 2, 2, .inr (.inr (.inr (.inr (ta_dr (pq 2) (pq 5))))))), (pq 2, .inr (1, [.ref (pq 3), .ref (pq 4), .int (nI 0)])), (pq 3, .inl (k.1 0, 8, .inl (ta_e (Y 0)))), (pq 4, .inl (k.1 0, 8, .inl (ta_e (Y 1)))), (pq 5, .inr (1, [.ref (pq 6), .ref (pq 7), .int (nI (t 6))])), (pq 6, .inl (k.1 0, 8, .inl (ta_e (Y 2)))), (pq 7, .inl (k.1 0, 8, .inl (ta_e (Y 3))))] := hD.sub [8, 9, 10, 0, 1, 2, 3, 4, 5, 6, 7] (by decide) rfl
        have hPp : va_P D vwCl [(pq 0, .inr (3, [.int (nI (t 0)), .int (nI (t 1)), .int (nI (t 2)), .int (nI (t 3)), .int (nI (t 4)), .ref (pq 1)])), (pq 1, .inl (k.1 2, 2, .inr (.inr (.inr (.inr (ta_dr (pq 2) (pq 5))))))), (pq 2, .inr (1, [.ref (pq 3), .ref (pq 4), .int (nI 0)])), (pq 3, .inl (k.1 0, 8, .inl (ta_e (Y 0)))), (pq 4, .inl (k.1 0, 8, .inl (ta_e (Y 1)))), (pq 5, .inr (1, [.ref (pq 6), .ref (pq 7), .int (nI (t 6))])), (pq 6, .inl (k.1 0, 8, .inl (ta_e (Y 2)))), (pq 7, .inl (k.1 0, 8, .inl (ta_e (Y 3))))] H := hP.sub [3, 4, 5, 6, 7, 8, 9, 10] rfl
        have hP : va_P D vwCl ([(rd, .inr (4, [.ref (x 0), .ref (pq 0), .int (nI (tn_s tx L en)), .int (nI (tn_e tx L en)), .int (nI 4294967295), .int (nI cl)]))] ++ ((txW k x L tx) ++ (plW k pq (ta_u t 5 0) Y))) H := va_P.app (hP.sub [0] rfl) (va_P.app (hP.sub [1, 2] rfl) (pl_to (t := ta_u t 5 0) ⟨rfl, rfl, rfl, rfl, rfl, rfl, rfl⟩ hPp))
        have hD : va_D A ([(rd, .inr (4, [.ref (x 0), .ref (pq 0), .int (nI (tn_s tx L en)), .int (nI (tn_e tx L en)), .int (nI 4294967295), .int (nI cl)]))] ++ ((txW k x L tx) ++ (plW k pq (ta_u t 5 0) Y))) := ta_De hD rfl
        have eF : cl_rest tx L en t = (4294967295, tn_e tx L en, ta_u t 5 0) := by unfold cl_rest; rw [cl_p hin4, ← ha]
        exact ret (tn_s tx L en, tn_e tx L en, 4294967295, ta_u t 5 0, Y) dX4_readRest_28 (Or.inl ⟨by rw [eF], rfl, by rw [eF], by rw [eF], by rw [eF]; exact pl_Xr0 hY⟩) hP hD hS
      · refine lv_aload_n hx hb dX4_readRest_15 rfl (lv_at hl 1 rfl) ?_
        refine ta_get C hP 8 inlX4 rfl rfl 1 (by decide) tw_69 rfl dX4_readRest_16 ?_
        refine ta_getN C hP 0 inlX3 rfl rfl 5 (by decide) 21 rfl rfl dX4_readRest_19 ?_
        refine lv_iload_n hx hb dX4_readRest_22 rfl (lv_at hl 0 rfl) ?_
        refine ta_aald C hP 1 2 rfl rfl (i := 1) (x := pq 5) (by omega) rfl dX4_readRest_23 ?_
        refine ta_iconst C 0 dX4_readRest_24 (by decide) ?_
        refine ta_putN C hP hD hS 5 inlX1 tyX1 tyX1_ok nmX1 rfl rfl 2 (by decide) 8 rfl rfl rfl rfl (Nat.le_of_ble_eq_true rfl) dX4_readRest_25 (fun H locs hP hD hS => ?_)
        have hP : va_P D vwCl ([(pq 0, .inr (3, [.int (nI (t 0)), .int (nI (t 1)), .int (nI (t 2)), .int (nI (t 3)), .int (nI (t 4)), .ref (pq 1)])), (pq 1, .inl (k.1 2, 2, .inr (.inr (.inr (.inr (ta_dr (pq 2) (pq 5))))))), (pq 2, .inr (1, [.ref (pq 3), .ref (pq 4), .int (nI (t 5))])), (pq 3, .inl (k.1 0, 8, .inl (ta_e (Y 0)))), (pq 4, .inl (k.1 0, 8, .inl (ta_e (Y 1)))), (pq 5, .inr (1, [.ref (pq 6), .ref (pq 7), .int (nI 0)])), (pq 6, .inl (k.1 0, 8, .inl (ta_e (Y 2)))), (pq 7, .inl (k.1 0, 8, .inl (ta_e (Y 3)))), (rd, .inr (4, [.ref (x 0), .ref (pq 0), .int (nI (tn_s tx L en)), .int (nI (tn_e tx L en)), .int (nI 4294967295), .int (nI cl)]))] ++ (txW k x L tx)) H := hP
        have hD : va_D A ([(pq 0, .inr (3, [.int (nI (t 0)), .int (nI (t 1)), .int (nI (t 2)), .int (nI (t 3)), .int (nI (t 4)), .ref (pq 1)])), (pq 1, .inl (k.1 2, 2, .inr (.inr (.inr (.inr (ta_dr (pq 2) (pq 5))))))), (pq 2, .inr (1, [.ref (pq 3), .ref (pq 4), .int (nI (t 5))])), (pq 3, .inl (k.1 0, 8, .inl (ta_e (Y 0)))), (pq 4, .inl (k.1 0, 8, .inl (ta_e (Y 1)))), (pq 5, .inr (1, [.ref (pq 6), .ref (pq 7), .int (nI 0)])), (pq 6, .inl (k.1 0, 8, .inl (ta_e (Y 2)))), (pq 7, .inl (k.1 0, 8, .inl (ta_e (Y 3)))), (rd, .inr (4, [.ref (x 0), .ref (pq 0), .int (nI (tn_s tx L en)), .int (nI (tn_e tx L en)), .int (nI 4294967295), .int (nI cl)]))] ++ (txW k x L tx)) := hD
        have hP : va_P D vwCl [(rd, .inr (4, [.ref (x 0), .ref (pq 0), .int (nI (tn_s tx L en)), .int (nI (tn_e tx L en)), .int (nI 4294967295), .int (nI cl)])), (x 0, .inr (6, [.ref (x 1), .int (nI L)])), (x 1, .inl (k.1 0, 160, .inl (ta_e tx))), (pq 0, .inr (3, [.int (nI (t 0)), .int (nI (t 1)), .int (nI (t 2)), .int (nI (t 3)), .int (nI (t 4)), .ref (pq 1)])), (pq 1, .inl (k.1 2, 2, .inr (.inr (.inr (.inr (ta_dr (pq 2) (pq 5))))))), (pq 2, .inr (1, [.ref (pq 3), .ref (pq 4), .int (nI (t 5))])), (pq 3, .inl (k.1 0, 8, .inl (ta_e (Y 0)))), (pq 4, .inl (k.1 0, 8, .inl (ta_e (Y 1)))), (pq 5, .inr (1, [.ref (pq 6), .ref (pq 7), .int (nI 0)])), (pq 6, .inl (k.1 0, 8, .inl (ta_e (Y 2)))), (pq 7, .inl (k.1 0, 8, .inl (ta_e (Y 3))))] H := hP.sub [8, 9, 10, 0, 1, 2, 3, 4, 5, 6, 7] rfl
        have hD : va_D A [(rd, .inr (4, [.ref (x 0), .ref (pq 0), .int (nI (tn_s tx L en)), .int (nI (tn_e tx L en)), .int (nI 4294967295), .int (nI cl)])), (x 0, .inr (6, [.ref (x 1), .int (nI L)])), (x 1, .inl (k.1 0, 160, .inl (ta_e tx))), (pq 0, .inr (3, [.int (nI (t 0)), .int (nI (t 1)), .int (nI (t 2)), .int (nI (t 3)), .int (nI (t 4)), .ref (pq 1)])), (pq 1, .inl (k.1 2, 2, .inr (.inr (.inr (.inr (ta_dr (pq 2) (pq 5))))))), (pq 2, .inr (1, [.ref (pq 3), .ref (pq 4), .int (nI (t 5))])), (pq 3, .inl (k.1 0, 8, .inl (ta_e (Y 0)))), (pq 4, .inl (k.1 0, 8, .inl (ta_e (Y 1)))), (pq 5, .inr (1, [.ref (pq 6), .ref (pq 7), .int (nI 0)])), (pq 6, .inl (k.1 0, 8, .inl (ta_e (Y 2)))), (pq 7, .inl (k.1 0, 8, .inl (ta_e (Y 3))))] := hD.sub [8, 9, 10, 0, 1, 2, 3, 4, 5, 6, 7] (by decide) rfl
        have hPp : va_P D vwCl [(pq 0, .inr (3, [.int (nI (t 0)), .int (nI (t 1)), .int (nI (t 2)), .int (nI (t 3)), .int (nI (t 4)), .ref (pq 1)])), (pq 1, .inl (k.1 2, 2, .inr (.inr (.inr (.inr (ta_dr (pq 2) (pq 5))))))), (pq 2, .inr (1, [.ref (pq 3), .ref (pq 4), .int (nI (t 5))])), (pq 3, .inl (k.1 0, 8, .inl (ta_e (Y 0)))), (pq 4, .inl (k.1 0, 8, .inl (ta_e (Y 1)))), (pq 5, .inr (1, [.ref (pq 6), .ref (pq 7), .int (nI 0)])), (pq 6, .inl (k.1 0, 8, .inl (ta_e (Y 2)))), (pq 7, .inl (k.1 0, 8, .inl (ta_e (Y 3))))] H := hP.sub [3, 4, 5, 6, 7, 8, 9, 10] rfl
        have hP : va_P D vwCl ([(rd, .inr (4, [.ref (x 0), .ref (pq 0), .int (nI (tn_s tx L en)), .int (nI (tn_e tx L en)), .int (nI 4294967295), .int (nI cl)]))] ++ ((txW k x L tx) ++ (plW k pq (ta_u t 6 0) Y))) H := va_P.app (hP.sub [0] rfl) (va_P.app (hP.sub [1, 2] rfl) (pl_to (t := ta_u t 6 0) ⟨rfl, rfl, rfl, rfl, rfl, rfl, rfl⟩ hPp))
        have hD : va_D A ([(rd, .inr (4, [.ref (x 0), .ref (pq 0), .int (nI (tn_s tx L en)), .int (nI (tn_e tx L en)), .int (nI 4294967295), .int (nI cl)]))] ++ ((txW k x L tx) ++ (plW k pq (ta_u t 6 0) Y))) := ta_De hD rfl
        have eF : cl_rest tx L en t = (4294967295, tn_e tx L en, ta_u t 6 0) := by unfold cl_rest; rw [cl_p hin4, ← ha]
        exact ret (tn_s tx L en, tn_e tx L en, 4294967295, ta_u t 6 0, Y) dX4_readRest_28 (Or.inl ⟨by rw [eF], rfl, by rw [eF], by rw [eF], by rw [eF]; exact pl_Xr1 hY⟩) hP hD hS
  · obtain ⟨hin6, rfl, rfl⟩ := h0
    have hP : va_P D vwCl ((plW k pq t Y) ++ ([(rd, .inr (4, [.ref (x 0), .ref (pq 0), .int (nI (tn_s tx L en)), .int (nI (tn_e tx L en)), .int (nI (tn_s tx L en)), .int (nI cl)]))] ++ (txW k x L tx))) H := hP
    have hD : va_D A ((plW k pq t Y) ++ ([(rd, .inr (4, [.ref (x 0), .ref (pq 0), .int (nI (tn_s tx L en)), .int (nI (tn_e tx L en)), .int (nI (tn_s tx L en)), .int (nI cl)]))] ++ (txW k x L tx))) := hD
    obtain ⟨b10, b20, b30, b40⟩ := tn_b (tx := tx) (p := en) (by omega)
    refine lv_istore_n (lv' := [(1, .int (nI 0)), (0, .ref rd)]) hx hb dX4_readRest_6 rfl hl (by decide) rfl (fun ls hl => ?_)
    refine lv_aload_n hx hb dX4_readRest_7 rfl (lv_at hl 1 rfl) ?_
    refine ta_get C hP 8 inlX4 rfl rfl 4 (by decide) tw_72 rfl dX4_readRest_8 ?_
    refine ta_iconst C 4294967295 dX4_readRest_11 (by decide) ?_
    refine ta_cne C (a := tn_s tx L en) (b := 4294967295) (tgt := 28) (by omega) (by omega) dX4_readRest_12 (by decide) (fun c7 => ?_) (fun c7 => ?_)
    · have hP : va_P D vwCl ([(rd, .inr (4, [.ref (x 0), .ref (pq 0), .int (nI (tn_s tx L en)), .int (nI (tn_e tx L en)), .int (nI (tn_s tx L en)), .int (nI cl)]))] ++ ((txW k x L tx) ++ (plW k pq t Y))) H := hP.sub [8, 9, 10, 0, 1, 2, 3, 4, 5, 6, 7] rfl
      have hD : va_D A ([(rd, .inr (4, [.ref (x 0), .ref (pq 0), .int (nI (tn_s tx L en)), .int (nI (tn_e tx L en)), .int (nI (tn_s tx L en)), .int (nI cl)]))] ++ ((txW k x L tx) ++ (plW k pq t Y))) := hD.sub [8, 9, 10, 0, 1, 2, 3, 4, 5, 6, 7] (by decide) rfl
      have eF : cl_rest tx L en t = (tn_s tx L en, 0, t) := by unfold cl_rest; rw [cl_n hin6]
      exact ret (tn_s tx L en, tn_e tx L en, tn_s tx L en, t, Y) dX4_readRest_28 (Or.inr ⟨by rw [eF]; exact Nat.ne_of_lt (show tn_s tx L en < 4294967295 by omega), by rw [eF]⟩) hP hD hS
    · exfalso; omega

set_option maxHeartbeats 4000000 in
set_option maxRecDepth 100000 in
theorem c_X4_readFigure (l : Launch) (D : va_G) (k : ta_C) (rd : Nat) (pq : Nat → Nat) (st0 : Nat) (en : Nat) (cl : Nat) (x : Nat → Nat) (L : Nat) (tx : Nat → Nat) (t : Nat → Nat) (Y : Nat → Nat → Nat) (kd : Nat) (hx0 : tx_ok tx L) (hen : en ≤ L) (hpl : pl_ok t) (hY : pl_X t Y) (hkd : kd < 5) : ta_Mv (S := Nat × Nat × Nat × (Nat → Nat) × (Nat → Nat → Nat)) l D k yX4_readFigure cX4_readFigure 4 3 120 [.ref rd, .int (nI kd)] ([(rd, .inr (4, [.ref (x 0), .ref (pq 0), .int (nI st0), .int (nI en), .int (nI 4294967295), .int (nI cl)]))] ++ ((txW k x L tx) ++ (plW k pq t Y))) (fun u => cl_post (cl_fig kd tx L en t) u) (fun u => ([(rd, .inr (4, [.ref (x 0), .ref (pq 0), .int (nI u.1), .int (nI u.2.1), .int (nI u.2.2.1), .int (nI cl)]))] ++ ((txW k x L tx) ++ (plW k pq u.2.2.2.1 u.2.2.2.2)))) := by
  refine ta_enter_v (by decide) (Nat.le_of_ble_eq_true rfl) ?_
  intro p e s m below meth c A ls Q C ret hP hD hS hl
  have C : ta_At p l D k s m ([.ref rd, .int (nI kd)] : List Value).toArray c RX4 cX4_readFigure 4 A := C
  have hx := C.1.1
  have hb := C.1.2.1
  have hl : lv_has ls 4 [(0, .ref rd), (1, .int (nI kd))] := hl
  obtain ⟨H, hH⟩ : ∃ H, H = s.heap := ⟨_, rfl⟩
  obtain ⟨locs, hlocs⟩ : ∃ q : List Loc, q = [] := ⟨_, rfl⟩
  have hP : va_P D vwCl ([(rd, .inr (4, [.ref (x 0), .ref (pq 0), .int (nI st0), .int (nI en), .int (nI 4294967295), .int (nI cl)]))] ++ ((txW k x L tx) ++ (plW k pq t Y))) H := by rw [hH]; exact hP
  have hS : va_S A s.heap H locs := by rw [hH, hlocs]; exact hS
  rw [← hlocs]
  suffices hgoal : W p l e ({ frames := 3, cells := 0, slots := 0, locals := 120 }) s m ([.ref rd, .int (nI kd)] : List Value).toArray below meth c H locs 0 0 Q (F0 m 0 ls []) by rw [hH] at hgoal; exact hgoal
  clear hH hlocs
  obtain ⟨hL, hc⟩ := id hx0
  obtain ⟨⟨a1, a2, a3, a4, a5, a6⟩, pp3, pp4, pp5, pp6, pp7, pp8⟩ := id hpl
  refine lv_iload_n hx hb dX4_readFigure_0 rfl (lv_at hl 1 rfl) ?_
  refine ta_iconst C 4294967295 dX4_readFigure_1 (by decide) ?_
  refine ta_cne C (a := kd) (b := 4294967295) (tgt := 14) (by omega) (by omega) dX4_readFigure_2 (by decide) (fun c1 => ?_) (fun c1 => ?_)
  · refine lv_aload_n hx hb dX4_readFigure_14 rfl (lv_at hl 0 rfl) ?_
    refine ta_iconst C 0 dX4_readFigure_15 (by decide) ?_
    refine ta_iconst C 1 dX4_readFigure_16 (by decide) ?_
    refine ta_callVi (As := [.int (nI 0), .int (nI 1)]) (rest0 := []) (Wr := (plW k pq t Y)) C hP hD hS (c_X4_readNumber l D k rd (pq 0) st0 en cl x L tx 0 1 hx0 (by omega) ⟨by omega, by omega⟩) 0 rfl rfl rfl [0, 1, 2] [3, 4, 5, 6, 7, 8, 9, 10] rfl rfl (by decide) (by decide) (by decide) tw_257 tw_254 tw_22 tw_255 tw_256 ⟨by decide, by decide, rfl⟩ ⟨Nat.le_of_ble_eq_true rfl, Nat.le_of_ble_eq_true rfl⟩ ⟨Nat.zero_le _, Nat.zero_le _⟩ hl.1 rfl (Nat.le_of_ble_eq_true rfl) dX4_readFigure_17 (fun r2 u3 H locs h4 hP hD hS => ?_)
    rcases h4 with h0 | h0
    · obtain ⟨hin5, rfl, rfl⟩ := h0
      have hP : va_P D vwCl ((plW k pq t Y) ++ ([(rd, .inr (4, [.ref (x 0), .ref (pq 0), .int (nI (tn_s tx L en)), .int (nI (tn_e tx L en)), .int (nI 4294967295), .int (nI cl)]))] ++ (txW k x L tx))) H := hP
      have hD : va_D A ((plW k pq t Y) ++ ([(rd, .inr (4, [.ref (x 0), .ref (pq 0), .int (nI (tn_s tx L en)), .int (nI (tn_e tx L en)), .int (nI 4294967295), .int (nI cl)]))] ++ (txW k x L tx))) := hD
      obtain ⟨b10, b20, b30, b40⟩ := tn_b (tx := tx) (p := en) (by omega)
      refine lv_istore_n (lv' := [(2, .int (nI (tn_v tx L en))), (0, .ref rd), (1, .int (nI kd))]) hx hb dX4_readFigure_20 rfl hl (by decide) rfl (fun ls hl => ?_)
      refine lv_aload_n hx hb dX4_readFigure_21 rfl (lv_at hl 1 rfl) ?_
      refine ta_get C hP 8 inlX4 rfl rfl 4 (by decide) tw_72 rfl dX4_readFigure_22 ?_
      refine ta_iconst C 4294967295 dX4_readFigure_25 (by decide) ?_
      refine lv_icmp_ne (tgt := 52) hx hb dX4_readFigure_26 (by decide) (fun c6 => ?_) (fun c6 => ?_)
      · exact absurd c6 (by decide)
      · have hin := cl_in_iff.mp hin5
        obtain ⟨a, ha⟩ : ∃ a, a = tn_v tx L en := ⟨_, rfl⟩
        rw [← ha] at hin hl
        rcases (show a = 0 ∨ a = 1 by omega) with rfl | rfl
        · refine lv_aload_n hx hb dX4_readFigure_29 rfl (lv_at hl 1 rfl) ?_
          refine ta_get C hP 8 inlX4 rfl rfl 1 (by decide) tw_69 rfl dX4_readFigure_30 ?_
          refine ta_getN C hP 0 inlX3 rfl rfl 5 (by decide) 21 rfl rfl dX4_readFigure_33 ?_
          refine lv_iload_n hx hb dX4_readFigure_36 rfl (lv_at hl 0 rfl) ?_
          refine ta_aald C hP 1 2 rfl rfl (i := 0) (x := pq 2) (by omega) rfl dX4_readFigure_37 ?_
          refine ta_callVi (As := []) (rest0 := []) (Wr := ([(pq 0, .inr (3, [.int (nI (t 0)), .int (nI (t 1)), .int (nI (t 2)), .int (nI (t 3)), .int (nI (t 4)), .ref (pq 1)])), (pq 1, .inl (k.1 2, 2, .inr (.inr (.inr (.inr (ta_dr (pq 2) (pq 5))))))), (pq 3, .inl (k.1 0, 8, .inl (ta_e (Y 0)))), (pq 4, .inl (k.1 0, 8, .inl (ta_e (Y 1)))), (pq 5, .inr (1, [.ref (pq 6), .ref (pq 7), .int (nI (t 6))])), (pq 6, .inl (k.1 0, 8, .inl (ta_e (Y 2)))), (pq 7, .inl (k.1 0, 8, .inl (ta_e (Y 3)))), (rd, .inr (4, [.ref (x 0), .ref (pq 0), .int (nI (tn_s tx L en)), .int (nI (tn_e tx L en)), .int (nI 4294967295), .int (nI cl)]))] ++ (txW k x L tx))) C hP hD hS (c_X1_isFull l D k (pq 2) (pq 3) (pq 4) (t 5) (by omega)) 2 rfl rfl rfl [2] [0, 1, 3, 4, 5, 6, 7, 8, 9, 10] rfl rfl (by decide) (by decide) (by decide) tw_290 tw_287 tw_56 tw_288 tw_289 ⟨by decide, by decide, rfl⟩ ⟨Nat.le_of_ble_eq_true rfl, Nat.le_of_ble_eq_true rfl⟩ ⟨Nat.zero_le _, Nat.zero_le _⟩ hl.1 rfl (Nat.le_of_ble_eq_true rfl) dX4_readFigure_38 (fun r7 u8 H locs h9 hP hD hS => ?_)
          rcases h9 with h0 | h0
          · obtain ⟨hf10, rfl⟩ := h0
            have hP : va_P D vwCl ([(pq 0, .inr (3, [.int (nI (t 0)), .int (nI (t 1)), .int (nI (t 2)), .int (nI (t 3)), .int (nI (t 4)), .ref (pq 1)])), (pq 1, .inl (k.1 2, 2, .inr (.inr (.inr (.inr (ta_dr (pq 2) (pq 5))))))), (pq 3, .inl (k.1 0, 8, .inl (ta_e (Y 0)))), (pq 4, .inl (k.1 0, 8, .inl (ta_e (Y 1)))), (pq 5, .inr (1, [.ref (pq 6), .ref (pq 7), .int (nI (t 6))])), (pq 6, .inl (k.1 0, 8, .inl (ta_e (Y 2)))), (pq 7, .inl (k.1 0, 8, .inl (ta_e (Y 3)))), (rd, .inr (4, [.ref (x 0), .ref (pq 0), .int (nI (tn_s tx L en)), .int (nI (tn_e tx L en)), .int (nI 4294967295), .int (nI cl)]))] ++ ((txW k x L tx) ++ [(pq 2, .inr (1, [.ref (pq 3), .ref (pq 4), .int (nI (t 5))]))])) H := hP
            have hD : va_D A ([(pq 0, .inr (3, [.int (nI (t 0)), .int (nI (t 1)), .int (nI (t 2)), .int (nI (t 3)), .int (nI (t 4)), .ref (pq 1)])), (pq 1, .inl (k.1 2, 2, .inr (.inr (.inr (.inr (ta_dr (pq 2) (pq 5))))))), (pq 3, .inl (k.1 0, 8, .inl (ta_e (Y 0)))), (pq 4, .inl (k.1 0, 8, .inl (ta_e (Y 1)))), (pq 5, .inr (1, [.ref (pq 6), .ref (pq 7), .int (nI (t 6))])), (pq 6, .inl (k.1 0, 8, .inl (ta_e (Y 2)))), (pq 7, .inl (k.1 0, 8, .inl (ta_e (Y 3)))), (rd, .inr (4, [.ref (x 0), .ref (pq 0), .int (nI (tn_s tx L en)), .int (nI (tn_e tx L en)), .int (nI 4294967295), .int (nI cl)]))] ++ ((txW k x L tx) ++ [(pq 2, .inr (1, [.ref (pq 3), .ref (pq 4), .int (nI (t 5))]))])) := hD
            refine lv_if_eq (tgt := 52) hx hb dX4_readFigure_41 (by decide) (fun c11 => ?_) (fun c11 => ?_)
            · exact absurd c11 (by decide)
            · refine lv_aload_n hx hb dX4_readFigure_44 rfl (lv_at hl 1 rfl) ?_
              refine lv_aload_n hx hb dX4_readFigure_45 rfl (lv_at hl 1 rfl) ?_
              refine ta_get C hP 7 inlX4 rfl rfl 2 (by decide) tw_70 rfl dX4_readFigure_46 ?_
              refine ta_put C hP hD hS 7 inlX4 tyX4 tyX4_ok nmX4 rfl rfl 4 (by decide) tw_72 rfl rfl rfl (Nat.le_of_ble_eq_true rfl) dX4_readFigure_49 (fun H locs hP hD hS => ?_)
              have hP : va_P D vwCl ([(pq 0, .inr (3, [.int (nI (t 0)), .int (nI (t 1)), .int (nI (t 2)), .int (nI (t 3)), .int (nI (t 4)), .ref (pq 1)])), (pq 1, .inl (k.1 2, 2, .inr (.inr (.inr (.inr (ta_dr (pq 2) (pq 5))))))), (pq 3, .inl (k.1 0, 8, .inl (ta_e (Y 0)))), (pq 4, .inl (k.1 0, 8, .inl (ta_e (Y 1)))), (pq 5, .inr (1, [.ref (pq 6), .ref (pq 7), .int (nI (t 6))])), (pq 6, .inl (k.1 0, 8, .inl (ta_e (Y 2)))), (pq 7, .inl (k.1 0, 8, .inl (ta_e (Y 3)))), (rd, .inr (4, [.ref (x 0), .ref (pq 0), .int (nI (tn_s tx L en)), .int (nI (tn_e tx L en)), .int (nI (tn_s tx L en)), .int (nI cl)]))] ++ ((txW k x L tx) ++ [(pq 2, .inr (1, [.ref (pq 3), .ref (pq 4), .int (nI (t 5))]))])) H := hP
              have hD : va_D A ([(pq 0, .inr (3, [.int (nI (t 0)), .int (nI (t 1)), .int (nI (t 2)), .int (nI (t 3)), .int (nI (t 4)), .ref (pq 1)])), (pq 1, .inl (k.1 2, 2, .inr (.inr (.inr (.inr (ta_dr (pq 2) (pq 5))))))), (pq 3, .inl (k.1 0, 8, .inl (ta_e (Y 0)))), (pq 4, .inl (k.1 0, 8, .inl (ta_e (Y 1)))), (pq 5, .inr (1, [.ref (pq 6), .ref (pq 7), .int (nI (t 6))])), (pq 6, .inl (k.1 0, 8, .inl (ta_e (Y 2)))), (pq 7, .inl (k.1 0, 8, .inl (ta_e (Y 3)))), (rd, .inr (4, [.ref (x 0), .ref (pq 0), .int (nI (tn_s tx L en)), .int (nI (tn_e tx L en)), .int (nI (tn_s tx L en)), .int (nI cl)]))] ++ ((txW k x L tx) ++ [(pq 2, .inr (1, [.ref (pq 3), .ref (pq 4), .int (nI (t 5))]))])) := hD
              refine lv_aload_n hx hb dX4_readFigure_52 rfl (lv_at hl 1 rfl) ?_
              refine ta_iconst C 1 dX4_readFigure_53 (by decide) ?_
              refine ta_bipush C 9 dX4_readFigure_54 (by decide) ?_
              refine ta_callVi (As := [.int (nI 1), .int (nI 9)]) (rest0 := []) (Wr := [(pq 0, .inr (3, [.int (nI (t 0)), .int (nI (t 1)), .int (nI (t 2)), .int (nI (t 3)), .int (nI (t 4)), .ref (pq 1)])), (pq 1, .inl (k.1 2, 2, .inr (.inr (.inr (.inr (ta_dr (pq 2) (pq 5))))))), (pq 3, .inl (k.1 0, 8, .inl (ta_e (Y 0)))), (pq 4, .inl (k.1 0, 8, .inl (ta_e (Y 1)))), (pq 5, .inr (1, [.ref (pq 6), .ref (pq 7), .int (nI (t 6))])), (pq 6, .inl (k.1 0, 8, .inl (ta_e (Y 2)))), (pq 7, .inl (k.1 0, 8, .inl (ta_e (Y 3)))), (pq 2, .inr (1, [.ref (pq 3), .ref (pq 4), .int (nI (t 5))]))]) C hP hD hS (c_X4_readNumber_f l D k rd (pq 0) (tn_s tx L en) (tn_e tx L en) (tn_s tx L en) cl x L tx 1 9 (by omega)) 7 rfl rfl rfl [7, 8, 9] [0, 1, 2, 3, 4, 5, 6, 10] rfl rfl (by decide) (by decide) (by decide) tw_257 tw_254 tw_22 tw_255 tw_256 ⟨by decide, by decide, rfl⟩ ⟨Nat.le_of_ble_eq_true rfl, Nat.le_of_ble_eq_true rfl⟩ ⟨Nat.zero_le _, Nat.zero_le _⟩ hl.1 rfl (Nat.le_of_ble_eq_true rfl) dX4_readFigure_56 (fun r12 u13 H locs h14 hP hD hS => ?_)
              obtain rfl := h14
              have hP : va_P D vwCl ([(pq 0, .inr (3, [.int (nI (t 0)), .int (nI (t 1)), .int (nI (t 2)), .int (nI (t 3)), .int (nI (t 4)), .ref (pq 1)])), (pq 1, .inl (k.1 2, 2, .inr (.inr (.inr (.inr (ta_dr (pq 2) (pq 5))))))), (pq 3, .inl (k.1 0, 8, .inl (ta_e (Y 0)))), (pq 4, .inl (k.1 0, 8, .inl (ta_e (Y 1)))), (pq 5, .inr (1, [.ref (pq 6), .ref (pq 7), .int (nI (t 6))])), (pq 6, .inl (k.1 0, 8, .inl (ta_e (Y 2)))), (pq 7, .inl (k.1 0, 8, .inl (ta_e (Y 3)))), (pq 2, .inr (1, [.ref (pq 3), .ref (pq 4), .int (nI (t 5))])), (rd, .inr (4, [.ref (x 0), .ref (pq 0), .int (nI (tn_s tx L en)), .int (nI (tn_e tx L en)), .int (nI (tn_s tx L en)), .int (nI cl)]))] ++ (txW k x L tx)) H := hP
              have hD : va_D A ([(pq 0, .inr (3, [.int (nI (t 0)), .int (nI (t 1)), .int (nI (t 2)), .int (nI (t 3)), .int (nI (t 4)), .ref (pq 1)])), (pq 1, .inl (k.1 2, 2, .inr (.inr (.inr (.inr (ta_dr (pq 2) (pq 5))))))), (pq 3, .inl (k.1 0, 8, .inl (ta_e (Y 0)))), (pq 4, .inl (k.1 0, 8, .inl (ta_e (Y 1)))), (pq 5, .inr (1, [.ref (pq 6), .ref (pq 7), .int (nI (t 6))])), (pq 6, .inl (k.1 0, 8, .inl (ta_e (Y 2)))), (pq 7, .inl (k.1 0, 8, .inl (ta_e (Y 3)))), (pq 2, .inr (1, [.ref (pq 3), .ref (pq 4), .int (nI (t 5))])), (rd, .inr (4, [.ref (x 0), .ref (pq 0), .int (nI (tn_s tx L en)), .int (nI (tn_e tx L en)), .int (nI (tn_s tx L en)), .int (nI cl)]))] ++ (txW k x L tx)) := hD
              refine lv_istore_n (lv' := [(3, .int (nI 1)), (2, .int (nI 0)), (0, .ref rd), (1, .int (nI kd))]) hx hb dX4_readFigure_59 rfl hl (by decide) rfl (fun ls hl => ?_)
              refine lv_aload_n hx hb dX4_readFigure_60 rfl (lv_at hl 2 rfl) ?_
              refine ta_get C hP 8 inlX4 rfl rfl 4 (by decide) tw_72 rfl dX4_readFigure_61 ?_
              refine ta_iconst C 4294967295 dX4_readFigure_64 (by decide) ?_
              refine ta_cne C (a := tn_s tx L en) (b := 4294967295) (tgt := 82) (by omega) (by omega) dX4_readFigure_65 (by decide) (fun c15 => ?_) (fun c15 => ?_)
              · have hP : va_P D vwCl [(rd, .inr (4, [.ref (x 0), .ref (pq 0), .int (nI (tn_s tx L en)), .int (nI (tn_e tx L en)), .int (nI (tn_s tx L en)), .int (nI cl)])), (x 0, .inr (6, [.ref (x 1), .int (nI L)])), (x 1, .inl (k.1 0, 160, .inl (ta_e tx))), (pq 0, .inr (3, [.int (nI (t 0)), .int (nI (t 1)), .int (nI (t 2)), .int (nI (t 3)), .int (nI (t 4)), .ref (pq 1)])), (pq 1, .inl (k.1 2, 2, .inr (.inr (.inr (.inr (ta_dr (pq 2) (pq 5))))))), (pq 2, .inr (1, [.ref (pq 3), .ref (pq 4), .int (nI (t 5))])), (pq 3, .inl (k.1 0, 8, .inl (ta_e (Y 0)))), (pq 4, .inl (k.1 0, 8, .inl (ta_e (Y 1)))), (pq 5, .inr (1, [.ref (pq 6), .ref (pq 7), .int (nI (t 6))])), (pq 6, .inl (k.1 0, 8, .inl (ta_e (Y 2)))), (pq 7, .inl (k.1 0, 8, .inl (ta_e (Y 3))))] H := hP.sub [8, 9, 10, 0, 1, 7, 2, 3, 4, 5, 6] rfl
                have hD : va_D A [(rd, .inr (4, [.ref (x 0), .ref (pq 0), .int (nI (tn_s tx L en)), .int (nI (tn_e tx L en)), .int (nI (tn_s tx L en)), .int (nI cl)])), (x 0, .inr (6, [.ref (x 1), .int (nI L)])), (x 1, .inl (k.1 0, 160, .inl (ta_e tx))), (pq 0, .inr (3, [.int (nI (t 0)), .int (nI (t 1)), .int (nI (t 2)), .int (nI (t 3)), .int (nI (t 4)), .ref (pq 1)])), (pq 1, .inl (k.1 2, 2, .inr (.inr (.inr (.inr (ta_dr (pq 2) (pq 5))))))), (pq 2, .inr (1, [.ref (pq 3), .ref (pq 4), .int (nI (t 5))])), (pq 3, .inl (k.1 0, 8, .inl (ta_e (Y 0)))), (pq 4, .inl (k.1 0, 8, .inl (ta_e (Y 1)))), (pq 5, .inr (1, [.ref (pq 6), .ref (pq 7), .int (nI (t 6))])), (pq 6, .inl (k.1 0, 8, .inl (ta_e (Y 2)))), (pq 7, .inl (k.1 0, 8, .inl (ta_e (Y 3))))] := hD.sub [8, 9, 10, 0, 1, 7, 2, 3, 4, 5, 6] (by decide) rfl
                have hPp : va_P D vwCl [(pq 0, .inr (3, [.int (nI (t 0)), .int (nI (t 1)), .int (nI (t 2)), .int (nI (t 3)), .int (nI (t 4)), .ref (pq 1)])), (pq 1, .inl (k.1 2, 2, .inr (.inr (.inr (.inr (ta_dr (pq 2) (pq 5))))))), (pq 2, .inr (1, [.ref (pq 3), .ref (pq 4), .int (nI (t 5))])), (pq 3, .inl (k.1 0, 8, .inl (ta_e (Y 0)))), (pq 4, .inl (k.1 0, 8, .inl (ta_e (Y 1)))), (pq 5, .inr (1, [.ref (pq 6), .ref (pq 7), .int (nI (t 6))])), (pq 6, .inl (k.1 0, 8, .inl (ta_e (Y 2)))), (pq 7, .inl (k.1 0, 8, .inl (ta_e (Y 3))))] H := hP.sub [3, 4, 5, 6, 7, 8, 9, 10] rfl
                have hP : va_P D vwCl ([(rd, .inr (4, [.ref (x 0), .ref (pq 0), .int (nI (tn_s tx L en)), .int (nI (tn_e tx L en)), .int (nI (tn_s tx L en)), .int (nI cl)]))] ++ ((txW k x L tx) ++ (plW k pq t Y))) H := va_P.app (hP.sub [0] rfl) (va_P.app (hP.sub [1, 2] rfl) (pl_to (t := t) ⟨rfl, rfl, rfl, rfl, rfl, rfl, rfl⟩ hPp))
                have hD : va_D A ([(rd, .inr (4, [.ref (x 0), .ref (pq 0), .int (nI (tn_s tx L en)), .int (nI (tn_e tx L en)), .int (nI (tn_s tx L en)), .int (nI cl)]))] ++ ((txW k x L tx) ++ (plW k pq t Y))) := ta_De hD rfl
                have eF : cl_fig kd tx L en t = (tn_s tx L en, 0, t) := by unfold cl_fig; rw [← ha, cl_n (fun h => by have h9 : t 5 < 8 := h.2; omega)]
                exact ret (tn_s tx L en, tn_e tx L en, tn_s tx L en, t, Y) dX4_readFigure_82 (Or.inr ⟨by rw [eF]; exact Nat.ne_of_lt (show tn_s tx L en < 4294967295 by omega), by rw [eF]⟩) hP hD hS
              · exfalso; omega
          · obtain ⟨hf16, rfl⟩ := h0
            have hP : va_P D vwCl ([(pq 0, .inr (3, [.int (nI (t 0)), .int (nI (t 1)), .int (nI (t 2)), .int (nI (t 3)), .int (nI (t 4)), .ref (pq 1)])), (pq 1, .inl (k.1 2, 2, .inr (.inr (.inr (.inr (ta_dr (pq 2) (pq 5))))))), (pq 3, .inl (k.1 0, 8, .inl (ta_e (Y 0)))), (pq 4, .inl (k.1 0, 8, .inl (ta_e (Y 1)))), (pq 5, .inr (1, [.ref (pq 6), .ref (pq 7), .int (nI (t 6))])), (pq 6, .inl (k.1 0, 8, .inl (ta_e (Y 2)))), (pq 7, .inl (k.1 0, 8, .inl (ta_e (Y 3)))), (rd, .inr (4, [.ref (x 0), .ref (pq 0), .int (nI (tn_s tx L en)), .int (nI (tn_e tx L en)), .int (nI 4294967295), .int (nI cl)]))] ++ ((txW k x L tx) ++ [(pq 2, .inr (1, [.ref (pq 3), .ref (pq 4), .int (nI (t 5))]))])) H := hP
            have hD : va_D A ([(pq 0, .inr (3, [.int (nI (t 0)), .int (nI (t 1)), .int (nI (t 2)), .int (nI (t 3)), .int (nI (t 4)), .ref (pq 1)])), (pq 1, .inl (k.1 2, 2, .inr (.inr (.inr (.inr (ta_dr (pq 2) (pq 5))))))), (pq 3, .inl (k.1 0, 8, .inl (ta_e (Y 0)))), (pq 4, .inl (k.1 0, 8, .inl (ta_e (Y 1)))), (pq 5, .inr (1, [.ref (pq 6), .ref (pq 7), .int (nI (t 6))])), (pq 6, .inl (k.1 0, 8, .inl (ta_e (Y 2)))), (pq 7, .inl (k.1 0, 8, .inl (ta_e (Y 3)))), (rd, .inr (4, [.ref (x 0), .ref (pq 0), .int (nI (tn_s tx L en)), .int (nI (tn_e tx L en)), .int (nI 4294967295), .int (nI cl)]))] ++ ((txW k x L tx) ++ [(pq 2, .inr (1, [.ref (pq 3), .ref (pq 4), .int (nI (t 5))]))])) := hD
            refine lv_if_eq (tgt := 52) hx hb dX4_readFigure_41 (by decide) (fun c17 => ?_) (fun c17 => ?_)
            · refine lv_aload_n hx hb dX4_readFigure_52 rfl (lv_at hl 1 rfl) ?_
              refine ta_iconst C 1 dX4_readFigure_53 (by decide) ?_
              refine ta_bipush C 9 dX4_readFigure_54 (by decide) ?_
              refine ta_callVi (As := [.int (nI 1), .int (nI 9)]) (rest0 := []) (Wr := [(pq 0, .inr (3, [.int (nI (t 0)), .int (nI (t 1)), .int (nI (t 2)), .int (nI (t 3)), .int (nI (t 4)), .ref (pq 1)])), (pq 1, .inl (k.1 2, 2, .inr (.inr (.inr (.inr (ta_dr (pq 2) (pq 5))))))), (pq 3, .inl (k.1 0, 8, .inl (ta_e (Y 0)))), (pq 4, .inl (k.1 0, 8, .inl (ta_e (Y 1)))), (pq 5, .inr (1, [.ref (pq 6), .ref (pq 7), .int (nI (t 6))])), (pq 6, .inl (k.1 0, 8, .inl (ta_e (Y 2)))), (pq 7, .inl (k.1 0, 8, .inl (ta_e (Y 3)))), (pq 2, .inr (1, [.ref (pq 3), .ref (pq 4), .int (nI (t 5))]))]) C hP hD hS (c_X4_readNumber l D k rd (pq 0) (tn_s tx L en) (tn_e tx L en) cl x L tx 1 9 hx0 (by omega) ⟨by omega, by omega⟩) 7 rfl rfl rfl [7, 8, 9] [0, 1, 2, 3, 4, 5, 6, 10] rfl rfl (by decide) (by decide) (by decide) tw_257 tw_254 tw_22 tw_255 tw_256 ⟨by decide, by decide, rfl⟩ ⟨Nat.le_of_ble_eq_true rfl, Nat.le_of_ble_eq_true rfl⟩ ⟨Nat.zero_le _, Nat.zero_le _⟩ hl.1 rfl (Nat.le_of_ble_eq_true rfl) dX4_readFigure_56 (fun r18 u19 H locs h20 hP hD hS => ?_)
              rcases h20 with h0 | h0
              · obtain ⟨hin21, rfl, rfl⟩ := h0
                have hP : va_P D vwCl ([(pq 0, .inr (3, [.int (nI (t 0)), .int (nI (t 1)), .int (nI (t 2)), .int (nI (t 3)), .int (nI (t 4)), .ref (pq 1)])), (pq 1, .inl (k.1 2, 2, .inr (.inr (.inr (.inr (ta_dr (pq 2) (pq 5))))))), (pq 3, .inl (k.1 0, 8, .inl (ta_e (Y 0)))), (pq 4, .inl (k.1 0, 8, .inl (ta_e (Y 1)))), (pq 5, .inr (1, [.ref (pq 6), .ref (pq 7), .int (nI (t 6))])), (pq 6, .inl (k.1 0, 8, .inl (ta_e (Y 2)))), (pq 7, .inl (k.1 0, 8, .inl (ta_e (Y 3)))), (pq 2, .inr (1, [.ref (pq 3), .ref (pq 4), .int (nI (t 5))])), (rd, .inr (4, [.ref (x 0), .ref (pq 0), .int (nI (tn_s tx L (tn_e tx L en))), .int (nI (tn_e tx L (tn_e tx L en))), .int (nI 4294967295), .int (nI cl)]))] ++ (txW k x L tx)) H := hP
                have hD : va_D A ([(pq 0, .inr (3, [.int (nI (t 0)), .int (nI (t 1)), .int (nI (t 2)), .int (nI (t 3)), .int (nI (t 4)), .ref (pq 1)])), (pq 1, .inl (k.1 2, 2, .inr (.inr (.inr (.inr (ta_dr (pq 2) (pq 5))))))), (pq 3, .inl (k.1 0, 8, .inl (ta_e (Y 0)))), (pq 4, .inl (k.1 0, 8, .inl (ta_e (Y 1)))), (pq 5, .inr (1, [.ref (pq 6), .ref (pq 7), .int (nI (t 6))])), (pq 6, .inl (k.1 0, 8, .inl (ta_e (Y 2)))), (pq 7, .inl (k.1 0, 8, .inl (ta_e (Y 3)))), (pq 2, .inr (1, [.ref (pq 3), .ref (pq 4), .int (nI (t 5))])), (rd, .inr (4, [.ref (x 0), .ref (pq 0), .int (nI (tn_s tx L (tn_e tx L en))), .int (nI (tn_e tx L (tn_e tx L en))), .int (nI 4294967295), .int (nI cl)]))] ++ (txW k x L tx)) := hD
                obtain ⟨b11, b21, b31, b41⟩ := tn_b (tx := tx) (p := tn_e tx L en) (by omega)
                refine lv_istore_n (lv' := [(3, .int (nI (tn_v tx L (tn_e tx L en)))), (2, .int (nI 0)), (0, .ref rd), (1, .int (nI kd))]) hx hb dX4_readFigure_59 rfl hl (by decide) rfl (fun ls hl => ?_)
                refine lv_aload_n hx hb dX4_readFigure_60 rfl (lv_at hl 2 rfl) ?_
                refine ta_get C hP 8 inlX4 rfl rfl 4 (by decide) tw_72 rfl dX4_readFigure_61 ?_
                refine ta_iconst C 4294967295 dX4_readFigure_64 (by decide) ?_
                refine lv_icmp_ne (tgt := 82) hx hb dX4_readFigure_65 (by decide) (fun c22 => ?_) (fun c22 => ?_)
                · exact absurd c22 (by decide)
                · refine lv_aload_n hx hb dX4_readFigure_68 rfl (lv_at hl 2 rfl) ?_
                  refine ta_get C hP 8 inlX4 rfl rfl 1 (by decide) tw_69 rfl dX4_readFigure_69 ?_
                  refine ta_getN C hP 0 inlX3 rfl rfl 5 (by decide) 21 rfl rfl dX4_readFigure_72 ?_
                  refine lv_iload_n hx hb dX4_readFigure_75 rfl (lv_at hl 1 rfl) ?_
                  refine ta_aald C hP 1 2 rfl rfl (i := 0) (x := pq 2) (by omega) rfl dX4_readFigure_76 ?_
                  refine lv_iload_n hx hb dX4_readFigure_77 rfl (lv_at hl 3 rfl) ?_
                  refine lv_iload_n hx hb dX4_readFigure_78 rfl (lv_at hl 0 rfl) ?_
                  refine ta_callVv (As := [.int (nI kd), .int (nI (tn_v tx L (tn_e tx L en)))]) (rest0 := []) (Wr := ([(pq 0, .inr (3, [.int (nI (t 0)), .int (nI (t 1)), .int (nI (t 2)), .int (nI (t 3)), .int (nI (t 4)), .ref (pq 1)])), (pq 1, .inl (k.1 2, 2, .inr (.inr (.inr (.inr (ta_dr (pq 2) (pq 5))))))), (pq 5, .inr (1, [.ref (pq 6), .ref (pq 7), .int (nI (t 6))])), (pq 6, .inl (k.1 0, 8, .inl (ta_e (Y 2)))), (pq 7, .inl (k.1 0, 8, .inl (ta_e (Y 3)))), (rd, .inr (4, [.ref (x 0), .ref (pq 0), .int (nI (tn_s tx L (tn_e tx L en))), .int (nI (tn_e tx L (tn_e tx L en))), .int (nI 4294967295), .int (nI cl)]))] ++ (txW k x L tx))) C hP hD hS (c_X1_append l D k (pq 2) (pq 3) (pq 4) (Y 0) (Y 1) (t 5) kd (tn_v tx L (tn_e tx L en)) (by omega)) 7 rfl rfl rfl [7, 2, 3] [0, 1, 4, 5, 6, 8, 9, 10] rfl rfl (by decide) (by decide) (by decide) tw_294 tw_291 tw_56 tw_292 tw_293 ⟨by decide, by decide, rfl⟩ ⟨Nat.le_of_ble_eq_true rfl, Nat.le_of_ble_eq_true rfl⟩ ⟨Nat.zero_le _, Nat.zero_le _⟩ hl.1 rfl (Nat.le_of_ble_eq_true rfl) dX4_readFigure_79 (fun u24 H locs h25 hP hD hS => ?_)
                  have hP : va_P D vwCl ([(pq 0, .inr (3, [.int (nI (t 0)), .int (nI (t 1)), .int (nI (t 2)), .int (nI (t 3)), .int (nI (t 4)), .ref (pq 1)])), (pq 1, .inl (k.1 2, 2, .inr (.inr (.inr (.inr (ta_dr (pq 2) (pq 5))))))), (pq 5, .inr (1, [.ref (pq 6), .ref (pq 7), .int (nI (t 6))])), (pq 6, .inl (k.1 0, 8, .inl (ta_e (Y 2)))), (pq 7, .inl (k.1 0, 8, .inl (ta_e (Y 3)))), (rd, .inr (4, [.ref (x 0), .ref (pq 0), .int (nI (tn_s tx L (tn_e tx L en))), .int (nI (tn_e tx L (tn_e tx L en))), .int (nI 4294967295), .int (nI cl)]))] ++ ((txW k x L tx) ++ [(pq 2, .inr (1, [.ref (pq 3), .ref (pq 4), .int (nI ((t 5) + 1))])), (pq 3, .inl (k.1 0, 8, .inl (ta_e (ta_u (Y 0) (t 5) kd)))), (pq 4, .inl (k.1 0, 8, .inl (ta_e (ta_u (Y 1) (t 5) (tn_v tx L (tn_e tx L en))))))])) H := hP
                  have hD : va_D A ([(pq 0, .inr (3, [.int (nI (t 0)), .int (nI (t 1)), .int (nI (t 2)), .int (nI (t 3)), .int (nI (t 4)), .ref (pq 1)])), (pq 1, .inl (k.1 2, 2, .inr (.inr (.inr (.inr (ta_dr (pq 2) (pq 5))))))), (pq 5, .inr (1, [.ref (pq 6), .ref (pq 7), .int (nI (t 6))])), (pq 6, .inl (k.1 0, 8, .inl (ta_e (Y 2)))), (pq 7, .inl (k.1 0, 8, .inl (ta_e (Y 3)))), (rd, .inr (4, [.ref (x 0), .ref (pq 0), .int (nI (tn_s tx L (tn_e tx L en))), .int (nI (tn_e tx L (tn_e tx L en))), .int (nI 4294967295), .int (nI cl)]))] ++ ((txW k x L tx) ++ [(pq 2, .inr (1, [.ref (pq 3), .ref (pq 4), .int (nI ((t 5) + 1))])), (pq 3, .inl (k.1 0, 8, .inl (ta_e (ta_u (Y 0) (t 5) kd)))), (pq 4, .inl (k.1 0, 8, .inl (ta_e (ta_u (Y 1) (t 5) (tn_v tx L (tn_e tx L en))))))])) := hD
                  have hin1 := cl_in_iff.mp hin21
                  have hP : va_P D vwCl [(rd, .inr (4, [.ref (x 0), .ref (pq 0), .int (nI (tn_s tx L (tn_e tx L en))), .int (nI (tn_e tx L (tn_e tx L en))), .int (nI 4294967295), .int (nI cl)])), (x 0, .inr (6, [.ref (x 1), .int (nI L)])), (x 1, .inl (k.1 0, 160, .inl (ta_e tx))), (pq 0, .inr (3, [.int (nI (t 0)), .int (nI (t 1)), .int (nI (t 2)), .int (nI (t 3)), .int (nI (t 4)), .ref (pq 1)])), (pq 1, .inl (k.1 2, 2, .inr (.inr (.inr (.inr (ta_dr (pq 2) (pq 5))))))), (pq 2, .inr (1, [.ref (pq 3), .ref (pq 4), .int (nI ((t 5) + 1))])), (pq 3, .inl (k.1 0, 8, .inl (ta_e (ta_u (Y 0) (t 5) kd)))), (pq 4, .inl (k.1 0, 8, .inl (ta_e (ta_u (Y 1) (t 5) (tn_v tx L (tn_e tx L en)))))), (pq 5, .inr (1, [.ref (pq 6), .ref (pq 7), .int (nI (t 6))])), (pq 6, .inl (k.1 0, 8, .inl (ta_e (Y 2)))), (pq 7, .inl (k.1 0, 8, .inl (ta_e (Y 3))))] H := hP.sub [5, 6, 7, 0, 1, 8, 9, 10, 2, 3, 4] rfl
                  have hD : va_D A [(rd, .inr (4, [.ref (x 0), .ref (pq 0), .int (nI (tn_s tx L (tn_e tx L en))), .int (nI (tn_e tx L (tn_e tx L en))), .int (nI 4294967295), .int (nI cl)])), (x 0, .inr (6, [.ref (x 1), .int (nI L)])), (x 1, .inl (k.1 0, 160, .inl (ta_e tx))), (pq 0, .inr (3, [.int (nI (t 0)), .int (nI (t 1)), .int (nI (t 2)), .int (nI (t 3)), .int (nI (t 4)), .ref (pq 1)])), (pq 1, .inl (k.1 2, 2, .inr (.inr (.inr (.inr (ta_dr (pq 2) (pq 5))))))), (pq 2, .inr (1, [.ref (pq 3), .ref (pq 4), .int (nI ((t 5) + 1))])), (pq 3, .inl (k.1 0, 8, .inl (ta_e (ta_u (Y 0) (t 5) kd)))), (pq 4, .inl (k.1 0, 8, .inl (ta_e (ta_u (Y 1) (t 5) (tn_v tx L (tn_e tx L en)))))), (pq 5, .inr (1, [.ref (pq 6), .ref (pq 7), .int (nI (t 6))])), (pq 6, .inl (k.1 0, 8, .inl (ta_e (Y 2)))), (pq 7, .inl (k.1 0, 8, .inl (ta_e (Y 3))))] := hD.sub [5, 6, 7, 0, 1, 8, 9, 10, 2, 3, 4] (by decide) rfl
                  have hPp : va_P D vwCl [(pq 0, .inr (3, [.int (nI (t 0)), .int (nI (t 1)), .int (nI (t 2)), .int (nI (t 3)), .int (nI (t 4)), .ref (pq 1)])), (pq 1, .inl (k.1 2, 2, .inr (.inr (.inr (.inr (ta_dr (pq 2) (pq 5))))))), (pq 2, .inr (1, [.ref (pq 3), .ref (pq 4), .int (nI ((t 5) + 1))])), (pq 3, .inl (k.1 0, 8, .inl (ta_e (ta_u (Y 0) (t 5) kd)))), (pq 4, .inl (k.1 0, 8, .inl (ta_e (ta_u (Y 1) (t 5) (tn_v tx L (tn_e tx L en)))))), (pq 5, .inr (1, [.ref (pq 6), .ref (pq 7), .int (nI (t 6))])), (pq 6, .inl (k.1 0, 8, .inl (ta_e (Y 2)))), (pq 7, .inl (k.1 0, 8, .inl (ta_e (Y 3))))] H := hP.sub [3, 4, 5, 6, 7, 8, 9, 10] rfl
                  have hP : va_P D vwCl ([(rd, .inr (4, [.ref (x 0), .ref (pq 0), .int (nI (tn_s tx L (tn_e tx L en))), .int (nI (tn_e tx L (tn_e tx L en))), .int (nI 4294967295), .int (nI cl)]))] ++ ((txW k x L tx) ++ (plW k pq (cl_put t 0 (10 * kd + tn_v tx L (tn_e tx L en))) (ta_x4 (ta_u (Y 0) (t 5) kd) (ta_u (Y 1) (t 5) (tn_v tx L (tn_e tx L en))) (Y 2) (Y 3))))) H := va_P.app (hP.sub [0] rfl) (va_P.app (hP.sub [1, 2] rfl) (pl_to (t := cl_put t 0 (10 * kd + tn_v tx L (tn_e tx L en))) ⟨(by unfold cl_put; rw [ta_un (by omega), ta_un (by omega)]), (by unfold cl_put; rw [ta_un (by omega), ta_un (by omega)]), (by unfold cl_put; rw [ta_un (by omega), ta_un (by omega)]), (by unfold cl_put; rw [ta_un (by omega), ta_un (by omega)]), (by unfold cl_put; rw [ta_un (by omega), ta_un (by omega)]), rfl, (by unfold cl_put; rw [ta_un (by omega), ta_un (by omega)])⟩ hPp))
                  have hD : va_D A ([(rd, .inr (4, [.ref (x 0), .ref (pq 0), .int (nI (tn_s tx L (tn_e tx L en))), .int (nI (tn_e tx L (tn_e tx L en))), .int (nI 4294967295), .int (nI cl)]))] ++ ((txW k x L tx) ++ (plW k pq (cl_put t 0 (10 * kd + tn_v tx L (tn_e tx L en))) (ta_x4 (ta_u (Y 0) (t 5) kd) (ta_u (Y 1) (t 5) (tn_v tx L (tn_e tx L en))) (Y 2) (Y 3))))) := ta_De hD rfl
                  have eF : cl_fig kd tx L en t = (4294967295, tn_e tx L (tn_e tx L en), cl_put t 0 (10 * kd + tn_v tx L (tn_e tx L en))) := by unfold cl_fig; rw [← ha, cl_p (show cl_in tx L en 0 1 ∧ t 5 < 8 from ⟨hin5, hf16⟩), cl_p hin21]
                  exact ret (tn_s tx L (tn_e tx L en), tn_e tx L (tn_e tx L en), 4294967295, cl_put t 0 (10 * kd + tn_v tx L (tn_e tx L en)), ta_x4 (ta_u (Y 0) (t 5) kd) (ta_u (Y 1) (t 5) (tn_v tx L (tn_e tx L en))) (Y 2) (Y 3)) dX4_readFigure_82 (Or.inl ⟨by rw [eF], rfl, by rw [eF], by rw [eF], by rw [eF]; exact pl_Xa0 hY pp6 hf16 (by omega)⟩) hP hD hS
              · obtain ⟨hin26, rfl, rfl⟩ := h0
                have hP : va_P D vwCl ([(pq 0, .inr (3, [.int (nI (t 0)), .int (nI (t 1)), .int (nI (t 2)), .int (nI (t 3)), .int (nI (t 4)), .ref (pq 1)])), (pq 1, .inl (k.1 2, 2, .inr (.inr (.inr (.inr (ta_dr (pq 2) (pq 5))))))), (pq 3, .inl (k.1 0, 8, .inl (ta_e (Y 0)))), (pq 4, .inl (k.1 0, 8, .inl (ta_e (Y 1)))), (pq 5, .inr (1, [.ref (pq 6), .ref (pq 7), .int (nI (t 6))])), (pq 6, .inl (k.1 0, 8, .inl (ta_e (Y 2)))), (pq 7, .inl (k.1 0, 8, .inl (ta_e (Y 3)))), (pq 2, .inr (1, [.ref (pq 3), .ref (pq 4), .int (nI (t 5))])), (rd, .inr (4, [.ref (x 0), .ref (pq 0), .int (nI (tn_s tx L (tn_e tx L en))), .int (nI (tn_e tx L (tn_e tx L en))), .int (nI (tn_s tx L (tn_e tx L en))), .int (nI cl)]))] ++ (txW k x L tx)) H := hP
                have hD : va_D A ([(pq 0, .inr (3, [.int (nI (t 0)), .int (nI (t 1)), .int (nI (t 2)), .int (nI (t 3)), .int (nI (t 4)), .ref (pq 1)])), (pq 1, .inl (k.1 2, 2, .inr (.inr (.inr (.inr (ta_dr (pq 2) (pq 5))))))), (pq 3, .inl (k.1 0, 8, .inl (ta_e (Y 0)))), (pq 4, .inl (k.1 0, 8, .inl (ta_e (Y 1)))), (pq 5, .inr (1, [.ref (pq 6), .ref (pq 7), .int (nI (t 6))])), (pq 6, .inl (k.1 0, 8, .inl (ta_e (Y 2)))), (pq 7, .inl (k.1 0, 8, .inl (ta_e (Y 3)))), (pq 2, .inr (1, [.ref (pq 3), .ref (pq 4), .int (nI (t 5))])), (rd, .inr (4, [.ref (x 0), .ref (pq 0), .int (nI (tn_s tx L (tn_e tx L en))), .int (nI (tn_e tx L (tn_e tx L en))), .int (nI (tn_s tx L (tn_e tx L en))), .int (nI cl)]))] ++ (txW k x L tx)) := hD
                obtain ⟨b11, b21, b31, b41⟩ := tn_b (tx := tx) (p := tn_e tx L en) (by omega)
                refine lv_istore_n (lv' := [(3, .int (nI 1)), (2, .int (nI 0)), (0, .ref rd), (1, .int (nI kd))]) hx hb dX4_readFigure_59 rfl hl (by decide) rfl (fun ls hl => ?_)
                refine lv_aload_n hx hb dX4_readFigure_60 rfl (lv_at hl 2 rfl) ?_
                refine ta_get C hP 8 inlX4 rfl rfl 4 (by decide) tw_72 rfl dX4_readFigure_61 ?_
                refine ta_iconst C 4294967295 dX4_readFigure_64 (by decide) ?_
                refine ta_cne C (a := tn_s tx L (tn_e tx L en)) (b := 4294967295) (tgt := 82) (by omega) (by omega) dX4_readFigure_65 (by decide) (fun c27 => ?_) (fun c27 => ?_)
                · have hP : va_P D vwCl [(rd, .inr (4, [.ref (x 0), .ref (pq 0), .int (nI (tn_s tx L (tn_e tx L en))), .int (nI (tn_e tx L (tn_e tx L en))), .int (nI (tn_s tx L (tn_e tx L en))), .int (nI cl)])), (x 0, .inr (6, [.ref (x 1), .int (nI L)])), (x 1, .inl (k.1 0, 160, .inl (ta_e tx))), (pq 0, .inr (3, [.int (nI (t 0)), .int (nI (t 1)), .int (nI (t 2)), .int (nI (t 3)), .int (nI (t 4)), .ref (pq 1)])), (pq 1, .inl (k.1 2, 2, .inr (.inr (.inr (.inr (ta_dr (pq 2) (pq 5))))))), (pq 2, .inr (1, [.ref (pq 3), .ref (pq 4), .int (nI (t 5))])), (pq 3, .inl (k.1 0, 8, .inl (ta_e (Y 0)))), (pq 4, .inl (k.1 0, 8, .inl (ta_e (Y 1)))), (pq 5, .inr (1, [.ref (pq 6), .ref (pq 7), .int (nI (t 6))])), (pq 6, .inl (k.1 0, 8, .inl (ta_e (Y 2)))), (pq 7, .inl (k.1 0, 8, .inl (ta_e (Y 3))))] H := hP.sub [8, 9, 10, 0, 1, 7, 2, 3, 4, 5, 6] rfl
                  have hD : va_D A [(rd, .inr (4, [.ref (x 0), .ref (pq 0), .int (nI (tn_s tx L (tn_e tx L en))), .int (nI (tn_e tx L (tn_e tx L en))), .int (nI (tn_s tx L (tn_e tx L en))), .int (nI cl)])), (x 0, .inr (6, [.ref (x 1), .int (nI L)])), (x 1, .inl (k.1 0, 160, .inl (ta_e tx))), (pq 0, .inr (3, [.int (nI (t 0)), .int (nI (t 1)), .int (nI (t 2)), .int (nI (t 3)), .int (nI (t 4)), .ref (pq 1)])), (pq 1, .inl (k.1 2, 2, .inr (.inr (.inr (.inr (ta_dr (pq 2) (pq 5))))))), (pq 2, .inr (1, [.ref (pq 3), .ref (pq 4), .int (nI (t 5))])), (pq 3, .inl (k.1 0, 8, .inl (ta_e (Y 0)))), (pq 4, .inl (k.1 0, 8, .inl (ta_e (Y 1)))), (pq 5, .inr (1, [.ref (pq 6), .ref (pq 7), .int (nI (t 6))])), (pq 6, .inl (k.1 0, 8, .inl (ta_e (Y 2)))), (pq 7, .inl (k.1 0, 8, .inl (ta_e (Y 3))))] := hD.sub [8, 9, 10, 0, 1, 7, 2, 3, 4, 5, 6] (by decide) rfl
                  have hPp : va_P D vwCl [(pq 0, .inr (3, [.int (nI (t 0)), .int (nI (t 1)), .int (nI (t 2)), .int (nI (t 3)), .int (nI (t 4)), .ref (pq 1)])), (pq 1, .inl (k.1 2, 2, .inr (.inr (.inr (.inr (ta_dr (pq 2) (pq 5))))))), (pq 2, .inr (1, [.ref (pq 3), .ref (pq 4), .int (nI (t 5))])), (pq 3, .inl (k.1 0, 8, .inl (ta_e (Y 0)))), (pq 4, .inl (k.1 0, 8, .inl (ta_e (Y 1)))), (pq 5, .inr (1, [.ref (pq 6), .ref (pq 7), .int (nI (t 6))])), (pq 6, .inl (k.1 0, 8, .inl (ta_e (Y 2)))), (pq 7, .inl (k.1 0, 8, .inl (ta_e (Y 3))))] H := hP.sub [3, 4, 5, 6, 7, 8, 9, 10] rfl
                  have hP : va_P D vwCl ([(rd, .inr (4, [.ref (x 0), .ref (pq 0), .int (nI (tn_s tx L (tn_e tx L en))), .int (nI (tn_e tx L (tn_e tx L en))), .int (nI (tn_s tx L (tn_e tx L en))), .int (nI cl)]))] ++ ((txW k x L tx) ++ (plW k pq t Y))) H := va_P.app (hP.sub [0] rfl) (va_P.app (hP.sub [1, 2] rfl) (pl_to (t := t) ⟨rfl, rfl, rfl, rfl, rfl, rfl, rfl⟩ hPp))
                  have hD : va_D A ([(rd, .inr (4, [.ref (x 0), .ref (pq 0), .int (nI (tn_s tx L (tn_e tx L en))), .int (nI (tn_e tx L (tn_e tx L en))), .int (nI (tn_s tx L (tn_e tx L en))), .int (nI cl)]))] ++ ((txW k x L tx) ++ (plW k pq t Y))) := ta_De hD rfl
                  have eF : cl_fig kd tx L en t = (tn_s tx L (tn_e tx L en), 0, t) := by unfold cl_fig; rw [← ha, cl_p (show cl_in tx L en 0 1 ∧ t 5 < 8 from ⟨hin5, hf16⟩), cl_n hin26]
                  exact ret (tn_s tx L (tn_e tx L en), tn_e tx L (tn_e tx L en), tn_s tx L (tn_e tx L en), t, Y) dX4_readFigure_82 (Or.inr ⟨by rw [eF]; exact Nat.ne_of_lt (show tn_s tx L (tn_e tx L en) < 4294967295 by omega), by rw [eF]⟩) hP hD hS
                · exfalso; omega
            · exact absurd c17 (by decide)
        · refine lv_aload_n hx hb dX4_readFigure_29 rfl (lv_at hl 1 rfl) ?_
          refine ta_get C hP 8 inlX4 rfl rfl 1 (by decide) tw_69 rfl dX4_readFigure_30 ?_
          refine ta_getN C hP 0 inlX3 rfl rfl 5 (by decide) 21 rfl rfl dX4_readFigure_33 ?_
          refine lv_iload_n hx hb dX4_readFigure_36 rfl (lv_at hl 0 rfl) ?_
          refine ta_aald C hP 1 2 rfl rfl (i := 1) (x := pq 5) (by omega) rfl dX4_readFigure_37 ?_
          refine ta_callVi (As := []) (rest0 := []) (Wr := ([(pq 0, .inr (3, [.int (nI (t 0)), .int (nI (t 1)), .int (nI (t 2)), .int (nI (t 3)), .int (nI (t 4)), .ref (pq 1)])), (pq 1, .inl (k.1 2, 2, .inr (.inr (.inr (.inr (ta_dr (pq 2) (pq 5))))))), (pq 2, .inr (1, [.ref (pq 3), .ref (pq 4), .int (nI (t 5))])), (pq 3, .inl (k.1 0, 8, .inl (ta_e (Y 0)))), (pq 4, .inl (k.1 0, 8, .inl (ta_e (Y 1)))), (pq 6, .inl (k.1 0, 8, .inl (ta_e (Y 2)))), (pq 7, .inl (k.1 0, 8, .inl (ta_e (Y 3)))), (rd, .inr (4, [.ref (x 0), .ref (pq 0), .int (nI (tn_s tx L en)), .int (nI (tn_e tx L en)), .int (nI 4294967295), .int (nI cl)]))] ++ (txW k x L tx))) C hP hD hS (c_X1_isFull l D k (pq 5) (pq 6) (pq 7) (t 6) (by omega)) 5 rfl rfl rfl [5] [0, 1, 2, 3, 4, 6, 7, 8, 9, 10] rfl rfl (by decide) (by decide) (by decide) tw_290 tw_287 tw_56 tw_288 tw_289 ⟨by decide, by decide, rfl⟩ ⟨Nat.le_of_ble_eq_true rfl, Nat.le_of_ble_eq_true rfl⟩ ⟨Nat.zero_le _, Nat.zero_le _⟩ hl.1 rfl (Nat.le_of_ble_eq_true rfl) dX4_readFigure_38 (fun r28 u29 H locs h30 hP hD hS => ?_)
          rcases h30 with h0 | h0
          · obtain ⟨hf31, rfl⟩ := h0
            have hP : va_P D vwCl ([(pq 0, .inr (3, [.int (nI (t 0)), .int (nI (t 1)), .int (nI (t 2)), .int (nI (t 3)), .int (nI (t 4)), .ref (pq 1)])), (pq 1, .inl (k.1 2, 2, .inr (.inr (.inr (.inr (ta_dr (pq 2) (pq 5))))))), (pq 2, .inr (1, [.ref (pq 3), .ref (pq 4), .int (nI (t 5))])), (pq 3, .inl (k.1 0, 8, .inl (ta_e (Y 0)))), (pq 4, .inl (k.1 0, 8, .inl (ta_e (Y 1)))), (pq 6, .inl (k.1 0, 8, .inl (ta_e (Y 2)))), (pq 7, .inl (k.1 0, 8, .inl (ta_e (Y 3)))), (rd, .inr (4, [.ref (x 0), .ref (pq 0), .int (nI (tn_s tx L en)), .int (nI (tn_e tx L en)), .int (nI 4294967295), .int (nI cl)]))] ++ ((txW k x L tx) ++ [(pq 5, .inr (1, [.ref (pq 6), .ref (pq 7), .int (nI (t 6))]))])) H := hP
            have hD : va_D A ([(pq 0, .inr (3, [.int (nI (t 0)), .int (nI (t 1)), .int (nI (t 2)), .int (nI (t 3)), .int (nI (t 4)), .ref (pq 1)])), (pq 1, .inl (k.1 2, 2, .inr (.inr (.inr (.inr (ta_dr (pq 2) (pq 5))))))), (pq 2, .inr (1, [.ref (pq 3), .ref (pq 4), .int (nI (t 5))])), (pq 3, .inl (k.1 0, 8, .inl (ta_e (Y 0)))), (pq 4, .inl (k.1 0, 8, .inl (ta_e (Y 1)))), (pq 6, .inl (k.1 0, 8, .inl (ta_e (Y 2)))), (pq 7, .inl (k.1 0, 8, .inl (ta_e (Y 3)))), (rd, .inr (4, [.ref (x 0), .ref (pq 0), .int (nI (tn_s tx L en)), .int (nI (tn_e tx L en)), .int (nI 4294967295), .int (nI cl)]))] ++ ((txW k x L tx) ++ [(pq 5, .inr (1, [.ref (pq 6), .ref (pq 7), .int (nI (t 6))]))])) := hD
            refine lv_if_eq (tgt := 52) hx hb dX4_readFigure_41 (by decide) (fun c32 => ?_) (fun c32 => ?_)
            · exact absurd c32 (by decide)
            · refine lv_aload_n hx hb dX4_readFigure_44 rfl (lv_at hl 1 rfl) ?_
              refine lv_aload_n hx hb dX4_readFigure_45 rfl (lv_at hl 1 rfl) ?_
              refine ta_get C hP 7 inlX4 rfl rfl 2 (by decide) tw_70 rfl dX4_readFigure_46 ?_
              refine ta_put C hP hD hS 7 inlX4 tyX4 tyX4_ok nmX4 rfl rfl 4 (by decide) tw_72 rfl rfl rfl (Nat.le_of_ble_eq_true rfl) dX4_readFigure_49 (fun H locs hP hD hS => ?_)
              have hP : va_P D vwCl ([(pq 0, .inr (3, [.int (nI (t 0)), .int (nI (t 1)), .int (nI (t 2)), .int (nI (t 3)), .int (nI (t 4)), .ref (pq 1)])), (pq 1, .inl (k.1 2, 2, .inr (.inr (.inr (.inr (ta_dr (pq 2) (pq 5))))))), (pq 2, .inr (1, [.ref (pq 3), .ref (pq 4), .int (nI (t 5))])), (pq 3, .inl (k.1 0, 8, .inl (ta_e (Y 0)))), (pq 4, .inl (k.1 0, 8, .inl (ta_e (Y 1)))), (pq 6, .inl (k.1 0, 8, .inl (ta_e (Y 2)))), (pq 7, .inl (k.1 0, 8, .inl (ta_e (Y 3)))), (rd, .inr (4, [.ref (x 0), .ref (pq 0), .int (nI (tn_s tx L en)), .int (nI (tn_e tx L en)), .int (nI (tn_s tx L en)), .int (nI cl)]))] ++ ((txW k x L tx) ++ [(pq 5, .inr (1, [.ref (pq 6), .ref (pq 7), .int (nI (t 6))]))])) H := hP
              have hD : va_D A ([(pq 0, .inr (3, [.int (nI (t 0)), .int (nI (t 1)), .int (nI (t 2)), .int (nI (t 3)), .int (nI (t 4)), .ref (pq 1)])), (pq 1, .inl (k.1 2, 2, .inr (.inr (.inr (.inr (ta_dr (pq 2) (pq 5))))))), (pq 2, .inr (1, [.ref (pq 3), .ref (pq 4), .int (nI (t 5))])), (pq 3, .inl (k.1 0, 8, .inl (ta_e (Y 0)))), (pq 4, .inl (k.1 0, 8, .inl (ta_e (Y 1)))), (pq 6, .inl (k.1 0, 8, .inl (ta_e (Y 2)))), (pq 7, .inl (k.1 0, 8, .inl (ta_e (Y 3)))), (rd, .inr (4, [.ref (x 0), .ref (pq 0), .int (nI (tn_s tx L en)), .int (nI (tn_e tx L en)), .int (nI (tn_s tx L en)), .int (nI cl)]))] ++ ((txW k x L tx) ++ [(pq 5, .inr (1, [.ref (pq 6), .ref (pq 7), .int (nI (t 6))]))])) := hD
              refine lv_aload_n hx hb dX4_readFigure_52 rfl (lv_at hl 1 rfl) ?_
              refine ta_iconst C 1 dX4_readFigure_53 (by decide) ?_
              refine ta_bipush C 9 dX4_readFigure_54 (by decide) ?_
              refine ta_callVi (As := [.int (nI 1), .int (nI 9)]) (rest0 := []) (Wr := [(pq 0, .inr (3, [.int (nI (t 0)), .int (nI (t 1)), .int (nI (t 2)), .int (nI (t 3)), .int (nI (t 4)), .ref (pq 1)])), (pq 1, .inl (k.1 2, 2, .inr (.inr (.inr (.inr (ta_dr (pq 2) (pq 5))))))), (pq 2, .inr (1, [.ref (pq 3), .ref (pq 4), .int (nI (t 5))])), (pq 3, .inl (k.1 0, 8, .inl (ta_e (Y 0)))), (pq 4, .inl (k.1 0, 8, .inl (ta_e (Y 1)))), (pq 6, .inl (k.1 0, 8, .inl (ta_e (Y 2)))), (pq 7, .inl (k.1 0, 8, .inl (ta_e (Y 3)))), (pq 5, .inr (1, [.ref (pq 6), .ref (pq 7), .int (nI (t 6))]))]) C hP hD hS (c_X4_readNumber_f l D k rd (pq 0) (tn_s tx L en) (tn_e tx L en) (tn_s tx L en) cl x L tx 1 9 (by omega)) 7 rfl rfl rfl [7, 8, 9] [0, 1, 2, 3, 4, 5, 6, 10] rfl rfl (by decide) (by decide) (by decide) tw_257 tw_254 tw_22 tw_255 tw_256 ⟨by decide, by decide, rfl⟩ ⟨Nat.le_of_ble_eq_true rfl, Nat.le_of_ble_eq_true rfl⟩ ⟨Nat.zero_le _, Nat.zero_le _⟩ hl.1 rfl (Nat.le_of_ble_eq_true rfl) dX4_readFigure_56 (fun r33 u34 H locs h35 hP hD hS => ?_)
              obtain rfl := h35
              have hP : va_P D vwCl ([(pq 0, .inr (3, [.int (nI (t 0)), .int (nI (t 1)), .int (nI (t 2)), .int (nI (t 3)), .int (nI (t 4)), .ref (pq 1)])), (pq 1, .inl (k.1 2, 2, .inr (.inr (.inr (.inr (ta_dr (pq 2) (pq 5))))))), (pq 2, .inr (1, [.ref (pq 3), .ref (pq 4), .int (nI (t 5))])), (pq 3, .inl (k.1 0, 8, .inl (ta_e (Y 0)))), (pq 4, .inl (k.1 0, 8, .inl (ta_e (Y 1)))), (pq 6, .inl (k.1 0, 8, .inl (ta_e (Y 2)))), (pq 7, .inl (k.1 0, 8, .inl (ta_e (Y 3)))), (pq 5, .inr (1, [.ref (pq 6), .ref (pq 7), .int (nI (t 6))])), (rd, .inr (4, [.ref (x 0), .ref (pq 0), .int (nI (tn_s tx L en)), .int (nI (tn_e tx L en)), .int (nI (tn_s tx L en)), .int (nI cl)]))] ++ (txW k x L tx)) H := hP
              have hD : va_D A ([(pq 0, .inr (3, [.int (nI (t 0)), .int (nI (t 1)), .int (nI (t 2)), .int (nI (t 3)), .int (nI (t 4)), .ref (pq 1)])), (pq 1, .inl (k.1 2, 2, .inr (.inr (.inr (.inr (ta_dr (pq 2) (pq 5))))))), (pq 2, .inr (1, [.ref (pq 3), .ref (pq 4), .int (nI (t 5))])), (pq 3, .inl (k.1 0, 8, .inl (ta_e (Y 0)))), (pq 4, .inl (k.1 0, 8, .inl (ta_e (Y 1)))), (pq 6, .inl (k.1 0, 8, .inl (ta_e (Y 2)))), (pq 7, .inl (k.1 0, 8, .inl (ta_e (Y 3)))), (pq 5, .inr (1, [.ref (pq 6), .ref (pq 7), .int (nI (t 6))])), (rd, .inr (4, [.ref (x 0), .ref (pq 0), .int (nI (tn_s tx L en)), .int (nI (tn_e tx L en)), .int (nI (tn_s tx L en)), .int (nI cl)]))] ++ (txW k x L tx)) := hD
              refine lv_istore_n (lv' := [(3, .int (nI 1)), (2, .int (nI 1)), (0, .ref rd), (1, .int (nI kd))]) hx hb dX4_readFigure_59 rfl hl (by decide) rfl (fun ls hl => ?_)
              refine lv_aload_n hx hb dX4_readFigure_60 rfl (lv_at hl 2 rfl) ?_
              refine ta_get C hP 8 inlX4 rfl rfl 4 (by decide) tw_72 rfl dX4_readFigure_61 ?_
              refine ta_iconst C 4294967295 dX4_readFigure_64 (by decide) ?_
              refine ta_cne C (a := tn_s tx L en) (b := 4294967295) (tgt := 82) (by omega) (by omega) dX4_readFigure_65 (by decide) (fun c36 => ?_) (fun c36 => ?_)
              · have hP : va_P D vwCl [(rd, .inr (4, [.ref (x 0), .ref (pq 0), .int (nI (tn_s tx L en)), .int (nI (tn_e tx L en)), .int (nI (tn_s tx L en)), .int (nI cl)])), (x 0, .inr (6, [.ref (x 1), .int (nI L)])), (x 1, .inl (k.1 0, 160, .inl (ta_e tx))), (pq 0, .inr (3, [.int (nI (t 0)), .int (nI (t 1)), .int (nI (t 2)), .int (nI (t 3)), .int (nI (t 4)), .ref (pq 1)])), (pq 1, .inl (k.1 2, 2, .inr (.inr (.inr (.inr (ta_dr (pq 2) (pq 5))))))), (pq 2, .inr (1, [.ref (pq 3), .ref (pq 4), .int (nI (t 5))])), (pq 3, .inl (k.1 0, 8, .inl (ta_e (Y 0)))), (pq 4, .inl (k.1 0, 8, .inl (ta_e (Y 1)))), (pq 5, .inr (1, [.ref (pq 6), .ref (pq 7), .int (nI (t 6))])), (pq 6, .inl (k.1 0, 8, .inl (ta_e (Y 2)))), (pq 7, .inl (k.1 0, 8, .inl (ta_e (Y 3))))] H := hP.sub [8, 9, 10, 0, 1, 2, 3, 4, 7, 5, 6] rfl
                have hD : va_D A [(rd, .inr (4, [.ref (x 0), .ref (pq 0), .int (nI (tn_s tx L en)), .int (nI (tn_e tx L en)), .int (nI (tn_s tx L en)), .int (nI cl)])), (x 0, .inr (6, [.ref (x 1), .int (nI L)])), (x 1, .inl (k.1 0, 160, .inl (ta_e tx))), (pq 0, .inr (3, [.int (nI (t 0)), .int (nI (t 1)), .int (nI (t 2)), .int (nI (t 3)), .int (nI (t 4)), .ref (pq 1)])), (pq 1, .inl (k.1 2, 2, .inr (.inr (.inr (.inr (ta_dr (pq 2) (pq 5))))))), (pq 2, .inr (1, [.ref (pq 3), .ref (pq 4), .int (nI (t 5))])), (pq 3, .inl (k.1 0, 8, .inl (ta_e (Y 0)))), (pq 4, .inl (k.1 0, 8, .inl (ta_e (Y 1)))), (pq 5, .inr (1, [.ref (pq 6), .ref (pq 7), .int (nI (t 6))])), (pq 6, .inl (k.1 0, 8, .inl (ta_e (Y 2)))), (pq 7, .inl (k.1 0, 8, .inl (ta_e (Y 3))))] := hD.sub [8, 9, 10, 0, 1, 2, 3, 4, 7, 5, 6] (by decide) rfl
                have hPp : va_P D vwCl [(pq 0, .inr (3, [.int (nI (t 0)), .int (nI (t 1)), .int (nI (t 2)), .int (nI (t 3)), .int (nI (t 4)), .ref (pq 1)])), (pq 1, .inl (k.1 2, 2, .inr (.inr (.inr (.inr (ta_dr (pq 2) (pq 5))))))), (pq 2, .inr (1, [.ref (pq 3), .ref (pq 4), .int (nI (t 5))])), (pq 3, .inl (k.1 0, 8, .inl (ta_e (Y 0)))), (pq 4, .inl (k.1 0, 8, .inl (ta_e (Y 1)))), (pq 5, .inr (1, [.ref (pq 6), .ref (pq 7), .int (nI (t 6))])), (pq 6, .inl (k.1 0, 8, .inl (ta_e (Y 2)))), (pq 7, .inl (k.1 0, 8, .inl (ta_e (Y 3))))] H := hP.sub [3, 4, 5, 6, 7, 8, 9, 10] rfl
                have hP : va_P D vwCl ([(rd, .inr (4, [.ref (x 0), .ref (pq 0), .int (nI (tn_s tx L en)), .int (nI (tn_e tx L en)), .int (nI (tn_s tx L en)), .int (nI cl)]))] ++ ((txW k x L tx) ++ (plW k pq t Y))) H := va_P.app (hP.sub [0] rfl) (va_P.app (hP.sub [1, 2] rfl) (pl_to (t := t) ⟨rfl, rfl, rfl, rfl, rfl, rfl, rfl⟩ hPp))
                have hD : va_D A ([(rd, .inr (4, [.ref (x 0), .ref (pq 0), .int (nI (tn_s tx L en)), .int (nI (tn_e tx L en)), .int (nI (tn_s tx L en)), .int (nI cl)]))] ++ ((txW k x L tx) ++ (plW k pq t Y))) := ta_De hD rfl
                have eF : cl_fig kd tx L en t = (tn_s tx L en, 0, t) := by unfold cl_fig; rw [← ha, cl_n (fun h => by have h9 : t 6 < 8 := h.2; omega)]
                exact ret (tn_s tx L en, tn_e tx L en, tn_s tx L en, t, Y) dX4_readFigure_82 (Or.inr ⟨by rw [eF]; exact Nat.ne_of_lt (show tn_s tx L en < 4294967295 by omega), by rw [eF]⟩) hP hD hS
              · exfalso; omega
          · obtain ⟨hf37, rfl⟩ := h0
            have hP : va_P D vwCl ([(pq 0, .inr (3, [.int (nI (t 0)), .int (nI (t 1)), .int (nI (t 2)), .int (nI (t 3)), .int (nI (t 4)), .ref (pq 1)])), (pq 1, .inl (k.1 2, 2, .inr (.inr (.inr (.inr (ta_dr (pq 2) (pq 5))))))), (pq 2, .inr (1, [.ref (pq 3), .ref (pq 4), .int (nI (t 5))])), (pq 3, .inl (k.1 0, 8, .inl (ta_e (Y 0)))), (pq 4, .inl (k.1 0, 8, .inl (ta_e (Y 1)))), (pq 6, .inl (k.1 0, 8, .inl (ta_e (Y 2)))), (pq 7, .inl (k.1 0, 8, .inl (ta_e (Y 3)))), (rd, .inr (4, [.ref (x 0), .ref (pq 0), .int (nI (tn_s tx L en)), .int (nI (tn_e tx L en)), .int (nI 4294967295), .int (nI cl)]))] ++ ((txW k x L tx) ++ [(pq 5, .inr (1, [.ref (pq 6), .ref (pq 7), .int (nI (t 6))]))])) H := hP
            have hD : va_D A ([(pq 0, .inr (3, [.int (nI (t 0)), .int (nI (t 1)), .int (nI (t 2)), .int (nI (t 3)), .int (nI (t 4)), .ref (pq 1)])), (pq 1, .inl (k.1 2, 2, .inr (.inr (.inr (.inr (ta_dr (pq 2) (pq 5))))))), (pq 2, .inr (1, [.ref (pq 3), .ref (pq 4), .int (nI (t 5))])), (pq 3, .inl (k.1 0, 8, .inl (ta_e (Y 0)))), (pq 4, .inl (k.1 0, 8, .inl (ta_e (Y 1)))), (pq 6, .inl (k.1 0, 8, .inl (ta_e (Y 2)))), (pq 7, .inl (k.1 0, 8, .inl (ta_e (Y 3)))), (rd, .inr (4, [.ref (x 0), .ref (pq 0), .int (nI (tn_s tx L en)), .int (nI (tn_e tx L en)), .int (nI 4294967295), .int (nI cl)]))] ++ ((txW k x L tx) ++ [(pq 5, .inr (1, [.ref (pq 6), .ref (pq 7), .int (nI (t 6))]))])) := hD
            refine lv_if_eq (tgt := 52) hx hb dX4_readFigure_41 (by decide) (fun c38 => ?_) (fun c38 => ?_)
            · refine lv_aload_n hx hb dX4_readFigure_52 rfl (lv_at hl 1 rfl) ?_
              refine ta_iconst C 1 dX4_readFigure_53 (by decide) ?_
              refine ta_bipush C 9 dX4_readFigure_54 (by decide) ?_
              refine ta_callVi (As := [.int (nI 1), .int (nI 9)]) (rest0 := []) (Wr := [(pq 0, .inr (3, [.int (nI (t 0)), .int (nI (t 1)), .int (nI (t 2)), .int (nI (t 3)), .int (nI (t 4)), .ref (pq 1)])), (pq 1, .inl (k.1 2, 2, .inr (.inr (.inr (.inr (ta_dr (pq 2) (pq 5))))))), (pq 2, .inr (1, [.ref (pq 3), .ref (pq 4), .int (nI (t 5))])), (pq 3, .inl (k.1 0, 8, .inl (ta_e (Y 0)))), (pq 4, .inl (k.1 0, 8, .inl (ta_e (Y 1)))), (pq 6, .inl (k.1 0, 8, .inl (ta_e (Y 2)))), (pq 7, .inl (k.1 0, 8, .inl (ta_e (Y 3)))), (pq 5, .inr (1, [.ref (pq 6), .ref (pq 7), .int (nI (t 6))]))]) C hP hD hS (c_X4_readNumber l D k rd (pq 0) (tn_s tx L en) (tn_e tx L en) cl x L tx 1 9 hx0 (by omega) ⟨by omega, by omega⟩) 7 rfl rfl rfl [7, 8, 9] [0, 1, 2, 3, 4, 5, 6, 10] rfl rfl (by decide) (by decide) (by decide) tw_257 tw_254 tw_22 tw_255 tw_256 ⟨by decide, by decide, rfl⟩ ⟨Nat.le_of_ble_eq_true rfl, Nat.le_of_ble_eq_true rfl⟩ ⟨Nat.zero_le _, Nat.zero_le _⟩ hl.1 rfl (Nat.le_of_ble_eq_true rfl) dX4_readFigure_56 (fun r39 u40 H locs h41 hP hD hS => ?_)
              rcases h41 with h0 | h0
              · obtain ⟨hin42, rfl, rfl⟩ := h0
                have hP : va_P D vwCl ([(pq 0, .inr (3, [.int (nI (t 0)), .int (nI (t 1)), .int (nI (t 2)), .int (nI (t 3)), .int (nI (t 4)), .ref (pq 1)])), (pq 1, .inl (k.1 2, 2, .inr (.inr (.inr (.inr (ta_dr (pq 2) (pq 5))))))), (pq 2, .inr (1, [.ref (pq 3), .ref (pq 4), .int (nI (t 5))])), (pq 3, .inl (k.1 0, 8, .inl (ta_e (Y 0)))), (pq 4, .inl (k.1 0, 8, .inl (ta_e (Y 1)))), (pq 6, .inl (k.1 0, 8, .inl (ta_e (Y 2)))), (pq 7, .inl (k.1 0, 8, .inl (ta_e (Y 3)))), (pq 5, .inr (1, [.ref (pq 6), .ref (pq 7), .int (nI (t 6))])), (rd, .inr (4, [.ref (x 0), .ref (pq 0), .int (nI (tn_s tx L (tn_e tx L en))), .int (nI (tn_e tx L (tn_e tx L en))), .int (nI 4294967295), .int (nI cl)]))] ++ (txW k x L tx)) H := hP
                have hD : va_D A ([(pq 0, .inr (3, [.int (nI (t 0)), .int (nI (t 1)), .int (nI (t 2)), .int (nI (t 3)), .int (nI (t 4)), .ref (pq 1)])), (pq 1, .inl (k.1 2, 2, .inr (.inr (.inr (.inr (ta_dr (pq 2) (pq 5))))))), (pq 2, .inr (1, [.ref (pq 3), .ref (pq 4), .int (nI (t 5))])), (pq 3, .inl (k.1 0, 8, .inl (ta_e (Y 0)))), (pq 4, .inl (k.1 0, 8, .inl (ta_e (Y 1)))), (pq 6, .inl (k.1 0, 8, .inl (ta_e (Y 2)))), (pq 7, .inl (k.1 0, 8, .inl (ta_e (Y 3)))), (pq 5, .inr (1, [.ref (pq 6), .ref (pq 7), .int (nI (t 6))])), (rd, .inr (4, [.ref (x 0), .ref (pq 0), .int (nI (tn_s tx L (tn_e tx L en))), .int (nI (tn_e tx L (tn_e tx L en))), .int (nI 4294967295), .int (nI cl)]))] ++ (txW k x L tx)) := hD
                obtain ⟨b11, b21, b31, b41⟩ := tn_b (tx := tx) (p := tn_e tx L en) (by omega)
                refine lv_istore_n (lv' := [(3, .int (nI (tn_v tx L (tn_e tx L en)))), (2, .int (nI 1)), (0, .ref rd), (1, .int (nI kd))]) hx hb dX4_readFigure_59 rfl hl (by decide) rfl (fun ls hl => ?_)
                refine lv_aload_n hx hb dX4_readFigure_60 rfl (lv_at hl 2 rfl) ?_
                refine ta_get C hP 8 inlX4 rfl rfl 4 (by decide) tw_72 rfl dX4_readFigure_61 ?_
                refine ta_iconst C 4294967295 dX4_readFigure_64 (by decide) ?_
                refine lv_icmp_ne (tgt := 82) hx hb dX4_readFigure_65 (by decide) (fun c43 => ?_) (fun c43 => ?_)
                · exact absurd c43 (by decide)
                · refine lv_aload_n hx hb dX4_readFigure_68 rfl (lv_at hl 2 rfl) ?_
                  refine ta_get C hP 8 inlX4 rfl rfl 1 (by decide) tw_69 rfl dX4_readFigure_69 ?_
                  refine ta_getN C hP 0 inlX3 rfl rfl 5 (by decide) 21 rfl rfl dX4_readFigure_72 ?_
                  refine lv_iload_n hx hb dX4_readFigure_75 rfl (lv_at hl 1 rfl) ?_
                  refine ta_aald C hP 1 2 rfl rfl (i := 1) (x := pq 5) (by omega) rfl dX4_readFigure_76 ?_
                  refine lv_iload_n hx hb dX4_readFigure_77 rfl (lv_at hl 3 rfl) ?_
                  refine lv_iload_n hx hb dX4_readFigure_78 rfl (lv_at hl 0 rfl) ?_
                  refine ta_callVv (As := [.int (nI kd), .int (nI (tn_v tx L (tn_e tx L en)))]) (rest0 := []) (Wr := ([(pq 0, .inr (3, [.int (nI (t 0)), .int (nI (t 1)), .int (nI (t 2)), .int (nI (t 3)), .int (nI (t 4)), .ref (pq 1)])), (pq 1, .inl (k.1 2, 2, .inr (.inr (.inr (.inr (ta_dr (pq 2) (pq 5))))))), (pq 2, .inr (1, [.ref (pq 3), .ref (pq 4), .int (nI (t 5))])), (pq 3, .inl (k.1 0, 8, .inl (ta_e (Y 0)))), (pq 4, .inl (k.1 0, 8, .inl (ta_e (Y 1)))), (rd, .inr (4, [.ref (x 0), .ref (pq 0), .int (nI (tn_s tx L (tn_e tx L en))), .int (nI (tn_e tx L (tn_e tx L en))), .int (nI 4294967295), .int (nI cl)]))] ++ (txW k x L tx))) C hP hD hS (c_X1_append l D k (pq 5) (pq 6) (pq 7) (Y 2) (Y 3) (t 6) kd (tn_v tx L (tn_e tx L en)) (by omega)) 7 rfl rfl rfl [7, 5, 6] [0, 1, 2, 3, 4, 8, 9, 10] rfl rfl (by decide) (by decide) (by decide) tw_294 tw_291 tw_56 tw_292 tw_293 ⟨by decide, by decide, rfl⟩ ⟨Nat.le_of_ble_eq_true rfl, Nat.le_of_ble_eq_true rfl⟩ ⟨Nat.zero_le _, Nat.zero_le _⟩ hl.1 rfl (Nat.le_of_ble_eq_true rfl) dX4_readFigure_79 (fun u45 H locs h46 hP hD hS => ?_)
                  have hP : va_P D vwCl ([(pq 0, .inr (3, [.int (nI (t 0)), .int (nI (t 1)), .int (nI (t 2)), .int (nI (t 3)), .int (nI (t 4)), .ref (pq 1)])), (pq 1, .inl (k.1 2, 2, .inr (.inr (.inr (.inr (ta_dr (pq 2) (pq 5))))))), (pq 2, .inr (1, [.ref (pq 3), .ref (pq 4), .int (nI (t 5))])), (pq 3, .inl (k.1 0, 8, .inl (ta_e (Y 0)))), (pq 4, .inl (k.1 0, 8, .inl (ta_e (Y 1)))), (rd, .inr (4, [.ref (x 0), .ref (pq 0), .int (nI (tn_s tx L (tn_e tx L en))), .int (nI (tn_e tx L (tn_e tx L en))), .int (nI 4294967295), .int (nI cl)]))] ++ ((txW k x L tx) ++ [(pq 5, .inr (1, [.ref (pq 6), .ref (pq 7), .int (nI ((t 6) + 1))])), (pq 6, .inl (k.1 0, 8, .inl (ta_e (ta_u (Y 2) (t 6) kd)))), (pq 7, .inl (k.1 0, 8, .inl (ta_e (ta_u (Y 3) (t 6) (tn_v tx L (tn_e tx L en))))))])) H := hP
                  have hD : va_D A ([(pq 0, .inr (3, [.int (nI (t 0)), .int (nI (t 1)), .int (nI (t 2)), .int (nI (t 3)), .int (nI (t 4)), .ref (pq 1)])), (pq 1, .inl (k.1 2, 2, .inr (.inr (.inr (.inr (ta_dr (pq 2) (pq 5))))))), (pq 2, .inr (1, [.ref (pq 3), .ref (pq 4), .int (nI (t 5))])), (pq 3, .inl (k.1 0, 8, .inl (ta_e (Y 0)))), (pq 4, .inl (k.1 0, 8, .inl (ta_e (Y 1)))), (rd, .inr (4, [.ref (x 0), .ref (pq 0), .int (nI (tn_s tx L (tn_e tx L en))), .int (nI (tn_e tx L (tn_e tx L en))), .int (nI 4294967295), .int (nI cl)]))] ++ ((txW k x L tx) ++ [(pq 5, .inr (1, [.ref (pq 6), .ref (pq 7), .int (nI ((t 6) + 1))])), (pq 6, .inl (k.1 0, 8, .inl (ta_e (ta_u (Y 2) (t 6) kd)))), (pq 7, .inl (k.1 0, 8, .inl (ta_e (ta_u (Y 3) (t 6) (tn_v tx L (tn_e tx L en))))))])) := hD
                  have hin1 := cl_in_iff.mp hin42
                  have hP : va_P D vwCl [(rd, .inr (4, [.ref (x 0), .ref (pq 0), .int (nI (tn_s tx L (tn_e tx L en))), .int (nI (tn_e tx L (tn_e tx L en))), .int (nI 4294967295), .int (nI cl)])), (x 0, .inr (6, [.ref (x 1), .int (nI L)])), (x 1, .inl (k.1 0, 160, .inl (ta_e tx))), (pq 0, .inr (3, [.int (nI (t 0)), .int (nI (t 1)), .int (nI (t 2)), .int (nI (t 3)), .int (nI (t 4)), .ref (pq 1)])), (pq 1, .inl (k.1 2, 2, .inr (.inr (.inr (.inr (ta_dr (pq 2) (pq 5))))))), (pq 2, .inr (1, [.ref (pq 3), .ref (pq 4), .int (nI (t 5))])), (pq 3, .inl (k.1 0, 8, .inl (ta_e (Y 0)))), (pq 4, .inl (k.1 0, 8, .inl (ta_e (Y 1)))), (pq 5, .inr (1, [.ref (pq 6), .ref (pq 7), .int (nI ((t 6) + 1))])), (pq 6, .inl (k.1 0, 8, .inl (ta_e (ta_u (Y 2) (t 6) kd)))), (pq 7, .inl (k.1 0, 8, .inl (ta_e (ta_u (Y 3) (t 6) (tn_v tx L (tn_e tx L en))))))] H := hP.sub [5, 6, 7, 0, 1, 2, 3, 4, 8, 9, 10] rfl
                  have hD : va_D A [(rd, .inr (4, [.ref (x 0), .ref (pq 0), .int (nI (tn_s tx L (tn_e tx L en))), .int (nI (tn_e tx L (tn_e tx L en))), .int (nI 4294967295), .int (nI cl)])), (x 0, .inr (6, [.ref (x 1), .int (nI L)])), (x 1, .inl (k.1 0, 160, .inl (ta_e tx))), (pq 0, .inr (3, [.int (nI (t 0)), .int (nI (t 1)), .int (nI (t 2)), .int (nI (t 3)), .int (nI (t 4)), .ref (pq 1)])), (pq 1, .inl (k.1 2, 2, .inr (.inr (.inr (.inr (ta_dr (pq 2) (pq 5))))))), (pq 2, .inr (1, [.ref (pq 3), .ref (pq 4), .int (nI (t 5))])), (pq 3, .inl (k.1 0, 8, .inl (ta_e (Y 0)))), (pq 4, .inl (k.1 0, 8, .inl (ta_e (Y 1)))), (pq 5, .inr (1, [.ref (pq 6), .ref (pq 7), .int (nI ((t 6) + 1))])), (pq 6, .inl (k.1 0, 8, .inl (ta_e (ta_u (Y 2) (t 6) kd)))), (pq 7, .inl (k.1 0, 8, .inl (ta_e (ta_u (Y 3) (t 6) (tn_v tx L (tn_e tx L en))))))] := hD.sub [5, 6, 7, 0, 1, 2, 3, 4, 8, 9, 10] (by decide) rfl
                  have hPp : va_P D vwCl [(pq 0, .inr (3, [.int (nI (t 0)), .int (nI (t 1)), .int (nI (t 2)), .int (nI (t 3)), .int (nI (t 4)), .ref (pq 1)])), (pq 1, .inl (k.1 2, 2, .inr (.inr (.inr (.inr (ta_dr (pq 2) (pq 5))))))), (pq 2, .inr (1, [.ref (pq 3), .ref (pq 4), .int (nI (t 5))])), (pq 3, .inl (k.1 0, 8, .inl (ta_e (Y 0)))), (pq 4, .inl (k.1 0, 8, .inl (ta_e (Y 1)))), (pq 5, .inr (1, [.ref (pq 6), .ref (pq 7), .int (nI ((t 6) + 1))])), (pq 6, .inl (k.1 0, 8, .inl (ta_e (ta_u (Y 2) (t 6) kd)))), (pq 7, .inl (k.1 0, 8, .inl (ta_e (ta_u (Y 3) (t 6) (tn_v tx L (tn_e tx L en))))))] H := hP.sub [3, 4, 5, 6, 7, 8, 9, 10] rfl
                  have hP : va_P D vwCl ([(rd, .inr (4, [.ref (x 0), .ref (pq 0), .int (nI (tn_s tx L (tn_e tx L en))), .int (nI (tn_e tx L (tn_e tx L en))), .int (nI 4294967295), .int (nI cl)]))] ++ ((txW k x L tx) ++ (plW k pq (cl_put t 1 (10 * kd + tn_v tx L (tn_e tx L en))) (ta_x4 (Y 0) (Y 1) (ta_u (Y 2) (t 6) kd) (ta_u (Y 3) (t 6) (tn_v tx L (tn_e tx L en))))))) H := va_P.app (hP.sub [0] rfl) (va_P.app (hP.sub [1, 2] rfl) (pl_to (t := cl_put t 1 (10 * kd + tn_v tx L (tn_e tx L en))) ⟨(by unfold cl_put; rw [ta_un (by omega), ta_un (by omega)]), (by unfold cl_put; rw [ta_un (by omega), ta_un (by omega)]), (by unfold cl_put; rw [ta_un (by omega), ta_un (by omega)]), (by unfold cl_put; rw [ta_un (by omega), ta_un (by omega)]), (by unfold cl_put; rw [ta_un (by omega), ta_un (by omega)]), (by unfold cl_put; rw [ta_un (by omega), ta_un (by omega)]), rfl⟩ hPp))
                  have hD : va_D A ([(rd, .inr (4, [.ref (x 0), .ref (pq 0), .int (nI (tn_s tx L (tn_e tx L en))), .int (nI (tn_e tx L (tn_e tx L en))), .int (nI 4294967295), .int (nI cl)]))] ++ ((txW k x L tx) ++ (plW k pq (cl_put t 1 (10 * kd + tn_v tx L (tn_e tx L en))) (ta_x4 (Y 0) (Y 1) (ta_u (Y 2) (t 6) kd) (ta_u (Y 3) (t 6) (tn_v tx L (tn_e tx L en))))))) := ta_De hD rfl
                  have eF : cl_fig kd tx L en t = (4294967295, tn_e tx L (tn_e tx L en), cl_put t 1 (10 * kd + tn_v tx L (tn_e tx L en))) := by unfold cl_fig; rw [← ha, cl_p (show cl_in tx L en 0 1 ∧ t 6 < 8 from ⟨hin5, hf37⟩), cl_p hin42]
                  exact ret (tn_s tx L (tn_e tx L en), tn_e tx L (tn_e tx L en), 4294967295, cl_put t 1 (10 * kd + tn_v tx L (tn_e tx L en)), ta_x4 (Y 0) (Y 1) (ta_u (Y 2) (t 6) kd) (ta_u (Y 3) (t 6) (tn_v tx L (tn_e tx L en)))) dX4_readFigure_82 (Or.inl ⟨by rw [eF], rfl, by rw [eF], by rw [eF], by rw [eF]; exact pl_Xa1 hY pp5 hf37 (by omega)⟩) hP hD hS
              · obtain ⟨hin47, rfl, rfl⟩ := h0
                have hP : va_P D vwCl ([(pq 0, .inr (3, [.int (nI (t 0)), .int (nI (t 1)), .int (nI (t 2)), .int (nI (t 3)), .int (nI (t 4)), .ref (pq 1)])), (pq 1, .inl (k.1 2, 2, .inr (.inr (.inr (.inr (ta_dr (pq 2) (pq 5))))))), (pq 2, .inr (1, [.ref (pq 3), .ref (pq 4), .int (nI (t 5))])), (pq 3, .inl (k.1 0, 8, .inl (ta_e (Y 0)))), (pq 4, .inl (k.1 0, 8, .inl (ta_e (Y 1)))), (pq 6, .inl (k.1 0, 8, .inl (ta_e (Y 2)))), (pq 7, .inl (k.1 0, 8, .inl (ta_e (Y 3)))), (pq 5, .inr (1, [.ref (pq 6), .ref (pq 7), .int (nI (t 6))])), (rd, .inr (4, [.ref (x 0), .ref (pq 0), .int (nI (tn_s tx L (tn_e tx L en))), .int (nI (tn_e tx L (tn_e tx L en))), .int (nI (tn_s tx L (tn_e tx L en))), .int (nI cl)]))] ++ (txW k x L tx)) H := hP
                have hD : va_D A ([(pq 0, .inr (3, [.int (nI (t 0)), .int (nI (t 1)), .int (nI (t 2)), .int (nI (t 3)), .int (nI (t 4)), .ref (pq 1)])), (pq 1, .inl (k.1 2, 2, .inr (.inr (.inr (.inr (ta_dr (pq 2) (pq 5))))))), (pq 2, .inr (1, [.ref (pq 3), .ref (pq 4), .int (nI (t 5))])), (pq 3, .inl (k.1 0, 8, .inl (ta_e (Y 0)))), (pq 4, .inl (k.1 0, 8, .inl (ta_e (Y 1)))), (pq 6, .inl (k.1 0, 8, .inl (ta_e (Y 2)))), (pq 7, .inl (k.1 0, 8, .inl (ta_e (Y 3)))), (pq 5, .inr (1, [.ref (pq 6), .ref (pq 7), .int (nI (t 6))])), (rd, .inr (4, [.ref (x 0), .ref (pq 0), .int (nI (tn_s tx L (tn_e tx L en))), .int (nI (tn_e tx L (tn_e tx L en))), .int (nI (tn_s tx L (tn_e tx L en))), .int (nI cl)]))] ++ (txW k x L tx)) := hD
                obtain ⟨b11, b21, b31, b41⟩ := tn_b (tx := tx) (p := tn_e tx L en) (by omega)
                refine lv_istore_n (lv' := [(3, .int (nI 1)), (2, .int (nI 1)), (0, .ref rd), (1, .int (nI kd))]) hx hb dX4_readFigure_59 rfl hl (by decide) rfl (fun ls hl => ?_)
                refine lv_aload_n hx hb dX4_readFigure_60 rfl (lv_at hl 2 rfl) ?_
                refine ta_get C hP 8 inlX4 rfl rfl 4 (by decide) tw_72 rfl dX4_readFigure_61 ?_
                refine ta_iconst C 4294967295 dX4_readFigure_64 (by decide) ?_
                refine ta_cne C (a := tn_s tx L (tn_e tx L en)) (b := 4294967295) (tgt := 82) (by omega) (by omega) dX4_readFigure_65 (by decide) (fun c48 => ?_) (fun c48 => ?_)
                · have hP : va_P D vwCl [(rd, .inr (4, [.ref (x 0), .ref (pq 0), .int (nI (tn_s tx L (tn_e tx L en))), .int (nI (tn_e tx L (tn_e tx L en))), .int (nI (tn_s tx L (tn_e tx L en))), .int (nI cl)])), (x 0, .inr (6, [.ref (x 1), .int (nI L)])), (x 1, .inl (k.1 0, 160, .inl (ta_e tx))), (pq 0, .inr (3, [.int (nI (t 0)), .int (nI (t 1)), .int (nI (t 2)), .int (nI (t 3)), .int (nI (t 4)), .ref (pq 1)])), (pq 1, .inl (k.1 2, 2, .inr (.inr (.inr (.inr (ta_dr (pq 2) (pq 5))))))), (pq 2, .inr (1, [.ref (pq 3), .ref (pq 4), .int (nI (t 5))])), (pq 3, .inl (k.1 0, 8, .inl (ta_e (Y 0)))), (pq 4, .inl (k.1 0, 8, .inl (ta_e (Y 1)))), (pq 5, .inr (1, [.ref (pq 6), .ref (pq 7), .int (nI (t 6))])), (pq 6, .inl (k.1 0, 8, .inl (ta_e (Y 2)))), (pq 7, .inl (k.1 0, 8, .inl (ta_e (Y 3))))] H := hP.sub [8, 9, 10, 0, 1, 2, 3, 4, 7, 5, 6] rfl
                  have hD : va_D A [(rd, .inr (4, [.ref (x 0), .ref (pq 0), .int (nI (tn_s tx L (tn_e tx L en))), .int (nI (tn_e tx L (tn_e tx L en))), .int (nI (tn_s tx L (tn_e tx L en))), .int (nI cl)])), (x 0, .inr (6, [.ref (x 1), .int (nI L)])), (x 1, .inl (k.1 0, 160, .inl (ta_e tx))), (pq 0, .inr (3, [.int (nI (t 0)), .int (nI (t 1)), .int (nI (t 2)), .int (nI (t 3)), .int (nI (t 4)), .ref (pq 1)])), (pq 1, .inl (k.1 2, 2, .inr (.inr (.inr (.inr (ta_dr (pq 2) (pq 5))))))), (pq 2, .inr (1, [.ref (pq 3), .ref (pq 4), .int (nI (t 5))])), (pq 3, .inl (k.1 0, 8, .inl (ta_e (Y 0)))), (pq 4, .inl (k.1 0, 8, .inl (ta_e (Y 1)))), (pq 5, .inr (1, [.ref (pq 6), .ref (pq 7), .int (nI (t 6))])), (pq 6, .inl (k.1 0, 8, .inl (ta_e (Y 2)))), (pq 7, .inl (k.1 0, 8, .inl (ta_e (Y 3))))] := hD.sub [8, 9, 10, 0, 1, 2, 3, 4, 7, 5, 6] (by decide) rfl
                  have hPp : va_P D vwCl [(pq 0, .inr (3, [.int (nI (t 0)), .int (nI (t 1)), .int (nI (t 2)), .int (nI (t 3)), .int (nI (t 4)), .ref (pq 1)])), (pq 1, .inl (k.1 2, 2, .inr (.inr (.inr (.inr (ta_dr (pq 2) (pq 5))))))), (pq 2, .inr (1, [.ref (pq 3), .ref (pq 4), .int (nI (t 5))])), (pq 3, .inl (k.1 0, 8, .inl (ta_e (Y 0)))), (pq 4, .inl (k.1 0, 8, .inl (ta_e (Y 1)))), (pq 5, .inr (1, [.ref (pq 6), .ref (pq 7), .int (nI (t 6))])), (pq 6, .inl (k.1 0, 8, .inl (ta_e (Y 2)))), (pq 7, .inl (k.1 0, 8, .inl (ta_e (Y 3))))] H := hP.sub [3, 4, 5, 6, 7, 8, 9, 10] rfl
                  have hP : va_P D vwCl ([(rd, .inr (4, [.ref (x 0), .ref (pq 0), .int (nI (tn_s tx L (tn_e tx L en))), .int (nI (tn_e tx L (tn_e tx L en))), .int (nI (tn_s tx L (tn_e tx L en))), .int (nI cl)]))] ++ ((txW k x L tx) ++ (plW k pq t Y))) H := va_P.app (hP.sub [0] rfl) (va_P.app (hP.sub [1, 2] rfl) (pl_to (t := t) ⟨rfl, rfl, rfl, rfl, rfl, rfl, rfl⟩ hPp))
                  have hD : va_D A ([(rd, .inr (4, [.ref (x 0), .ref (pq 0), .int (nI (tn_s tx L (tn_e tx L en))), .int (nI (tn_e tx L (tn_e tx L en))), .int (nI (tn_s tx L (tn_e tx L en))), .int (nI cl)]))] ++ ((txW k x L tx) ++ (plW k pq t Y))) := ta_De hD rfl
                  have eF : cl_fig kd tx L en t = (tn_s tx L (tn_e tx L en), 0, t) := by unfold cl_fig; rw [← ha, cl_p (show cl_in tx L en 0 1 ∧ t 6 < 8 from ⟨hin5, hf37⟩), cl_n hin47]
                  exact ret (tn_s tx L (tn_e tx L en), tn_e tx L (tn_e tx L en), tn_s tx L (tn_e tx L en), t, Y) dX4_readFigure_82 (Or.inr ⟨by rw [eF]; exact Nat.ne_of_lt (show tn_s tx L (tn_e tx L en) < 4294967295 by omega), by rw [eF]⟩) hP hD hS
                · exfalso; omega
            · exact absurd c38 (by decide)
    · obtain ⟨hin49, rfl, rfl⟩ := h0
      have hP : va_P D vwCl ((plW k pq t Y) ++ ([(rd, .inr (4, [.ref (x 0), .ref (pq 0), .int (nI (tn_s tx L en)), .int (nI (tn_e tx L en)), .int (nI (tn_s tx L en)), .int (nI cl)]))] ++ (txW k x L tx))) H := hP
      have hD : va_D A ((plW k pq t Y) ++ ([(rd, .inr (4, [.ref (x 0), .ref (pq 0), .int (nI (tn_s tx L en)), .int (nI (tn_e tx L en)), .int (nI (tn_s tx L en)), .int (nI cl)]))] ++ (txW k x L tx))) := hD
      obtain ⟨b10, b20, b30, b40⟩ := tn_b (tx := tx) (p := en) (by omega)
      refine lv_istore_n (lv' := [(2, .int (nI 0)), (0, .ref rd), (1, .int (nI kd))]) hx hb dX4_readFigure_20 rfl hl (by decide) rfl (fun ls hl => ?_)
      refine lv_aload_n hx hb dX4_readFigure_21 rfl (lv_at hl 1 rfl) ?_
      refine ta_get C hP 8 inlX4 rfl rfl 4 (by decide) tw_72 rfl dX4_readFigure_22 ?_
      refine ta_iconst C 4294967295 dX4_readFigure_25 (by decide) ?_
      refine ta_cne C (a := tn_s tx L en) (b := 4294967295) (tgt := 52) (by omega) (by omega) dX4_readFigure_26 (by decide) (fun c50 => ?_) (fun c50 => ?_)
      · refine lv_aload_n hx hb dX4_readFigure_52 rfl (lv_at hl 1 rfl) ?_
        refine ta_iconst C 1 dX4_readFigure_53 (by decide) ?_
        refine ta_bipush C 9 dX4_readFigure_54 (by decide) ?_
        refine ta_callVi (As := [.int (nI 1), .int (nI 9)]) (rest0 := []) (Wr := (plW k pq t Y)) C hP hD hS (c_X4_readNumber_f l D k rd (pq 0) (tn_s tx L en) (tn_e tx L en) (tn_s tx L en) cl x L tx 1 9 (by omega)) 8 rfl rfl rfl [8, 9, 10] [0, 1, 2, 3, 4, 5, 6, 7] rfl rfl (by decide) (by decide) (by decide) tw_257 tw_254 tw_22 tw_255 tw_256 ⟨by decide, by decide, rfl⟩ ⟨Nat.le_of_ble_eq_true rfl, Nat.le_of_ble_eq_true rfl⟩ ⟨Nat.zero_le _, Nat.zero_le _⟩ hl.1 rfl (Nat.le_of_ble_eq_true rfl) dX4_readFigure_56 (fun r51 u52 H locs h53 hP hD hS => ?_)
        obtain rfl := h53
        have hP : va_P D vwCl ((plW k pq t Y) ++ ([(rd, .inr (4, [.ref (x 0), .ref (pq 0), .int (nI (tn_s tx L en)), .int (nI (tn_e tx L en)), .int (nI (tn_s tx L en)), .int (nI cl)]))] ++ (txW k x L tx))) H := hP
        have hD : va_D A ((plW k pq t Y) ++ ([(rd, .inr (4, [.ref (x 0), .ref (pq 0), .int (nI (tn_s tx L en)), .int (nI (tn_e tx L en)), .int (nI (tn_s tx L en)), .int (nI cl)]))] ++ (txW k x L tx))) := hD
        refine lv_istore_n (lv' := [(3, .int (nI 1)), (2, .int (nI 0)), (0, .ref rd), (1, .int (nI kd))]) hx hb dX4_readFigure_59 rfl hl (by decide) rfl (fun ls hl => ?_)
        refine lv_aload_n hx hb dX4_readFigure_60 rfl (lv_at hl 2 rfl) ?_
        refine ta_get C hP 8 inlX4 rfl rfl 4 (by decide) tw_72 rfl dX4_readFigure_61 ?_
        refine ta_iconst C 4294967295 dX4_readFigure_64 (by decide) ?_
        refine ta_cne C (a := tn_s tx L en) (b := 4294967295) (tgt := 82) (by omega) (by omega) dX4_readFigure_65 (by decide) (fun c54 => ?_) (fun c54 => ?_)
        · have hP : va_P D vwCl ([(rd, .inr (4, [.ref (x 0), .ref (pq 0), .int (nI (tn_s tx L en)), .int (nI (tn_e tx L en)), .int (nI (tn_s tx L en)), .int (nI cl)]))] ++ ((txW k x L tx) ++ (plW k pq t Y))) H := hP.sub [8, 9, 10, 0, 1, 2, 3, 4, 5, 6, 7] rfl
          have hD : va_D A ([(rd, .inr (4, [.ref (x 0), .ref (pq 0), .int (nI (tn_s tx L en)), .int (nI (tn_e tx L en)), .int (nI (tn_s tx L en)), .int (nI cl)]))] ++ ((txW k x L tx) ++ (plW k pq t Y))) := hD.sub [8, 9, 10, 0, 1, 2, 3, 4, 5, 6, 7] (by decide) rfl
          have eF : cl_fig kd tx L en t = (tn_s tx L en, 0, t) := by unfold cl_fig; rw [cl_n (fun h => hin49 h.1)]
          exact ret (tn_s tx L en, tn_e tx L en, tn_s tx L en, t, Y) dX4_readFigure_82 (Or.inr ⟨by rw [eF]; exact Nat.ne_of_lt (show tn_s tx L en < 4294967295 by omega), by rw [eF]⟩) hP hD hS
        · exfalso; omega
      · exfalso; omega
  · exfalso; omega

set_option maxHeartbeats 4000000 in
set_option maxRecDepth 100000 in
theorem c_X4_readFigure_n (l : Launch) (D : va_G) (k : ta_C) (rd : Nat) (pq : Nat → Nat) (st0 : Nat) (en : Nat) (cl : Nat) (x : Nat → Nat) (L : Nat) (tx : Nat → Nat) (t : Nat → Nat) (Y : Nat → Nat → Nat) : ta_Mv (S := Unit) l D k yX4_readFigure cX4_readFigure 4 3 120 [.ref rd, .int (nI 4294967295)] ([(rd, .inr (4, [.ref (x 0), .ref (pq 0), .int (nI st0), .int (nI en), .int (nI 4294967295), .int (nI cl)]))] ++ ((txW k x L tx) ++ (plW k pq t Y))) (fun _ => True) (fun u => ([(rd, .inr (4, [.ref (x 0), .ref (pq 0), .int (nI st0), .int (nI en), .int (nI st0), .int (nI cl)]))] ++ ((txW k x L tx) ++ (plW k pq t Y)))) := by
  refine ta_enter_v (by decide) (Nat.le_of_ble_eq_true rfl) ?_
  intro p e s m below meth c A ls Q C ret hP hD hS hl
  have C : ta_At p l D k s m ([.ref rd, .int (nI 4294967295)] : List Value).toArray c RX4 cX4_readFigure 4 A := C
  have hx := C.1.1
  have hb := C.1.2.1
  have hl : lv_has ls 4 [(0, .ref rd), (1, .int (nI 4294967295))] := hl
  obtain ⟨H, hH⟩ : ∃ H, H = s.heap := ⟨_, rfl⟩
  obtain ⟨locs, hlocs⟩ : ∃ q : List Loc, q = [] := ⟨_, rfl⟩
  have hP : va_P D vwCl ([(rd, .inr (4, [.ref (x 0), .ref (pq 0), .int (nI st0), .int (nI en), .int (nI 4294967295), .int (nI cl)]))] ++ ((txW k x L tx) ++ (plW k pq t Y))) H := by rw [hH]; exact hP
  have hS : va_S A s.heap H locs := by rw [hH, hlocs]; exact hS
  rw [← hlocs]
  suffices hgoal : W p l e ({ frames := 3, cells := 0, slots := 0, locals := 120 }) s m ([.ref rd, .int (nI 4294967295)] : List Value).toArray below meth c H locs 0 0 Q (F0 m 0 ls []) by rw [hH] at hgoal; exact hgoal
  clear hH hlocs
  refine lv_iload_n hx hb dX4_readFigure_0 rfl (lv_at hl 1 rfl) ?_
  refine ta_iconst C 4294967295 dX4_readFigure_1 (by decide) ?_
  refine lv_icmp_ne (tgt := 14) hx hb dX4_readFigure_2 (by decide) (fun c1 => ?_) (fun c1 => ?_)
  · exact absurd c1 (by decide)
  · refine lv_aload_n hx hb dX4_readFigure_5 rfl (lv_at hl 0 rfl) ?_
    refine lv_aload_n hx hb dX4_readFigure_6 rfl (lv_at hl 0 rfl) ?_
    refine ta_get C hP 0 inlX4 rfl rfl 2 (by decide) tw_70 rfl dX4_readFigure_7 ?_
    refine ta_put C hP hD hS 0 inlX4 tyX4 tyX4_ok nmX4 rfl rfl 4 (by decide) tw_72 rfl rfl rfl (Nat.le_of_ble_eq_true rfl) dX4_readFigure_10 (fun H locs hP hD hS => ?_)
    have hP : va_P D vwCl ([(rd, .inr (4, [.ref (x 0), .ref (pq 0), .int (nI st0), .int (nI en), .int (nI st0), .int (nI cl)]))] ++ ((txW k x L tx) ++ (plW k pq t Y))) H := hP
    have hD : va_D A ([(rd, .inr (4, [.ref (x 0), .ref (pq 0), .int (nI st0), .int (nI en), .int (nI st0), .int (nI cl)]))] ++ ((txW k x L tx) ++ (plW k pq t Y))) := hD
    exact ret () dX4_readFigure_13 trivial hP hD hS

set_option maxHeartbeats 4000000 in
set_option maxRecDepth 100000 in
theorem c_X4_kindNamed (l : Launch) (D : va_G) (k : ta_C) (rd : Nat) (pa : Nat) (st0 : Nat) (en : Nat) (fa : Nat) (cl : Nat) (x : Nat → Nat) (L : Nat) (tx : Nat → Nat) (hx0 : tx_ok tx L) (hse : st0 ≤ en) (hen : en ≤ L) : ta_Mi (S := Unit) l D k yX4_kindNamed cX4_kindNamed 1 .int 5 150 [.ref rd] ([(rd, .inr (4, [.ref (x 0), .ref pa, .int (nI st0), .int (nI en), .int (nI fa), .int (nI cl)]))] ++ (txW k x L tx)) (fun r _ => (tk_is tx st0 en 4 ∧ r = nI 0) ∨ (¬ tk_is tx st0 en 4 ∧ tk_is tx st0 en 5 ∧ r = nI 1) ∨ (¬ tk_is tx st0 en 4 ∧ ¬ tk_is tx st0 en 5 ∧ tk_is tx st0 en 6 ∧ r = nI 2) ∨ (¬ tk_is tx st0 en 4 ∧ ¬ tk_is tx st0 en 5 ∧ ¬ tk_is tx st0 en 6 ∧ tk_is tx st0 en 7 ∧ r = nI 3) ∨ (¬ tk_is tx st0 en 4 ∧ ¬ tk_is tx st0 en 5 ∧ ¬ tk_is tx st0 en 6 ∧ ¬ tk_is tx st0 en 7 ∧ tk_is tx st0 en 8 ∧ r = nI 4) ∨ (¬ tk_is tx st0 en 4 ∧ ¬ tk_is tx st0 en 5 ∧ ¬ tk_is tx st0 en 6 ∧ ¬ tk_is tx st0 en 7 ∧ ¬ tk_is tx st0 en 8 ∧ r = nI 4294967295)) (fun u => ([(rd, .inr (4, [.ref (x 0), .ref pa, .int (nI st0), .int (nI en), .int (nI fa), .int (nI cl)]))] ++ (txW k x L tx))) := by
  refine ta_enter_i (by decide) (Nat.le_of_ble_eq_true rfl) ?_
  intro p e s m below meth c A ls Q C ret hP hD hS hl
  have C : ta_At p l D k s m ([.ref rd] : List Value).toArray c RX4 cX4_kindNamed 1 A := C
  have hx := C.1.1
  have hb := C.1.2.1
  have hl : lv_has ls 1 [(0, .ref rd)] := hl
  obtain ⟨H, hH⟩ : ∃ H, H = s.heap := ⟨_, rfl⟩
  obtain ⟨locs, hlocs⟩ : ∃ q : List Loc, q = [] := ⟨_, rfl⟩
  have hP : va_P D vwCl ([(rd, .inr (4, [.ref (x 0), .ref pa, .int (nI st0), .int (nI en), .int (nI fa), .int (nI cl)]))] ++ (txW k x L tx)) H := by rw [hH]; exact hP
  have hS : va_S A s.heap H locs := by rw [hH, hlocs]; exact hS
  rw [← hlocs]
  suffices hgoal : W p l e ({ frames := 5, cells := 0, slots := 0, locals := 150 }) s m ([.ref rd] : List Value).toArray below meth c H locs 0 0 Q (F0 m 0 ls []) by rw [hH] at hgoal; exact hgoal
  clear hH hlocs
  refine lv_aload_n hx hb dX4_kindNamed_0 rfl (lv_at hl 0 rfl) ?_
  refine ta_get C hP 0 inlX4 rfl rfl 0 (by decide) tw_74 rfl dX4_kindNamed_1 ?_
  refine va_ldcS hx hb C.1.2.2.2.1 (C.2.1.2.2.1 4 (by decide)) dX4_kindNamed_4 ?_
  refine lv_aload_n hx hb dX4_kindNamed_6 rfl (lv_at hl 0 rfl) ?_
  refine ta_get C hP 0 inlX4 rfl rfl 2 (by decide) tw_70 rfl dX4_kindNamed_7 ?_
  refine lv_aload_n hx hb dX4_kindNamed_10 rfl (lv_at hl 0 rfl) ?_
  refine ta_get C hP 0 inlX4 rfl rfl 3 (by decide) tw_71 rfl dX4_kindNamed_11 ?_
  refine ta_callVi (As := [.ref (k.2 (10 + 4)), .int (nI st0), .int (nI en)]) (rest0 := []) (Wr := [(rd, .inr (4, [.ref (x 0), .ref pa, .int (nI st0), .int (nI en), .int (nI fa), .int (nI cl)]))]) C hP hD hS (c_X6_holds l D k x L tx 4 st0 en (by decide) hx0 (by omega) (by omega)) 1 rfl rfl rfl [1, 2] [0] rfl rfl (by decide) (by decide) (by decide) tw_200 tw_197 tw_14 tw_198 tw_199 ⟨by decide, by decide, rfl⟩ ⟨Nat.le_of_ble_eq_true rfl, Nat.le_of_ble_eq_true rfl⟩ ⟨Nat.zero_le _, Nat.zero_le _⟩ hl.1 rfl (Nat.le_of_ble_eq_true rfl) dX4_kindNamed_14 (fun r1 u2 H locs h3 hP hD hS => ?_)
  rcases h3 with h0 | h0
  · obtain ⟨his4, rfl⟩ := h0
    have hP : va_P D vwCl ([(rd, .inr (4, [.ref (x 0), .ref pa, .int (nI st0), .int (nI en), .int (nI fa), .int (nI cl)]))] ++ (txW k x L tx)) H := hP
    have hD : va_D A ([(rd, .inr (4, [.ref (x 0), .ref pa, .int (nI st0), .int (nI en), .int (nI fa), .int (nI cl)]))] ++ (txW k x L tx)) := hD
    refine lv_if_eq (tgt := 22) hx hb dX4_kindNamed_17 (by decide) (fun c5 => ?_) (fun c5 => ?_)
    · exact absurd c5 (by decide)
    · refine ta_iconst C 0 dX4_kindNamed_20 (by decide) ?_
      exact ret _ () dX4_kindNamed_21 rfl (Or.inl ⟨his4, rfl⟩) hP hD hS
  · obtain ⟨his6, rfl⟩ := h0
    have hP : va_P D vwCl ([(rd, .inr (4, [.ref (x 0), .ref pa, .int (nI st0), .int (nI en), .int (nI fa), .int (nI cl)]))] ++ (txW k x L tx)) H := hP
    have hD : va_D A ([(rd, .inr (4, [.ref (x 0), .ref pa, .int (nI st0), .int (nI en), .int (nI fa), .int (nI cl)]))] ++ (txW k x L tx)) := hD
    refine lv_if_eq (tgt := 22) hx hb dX4_kindNamed_17 (by decide) (fun c7 => ?_) (fun c7 => ?_)
    · refine lv_aload_n hx hb dX4_kindNamed_22 rfl (lv_at hl 0 rfl) ?_
      refine ta_get C hP 0 inlX4 rfl rfl 0 (by decide) tw_74 rfl dX4_kindNamed_23 ?_
      refine va_ldcS hx hb C.1.2.2.2.1 (C.2.1.2.2.1 5 (by decide)) dX4_kindNamed_26 ?_
      refine lv_aload_n hx hb dX4_kindNamed_28 rfl (lv_at hl 0 rfl) ?_
      refine ta_get C hP 0 inlX4 rfl rfl 2 (by decide) tw_70 rfl dX4_kindNamed_29 ?_
      refine lv_aload_n hx hb dX4_kindNamed_32 rfl (lv_at hl 0 rfl) ?_
      refine ta_get C hP 0 inlX4 rfl rfl 3 (by decide) tw_71 rfl dX4_kindNamed_33 ?_
      refine ta_callVi (As := [.ref (k.2 (10 + 5)), .int (nI st0), .int (nI en)]) (rest0 := []) (Wr := [(rd, .inr (4, [.ref (x 0), .ref pa, .int (nI st0), .int (nI en), .int (nI fa), .int (nI cl)]))]) C hP hD hS (c_X6_holds l D k x L tx 5 st0 en (by decide) hx0 (by omega) (by omega)) 1 rfl rfl rfl [1, 2] [0] rfl rfl (by decide) (by decide) (by decide) tw_200 tw_197 tw_14 tw_198 tw_199 ⟨by decide, by decide, rfl⟩ ⟨Nat.le_of_ble_eq_true rfl, Nat.le_of_ble_eq_true rfl⟩ ⟨Nat.zero_le _, Nat.zero_le _⟩ hl.1 rfl (Nat.le_of_ble_eq_true rfl) dX4_kindNamed_36 (fun r8 u9 H locs h10 hP hD hS => ?_)
      rcases h10 with h0 | h0
      · obtain ⟨his11, rfl⟩ := h0
        have hP : va_P D vwCl ([(rd, .inr (4, [.ref (x 0), .ref pa, .int (nI st0), .int (nI en), .int (nI fa), .int (nI cl)]))] ++ (txW k x L tx)) H := hP
        have hD : va_D A ([(rd, .inr (4, [.ref (x 0), .ref pa, .int (nI st0), .int (nI en), .int (nI fa), .int (nI cl)]))] ++ (txW k x L tx)) := hD
        refine lv_if_eq (tgt := 44) hx hb dX4_kindNamed_39 (by decide) (fun c12 => ?_) (fun c12 => ?_)
        · exact absurd c12 (by decide)
        · refine ta_iconst C 1 dX4_kindNamed_42 (by decide) ?_
          exact ret _ () dX4_kindNamed_43 rfl (Or.inr (Or.inl ⟨his6, his11, rfl⟩)) hP hD hS
      · obtain ⟨his13, rfl⟩ := h0
        have hP : va_P D vwCl ([(rd, .inr (4, [.ref (x 0), .ref pa, .int (nI st0), .int (nI en), .int (nI fa), .int (nI cl)]))] ++ (txW k x L tx)) H := hP
        have hD : va_D A ([(rd, .inr (4, [.ref (x 0), .ref pa, .int (nI st0), .int (nI en), .int (nI fa), .int (nI cl)]))] ++ (txW k x L tx)) := hD
        refine lv_if_eq (tgt := 44) hx hb dX4_kindNamed_39 (by decide) (fun c14 => ?_) (fun c14 => ?_)
        · refine lv_aload_n hx hb dX4_kindNamed_44 rfl (lv_at hl 0 rfl) ?_
          refine ta_get C hP 0 inlX4 rfl rfl 0 (by decide) tw_74 rfl dX4_kindNamed_45 ?_
          refine va_ldcS hx hb C.1.2.2.2.1 (C.2.1.2.2.1 6 (by decide)) dX4_kindNamed_48 ?_
          refine lv_aload_n hx hb dX4_kindNamed_50 rfl (lv_at hl 0 rfl) ?_
          refine ta_get C hP 0 inlX4 rfl rfl 2 (by decide) tw_70 rfl dX4_kindNamed_51 ?_
          refine lv_aload_n hx hb dX4_kindNamed_54 rfl (lv_at hl 0 rfl) ?_
          refine ta_get C hP 0 inlX4 rfl rfl 3 (by decide) tw_71 rfl dX4_kindNamed_55 ?_
          refine ta_callVi (As := [.ref (k.2 (10 + 6)), .int (nI st0), .int (nI en)]) (rest0 := []) (Wr := [(rd, .inr (4, [.ref (x 0), .ref pa, .int (nI st0), .int (nI en), .int (nI fa), .int (nI cl)]))]) C hP hD hS (c_X6_holds l D k x L tx 6 st0 en (by decide) hx0 (by omega) (by omega)) 1 rfl rfl rfl [1, 2] [0] rfl rfl (by decide) (by decide) (by decide) tw_200 tw_197 tw_14 tw_198 tw_199 ⟨by decide, by decide, rfl⟩ ⟨Nat.le_of_ble_eq_true rfl, Nat.le_of_ble_eq_true rfl⟩ ⟨Nat.zero_le _, Nat.zero_le _⟩ hl.1 rfl (Nat.le_of_ble_eq_true rfl) dX4_kindNamed_58 (fun r15 u16 H locs h17 hP hD hS => ?_)
          rcases h17 with h0 | h0
          · obtain ⟨his18, rfl⟩ := h0
            have hP : va_P D vwCl ([(rd, .inr (4, [.ref (x 0), .ref pa, .int (nI st0), .int (nI en), .int (nI fa), .int (nI cl)]))] ++ (txW k x L tx)) H := hP
            have hD : va_D A ([(rd, .inr (4, [.ref (x 0), .ref pa, .int (nI st0), .int (nI en), .int (nI fa), .int (nI cl)]))] ++ (txW k x L tx)) := hD
            refine lv_if_eq (tgt := 66) hx hb dX4_kindNamed_61 (by decide) (fun c19 => ?_) (fun c19 => ?_)
            · exact absurd c19 (by decide)
            · refine ta_iconst C 2 dX4_kindNamed_64 (by decide) ?_
              exact ret _ () dX4_kindNamed_65 rfl (Or.inr (Or.inr (Or.inl ⟨his6, his13, his18, rfl⟩))) hP hD hS
          · obtain ⟨his20, rfl⟩ := h0
            have hP : va_P D vwCl ([(rd, .inr (4, [.ref (x 0), .ref pa, .int (nI st0), .int (nI en), .int (nI fa), .int (nI cl)]))] ++ (txW k x L tx)) H := hP
            have hD : va_D A ([(rd, .inr (4, [.ref (x 0), .ref pa, .int (nI st0), .int (nI en), .int (nI fa), .int (nI cl)]))] ++ (txW k x L tx)) := hD
            refine lv_if_eq (tgt := 66) hx hb dX4_kindNamed_61 (by decide) (fun c21 => ?_) (fun c21 => ?_)
            · refine lv_aload_n hx hb dX4_kindNamed_66 rfl (lv_at hl 0 rfl) ?_
              refine ta_get C hP 0 inlX4 rfl rfl 0 (by decide) tw_74 rfl dX4_kindNamed_67 ?_
              refine va_ldcS hx hb C.1.2.2.2.1 (C.2.1.2.2.1 7 (by decide)) dX4_kindNamed_70 ?_
              refine lv_aload_n hx hb dX4_kindNamed_72 rfl (lv_at hl 0 rfl) ?_
              refine ta_get C hP 0 inlX4 rfl rfl 2 (by decide) tw_70 rfl dX4_kindNamed_73 ?_
              refine lv_aload_n hx hb dX4_kindNamed_76 rfl (lv_at hl 0 rfl) ?_
              refine ta_get C hP 0 inlX4 rfl rfl 3 (by decide) tw_71 rfl dX4_kindNamed_77 ?_
              refine ta_callVi (As := [.ref (k.2 (10 + 7)), .int (nI st0), .int (nI en)]) (rest0 := []) (Wr := [(rd, .inr (4, [.ref (x 0), .ref pa, .int (nI st0), .int (nI en), .int (nI fa), .int (nI cl)]))]) C hP hD hS (c_X6_holds l D k x L tx 7 st0 en (by decide) hx0 (by omega) (by omega)) 1 rfl rfl rfl [1, 2] [0] rfl rfl (by decide) (by decide) (by decide) tw_200 tw_197 tw_14 tw_198 tw_199 ⟨by decide, by decide, rfl⟩ ⟨Nat.le_of_ble_eq_true rfl, Nat.le_of_ble_eq_true rfl⟩ ⟨Nat.zero_le _, Nat.zero_le _⟩ hl.1 rfl (Nat.le_of_ble_eq_true rfl) dX4_kindNamed_80 (fun r22 u23 H locs h24 hP hD hS => ?_)
              rcases h24 with h0 | h0
              · obtain ⟨his25, rfl⟩ := h0
                have hP : va_P D vwCl ([(rd, .inr (4, [.ref (x 0), .ref pa, .int (nI st0), .int (nI en), .int (nI fa), .int (nI cl)]))] ++ (txW k x L tx)) H := hP
                have hD : va_D A ([(rd, .inr (4, [.ref (x 0), .ref pa, .int (nI st0), .int (nI en), .int (nI fa), .int (nI cl)]))] ++ (txW k x L tx)) := hD
                refine lv_if_eq (tgt := 88) hx hb dX4_kindNamed_83 (by decide) (fun c26 => ?_) (fun c26 => ?_)
                · exact absurd c26 (by decide)
                · refine ta_iconst C 3 dX4_kindNamed_86 (by decide) ?_
                  exact ret _ () dX4_kindNamed_87 rfl (Or.inr (Or.inr (Or.inr (Or.inl ⟨his6, his13, his20, his25, rfl⟩)))) hP hD hS
              · obtain ⟨his27, rfl⟩ := h0
                have hP : va_P D vwCl ([(rd, .inr (4, [.ref (x 0), .ref pa, .int (nI st0), .int (nI en), .int (nI fa), .int (nI cl)]))] ++ (txW k x L tx)) H := hP
                have hD : va_D A ([(rd, .inr (4, [.ref (x 0), .ref pa, .int (nI st0), .int (nI en), .int (nI fa), .int (nI cl)]))] ++ (txW k x L tx)) := hD
                refine lv_if_eq (tgt := 88) hx hb dX4_kindNamed_83 (by decide) (fun c28 => ?_) (fun c28 => ?_)
                · refine lv_aload_n hx hb dX4_kindNamed_88 rfl (lv_at hl 0 rfl) ?_
                  refine ta_get C hP 0 inlX4 rfl rfl 0 (by decide) tw_74 rfl dX4_kindNamed_89 ?_
                  refine va_ldcS hx hb C.1.2.2.2.1 (C.2.1.2.2.1 8 (by decide)) dX4_kindNamed_92 ?_
                  refine lv_aload_n hx hb dX4_kindNamed_94 rfl (lv_at hl 0 rfl) ?_
                  refine ta_get C hP 0 inlX4 rfl rfl 2 (by decide) tw_70 rfl dX4_kindNamed_95 ?_
                  refine lv_aload_n hx hb dX4_kindNamed_98 rfl (lv_at hl 0 rfl) ?_
                  refine ta_get C hP 0 inlX4 rfl rfl 3 (by decide) tw_71 rfl dX4_kindNamed_99 ?_
                  refine ta_callVi (As := [.ref (k.2 (10 + 8)), .int (nI st0), .int (nI en)]) (rest0 := []) (Wr := [(rd, .inr (4, [.ref (x 0), .ref pa, .int (nI st0), .int (nI en), .int (nI fa), .int (nI cl)]))]) C hP hD hS (c_X6_holds l D k x L tx 8 st0 en (by decide) hx0 (by omega) (by omega)) 1 rfl rfl rfl [1, 2] [0] rfl rfl (by decide) (by decide) (by decide) tw_200 tw_197 tw_14 tw_198 tw_199 ⟨by decide, by decide, rfl⟩ ⟨Nat.le_of_ble_eq_true rfl, Nat.le_of_ble_eq_true rfl⟩ ⟨Nat.zero_le _, Nat.zero_le _⟩ hl.1 rfl (Nat.le_of_ble_eq_true rfl) dX4_kindNamed_102 (fun r29 u30 H locs h31 hP hD hS => ?_)
                  rcases h31 with h0 | h0
                  · obtain ⟨his32, rfl⟩ := h0
                    have hP : va_P D vwCl ([(rd, .inr (4, [.ref (x 0), .ref pa, .int (nI st0), .int (nI en), .int (nI fa), .int (nI cl)]))] ++ (txW k x L tx)) H := hP
                    have hD : va_D A ([(rd, .inr (4, [.ref (x 0), .ref pa, .int (nI st0), .int (nI en), .int (nI fa), .int (nI cl)]))] ++ (txW k x L tx)) := hD
                    refine lv_if_eq (tgt := 112) hx hb dX4_kindNamed_105 (by decide) (fun c33 => ?_) (fun c33 => ?_)
                    · exact absurd c33 (by decide)
                    · refine ta_iconst C 4 dX4_kindNamed_108 (by decide) ?_
                      refine lv_goto (tgt := 113) hx hb dX4_kindNamed_109 (by decide) ?_
                      exact ret _ () dX4_kindNamed_113 rfl (Or.inr (Or.inr (Or.inr (Or.inr (Or.inl ⟨his6, his13, his20, his27, his32, rfl⟩))))) hP hD hS
                  · obtain ⟨his34, rfl⟩ := h0
                    have hP : va_P D vwCl ([(rd, .inr (4, [.ref (x 0), .ref pa, .int (nI st0), .int (nI en), .int (nI fa), .int (nI cl)]))] ++ (txW k x L tx)) H := hP
                    have hD : va_D A ([(rd, .inr (4, [.ref (x 0), .ref pa, .int (nI st0), .int (nI en), .int (nI fa), .int (nI cl)]))] ++ (txW k x L tx)) := hD
                    refine lv_if_eq (tgt := 112) hx hb dX4_kindNamed_105 (by decide) (fun c35 => ?_) (fun c35 => ?_)
                    · refine ta_iconst C 4294967295 dX4_kindNamed_112 (by decide) ?_
                      exact ret _ () dX4_kindNamed_113 rfl (Or.inr (Or.inr (Or.inr (Or.inr (Or.inr (⟨his6, his13, his20, his27, his34, rfl⟩)))))) hP hD hS
                    · exact absurd c35 (by decide)
                · exact absurd c28 (by decide)
            · exact absurd c21 (by decide)
        · exact absurd c14 (by decide)
    · exact absurd c7 (by decide)
