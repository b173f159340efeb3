def mo_post (F : cl_T) (r : Int32) (u : Nat × Nat × Nat × Nat × (Nat → Nat)) : Prop := (F.1 = 4294967295 ∧ r = nI 1 ∧ u.1 = F.2.1 ∧ u.2.2.2.2 = F.2.2) ∨ (F.1 ≠ 4294967295 ∧ r = nI 0 ∧ u.2.2.1 = F.1)
set_option maxHeartbeats 4000000 in
set_option maxRecDepth 100000 in
theorem c_X8_readsGround (l : Launch) (D : va_G) (k : ta_C) (z : Nat → Nat) (kn : Nat) (no : Nat) (at_ : Nat) (so : Nat) (sr : Nat) (va : Nat) (L : Nat) (tx : Nat → Nat) (d : Nat → Nat) (hx0 : tx_ok tx L) (hat : at_ ≤ L) (hpl : pl_ok d) : ta_Mi (S := Nat × Nat × Nat × Nat × (Nat → Nat)) l D k yX8_readsGround cX8_readsGround 3 .boolean 4 120 [.ref (z 0)] [(z 0, .inr (8, [.ref (z 1), .int (nI L), .ref (z 2), .ref (z 3), .ref (z 4), .ref (z 5), .int (nI kn), .ref (z 6), .ref (z 7), .ref (z 8), .int (nI no), .int (nI at_), .int (nI so), .int (nI sr), .int (nI va), .ref (z 9)])), (z 1, .inl (k.1 0, 160, .inl (ta_e tx))), (z 3, .inl (k.1 0, 23, .inl (ta_e d)))] (fun r u => mo_post (cl_ground tx L at_ d) r u) (fun u => [(z 0, .inr (8, [.ref (z 1), .int (nI L), .ref (z 2), .ref (z 3), .ref (z 4), .ref (z 5), .int (nI kn), .ref (z 6), .ref (z 7), .ref (z 8), .int (nI no), .int (nI u.1), .int (nI u.2.1), .int (nI u.2.2.1), .int (nI u.2.2.2.1), .ref (z 9)])), (z 1, .inl (k.1 0, 160, .inl (ta_e tx))), (z 3, .inl (k.1 0, 23, .inl (ta_e u.2.2.2.2)))]) := by
  refine ta_enter_i (by decide) (Nat.le_of_ble_eq_true rfl) ?_
  intro p e s m below meth c A ls Q C ret hP hD hS hl
  have C : ta_At p l D k s m ([.ref (z 0)] : List Value).toArray c RX8 cX8_readsGround 3 A := C
  have hx := C.1.1
  have hb := C.1.2.1
  have hl : lv_has ls 3 [(0, .ref (z 0))] := hl
  obtain ⟨H, hH⟩ : ∃ H, H = s.heap := ⟨_, rfl⟩
  obtain ⟨locs, hlocs⟩ : ∃ q : List Loc, q = [] := ⟨_, rfl⟩
  have hP : va_P D vwCl [(z 0, .inr (8, [.ref (z 1), .int (nI L), .ref (z 2), .ref (z 3), .ref (z 4), .ref (z 5), .int (nI kn), .ref (z 6), .ref (z 7), .ref (z 8), .int (nI no), .int (nI at_), .int (nI so), .int (nI sr), .int (nI va), .ref (z 9)])), (z 1, .inl (k.1 0, 160, .inl (ta_e tx))), (z 3, .inl (k.1 0, 23, .inl (ta_e d)))] H := by rw [hH]; exact hP
  have hS : va_S A s.heap H locs := by rw [hH, hlocs]; exact hS
  rw [← hlocs]
  suffices hgoal : W p l e ({ frames := 4, cells := 0, slots := 0, locals := 120 }) s m ([.ref (z 0)] : List Value).toArray below meth c H locs 0 0 Q (F0 m 0 ls []) by rw [hH] at hgoal; exact hgoal
  clear hH hlocs
  obtain ⟨hL, hc⟩ := id hx0
  obtain ⟨⟨a1, a2, a3, a4, a5, a6⟩, pp3, pp4, pp5, pp6, pp7, pp8⟩ := id hpl
  refine lv_aload_n hx hb dX8_readsGround_0 rfl (lv_at hl 0 rfl) ?_
  refine ta_iconst C 2 dX8_readsGround_1 (by decide) ?_
  refine ta_bipush C 6 dX8_readsGround_2 (by decide) ?_
  refine ta_callVi (As := [.int (nI 2), .int (nI 6)]) (rest0 := []) (Wr := [(z 3, .inl (k.1 0, 23, .inl (ta_e d)))]) C hP hD hS (c_X8_number l D k z kn no at_ so sr va L tx 2 6 hx0 (by omega) ⟨by omega, by omega⟩) 0 rfl rfl rfl [0, 1] [2] rfl rfl (by decide) (by decide) (by decide) tw_341 tw_338 tw_5 tw_339 tw_340 ⟨by decide, by decide, rfl⟩ ⟨Nat.le_of_ble_eq_true rfl, Nat.le_of_ble_eq_true rfl⟩ ⟨Nat.zero_le _, Nat.zero_le _⟩ hl.1 rfl (Nat.le_of_ble_eq_true rfl) dX8_readsGround_4 (fun r1 u2 H locs h3 hP hD hS => ?_)
  rcases h3 with h0 | h0
  · obtain ⟨hin4, hv5, rfl⟩ := h0
    have hP : va_P D vwCl [(z 3, .inl (k.1 0, 23, .inl (ta_e d))), (z 0, .inr (8, [.ref (z 1), .int (nI L), .ref (z 2), .ref (z 3), .ref (z 4), .ref (z 5), .int (nI kn), .ref (z 6), .ref (z 7), .ref (z 8), .int (nI no), .int (nI (tn_e tx L at_)), .int (nI (mo_s tx L at_)), .int (nI (tn_s tx L at_)), .int (nI (mo_w tx L at_)), .ref (z 9)])), (z 1, .inl (k.1 0, 160, .inl (ta_e tx)))] H := hP
    have hD : va_D A [(z 3, .inl (k.1 0, 23, .inl (ta_e d))), (z 0, .inr (8, [.ref (z 1), .int (nI L), .ref (z 2), .ref (z 3), .ref (z 4), .ref (z 5), .int (nI kn), .ref (z 6), .ref (z 7), .ref (z 8), .int (nI no), .int (nI (tn_e tx L at_)), .int (nI (mo_s tx L at_)), .int (nI (tn_s tx L at_)), .int (nI (mo_w tx L at_)), .ref (z 9)])), (z 1, .inl (k.1 0, 160, .inl (ta_e tx)))] := hD
    obtain ⟨b10, b20, b30, b40⟩ := tn_b (tx := tx) (p := at_) (by omega)
    have hmw0 := mo_wb (p := at_) hx0 (by omega)
    have hcl0 := cl_in_iff.mp hin4
    refine lv_if_ne (tgt := 12) hx hb dX8_readsGround_7 (by decide) (fun c6 => ?_) (fun c6 => ?_)
    · refine lv_aload_n hx hb dX8_readsGround_12 rfl (lv_at hl 0 rfl) ?_
      refine ta_get C hP 1 inlX8 rfl rfl 14 (by decide) tw_315 rfl dX8_readsGround_13 ?_
      refine lv_istore_n (lv' := [(1, .int (nI (mo_w tx L at_))), (0, .ref (z 0))]) hx hb dX8_readsGround_16 rfl hl (by decide) rfl (fun ls hl => ?_)
      refine lv_aload_n hx hb dX8_readsGround_17 rfl (lv_at hl 1 rfl) ?_
      refine ta_iconst C 2 dX8_readsGround_18 (by decide) ?_
      refine ta_bipush C 6 dX8_readsGround_19 (by decide) ?_
      refine ta_callVi (As := [.int (nI 2), .int (nI 6)]) (rest0 := []) (Wr := [(z 3, .inl (k.1 0, 23, .inl (ta_e d)))]) C hP hD hS (c_X8_number l D k z kn no (tn_e tx L at_) (mo_s tx L at_) (tn_s tx L at_) (mo_w tx L at_) L tx 2 6 hx0 (by omega) ⟨by omega, by omega⟩) 1 rfl rfl rfl [1, 2] [0] rfl rfl (by decide) (by decide) (by decide) tw_341 tw_338 tw_5 tw_339 tw_340 ⟨by decide, by decide, rfl⟩ ⟨Nat.le_of_ble_eq_true rfl, Nat.le_of_ble_eq_true rfl⟩ ⟨Nat.zero_le _, Nat.zero_le _⟩ hl.1 rfl (Nat.le_of_ble_eq_true rfl) dX8_readsGround_21 (fun r7 u8 H locs h9 hP hD hS => ?_)
      rcases h9 with h0 | h0
      · obtain ⟨hin10, hv11, rfl⟩ := h0
        have hP : va_P D vwCl [(z 3, .inl (k.1 0, 23, .inl (ta_e d))), (z 0, .inr (8, [.ref (z 1), .int (nI L), .ref (z 2), .ref (z 3), .ref (z 4), .ref (z 5), .int (nI kn), .ref (z 6), .ref (z 7), .ref (z 8), .int (nI no), .int (nI (tn_e tx L (tn_e tx L at_))), .int (nI (mo_s tx L (tn_e tx L at_))), .int (nI (tn_s tx L (tn_e tx L at_))), .int (nI (mo_w tx L (tn_e tx L at_))), .ref (z 9)])), (z 1, .inl (k.1 0, 160, .inl (ta_e tx)))] H := hP
        have hD : va_D A [(z 3, .inl (k.1 0, 23, .inl (ta_e d))), (z 0, .inr (8, [.ref (z 1), .int (nI L), .ref (z 2), .ref (z 3), .ref (z 4), .ref (z 5), .int (nI kn), .ref (z 6), .ref (z 7), .ref (z 8), .int (nI no), .int (nI (tn_e tx L (tn_e tx L at_))), .int (nI (mo_s tx L (tn_e tx L at_))), .int (nI (tn_s tx L (tn_e tx L at_))), .int (nI (mo_w tx L (tn_e tx L at_))), .ref (z 9)])), (z 1, .inl (k.1 0, 160, .inl (ta_e tx)))] := hD
        obtain ⟨b11, b21, b31, b41⟩ := tn_b (tx := tx) (p := tn_e tx L at_) (by omega)
        have hmw1 := mo_wb (p := tn_e tx L at_) hx0 (by omega)
        have hcl1 := cl_in_iff.mp hin10
        refine lv_if_ne (tgt := 29) hx hb dX8_readsGround_24 (by decide) (fun c12 => ?_) (fun c12 => ?_)
        · refine ta_iconst C 0 dX8_readsGround_29 (by decide) ?_
          refine lv_istore_n (lv' := [(2, .int (nI 0)), (1, .int (nI (mo_w tx L at_))), (0, .ref (z 0))]) hx hb dX8_readsGround_30 rfl hl (by decide) rfl (fun ls hl => ?_)
          have loop_31 : ∀ (N_31 : Nat) (i : Nat) (f2 : Nat → Nat), (i ≤ 23) → (∀ j, j < i → f2 j = 0) → 23 - i < N_31 → ∀ (H : Heap) (locs : List Loc) (ls : Array Slot), va_P D vwCl [(z 0, .inr (8, [.ref (z 1), .int (nI L), .ref (z 2), .ref (z 3), .ref (z 4), .ref (z 5), .int (nI kn), .ref (z 6), .ref (z 7), .ref (z 8), .int (nI no), .int (nI (tn_e tx L (tn_e tx L at_))), .int (nI (mo_s tx L (tn_e tx L at_))), .int (nI (tn_s tx L (tn_e tx L at_))), .int (nI (mo_w tx L (tn_e tx L at_))), .ref (z 9)])), (z 1, .inl (k.1 0, 160, .inl (ta_e tx))), (z 3, .inl (k.1 0, 23, .inl (ta_e f2)))] H → va_D A [(z 0, .inr (8, [.ref (z 1), .int (nI L), .ref (z 2), .ref (z 3), .ref (z 4), .ref (z 5), .int (nI kn), .ref (z 6), .ref (z 7), .ref (z 8), .int (nI no), .int (nI (tn_e tx L (tn_e tx L at_))), .int (nI (mo_s tx L (tn_e tx L at_))), .int (nI (tn_s tx L (tn_e tx L at_))), .int (nI (mo_w tx L (tn_e tx L at_))), .ref (z 9)])), (z 1, .inl (k.1 0, 160, .inl (ta_e tx))), (z 3, .inl (k.1 0, 23, .inl (ta_e f2)))] → va_S A s.heap H locs → lv_has ls 3 [(2, .int (nI i)), (1, .int (nI (mo_w tx L at_))), (0, .ref (z 0))] → W p l e ({ frames := 4, cells := 0, slots := 0, locals := 120 }) s m ([.ref (z 0)] : List Value).toArray below meth c H locs 0 0 Q (F0 m 31 ls []) := by
            clear hP hD hS hl
            intro N_31
            induction N_31 with
            | zero =>
              intro i f2 h1 h2 hf_31
              exact absurd hf_31 (Nat.not_lt_zero _)
            | succ N_31 ih_31 =>
              intro i f2 h1 h2 hf_31 H locs ls hP hD hS hl
              refine lv_iload_n hx hb dX8_readsGround_31 rfl (lv_at hl 0 rfl) ?_
              refine ta_bipush C 23 dX8_readsGround_32 (by decide) ?_
              refine ta_cge C (a := i) (b := 23) (tgt := 50) (by omega) (by omega) dX8_readsGround_34 (by decide) (fun c13 => ?_) (fun c13 => ?_)
              · refine lv_aload_n hx hb dX8_readsGround_50 rfl (lv_at hl 2 rfl) ?_
                refine ta_get C hP 0 inlX8 rfl rfl 3 (by decide) tw_127 rfl dX8_readsGround_51 ?_
                refine ta_iconst C 0 dX8_readsGround_54 (by decide) ?_
                refine lv_iload_n hx hb dX8_readsGround_55 rfl (lv_at hl 1 rfl) ?_
                refine ta_iast C hP hD hS 2 rfl (i := 0) (v := mo_w tx L at_) (by omega) dX8_readsGround_56 (fun H locs hP hD hS => ?_)
                have hP : va_P D vwCl [(z 0, .inr (8, [.ref (z 1), .int (nI L), .ref (z 2), .ref (z 3), .ref (z 4), .ref (z 5), .int (nI kn), .ref (z 6), .ref (z 7), .ref (z 8), .int (nI no), .int (nI (tn_e tx L (tn_e tx L at_))), .int (nI (mo_s tx L (tn_e tx L at_))), .int (nI (tn_s tx L (tn_e tx L at_))), .int (nI (mo_w tx L (tn_e tx L at_))), .ref (z 9)])), (z 1, .inl (k.1 0, 160, .inl (ta_e tx))), (z 3, .inl (k.1 0, 23, .inl (ta_e (ta_u f2 0 (mo_w tx L at_)))))] H := hP
                have hD : va_D A [(z 0, .inr (8, [.ref (z 1), .int (nI L), .ref (z 2), .ref (z 3), .ref (z 4), .ref (z 5), .int (nI kn), .ref (z 6), .ref (z 7), .ref (z 8), .int (nI no), .int (nI (tn_e tx L (tn_e tx L at_))), .int (nI (mo_s tx L (tn_e tx L at_))), .int (nI (tn_s tx L (tn_e tx L at_))), .int (nI (mo_w tx L (tn_e tx L at_))), .ref (z 9)])), (z 1, .inl (k.1 0, 160, .inl (ta_e tx))), (z 3, .inl (k.1 0, 23, .inl (ta_e (ta_u f2 0 (mo_w tx L at_)))))] := hD
                refine lv_aload_n hx hb dX8_readsGround_57 rfl (lv_at hl 2 rfl) ?_
                refine ta_get C hP 0 inlX8 rfl rfl 3 (by decide) tw_127 rfl dX8_readsGround_58 ?_
                refine ta_iconst C 1 dX8_readsGround_61 (by decide) ?_
                refine lv_aload_n hx hb dX8_readsGround_62 rfl (lv_at hl 2 rfl) ?_
                refine ta_get C hP 0 inlX8 rfl rfl 14 (by decide) tw_315 rfl dX8_readsGround_63 ?_
                refine ta_iast C hP hD hS 2 rfl (i := 1) (v := mo_w tx L (tn_e tx L at_)) (by omega) dX8_readsGround_66 (fun H locs hP hD hS => ?_)
                have hP : va_P D vwCl [(z 0, .inr (8, [.ref (z 1), .int (nI L), .ref (z 2), .ref (z 3), .ref (z 4), .ref (z 5), .int (nI kn), .ref (z 6), .ref (z 7), .ref (z 8), .int (nI no), .int (nI (tn_e tx L (tn_e tx L at_))), .int (nI (mo_s tx L (tn_e tx L at_))), .int (nI (tn_s tx L (tn_e tx L at_))), .int (nI (mo_w tx L (tn_e tx L at_))), .ref (z 9)])), (z 1, .inl (k.1 0, 160, .inl (ta_e tx))), (z 3, .inl (k.1 0, 23, .inl (ta_e (ta_u (ta_u f2 0 (mo_w tx L at_)) 1 (mo_w tx L (tn_e tx L at_))))))] H := hP
                have hD : va_D A [(z 0, .inr (8, [.ref (z 1), .int (nI L), .ref (z 2), .ref (z 3), .ref (z 4), .ref (z 5), .int (nI kn), .ref (z 6), .ref (z 7), .ref (z 8), .int (nI no), .int (nI (tn_e tx L (tn_e tx L at_))), .int (nI (mo_s tx L (tn_e tx L at_))), .int (nI (tn_s tx L (tn_e tx L at_))), .int (nI (mo_w tx L (tn_e tx L at_))), .ref (z 9)])), (z 1, .inl (k.1 0, 160, .inl (ta_e tx))), (z 3, .inl (k.1 0, 23, .inl (ta_e (ta_u (ta_u f2 0 (mo_w tx L at_)) 1 (mo_w tx L (tn_e tx L at_))))))] := hD
                refine lv_aload_n hx hb dX8_readsGround_67 rfl (lv_at hl 2 rfl) ?_
                refine ta_get C hP 0 inlX8 rfl rfl 3 (by decide) tw_127 rfl dX8_readsGround_68 ?_
                refine ta_iconst C 2 dX8_readsGround_71 (by decide) ?_
                refine ta_iconst C 4 dX8_readsGround_72 (by decide) ?_
                refine ta_iast C hP hD hS 2 rfl (i := 2) (v := 4) (by omega) dX8_readsGround_73 (fun H locs hP hD hS => ?_)
                have hP : va_P D vwCl [(z 0, .inr (8, [.ref (z 1), .int (nI L), .ref (z 2), .ref (z 3), .ref (z 4), .ref (z 5), .int (nI kn), .ref (z 6), .ref (z 7), .ref (z 8), .int (nI no), .int (nI (tn_e tx L (tn_e tx L at_))), .int (nI (mo_s tx L (tn_e tx L at_))), .int (nI (tn_s tx L (tn_e tx L at_))), .int (nI (mo_w tx L (tn_e tx L at_))), .ref (z 9)])), (z 1, .inl (k.1 0, 160, .inl (ta_e tx))), (z 3, .inl (k.1 0, 23, .inl (ta_e (ta_u (ta_u (ta_u f2 0 (mo_w tx L at_)) 1 (mo_w tx L (tn_e tx L at_))) 2 4))))] H := hP
                have hD : va_D A [(z 0, .inr (8, [.ref (z 1), .int (nI L), .ref (z 2), .ref (z 3), .ref (z 4), .ref (z 5), .int (nI kn), .ref (z 6), .ref (z 7), .ref (z 8), .int (nI no), .int (nI (tn_e tx L (tn_e tx L at_))), .int (nI (mo_s tx L (tn_e tx L at_))), .int (nI (tn_s tx L (tn_e tx L at_))), .int (nI (mo_w tx L (tn_e tx L at_))), .ref (z 9)])), (z 1, .inl (k.1 0, 160, .inl (ta_e tx))), (z 3, .inl (k.1 0, 23, .inl (ta_e (ta_u (ta_u (ta_u f2 0 (mo_w tx L at_)) 1 (mo_w tx L (tn_e tx L at_))) 2 4))))] := hD
                refine ta_iconst C 1 dX8_readsGround_74 (by decide) ?_
                have eF : cl_ground tx L at_ d = (4294967295, tn_e tx L (tn_e tx L at_), tg_anew (tn_v tx L at_) (tn_v tx L (tn_e tx L at_))) := by unfold cl_ground; rw [cl_p hin4, cl_p hin10]
                have hdr : ∀ j, j < 23 → (ta_u (ta_u (ta_u f2 0 (mo_w tx L at_)) 1 (mo_w tx L (tn_e tx L at_))) 2 4) j = tg_anew (tn_v tx L at_) (tn_v tx L (tn_e tx L at_)) j := by
                  intro j hj
                  rw [hv5, hv11]
                  unfold ta_u tg_anew
                  rcases (show j = 0 ∨ j = 1 ∨ j = 2 ∨ 2 < j by omega) with rfl | rfl | rfl | h8
                  · rfl
                  · rfl
                  · rfl
                  · rw [if_neg (by omega), if_neg (by omega), if_neg (by omega), if_neg (by omega), if_neg (by omega), if_neg (by omega)]; exact h2 j (by omega)
                exact ret _ (tn_e tx L (tn_e tx L at_), mo_s tx L (tn_e tx L at_), tn_s tx L (tn_e tx L at_), mo_w tx L (tn_e tx L at_), tg_anew (tn_v tx L at_) (tn_v tx L (tn_e tx L at_))) dX8_readsGround_75 (by decide) (Or.inl ⟨by rw [eF], rfl, by rw [eF], by rw [eF]⟩) (ta_Pc (hP 0 _ rfl) (ta_Pc (hP 1 _ rfl) (ta_Pc (ta_ae hdr (hP 2 _ rfl)) ta_Pn))) (ta_De hD rfl) hS
              · refine lv_aload_n hx hb dX8_readsGround_37 rfl (lv_at hl 2 rfl) ?_
                refine ta_get C hP 0 inlX8 rfl rfl 3 (by decide) tw_127 rfl dX8_readsGround_38 ?_
                refine lv_iload_n hx hb dX8_readsGround_41 rfl (lv_at hl 0 rfl) ?_
                refine ta_iconst C 0 dX8_readsGround_42 (by decide) ?_
                refine ta_iast C hP hD hS 2 rfl (i := i) (v := 0) (by omega) dX8_readsGround_43 (fun H locs hP hD hS => ?_)
                have hP : va_P D vwCl [(z 0, .inr (8, [.ref (z 1), .int (nI L), .ref (z 2), .ref (z 3), .ref (z 4), .ref (z 5), .int (nI kn), .ref (z 6), .ref (z 7), .ref (z 8), .int (nI no), .int (nI (tn_e tx L (tn_e tx L at_))), .int (nI (mo_s tx L (tn_e tx L at_))), .int (nI (tn_s tx L (tn_e tx L at_))), .int (nI (mo_w tx L (tn_e tx L at_))), .ref (z 9)])), (z 1, .inl (k.1 0, 160, .inl (ta_e tx))), (z 3, .inl (k.1 0, 23, .inl (ta_e (ta_u f2 i 0))))] H := hP
                have hD : va_D A [(z 0, .inr (8, [.ref (z 1), .int (nI L), .ref (z 2), .ref (z 3), .ref (z 4), .ref (z 5), .int (nI kn), .ref (z 6), .ref (z 7), .ref (z 8), .int (nI no), .int (nI (tn_e tx L (tn_e tx L at_))), .int (nI (mo_s tx L (tn_e tx L at_))), .int (nI (tn_s tx L (tn_e tx L at_))), .int (nI (mo_w tx L (tn_e tx L at_))), .ref (z 9)])), (z 1, .inl (k.1 0, 160, .inl (ta_e tx))), (z 3, .inl (k.1 0, 23, .inl (ta_e (ta_u f2 i 0))))] := hD
                refine lv_iinc (v := nI (i + 1)) (lv' := [(2, .int (nI (i + 1))), (1, .int (nI (mo_w tx L at_))), (0, .ref (z 0))]) hx hb dX8_readsGround_44 hl (k := 0) rfl (ta_inc1 _) (by decide) rfl (fun ls hl => ?_)
                refine lv_goto (tgt := 31) hx hb dX8_readsGround_47 (by decide) ?_
                exact ih_31 (i + 1) (ta_u f2 i 0) (by omega) (ta_fill (h := fun _ => 0) h2) (by omega) _ _ _ hP hD hS (lv_sub hl [0, 1, 2] rfl)
          exact loop_31 ((23 - 0) + 1) 0 d (by omega) (fun j hj => absurd hj (Nat.not_lt_zero j)) (Nat.lt_succ_self _) _ _ _ (hP.sub [1, 2, 0] rfl) (hD.sub [1, 2, 0] (by decide) rfl) hS (lv_sub hl [0, 1, 2] rfl)
        · exact absurd c12 (by decide)
      · obtain ⟨hin14, rfl⟩ := h0
        have hP : va_P D vwCl [(z 3, .inl (k.1 0, 23, .inl (ta_e d))), (z 0, .inr (8, [.ref (z 1), .int (nI L), .ref (z 2), .ref (z 3), .ref (z 4), .ref (z 5), .int (nI kn), .ref (z 6), .ref (z 7), .ref (z 8), .int (nI no), .int (nI (tn_e tx L (tn_e tx L at_))), .int (nI (mo_s tx L (tn_e tx L at_))), .int (nI (tn_s tx L (tn_e tx L at_))), .int (nI (mo_w tx L (tn_e tx L at_))), .ref (z 9)])), (z 1, .inl (k.1 0, 160, .inl (ta_e tx)))] H := hP
        have hD : va_D A [(z 3, .inl (k.1 0, 23, .inl (ta_e d))), (z 0, .inr (8, [.ref (z 1), .int (nI L), .ref (z 2), .ref (z 3), .ref (z 4), .ref (z 5), .int (nI kn), .ref (z 6), .ref (z 7), .ref (z 8), .int (nI no), .int (nI (tn_e tx L (tn_e tx L at_))), .int (nI (mo_s tx L (tn_e tx L at_))), .int (nI (tn_s tx L (tn_e tx L at_))), .int (nI (mo_w tx L (tn_e tx L at_))), .ref (z 9)])), (z 1, .inl (k.1 0, 160, .inl (ta_e tx)))] := hD
        obtain ⟨b11, b21, b31, b41⟩ := tn_b (tx := tx) (p := tn_e tx L at_) (by omega)
        have hmw1 := mo_wb (p := tn_e tx L at_) hx0 (by omega)
        refine lv_if_ne (tgt := 29) hx hb dX8_readsGround_24 (by decide) (fun c15 => ?_) (fun c15 => ?_)
        · exact absurd c15 (by decide)
        · refine ta_iconst C 0 dX8_readsGround_27 (by decide) ?_
          have hP : va_P D vwCl [(z 0, .inr (8, [.ref (z 1), .int (nI L), .ref (z 2), .ref (z 3), .ref (z 4), .ref (z 5), .int (nI kn), .ref (z 6), .ref (z 7), .ref (z 8), .int (nI no), .int (nI (tn_e tx L (tn_e tx L at_))), .int (nI (mo_s tx L (tn_e tx L at_))), .int (nI (tn_s tx L (tn_e tx L at_))), .int (nI (mo_w tx L (tn_e tx L at_))), .ref (z 9)])), (z 1, .inl (k.1 0, 160, .inl (ta_e tx))), (z 3, .inl (k.1 0, 23, .inl (ta_e d)))] H := hP.sub [1, 2, 0] rfl
          have hD : va_D A [(z 0, .inr (8, [.ref (z 1), .int (nI L), .ref (z 2), .ref (z 3), .ref (z 4), .ref (z 5), .int (nI kn), .ref (z 6), .ref (z 7), .ref (z 8), .int (nI no), .int (nI (tn_e tx L (tn_e tx L at_))), .int (nI (mo_s tx L (tn_e tx L at_))), .int (nI (tn_s tx L (tn_e tx L at_))), .int (nI (mo_w tx L (tn_e tx L at_))), .ref (z 9)])), (z 1, .inl (k.1 0, 160, .inl (ta_e tx))), (z 3, .inl (k.1 0, 23, .inl (ta_e d)))] := hD.sub [1, 2, 0] (by decide) rfl
          have eF : cl_ground tx L at_ d = (tn_s tx L (tn_e tx L at_), 0, d) := by unfold cl_ground; rw [cl_p hin4, cl_n hin14]
          exact ret _ (tn_e tx L (tn_e tx L at_), mo_s tx L (tn_e tx L at_), tn_s tx L (tn_e tx L at_), mo_w tx L (tn_e tx L at_), d) dX8_readsGround_28 (by decide) (Or.inr ⟨by rw [eF]; exact Nat.ne_of_lt (show tn_s tx L (tn_e tx L at_) < 4294967295 by omega), rfl, by rw [eF]⟩) hP hD hS
    · exact absurd c6 (by decide)
  · obtain ⟨hin16, rfl⟩ := h0
    have hP : va_P D vwCl [(z 3, .inl (k.1 0, 23, .inl (ta_e d))), (z 0, .inr (8, [.ref (z 1), .int (nI L), .ref (z 2), .ref (z 3), .ref (z 4), .ref (z 5), .int (nI kn), .ref (z 6), .ref (z 7), .ref (z 8), .int (nI no), .int (nI (tn_e tx L at_)), .int (nI (mo_s tx L at_)), .int (nI (tn_s tx L at_)), .int (nI (mo_w tx L at_)), .ref (z 9)])), (z 1, .inl (k.1 0, 160, .inl (ta_e tx)))] H := hP
    have hD : va_D A [(z 3, .inl (k.1 0, 23, .inl (ta_e d))), (z 0, .inr (8, [.ref (z 1), .int (nI L), .ref (z 2), .ref (z 3), .ref (z 4), .ref (z 5), .int (nI kn), .ref (z 6), .ref (z 7), .ref (z 8), .int (nI no), .int (nI (tn_e tx L at_)), .int (nI (mo_s tx L at_)), .int (nI (tn_s tx L at_)), .int (nI (mo_w tx L at_)), .ref (z 9)])), (z 1, .inl (k.1 0, 160, .inl (ta_e tx)))] := hD
    obtain ⟨b10, b20, b30, b40⟩ := tn_b (tx := tx) (p := at_) (by omega)
    have hmw0 := mo_wb (p := at_) hx0 (by omega)
    refine lv_if_ne (tgt := 12) hx hb dX8_readsGround_7 (by decide) (fun c17 => ?_) (fun c17 => ?_)
    · exact absurd c17 (by decide)
    · refine ta_iconst C 0 dX8_readsGround_10 (by decide) ?_
      have hP : va_P D vwCl [(z 0, .inr (8, [.ref (z 1), .int (nI L), .ref (z 2), .ref (z 3), .ref (z 4), .ref (z 5), .int (nI kn), .ref (z 6), .ref (z 7), .ref (z 8), .int (nI no), .int (nI (tn_e tx L at_)), .int (nI (mo_s tx L at_)), .int (nI (tn_s tx L at_)), .int (nI (mo_w tx L at_)), .ref (z 9)])), (z 1, .inl (k.1 0, 160, .inl (ta_e tx))), (z 3, .inl (k.1 0, 23, .inl (ta_e d)))] H := hP.sub [1, 2, 0] rfl
      have hD : va_D A [(z 0, .inr (8, [.ref (z 1), .int (nI L), .ref (z 2), .ref (z 3), .ref (z 4), .ref (z 5), .int (nI kn), .ref (z 6), .ref (z 7), .ref (z 8), .int (nI no), .int (nI (tn_e tx L at_)), .int (nI (mo_s tx L at_)), .int (nI (tn_s tx L at_)), .int (nI (mo_w tx L at_)), .ref (z 9)])), (z 1, .inl (k.1 0, 160, .inl (ta_e tx))), (z 3, .inl (k.1 0, 23, .inl (ta_e d)))] := hD.sub [1, 2, 0] (by decide) rfl
      have eF : cl_ground tx L at_ d = (tn_s tx L at_, 0, d) := by unfold cl_ground; rw [cl_n hin16]
      exact ret _ (tn_e tx L at_, mo_s tx L at_, tn_s tx L at_, mo_w tx L at_, d) dX8_readsGround_11 (by decide) (Or.inr ⟨by rw [eF]; exact Nat.ne_of_lt (show tn_s tx L at_ < 4294967295 by omega), rfl, by rw [eF]⟩) hP hD hS

set_option maxHeartbeats 4000000 in
set_option maxRecDepth 100000 in
theorem c_X8_readsStand (l : Launch) (D : va_G) (k : ta_C) (z : Nat → Nat) (kn : Nat) (no : Nat) (at_ : Nat) (so : Nat) (sr : Nat) (va : Nat) (L : Nat) (tx : Nat → Nat) (d : Nat → Nat) (hx0 : tx_ok tx L) (hat : at_ ≤ L) (hpl : pl_ok d) : ta_Mi (S := Nat × Nat × Nat × Nat × (Nat → Nat)) l D k yX8_readsStand cX8_readsStand 2 .boolean 4 120 [.ref (z 0)] [(z 0, .inr (8, [.ref (z 1), .int (nI L), .ref (z 2), .ref (z 3), .ref (z 4), .ref (z 5), .int (nI kn), .ref (z 6), .ref (z 7), .ref (z 8), .int (nI no), .int (nI at_), .int (nI so), .int (nI sr), .int (nI va), .ref (z 9)])), (z 1, .inl (k.1 0, 160, .inl (ta_e tx))), (z 3, .inl (k.1 0, 23, .inl (ta_e d)))] (fun r u => mo_post (cl_stand tx L at_ d) r u) (fun u => [(z 0, .inr (8, [.ref (z 1), .int (nI L), .ref (z 2), .ref (z 3), .ref (z 4), .ref (z 5), .int (nI kn), .ref (z 6), .ref (z 7), .ref (z 8), .int (nI no), .int (nI u.1), .int (nI u.2.1), .int (nI u.2.2.1), .int (nI u.2.2.2.1), .ref (z 9)])), (z 1, .inl (k.1 0, 160, .inl (ta_e tx))), (z 3, .inl (k.1 0, 23, .inl (ta_e u.2.2.2.2)))]) := by
  refine ta_enter_i (by decide) (Nat.le_of_ble_eq_true rfl) ?_
  intro p e s m below meth c A ls Q C ret hP hD hS hl
  have C : ta_At p l D k s m ([.ref (z 0)] : List Value).toArray c RX8 cX8_readsStand 2 A := C
  have hx := C.1.1
  have hb := C.1.2.1
  have hl : lv_has ls 2 [(0, .ref (z 0))] := hl
  obtain ⟨H, hH⟩ : ∃ H, H = s.heap := ⟨_, rfl⟩
  obtain ⟨locs, hlocs⟩ : ∃ q : List Loc, q = [] := ⟨_, rfl⟩
  have hP : va_P D vwCl [(z 0, .inr (8, [.ref (z 1), .int (nI L), .ref (z 2), .ref (z 3), .ref (z 4), .ref (z 5), .int (nI kn), .ref (z 6), .ref (z 7), .ref (z 8), .int (nI no), .int (nI at_), .int (nI so), .int (nI sr), .int (nI va), .ref (z 9)])), (z 1, .inl (k.1 0, 160, .inl (ta_e tx))), (z 3, .inl (k.1 0, 23, .inl (ta_e d)))] H := by rw [hH]; exact hP
  have hS : va_S A s.heap H locs := by rw [hH, hlocs]; exact hS
  rw [← hlocs]
  suffices hgoal : W p l e ({ frames := 4, cells := 0, slots := 0, locals := 120 }) s m ([.ref (z 0)] : List Value).toArray below meth c H locs 0 0 Q (F0 m 0 ls []) by rw [hH] at hgoal; exact hgoal
  clear hH hlocs
  obtain ⟨hL, hc⟩ := id hx0
  obtain ⟨⟨a1, a2, a3, a4, a5, a6⟩, pp3, pp4, pp5, pp6, pp7, pp8⟩ := id hpl
  have hm : d 0 * d 1 ≤ 36 := tg_36 a2 a4
  have hm1 : 4 ≤ d 0 * d 1 := Nat.mul_le_mul a1 a3
  refine lv_aload_n hx hb dX8_readsStand_0 rfl (lv_at hl 0 rfl) ?_
  refine ta_iconst C 0 dX8_readsStand_1 (by decide) ?_
  refine lv_aload_n hx hb dX8_readsStand_2 rfl (lv_at hl 0 rfl) ?_
  refine ta_get C hP 0 inlX8 rfl rfl 3 (by decide) tw_127 rfl dX8_readsStand_3 ?_
  refine ta_iconst C 0 dX8_readsStand_6 (by decide) ?_
  refine ta_iald C hP 2 rfl (i := 0) (by omega) dX8_readsStand_7 ?_
  refine lv_aload_n hx hb dX8_readsStand_8 rfl (lv_at hl 0 rfl) ?_
  refine ta_get C hP 0 inlX8 rfl rfl 3 (by decide) tw_127 rfl dX8_readsStand_9 ?_
  refine ta_iconst C 1 dX8_readsStand_12 (by decide) ?_
  refine ta_iald C hP 2 rfl (i := 1) (by omega) dX8_readsStand_13 ?_
  refine ta_imul C (a := d 0) (b := d 1) dX8_readsStand_14 ?_
  refine ta_iconst C 1 dX8_readsStand_15 (by decide) ?_
  refine ta_isub C (a := (d 0) * (d 1)) (b := 1) (by omega) dX8_readsStand_16 ?_
  refine ta_callVi (As := [.int (nI 0), .int (nI (((d 0) * (d 1)) - 1))]) (rest0 := []) (Wr := [(z 3, .inl (k.1 0, 23, .inl (ta_e d)))]) C hP hD hS (c_X8_number l D k z kn no at_ so sr va L tx 0 (((d 0) * (d 1)) - 1) hx0 (by omega) ⟨by omega, by omega⟩) 0 rfl rfl rfl [0, 1] [2] rfl rfl (by decide) (by decide) (by decide) tw_341 tw_338 tw_5 tw_339 tw_340 ⟨by decide, by decide, rfl⟩ ⟨Nat.le_of_ble_eq_true rfl, Nat.le_of_ble_eq_true rfl⟩ ⟨Nat.zero_le _, Nat.zero_le _⟩ hl.1 rfl (Nat.le_of_ble_eq_true rfl) dX8_readsStand_17 (fun r1 u2 H locs h3 hP hD hS => ?_)
  rcases h3 with h0 | h0
  · obtain ⟨hin4, hv5, rfl⟩ := h0
    have hP : va_P D vwCl [(z 3, .inl (k.1 0, 23, .inl (ta_e d))), (z 0, .inr (8, [.ref (z 1), .int (nI L), .ref (z 2), .ref (z 3), .ref (z 4), .ref (z 5), .int (nI kn), .ref (z 6), .ref (z 7), .ref (z 8), .int (nI no), .int (nI (tn_e tx L at_)), .int (nI (mo_s tx L at_)), .int (nI (tn_s tx L at_)), .int (nI (mo_w tx L at_)), .ref (z 9)])), (z 1, .inl (k.1 0, 160, .inl (ta_e tx)))] H := hP
    have hD : va_D A [(z 3, .inl (k.1 0, 23, .inl (ta_e d))), (z 0, .inr (8, [.ref (z 1), .int (nI L), .ref (z 2), .ref (z 3), .ref (z 4), .ref (z 5), .int (nI kn), .ref (z 6), .ref (z 7), .ref (z 8), .int (nI no), .int (nI (tn_e tx L at_)), .int (nI (mo_s tx L at_)), .int (nI (tn_s tx L at_)), .int (nI (mo_w tx L at_)), .ref (z 9)])), (z 1, .inl (k.1 0, 160, .inl (ta_e tx)))] := hD
    obtain ⟨b10, b20, b30, b40⟩ := tn_b (tx := tx) (p := at_) (by omega)
    have hmw0 := mo_wb (p := at_) hx0 (by omega)
    have hcl0 := cl_in_iff.mp hin4
    refine lv_if_ne (tgt := 25) hx hb dX8_readsStand_20 (by decide) (fun c6 => ?_) (fun c6 => ?_)
    · refine lv_aload_n hx hb dX8_readsStand_25 rfl (lv_at hl 0 rfl) ?_
      refine ta_get C hP 1 inlX8 rfl rfl 3 (by decide) tw_127 rfl dX8_readsStand_26 ?_
      refine ta_iconst C 3 dX8_readsStand_29 (by decide) ?_
      refine lv_aload_n hx hb dX8_readsStand_30 rfl (lv_at hl 0 rfl) ?_
      refine ta_get C hP 1 inlX8 rfl rfl 14 (by decide) tw_315 rfl dX8_readsStand_31 ?_
      refine ta_iast C hP hD hS 0 rfl (i := 3) (v := mo_w tx L at_) (by omega) dX8_readsStand_34 (fun H locs hP hD hS => ?_)
      have hP : va_P D vwCl [(z 3, .inl (k.1 0, 23, .inl (ta_e (ta_u d 3 (mo_w tx L at_))))), (z 0, .inr (8, [.ref (z 1), .int (nI L), .ref (z 2), .ref (z 3), .ref (z 4), .ref (z 5), .int (nI kn), .ref (z 6), .ref (z 7), .ref (z 8), .int (nI no), .int (nI (tn_e tx L at_)), .int (nI (mo_s tx L at_)), .int (nI (tn_s tx L at_)), .int (nI (mo_w tx L at_)), .ref (z 9)])), (z 1, .inl (k.1 0, 160, .inl (ta_e tx)))] H := hP
      have hD : va_D A [(z 3, .inl (k.1 0, 23, .inl (ta_e (ta_u d 3 (mo_w tx L at_))))), (z 0, .inr (8, [.ref (z 1), .int (nI L), .ref (z 2), .ref (z 3), .ref (z 4), .ref (z 5), .int (nI kn), .ref (z 6), .ref (z 7), .ref (z 8), .int (nI no), .int (nI (tn_e tx L at_)), .int (nI (mo_s tx L at_)), .int (nI (tn_s tx L at_)), .int (nI (mo_w tx L at_)), .ref (z 9)])), (z 1, .inl (k.1 0, 160, .inl (ta_e tx)))] := hD
      refine lv_aload_n hx hb dX8_readsStand_35 rfl (lv_at hl 0 rfl) ?_
      refine ta_iconst C 0 dX8_readsStand_36 (by decide) ?_
      refine ta_iconst C 3 dX8_readsStand_37 (by decide) ?_
      refine ta_callVi (As := [.int (nI 0), .int (nI 3)]) (rest0 := []) (Wr := [(z 3, .inl (k.1 0, 23, .inl (ta_e (ta_u d 3 (mo_w tx L at_)))))]) C hP hD hS (c_X8_number l D k z kn no (tn_e tx L at_) (mo_s tx L at_) (tn_s tx L at_) (mo_w tx L at_) L tx 0 3 hx0 (by omega) ⟨by omega, by omega⟩) 1 rfl rfl rfl [1, 2] [0] rfl rfl (by decide) (by decide) (by decide) tw_341 tw_338 tw_5 tw_339 tw_340 ⟨by decide, by decide, rfl⟩ ⟨Nat.le_of_ble_eq_true rfl, Nat.le_of_ble_eq_true rfl⟩ ⟨Nat.zero_le _, Nat.zero_le _⟩ hl.1 rfl (Nat.le_of_ble_eq_true rfl) dX8_readsStand_38 (fun r7 u8 H locs h9 hP hD hS => ?_)
      rcases h9 with h0 | h0
      · obtain ⟨hin10, hv11, rfl⟩ := h0
        have hP : va_P D vwCl [(z 3, .inl (k.1 0, 23, .inl (ta_e (ta_u d 3 (mo_w tx L at_))))), (z 0, .inr (8, [.ref (z 1), .int (nI L), .ref (z 2), .ref (z 3), .ref (z 4), .ref (z 5), .int (nI kn), .ref (z 6), .ref (z 7), .ref (z 8), .int (nI no), .int (nI (tn_e tx L (tn_e tx L at_))), .int (nI (mo_s tx L (tn_e tx L at_))), .int (nI (tn_s tx L (tn_e tx L at_))), .int (nI (mo_w tx L (tn_e tx L at_))), .ref (z 9)])), (z 1, .inl (k.1 0, 160, .inl (ta_e tx)))] H := hP
        have hD : va_D A [(z 3, .inl (k.1 0, 23, .inl (ta_e (ta_u d 3 (mo_w tx L at_))))), (z 0, .inr (8, [.ref (z 1), .int (nI L), .ref (z 2), .ref (z 3), .ref (z 4), .ref (z 5), .int (nI kn), .ref (z 6), .ref (z 7), .ref (z 8), .int (nI no), .int (nI (tn_e tx L (tn_e tx L at_))), .int (nI (mo_s tx L (tn_e tx L at_))), .int (nI (tn_s tx L (tn_e tx L at_))), .int (nI (mo_w tx L (tn_e tx L at_))), .ref (z 9)])), (z 1, .inl (k.1 0, 160, .inl (ta_e tx)))] := hD
        obtain ⟨b11, b21, b31, b41⟩ := tn_b (tx := tx) (p := tn_e tx L at_) (by omega)
        have hmw1 := mo_wb (p := tn_e tx L at_) hx0 (by omega)
        have hcl1 := cl_in_iff.mp hin10
        refine lv_istore_n (lv' := [(1, .int (nI 1)), (0, .ref (z 0))]) hx hb dX8_readsStand_41 rfl hl (by decide) rfl (fun ls hl => ?_)
        refine lv_aload_n hx hb dX8_readsStand_42 rfl (lv_at hl 1 rfl) ?_
        refine ta_get C hP 1 inlX8 rfl rfl 3 (by decide) tw_127 rfl dX8_readsStand_43 ?_
        refine ta_iconst C 4 dX8_readsStand_46 (by decide) ?_
        refine lv_aload_n hx hb dX8_readsStand_47 rfl (lv_at hl 1 rfl) ?_
        refine ta_get C hP 1 inlX8 rfl rfl 14 (by decide) tw_315 rfl dX8_readsStand_48 ?_
        refine ta_iast C hP hD hS 0 rfl (i := 4) (v := mo_w tx L (tn_e tx L at_)) (by omega) dX8_readsStand_51 (fun H locs hP hD hS => ?_)
        have hP : va_P D vwCl [(z 3, .inl (k.1 0, 23, .inl (ta_e (ta_u (ta_u d 3 (mo_w tx L at_)) 4 (mo_w tx L (tn_e tx L at_)))))), (z 0, .inr (8, [.ref (z 1), .int (nI L), .ref (z 2), .ref (z 3), .ref (z 4), .ref (z 5), .int (nI kn), .ref (z 6), .ref (z 7), .ref (z 8), .int (nI no), .int (nI (tn_e tx L (tn_e tx L at_))), .int (nI (mo_s tx L (tn_e tx L at_))), .int (nI (tn_s tx L (tn_e tx L at_))), .int (nI (mo_w tx L (tn_e tx L at_))), .ref (z 9)])), (z 1, .inl (k.1 0, 160, .inl (ta_e tx)))] H := hP
        have hD : va_D A [(z 3, .inl (k.1 0, 23, .inl (ta_e (ta_u (ta_u d 3 (mo_w tx L at_)) 4 (mo_w tx L (tn_e tx L at_)))))), (z 0, .inr (8, [.ref (z 1), .int (nI L), .ref (z 2), .ref (z 3), .ref (z 4), .ref (z 5), .int (nI kn), .ref (z 6), .ref (z 7), .ref (z 8), .int (nI no), .int (nI (tn_e tx L (tn_e tx L at_))), .int (nI (mo_s tx L (tn_e tx L at_))), .int (nI (tn_s tx L (tn_e tx L at_))), .int (nI (mo_w tx L (tn_e tx L at_))), .ref (z 9)])), (z 1, .inl (k.1 0, 160, .inl (ta_e tx)))] := hD
        have hP : va_P D vwCl [(z 0, .inr (8, [.ref (z 1), .int (nI L), .ref (z 2), .ref (z 3), .ref (z 4), .ref (z 5), .int (nI kn), .ref (z 6), .ref (z 7), .ref (z 8), .int (nI no), .int (nI (tn_e tx L (tn_e tx L at_))), .int (nI (mo_s tx L (tn_e tx L at_))), .int (nI (tn_s tx L (tn_e tx L at_))), .int (nI (mo_w tx L (tn_e tx L at_))), .ref (z 9)])), (z 1, .inl (k.1 0, 160, .inl (ta_e tx))), (z 3, .inl (k.1 0, 23, .inl (ta_e (ta_u (ta_u d 3 (mo_w tx L at_)) 4 (mo_w tx L (tn_e tx L at_))))))] H := hP.sub [1, 2, 0] rfl
        have hD : va_D A [(z 0, .inr (8, [.ref (z 1), .int (nI L), .ref (z 2), .ref (z 3), .ref (z 4), .ref (z 5), .int (nI kn), .ref (z 6), .ref (z 7), .ref (z 8), .int (nI no), .int (nI (tn_e tx L (tn_e tx L at_))), .int (nI (mo_s tx L (tn_e tx L at_))), .int (nI (tn_s tx L (tn_e tx L at_))), .int (nI (mo_w tx L (tn_e tx L at_))), .ref (z 9)])), (z 1, .inl (k.1 0, 160, .inl (ta_e tx))), (z 3, .inl (k.1 0, 23, .inl (ta_e (ta_u (ta_u d 3 (mo_w tx L at_)) 4 (mo_w tx L (tn_e tx L at_))))))] := hD.sub [1, 2, 0] (by decide) rfl
        refine lv_iload_n hx hb dX8_readsStand_52 rfl (lv_at hl 0 rfl) ?_
        rw [hv5, hv11] at hP hD
        have hP : va_P D vwCl [(z 0, .inr (8, [.ref (z 1), .int (nI L), .ref (z 2), .ref (z 3), .ref (z 4), .ref (z 5), .int (nI kn), .ref (z 6), .ref (z 7), .ref (z 8), .int (nI no), .int (nI (tn_e tx L (tn_e tx L at_))), .int (nI (mo_s tx L (tn_e tx L at_))), .int (nI (tn_s tx L (tn_e tx L at_))), .int (nI (tn_v tx L (tn_e tx L at_))), .ref (z 9)])), (z 1, .inl (k.1 0, 160, .inl (ta_e tx))), (z 3, .inl (k.1 0, 23, .inl (ta_e (ta_u (ta_u d 3 (tn_v tx L at_)) 4 (tn_v tx L (tn_e tx L at_))))))] H := hP
        have hD : va_D A [(z 0, .inr (8, [.ref (z 1), .int (nI L), .ref (z 2), .ref (z 3), .ref (z 4), .ref (z 5), .int (nI kn), .ref (z 6), .ref (z 7), .ref (z 8), .int (nI no), .int (nI (tn_e tx L (tn_e tx L at_))), .int (nI (mo_s tx L (tn_e tx L at_))), .int (nI (tn_s tx L (tn_e tx L at_))), .int (nI (tn_v tx L (tn_e tx L at_))), .ref (z 9)])), (z 1, .inl (k.1 0, 160, .inl (ta_e tx))), (z 3, .inl (k.1 0, 23, .inl (ta_e (ta_u (ta_u d 3 (tn_v tx L at_)) 4 (tn_v tx L (tn_e tx L at_))))))] := hD
        have eF : cl_stand tx L at_ d = (4294967295, tn_e tx L (tn_e tx L at_), ta_u (ta_u d 3 (tn_v tx L at_)) 4 (tn_v tx L (tn_e tx L at_))) := by unfold cl_stand; rw [cl_p hin4, cl_p hin10]
        exact ret _ (tn_e tx L (tn_e tx L at_), mo_s tx L (tn_e tx L at_), tn_s tx L (tn_e tx L at_), tn_v tx L (tn_e tx L at_), ta_u (ta_u d 3 (tn_v tx L at_)) 4 (tn_v tx L (tn_e tx L at_))) dX8_readsStand_53 (by decide) (Or.inl ⟨by rw [eF], rfl, by rw [eF], by rw [eF]⟩) hP hD hS
      · obtain ⟨hin12, rfl⟩ := h0
        have hP : va_P D vwCl [(z 3, .inl (k.1 0, 23, .inl (ta_e (ta_u d 3 (mo_w tx L at_))))), (z 0, .inr (8, [.ref (z 1), .int (nI L), .ref (z 2), .ref (z 3), .ref (z 4), .ref (z 5), .int (nI kn), .ref (z 6), .ref (z 7), .ref (z 8), .int (nI no), .int (nI (tn_e tx L (tn_e tx L at_))), .int (nI (mo_s tx L (tn_e tx L at_))), .int (nI (tn_s tx L (tn_e tx L at_))), .int (nI (mo_w tx L (tn_e tx L at_))), .ref (z 9)])), (z 1, .inl (k.1 0, 160, .inl (ta_e tx)))] H := hP
        have hD : va_D A [(z 3, .inl (k.1 0, 23, .inl (ta_e (ta_u d 3 (mo_w tx L at_))))), (z 0, .inr (8, [.ref (z 1), .int (nI L), .ref (z 2), .ref (z 3), .ref (z 4), .ref (z 5), .int (nI kn), .ref (z 6), .ref (z 7), .ref (z 8), .int (nI no), .int (nI (tn_e tx L (tn_e tx L at_))), .int (nI (mo_s tx L (tn_e tx L at_))), .int (nI (tn_s tx L (tn_e tx L at_))), .int (nI (mo_w tx L (tn_e tx L at_))), .ref (z 9)])), (z 1, .inl (k.1 0, 160, .inl (ta_e tx)))] := hD
        obtain ⟨b11, b21, b31, b41⟩ := tn_b (tx := tx) (p := tn_e tx L at_) (by omega)
        have hmw1 := mo_wb (p := tn_e tx L at_) hx0 (by omega)
        refine lv_istore_n (lv' := [(1, .int (nI 0)), (0, .ref (z 0))]) hx hb dX8_readsStand_41 rfl hl (by decide) rfl (fun ls hl => ?_)
        refine lv_aload_n hx hb dX8_readsStand_42 rfl (lv_at hl 1 rfl) ?_
        refine ta_get C hP 1 inlX8 rfl rfl 3 (by decide) tw_127 rfl dX8_readsStand_43 ?_
        refine ta_iconst C 4 dX8_readsStand_46 (by decide) ?_
        refine lv_aload_n hx hb dX8_readsStand_47 rfl (lv_at hl 1 rfl) ?_
        refine ta_get C hP 1 inlX8 rfl rfl 14 (by decide) tw_315 rfl dX8_readsStand_48 ?_
        refine ta_iast C hP hD hS 0 rfl (i := 4) (v := mo_w tx L (tn_e tx L at_)) (by omega) dX8_readsStand_51 (fun H locs hP hD hS => ?_)
        have hP : va_P D vwCl [(z 3, .inl (k.1 0, 23, .inl (ta_e (ta_u (ta_u d 3 (mo_w tx L at_)) 4 (mo_w tx L (tn_e tx L at_)))))), (z 0, .inr (8, [.ref (z 1), .int (nI L), .ref (z 2), .ref (z 3), .ref (z 4), .ref (z 5), .int (nI kn), .ref (z 6), .ref (z 7), .ref (z 8), .int (nI no), .int (nI (tn_e tx L (tn_e tx L at_))), .int (nI (mo_s tx L (tn_e tx L at_))), .int (nI (tn_s tx L (tn_e tx L at_))), .int (nI (mo_w tx L (tn_e tx L at_))), .ref (z 9)])), (z 1, .inl (k.1 0, 160, .inl (ta_e tx)))] H := hP
        have hD : va_D A [(z 3, .inl (k.1 0, 23, .inl (ta_e (ta_u (ta_u d 3 (mo_w tx L at_)) 4 (mo_w tx L (tn_e tx L at_)))))), (z 0, .inr (8, [.ref (z 1), .int (nI L), .ref (z 2), .ref (z 3), .ref (z 4), .ref (z 5), .int (nI kn), .ref (z 6), .ref (z 7), .ref (z 8), .int (nI no), .int (nI (tn_e tx L (tn_e tx L at_))), .int (nI (mo_s tx L (tn_e tx L at_))), .int (nI (tn_s tx L (tn_e tx L at_))), .int (nI (mo_w tx L (tn_e tx L at_))), .ref (z 9)])), (z 1, .inl (k.1 0, 160, .inl (ta_e tx)))] := hD
        have hP : va_P D vwCl [(z 0, .inr (8, [.ref (z 1), .int (nI L), .ref (z 2), .ref (z 3), .ref (z 4), .ref (z 5), .int (nI kn), .ref (z 6), .ref (z 7), .ref (z 8), .int (nI no), .int (nI (tn_e tx L (tn_e tx L at_))), .int (nI (mo_s tx L (tn_e tx L at_))), .int (nI (tn_s tx L (tn_e tx L at_))), .int (nI (mo_w tx L (tn_e tx L at_))), .ref (z 9)])), (z 1, .inl (k.1 0, 160, .inl (ta_e tx))), (z 3, .inl (k.1 0, 23, .inl (ta_e (ta_u (ta_u d 3 (mo_w tx L at_)) 4 (mo_w tx L (tn_e tx L at_))))))] H := hP.sub [1, 2, 0] rfl
        have hD : va_D A [(z 0, .inr (8, [.ref (z 1), .int (nI L), .ref (z 2), .ref (z 3), .ref (z 4), .ref (z 5), .int (nI kn), .ref (z 6), .ref (z 7), .ref (z 8), .int (nI no), .int (nI (tn_e tx L (tn_e tx L at_))), .int (nI (mo_s tx L (tn_e tx L at_))), .int (nI (tn_s tx L (tn_e tx L at_))), .int (nI (mo_w tx L (tn_e tx L at_))), .ref (z 9)])), (z 1, .inl (k.1 0, 160, .inl (ta_e tx))), (z 3, .inl (k.1 0, 23, .inl (ta_e (ta_u (ta_u d 3 (mo_w tx L at_)) 4 (mo_w tx L (tn_e tx L at_))))))] := hD.sub [1, 2, 0] (by decide) rfl
        refine lv_iload_n hx hb dX8_readsStand_52 rfl (lv_at hl 0 rfl) ?_
        have eF : cl_stand tx L at_ d = (tn_s tx L (tn_e tx L at_), 0, d) := by unfold cl_stand; rw [cl_p hin4, cl_n hin12]
        exact ret _ (tn_e tx L (tn_e tx L at_), mo_s tx L (tn_e tx L at_), tn_s tx L (tn_e tx L at_), mo_w tx L (tn_e tx L at_), ta_u (ta_u d 3 (mo_w tx L at_)) 4 (mo_w tx L (tn_e tx L at_))) dX8_readsStand_53 (by decide) (Or.inr ⟨by rw [eF]; exact Nat.ne_of_lt (show tn_s tx L (tn_e tx L at_) < 4294967295 by omega), rfl, by rw [eF]⟩) hP hD hS
    · exact absurd c6 (by decide)
  · obtain ⟨hin13, rfl⟩ := h0
    have hP : va_P D vwCl [(z 3, .inl (k.1 0, 23, .inl (ta_e d))), (z 0, .inr (8, [.ref (z 1), .int (nI L), .ref (z 2), .ref (z 3), .ref (z 4), .ref (z 5), .int (nI kn), .ref (z 6), .ref (z 7), .ref (z 8), .int (nI no), .int (nI (tn_e tx L at_)), .int (nI (mo_s tx L at_)), .int (nI (tn_s tx L at_)), .int (nI (mo_w tx L at_)), .ref (z 9)])), (z 1, .inl (k.1 0, 160, .inl (ta_e tx)))] H := hP
    have hD : va_D A [(z 3, .inl (k.1 0, 23, .inl (ta_e d))), (z 0, .inr (8, [.ref (z 1), .int (nI L), .ref (z 2), .ref (z 3), .ref (z 4), .ref (z 5), .int (nI kn), .ref (z 6), .ref (z 7), .ref (z 8), .int (nI no), .int (nI (tn_e tx L at_)), .int (nI (mo_s tx L at_)), .int (nI (tn_s tx L at_)), .int (nI (mo_w tx L at_)), .ref (z 9)])), (z 1, .inl (k.1 0, 160, .inl (ta_e tx)))] := hD
    obtain ⟨b10, b20, b30, b40⟩ := tn_b (tx := tx) (p := at_) (by omega)
    have hmw0 := mo_wb (p := at_) hx0 (by omega)
    refine lv_if_ne (tgt := 25) hx hb dX8_readsStand_20 (by decide) (fun c14 => ?_) (fun c14 => ?_)
    · exact absurd c14 (by decide)
    · refine ta_iconst C 0 dX8_readsStand_23 (by decide) ?_
      have hP : va_P D vwCl [(z 0, .inr (8, [.ref (z 1), .int (nI L), .ref (z 2), .ref (z 3), .ref (z 4), .ref (z 5), .int (nI kn), .ref (z 6), .ref (z 7), .ref (z 8), .int (nI no), .int (nI (tn_e tx L at_)), .int (nI (mo_s tx L at_)), .int (nI (tn_s tx L at_)), .int (nI (mo_w tx L at_)), .ref (z 9)])), (z 1, .inl (k.1 0, 160, .inl (ta_e tx))), (z 3, .inl (k.1 0, 23, .inl (ta_e d)))] H := hP.sub [1, 2, 0] rfl
      have hD : va_D A [(z 0, .inr (8, [.ref (z 1), .int (nI L), .ref (z 2), .ref (z 3), .ref (z 4), .ref (z 5), .int (nI kn), .ref (z 6), .ref (z 7), .ref (z 8), .int (nI no), .int (nI (tn_e tx L at_)), .int (nI (mo_s tx L at_)), .int (nI (tn_s tx L at_)), .int (nI (mo_w tx L at_)), .ref (z 9)])), (z 1, .inl (k.1 0, 160, .inl (ta_e tx))), (z 3, .inl (k.1 0, 23, .inl (ta_e d)))] := hD.sub [1, 2, 0] (by decide) rfl
      have eF : cl_stand tx L at_ d = (tn_s tx L at_, 0, d) := by unfold cl_stand; rw [cl_n hin13]
      exact ret _ (tn_e tx L at_, mo_s tx L at_, tn_s tx L at_, mo_w tx L at_, d) dX8_readsStand_24 (by decide) (Or.inr ⟨by rw [eF]; exact Nat.ne_of_lt (show tn_s tx L at_ < 4294967295 by omega), rfl, by rw [eF]⟩) hP hD hS

set_option maxHeartbeats 4000000 in
set_option maxRecDepth 100000 in
theorem c_X8_readsRest (l : Launch) (D : va_G) (k : ta_C) (z : Nat → Nat) (kn : Nat) (no : Nat) (at_ : Nat) (so : Nat) (sr : Nat) (va : Nat) (L : Nat) (tx : Nat → Nat) (d : Nat → Nat) (hx0 : tx_ok tx L) (hat : at_ ≤ L) (hpl : pl_ok d) : ta_Mi (S := Nat × Nat × Nat × Nat × (Nat → Nat)) l D k yX8_readsRest cX8_readsRest 1 .boolean 4 120 [.ref (z 0)] [(z 0, .inr (8, [.ref (z 1), .int (nI L), .ref (z 2), .ref (z 3), .ref (z 4), .ref (z 5), .int (nI kn), .ref (z 6), .ref (z 7), .ref (z 8), .int (nI no), .int (nI at_), .int (nI so), .int (nI sr), .int (nI va), .ref (z 9)])), (z 1, .inl (k.1 0, 160, .inl (ta_e tx))), (z 3, .inl (k.1 0, 23, .inl (ta_e d)))] (fun r u => mo_post (cl_rest tx L at_ d) r u) (fun u => [(z 0, .inr (8, [.ref (z 1), .int (nI L), .ref (z 2), .ref (z 3), .ref (z 4), .ref (z 5), .int (nI kn), .ref (z 6), .ref (z 7), .ref (z 8), .int (nI no), .int (nI u.1), .int (nI u.2.1), .int (nI u.2.2.1), .int (nI u.2.2.2.1), .ref (z 9)])), (z 1, .inl (k.1 0, 160, .inl (ta_e tx))), (z 3, .inl (k.1 0, 23, .inl (ta_e u.2.2.2.2)))]) := by
  refine ta_enter_i (by decide) (Nat.le_of_ble_eq_true rfl) ?_
  intro p e s m below meth c A ls Q C ret hP hD hS hl
  have C : ta_At p l D k s m ([.ref (z 0)] : List Value).toArray c RX8 cX8_readsRest 1 A := C
  have hx := C.1.1
  have hb := C.1.2.1
  have hl : lv_has ls 1 [(0, .ref (z 0))] := hl
  obtain ⟨H, hH⟩ : ∃ H, H = s.heap := ⟨_, rfl⟩
  obtain ⟨locs, hlocs⟩ : ∃ q : List Loc, q = [] := ⟨_, rfl⟩
  have hP : va_P D vwCl [(z 0, .inr (8, [.ref (z 1), .int (nI L), .ref (z 2), .ref (z 3), .ref (z 4), .ref (z 5), .int (nI kn), .ref (z 6), .ref (z 7), .ref (z 8), .int (nI no), .int (nI at_), .int (nI so), .int (nI sr), .int (nI va), .ref (z 9)])), (z 1, .inl (k.1 0, 160, .inl (ta_e tx))), (z 3, .inl (k.1 0, 23, .inl (ta_e d)))] H := by rw [hH]; exact hP
  have hS : va_S A s.heap H locs := by rw [hH, hlocs]; exact hS
  rw [← hlocs]
  suffices hgoal : W p l e ({ frames := 4, cells := 0, slots := 0, locals := 120 }) s m ([.ref (z 0)] : List Value).toArray below meth c H locs 0 0 Q (F0 m 0 ls []) by rw [hH] at hgoal; exact hgoal
  clear hH hlocs
  obtain ⟨hL, hc⟩ := id hx0
  obtain ⟨⟨a1, a2, a3, a4, a5, a6⟩, pp3, pp4, pp5, pp6, pp7, pp8⟩ := id hpl
  refine lv_aload_n hx hb dX8_readsRest_0 rfl (lv_at hl 0 rfl) ?_
  refine ta_iconst C 0 dX8_readsRest_1 (by decide) ?_
  refine ta_iconst C 1 dX8_readsRest_2 (by decide) ?_
  refine ta_callVi (As := [.int (nI 0), .int (nI 1)]) (rest0 := []) (Wr := [(z 3, .inl (k.1 0, 23, .inl (ta_e d)))]) C hP hD hS (c_X8_number l D k z kn no at_ so sr va L tx 0 1 hx0 (by omega) ⟨by omega, by omega⟩) 0 rfl rfl rfl [0, 1] [2] rfl rfl (by decide) (by decide) (by decide) tw_341 tw_338 tw_5 tw_339 tw_340 ⟨by decide, by decide, rfl⟩ ⟨Nat.le_of_ble_eq_true rfl, Nat.le_of_ble_eq_true rfl⟩ ⟨Nat.zero_le _, Nat.zero_le _⟩ hl.1 rfl (Nat.le_of_ble_eq_true rfl) dX8_readsRest_3 (fun r1 u2 H locs h3 hP hD hS => ?_)
  rcases h3 with h0 | h0
  · obtain ⟨hin4, hv5, rfl⟩ := h0
    have hP : va_P D vwCl [(z 3, .inl (k.1 0, 23, .inl (ta_e d))), (z 0, .inr (8, [.ref (z 1), .int (nI L), .ref (z 2), .ref (z 3), .ref (z 4), .ref (z 5), .int (nI kn), .ref (z 6), .ref (z 7), .ref (z 8), .int (nI no), .int (nI (tn_e tx L at_)), .int (nI (mo_s tx L at_)), .int (nI (tn_s tx L at_)), .int (nI (mo_w tx L at_)), .ref (z 9)])), (z 1, .inl (k.1 0, 160, .inl (ta_e tx)))] H := hP
    have hD : va_D A [(z 3, .inl (k.1 0, 23, .inl (ta_e d))), (z 0, .inr (8, [.ref (z 1), .int (nI L), .ref (z 2), .ref (z 3), .ref (z 4), .ref (z 5), .int (nI kn), .ref (z 6), .ref (z 7), .ref (z 8), .int (nI no), .int (nI (tn_e tx L at_)), .int (nI (mo_s tx L at_)), .int (nI (tn_s tx L at_)), .int (nI (mo_w tx L at_)), .ref (z 9)])), (z 1, .inl (k.1 0, 160, .inl (ta_e tx)))] := hD
    obtain ⟨b10, b20, b30, b40⟩ := tn_b (tx := tx) (p := at_) (by omega)
    have hmw0 := mo_wb (p := at_) hx0 (by omega)
    have hcl0 := cl_in_iff.mp hin4
    refine lv_if_ne (tgt := 11) hx hb dX8_readsRest_6 (by decide) (fun c6 => ?_) (fun c6 => ?_)
    · refine lv_aload_n hx hb dX8_readsRest_11 rfl (lv_at hl 0 rfl) ?_
      refine ta_get C hP 1 inlX8 rfl rfl 3 (by decide) tw_127 rfl dX8_readsRest_12 ?_
      refine ta_iconst C 5 dX8_readsRest_15 (by decide) ?_
      refine lv_aload_n hx hb dX8_readsRest_16 rfl (lv_at hl 0 rfl) ?_
      refine ta_get C hP 1 inlX8 rfl rfl 14 (by decide) tw_315 rfl dX8_readsRest_17 ?_
      refine ta_iadd C (a := 5) (b := mo_w tx L at_) dX8_readsRest_20 ?_
      refine ta_iconst C 0 dX8_readsRest_21 (by decide) ?_
      refine ta_iast C hP hD hS 0 rfl (i := 5 + (mo_w tx L at_)) (v := 0) (by omega) dX8_readsRest_22 (fun H locs hP hD hS => ?_)
      have hP : va_P D vwCl [(z 3, .inl (k.1 0, 23, .inl (ta_e (ta_u d (5 + (mo_w tx L at_)) 0)))), (z 0, .inr (8, [.ref (z 1), .int (nI L), .ref (z 2), .ref (z 3), .ref (z 4), .ref (z 5), .int (nI kn), .ref (z 6), .ref (z 7), .ref (z 8), .int (nI no), .int (nI (tn_e tx L at_)), .int (nI (mo_s tx L at_)), .int (nI (tn_s tx L at_)), .int (nI (mo_w tx L at_)), .ref (z 9)])), (z 1, .inl (k.1 0, 160, .inl (ta_e tx)))] H := hP
      have hD : va_D A [(z 3, .inl (k.1 0, 23, .inl (ta_e (ta_u d (5 + (mo_w tx L at_)) 0)))), (z 0, .inr (8, [.ref (z 1), .int (nI L), .ref (z 2), .ref (z 3), .ref (z 4), .ref (z 5), .int (nI kn), .ref (z 6), .ref (z 7), .ref (z 8), .int (nI no), .int (nI (tn_e tx L at_)), .int (nI (mo_s tx L at_)), .int (nI (tn_s tx L at_)), .int (nI (mo_w tx L at_)), .ref (z 9)])), (z 1, .inl (k.1 0, 160, .inl (ta_e tx)))] := hD
      refine ta_iconst C 1 dX8_readsRest_23 (by decide) ?_
      have hP : va_P D vwCl [(z 0, .inr (8, [.ref (z 1), .int (nI L), .ref (z 2), .ref (z 3), .ref (z 4), .ref (z 5), .int (nI kn), .ref (z 6), .ref (z 7), .ref (z 8), .int (nI no), .int (nI (tn_e tx L at_)), .int (nI (mo_s tx L at_)), .int (nI (tn_s tx L at_)), .int (nI (mo_w tx L at_)), .ref (z 9)])), (z 1, .inl (k.1 0, 160, .inl (ta_e tx))), (z 3, .inl (k.1 0, 23, .inl (ta_e (ta_u d (5 + (mo_w tx L at_)) 0))))] H := hP.sub [1, 2, 0] rfl
      have hD : va_D A [(z 0, .inr (8, [.ref (z 1), .int (nI L), .ref (z 2), .ref (z 3), .ref (z 4), .ref (z 5), .int (nI kn), .ref (z 6), .ref (z 7), .ref (z 8), .int (nI no), .int (nI (tn_e tx L at_)), .int (nI (mo_s tx L at_)), .int (nI (tn_s tx L at_)), .int (nI (mo_w tx L at_)), .ref (z 9)])), (z 1, .inl (k.1 0, 160, .inl (ta_e tx))), (z 3, .inl (k.1 0, 23, .inl (ta_e (ta_u d (5 + (mo_w tx L at_)) 0))))] := hD.sub [1, 2, 0] (by decide) rfl
      rw [hv5] at hP hD
      have hP : va_P D vwCl [(z 0, .inr (8, [.ref (z 1), .int (nI L), .ref (z 2), .ref (z 3), .ref (z 4), .ref (z 5), .int (nI kn), .ref (z 6), .ref (z 7), .ref (z 8), .int (nI no), .int (nI (tn_e tx L at_)), .int (nI (mo_s tx L at_)), .int (nI (tn_s tx L at_)), .int (nI (tn_v tx L at_)), .ref (z 9)])), (z 1, .inl (k.1 0, 160, .inl (ta_e tx))), (z 3, .inl (k.1 0, 23, .inl (ta_e (ta_u d (5 + tn_v tx L at_) 0))))] H := hP
      have hD : va_D A [(z 0, .inr (8, [.ref (z 1), .int (nI L), .ref (z 2), .ref (z 3), .ref (z 4), .ref (z 5), .int (nI kn), .ref (z 6), .ref (z 7), .ref (z 8), .int (nI no), .int (nI (tn_e tx L at_)), .int (nI (mo_s tx L at_)), .int (nI (tn_s tx L at_)), .int (nI (tn_v tx L at_)), .ref (z 9)])), (z 1, .inl (k.1 0, 160, .inl (ta_e tx))), (z 3, .inl (k.1 0, 23, .inl (ta_e (ta_u d (5 + tn_v tx L at_) 0))))] := hD
      have eF : cl_rest tx L at_ d = (4294967295, tn_e tx L at_, ta_u d (5 + tn_v tx L at_) 0) := by unfold cl_rest; rw [cl_p hin4]
      exact ret _ (tn_e tx L at_, mo_s tx L at_, tn_s tx L at_, tn_v tx L at_, ta_u d (5 + tn_v tx L at_) 0) dX8_readsRest_24 (by decide) (Or.inl ⟨by rw [eF], rfl, by rw [eF], by rw [eF]⟩) hP hD hS
    · exact absurd c6 (by decide)
  · obtain ⟨hin7, rfl⟩ := h0
    have hP : va_P D vwCl [(z 3, .inl (k.1 0, 23, .inl (ta_e d))), (z 0, .inr (8, [.ref (z 1), .int (nI L), .ref (z 2), .ref (z 3), .ref (z 4), .ref (z 5), .int (nI kn), .ref (z 6), .ref (z 7), .ref (z 8), .int (nI no), .int (nI (tn_e tx L at_)), .int (nI (mo_s tx L at_)), .int (nI (tn_s tx L at_)), .int (nI (mo_w tx L at_)), .ref (z 9)])), (z 1, .inl (k.1 0, 160, .inl (ta_e tx)))] H := hP
    have hD : va_D A [(z 3, .inl (k.1 0, 23, .inl (ta_e d))), (z 0, .inr (8, [.ref (z 1), .int (nI L), .ref (z 2), .ref (z 3), .ref (z 4), .ref (z 5), .int (nI kn), .ref (z 6), .ref (z 7), .ref (z 8), .int (nI no), .int (nI (tn_e tx L at_)), .int (nI (mo_s tx L at_)), .int (nI (tn_s tx L at_)), .int (nI (mo_w tx L at_)), .ref (z 9)])), (z 1, .inl (k.1 0, 160, .inl (ta_e tx)))] := hD
    obtain ⟨b10, b20, b30, b40⟩ := tn_b (tx := tx) (p := at_) (by omega)
    have hmw0 := mo_wb (p := at_) hx0 (by omega)
    refine lv_if_ne (tgt := 11) hx hb dX8_readsRest_6 (by decide) (fun c8 => ?_) (fun c8 => ?_)
    · exact absurd c8 (by decide)
    · refine ta_iconst C 0 dX8_readsRest_9 (by decide) ?_
      have hP : va_P D vwCl [(z 0, .inr (8, [.ref (z 1), .int (nI L), .ref (z 2), .ref (z 3), .ref (z 4), .ref (z 5), .int (nI kn), .ref (z 6), .ref (z 7), .ref (z 8), .int (nI no), .int (nI (tn_e tx L at_)), .int (nI (mo_s tx L at_)), .int (nI (tn_s tx L at_)), .int (nI (mo_w tx L at_)), .ref (z 9)])), (z 1, .inl (k.1 0, 160, .inl (ta_e tx))), (z 3, .inl (k.1 0, 23, .inl (ta_e d)))] H := hP.sub [1, 2, 0] rfl
      have hD : va_D A [(z 0, .inr (8, [.ref (z 1), .int (nI L), .ref (z 2), .ref (z 3), .ref (z 4), .ref (z 5), .int (nI kn), .ref (z 6), .ref (z 7), .ref (z 8), .int (nI no), .int (nI (tn_e tx L at_)), .int (nI (mo_s tx L at_)), .int (nI (tn_s tx L at_)), .int (nI (mo_w tx L at_)), .ref (z 9)])), (z 1, .inl (k.1 0, 160, .inl (ta_e tx))), (z 3, .inl (k.1 0, 23, .inl (ta_e d)))] := hD.sub [1, 2, 0] (by decide) rfl
      have eF : cl_rest tx L at_ d = (tn_s tx L at_, 0, d) := by unfold cl_rest; rw [cl_n hin7]
      exact ret _ (tn_e tx L at_, mo_s tx L at_, tn_s tx L at_, mo_w tx L at_, d) dX8_readsRest_10 (by decide) (Or.inr ⟨by rw [eF]; exact Nat.ne_of_lt (show tn_s tx L at_ < 4294967295 by omega), rfl, by rw [eF]⟩) hP hD hS

set_option maxHeartbeats 4000000 in
set_option maxRecDepth 100000 in
theorem c_X8_readsFigure (l : Launch) (D : va_G) (k : ta_C) (z : Nat → Nat) (kn : Nat) (no : Nat) (at_ : Nat) (so : Nat) (sr : Nat) (va : Nat) (L : Nat) (tx : Nat → Nat) (d : Nat → Nat) (kd : Nat) (hx0 : tx_ok tx L) (hat : at_ ≤ L) (hpl : pl_ok d) (hkd : kd < 5) : ta_Mi (S := Nat × Nat × Nat × Nat × (Nat → Nat)) l D k yX8_readsFigure cX8_readsFigure 3 .boolean 4 120 [.ref (z 0), .int (nI kd)] [(z 0, .inr (8, [.ref (z 1), .int (nI L), .ref (z 2), .ref (z 3), .ref (z 4), .ref (z 5), .int (nI kn), .ref (z 6), .ref (z 7), .ref (z 8), .int (nI no), .int (nI at_), .int (nI so), .int (nI sr), .int (nI va), .ref (z 9)])), (z 1, .inl (k.1 0, 160, .inl (ta_e tx))), (z 3, .inl (k.1 0, 23, .inl (ta_e d)))] (fun r u => mo_post (cl_fig kd tx L at_ d) r u) (fun u => [(z 0, .inr (8, [.ref (z 1), .int (nI L), .ref (z 2), .ref (z 3), .ref (z 4), .ref (z 5), .int (nI kn), .ref (z 6), .ref (z 7), .ref (z 8), .int (nI no), .int (nI u.1), .int (nI u.2.1), .int (nI u.2.2.1), .int (nI u.2.2.2.1), .ref (z 9)])), (z 1, .inl (k.1 0, 160, .inl (ta_e tx))), (z 3, .inl (k.1 0, 23, .inl (ta_e u.2.2.2.2)))]) := by
  refine ta_enter_i (by decide) (Nat.le_of_ble_eq_true rfl) ?_
  intro p e s m below meth c A ls Q C ret hP hD hS hl
  have C : ta_At p l D k s m ([.ref (z 0), .int (nI kd)] : List Value).toArray c RX8 cX8_readsFigure 3 A := C
  have hx := C.1.1
  have hb := C.1.2.1
  have hl : lv_has ls 3 [(0, .ref (z 0)), (1, .int (nI kd))] := hl
  obtain ⟨H, hH⟩ : ∃ H, H = s.heap := ⟨_, rfl⟩
  obtain ⟨locs, hlocs⟩ : ∃ q : List Loc, q = [] := ⟨_, rfl⟩
  have hP : va_P D vwCl [(z 0, .inr (8, [.ref (z 1), .int (nI L), .ref (z 2), .ref (z 3), .ref (z 4), .ref (z 5), .int (nI kn), .ref (z 6), .ref (z 7), .ref (z 8), .int (nI no), .int (nI at_), .int (nI so), .int (nI sr), .int (nI va), .ref (z 9)])), (z 1, .inl (k.1 0, 160, .inl (ta_e tx))), (z 3, .inl (k.1 0, 23, .inl (ta_e d)))] H := by rw [hH]; exact hP
  have hS : va_S A s.heap H locs := by rw [hH, hlocs]; exact hS
  rw [← hlocs]
  suffices hgoal : W p l e ({ frames := 4, cells := 0, slots := 0, locals := 120 }) s m ([.ref (z 0), .int (nI kd)] : List Value).toArray below meth c H locs 0 0 Q (F0 m 0 ls []) by rw [hH] at hgoal; exact hgoal
  clear hH hlocs
  obtain ⟨hL, hc⟩ := id hx0
  obtain ⟨⟨a1, a2, a3, a4, a5, a6⟩, pp3, pp4, pp5, pp6, pp7, pp8⟩ := id hpl
  refine lv_aload_n hx hb dX8_readsFigure_0 rfl (lv_at hl 0 rfl) ?_
  refine ta_iconst C 0 dX8_readsFigure_1 (by decide) ?_
  refine ta_iconst C 1 dX8_readsFigure_2 (by decide) ?_
  refine ta_callVi (As := [.int (nI 0), .int (nI 1)]) (rest0 := []) (Wr := [(z 3, .inl (k.1 0, 23, .inl (ta_e d)))]) C hP hD hS (c_X8_number l D k z kn no at_ so sr va L tx 0 1 hx0 (by omega) ⟨by omega, by omega⟩) 0 rfl rfl rfl [0, 1] [2] rfl rfl (by decide) (by decide) (by decide) tw_341 tw_338 tw_5 tw_339 tw_340 ⟨by decide, by decide, rfl⟩ ⟨Nat.le_of_ble_eq_true rfl, Nat.le_of_ble_eq_true rfl⟩ ⟨Nat.zero_le _, Nat.zero_le _⟩ hl.1 rfl (Nat.le_of_ble_eq_true rfl) dX8_readsFigure_3 (fun r1 u2 H locs h3 hP hD hS => ?_)
  rcases h3 with h0 | h0
  · obtain ⟨hin4, hv5, rfl⟩ := h0
    have hP : va_P D vwCl [(z 3, .inl (k.1 0, 23, .inl (ta_e d))), (z 0, .inr (8, [.ref (z 1), .int (nI L), .ref (z 2), .ref (z 3), .ref (z 4), .ref (z 5), .int (nI kn), .ref (z 6), .ref (z 7), .ref (z 8), .int (nI no), .int (nI (tn_e tx L at_)), .int (nI (mo_s tx L at_)), .int (nI (tn_s tx L at_)), .int (nI (mo_w tx L at_)), .ref (z 9)])), (z 1, .inl (k.1 0, 160, .inl (ta_e tx)))] H := hP
    have hD : va_D A [(z 3, .inl (k.1 0, 23, .inl (ta_e d))), (z 0, .inr (8, [.ref (z 1), .int (nI L), .ref (z 2), .ref (z 3), .ref (z 4), .ref (z 5), .int (nI kn), .ref (z 6), .ref (z 7), .ref (z 8), .int (nI no), .int (nI (tn_e tx L at_)), .int (nI (mo_s tx L at_)), .int (nI (tn_s tx L at_)), .int (nI (mo_w tx L at_)), .ref (z 9)])), (z 1, .inl (k.1 0, 160, .inl (ta_e tx)))] := hD
    obtain ⟨b10, b20, b30, b40⟩ := tn_b (tx := tx) (p := at_) (by omega)
    have hmw0 := mo_wb (p := at_) hx0 (by omega)
    have hcl0 := cl_in_iff.mp hin4
    refine lv_if_eq (tgt := 25) hx hb dX8_readsFigure_6 (by decide) (fun c6 => ?_) (fun c6 => ?_)
    · exact absurd c6 (by decide)
    · refine lv_aload_n hx hb dX8_readsFigure_9 rfl (lv_at hl 0 rfl) ?_
      refine ta_get C hP 1 inlX8 rfl rfl 3 (by decide) tw_127 rfl dX8_readsFigure_10 ?_
      refine ta_iconst C 5 dX8_readsFigure_13 (by decide) ?_
      refine lv_aload_n hx hb dX8_readsFigure_14 rfl (lv_at hl 0 rfl) ?_
      refine ta_get C hP 1 inlX8 rfl rfl 14 (by decide) tw_315 rfl dX8_readsFigure_15 ?_
      refine ta_iadd C (a := 5) (b := mo_w tx L at_) dX8_readsFigure_18 ?_
      refine ta_iald C hP 0 rfl (i := 5 + (mo_w tx L at_)) (by omega) dX8_readsFigure_19 ?_
      have hd9 : d (5 + mo_w tx L at_) ≤ 8 := by
        rcases (show mo_w tx L at_ = 0 ∨ mo_w tx L at_ = 1 by omega) with h8 | h8 <;> rw [h8]
        · exact pp5
        · exact pp6
      refine ta_bipush C 8 dX8_readsFigure_20 (by decide) ?_
      refine ta_cne C (a := d (5 + (mo_w tx L at_))) (b := 8) (tgt := 27) (by omega) (by omega) dX8_readsFigure_22 (by decide) (fun c7 => ?_) (fun c7 => ?_)
      · have hd8 : d (5 + mo_w tx L at_) < 8 := by omega
        refine lv_aload_n hx hb dX8_readsFigure_27 rfl (lv_at hl 0 rfl) ?_
        refine ta_get C hP 1 inlX8 rfl rfl 14 (by decide) tw_315 rfl dX8_readsFigure_28 ?_
        refine lv_istore_n (lv' := [(2, .int (nI (mo_w tx L at_))), (0, .ref (z 0)), (1, .int (nI kd))]) hx hb dX8_readsFigure_31 rfl hl (by decide) rfl (fun ls hl => ?_)
        refine lv_aload_n hx hb dX8_readsFigure_32 rfl (lv_at hl 1 rfl) ?_
        refine ta_iconst C 1 dX8_readsFigure_33 (by decide) ?_
        refine ta_bipush C 9 dX8_readsFigure_34 (by decide) ?_
        refine ta_callVi (As := [.int (nI 1), .int (nI 9)]) (rest0 := []) (Wr := [(z 3, .inl (k.1 0, 23, .inl (ta_e d)))]) C hP hD hS (c_X8_number l D k z kn no (tn_e tx L at_) (mo_s tx L at_) (tn_s tx L at_) (mo_w tx L at_) L tx 1 9 hx0 (by omega) ⟨by omega, by omega⟩) 1 rfl rfl rfl [1, 2] [0] rfl rfl (by decide) (by decide) (by decide) tw_341 tw_338 tw_5 tw_339 tw_340 ⟨by decide, by decide, rfl⟩ ⟨Nat.le_of_ble_eq_true rfl, Nat.le_of_ble_eq_true rfl⟩ ⟨Nat.zero_le _, Nat.zero_le _⟩ hl.1 rfl (Nat.le_of_ble_eq_true rfl) dX8_readsFigure_36 (fun r8 u9 H locs h10 hP hD hS => ?_)
        rcases h10 with h0 | h0
        · obtain ⟨hin11, hv12, rfl⟩ := h0
          have hP : va_P D vwCl [(z 3, .inl (k.1 0, 23, .inl (ta_e d))), (z 0, .inr (8, [.ref (z 1), .int (nI L), .ref (z 2), .ref (z 3), .ref (z 4), .ref (z 5), .int (nI kn), .ref (z 6), .ref (z 7), .ref (z 8), .int (nI no), .int (nI (tn_e tx L (tn_e tx L at_))), .int (nI (mo_s tx L (tn_e tx L at_))), .int (nI (tn_s tx L (tn_e tx L at_))), .int (nI (mo_w tx L (tn_e tx L at_))), .ref (z 9)])), (z 1, .inl (k.1 0, 160, .inl (ta_e tx)))] H := hP
          have hD : va_D A [(z 3, .inl (k.1 0, 23, .inl (ta_e d))), (z 0, .inr (8, [.ref (z 1), .int (nI L), .ref (z 2), .ref (z 3), .ref (z 4), .ref (z 5), .int (nI kn), .ref (z 6), .ref (z 7), .ref (z 8), .int (nI no), .int (nI (tn_e tx L (tn_e tx L at_))), .int (nI (mo_s tx L (tn_e tx L at_))), .int (nI (tn_s tx L (tn_e tx L at_))), .int (nI (mo_w tx L (tn_e tx L at_))), .ref (z 9)])), (z 1, .inl (k.1 0, 160, .inl (ta_e tx)))] := hD
          obtain ⟨b11, b21, b31, b41⟩ := tn_b (tx := tx) (p := tn_e tx L at_) (by omega)
          have hmw1 := mo_wb (p := tn_e tx L at_) hx0 (by omega)
          have hcl1 := cl_in_iff.mp hin11
          refine lv_if_ne (tgt := 44) hx hb dX8_readsFigure_39 (by decide) (fun c13 => ?_) (fun c13 => ?_)
          · refine lv_aload_n hx hb dX8_readsFigure_44 rfl (lv_at hl 1 rfl) ?_
            refine ta_get C hP 1 inlX8 rfl rfl 3 (by decide) tw_127 rfl dX8_readsFigure_45 ?_
            refine ta_bipush C 7 dX8_readsFigure_48 (by decide) ?_
            refine ta_bipush C 8 dX8_readsFigure_50 (by decide) ?_
            refine lv_iload_n hx hb dX8_readsFigure_52 rfl (lv_at hl 0 rfl) ?_
            refine ta_imul C (a := 8) (b := mo_w tx L at_) dX8_readsFigure_53 ?_
            refine ta_iadd C (a := 7) (b := 8 * (mo_w tx L at_)) dX8_readsFigure_54 ?_
            refine lv_aload_n hx hb dX8_readsFigure_55 rfl (lv_at hl 1 rfl) ?_
            refine ta_get C hP 1 inlX8 rfl rfl 3 (by decide) tw_127 rfl dX8_readsFigure_56 ?_
            refine ta_iconst C 5 dX8_readsFigure_59 (by decide) ?_
            refine lv_iload_n hx hb dX8_readsFigure_60 rfl (lv_at hl 0 rfl) ?_
            refine ta_iadd C (a := 5) (b := mo_w tx L at_) dX8_readsFigure_61 ?_
            refine ta_iald C hP 0 rfl (i := 5 + (mo_w tx L at_)) (by omega) dX8_readsFigure_62 ?_
            refine ta_iadd C (a := 7 + (8 * (mo_w tx L at_))) (b := d (5 + (mo_w tx L at_))) dX8_readsFigure_63 ?_
            refine ta_bipush C 10 dX8_readsFigure_64 (by decide) ?_
            refine lv_iload_n hx hb dX8_readsFigure_66 rfl (lv_at hl 2 rfl) ?_
            refine ta_imul C (a := 10) (b := kd) dX8_readsFigure_67 ?_
            refine lv_aload_n hx hb dX8_readsFigure_68 rfl (lv_at hl 1 rfl) ?_
            refine ta_get C hP 1 inlX8 rfl rfl 14 (by decide) tw_315 rfl dX8_readsFigure_69 ?_
            refine ta_iadd C (a := 10 * kd) (b := mo_w tx L (tn_e tx L at_)) dX8_readsFigure_72 ?_
            refine ta_iast C hP hD hS 0 rfl (i := (7 + (8 * (mo_w tx L at_))) + (d (5 + (mo_w tx L at_)))) (v := (10 * kd) + (mo_w tx L (tn_e tx L at_))) (by omega) dX8_readsFigure_73 (fun H locs hP hD hS => ?_)
            have hP : va_P D vwCl [(z 3, .inl (k.1 0, 23, .inl (ta_e (ta_u d ((7 + (8 * (mo_w tx L at_))) + (d (5 + (mo_w tx L at_)))) ((10 * kd) + (mo_w tx L (tn_e tx L at_))))))), (z 0, .inr (8, [.ref (z 1), .int (nI L), .ref (z 2), .ref (z 3), .ref (z 4), .ref (z 5), .int (nI kn), .ref (z 6), .ref (z 7), .ref (z 8), .int (nI no), .int (nI (tn_e tx L (tn_e tx L at_))), .int (nI (mo_s tx L (tn_e tx L at_))), .int (nI (tn_s tx L (tn_e tx L at_))), .int (nI (mo_w tx L (tn_e tx L at_))), .ref (z 9)])), (z 1, .inl (k.1 0, 160, .inl (ta_e tx)))] H := hP
            have hD : va_D A [(z 3, .inl (k.1 0, 23, .inl (ta_e (ta_u d ((7 + (8 * (mo_w tx L at_))) + (d (5 + (mo_w tx L at_)))) ((10 * kd) + (mo_w tx L (tn_e tx L at_))))))), (z 0, .inr (8, [.ref (z 1), .int (nI L), .ref (z 2), .ref (z 3), .ref (z 4), .ref (z 5), .int (nI kn), .ref (z 6), .ref (z 7), .ref (z 8), .int (nI no), .int (nI (tn_e tx L (tn_e tx L at_))), .int (nI (mo_s tx L (tn_e tx L at_))), .int (nI (tn_s tx L (tn_e tx L at_))), .int (nI (mo_w tx L (tn_e tx L at_))), .ref (z 9)])), (z 1, .inl (k.1 0, 160, .inl (ta_e tx)))] := hD
            refine lv_aload_n hx hb dX8_readsFigure_74 rfl (lv_at hl 1 rfl) ?_
            refine ta_get C hP 1 inlX8 rfl rfl 3 (by decide) tw_127 rfl dX8_readsFigure_75 ?_
            refine ta_iconst C 5 dX8_readsFigure_78 (by decide) ?_
            refine lv_iload_n hx hb dX8_readsFigure_79 rfl (lv_at hl 0 rfl) ?_
            refine ta_iadd C (a := 5) (b := mo_w tx L at_) dX8_readsFigure_80 ?_
            refine lv_dup2_11 hx hb dX8_readsFigure_81 rfl rfl ?_
            refine ta_iald C hP 0 rfl (i := 5 + (mo_w tx L at_)) (by omega) dX8_readsFigure_82 ?_
            refine ta_iconst C 1 dX8_readsFigure_83 (by decide) ?_
            refine ta_iadd C (a := (ta_u d ((7 + (8 * (mo_w tx L at_))) + (d (5 + (mo_w tx L at_)))) ((10 * kd) + (mo_w tx L (tn_e tx L at_)))) (5 + (mo_w tx L at_))) (b := 1) dX8_readsFigure_84 ?_
            refine ta_iast C hP hD hS 0 rfl (i := 5 + (mo_w tx L at_)) (v := ((ta_u d ((7 + (8 * (mo_w tx L at_))) + (d (5 + (mo_w tx L at_)))) ((10 * kd) + (mo_w tx L (tn_e tx L at_)))) (5 + (mo_w tx L at_))) + 1) (by omega) dX8_readsFigure_85 (fun H locs hP hD hS => ?_)
            have hP : va_P D vwCl [(z 3, .inl (k.1 0, 23, .inl (ta_e (ta_u (ta_u d ((7 + (8 * (mo_w tx L at_))) + (d (5 + (mo_w tx L at_)))) ((10 * kd) + (mo_w tx L (tn_e tx L at_)))) (5 + (mo_w tx L at_)) (((ta_u d ((7 + (8 * (mo_w tx L at_))) + (d (5 + (mo_w tx L at_)))) ((10 * kd) + (mo_w tx L (tn_e tx L at_)))) (5 + (mo_w tx L at_))) + 1))))), (z 0, .inr (8, [.ref (z 1), .int (nI L), .ref (z 2), .ref (z 3), .ref (z 4), .ref (z 5), .int (nI kn), .ref (z 6), .ref (z 7), .ref (z 8), .int (nI no), .int (nI (tn_e tx L (tn_e tx L at_))), .int (nI (mo_s tx L (tn_e tx L at_))), .int (nI (tn_s tx L (tn_e tx L at_))), .int (nI (mo_w tx L (tn_e tx L at_))), .ref (z 9)])), (z 1, .inl (k.1 0, 160, .inl (ta_e tx)))] H := hP
            have hD : va_D A [(z 3, .inl (k.1 0, 23, .inl (ta_e (ta_u (ta_u d ((7 + (8 * (mo_w tx L at_))) + (d (5 + (mo_w tx L at_)))) ((10 * kd) + (mo_w tx L (tn_e tx L at_)))) (5 + (mo_w tx L at_)) (((ta_u d ((7 + (8 * (mo_w tx L at_))) + (d (5 + (mo_w tx L at_)))) ((10 * kd) + (mo_w tx L (tn_e tx L at_)))) (5 + (mo_w tx L at_))) + 1))))), (z 0, .inr (8, [.ref (z 1), .int (nI L), .ref (z 2), .ref (z 3), .ref (z 4), .ref (z 5), .int (nI kn), .ref (z 6), .ref (z 7), .ref (z 8), .int (nI no), .int (nI (tn_e tx L (tn_e tx L at_))), .int (nI (mo_s tx L (tn_e tx L at_))), .int (nI (tn_s tx L (tn_e tx L at_))), .int (nI (mo_w tx L (tn_e tx L at_))), .ref (z 9)])), (z 1, .inl (k.1 0, 160, .inl (ta_e tx)))] := hD
            refine ta_iconst C 1 dX8_readsFigure_86 (by decide) ?_
            have hlt8 : d (5 + tn_v tx L at_) < 8 := by rw [← hv5]; exact hd8
            have hP : va_P D vwCl [(z 0, .inr (8, [.ref (z 1), .int (nI L), .ref (z 2), .ref (z 3), .ref (z 4), .ref (z 5), .int (nI kn), .ref (z 6), .ref (z 7), .ref (z 8), .int (nI no), .int (nI (tn_e tx L (tn_e tx L at_))), .int (nI (mo_s tx L (tn_e tx L at_))), .int (nI (tn_s tx L (tn_e tx L at_))), .int (nI (mo_w tx L (tn_e tx L at_))), .ref (z 9)])), (z 1, .inl (k.1 0, 160, .inl (ta_e tx))), (z 3, .inl (k.1 0, 23, .inl (ta_e (ta_u (ta_u d ((7 + (8 * (mo_w tx L at_))) + (d (5 + (mo_w tx L at_)))) ((10 * kd) + (mo_w tx L (tn_e tx L at_)))) (5 + (mo_w tx L at_)) (((ta_u d ((7 + (8 * (mo_w tx L at_))) + (d (5 + (mo_w tx L at_)))) ((10 * kd) + (mo_w tx L (tn_e tx L at_)))) (5 + (mo_w tx L at_))) + 1)))))] H := hP.sub [1, 2, 0] rfl
            have hD : va_D A [(z 0, .inr (8, [.ref (z 1), .int (nI L), .ref (z 2), .ref (z 3), .ref (z 4), .ref (z 5), .int (nI kn), .ref (z 6), .ref (z 7), .ref (z 8), .int (nI no), .int (nI (tn_e tx L (tn_e tx L at_))), .int (nI (mo_s tx L (tn_e tx L at_))), .int (nI (tn_s tx L (tn_e tx L at_))), .int (nI (mo_w tx L (tn_e tx L at_))), .ref (z 9)])), (z 1, .inl (k.1 0, 160, .inl (ta_e tx))), (z 3, .inl (k.1 0, 23, .inl (ta_e (ta_u (ta_u d ((7 + (8 * (mo_w tx L at_))) + (d (5 + (mo_w tx L at_)))) ((10 * kd) + (mo_w tx L (tn_e tx L at_)))) (5 + (mo_w tx L at_)) (((ta_u d ((7 + (8 * (mo_w tx L at_))) + (d (5 + (mo_w tx L at_)))) ((10 * kd) + (mo_w tx L (tn_e tx L at_)))) (5 + (mo_w tx L at_))) + 1)))))] := hD.sub [1, 2, 0] (by decide) rfl
            have ed : ta_u (ta_u d ((7 + (8 * (mo_w tx L at_))) + (d (5 + (mo_w tx L at_)))) ((10 * kd) + (mo_w tx L (tn_e tx L at_)))) (5 + (mo_w tx L at_)) (((ta_u d ((7 + (8 * (mo_w tx L at_))) + (d (5 + (mo_w tx L at_)))) ((10 * kd) + (mo_w tx L (tn_e tx L at_)))) (5 + (mo_w tx L at_))) + 1) = cl_put d (mo_w tx L at_) (10 * kd + mo_w tx L (tn_e tx L at_)) := by unfold cl_put; rw [ta_un (k := 7 + 8 * mo_w tx L at_ + d (5 + mo_w tx L at_)) (j := 5 + mo_w tx L at_) (by omega)]
            rw [ed, hv5, hv12] at hP hD
            have hP : va_P D vwCl [(z 0, .inr (8, [.ref (z 1), .int (nI L), .ref (z 2), .ref (z 3), .ref (z 4), .ref (z 5), .int (nI kn), .ref (z 6), .ref (z 7), .ref (z 8), .int (nI no), .int (nI (tn_e tx L (tn_e tx L at_))), .int (nI (mo_s tx L (tn_e tx L at_))), .int (nI (tn_s tx L (tn_e tx L at_))), .int (nI (tn_v tx L (tn_e tx L at_))), .ref (z 9)])), (z 1, .inl (k.1 0, 160, .inl (ta_e tx))), (z 3, .inl (k.1 0, 23, .inl (ta_e (cl_put d (tn_v tx L at_) (10 * kd + tn_v tx L (tn_e tx L at_))))))] H := hP
            have hD : va_D A [(z 0, .inr (8, [.ref (z 1), .int (nI L), .ref (z 2), .ref (z 3), .ref (z 4), .ref (z 5), .int (nI kn), .ref (z 6), .ref (z 7), .ref (z 8), .int (nI no), .int (nI (tn_e tx L (tn_e tx L at_))), .int (nI (mo_s tx L (tn_e tx L at_))), .int (nI (tn_s tx L (tn_e tx L at_))), .int (nI (tn_v tx L (tn_e tx L at_))), .ref (z 9)])), (z 1, .inl (k.1 0, 160, .inl (ta_e tx))), (z 3, .inl (k.1 0, 23, .inl (ta_e (cl_put d (tn_v tx L at_) (10 * kd + tn_v tx L (tn_e tx L at_))))))] := hD
            have eF : cl_fig kd tx L at_ d = (4294967295, tn_e tx L (tn_e tx L at_), cl_put d (tn_v tx L at_) (10 * kd + tn_v tx L (tn_e tx L at_))) := by unfold cl_fig; rw [cl_p ⟨hin4, hlt8⟩, cl_p hin11]
            exact ret _ (tn_e tx L (tn_e tx L at_), mo_s tx L (tn_e tx L at_), tn_s tx L (tn_e tx L at_), tn_v tx L (tn_e tx L at_), cl_put d (tn_v tx L at_) (10 * kd + tn_v tx L (tn_e tx L at_))) dX8_readsFigure_87 (by decide) (Or.inl ⟨by rw [eF], rfl, by rw [eF], by rw [eF]⟩) hP hD hS
          · exact absurd c13 (by decide)
        · obtain ⟨hin14, rfl⟩ := h0
          have hP : va_P D vwCl [(z 3, .inl (k.1 0, 23, .inl (ta_e d))), (z 0, .inr (8, [.ref (z 1), .int (nI L), .ref (z 2), .ref (z 3), .ref (z 4), .ref (z 5), .int (nI kn), .ref (z 6), .ref (z 7), .ref (z 8), .int (nI no), .int (nI (tn_e tx L (tn_e tx L at_))), .int (nI (mo_s tx L (tn_e tx L at_))), .int (nI (tn_s tx L (tn_e tx L at_))), .int (nI (mo_w tx L (tn_e tx L at_))), .ref (z 9)])), (z 1, .inl (k.1 0, 160, .inl (ta_e tx)))] H := hP
          have hD : va_D A [(z 3, .inl (k.1 0, 23, .inl (ta_e d))), (z 0, .inr (8, [.ref (z 1), .int (nI L), .ref (z 2), .ref (z 3), .ref (z 4), .ref (z 5), .int (nI kn), .ref (z 6), .ref (z 7), .ref (z 8), .int (nI no), .int (nI (tn_e tx L (tn_e tx L at_))), .int (nI (mo_s tx L (tn_e tx L at_))), .int (nI (tn_s tx L (tn_e tx L at_))), .int (nI (mo_w tx L (tn_e tx L at_))), .ref (z 9)])), (z 1, .inl (k.1 0, 160, .inl (ta_e tx)))] := hD
          obtain ⟨b11, b21, b31, b41⟩ := tn_b (tx := tx) (p := tn_e tx L at_) (by omega)
          have hmw1 := mo_wb (p := tn_e tx L at_) hx0 (by omega)
          refine lv_if_ne (tgt := 44) hx hb dX8_readsFigure_39 (by decide) (fun c15 => ?_) (fun c15 => ?_)
          · exact absurd c15 (by decide)
          · refine ta_iconst C 0 dX8_readsFigure_42 (by decide) ?_
            have hlt8 : d (5 + tn_v tx L at_) < 8 := by rw [← hv5]; exact hd8
            have hP : va_P D vwCl [(z 0, .inr (8, [.ref (z 1), .int (nI L), .ref (z 2), .ref (z 3), .ref (z 4), .ref (z 5), .int (nI kn), .ref (z 6), .ref (z 7), .ref (z 8), .int (nI no), .int (nI (tn_e tx L (tn_e tx L at_))), .int (nI (mo_s tx L (tn_e tx L at_))), .int (nI (tn_s tx L (tn_e tx L at_))), .int (nI (mo_w tx L (tn_e tx L at_))), .ref (z 9)])), (z 1, .inl (k.1 0, 160, .inl (ta_e tx))), (z 3, .inl (k.1 0, 23, .inl (ta_e d)))] H := hP.sub [1, 2, 0] rfl
            have hD : va_D A [(z 0, .inr (8, [.ref (z 1), .int (nI L), .ref (z 2), .ref (z 3), .ref (z 4), .ref (z 5), .int (nI kn), .ref (z 6), .ref (z 7), .ref (z 8), .int (nI no), .int (nI (tn_e tx L (tn_e tx L at_))), .int (nI (mo_s tx L (tn_e tx L at_))), .int (nI (tn_s tx L (tn_e tx L at_))), .int (nI (mo_w tx L (tn_e tx L at_))), .ref (z 9)])), (z 1, .inl (k.1 0, 160, .inl (ta_e tx))), (z 3, .inl (k.1 0, 23, .inl (ta_e d)))] := hD.sub [1, 2, 0] (by decide) rfl
            have eF : cl_fig kd tx L at_ d = (tn_s tx L (tn_e tx L at_), 0, d) := by unfold cl_fig; rw [cl_p ⟨hin4, hlt8⟩, cl_n hin14]
            exact ret _ (tn_e tx L (tn_e tx L at_), mo_s tx L (tn_e tx L at_), tn_s tx L (tn_e tx L at_), mo_w tx L (tn_e tx L at_), d) dX8_readsFigure_43 (by decide) (Or.inr ⟨by rw [eF]; exact Nat.ne_of_lt (show tn_s tx L (tn_e tx L at_) < 4294967295 by omega), rfl, by rw [eF]⟩) hP hD hS
      · refine ta_iconst C 0 dX8_readsFigure_25 (by decide) ?_
        have hP : va_P D vwCl [(z 0, .inr (8, [.ref (z 1), .int (nI L), .ref (z 2), .ref (z 3), .ref (z 4), .ref (z 5), .int (nI kn), .ref (z 6), .ref (z 7), .ref (z 8), .int (nI no), .int (nI (tn_e tx L at_)), .int (nI (mo_s tx L at_)), .int (nI (tn_s tx L at_)), .int (nI (mo_w tx L at_)), .ref (z 9)])), (z 1, .inl (k.1 0, 160, .inl (ta_e tx))), (z 3, .inl (k.1 0, 23, .inl (ta_e d)))] H := hP.sub [1, 2, 0] rfl
        have hD : va_D A [(z 0, .inr (8, [.ref (z 1), .int (nI L), .ref (z 2), .ref (z 3), .ref (z 4), .ref (z 5), .int (nI kn), .ref (z 6), .ref (z 7), .ref (z 8), .int (nI no), .int (nI (tn_e tx L at_)), .int (nI (mo_s tx L at_)), .int (nI (tn_s tx L at_)), .int (nI (mo_w tx L at_)), .ref (z 9)])), (z 1, .inl (k.1 0, 160, .inl (ta_e tx))), (z 3, .inl (k.1 0, 23, .inl (ta_e d)))] := hD.sub [1, 2, 0] (by decide) rfl
        have eF : cl_fig kd tx L at_ d = (tn_s tx L at_, 0, d) := by unfold cl_fig; rw [cl_n (fun h => by have h9 := h.2; rw [← hv5] at h9; omega)]
        exact ret _ (tn_e tx L at_, mo_s tx L at_, tn_s tx L at_, mo_w tx L at_, d) dX8_readsFigure_26 (by decide) (Or.inr ⟨by rw [eF]; exact Nat.ne_of_lt (show tn_s tx L at_ < 4294967295 by omega), rfl, by rw [eF]⟩) hP hD hS
  · obtain ⟨hin16, rfl⟩ := h0
    have hP : va_P D vwCl [(z 3, .inl (k.1 0, 23, .inl (ta_e d))), (z 0, .inr (8, [.ref (z 1), .int (nI L), .ref (z 2), .ref (z 3), .ref (z 4), .ref (z 5), .int (nI kn), .ref (z 6), .ref (z 7), .ref (z 8), .int (nI no), .int (nI (tn_e tx L at_)), .int (nI (mo_s tx L at_)), .int (nI (tn_s tx L at_)), .int (nI (mo_w tx L at_)), .ref (z 9)])), (z 1, .inl (k.1 0, 160, .inl (ta_e tx)))] H := hP
    have hD : va_D A [(z 3, .inl (k.1 0, 23, .inl (ta_e d))), (z 0, .inr (8, [.ref (z 1), .int (nI L), .ref (z 2), .ref (z 3), .ref (z 4), .ref (z 5), .int (nI kn), .ref (z 6), .ref (z 7), .ref (z 8), .int (nI no), .int (nI (tn_e tx L at_)), .int (nI (mo_s tx L at_)), .int (nI (tn_s tx L at_)), .int (nI (mo_w tx L at_)), .ref (z 9)])), (z 1, .inl (k.1 0, 160, .inl (ta_e tx)))] := hD
    obtain ⟨b10, b20, b30, b40⟩ := tn_b (tx := tx) (p := at_) (by omega)
    have hmw0 := mo_wb (p := at_) hx0 (by omega)
    refine lv_if_eq (tgt := 25) hx hb dX8_readsFigure_6 (by decide) (fun c17 => ?_) (fun c17 => ?_)
    · refine ta_iconst C 0 dX8_readsFigure_25 (by decide) ?_
      have hP : va_P D vwCl [(z 0, .inr (8, [.ref (z 1), .int (nI L), .ref (z 2), .ref (z 3), .ref (z 4), .ref (z 5), .int (nI kn), .ref (z 6), .ref (z 7), .ref (z 8), .int (nI no), .int (nI (tn_e tx L at_)), .int (nI (mo_s tx L at_)), .int (nI (tn_s tx L at_)), .int (nI (mo_w tx L at_)), .ref (z 9)])), (z 1, .inl (k.1 0, 160, .inl (ta_e tx))), (z 3, .inl (k.1 0, 23, .inl (ta_e d)))] H := hP.sub [1, 2, 0] rfl
      have hD : va_D A [(z 0, .inr (8, [.ref (z 1), .int (nI L), .ref (z 2), .ref (z 3), .ref (z 4), .ref (z 5), .int (nI kn), .ref (z 6), .ref (z 7), .ref (z 8), .int (nI no), .int (nI (tn_e tx L at_)), .int (nI (mo_s tx L at_)), .int (nI (tn_s tx L at_)), .int (nI (mo_w tx L at_)), .ref (z 9)])), (z 1, .inl (k.1 0, 160, .inl (ta_e tx))), (z 3, .inl (k.1 0, 23, .inl (ta_e d)))] := hD.sub [1, 2, 0] (by decide) rfl
      have eF : cl_fig kd tx L at_ d = (tn_s tx L at_, 0, d) := by unfold cl_fig; rw [cl_n (fun h => hin16 h.1)]
      exact ret _ (tn_e tx L at_, mo_s tx L at_, tn_s tx L at_, mo_w tx L at_, d) dX8_readsFigure_26 (by decide) (Or.inr ⟨by rw [eF]; exact Nat.ne_of_lt (show tn_s tx L at_ < 4294967295 by omega), rfl, by rw [eF]⟩) hP hD hS
    · exact absurd c17 (by decide)
