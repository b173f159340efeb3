def sp_undo (n : Nat) : Nat := if n = 0 then 4294967292 else n - 1
set_option maxHeartbeats 4000000 in
set_option maxRecDepth 100000 in
theorem c_X8_pass (l : Launch) (D : va_G) (k : ta_C) (z : Nat → Nat) (ty : Nat) (kn : Nat) (no : Nat) (at_ : Nat) (so : Nat) (sr : Nat) (va : Nat) (t : Nat → Nat) (g : Nat → Nat) (pa : Nat → Nat) (n : Nat) (hok : tg_ok t g) (hh0 : g 0 < 1073741824) (hkn : kn ≤ 8) (hh1 : g 0 < 1000000) (wn : n < 4294967296) : ta_Mi (S := Unit) l D k yX8_pass cX8_pass 3 .int 3 100 [.ref (z 0), .int (nI n)] [(z 0, .inr (8, [.ref (z 1), .int (nI ty), .ref (z 2), .ref (z 3), .ref (z 4), .ref (z 5), .int (nI kn), .ref (z 6), .ref (z 7), .ref (z 8), .int (nI no), .int (nI at_), .int (nI so), .int (nI sr), .int (nI va), .ref (z 9)])), (z 2, .inl (k.1 0, 23, .inl (ta_e t))), (z 4, .inl (k.1 0, 66, .inl (ta_e g))), (z 5, .inl (k.1 0, 528, .inl (ta_e pa)))] (fun r _ => r = nI (sp_pass t g n)) (fun u => [(z 0, .inr (8, [.ref (z 1), .int (nI ty), .ref (z 2), .ref (z 3), .ref (z 4), .ref (z 5), .int (nI (cl_if (sp_pass_c g n) (sp_n kn) (kn))), .ref (z 6), .ref (z 7), .ref (z 8), .int (nI no), .int (nI at_), .int (nI so), .int (nI sr), .int (nI va), .ref (z 9)])), (z 2, .inl (k.1 0, 23, .inl (ta_e t))), (z 4, .inl (k.1 0, 66, .inl (ta_e (cl_if (sp_pass_c g n) (tg_it t g n) (g))))), (z 5, .inl (k.1 0, 528, .inl (ta_e (cl_if (sp_pass_c g n) (mo_pa kn pa g) (pa)))))]) := by
  refine ta_enter_i (by decide) (Nat.le_of_ble_eq_true rfl) ?_
  intro p e s m below meth c A ls Q C ret hP hD hS hl
  have C : ta_At p l D k s m ([.ref (z 0), .int (nI n)] : List Value).toArray c RX8 cX8_pass 3 A := C
  have hx := C.1.1
  have hb := C.1.2.1
  have hl : lv_has ls 3 [(0, .ref (z 0)), (1, .int (nI n))] := hl
  obtain ⟨H, hH⟩ : ∃ H, H = s.heap := ⟨_, rfl⟩
  obtain ⟨locs, hlocs⟩ : ∃ q : List Loc, q = [] := ⟨_, rfl⟩
  have hP : va_P D vwCl [(z 0, .inr (8, [.ref (z 1), .int (nI ty), .ref (z 2), .ref (z 3), .ref (z 4), .ref (z 5), .int (nI kn), .ref (z 6), .ref (z 7), .ref (z 8), .int (nI no), .int (nI at_), .int (nI so), .int (nI sr), .int (nI va), .ref (z 9)])), (z 2, .inl (k.1 0, 23, .inl (ta_e t))), (z 4, .inl (k.1 0, 66, .inl (ta_e g))), (z 5, .inl (k.1 0, 528, .inl (ta_e pa)))] H := by rw [hH]; exact hP
  have hS : va_S A s.heap H locs := by rw [hH, hlocs]; exact hS
  rw [← hlocs]
  suffices hgoal : W p l e ({ frames := 3, cells := 0, slots := 0, locals := 100 }) s m ([.ref (z 0), .int (nI n)] : List Value).toArray below meth c H locs 0 0 Q (F0 m 0 ls []) by rw [hH] at hgoal; exact hgoal
  clear hH hlocs
  refine lv_iload_n hx hb dX8_pass_0 rfl (lv_at hl 1 rfl) ?_
  refine ta_iconst C 1 dX8_pass_1 (by decide) ?_
  refine ta_bipush C 60 dX8_pass_2 (by decide) ?_
  refine ta_callSi (As := [.int (nI n), .int (nI 1), .int (nI 60)]) (rest0 := []) (Wr := [(z 0, .inr (8, [.ref (z 1), .int (nI ty), .ref (z 2), .ref (z 3), .ref (z 4), .ref (z 5), .int (nI kn), .ref (z 6), .ref (z 7), .ref (z 8), .int (nI no), .int (nI at_), .int (nI so), .int (nI sr), .int (nI va), .ref (z 9)])), (z 2, .inl (k.1 0, 23, .inl (ta_e t))), (z 4, .inl (k.1 0, 66, .inl (ta_e g))), (z 5, .inl (k.1 0, 528, .inl (ta_e pa)))]) C hP hD hS (c_X8_in_w l D k n 1 60 (by omega) (by omega) (by omega)) [] [0, 1, 2, 3] rfl rfl (by decide) (by decide) (by decide) tw_159 tw_157 tw_5 tw_158 ⟨by decide, by decide, rfl⟩ ⟨Nat.le_of_ble_eq_true rfl, Nat.le_of_ble_eq_true rfl⟩ ⟨Nat.zero_le _, Nat.zero_le _⟩ hl.1 rfl (Nat.le_of_ble_eq_true rfl) dX8_pass_4 (fun r1 u2 H locs h3 hP hD hS => ?_)
  rcases h3 with h0 | h0
  · obtain ⟨hi4, rfl⟩ := h0
    have hP : va_P D vwCl [(z 0, .inr (8, [.ref (z 1), .int (nI ty), .ref (z 2), .ref (z 3), .ref (z 4), .ref (z 5), .int (nI kn), .ref (z 6), .ref (z 7), .ref (z 8), .int (nI no), .int (nI at_), .int (nI so), .int (nI sr), .int (nI va), .ref (z 9)])), (z 2, .inl (k.1 0, 23, .inl (ta_e t))), (z 4, .inl (k.1 0, 66, .inl (ta_e g))), (z 5, .inl (k.1 0, 528, .inl (ta_e pa)))] H := hP
    have hD : va_D A [(z 0, .inr (8, [.ref (z 1), .int (nI ty), .ref (z 2), .ref (z 3), .ref (z 4), .ref (z 5), .int (nI kn), .ref (z 6), .ref (z 7), .ref (z 8), .int (nI no), .int (nI at_), .int (nI so), .int (nI sr), .int (nI va), .ref (z 9)])), (z 2, .inl (k.1 0, 23, .inl (ta_e t))), (z 4, .inl (k.1 0, 66, .inl (ta_e g))), (z 5, .inl (k.1 0, 528, .inl (ta_e pa)))] := hD
    refine lv_if_ne (tgt := 13) hx hb dX8_pass_7 (by decide) (fun c5 => ?_) (fun c5 => ?_)
    · refine lv_aload_n hx hb dX8_pass_13 rfl (lv_at hl 0 rfl) ?_
      refine ta_get C hP 0 inlX8 rfl rfl 4 (by decide) tw_128 rfl dX8_pass_14 ?_
      refine ta_iconst C 0 dX8_pass_17 (by decide) ?_
      refine ta_iald C hP 2 rfl (i := 0) (by omega) dX8_pass_18 ?_
      refine ta_sipush C 999 dX8_pass_19 (by decide) ?_
      refine ta_cle C (a := g 0) (b := 999) (tgt := 28) (by omega) (by omega) dX8_pass_22 (by decide) (fun c6 => ?_) (fun c6 => ?_)
      · refine lv_aload_n hx hb dX8_pass_28 rfl (lv_at hl 0 rfl) ?_
        refine ta_callVv (As := []) (rest0 := []) (Wr := [(z 2, .inl (k.1 0, 23, .inl (ta_e t)))]) C hP hD hS (c_X8_keepsA l D k z ty kn no at_ so sr va g pa (by omega)) 0 rfl rfl rfl [0, 2, 3] [1] rfl rfl (by decide) (by decide) (by decide) tw_477 tw_474 tw_5 tw_475 tw_476 ⟨by decide, by decide, rfl⟩ ⟨Nat.le_of_ble_eq_true rfl, Nat.le_of_ble_eq_true rfl⟩ ⟨Nat.zero_le _, Nat.zero_le _⟩ hl.1 rfl (Nat.le_of_ble_eq_true rfl) dX8_pass_29 (fun u8 H locs h9 hP hD hS => ?_)
        have hP : va_P D vwCl [(z 2, .inl (k.1 0, 23, .inl (ta_e t))), (z 0, .inr (8, [.ref (z 1), .int (nI ty), .ref (z 2), .ref (z 3), .ref (z 4), .ref (z 5), .int (nI (sp_n kn)), .ref (z 6), .ref (z 7), .ref (z 8), .int (nI no), .int (nI at_), .int (nI so), .int (nI sr), .int (nI va), .ref (z 9)])), (z 4, .inl (k.1 0, 66, .inl (ta_e g))), (z 5, .inl (k.1 0, 528, .inl (ta_e (mo_pa kn pa g))))] H := hP
        have hD : va_D A [(z 2, .inl (k.1 0, 23, .inl (ta_e t))), (z 0, .inr (8, [.ref (z 1), .int (nI ty), .ref (z 2), .ref (z 3), .ref (z 4), .ref (z 5), .int (nI (sp_n kn)), .ref (z 6), .ref (z 7), .ref (z 8), .int (nI no), .int (nI at_), .int (nI so), .int (nI sr), .int (nI va), .ref (z 9)])), (z 4, .inl (k.1 0, 66, .inl (ta_e g))), (z 5, .inl (k.1 0, 528, .inl (ta_e (mo_pa kn pa g))))] := hD
        refine ta_iconst C 0 dX8_pass_32 (by decide) ?_
        refine lv_istore_n (lv' := [(2, .int (nI 0)), (0, .ref (z 0)), (1, .int (nI n))]) hx hb dX8_pass_33 rfl hl (by decide) rfl (fun ls hl => ?_)
        have loop_34 : ∀ (N_34 : Nat) (i : Nat), (i ≤ n) → n - i < N_34 → ∀ (H : Heap) (locs : List Loc) (ls : Array Slot), va_P D vwCl [(z 0, .inr (8, [.ref (z 1), .int (nI ty), .ref (z 2), .ref (z 3), .ref (z 4), .ref (z 5), .int (nI (sp_n kn)), .ref (z 6), .ref (z 7), .ref (z 8), .int (nI no), .int (nI at_), .int (nI so), .int (nI sr), .int (nI va), .ref (z 9)])), (z 2, .inl (k.1 0, 23, .inl (ta_e t))), (z 4, .inl (k.1 0, 66, .inl (ta_e (tg_it t g i)))), (z 5, .inl (k.1 0, 528, .inl (ta_e (mo_pa kn pa g))))] H → va_D A [(z 0, .inr (8, [.ref (z 1), .int (nI ty), .ref (z 2), .ref (z 3), .ref (z 4), .ref (z 5), .int (nI (sp_n kn)), .ref (z 6), .ref (z 7), .ref (z 8), .int (nI no), .int (nI at_), .int (nI so), .int (nI sr), .int (nI va), .ref (z 9)])), (z 2, .inl (k.1 0, 23, .inl (ta_e t))), (z 4, .inl (k.1 0, 66, .inl (ta_e (tg_it t g i)))), (z 5, .inl (k.1 0, 528, .inl (ta_e (mo_pa kn pa g))))] → va_S A s.heap H locs → lv_has ls 3 [(2, .int (nI i)), (0, .ref (z 0)), (1, .int (nI n))] → W p l e ({ frames := 3, cells := 0, slots := 0, locals := 100 }) s m ([.ref (z 0), .int (nI n)] : List Value).toArray below meth c H locs 0 0 Q (F0 m 34 ls []) := by
          clear hP hD hS hl
          intro N_34
          induction N_34 with
          | zero =>
            intro i h1 hf_34
            exact absurd hf_34 (Nat.not_lt_zero _)
          | succ N_34 ih_34 =>
            intro i h1 hf_34 H locs ls hP hD hS hl
            refine lv_iload_n hx hb dX8_pass_34 rfl (lv_at hl 0 rfl) ?_
            refine lv_iload_n hx hb dX8_pass_35 rfl (lv_at hl 2 rfl) ?_
            refine ta_cge C (a := i) (b := n) (tgt := 50) (by omega) (by omega) dX8_pass_36 (by decide) (fun c10 => ?_) (fun c10 => ?_)
            · rw [show i = n by omega] at hP hD
              refine lv_aload_n hx hb dX8_pass_50 rfl (lv_at hl 1 rfl) ?_
              refine ta_get C hP 0 inlX8 rfl rfl 4 (by decide) tw_128 rfl dX8_pass_51 ?_
              refine ta_iconst C 2 dX8_pass_54 (by decide) ?_
              refine ta_iald C hP 2 rfl (i := 2) (by omega) dX8_pass_55 ?_
              have hcd : (sp_pass_c g n) := by unfold sp_pass_c; omega
              simp only [cl_p hcd] at ret
              have e1 : sp_pass t g n = (tg_it t g n) 2 := by unfold sp_pass; (repeat' split) <;> omega
              exact ret _ () dX8_pass_56 rfl (by rw [e1]) hP hD hS
            · refine lv_aload_n hx hb dX8_pass_39 rfl (lv_at hl 1 rfl) ?_
              refine ta_callVi (As := []) (rest0 := []) (Wr := [(z 5, .inl (k.1 0, 528, .inl (ta_e (mo_pa kn pa g))))]) C hP hD hS (c_X8_goes l D k z ty (sp_n kn) no at_ so sr va t (tg_it t g i) (tg_ok_it hok i) (by have := tg_it_0 hok i; omega)) 0 rfl rfl rfl [0, 1, 2] [3] rfl rfl (by decide) (by decide) (by decide) tw_481 tw_478 tw_5 tw_479 tw_480 ⟨by decide, by decide, rfl⟩ ⟨Nat.le_of_ble_eq_true rfl, Nat.le_of_ble_eq_true rfl⟩ ⟨Nat.zero_le _, Nat.zero_le _⟩ hl.1 rfl (Nat.le_of_ble_eq_true rfl) dX8_pass_40 (fun r11 u12 H locs h13 hP hD hS => ?_)
              obtain rfl := h13
              have hP : va_P D vwCl [(z 5, .inl (k.1 0, 528, .inl (ta_e (mo_pa kn pa g)))), (z 0, .inr (8, [.ref (z 1), .int (nI ty), .ref (z 2), .ref (z 3), .ref (z 4), .ref (z 5), .int (nI (sp_n kn)), .ref (z 6), .ref (z 7), .ref (z 8), .int (nI no), .int (nI at_), .int (nI so), .int (nI sr), .int (nI va), .ref (z 9)])), (z 2, .inl (k.1 0, 23, .inl (ta_e t))), (z 4, .inl (k.1 0, 66, .inl (ta_e (tg_go t (tg_it t g i)))))] H := hP
              have hD : va_D A [(z 5, .inl (k.1 0, 528, .inl (ta_e (mo_pa kn pa g)))), (z 0, .inr (8, [.ref (z 1), .int (nI ty), .ref (z 2), .ref (z 3), .ref (z 4), .ref (z 5), .int (nI (sp_n kn)), .ref (z 6), .ref (z 7), .ref (z 8), .int (nI no), .int (nI at_), .int (nI so), .int (nI sr), .int (nI va), .ref (z 9)])), (z 2, .inl (k.1 0, 23, .inl (ta_e t))), (z 4, .inl (k.1 0, 66, .inl (ta_e (tg_go t (tg_it t g i)))))] := hD
              refine lv_pop hx hb dX8_pass_43 rfl ?_
              refine lv_iinc (v := nI (i + 1)) (lv' := [(2, .int (nI (i + 1))), (0, .ref (z 0)), (1, .int (nI n))]) hx hb dX8_pass_44 hl (k := 0) rfl (ta_inc1 _) (by decide) rfl (fun ls hl => ?_)
              refine lv_goto (tgt := 34) hx hb dX8_pass_47 (by decide) ?_
              exact ih_34 (i + 1) (by omega) (by omega) _ _ _ (hP.sub [1, 2, 3, 0] rfl) (hD.sub [1, 2, 3, 0] (by decide) rfl) hS (lv_sub hl [0, 1, 2] rfl)
        exact loop_34 ((n - 0) + 1) 0 (by omega) (Nat.lt_succ_self _) _ _ _ (hP.sub [1, 0, 2, 3] rfl) (hD.sub [1, 0, 2, 3] (by decide) rfl) hS (lv_sub hl [0, 1, 2] rfl)
      · refine ta_bipush C 4294967291 dX8_pass_25 (by decide) ?_
        have hcd : ¬ (sp_pass_c g n) := by unfold sp_pass_c; omega
        simp only [cl_n hcd] at ret
        have e1 : sp_pass t g n = 4294967291 := by unfold sp_pass; (repeat' split) <;> omega
        exact ret _ () dX8_pass_27 rfl (by rw [e1]) hP hD hS
    · exact absurd c5 (by decide)
  · obtain ⟨hi14, rfl⟩ := h0
    have hP : va_P D vwCl [(z 0, .inr (8, [.ref (z 1), .int (nI ty), .ref (z 2), .ref (z 3), .ref (z 4), .ref (z 5), .int (nI kn), .ref (z 6), .ref (z 7), .ref (z 8), .int (nI no), .int (nI at_), .int (nI so), .int (nI sr), .int (nI va), .ref (z 9)])), (z 2, .inl (k.1 0, 23, .inl (ta_e t))), (z 4, .inl (k.1 0, 66, .inl (ta_e g))), (z 5, .inl (k.1 0, 528, .inl (ta_e pa)))] H := hP
    have hD : va_D A [(z 0, .inr (8, [.ref (z 1), .int (nI ty), .ref (z 2), .ref (z 3), .ref (z 4), .ref (z 5), .int (nI kn), .ref (z 6), .ref (z 7), .ref (z 8), .int (nI no), .int (nI at_), .int (nI so), .int (nI sr), .int (nI va), .ref (z 9)])), (z 2, .inl (k.1 0, 23, .inl (ta_e t))), (z 4, .inl (k.1 0, 66, .inl (ta_e g))), (z 5, .inl (k.1 0, 528, .inl (ta_e pa)))] := hD
    refine lv_if_ne (tgt := 13) hx hb dX8_pass_7 (by decide) (fun c15 => ?_) (fun c15 => ?_)
    · exact absurd c15 (by decide)
    · refine ta_bipush C 4294967293 dX8_pass_10 (by decide) ?_
      have hcd : ¬ (sp_pass_c g n) := by unfold sp_pass_c; omega
      simp only [cl_n hcd] at ret
      have e1 : sp_pass t g n = 4294967293 := by unfold sp_pass; (repeat' split) <;> omega
      exact ret _ () dX8_pass_12 rfl (by rw [e1]) hP hD hS
