theorem cl_read_f {tx d : Nat → Nat} {L p : Nat} (hp : p ≤ L) (h : (cl_read tx L p d).1 ≠ 4294967295) : (cl_read tx L p d).1 ≤ L := by
  have h1 := tn_b (tx := tx) hp
  have h2 := tn_b (tx := tx) h1.2.2.1
  have h3 := tn_b (tx := tx) h2.2.2.1
  have two : ∀ (c1 c2 : Prop) (r : Nat × (Nat → Nat)), (cl_if c1 (cl_if c2 ((4294967295 : Nat), r) (tn_s tx L (tn_e tx L (tn_e tx L p)), 0, d)) (tn_s tx L (tn_e tx L p), 0, d)).1 ≠ 4294967295 → (cl_if c1 (cl_if c2 ((4294967295 : Nat), r) (tn_s tx L (tn_e tx L (tn_e tx L p)), 0, d)) (tn_s tx L (tn_e tx L p), 0, d)).1 ≤ L := by
    intro c1 c2 r h
    by_cases x1 : c1
    · rw [cl_p x1] at h ⊢
      by_cases x2 : c2
      · rw [cl_p x2] at h; exact absurd rfl h
      · rw [cl_n x2]; show tn_s tx L (tn_e tx L (tn_e tx L p)) ≤ L; omega
    · rw [cl_n x1]; show tn_s tx L (tn_e tx L p) ≤ L; omega
  have one : ∀ (c1 : Prop) (r : Nat × (Nat → Nat)), (cl_if c1 ((4294967295 : Nat), r) (tn_s tx L (tn_e tx L p), 0, d)).1 ≠ 4294967295 → (cl_if c1 ((4294967295 : Nat), r) (tn_s tx L (tn_e tx L p), 0, d)).1 ≤ L := by
    intro c1 r h
    by_cases x1 : c1
    · rw [cl_p x1] at h; exact absurd rfl h
    · rw [cl_n x1]; show tn_s tx L (tn_e tx L p) ≤ L; omega
  unfold cl_read at h ⊢
  by_cases c0 : tk_is tx (tn_s tx L p) (tn_e tx L p) 0
  · rw [cl_p c0] at h ⊢; exact two _ _ _ h
  rw [cl_n c0] at h ⊢
  by_cases c1 : tk_is tx (tn_s tx L p) (tn_e tx L p) 1
  · rw [cl_p c1] at h ⊢; exact two _ _ _ h
  rw [cl_n c1] at h ⊢
  by_cases c2 : tk_is tx (tn_s tx L p) (tn_e tx L p) 2
  · rw [cl_p c2] at h ⊢; exact one _ _ h
  rw [cl_n c2] at h ⊢
  by_cases c3 : tk_is tx (tn_s tx L p) (tn_e tx L p) 3
  · rw [cl_p c3] at h ⊢; exact one _ _ h
  rw [cl_n c3] at h ⊢
  by_cases c4 : tk_is tx (tn_s tx L p) (tn_e tx L p) 4
  · rw [cl_p c4] at h ⊢; exact two _ _ _ h
  rw [cl_n c4] at h ⊢
  by_cases c5 : tk_is tx (tn_s tx L p) (tn_e tx L p) 5
  · rw [cl_p c5] at h ⊢; exact two _ _ _ h
  rw [cl_n c5] at h ⊢
  by_cases c6 : tk_is tx (tn_s tx L p) (tn_e tx L p) 6
  · rw [cl_p c6] at h ⊢; exact two _ _ _ h
  rw [cl_n c6] at h ⊢
  by_cases c7 : tk_is tx (tn_s tx L p) (tn_e tx L p) 7
  · rw [cl_p c7] at h ⊢; exact two _ _ _ h
  rw [cl_n c7] at h ⊢
  by_cases c8 : tk_is tx (tn_s tx L p) (tn_e tx L p) 8
  · rw [cl_p c8] at h ⊢; exact two _ _ _ h
  rw [cl_n c8]; show tn_s tx L p ≤ L; omega
set_option maxHeartbeats 4000000 in
set_option maxRecDepth 100000 in
theorem c_X4_readAll (l : Launch) (D : va_G) (k : ta_C) (rd : Nat) (pq : Nat → Nat) (st0 : Nat) (en : Nat) (fa : Nat) (cl : Nat) (x : Nat → Nat) (L : Nat) (tx : Nat → Nat) (t0 : Nat → Nat) (Y0 : Nat → Nat → Nat) (tq : Nat → Nat) (t : Nat → Nat) (Y : Nat → Nat → Nat) (hx0 : tx_ok tx L) (hpl : pl_ok t) (hY : pl_X t Y) : ta_Mi (S := Nat × Nat × Nat × Nat × (Nat → Nat) × (Nat → Nat → Nat)) l D k yX4_readAll cX4_readAll 4 .int 7 220 [.ref rd, .ref (tq 0)] ([(rd, .inr (4, [.ref (x 0), .ref (pq 0), .int (nI st0), .int (nI en), .int (nI fa), .int (nI cl)]))] ++ ((txW k x L tx) ++ ((plW k pq t0 Y0) ++ (plW k tq t Y)))) (fun r u => r = nI (rd_go tx L 14 0 t).1 ∧ ((rd_go tx L 14 0 t).1 = 4294967295 → u.2.2.2.1 = (rd_go tx L 14 0 t).2.1 ∧ u.2.2.2.2.1 = (rd_go tx L 14 0 t).2.2 ∧ pl_X u.2.2.2.2.1 u.2.2.2.2.2)) (fun u => ([(rd, .inr (4, [.ref (x 0), .ref (pq 0), .int (nI u.1), .int (nI u.2.1), .int (nI u.2.2.1), .int (nI u.2.2.2.1)]))] ++ ((txW k x L tx) ++ ((plW k pq u.2.2.2.2.1 u.2.2.2.2.2) ++ (plW k tq t Y))))) := by
  refine ta_enter_i (by decide) (Nat.le_of_ble_eq_true rfl) ?_
  intro p e s m below meth c A ls Q C ret hP hD hS hl
  have C : ta_At p l D k s m ([.ref rd, .ref (tq 0)] : List Value).toArray c RX4 cX4_readAll 4 A := C
  have hx := C.1.1
  have hb := C.1.2.1
  have hl : lv_has ls 4 [(0, .ref rd), (1, .ref (tq 0))] := hl
  obtain ⟨H, hH⟩ : ∃ H, H = s.heap := ⟨_, rfl⟩
  obtain ⟨locs, hlocs⟩ : ∃ q : List Loc, q = [] := ⟨_, rfl⟩
  have hP : va_P D vwCl ([(rd, .inr (4, [.ref (x 0), .ref (pq 0), .int (nI st0), .int (nI en), .int (nI fa), .int (nI cl)]))] ++ ((txW k x L tx) ++ ((plW k pq t0 Y0) ++ (plW k tq t Y)))) H := by rw [hH]; exact hP
  have hS : va_S A s.heap H locs := by rw [hH, hlocs]; exact hS
  rw [← hlocs]
  suffices hgoal : W p l e ({ frames := 7, cells := 0, slots := 0, locals := 220 }) s m ([.ref rd, .ref (tq 0)] : List Value).toArray below meth c H locs 0 0 Q (F0 m 0 ls []) by rw [hH] at hgoal; exact hgoal
  clear hH hlocs
  obtain ⟨hL, hc⟩ := id hx0
  obtain ⟨-, -, -, pp5, pp6, -, -⟩ := id hpl
  refine lv_aload_n hx hb dX4_readAll_0 rfl (lv_at hl 0 rfl) ?_
  refine ta_get C hP 0 inlX4 rfl rfl 1 (by decide) tw_69 rfl dX4_readAll_1 ?_
  refine lv_aload_n hx hb dX4_readAll_4 rfl (lv_at hl 1 rfl) ?_
  refine ta_callVv (As := [.ref (tq 0)]) (rest0 := []) (Wr := ([(rd, .inr (4, [.ref (x 0), .ref (pq 0), .int (nI st0), .int (nI en), .int (nI fa), .int (nI cl)]))] ++ (txW k x L tx))) C hP hD hS (c_X3_copyFrom l D k pq t0 Y0 tq t Y pp5 pp6 hY) 3 rfl rfl rfl [3, 4, 5, 6, 7, 8, 9, 10, 11, 12, 13, 14, 15, 16, 17, 18] [0, 1, 2] rfl rfl (by decide) (by decide) (by decide) tw_179 tw_176 tw_18 tw_177 tw_178 ⟨by decide, by decide, rfl⟩ ⟨Nat.le_of_ble_eq_true rfl, Nat.le_of_ble_eq_true rfl⟩ ⟨Nat.zero_le _, Nat.zero_le _⟩ hl.1 rfl (Nat.le_of_ble_eq_true rfl) dX4_readAll_5 (fun u2 H locs h3 hP hD hS => ?_)
  obtain ⟨u_4, hu0⟩ : ∃ z, z = u2 := ⟨_, rfl⟩
  subst hu0
  have hY5 := h3
  have hP : va_P D vwCl ([(rd, .inr (4, [.ref (x 0), .ref (pq 0), .int (nI st0), .int (nI en), .int (nI fa), .int (nI cl)]))] ++ ((txW k x L tx) ++ ((plW k pq t u_4) ++ (plW k tq t Y)))) H := hP
  have hD : va_D A ([(rd, .inr (4, [.ref (x 0), .ref (pq 0), .int (nI st0), .int (nI en), .int (nI fa), .int (nI cl)]))] ++ ((txW k x L tx) ++ ((plW k pq t u_4) ++ (plW k tq t Y)))) := hD
  refine lv_aload_n hx hb dX4_readAll_8 rfl (lv_at hl 0 rfl) ?_
  refine ta_iconst C 0 dX4_readAll_9 (by decide) ?_
  refine ta_put C hP hD hS 0 inlX4 tyX4 tyX4_ok nmX4 rfl rfl 3 (by decide) tw_71 rfl rfl rfl (Nat.le_of_ble_eq_true rfl) dX4_readAll_10 (fun H locs hP hD hS => ?_)
  have hP : va_P D vwCl ([(rd, .inr (4, [.ref (x 0), .ref (pq 0), .int (nI st0), .int (nI 0), .int (nI fa), .int (nI cl)]))] ++ ((txW k x L tx) ++ ((plW k pq t u_4) ++ (plW k tq t Y)))) H := hP
  have hD : va_D A ([(rd, .inr (4, [.ref (x 0), .ref (pq 0), .int (nI st0), .int (nI 0), .int (nI fa), .int (nI cl)]))] ++ ((txW k x L tx) ++ ((plW k pq t u_4) ++ (plW k tq t Y)))) := hD
  refine lv_aload_n hx hb dX4_readAll_13 rfl (lv_at hl 0 rfl) ?_
  refine ta_iconst C 4294967295 dX4_readAll_14 (by decide) ?_
  refine ta_put C hP hD hS 0 inlX4 tyX4 tyX4_ok nmX4 rfl rfl 4 (by decide) tw_72 rfl rfl rfl (Nat.le_of_ble_eq_true rfl) dX4_readAll_15 (fun H locs hP hD hS => ?_)
  have hP : va_P D vwCl ([(rd, .inr (4, [.ref (x 0), .ref (pq 0), .int (nI st0), .int (nI 0), .int (nI 4294967295), .int (nI cl)]))] ++ ((txW k x L tx) ++ ((plW k pq t u_4) ++ (plW k tq t Y)))) H := hP
  have hD : va_D A ([(rd, .inr (4, [.ref (x 0), .ref (pq 0), .int (nI st0), .int (nI 0), .int (nI 4294967295), .int (nI cl)]))] ++ ((txW k x L tx) ++ ((plW k pq t u_4) ++ (plW k tq t Y)))) := hD
  refine lv_aload_n hx hb dX4_readAll_18 rfl (lv_at hl 0 rfl) ?_
  refine ta_iconst C 0 dX4_readAll_19 (by decide) ?_
  refine ta_put C hP hD hS 0 inlX4 tyX4 tyX4_ok nmX4 rfl rfl 5 (by decide) tw_73 rfl rfl rfl (Nat.le_of_ble_eq_true rfl) dX4_readAll_20 (fun H locs hP hD hS => ?_)
  have hP : va_P D vwCl ([(rd, .inr (4, [.ref (x 0), .ref (pq 0), .int (nI st0), .int (nI 0), .int (nI 4294967295), .int (nI 0)]))] ++ ((txW k x L tx) ++ ((plW k pq t u_4) ++ (plW k tq t Y)))) H := hP
  have hD : va_D A ([(rd, .inr (4, [.ref (x 0), .ref (pq 0), .int (nI st0), .int (nI 0), .int (nI 4294967295), .int (nI 0)]))] ++ ((txW k x L tx) ++ ((plW k pq t u_4) ++ (plW k tq t Y)))) := hD
  refine ta_iconst C 1 dX4_readAll_23 (by decide) ?_
  refine lv_istore_n (lv' := [(2, .int (nI 1)), (0, .ref rd), (1, .ref (tq 0))]) hx hb dX4_readAll_24 rfl hl (by decide) rfl (fun ls hl => ?_)
  refine ta_iconst C 0 dX4_readAll_25 (by decide) ?_
  refine lv_istore_n (lv' := [(3, .int (nI 0)), (2, .int (nI 1)), (0, .ref rd), (1, .ref (tq 0))]) hx hb dX4_readAll_26 rfl hl (by decide) rfl (fun ls hl => ?_)
  have loop_27 : ∀ (N_27 : Nat) (i : Nat) (s1 : Nat) (p1 : Nat) (d1 : Nat → Nat) (Y1 : Nat → Nat → Nat), (i ≤ 13) → (p1 ≤ L) → (pl_ok d1) → (pl_X d1 Y1) → (rd_go tx L (14 - i) p1 d1 = rd_go tx L 14 0 t) → 14 - i < N_27 → ∀ (H : Heap) (locs : List Loc) (ls : Array Slot), va_P D vwCl ([(rd, .inr (4, [.ref (x 0), .ref (pq 0), .int (nI s1), .int (nI p1), .int (nI 4294967295), .int (nI i)]))] ++ ((txW k x L tx) ++ ((plW k pq d1 Y1) ++ (plW k tq t Y)))) H → va_D A ([(rd, .inr (4, [.ref (x 0), .ref (pq 0), .int (nI s1), .int (nI p1), .int (nI 4294967295), .int (nI i)]))] ++ ((txW k x L tx) ++ ((plW k pq d1 Y1) ++ (plW k tq t Y)))) → va_S A s.heap H locs → lv_has ls 4 [(3, .int (nI i)), (2, .int (nI 1)), (0, .ref rd), (1, .ref (tq 0))] → W p l e ({ frames := 7, cells := 0, slots := 0, locals := 220 }) s m ([.ref rd, .ref (tq 0)] : List Value).toArray below meth c H locs 0 0 Q (F0 m 27 ls []) := by
    clear hP hD hS hl
    intro N_27
    induction N_27 with
    | zero =>
      intro i s1 p1 d1 Y1 h1 hp1 hd1 hY1 hF hf_27
      exact absurd hf_27 (Nat.not_lt_zero _)
    | succ N_27 ih_27 =>
      intro i s1 p1 d1 Y1 h1 hp1 hd1 hY1 hF hf_27 H locs ls hP hD hS hl
      refine lv_iload_n hx hb dX4_readAll_27 rfl (lv_at hl 0 rfl) ?_
      refine ta_bipush C 14 dX4_readAll_28 (by decide) ?_
      refine ta_cge C (a := i) (b := 14) (tgt := 78) (by omega) (by omega) dX4_readAll_30 (by decide) (fun c6 => ?_) (fun c6 => ?_)
      · exfalso; omega
      · refine lv_iload_n hx hb dX4_readAll_33 rfl (lv_at hl 1 rfl) ?_
        refine lv_if_eq (tgt := 78) hx hb dX4_readAll_34 (by decide) (fun c7 => ?_) (fun c7 => ?_)
        · exact absurd c7 (by decide)
        · refine lv_aload_n hx hb dX4_readAll_37 rfl (lv_at hl 2 rfl) ?_
          refine ta_callVv (As := []) (rest0 := []) (Wr := (plW k tq t Y)) C hP hD hS (c_X4_readClause l D k rd pq s1 p1 i x L tx d1 Y1 hx0 hp1 hd1 hY1) 0 rfl rfl rfl [0, 1, 2, 3, 4, 5, 6, 7, 8, 9, 10] [11, 12, 13, 14, 15, 16, 17, 18] rfl rfl (by decide) (by decide) (by decide) tw_184 tw_181 tw_22 tw_182 tw_183 ⟨by decide, by decide, rfl⟩ ⟨Nat.le_of_ble_eq_true rfl, Nat.le_of_ble_eq_true rfl⟩ ⟨Nat.zero_le _, Nat.zero_le _⟩ hl.1 rfl (Nat.le_of_ble_eq_true rfl) dX4_readAll_38 (fun u9 H locs h10 hP hD hS => ?_)
          rcases h10 with h0 | h0
          · obtain ⟨us_11, ue_12, uf_13, ud_14, uY_15⟩ := u9
            try dsimp only at h0
            obtain ⟨hF16, rfl, rfl, rfl, hY17⟩ := h0
            have hP : va_P D vwCl ((plW k tq t Y) ++ ([(rd, .inr (4, [.ref (x 0), .ref (pq 0), .int (nI us_11), .int (nI ((cl_read tx L p1 d1).2.1)), .int (nI 4294967295), .int (nI i)]))] ++ ((txW k x L tx) ++ (plW k pq ((cl_read tx L p1 d1).2.2) uY_15)))) H := hP
            have hD : va_D A ((plW k tq t Y) ++ ([(rd, .inr (4, [.ref (x 0), .ref (pq 0), .int (nI us_11), .int (nI ((cl_read tx L p1 d1).2.1)), .int (nI 4294967295), .int (nI i)]))] ++ ((txW k x L tx) ++ (plW k pq ((cl_read tx L p1 d1).2.2) uY_15)))) := hD
            have hP : va_P D vwCl ([(rd, .inr (4, [.ref (x 0), .ref (pq 0), .int (nI us_11), .int (nI ((cl_read tx L p1 d1).2.1)), .int (nI 4294967295), .int (nI i)]))] ++ ((txW k x L tx) ++ ((plW k pq ((cl_read tx L p1 d1).2.2) uY_15) ++ (plW k tq t Y)))) H := hP.sub [8, 9, 10, 11, 12, 13, 14, 15, 16, 17, 18, 0, 1, 2, 3, 4, 5, 6, 7] rfl
            have hD : va_D A ([(rd, .inr (4, [.ref (x 0), .ref (pq 0), .int (nI us_11), .int (nI ((cl_read tx L p1 d1).2.1)), .int (nI 4294967295), .int (nI i)]))] ++ ((txW k x L tx) ++ ((plW k pq ((cl_read tx L p1 d1).2.2) uY_15) ++ (plW k tq t Y)))) := hD.sub [8, 9, 10, 11, 12, 13, 14, 15, 16, 17, 18, 0, 1, 2, 3, 4, 5, 6, 7] (by decide) rfl
            obtain ⟨o1, o2⟩ := cl_read_ok hd1 hp1 hF16 hL
            obtain ⟨b1, b2, b3, b4⟩ := tn_b (tx := tx) o2
            refine lv_aload_n hx hb dX4_readAll_41 rfl (lv_at hl 2 rfl) ?_
            refine lv_dup hx hb dX4_readAll_42 rfl ?_
            refine ta_get C hP 0 inlX4 rfl rfl 5 (by decide) tw_73 rfl dX4_readAll_43 ?_
            refine ta_iconst C 1 dX4_readAll_46 (by decide) ?_
            refine ta_iadd C (a := i) (b := 1) dX4_readAll_47 ?_
            refine ta_put C hP hD hS 0 inlX4 tyX4 tyX4_ok nmX4 rfl rfl 5 (by decide) tw_73 rfl rfl rfl (Nat.le_of_ble_eq_true rfl) dX4_readAll_48 (fun H locs hP hD hS => ?_)
            have hP : va_P D vwCl ([(rd, .inr (4, [.ref (x 0), .ref (pq 0), .int (nI us_11), .int (nI ((cl_read tx L p1 d1).2.1)), .int (nI 4294967295), .int (nI (i + 1))]))] ++ ((txW k x L tx) ++ ((plW k pq ((cl_read tx L p1 d1).2.2) uY_15) ++ (plW k tq t Y)))) H := hP
            have hD : va_D A ([(rd, .inr (4, [.ref (x 0), .ref (pq 0), .int (nI us_11), .int (nI ((cl_read tx L p1 d1).2.1)), .int (nI 4294967295), .int (nI (i + 1))]))] ++ ((txW k x L tx) ++ ((plW k pq ((cl_read tx L p1 d1).2.2) uY_15) ++ (plW k tq t Y)))) := hD
            refine lv_aload_n hx hb dX4_readAll_51 rfl (lv_at hl 2 rfl) ?_
            refine ta_get C hP 0 inlX4 rfl rfl 4 (by decide) tw_72 rfl dX4_readAll_52 ?_
            refine ta_iconst C 4294967295 dX4_readAll_55 (by decide) ?_
            refine lv_icmp_ne (tgt := 70) hx hb dX4_readAll_56 (by decide) (fun c18 => ?_) (fun c18 => ?_)
            · exact absurd c18 (by decide)
            · refine lv_aload_n hx hb dX4_readAll_59 rfl (lv_at hl 2 rfl) ?_
              refine ta_callVi (As := []) (rest0 := []) (Wr := ((plW k pq ((cl_read tx L p1 d1).2.2) uY_15) ++ (plW k tq t Y))) C hP hD hS (c_X4_readLink l D k rd (pq 0) us_11 ((cl_read tx L p1 d1).2.1) (i + 1) x L tx hx0 o2 (by omega)) 0 rfl rfl rfl [0, 1, 2] [3, 4, 5, 6, 7, 8, 9, 10, 11, 12, 13, 14, 15, 16, 17, 18] rfl rfl (by decide) (by decide) (by decide) tw_299 tw_296 tw_22 tw_297 tw_298 ⟨by decide, by decide, rfl⟩ ⟨Nat.le_of_ble_eq_true rfl, Nat.le_of_ble_eq_true rfl⟩ ⟨Nat.zero_le _, Nat.zero_le _⟩ hl.1 rfl (Nat.le_of_ble_eq_true rfl) dX4_readAll_60 (fun r19 u20 H locs h21 hP hD hS => ?_)
              rcases h21 with h0 | h0 | h0
              · obtain ⟨hl122, rfl, rfl⟩ := h0
                have hP : va_P D vwCl ((plW k pq ((cl_read tx L p1 d1).2.2) uY_15) ++ ((plW k tq t Y) ++ ([(rd, .inr (4, [.ref (x 0), .ref (pq 0), .int (nI (tn_s tx L ((cl_read tx L p1 d1).2.1))), .int (nI (tn_e tx L ((cl_read tx L p1 d1).2.1))), .int (nI 4294967295), .int (nI (i + 1))]))] ++ (txW k x L tx)))) H := hP
                have hD : va_D A ((plW k pq ((cl_read tx L p1 d1).2.2) uY_15) ++ ((plW k tq t Y) ++ ([(rd, .inr (4, [.ref (x 0), .ref (pq 0), .int (nI (tn_s tx L ((cl_read tx L p1 d1).2.1))), .int (nI (tn_e tx L ((cl_read tx L p1 d1).2.1))), .int (nI 4294967295), .int (nI (i + 1))]))] ++ (txW k x L tx)))) := hD
                have hP : va_P D vwCl ([(rd, .inr (4, [.ref (x 0), .ref (pq 0), .int (nI (tn_s tx L ((cl_read tx L p1 d1).2.1))), .int (nI (tn_e tx L ((cl_read tx L p1 d1).2.1))), .int (nI 4294967295), .int (nI (i + 1))]))] ++ ((txW k x L tx) ++ ((plW k pq ((cl_read tx L p1 d1).2.2) uY_15) ++ (plW k tq t Y)))) H := hP.sub [16, 17, 18, 0, 1, 2, 3, 4, 5, 6, 7, 8, 9, 10, 11, 12, 13, 14, 15] rfl
                have hD : va_D A ([(rd, .inr (4, [.ref (x 0), .ref (pq 0), .int (nI (tn_s tx L ((cl_read tx L p1 d1).2.1))), .int (nI (tn_e tx L ((cl_read tx L p1 d1).2.1))), .int (nI 4294967295), .int (nI (i + 1))]))] ++ ((txW k x L tx) ++ ((plW k pq ((cl_read tx L p1 d1).2.2) uY_15) ++ (plW k tq t Y)))) := hD.sub [16, 17, 18, 0, 1, 2, 3, 4, 5, 6, 7, 8, 9, 10, 11, 12, 13, 14, 15] (by decide) rfl
                refine lv_if_eq (tgt := 70) hx hb dX4_readAll_63 (by decide) (fun c23 => ?_) (fun c23 => ?_)
                · refine ta_iconst C 0 dX4_readAll_70 (by decide) ?_
                  refine lv_istore_n (lv' := [(2, .int (nI 0)), (3, .int (nI i)), (0, .ref rd), (1, .ref (tq 0))]) hx hb dX4_readAll_71 rfl hl (by decide) rfl (fun ls hl => ?_)
                  refine lv_iinc (v := nI (i + 1)) (lv' := [(3, .int (nI (i + 1))), (2, .int (nI 0)), (0, .ref rd), (1, .ref (tq 0))]) hx hb dX4_readAll_72 hl (k := 1) rfl (ta_inc1 _) (by decide) rfl (fun ls hl => ?_)
                  refine lv_goto (tgt := 27) hx hb dX4_readAll_75 (by decide) ?_
                  refine lv_iload_n hx hb dX4_readAll_27 rfl (lv_at hl 0 rfl) ?_
                  refine ta_bipush C 14 dX4_readAll_28 (by decide) ?_
                  refine ta_cge C (a := i + 1) (b := 14) (tgt := 78) (by omega) (by omega) dX4_readAll_30 (by decide) (fun c24 => ?_) (fun c24 => ?_)
                  · refine lv_aload_n hx hb dX4_readAll_78 rfl (lv_at hl 2 rfl) ?_
                    refine ta_get C hP 0 inlX4 rfl rfl 4 (by decide) tw_72 rfl dX4_readAll_79 ?_
                    have eA : rd_go tx L 14 0 t = (4294967295, 14 - (14 - (i + 1)), (cl_read tx L p1 d1).2.2) := by rw [← hF, show 14 - i = (14 - (i + 1)) + 1 by omega, rd_go_s, cl_n (fun h => h hF16), cl_p hl122]
                    exact ret _ (tn_s tx L ((cl_read tx L p1 d1).2.1), tn_e tx L ((cl_read tx L p1 d1).2.1), 4294967295, i + 1, (cl_read tx L p1 d1).2.2, uY_15) dX4_readAll_82 rfl ⟨by rw [eA], fun _ => ⟨by rw [eA]; show i + 1 = 14 - (14 - (i + 1)); omega, by rw [eA], hY17⟩⟩ hP hD hS
                  · refine lv_iload_n hx hb dX4_readAll_33 rfl (lv_at hl 1 rfl) ?_
                    refine lv_if_eq (tgt := 78) hx hb dX4_readAll_34 (by decide) (fun c25 => ?_) (fun c25 => ?_)
                    · refine lv_aload_n hx hb dX4_readAll_78 rfl (lv_at hl 2 rfl) ?_
                      refine ta_get C hP 0 inlX4 rfl rfl 4 (by decide) tw_72 rfl dX4_readAll_79 ?_
                      have eA : rd_go tx L 14 0 t = (4294967295, 14 - (14 - (i + 1)), (cl_read tx L p1 d1).2.2) := by rw [← hF, show 14 - i = (14 - (i + 1)) + 1 by omega, rd_go_s, cl_n (fun h => h hF16), cl_p hl122]
                      exact ret _ (tn_s tx L ((cl_read tx L p1 d1).2.1), tn_e tx L ((cl_read tx L p1 d1).2.1), 4294967295, i + 1, (cl_read tx L p1 d1).2.2, uY_15) dX4_readAll_82 rfl ⟨by rw [eA], fun _ => ⟨by rw [eA]; show i + 1 = 14 - (14 - (i + 1)); omega, by rw [eA], hY17⟩⟩ hP hD hS
                    · exact absurd c25 (by decide)
                · exact absurd c23 (by decide)
              · obtain ⟨hl126, hl227, rfl, rfl⟩ := h0
                have hP : va_P D vwCl ((plW k pq ((cl_read tx L p1 d1).2.2) uY_15) ++ ((plW k tq t Y) ++ ([(rd, .inr (4, [.ref (x 0), .ref (pq 0), .int (nI (tn_s tx L ((cl_read tx L p1 d1).2.1))), .int (nI (tn_e tx L ((cl_read tx L p1 d1).2.1))), .int (nI (tn_s tx L ((cl_read tx L p1 d1).2.1))), .int (nI (i + 1))]))] ++ (txW k x L tx)))) H := hP
                have hD : va_D A ((plW k pq ((cl_read tx L p1 d1).2.2) uY_15) ++ ((plW k tq t Y) ++ ([(rd, .inr (4, [.ref (x 0), .ref (pq 0), .int (nI (tn_s tx L ((cl_read tx L p1 d1).2.1))), .int (nI (tn_e tx L ((cl_read tx L p1 d1).2.1))), .int (nI (tn_s tx L ((cl_read tx L p1 d1).2.1))), .int (nI (i + 1))]))] ++ (txW k x L tx)))) := hD
                have hP : va_P D vwCl ([(rd, .inr (4, [.ref (x 0), .ref (pq 0), .int (nI (tn_s tx L ((cl_read tx L p1 d1).2.1))), .int (nI (tn_e tx L ((cl_read tx L p1 d1).2.1))), .int (nI (tn_s tx L ((cl_read tx L p1 d1).2.1))), .int (nI (i + 1))]))] ++ ((txW k x L tx) ++ ((plW k pq ((cl_read tx L p1 d1).2.2) uY_15) ++ (plW k tq t Y)))) H := hP.sub [16, 17, 18, 0, 1, 2, 3, 4, 5, 6, 7, 8, 9, 10, 11, 12, 13, 14, 15] rfl
                have hD : va_D A ([(rd, .inr (4, [.ref (x 0), .ref (pq 0), .int (nI (tn_s tx L ((cl_read tx L p1 d1).2.1))), .int (nI (tn_e tx L ((cl_read tx L p1 d1).2.1))), .int (nI (tn_s tx L ((cl_read tx L p1 d1).2.1))), .int (nI (i + 1))]))] ++ ((txW k x L tx) ++ ((plW k pq ((cl_read tx L p1 d1).2.2) uY_15) ++ (plW k tq t Y)))) := hD.sub [16, 17, 18, 0, 1, 2, 3, 4, 5, 6, 7, 8, 9, 10, 11, 12, 13, 14, 15] (by decide) rfl
                refine lv_if_eq (tgt := 70) hx hb dX4_readAll_63 (by decide) (fun c28 => ?_) (fun c28 => ?_)
                · refine ta_iconst C 0 dX4_readAll_70 (by decide) ?_
                  refine lv_istore_n (lv' := [(2, .int (nI 0)), (3, .int (nI i)), (0, .ref rd), (1, .ref (tq 0))]) hx hb dX4_readAll_71 rfl hl (by decide) rfl (fun ls hl => ?_)
                  refine lv_iinc (v := nI (i + 1)) (lv' := [(3, .int (nI (i + 1))), (2, .int (nI 0)), (0, .ref rd), (1, .ref (tq 0))]) hx hb dX4_readAll_72 hl (k := 1) rfl (ta_inc1 _) (by decide) rfl (fun ls hl => ?_)
                  refine lv_goto (tgt := 27) hx hb dX4_readAll_75 (by decide) ?_
                  refine lv_iload_n hx hb dX4_readAll_27 rfl (lv_at hl 0 rfl) ?_
                  refine ta_bipush C 14 dX4_readAll_28 (by decide) ?_
                  refine ta_cge C (a := i + 1) (b := 14) (tgt := 78) (by omega) (by omega) dX4_readAll_30 (by decide) (fun c29 => ?_) (fun c29 => ?_)
                  · refine lv_aload_n hx hb dX4_readAll_78 rfl (lv_at hl 2 rfl) ?_
                    refine ta_get C hP 0 inlX4 rfl rfl 4 (by decide) tw_72 rfl dX4_readAll_79 ?_
                    have eA : rd_go tx L 14 0 t = (tn_s tx L (cl_read tx L p1 d1).2.1, 0, d1) := by rw [← hF, show 14 - i = (14 - (i + 1)) + 1 by omega, rd_go_s, cl_n (fun h => h hF16), cl_n (by omega), cl_p (by omega)]
                    exact ret _ (tn_s tx L ((cl_read tx L p1 d1).2.1), tn_e tx L ((cl_read tx L p1 d1).2.1), tn_s tx L ((cl_read tx L p1 d1).2.1), i + 1, (cl_read tx L p1 d1).2.2, uY_15) dX4_readAll_82 rfl ⟨by rw [eA], fun h => absurd (show tn_s tx L (cl_read tx L p1 d1).2.1 = 4294967295 by rw [eA] at h; exact h) (by omega)⟩ hP hD hS
                  · refine lv_iload_n hx hb dX4_readAll_33 rfl (lv_at hl 1 rfl) ?_
                    refine lv_if_eq (tgt := 78) hx hb dX4_readAll_34 (by decide) (fun c30 => ?_) (fun c30 => ?_)
                    · refine lv_aload_n hx hb dX4_readAll_78 rfl (lv_at hl 2 rfl) ?_
                      refine ta_get C hP 0 inlX4 rfl rfl 4 (by decide) tw_72 rfl dX4_readAll_79 ?_
                      have eA : rd_go tx L 14 0 t = (tn_s tx L (cl_read tx L p1 d1).2.1, 0, d1) := by rw [← hF, show 14 - i = (14 - (i + 1)) + 1 by omega, rd_go_s, cl_n (fun h => h hF16), cl_n (by omega), cl_p (by omega)]
                      exact ret _ (tn_s tx L ((cl_read tx L p1 d1).2.1), tn_e tx L ((cl_read tx L p1 d1).2.1), tn_s tx L ((cl_read tx L p1 d1).2.1), i + 1, (cl_read tx L p1 d1).2.2, uY_15) dX4_readAll_82 rfl ⟨by rw [eA], fun h => absurd (show tn_s tx L (cl_read tx L p1 d1).2.1 = 4294967295 by rw [eA] at h; exact h) (by omega)⟩ hP hD hS
                    · exact absurd c30 (by decide)
                · exact absurd c28 (by decide)
              · obtain ⟨hl131, hl232, hl333, rfl, rfl⟩ := h0
                have hP : va_P D vwCl ((plW k pq ((cl_read tx L p1 d1).2.2) uY_15) ++ ((plW k tq t Y) ++ ([(rd, .inr (4, [.ref (x 0), .ref (pq 0), .int (nI (tn_s tx L ((cl_read tx L p1 d1).2.1))), .int (nI (tn_e tx L ((cl_read tx L p1 d1).2.1))), .int (nI 4294967295), .int (nI (i + 1))]))] ++ (txW k x L tx)))) H := hP
                have hD : va_D A ((plW k pq ((cl_read tx L p1 d1).2.2) uY_15) ++ ((plW k tq t Y) ++ ([(rd, .inr (4, [.ref (x 0), .ref (pq 0), .int (nI (tn_s tx L ((cl_read tx L p1 d1).2.1))), .int (nI (tn_e tx L ((cl_read tx L p1 d1).2.1))), .int (nI 4294967295), .int (nI (i + 1))]))] ++ (txW k x L tx)))) := hD
                have hP : va_P D vwCl ([(rd, .inr (4, [.ref (x 0), .ref (pq 0), .int (nI (tn_s tx L ((cl_read tx L p1 d1).2.1))), .int (nI (tn_e tx L ((cl_read tx L p1 d1).2.1))), .int (nI 4294967295), .int (nI (i + 1))]))] ++ ((txW k x L tx) ++ ((plW k pq ((cl_read tx L p1 d1).2.2) uY_15) ++ (plW k tq t Y)))) H := hP.sub [16, 17, 18, 0, 1, 2, 3, 4, 5, 6, 7, 8, 9, 10, 11, 12, 13, 14, 15] rfl
                have hD : va_D A ([(rd, .inr (4, [.ref (x 0), .ref (pq 0), .int (nI (tn_s tx L ((cl_read tx L p1 d1).2.1))), .int (nI (tn_e tx L ((cl_read tx L p1 d1).2.1))), .int (nI 4294967295), .int (nI (i + 1))]))] ++ ((txW k x L tx) ++ ((plW k pq ((cl_read tx L p1 d1).2.2) uY_15) ++ (plW k tq t Y)))) := hD.sub [16, 17, 18, 0, 1, 2, 3, 4, 5, 6, 7, 8, 9, 10, 11, 12, 13, 14, 15] (by decide) rfl
                refine lv_if_eq (tgt := 70) hx hb dX4_readAll_63 (by decide) (fun c34 => ?_) (fun c34 => ?_)
                · exact absurd c34 (by decide)
                · refine ta_iconst C 1 dX4_readAll_66 (by decide) ?_
                  refine lv_goto (tgt := 71) hx hb dX4_readAll_67 (by decide) ?_
                  refine lv_istore_n (lv' := [(2, .int (nI 1)), (3, .int (nI i)), (0, .ref rd), (1, .ref (tq 0))]) hx hb dX4_readAll_71 rfl hl (by decide) rfl (fun ls hl => ?_)
                  refine lv_iinc (v := nI (i + 1)) (lv' := [(3, .int (nI (i + 1))), (2, .int (nI 1)), (0, .ref rd), (1, .ref (tq 0))]) hx hb dX4_readAll_72 hl (k := 1) rfl (ta_inc1 _) (by decide) rfl (fun ls hl => ?_)
                  refine lv_goto (tgt := 27) hx hb dX4_readAll_75 (by decide) ?_
                  exact ih_27 (i + 1) (tn_s tx L (cl_read tx L p1 d1).2.1) (tn_e tx L (cl_read tx L p1 d1).2.1) ((cl_read tx L p1 d1).2.2) uY_15 (by omega) b3 o1 hY17 (by rw [← hF, show 14 - i = (14 - (i + 1)) + 1 by omega, rd_go_s, cl_n (fun h => h hF16), cl_n (by omega), cl_n (by omega)]) (by omega) _ _ _ hP hD hS (lv_sub hl [0, 1, 2, 3] rfl)
          · obtain ⟨us_35, ue_36, uf_37, ud_38, uY_39⟩ := u9
            try dsimp only at h0
            obtain ⟨hF40, rfl⟩ := h0
            have hP : va_P D vwCl ((plW k tq t Y) ++ ([(rd, .inr (4, [.ref (x 0), .ref (pq 0), .int (nI us_35), .int (nI ue_36), .int (nI ((cl_read tx L p1 d1).1)), .int (nI i)]))] ++ ((txW k x L tx) ++ (plW k pq ud_38 uY_39)))) H := hP
            have hD : va_D A ((plW k tq t Y) ++ ([(rd, .inr (4, [.ref (x 0), .ref (pq 0), .int (nI us_35), .int (nI ue_36), .int (nI ((cl_read tx L p1 d1).1)), .int (nI i)]))] ++ ((txW k x L tx) ++ (plW k pq ud_38 uY_39)))) := hD
            have hP : va_P D vwCl ([(rd, .inr (4, [.ref (x 0), .ref (pq 0), .int (nI us_35), .int (nI ue_36), .int (nI ((cl_read tx L p1 d1).1)), .int (nI i)]))] ++ ((txW k x L tx) ++ ((plW k pq ud_38 uY_39) ++ (plW k tq t Y)))) H := hP.sub [8, 9, 10, 11, 12, 13, 14, 15, 16, 17, 18, 0, 1, 2, 3, 4, 5, 6, 7] rfl
            have hD : va_D A ([(rd, .inr (4, [.ref (x 0), .ref (pq 0), .int (nI us_35), .int (nI ue_36), .int (nI ((cl_read tx L p1 d1).1)), .int (nI i)]))] ++ ((txW k x L tx) ++ ((plW k pq ud_38 uY_39) ++ (plW k tq t Y)))) := hD.sub [8, 9, 10, 11, 12, 13, 14, 15, 16, 17, 18, 0, 1, 2, 3, 4, 5, 6, 7] (by decide) rfl
            have hfl : (cl_read tx L p1 d1).1 ≤ L := cl_read_f hp1 hF40
            refine lv_aload_n hx hb dX4_readAll_41 rfl (lv_at hl 2 rfl) ?_
            refine lv_dup hx hb dX4_readAll_42 rfl ?_
            refine ta_get C hP 0 inlX4 rfl rfl 5 (by decide) tw_73 rfl dX4_readAll_43 ?_
            refine ta_iconst C 1 dX4_readAll_46 (by decide) ?_
            refine ta_iadd C (a := i) (b := 1) dX4_readAll_47 ?_
            refine ta_put C hP hD hS 0 inlX4 tyX4 tyX4_ok nmX4 rfl rfl 5 (by decide) tw_73 rfl rfl rfl (Nat.le_of_ble_eq_true rfl) dX4_readAll_48 (fun H locs hP hD hS => ?_)
            have hP : va_P D vwCl ([(rd, .inr (4, [.ref (x 0), .ref (pq 0), .int (nI us_35), .int (nI ue_36), .int (nI ((cl_read tx L p1 d1).1)), .int (nI (i + 1))]))] ++ ((txW k x L tx) ++ ((plW k pq ud_38 uY_39) ++ (plW k tq t Y)))) H := hP
            have hD : va_D A ([(rd, .inr (4, [.ref (x 0), .ref (pq 0), .int (nI us_35), .int (nI ue_36), .int (nI ((cl_read tx L p1 d1).1)), .int (nI (i + 1))]))] ++ ((txW k x L tx) ++ ((plW k pq ud_38 uY_39) ++ (plW k tq t Y)))) := hD
            refine lv_aload_n hx hb dX4_readAll_51 rfl (lv_at hl 2 rfl) ?_
            refine ta_get C hP 0 inlX4 rfl rfl 4 (by decide) tw_72 rfl dX4_readAll_52 ?_
            refine ta_iconst C 4294967295 dX4_readAll_55 (by decide) ?_
            refine ta_cne C (a := (cl_read tx L p1 d1).1) (b := 4294967295) (tgt := 70) (by omega) (by omega) dX4_readAll_56 (by decide) (fun c41 => ?_) (fun c41 => ?_)
            · refine ta_iconst C 0 dX4_readAll_70 (by decide) ?_
              refine lv_istore_n (lv' := [(2, .int (nI 0)), (3, .int (nI i)), (0, .ref rd), (1, .ref (tq 0))]) hx hb dX4_readAll_71 rfl hl (by decide) rfl (fun ls hl => ?_)
              refine lv_iinc (v := nI (i + 1)) (lv' := [(3, .int (nI (i + 1))), (2, .int (nI 0)), (0, .ref rd), (1, .ref (tq 0))]) hx hb dX4_readAll_72 hl (k := 1) rfl (ta_inc1 _) (by decide) rfl (fun ls hl => ?_)
              refine lv_goto (tgt := 27) hx hb dX4_readAll_75 (by decide) ?_
              refine lv_iload_n hx hb dX4_readAll_27 rfl (lv_at hl 0 rfl) ?_
              refine ta_bipush C 14 dX4_readAll_28 (by decide) ?_
              refine ta_cge C (a := i + 1) (b := 14) (tgt := 78) (by omega) (by omega) dX4_readAll_30 (by decide) (fun c42 => ?_) (fun c42 => ?_)
              · refine lv_aload_n hx hb dX4_readAll_78 rfl (lv_at hl 2 rfl) ?_
                refine ta_get C hP 0 inlX4 rfl rfl 4 (by decide) tw_72 rfl dX4_readAll_79 ?_
                have eA : rd_go tx L 14 0 t = ((cl_read tx L p1 d1).1, 0, d1) := by rw [← hF, show 14 - i = (14 - (i + 1)) + 1 by omega, rd_go_s, cl_p hF40]
                exact ret _ (us_35, ue_36, (cl_read tx L p1 d1).1, i + 1, ud_38, uY_39) dX4_readAll_82 rfl ⟨by rw [eA], fun h => absurd (show (cl_read tx L p1 d1).1 = 4294967295 by rw [eA] at h; exact h) hF40⟩ hP hD hS
              · refine lv_iload_n hx hb dX4_readAll_33 rfl (lv_at hl 1 rfl) ?_
                refine lv_if_eq (tgt := 78) hx hb dX4_readAll_34 (by decide) (fun c43 => ?_) (fun c43 => ?_)
                · refine lv_aload_n hx hb dX4_readAll_78 rfl (lv_at hl 2 rfl) ?_
                  refine ta_get C hP 0 inlX4 rfl rfl 4 (by decide) tw_72 rfl dX4_readAll_79 ?_
                  have eA : rd_go tx L 14 0 t = ((cl_read tx L p1 d1).1, 0, d1) := by rw [← hF, show 14 - i = (14 - (i + 1)) + 1 by omega, rd_go_s, cl_p hF40]
                  exact ret _ (us_35, ue_36, (cl_read tx L p1 d1).1, i + 1, ud_38, uY_39) dX4_readAll_82 rfl ⟨by rw [eA], fun h => absurd (show (cl_read tx L p1 d1).1 = 4294967295 by rw [eA] at h; exact h) hF40⟩ hP hD hS
                · exact absurd c43 (by decide)
            · exfalso; omega
  exact loop_27 ((14 - 0) + 1) 0 st0 0 t u_4 (by omega) (Nat.zero_le _) hpl hY5 rfl (Nat.lt_succ_self _) _ _ _ hP hD hS (lv_sub hl [0, 1, 2, 3] rfl)
