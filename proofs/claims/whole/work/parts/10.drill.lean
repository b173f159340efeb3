set_option maxHeartbeats 4000000 in
set_option maxRecDepth 100000 in
theorem c_X1_isFull (l : Launch) (D : va_G) (k : ta_C) (h : Nat) (ka : Nat) (ma : Nat) (n : Nat) (hn : n < 100) : ta_Mi (S := Unit) l D k yX1_isFull cX1_isFull 1 .boolean 0 0 [.ref h] [(h, .inr (1, [.ref ka, .ref ma, .int (nI n)]))] (fun r _ => (8 ≤ n ∧ r = nI 1) ∨ (n < 8 ∧ r = nI 0)) (fun u => [(h, .inr (1, [.ref ka, .ref ma, .int (nI n)]))]) := by
  refine ta_enter_i (by decide) (Nat.le_of_ble_eq_true rfl) ?_
  intro p e s m below meth c A ls Q C ret hP hD hS hl
  have C : ta_At p l D k s m ([.ref h] : List Value).toArray c RX1 cX1_isFull 1 A := C
  have hx := C.1.1
  have hb := C.1.2.1
  have hl : lv_has ls 1 [(0, .ref h)] := hl
  obtain ⟨H, hH⟩ : ∃ H, H = s.heap := ⟨_, rfl⟩
  obtain ⟨locs, hlocs⟩ : ∃ q : List Loc, q = [] := ⟨_, rfl⟩
  have hP : va_P D vwCl [(h, .inr (1, [.ref ka, .ref ma, .int (nI n)]))] H := by rw [hH]; exact hP
  have hS : va_S A s.heap H locs := by rw [hH, hlocs]; exact hS
  rw [← hlocs]
  suffices hgoal : W p l e ({ frames := 0, cells := 0, slots := 0, locals := 0 }) s m ([.ref h] : List Value).toArray below meth c H locs 0 0 Q (F0 m 0 ls []) by rw [hH] at hgoal; exact hgoal
  clear hH hlocs
  refine lv_aload_n hx hb dX1_isFull_0 rfl (lv_at hl 0 rfl) ?_
  refine ta_get C hP 0 inlX1 rfl rfl 2 (by decide) tw_63 rfl dX1_isFull_1 ?_
  refine ta_bipush C 8 dX1_isFull_4 (by decide) ?_
  refine ta_clt C (a := n) (b := 8) (tgt := 13) (by omega) (by omega) dX1_isFull_6 (by decide) (fun c1 => ?_) (fun c1 => ?_)
  · refine ta_iconst C 0 dX1_isFull_13 (by decide) ?_
    exact ret (nI 0) () dX1_isFull_14 (by decide) (by first | exact Or.inl ⟨by omega, rfl⟩ | exact Or.inr ⟨by omega, rfl⟩) hP hD hS
  · refine ta_iconst C 1 dX1_isFull_9 (by decide) ?_
    refine lv_goto (tgt := 14) hx hb dX1_isFull_10 (by decide) ?_
    exact ret (nI 1) () dX1_isFull_14 (by decide) (by first | exact Or.inl ⟨by omega, rfl⟩ | exact Or.inr ⟨by omega, rfl⟩) hP hD hS

set_option maxHeartbeats 4000000 in
set_option maxRecDepth 100000 in
theorem c_X1_append (l : Launch) (D : va_G) (k : ta_C) (h : Nat) (ka : Nat) (ma : Nat) (K : Nat → Nat) (M : Nat → Nat) (n : Nat) (a : Nat) (b : Nat) (hn : n < 8) : ta_Mv (S := Unit) l D k yX1_append cX1_append 3 1 20 [.ref h, .int (nI a), .int (nI b)] [(h, .inr (1, [.ref ka, .ref ma, .int (nI n)])), (ka, .inl (k.1 0, 8, .inl (ta_e K))), (ma, .inl (k.1 0, 8, .inl (ta_e M)))] (fun _ => True) (fun u => [(h, .inr (1, [.ref ka, .ref ma, .int (nI (n + 1))])), (ka, .inl (k.1 0, 8, .inl (ta_e (ta_u K n a)))), (ma, .inl (k.1 0, 8, .inl (ta_e (ta_u M n b))))]) := by
  refine ta_enter_v (by decide) (Nat.le_of_ble_eq_true rfl) ?_
  intro p e s m below meth c A ls Q C ret hP hD hS hl
  have C : ta_At p l D k s m ([.ref h, .int (nI a), .int (nI b)] : List Value).toArray c RX1 cX1_append 3 A := C
  have hx := C.1.1
  have hb := C.1.2.1
  have hl : lv_has ls 3 [(0, .ref h), (1, .int (nI a)), (2, .int (nI b))] := hl
  obtain ⟨H, hH⟩ : ∃ H, H = s.heap := ⟨_, rfl⟩
  obtain ⟨locs, hlocs⟩ : ∃ q : List Loc, q = [] := ⟨_, rfl⟩
  have hP : va_P D vwCl [(h, .inr (1, [.ref ka, .ref ma, .int (nI n)])), (ka, .inl (k.1 0, 8, .inl (ta_e K))), (ma, .inl (k.1 0, 8, .inl (ta_e M)))] H := by rw [hH]; exact hP
  have hS : va_S A s.heap H locs := by rw [hH, hlocs]; exact hS
  rw [← hlocs]
  suffices hgoal : W p l e ({ frames := 1, cells := 0, slots := 0, locals := 20 }) s m ([.ref h, .int (nI a), .int (nI b)] : List Value).toArray below meth c H locs 0 0 Q (F0 m 0 ls []) by rw [hH] at hgoal; exact hgoal
  clear hH hlocs
  refine lv_aload_n hx hb dX1_append_0 rfl (lv_at hl 0 rfl) ?_
  refine ta_callVi (As := []) (rest0 := []) (Wr := [(ka, .inl (k.1 0, 8, .inl (ta_e K))), (ma, .inl (k.1 0, 8, .inl (ta_e M)))]) C hP hD hS (c_X1_isFull l D k h ka ma n (by omega)) 0 rfl rfl rfl [0] [1, 2] rfl rfl (by decide) (by decide) (by decide) tw_290 tw_295 tw_56 tw_288 tw_289 ⟨by decide, by decide, rfl⟩ ⟨Nat.le_of_ble_eq_true rfl, Nat.le_of_ble_eq_true rfl⟩ ⟨Nat.zero_le _, Nat.zero_le _⟩ hl.1 rfl (Nat.le_of_ble_eq_true rfl) dX1_append_1 (fun r1 u2 H locs h3 hP hD hS => ?_)
  rcases h3 with h0 | h0
  · obtain ⟨hf4, rfl⟩ := h0
    have hP : va_P D vwCl [(ka, .inl (k.1 0, 8, .inl (ta_e K))), (ma, .inl (k.1 0, 8, .inl (ta_e M))), (h, .inr (1, [.ref ka, .ref ma, .int (nI n)]))] H := hP
    have hD : va_D A [(ka, .inl (k.1 0, 8, .inl (ta_e K))), (ma, .inl (k.1 0, 8, .inl (ta_e M))), (h, .inr (1, [.ref ka, .ref ma, .int (nI n)]))] := hD
    exact absurd hf4 (by omega)
  · obtain ⟨hf5, rfl⟩ := h0
    have hP : va_P D vwCl [(ka, .inl (k.1 0, 8, .inl (ta_e K))), (ma, .inl (k.1 0, 8, .inl (ta_e M))), (h, .inr (1, [.ref ka, .ref ma, .int (nI n)]))] H := hP
    have hD : va_D A [(ka, .inl (k.1 0, 8, .inl (ta_e K))), (ma, .inl (k.1 0, 8, .inl (ta_e M))), (h, .inr (1, [.ref ka, .ref ma, .int (nI n)]))] := hD
    refine lv_if_eq (tgt := 8) hx hb dX1_append_4 (by decide) (fun c6 => ?_) (fun c6 => ?_)
    · refine lv_aload_n hx hb dX1_append_8 rfl (lv_at hl 0 rfl) ?_
      refine ta_get C hP 2 inlX1 rfl rfl 0 (by decide) tw_61 rfl dX1_append_9 ?_
      refine lv_aload_n hx hb dX1_append_12 rfl (lv_at hl 0 rfl) ?_
      refine ta_get C hP 2 inlX1 rfl rfl 2 (by decide) tw_63 rfl dX1_append_13 ?_
      refine lv_iload_n hx hb dX1_append_16 rfl (lv_at hl 1 rfl) ?_
      refine ta_iast C hP hD hS 0 rfl (i := n) (v := a) (by omega) dX1_append_17 (fun H locs hP hD hS => ?_)
      have hP : va_P D vwCl [(ka, .inl (k.1 0, 8, .inl (ta_e (ta_u K n a)))), (ma, .inl (k.1 0, 8, .inl (ta_e M))), (h, .inr (1, [.ref ka, .ref ma, .int (nI n)]))] H := hP
      have hD : va_D A [(ka, .inl (k.1 0, 8, .inl (ta_e (ta_u K n a)))), (ma, .inl (k.1 0, 8, .inl (ta_e M))), (h, .inr (1, [.ref ka, .ref ma, .int (nI n)]))] := hD
      refine lv_aload_n hx hb dX1_append_18 rfl (lv_at hl 0 rfl) ?_
      refine ta_get C hP 2 inlX1 rfl rfl 1 (by decide) tw_62 rfl dX1_append_19 ?_
      refine lv_aload_n hx hb dX1_append_22 rfl (lv_at hl 0 rfl) ?_
      refine ta_get C hP 2 inlX1 rfl rfl 2 (by decide) tw_63 rfl dX1_append_23 ?_
      refine lv_iload_n hx hb dX1_append_26 rfl (lv_at hl 2 rfl) ?_
      refine ta_iast C hP hD hS 1 rfl (i := n) (v := b) (by omega) dX1_append_27 (fun H locs hP hD hS => ?_)
      have hP : va_P D vwCl [(ka, .inl (k.1 0, 8, .inl (ta_e (ta_u K n a)))), (ma, .inl (k.1 0, 8, .inl (ta_e (ta_u M n b)))), (h, .inr (1, [.ref ka, .ref ma, .int (nI n)]))] H := hP
      have hD : va_D A [(ka, .inl (k.1 0, 8, .inl (ta_e (ta_u K n a)))), (ma, .inl (k.1 0, 8, .inl (ta_e (ta_u M n b)))), (h, .inr (1, [.ref ka, .ref ma, .int (nI n)]))] := hD
      refine lv_aload_n hx hb dX1_append_28 rfl (lv_at hl 0 rfl) ?_
      refine lv_dup hx hb dX1_append_29 rfl ?_
      refine ta_get C hP 2 inlX1 rfl rfl 2 (by decide) tw_63 rfl dX1_append_30 ?_
      refine ta_iconst C 1 dX1_append_33 (by decide) ?_
      refine ta_iadd C (a := n) (b := 1) dX1_append_34 ?_
      refine ta_put C hP hD hS 2 inlX1 tyX1 tyX1_ok nmX1 rfl rfl 2 (by decide) tw_63 rfl rfl rfl (Nat.le_of_ble_eq_true rfl) dX1_append_35 (fun H locs hP hD hS => ?_)
      have hP : va_P D vwCl [(ka, .inl (k.1 0, 8, .inl (ta_e (ta_u K n a)))), (ma, .inl (k.1 0, 8, .inl (ta_e (ta_u M n b)))), (h, .inr (1, [.ref ka, .ref ma, .int (nI (n + 1))]))] H := hP
      have hD : va_D A [(ka, .inl (k.1 0, 8, .inl (ta_e (ta_u K n a)))), (ma, .inl (k.1 0, 8, .inl (ta_e (ta_u M n b)))), (h, .inr (1, [.ref ka, .ref ma, .int (nI (n + 1))]))] := hD
      exact ret () dX1_append_38 trivial (hP.sub [2, 0, 1] rfl) (hD.sub [2, 0, 1] (by decide) rfl) hS
    · exact absurd c6 (by decide)

set_option maxHeartbeats 4000000 in
set_option maxRecDepth 100000 in
theorem c_X1_replaceNext (l : Launch) (D : va_G) (k : ta_C) (h : Nat) (ka : Nat) (ma : Nat) (K : Nat → Nat) (M : Nat → Nat) (n : Nat) (a : Nat) (b : Nat) : ta_Mv (S := Unit) l D k yX1_replaceNext cX1_replaceNext 3 0 0 [.ref h, .int (nI a), .int (nI b)] [(h, .inr (1, [.ref ka, .ref ma, .int (nI n)])), (ka, .inl (k.1 0, 8, .inl (ta_e K))), (ma, .inl (k.1 0, 8, .inl (ta_e M)))] (fun _ => True) (fun u => [(h, .inr (1, [.ref ka, .ref ma, .int (nI n)])), (ka, .inl (k.1 0, 8, .inl (ta_e (ta_u K 0 a)))), (ma, .inl (k.1 0, 8, .inl (ta_e (ta_u M 0 b))))]) := by
  refine ta_enter_v (by decide) (Nat.le_of_ble_eq_true rfl) ?_
  intro p e s m below meth c A ls Q C ret hP hD hS hl
  have C : ta_At p l D k s m ([.ref h, .int (nI a), .int (nI b)] : List Value).toArray c RX1 cX1_replaceNext 3 A := C
  have hx := C.1.1
  have hb := C.1.2.1
  have hl : lv_has ls 3 [(0, .ref h), (1, .int (nI a)), (2, .int (nI b))] := hl
  obtain ⟨H, hH⟩ : ∃ H, H = s.heap := ⟨_, rfl⟩
  obtain ⟨locs, hlocs⟩ : ∃ q : List Loc, q = [] := ⟨_, rfl⟩
  have hP : va_P D vwCl [(h, .inr (1, [.ref ka, .ref ma, .int (nI n)])), (ka, .inl (k.1 0, 8, .inl (ta_e K))), (ma, .inl (k.1 0, 8, .inl (ta_e M)))] H := by rw [hH]; exact hP
  have hS : va_S A s.heap H locs := by rw [hH, hlocs]; exact hS
  rw [← hlocs]
  suffices hgoal : W p l e ({ frames := 0, cells := 0, slots := 0, locals := 0 }) s m ([.ref h, .int (nI a), .int (nI b)] : List Value).toArray below meth c H locs 0 0 Q (F0 m 0 ls []) by rw [hH] at hgoal; exact hgoal
  clear hH hlocs
  refine lv_aload_n hx hb dX1_replaceNext_0 rfl (lv_at hl 0 rfl) ?_
  refine ta_get C hP 0 inlX1 rfl rfl 0 (by decide) tw_61 rfl dX1_replaceNext_1 ?_
  refine ta_iconst C 0 dX1_replaceNext_4 (by decide) ?_
  refine lv_iload_n hx hb dX1_replaceNext_5 rfl (lv_at hl 1 rfl) ?_
  refine ta_iast C hP hD hS 1 rfl (i := 0) (v := a) (by omega) dX1_replaceNext_6 (fun H locs hP hD hS => ?_)
  have hP : va_P D vwCl [(h, .inr (1, [.ref ka, .ref ma, .int (nI n)])), (ka, .inl (k.1 0, 8, .inl (ta_e (ta_u K 0 a)))), (ma, .inl (k.1 0, 8, .inl (ta_e M)))] H := hP
  have hD : va_D A [(h, .inr (1, [.ref ka, .ref ma, .int (nI n)])), (ka, .inl (k.1 0, 8, .inl (ta_e (ta_u K 0 a)))), (ma, .inl (k.1 0, 8, .inl (ta_e M)))] := hD
  refine lv_aload_n hx hb dX1_replaceNext_7 rfl (lv_at hl 0 rfl) ?_
  refine ta_get C hP 0 inlX1 rfl rfl 1 (by decide) tw_62 rfl dX1_replaceNext_8 ?_
  refine ta_iconst C 0 dX1_replaceNext_11 (by decide) ?_
  refine lv_iload_n hx hb dX1_replaceNext_12 rfl (lv_at hl 2 rfl) ?_
  refine ta_iast C hP hD hS 2 rfl (i := 0) (v := b) (by omega) dX1_replaceNext_13 (fun H locs hP hD hS => ?_)
  have hP : va_P D vwCl [(h, .inr (1, [.ref ka, .ref ma, .int (nI n)])), (ka, .inl (k.1 0, 8, .inl (ta_e (ta_u K 0 a)))), (ma, .inl (k.1 0, 8, .inl (ta_e (ta_u M 0 b))))] H := hP
  have hD : va_D A [(h, .inr (1, [.ref ka, .ref ma, .int (nI n)])), (ka, .inl (k.1 0, 8, .inl (ta_e (ta_u K 0 a)))), (ma, .inl (k.1 0, 8, .inl (ta_e (ta_u M 0 b))))] := hD
  exact ret () dX1_replaceNext_14 trivial hP hD hS

set_option maxHeartbeats 4000000 in
set_option maxRecDepth 100000 in
theorem c_X1_dropNext (l : Launch) (D : va_G) (k : ta_C) (h : Nat) (ka : Nat) (ma : Nat) (K : Nat → Nat) (M : Nat → Nat) (n : Nat) (hn : 0 < n ∧ n ≤ 8) : ta_Mv (S := Unit) l D k yX1_dropNext cX1_dropNext 1 1 40 [.ref h] [(h, .inr (1, [.ref ka, .ref ma, .int (nI n)])), (ka, .inl (k.1 0, 8, .inl (ta_e K))), (ma, .inl (k.1 0, 8, .inl (ta_e M)))] (fun _ => True) (fun u => [(h, .inr (1, [.ref ka, .ref ma, .int (nI (n - 1))])), (ka, .inl (k.1 0, 8, .inl (ta_e (va_cpy K K 1 0 (n - 1))))), (ma, .inl (k.1 0, 8, .inl (ta_e (va_cpy M M 1 0 (n - 1)))))]) := by
  refine ta_enter_v (by decide) (Nat.le_of_ble_eq_true rfl) ?_
  intro p e s m below meth c A ls Q C ret hP hD hS hl
  have C : ta_At p l D k s m ([.ref h] : List Value).toArray c RX1 cX1_dropNext 1 A := C
  have hx := C.1.1
  have hb := C.1.2.1
  have hl : lv_has ls 1 [(0, .ref h)] := hl
  obtain ⟨H, hH⟩ : ∃ H, H = s.heap := ⟨_, rfl⟩
  obtain ⟨locs, hlocs⟩ : ∃ q : List Loc, q = [] := ⟨_, rfl⟩
  have hP : va_P D vwCl [(h, .inr (1, [.ref ka, .ref ma, .int (nI n)])), (ka, .inl (k.1 0, 8, .inl (ta_e K))), (ma, .inl (k.1 0, 8, .inl (ta_e M)))] H := by rw [hH]; exact hP
  have hS : va_S A s.heap H locs := by rw [hH, hlocs]; exact hS
  rw [← hlocs]
  suffices hgoal : W p l e ({ frames := 1, cells := 0, slots := 0, locals := 40 }) s m ([.ref h] : List Value).toArray below meth c H locs 0 0 Q (F0 m 0 ls []) by rw [hH] at hgoal; exact hgoal
  clear hH hlocs
  obtain ⟨hn1, hn2⟩ := hn
  refine lv_aload_n hx hb dX1_dropNext_0 rfl (lv_at hl 0 rfl) ?_
  refine ta_get C hP 0 inlX1 rfl rfl 2 (by decide) tw_63 rfl dX1_dropNext_1 ?_
  refine ta_ine C (a := n) (tgt := 8) (by omega) dX1_dropNext_4 (by decide) (fun c1 => ?_) (fun c1 => ?_)
  · refine lv_aload_n hx hb dX1_dropNext_8 rfl (lv_at hl 0 rfl) ?_
    refine lv_dup hx hb dX1_dropNext_9 rfl ?_
    refine ta_get C hP 0 inlX1 rfl rfl 2 (by decide) tw_63 rfl dX1_dropNext_10 ?_
    refine ta_iconst C 1 dX1_dropNext_13 (by decide) ?_
    refine ta_isub C (a := n) (b := 1) (by omega) dX1_dropNext_14 ?_
    refine ta_put C hP hD hS 0 inlX1 tyX1 tyX1_ok nmX1 rfl rfl 2 (by decide) tw_63 rfl rfl rfl (Nat.le_of_ble_eq_true rfl) dX1_dropNext_15 (fun H locs hP hD hS => ?_)
    have hP : va_P D vwCl [(h, .inr (1, [.ref ka, .ref ma, .int (nI (n - 1))])), (ka, .inl (k.1 0, 8, .inl (ta_e K))), (ma, .inl (k.1 0, 8, .inl (ta_e M)))] H := hP
    have hD : va_D A [(h, .inr (1, [.ref ka, .ref ma, .int (nI (n - 1))])), (ka, .inl (k.1 0, 8, .inl (ta_e K))), (ma, .inl (k.1 0, 8, .inl (ta_e M)))] := hD
    refine lv_aload_n hx hb dX1_dropNext_18 rfl (lv_at hl 0 rfl) ?_
    refine ta_get C hP 0 inlX1 rfl rfl 0 (by decide) tw_61 rfl dX1_dropNext_19 ?_
    refine ta_iconst C 1 dX1_dropNext_22 (by decide) ?_
    refine lv_aload_n hx hb dX1_dropNext_23 rfl (lv_at hl 0 rfl) ?_
    refine ta_get C hP 0 inlX1 rfl rfl 0 (by decide) tw_61 rfl dX1_dropNext_24 ?_
    refine ta_iconst C 0 dX1_dropNext_27 (by decide) ?_
    refine lv_aload_n hx hb dX1_dropNext_28 rfl (lv_at hl 0 rfl) ?_
    refine ta_get C hP 0 inlX1 rfl rfl 2 (by decide) tw_63 rfl dX1_dropNext_29 ?_
    refine ta_copy C hP hD hS 1 1 (sp := 1) (dp := 0) (n := n - 1) rfl rfl tw_117 hl.1 (by omega) (by omega) (Nat.le_of_ble_eq_true rfl) (Nat.le_of_ble_eq_true rfl) dX1_dropNext_32 (fun H locs hP hD hS => ?_)
    have hP : va_P D vwCl [(h, .inr (1, [.ref ka, .ref ma, .int (nI (n - 1))])), (ka, .inl (k.1 0, 8, .inl (ta_e (va_cpy K K 1 0 (n - 1))))), (ma, .inl (k.1 0, 8, .inl (ta_e M)))] H := hP
    have hD : va_D A [(h, .inr (1, [.ref ka, .ref ma, .int (nI (n - 1))])), (ka, .inl (k.1 0, 8, .inl (ta_e (va_cpy K K 1 0 (n - 1))))), (ma, .inl (k.1 0, 8, .inl (ta_e M)))] := hD
    refine lv_aload_n hx hb dX1_dropNext_35 rfl (lv_at hl 0 rfl) ?_
    refine ta_get C hP 0 inlX1 rfl rfl 1 (by decide) tw_62 rfl dX1_dropNext_36 ?_
    refine ta_iconst C 1 dX1_dropNext_39 (by decide) ?_
    refine lv_aload_n hx hb dX1_dropNext_40 rfl (lv_at hl 0 rfl) ?_
    refine ta_get C hP 0 inlX1 rfl rfl 1 (by decide) tw_62 rfl dX1_dropNext_41 ?_
    refine ta_iconst C 0 dX1_dropNext_44 (by decide) ?_
    refine lv_aload_n hx hb dX1_dropNext_45 rfl (lv_at hl 0 rfl) ?_
    refine ta_get C hP 0 inlX1 rfl rfl 2 (by decide) tw_63 rfl dX1_dropNext_46 ?_
    refine ta_copy C hP hD hS 2 2 (sp := 1) (dp := 0) (n := n - 1) rfl rfl tw_117 hl.1 (by omega) (by omega) (Nat.le_of_ble_eq_true rfl) (Nat.le_of_ble_eq_true rfl) dX1_dropNext_49 (fun H locs hP hD hS => ?_)
    have hP : va_P D vwCl [(h, .inr (1, [.ref ka, .ref ma, .int (nI (n - 1))])), (ka, .inl (k.1 0, 8, .inl (ta_e (va_cpy K K 1 0 (n - 1))))), (ma, .inl (k.1 0, 8, .inl (ta_e (va_cpy M M 1 0 (n - 1)))))] H := hP
    have hD : va_D A [(h, .inr (1, [.ref ka, .ref ma, .int (nI (n - 1))])), (ka, .inl (k.1 0, 8, .inl (ta_e (va_cpy K K 1 0 (n - 1))))), (ma, .inl (k.1 0, 8, .inl (ta_e (va_cpy M M 1 0 (n - 1)))))] := hD
    exact ret () dX1_dropNext_52 trivial hP hD hS
  · exfalso; omega

set_option maxHeartbeats 4000000 in
set_option maxRecDepth 100000 in
theorem c_X1_copyFrom (l : Launch) (D : va_G) (k : ta_C) (h : Nat) (ka : Nat) (ma : Nat) (K : Nat → Nat) (M : Nat → Nat) (n : Nat) (h2 : Nat) (ka2 : Nat) (ma2 : Nat) (K2 : Nat → Nat) (M2 : Nat → Nat) (n2 : Nat) (hn : n2 ≤ 8) : ta_Mv (S := Unit) l D k yX1_copyFrom cX1_copyFrom 2 1 40 [.ref h, .ref h2] [(h, .inr (1, [.ref ka, .ref ma, .int (nI n)])), (ka, .inl (k.1 0, 8, .inl (ta_e K))), (ma, .inl (k.1 0, 8, .inl (ta_e M))), (h2, .inr (1, [.ref ka2, .ref ma2, .int (nI n2)])), (ka2, .inl (k.1 0, 8, .inl (ta_e K2))), (ma2, .inl (k.1 0, 8, .inl (ta_e M2)))] (fun _ => True) (fun u => [(h, .inr (1, [.ref ka, .ref ma, .int (nI n2)])), (ka, .inl (k.1 0, 8, .inl (ta_e (va_cpy K2 K 0 0 n2)))), (ma, .inl (k.1 0, 8, .inl (ta_e (va_cpy M2 M 0 0 n2)))), (h2, .inr (1, [.ref ka2, .ref ma2, .int (nI n2)])), (ka2, .inl (k.1 0, 8, .inl (ta_e K2))), (ma2, .inl (k.1 0, 8, .inl (ta_e M2)))]) := by
  refine ta_enter_v (by decide) (Nat.le_of_ble_eq_true rfl) ?_
  intro p e s m below meth c A ls Q C ret hP hD hS hl
  have C : ta_At p l D k s m ([.ref h, .ref h2] : List Value).toArray c RX1 cX1_copyFrom 2 A := C
  have hx := C.1.1
  have hb := C.1.2.1
  have hl : lv_has ls 2 [(0, .ref h), (1, .ref h2)] := hl
  obtain ⟨H, hH⟩ : ∃ H, H = s.heap := ⟨_, rfl⟩
  obtain ⟨locs, hlocs⟩ : ∃ q : List Loc, q = [] := ⟨_, rfl⟩
  have hP : va_P D vwCl [(h, .inr (1, [.ref ka, .ref ma, .int (nI n)])), (ka, .inl (k.1 0, 8, .inl (ta_e K))), (ma, .inl (k.1 0, 8, .inl (ta_e M))), (h2, .inr (1, [.ref ka2, .ref ma2, .int (nI n2)])), (ka2, .inl (k.1 0, 8, .inl (ta_e K2))), (ma2, .inl (k.1 0, 8, .inl (ta_e M2)))] H := by rw [hH]; exact hP
  have hS : va_S A s.heap H locs := by rw [hH, hlocs]; exact hS
  rw [← hlocs]
  suffices hgoal : W p l e ({ frames := 1, cells := 0, slots := 0, locals := 40 }) s m ([.ref h, .ref h2] : List Value).toArray below meth c H locs 0 0 Q (F0 m 0 ls []) by rw [hH] at hgoal; exact hgoal
  clear hH hlocs
  refine lv_aload_n hx hb dX1_copyFrom_0 rfl (lv_at hl 0 rfl) ?_
  refine lv_aload_n hx hb dX1_copyFrom_1 rfl (lv_at hl 1 rfl) ?_
  refine ta_get C hP 3 inlX1 rfl rfl 2 (by decide) tw_63 rfl dX1_copyFrom_2 ?_
  refine ta_put C hP hD hS 0 inlX1 tyX1 tyX1_ok nmX1 rfl rfl 2 (by decide) tw_63 rfl rfl rfl (Nat.le_of_ble_eq_true rfl) dX1_copyFrom_5 (fun H locs hP hD hS => ?_)
  have hP : va_P D vwCl [(h, .inr (1, [.ref ka, .ref ma, .int (nI n2)])), (ka, .inl (k.1 0, 8, .inl (ta_e K))), (ma, .inl (k.1 0, 8, .inl (ta_e M))), (h2, .inr (1, [.ref ka2, .ref ma2, .int (nI n2)])), (ka2, .inl (k.1 0, 8, .inl (ta_e K2))), (ma2, .inl (k.1 0, 8, .inl (ta_e M2)))] H := hP
  have hD : va_D A [(h, .inr (1, [.ref ka, .ref ma, .int (nI n2)])), (ka, .inl (k.1 0, 8, .inl (ta_e K))), (ma, .inl (k.1 0, 8, .inl (ta_e M))), (h2, .inr (1, [.ref ka2, .ref ma2, .int (nI n2)])), (ka2, .inl (k.1 0, 8, .inl (ta_e K2))), (ma2, .inl (k.1 0, 8, .inl (ta_e M2)))] := hD
  refine lv_aload_n hx hb dX1_copyFrom_8 rfl (lv_at hl 1 rfl) ?_
  refine ta_get C hP 3 inlX1 rfl rfl 0 (by decide) tw_61 rfl dX1_copyFrom_9 ?_
  refine ta_iconst C 0 dX1_copyFrom_12 (by decide) ?_
  refine lv_aload_n hx hb dX1_copyFrom_13 rfl (lv_at hl 0 rfl) ?_
  refine ta_get C hP 0 inlX1 rfl rfl 0 (by decide) tw_61 rfl dX1_copyFrom_14 ?_
  refine ta_iconst C 0 dX1_copyFrom_17 (by decide) ?_
  refine lv_aload_n hx hb dX1_copyFrom_18 rfl (lv_at hl 0 rfl) ?_
  refine ta_get C hP 0 inlX1 rfl rfl 2 (by decide) tw_63 rfl dX1_copyFrom_19 ?_
  refine ta_copy C hP hD hS 4 1 (sp := 0) (dp := 0) (n := n2) rfl rfl tw_117 hl.1 (by omega) (by omega) (Nat.le_of_ble_eq_true rfl) (Nat.le_of_ble_eq_true rfl) dX1_copyFrom_22 (fun H locs hP hD hS => ?_)
  have hP : va_P D vwCl [(h, .inr (1, [.ref ka, .ref ma, .int (nI n2)])), (ka, .inl (k.1 0, 8, .inl (ta_e (va_cpy K2 K 0 0 n2)))), (ma, .inl (k.1 0, 8, .inl (ta_e M))), (h2, .inr (1, [.ref ka2, .ref ma2, .int (nI n2)])), (ka2, .inl (k.1 0, 8, .inl (ta_e K2))), (ma2, .inl (k.1 0, 8, .inl (ta_e M2)))] H := hP
  have hD : va_D A [(h, .inr (1, [.ref ka, .ref ma, .int (nI n2)])), (ka, .inl (k.1 0, 8, .inl (ta_e (va_cpy K2 K 0 0 n2)))), (ma, .inl (k.1 0, 8, .inl (ta_e M))), (h2, .inr (1, [.ref ka2, .ref ma2, .int (nI n2)])), (ka2, .inl (k.1 0, 8, .inl (ta_e K2))), (ma2, .inl (k.1 0, 8, .inl (ta_e M2)))] := hD
  refine lv_aload_n hx hb dX1_copyFrom_25 rfl (lv_at hl 1 rfl) ?_
  refine ta_get C hP 3 inlX1 rfl rfl 1 (by decide) tw_62 rfl dX1_copyFrom_26 ?_
  refine ta_iconst C 0 dX1_copyFrom_29 (by decide) ?_
  refine lv_aload_n hx hb dX1_copyFrom_30 rfl (lv_at hl 0 rfl) ?_
  refine ta_get C hP 0 inlX1 rfl rfl 1 (by decide) tw_62 rfl dX1_copyFrom_31 ?_
  refine ta_iconst C 0 dX1_copyFrom_34 (by decide) ?_
  refine lv_aload_n hx hb dX1_copyFrom_35 rfl (lv_at hl 0 rfl) ?_
  refine ta_get C hP 0 inlX1 rfl rfl 2 (by decide) tw_63 rfl dX1_copyFrom_36 ?_
  refine ta_copy C hP hD hS 5 2 (sp := 0) (dp := 0) (n := n2) rfl rfl tw_117 hl.1 (by omega) (by omega) (Nat.le_of_ble_eq_true rfl) (Nat.le_of_ble_eq_true rfl) dX1_copyFrom_39 (fun H locs hP hD hS => ?_)
  have hP : va_P D vwCl [(h, .inr (1, [.ref ka, .ref ma, .int (nI n2)])), (ka, .inl (k.1 0, 8, .inl (ta_e (va_cpy K2 K 0 0 n2)))), (ma, .inl (k.1 0, 8, .inl (ta_e (va_cpy M2 M 0 0 n2)))), (h2, .inr (1, [.ref ka2, .ref ma2, .int (nI n2)])), (ka2, .inl (k.1 0, 8, .inl (ta_e K2))), (ma2, .inl (k.1 0, 8, .inl (ta_e M2)))] H := hP
  have hD : va_D A [(h, .inr (1, [.ref ka, .ref ma, .int (nI n2)])), (ka, .inl (k.1 0, 8, .inl (ta_e (va_cpy K2 K 0 0 n2)))), (ma, .inl (k.1 0, 8, .inl (ta_e (va_cpy M2 M 0 0 n2)))), (h2, .inr (1, [.ref ka2, .ref ma2, .int (nI n2)])), (ka2, .inl (k.1 0, 8, .inl (ta_e K2))), (ma2, .inl (k.1 0, 8, .inl (ta_e M2)))] := hD
  exact ret () dX1_copyFrom_42 trivial hP hD hS
