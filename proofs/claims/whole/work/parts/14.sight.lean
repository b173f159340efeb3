/-! many minutes -/
def tg_it (t g : Nat → Nat) : Nat → Nat → Nat
  | 0 => g
  | n + 1 => tg_go t (tg_it t g n)
theorem tg_ok_it {t g : Nat → Nat} (ho : tg_ok t g) : ∀ n, tg_ok t (tg_it t g n)
  | 0 => ho
  | n + 1 => tg_ok_go (tg_ok_it ho n)
theorem tg_it_0 {t g : Nat → Nat} (ho : tg_ok t g) : ∀ n, g 0 ≤ tg_it t g n 0 ∧ tg_it t g n 0 ≤ g 0 + n
  | 0 => ⟨Nat.le_refl _, Nat.le_refl _⟩
  | n + 1 => by
    have h1 := tg_it_0 ho n
    have h2 := tg_go_0 (tg_ok_it ho n)
    show g 0 ≤ tg_go t (tg_it t g n) 0 ∧ tg_go t (tg_it t g n) 0 ≤ g 0 + (n + 1)
    omega
def siW (k : ta_C) (z : Nat → Nat) (n : Nat) (c m : Nat → Nat) : va_W := [(z 0, .inr (5, [.ref (z 1), .ref (z 2), .int (nI n)])), (z 1, .inl (k.1 0, 6, .inl (ta_e c))), (z 2, .inl (k.1 0, 6, .inl (ta_e m)))]
def tg_lat (m : Nat → Nat) : Nat → Nat
  | 0 => 0
  | n + 1 => max (tg_lat m n) (m n)
theorem tg_lat_b {m : Nat → Nat} {b : Nat} : ∀ {n : Nat}, (∀ j, j < n → m j ≤ b) → tg_lat m n ≤ b
  | 0, _ => Nat.zero_le _
  | n + 1, h => Nat.max_le.mpr ⟨tg_lat_b (fun j hj => h j (by omega)), h n (by omega)⟩
theorem tg_lat_g {m : Nat → Nat} : ∀ {n : Nat} {j : Nat}, j < n → m j ≤ tg_lat m n
  | n + 1, j, h => by
    show m j ≤ max (tg_lat m n) (m n)
    rcases Nat.lt_or_ge j n with h1 | h1
    · exact Nat.le_trans (tg_lat_g h1) (Nat.le_max_left _ _)
    · rw [show j = n by omega]; exact Nat.le_max_right _ _
/-- all that is seen would be so -/
def tg_so (t g : Nat → Nat) (n : Nat) (c m : Nat → Nat) : Prop := ∀ i, i < n → tg_it t g (m i) 2 = c i
set_option maxHeartbeats 4000000 in
set_option maxRecDepth 100000 in
theorem c_X0_goMinutes (l : Launch) (D : va_G) (k : ta_C) (q : Nat → Nat) (t : Nat → Nat) (g : Nat → Nat) (X : Nat → Nat → Nat) (n : Nat) (hok : tg_ok t g) (h0 : g 0 + n < 1073741824) (hX : tg_X g X) : ta_Mv (S := Nat → Nat → Nat) l D k yX0_goMinutes cX0_goMinutes 3 4 130 [.ref (q 0), .int (nI n)] (dyW k q t g X) (fun u => tg_X (tg_it t g n) u) (fun u => (dyW k q t (tg_it t g n) u)) := by
  refine ta_enter_v (by decide) (Nat.le_of_ble_eq_true rfl) ?_
  intro p e s m below meth c A ls Q C ret hP hD hS hl
  have C : ta_At p l D k s m ([.ref (q 0), .int (nI n)] : List Value).toArray c RX0 cX0_goMinutes 3 A := C
  have hx := C.1.1
  have hb := C.1.2.1
  have hl : lv_has ls 3 [(0, .ref (q 0)), (1, .int (nI n))] := hl
  obtain ⟨H, hH⟩ : ∃ H, H = s.heap := ⟨_, rfl⟩
  obtain ⟨locs, hlocs⟩ : ∃ q : List Loc, q = [] := ⟨_, rfl⟩
  have hP : va_P D vwCl (dyW k q t g X) H := by rw [hH]; exact hP
  have hS : va_S A s.heap H locs := by rw [hH, hlocs]; exact hS
  rw [← hlocs]
  suffices hgoal : W p l e ({ frames := 4, cells := 0, slots := 0, locals := 130 }) s m ([.ref (q 0), .int (nI n)] : List Value).toArray below meth c H locs 0 0 Q (F0 m 0 ls []) by rw [hH] at hgoal; exact hgoal
  clear hH hlocs
  refine ta_iconst C 0 dX0_goMinutes_0 (by decide) ?_
  refine lv_istore_n (lv' := [(2, .int (nI 0)), (0, .ref (q 0)), (1, .int (nI n))]) hx hb dX0_goMinutes_1 rfl hl (by decide) rfl (fun ls hl => ?_)
  have loop_2 : ∀ (N_2 : Nat) (i : Nat) (Z : Nat → Nat → Nat), (i ≤ n) → (tg_X (tg_it t g i) Z) → n - i < N_2 → ∀ (H : Heap) (locs : List Loc) (ls : Array Slot), va_P D vwCl (dyW k q t (tg_it t g i) Z) H → va_D A (dyW k q t (tg_it t g i) Z) → va_S A s.heap H locs → lv_has ls 3 [(2, .int (nI i)), (0, .ref (q 0)), (1, .int (nI n))] → W p l e ({ frames := 4, cells := 0, slots := 0, locals := 130 }) s m ([.ref (q 0), .int (nI n)] : List Value).toArray below meth c H locs 0 0 Q (F0 m 2 ls []) := by
    clear hP hD hS hl
    intro N_2
    induction N_2 with
    | zero =>
      intro i Z h1 hZ hf_2
      exact absurd hf_2 (Nat.not_lt_zero _)
    | succ N_2 ih_2 =>
      intro i Z h1 hZ hf_2 H locs ls hP hD hS hl
      refine lv_iload_n hx hb dX0_goMinutes_2 rfl (lv_at hl 0 rfl) ?_
      refine lv_iload_n hx hb dX0_goMinutes_3 rfl (lv_at hl 2 rfl) ?_
      refine ta_cge C (a := i) (b := n) (tgt := 18) (by omega) (by omega) dX0_goMinutes_4 (by decide) (fun c1 => ?_) (fun c1 => ?_)
      · obtain rfl : i = n := by omega
        exact ret Z dX0_goMinutes_18 hZ hP hD hS
      · refine lv_aload_n hx hb dX0_goMinutes_7 rfl (lv_at hl 1 rfl) ?_
        refine ta_callVi (As := []) (rest0 := []) (Wr := []) C hP hD hS (c_X0_goMinute l D k q t (tg_it t g i) Z (tg_ok_it hok i) (by have := tg_it_0 hok i; omega) hZ) 0 rfl rfl rfl [0, 1, 2, 3, 4, 5, 6, 7, 8, 9, 10] [] rfl rfl (by decide) (by decide) (by decide) tw_443 tw_440 tw_26 tw_441 tw_442 ⟨by decide, by decide, rfl⟩ ⟨Nat.le_of_ble_eq_true rfl, Nat.le_of_ble_eq_true rfl⟩ ⟨Nat.zero_le _, Nat.zero_le _⟩ hl.1 rfl (Nat.le_of_ble_eq_true rfl) dX0_goMinutes_8 (fun r2 u3 H locs h4 hP hD hS => ?_)
        obtain ⟨u_5, hu0⟩ : ∃ z, z = u3 := ⟨_, rfl⟩
        subst hu0
        obtain ⟨rfl, hX6⟩ := h4
        have hP : va_P D vwCl (dyW k q t (tg_go t (tg_it t g i)) u_5) H := hP
        have hD : va_D A (dyW k q t (tg_go t (tg_it t g i)) u_5) := hD
        refine lv_pop hx hb dX0_goMinutes_11 rfl ?_
        refine lv_iinc (v := nI (i + 1)) (lv' := [(2, .int (nI (i + 1))), (0, .ref (q 0)), (1, .int (nI n))]) hx hb dX0_goMinutes_12 hl (k := 0) rfl (ta_inc1 _) (by decide) rfl (fun ls hl => ?_)
        refine lv_goto (tgt := 2) hx hb dX0_goMinutes_15 (by decide) ?_
        exact ih_2 (i + 1) u_5 (by omega) hX6 (by omega) _ _ _ hP hD hS (lv_sub hl [0, 1, 2] rfl)
  exact loop_2 ((n - 0) + 1) 0 X (by omega) hX (Nat.lt_succ_self _) _ _ _ hP hD hS (lv_sub hl [0, 1, 2] rfl)

set_option maxHeartbeats 4000000 in
set_option maxRecDepth 100000 in
theorem c_X5_append (l : Launch) (D : va_G) (k : ta_C) (z : Nat → Nat) (n : Nat) (c_ : Nat → Nat) (m_ : Nat → Nat) (a : Nat) (b : Nat) (hn : n < 6) : ta_Mi (S := Unit) l D k yX5_append cX5_append 3 .boolean 0 0 [.ref (z 0), .int (nI a), .int (nI b)] (siW k z n c_ m_) (fun r _ => r = nI 1) (fun u => (siW k z (n + 1) (ta_u c_ n a) (ta_u m_ n b))) := by
  refine ta_enter_i (by decide) (Nat.le_of_ble_eq_true rfl) ?_
  intro p e s m below meth c A ls Q C ret hP hD hS hl
  have C : ta_At p l D k s m ([.ref (z 0), .int (nI a), .int (nI b)] : List Value).toArray c RX5 cX5_append 3 A := C
  have hx := C.1.1
  have hb := C.1.2.1
  have hl : lv_has ls 3 [(0, .ref (z 0)), (1, .int (nI a)), (2, .int (nI b))] := hl
  obtain ⟨H, hH⟩ : ∃ H, H = s.heap := ⟨_, rfl⟩
  obtain ⟨locs, hlocs⟩ : ∃ q : List Loc, q = [] := ⟨_, rfl⟩
  have hP : va_P D vwCl (siW k z n c_ m_) H := by rw [hH]; exact hP
  have hS : va_S A s.heap H locs := by rw [hH, hlocs]; exact hS
  rw [← hlocs]
  suffices hgoal : W p l e ({ frames := 0, cells := 0, slots := 0, locals := 0 }) s m ([.ref (z 0), .int (nI a), .int (nI b)] : List Value).toArray below meth c H locs 0 0 Q (F0 m 0 ls []) by rw [hH] at hgoal; exact hgoal
  clear hH hlocs
  have hP : va_P D vwCl [(z 0, .inr (5, [.ref (z 1), .ref (z 2), .int (nI n)])), (z 1, .inl (k.1 0, 6, .inl (ta_e c_))), (z 2, .inl (k.1 0, 6, .inl (ta_e m_)))] H := hP
  have hD : va_D A [(z 0, .inr (5, [.ref (z 1), .ref (z 2), .int (nI n)])), (z 1, .inl (k.1 0, 6, .inl (ta_e c_))), (z 2, .inl (k.1 0, 6, .inl (ta_e m_)))] := hD
  refine lv_aload_n hx hb dX5_append_0 rfl (lv_at hl 0 rfl) ?_
  refine ta_get C hP 0 inlX5 rfl rfl 2 (by decide) tw_95 rfl dX5_append_1 ?_
  refine ta_bipush C 6 dX5_append_4 (by decide) ?_
  refine ta_clt C (a := n) (b := 6) (tgt := 11) (by omega) (by omega) dX5_append_6 (by decide) (fun c1 => ?_) (fun c1 => ?_)
  · refine lv_aload_n hx hb dX5_append_11 rfl (lv_at hl 0 rfl) ?_
    refine ta_get C hP 0 inlX5 rfl rfl 0 (by decide) tw_93 rfl dX5_append_12 ?_
    refine lv_aload_n hx hb dX5_append_15 rfl (lv_at hl 0 rfl) ?_
    refine ta_get C hP 0 inlX5 rfl rfl 2 (by decide) tw_95 rfl dX5_append_16 ?_
    refine lv_iload_n hx hb dX5_append_19 rfl (lv_at hl 1 rfl) ?_
    refine ta_iast C hP hD hS 1 rfl (i := n) (v := a) (by omega) dX5_append_20 (fun H locs hP hD hS => ?_)
    have hP : va_P D vwCl [(z 0, .inr (5, [.ref (z 1), .ref (z 2), .int (nI n)])), (z 1, .inl (k.1 0, 6, .inl (ta_e (ta_u c_ n a)))), (z 2, .inl (k.1 0, 6, .inl (ta_e m_)))] H := hP
    have hD : va_D A [(z 0, .inr (5, [.ref (z 1), .ref (z 2), .int (nI n)])), (z 1, .inl (k.1 0, 6, .inl (ta_e (ta_u c_ n a)))), (z 2, .inl (k.1 0, 6, .inl (ta_e m_)))] := hD
    refine lv_aload_n hx hb dX5_append_21 rfl (lv_at hl 0 rfl) ?_
    refine ta_get C hP 0 inlX5 rfl rfl 1 (by decide) tw_94 rfl dX5_append_22 ?_
    refine lv_aload_n hx hb dX5_append_25 rfl (lv_at hl 0 rfl) ?_
    refine ta_get C hP 0 inlX5 rfl rfl 2 (by decide) tw_95 rfl dX5_append_26 ?_
    refine lv_iload_n hx hb dX5_append_29 rfl (lv_at hl 2 rfl) ?_
    refine ta_iast C hP hD hS 2 rfl (i := n) (v := b) (by omega) dX5_append_30 (fun H locs hP hD hS => ?_)
    have hP : va_P D vwCl [(z 0, .inr (5, [.ref (z 1), .ref (z 2), .int (nI n)])), (z 1, .inl (k.1 0, 6, .inl (ta_e (ta_u c_ n a)))), (z 2, .inl (k.1 0, 6, .inl (ta_e (ta_u m_ n b))))] H := hP
    have hD : va_D A [(z 0, .inr (5, [.ref (z 1), .ref (z 2), .int (nI n)])), (z 1, .inl (k.1 0, 6, .inl (ta_e (ta_u c_ n a)))), (z 2, .inl (k.1 0, 6, .inl (ta_e (ta_u m_ n b))))] := hD
    refine lv_aload_n hx hb dX5_append_31 rfl (lv_at hl 0 rfl) ?_
    refine lv_dup hx hb dX5_append_32 rfl ?_
    refine ta_get C hP 0 inlX5 rfl rfl 2 (by decide) tw_95 rfl dX5_append_33 ?_
    refine ta_iconst C 1 dX5_append_36 (by decide) ?_
    refine ta_iadd C (a := n) (b := 1) dX5_append_37 ?_
    refine ta_put C hP hD hS 0 inlX5 tyX5 tyX5_ok nmX5 rfl rfl 2 (by decide) tw_95 rfl rfl rfl (Nat.le_of_ble_eq_true rfl) dX5_append_38 (fun H locs hP hD hS => ?_)
    have hP : va_P D vwCl [(z 0, .inr (5, [.ref (z 1), .ref (z 2), .int (nI (n + 1))])), (z 1, .inl (k.1 0, 6, .inl (ta_e (ta_u c_ n a)))), (z 2, .inl (k.1 0, 6, .inl (ta_e (ta_u m_ n b))))] H := hP
    have hD : va_D A [(z 0, .inr (5, [.ref (z 1), .ref (z 2), .int (nI (n + 1))])), (z 1, .inl (k.1 0, 6, .inl (ta_e (ta_u c_ n a)))), (z 2, .inl (k.1 0, 6, .inl (ta_e (ta_u m_ n b))))] := hD
    refine ta_iconst C 1 dX5_append_41 (by decide) ?_
    exact ret (nI 1) () dX5_append_42 (by decide) rfl hP hD hS
  · exfalso; omega

set_option maxHeartbeats 4000000 in
set_option maxRecDepth 100000 in
theorem c_X5_append_f (l : Launch) (D : va_G) (k : ta_C) (z : Nat → Nat) (n : Nat) (c_ : Nat → Nat) (m_ : Nat → Nat) (a : Nat) (b : Nat) (hn : 6 ≤ n ∧ n < 100) : ta_Mi (S := Unit) l D k yX5_append cX5_append 3 .boolean 0 0 [.ref (z 0), .int (nI a), .int (nI b)] (siW k z n c_ m_) (fun r _ => r = nI 0) (fun u => (siW k z n c_ m_)) := by
  refine ta_enter_i (by decide) (Nat.le_of_ble_eq_true rfl) ?_
  intro p e s m below meth c A ls Q C ret hP hD hS hl
  have C : ta_At p l D k s m ([.ref (z 0), .int (nI a), .int (nI b)] : List Value).toArray c RX5 cX5_append 3 A := C
  have hx := C.1.1
  have hb := C.1.2.1
  have hl : lv_has ls 3 [(0, .ref (z 0)), (1, .int (nI a)), (2, .int (nI b))] := hl
  obtain ⟨H, hH⟩ : ∃ H, H = s.heap := ⟨_, rfl⟩
  obtain ⟨locs, hlocs⟩ : ∃ q : List Loc, q = [] := ⟨_, rfl⟩
  have hP : va_P D vwCl (siW k z n c_ m_) H := by rw [hH]; exact hP
  have hS : va_S A s.heap H locs := by rw [hH, hlocs]; exact hS
  rw [← hlocs]
  suffices hgoal : W p l e ({ frames := 0, cells := 0, slots := 0, locals := 0 }) s m ([.ref (z 0), .int (nI a), .int (nI b)] : List Value).toArray below meth c H locs 0 0 Q (F0 m 0 ls []) by rw [hH] at hgoal; exact hgoal
  clear hH hlocs
  have hP : va_P D vwCl [(z 0, .inr (5, [.ref (z 1), .ref (z 2), .int (nI n)])), (z 1, .inl (k.1 0, 6, .inl (ta_e c_))), (z 2, .inl (k.1 0, 6, .inl (ta_e m_)))] H := hP
  have hD : va_D A [(z 0, .inr (5, [.ref (z 1), .ref (z 2), .int (nI n)])), (z 1, .inl (k.1 0, 6, .inl (ta_e c_))), (z 2, .inl (k.1 0, 6, .inl (ta_e m_)))] := hD
  refine lv_aload_n hx hb dX5_append_0 rfl (lv_at hl 0 rfl) ?_
  refine ta_get C hP 0 inlX5 rfl rfl 2 (by decide) tw_95 rfl dX5_append_1 ?_
  refine ta_bipush C 6 dX5_append_4 (by decide) ?_
  refine ta_clt C (a := n) (b := 6) (tgt := 11) (by omega) (by omega) dX5_append_6 (by decide) (fun c1 => ?_) (fun c1 => ?_)
  · exfalso; omega
  · refine ta_iconst C 0 dX5_append_9 (by decide) ?_
    exact ret (nI 0) () dX5_append_10 (by decide) rfl hP hD hS

set_option maxHeartbeats 4000000 in
set_option maxRecDepth 100000 in
theorem c_X5_latestTime (l : Launch) (D : va_G) (k : ta_C) (z : Nat → Nat) (n : Nat) (c_ : Nat → Nat) (m_ : Nat → Nat) (hn : n ≤ 6) (hm : ∀ j, j < n → m_ j ≤ 60) : ta_Mi (S := Unit) l D k yX5_latestTime cX5_latestTime 3 .int 1 40 [.ref (z 0)] (siW k z n c_ m_) (fun r _ => r = nI (tg_lat m_ n)) (fun u => (siW k z n c_ m_)) := by
  refine ta_enter_i (by decide) (Nat.le_of_ble_eq_true rfl) ?_
  intro p e s m below meth c A ls Q C ret hP hD hS hl
  have C : ta_At p l D k s m ([.ref (z 0)] : List Value).toArray c RX5 cX5_latestTime 3 A := C
  have hx := C.1.1
  have hb := C.1.2.1
  have hl : lv_has ls 3 [(0, .ref (z 0))] := hl
  obtain ⟨H, hH⟩ : ∃ H, H = s.heap := ⟨_, rfl⟩
  obtain ⟨locs, hlocs⟩ : ∃ q : List Loc, q = [] := ⟨_, rfl⟩
  have hP : va_P D vwCl (siW k z n c_ m_) H := by rw [hH]; exact hP
  have hS : va_S A s.heap H locs := by rw [hH, hlocs]; exact hS
  rw [← hlocs]
  suffices hgoal : W p l e ({ frames := 1, cells := 0, slots := 0, locals := 40 }) s m ([.ref (z 0)] : List Value).toArray below meth c H locs 0 0 Q (F0 m 0 ls []) by rw [hH] at hgoal; exact hgoal
  clear hH hlocs
  have hP : va_P D vwCl [(z 0, .inr (5, [.ref (z 1), .ref (z 2), .int (nI n)])), (z 1, .inl (k.1 0, 6, .inl (ta_e c_))), (z 2, .inl (k.1 0, 6, .inl (ta_e m_)))] H := hP
  have hD : va_D A [(z 0, .inr (5, [.ref (z 1), .ref (z 2), .int (nI n)])), (z 1, .inl (k.1 0, 6, .inl (ta_e c_))), (z 2, .inl (k.1 0, 6, .inl (ta_e m_)))] := hD
  refine ta_iconst C 0 dX5_latestTime_0 (by decide) ?_
  refine lv_istore_n (lv' := [(1, .int (nI 0)), (0, .ref (z 0))]) hx hb dX5_latestTime_1 rfl hl (by decide) rfl (fun ls hl => ?_)
  refine ta_iconst C 0 dX5_latestTime_2 (by decide) ?_
  refine lv_istore_n (lv' := [(2, .int (nI 0)), (1, .int (nI 0)), (0, .ref (z 0))]) hx hb dX5_latestTime_3 rfl hl (by decide) rfl (fun ls hl => ?_)
  have loop_4 : ∀ (N_4 : Nat) (i : Nat), (i ≤ n) → n - i < N_4 → ∀ (H : Heap) (locs : List Loc) (ls : Array Slot), va_P D vwCl [(z 0, .inr (5, [.ref (z 1), .ref (z 2), .int (nI n)])), (z 1, .inl (k.1 0, 6, .inl (ta_e c_))), (z 2, .inl (k.1 0, 6, .inl (ta_e m_)))] H → va_D A [(z 0, .inr (5, [.ref (z 1), .ref (z 2), .int (nI n)])), (z 1, .inl (k.1 0, 6, .inl (ta_e c_))), (z 2, .inl (k.1 0, 6, .inl (ta_e m_)))] → va_S A s.heap H locs → lv_has ls 3 [(2, .int (nI i)), (1, .int (nI (tg_lat m_ i))), (0, .ref (z 0))] → W p l e ({ frames := 1, cells := 0, slots := 0, locals := 40 }) s m ([.ref (z 0)] : List Value).toArray below meth c H locs 0 0 Q (F0 m 4 ls []) := by
    clear hP hD hS hl
    intro N_4
    induction N_4 with
    | zero =>
      intro i h1 hf_4
      exact absurd hf_4 (Nat.not_lt_zero _)
    | succ N_4 ih_4 =>
      intro i h1 hf_4 H locs ls hP hD hS hl
      refine lv_iload_n hx hb dX5_latestTime_4 rfl (lv_at hl 0 rfl) ?_
      refine lv_aload_n hx hb dX5_latestTime_5 rfl (lv_at hl 2 rfl) ?_
      refine ta_get C hP 0 inlX5 rfl rfl 2 (by decide) tw_95 rfl dX5_latestTime_6 ?_
      refine ta_cge C (a := i) (b := n) (tgt := 29) (by omega) (by omega) dX5_latestTime_9 (by decide) (fun c1 => ?_) (fun c1 => ?_)
      · refine lv_iload_n hx hb dX5_latestTime_29 rfl (lv_at hl 1 rfl) ?_
        obtain rfl : i = n := by omega
        exact ret _ () dX5_latestTime_30 rfl rfl hP hD hS
      · refine lv_iload_n hx hb dX5_latestTime_12 rfl (lv_at hl 1 rfl) ?_
        refine lv_aload_n hx hb dX5_latestTime_13 rfl (lv_at hl 2 rfl) ?_
        refine ta_get C hP 0 inlX5 rfl rfl 1 (by decide) tw_94 rfl dX5_latestTime_14 ?_
        refine lv_iload_n hx hb dX5_latestTime_17 rfl (lv_at hl 0 rfl) ?_
        refine ta_iald C hP 2 rfl (i := i) (by omega) dX5_latestTime_18 ?_
        have hmi := hm i (by omega)
        have hla : tg_lat m_ i ≤ 60 := tg_lat_b (fun j hj => hm j (by omega))
        refine va_mmax hx hb (by rw [C.1.2.2.1]; exact hl.1.symm) C.1.2.2.2.1 (C.1.2.2.2.2 _ tw_621) (C.1.2.2.2.2 _ tw_622) (C.1.2.2.2.2 _ tw_191) (C.1.2.2.2.2 _ tw_623) (Nat.le_of_ble_eq_true rfl) (Nat.le_of_ble_eq_true rfl) (Nat.zero_le _) (Nat.zero_le _) dX5_latestTime_19 ?_
        refine ta_val (y := nI (max (tg_lat m_ i) (m_ i))) (ta_max (by omega) (by omega)) ?_
        refine lv_istore_n (lv' := [(1, .int (nI (max (tg_lat m_ i) (m_ i)))), (2, .int (nI i)), (0, .ref (z 0))]) hx hb dX5_latestTime_22 rfl hl (by decide) rfl (fun ls hl => ?_)
        refine lv_iinc (v := nI (i + 1)) (lv' := [(2, .int (nI (i + 1))), (1, .int (nI (max (tg_lat m_ i) (m_ i)))), (0, .ref (z 0))]) hx hb dX5_latestTime_23 hl (k := 1) rfl (ta_inc1 _) (by decide) rfl (fun ls hl => ?_)
        refine lv_goto (tgt := 4) hx hb dX5_latestTime_26 (by decide) ?_
        exact ih_4 (i + 1) (by omega) (by omega) _ _ _ hP hD hS (lv_sub hl [0, 1, 2] rfl)
  exact loop_4 ((n - 0) + 1) 0 (by omega) (Nat.lt_succ_self _) _ _ _ hP hD hS (lv_sub hl [0, 1, 2] rfl)

set_option maxHeartbeats 4000000 in
set_option maxRecDepth 100000 in
theorem c_X5_agreeWith (l : Launch) (D : va_G) (k : ta_C) (z : Nat → Nat) (n : Nat) (c_ : Nat → Nat) (m_ : Nat → Nat) (a : Nat) (b : Nat) (hn : n ≤ 6) (hm : ∀ j, j < n → m_ j ≤ 60) (hc : ∀ j, j < n → c_ j < 36) (ha : a < 36) (hb0 : b < 100) : ta_Mi (S := Unit) l D k yX5_agreeWith cX5_agreeWith 4 .boolean 0 0 [.ref (z 0), .int (nI a), .int (nI b)] (siW k z n c_ m_) (fun r _ => ((∀ i, i < n → m_ i = b → c_ i = a) ∧ r = nI 1) ∨ ((∃ i, i < n ∧ m_ i = b ∧ c_ i ≠ a) ∧ r = nI 0)) (fun u => (siW k z n c_ m_)) := by
  refine ta_enter_i (by decide) (Nat.le_of_ble_eq_true rfl) ?_
  intro p e s m below meth c A ls Q C ret hP hD hS hl
  have C : ta_At p l D k s m ([.ref (z 0), .int (nI a), .int (nI b)] : List Value).toArray c RX5 cX5_agreeWith 4 A := C
  have hx := C.1.1
  have hb := C.1.2.1
  have hl : lv_has ls 4 [(0, .ref (z 0)), (1, .int (nI a)), (2, .int (nI b))] := hl
  obtain ⟨H, hH⟩ : ∃ H, H = s.heap := ⟨_, rfl⟩
  obtain ⟨locs, hlocs⟩ : ∃ q : List Loc, q = [] := ⟨_, rfl⟩
  have hP : va_P D vwCl (siW k z n c_ m_) H := by rw [hH]; exact hP
  have hS : va_S A s.heap H locs := by rw [hH, hlocs]; exact hS
  rw [← hlocs]
  suffices hgoal : W p l e ({ frames := 0, cells := 0, slots := 0, locals := 0 }) s m ([.ref (z 0), .int (nI a), .int (nI b)] : List Value).toArray below meth c H locs 0 0 Q (F0 m 0 ls []) by rw [hH] at hgoal; exact hgoal
  clear hH hlocs
  have hP : va_P D vwCl [(z 0, .inr (5, [.ref (z 1), .ref (z 2), .int (nI n)])), (z 1, .inl (k.1 0, 6, .inl (ta_e c_))), (z 2, .inl (k.1 0, 6, .inl (ta_e m_)))] H := hP
  have hD : va_D A [(z 0, .inr (5, [.ref (z 1), .ref (z 2), .int (nI n)])), (z 1, .inl (k.1 0, 6, .inl (ta_e c_))), (z 2, .inl (k.1 0, 6, .inl (ta_e m_)))] := hD
  refine ta_iconst C 0 dX5_agreeWith_0 (by decide) ?_
  refine lv_istore_n (lv' := [(3, .int (nI 0)), (0, .ref (z 0)), (1, .int (nI a)), (2, .int (nI b))]) hx hb dX5_agreeWith_1 rfl hl (by decide) rfl (fun ls hl => ?_)
  have loop_2 : ∀ (N_2 : Nat) (i : Nat), (i ≤ n) → (∀ j, j < i → m_ j = b → c_ j = a) → n - i < N_2 → ∀ (H : Heap) (locs : List Loc) (ls : Array Slot), va_P D vwCl [(z 0, .inr (5, [.ref (z 1), .ref (z 2), .int (nI n)])), (z 1, .inl (k.1 0, 6, .inl (ta_e c_))), (z 2, .inl (k.1 0, 6, .inl (ta_e m_)))] H → va_D A [(z 0, .inr (5, [.ref (z 1), .ref (z 2), .int (nI n)])), (z 1, .inl (k.1 0, 6, .inl (ta_e c_))), (z 2, .inl (k.1 0, 6, .inl (ta_e m_)))] → va_S A s.heap H locs → lv_has ls 4 [(3, .int (nI i)), (0, .ref (z 0)), (1, .int (nI a)), (2, .int (nI b))] → W p l e ({ frames := 0, cells := 0, slots := 0, locals := 0 }) s m ([.ref (z 0), .int (nI a), .int (nI b)] : List Value).toArray below meth c H locs 0 0 Q (F0 m 2 ls []) := by
    clear hP hD hS hl
    intro N_2
    induction N_2 with
    | zero =>
      intro i h1 h2 hf_2
      exact absurd hf_2 (Nat.not_lt_zero _)
    | succ N_2 ih_2 =>
      intro i h1 h2 hf_2 H locs ls hP hD hS hl
      refine lv_iload_n hx hb dX5_agreeWith_2 rfl (lv_at hl 0 rfl) ?_
      refine lv_aload_n hx hb dX5_agreeWith_3 rfl (lv_at hl 1 rfl) ?_
      refine ta_get C hP 0 inlX5 rfl rfl 2 (by decide) tw_95 rfl dX5_agreeWith_4 ?_
      refine ta_cge C (a := i) (b := n) (tgt := 38) (by omega) (by omega) dX5_agreeWith_7 (by decide) (fun c1 => ?_) (fun c1 => ?_)
      · refine ta_iconst C 1 dX5_agreeWith_38 (by decide) ?_
        exact ret _ () dX5_agreeWith_39 (by decide) (Or.inl ⟨fun j hj => h2 j (by omega), rfl⟩) hP hD hS
      · have hmi := hm i (by omega)
        have hci := hc i (by omega)
        refine lv_aload_n hx hb dX5_agreeWith_10 rfl (lv_at hl 1 rfl) ?_
        refine ta_get C hP 0 inlX5 rfl rfl 1 (by decide) tw_94 rfl dX5_agreeWith_11 ?_
        refine lv_iload_n hx hb dX5_agreeWith_14 rfl (lv_at hl 0 rfl) ?_
        refine ta_iald C hP 2 rfl (i := i) (by omega) dX5_agreeWith_15 ?_
        refine lv_iload_n hx hb dX5_agreeWith_16 rfl (lv_at hl 3 rfl) ?_
        refine ta_cne C (a := m_ i) (b := b) (tgt := 32) (by omega) (by omega) dX5_agreeWith_17 (by decide) (fun c2 => ?_) (fun c2 => ?_)
        · refine lv_iinc (v := nI (i + 1)) (lv' := [(3, .int (nI (i + 1))), (0, .ref (z 0)), (1, .int (nI a)), (2, .int (nI b))]) hx hb dX5_agreeWith_32 hl (k := 0) rfl (ta_inc1 _) (by decide) rfl (fun ls hl => ?_)
          refine lv_goto (tgt := 2) hx hb dX5_agreeWith_35 (by decide) ?_
          have h2n : ∀ j, j < i + 1 → m_ j = b → c_ j = a := by
            intro j hj e
            rcases Nat.lt_or_ge j i with h9 | h9
            · exact h2 j h9 e
            · obtain rfl : j = i := by omega
              omega
          exact ih_2 (i + 1) (by omega) h2n (by omega) _ _ _ hP hD hS (lv_sub hl [0, 1, 2, 3] rfl)
        · refine lv_aload_n hx hb dX5_agreeWith_20 rfl (lv_at hl 1 rfl) ?_
          refine ta_get C hP 0 inlX5 rfl rfl 0 (by decide) tw_93 rfl dX5_agreeWith_21 ?_
          refine lv_iload_n hx hb dX5_agreeWith_24 rfl (lv_at hl 0 rfl) ?_
          refine ta_iald C hP 1 rfl (i := i) (by omega) dX5_agreeWith_25 ?_
          refine lv_iload_n hx hb dX5_agreeWith_26 rfl (lv_at hl 2 rfl) ?_
          refine ta_ceq C (a := c_ i) (b := a) (tgt := 32) (by omega) (by omega) dX5_agreeWith_27 (by decide) (fun c3 => ?_) (fun c3 => ?_)
          · refine lv_iinc (v := nI (i + 1)) (lv' := [(3, .int (nI (i + 1))), (0, .ref (z 0)), (1, .int (nI a)), (2, .int (nI b))]) hx hb dX5_agreeWith_32 hl (k := 0) rfl (ta_inc1 _) (by decide) rfl (fun ls hl => ?_)
            refine lv_goto (tgt := 2) hx hb dX5_agreeWith_35 (by decide) ?_
            have h2n : ∀ j, j < i + 1 → m_ j = b → c_ j = a := by
              intro j hj e
              rcases Nat.lt_or_ge j i with h9 | h9
              · exact h2 j h9 e
              · obtain rfl : j = i := by omega
                omega
            exact ih_2 (i + 1) (by omega) h2n (by omega) _ _ _ hP hD hS (lv_sub hl [0, 1, 2, 3] rfl)
          · refine ta_iconst C 0 dX5_agreeWith_30 (by decide) ?_
            exact ret _ () dX5_agreeWith_31 (by decide) (Or.inr ⟨⟨i, by omega, by omega, by omega⟩, rfl⟩) hP hD hS
  exact loop_2 ((n - 0) + 1) 0 (by omega) (fun j hj => absurd hj (Nat.not_lt_zero j)) (Nat.lt_succ_self _) _ _ _ hP hD hS (lv_sub hl [0, 1, 2, 3] rfl)

set_option maxHeartbeats 4000000 in
set_option maxRecDepth 100000 in
theorem c_X5_areSoIn (l : Launch) (D : va_G) (k : ta_C) (z : Nat → Nat) (n : Nat) (c_ : Nat → Nat) (m_ : Nat → Nat) (q : Nat → Nat) (t : Nat → Nat) (g : Nat → Nat) (X : Nat → Nat → Nat) (hn : n ≤ 6) (hm : ∀ j, j < n → m_ j ≤ 60) (hm1 : ∀ j, j < n → 1 ≤ m_ j) (hc : ∀ j, j < n → c_ j < 36) (hok : tg_ok t g) (h0 : g 0 + 100 < 1073741824) (hX : tg_X g X) : ta_Mi (S := (Nat → Nat) × (Nat → Nat → Nat)) l D k yX5_areSoIn cX5_areSoIn 4 .boolean 4 130 [.ref (z 0), .ref (q 0)] ((siW k z n c_ m_) ++ (dyW k q t g X)) (fun r _ => (tg_so t g n c_ m_ ∧ r = nI 1) ∨ (¬ tg_so t g n c_ m_ ∧ r = nI 0)) (fun u => ((siW k z n c_ m_) ++ (dyW k q t u.1 u.2))) := by
  refine ta_enter_i (by decide) (Nat.le_of_ble_eq_true rfl) ?_
  intro p e s m below meth c A ls Q C ret hP hD hS hl
  have C : ta_At p l D k s m ([.ref (z 0), .ref (q 0)] : List Value).toArray c RX5 cX5_areSoIn 4 A := C
  have hx := C.1.1
  have hb := C.1.2.1
  have hl : lv_has ls 4 [(0, .ref (z 0)), (1, .ref (q 0))] := hl
  obtain ⟨H, hH⟩ : ∃ H, H = s.heap := ⟨_, rfl⟩
  obtain ⟨locs, hlocs⟩ : ∃ q : List Loc, q = [] := ⟨_, rfl⟩
  have hP : va_P D vwCl ((siW k z n c_ m_) ++ (dyW k q t g X)) H := by rw [hH]; exact hP
  have hS : va_S A s.heap H locs := by rw [hH, hlocs]; exact hS
  rw [← hlocs]
  suffices hgoal : W p l e ({ frames := 4, cells := 0, slots := 0, locals := 130 }) s m ([.ref (z 0), .ref (q 0)] : List Value).toArray below meth c H locs 0 0 Q (F0 m 0 ls []) by rw [hH] at hgoal; exact hgoal
  clear hH hlocs
  have hla : tg_lat m_ n ≤ 60 := tg_lat_b hm
  refine lv_aload_n hx hb dX5_areSoIn_0 rfl (lv_at hl 0 rfl) ?_
  refine ta_callVi (As := []) (rest0 := []) (Wr := (dyW k q t g X)) C hP hD hS (c_X5_latestTime l D k z n c_ m_ (by omega) hm) 0 rfl rfl rfl [0, 1, 2] [3, 4, 5, 6, 7, 8, 9, 10, 11, 12, 13] rfl rfl (by decide) (by decide) (by decide) tw_620 tw_617 tw_38 tw_618 tw_619 ⟨by decide, by decide, rfl⟩ ⟨Nat.le_of_ble_eq_true rfl, Nat.le_of_ble_eq_true rfl⟩ ⟨Nat.zero_le _, Nat.zero_le _⟩ hl.1 rfl (Nat.le_of_ble_eq_true rfl) dX5_areSoIn_1 (fun r1 u2 H locs h3 hP hD hS => ?_)
  obtain rfl := h3
  have hP : va_P D vwCl ((dyW k q t g X) ++ (siW k z n c_ m_)) H := hP
  have hD : va_D A ((dyW k q t g X) ++ (siW k z n c_ m_)) := hD
  refine lv_istore_n (lv' := [(2, .int (nI (tg_lat m_ n))), (0, .ref (z 0)), (1, .ref (q 0))]) hx hb dX5_areSoIn_4 rfl hl (by decide) rfl (fun ls hl => ?_)
  refine ta_iconst C 1 dX5_areSoIn_5 (by decide) ?_
  refine lv_istore_n (lv' := [(3, .int (nI 1)), (2, .int (nI (tg_lat m_ n))), (0, .ref (z 0)), (1, .ref (q 0))]) hx hb dX5_areSoIn_6 rfl hl (by decide) rfl (fun ls hl => ?_)
  have loop_7 : ∀ (N_7 : Nat) (i : Nat) (Z : Nat → Nat → Nat), (1 ≤ i) → (i ≤ tg_lat m_ n + 1) → (tg_X (tg_it t g (i - 1)) Z) → (∀ j, j < n → m_ j < i → tg_it t g (m_ j) 2 = c_ j) → 100 - i < N_7 → ∀ (H : Heap) (locs : List Loc) (ls : Array Slot), va_P D vwCl ((siW k z n c_ m_) ++ (dyW k q t (tg_it t g (i - 1)) Z)) H → va_D A ((siW k z n c_ m_) ++ (dyW k q t (tg_it t g (i - 1)) Z)) → va_S A s.heap H locs → lv_has ls 4 [(3, .int (nI i)), (2, .int (nI (tg_lat m_ n))), (0, .ref (z 0)), (1, .ref (q 0))] → W p l e ({ frames := 4, cells := 0, slots := 0, locals := 130 }) s m ([.ref (z 0), .ref (q 0)] : List Value).toArray below meth c H locs 0 0 Q (F0 m 7 ls []) := by
    clear hP hD hS hl
    intro N_7
    induction N_7 with
    | zero =>
      intro i Z hi1 h1 hZ h2 hf_7
      exact absurd hf_7 (Nat.not_lt_zero _)
    | succ N_7 ih_7 =>
      intro i Z hi1 h1 hZ h2 hf_7 H locs ls hP hD hS hl
      refine lv_iload_n hx hb dX5_areSoIn_7 rfl (lv_at hl 0 rfl) ?_
      refine lv_iload_n hx hb dX5_areSoIn_8 rfl (lv_at hl 1 rfl) ?_
      refine ta_cgt C (a := i) (b := tg_lat m_ n) (tgt := 37) (by omega) (by omega) dX5_areSoIn_9 (by decide) (fun c4 => ?_) (fun c4 => ?_)
      · refine ta_iconst C 1 dX5_areSoIn_37 (by decide) ?_
        exact ret _ (tg_it t g (i - 1), Z) dX5_areSoIn_38 (by decide) (Or.inl ⟨fun j hj => h2 j hj (by have := tg_lat_g (m := m_) hj; omega), rfl⟩) hP hD hS
      · refine lv_aload_n hx hb dX5_areSoIn_12 rfl (lv_at hl 3 rfl) ?_
        refine ta_callVi (As := []) (rest0 := []) (Wr := (siW k z n c_ m_)) C hP hD hS (c_X0_goMinute l D k q t (tg_it t g (i - 1)) Z (tg_ok_it hok (i - 1)) (by have := tg_it_0 hok (i - 1); omega) hZ) 3 rfl rfl rfl [3, 4, 5, 6, 7, 8, 9, 10, 11, 12, 13] [0, 1, 2] rfl rfl (by decide) (by decide) (by decide) tw_443 tw_624 tw_26 tw_441 tw_442 ⟨by decide, by decide, rfl⟩ ⟨Nat.le_of_ble_eq_true rfl, Nat.le_of_ble_eq_true rfl⟩ ⟨Nat.zero_le _, Nat.zero_le _⟩ hl.1 rfl (Nat.le_of_ble_eq_true rfl) dX5_areSoIn_13 (fun r5 u6 H locs h7 hP hD hS => ?_)
        obtain ⟨u_8, hu0⟩ : ∃ z, z = u6 := ⟨_, rfl⟩
        subst hu0
        obtain ⟨rfl, hX9⟩ := h7
        have hP : va_P D vwCl ((siW k z n c_ m_) ++ (dyW k q t (tg_go t (tg_it t g (i - 1))) u_8)) H := hP
        have hD : va_D A ((siW k z n c_ m_) ++ (dyW k q t (tg_go t (tg_it t g (i - 1))) u_8)) := hD
        have ei : tg_go t (tg_it t g (i - 1)) = tg_it t g i := by obtain ⟨j, rfl⟩ : ∃ j, i = j + 1 := ⟨i - 1, by omega⟩; rfl
        rw [ei] at hP hD hX9
        have hlt : tg_it t g i 2 < 36 := by obtain ⟨⟨a1, a2, a3, a4, -, -⟩, -, b2, -⟩ := tg_ok_it hok i; exact Nat.lt_of_lt_of_le b2 (tg_36 a2 a4)
        refine lv_pop hx hb dX5_areSoIn_16 rfl ?_
        refine lv_aload_n hx hb dX5_areSoIn_17 rfl (lv_at hl 2 rfl) ?_
        refine lv_aload_n hx hb dX5_areSoIn_18 rfl (lv_at hl 3 rfl) ?_
        refine ta_callVi (As := []) (rest0 := [.ref (z 0)]) (Wr := (siW k z n c_ m_)) C hP hD hS (c_X0_cell l D k q t (tg_it t g i) u_8) 3 rfl rfl rfl [3, 4, 5, 6, 7, 8, 9, 10, 11, 12, 13] [0, 1, 2] rfl rfl (by decide) (by decide) (by decide) tw_464 tw_625 tw_26 tw_462 tw_463 ⟨by decide, by decide, rfl⟩ ⟨Nat.le_of_ble_eq_true rfl, Nat.le_of_ble_eq_true rfl⟩ ⟨Nat.zero_le _, Nat.zero_le _⟩ hl.1 rfl (Nat.le_of_ble_eq_true rfl) dX5_areSoIn_19 (fun r10 u11 H locs h12 hP hD hS => ?_)
        obtain rfl := h12
        have hP : va_P D vwCl ((siW k z n c_ m_) ++ (dyW k q t (tg_it t g i) u_8)) H := hP
        have hD : va_D A ((siW k z n c_ m_) ++ (dyW k q t (tg_it t g i) u_8)) := hD
        refine lv_iload_n hx hb dX5_areSoIn_22 rfl (lv_at hl 0 rfl) ?_
        refine ta_callVi (As := [.int (nI ((tg_it t g i) 2)), .int (nI i)]) (rest0 := []) (Wr := (dyW k q t (tg_it t g i) u_8)) C hP hD hS (c_X5_agreeWith l D k z n c_ m_ ((tg_it t g i) 2) i (by omega) hm hc hlt (by omega)) 0 rfl rfl rfl [0, 1, 2] [3, 4, 5, 6, 7, 8, 9, 10, 11, 12, 13] rfl rfl (by decide) (by decide) (by decide) tw_629 tw_626 tw_38 tw_627 tw_628 ⟨by decide, by decide, rfl⟩ ⟨Nat.le_of_ble_eq_true rfl, Nat.le_of_ble_eq_true rfl⟩ ⟨Nat.zero_le _, Nat.zero_le _⟩ hl.1 rfl (Nat.le_of_ble_eq_true rfl) dX5_areSoIn_23 (fun r13 u14 H locs h15 hP hD hS => ?_)
        rcases h15 with h0 | h0
        · obtain ⟨hag16, rfl⟩ := h0
          have hP : va_P D vwCl ((dyW k q t (tg_it t g i) u_8) ++ (siW k z n c_ m_)) H := hP
          have hD : va_D A ((dyW k q t (tg_it t g i) u_8) ++ (siW k z n c_ m_)) := hD
          refine lv_if_ne (tgt := 31) hx hb dX5_areSoIn_26 (by decide) (fun c17 => ?_) (fun c17 => ?_)
          · refine lv_iinc (v := nI (i + 1)) (lv' := [(3, .int (nI (i + 1))), (2, .int (nI (tg_lat m_ n))), (0, .ref (z 0)), (1, .ref (q 0))]) hx hb dX5_areSoIn_31 hl (k := 0) rfl (ta_inc1 _) (by decide) rfl (fun ls hl => ?_)
            refine lv_goto (tgt := 7) hx hb dX5_areSoIn_34 (by decide) ?_
            have h2n : ∀ j, j < n → m_ j < i + 1 → tg_it t g (m_ j) 2 = c_ j := by
              intro j hj h9
              rcases Nat.lt_or_ge (m_ j) i with h8 | h8
              · exact h2 j hj h8
              · have e9 : m_ j = i := by omega
                rw [e9]
                exact (hag16 j hj e9).symm
            exact ih_7 (i + 1) u_8 (by omega) (by omega) hX9 h2n (by omega) _ _ _ (hP.sub [11, 12, 13, 0, 1, 2, 3, 4, 5, 6, 7, 8, 9, 10] rfl) (hD.sub [11, 12, 13, 0, 1, 2, 3, 4, 5, 6, 7, 8, 9, 10] (by decide) rfl) hS (lv_sub hl [0, 1, 2, 3] rfl)
          · exact absurd c17 (by decide)
        · obtain ⟨hag18, rfl⟩ := h0
          have hP : va_P D vwCl ((dyW k q t (tg_it t g i) u_8) ++ (siW k z n c_ m_)) H := hP
          have hD : va_D A ((dyW k q t (tg_it t g i) u_8) ++ (siW k z n c_ m_)) := hD
          refine lv_if_ne (tgt := 31) hx hb dX5_areSoIn_26 (by decide) (fun c19 => ?_) (fun c19 => ?_)
          · exact absurd c19 (by decide)
          · refine ta_iconst C 0 dX5_areSoIn_29 (by decide) ?_
            have hP : va_P D vwCl ((siW k z n c_ m_) ++ (dyW k q t (tg_it t g i) u_8)) H := hP.sub [11, 12, 13, 0, 1, 2, 3, 4, 5, 6, 7, 8, 9, 10] rfl
            have hD : va_D A ((siW k z n c_ m_) ++ (dyW k q t (tg_it t g i) u_8)) := hD.sub [11, 12, 13, 0, 1, 2, 3, 4, 5, 6, 7, 8, 9, 10] (by decide) rfl
            exact ret _ (tg_it t g i, u_8) dX5_areSoIn_30 (by decide) (Or.inr ⟨fun h9 => by obtain ⟨j, hj, e1, e2⟩ := hag18; exact e2 (by rw [← h9 j hj, e1]), rfl⟩) hP hD hS
  exact loop_7 ((100 - 1) + 1) 1 X (by omega) (by omega) hX (fun j hj h9 => absurd h9 (by have := hm1 j hj; omega)) (Nat.lt_succ_self _) _ _ _ (hP.sub [11, 12, 13, 0, 1, 2, 3, 4, 5, 6, 7, 8, 9, 10] rfl) (hD.sub [11, 12, 13, 0, 1, 2, 3, 4, 5, 6, 7, 8, 9, 10] (by decide) rfl) hS (lv_sub hl [0, 1, 2, 3] rfl)
