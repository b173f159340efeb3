theorem tg_ok_step {t g : Nat → Nat} (w : Nat) (ho : tg_ok t g) : tg_ok t (tg_step t g w) := by
  obtain ⟨⟨a1, a2, a3, a4, a5, a6⟩, b1, b2, b3, b4, b6, b7, b8, b9⟩ := id ho
  have kk : ∀ j, j < 26 → j ≠ 2 → tg_step t g w j = g j := fun j h1 h2 => tg_step_k (by omega) b2 h1 h2
  refine tg_ok_of ho ?_ (tg_step_2 (by omega) b2) ?_ ?_ ?_
  · rw [kk 1 (by omega) (by omega)]; exact b1
  · rw [kk 3 (by omega) (by omega)]; exact b3
  · rw [kk 4 (by omega) (by omega), kk 5 (by omega) (by omega)]; exact b4
  · intro j h1 h2; exact kk j (by omega) (by omega)
theorem tg_Xk {t g h : Nat → Nat} {X : Nat → Nat → Nat} (e : ∀ j, 6 ≤ j → j < 24 → h j = g j) (ho : tg_ok t g) (hX : tg_X g X) : tg_X h X := by
  obtain ⟨-, -, -, -, -, b6, b7, -, -⟩ := ho
  refine ⟨fun j hj => ?_, fun j hj => ?_⟩
  · rw [e 6 (by omega) (by omega)] at hj
    rw [e (8 + j) (by omega) (by omega)]
    exact hX.1 j hj
  · rw [e 7 (by omega) (by omega)] at hj
    rw [e (16 + j) (by omega) (by omega)]
    exact hX.2 j hj
set_option maxHeartbeats 4000000 in
set_option maxRecDepth 100000 in
theorem c_X0_doBegun (l : Launch) (D : va_G) (k : ta_C) (q : Nat → Nat) (t : Nat → Nat) (g : Nat → Nat) (X : Nat → Nat → Nat) (a : Nat) (hok : tg_ok t g) (ha : a < 2) (hb4 : g 4 < 5) : ta_Mv (S := Unit) l D k yX0_doBegun cX0_doBegun 2 2 70 [.ref (q 0), .int (nI a)] (dyW k q t g X) (fun _ => True) (fun u => (dyW k q t (tg_do t g a) X)) := by
  refine ta_enter_v (by decide) (Nat.le_of_ble_eq_true rfl) ?_
  intro p e s m below meth c A ls Q C ret hP hD hS hl
  have C : ta_At p l D k s m ([.ref (q 0), .int (nI a)] : List Value).toArray c RX0 cX0_doBegun 2 A := C
  have hx := C.1.1
  have hb := C.1.2.1
  have hl : lv_has ls 2 [(0, .ref (q 0)), (1, .int (nI a))] := hl
  obtain ⟨H, hH⟩ : ∃ H, H = s.heap := ⟨_, rfl⟩
  obtain ⟨locs, hlocs⟩ : ∃ q : List Loc, q = [] := ⟨_, rfl⟩
  have hP : va_P D vwCl (dyW k q t g X) H := by rw [hH]; exact hP
  have hS : va_S A s.heap H locs := by rw [hH, hlocs]; exact hS
  rw [← hlocs]
  suffices hgoal : W p l e ({ frames := 2, cells := 0, slots := 0, locals := 70 }) s m ([.ref (q 0), .int (nI a)] : List Value).toArray below meth c H locs 0 0 Q (F0 m 0 ls []) by rw [hH] at hgoal; exact hgoal
  clear hH hlocs
  obtain ⟨⟨a1, a2, a3, a4, a5, a6⟩, b1, b2, b3, b4, b6, b7, b8, b9⟩ := id hok
  refine lv_aload_n hx hb dX0_doBegun_0 rfl (lv_at hl 0 rfl) ?_
  refine ta_get C hP 0 inlX0 rfl rfl 8 (by decide) tw_108 rfl dX0_doBegun_1 ?_
  rcases (show g 4 = 0 ∨ g 4 = 1 ∨ g 4 = 2 ∨ g 4 = 3 ∨ g 4 = 4 by omega) with h4 | h4 | h4 | h4 | h4
  · refine ta_nv (y := 0) h4 ?_
    refine lv_tableIn (tgt := 36) hx hb dX0_doBegun_4 (by decide) (by decide) (off := 32) (by decide) (by decide) ?_
    refine lv_aload_n hx hb dX0_doBegun_36 rfl (lv_at hl 0 rfl) ?_
    refine lv_aload_n hx hb dX0_doBegun_37 rfl (lv_at hl 0 rfl) ?_
    refine ta_get C hP 0 inlX0 rfl rfl 7 (by decide) tw_107 rfl dX0_doBegun_38 ?_
    refine ta_callVv (As := [.int (nI (g 3))]) (rest0 := []) (Wr := []) C hP hD hS (c_X0_step l D k q t g X (g 3) hok (by omega)) 0 rfl rfl rfl [0, 1, 2, 3, 4, 5, 6, 7, 8, 9, 10] [] rfl rfl (by decide) (by decide) (by decide) tw_460 tw_457 tw_26 tw_458 tw_459 ⟨by decide, by decide, rfl⟩ ⟨Nat.le_of_ble_eq_true rfl, Nat.le_of_ble_eq_true rfl⟩ ⟨Nat.zero_le _, Nat.zero_le _⟩ hl.1 rfl (Nat.le_of_ble_eq_true rfl) dX0_doBegun_41 (fun u2 H locs h3 hP hD hS => ?_)
    have hP : va_P D vwCl (dyW k q t (tg_step t g ((g 3) % 4)) X) H := hP
    have hD : va_D A (dyW k q t (tg_step t g ((g 3) % 4)) X) := hD
    obtain ⟨g1, hg1⟩ : ∃ z, z = tg_step t g (g 3 % 4) := ⟨_, rfl⟩
    rw [← hg1] at hP hD
    refine lv_goto (tgt := 104) hx hb dX0_doBegun_44 (by decide) ?_
    rw [Nat.mod_eq_of_lt b3] at hg1
    have eact : tg_act t g a = g1 := by rw [hg1]; unfold tg_act; rw [if_pos h4]
    have k4 : g1 4 = g 4 := by rw [hg1]; exact tg_step_k (by omega) b2 (by omega) (by omega)
    have k5 : g1 5 = g 5 := by rw [hg1]; exact tg_step_k (by omega) b2 (by omega) (by omega)
    have hP : va_P D vwCl [(q 0, .inr (0, [.int (nI (t 0)), .int (nI (t 1)), .int (nI (t 2)), .int (nI (g1 0)), .int (nI (g1 1)), .int (nI (g1 2 / t 0)), .int (nI (g1 2 % t 0)), .int (nI (g1 3)), .int (nI (g1 4)), .int (nI (g1 5)), .ref (q 1), .ref (q 2), .ref (q 3), .ref (q 4)])), (q 1, .inl (k.1 0, 36, .inl (ta_e (tg_mud g1)))), (q 2, .inl (k.1 0, 4, .inl (ta_e (tg_wal g1)))), (q 3, .inl (k.1 0, 2, .inl (ta_e (tg_kne g1)))), (q 4, .inl (k.1 2, 2, .inr (.inr (.inr (.inr (ta_dr (q 5) (q 8))))))), (q 5, .inr (1, [.ref (q 6), .ref (q 7), .int (nI (g1 6))])), (q 6, .inl (k.1 0, 8, .inl (ta_e (X 0)))), (q 7, .inl (k.1 0, 8, .inl (ta_e (X 1)))), (q 8, .inr (1, [.ref (q 9), .ref (q 10), .int (nI (g1 7))])), (q 9, .inl (k.1 0, 8, .inl (ta_e (X 2)))), (q 10, .inl (k.1 0, 8, .inl (ta_e (X 3))))] H := hP
    have hD : va_D A [(q 0, .inr (0, [.int (nI (t 0)), .int (nI (t 1)), .int (nI (t 2)), .int (nI (g1 0)), .int (nI (g1 1)), .int (nI (g1 2 / t 0)), .int (nI (g1 2 % t 0)), .int (nI (g1 3)), .int (nI (g1 4)), .int (nI (g1 5)), .ref (q 1), .ref (q 2), .ref (q 3), .ref (q 4)])), (q 1, .inl (k.1 0, 36, .inl (ta_e (tg_mud g1)))), (q 2, .inl (k.1 0, 4, .inl (ta_e (tg_wal g1)))), (q 3, .inl (k.1 0, 2, .inl (ta_e (tg_kne g1)))), (q 4, .inl (k.1 2, 2, .inr (.inr (.inr (.inr (ta_dr (q 5) (q 8))))))), (q 5, .inr (1, [.ref (q 6), .ref (q 7), .int (nI (g1 6))])), (q 6, .inl (k.1 0, 8, .inl (ta_e (X 0)))), (q 7, .inl (k.1 0, 8, .inl (ta_e (X 1)))), (q 8, .inr (1, [.ref (q 9), .ref (q 10), .int (nI (g1 7))])), (q 9, .inl (k.1 0, 8, .inl (ta_e (X 2)))), (q 10, .inl (k.1 0, 8, .inl (ta_e (X 3))))] := hD
    have b5 : 1 ≤ g1 5 ∧ g1 5 ≤ 9 := by omega
    refine lv_aload_n hx hb dX0_doBegun_104 rfl (lv_at hl 0 rfl) ?_
    refine lv_dup hx hb dX0_doBegun_105 rfl ?_
    refine ta_get C hP 0 inlX0 rfl rfl 9 (by decide) tw_109 rfl dX0_doBegun_106 ?_
    refine ta_iconst C 1 dX0_doBegun_109 (by decide) ?_
    refine ta_isub C (a := g1 5) (b := 1) (by omega) dX0_doBegun_110 ?_
    refine ta_put C hP hD hS 0 inlX0 tyX0 tyX0_ok nmX0 rfl rfl 9 (by decide) tw_109 rfl rfl rfl (Nat.le_of_ble_eq_true rfl) dX0_doBegun_111 (fun H locs hP hD hS => ?_)
    have hP : va_P D vwCl [(q 0, .inr (0, [.int (nI (t 0)), .int (nI (t 1)), .int (nI (t 2)), .int (nI (g1 0)), .int (nI (g1 1)), .int (nI (g1 2 / t 0)), .int (nI (g1 2 % t 0)), .int (nI (g1 3)), .int (nI (g1 4)), .int (nI ((g1 5) - 1)), .ref (q 1), .ref (q 2), .ref (q 3), .ref (q 4)])), (q 1, .inl (k.1 0, 36, .inl (ta_e (tg_mud g1)))), (q 2, .inl (k.1 0, 4, .inl (ta_e (tg_wal g1)))), (q 3, .inl (k.1 0, 2, .inl (ta_e (tg_kne g1)))), (q 4, .inl (k.1 2, 2, .inr (.inr (.inr (.inr (ta_dr (q 5) (q 8))))))), (q 5, .inr (1, [.ref (q 6), .ref (q 7), .int (nI (g1 6))])), (q 6, .inl (k.1 0, 8, .inl (ta_e (X 0)))), (q 7, .inl (k.1 0, 8, .inl (ta_e (X 1)))), (q 8, .inr (1, [.ref (q 9), .ref (q 10), .int (nI (g1 7))])), (q 9, .inl (k.1 0, 8, .inl (ta_e (X 2)))), (q 10, .inl (k.1 0, 8, .inl (ta_e (X 3))))] H := hP
    have hD : va_D A [(q 0, .inr (0, [.int (nI (t 0)), .int (nI (t 1)), .int (nI (t 2)), .int (nI (g1 0)), .int (nI (g1 1)), .int (nI (g1 2 / t 0)), .int (nI (g1 2 % t 0)), .int (nI (g1 3)), .int (nI (g1 4)), .int (nI ((g1 5) - 1)), .ref (q 1), .ref (q 2), .ref (q 3), .ref (q 4)])), (q 1, .inl (k.1 0, 36, .inl (ta_e (tg_mud g1)))), (q 2, .inl (k.1 0, 4, .inl (ta_e (tg_wal g1)))), (q 3, .inl (k.1 0, 2, .inl (ta_e (tg_kne g1)))), (q 4, .inl (k.1 2, 2, .inr (.inr (.inr (.inr (ta_dr (q 5) (q 8))))))), (q 5, .inr (1, [.ref (q 6), .ref (q 7), .int (nI (g1 6))])), (q 6, .inl (k.1 0, 8, .inl (ta_e (X 0)))), (q 7, .inl (k.1 0, 8, .inl (ta_e (X 1)))), (q 8, .inr (1, [.ref (q 9), .ref (q 10), .int (nI (g1 7))])), (q 9, .inl (k.1 0, 8, .inl (ta_e (X 2)))), (q 10, .inl (k.1 0, 8, .inl (ta_e (X 3))))] := hD
    refine lv_aload_n hx hb dX0_doBegun_114 rfl (lv_at hl 0 rfl) ?_
    refine ta_get C hP 0 inlX0 rfl rfl 9 (by decide) tw_109 rfl dX0_doBegun_115 ?_
    refine ta_ine C (a := (g1 5) - 1) (tgt := 126) (by omega) dX0_doBegun_118 (by decide) (fun c4 => ?_) (fun c4 => ?_)
    · have e : tg_do t g a = ta_u (ta_u g1 5 (g1 5 - 1)) 4 (g1 4) := by unfold tg_do; rw [eact, k5, k4, if_neg (by omega)]
      rw [e] at ret
      exact ret () dX0_doBegun_126 trivial (dy_to (t := t) (g := ta_u (ta_u g1 5 (g1 5 - 1)) 4 (g1 4)) ⟨rfl, rfl, rfl, rfl, rfl, rfl, rfl, rfl, rfl, rfl, rfl, rfl⟩ (fun j hj => by simp only [tg_mud, ta_u]; rw [if_neg (by omega), if_neg (by omega)]) (fun j hj => by simp only [tg_wal, ta_u]; rw [if_neg (by omega), if_neg (by omega)]) (fun j hj => by simp only [tg_kne, ta_u]; rw [if_neg (by omega), if_neg (by omega)]) hP) (ta_De hD rfl) hS
    · refine lv_aload_n hx hb dX0_doBegun_121 rfl (lv_at hl 0 rfl) ?_
      refine ta_iconst C 4294967295 dX0_doBegun_122 (by decide) ?_
      refine ta_put C hP hD hS 0 inlX0 tyX0 tyX0_ok nmX0 rfl rfl 8 (by decide) tw_108 rfl rfl rfl (Nat.le_of_ble_eq_true rfl) dX0_doBegun_123 (fun H locs hP hD hS => ?_)
      have hP : va_P D vwCl [(q 0, .inr (0, [.int (nI (t 0)), .int (nI (t 1)), .int (nI (t 2)), .int (nI (g1 0)), .int (nI (g1 1)), .int (nI (g1 2 / t 0)), .int (nI (g1 2 % t 0)), .int (nI (g1 3)), .int (nI 4294967295), .int (nI ((g1 5) - 1)), .ref (q 1), .ref (q 2), .ref (q 3), .ref (q 4)])), (q 1, .inl (k.1 0, 36, .inl (ta_e (tg_mud g1)))), (q 2, .inl (k.1 0, 4, .inl (ta_e (tg_wal g1)))), (q 3, .inl (k.1 0, 2, .inl (ta_e (tg_kne g1)))), (q 4, .inl (k.1 2, 2, .inr (.inr (.inr (.inr (ta_dr (q 5) (q 8))))))), (q 5, .inr (1, [.ref (q 6), .ref (q 7), .int (nI (g1 6))])), (q 6, .inl (k.1 0, 8, .inl (ta_e (X 0)))), (q 7, .inl (k.1 0, 8, .inl (ta_e (X 1)))), (q 8, .inr (1, [.ref (q 9), .ref (q 10), .int (nI (g1 7))])), (q 9, .inl (k.1 0, 8, .inl (ta_e (X 2)))), (q 10, .inl (k.1 0, 8, .inl (ta_e (X 3))))] H := hP
      have hD : va_D A [(q 0, .inr (0, [.int (nI (t 0)), .int (nI (t 1)), .int (nI (t 2)), .int (nI (g1 0)), .int (nI (g1 1)), .int (nI (g1 2 / t 0)), .int (nI (g1 2 % t 0)), .int (nI (g1 3)), .int (nI 4294967295), .int (nI ((g1 5) - 1)), .ref (q 1), .ref (q 2), .ref (q 3), .ref (q 4)])), (q 1, .inl (k.1 0, 36, .inl (ta_e (tg_mud g1)))), (q 2, .inl (k.1 0, 4, .inl (ta_e (tg_wal g1)))), (q 3, .inl (k.1 0, 2, .inl (ta_e (tg_kne g1)))), (q 4, .inl (k.1 2, 2, .inr (.inr (.inr (.inr (ta_dr (q 5) (q 8))))))), (q 5, .inr (1, [.ref (q 6), .ref (q 7), .int (nI (g1 6))])), (q 6, .inl (k.1 0, 8, .inl (ta_e (X 0)))), (q 7, .inl (k.1 0, 8, .inl (ta_e (X 1)))), (q 8, .inr (1, [.ref (q 9), .ref (q 10), .int (nI (g1 7))])), (q 9, .inl (k.1 0, 8, .inl (ta_e (X 2)))), (q 10, .inl (k.1 0, 8, .inl (ta_e (X 3))))] := hD
      have e : tg_do t g a = ta_u (ta_u g1 5 (g1 5 - 1)) 4 4294967295 := by unfold tg_do; rw [eact, k5, if_pos (by omega)]
      rw [e] at ret
      exact ret () dX0_doBegun_126 trivial (dy_to (t := t) (g := ta_u (ta_u g1 5 (g1 5 - 1)) 4 4294967295) ⟨rfl, rfl, rfl, rfl, rfl, rfl, rfl, rfl, rfl, rfl, rfl, rfl⟩ (fun j hj => by simp only [tg_mud, ta_u]; rw [if_neg (by omega), if_neg (by omega)]) (fun j hj => by simp only [tg_wal, ta_u]; rw [if_neg (by omega), if_neg (by omega)]) (fun j hj => by simp only [tg_kne, ta_u]; rw [if_neg (by omega), if_neg (by omega)]) hP) (ta_De hD rfl) hS
  · refine ta_nv (y := 1) h4 ?_
    refine lv_tableIn (tgt := 47) hx hb dX0_doBegun_4 (by decide) (by decide) (off := 43) (by decide) (by decide) ?_
    refine lv_aload_n hx hb dX0_doBegun_47 rfl (lv_at hl 0 rfl) ?_
    refine lv_aload_n hx hb dX0_doBegun_48 rfl (lv_at hl 0 rfl) ?_
    refine ta_get C hP 0 inlX0 rfl rfl 7 (by decide) tw_107 rfl dX0_doBegun_49 ?_
    refine ta_iconst C 2 dX0_doBegun_52 (by decide) ?_
    refine ta_iadd C (a := g 3) (b := 2) dX0_doBegun_53 ?_
    refine ta_callVv (As := [.int (nI ((g 3) + 2))]) (rest0 := []) (Wr := []) C hP hD hS (c_X0_step l D k q t g X ((g 3) + 2) hok (by omega)) 0 rfl rfl rfl [0, 1, 2, 3, 4, 5, 6, 7, 8, 9, 10] [] rfl rfl (by decide) (by decide) (by decide) tw_460 tw_457 tw_26 tw_458 tw_459 ⟨by decide, by decide, rfl⟩ ⟨Nat.le_of_ble_eq_true rfl, Nat.le_of_ble_eq_true rfl⟩ ⟨Nat.zero_le _, Nat.zero_le _⟩ hl.1 rfl (Nat.le_of_ble_eq_true rfl) dX0_doBegun_54 (fun u6 H locs h7 hP hD hS => ?_)
    have hP : va_P D vwCl (dyW k q t (tg_step t g (((g 3) + 2) % 4)) X) H := hP
    have hD : va_D A (dyW k q t (tg_step t g (((g 3) + 2) % 4)) X) := hD
    obtain ⟨g1, hg1⟩ : ∃ z, z = tg_step t g ((g 3 + 2) % 4) := ⟨_, rfl⟩
    rw [← hg1] at hP hD
    refine lv_goto (tgt := 104) hx hb dX0_doBegun_57 (by decide) ?_
    have eact : tg_act t g a = g1 := by rw [hg1]; unfold tg_act; rw [if_neg (by omega), if_pos h4]
    have k4 : g1 4 = g 4 := by rw [hg1]; exact tg_step_k (by omega) b2 (by omega) (by omega)
    have k5 : g1 5 = g 5 := by rw [hg1]; exact tg_step_k (by omega) b2 (by omega) (by omega)
    have hP : va_P D vwCl [(q 0, .inr (0, [.int (nI (t 0)), .int (nI (t 1)), .int (nI (t 2)), .int (nI (g1 0)), .int (nI (g1 1)), .int (nI (g1 2 / t 0)), .int (nI (g1 2 % t 0)), .int (nI (g1 3)), .int (nI (g1 4)), .int (nI (g1 5)), .ref (q 1), .ref (q 2), .ref (q 3), .ref (q 4)])), (q 1, .inl (k.1 0, 36, .inl (ta_e (tg_mud g1)))), (q 2, .inl (k.1 0, 4, .inl (ta_e (tg_wal g1)))), (q 3, .inl (k.1 0, 2, .inl (ta_e (tg_kne g1)))), (q 4, .inl (k.1 2, 2, .inr (.inr (.inr (.inr (ta_dr (q 5) (q 8))))))), (q 5, .inr (1, [.ref (q 6), .ref (q 7), .int (nI (g1 6))])), (q 6, .inl (k.1 0, 8, .inl (ta_e (X 0)))), (q 7, .inl (k.1 0, 8, .inl (ta_e (X 1)))), (q 8, .inr (1, [.ref (q 9), .ref (q 10), .int (nI (g1 7))])), (q 9, .inl (k.1 0, 8, .inl (ta_e (X 2)))), (q 10, .inl (k.1 0, 8, .inl (ta_e (X 3))))] H := hP
    have hD : va_D A [(q 0, .inr (0, [.int (nI (t 0)), .int (nI (t 1)), .int (nI (t 2)), .int (nI (g1 0)), .int (nI (g1 1)), .int (nI (g1 2 / t 0)), .int (nI (g1 2 % t 0)), .int (nI (g1 3)), .int (nI (g1 4)), .int (nI (g1 5)), .ref (q 1), .ref (q 2), .ref (q 3), .ref (q 4)])), (q 1, .inl (k.1 0, 36, .inl (ta_e (tg_mud g1)))), (q 2, .inl (k.1 0, 4, .inl (ta_e (tg_wal g1)))), (q 3, .inl (k.1 0, 2, .inl (ta_e (tg_kne g1)))), (q 4, .inl (k.1 2, 2, .inr (.inr (.inr (.inr (ta_dr (q 5) (q 8))))))), (q 5, .inr (1, [.ref (q 6), .ref (q 7), .int (nI (g1 6))])), (q 6, .inl (k.1 0, 8, .inl (ta_e (X 0)))), (q 7, .inl (k.1 0, 8, .inl (ta_e (X 1)))), (q 8, .inr (1, [.ref (q 9), .ref (q 10), .int (nI (g1 7))])), (q 9, .inl (k.1 0, 8, .inl (ta_e (X 2)))), (q 10, .inl (k.1 0, 8, .inl (ta_e (X 3))))] := hD
    have b5 : 1 ≤ g1 5 ∧ g1 5 ≤ 9 := by omega
    refine lv_aload_n hx hb dX0_doBegun_104 rfl (lv_at hl 0 rfl) ?_
    refine lv_dup hx hb dX0_doBegun_105 rfl ?_
    refine ta_get C hP 0 inlX0 rfl rfl 9 (by decide) tw_109 rfl dX0_doBegun_106 ?_
    refine ta_iconst C 1 dX0_doBegun_109 (by decide) ?_
    refine ta_isub C (a := g1 5) (b := 1) (by omega) dX0_doBegun_110 ?_
    refine ta_put C hP hD hS 0 inlX0 tyX0 tyX0_ok nmX0 rfl rfl 9 (by decide) tw_109 rfl rfl rfl (Nat.le_of_ble_eq_true rfl) dX0_doBegun_111 (fun H locs hP hD hS => ?_)
    have hP : va_P D vwCl [(q 0, .inr (0, [.int (nI (t 0)), .int (nI (t 1)), .int (nI (t 2)), .int (nI (g1 0)), .int (nI (g1 1)), .int (nI (g1 2 / t 0)), .int (nI (g1 2 % t 0)), .int (nI (g1 3)), .int (nI (g1 4)), .int (nI ((g1 5) - 1)), .ref (q 1), .ref (q 2), .ref (q 3), .ref (q 4)])), (q 1, .inl (k.1 0, 36, .inl (ta_e (tg_mud g1)))), (q 2, .inl (k.1 0, 4, .inl (ta_e (tg_wal g1)))), (q 3, .inl (k.1 0, 2, .inl (ta_e (tg_kne g1)))), (q 4, .inl (k.1 2, 2, .inr (.inr (.inr (.inr (ta_dr (q 5) (q 8))))))), (q 5, .inr (1, [.ref (q 6), .ref (q 7), .int (nI (g1 6))])), (q 6, .inl (k.1 0, 8, .inl (ta_e (X 0)))), (q 7, .inl (k.1 0, 8, .inl (ta_e (X 1)))), (q 8, .inr (1, [.ref (q 9), .ref (q 10), .int (nI (g1 7))])), (q 9, .inl (k.1 0, 8, .inl (ta_e (X 2)))), (q 10, .inl (k.1 0, 8, .inl (ta_e (X 3))))] H := hP
    have hD : va_D A [(q 0, .inr (0, [.int (nI (t 0)), .int (nI (t 1)), .int (nI (t 2)), .int (nI (g1 0)), .int (nI (g1 1)), .int (nI (g1 2 / t 0)), .int (nI (g1 2 % t 0)), .int (nI (g1 3)), .int (nI (g1 4)), .int (nI ((g1 5) - 1)), .ref (q 1), .ref (q 2), .ref (q 3), .ref (q 4)])), (q 1, .inl (k.1 0, 36, .inl (ta_e (tg_mud g1)))), (q 2, .inl (k.1 0, 4, .inl (ta_e (tg_wal g1)))), (q 3, .inl (k.1 0, 2, .inl (ta_e (tg_kne g1)))), (q 4, .inl (k.1 2, 2, .inr (.inr (.inr (.inr (ta_dr (q 5) (q 8))))))), (q 5, .inr (1, [.ref (q 6), .ref (q 7), .int (nI (g1 6))])), (q 6, .inl (k.1 0, 8, .inl (ta_e (X 0)))), (q 7, .inl (k.1 0, 8, .inl (ta_e (X 1)))), (q 8, .inr (1, [.ref (q 9), .ref (q 10), .int (nI (g1 7))])), (q 9, .inl (k.1 0, 8, .inl (ta_e (X 2)))), (q 10, .inl (k.1 0, 8, .inl (ta_e (X 3))))] := hD
    refine lv_aload_n hx hb dX0_doBegun_114 rfl (lv_at hl 0 rfl) ?_
    refine ta_get C hP 0 inlX0 rfl rfl 9 (by decide) tw_109 rfl dX0_doBegun_115 ?_
    refine ta_ine C (a := (g1 5) - 1) (tgt := 126) (by omega) dX0_doBegun_118 (by decide) (fun c8 => ?_) (fun c8 => ?_)
    · have e : tg_do t g a = ta_u (ta_u g1 5 (g1 5 - 1)) 4 (g1 4) := by unfold tg_do; rw [eact, k5, k4, if_neg (by omega)]
      rw [e] at ret
      exact ret () dX0_doBegun_126 trivial (dy_to (t := t) (g := ta_u (ta_u g1 5 (g1 5 - 1)) 4 (g1 4)) ⟨rfl, rfl, rfl, rfl, rfl, rfl, rfl, rfl, rfl, rfl, rfl, rfl⟩ (fun j hj => by simp only [tg_mud, ta_u]; rw [if_neg (by omega), if_neg (by omega)]) (fun j hj => by simp only [tg_wal, ta_u]; rw [if_neg (by omega), if_neg (by omega)]) (fun j hj => by simp only [tg_kne, ta_u]; rw [if_neg (by omega), if_neg (by omega)]) hP) (ta_De hD rfl) hS
    · refine lv_aload_n hx hb dX0_doBegun_121 rfl (lv_at hl 0 rfl) ?_
      refine ta_iconst C 4294967295 dX0_doBegun_122 (by decide) ?_
      refine ta_put C hP hD hS 0 inlX0 tyX0 tyX0_ok nmX0 rfl rfl 8 (by decide) tw_108 rfl rfl rfl (Nat.le_of_ble_eq_true rfl) dX0_doBegun_123 (fun H locs hP hD hS => ?_)
      have hP : va_P D vwCl [(q 0, .inr (0, [.int (nI (t 0)), .int (nI (t 1)), .int (nI (t 2)), .int (nI (g1 0)), .int (nI (g1 1)), .int (nI (g1 2 / t 0)), .int (nI (g1 2 % t 0)), .int (nI (g1 3)), .int (nI 4294967295), .int (nI ((g1 5) - 1)), .ref (q 1), .ref (q 2), .ref (q 3), .ref (q 4)])), (q 1, .inl (k.1 0, 36, .inl (ta_e (tg_mud g1)))), (q 2, .inl (k.1 0, 4, .inl (ta_e (tg_wal g1)))), (q 3, .inl (k.1 0, 2, .inl (ta_e (tg_kne g1)))), (q 4, .inl (k.1 2, 2, .inr (.inr (.inr (.inr (ta_dr (q 5) (q 8))))))), (q 5, .inr (1, [.ref (q 6), .ref (q 7), .int (nI (g1 6))])), (q 6, .inl (k.1 0, 8, .inl (ta_e (X 0)))), (q 7, .inl (k.1 0, 8, .inl (ta_e (X 1)))), (q 8, .inr (1, [.ref (q 9), .ref (q 10), .int (nI (g1 7))])), (q 9, .inl (k.1 0, 8, .inl (ta_e (X 2)))), (q 10, .inl (k.1 0, 8, .inl (ta_e (X 3))))] H := hP
      have hD : va_D A [(q 0, .inr (0, [.int (nI (t 0)), .int (nI (t 1)), .int (nI (t 2)), .int (nI (g1 0)), .int (nI (g1 1)), .int (nI (g1 2 / t 0)), .int (nI (g1 2 % t 0)), .int (nI (g1 3)), .int (nI 4294967295), .int (nI ((g1 5) - 1)), .ref (q 1), .ref (q 2), .ref (q 3), .ref (q 4)])), (q 1, .inl (k.1 0, 36, .inl (ta_e (tg_mud g1)))), (q 2, .inl (k.1 0, 4, .inl (ta_e (tg_wal g1)))), (q 3, .inl (k.1 0, 2, .inl (ta_e (tg_kne g1)))), (q 4, .inl (k.1 2, 2, .inr (.inr (.inr (.inr (ta_dr (q 5) (q 8))))))), (q 5, .inr (1, [.ref (q 6), .ref (q 7), .int (nI (g1 6))])), (q 6, .inl (k.1 0, 8, .inl (ta_e (X 0)))), (q 7, .inl (k.1 0, 8, .inl (ta_e (X 1)))), (q 8, .inr (1, [.ref (q 9), .ref (q 10), .int (nI (g1 7))])), (q 9, .inl (k.1 0, 8, .inl (ta_e (X 2)))), (q 10, .inl (k.1 0, 8, .inl (ta_e (X 3))))] := hD
      have e : tg_do t g a = ta_u (ta_u g1 5 (g1 5 - 1)) 4 4294967295 := by unfold tg_do; rw [eact, k5, if_pos (by omega)]
      rw [e] at ret
      exact ret () dX0_doBegun_126 trivial (dy_to (t := t) (g := ta_u (ta_u g1 5 (g1 5 - 1)) 4 4294967295) ⟨rfl, rfl, rfl, rfl, rfl, rfl, rfl, rfl, rfl, rfl, rfl, rfl⟩ (fun j hj => by simp only [tg_mud, ta_u]; rw [if_neg (by omega), if_neg (by omega)]) (fun j hj => by simp only [tg_wal, ta_u]; rw [if_neg (by omega), if_neg (by omega)]) (fun j hj => by simp only [tg_kne, ta_u]; rw [if_neg (by omega), if_neg (by omega)]) hP) (ta_De hD rfl) hS
  · refine ta_nv (y := 2) h4 ?_
    refine lv_tableIn (tgt := 60) hx hb dX0_doBegun_4 (by decide) (by decide) (off := 56) (by decide) (by decide) ?_
    refine lv_aload_n hx hb dX0_doBegun_60 rfl (lv_at hl 0 rfl) ?_
    refine lv_aload_n hx hb dX0_doBegun_61 rfl (lv_at hl 0 rfl) ?_
    refine ta_get C hP 0 inlX0 rfl rfl 7 (by decide) tw_107 rfl dX0_doBegun_62 ?_
    refine ta_callVv (As := [.int (nI (g 3))]) (rest0 := []) (Wr := []) C hP hD hS (c_X0_step l D k q t g X (g 3) hok (by omega)) 0 rfl rfl rfl [0, 1, 2, 3, 4, 5, 6, 7, 8, 9, 10] [] rfl rfl (by decide) (by decide) (by decide) tw_460 tw_457 tw_26 tw_458 tw_459 ⟨by decide, by decide, rfl⟩ ⟨Nat.le_of_ble_eq_true rfl, Nat.le_of_ble_eq_true rfl⟩ ⟨Nat.zero_le _, Nat.zero_le _⟩ hl.1 rfl (Nat.le_of_ble_eq_true rfl) dX0_doBegun_65 (fun u10 H locs h11 hP hD hS => ?_)
    have hP : va_P D vwCl (dyW k q t (tg_step t g ((g 3) % 4)) X) H := hP
    have hD : va_D A (dyW k q t (tg_step t g ((g 3) % 4)) X) := hD
    obtain ⟨g0, hg0⟩ : ∃ z, z = tg_step t g (g 3 % 4) := ⟨_, rfl⟩
    rw [← hg0] at hP hD
    refine lv_aload_n hx hb dX0_doBegun_68 rfl (lv_at hl 0 rfl) ?_
    refine lv_aload_n hx hb dX0_doBegun_69 rfl (lv_at hl 0 rfl) ?_
    refine ta_get C hP 0 inlX0 rfl rfl 7 (by decide) tw_107 rfl dX0_doBegun_70 ?_
    refine ta_callVv (As := [.int (nI (g0 3))]) (rest0 := []) (Wr := []) C hP hD hS (c_X0_step l D k q t g0 X (g0 3) (by rw [hg0]; exact tg_ok_step _ hok) (by rw [hg0, tg_step_k (by omega) b2 (by omega) (by omega)]; omega)) 0 rfl rfl rfl [0, 1, 2, 3, 4, 5, 6, 7, 8, 9, 10] [] rfl rfl (by decide) (by decide) (by decide) tw_460 tw_457 tw_26 tw_458 tw_459 ⟨by decide, by decide, rfl⟩ ⟨Nat.le_of_ble_eq_true rfl, Nat.le_of_ble_eq_true rfl⟩ ⟨Nat.zero_le _, Nat.zero_le _⟩ hl.1 rfl (Nat.le_of_ble_eq_true rfl) dX0_doBegun_73 (fun u13 H locs h14 hP hD hS => ?_)
    have hP : va_P D vwCl (dyW k q t (tg_step t g0 ((g0 3) % 4)) X) H := hP
    have hD : va_D A (dyW k q t (tg_step t g0 ((g0 3) % 4)) X) := hD
    obtain ⟨g1, hg1⟩ : ∃ z, z = tg_step t g0 (g0 3 % 4) := ⟨_, rfl⟩
    rw [← hg1] at hP hD
    refine lv_goto (tgt := 104) hx hb dX0_doBegun_76 (by decide) ?_
    have g03 : g0 3 = g 3 := by rw [hg0]; exact tg_step_k (by omega) b2 (by omega) (by omega)
    have c2 : g0 2 < t 0 * t 1 := by rw [hg0]; exact tg_step_2 (by omega) b2
    rw [g03, Nat.mod_eq_of_lt b3] at hg1
    rw [Nat.mod_eq_of_lt b3] at hg0
    have eact : tg_act t g a = g1 := by rw [hg1, hg0]; unfold tg_act; rw [if_neg (by omega), if_neg (by omega), if_pos h4]
    have k4 : g1 4 = g 4 := by rw [hg1]; exact (by rw [tg_step_k (by omega) c2 (by omega) (by omega), hg0]; exact tg_step_k (by omega) b2 (by omega) (by omega))
    have k5 : g1 5 = g 5 := by rw [hg1]; exact (by rw [tg_step_k (by omega) c2 (by omega) (by omega), hg0]; exact tg_step_k (by omega) b2 (by omega) (by omega))
    have hP : va_P D vwCl [(q 0, .inr (0, [.int (nI (t 0)), .int (nI (t 1)), .int (nI (t 2)), .int (nI (g1 0)), .int (nI (g1 1)), .int (nI (g1 2 / t 0)), .int (nI (g1 2 % t 0)), .int (nI (g1 3)), .int (nI (g1 4)), .int (nI (g1 5)), .ref (q 1), .ref (q 2), .ref (q 3), .ref (q 4)])), (q 1, .inl (k.1 0, 36, .inl (ta_e (tg_mud g1)))), (q 2, .inl (k.1 0, 4, .inl (ta_e (tg_wal g1)))), (q 3, .inl (k.1 0, 2, .inl (ta_e (tg_kne g1)))), (q 4, .inl (k.1 2, 2, .inr (.inr (.inr (.inr (ta_dr (q 5) (q 8))))))), (q 5, .inr (1, [.ref (q 6), .ref (q 7), .int (nI (g1 6))])), (q 6, .inl (k.1 0, 8, .inl (ta_e (X 0)))), (q 7, .inl (k.1 0, 8, .inl (ta_e (X 1)))), (q 8, .inr (1, [.ref (q 9), .ref (q 10), .int (nI (g1 7))])), (q 9, .inl (k.1 0, 8, .inl (ta_e (X 2)))), (q 10, .inl (k.1 0, 8, .inl (ta_e (X 3))))] H := hP
    have hD : va_D A [(q 0, .inr (0, [.int (nI (t 0)), .int (nI (t 1)), .int (nI (t 2)), .int (nI (g1 0)), .int (nI (g1 1)), .int (nI (g1 2 / t 0)), .int (nI (g1 2 % t 0)), .int (nI (g1 3)), .int (nI (g1 4)), .int (nI (g1 5)), .ref (q 1), .ref (q 2), .ref (q 3), .ref (q 4)])), (q 1, .inl (k.1 0, 36, .inl (ta_e (tg_mud g1)))), (q 2, .inl (k.1 0, 4, .inl (ta_e (tg_wal g1)))), (q 3, .inl (k.1 0, 2, .inl (ta_e (tg_kne g1)))), (q 4, .inl (k.1 2, 2, .inr (.inr (.inr (.inr (ta_dr (q 5) (q 8))))))), (q 5, .inr (1, [.ref (q 6), .ref (q 7), .int (nI (g1 6))])), (q 6, .inl (k.1 0, 8, .inl (ta_e (X 0)))), (q 7, .inl (k.1 0, 8, .inl (ta_e (X 1)))), (q 8, .inr (1, [.ref (q 9), .ref (q 10), .int (nI (g1 7))])), (q 9, .inl (k.1 0, 8, .inl (ta_e (X 2)))), (q 10, .inl (k.1 0, 8, .inl (ta_e (X 3))))] := hD
    have b5 : 1 ≤ g1 5 ∧ g1 5 ≤ 9 := by omega
    refine lv_aload_n hx hb dX0_doBegun_104 rfl (lv_at hl 0 rfl) ?_
    refine lv_dup hx hb dX0_doBegun_105 rfl ?_
    refine ta_get C hP 0 inlX0 rfl rfl 9 (by decide) tw_109 rfl dX0_doBegun_106 ?_
    refine ta_iconst C 1 dX0_doBegun_109 (by decide) ?_
    refine ta_isub C (a := g1 5) (b := 1) (by omega) dX0_doBegun_110 ?_
    refine ta_put C hP hD hS 0 inlX0 tyX0 tyX0_ok nmX0 rfl rfl 9 (by decide) tw_109 rfl rfl rfl (Nat.le_of_ble_eq_true rfl) dX0_doBegun_111 (fun H locs hP hD hS => ?_)
    have hP : va_P D vwCl [(q 0, .inr (0, [.int (nI (t 0)), .int (nI (t 1)), .int (nI (t 2)), .int (nI (g1 0)), .int (nI (g1 1)), .int (nI (g1 2 / t 0)), .int (nI (g1 2 % t 0)), .int (nI (g1 3)), .int (nI (g1 4)), .int (nI ((g1 5) - 1)), .ref (q 1), .ref (q 2), .ref (q 3), .ref (q 4)])), (q 1, .inl (k.1 0, 36, .inl (ta_e (tg_mud g1)))), (q 2, .inl (k.1 0, 4, .inl (ta_e (tg_wal g1)))), (q 3, .inl (k.1 0, 2, .inl (ta_e (tg_kne g1)))), (q 4, .inl (k.1 2, 2, .inr (.inr (.inr (.inr (ta_dr (q 5) (q 8))))))), (q 5, .inr (1, [.ref (q 6), .ref (q 7), .int (nI (g1 6))])), (q 6, .inl (k.1 0, 8, .inl (ta_e (X 0)))), (q 7, .inl (k.1 0, 8, .inl (ta_e (X 1)))), (q 8, .inr (1, [.ref (q 9), .ref (q 10), .int (nI (g1 7))])), (q 9, .inl (k.1 0, 8, .inl (ta_e (X 2)))), (q 10, .inl (k.1 0, 8, .inl (ta_e (X 3))))] H := hP
    have hD : va_D A [(q 0, .inr (0, [.int (nI (t 0)), .int (nI (t 1)), .int (nI (t 2)), .int (nI (g1 0)), .int (nI (g1 1)), .int (nI (g1 2 / t 0)), .int (nI (g1 2 % t 0)), .int (nI (g1 3)), .int (nI (g1 4)), .int (nI ((g1 5) - 1)), .ref (q 1), .ref (q 2), .ref (q 3), .ref (q 4)])), (q 1, .inl (k.1 0, 36, .inl (ta_e (tg_mud g1)))), (q 2, .inl (k.1 0, 4, .inl (ta_e (tg_wal g1)))), (q 3, .inl (k.1 0, 2, .inl (ta_e (tg_kne g1)))), (q 4, .inl (k.1 2, 2, .inr (.inr (.inr (.inr (ta_dr (q 5) (q 8))))))), (q 5, .inr (1, [.ref (q 6), .ref (q 7), .int (nI (g1 6))])), (q 6, .inl (k.1 0, 8, .inl (ta_e (X 0)))), (q 7, .inl (k.1 0, 8, .inl (ta_e (X 1)))), (q 8, .inr (1, [.ref (q 9), .ref (q 10), .int (nI (g1 7))])), (q 9, .inl (k.1 0, 8, .inl (ta_e (X 2)))), (q 10, .inl (k.1 0, 8, .inl (ta_e (X 3))))] := hD
    refine lv_aload_n hx hb dX0_doBegun_114 rfl (lv_at hl 0 rfl) ?_
    refine ta_get C hP 0 inlX0 rfl rfl 9 (by decide) tw_109 rfl dX0_doBegun_115 ?_
    refine ta_ine C (a := (g1 5) - 1) (tgt := 126) (by omega) dX0_doBegun_118 (by decide) (fun c15 => ?_) (fun c15 => ?_)
    · have e : tg_do t g a = ta_u (ta_u g1 5 (g1 5 - 1)) 4 (g1 4) := by unfold tg_do; rw [eact, k5, k4, if_neg (by omega)]
      rw [e] at ret
      exact ret () dX0_doBegun_126 trivial (dy_to (t := t) (g := ta_u (ta_u g1 5 (g1 5 - 1)) 4 (g1 4)) ⟨rfl, rfl, rfl, rfl, rfl, rfl, rfl, rfl, rfl, rfl, rfl, rfl⟩ (fun j hj => by simp only [tg_mud, ta_u]; rw [if_neg (by omega), if_neg (by omega)]) (fun j hj => by simp only [tg_wal, ta_u]; rw [if_neg (by omega), if_neg (by omega)]) (fun j hj => by simp only [tg_kne, ta_u]; rw [if_neg (by omega), if_neg (by omega)]) hP) (ta_De hD rfl) hS
    · refine lv_aload_n hx hb dX0_doBegun_121 rfl (lv_at hl 0 rfl) ?_
      refine ta_iconst C 4294967295 dX0_doBegun_122 (by decide) ?_
      refine ta_put C hP hD hS 0 inlX0 tyX0 tyX0_ok nmX0 rfl rfl 8 (by decide) tw_108 rfl rfl rfl (Nat.le_of_ble_eq_true rfl) dX0_doBegun_123 (fun H locs hP hD hS => ?_)
      have hP : va_P D vwCl [(q 0, .inr (0, [.int (nI (t 0)), .int (nI (t 1)), .int (nI (t 2)), .int (nI (g1 0)), .int (nI (g1 1)), .int (nI (g1 2 / t 0)), .int (nI (g1 2 % t 0)), .int (nI (g1 3)), .int (nI 4294967295), .int (nI ((g1 5) - 1)), .ref (q 1), .ref (q 2), .ref (q 3), .ref (q 4)])), (q 1, .inl (k.1 0, 36, .inl (ta_e (tg_mud g1)))), (q 2, .inl (k.1 0, 4, .inl (ta_e (tg_wal g1)))), (q 3, .inl (k.1 0, 2, .inl (ta_e (tg_kne g1)))), (q 4, .inl (k.1 2, 2, .inr (.inr (.inr (.inr (ta_dr (q 5) (q 8))))))), (q 5, .inr (1, [.ref (q 6), .ref (q 7), .int (nI (g1 6))])), (q 6, .inl (k.1 0, 8, .inl (ta_e (X 0)))), (q 7, .inl (k.1 0, 8, .inl (ta_e (X 1)))), (q 8, .inr (1, [.ref (q 9), .ref (q 10), .int (nI (g1 7))])), (q 9, .inl (k.1 0, 8, .inl (ta_e (X 2)))), (q 10, .inl (k.1 0, 8, .inl (ta_e (X 3))))] H := hP
      have hD : va_D A [(q 0, .inr (0, [.int (nI (t 0)), .int (nI (t 1)), .int (nI (t 2)), .int (nI (g1 0)), .int (nI (g1 1)), .int (nI (g1 2 / t 0)), .int (nI (g1 2 % t 0)), .int (nI (g1 3)), .int (nI 4294967295), .int (nI ((g1 5) - 1)), .ref (q 1), .ref (q 2), .ref (q 3), .ref (q 4)])), (q 1, .inl (k.1 0, 36, .inl (ta_e (tg_mud g1)))), (q 2, .inl (k.1 0, 4, .inl (ta_e (tg_wal g1)))), (q 3, .inl (k.1 0, 2, .inl (ta_e (tg_kne g1)))), (q 4, .inl (k.1 2, 2, .inr (.inr (.inr (.inr (ta_dr (q 5) (q 8))))))), (q 5, .inr (1, [.ref (q 6), .ref (q 7), .int (nI (g1 6))])), (q 6, .inl (k.1 0, 8, .inl (ta_e (X 0)))), (q 7, .inl (k.1 0, 8, .inl (ta_e (X 1)))), (q 8, .inr (1, [.ref (q 9), .ref (q 10), .int (nI (g1 7))])), (q 9, .inl (k.1 0, 8, .inl (ta_e (X 2)))), (q 10, .inl (k.1 0, 8, .inl (ta_e (X 3))))] := hD
      have e : tg_do t g a = ta_u (ta_u g1 5 (g1 5 - 1)) 4 4294967295 := by unfold tg_do; rw [eact, k5, if_pos (by omega)]
      rw [e] at ret
      exact ret () dX0_doBegun_126 trivial (dy_to (t := t) (g := ta_u (ta_u g1 5 (g1 5 - 1)) 4 4294967295) ⟨rfl, rfl, rfl, rfl, rfl, rfl, rfl, rfl, rfl, rfl, rfl, rfl⟩ (fun j hj => by simp only [tg_mud, ta_u]; rw [if_neg (by omega), if_neg (by omega)]) (fun j hj => by simp only [tg_wal, ta_u]; rw [if_neg (by omega), if_neg (by omega)]) (fun j hj => by simp only [tg_kne, ta_u]; rw [if_neg (by omega), if_neg (by omega)]) hP) (ta_De hD rfl) hS
  · refine ta_nv (y := 3) h4 ?_
    refine lv_tableIn (tgt := 79) hx hb dX0_doBegun_4 (by decide) (by decide) (off := 75) (by decide) (by decide) ?_
    refine lv_aload_n hx hb dX0_doBegun_79 rfl (lv_at hl 0 rfl) ?_
    refine lv_aload_n hx hb dX0_doBegun_80 rfl (lv_at hl 0 rfl) ?_
    refine ta_get C hP 0 inlX0 rfl rfl 7 (by decide) tw_107 rfl dX0_doBegun_81 ?_
    refine ta_iconst C 1 dX0_doBegun_84 (by decide) ?_
    refine ta_iadd C (a := g 3) (b := 1) dX0_doBegun_85 ?_
    refine ta_iconst C 3 dX0_doBegun_86 (by decide) ?_
    refine ta_iand C (a := (g 3) + 1) (b := 3) 2 (by omega) (by decide) dX0_doBegun_87 ?_
    refine ta_nv (y := ((g 3) + 1) % 4) rfl ?_
    refine ta_put C hP hD hS 0 inlX0 tyX0 tyX0_ok nmX0 rfl rfl 7 (by decide) tw_107 rfl rfl rfl (Nat.le_of_ble_eq_true rfl) dX0_doBegun_88 (fun H locs hP hD hS => ?_)
    have hP : va_P D vwCl [(q 0, .inr (0, [.int (nI (t 0)), .int (nI (t 1)), .int (nI (t 2)), .int (nI (g 0)), .int (nI (g 1)), .int (nI (g 2 / t 0)), .int (nI (g 2 % t 0)), .int (nI (((g 3) + 1) % 4)), .int (nI (g 4)), .int (nI (g 5)), .ref (q 1), .ref (q 2), .ref (q 3), .ref (q 4)])), (q 1, .inl (k.1 0, 36, .inl (ta_e (tg_mud g)))), (q 2, .inl (k.1 0, 4, .inl (ta_e (tg_wal g)))), (q 3, .inl (k.1 0, 2, .inl (ta_e (tg_kne g)))), (q 4, .inl (k.1 2, 2, .inr (.inr (.inr (.inr (ta_dr (q 5) (q 8))))))), (q 5, .inr (1, [.ref (q 6), .ref (q 7), .int (nI (g 6))])), (q 6, .inl (k.1 0, 8, .inl (ta_e (X 0)))), (q 7, .inl (k.1 0, 8, .inl (ta_e (X 1)))), (q 8, .inr (1, [.ref (q 9), .ref (q 10), .int (nI (g 7))])), (q 9, .inl (k.1 0, 8, .inl (ta_e (X 2)))), (q 10, .inl (k.1 0, 8, .inl (ta_e (X 3))))] H := hP
    have hD : va_D A [(q 0, .inr (0, [.int (nI (t 0)), .int (nI (t 1)), .int (nI (t 2)), .int (nI (g 0)), .int (nI (g 1)), .int (nI (g 2 / t 0)), .int (nI (g 2 % t 0)), .int (nI (((g 3) + 1) % 4)), .int (nI (g 4)), .int (nI (g 5)), .ref (q 1), .ref (q 2), .ref (q 3), .ref (q 4)])), (q 1, .inl (k.1 0, 36, .inl (ta_e (tg_mud g)))), (q 2, .inl (k.1 0, 4, .inl (ta_e (tg_wal g)))), (q 3, .inl (k.1 0, 2, .inl (ta_e (tg_kne g)))), (q 4, .inl (k.1 2, 2, .inr (.inr (.inr (.inr (ta_dr (q 5) (q 8))))))), (q 5, .inr (1, [.ref (q 6), .ref (q 7), .int (nI (g 6))])), (q 6, .inl (k.1 0, 8, .inl (ta_e (X 0)))), (q 7, .inl (k.1 0, 8, .inl (ta_e (X 1)))), (q 8, .inr (1, [.ref (q 9), .ref (q 10), .int (nI (g 7))])), (q 9, .inl (k.1 0, 8, .inl (ta_e (X 2)))), (q 10, .inl (k.1 0, 8, .inl (ta_e (X 3))))] := hD
    refine lv_goto (tgt := 104) hx hb dX0_doBegun_91 (by decide) ?_
    obtain ⟨g1, hg1⟩ : ∃ z, z = ta_u g 3 ((g 3 + 1) % 4) := ⟨_, rfl⟩
    have eact : tg_act t g a = g1 := by rw [hg1]; unfold tg_act; rw [if_neg (by omega), if_neg (by omega), if_neg (by omega), if_pos h4]
    have hP : va_P D vwCl (dyW k q t g1 X) H := by rw [hg1]; exact dy_to (t := t) (g := ta_u g 3 ((g 3 + 1) % 4)) ⟨rfl, rfl, rfl, rfl, rfl, rfl, rfl, rfl, rfl, rfl, rfl, rfl⟩ (fun j hj => by simp only [tg_mud, ta_u]; rw [if_neg (by omega)]) (fun j hj => by simp only [tg_wal, ta_u]; rw [if_neg (by omega)]) (fun j hj => by simp only [tg_kne, ta_u]; rw [if_neg (by omega)]) hP
    have hD : va_D A (dyW k q t g1 X) := ta_De hD rfl
    have k4 : g1 4 = g 4 := by rw [hg1]; exact ta_un (by omega)
    have k5 : g1 5 = g 5 := by rw [hg1]; exact ta_un (by omega)
    have hP : va_P D vwCl [(q 0, .inr (0, [.int (nI (t 0)), .int (nI (t 1)), .int (nI (t 2)), .int (nI (g1 0)), .int (nI (g1 1)), .int (nI (g1 2 / t 0)), .int (nI (g1 2 % t 0)), .int (nI (g1 3)), .int (nI (g1 4)), .int (nI (g1 5)), .ref (q 1), .ref (q 2), .ref (q 3), .ref (q 4)])), (q 1, .inl (k.1 0, 36, .inl (ta_e (tg_mud g1)))), (q 2, .inl (k.1 0, 4, .inl (ta_e (tg_wal g1)))), (q 3, .inl (k.1 0, 2, .inl (ta_e (tg_kne g1)))), (q 4, .inl (k.1 2, 2, .inr (.inr (.inr (.inr (ta_dr (q 5) (q 8))))))), (q 5, .inr (1, [.ref (q 6), .ref (q 7), .int (nI (g1 6))])), (q 6, .inl (k.1 0, 8, .inl (ta_e (X 0)))), (q 7, .inl (k.1 0, 8, .inl (ta_e (X 1)))), (q 8, .inr (1, [.ref (q 9), .ref (q 10), .int (nI (g1 7))])), (q 9, .inl (k.1 0, 8, .inl (ta_e (X 2)))), (q 10, .inl (k.1 0, 8, .inl (ta_e (X 3))))] H := hP
    have hD : va_D A [(q 0, .inr (0, [.int (nI (t 0)), .int (nI (t 1)), .int (nI (t 2)), .int (nI (g1 0)), .int (nI (g1 1)), .int (nI (g1 2 / t 0)), .int (nI (g1 2 % t 0)), .int (nI (g1 3)), .int (nI (g1 4)), .int (nI (g1 5)), .ref (q 1), .ref (q 2), .ref (q 3), .ref (q 4)])), (q 1, .inl (k.1 0, 36, .inl (ta_e (tg_mud g1)))), (q 2, .inl (k.1 0, 4, .inl (ta_e (tg_wal g1)))), (q 3, .inl (k.1 0, 2, .inl (ta_e (tg_kne g1)))), (q 4, .inl (k.1 2, 2, .inr (.inr (.inr (.inr (ta_dr (q 5) (q 8))))))), (q 5, .inr (1, [.ref (q 6), .ref (q 7), .int (nI (g1 6))])), (q 6, .inl (k.1 0, 8, .inl (ta_e (X 0)))), (q 7, .inl (k.1 0, 8, .inl (ta_e (X 1)))), (q 8, .inr (1, [.ref (q 9), .ref (q 10), .int (nI (g1 7))])), (q 9, .inl (k.1 0, 8, .inl (ta_e (X 2)))), (q 10, .inl (k.1 0, 8, .inl (ta_e (X 3))))] := hD
    have b5 : 1 ≤ g1 5 ∧ g1 5 ≤ 9 := by omega
    refine lv_aload_n hx hb dX0_doBegun_104 rfl (lv_at hl 0 rfl) ?_
    refine lv_dup hx hb dX0_doBegun_105 rfl ?_
    refine ta_get C hP 0 inlX0 rfl rfl 9 (by decide) tw_109 rfl dX0_doBegun_106 ?_
    refine ta_iconst C 1 dX0_doBegun_109 (by decide) ?_
    refine ta_isub C (a := g1 5) (b := 1) (by omega) dX0_doBegun_110 ?_
    refine ta_put C hP hD hS 0 inlX0 tyX0 tyX0_ok nmX0 rfl rfl 9 (by decide) tw_109 rfl rfl rfl (Nat.le_of_ble_eq_true rfl) dX0_doBegun_111 (fun H locs hP hD hS => ?_)
    have hP : va_P D vwCl [(q 0, .inr (0, [.int (nI (t 0)), .int (nI (t 1)), .int (nI (t 2)), .int (nI (g1 0)), .int (nI (g1 1)), .int (nI (g1 2 / t 0)), .int (nI (g1 2 % t 0)), .int (nI (g1 3)), .int (nI (g1 4)), .int (nI ((g1 5) - 1)), .ref (q 1), .ref (q 2), .ref (q 3), .ref (q 4)])), (q 1, .inl (k.1 0, 36, .inl (ta_e (tg_mud g1)))), (q 2, .inl (k.1 0, 4, .inl (ta_e (tg_wal g1)))), (q 3, .inl (k.1 0, 2, .inl (ta_e (tg_kne g1)))), (q 4, .inl (k.1 2, 2, .inr (.inr (.inr (.inr (ta_dr (q 5) (q 8))))))), (q 5, .inr (1, [.ref (q 6), .ref (q 7), .int (nI (g1 6))])), (q 6, .inl (k.1 0, 8, .inl (ta_e (X 0)))), (q 7, .inl (k.1 0, 8, .inl (ta_e (X 1)))), (q 8, .inr (1, [.ref (q 9), .ref (q 10), .int (nI (g1 7))])), (q 9, .inl (k.1 0, 8, .inl (ta_e (X 2)))), (q 10, .inl (k.1 0, 8, .inl (ta_e (X 3))))] H := hP
    have hD : va_D A [(q 0, .inr (0, [.int (nI (t 0)), .int (nI (t 1)), .int (nI (t 2)), .int (nI (g1 0)), .int (nI (g1 1)), .int (nI (g1 2 / t 0)), .int (nI (g1 2 % t 0)), .int (nI (g1 3)), .int (nI (g1 4)), .int (nI ((g1 5) - 1)), .ref (q 1), .ref (q 2), .ref (q 3), .ref (q 4)])), (q 1, .inl (k.1 0, 36, .inl (ta_e (tg_mud g1)))), (q 2, .inl (k.1 0, 4, .inl (ta_e (tg_wal g1)))), (q 3, .inl (k.1 0, 2, .inl (ta_e (tg_kne g1)))), (q 4, .inl (k.1 2, 2, .inr (.inr (.inr (.inr (ta_dr (q 5) (q 8))))))), (q 5, .inr (1, [.ref (q 6), .ref (q 7), .int (nI (g1 6))])), (q 6, .inl (k.1 0, 8, .inl (ta_e (X 0)))), (q 7, .inl (k.1 0, 8, .inl (ta_e (X 1)))), (q 8, .inr (1, [.ref (q 9), .ref (q 10), .int (nI (g1 7))])), (q 9, .inl (k.1 0, 8, .inl (ta_e (X 2)))), (q 10, .inl (k.1 0, 8, .inl (ta_e (X 3))))] := hD
    refine lv_aload_n hx hb dX0_doBegun_114 rfl (lv_at hl 0 rfl) ?_
    refine ta_get C hP 0 inlX0 rfl rfl 9 (by decide) tw_109 rfl dX0_doBegun_115 ?_
    refine ta_ine C (a := (g1 5) - 1) (tgt := 126) (by omega) dX0_doBegun_118 (by decide) (fun c16 => ?_) (fun c16 => ?_)
    · have e : tg_do t g a = ta_u (ta_u g1 5 (g1 5 - 1)) 4 (g1 4) := by unfold tg_do; rw [eact, k5, k4, if_neg (by omega)]
      rw [e] at ret
      exact ret () dX0_doBegun_126 trivial (dy_to (t := t) (g := ta_u (ta_u g1 5 (g1 5 - 1)) 4 (g1 4)) ⟨rfl, rfl, rfl, rfl, rfl, rfl, rfl, rfl, rfl, rfl, rfl, rfl⟩ (fun j hj => by simp only [tg_mud, ta_u]; rw [if_neg (by omega), if_neg (by omega)]) (fun j hj => by simp only [tg_wal, ta_u]; rw [if_neg (by omega), if_neg (by omega)]) (fun j hj => by simp only [tg_kne, ta_u]; rw [if_neg (by omega), if_neg (by omega)]) hP) (ta_De hD rfl) hS
    · refine lv_aload_n hx hb dX0_doBegun_121 rfl (lv_at hl 0 rfl) ?_
      refine ta_iconst C 4294967295 dX0_doBegun_122 (by decide) ?_
      refine ta_put C hP hD hS 0 inlX0 tyX0 tyX0_ok nmX0 rfl rfl 8 (by decide) tw_108 rfl rfl rfl (Nat.le_of_ble_eq_true rfl) dX0_doBegun_123 (fun H locs hP hD hS => ?_)
      have hP : va_P D vwCl [(q 0, .inr (0, [.int (nI (t 0)), .int (nI (t 1)), .int (nI (t 2)), .int (nI (g1 0)), .int (nI (g1 1)), .int (nI (g1 2 / t 0)), .int (nI (g1 2 % t 0)), .int (nI (g1 3)), .int (nI 4294967295), .int (nI ((g1 5) - 1)), .ref (q 1), .ref (q 2), .ref (q 3), .ref (q 4)])), (q 1, .inl (k.1 0, 36, .inl (ta_e (tg_mud g1)))), (q 2, .inl (k.1 0, 4, .inl (ta_e (tg_wal g1)))), (q 3, .inl (k.1 0, 2, .inl (ta_e (tg_kne g1)))), (q 4, .inl (k.1 2, 2, .inr (.inr (.inr (.inr (ta_dr (q 5) (q 8))))))), (q 5, .inr (1, [.ref (q 6), .ref (q 7), .int (nI (g1 6))])), (q 6, .inl (k.1 0, 8, .inl (ta_e (X 0)))), (q 7, .inl (k.1 0, 8, .inl (ta_e (X 1)))), (q 8, .inr (1, [.ref (q 9), .ref (q 10), .int (nI (g1 7))])), (q 9, .inl (k.1 0, 8, .inl (ta_e (X 2)))), (q 10, .inl (k.1 0, 8, .inl (ta_e (X 3))))] H := hP
      have hD : va_D A [(q 0, .inr (0, [.int (nI (t 0)), .int (nI (t 1)), .int (nI (t 2)), .int (nI (g1 0)), .int (nI (g1 1)), .int (nI (g1 2 / t 0)), .int (nI (g1 2 % t 0)), .int (nI (g1 3)), .int (nI 4294967295), .int (nI ((g1 5) - 1)), .ref (q 1), .ref (q 2), .ref (q 3), .ref (q 4)])), (q 1, .inl (k.1 0, 36, .inl (ta_e (tg_mud g1)))), (q 2, .inl (k.1 0, 4, .inl (ta_e (tg_wal g1)))), (q 3, .inl (k.1 0, 2, .inl (ta_e (tg_kne g1)))), (q 4, .inl (k.1 2, 2, .inr (.inr (.inr (.inr (ta_dr (q 5) (q 8))))))), (q 5, .inr (1, [.ref (q 6), .ref (q 7), .int (nI (g1 6))])), (q 6, .inl (k.1 0, 8, .inl (ta_e (X 0)))), (q 7, .inl (k.1 0, 8, .inl (ta_e (X 1)))), (q 8, .inr (1, [.ref (q 9), .ref (q 10), .int (nI (g1 7))])), (q 9, .inl (k.1 0, 8, .inl (ta_e (X 2)))), (q 10, .inl (k.1 0, 8, .inl (ta_e (X 3))))] := hD
      have e : tg_do t g a = ta_u (ta_u g1 5 (g1 5 - 1)) 4 4294967295 := by unfold tg_do; rw [eact, k5, if_pos (by omega)]
      rw [e] at ret
      exact ret () dX0_doBegun_126 trivial (dy_to (t := t) (g := ta_u (ta_u g1 5 (g1 5 - 1)) 4 4294967295) ⟨rfl, rfl, rfl, rfl, rfl, rfl, rfl, rfl, rfl, rfl, rfl, rfl⟩ (fun j hj => by simp only [tg_mud, ta_u]; rw [if_neg (by omega), if_neg (by omega)]) (fun j hj => by simp only [tg_wal, ta_u]; rw [if_neg (by omega), if_neg (by omega)]) (fun j hj => by simp only [tg_kne, ta_u]; rw [if_neg (by omega), if_neg (by omega)]) hP) (ta_De hD rfl) hS
  · refine ta_nv (y := 4) h4 ?_
    refine lv_tableOut (tgt := 94) hx hb dX0_doBegun_4 (Or.inr (by decide)) (by decide) ?_
    refine lv_aload_n hx hb dX0_doBegun_94 rfl (lv_at hl 0 rfl) ?_
    refine ta_get C hP 0 inlX0 rfl rfl 12 (by decide) tw_80 rfl dX0_doBegun_95 ?_
    refine lv_iload_n hx hb dX0_doBegun_98 rfl (lv_at hl 1 rfl) ?_
    refine lv_dup2_11 hx hb dX0_doBegun_99 rfl rfl ?_
    refine ta_iald C hP 3 rfl (i := a) (by omega) dX0_doBegun_100 ?_
    refine ta_iconst C 1 dX0_doBegun_101 (by decide) ?_
    refine ta_iadd C (a := (tg_kne g) a) (b := 1) dX0_doBegun_102 ?_
    refine ta_iast C hP hD hS 3 rfl (i := a) (v := ((tg_kne g) a) + 1) (by omega) dX0_doBegun_103 (fun H locs hP hD hS => ?_)
    have hP : va_P D vwCl [(q 0, .inr (0, [.int (nI (t 0)), .int (nI (t 1)), .int (nI (t 2)), .int (nI (g 0)), .int (nI (g 1)), .int (nI (g 2 / t 0)), .int (nI (g 2 % t 0)), .int (nI (g 3)), .int (nI (g 4)), .int (nI (g 5)), .ref (q 1), .ref (q 2), .ref (q 3), .ref (q 4)])), (q 1, .inl (k.1 0, 36, .inl (ta_e (tg_mud g)))), (q 2, .inl (k.1 0, 4, .inl (ta_e (tg_wal g)))), (q 3, .inl (k.1 0, 2, .inl (ta_e (ta_u (tg_kne g) a (((tg_kne g) a) + 1))))), (q 4, .inl (k.1 2, 2, .inr (.inr (.inr (.inr (ta_dr (q 5) (q 8))))))), (q 5, .inr (1, [.ref (q 6), .ref (q 7), .int (nI (g 6))])), (q 6, .inl (k.1 0, 8, .inl (ta_e (X 0)))), (q 7, .inl (k.1 0, 8, .inl (ta_e (X 1)))), (q 8, .inr (1, [.ref (q 9), .ref (q 10), .int (nI (g 7))])), (q 9, .inl (k.1 0, 8, .inl (ta_e (X 2)))), (q 10, .inl (k.1 0, 8, .inl (ta_e (X 3))))] H := hP
    have hD : va_D A [(q 0, .inr (0, [.int (nI (t 0)), .int (nI (t 1)), .int (nI (t 2)), .int (nI (g 0)), .int (nI (g 1)), .int (nI (g 2 / t 0)), .int (nI (g 2 % t 0)), .int (nI (g 3)), .int (nI (g 4)), .int (nI (g 5)), .ref (q 1), .ref (q 2), .ref (q 3), .ref (q 4)])), (q 1, .inl (k.1 0, 36, .inl (ta_e (tg_mud g)))), (q 2, .inl (k.1 0, 4, .inl (ta_e (tg_wal g)))), (q 3, .inl (k.1 0, 2, .inl (ta_e (ta_u (tg_kne g) a (((tg_kne g) a) + 1))))), (q 4, .inl (k.1 2, 2, .inr (.inr (.inr (.inr (ta_dr (q 5) (q 8))))))), (q 5, .inr (1, [.ref (q 6), .ref (q 7), .int (nI (g 6))])), (q 6, .inl (k.1 0, 8, .inl (ta_e (X 0)))), (q 7, .inl (k.1 0, 8, .inl (ta_e (X 1)))), (q 8, .inr (1, [.ref (q 9), .ref (q 10), .int (nI (g 7))])), (q 9, .inl (k.1 0, 8, .inl (ta_e (X 2)))), (q 10, .inl (k.1 0, 8, .inl (ta_e (X 3))))] := hD
    obtain ⟨g1, hg1⟩ : ∃ z, z = ta_u g (24 + a) (g (24 + a) + 1) := ⟨_, rfl⟩
    have eact : tg_act t g a = g1 := by rw [hg1]; unfold tg_act; rw [if_neg (by omega), if_neg (by omega), if_neg (by omega), if_neg (by omega)]
    have hP : va_P D vwCl (dyW k q t g1 X) H := by
      rw [hg1]
      exact dy_to (t := t) (g := ta_u g (24 + a) (g (24 + a) + 1)) ⟨rfl, rfl, rfl, (ta_un (by omega)).symm, (ta_un (by omega)).symm, (by rw [ta_un (by omega)]), (by rw [ta_un (by omega)]), (ta_un (by omega)).symm, (ta_un (by omega)).symm, (ta_un (by omega)).symm, (ta_un (by omega)).symm, (ta_un (by omega)).symm⟩ (fun j hj => (ta_un (by omega)).symm) (fun j hj => (ta_un (by omega)).symm) (fun j hj => by
        by_cases h9 : j = a
        · rw [h9, ta_us, ta_us]; rfl
        · rw [ta_un h9, ta_un (by omega)]; rfl) hP
    have hD : va_D A (dyW k q t g1 X) := ta_De hD rfl
    have k4 : g1 4 = g 4 := by rw [hg1]; exact ta_un (by omega)
    have k5 : g1 5 = g 5 := by rw [hg1]; exact ta_un (by omega)
    have hP : va_P D vwCl [(q 0, .inr (0, [.int (nI (t 0)), .int (nI (t 1)), .int (nI (t 2)), .int (nI (g1 0)), .int (nI (g1 1)), .int (nI (g1 2 / t 0)), .int (nI (g1 2 % t 0)), .int (nI (g1 3)), .int (nI (g1 4)), .int (nI (g1 5)), .ref (q 1), .ref (q 2), .ref (q 3), .ref (q 4)])), (q 1, .inl (k.1 0, 36, .inl (ta_e (tg_mud g1)))), (q 2, .inl (k.1 0, 4, .inl (ta_e (tg_wal g1)))), (q 3, .inl (k.1 0, 2, .inl (ta_e (tg_kne g1)))), (q 4, .inl (k.1 2, 2, .inr (.inr (.inr (.inr (ta_dr (q 5) (q 8))))))), (q 5, .inr (1, [.ref (q 6), .ref (q 7), .int (nI (g1 6))])), (q 6, .inl (k.1 0, 8, .inl (ta_e (X 0)))), (q 7, .inl (k.1 0, 8, .inl (ta_e (X 1)))), (q 8, .inr (1, [.ref (q 9), .ref (q 10), .int (nI (g1 7))])), (q 9, .inl (k.1 0, 8, .inl (ta_e (X 2)))), (q 10, .inl (k.1 0, 8, .inl (ta_e (X 3))))] H := hP
    have hD : va_D A [(q 0, .inr (0, [.int (nI (t 0)), .int (nI (t 1)), .int (nI (t 2)), .int (nI (g1 0)), .int (nI (g1 1)), .int (nI (g1 2 / t 0)), .int (nI (g1 2 % t 0)), .int (nI (g1 3)), .int (nI (g1 4)), .int (nI (g1 5)), .ref (q 1), .ref (q 2), .ref (q 3), .ref (q 4)])), (q 1, .inl (k.1 0, 36, .inl (ta_e (tg_mud g1)))), (q 2, .inl (k.1 0, 4, .inl (ta_e (tg_wal g1)))), (q 3, .inl (k.1 0, 2, .inl (ta_e (tg_kne g1)))), (q 4, .inl (k.1 2, 2, .inr (.inr (.inr (.inr (ta_dr (q 5) (q 8))))))), (q 5, .inr (1, [.ref (q 6), .ref (q 7), .int (nI (g1 6))])), (q 6, .inl (k.1 0, 8, .inl (ta_e (X 0)))), (q 7, .inl (k.1 0, 8, .inl (ta_e (X 1)))), (q 8, .inr (1, [.ref (q 9), .ref (q 10), .int (nI (g1 7))])), (q 9, .inl (k.1 0, 8, .inl (ta_e (X 2)))), (q 10, .inl (k.1 0, 8, .inl (ta_e (X 3))))] := hD
    have b5 : 1 ≤ g1 5 ∧ g1 5 ≤ 9 := by omega
    refine lv_aload_n hx hb dX0_doBegun_104 rfl (lv_at hl 0 rfl) ?_
    refine lv_dup hx hb dX0_doBegun_105 rfl ?_
    refine ta_get C hP 0 inlX0 rfl rfl 9 (by decide) tw_109 rfl dX0_doBegun_106 ?_
    refine ta_iconst C 1 dX0_doBegun_109 (by decide) ?_
    refine ta_isub C (a := g1 5) (b := 1) (by omega) dX0_doBegun_110 ?_
    refine ta_put C hP hD hS 0 inlX0 tyX0 tyX0_ok nmX0 rfl rfl 9 (by decide) tw_109 rfl rfl rfl (Nat.le_of_ble_eq_true rfl) dX0_doBegun_111 (fun H locs hP hD hS => ?_)
    have hP : va_P D vwCl [(q 0, .inr (0, [.int (nI (t 0)), .int (nI (t 1)), .int (nI (t 2)), .int (nI (g1 0)), .int (nI (g1 1)), .int (nI (g1 2 / t 0)), .int (nI (g1 2 % t 0)), .int (nI (g1 3)), .int (nI (g1 4)), .int (nI ((g1 5) - 1)), .ref (q 1), .ref (q 2), .ref (q 3), .ref (q 4)])), (q 1, .inl (k.1 0, 36, .inl (ta_e (tg_mud g1)))), (q 2, .inl (k.1 0, 4, .inl (ta_e (tg_wal g1)))), (q 3, .inl (k.1 0, 2, .inl (ta_e (tg_kne g1)))), (q 4, .inl (k.1 2, 2, .inr (.inr (.inr (.inr (ta_dr (q 5) (q 8))))))), (q 5, .inr (1, [.ref (q 6), .ref (q 7), .int (nI (g1 6))])), (q 6, .inl (k.1 0, 8, .inl (ta_e (X 0)))), (q 7, .inl (k.1 0, 8, .inl (ta_e (X 1)))), (q 8, .inr (1, [.ref (q 9), .ref (q 10), .int (nI (g1 7))])), (q 9, .inl (k.1 0, 8, .inl (ta_e (X 2)))), (q 10, .inl (k.1 0, 8, .inl (ta_e (X 3))))] H := hP
    have hD : va_D A [(q 0, .inr (0, [.int (nI (t 0)), .int (nI (t 1)), .int (nI (t 2)), .int (nI (g1 0)), .int (nI (g1 1)), .int (nI (g1 2 / t 0)), .int (nI (g1 2 % t 0)), .int (nI (g1 3)), .int (nI (g1 4)), .int (nI ((g1 5) - 1)), .ref (q 1), .ref (q 2), .ref (q 3), .ref (q 4)])), (q 1, .inl (k.1 0, 36, .inl (ta_e (tg_mud g1)))), (q 2, .inl (k.1 0, 4, .inl (ta_e (tg_wal g1)))), (q 3, .inl (k.1 0, 2, .inl (ta_e (tg_kne g1)))), (q 4, .inl (k.1 2, 2, .inr (.inr (.inr (.inr (ta_dr (q 5) (q 8))))))), (q 5, .inr (1, [.ref (q 6), .ref (q 7), .int (nI (g1 6))])), (q 6, .inl (k.1 0, 8, .inl (ta_e (X 0)))), (q 7, .inl (k.1 0, 8, .inl (ta_e (X 1)))), (q 8, .inr (1, [.ref (q 9), .ref (q 10), .int (nI (g1 7))])), (q 9, .inl (k.1 0, 8, .inl (ta_e (X 2)))), (q 10, .inl (k.1 0, 8, .inl (ta_e (X 3))))] := hD
    refine lv_aload_n hx hb dX0_doBegun_114 rfl (lv_at hl 0 rfl) ?_
    refine ta_get C hP 0 inlX0 rfl rfl 9 (by decide) tw_109 rfl dX0_doBegun_115 ?_
    refine ta_ine C (a := (g1 5) - 1) (tgt := 126) (by omega) dX0_doBegun_118 (by decide) (fun c17 => ?_) (fun c17 => ?_)
    · have e : tg_do t g a = ta_u (ta_u g1 5 (g1 5 - 1)) 4 (g1 4) := by unfold tg_do; rw [eact, k5, k4, if_neg (by omega)]
      rw [e] at ret
      exact ret () dX0_doBegun_126 trivial (dy_to (t := t) (g := ta_u (ta_u g1 5 (g1 5 - 1)) 4 (g1 4)) ⟨rfl, rfl, rfl, rfl, rfl, rfl, rfl, rfl, rfl, rfl, rfl, rfl⟩ (fun j hj => by simp only [tg_mud, ta_u]; rw [if_neg (by omega), if_neg (by omega)]) (fun j hj => by simp only [tg_wal, ta_u]; rw [if_neg (by omega), if_neg (by omega)]) (fun j hj => by simp only [tg_kne, ta_u]; rw [if_neg (by omega), if_neg (by omega)]) hP) (ta_De hD rfl) hS
    · refine lv_aload_n hx hb dX0_doBegun_121 rfl (lv_at hl 0 rfl) ?_
      refine ta_iconst C 4294967295 dX0_doBegun_122 (by decide) ?_
      refine ta_put C hP hD hS 0 inlX0 tyX0 tyX0_ok nmX0 rfl rfl 8 (by decide) tw_108 rfl rfl rfl (Nat.le_of_ble_eq_true rfl) dX0_doBegun_123 (fun H locs hP hD hS => ?_)
      have hP : va_P D vwCl [(q 0, .inr (0, [.int (nI (t 0)), .int (nI (t 1)), .int (nI (t 2)), .int (nI (g1 0)), .int (nI (g1 1)), .int (nI (g1 2 / t 0)), .int (nI (g1 2 % t 0)), .int (nI (g1 3)), .int (nI 4294967295), .int (nI ((g1 5) - 1)), .ref (q 1), .ref (q 2), .ref (q 3), .ref (q 4)])), (q 1, .inl (k.1 0, 36, .inl (ta_e (tg_mud g1)))), (q 2, .inl (k.1 0, 4, .inl (ta_e (tg_wal g1)))), (q 3, .inl (k.1 0, 2, .inl (ta_e (tg_kne g1)))), (q 4, .inl (k.1 2, 2, .inr (.inr (.inr (.inr (ta_dr (q 5) (q 8))))))), (q 5, .inr (1, [.ref (q 6), .ref (q 7), .int (nI (g1 6))])), (q 6, .inl (k.1 0, 8, .inl (ta_e (X 0)))), (q 7, .inl (k.1 0, 8, .inl (ta_e (X 1)))), (q 8, .inr (1, [.ref (q 9), .ref (q 10), .int (nI (g1 7))])), (q 9, .inl (k.1 0, 8, .inl (ta_e (X 2)))), (q 10, .inl (k.1 0, 8, .inl (ta_e (X 3))))] H := hP
      have hD : va_D A [(q 0, .inr (0, [.int (nI (t 0)), .int (nI (t 1)), .int (nI (t 2)), .int (nI (g1 0)), .int (nI (g1 1)), .int (nI (g1 2 / t 0)), .int (nI (g1 2 % t 0)), .int (nI (g1 3)), .int (nI 4294967295), .int (nI ((g1 5) - 1)), .ref (q 1), .ref (q 2), .ref (q 3), .ref (q 4)])), (q 1, .inl (k.1 0, 36, .inl (ta_e (tg_mud g1)))), (q 2, .inl (k.1 0, 4, .inl (ta_e (tg_wal g1)))), (q 3, .inl (k.1 0, 2, .inl (ta_e (tg_kne g1)))), (q 4, .inl (k.1 2, 2, .inr (.inr (.inr (.inr (ta_dr (q 5) (q 8))))))), (q 5, .inr (1, [.ref (q 6), .ref (q 7), .int (nI (g1 6))])), (q 6, .inl (k.1 0, 8, .inl (ta_e (X 0)))), (q 7, .inl (k.1 0, 8, .inl (ta_e (X 1)))), (q 8, .inr (1, [.ref (q 9), .ref (q 10), .int (nI (g1 7))])), (q 9, .inl (k.1 0, 8, .inl (ta_e (X 2)))), (q 10, .inl (k.1 0, 8, .inl (ta_e (X 3))))] := hD
      have e : tg_do t g a = ta_u (ta_u g1 5 (g1 5 - 1)) 4 4294967295 := by unfold tg_do; rw [eact, k5, if_pos (by omega)]
      rw [e] at ret
      exact ret () dX0_doBegun_126 trivial (dy_to (t := t) (g := ta_u (ta_u g1 5 (g1 5 - 1)) 4 4294967295) ⟨rfl, rfl, rfl, rfl, rfl, rfl, rfl, rfl, rfl, rfl, rfl, rfl⟩ (fun j hj => by simp only [tg_mud, ta_u]; rw [if_neg (by omega), if_neg (by omega)]) (fun j hj => by simp only [tg_wal, ta_u]; rw [if_neg (by omega), if_neg (by omega)]) (fun j hj => by simp only [tg_kne, ta_u]; rw [if_neg (by omega), if_neg (by omega)]) hP) (ta_De hD rfl) hS

set_option maxHeartbeats 4000000 in
set_option maxRecDepth 100000 in
theorem c_X0_beginNext_0z (l : Launch) (D : va_G) (k : ta_C) (q : Nat → Nat) (t : Nat → Nat) (g : Nat → Nat) (X : Nat → Nat → Nat) (hz : g 6 = 0) : ta_Mv (S := Unit) l D k yX0_beginNext cX0_beginNext 2 2 60 [.ref (q 0), .ref (q 5)] (dyW k q t g X) (fun _ => True) (fun u => (dyW k q t g X)) := by
  refine ta_enter_v (by decide) (Nat.le_of_ble_eq_true rfl) ?_
  intro p e s m below meth c A ls Q C ret hP hD hS hl
  have C : ta_At p l D k s m ([.ref (q 0), .ref (q 5)] : List Value).toArray c RX0 cX0_beginNext 2 A := C
  have hx := C.1.1
  have hb := C.1.2.1
  have hl : lv_has ls 2 [(0, .ref (q 0)), (1, .ref (q 5))] := hl
  obtain ⟨H, hH⟩ : ∃ H, H = s.heap := ⟨_, rfl⟩
  obtain ⟨locs, hlocs⟩ : ∃ q : List Loc, q = [] := ⟨_, rfl⟩
  have hP : va_P D vwCl (dyW k q t g X) H := by rw [hH]; exact hP
  have hS : va_S A s.heap H locs := by rw [hH, hlocs]; exact hS
  rw [← hlocs]
  suffices hgoal : W p l e ({ frames := 2, cells := 0, slots := 0, locals := 60 }) s m ([.ref (q 0), .ref (q 5)] : List Value).toArray below meth c H locs 0 0 Q (F0 m 0 ls []) by rw [hH] at hgoal; exact hgoal
  clear hH hlocs
  have hP : va_P D vwCl [(q 0, .inr (0, [.int (nI (t 0)), .int (nI (t 1)), .int (nI (t 2)), .int (nI (g 0)), .int (nI (g 1)), .int (nI (g 2 / t 0)), .int (nI (g 2 % t 0)), .int (nI (g 3)), .int (nI (g 4)), .int (nI (g 5)), .ref (q 1), .ref (q 2), .ref (q 3), .ref (q 4)])), (q 1, .inl (k.1 0, 36, .inl (ta_e (tg_mud g)))), (q 2, .inl (k.1 0, 4, .inl (ta_e (tg_wal g)))), (q 3, .inl (k.1 0, 2, .inl (ta_e (tg_kne g)))), (q 4, .inl (k.1 2, 2, .inr (.inr (.inr (.inr (ta_dr (q 5) (q 8))))))), (q 5, .inr (1, [.ref (q 6), .ref (q 7), .int (nI (g 6))])), (q 6, .inl (k.1 0, 8, .inl (ta_e (X 0)))), (q 7, .inl (k.1 0, 8, .inl (ta_e (X 1)))), (q 8, .inr (1, [.ref (q 9), .ref (q 10), .int (nI (g 7))])), (q 9, .inl (k.1 0, 8, .inl (ta_e (X 2)))), (q 10, .inl (k.1 0, 8, .inl (ta_e (X 3))))] H := hP
  have hD : va_D A [(q 0, .inr (0, [.int (nI (t 0)), .int (nI (t 1)), .int (nI (t 2)), .int (nI (g 0)), .int (nI (g 1)), .int (nI (g 2 / t 0)), .int (nI (g 2 % t 0)), .int (nI (g 3)), .int (nI (g 4)), .int (nI (g 5)), .ref (q 1), .ref (q 2), .ref (q 3), .ref (q 4)])), (q 1, .inl (k.1 0, 36, .inl (ta_e (tg_mud g)))), (q 2, .inl (k.1 0, 4, .inl (ta_e (tg_wal g)))), (q 3, .inl (k.1 0, 2, .inl (ta_e (tg_kne g)))), (q 4, .inl (k.1 2, 2, .inr (.inr (.inr (.inr (ta_dr (q 5) (q 8))))))), (q 5, .inr (1, [.ref (q 6), .ref (q 7), .int (nI (g 6))])), (q 6, .inl (k.1 0, 8, .inl (ta_e (X 0)))), (q 7, .inl (k.1 0, 8, .inl (ta_e (X 1)))), (q 8, .inr (1, [.ref (q 9), .ref (q 10), .int (nI (g 7))])), (q 9, .inl (k.1 0, 8, .inl (ta_e (X 2)))), (q 10, .inl (k.1 0, 8, .inl (ta_e (X 3))))] := hD
  refine lv_aload_n hx hb dX0_beginNext_0 rfl (lv_at hl 1 rfl) ?_
  refine ta_getN C hP 5 inlX1 rfl rfl 2 (by decide) 9 rfl rfl dX0_beginNext_1 ?_
  refine ta_ine C (a := g 6) (tgt := 8) (by omega) dX0_beginNext_4 (by decide) (fun c1 => ?_) (fun c1 => ?_)
  · exfalso; omega
  · exact ret () dX0_beginNext_7 trivial hP hD hS

set_option maxHeartbeats 4000000 in
set_option maxRecDepth 100000 in
theorem c_X0_beginNext_0 (l : Launch) (D : va_G) (k : ta_C) (q : Nat → Nat) (t : Nat → Nat) (g : Nat → Nat) (X : Nat → Nat → Nat) (hn0 : 0 < g 6) (hn8 : g 6 ≤ 8) (h6 : g 6 ≤ 8) (hX : tg_X g X) : ta_Mv (S := Nat → Nat → Nat) l D k yX0_beginNext cX0_beginNext 2 2 60 [.ref (q 0), .ref (q 5)] (dyW k q t g X) (fun u => tg_X (tg_begin g 0) u) (fun u => (dyW k q t (tg_begin g 0) u)) := by
  refine ta_enter_v (by decide) (Nat.le_of_ble_eq_true rfl) ?_
  intro p e s m below meth c A ls Q C ret hP hD hS hl
  have C : ta_At p l D k s m ([.ref (q 0), .ref (q 5)] : List Value).toArray c RX0 cX0_beginNext 2 A := C
  have hx := C.1.1
  have hb := C.1.2.1
  have hl : lv_has ls 2 [(0, .ref (q 0)), (1, .ref (q 5))] := hl
  obtain ⟨H, hH⟩ : ∃ H, H = s.heap := ⟨_, rfl⟩
  obtain ⟨locs, hlocs⟩ : ∃ q : List Loc, q = [] := ⟨_, rfl⟩
  have hP : va_P D vwCl (dyW k q t g X) H := by rw [hH]; exact hP
  have hS : va_S A s.heap H locs := by rw [hH, hlocs]; exact hS
  rw [← hlocs]
  suffices hgoal : W p l e ({ frames := 2, cells := 0, slots := 0, locals := 60 }) s m ([.ref (q 0), .ref (q 5)] : List Value).toArray below meth c H locs 0 0 Q (F0 m 0 ls []) by rw [hH] at hgoal; exact hgoal
  clear hH hlocs
  have hP : va_P D vwCl [(q 0, .inr (0, [.int (nI (t 0)), .int (nI (t 1)), .int (nI (t 2)), .int (nI (g 0)), .int (nI (g 1)), .int (nI (g 2 / t 0)), .int (nI (g 2 % t 0)), .int (nI (g 3)), .int (nI (g 4)), .int (nI (g 5)), .ref (q 1), .ref (q 2), .ref (q 3), .ref (q 4)])), (q 1, .inl (k.1 0, 36, .inl (ta_e (tg_mud g)))), (q 2, .inl (k.1 0, 4, .inl (ta_e (tg_wal g)))), (q 3, .inl (k.1 0, 2, .inl (ta_e (tg_kne g)))), (q 4, .inl (k.1 2, 2, .inr (.inr (.inr (.inr (ta_dr (q 5) (q 8))))))), (q 5, .inr (1, [.ref (q 6), .ref (q 7), .int (nI (g 6))])), (q 6, .inl (k.1 0, 8, .inl (ta_e (X 0)))), (q 7, .inl (k.1 0, 8, .inl (ta_e (X 1)))), (q 8, .inr (1, [.ref (q 9), .ref (q 10), .int (nI (g 7))])), (q 9, .inl (k.1 0, 8, .inl (ta_e (X 2)))), (q 10, .inl (k.1 0, 8, .inl (ta_e (X 3))))] H := hP
  have hD : va_D A [(q 0, .inr (0, [.int (nI (t 0)), .int (nI (t 1)), .int (nI (t 2)), .int (nI (g 0)), .int (nI (g 1)), .int (nI (g 2 / t 0)), .int (nI (g 2 % t 0)), .int (nI (g 3)), .int (nI (g 4)), .int (nI (g 5)), .ref (q 1), .ref (q 2), .ref (q 3), .ref (q 4)])), (q 1, .inl (k.1 0, 36, .inl (ta_e (tg_mud g)))), (q 2, .inl (k.1 0, 4, .inl (ta_e (tg_wal g)))), (q 3, .inl (k.1 0, 2, .inl (ta_e (tg_kne g)))), (q 4, .inl (k.1 2, 2, .inr (.inr (.inr (.inr (ta_dr (q 5) (q 8))))))), (q 5, .inr (1, [.ref (q 6), .ref (q 7), .int (nI (g 6))])), (q 6, .inl (k.1 0, 8, .inl (ta_e (X 0)))), (q 7, .inl (k.1 0, 8, .inl (ta_e (X 1)))), (q 8, .inr (1, [.ref (q 9), .ref (q 10), .int (nI (g 7))])), (q 9, .inl (k.1 0, 8, .inl (ta_e (X 2)))), (q 10, .inl (k.1 0, 8, .inl (ta_e (X 3))))] := hD
  refine lv_aload_n hx hb dX0_beginNext_0 rfl (lv_at hl 1 rfl) ?_
  refine ta_getN C hP 5 inlX1 rfl rfl 2 (by decide) 9 rfl rfl dX0_beginNext_1 ?_
  refine ta_ine C (a := g 6) (tgt := 8) (by omega) dX0_beginNext_4 (by decide) (fun c1 => ?_) (fun c1 => ?_)
  · refine lv_aload_n hx hb dX0_beginNext_8 rfl (lv_at hl 0 rfl) ?_
    refine lv_aload_n hx hb dX0_beginNext_9 rfl (lv_at hl 1 rfl) ?_
    refine ta_getN C hP 5 inlX1 rfl rfl 0 (by decide) 3 rfl rfl dX0_beginNext_10 ?_
    refine ta_iconst C 0 dX0_beginNext_13 (by decide) ?_
    refine ta_iald C hP 6 rfl (i := 0) (by omega) dX0_beginNext_14 ?_
    refine ta_put C hP hD hS 0 inlX0 tyX0 tyX0_ok nmX0 rfl rfl 8 (by decide) tw_108 rfl rfl rfl (Nat.le_of_ble_eq_true rfl) dX0_beginNext_15 (fun H locs hP hD hS => ?_)
    have hP : va_P D vwCl [(q 0, .inr (0, [.int (nI (t 0)), .int (nI (t 1)), .int (nI (t 2)), .int (nI (g 0)), .int (nI (g 1)), .int (nI (g 2 / t 0)), .int (nI (g 2 % t 0)), .int (nI (g 3)), .int (nI ((X 0) 0)), .int (nI (g 5)), .ref (q 1), .ref (q 2), .ref (q 3), .ref (q 4)])), (q 1, .inl (k.1 0, 36, .inl (ta_e (tg_mud g)))), (q 2, .inl (k.1 0, 4, .inl (ta_e (tg_wal g)))), (q 3, .inl (k.1 0, 2, .inl (ta_e (tg_kne g)))), (q 4, .inl (k.1 2, 2, .inr (.inr (.inr (.inr (ta_dr (q 5) (q 8))))))), (q 5, .inr (1, [.ref (q 6), .ref (q 7), .int (nI (g 6))])), (q 6, .inl (k.1 0, 8, .inl (ta_e (X 0)))), (q 7, .inl (k.1 0, 8, .inl (ta_e (X 1)))), (q 8, .inr (1, [.ref (q 9), .ref (q 10), .int (nI (g 7))])), (q 9, .inl (k.1 0, 8, .inl (ta_e (X 2)))), (q 10, .inl (k.1 0, 8, .inl (ta_e (X 3))))] H := hP
    have hD : va_D A [(q 0, .inr (0, [.int (nI (t 0)), .int (nI (t 1)), .int (nI (t 2)), .int (nI (g 0)), .int (nI (g 1)), .int (nI (g 2 / t 0)), .int (nI (g 2 % t 0)), .int (nI (g 3)), .int (nI ((X 0) 0)), .int (nI (g 5)), .ref (q 1), .ref (q 2), .ref (q 3), .ref (q 4)])), (q 1, .inl (k.1 0, 36, .inl (ta_e (tg_mud g)))), (q 2, .inl (k.1 0, 4, .inl (ta_e (tg_wal g)))), (q 3, .inl (k.1 0, 2, .inl (ta_e (tg_kne g)))), (q 4, .inl (k.1 2, 2, .inr (.inr (.inr (.inr (ta_dr (q 5) (q 8))))))), (q 5, .inr (1, [.ref (q 6), .ref (q 7), .int (nI (g 6))])), (q 6, .inl (k.1 0, 8, .inl (ta_e (X 0)))), (q 7, .inl (k.1 0, 8, .inl (ta_e (X 1)))), (q 8, .inr (1, [.ref (q 9), .ref (q 10), .int (nI (g 7))])), (q 9, .inl (k.1 0, 8, .inl (ta_e (X 2)))), (q 10, .inl (k.1 0, 8, .inl (ta_e (X 3))))] := hD
    refine lv_aload_n hx hb dX0_beginNext_18 rfl (lv_at hl 0 rfl) ?_
    refine lv_aload_n hx hb dX0_beginNext_19 rfl (lv_at hl 1 rfl) ?_
    refine ta_getN C hP 5 inlX1 rfl rfl 1 (by decide) 5 rfl rfl dX0_beginNext_20 ?_
    refine ta_iconst C 0 dX0_beginNext_23 (by decide) ?_
    refine ta_iald C hP 7 rfl (i := 0) (by omega) dX0_beginNext_24 ?_
    refine ta_put C hP hD hS 0 inlX0 tyX0 tyX0_ok nmX0 rfl rfl 9 (by decide) tw_109 rfl rfl rfl (Nat.le_of_ble_eq_true rfl) dX0_beginNext_25 (fun H locs hP hD hS => ?_)
    have hP : va_P D vwCl [(q 0, .inr (0, [.int (nI (t 0)), .int (nI (t 1)), .int (nI (t 2)), .int (nI (g 0)), .int (nI (g 1)), .int (nI (g 2 / t 0)), .int (nI (g 2 % t 0)), .int (nI (g 3)), .int (nI ((X 0) 0)), .int (nI ((X 1) 0)), .ref (q 1), .ref (q 2), .ref (q 3), .ref (q 4)])), (q 1, .inl (k.1 0, 36, .inl (ta_e (tg_mud g)))), (q 2, .inl (k.1 0, 4, .inl (ta_e (tg_wal g)))), (q 3, .inl (k.1 0, 2, .inl (ta_e (tg_kne g)))), (q 4, .inl (k.1 2, 2, .inr (.inr (.inr (.inr (ta_dr (q 5) (q 8))))))), (q 5, .inr (1, [.ref (q 6), .ref (q 7), .int (nI (g 6))])), (q 6, .inl (k.1 0, 8, .inl (ta_e (X 0)))), (q 7, .inl (k.1 0, 8, .inl (ta_e (X 1)))), (q 8, .inr (1, [.ref (q 9), .ref (q 10), .int (nI (g 7))])), (q 9, .inl (k.1 0, 8, .inl (ta_e (X 2)))), (q 10, .inl (k.1 0, 8, .inl (ta_e (X 3))))] H := hP
    have hD : va_D A [(q 0, .inr (0, [.int (nI (t 0)), .int (nI (t 1)), .int (nI (t 2)), .int (nI (g 0)), .int (nI (g 1)), .int (nI (g 2 / t 0)), .int (nI (g 2 % t 0)), .int (nI (g 3)), .int (nI ((X 0) 0)), .int (nI ((X 1) 0)), .ref (q 1), .ref (q 2), .ref (q 3), .ref (q 4)])), (q 1, .inl (k.1 0, 36, .inl (ta_e (tg_mud g)))), (q 2, .inl (k.1 0, 4, .inl (ta_e (tg_wal g)))), (q 3, .inl (k.1 0, 2, .inl (ta_e (tg_kne g)))), (q 4, .inl (k.1 2, 2, .inr (.inr (.inr (.inr (ta_dr (q 5) (q 8))))))), (q 5, .inr (1, [.ref (q 6), .ref (q 7), .int (nI (g 6))])), (q 6, .inl (k.1 0, 8, .inl (ta_e (X 0)))), (q 7, .inl (k.1 0, 8, .inl (ta_e (X 1)))), (q 8, .inr (1, [.ref (q 9), .ref (q 10), .int (nI (g 7))])), (q 9, .inl (k.1 0, 8, .inl (ta_e (X 2)))), (q 10, .inl (k.1 0, 8, .inl (ta_e (X 3))))] := hD
    refine lv_aload_n hx hb dX0_beginNext_28 rfl (lv_at hl 1 rfl) ?_
    refine ta_callVv (As := []) (rest0 := []) (Wr := [(q 0, .inr (0, [.int (nI (t 0)), .int (nI (t 1)), .int (nI (t 2)), .int (nI (g 0)), .int (nI (g 1)), .int (nI (g 2 / t 0)), .int (nI (g 2 % t 0)), .int (nI (g 3)), .int (nI ((X 0) 0)), .int (nI ((X 1) 0)), .ref (q 1), .ref (q 2), .ref (q 3), .ref (q 4)])), (q 1, .inl (k.1 0, 36, .inl (ta_e (tg_mud g)))), (q 2, .inl (k.1 0, 4, .inl (ta_e (tg_wal g)))), (q 3, .inl (k.1 0, 2, .inl (ta_e (tg_kne g)))), (q 4, .inl (k.1 2, 2, .inr (.inr (.inr (.inr (ta_dr (q 5) (q 8))))))), (q 8, .inr (1, [.ref (q 9), .ref (q 10), .int (nI (g 7))])), (q 9, .inl (k.1 0, 8, .inl (ta_e (X 2)))), (q 10, .inl (k.1 0, 8, .inl (ta_e (X 3))))]) C hP hD hS (c_X1_dropNext l D k (q 5) (q 6) (q 7) (X 0) (X 1) (g 6) ⟨hn0, hn8⟩) 5 rfl rfl rfl [5, 6, 7] [0, 1, 2, 3, 4, 8, 9, 10] rfl rfl (by decide) (by decide) (by decide) tw_452 tw_449 tw_56 tw_450 tw_451 ⟨by decide, by decide, rfl⟩ ⟨Nat.le_of_ble_eq_true rfl, Nat.le_of_ble_eq_true rfl⟩ ⟨Nat.zero_le _, Nat.zero_le _⟩ hl.1 rfl (Nat.le_of_ble_eq_true rfl) dX0_beginNext_29 (fun u3 H locs h4 hP hD hS => ?_)
    have hP : va_P D vwCl [(q 0, .inr (0, [.int (nI (t 0)), .int (nI (t 1)), .int (nI (t 2)), .int (nI (g 0)), .int (nI (g 1)), .int (nI (g 2 / t 0)), .int (nI (g 2 % t 0)), .int (nI (g 3)), .int (nI ((X 0) 0)), .int (nI ((X 1) 0)), .ref (q 1), .ref (q 2), .ref (q 3), .ref (q 4)])), (q 1, .inl (k.1 0, 36, .inl (ta_e (tg_mud g)))), (q 2, .inl (k.1 0, 4, .inl (ta_e (tg_wal g)))), (q 3, .inl (k.1 0, 2, .inl (ta_e (tg_kne g)))), (q 4, .inl (k.1 2, 2, .inr (.inr (.inr (.inr (ta_dr (q 5) (q 8))))))), (q 8, .inr (1, [.ref (q 9), .ref (q 10), .int (nI (g 7))])), (q 9, .inl (k.1 0, 8, .inl (ta_e (X 2)))), (q 10, .inl (k.1 0, 8, .inl (ta_e (X 3)))), (q 5, .inr (1, [.ref (q 6), .ref (q 7), .int (nI ((g 6) - 1))])), (q 6, .inl (k.1 0, 8, .inl (ta_e (va_cpy (X 0) (X 0) 1 0 ((g 6) - 1))))), (q 7, .inl (k.1 0, 8, .inl (ta_e (va_cpy (X 1) (X 1) 1 0 ((g 6) - 1)))))] H := hP
    have hD : va_D A [(q 0, .inr (0, [.int (nI (t 0)), .int (nI (t 1)), .int (nI (t 2)), .int (nI (g 0)), .int (nI (g 1)), .int (nI (g 2 / t 0)), .int (nI (g 2 % t 0)), .int (nI (g 3)), .int (nI ((X 0) 0)), .int (nI ((X 1) 0)), .ref (q 1), .ref (q 2), .ref (q 3), .ref (q 4)])), (q 1, .inl (k.1 0, 36, .inl (ta_e (tg_mud g)))), (q 2, .inl (k.1 0, 4, .inl (ta_e (tg_wal g)))), (q 3, .inl (k.1 0, 2, .inl (ta_e (tg_kne g)))), (q 4, .inl (k.1 2, 2, .inr (.inr (.inr (.inr (ta_dr (q 5) (q 8))))))), (q 8, .inr (1, [.ref (q 9), .ref (q 10), .int (nI (g 7))])), (q 9, .inl (k.1 0, 8, .inl (ta_e (X 2)))), (q 10, .inl (k.1 0, 8, .inl (ta_e (X 3)))), (q 5, .inr (1, [.ref (q 6), .ref (q 7), .int (nI ((g 6) - 1))])), (q 6, .inl (k.1 0, 8, .inl (ta_e (va_cpy (X 0) (X 0) 1 0 ((g 6) - 1))))), (q 7, .inl (k.1 0, 8, .inl (ta_e (va_cpy (X 1) (X 1) 1 0 ((g 6) - 1)))))] := hD
    have hP : va_P D vwCl [(q 0, .inr (0, [.int (nI (t 0)), .int (nI (t 1)), .int (nI (t 2)), .int (nI (g 0)), .int (nI (g 1)), .int (nI (g 2 / t 0)), .int (nI (g 2 % t 0)), .int (nI (g 3)), .int (nI ((X 0) 0)), .int (nI ((X 1) 0)), .ref (q 1), .ref (q 2), .ref (q 3), .ref (q 4)])), (q 1, .inl (k.1 0, 36, .inl (ta_e (tg_mud g)))), (q 2, .inl (k.1 0, 4, .inl (ta_e (tg_wal g)))), (q 3, .inl (k.1 0, 2, .inl (ta_e (tg_kne g)))), (q 4, .inl (k.1 2, 2, .inr (.inr (.inr (.inr (ta_dr (q 5) (q 8))))))), (q 5, .inr (1, [.ref (q 6), .ref (q 7), .int (nI ((g 6) - 1))])), (q 6, .inl (k.1 0, 8, .inl (ta_e (va_cpy (X 0) (X 0) 1 0 ((g 6) - 1))))), (q 7, .inl (k.1 0, 8, .inl (ta_e (va_cpy (X 1) (X 1) 1 0 ((g 6) - 1))))), (q 8, .inr (1, [.ref (q 9), .ref (q 10), .int (nI (g 7))])), (q 9, .inl (k.1 0, 8, .inl (ta_e (X 2)))), (q 10, .inl (k.1 0, 8, .inl (ta_e (X 3))))] H := hP.sub [0, 1, 2, 3, 4, 8, 9, 10, 5, 6, 7] rfl
    have hD : va_D A [(q 0, .inr (0, [.int (nI (t 0)), .int (nI (t 1)), .int (nI (t 2)), .int (nI (g 0)), .int (nI (g 1)), .int (nI (g 2 / t 0)), .int (nI (g 2 % t 0)), .int (nI (g 3)), .int (nI ((X 0) 0)), .int (nI ((X 1) 0)), .ref (q 1), .ref (q 2), .ref (q 3), .ref (q 4)])), (q 1, .inl (k.1 0, 36, .inl (ta_e (tg_mud g)))), (q 2, .inl (k.1 0, 4, .inl (ta_e (tg_wal g)))), (q 3, .inl (k.1 0, 2, .inl (ta_e (tg_kne g)))), (q 4, .inl (k.1 2, 2, .inr (.inr (.inr (.inr (ta_dr (q 5) (q 8))))))), (q 5, .inr (1, [.ref (q 6), .ref (q 7), .int (nI ((g 6) - 1))])), (q 6, .inl (k.1 0, 8, .inl (ta_e (va_cpy (X 0) (X 0) 1 0 ((g 6) - 1))))), (q 7, .inl (k.1 0, 8, .inl (ta_e (va_cpy (X 1) (X 1) 1 0 ((g 6) - 1))))), (q 8, .inr (1, [.ref (q 9), .ref (q 10), .int (nI (g 7))])), (q 9, .inl (k.1 0, 8, .inl (ta_e (X 2)))), (q 10, .inl (k.1 0, 8, .inl (ta_e (X 3))))] := hD.sub [0, 1, 2, 3, 4, 8, 9, 10, 5, 6, 7] (by decide) rfl
    exact ret _ dX0_beginNext_32 (tg_begX0 hX h6) (dy_to (t := t) (g := tg_begin g 0) ⟨rfl, rfl, rfl, (tg_begin_k (a := 0) (by omega) (by omega) (by omega) (by omega)).symm, (tg_begin_k (a := 0) (by omega) (by omega) (by omega) (by omega)).symm, (by rw [tg_begin_k (a := 0) (by omega) (by omega) (by omega) (by omega)]), (by rw [tg_begin_k (a := 0) (by omega) (by omega) (by omega) (by omega)]), (tg_begin_k (a := 0) (by omega) (by omega) (by omega) (by omega)).symm, ((hX.1 0 hn0).1.trans (tg_begin_4 g 0).symm), ((hX.1 0 hn0).2.trans (tg_begin_5 g 0).symm), (tg_begin_n (a := 0) (by omega)).symm, (tg_begin_k (a := 0) (by omega) (by omega) (by omega) (by omega)).symm⟩ (fun j hj => (tg_begin_k (a := 0) (by omega) (by omega) (by omega) (Or.inr (show 8 + 8 * 0 + (g 6 - 1) ≤ _ by omega))).symm) (fun j hj => (tg_begin_k (a := 0) (by omega) (by omega) (by omega) (Or.inr (show 8 + 8 * 0 + (g 6 - 1) ≤ _ by omega))).symm) (fun j hj => (tg_begin_k (a := 0) (by omega) (by omega) (by omega) (Or.inr (show 8 + 8 * 0 + (g 6 - 1) ≤ _ by omega))).symm) hP) (ta_De hD rfl) hS
  · exfalso; omega

set_option maxHeartbeats 4000000 in
set_option maxRecDepth 100000 in
theorem c_X0_beginNext_1z (l : Launch) (D : va_G) (k : ta_C) (q : Nat → Nat) (t : Nat → Nat) (g : Nat → Nat) (X : Nat → Nat → Nat) (hz : g 7 = 0) : ta_Mv (S := Unit) l D k yX0_beginNext cX0_beginNext 2 2 60 [.ref (q 0), .ref (q 8)] (dyW k q t g X) (fun _ => True) (fun u => (dyW k q t g X)) := by
  refine ta_enter_v (by decide) (Nat.le_of_ble_eq_true rfl) ?_
  intro p e s m below meth c A ls Q C ret hP hD hS hl
  have C : ta_At p l D k s m ([.ref (q 0), .ref (q 8)] : List Value).toArray c RX0 cX0_beginNext 2 A := C
  have hx := C.1.1
  have hb := C.1.2.1
  have hl : lv_has ls 2 [(0, .ref (q 0)), (1, .ref (q 8))] := hl
  obtain ⟨H, hH⟩ : ∃ H, H = s.heap := ⟨_, rfl⟩
  obtain ⟨locs, hlocs⟩ : ∃ q : List Loc, q = [] := ⟨_, rfl⟩
  have hP : va_P D vwCl (dyW k q t g X) H := by rw [hH]; exact hP
  have hS : va_S A s.heap H locs := by rw [hH, hlocs]; exact hS
  rw [← hlocs]
  suffices hgoal : W p l e ({ frames := 2, cells := 0, slots := 0, locals := 60 }) s m ([.ref (q 0), .ref (q 8)] : List Value).toArray below meth c H locs 0 0 Q (F0 m 0 ls []) by rw [hH] at hgoal; exact hgoal
  clear hH hlocs
  have hP : va_P D vwCl [(q 0, .inr (0, [.int (nI (t 0)), .int (nI (t 1)), .int (nI (t 2)), .int (nI (g 0)), .int (nI (g 1)), .int (nI (g 2 / t 0)), .int (nI (g 2 % t 0)), .int (nI (g 3)), .int (nI (g 4)), .int (nI (g 5)), .ref (q 1), .ref (q 2), .ref (q 3), .ref (q 4)])), (q 1, .inl (k.1 0, 36, .inl (ta_e (tg_mud g)))), (q 2, .inl (k.1 0, 4, .inl (ta_e (tg_wal g)))), (q 3, .inl (k.1 0, 2, .inl (ta_e (tg_kne g)))), (q 4, .inl (k.1 2, 2, .inr (.inr (.inr (.inr (ta_dr (q 5) (q 8))))))), (q 5, .inr (1, [.ref (q 6), .ref (q 7), .int (nI (g 6))])), (q 6, .inl (k.1 0, 8, .inl (ta_e (X 0)))), (q 7, .inl (k.1 0, 8, .inl (ta_e (X 1)))), (q 8, .inr (1, [.ref (q 9), .ref (q 10), .int (nI (g 7))])), (q 9, .inl (k.1 0, 8, .inl (ta_e (X 2)))), (q 10, .inl (k.1 0, 8, .inl (ta_e (X 3))))] H := hP
  have hD : va_D A [(q 0, .inr (0, [.int (nI (t 0)), .int (nI (t 1)), .int (nI (t 2)), .int (nI (g 0)), .int (nI (g 1)), .int (nI (g 2 / t 0)), .int (nI (g 2 % t 0)), .int (nI (g 3)), .int (nI (g 4)), .int (nI (g 5)), .ref (q 1), .ref (q 2), .ref (q 3), .ref (q 4)])), (q 1, .inl (k.1 0, 36, .inl (ta_e (tg_mud g)))), (q 2, .inl (k.1 0, 4, .inl (ta_e (tg_wal g)))), (q 3, .inl (k.1 0, 2, .inl (ta_e (tg_kne g)))), (q 4, .inl (k.1 2, 2, .inr (.inr (.inr (.inr (ta_dr (q 5) (q 8))))))), (q 5, .inr (1, [.ref (q 6), .ref (q 7), .int (nI (g 6))])), (q 6, .inl (k.1 0, 8, .inl (ta_e (X 0)))), (q 7, .inl (k.1 0, 8, .inl (ta_e (X 1)))), (q 8, .inr (1, [.ref (q 9), .ref (q 10), .int (nI (g 7))])), (q 9, .inl (k.1 0, 8, .inl (ta_e (X 2)))), (q 10, .inl (k.1 0, 8, .inl (ta_e (X 3))))] := hD
  refine lv_aload_n hx hb dX0_beginNext_0 rfl (lv_at hl 1 rfl) ?_
  refine ta_getN C hP 8 inlX1 rfl rfl 2 (by decide) 9 rfl rfl dX0_beginNext_1 ?_
  refine ta_ine C (a := g 7) (tgt := 8) (by omega) dX0_beginNext_4 (by decide) (fun c1 => ?_) (fun c1 => ?_)
  · exfalso; omega
  · exact ret () dX0_beginNext_7 trivial hP hD hS

set_option maxHeartbeats 4000000 in
set_option maxRecDepth 100000 in
theorem c_X0_beginNext_1 (l : Launch) (D : va_G) (k : ta_C) (q : Nat → Nat) (t : Nat → Nat) (g : Nat → Nat) (X : Nat → Nat → Nat) (hn0 : 0 < g 7) (hn8 : g 7 ≤ 8) (h6 : g 6 ≤ 8) (hX : tg_X g X) : ta_Mv (S := Nat → Nat → Nat) l D k yX0_beginNext cX0_beginNext 2 2 60 [.ref (q 0), .ref (q 8)] (dyW k q t g X) (fun u => tg_X (tg_begin g 1) u) (fun u => (dyW k q t (tg_begin g 1) u)) := by
  refine ta_enter_v (by decide) (Nat.le_of_ble_eq_true rfl) ?_
  intro p e s m below meth c A ls Q C ret hP hD hS hl
  have C : ta_At p l D k s m ([.ref (q 0), .ref (q 8)] : List Value).toArray c RX0 cX0_beginNext 2 A := C
  have hx := C.1.1
  have hb := C.1.2.1
  have hl : lv_has ls 2 [(0, .ref (q 0)), (1, .ref (q 8))] := hl
  obtain ⟨H, hH⟩ : ∃ H, H = s.heap := ⟨_, rfl⟩
  obtain ⟨locs, hlocs⟩ : ∃ q : List Loc, q = [] := ⟨_, rfl⟩
  have hP : va_P D vwCl (dyW k q t g X) H := by rw [hH]; exact hP
  have hS : va_S A s.heap H locs := by rw [hH, hlocs]; exact hS
  rw [← hlocs]
  suffices hgoal : W p l e ({ frames := 2, cells := 0, slots := 0, locals := 60 }) s m ([.ref (q 0), .ref (q 8)] : List Value).toArray below meth c H locs 0 0 Q (F0 m 0 ls []) by rw [hH] at hgoal; exact hgoal
  clear hH hlocs
  have hP : va_P D vwCl [(q 0, .inr (0, [.int (nI (t 0)), .int (nI (t 1)), .int (nI (t 2)), .int (nI (g 0)), .int (nI (g 1)), .int (nI (g 2 / t 0)), .int (nI (g 2 % t 0)), .int (nI (g 3)), .int (nI (g 4)), .int (nI (g 5)), .ref (q 1), .ref (q 2), .ref (q 3), .ref (q 4)])), (q 1, .inl (k.1 0, 36, .inl (ta_e (tg_mud g)))), (q 2, .inl (k.1 0, 4, .inl (ta_e (tg_wal g)))), (q 3, .inl (k.1 0, 2, .inl (ta_e (tg_kne g)))), (q 4, .inl (k.1 2, 2, .inr (.inr (.inr (.inr (ta_dr (q 5) (q 8))))))), (q 5, .inr (1, [.ref (q 6), .ref (q 7), .int (nI (g 6))])), (q 6, .inl (k.1 0, 8, .inl (ta_e (X 0)))), (q 7, .inl (k.1 0, 8, .inl (ta_e (X 1)))), (q 8, .inr (1, [.ref (q 9), .ref (q 10), .int (nI (g 7))])), (q 9, .inl (k.1 0, 8, .inl (ta_e (X 2)))), (q 10, .inl (k.1 0, 8, .inl (ta_e (X 3))))] H := hP
  have hD : va_D A [(q 0, .inr (0, [.int (nI (t 0)), .int (nI (t 1)), .int (nI (t 2)), .int (nI (g 0)), .int (nI (g 1)), .int (nI (g 2 / t 0)), .int (nI (g 2 % t 0)), .int (nI (g 3)), .int (nI (g 4)), .int (nI (g 5)), .ref (q 1), .ref (q 2), .ref (q 3), .ref (q 4)])), (q 1, .inl (k.1 0, 36, .inl (ta_e (tg_mud g)))), (q 2, .inl (k.1 0, 4, .inl (ta_e (tg_wal g)))), (q 3, .inl (k.1 0, 2, .inl (ta_e (tg_kne g)))), (q 4, .inl (k.1 2, 2, .inr (.inr (.inr (.inr (ta_dr (q 5) (q 8))))))), (q 5, .inr (1, [.ref (q 6), .ref (q 7), .int (nI (g 6))])), (q 6, .inl (k.1 0, 8, .inl (ta_e (X 0)))), (q 7, .inl (k.1 0, 8, .inl (ta_e (X 1)))), (q 8, .inr (1, [.ref (q 9), .ref (q 10), .int (nI (g 7))])), (q 9, .inl (k.1 0, 8, .inl (ta_e (X 2)))), (q 10, .inl (k.1 0, 8, .inl (ta_e (X 3))))] := hD
  refine lv_aload_n hx hb dX0_beginNext_0 rfl (lv_at hl 1 rfl) ?_
  refine ta_getN C hP 8 inlX1 rfl rfl 2 (by decide) 9 rfl rfl dX0_beginNext_1 ?_
  refine ta_ine C (a := g 7) (tgt := 8) (by omega) dX0_beginNext_4 (by decide) (fun c1 => ?_) (fun c1 => ?_)
  · refine lv_aload_n hx hb dX0_beginNext_8 rfl (lv_at hl 0 rfl) ?_
    refine lv_aload_n hx hb dX0_beginNext_9 rfl (lv_at hl 1 rfl) ?_
    refine ta_getN C hP 8 inlX1 rfl rfl 0 (by decide) 3 rfl rfl dX0_beginNext_10 ?_
    refine ta_iconst C 0 dX0_beginNext_13 (by decide) ?_
    refine ta_iald C hP 9 rfl (i := 0) (by omega) dX0_beginNext_14 ?_
    refine ta_put C hP hD hS 0 inlX0 tyX0 tyX0_ok nmX0 rfl rfl 8 (by decide) tw_108 rfl rfl rfl (Nat.le_of_ble_eq_true rfl) dX0_beginNext_15 (fun H locs hP hD hS => ?_)
    have hP : va_P D vwCl [(q 0, .inr (0, [.int (nI (t 0)), .int (nI (t 1)), .int (nI (t 2)), .int (nI (g 0)), .int (nI (g 1)), .int (nI (g 2 / t 0)), .int (nI (g 2 % t 0)), .int (nI (g 3)), .int (nI ((X 2) 0)), .int (nI (g 5)), .ref (q 1), .ref (q 2), .ref (q 3), .ref (q 4)])), (q 1, .inl (k.1 0, 36, .inl (ta_e (tg_mud g)))), (q 2, .inl (k.1 0, 4, .inl (ta_e (tg_wal g)))), (q 3, .inl (k.1 0, 2, .inl (ta_e (tg_kne g)))), (q 4, .inl (k.1 2, 2, .inr (.inr (.inr (.inr (ta_dr (q 5) (q 8))))))), (q 5, .inr (1, [.ref (q 6), .ref (q 7), .int (nI (g 6))])), (q 6, .inl (k.1 0, 8, .inl (ta_e (X 0)))), (q 7, .inl (k.1 0, 8, .inl (ta_e (X 1)))), (q 8, .inr (1, [.ref (q 9), .ref (q 10), .int (nI (g 7))])), (q 9, .inl (k.1 0, 8, .inl (ta_e (X 2)))), (q 10, .inl (k.1 0, 8, .inl (ta_e (X 3))))] H := hP
    have hD : va_D A [(q 0, .inr (0, [.int (nI (t 0)), .int (nI (t 1)), .int (nI (t 2)), .int (nI (g 0)), .int (nI (g 1)), .int (nI (g 2 / t 0)), .int (nI (g 2 % t 0)), .int (nI (g 3)), .int (nI ((X 2) 0)), .int (nI (g 5)), .ref (q 1), .ref (q 2), .ref (q 3), .ref (q 4)])), (q 1, .inl (k.1 0, 36, .inl (ta_e (tg_mud g)))), (q 2, .inl (k.1 0, 4, .inl (ta_e (tg_wal g)))), (q 3, .inl (k.1 0, 2, .inl (ta_e (tg_kne g)))), (q 4, .inl (k.1 2, 2, .inr (.inr (.inr (.inr (ta_dr (q 5) (q 8))))))), (q 5, .inr (1, [.ref (q 6), .ref (q 7), .int (nI (g 6))])), (q 6, .inl (k.1 0, 8, .inl (ta_e (X 0)))), (q 7, .inl (k.1 0, 8, .inl (ta_e (X 1)))), (q 8, .inr (1, [.ref (q 9), .ref (q 10), .int (nI (g 7))])), (q 9, .inl (k.1 0, 8, .inl (ta_e (X 2)))), (q 10, .inl (k.1 0, 8, .inl (ta_e (X 3))))] := hD
    refine lv_aload_n hx hb dX0_beginNext_18 rfl (lv_at hl 0 rfl) ?_
    refine lv_aload_n hx hb dX0_beginNext_19 rfl (lv_at hl 1 rfl) ?_
    refine ta_getN C hP 8 inlX1 rfl rfl 1 (by decide) 5 rfl rfl dX0_beginNext_20 ?_
    refine ta_iconst C 0 dX0_beginNext_23 (by decide) ?_
    refine ta_iald C hP 10 rfl (i := 0) (by omega) dX0_beginNext_24 ?_
    refine ta_put C hP hD hS 0 inlX0 tyX0 tyX0_ok nmX0 rfl rfl 9 (by decide) tw_109 rfl rfl rfl (Nat.le_of_ble_eq_true rfl) dX0_beginNext_25 (fun H locs hP hD hS => ?_)
    have hP : va_P D vwCl [(q 0, .inr (0, [.int (nI (t 0)), .int (nI (t 1)), .int (nI (t 2)), .int (nI (g 0)), .int (nI (g 1)), .int (nI (g 2 / t 0)), .int (nI (g 2 % t 0)), .int (nI (g 3)), .int (nI ((X 2) 0)), .int (nI ((X 3) 0)), .ref (q 1), .ref (q 2), .ref (q 3), .ref (q 4)])), (q 1, .inl (k.1 0, 36, .inl (ta_e (tg_mud g)))), (q 2, .inl (k.1 0, 4, .inl (ta_e (tg_wal g)))), (q 3, .inl (k.1 0, 2, .inl (ta_e (tg_kne g)))), (q 4, .inl (k.1 2, 2, .inr (.inr (.inr (.inr (ta_dr (q 5) (q 8))))))), (q 5, .inr (1, [.ref (q 6), .ref (q 7), .int (nI (g 6))])), (q 6, .inl (k.1 0, 8, .inl (ta_e (X 0)))), (q 7, .inl (k.1 0, 8, .inl (ta_e (X 1)))), (q 8, .inr (1, [.ref (q 9), .ref (q 10), .int (nI (g 7))])), (q 9, .inl (k.1 0, 8, .inl (ta_e (X 2)))), (q 10, .inl (k.1 0, 8, .inl (ta_e (X 3))))] H := hP
    have hD : va_D A [(q 0, .inr (0, [.int (nI (t 0)), .int (nI (t 1)), .int (nI (t 2)), .int (nI (g 0)), .int (nI (g 1)), .int (nI (g 2 / t 0)), .int (nI (g 2 % t 0)), .int (nI (g 3)), .int (nI ((X 2) 0)), .int (nI ((X 3) 0)), .ref (q 1), .ref (q 2), .ref (q 3), .ref (q 4)])), (q 1, .inl (k.1 0, 36, .inl (ta_e (tg_mud g)))), (q 2, .inl (k.1 0, 4, .inl (ta_e (tg_wal g)))), (q 3, .inl (k.1 0, 2, .inl (ta_e (tg_kne g)))), (q 4, .inl (k.1 2, 2, .inr (.inr (.inr (.inr (ta_dr (q 5) (q 8))))))), (q 5, .inr (1, [.ref (q 6), .ref (q 7), .int (nI (g 6))])), (q 6, .inl (k.1 0, 8, .inl (ta_e (X 0)))), (q 7, .inl (k.1 0, 8, .inl (ta_e (X 1)))), (q 8, .inr (1, [.ref (q 9), .ref (q 10), .int (nI (g 7))])), (q 9, .inl (k.1 0, 8, .inl (ta_e (X 2)))), (q 10, .inl (k.1 0, 8, .inl (ta_e (X 3))))] := hD
    refine lv_aload_n hx hb dX0_beginNext_28 rfl (lv_at hl 1 rfl) ?_
    refine ta_callVv (As := []) (rest0 := []) (Wr := [(q 0, .inr (0, [.int (nI (t 0)), .int (nI (t 1)), .int (nI (t 2)), .int (nI (g 0)), .int (nI (g 1)), .int (nI (g 2 / t 0)), .int (nI (g 2 % t 0)), .int (nI (g 3)), .int (nI ((X 2) 0)), .int (nI ((X 3) 0)), .ref (q 1), .ref (q 2), .ref (q 3), .ref (q 4)])), (q 1, .inl (k.1 0, 36, .inl (ta_e (tg_mud g)))), (q 2, .inl (k.1 0, 4, .inl (ta_e (tg_wal g)))), (q 3, .inl (k.1 0, 2, .inl (ta_e (tg_kne g)))), (q 4, .inl (k.1 2, 2, .inr (.inr (.inr (.inr (ta_dr (q 5) (q 8))))))), (q 5, .inr (1, [.ref (q 6), .ref (q 7), .int (nI (g 6))])), (q 6, .inl (k.1 0, 8, .inl (ta_e (X 0)))), (q 7, .inl (k.1 0, 8, .inl (ta_e (X 1))))]) C hP hD hS (c_X1_dropNext l D k (q 8) (q 9) (q 10) (X 2) (X 3) (g 7) ⟨hn0, hn8⟩) 8 rfl rfl rfl [8, 9, 10] [0, 1, 2, 3, 4, 5, 6, 7] rfl rfl (by decide) (by decide) (by decide) tw_452 tw_449 tw_56 tw_450 tw_451 ⟨by decide, by decide, rfl⟩ ⟨Nat.le_of_ble_eq_true rfl, Nat.le_of_ble_eq_true rfl⟩ ⟨Nat.zero_le _, Nat.zero_le _⟩ hl.1 rfl (Nat.le_of_ble_eq_true rfl) dX0_beginNext_29 (fun u3 H locs h4 hP hD hS => ?_)
    have hP : va_P D vwCl [(q 0, .inr (0, [.int (nI (t 0)), .int (nI (t 1)), .int (nI (t 2)), .int (nI (g 0)), .int (nI (g 1)), .int (nI (g 2 / t 0)), .int (nI (g 2 % t 0)), .int (nI (g 3)), .int (nI ((X 2) 0)), .int (nI ((X 3) 0)), .ref (q 1), .ref (q 2), .ref (q 3), .ref (q 4)])), (q 1, .inl (k.1 0, 36, .inl (ta_e (tg_mud g)))), (q 2, .inl (k.1 0, 4, .inl (ta_e (tg_wal g)))), (q 3, .inl (k.1 0, 2, .inl (ta_e (tg_kne g)))), (q 4, .inl (k.1 2, 2, .inr (.inr (.inr (.inr (ta_dr (q 5) (q 8))))))), (q 5, .inr (1, [.ref (q 6), .ref (q 7), .int (nI (g 6))])), (q 6, .inl (k.1 0, 8, .inl (ta_e (X 0)))), (q 7, .inl (k.1 0, 8, .inl (ta_e (X 1)))), (q 8, .inr (1, [.ref (q 9), .ref (q 10), .int (nI ((g 7) - 1))])), (q 9, .inl (k.1 0, 8, .inl (ta_e (va_cpy (X 2) (X 2) 1 0 ((g 7) - 1))))), (q 10, .inl (k.1 0, 8, .inl (ta_e (va_cpy (X 3) (X 3) 1 0 ((g 7) - 1)))))] H := hP
    have hD : va_D A [(q 0, .inr (0, [.int (nI (t 0)), .int (nI (t 1)), .int (nI (t 2)), .int (nI (g 0)), .int (nI (g 1)), .int (nI (g 2 / t 0)), .int (nI (g 2 % t 0)), .int (nI (g 3)), .int (nI ((X 2) 0)), .int (nI ((X 3) 0)), .ref (q 1), .ref (q 2), .ref (q 3), .ref (q 4)])), (q 1, .inl (k.1 0, 36, .inl (ta_e (tg_mud g)))), (q 2, .inl (k.1 0, 4, .inl (ta_e (tg_wal g)))), (q 3, .inl (k.1 0, 2, .inl (ta_e (tg_kne g)))), (q 4, .inl (k.1 2, 2, .inr (.inr (.inr (.inr (ta_dr (q 5) (q 8))))))), (q 5, .inr (1, [.ref (q 6), .ref (q 7), .int (nI (g 6))])), (q 6, .inl (k.1 0, 8, .inl (ta_e (X 0)))), (q 7, .inl (k.1 0, 8, .inl (ta_e (X 1)))), (q 8, .inr (1, [.ref (q 9), .ref (q 10), .int (nI ((g 7) - 1))])), (q 9, .inl (k.1 0, 8, .inl (ta_e (va_cpy (X 2) (X 2) 1 0 ((g 7) - 1))))), (q 10, .inl (k.1 0, 8, .inl (ta_e (va_cpy (X 3) (X 3) 1 0 ((g 7) - 1)))))] := hD
    exact ret _ dX0_beginNext_32 (tg_begX1 hX h6) (dy_to (t := t) (g := tg_begin g 1) ⟨rfl, rfl, rfl, (tg_begin_k (a := 1) (by omega) (by omega) (by omega) (by omega)).symm, (tg_begin_k (a := 1) (by omega) (by omega) (by omega) (by omega)).symm, (by rw [tg_begin_k (a := 1) (by omega) (by omega) (by omega) (by omega)]), (by rw [tg_begin_k (a := 1) (by omega) (by omega) (by omega) (by omega)]), (tg_begin_k (a := 1) (by omega) (by omega) (by omega) (by omega)).symm, ((hX.2 0 hn0).1.trans (tg_begin_4 g 1).symm), ((hX.2 0 hn0).2.trans (tg_begin_5 g 1).symm), (tg_begin_k (a := 1) (by omega) (by omega) (by omega) (by omega)).symm, (tg_begin_n (a := 1) (by omega)).symm⟩ (fun j hj => (tg_begin_k (a := 1) (by omega) (by omega) (by omega) (Or.inr (show 8 + 8 * 1 + (g 7 - 1) ≤ _ by omega))).symm) (fun j hj => (tg_begin_k (a := 1) (by omega) (by omega) (by omega) (Or.inr (show 8 + 8 * 1 + (g 7 - 1) ≤ _ by omega))).symm) (fun j hj => (tg_begin_k (a := 1) (by omega) (by omega) (by omega) (Or.inr (show 8 + 8 * 1 + (g 7 - 1) ≤ _ by omega))).symm) hP) (ta_De hD rfl) hS
  · exfalso; omega

set_option maxHeartbeats 4000000 in
set_option maxRecDepth 100000 in
theorem c_X0_goMinute (l : Launch) (D : va_G) (k : ta_C) (q : Nat → Nat) (t : Nat → Nat) (g : Nat → Nat) (X : Nat → Nat → Nat) (hok : tg_ok t g) (h0 : g 0 < 1073741824) (hX : tg_X g X) : ta_Mi (S := Nat → Nat → Nat) l D k yX0_goMinute cX0_goMinute 3 .int 3 100 [.ref (q 0)] (dyW k q t g X) (fun r u => r = nI (tg_kn g) ∧ tg_X (tg_go t g) u) (fun u => (dyW k q t (tg_go t g) u)) := by
  refine ta_enter_i (by decide) (Nat.le_of_ble_eq_true rfl) ?_
  intro p e s m below meth c A ls Q C ret hP hD hS hl
  have C : ta_At p l D k s m ([.ref (q 0)] : List Value).toArray c RX0 cX0_goMinute 3 A := C
  have hx := C.1.1
  have hb := C.1.2.1
  have hl : lv_has ls 3 [(0, .ref (q 0))] := hl
  obtain ⟨H, hH⟩ : ∃ H, H = s.heap := ⟨_, rfl⟩
  obtain ⟨locs, hlocs⟩ : ∃ q : List Loc, q = [] := ⟨_, rfl⟩
  have hP : va_P D vwCl (dyW k q t g X) H := by rw [hH]; exact hP
  have hS : va_S A s.heap H locs := by rw [hH, hlocs]; exact hS
  rw [← hlocs]
  suffices hgoal : W p l e ({ frames := 3, cells := 0, slots := 0, locals := 100 }) s m ([.ref (q 0)] : List Value).toArray below meth c H locs 0 0 Q (F0 m 0 ls []) by rw [hH] at hgoal; exact hgoal
  clear hH hlocs
  obtain ⟨⟨a1, a2, a3, a4, a5, a6⟩, b1, b2, b3, b4, b6, b7, b8, b9⟩ := id hok
  rename g 0 < 1073741824 => hh0
  refine lv_aload_n hx hb dX0_goMinute_0 rfl (lv_at hl 0 rfl) ?_
  refine ta_callVi (As := []) (rest0 := []) (Wr := []) C hP hD hS (c_X0_armyOfHour l D k q t g X hh0) 0 rfl rfl rfl [0, 1, 2, 3, 4, 5, 6, 7, 8, 9, 10] [] rfl rfl (by decide) (by decide) (by decide) tw_401 tw_444 tw_26 tw_399 tw_400 ⟨by decide, by decide, rfl⟩ ⟨Nat.le_of_ble_eq_true rfl, Nat.le_of_ble_eq_true rfl⟩ ⟨Nat.zero_le _, Nat.zero_le _⟩ hl.1 rfl (Nat.le_of_ble_eq_true rfl) dX0_goMinute_1 (fun r1 u2 H locs h3 hP hD hS => ?_)
  obtain rfl := h3
  have hP : va_P D vwCl (dyW k q t g X) H := hP
  have hD : va_D A (dyW k q t g X) := hD
  obtain ⟨a, ha⟩ : ∃ a, a = g 0 % 2 := ⟨_, rfl⟩
  refine ta_nv (y := a) ha.symm ?_
  rcases (show a = 0 ∨ a = 1 by omega) with rfl | rfl
  · refine lv_istore_n (lv' := [(1, .int (nI 0)), (0, .ref (q 0))]) hx hb dX0_goMinute_4 rfl hl (by decide) rfl (fun ls hl => ?_)
    refine lv_aload_n hx hb dX0_goMinute_5 rfl (lv_at hl 1 rfl) ?_
    refine ta_get C hP 0 inlX0 rfl rfl 9 (by decide) tw_109 rfl dX0_goMinute_6 ?_
    refine ta_ine C (a := g 5) (tgt := 22) (by omega) dX0_goMinute_9 (by decide) (fun c4 => ?_) (fun c4 => ?_)
    · obtain ⟨g1, hg1⟩ : ∃ z, z = g := ⟨_, rfl⟩
      have hX1 : tg_X g1 X := by rw [hg1]; exact hX
      have epre : tg_pre g = g1 := by rw [hg1]; unfold tg_pre; rw [← ha]; exact if_neg (fun h => by have h7 : 0 < g 6 := h.2; omega)
      have hok1 : tg_ok t g1 := by rw [hg1]; exact hok
      have g10 : g1 0 = g 0 := by rw [hg1]
      rw [← hg1] at hP hD
      obtain ⟨-, e1, -, -, e4, -⟩ := id hok1
      refine lv_aload_n hx hb dX0_goMinute_22 rfl (lv_at hl 1 rfl) ?_
      refine ta_get C hP 0 inlX0 rfl rfl 8 (by decide) tw_108 rfl dX0_goMinute_23 ?_
      refine ta_iconst C 4 dX0_goMinute_26 (by decide) ?_
      refine ta_cne C (a := g1 4) (b := 4) (tgt := 34) (by omega) (by omega) dX0_goMinute_27 (by decide) (fun c5 => ?_) (fun c5 => ?_)
      · refine ta_iconst C 4294967295 dX0_goMinute_34 (by decide) ?_
        refine lv_istore_n (lv' := [(2, .int (nI 4294967295)), (1, .int (nI 0)), (0, .ref (q 0))]) hx hb dX0_goMinute_35 rfl hl (by decide) rfl (fun ls hl => ?_)
        refine lv_aload_n hx hb dX0_goMinute_36 rfl (lv_at hl 2 rfl) ?_
        refine ta_get C hP 0 inlX0 rfl rfl 9 (by decide) tw_109 rfl dX0_goMinute_37 ?_
        refine ta_ile C (a := g1 5) (tgt := 48) (by omega) dX0_goMinute_40 (by decide) (fun c6 => ?_) (fun c6 => ?_)
        · refine lv_aload_n hx hb dX0_goMinute_48 rfl (lv_at hl 2 rfl) ?_
          refine ta_iconst C 1 dX0_goMinute_49 (by decide) ?_
          refine ta_callVv (As := [.int (nI 1)]) (rest0 := []) (Wr := []) C hP hD hS (c_X0_windOn l D k q t g1 X 1 (by omega) (by omega)) 0 rfl rfl rfl [0, 1, 2, 3, 4, 5, 6, 7, 8, 9, 10] [] rfl rfl (by decide) (by decide) (by decide) tw_468 tw_465 tw_26 tw_466 tw_467 ⟨by decide, by decide, rfl⟩ ⟨Nat.le_of_ble_eq_true rfl, Nat.le_of_ble_eq_true rfl⟩ ⟨Nat.zero_le _, Nat.zero_le _⟩ hl.1 rfl (Nat.le_of_ble_eq_true rfl) dX0_goMinute_50 (fun u8 H locs h9 hP hD hS => ?_)
          have hP : va_P D vwCl (dyW k q t (tg_wind t g1 1) X) H := hP
          have hD : va_D A (dyW k q t (tg_wind t g1 1) X) := hD
          refine lv_iload_n hx hb dX0_goMinute_53 rfl (lv_at hl 0 rfl) ?_
          have ekn : nI 4294967295 = nI (tg_kn g) := by unfold tg_kn; rw [epre, ← ha]; first | rw [if_pos (by omega)] | rw [if_neg (by omega)]
          have ego : tg_wind t g1 1 = tg_go t g := by unfold tg_go; rw [epre, if_pos (by omega)]
          rw [ego] at hP hD
          exact ret _ X dX0_goMinute_54 rfl ⟨ekn, (tg_Xk (fun j h1 h2 => by rw [← ego, tg_wind_k (by omega) (by omega)]) hok1 hX1)⟩ hP hD hS
        · refine lv_aload_n hx hb dX0_goMinute_43 rfl (lv_at hl 2 rfl) ?_
          refine lv_iload_n hx hb dX0_goMinute_44 rfl (lv_at hl 1 rfl) ?_
          refine ta_callVv (As := [.int (nI 0)]) (rest0 := []) (Wr := []) C hP hD hS (c_X0_doBegun l D k q t g1 X 0 hok1 (by omega) (by omega)) 0 rfl rfl rfl [0, 1, 2, 3, 4, 5, 6, 7, 8, 9, 10] [] rfl rfl (by decide) (by decide) (by decide) tw_456 tw_453 tw_26 tw_454 tw_455 ⟨by decide, by decide, rfl⟩ ⟨Nat.le_of_ble_eq_true rfl, Nat.le_of_ble_eq_true rfl⟩ ⟨Nat.zero_le _, Nat.zero_le _⟩ hl.1 rfl (Nat.le_of_ble_eq_true rfl) dX0_goMinute_45 (fun u11 H locs h12 hP hD hS => ?_)
          have hP : va_P D vwCl (dyW k q t (tg_do t g1 0) X) H := hP
          have hD : va_D A (dyW k q t (tg_do t g1 0) X) := hD
          have k1 : tg_do t g1 0 1 = g1 1 := tg_do_k (by omega) hok1.2.2.1 (by omega) (by omega) (by omega) (by omega) (by omega)
          refine lv_aload_n hx hb dX0_goMinute_48 rfl (lv_at hl 2 rfl) ?_
          refine ta_iconst C 1 dX0_goMinute_49 (by decide) ?_
          refine ta_callVv (As := [.int (nI 1)]) (rest0 := []) (Wr := []) C hP hD hS (c_X0_windOn l D k q t (tg_do t g1 0) X 1 (by omega) (by omega)) 0 rfl rfl rfl [0, 1, 2, 3, 4, 5, 6, 7, 8, 9, 10] [] rfl rfl (by decide) (by decide) (by decide) tw_468 tw_465 tw_26 tw_466 tw_467 ⟨by decide, by decide, rfl⟩ ⟨Nat.le_of_ble_eq_true rfl, Nat.le_of_ble_eq_true rfl⟩ ⟨Nat.zero_le _, Nat.zero_le _⟩ hl.1 rfl (Nat.le_of_ble_eq_true rfl) dX0_goMinute_50 (fun u14 H locs h15 hP hD hS => ?_)
          have hP : va_P D vwCl (dyW k q t (tg_wind t (tg_do t g1 0) 1) X) H := hP
          have hD : va_D A (dyW k q t (tg_wind t (tg_do t g1 0) 1) X) := hD
          refine lv_iload_n hx hb dX0_goMinute_53 rfl (lv_at hl 0 rfl) ?_
          have ekn : nI 4294967295 = nI (tg_kn g) := by unfold tg_kn; rw [epre, ← ha]; first | rw [if_pos (by omega)] | rw [if_neg (by omega)]
          have ego : tg_wind t (tg_do t g1 0) 1 = tg_go t g := by unfold tg_go; rw [epre, ← ha, if_neg (by omega)]
          rw [ego] at hP hD
          exact ret _ X dX0_goMinute_54 rfl ⟨ekn, (tg_Xk (fun j h1 h2 => by rw [← ego, tg_wind_k (by omega) (by omega)]; exact tg_do_k (by omega) hok1.2.2.1 h2 (by omega) (by omega) (by omega) (by omega)) hok1 hX1)⟩ hP hD hS
      · refine lv_iload_n hx hb dX0_goMinute_30 rfl (lv_at hl 0 rfl) ?_
        refine lv_goto (tgt := 35) hx hb dX0_goMinute_31 (by decide) ?_
        refine lv_istore_n (lv' := [(2, .int (nI 0)), (1, .int (nI 0)), (0, .ref (q 0))]) hx hb dX0_goMinute_35 rfl hl (by decide) rfl (fun ls hl => ?_)
        refine lv_aload_n hx hb dX0_goMinute_36 rfl (lv_at hl 2 rfl) ?_
        refine ta_get C hP 0 inlX0 rfl rfl 9 (by decide) tw_109 rfl dX0_goMinute_37 ?_
        refine ta_ile C (a := g1 5) (tgt := 48) (by omega) dX0_goMinute_40 (by decide) (fun c16 => ?_) (fun c16 => ?_)
        · refine lv_aload_n hx hb dX0_goMinute_48 rfl (lv_at hl 2 rfl) ?_
          refine ta_iconst C 1 dX0_goMinute_49 (by decide) ?_
          refine ta_callVv (As := [.int (nI 1)]) (rest0 := []) (Wr := []) C hP hD hS (c_X0_windOn l D k q t g1 X 1 (by omega) (by omega)) 0 rfl rfl rfl [0, 1, 2, 3, 4, 5, 6, 7, 8, 9, 10] [] rfl rfl (by decide) (by decide) (by decide) tw_468 tw_465 tw_26 tw_466 tw_467 ⟨by decide, by decide, rfl⟩ ⟨Nat.le_of_ble_eq_true rfl, Nat.le_of_ble_eq_true rfl⟩ ⟨Nat.zero_le _, Nat.zero_le _⟩ hl.1 rfl (Nat.le_of_ble_eq_true rfl) dX0_goMinute_50 (fun u18 H locs h19 hP hD hS => ?_)
          have hP : va_P D vwCl (dyW k q t (tg_wind t g1 1) X) H := hP
          have hD : va_D A (dyW k q t (tg_wind t g1 1) X) := hD
          refine lv_iload_n hx hb dX0_goMinute_53 rfl (lv_at hl 0 rfl) ?_
          have ekn : nI 0 = nI (tg_kn g) := by unfold tg_kn; rw [epre, ← ha]; first | rw [if_pos (by omega)] | rw [if_neg (by omega)]
          have ego : tg_wind t g1 1 = tg_go t g := by unfold tg_go; rw [epre, if_pos (by omega)]
          rw [ego] at hP hD
          exact ret _ X dX0_goMinute_54 rfl ⟨ekn, (tg_Xk (fun j h1 h2 => by rw [← ego, tg_wind_k (by omega) (by omega)]) hok1 hX1)⟩ hP hD hS
        · refine lv_aload_n hx hb dX0_goMinute_43 rfl (lv_at hl 2 rfl) ?_
          refine lv_iload_n hx hb dX0_goMinute_44 rfl (lv_at hl 1 rfl) ?_
          refine ta_callVv (As := [.int (nI 0)]) (rest0 := []) (Wr := []) C hP hD hS (c_X0_doBegun l D k q t g1 X 0 hok1 (by omega) (by omega)) 0 rfl rfl rfl [0, 1, 2, 3, 4, 5, 6, 7, 8, 9, 10] [] rfl rfl (by decide) (by decide) (by decide) tw_456 tw_453 tw_26 tw_454 tw_455 ⟨by decide, by decide, rfl⟩ ⟨Nat.le_of_ble_eq_true rfl, Nat.le_of_ble_eq_true rfl⟩ ⟨Nat.zero_le _, Nat.zero_le _⟩ hl.1 rfl (Nat.le_of_ble_eq_true rfl) dX0_goMinute_45 (fun u21 H locs h22 hP hD hS => ?_)
          have hP : va_P D vwCl (dyW k q t (tg_do t g1 0) X) H := hP
          have hD : va_D A (dyW k q t (tg_do t g1 0) X) := hD
          have k1 : tg_do t g1 0 1 = g1 1 := tg_do_k (by omega) hok1.2.2.1 (by omega) (by omega) (by omega) (by omega) (by omega)
          refine lv_aload_n hx hb dX0_goMinute_48 rfl (lv_at hl 2 rfl) ?_
          refine ta_iconst C 1 dX0_goMinute_49 (by decide) ?_
          refine ta_callVv (As := [.int (nI 1)]) (rest0 := []) (Wr := []) C hP hD hS (c_X0_windOn l D k q t (tg_do t g1 0) X 1 (by omega) (by omega)) 0 rfl rfl rfl [0, 1, 2, 3, 4, 5, 6, 7, 8, 9, 10] [] rfl rfl (by decide) (by decide) (by decide) tw_468 tw_465 tw_26 tw_466 tw_467 ⟨by decide, by decide, rfl⟩ ⟨Nat.le_of_ble_eq_true rfl, Nat.le_of_ble_eq_true rfl⟩ ⟨Nat.zero_le _, Nat.zero_le _⟩ hl.1 rfl (Nat.le_of_ble_eq_true rfl) dX0_goMinute_50 (fun u24 H locs h25 hP hD hS => ?_)
          have hP : va_P D vwCl (dyW k q t (tg_wind t (tg_do t g1 0) 1) X) H := hP
          have hD : va_D A (dyW k q t (tg_wind t (tg_do t g1 0) 1) X) := hD
          refine lv_iload_n hx hb dX0_goMinute_53 rfl (lv_at hl 0 rfl) ?_
          have ekn : nI 0 = nI (tg_kn g) := by unfold tg_kn; rw [epre, ← ha]; first | rw [if_pos (by omega)] | rw [if_neg (by omega)]
          have ego : tg_wind t (tg_do t g1 0) 1 = tg_go t g := by unfold tg_go; rw [epre, ← ha, if_neg (by omega)]
          rw [ego] at hP hD
          exact ret _ X dX0_goMinute_54 rfl ⟨ekn, (tg_Xk (fun j h1 h2 => by rw [← ego, tg_wind_k (by omega) (by omega)]; exact tg_do_k (by omega) hok1.2.2.1 h2 (by omega) (by omega) (by omega) (by omega)) hok1 hX1)⟩ hP hD hS
    · refine lv_aload_n hx hb dX0_goMinute_12 rfl (lv_at hl 1 rfl) ?_
      refine lv_aload_n hx hb dX0_goMinute_13 rfl (lv_at hl 1 rfl) ?_
      refine ta_get C hP 0 inlX0 rfl rfl 13 (by decide) tw_82 rfl dX0_goMinute_14 ?_
      refine lv_iload_n hx hb dX0_goMinute_17 rfl (lv_at hl 0 rfl) ?_
      refine ta_aald C hP 4 2 rfl rfl (i := 0) (x := q 5) (by omega) rfl dX0_goMinute_18 ?_
      rcases Nat.eq_zero_or_pos (g 6) with h0 | h0
      · refine ta_callVv (As := [.ref (q 5)]) (rest0 := []) (Wr := []) C hP hD hS (c_X0_beginNext_0z l D k q t g X h0) 0 rfl rfl rfl [0, 1, 2, 3, 4, 5, 6, 7, 8, 9, 10] [] rfl rfl (by decide) (by decide) (by decide) tw_448 tw_445 tw_26 tw_446 tw_447 ⟨by decide, by decide, rfl⟩ ⟨Nat.le_of_ble_eq_true rfl, Nat.le_of_ble_eq_true rfl⟩ ⟨Nat.zero_le _, Nat.zero_le _⟩ hl.1 rfl (Nat.le_of_ble_eq_true rfl) dX0_goMinute_19 (fun u27 H locs h28 hP hD hS => ?_)
        have hP : va_P D vwCl (dyW k q t g X) H := hP
        have hD : va_D A (dyW k q t g X) := hD
        obtain ⟨g1, hg1⟩ : ∃ z, z = g := ⟨_, rfl⟩
        have hX1 : tg_X g1 X := by rw [hg1]; exact hX
        have epre : tg_pre g = g1 := by rw [hg1]; unfold tg_pre; rw [← ha]; exact if_neg (fun h => by have h7 : 0 < g 6 := h.2; omega)
        have hok1 : tg_ok t g1 := by rw [hg1]; exact hok
        have g10 : g1 0 = g 0 := by rw [hg1]
        rw [← hg1] at hP hD
        obtain ⟨-, e1, -, -, e4, -⟩ := id hok1
        refine lv_aload_n hx hb dX0_goMinute_22 rfl (lv_at hl 1 rfl) ?_
        refine ta_get C hP 0 inlX0 rfl rfl 8 (by decide) tw_108 rfl dX0_goMinute_23 ?_
        refine ta_iconst C 4 dX0_goMinute_26 (by decide) ?_
        refine ta_cne C (a := g1 4) (b := 4) (tgt := 34) (by omega) (by omega) dX0_goMinute_27 (by decide) (fun c29 => ?_) (fun c29 => ?_)
        · refine ta_iconst C 4294967295 dX0_goMinute_34 (by decide) ?_
          refine lv_istore_n (lv' := [(2, .int (nI 4294967295)), (1, .int (nI 0)), (0, .ref (q 0))]) hx hb dX0_goMinute_35 rfl hl (by decide) rfl (fun ls hl => ?_)
          refine lv_aload_n hx hb dX0_goMinute_36 rfl (lv_at hl 2 rfl) ?_
          refine ta_get C hP 0 inlX0 rfl rfl 9 (by decide) tw_109 rfl dX0_goMinute_37 ?_
          refine ta_ile C (a := g1 5) (tgt := 48) (by omega) dX0_goMinute_40 (by decide) (fun c30 => ?_) (fun c30 => ?_)
          · refine lv_aload_n hx hb dX0_goMinute_48 rfl (lv_at hl 2 rfl) ?_
            refine ta_iconst C 1 dX0_goMinute_49 (by decide) ?_
            refine ta_callVv (As := [.int (nI 1)]) (rest0 := []) (Wr := []) C hP hD hS (c_X0_windOn l D k q t g1 X 1 (by omega) (by omega)) 0 rfl rfl rfl [0, 1, 2, 3, 4, 5, 6, 7, 8, 9, 10] [] rfl rfl (by decide) (by decide) (by decide) tw_468 tw_465 tw_26 tw_466 tw_467 ⟨by decide, by decide, rfl⟩ ⟨Nat.le_of_ble_eq_true rfl, Nat.le_of_ble_eq_true rfl⟩ ⟨Nat.zero_le _, Nat.zero_le _⟩ hl.1 rfl (Nat.le_of_ble_eq_true rfl) dX0_goMinute_50 (fun u32 H locs h33 hP hD hS => ?_)
            have hP : va_P D vwCl (dyW k q t (tg_wind t g1 1) X) H := hP
            have hD : va_D A (dyW k q t (tg_wind t g1 1) X) := hD
            refine lv_iload_n hx hb dX0_goMinute_53 rfl (lv_at hl 0 rfl) ?_
            have ekn : nI 4294967295 = nI (tg_kn g) := by unfold tg_kn; rw [epre, ← ha]; first | rw [if_pos (by omega)] | rw [if_neg (by omega)]
            have ego : tg_wind t g1 1 = tg_go t g := by unfold tg_go; rw [epre, if_pos (by omega)]
            rw [ego] at hP hD
            exact ret _ X dX0_goMinute_54 rfl ⟨ekn, (tg_Xk (fun j h1 h2 => by rw [← ego, tg_wind_k (by omega) (by omega)]) hok1 hX1)⟩ hP hD hS
          · refine lv_aload_n hx hb dX0_goMinute_43 rfl (lv_at hl 2 rfl) ?_
            refine lv_iload_n hx hb dX0_goMinute_44 rfl (lv_at hl 1 rfl) ?_
            refine ta_callVv (As := [.int (nI 0)]) (rest0 := []) (Wr := []) C hP hD hS (c_X0_doBegun l D k q t g1 X 0 hok1 (by omega) (by omega)) 0 rfl rfl rfl [0, 1, 2, 3, 4, 5, 6, 7, 8, 9, 10] [] rfl rfl (by decide) (by decide) (by decide) tw_456 tw_453 tw_26 tw_454 tw_455 ⟨by decide, by decide, rfl⟩ ⟨Nat.le_of_ble_eq_true rfl, Nat.le_of_ble_eq_true rfl⟩ ⟨Nat.zero_le _, Nat.zero_le _⟩ hl.1 rfl (Nat.le_of_ble_eq_true rfl) dX0_goMinute_45 (fun u35 H locs h36 hP hD hS => ?_)
            have hP : va_P D vwCl (dyW k q t (tg_do t g1 0) X) H := hP
            have hD : va_D A (dyW k q t (tg_do t g1 0) X) := hD
            have k1 : tg_do t g1 0 1 = g1 1 := tg_do_k (by omega) hok1.2.2.1 (by omega) (by omega) (by omega) (by omega) (by omega)
            refine lv_aload_n hx hb dX0_goMinute_48 rfl (lv_at hl 2 rfl) ?_
            refine ta_iconst C 1 dX0_goMinute_49 (by decide) ?_
            refine ta_callVv (As := [.int (nI 1)]) (rest0 := []) (Wr := []) C hP hD hS (c_X0_windOn l D k q t (tg_do t g1 0) X 1 (by omega) (by omega)) 0 rfl rfl rfl [0, 1, 2, 3, 4, 5, 6, 7, 8, 9, 10] [] rfl rfl (by decide) (by decide) (by decide) tw_468 tw_465 tw_26 tw_466 tw_467 ⟨by decide, by decide, rfl⟩ ⟨Nat.le_of_ble_eq_true rfl, Nat.le_of_ble_eq_true rfl⟩ ⟨Nat.zero_le _, Nat.zero_le _⟩ hl.1 rfl (Nat.le_of_ble_eq_true rfl) dX0_goMinute_50 (fun u38 H locs h39 hP hD hS => ?_)
            have hP : va_P D vwCl (dyW k q t (tg_wind t (tg_do t g1 0) 1) X) H := hP
            have hD : va_D A (dyW k q t (tg_wind t (tg_do t g1 0) 1) X) := hD
            refine lv_iload_n hx hb dX0_goMinute_53 rfl (lv_at hl 0 rfl) ?_
            have ekn : nI 4294967295 = nI (tg_kn g) := by unfold tg_kn; rw [epre, ← ha]; first | rw [if_pos (by omega)] | rw [if_neg (by omega)]
            have ego : tg_wind t (tg_do t g1 0) 1 = tg_go t g := by unfold tg_go; rw [epre, ← ha, if_neg (by omega)]
            rw [ego] at hP hD
            exact ret _ X dX0_goMinute_54 rfl ⟨ekn, (tg_Xk (fun j h1 h2 => by rw [← ego, tg_wind_k (by omega) (by omega)]; exact tg_do_k (by omega) hok1.2.2.1 h2 (by omega) (by omega) (by omega) (by omega)) hok1 hX1)⟩ hP hD hS
        · refine lv_iload_n hx hb dX0_goMinute_30 rfl (lv_at hl 0 rfl) ?_
          refine lv_goto (tgt := 35) hx hb dX0_goMinute_31 (by decide) ?_
          refine lv_istore_n (lv' := [(2, .int (nI 0)), (1, .int (nI 0)), (0, .ref (q 0))]) hx hb dX0_goMinute_35 rfl hl (by decide) rfl (fun ls hl => ?_)
          refine lv_aload_n hx hb dX0_goMinute_36 rfl (lv_at hl 2 rfl) ?_
          refine ta_get C hP 0 inlX0 rfl rfl 9 (by decide) tw_109 rfl dX0_goMinute_37 ?_
          refine ta_ile C (a := g1 5) (tgt := 48) (by omega) dX0_goMinute_40 (by decide) (fun c40 => ?_) (fun c40 => ?_)
          · refine lv_aload_n hx hb dX0_goMinute_48 rfl (lv_at hl 2 rfl) ?_
            refine ta_iconst C 1 dX0_goMinute_49 (by decide) ?_
            refine ta_callVv (As := [.int (nI 1)]) (rest0 := []) (Wr := []) C hP hD hS (c_X0_windOn l D k q t g1 X 1 (by omega) (by omega)) 0 rfl rfl rfl [0, 1, 2, 3, 4, 5, 6, 7, 8, 9, 10] [] rfl rfl (by decide) (by decide) (by decide) tw_468 tw_465 tw_26 tw_466 tw_467 ⟨by decide, by decide, rfl⟩ ⟨Nat.le_of_ble_eq_true rfl, Nat.le_of_ble_eq_true rfl⟩ ⟨Nat.zero_le _, Nat.zero_le _⟩ hl.1 rfl (Nat.le_of_ble_eq_true rfl) dX0_goMinute_50 (fun u42 H locs h43 hP hD hS => ?_)
            have hP : va_P D vwCl (dyW k q t (tg_wind t g1 1) X) H := hP
            have hD : va_D A (dyW k q t (tg_wind t g1 1) X) := hD
            refine lv_iload_n hx hb dX0_goMinute_53 rfl (lv_at hl 0 rfl) ?_
            have ekn : nI 0 = nI (tg_kn g) := by unfold tg_kn; rw [epre, ← ha]; first | rw [if_pos (by omega)] | rw [if_neg (by omega)]
            have ego : tg_wind t g1 1 = tg_go t g := by unfold tg_go; rw [epre, if_pos (by omega)]
            rw [ego] at hP hD
            exact ret _ X dX0_goMinute_54 rfl ⟨ekn, (tg_Xk (fun j h1 h2 => by rw [← ego, tg_wind_k (by omega) (by omega)]) hok1 hX1)⟩ hP hD hS
          · refine lv_aload_n hx hb dX0_goMinute_43 rfl (lv_at hl 2 rfl) ?_
            refine lv_iload_n hx hb dX0_goMinute_44 rfl (lv_at hl 1 rfl) ?_
            refine ta_callVv (As := [.int (nI 0)]) (rest0 := []) (Wr := []) C hP hD hS (c_X0_doBegun l D k q t g1 X 0 hok1 (by omega) (by omega)) 0 rfl rfl rfl [0, 1, 2, 3, 4, 5, 6, 7, 8, 9, 10] [] rfl rfl (by decide) (by decide) (by decide) tw_456 tw_453 tw_26 tw_454 tw_455 ⟨by decide, by decide, rfl⟩ ⟨Nat.le_of_ble_eq_true rfl, Nat.le_of_ble_eq_true rfl⟩ ⟨Nat.zero_le _, Nat.zero_le _⟩ hl.1 rfl (Nat.le_of_ble_eq_true rfl) dX0_goMinute_45 (fun u45 H locs h46 hP hD hS => ?_)
            have hP : va_P D vwCl (dyW k q t (tg_do t g1 0) X) H := hP
            have hD : va_D A (dyW k q t (tg_do t g1 0) X) := hD
            have k1 : tg_do t g1 0 1 = g1 1 := tg_do_k (by omega) hok1.2.2.1 (by omega) (by omega) (by omega) (by omega) (by omega)
            refine lv_aload_n hx hb dX0_goMinute_48 rfl (lv_at hl 2 rfl) ?_
            refine ta_iconst C 1 dX0_goMinute_49 (by decide) ?_
            refine ta_callVv (As := [.int (nI 1)]) (rest0 := []) (Wr := []) C hP hD hS (c_X0_windOn l D k q t (tg_do t g1 0) X 1 (by omega) (by omega)) 0 rfl rfl rfl [0, 1, 2, 3, 4, 5, 6, 7, 8, 9, 10] [] rfl rfl (by decide) (by decide) (by decide) tw_468 tw_465 tw_26 tw_466 tw_467 ⟨by decide, by decide, rfl⟩ ⟨Nat.le_of_ble_eq_true rfl, Nat.le_of_ble_eq_true rfl⟩ ⟨Nat.zero_le _, Nat.zero_le _⟩ hl.1 rfl (Nat.le_of_ble_eq_true rfl) dX0_goMinute_50 (fun u48 H locs h49 hP hD hS => ?_)
            have hP : va_P D vwCl (dyW k q t (tg_wind t (tg_do t g1 0) 1) X) H := hP
            have hD : va_D A (dyW k q t (tg_wind t (tg_do t g1 0) 1) X) := hD
            refine lv_iload_n hx hb dX0_goMinute_53 rfl (lv_at hl 0 rfl) ?_
            have ekn : nI 0 = nI (tg_kn g) := by unfold tg_kn; rw [epre, ← ha]; first | rw [if_pos (by omega)] | rw [if_neg (by omega)]
            have ego : tg_wind t (tg_do t g1 0) 1 = tg_go t g := by unfold tg_go; rw [epre, ← ha, if_neg (by omega)]
            rw [ego] at hP hD
            exact ret _ X dX0_goMinute_54 rfl ⟨ekn, (tg_Xk (fun j h1 h2 => by rw [← ego, tg_wind_k (by omega) (by omega)]; exact tg_do_k (by omega) hok1.2.2.1 h2 (by omega) (by omega) (by omega) (by omega)) hok1 hX1)⟩ hP hD hS
      · refine ta_callVv (As := [.ref (q 5)]) (rest0 := []) (Wr := []) C hP hD hS (c_X0_beginNext_0 l D k q t g X h0 b6 b6 hX) 0 rfl rfl rfl [0, 1, 2, 3, 4, 5, 6, 7, 8, 9, 10] [] rfl rfl (by decide) (by decide) (by decide) tw_448 tw_445 tw_26 tw_446 tw_447 ⟨by decide, by decide, rfl⟩ ⟨Nat.le_of_ble_eq_true rfl, Nat.le_of_ble_eq_true rfl⟩ ⟨Nat.zero_le _, Nat.zero_le _⟩ hl.1 rfl (Nat.le_of_ble_eq_true rfl) dX0_goMinute_19 (fun u51 H locs h52 hP hD hS => ?_)
        obtain ⟨u_53, hu0⟩ : ∃ z, z = u51 := ⟨_, rfl⟩
        subst hu0
        have hX54 := h52
        have hP : va_P D vwCl (dyW k q t (tg_begin g 0) u_53) H := hP
        have hD : va_D A (dyW k q t (tg_begin g 0) u_53) := hD
        obtain ⟨g1, hg1⟩ : ∃ z, z = tg_begin g 0 := ⟨_, rfl⟩
        rw [← hg1] at hP hD
        have hX1 : tg_X g1 u_53 := by rw [hg1]; exact hX54
        have epre : tg_pre g = g1 := by rw [hg1]; unfold tg_pre; rw [← ha]; exact if_pos ⟨by omega, h0⟩
        have hok1 : tg_ok t g1 := by rw [hg1]; exact tg_ok_begin hok (by omega) h0
        have g10 : g1 0 = g 0 := by rw [hg1]; exact tg_begin_k (a := 0) (by omega) (by omega) (by omega) (by omega)
        obtain ⟨-, e1, -, -, e4, -⟩ := id hok1
        refine lv_aload_n hx hb dX0_goMinute_22 rfl (lv_at hl 1 rfl) ?_
        refine ta_get C hP 0 inlX0 rfl rfl 8 (by decide) tw_108 rfl dX0_goMinute_23 ?_
        refine ta_iconst C 4 dX0_goMinute_26 (by decide) ?_
        refine ta_cne C (a := g1 4) (b := 4) (tgt := 34) (by omega) (by omega) dX0_goMinute_27 (by decide) (fun c55 => ?_) (fun c55 => ?_)
        · refine ta_iconst C 4294967295 dX0_goMinute_34 (by decide) ?_
          refine lv_istore_n (lv' := [(2, .int (nI 4294967295)), (1, .int (nI 0)), (0, .ref (q 0))]) hx hb dX0_goMinute_35 rfl hl (by decide) rfl (fun ls hl => ?_)
          refine lv_aload_n hx hb dX0_goMinute_36 rfl (lv_at hl 2 rfl) ?_
          refine ta_get C hP 0 inlX0 rfl rfl 9 (by decide) tw_109 rfl dX0_goMinute_37 ?_
          refine ta_ile C (a := g1 5) (tgt := 48) (by omega) dX0_goMinute_40 (by decide) (fun c56 => ?_) (fun c56 => ?_)
          · refine lv_aload_n hx hb dX0_goMinute_48 rfl (lv_at hl 2 rfl) ?_
            refine ta_iconst C 1 dX0_goMinute_49 (by decide) ?_
            refine ta_callVv (As := [.int (nI 1)]) (rest0 := []) (Wr := []) C hP hD hS (c_X0_windOn l D k q t g1 u_53 1 (by omega) (by omega)) 0 rfl rfl rfl [0, 1, 2, 3, 4, 5, 6, 7, 8, 9, 10] [] rfl rfl (by decide) (by decide) (by decide) tw_468 tw_465 tw_26 tw_466 tw_467 ⟨by decide, by decide, rfl⟩ ⟨Nat.le_of_ble_eq_true rfl, Nat.le_of_ble_eq_true rfl⟩ ⟨Nat.zero_le _, Nat.zero_le _⟩ hl.1 rfl (Nat.le_of_ble_eq_true rfl) dX0_goMinute_50 (fun u58 H locs h59 hP hD hS => ?_)
            have hP : va_P D vwCl (dyW k q t (tg_wind t g1 1) u_53) H := hP
            have hD : va_D A (dyW k q t (tg_wind t g1 1) u_53) := hD
            refine lv_iload_n hx hb dX0_goMinute_53 rfl (lv_at hl 0 rfl) ?_
            have ekn : nI 4294967295 = nI (tg_kn g) := by unfold tg_kn; rw [epre, ← ha]; first | rw [if_pos (by omega)] | rw [if_neg (by omega)]
            have ego : tg_wind t g1 1 = tg_go t g := by unfold tg_go; rw [epre, if_pos (by omega)]
            rw [ego] at hP hD
            exact ret _ u_53 dX0_goMinute_54 rfl ⟨ekn, (tg_Xk (fun j h1 h2 => by rw [← ego, tg_wind_k (by omega) (by omega)]) hok1 hX1)⟩ hP hD hS
          · refine lv_aload_n hx hb dX0_goMinute_43 rfl (lv_at hl 2 rfl) ?_
            refine lv_iload_n hx hb dX0_goMinute_44 rfl (lv_at hl 1 rfl) ?_
            refine ta_callVv (As := [.int (nI 0)]) (rest0 := []) (Wr := []) C hP hD hS (c_X0_doBegun l D k q t g1 u_53 0 hok1 (by omega) (by omega)) 0 rfl rfl rfl [0, 1, 2, 3, 4, 5, 6, 7, 8, 9, 10] [] rfl rfl (by decide) (by decide) (by decide) tw_456 tw_453 tw_26 tw_454 tw_455 ⟨by decide, by decide, rfl⟩ ⟨Nat.le_of_ble_eq_true rfl, Nat.le_of_ble_eq_true rfl⟩ ⟨Nat.zero_le _, Nat.zero_le _⟩ hl.1 rfl (Nat.le_of_ble_eq_true rfl) dX0_goMinute_45 (fun u61 H locs h62 hP hD hS => ?_)
            have hP : va_P D vwCl (dyW k q t (tg_do t g1 0) u_53) H := hP
            have hD : va_D A (dyW k q t (tg_do t g1 0) u_53) := hD
            have k1 : tg_do t g1 0 1 = g1 1 := tg_do_k (by omega) hok1.2.2.1 (by omega) (by omega) (by omega) (by omega) (by omega)
            refine lv_aload_n hx hb dX0_goMinute_48 rfl (lv_at hl 2 rfl) ?_
            refine ta_iconst C 1 dX0_goMinute_49 (by decide) ?_
            refine ta_callVv (As := [.int (nI 1)]) (rest0 := []) (Wr := []) C hP hD hS (c_X0_windOn l D k q t (tg_do t g1 0) u_53 1 (by omega) (by omega)) 0 rfl rfl rfl [0, 1, 2, 3, 4, 5, 6, 7, 8, 9, 10] [] rfl rfl (by decide) (by decide) (by decide) tw_468 tw_465 tw_26 tw_466 tw_467 ⟨by decide, by decide, rfl⟩ ⟨Nat.le_of_ble_eq_true rfl, Nat.le_of_ble_eq_true rfl⟩ ⟨Nat.zero_le _, Nat.zero_le _⟩ hl.1 rfl (Nat.le_of_ble_eq_true rfl) dX0_goMinute_50 (fun u64 H locs h65 hP hD hS => ?_)
            have hP : va_P D vwCl (dyW k q t (tg_wind t (tg_do t g1 0) 1) u_53) H := hP
            have hD : va_D A (dyW k q t (tg_wind t (tg_do t g1 0) 1) u_53) := hD
            refine lv_iload_n hx hb dX0_goMinute_53 rfl (lv_at hl 0 rfl) ?_
            have ekn : nI 4294967295 = nI (tg_kn g) := by unfold tg_kn; rw [epre, ← ha]; first | rw [if_pos (by omega)] | rw [if_neg (by omega)]
            have ego : tg_wind t (tg_do t g1 0) 1 = tg_go t g := by unfold tg_go; rw [epre, ← ha, if_neg (by omega)]
            rw [ego] at hP hD
            exact ret _ u_53 dX0_goMinute_54 rfl ⟨ekn, (tg_Xk (fun j h1 h2 => by rw [← ego, tg_wind_k (by omega) (by omega)]; exact tg_do_k (by omega) hok1.2.2.1 h2 (by omega) (by omega) (by omega) (by omega)) hok1 hX1)⟩ hP hD hS
        · refine lv_iload_n hx hb dX0_goMinute_30 rfl (lv_at hl 0 rfl) ?_
          refine lv_goto (tgt := 35) hx hb dX0_goMinute_31 (by decide) ?_
          refine lv_istore_n (lv' := [(2, .int (nI 0)), (1, .int (nI 0)), (0, .ref (q 0))]) hx hb dX0_goMinute_35 rfl hl (by decide) rfl (fun ls hl => ?_)
          refine lv_aload_n hx hb dX0_goMinute_36 rfl (lv_at hl 2 rfl) ?_
          refine ta_get C hP 0 inlX0 rfl rfl 9 (by decide) tw_109 rfl dX0_goMinute_37 ?_
          refine ta_ile C (a := g1 5) (tgt := 48) (by omega) dX0_goMinute_40 (by decide) (fun c66 => ?_) (fun c66 => ?_)
          · refine lv_aload_n hx hb dX0_goMinute_48 rfl (lv_at hl 2 rfl) ?_
            refine ta_iconst C 1 dX0_goMinute_49 (by decide) ?_
            refine ta_callVv (As := [.int (nI 1)]) (rest0 := []) (Wr := []) C hP hD hS (c_X0_windOn l D k q t g1 u_53 1 (by omega) (by omega)) 0 rfl rfl rfl [0, 1, 2, 3, 4, 5, 6, 7, 8, 9, 10] [] rfl rfl (by decide) (by decide) (by decide) tw_468 tw_465 tw_26 tw_466 tw_467 ⟨by decide, by decide, rfl⟩ ⟨Nat.le_of_ble_eq_true rfl, Nat.le_of_ble_eq_true rfl⟩ ⟨Nat.zero_le _, Nat.zero_le _⟩ hl.1 rfl (Nat.le_of_ble_eq_true rfl) dX0_goMinute_50 (fun u68 H locs h69 hP hD hS => ?_)
            have hP : va_P D vwCl (dyW k q t (tg_wind t g1 1) u_53) H := hP
            have hD : va_D A (dyW k q t (tg_wind t g1 1) u_53) := hD
            refine lv_iload_n hx hb dX0_goMinute_53 rfl (lv_at hl 0 rfl) ?_
            have ekn : nI 0 = nI (tg_kn g) := by unfold tg_kn; rw [epre, ← ha]; first | rw [if_pos (by omega)] | rw [if_neg (by omega)]
            have ego : tg_wind t g1 1 = tg_go t g := by unfold tg_go; rw [epre, if_pos (by omega)]
            rw [ego] at hP hD
            exact ret _ u_53 dX0_goMinute_54 rfl ⟨ekn, (tg_Xk (fun j h1 h2 => by rw [← ego, tg_wind_k (by omega) (by omega)]) hok1 hX1)⟩ hP hD hS
          · refine lv_aload_n hx hb dX0_goMinute_43 rfl (lv_at hl 2 rfl) ?_
            refine lv_iload_n hx hb dX0_goMinute_44 rfl (lv_at hl 1 rfl) ?_
            refine ta_callVv (As := [.int (nI 0)]) (rest0 := []) (Wr := []) C hP hD hS (c_X0_doBegun l D k q t g1 u_53 0 hok1 (by omega) (by omega)) 0 rfl rfl rfl [0, 1, 2, 3, 4, 5, 6, 7, 8, 9, 10] [] rfl rfl (by decide) (by decide) (by decide) tw_456 tw_453 tw_26 tw_454 tw_455 ⟨by decide, by decide, rfl⟩ ⟨Nat.le_of_ble_eq_true rfl, Nat.le_of_ble_eq_true rfl⟩ ⟨Nat.zero_le _, Nat.zero_le _⟩ hl.1 rfl (Nat.le_of_ble_eq_true rfl) dX0_goMinute_45 (fun u71 H locs h72 hP hD hS => ?_)
            have hP : va_P D vwCl (dyW k q t (tg_do t g1 0) u_53) H := hP
            have hD : va_D A (dyW k q t (tg_do t g1 0) u_53) := hD
            have k1 : tg_do t g1 0 1 = g1 1 := tg_do_k (by omega) hok1.2.2.1 (by omega) (by omega) (by omega) (by omega) (by omega)
            refine lv_aload_n hx hb dX0_goMinute_48 rfl (lv_at hl 2 rfl) ?_
            refine ta_iconst C 1 dX0_goMinute_49 (by decide) ?_
            refine ta_callVv (As := [.int (nI 1)]) (rest0 := []) (Wr := []) C hP hD hS (c_X0_windOn l D k q t (tg_do t g1 0) u_53 1 (by omega) (by omega)) 0 rfl rfl rfl [0, 1, 2, 3, 4, 5, 6, 7, 8, 9, 10] [] rfl rfl (by decide) (by decide) (by decide) tw_468 tw_465 tw_26 tw_466 tw_467 ⟨by decide, by decide, rfl⟩ ⟨Nat.le_of_ble_eq_true rfl, Nat.le_of_ble_eq_true rfl⟩ ⟨Nat.zero_le _, Nat.zero_le _⟩ hl.1 rfl (Nat.le_of_ble_eq_true rfl) dX0_goMinute_50 (fun u74 H locs h75 hP hD hS => ?_)
            have hP : va_P D vwCl (dyW k q t (tg_wind t (tg_do t g1 0) 1) u_53) H := hP
            have hD : va_D A (dyW k q t (tg_wind t (tg_do t g1 0) 1) u_53) := hD
            refine lv_iload_n hx hb dX0_goMinute_53 rfl (lv_at hl 0 rfl) ?_
            have ekn : nI 0 = nI (tg_kn g) := by unfold tg_kn; rw [epre, ← ha]; first | rw [if_pos (by omega)] | rw [if_neg (by omega)]
            have ego : tg_wind t (tg_do t g1 0) 1 = tg_go t g := by unfold tg_go; rw [epre, ← ha, if_neg (by omega)]
            rw [ego] at hP hD
            exact ret _ u_53 dX0_goMinute_54 rfl ⟨ekn, (tg_Xk (fun j h1 h2 => by rw [← ego, tg_wind_k (by omega) (by omega)]; exact tg_do_k (by omega) hok1.2.2.1 h2 (by omega) (by omega) (by omega) (by omega)) hok1 hX1)⟩ hP hD hS
  · refine lv_istore_n (lv' := [(1, .int (nI 1)), (0, .ref (q 0))]) hx hb dX0_goMinute_4 rfl hl (by decide) rfl (fun ls hl => ?_)
    refine lv_aload_n hx hb dX0_goMinute_5 rfl (lv_at hl 1 rfl) ?_
    refine ta_get C hP 0 inlX0 rfl rfl 9 (by decide) tw_109 rfl dX0_goMinute_6 ?_
    refine ta_ine C (a := g 5) (tgt := 22) (by omega) dX0_goMinute_9 (by decide) (fun c76 => ?_) (fun c76 => ?_)
    · obtain ⟨g1, hg1⟩ : ∃ z, z = g := ⟨_, rfl⟩
      have hX1 : tg_X g1 X := by rw [hg1]; exact hX
      have epre : tg_pre g = g1 := by rw [hg1]; unfold tg_pre; rw [← ha]; exact if_neg (fun h => by have h7 : 0 < g 7 := h.2; omega)
      have hok1 : tg_ok t g1 := by rw [hg1]; exact hok
      have g10 : g1 0 = g 0 := by rw [hg1]
      rw [← hg1] at hP hD
      obtain ⟨-, e1, -, -, e4, -⟩ := id hok1
      refine lv_aload_n hx hb dX0_goMinute_22 rfl (lv_at hl 1 rfl) ?_
      refine ta_get C hP 0 inlX0 rfl rfl 8 (by decide) tw_108 rfl dX0_goMinute_23 ?_
      refine ta_iconst C 4 dX0_goMinute_26 (by decide) ?_
      refine ta_cne C (a := g1 4) (b := 4) (tgt := 34) (by omega) (by omega) dX0_goMinute_27 (by decide) (fun c77 => ?_) (fun c77 => ?_)
      · refine ta_iconst C 4294967295 dX0_goMinute_34 (by decide) ?_
        refine lv_istore_n (lv' := [(2, .int (nI 4294967295)), (1, .int (nI 1)), (0, .ref (q 0))]) hx hb dX0_goMinute_35 rfl hl (by decide) rfl (fun ls hl => ?_)
        refine lv_aload_n hx hb dX0_goMinute_36 rfl (lv_at hl 2 rfl) ?_
        refine ta_get C hP 0 inlX0 rfl rfl 9 (by decide) tw_109 rfl dX0_goMinute_37 ?_
        refine ta_ile C (a := g1 5) (tgt := 48) (by omega) dX0_goMinute_40 (by decide) (fun c78 => ?_) (fun c78 => ?_)
        · refine lv_aload_n hx hb dX0_goMinute_48 rfl (lv_at hl 2 rfl) ?_
          refine ta_iconst C 1 dX0_goMinute_49 (by decide) ?_
          refine ta_callVv (As := [.int (nI 1)]) (rest0 := []) (Wr := []) C hP hD hS (c_X0_windOn l D k q t g1 X 1 (by omega) (by omega)) 0 rfl rfl rfl [0, 1, 2, 3, 4, 5, 6, 7, 8, 9, 10] [] rfl rfl (by decide) (by decide) (by decide) tw_468 tw_465 tw_26 tw_466 tw_467 ⟨by decide, by decide, rfl⟩ ⟨Nat.le_of_ble_eq_true rfl, Nat.le_of_ble_eq_true rfl⟩ ⟨Nat.zero_le _, Nat.zero_le _⟩ hl.1 rfl (Nat.le_of_ble_eq_true rfl) dX0_goMinute_50 (fun u80 H locs h81 hP hD hS => ?_)
          have hP : va_P D vwCl (dyW k q t (tg_wind t g1 1) X) H := hP
          have hD : va_D A (dyW k q t (tg_wind t g1 1) X) := hD
          refine lv_iload_n hx hb dX0_goMinute_53 rfl (lv_at hl 0 rfl) ?_
          have ekn : nI 4294967295 = nI (tg_kn g) := by unfold tg_kn; rw [epre, ← ha]; first | rw [if_pos (by omega)] | rw [if_neg (by omega)]
          have ego : tg_wind t g1 1 = tg_go t g := by unfold tg_go; rw [epre, if_pos (by omega)]
          rw [ego] at hP hD
          exact ret _ X dX0_goMinute_54 rfl ⟨ekn, (tg_Xk (fun j h1 h2 => by rw [← ego, tg_wind_k (by omega) (by omega)]) hok1 hX1)⟩ hP hD hS
        · refine lv_aload_n hx hb dX0_goMinute_43 rfl (lv_at hl 2 rfl) ?_
          refine lv_iload_n hx hb dX0_goMinute_44 rfl (lv_at hl 1 rfl) ?_
          refine ta_callVv (As := [.int (nI 1)]) (rest0 := []) (Wr := []) C hP hD hS (c_X0_doBegun l D k q t g1 X 1 hok1 (by omega) (by omega)) 0 rfl rfl rfl [0, 1, 2, 3, 4, 5, 6, 7, 8, 9, 10] [] rfl rfl (by decide) (by decide) (by decide) tw_456 tw_453 tw_26 tw_454 tw_455 ⟨by decide, by decide, rfl⟩ ⟨Nat.le_of_ble_eq_true rfl, Nat.le_of_ble_eq_true rfl⟩ ⟨Nat.zero_le _, Nat.zero_le _⟩ hl.1 rfl (Nat.le_of_ble_eq_true rfl) dX0_goMinute_45 (fun u83 H locs h84 hP hD hS => ?_)
          have hP : va_P D vwCl (dyW k q t (tg_do t g1 1) X) H := hP
          have hD : va_D A (dyW k q t (tg_do t g1 1) X) := hD
          have k1 : tg_do t g1 1 1 = g1 1 := tg_do_k (by omega) hok1.2.2.1 (by omega) (by omega) (by omega) (by omega) (by omega)
          refine lv_aload_n hx hb dX0_goMinute_48 rfl (lv_at hl 2 rfl) ?_
          refine ta_iconst C 1 dX0_goMinute_49 (by decide) ?_
          refine ta_callVv (As := [.int (nI 1)]) (rest0 := []) (Wr := []) C hP hD hS (c_X0_windOn l D k q t (tg_do t g1 1) X 1 (by omega) (by omega)) 0 rfl rfl rfl [0, 1, 2, 3, 4, 5, 6, 7, 8, 9, 10] [] rfl rfl (by decide) (by decide) (by decide) tw_468 tw_465 tw_26 tw_466 tw_467 ⟨by decide, by decide, rfl⟩ ⟨Nat.le_of_ble_eq_true rfl, Nat.le_of_ble_eq_true rfl⟩ ⟨Nat.zero_le _, Nat.zero_le _⟩ hl.1 rfl (Nat.le_of_ble_eq_true rfl) dX0_goMinute_50 (fun u86 H locs h87 hP hD hS => ?_)
          have hP : va_P D vwCl (dyW k q t (tg_wind t (tg_do t g1 1) 1) X) H := hP
          have hD : va_D A (dyW k q t (tg_wind t (tg_do t g1 1) 1) X) := hD
          refine lv_iload_n hx hb dX0_goMinute_53 rfl (lv_at hl 0 rfl) ?_
          have ekn : nI 4294967295 = nI (tg_kn g) := by unfold tg_kn; rw [epre, ← ha]; first | rw [if_pos (by omega)] | rw [if_neg (by omega)]
          have ego : tg_wind t (tg_do t g1 1) 1 = tg_go t g := by unfold tg_go; rw [epre, ← ha, if_neg (by omega)]
          rw [ego] at hP hD
          exact ret _ X dX0_goMinute_54 rfl ⟨ekn, (tg_Xk (fun j h1 h2 => by rw [← ego, tg_wind_k (by omega) (by omega)]; exact tg_do_k (by omega) hok1.2.2.1 h2 (by omega) (by omega) (by omega) (by omega)) hok1 hX1)⟩ hP hD hS
      · refine lv_iload_n hx hb dX0_goMinute_30 rfl (lv_at hl 0 rfl) ?_
        refine lv_goto (tgt := 35) hx hb dX0_goMinute_31 (by decide) ?_
        refine lv_istore_n (lv' := [(2, .int (nI 1)), (1, .int (nI 1)), (0, .ref (q 0))]) hx hb dX0_goMinute_35 rfl hl (by decide) rfl (fun ls hl => ?_)
        refine lv_aload_n hx hb dX0_goMinute_36 rfl (lv_at hl 2 rfl) ?_
        refine ta_get C hP 0 inlX0 rfl rfl 9 (by decide) tw_109 rfl dX0_goMinute_37 ?_
        refine ta_ile C (a := g1 5) (tgt := 48) (by omega) dX0_goMinute_40 (by decide) (fun c88 => ?_) (fun c88 => ?_)
        · refine lv_aload_n hx hb dX0_goMinute_48 rfl (lv_at hl 2 rfl) ?_
          refine ta_iconst C 1 dX0_goMinute_49 (by decide) ?_
          refine ta_callVv (As := [.int (nI 1)]) (rest0 := []) (Wr := []) C hP hD hS (c_X0_windOn l D k q t g1 X 1 (by omega) (by omega)) 0 rfl rfl rfl [0, 1, 2, 3, 4, 5, 6, 7, 8, 9, 10] [] rfl rfl (by decide) (by decide) (by decide) tw_468 tw_465 tw_26 tw_466 tw_467 ⟨by decide, by decide, rfl⟩ ⟨Nat.le_of_ble_eq_true rfl, Nat.le_of_ble_eq_true rfl⟩ ⟨Nat.zero_le _, Nat.zero_le _⟩ hl.1 rfl (Nat.le_of_ble_eq_true rfl) dX0_goMinute_50 (fun u90 H locs h91 hP hD hS => ?_)
          have hP : va_P D vwCl (dyW k q t (tg_wind t g1 1) X) H := hP
          have hD : va_D A (dyW k q t (tg_wind t g1 1) X) := hD
          refine lv_iload_n hx hb dX0_goMinute_53 rfl (lv_at hl 0 rfl) ?_
          have ekn : nI 1 = nI (tg_kn g) := by unfold tg_kn; rw [epre, ← ha]; first | rw [if_pos (by omega)] | rw [if_neg (by omega)]
          have ego : tg_wind t g1 1 = tg_go t g := by unfold tg_go; rw [epre, if_pos (by omega)]
          rw [ego] at hP hD
          exact ret _ X dX0_goMinute_54 rfl ⟨ekn, (tg_Xk (fun j h1 h2 => by rw [← ego, tg_wind_k (by omega) (by omega)]) hok1 hX1)⟩ hP hD hS
        · refine lv_aload_n hx hb dX0_goMinute_43 rfl (lv_at hl 2 rfl) ?_
          refine lv_iload_n hx hb dX0_goMinute_44 rfl (lv_at hl 1 rfl) ?_
          refine ta_callVv (As := [.int (nI 1)]) (rest0 := []) (Wr := []) C hP hD hS (c_X0_doBegun l D k q t g1 X 1 hok1 (by omega) (by omega)) 0 rfl rfl rfl [0, 1, 2, 3, 4, 5, 6, 7, 8, 9, 10] [] rfl rfl (by decide) (by decide) (by decide) tw_456 tw_453 tw_26 tw_454 tw_455 ⟨by decide, by decide, rfl⟩ ⟨Nat.le_of_ble_eq_true rfl, Nat.le_of_ble_eq_true rfl⟩ ⟨Nat.zero_le _, Nat.zero_le _⟩ hl.1 rfl (Nat.le_of_ble_eq_true rfl) dX0_goMinute_45 (fun u93 H locs h94 hP hD hS => ?_)
          have hP : va_P D vwCl (dyW k q t (tg_do t g1 1) X) H := hP
          have hD : va_D A (dyW k q t (tg_do t g1 1) X) := hD
          have k1 : tg_do t g1 1 1 = g1 1 := tg_do_k (by omega) hok1.2.2.1 (by omega) (by omega) (by omega) (by omega) (by omega)
          refine lv_aload_n hx hb dX0_goMinute_48 rfl (lv_at hl 2 rfl) ?_
          refine ta_iconst C 1 dX0_goMinute_49 (by decide) ?_
          refine ta_callVv (As := [.int (nI 1)]) (rest0 := []) (Wr := []) C hP hD hS (c_X0_windOn l D k q t (tg_do t g1 1) X 1 (by omega) (by omega)) 0 rfl rfl rfl [0, 1, 2, 3, 4, 5, 6, 7, 8, 9, 10] [] rfl rfl (by decide) (by decide) (by decide) tw_468 tw_465 tw_26 tw_466 tw_467 ⟨by decide, by decide, rfl⟩ ⟨Nat.le_of_ble_eq_true rfl, Nat.le_of_ble_eq_true rfl⟩ ⟨Nat.zero_le _, Nat.zero_le _⟩ hl.1 rfl (Nat.le_of_ble_eq_true rfl) dX0_goMinute_50 (fun u96 H locs h97 hP hD hS => ?_)
          have hP : va_P D vwCl (dyW k q t (tg_wind t (tg_do t g1 1) 1) X) H := hP
          have hD : va_D A (dyW k q t (tg_wind t (tg_do t g1 1) 1) X) := hD
          refine lv_iload_n hx hb dX0_goMinute_53 rfl (lv_at hl 0 rfl) ?_
          have ekn : nI 1 = nI (tg_kn g) := by unfold tg_kn; rw [epre, ← ha]; first | rw [if_pos (by omega)] | rw [if_neg (by omega)]
          have ego : tg_wind t (tg_do t g1 1) 1 = tg_go t g := by unfold tg_go; rw [epre, ← ha, if_neg (by omega)]
          rw [ego] at hP hD
          exact ret _ X dX0_goMinute_54 rfl ⟨ekn, (tg_Xk (fun j h1 h2 => by rw [← ego, tg_wind_k (by omega) (by omega)]; exact tg_do_k (by omega) hok1.2.2.1 h2 (by omega) (by omega) (by omega) (by omega)) hok1 hX1)⟩ hP hD hS
    · refine lv_aload_n hx hb dX0_goMinute_12 rfl (lv_at hl 1 rfl) ?_
      refine lv_aload_n hx hb dX0_goMinute_13 rfl (lv_at hl 1 rfl) ?_
      refine ta_get C hP 0 inlX0 rfl rfl 13 (by decide) tw_82 rfl dX0_goMinute_14 ?_
      refine lv_iload_n hx hb dX0_goMinute_17 rfl (lv_at hl 0 rfl) ?_
      refine ta_aald C hP 4 2 rfl rfl (i := 1) (x := q 8) (by omega) rfl dX0_goMinute_18 ?_
      rcases Nat.eq_zero_or_pos (g 7) with h0 | h0
      · refine ta_callVv (As := [.ref (q 8)]) (rest0 := []) (Wr := []) C hP hD hS (c_X0_beginNext_1z l D k q t g X h0) 0 rfl rfl rfl [0, 1, 2, 3, 4, 5, 6, 7, 8, 9, 10] [] rfl rfl (by decide) (by decide) (by decide) tw_448 tw_445 tw_26 tw_446 tw_447 ⟨by decide, by decide, rfl⟩ ⟨Nat.le_of_ble_eq_true rfl, Nat.le_of_ble_eq_true rfl⟩ ⟨Nat.zero_le _, Nat.zero_le _⟩ hl.1 rfl (Nat.le_of_ble_eq_true rfl) dX0_goMinute_19 (fun u99 H locs h100 hP hD hS => ?_)
        have hP : va_P D vwCl (dyW k q t g X) H := hP
        have hD : va_D A (dyW k q t g X) := hD
        obtain ⟨g1, hg1⟩ : ∃ z, z = g := ⟨_, rfl⟩
        have hX1 : tg_X g1 X := by rw [hg1]; exact hX
        have epre : tg_pre g = g1 := by rw [hg1]; unfold tg_pre; rw [← ha]; exact if_neg (fun h => by have h7 : 0 < g 7 := h.2; omega)
        have hok1 : tg_ok t g1 := by rw [hg1]; exact hok
        have g10 : g1 0 = g 0 := by rw [hg1]
        rw [← hg1] at hP hD
        obtain ⟨-, e1, -, -, e4, -⟩ := id hok1
        refine lv_aload_n hx hb dX0_goMinute_22 rfl (lv_at hl 1 rfl) ?_
        refine ta_get C hP 0 inlX0 rfl rfl 8 (by decide) tw_108 rfl dX0_goMinute_23 ?_
        refine ta_iconst C 4 dX0_goMinute_26 (by decide) ?_
        refine ta_cne C (a := g1 4) (b := 4) (tgt := 34) (by omega) (by omega) dX0_goMinute_27 (by decide) (fun c101 => ?_) (fun c101 => ?_)
        · refine ta_iconst C 4294967295 dX0_goMinute_34 (by decide) ?_
          refine lv_istore_n (lv' := [(2, .int (nI 4294967295)), (1, .int (nI 1)), (0, .ref (q 0))]) hx hb dX0_goMinute_35 rfl hl (by decide) rfl (fun ls hl => ?_)
          refine lv_aload_n hx hb dX0_goMinute_36 rfl (lv_at hl 2 rfl) ?_
          refine ta_get C hP 0 inlX0 rfl rfl 9 (by decide) tw_109 rfl dX0_goMinute_37 ?_
          refine ta_ile C (a := g1 5) (tgt := 48) (by omega) dX0_goMinute_40 (by decide) (fun c102 => ?_) (fun c102 => ?_)
          · refine lv_aload_n hx hb dX0_goMinute_48 rfl (lv_at hl 2 rfl) ?_
            refine ta_iconst C 1 dX0_goMinute_49 (by decide) ?_
            refine ta_callVv (As := [.int (nI 1)]) (rest0 := []) (Wr := []) C hP hD hS (c_X0_windOn l D k q t g1 X 1 (by omega) (by omega)) 0 rfl rfl rfl [0, 1, 2, 3, 4, 5, 6, 7, 8, 9, 10] [] rfl rfl (by decide) (by decide) (by decide) tw_468 tw_465 tw_26 tw_466 tw_467 ⟨by decide, by decide, rfl⟩ ⟨Nat.le_of_ble_eq_true rfl, Nat.le_of_ble_eq_true rfl⟩ ⟨Nat.zero_le _, Nat.zero_le _⟩ hl.1 rfl (Nat.le_of_ble_eq_true rfl) dX0_goMinute_50 (fun u104 H locs h105 hP hD hS => ?_)
            have hP : va_P D vwCl (dyW k q t (tg_wind t g1 1) X) H := hP
            have hD : va_D A (dyW k q t (tg_wind t g1 1) X) := hD
            refine lv_iload_n hx hb dX0_goMinute_53 rfl (lv_at hl 0 rfl) ?_
            have ekn : nI 4294967295 = nI (tg_kn g) := by unfold tg_kn; rw [epre, ← ha]; first | rw [if_pos (by omega)] | rw [if_neg (by omega)]
            have ego : tg_wind t g1 1 = tg_go t g := by unfold tg_go; rw [epre, if_pos (by omega)]
            rw [ego] at hP hD
            exact ret _ X dX0_goMinute_54 rfl ⟨ekn, (tg_Xk (fun j h1 h2 => by rw [← ego, tg_wind_k (by omega) (by omega)]) hok1 hX1)⟩ hP hD hS
          · refine lv_aload_n hx hb dX0_goMinute_43 rfl (lv_at hl 2 rfl) ?_
            refine lv_iload_n hx hb dX0_goMinute_44 rfl (lv_at hl 1 rfl) ?_
            refine ta_callVv (As := [.int (nI 1)]) (rest0 := []) (Wr := []) C hP hD hS (c_X0_doBegun l D k q t g1 X 1 hok1 (by omega) (by omega)) 0 rfl rfl rfl [0, 1, 2, 3, 4, 5, 6, 7, 8, 9, 10] [] rfl rfl (by decide) (by decide) (by decide) tw_456 tw_453 tw_26 tw_454 tw_455 ⟨by decide, by decide, rfl⟩ ⟨Nat.le_of_ble_eq_true rfl, Nat.le_of_ble_eq_true rfl⟩ ⟨Nat.zero_le _, Nat.zero_le _⟩ hl.1 rfl (Nat.le_of_ble_eq_true rfl) dX0_goMinute_45 (fun u107 H locs h108 hP hD hS => ?_)
            have hP : va_P D vwCl (dyW k q t (tg_do t g1 1) X) H := hP
            have hD : va_D A (dyW k q t (tg_do t g1 1) X) := hD
            have k1 : tg_do t g1 1 1 = g1 1 := tg_do_k (by omega) hok1.2.2.1 (by omega) (by omega) (by omega) (by omega) (by omega)
            refine lv_aload_n hx hb dX0_goMinute_48 rfl (lv_at hl 2 rfl) ?_
            refine ta_iconst C 1 dX0_goMinute_49 (by decide) ?_
            refine ta_callVv (As := [.int (nI 1)]) (rest0 := []) (Wr := []) C hP hD hS (c_X0_windOn l D k q t (tg_do t g1 1) X 1 (by omega) (by omega)) 0 rfl rfl rfl [0, 1, 2, 3, 4, 5, 6, 7, 8, 9, 10] [] rfl rfl (by decide) (by decide) (by decide) tw_468 tw_465 tw_26 tw_466 tw_467 ⟨by decide, by decide, rfl⟩ ⟨Nat.le_of_ble_eq_true rfl, Nat.le_of_ble_eq_true rfl⟩ ⟨Nat.zero_le _, Nat.zero_le _⟩ hl.1 rfl (Nat.le_of_ble_eq_true rfl) dX0_goMinute_50 (fun u110 H locs h111 hP hD hS => ?_)
            have hP : va_P D vwCl (dyW k q t (tg_wind t (tg_do t g1 1) 1) X) H := hP
            have hD : va_D A (dyW k q t (tg_wind t (tg_do t g1 1) 1) X) := hD
            refine lv_iload_n hx hb dX0_goMinute_53 rfl (lv_at hl 0 rfl) ?_
            have ekn : nI 4294967295 = nI (tg_kn g) := by unfold tg_kn; rw [epre, ← ha]; first | rw [if_pos (by omega)] | rw [if_neg (by omega)]
            have ego : tg_wind t (tg_do t g1 1) 1 = tg_go t g := by unfold tg_go; rw [epre, ← ha, if_neg (by omega)]
            rw [ego] at hP hD
            exact ret _ X dX0_goMinute_54 rfl ⟨ekn, (tg_Xk (fun j h1 h2 => by rw [← ego, tg_wind_k (by omega) (by omega)]; exact tg_do_k (by omega) hok1.2.2.1 h2 (by omega) (by omega) (by omega) (by omega)) hok1 hX1)⟩ hP hD hS
        · refine lv_iload_n hx hb dX0_goMinute_30 rfl (lv_at hl 0 rfl) ?_
          refine lv_goto (tgt := 35) hx hb dX0_goMinute_31 (by decide) ?_
          refine lv_istore_n (lv' := [(2, .int (nI 1)), (1, .int (nI 1)), (0, .ref (q 0))]) hx hb dX0_goMinute_35 rfl hl (by decide) rfl (fun ls hl => ?_)
          refine lv_aload_n hx hb dX0_goMinute_36 rfl (lv_at hl 2 rfl) ?_
          refine ta_get C hP 0 inlX0 rfl rfl 9 (by decide) tw_109 rfl dX0_goMinute_37 ?_
          refine ta_ile C (a := g1 5) (tgt := 48) (by omega) dX0_goMinute_40 (by decide) (fun c112 => ?_) (fun c112 => ?_)
          · refine lv_aload_n hx hb dX0_goMinute_48 rfl (lv_at hl 2 rfl) ?_
            refine ta_iconst C 1 dX0_goMinute_49 (by decide) ?_
            refine ta_callVv (As := [.int (nI 1)]) (rest0 := []) (Wr := []) C hP hD hS (c_X0_windOn l D k q t g1 X 1 (by omega) (by omega)) 0 rfl rfl rfl [0, 1, 2, 3, 4, 5, 6, 7, 8, 9, 10] [] rfl rfl (by decide) (by decide) (by decide) tw_468 tw_465 tw_26 tw_466 tw_467 ⟨by decide, by decide, rfl⟩ ⟨Nat.le_of_ble_eq_true rfl, Nat.le_of_ble_eq_true rfl⟩ ⟨Nat.zero_le _, Nat.zero_le _⟩ hl.1 rfl (Nat.le_of_ble_eq_true rfl) dX0_goMinute_50 (fun u114 H locs h115 hP hD hS => ?_)
            have hP : va_P D vwCl (dyW k q t (tg_wind t g1 1) X) H := hP
            have hD : va_D A (dyW k q t (tg_wind t g1 1) X) := hD
            refine lv_iload_n hx hb dX0_goMinute_53 rfl (lv_at hl 0 rfl) ?_
            have ekn : nI 1 = nI (tg_kn g) := by unfold tg_kn; rw [epre, ← ha]; first | rw [if_pos (by omega)] | rw [if_neg (by omega)]
            have ego : tg_wind t g1 1 = tg_go t g := by unfold tg_go; rw [epre, if_pos (by omega)]
            rw [ego] at hP hD
            exact ret _ X dX0_goMinute_54 rfl ⟨ekn, (tg_Xk (fun j h1 h2 => by rw [← ego, tg_wind_k (by omega) (by omega)]) hok1 hX1)⟩ hP hD hS
          · refine lv_aload_n hx hb dX0_goMinute_43 rfl (lv_at hl 2 rfl) ?_
            refine lv_iload_n hx hb dX0_goMinute_44 rfl (lv_at hl 1 rfl) ?_
            refine ta_callVv (As := [.int (nI 1)]) (rest0 := []) (Wr := []) C hP hD hS (c_X0_doBegun l D k q t g1 X 1 hok1 (by omega) (by omega)) 0 rfl rfl rfl [0, 1, 2, 3, 4, 5, 6, 7, 8, 9, 10] [] rfl rfl (by decide) (by decide) (by decide) tw_456 tw_453 tw_26 tw_454 tw_455 ⟨by decide, by decide, rfl⟩ ⟨Nat.le_of_ble_eq_true rfl, Nat.le_of_ble_eq_true rfl⟩ ⟨Nat.zero_le _, Nat.zero_le _⟩ hl.1 rfl (Nat.le_of_ble_eq_true rfl) dX0_goMinute_45 (fun u117 H locs h118 hP hD hS => ?_)
            have hP : va_P D vwCl (dyW k q t (tg_do t g1 1) X) H := hP
            have hD : va_D A (dyW k q t (tg_do t g1 1) X) := hD
            have k1 : tg_do t g1 1 1 = g1 1 := tg_do_k (by omega) hok1.2.2.1 (by omega) (by omega) (by omega) (by omega) (by omega)
            refine lv_aload_n hx hb dX0_goMinute_48 rfl (lv_at hl 2 rfl) ?_
            refine ta_iconst C 1 dX0_goMinute_49 (by decide) ?_
            refine ta_callVv (As := [.int (nI 1)]) (rest0 := []) (Wr := []) C hP hD hS (c_X0_windOn l D k q t (tg_do t g1 1) X 1 (by omega) (by omega)) 0 rfl rfl rfl [0, 1, 2, 3, 4, 5, 6, 7, 8, 9, 10] [] rfl rfl (by decide) (by decide) (by decide) tw_468 tw_465 tw_26 tw_466 tw_467 ⟨by decide, by decide, rfl⟩ ⟨Nat.le_of_ble_eq_true rfl, Nat.le_of_ble_eq_true rfl⟩ ⟨Nat.zero_le _, Nat.zero_le _⟩ hl.1 rfl (Nat.le_of_ble_eq_true rfl) dX0_goMinute_50 (fun u120 H locs h121 hP hD hS => ?_)
            have hP : va_P D vwCl (dyW k q t (tg_wind t (tg_do t g1 1) 1) X) H := hP
            have hD : va_D A (dyW k q t (tg_wind t (tg_do t g1 1) 1) X) := hD
            refine lv_iload_n hx hb dX0_goMinute_53 rfl (lv_at hl 0 rfl) ?_
            have ekn : nI 1 = nI (tg_kn g) := by unfold tg_kn; rw [epre, ← ha]; first | rw [if_pos (by omega)] | rw [if_neg (by omega)]
            have ego : tg_wind t (tg_do t g1 1) 1 = tg_go t g := by unfold tg_go; rw [epre, ← ha, if_neg (by omega)]
            rw [ego] at hP hD
            exact ret _ X dX0_goMinute_54 rfl ⟨ekn, (tg_Xk (fun j h1 h2 => by rw [← ego, tg_wind_k (by omega) (by omega)]; exact tg_do_k (by omega) hok1.2.2.1 h2 (by omega) (by omega) (by omega) (by omega)) hok1 hX1)⟩ hP hD hS
      · refine ta_callVv (As := [.ref (q 8)]) (rest0 := []) (Wr := []) C hP hD hS (c_X0_beginNext_1 l D k q t g X h0 b7 b6 hX) 0 rfl rfl rfl [0, 1, 2, 3, 4, 5, 6, 7, 8, 9, 10] [] rfl rfl (by decide) (by decide) (by decide) tw_448 tw_445 tw_26 tw_446 tw_447 ⟨by decide, by decide, rfl⟩ ⟨Nat.le_of_ble_eq_true rfl, Nat.le_of_ble_eq_true rfl⟩ ⟨Nat.zero_le _, Nat.zero_le _⟩ hl.1 rfl (Nat.le_of_ble_eq_true rfl) dX0_goMinute_19 (fun u123 H locs h124 hP hD hS => ?_)
        obtain ⟨u_125, hu0⟩ : ∃ z, z = u123 := ⟨_, rfl⟩
        subst hu0
        have hX126 := h124
        have hP : va_P D vwCl (dyW k q t (tg_begin g 1) u_125) H := hP
        have hD : va_D A (dyW k q t (tg_begin g 1) u_125) := hD
        obtain ⟨g1, hg1⟩ : ∃ z, z = tg_begin g 1 := ⟨_, rfl⟩
        rw [← hg1] at hP hD
        have hX1 : tg_X g1 u_125 := by rw [hg1]; exact hX126
        have epre : tg_pre g = g1 := by rw [hg1]; unfold tg_pre; rw [← ha]; exact if_pos ⟨by omega, h0⟩
        have hok1 : tg_ok t g1 := by rw [hg1]; exact tg_ok_begin hok (by omega) h0
        have g10 : g1 0 = g 0 := by rw [hg1]; exact tg_begin_k (a := 1) (by omega) (by omega) (by omega) (by omega)
        obtain ⟨-, e1, -, -, e4, -⟩ := id hok1
        refine lv_aload_n hx hb dX0_goMinute_22 rfl (lv_at hl 1 rfl) ?_
        refine ta_get C hP 0 inlX0 rfl rfl 8 (by decide) tw_108 rfl dX0_goMinute_23 ?_
        refine ta_iconst C 4 dX0_goMinute_26 (by decide) ?_
        refine ta_cne C (a := g1 4) (b := 4) (tgt := 34) (by omega) (by omega) dX0_goMinute_27 (by decide) (fun c127 => ?_) (fun c127 => ?_)
        · refine ta_iconst C 4294967295 dX0_goMinute_34 (by decide) ?_
          refine lv_istore_n (lv' := [(2, .int (nI 4294967295)), (1, .int (nI 1)), (0, .ref (q 0))]) hx hb dX0_goMinute_35 rfl hl (by decide) rfl (fun ls hl => ?_)
          refine lv_aload_n hx hb dX0_goMinute_36 rfl (lv_at hl 2 rfl) ?_
          refine ta_get C hP 0 inlX0 rfl rfl 9 (by decide) tw_109 rfl dX0_goMinute_37 ?_
          refine ta_ile C (a := g1 5) (tgt := 48) (by omega) dX0_goMinute_40 (by decide) (fun c128 => ?_) (fun c128 => ?_)
          · refine lv_aload_n hx hb dX0_goMinute_48 rfl (lv_at hl 2 rfl) ?_
            refine ta_iconst C 1 dX0_goMinute_49 (by decide) ?_
            refine ta_callVv (As := [.int (nI 1)]) (rest0 := []) (Wr := []) C hP hD hS (c_X0_windOn l D k q t g1 u_125 1 (by omega) (by omega)) 0 rfl rfl rfl [0, 1, 2, 3, 4, 5, 6, 7, 8, 9, 10] [] rfl rfl (by decide) (by decide) (by decide) tw_468 tw_465 tw_26 tw_466 tw_467 ⟨by decide, by decide, rfl⟩ ⟨Nat.le_of_ble_eq_true rfl, Nat.le_of_ble_eq_true rfl⟩ ⟨Nat.zero_le _, Nat.zero_le _⟩ hl.1 rfl (Nat.le_of_ble_eq_true rfl) dX0_goMinute_50 (fun u130 H locs h131 hP hD hS => ?_)
            have hP : va_P D vwCl (dyW k q t (tg_wind t g1 1) u_125) H := hP
            have hD : va_D A (dyW k q t (tg_wind t g1 1) u_125) := hD
            refine lv_iload_n hx hb dX0_goMinute_53 rfl (lv_at hl 0 rfl) ?_
            have ekn : nI 4294967295 = nI (tg_kn g) := by unfold tg_kn; rw [epre, ← ha]; first | rw [if_pos (by omega)] | rw [if_neg (by omega)]
            have ego : tg_wind t g1 1 = tg_go t g := by unfold tg_go; rw [epre, if_pos (by omega)]
            rw [ego] at hP hD
            exact ret _ u_125 dX0_goMinute_54 rfl ⟨ekn, (tg_Xk (fun j h1 h2 => by rw [← ego, tg_wind_k (by omega) (by omega)]) hok1 hX1)⟩ hP hD hS
          · refine lv_aload_n hx hb dX0_goMinute_43 rfl (lv_at hl 2 rfl) ?_
            refine lv_iload_n hx hb dX0_goMinute_44 rfl (lv_at hl 1 rfl) ?_
            refine ta_callVv (As := [.int (nI 1)]) (rest0 := []) (Wr := []) C hP hD hS (c_X0_doBegun l D k q t g1 u_125 1 hok1 (by omega) (by omega)) 0 rfl rfl rfl [0, 1, 2, 3, 4, 5, 6, 7, 8, 9, 10] [] rfl rfl (by decide) (by decide) (by decide) tw_456 tw_453 tw_26 tw_454 tw_455 ⟨by decide, by decide, rfl⟩ ⟨Nat.le_of_ble_eq_true rfl, Nat.le_of_ble_eq_true rfl⟩ ⟨Nat.zero_le _, Nat.zero_le _⟩ hl.1 rfl (Nat.le_of_ble_eq_true rfl) dX0_goMinute_45 (fun u133 H locs h134 hP hD hS => ?_)
            have hP : va_P D vwCl (dyW k q t (tg_do t g1 1) u_125) H := hP
            have hD : va_D A (dyW k q t (tg_do t g1 1) u_125) := hD
            have k1 : tg_do t g1 1 1 = g1 1 := tg_do_k (by omega) hok1.2.2.1 (by omega) (by omega) (by omega) (by omega) (by omega)
            refine lv_aload_n hx hb dX0_goMinute_48 rfl (lv_at hl 2 rfl) ?_
            refine ta_iconst C 1 dX0_goMinute_49 (by decide) ?_
            refine ta_callVv (As := [.int (nI 1)]) (rest0 := []) (Wr := []) C hP hD hS (c_X0_windOn l D k q t (tg_do t g1 1) u_125 1 (by omega) (by omega)) 0 rfl rfl rfl [0, 1, 2, 3, 4, 5, 6, 7, 8, 9, 10] [] rfl rfl (by decide) (by decide) (by decide) tw_468 tw_465 tw_26 tw_466 tw_467 ⟨by decide, by decide, rfl⟩ ⟨Nat.le_of_ble_eq_true rfl, Nat.le_of_ble_eq_true rfl⟩ ⟨Nat.zero_le _, Nat.zero_le _⟩ hl.1 rfl (Nat.le_of_ble_eq_true rfl) dX0_goMinute_50 (fun u136 H locs h137 hP hD hS => ?_)
            have hP : va_P D vwCl (dyW k q t (tg_wind t (tg_do t g1 1) 1) u_125) H := hP
            have hD : va_D A (dyW k q t (tg_wind t (tg_do t g1 1) 1) u_125) := hD
            refine lv_iload_n hx hb dX0_goMinute_53 rfl (lv_at hl 0 rfl) ?_
            have ekn : nI 4294967295 = nI (tg_kn g) := by unfold tg_kn; rw [epre, ← ha]; first | rw [if_pos (by omega)] | rw [if_neg (by omega)]
            have ego : tg_wind t (tg_do t g1 1) 1 = tg_go t g := by unfold tg_go; rw [epre, ← ha, if_neg (by omega)]
            rw [ego] at hP hD
            exact ret _ u_125 dX0_goMinute_54 rfl ⟨ekn, (tg_Xk (fun j h1 h2 => by rw [← ego, tg_wind_k (by omega) (by omega)]; exact tg_do_k (by omega) hok1.2.2.1 h2 (by omega) (by omega) (by omega) (by omega)) hok1 hX1)⟩ hP hD hS
        · refine lv_iload_n hx hb dX0_goMinute_30 rfl (lv_at hl 0 rfl) ?_
          refine lv_goto (tgt := 35) hx hb dX0_goMinute_31 (by decide) ?_
          refine lv_istore_n (lv' := [(2, .int (nI 1)), (1, .int (nI 1)), (0, .ref (q 0))]) hx hb dX0_goMinute_35 rfl hl (by decide) rfl (fun ls hl => ?_)
          refine lv_aload_n hx hb dX0_goMinute_36 rfl (lv_at hl 2 rfl) ?_
          refine ta_get C hP 0 inlX0 rfl rfl 9 (by decide) tw_109 rfl dX0_goMinute_37 ?_
          refine ta_ile C (a := g1 5) (tgt := 48) (by omega) dX0_goMinute_40 (by decide) (fun c138 => ?_) (fun c138 => ?_)
          · refine lv_aload_n hx hb dX0_goMinute_48 rfl (lv_at hl 2 rfl) ?_
            refine ta_iconst C 1 dX0_goMinute_49 (by decide) ?_
            refine ta_callVv (As := [.int (nI 1)]) (rest0 := []) (Wr := []) C hP hD hS (c_X0_windOn l D k q t g1 u_125 1 (by omega) (by omega)) 0 rfl rfl rfl [0, 1, 2, 3, 4, 5, 6, 7, 8, 9, 10] [] rfl rfl (by decide) (by decide) (by decide) tw_468 tw_465 tw_26 tw_466 tw_467 ⟨by decide, by decide, rfl⟩ ⟨Nat.le_of_ble_eq_true rfl, Nat.le_of_ble_eq_true rfl⟩ ⟨Nat.zero_le _, Nat.zero_le _⟩ hl.1 rfl (Nat.le_of_ble_eq_true rfl) dX0_goMinute_50 (fun u140 H locs h141 hP hD hS => ?_)
            have hP : va_P D vwCl (dyW k q t (tg_wind t g1 1) u_125) H := hP
            have hD : va_D A (dyW k q t (tg_wind t g1 1) u_125) := hD
            refine lv_iload_n hx hb dX0_goMinute_53 rfl (lv_at hl 0 rfl) ?_
            have ekn : nI 1 = nI (tg_kn g) := by unfold tg_kn; rw [epre, ← ha]; first | rw [if_pos (by omega)] | rw [if_neg (by omega)]
            have ego : tg_wind t g1 1 = tg_go t g := by unfold tg_go; rw [epre, if_pos (by omega)]
            rw [ego] at hP hD
            exact ret _ u_125 dX0_goMinute_54 rfl ⟨ekn, (tg_Xk (fun j h1 h2 => by rw [← ego, tg_wind_k (by omega) (by omega)]) hok1 hX1)⟩ hP hD hS
          · refine lv_aload_n hx hb dX0_goMinute_43 rfl (lv_at hl 2 rfl) ?_
            refine lv_iload_n hx hb dX0_goMinute_44 rfl (lv_at hl 1 rfl) ?_
            refine ta_callVv (As := [.int (nI 1)]) (rest0 := []) (Wr := []) C hP hD hS (c_X0_doBegun l D k q t g1 u_125 1 hok1 (by omega) (by omega)) 0 rfl rfl rfl [0, 1, 2, 3, 4, 5, 6, 7, 8, 9, 10] [] rfl rfl (by decide) (by decide) (by decide) tw_456 tw_453 tw_26 tw_454 tw_455 ⟨by decide, by decide, rfl⟩ ⟨Nat.le_of_ble_eq_true rfl, Nat.le_of_ble_eq_true rfl⟩ ⟨Nat.zero_le _, Nat.zero_le _⟩ hl.1 rfl (Nat.le_of_ble_eq_true rfl) dX0_goMinute_45 (fun u143 H locs h144 hP hD hS => ?_)
            have hP : va_P D vwCl (dyW k q t (tg_do t g1 1) u_125) H := hP
            have hD : va_D A (dyW k q t (tg_do t g1 1) u_125) := hD
            have k1 : tg_do t g1 1 1 = g1 1 := tg_do_k (by omega) hok1.2.2.1 (by omega) (by omega) (by omega) (by omega) (by omega)
            refine lv_aload_n hx hb dX0_goMinute_48 rfl (lv_at hl 2 rfl) ?_
            refine ta_iconst C 1 dX0_goMinute_49 (by decide) ?_
            refine ta_callVv (As := [.int (nI 1)]) (rest0 := []) (Wr := []) C hP hD hS (c_X0_windOn l D k q t (tg_do t g1 1) u_125 1 (by omega) (by omega)) 0 rfl rfl rfl [0, 1, 2, 3, 4, 5, 6, 7, 8, 9, 10] [] rfl rfl (by decide) (by decide) (by decide) tw_468 tw_465 tw_26 tw_466 tw_467 ⟨by decide, by decide, rfl⟩ ⟨Nat.le_of_ble_eq_true rfl, Nat.le_of_ble_eq_true rfl⟩ ⟨Nat.zero_le _, Nat.zero_le _⟩ hl.1 rfl (Nat.le_of_ble_eq_true rfl) dX0_goMinute_50 (fun u146 H locs h147 hP hD hS => ?_)
            have hP : va_P D vwCl (dyW k q t (tg_wind t (tg_do t g1 1) 1) u_125) H := hP
            have hD : va_D A (dyW k q t (tg_wind t (tg_do t g1 1) 1) u_125) := hD
            refine lv_iload_n hx hb dX0_goMinute_53 rfl (lv_at hl 0 rfl) ?_
            have ekn : nI 1 = nI (tg_kn g) := by unfold tg_kn; rw [epre, ← ha]; first | rw [if_pos (by omega)] | rw [if_neg (by omega)]
            have ego : tg_wind t (tg_do t g1 1) 1 = tg_go t g := by unfold tg_go; rw [epre, ← ha, if_neg (by omega)]
            rw [ego] at hP hD
            exact ret _ u_125 dX0_goMinute_54 rfl ⟨ekn, (tg_Xk (fun j h1 h2 => by rw [← ego, tg_wind_k (by omega) (by omega)]; exact tg_do_k (by omega) hok1.2.2.1 h2 (by omega) (by omega) (by omega) (by omega)) hok1 hX1)⟩ hP hD hS
