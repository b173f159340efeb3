theorem tg_kc_m (t g : Nat → Nat) (a i : Nat) : ∀ j, tg_kc t g a i ≤ tg_kc t g a (i + j)
  | 0 => Nat.le_refl _
  | j + 1 => by
    have h := tg_kc_m t g a i j
    show _ ≤ tg_kc t g a (i + j + 1)
    rw [tg_kc_s]
    omega
theorem tg_kn_c (g : Nat → Nat) : tg_kn g = 4294967295 ∨ tg_kn g < 2 := by
  unfold tg_kn
  split
  · right; omega
  · left; rfl
theorem tg_kc_y {t g : Nat → Nat} {a n : Nat} (h : tg_kn (tg_it t g n) = a) : tg_kc t g a (n + 1) = tg_kc t g a n + 1 := by rw [tg_kc_s, if_pos h]
theorem tg_kc_n {t g : Nat → Nat} {a n : Nat} (h : tg_kn (tg_it t g n) ≠ a) : tg_kc t g a (n + 1) = tg_kc t g a n := by rw [tg_kc_s, if_neg h]; rfl
set_option maxHeartbeats 4000000 in
set_option maxRecDepth 100000 in
theorem c_X7_gainOfMarches (l : Launch) (D : va_G) (k : ta_C) (o : Nat → Nat) (x : Nat → Nat) (tq : Nat → Nat) (rd : Nat) (q : Nat → Nat) (tr : Nat → Nat) (pz : Nat → Nat) (sz : Nat → Nat) (t : Nat → Nat) (g : Nat → Nat) (X : Nat → Nat → Nat) (tt : Nat → Nat) (gg : Nat → Nat) (XX : Nat → Nat → Nat) (a : Nat) (n : Nat) (one : Nat) (two : Nat) (hok : tg_ok t g) (hh0 : g 0 < 1000000) (hX : tg_X g X) (ha : a < 2) (hn : n ≤ 40) (ho1 : 1 ≤ one ∧ one ≤ 9) (ho2 : 1 ≤ two ∧ two ≤ 9) (hn6 : g (6 + a) ≤ 6) : ta_Mi (S := (Nat → Nat) × (Nat → Nat) × (Nat → Nat → Nat)) l D k yX7_gainOfMarches cX7_gainOfMarches 8 .int 4 140 [.ref (o 0), .int (nI a), .int (nI n), .int (nI one), .int (nI two)] ([(o 0, .inr (7, [.ref (x 0), .ref (tq 0), .ref rd, .ref (q 0), .ref (tr 0), .ref (pz 0), .ref (o 1), .ref (o 2), .ref (sz 0)]))] ++ ((dyW k q t g X) ++ (dyW k tr tt gg XX))) (fun r _ => r = nI (pl_p (pl_v t g a n one two))) (fun u => ([(o 0, .inr (7, [.ref (x 0), .ref (tq 0), .ref rd, .ref (q 0), .ref (tr 0), .ref (pz 0), .ref (o 1), .ref (o 2), .ref (sz 0)]))] ++ ((dyW k q t g X) ++ (dyW k tr u.1 u.2.1 u.2.2)))) := by
  refine ta_enter_i (by decide) (Nat.le_of_ble_eq_true rfl) ?_
  intro p e s m below meth c A ls Q C ret hP hD hS hl
  have C : ta_At p l D k s m ([.ref (o 0), .int (nI a), .int (nI n), .int (nI one), .int (nI two)] : List Value).toArray c RX7 cX7_gainOfMarches 8 A := C
  have hx := C.1.1
  have hb := C.1.2.1
  have hl : lv_has ls 8 [(0, .ref (o 0)), (1, .int (nI a)), (2, .int (nI n)), (3, .int (nI one)), (4, .int (nI two))] := hl
  obtain ⟨H, hH⟩ : ∃ H, H = s.heap := ⟨_, rfl⟩
  obtain ⟨locs, hlocs⟩ : ∃ q : List Loc, q = [] := ⟨_, rfl⟩
  have hP : va_P D vwCl ([(o 0, .inr (7, [.ref (x 0), .ref (tq 0), .ref rd, .ref (q 0), .ref (tr 0), .ref (pz 0), .ref (o 1), .ref (o 2), .ref (sz 0)]))] ++ ((dyW k q t g X) ++ (dyW k tr tt gg XX))) H := by rw [hH]; exact hP
  have hS : va_S A s.heap H locs := by rw [hH, hlocs]; exact hS
  rw [← hlocs]
  suffices hgoal : W p l e ({ frames := 4, cells := 0, slots := 0, locals := 140 }) s m ([.ref (o 0), .int (nI a), .int (nI n), .int (nI one), .int (nI two)] : List Value).toArray below meth c H locs 0 0 Q (F0 m 0 ls []) by rw [hH] at hgoal; exact hgoal
  clear hH hlocs
  obtain ⟨⟨a1, a2, a3, a4, a5, a6⟩, b1, b2, b3, b4, b6, b7, b8, b9⟩ := id hok
  rcases (show a = 0 ∨ a = 1 by omega) with rfl | rfl
  · have e6a : g (6 + 0) = g 6 := rfl
    refine lv_aload_n hx hb dX7_gainOfMarches_0 rfl (lv_at hl 0 rfl) ?_
    refine ta_get C hP 0 inlX7 rfl rfl 4 (by decide) tw_28 rfl dX7_gainOfMarches_1 ?_
    refine lv_aload_n hx hb dX7_gainOfMarches_4 rfl (lv_at hl 0 rfl) ?_
    refine ta_get C hP 0 inlX7 rfl rfl 3 (by decide) tw_27 rfl dX7_gainOfMarches_5 ?_
    refine ta_callVv (As := [.ref (q 0)]) (rest0 := []) (Wr := [(o 0, .inr (7, [.ref (x 0), .ref (tq 0), .ref rd, .ref (q 0), .ref (tr 0), .ref (pz 0), .ref (o 1), .ref (o 2), .ref (sz 0)]))]) C hP hD hS (c_X0_copyFrom l D k tr tt gg XX q t g X b6 b7 hX) 12 rfl rfl rfl [12, 13, 14, 15, 16, 17, 18, 19, 20, 21, 22, 1, 2, 3, 4, 5, 6, 7, 8, 9, 10, 11] [0] rfl rfl (by decide) (by decide) (by decide) tw_434 tw_536 tw_26 tw_432 tw_433 ⟨by decide, by decide, rfl⟩ ⟨Nat.le_of_ble_eq_true rfl, Nat.le_of_ble_eq_true rfl⟩ ⟨Nat.zero_le _, Nat.zero_le _⟩ hl.1 rfl (Nat.le_of_ble_eq_true rfl) dX7_gainOfMarches_8 (fun u2 H locs h3 hP hD hS => ?_)
    obtain ⟨u_4, hu0⟩ : ∃ z, z = u2 := ⟨_, rfl⟩
    subst hu0
    have hX5 := h3
    have hP : va_P D vwCl ([(o 0, .inr (7, [.ref (x 0), .ref (tq 0), .ref rd, .ref (q 0), .ref (tr 0), .ref (pz 0), .ref (o 1), .ref (o 2), .ref (sz 0)]))] ++ ((dyW k tr t g u_4) ++ (dyW k q t g X))) H := hP
    have hD : va_D A ([(o 0, .inr (7, [.ref (x 0), .ref (tq 0), .ref rd, .ref (q 0), .ref (tr 0), .ref (pz 0), .ref (o 1), .ref (o 2), .ref (sz 0)]))] ++ ((dyW k tr t g u_4) ++ (dyW k q t g X))) := hD
    refine lv_aload_n hx hb dX7_gainOfMarches_11 rfl (lv_at hl 0 rfl) ?_
    refine ta_get C hP 0 inlX7 rfl rfl 4 (by decide) tw_28 rfl dX7_gainOfMarches_12 ?_
    refine ta_getN C hP 1 inlX0 rfl rfl 13 (by decide) 36 rfl rfl dX7_gainOfMarches_15 ?_
    refine lv_iload_n hx hb dX7_gainOfMarches_18 rfl (lv_at hl 1 rfl) ?_
    refine ta_aald C hP 5 2 rfl rfl (i := 0) (x := tr 5) (by omega) rfl dX7_gainOfMarches_19 ?_
    refine ta_iconst C 0 dX7_gainOfMarches_20 (by decide) ?_
    refine lv_iload_n hx hb dX7_gainOfMarches_21 rfl (lv_at hl 3 rfl) ?_
    refine ta_callVv (As := [.int (nI 0), .int (nI one)]) (rest0 := []) (Wr := ([(o 0, .inr (7, [.ref (x 0), .ref (tq 0), .ref rd, .ref (q 0), .ref (tr 0), .ref (pz 0), .ref (o 1), .ref (o 2), .ref (sz 0)])), (tr 0, .inr (0, [.int (nI (t 0)), .int (nI (t 1)), .int (nI (t 2)), .int (nI (g 0)), .int (nI (g 1)), .int (nI (g 2 / t 0)), .int (nI (g 2 % t 0)), .int (nI (g 3)), .int (nI (g 4)), .int (nI (g 5)), .ref (tr 1), .ref (tr 2), .ref (tr 3), .ref (tr 4)])), (tr 1, .inl (k.1 0, 36, .inl (ta_e (tg_mud g)))), (tr 2, .inl (k.1 0, 4, .inl (ta_e (tg_wal g)))), (tr 3, .inl (k.1 0, 2, .inl (ta_e (tg_kne g)))), (tr 4, .inl (k.1 2, 2, .inr (.inr (.inr (.inr (ta_dr (tr 5) (tr 8))))))), (tr 8, .inr (1, [.ref (tr 9), .ref (tr 10), .int (nI (g 7))])), (tr 9, .inl (k.1 0, 8, .inl (ta_e (u_4 2)))), (tr 10, .inl (k.1 0, 8, .inl (ta_e (u_4 3))))] ++ (dyW k q t g X))) C hP hD hS (c_X1_append l D k (tr 5) (tr 6) (tr 7) (u_4 0) (u_4 1) (g 6) 0 one (by omega)) 6 rfl rfl rfl [6, 7, 8] [0, 1, 2, 3, 4, 5, 9, 10, 11, 12, 13, 14, 15, 16, 17, 18, 19, 20, 21, 22] rfl rfl (by decide) (by decide) (by decide) tw_294 tw_498 tw_56 tw_292 tw_293 ⟨by decide, by decide, rfl⟩ ⟨Nat.le_of_ble_eq_true rfl, Nat.le_of_ble_eq_true rfl⟩ ⟨Nat.zero_le _, Nat.zero_le _⟩ hl.1 rfl (Nat.le_of_ble_eq_true rfl) dX7_gainOfMarches_22 (fun u7 H locs h8 hP hD hS => ?_)
    have hP : va_P D vwCl ([(o 0, .inr (7, [.ref (x 0), .ref (tq 0), .ref rd, .ref (q 0), .ref (tr 0), .ref (pz 0), .ref (o 1), .ref (o 2), .ref (sz 0)])), (tr 0, .inr (0, [.int (nI (t 0)), .int (nI (t 1)), .int (nI (t 2)), .int (nI (g 0)), .int (nI (g 1)), .int (nI (g 2 / t 0)), .int (nI (g 2 % t 0)), .int (nI (g 3)), .int (nI (g 4)), .int (nI (g 5)), .ref (tr 1), .ref (tr 2), .ref (tr 3), .ref (tr 4)])), (tr 1, .inl (k.1 0, 36, .inl (ta_e (tg_mud g)))), (tr 2, .inl (k.1 0, 4, .inl (ta_e (tg_wal g)))), (tr 3, .inl (k.1 0, 2, .inl (ta_e (tg_kne g)))), (tr 4, .inl (k.1 2, 2, .inr (.inr (.inr (.inr (ta_dr (tr 5) (tr 8))))))), (tr 8, .inr (1, [.ref (tr 9), .ref (tr 10), .int (nI (g 7))])), (tr 9, .inl (k.1 0, 8, .inl (ta_e (u_4 2)))), (tr 10, .inl (k.1 0, 8, .inl (ta_e (u_4 3))))] ++ ((dyW k q t g X) ++ [(tr 5, .inr (1, [.ref (tr 6), .ref (tr 7), .int (nI ((g 6) + 1))])), (tr 6, .inl (k.1 0, 8, .inl (ta_e (ta_u (u_4 0) (g 6) 0)))), (tr 7, .inl (k.1 0, 8, .inl (ta_e (ta_u (u_4 1) (g 6) one))))])) H := hP
    have hD : va_D A ([(o 0, .inr (7, [.ref (x 0), .ref (tq 0), .ref rd, .ref (q 0), .ref (tr 0), .ref (pz 0), .ref (o 1), .ref (o 2), .ref (sz 0)])), (tr 0, .inr (0, [.int (nI (t 0)), .int (nI (t 1)), .int (nI (t 2)), .int (nI (g 0)), .int (nI (g 1)), .int (nI (g 2 / t 0)), .int (nI (g 2 % t 0)), .int (nI (g 3)), .int (nI (g 4)), .int (nI (g 5)), .ref (tr 1), .ref (tr 2), .ref (tr 3), .ref (tr 4)])), (tr 1, .inl (k.1 0, 36, .inl (ta_e (tg_mud g)))), (tr 2, .inl (k.1 0, 4, .inl (ta_e (tg_wal g)))), (tr 3, .inl (k.1 0, 2, .inl (ta_e (tg_kne g)))), (tr 4, .inl (k.1 2, 2, .inr (.inr (.inr (.inr (ta_dr (tr 5) (tr 8))))))), (tr 8, .inr (1, [.ref (tr 9), .ref (tr 10), .int (nI (g 7))])), (tr 9, .inl (k.1 0, 8, .inl (ta_e (u_4 2)))), (tr 10, .inl (k.1 0, 8, .inl (ta_e (u_4 3))))] ++ ((dyW k q t g X) ++ [(tr 5, .inr (1, [.ref (tr 6), .ref (tr 7), .int (nI ((g 6) + 1))])), (tr 6, .inl (k.1 0, 8, .inl (ta_e (ta_u (u_4 0) (g 6) 0)))), (tr 7, .inl (k.1 0, 8, .inl (ta_e (ta_u (u_4 1) (g 6) one))))])) := hD
    have hn8a : g (6 + 0) < 8 := by have e9 : g (6 + 0) = g 6 := rfl; omega
    have hP : va_P D vwCl ([(tr 0, .inr (0, [.int (nI (t 0)), .int (nI (t 1)), .int (nI (t 2)), .int (nI (g 0)), .int (nI (g 1)), .int (nI (g 2 / t 0)), .int (nI (g 2 % t 0)), .int (nI (g 3)), .int (nI (g 4)), .int (nI (g 5)), .ref (tr 1), .ref (tr 2), .ref (tr 3), .ref (tr 4)])), (tr 1, .inl (k.1 0, 36, .inl (ta_e (tg_mud g)))), (tr 2, .inl (k.1 0, 4, .inl (ta_e (tg_wal g)))), (tr 3, .inl (k.1 0, 2, .inl (ta_e (tg_kne g)))), (tr 4, .inl (k.1 2, 2, .inr (.inr (.inr (.inr (ta_dr (tr 5) (tr 8))))))), (tr 5, .inr (1, [.ref (tr 6), .ref (tr 7), .int (nI ((g 6) + 1))])), (tr 6, .inl (k.1 0, 8, .inl (ta_e (ta_u (u_4 0) (g 6) 0)))), (tr 7, .inl (k.1 0, 8, .inl (ta_e (ta_u (u_4 1) (g 6) one)))), (tr 8, .inr (1, [.ref (tr 9), .ref (tr 10), .int (nI (g 7))])), (tr 9, .inl (k.1 0, 8, .inl (ta_e (u_4 2)))), (tr 10, .inl (k.1 0, 8, .inl (ta_e (u_4 3)))), (o 0, .inr (7, [.ref (x 0), .ref (tq 0), .ref rd, .ref (q 0), .ref (tr 0), .ref (pz 0), .ref (o 1), .ref (o 2), .ref (sz 0)]))] ++ (dyW k q t g X)) H := hP.sub [1, 2, 3, 4, 5, 20, 21, 22, 6, 7, 8, 0, 9, 10, 11, 12, 13, 14, 15, 16, 17, 18, 19] rfl
    have hD : va_D A ([(tr 0, .inr (0, [.int (nI (t 0)), .int (nI (t 1)), .int (nI (t 2)), .int (nI (g 0)), .int (nI (g 1)), .int (nI (g 2 / t 0)), .int (nI (g 2 % t 0)), .int (nI (g 3)), .int (nI (g 4)), .int (nI (g 5)), .ref (tr 1), .ref (tr 2), .ref (tr 3), .ref (tr 4)])), (tr 1, .inl (k.1 0, 36, .inl (ta_e (tg_mud g)))), (tr 2, .inl (k.1 0, 4, .inl (ta_e (tg_wal g)))), (tr 3, .inl (k.1 0, 2, .inl (ta_e (tg_kne g)))), (tr 4, .inl (k.1 2, 2, .inr (.inr (.inr (.inr (ta_dr (tr 5) (tr 8))))))), (tr 5, .inr (1, [.ref (tr 6), .ref (tr 7), .int (nI ((g 6) + 1))])), (tr 6, .inl (k.1 0, 8, .inl (ta_e (ta_u (u_4 0) (g 6) 0)))), (tr 7, .inl (k.1 0, 8, .inl (ta_e (ta_u (u_4 1) (g 6) one)))), (tr 8, .inr (1, [.ref (tr 9), .ref (tr 10), .int (nI (g 7))])), (tr 9, .inl (k.1 0, 8, .inl (ta_e (u_4 2)))), (tr 10, .inl (k.1 0, 8, .inl (ta_e (u_4 3)))), (o 0, .inr (7, [.ref (x 0), .ref (tq 0), .ref rd, .ref (q 0), .ref (tr 0), .ref (pz 0), .ref (o 1), .ref (o 2), .ref (sz 0)]))] ++ (dyW k q t g X)) := hD.sub [1, 2, 3, 4, 5, 20, 21, 22, 6, 7, 8, 0, 9, 10, 11, 12, 13, 14, 15, 16, 17, 18, 19] (by decide) rfl
    have hPd : va_P D vwCl (dyW k tr t (tg_ord g 0 (10 * 0 + one)) (ta_x4 (ta_u (u_4 0) (g 6) 0) (ta_u (u_4 1) (g 6) one) (u_4 2) (u_4 3))) H := dy_to (q := tr) (t := t) (g := tg_ord g 0 (10 * 0 + one)) ⟨rfl, rfl, rfl, (tg_ord_k (by omega) (by omega)).symm, (tg_ord_k (by omega) (by omega)).symm, (by rw [tg_ord_k (by omega) (by omega)]), (by rw [tg_ord_k (by omega) (by omega)]), (tg_ord_k (by omega) (by omega)).symm, (tg_ord_k (by omega) (by omega)).symm, (tg_ord_k (by omega) (by omega)).symm, (tg_ord_n g 0 (10 * 0 + one)).symm, (tg_ord_k (by omega) (by omega)).symm⟩ (fun j hj => (tg_ord_k (by omega) (by omega)).symm) (fun j hj => (tg_ord_k (by omega) (by omega)).symm) (fun j hj => (tg_ord_k (by omega) (by omega)).symm) (hP.sub [0, 1, 2, 3, 4, 5, 6, 7, 8, 9, 10] rfl)
    have hP : va_P D vwCl ((dyW k tr t (tg_ord g 0 (10 * 0 + one)) (ta_x4 (ta_u (u_4 0) (g 6) 0) (ta_u (u_4 1) (g 6) one) (u_4 2) (u_4 3))) ++ ([(o 0, .inr (7, [.ref (x 0), .ref (tq 0), .ref rd, .ref (q 0), .ref (tr 0), .ref (pz 0), .ref (o 1), .ref (o 2), .ref (sz 0)]))] ++ (dyW k q t g X))) H := ta_Pa hPd (hP.sub [11, 12, 13, 14, 15, 16, 17, 18, 19, 20, 21, 22] rfl)
    have hD : va_D A ((dyW k tr t (tg_ord g 0 (10 * 0 + one)) (ta_x4 (ta_u (u_4 0) (g 6) 0) (ta_u (u_4 1) (g 6) one) (u_4 2) (u_4 3))) ++ ([(o 0, .inr (7, [.ref (x 0), .ref (tq 0), .ref rd, .ref (q 0), .ref (tr 0), .ref (pz 0), .ref (o 1), .ref (o 2), .ref (sz 0)]))] ++ (dyW k q t g X))) := ta_De hD rfl
    have hX1 : tg_X (tg_ord g 0 (10 * 0 + one)) (ta_x4 (ta_u (u_4 0) (g 6) 0) (ta_u (u_4 1) (g 6) one) (u_4 2) (u_4 3)) := tg_X_ord0 (by omega) (by omega) hX5
    obtain ⟨g1, eg1⟩ : ∃ z, z = tg_ord g 0 (10 * 0 + one) := ⟨_, rfl⟩
    obtain ⟨X1, eX1⟩ : ∃ z, z = ta_x4 (ta_u (u_4 0) (g 6) 0) (ta_u (u_4 1) (g 6) one) (u_4 2) (u_4 3) := ⟨_, rfl⟩
    rw [← eg1, ← eX1] at hP hD hX1
    have hg1b : g1 = tg_ord g 0 one := by rw [eg1, show 10 * 0 + one = one by omega]
    have hok1 : tg_ok t g1 := by rw [hg1b]; exact tg_ok_ord hok (by decide) (show g 6 < 8 by omega) ⟨by omega, by omega⟩
    have en1 : g1 6 = g 6 + 1 := by rw [hg1b]; exact tg_ord_n g 0 _
    obtain ⟨-, -, -, -, -, e6, e7, -, -⟩ := id hok1
    refine lv_aload_n hx hb dX7_gainOfMarches_25 rfl (lv_at hl 0 rfl) ?_
    refine ta_get C hP 11 inlX7 rfl rfl 4 (by decide) tw_28 rfl dX7_gainOfMarches_26 ?_
    refine ta_getN C hP 0 inlX0 rfl rfl 13 (by decide) 36 rfl rfl dX7_gainOfMarches_29 ?_
    refine lv_iload_n hx hb dX7_gainOfMarches_32 rfl (lv_at hl 1 rfl) ?_
    refine ta_aald C hP 4 2 rfl rfl (i := 0) (x := tr 5) (by omega) rfl dX7_gainOfMarches_33 ?_
    refine ta_iconst C 0 dX7_gainOfMarches_34 (by decide) ?_
    refine lv_iload hx hb dX7_gainOfMarches_35 (lv_at hl 4 rfl) ?_
    refine ta_callVv (As := [.int (nI 0), .int (nI two)]) (rest0 := []) (Wr := ([(tr 0, .inr (0, [.int (nI (t 0)), .int (nI (t 1)), .int (nI (t 2)), .int (nI (g1 0)), .int (nI (g1 1)), .int (nI (g1 2 / t 0)), .int (nI (g1 2 % t 0)), .int (nI (g1 3)), .int (nI (g1 4)), .int (nI (g1 5)), .ref (tr 1), .ref (tr 2), .ref (tr 3), .ref (tr 4)])), (tr 1, .inl (k.1 0, 36, .inl (ta_e (tg_mud g1)))), (tr 2, .inl (k.1 0, 4, .inl (ta_e (tg_wal g1)))), (tr 3, .inl (k.1 0, 2, .inl (ta_e (tg_kne g1)))), (tr 4, .inl (k.1 2, 2, .inr (.inr (.inr (.inr (ta_dr (tr 5) (tr 8))))))), (tr 8, .inr (1, [.ref (tr 9), .ref (tr 10), .int (nI (g1 7))])), (tr 9, .inl (k.1 0, 8, .inl (ta_e (X1 2)))), (tr 10, .inl (k.1 0, 8, .inl (ta_e (X1 3)))), (o 0, .inr (7, [.ref (x 0), .ref (tq 0), .ref rd, .ref (q 0), .ref (tr 0), .ref (pz 0), .ref (o 1), .ref (o 2), .ref (sz 0)]))] ++ (dyW k q t g X))) C hP hD hS (c_X1_append l D k (tr 5) (tr 6) (tr 7) (X1 0) (X1 1) (g1 6) 0 two (by omega)) 5 rfl rfl rfl [5, 6, 7] [0, 1, 2, 3, 4, 8, 9, 10, 11, 12, 13, 14, 15, 16, 17, 18, 19, 20, 21, 22] rfl rfl (by decide) (by decide) (by decide) tw_294 tw_498 tw_56 tw_292 tw_293 ⟨by decide, by decide, rfl⟩ ⟨Nat.le_of_ble_eq_true rfl, Nat.le_of_ble_eq_true rfl⟩ ⟨Nat.zero_le _, Nat.zero_le _⟩ hl.1 rfl (Nat.le_of_ble_eq_true rfl) dX7_gainOfMarches_37 (fun u10 H locs h11 hP hD hS => ?_)
    have hP : va_P D vwCl ([(tr 0, .inr (0, [.int (nI (t 0)), .int (nI (t 1)), .int (nI (t 2)), .int (nI (g1 0)), .int (nI (g1 1)), .int (nI (g1 2 / t 0)), .int (nI (g1 2 % t 0)), .int (nI (g1 3)), .int (nI (g1 4)), .int (nI (g1 5)), .ref (tr 1), .ref (tr 2), .ref (tr 3), .ref (tr 4)])), (tr 1, .inl (k.1 0, 36, .inl (ta_e (tg_mud g1)))), (tr 2, .inl (k.1 0, 4, .inl (ta_e (tg_wal g1)))), (tr 3, .inl (k.1 0, 2, .inl (ta_e (tg_kne g1)))), (tr 4, .inl (k.1 2, 2, .inr (.inr (.inr (.inr (ta_dr (tr 5) (tr 8))))))), (tr 8, .inr (1, [.ref (tr 9), .ref (tr 10), .int (nI (g1 7))])), (tr 9, .inl (k.1 0, 8, .inl (ta_e (X1 2)))), (tr 10, .inl (k.1 0, 8, .inl (ta_e (X1 3)))), (o 0, .inr (7, [.ref (x 0), .ref (tq 0), .ref rd, .ref (q 0), .ref (tr 0), .ref (pz 0), .ref (o 1), .ref (o 2), .ref (sz 0)]))] ++ ((dyW k q t g X) ++ [(tr 5, .inr (1, [.ref (tr 6), .ref (tr 7), .int (nI ((g1 6) + 1))])), (tr 6, .inl (k.1 0, 8, .inl (ta_e (ta_u (X1 0) (g1 6) 0)))), (tr 7, .inl (k.1 0, 8, .inl (ta_e (ta_u (X1 1) (g1 6) two))))])) H := hP
    have hD : va_D A ([(tr 0, .inr (0, [.int (nI (t 0)), .int (nI (t 1)), .int (nI (t 2)), .int (nI (g1 0)), .int (nI (g1 1)), .int (nI (g1 2 / t 0)), .int (nI (g1 2 % t 0)), .int (nI (g1 3)), .int (nI (g1 4)), .int (nI (g1 5)), .ref (tr 1), .ref (tr 2), .ref (tr 3), .ref (tr 4)])), (tr 1, .inl (k.1 0, 36, .inl (ta_e (tg_mud g1)))), (tr 2, .inl (k.1 0, 4, .inl (ta_e (tg_wal g1)))), (tr 3, .inl (k.1 0, 2, .inl (ta_e (tg_kne g1)))), (tr 4, .inl (k.1 2, 2, .inr (.inr (.inr (.inr (ta_dr (tr 5) (tr 8))))))), (tr 8, .inr (1, [.ref (tr 9), .ref (tr 10), .int (nI (g1 7))])), (tr 9, .inl (k.1 0, 8, .inl (ta_e (X1 2)))), (tr 10, .inl (k.1 0, 8, .inl (ta_e (X1 3)))), (o 0, .inr (7, [.ref (x 0), .ref (tq 0), .ref rd, .ref (q 0), .ref (tr 0), .ref (pz 0), .ref (o 1), .ref (o 2), .ref (sz 0)]))] ++ ((dyW k q t g X) ++ [(tr 5, .inr (1, [.ref (tr 6), .ref (tr 7), .int (nI ((g1 6) + 1))])), (tr 6, .inl (k.1 0, 8, .inl (ta_e (ta_u (X1 0) (g1 6) 0)))), (tr 7, .inl (k.1 0, 8, .inl (ta_e (ta_u (X1 1) (g1 6) two))))])) := hD
    have hn8a : g1 (6 + 0) < 8 := by have e9 : g1 (6 + 0) = g1 6 := rfl; omega
    have hP : va_P D vwCl ([(tr 0, .inr (0, [.int (nI (t 0)), .int (nI (t 1)), .int (nI (t 2)), .int (nI (g1 0)), .int (nI (g1 1)), .int (nI (g1 2 / t 0)), .int (nI (g1 2 % t 0)), .int (nI (g1 3)), .int (nI (g1 4)), .int (nI (g1 5)), .ref (tr 1), .ref (tr 2), .ref (tr 3), .ref (tr 4)])), (tr 1, .inl (k.1 0, 36, .inl (ta_e (tg_mud g1)))), (tr 2, .inl (k.1 0, 4, .inl (ta_e (tg_wal g1)))), (tr 3, .inl (k.1 0, 2, .inl (ta_e (tg_kne g1)))), (tr 4, .inl (k.1 2, 2, .inr (.inr (.inr (.inr (ta_dr (tr 5) (tr 8))))))), (tr 5, .inr (1, [.ref (tr 6), .ref (tr 7), .int (nI ((g1 6) + 1))])), (tr 6, .inl (k.1 0, 8, .inl (ta_e (ta_u (X1 0) (g1 6) 0)))), (tr 7, .inl (k.1 0, 8, .inl (ta_e (ta_u (X1 1) (g1 6) two)))), (tr 8, .inr (1, [.ref (tr 9), .ref (tr 10), .int (nI (g1 7))])), (tr 9, .inl (k.1 0, 8, .inl (ta_e (X1 2)))), (tr 10, .inl (k.1 0, 8, .inl (ta_e (X1 3)))), (o 0, .inr (7, [.ref (x 0), .ref (tq 0), .ref rd, .ref (q 0), .ref (tr 0), .ref (pz 0), .ref (o 1), .ref (o 2), .ref (sz 0)]))] ++ (dyW k q t g X)) H := hP.sub [0, 1, 2, 3, 4, 20, 21, 22, 5, 6, 7, 8, 9, 10, 11, 12, 13, 14, 15, 16, 17, 18, 19] rfl
    have hD : va_D A ([(tr 0, .inr (0, [.int (nI (t 0)), .int (nI (t 1)), .int (nI (t 2)), .int (nI (g1 0)), .int (nI (g1 1)), .int (nI (g1 2 / t 0)), .int (nI (g1 2 % t 0)), .int (nI (g1 3)), .int (nI (g1 4)), .int (nI (g1 5)), .ref (tr 1), .ref (tr 2), .ref (tr 3), .ref (tr 4)])), (tr 1, .inl (k.1 0, 36, .inl (ta_e (tg_mud g1)))), (tr 2, .inl (k.1 0, 4, .inl (ta_e (tg_wal g1)))), (tr 3, .inl (k.1 0, 2, .inl (ta_e (tg_kne g1)))), (tr 4, .inl (k.1 2, 2, .inr (.inr (.inr (.inr (ta_dr (tr 5) (tr 8))))))), (tr 5, .inr (1, [.ref (tr 6), .ref (tr 7), .int (nI ((g1 6) + 1))])), (tr 6, .inl (k.1 0, 8, .inl (ta_e (ta_u (X1 0) (g1 6) 0)))), (tr 7, .inl (k.1 0, 8, .inl (ta_e (ta_u (X1 1) (g1 6) two)))), (tr 8, .inr (1, [.ref (tr 9), .ref (tr 10), .int (nI (g1 7))])), (tr 9, .inl (k.1 0, 8, .inl (ta_e (X1 2)))), (tr 10, .inl (k.1 0, 8, .inl (ta_e (X1 3)))), (o 0, .inr (7, [.ref (x 0), .ref (tq 0), .ref rd, .ref (q 0), .ref (tr 0), .ref (pz 0), .ref (o 1), .ref (o 2), .ref (sz 0)]))] ++ (dyW k q t g X)) := hD.sub [0, 1, 2, 3, 4, 20, 21, 22, 5, 6, 7, 8, 9, 10, 11, 12, 13, 14, 15, 16, 17, 18, 19] (by decide) rfl
    have hPd : va_P D vwCl (dyW k tr t (tg_ord g1 0 (10 * 0 + two)) (ta_x4 (ta_u (X1 0) (g1 6) 0) (ta_u (X1 1) (g1 6) two) (X1 2) (X1 3))) H := dy_to (q := tr) (t := t) (g := tg_ord g1 0 (10 * 0 + two)) ⟨rfl, rfl, rfl, (tg_ord_k (by omega) (by omega)).symm, (tg_ord_k (by omega) (by omega)).symm, (by rw [tg_ord_k (by omega) (by omega)]), (by rw [tg_ord_k (by omega) (by omega)]), (tg_ord_k (by omega) (by omega)).symm, (tg_ord_k (by omega) (by omega)).symm, (tg_ord_k (by omega) (by omega)).symm, (tg_ord_n g1 0 (10 * 0 + two)).symm, (tg_ord_k (by omega) (by omega)).symm⟩ (fun j hj => (tg_ord_k (by omega) (by omega)).symm) (fun j hj => (tg_ord_k (by omega) (by omega)).symm) (fun j hj => (tg_ord_k (by omega) (by omega)).symm) (hP.sub [0, 1, 2, 3, 4, 5, 6, 7, 8, 9, 10] rfl)
    have hP : va_P D vwCl ((dyW k tr t (tg_ord g1 0 (10 * 0 + two)) (ta_x4 (ta_u (X1 0) (g1 6) 0) (ta_u (X1 1) (g1 6) two) (X1 2) (X1 3))) ++ ([(o 0, .inr (7, [.ref (x 0), .ref (tq 0), .ref rd, .ref (q 0), .ref (tr 0), .ref (pz 0), .ref (o 1), .ref (o 2), .ref (sz 0)]))] ++ (dyW k q t g X))) H := ta_Pa hPd (hP.sub [11, 12, 13, 14, 15, 16, 17, 18, 19, 20, 21, 22] rfl)
    have hD : va_D A ((dyW k tr t (tg_ord g1 0 (10 * 0 + two)) (ta_x4 (ta_u (X1 0) (g1 6) 0) (ta_u (X1 1) (g1 6) two) (X1 2) (X1 3))) ++ ([(o 0, .inr (7, [.ref (x 0), .ref (tq 0), .ref rd, .ref (q 0), .ref (tr 0), .ref (pz 0), .ref (o 1), .ref (o 2), .ref (sz 0)]))] ++ (dyW k q t g X))) := ta_De hD rfl
    have hX2 : tg_X (tg_ord g1 0 (10 * 0 + two)) (ta_x4 (ta_u (X1 0) (g1 6) 0) (ta_u (X1 1) (g1 6) two) (X1 2) (X1 3)) := tg_X_ord0 (by omega) (by omega) hX1
    obtain ⟨G2, eG2⟩ : ∃ z, z = tg_ord g1 0 (10 * 0 + two) := ⟨_, rfl⟩
    obtain ⟨X2, eX2⟩ : ∃ z, z = ta_x4 (ta_u (X1 0) (g1 6) 0) (ta_u (X1 1) (g1 6) two) (X1 2) (X1 3) := ⟨_, rfl⟩
    rw [← eG2, ← eX2] at hP hD hX2
    have hG2b : G2 = tg_two g 0 one two := by rw [eG2, hg1b, show 10 * 0 + two = two by omega]; rfl
    have hokG : tg_ok t G2 := by rw [hG2b]; exact tg_ok_two hok (by decide) (show g 6 ≤ 6 by omega) ⟨by omega, by omega⟩ ⟨by omega, by omega⟩
    have hG0 : G2 0 = g 0 := by rw [hG2b]; unfold tg_two; rw [tg_ord_k (by omega) (by rw [tg_ord_n]; omega), tg_ord_k (by omega) (by omega)]
    have hv : pl_v t g 0 n one two = if tg_kc t G2 0 n = 0 then tg_kc t G2 (1 - 0) n + 1 else 0 := by rw [hG2b]; rfl
    refine ta_iconst C 0 dX7_gainOfMarches_40 (by decide) ?_
    refine lv_istore (lv' := [(5, .int (nI 0)), (0, .ref (o 0)), (1, .int (nI 0)), (2, .int (nI n)), (3, .int (nI one)), (4, .int (nI two))]) hx hb dX7_gainOfMarches_41 hl (by decide) rfl (fun ls hl => ?_)
    refine ta_iconst C 0 dX7_gainOfMarches_43 (by decide) ?_
    refine lv_istore (lv' := [(6, .int (nI 0)), (5, .int (nI 0)), (0, .ref (o 0)), (1, .int (nI 0)), (2, .int (nI n)), (3, .int (nI one)), (4, .int (nI two))]) hx hb dX7_gainOfMarches_44 hl (by decide) rfl (fun ls hl => ?_)
    have loop_46 : ∀ (N_46 : Nat) (i : Nat) (Zx : Nat → Nat → Nat), (i ≤ n) → (tg_X (tg_it t G2 i) Zx) → (tg_kc t G2 0 i = 0) → n - i < N_46 → ∀ (H : Heap) (locs : List Loc) (ls : Array Slot), va_P D vwCl ([(o 0, .inr (7, [.ref (x 0), .ref (tq 0), .ref rd, .ref (q 0), .ref (tr 0), .ref (pz 0), .ref (o 1), .ref (o 2), .ref (sz 0)]))] ++ ((dyW k q t g X) ++ (dyW k tr t (tg_it t G2 i) Zx))) H → va_D A ([(o 0, .inr (7, [.ref (x 0), .ref (tq 0), .ref rd, .ref (q 0), .ref (tr 0), .ref (pz 0), .ref (o 1), .ref (o 2), .ref (sz 0)]))] ++ ((dyW k q t g X) ++ (dyW k tr t (tg_it t G2 i) Zx))) → va_S A s.heap H locs → lv_has ls 8 [(6, .int (nI i)), (5, .int (nI (tg_kc t G2 (1 - 0) i))), (0, .ref (o 0)), (1, .int (nI 0)), (2, .int (nI n))] → W p l e ({ frames := 4, cells := 0, slots := 0, locals := 140 }) s m ([.ref (o 0), .int (nI 0), .int (nI n), .int (nI one), .int (nI two)] : List Value).toArray below meth c H locs 0 0 Q (F0 m 46 ls []) := by
      clear hP hD hS hl
      intro N_46
      induction N_46 with
      | zero =>
        intro i Zx h1 hZx hka hf_46
        exact absurd hf_46 (Nat.not_lt_zero _)
      | succ N_46 ih_46 =>
        intro i Zx h1 hZx hka hf_46 H locs ls hP hD hS hl
        refine lv_iload hx hb dX7_gainOfMarches_46 (lv_at hl 0 rfl) ?_
        refine lv_iload_n hx hb dX7_gainOfMarches_48 rfl (lv_at hl 4 rfl) ?_
        refine ta_cge C (a := i) (b := n) (tgt := 84) (by omega) (by omega) dX7_gainOfMarches_49 (by decide) (fun c12 => ?_) (fun c12 => ?_)
        · refine lv_iload hx hb dX7_gainOfMarches_84 (lv_at hl 1 rfl) ?_
          have ein : i = n := by omega
          rw [ein] at hka
          have e1 : pl_v t g 0 n one two = tg_kc t G2 (1 - 0) i + 1 := by rw [hv, if_pos hka, ein]
          exact ret (nI (tg_kc t G2 (1 - 0) i)) (t, (tg_it t G2 i), Zx) dX7_gainOfMarches_86 rfl (by rw [e1]; rfl) hP hD hS
        · refine lv_aload_n hx hb dX7_gainOfMarches_52 rfl (lv_at hl 2 rfl) ?_
          refine ta_get C hP 0 inlX7 rfl rfl 4 (by decide) tw_28 rfl dX7_gainOfMarches_53 ?_
          refine ta_callVi (As := []) (rest0 := []) (Wr := ([(o 0, .inr (7, [.ref (x 0), .ref (tq 0), .ref rd, .ref (q 0), .ref (tr 0), .ref (pz 0), .ref (o 1), .ref (o 2), .ref (sz 0)]))] ++ (dyW k q t g X))) C hP hD hS (c_X0_goMinute l D k tr t (tg_it t G2 i) Zx (tg_ok_it hokG i) (by have := tg_it_0 hokG i; omega) hZx) 12 rfl rfl rfl [12, 13, 14, 15, 16, 17, 18, 19, 20, 21, 22] [0, 1, 2, 3, 4, 5, 6, 7, 8, 9, 10, 11] rfl rfl (by decide) (by decide) (by decide) tw_443 tw_569 tw_26 tw_441 tw_442 ⟨by decide, by decide, rfl⟩ ⟨Nat.le_of_ble_eq_true rfl, Nat.le_of_ble_eq_true rfl⟩ ⟨Nat.zero_le _, Nat.zero_le _⟩ hl.1 rfl (Nat.le_of_ble_eq_true rfl) dX7_gainOfMarches_56 (fun r13 u14 H locs h15 hP hD hS => ?_)
          obtain ⟨u_16, hu0⟩ : ∃ z, z = u14 := ⟨_, rfl⟩
          subst hu0
          obtain ⟨rfl, hX17⟩ := h15
          have hP : va_P D vwCl ([(o 0, .inr (7, [.ref (x 0), .ref (tq 0), .ref rd, .ref (q 0), .ref (tr 0), .ref (pz 0), .ref (o 1), .ref (o 2), .ref (sz 0)]))] ++ ((dyW k q t g X) ++ (dyW k tr t (tg_go t (tg_it t G2 i)) u_16))) H := hP
          have hD : va_D A ([(o 0, .inr (7, [.ref (x 0), .ref (tq 0), .ref rd, .ref (q 0), .ref (tr 0), .ref (pz 0), .ref (o 1), .ref (o 2), .ref (sz 0)]))] ++ ((dyW k q t g X) ++ (dyW k tr t (tg_go t (tg_it t G2 i)) u_16))) := hD
          have hkb := tg_kn_b (tg_it t G2 i)
          have hkc := tg_kn_c (tg_it t G2 i)
          refine lv_istore (lv' := [(7, .int (nI (tg_kn (tg_it t G2 i)))), (6, .int (nI i)), (5, .int (nI (tg_kc t G2 (1 - 0) i))), (0, .ref (o 0)), (1, .int (nI 0)), (2, .int (nI n))]) hx hb dX7_gainOfMarches_59 hl (by decide) rfl (fun ls hl => ?_)
          refine lv_iload hx hb dX7_gainOfMarches_61 (lv_at hl 0 rfl) ?_
          refine lv_iload_n hx hb dX7_gainOfMarches_63 rfl (lv_at hl 4 rfl) ?_
          refine ta_cne C (a := tg_kn (tg_it t G2 i)) (b := 0) (tgt := 69) (by omega) (by omega) dX7_gainOfMarches_64 (by decide) (fun c18 => ?_) (fun c18 => ?_)
          · have hne := c18
            refine lv_iload hx hb dX7_gainOfMarches_69 (lv_at hl 0 rfl) ?_
            refine ta_iconst C 4294967295 dX7_gainOfMarches_71 (by decide) ?_
            refine ta_ceq C (a := tg_kn (tg_it t G2 i)) (b := 4294967295) (tgt := 78) (by omega) (by omega) dX7_gainOfMarches_72 (by decide) (fun c19 => ?_) (fun c19 => ?_)
            · refine lv_iinc (v := nI (i + 1)) (lv' := [(6, .int (nI (i + 1))), (7, .int (nI (tg_kn (tg_it t G2 i)))), (5, .int (nI (tg_kc t G2 (1 - 0) i))), (0, .ref (o 0)), (1, .int (nI 0)), (2, .int (nI n))]) hx hb dX7_gainOfMarches_78 hl (k := 1) rfl (ta_inc1 _) (by decide) rfl (fun ls hl => ?_)
              refine lv_goto (tgt := 46) hx hb dX7_gainOfMarches_81 (by decide) ?_
              rw [← tg_kc_n (a := 1 - 0) (by omega)] at hl
              exact ih_46 (i + 1) u_16 (by omega) hX17 (by rw [tg_kc_n hne]; exact hka) (by omega) _ _ _ hP hD hS (lv_sub hl [0, 2, 3, 4, 5] rfl)
            · refine lv_iinc (v := nI (tg_kc t G2 (1 - 0) i + 1)) (lv' := [(5, .int (nI (tg_kc t G2 (1 - 0) i + 1))), (7, .int (nI (tg_kn (tg_it t G2 i)))), (6, .int (nI i)), (0, .ref (o 0)), (1, .int (nI 0)), (2, .int (nI n))]) hx hb dX7_gainOfMarches_75 hl (k := 2) rfl (ta_inc1 _) (by decide) rfl (fun ls hl => ?_)
              refine lv_iinc (v := nI (i + 1)) (lv' := [(6, .int (nI (i + 1))), (5, .int (nI (tg_kc t G2 (1 - 0) i + 1))), (7, .int (nI (tg_kn (tg_it t G2 i)))), (0, .ref (o 0)), (1, .int (nI 0)), (2, .int (nI n))]) hx hb dX7_gainOfMarches_78 hl (k := 2) rfl (ta_inc1 _) (by decide) rfl (fun ls hl => ?_)
              refine lv_goto (tgt := 46) hx hb dX7_gainOfMarches_81 (by decide) ?_
              rw [← tg_kc_y (a := 1 - 0) (by omega)] at hl
              exact ih_46 (i + 1) u_16 (by omega) hX17 (by rw [tg_kc_n hne]; exact hka) (by omega) _ _ _ hP hD hS (lv_sub hl [0, 1, 3, 4, 5] rfl)
          · have heq := c18
            refine ta_iconst C 4294967295 dX7_gainOfMarches_67 (by decide) ?_
            have hk1 : tg_kc t G2 0 (i + 1) = tg_kc t G2 0 i + 1 := tg_kc_y heq
            have hk2 := tg_kc_m t G2 0 (i + 1) (n - (i + 1))
            rw [show i + 1 + (n - (i + 1)) = n by omega] at hk2
            have e1 : pl_v t g 0 n one two = 0 := by rw [hv, if_neg (by omega)]
            exact ret (nI 4294967295) (t, (tg_go t (tg_it t G2 i)), u_16) dX7_gainOfMarches_68 rfl (by rw [e1]; rfl) hP hD hS
    exact loop_46 ((n - 0) + 1) 0 X2 (by omega) hX2 rfl (Nat.lt_succ_self _) _ _ _ (hP.sub [11, 12, 13, 14, 15, 16, 17, 18, 19, 20, 21, 22, 0, 1, 2, 3, 4, 5, 6, 7, 8, 9, 10] rfl) (hD.sub [11, 12, 13, 14, 15, 16, 17, 18, 19, 20, 21, 22, 0, 1, 2, 3, 4, 5, 6, 7, 8, 9, 10] (by decide) rfl) hS (lv_sub hl [0, 1, 2, 3, 4] rfl)
  · have e6a : g (6 + 1) = g 7 := rfl
    refine lv_aload_n hx hb dX7_gainOfMarches_0 rfl (lv_at hl 0 rfl) ?_
    refine ta_get C hP 0 inlX7 rfl rfl 4 (by decide) tw_28 rfl dX7_gainOfMarches_1 ?_
    refine lv_aload_n hx hb dX7_gainOfMarches_4 rfl (lv_at hl 0 rfl) ?_
    refine ta_get C hP 0 inlX7 rfl rfl 3 (by decide) tw_27 rfl dX7_gainOfMarches_5 ?_
    refine ta_callVv (As := [.ref (q 0)]) (rest0 := []) (Wr := [(o 0, .inr (7, [.ref (x 0), .ref (tq 0), .ref rd, .ref (q 0), .ref (tr 0), .ref (pz 0), .ref (o 1), .ref (o 2), .ref (sz 0)]))]) C hP hD hS (c_X0_copyFrom l D k tr tt gg XX q t g X b6 b7 hX) 12 rfl rfl rfl [12, 13, 14, 15, 16, 17, 18, 19, 20, 21, 22, 1, 2, 3, 4, 5, 6, 7, 8, 9, 10, 11] [0] rfl rfl (by decide) (by decide) (by decide) tw_434 tw_536 tw_26 tw_432 tw_433 ⟨by decide, by decide, rfl⟩ ⟨Nat.le_of_ble_eq_true rfl, Nat.le_of_ble_eq_true rfl⟩ ⟨Nat.zero_le _, Nat.zero_le _⟩ hl.1 rfl (Nat.le_of_ble_eq_true rfl) dX7_gainOfMarches_8 (fun u21 H locs h22 hP hD hS => ?_)
    obtain ⟨u_23, hu0⟩ : ∃ z, z = u21 := ⟨_, rfl⟩
    subst hu0
    have hX24 := h22
    have hP : va_P D vwCl ([(o 0, .inr (7, [.ref (x 0), .ref (tq 0), .ref rd, .ref (q 0), .ref (tr 0), .ref (pz 0), .ref (o 1), .ref (o 2), .ref (sz 0)]))] ++ ((dyW k tr t g u_23) ++ (dyW k q t g X))) H := hP
    have hD : va_D A ([(o 0, .inr (7, [.ref (x 0), .ref (tq 0), .ref rd, .ref (q 0), .ref (tr 0), .ref (pz 0), .ref (o 1), .ref (o 2), .ref (sz 0)]))] ++ ((dyW k tr t g u_23) ++ (dyW k q t g X))) := hD
    refine lv_aload_n hx hb dX7_gainOfMarches_11 rfl (lv_at hl 0 rfl) ?_
    refine ta_get C hP 0 inlX7 rfl rfl 4 (by decide) tw_28 rfl dX7_gainOfMarches_12 ?_
    refine ta_getN C hP 1 inlX0 rfl rfl 13 (by decide) 36 rfl rfl dX7_gainOfMarches_15 ?_
    refine lv_iload_n hx hb dX7_gainOfMarches_18 rfl (lv_at hl 1 rfl) ?_
    refine ta_aald C hP 5 2 rfl rfl (i := 1) (x := tr 8) (by omega) rfl dX7_gainOfMarches_19 ?_
    refine ta_iconst C 0 dX7_gainOfMarches_20 (by decide) ?_
    refine lv_iload_n hx hb dX7_gainOfMarches_21 rfl (lv_at hl 3 rfl) ?_
    refine ta_callVv (As := [.int (nI 0), .int (nI one)]) (rest0 := []) (Wr := ([(o 0, .inr (7, [.ref (x 0), .ref (tq 0), .ref rd, .ref (q 0), .ref (tr 0), .ref (pz 0), .ref (o 1), .ref (o 2), .ref (sz 0)])), (tr 0, .inr (0, [.int (nI (t 0)), .int (nI (t 1)), .int (nI (t 2)), .int (nI (g 0)), .int (nI (g 1)), .int (nI (g 2 / t 0)), .int (nI (g 2 % t 0)), .int (nI (g 3)), .int (nI (g 4)), .int (nI (g 5)), .ref (tr 1), .ref (tr 2), .ref (tr 3), .ref (tr 4)])), (tr 1, .inl (k.1 0, 36, .inl (ta_e (tg_mud g)))), (tr 2, .inl (k.1 0, 4, .inl (ta_e (tg_wal g)))), (tr 3, .inl (k.1 0, 2, .inl (ta_e (tg_kne g)))), (tr 4, .inl (k.1 2, 2, .inr (.inr (.inr (.inr (ta_dr (tr 5) (tr 8))))))), (tr 5, .inr (1, [.ref (tr 6), .ref (tr 7), .int (nI (g 6))])), (tr 6, .inl (k.1 0, 8, .inl (ta_e (u_23 0)))), (tr 7, .inl (k.1 0, 8, .inl (ta_e (u_23 1))))] ++ (dyW k q t g X))) C hP hD hS (c_X1_append l D k (tr 8) (tr 9) (tr 10) (u_23 2) (u_23 3) (g 7) 0 one (by omega)) 9 rfl rfl rfl [9, 10, 11] [0, 1, 2, 3, 4, 5, 6, 7, 8, 12, 13, 14, 15, 16, 17, 18, 19, 20, 21, 22] rfl rfl (by decide) (by decide) (by decide) tw_294 tw_498 tw_56 tw_292 tw_293 ⟨by decide, by decide, rfl⟩ ⟨Nat.le_of_ble_eq_true rfl, Nat.le_of_ble_eq_true rfl⟩ ⟨Nat.zero_le _, Nat.zero_le _⟩ hl.1 rfl (Nat.le_of_ble_eq_true rfl) dX7_gainOfMarches_22 (fun u26 H locs h27 hP hD hS => ?_)
    have hP : va_P D vwCl ([(o 0, .inr (7, [.ref (x 0), .ref (tq 0), .ref rd, .ref (q 0), .ref (tr 0), .ref (pz 0), .ref (o 1), .ref (o 2), .ref (sz 0)])), (tr 0, .inr (0, [.int (nI (t 0)), .int (nI (t 1)), .int (nI (t 2)), .int (nI (g 0)), .int (nI (g 1)), .int (nI (g 2 / t 0)), .int (nI (g 2 % t 0)), .int (nI (g 3)), .int (nI (g 4)), .int (nI (g 5)), .ref (tr 1), .ref (tr 2), .ref (tr 3), .ref (tr 4)])), (tr 1, .inl (k.1 0, 36, .inl (ta_e (tg_mud g)))), (tr 2, .inl (k.1 0, 4, .inl (ta_e (tg_wal g)))), (tr 3, .inl (k.1 0, 2, .inl (ta_e (tg_kne g)))), (tr 4, .inl (k.1 2, 2, .inr (.inr (.inr (.inr (ta_dr (tr 5) (tr 8))))))), (tr 5, .inr (1, [.ref (tr 6), .ref (tr 7), .int (nI (g 6))])), (tr 6, .inl (k.1 0, 8, .inl (ta_e (u_23 0)))), (tr 7, .inl (k.1 0, 8, .inl (ta_e (u_23 1))))] ++ ((dyW k q t g X) ++ [(tr 8, .inr (1, [.ref (tr 9), .ref (tr 10), .int (nI ((g 7) + 1))])), (tr 9, .inl (k.1 0, 8, .inl (ta_e (ta_u (u_23 2) (g 7) 0)))), (tr 10, .inl (k.1 0, 8, .inl (ta_e (ta_u (u_23 3) (g 7) one))))])) H := hP
    have hD : va_D A ([(o 0, .inr (7, [.ref (x 0), .ref (tq 0), .ref rd, .ref (q 0), .ref (tr 0), .ref (pz 0), .ref (o 1), .ref (o 2), .ref (sz 0)])), (tr 0, .inr (0, [.int (nI (t 0)), .int (nI (t 1)), .int (nI (t 2)), .int (nI (g 0)), .int (nI (g 1)), .int (nI (g 2 / t 0)), .int (nI (g 2 % t 0)), .int (nI (g 3)), .int (nI (g 4)), .int (nI (g 5)), .ref (tr 1), .ref (tr 2), .ref (tr 3), .ref (tr 4)])), (tr 1, .inl (k.1 0, 36, .inl (ta_e (tg_mud g)))), (tr 2, .inl (k.1 0, 4, .inl (ta_e (tg_wal g)))), (tr 3, .inl (k.1 0, 2, .inl (ta_e (tg_kne g)))), (tr 4, .inl (k.1 2, 2, .inr (.inr (.inr (.inr (ta_dr (tr 5) (tr 8))))))), (tr 5, .inr (1, [.ref (tr 6), .ref (tr 7), .int (nI (g 6))])), (tr 6, .inl (k.1 0, 8, .inl (ta_e (u_23 0)))), (tr 7, .inl (k.1 0, 8, .inl (ta_e (u_23 1))))] ++ ((dyW k q t g X) ++ [(tr 8, .inr (1, [.ref (tr 9), .ref (tr 10), .int (nI ((g 7) + 1))])), (tr 9, .inl (k.1 0, 8, .inl (ta_e (ta_u (u_23 2) (g 7) 0)))), (tr 10, .inl (k.1 0, 8, .inl (ta_e (ta_u (u_23 3) (g 7) one))))])) := hD
    have hn8a : g (6 + 1) < 8 := by have e9 : g (6 + 1) = g 7 := rfl; omega
    have hP : va_P D vwCl ([(tr 0, .inr (0, [.int (nI (t 0)), .int (nI (t 1)), .int (nI (t 2)), .int (nI (g 0)), .int (nI (g 1)), .int (nI (g 2 / t 0)), .int (nI (g 2 % t 0)), .int (nI (g 3)), .int (nI (g 4)), .int (nI (g 5)), .ref (tr 1), .ref (tr 2), .ref (tr 3), .ref (tr 4)])), (tr 1, .inl (k.1 0, 36, .inl (ta_e (tg_mud g)))), (tr 2, .inl (k.1 0, 4, .inl (ta_e (tg_wal g)))), (tr 3, .inl (k.1 0, 2, .inl (ta_e (tg_kne g)))), (tr 4, .inl (k.1 2, 2, .inr (.inr (.inr (.inr (ta_dr (tr 5) (tr 8))))))), (tr 5, .inr (1, [.ref (tr 6), .ref (tr 7), .int (nI (g 6))])), (tr 6, .inl (k.1 0, 8, .inl (ta_e (u_23 0)))), (tr 7, .inl (k.1 0, 8, .inl (ta_e (u_23 1)))), (tr 8, .inr (1, [.ref (tr 9), .ref (tr 10), .int (nI ((g 7) + 1))])), (tr 9, .inl (k.1 0, 8, .inl (ta_e (ta_u (u_23 2) (g 7) 0)))), (tr 10, .inl (k.1 0, 8, .inl (ta_e (ta_u (u_23 3) (g 7) one)))), (o 0, .inr (7, [.ref (x 0), .ref (tq 0), .ref rd, .ref (q 0), .ref (tr 0), .ref (pz 0), .ref (o 1), .ref (o 2), .ref (sz 0)]))] ++ (dyW k q t g X)) H := hP.sub [1, 2, 3, 4, 5, 6, 7, 8, 20, 21, 22, 0, 9, 10, 11, 12, 13, 14, 15, 16, 17, 18, 19] rfl
    have hD : va_D A ([(tr 0, .inr (0, [.int (nI (t 0)), .int (nI (t 1)), .int (nI (t 2)), .int (nI (g 0)), .int (nI (g 1)), .int (nI (g 2 / t 0)), .int (nI (g 2 % t 0)), .int (nI (g 3)), .int (nI (g 4)), .int (nI (g 5)), .ref (tr 1), .ref (tr 2), .ref (tr 3), .ref (tr 4)])), (tr 1, .inl (k.1 0, 36, .inl (ta_e (tg_mud g)))), (tr 2, .inl (k.1 0, 4, .inl (ta_e (tg_wal g)))), (tr 3, .inl (k.1 0, 2, .inl (ta_e (tg_kne g)))), (tr 4, .inl (k.1 2, 2, .inr (.inr (.inr (.inr (ta_dr (tr 5) (tr 8))))))), (tr 5, .inr (1, [.ref (tr 6), .ref (tr 7), .int (nI (g 6))])), (tr 6, .inl (k.1 0, 8, .inl (ta_e (u_23 0)))), (tr 7, .inl (k.1 0, 8, .inl (ta_e (u_23 1)))), (tr 8, .inr (1, [.ref (tr 9), .ref (tr 10), .int (nI ((g 7) + 1))])), (tr 9, .inl (k.1 0, 8, .inl (ta_e (ta_u (u_23 2) (g 7) 0)))), (tr 10, .inl (k.1 0, 8, .inl (ta_e (ta_u (u_23 3) (g 7) one)))), (o 0, .inr (7, [.ref (x 0), .ref (tq 0), .ref rd, .ref (q 0), .ref (tr 0), .ref (pz 0), .ref (o 1), .ref (o 2), .ref (sz 0)]))] ++ (dyW k q t g X)) := hD.sub [1, 2, 3, 4, 5, 6, 7, 8, 20, 21, 22, 0, 9, 10, 11, 12, 13, 14, 15, 16, 17, 18, 19] (by decide) rfl
    have hPd : va_P D vwCl (dyW k tr t (tg_ord g 1 (10 * 0 + one)) (ta_x4 (u_23 0) (u_23 1) (ta_u (u_23 2) (g 7) 0) (ta_u (u_23 3) (g 7) one))) H := dy_to (q := tr) (t := t) (g := tg_ord g 1 (10 * 0 + one)) ⟨rfl, rfl, rfl, (tg_ord_k (by omega) (by omega)).symm, (tg_ord_k (by omega) (by omega)).symm, (by rw [tg_ord_k (by omega) (by omega)]), (by rw [tg_ord_k (by omega) (by omega)]), (tg_ord_k (by omega) (by omega)).symm, (tg_ord_k (by omega) (by omega)).symm, (tg_ord_k (by omega) (by omega)).symm, (tg_ord_k (by omega) (by omega)).symm, (tg_ord_n g 1 (10 * 0 + one)).symm⟩ (fun j hj => (tg_ord_k (by omega) (by omega)).symm) (fun j hj => (tg_ord_k (by omega) (by omega)).symm) (fun j hj => (tg_ord_k (by omega) (by omega)).symm) (hP.sub [0, 1, 2, 3, 4, 5, 6, 7, 8, 9, 10] rfl)
    have hP : va_P D vwCl ((dyW k tr t (tg_ord g 1 (10 * 0 + one)) (ta_x4 (u_23 0) (u_23 1) (ta_u (u_23 2) (g 7) 0) (ta_u (u_23 3) (g 7) one))) ++ ([(o 0, .inr (7, [.ref (x 0), .ref (tq 0), .ref rd, .ref (q 0), .ref (tr 0), .ref (pz 0), .ref (o 1), .ref (o 2), .ref (sz 0)]))] ++ (dyW k q t g X))) H := ta_Pa hPd (hP.sub [11, 12, 13, 14, 15, 16, 17, 18, 19, 20, 21, 22] rfl)
    have hD : va_D A ((dyW k tr t (tg_ord g 1 (10 * 0 + one)) (ta_x4 (u_23 0) (u_23 1) (ta_u (u_23 2) (g 7) 0) (ta_u (u_23 3) (g 7) one))) ++ ([(o 0, .inr (7, [.ref (x 0), .ref (tq 0), .ref rd, .ref (q 0), .ref (tr 0), .ref (pz 0), .ref (o 1), .ref (o 2), .ref (sz 0)]))] ++ (dyW k q t g X))) := ta_De hD rfl
    have hX1 : tg_X (tg_ord g 1 (10 * 0 + one)) (ta_x4 (u_23 0) (u_23 1) (ta_u (u_23 2) (g 7) 0) (ta_u (u_23 3) (g 7) one)) := tg_X_ord1 b6 (by omega) (by omega) hX24
    obtain ⟨g1, eg1⟩ : ∃ z, z = tg_ord g 1 (10 * 0 + one) := ⟨_, rfl⟩
    obtain ⟨X1, eX1⟩ : ∃ z, z = ta_x4 (u_23 0) (u_23 1) (ta_u (u_23 2) (g 7) 0) (ta_u (u_23 3) (g 7) one) := ⟨_, rfl⟩
    rw [← eg1, ← eX1] at hP hD hX1
    have hg1b : g1 = tg_ord g 1 one := by rw [eg1, show 10 * 0 + one = one by omega]
    have hok1 : tg_ok t g1 := by rw [hg1b]; exact tg_ok_ord hok (by decide) (show g 7 < 8 by omega) ⟨by omega, by omega⟩
    have en1 : g1 7 = g 7 + 1 := by rw [hg1b]; exact tg_ord_n g 1 _
    obtain ⟨-, -, -, -, -, e6, e7, -, -⟩ := id hok1
    refine lv_aload_n hx hb dX7_gainOfMarches_25 rfl (lv_at hl 0 rfl) ?_
    refine ta_get C hP 11 inlX7 rfl rfl 4 (by decide) tw_28 rfl dX7_gainOfMarches_26 ?_
    refine ta_getN C hP 0 inlX0 rfl rfl 13 (by decide) 36 rfl rfl dX7_gainOfMarches_29 ?_
    refine lv_iload_n hx hb dX7_gainOfMarches_32 rfl (lv_at hl 1 rfl) ?_
    refine ta_aald C hP 4 2 rfl rfl (i := 1) (x := tr 8) (by omega) rfl dX7_gainOfMarches_33 ?_
    refine ta_iconst C 0 dX7_gainOfMarches_34 (by decide) ?_
    refine lv_iload hx hb dX7_gainOfMarches_35 (lv_at hl 4 rfl) ?_
    refine ta_callVv (As := [.int (nI 0), .int (nI two)]) (rest0 := []) (Wr := ([(tr 0, .inr (0, [.int (nI (t 0)), .int (nI (t 1)), .int (nI (t 2)), .int (nI (g1 0)), .int (nI (g1 1)), .int (nI (g1 2 / t 0)), .int (nI (g1 2 % t 0)), .int (nI (g1 3)), .int (nI (g1 4)), .int (nI (g1 5)), .ref (tr 1), .ref (tr 2), .ref (tr 3), .ref (tr 4)])), (tr 1, .inl (k.1 0, 36, .inl (ta_e (tg_mud g1)))), (tr 2, .inl (k.1 0, 4, .inl (ta_e (tg_wal g1)))), (tr 3, .inl (k.1 0, 2, .inl (ta_e (tg_kne g1)))), (tr 4, .inl (k.1 2, 2, .inr (.inr (.inr (.inr (ta_dr (tr 5) (tr 8))))))), (tr 5, .inr (1, [.ref (tr 6), .ref (tr 7), .int (nI (g1 6))])), (tr 6, .inl (k.1 0, 8, .inl (ta_e (X1 0)))), (tr 7, .inl (k.1 0, 8, .inl (ta_e (X1 1)))), (o 0, .inr (7, [.ref (x 0), .ref (tq 0), .ref rd, .ref (q 0), .ref (tr 0), .ref (pz 0), .ref (o 1), .ref (o 2), .ref (sz 0)]))] ++ (dyW k q t g X))) C hP hD hS (c_X1_append l D k (tr 8) (tr 9) (tr 10) (X1 2) (X1 3) (g1 7) 0 two (by omega)) 8 rfl rfl rfl [8, 9, 10] [0, 1, 2, 3, 4, 5, 6, 7, 11, 12, 13, 14, 15, 16, 17, 18, 19, 20, 21, 22] rfl rfl (by decide) (by decide) (by decide) tw_294 tw_498 tw_56 tw_292 tw_293 ⟨by decide, by decide, rfl⟩ ⟨Nat.le_of_ble_eq_true rfl, Nat.le_of_ble_eq_true rfl⟩ ⟨Nat.zero_le _, Nat.zero_le _⟩ hl.1 rfl (Nat.le_of_ble_eq_true rfl) dX7_gainOfMarches_37 (fun u29 H locs h30 hP hD hS => ?_)
    have hP : va_P D vwCl ([(tr 0, .inr (0, [.int (nI (t 0)), .int (nI (t 1)), .int (nI (t 2)), .int (nI (g1 0)), .int (nI (g1 1)), .int (nI (g1 2 / t 0)), .int (nI (g1 2 % t 0)), .int (nI (g1 3)), .int (nI (g1 4)), .int (nI (g1 5)), .ref (tr 1), .ref (tr 2), .ref (tr 3), .ref (tr 4)])), (tr 1, .inl (k.1 0, 36, .inl (ta_e (tg_mud g1)))), (tr 2, .inl (k.1 0, 4, .inl (ta_e (tg_wal g1)))), (tr 3, .inl (k.1 0, 2, .inl (ta_e (tg_kne g1)))), (tr 4, .inl (k.1 2, 2, .inr (.inr (.inr (.inr (ta_dr (tr 5) (tr 8))))))), (tr 5, .inr (1, [.ref (tr 6), .ref (tr 7), .int (nI (g1 6))])), (tr 6, .inl (k.1 0, 8, .inl (ta_e (X1 0)))), (tr 7, .inl (k.1 0, 8, .inl (ta_e (X1 1)))), (o 0, .inr (7, [.ref (x 0), .ref (tq 0), .ref rd, .ref (q 0), .ref (tr 0), .ref (pz 0), .ref (o 1), .ref (o 2), .ref (sz 0)]))] ++ ((dyW k q t g X) ++ [(tr 8, .inr (1, [.ref (tr 9), .ref (tr 10), .int (nI ((g1 7) + 1))])), (tr 9, .inl (k.1 0, 8, .inl (ta_e (ta_u (X1 2) (g1 7) 0)))), (tr 10, .inl (k.1 0, 8, .inl (ta_e (ta_u (X1 3) (g1 7) two))))])) H := hP
    have hD : va_D A ([(tr 0, .inr (0, [.int (nI (t 0)), .int (nI (t 1)), .int (nI (t 2)), .int (nI (g1 0)), .int (nI (g1 1)), .int (nI (g1 2 / t 0)), .int (nI (g1 2 % t 0)), .int (nI (g1 3)), .int (nI (g1 4)), .int (nI (g1 5)), .ref (tr 1), .ref (tr 2), .ref (tr 3), .ref (tr 4)])), (tr 1, .inl (k.1 0, 36, .inl (ta_e (tg_mud g1)))), (tr 2, .inl (k.1 0, 4, .inl (ta_e (tg_wal g1)))), (tr 3, .inl (k.1 0, 2, .inl (ta_e (tg_kne g1)))), (tr 4, .inl (k.1 2, 2, .inr (.inr (.inr (.inr (ta_dr (tr 5) (tr 8))))))), (tr 5, .inr (1, [.ref (tr 6), .ref (tr 7), .int (nI (g1 6))])), (tr 6, .inl (k.1 0, 8, .inl (ta_e (X1 0)))), (tr 7, .inl (k.1 0, 8, .inl (ta_e (X1 1)))), (o 0, .inr (7, [.ref (x 0), .ref (tq 0), .ref rd, .ref (q 0), .ref (tr 0), .ref (pz 0), .ref (o 1), .ref (o 2), .ref (sz 0)]))] ++ ((dyW k q t g X) ++ [(tr 8, .inr (1, [.ref (tr 9), .ref (tr 10), .int (nI ((g1 7) + 1))])), (tr 9, .inl (k.1 0, 8, .inl (ta_e (ta_u (X1 2) (g1 7) 0)))), (tr 10, .inl (k.1 0, 8, .inl (ta_e (ta_u (X1 3) (g1 7) two))))])) := hD
    have hn8a : g1 (6 + 1) < 8 := by have e9 : g1 (6 + 1) = g1 7 := rfl; omega
    have hP : va_P D vwCl ([(tr 0, .inr (0, [.int (nI (t 0)), .int (nI (t 1)), .int (nI (t 2)), .int (nI (g1 0)), .int (nI (g1 1)), .int (nI (g1 2 / t 0)), .int (nI (g1 2 % t 0)), .int (nI (g1 3)), .int (nI (g1 4)), .int (nI (g1 5)), .ref (tr 1), .ref (tr 2), .ref (tr 3), .ref (tr 4)])), (tr 1, .inl (k.1 0, 36, .inl (ta_e (tg_mud g1)))), (tr 2, .inl (k.1 0, 4, .inl (ta_e (tg_wal g1)))), (tr 3, .inl (k.1 0, 2, .inl (ta_e (tg_kne g1)))), (tr 4, .inl (k.1 2, 2, .inr (.inr (.inr (.inr (ta_dr (tr 5) (tr 8))))))), (tr 5, .inr (1, [.ref (tr 6), .ref (tr 7), .int (nI (g1 6))])), (tr 6, .inl (k.1 0, 8, .inl (ta_e (X1 0)))), (tr 7, .inl (k.1 0, 8, .inl (ta_e (X1 1)))), (tr 8, .inr (1, [.ref (tr 9), .ref (tr 10), .int (nI ((g1 7) + 1))])), (tr 9, .inl (k.1 0, 8, .inl (ta_e (ta_u (X1 2) (g1 7) 0)))), (tr 10, .inl (k.1 0, 8, .inl (ta_e (ta_u (X1 3) (g1 7) two)))), (o 0, .inr (7, [.ref (x 0), .ref (tq 0), .ref rd, .ref (q 0), .ref (tr 0), .ref (pz 0), .ref (o 1), .ref (o 2), .ref (sz 0)]))] ++ (dyW k q t g X)) H := hP.sub [0, 1, 2, 3, 4, 5, 6, 7, 20, 21, 22, 8, 9, 10, 11, 12, 13, 14, 15, 16, 17, 18, 19] rfl
    have hD : va_D A ([(tr 0, .inr (0, [.int (nI (t 0)), .int (nI (t 1)), .int (nI (t 2)), .int (nI (g1 0)), .int (nI (g1 1)), .int (nI (g1 2 / t 0)), .int (nI (g1 2 % t 0)), .int (nI (g1 3)), .int (nI (g1 4)), .int (nI (g1 5)), .ref (tr 1), .ref (tr 2), .ref (tr 3), .ref (tr 4)])), (tr 1, .inl (k.1 0, 36, .inl (ta_e (tg_mud g1)))), (tr 2, .inl (k.1 0, 4, .inl (ta_e (tg_wal g1)))), (tr 3, .inl (k.1 0, 2, .inl (ta_e (tg_kne g1)))), (tr 4, .inl (k.1 2, 2, .inr (.inr (.inr (.inr (ta_dr (tr 5) (tr 8))))))), (tr 5, .inr (1, [.ref (tr 6), .ref (tr 7), .int (nI (g1 6))])), (tr 6, .inl (k.1 0, 8, .inl (ta_e (X1 0)))), (tr 7, .inl (k.1 0, 8, .inl (ta_e (X1 1)))), (tr 8, .inr (1, [.ref (tr 9), .ref (tr 10), .int (nI ((g1 7) + 1))])), (tr 9, .inl (k.1 0, 8, .inl (ta_e (ta_u (X1 2) (g1 7) 0)))), (tr 10, .inl (k.1 0, 8, .inl (ta_e (ta_u (X1 3) (g1 7) two)))), (o 0, .inr (7, [.ref (x 0), .ref (tq 0), .ref rd, .ref (q 0), .ref (tr 0), .ref (pz 0), .ref (o 1), .ref (o 2), .ref (sz 0)]))] ++ (dyW k q t g X)) := hD.sub [0, 1, 2, 3, 4, 5, 6, 7, 20, 21, 22, 8, 9, 10, 11, 12, 13, 14, 15, 16, 17, 18, 19] (by decide) rfl
    have hPd : va_P D vwCl (dyW k tr t (tg_ord g1 1 (10 * 0 + two)) (ta_x4 (X1 0) (X1 1) (ta_u (X1 2) (g1 7) 0) (ta_u (X1 3) (g1 7) two))) H := dy_to (q := tr) (t := t) (g := tg_ord g1 1 (10 * 0 + two)) ⟨rfl, rfl, rfl, (tg_ord_k (by omega) (by omega)).symm, (tg_ord_k (by omega) (by omega)).symm, (by rw [tg_ord_k (by omega) (by omega)]), (by rw [tg_ord_k (by omega) (by omega)]), (tg_ord_k (by omega) (by omega)).symm, (tg_ord_k (by omega) (by omega)).symm, (tg_ord_k (by omega) (by omega)).symm, (tg_ord_k (by omega) (by omega)).symm, (tg_ord_n g1 1 (10 * 0 + two)).symm⟩ (fun j hj => (tg_ord_k (by omega) (by omega)).symm) (fun j hj => (tg_ord_k (by omega) (by omega)).symm) (fun j hj => (tg_ord_k (by omega) (by omega)).symm) (hP.sub [0, 1, 2, 3, 4, 5, 6, 7, 8, 9, 10] rfl)
    have hP : va_P D vwCl ((dyW k tr t (tg_ord g1 1 (10 * 0 + two)) (ta_x4 (X1 0) (X1 1) (ta_u (X1 2) (g1 7) 0) (ta_u (X1 3) (g1 7) two))) ++ ([(o 0, .inr (7, [.ref (x 0), .ref (tq 0), .ref rd, .ref (q 0), .ref (tr 0), .ref (pz 0), .ref (o 1), .ref (o 2), .ref (sz 0)]))] ++ (dyW k q t g X))) H := ta_Pa hPd (hP.sub [11, 12, 13, 14, 15, 16, 17, 18, 19, 20, 21, 22] rfl)
    have hD : va_D A ((dyW k tr t (tg_ord g1 1 (10 * 0 + two)) (ta_x4 (X1 0) (X1 1) (ta_u (X1 2) (g1 7) 0) (ta_u (X1 3) (g1 7) two))) ++ ([(o 0, .inr (7, [.ref (x 0), .ref (tq 0), .ref rd, .ref (q 0), .ref (tr 0), .ref (pz 0), .ref (o 1), .ref (o 2), .ref (sz 0)]))] ++ (dyW k q t g X))) := ta_De hD rfl
    have hX2 : tg_X (tg_ord g1 1 (10 * 0 + two)) (ta_x4 (X1 0) (X1 1) (ta_u (X1 2) (g1 7) 0) (ta_u (X1 3) (g1 7) two)) := tg_X_ord1 e6 (by omega) (by omega) hX1
    obtain ⟨G2, eG2⟩ : ∃ z, z = tg_ord g1 1 (10 * 0 + two) := ⟨_, rfl⟩
    obtain ⟨X2, eX2⟩ : ∃ z, z = ta_x4 (X1 0) (X1 1) (ta_u (X1 2) (g1 7) 0) (ta_u (X1 3) (g1 7) two) := ⟨_, rfl⟩
    rw [← eG2, ← eX2] at hP hD hX2
    have hG2b : G2 = tg_two g 1 one two := by rw [eG2, hg1b, show 10 * 0 + two = two by omega]; rfl
    have hokG : tg_ok t G2 := by rw [hG2b]; exact tg_ok_two hok (by decide) (show g 7 ≤ 6 by omega) ⟨by omega, by omega⟩ ⟨by omega, by omega⟩
    have hG0 : G2 0 = g 0 := by rw [hG2b]; unfold tg_two; rw [tg_ord_k (by omega) (by rw [tg_ord_n]; omega), tg_ord_k (by omega) (by omega)]
    have hv : pl_v t g 1 n one two = if tg_kc t G2 1 n = 0 then tg_kc t G2 (1 - 1) n + 1 else 0 := by rw [hG2b]; rfl
    refine ta_iconst C 0 dX7_gainOfMarches_40 (by decide) ?_
    refine lv_istore (lv' := [(5, .int (nI 0)), (0, .ref (o 0)), (1, .int (nI 1)), (2, .int (nI n)), (3, .int (nI one)), (4, .int (nI two))]) hx hb dX7_gainOfMarches_41 hl (by decide) rfl (fun ls hl => ?_)
    refine ta_iconst C 0 dX7_gainOfMarches_43 (by decide) ?_
    refine lv_istore (lv' := [(6, .int (nI 0)), (5, .int (nI 0)), (0, .ref (o 0)), (1, .int (nI 1)), (2, .int (nI n)), (3, .int (nI one)), (4, .int (nI two))]) hx hb dX7_gainOfMarches_44 hl (by decide) rfl (fun ls hl => ?_)
    have loop_46 : ∀ (N_46 : Nat) (i : Nat) (Zx : Nat → Nat → Nat), (i ≤ n) → (tg_X (tg_it t G2 i) Zx) → (tg_kc t G2 1 i = 0) → n - i < N_46 → ∀ (H : Heap) (locs : List Loc) (ls : Array Slot), va_P D vwCl ([(o 0, .inr (7, [.ref (x 0), .ref (tq 0), .ref rd, .ref (q 0), .ref (tr 0), .ref (pz 0), .ref (o 1), .ref (o 2), .ref (sz 0)]))] ++ ((dyW k q t g X) ++ (dyW k tr t (tg_it t G2 i) Zx))) H → va_D A ([(o 0, .inr (7, [.ref (x 0), .ref (tq 0), .ref rd, .ref (q 0), .ref (tr 0), .ref (pz 0), .ref (o 1), .ref (o 2), .ref (sz 0)]))] ++ ((dyW k q t g X) ++ (dyW k tr t (tg_it t G2 i) Zx))) → va_S A s.heap H locs → lv_has ls 8 [(6, .int (nI i)), (5, .int (nI (tg_kc t G2 (1 - 1) i))), (0, .ref (o 0)), (1, .int (nI 1)), (2, .int (nI n))] → W p l e ({ frames := 4, cells := 0, slots := 0, locals := 140 }) s m ([.ref (o 0), .int (nI 1), .int (nI n), .int (nI one), .int (nI two)] : List Value).toArray below meth c H locs 0 0 Q (F0 m 46 ls []) := by
      clear hP hD hS hl
      intro N_46
      induction N_46 with
      | zero =>
        intro i Zx h1 hZx hka hf_46
        exact absurd hf_46 (Nat.not_lt_zero _)
      | succ N_46 ih_46 =>
        intro i Zx h1 hZx hka hf_46 H locs ls hP hD hS hl
        refine lv_iload hx hb dX7_gainOfMarches_46 (lv_at hl 0 rfl) ?_
        refine lv_iload_n hx hb dX7_gainOfMarches_48 rfl (lv_at hl 4 rfl) ?_
        refine ta_cge C (a := i) (b := n) (tgt := 84) (by omega) (by omega) dX7_gainOfMarches_49 (by decide) (fun c31 => ?_) (fun c31 => ?_)
        · refine lv_iload hx hb dX7_gainOfMarches_84 (lv_at hl 1 rfl) ?_
          have ein : i = n := by omega
          rw [ein] at hka
          have e1 : pl_v t g 1 n one two = tg_kc t G2 (1 - 1) i + 1 := by rw [hv, if_pos hka, ein]
          exact ret (nI (tg_kc t G2 (1 - 1) i)) (t, (tg_it t G2 i), Zx) dX7_gainOfMarches_86 rfl (by rw [e1]; rfl) hP hD hS
        · refine lv_aload_n hx hb dX7_gainOfMarches_52 rfl (lv_at hl 2 rfl) ?_
          refine ta_get C hP 0 inlX7 rfl rfl 4 (by decide) tw_28 rfl dX7_gainOfMarches_53 ?_
          refine ta_callVi (As := []) (rest0 := []) (Wr := ([(o 0, .inr (7, [.ref (x 0), .ref (tq 0), .ref rd, .ref (q 0), .ref (tr 0), .ref (pz 0), .ref (o 1), .ref (o 2), .ref (sz 0)]))] ++ (dyW k q t g X))) C hP hD hS (c_X0_goMinute l D k tr t (tg_it t G2 i) Zx (tg_ok_it hokG i) (by have := tg_it_0 hokG i; omega) hZx) 12 rfl rfl rfl [12, 13, 14, 15, 16, 17, 18, 19, 20, 21, 22] [0, 1, 2, 3, 4, 5, 6, 7, 8, 9, 10, 11] rfl rfl (by decide) (by decide) (by decide) tw_443 tw_569 tw_26 tw_441 tw_442 ⟨by decide, by decide, rfl⟩ ⟨Nat.le_of_ble_eq_true rfl, Nat.le_of_ble_eq_true rfl⟩ ⟨Nat.zero_le _, Nat.zero_le _⟩ hl.1 rfl (Nat.le_of_ble_eq_true rfl) dX7_gainOfMarches_56 (fun r32 u33 H locs h34 hP hD hS => ?_)
          obtain ⟨u_35, hu0⟩ : ∃ z, z = u33 := ⟨_, rfl⟩
          subst hu0
          obtain ⟨rfl, hX36⟩ := h34
          have hP : va_P D vwCl ([(o 0, .inr (7, [.ref (x 0), .ref (tq 0), .ref rd, .ref (q 0), .ref (tr 0), .ref (pz 0), .ref (o 1), .ref (o 2), .ref (sz 0)]))] ++ ((dyW k q t g X) ++ (dyW k tr t (tg_go t (tg_it t G2 i)) u_35))) H := hP
          have hD : va_D A ([(o 0, .inr (7, [.ref (x 0), .ref (tq 0), .ref rd, .ref (q 0), .ref (tr 0), .ref (pz 0), .ref (o 1), .ref (o 2), .ref (sz 0)]))] ++ ((dyW k q t g X) ++ (dyW k tr t (tg_go t (tg_it t G2 i)) u_35))) := hD
          have hkb := tg_kn_b (tg_it t G2 i)
          have hkc := tg_kn_c (tg_it t G2 i)
          refine lv_istore (lv' := [(7, .int (nI (tg_kn (tg_it t G2 i)))), (6, .int (nI i)), (5, .int (nI (tg_kc t G2 (1 - 1) i))), (0, .ref (o 0)), (1, .int (nI 1)), (2, .int (nI n))]) hx hb dX7_gainOfMarches_59 hl (by decide) rfl (fun ls hl => ?_)
          refine lv_iload hx hb dX7_gainOfMarches_61 (lv_at hl 0 rfl) ?_
          refine lv_iload_n hx hb dX7_gainOfMarches_63 rfl (lv_at hl 4 rfl) ?_
          refine ta_cne C (a := tg_kn (tg_it t G2 i)) (b := 1) (tgt := 69) (by omega) (by omega) dX7_gainOfMarches_64 (by decide) (fun c37 => ?_) (fun c37 => ?_)
          · have hne := c37
            refine lv_iload hx hb dX7_gainOfMarches_69 (lv_at hl 0 rfl) ?_
            refine ta_iconst C 4294967295 dX7_gainOfMarches_71 (by decide) ?_
            refine ta_ceq C (a := tg_kn (tg_it t G2 i)) (b := 4294967295) (tgt := 78) (by omega) (by omega) dX7_gainOfMarches_72 (by decide) (fun c38 => ?_) (fun c38 => ?_)
            · refine lv_iinc (v := nI (i + 1)) (lv' := [(6, .int (nI (i + 1))), (7, .int (nI (tg_kn (tg_it t G2 i)))), (5, .int (nI (tg_kc t G2 (1 - 1) i))), (0, .ref (o 0)), (1, .int (nI 1)), (2, .int (nI n))]) hx hb dX7_gainOfMarches_78 hl (k := 1) rfl (ta_inc1 _) (by decide) rfl (fun ls hl => ?_)
              refine lv_goto (tgt := 46) hx hb dX7_gainOfMarches_81 (by decide) ?_
              rw [← tg_kc_n (a := 1 - 1) (by omega)] at hl
              exact ih_46 (i + 1) u_35 (by omega) hX36 (by rw [tg_kc_n hne]; exact hka) (by omega) _ _ _ hP hD hS (lv_sub hl [0, 2, 3, 4, 5] rfl)
            · refine lv_iinc (v := nI (tg_kc t G2 (1 - 1) i + 1)) (lv' := [(5, .int (nI (tg_kc t G2 (1 - 1) i + 1))), (7, .int (nI (tg_kn (tg_it t G2 i)))), (6, .int (nI i)), (0, .ref (o 0)), (1, .int (nI 1)), (2, .int (nI n))]) hx hb dX7_gainOfMarches_75 hl (k := 2) rfl (ta_inc1 _) (by decide) rfl (fun ls hl => ?_)
              refine lv_iinc (v := nI (i + 1)) (lv' := [(6, .int (nI (i + 1))), (5, .int (nI (tg_kc t G2 (1 - 1) i + 1))), (7, .int (nI (tg_kn (tg_it t G2 i)))), (0, .ref (o 0)), (1, .int (nI 1)), (2, .int (nI n))]) hx hb dX7_gainOfMarches_78 hl (k := 2) rfl (ta_inc1 _) (by decide) rfl (fun ls hl => ?_)
              refine lv_goto (tgt := 46) hx hb dX7_gainOfMarches_81 (by decide) ?_
              rw [← tg_kc_y (a := 1 - 1) (by omega)] at hl
              exact ih_46 (i + 1) u_35 (by omega) hX36 (by rw [tg_kc_n hne]; exact hka) (by omega) _ _ _ hP hD hS (lv_sub hl [0, 1, 3, 4, 5] rfl)
          · have heq := c37
            refine ta_iconst C 4294967295 dX7_gainOfMarches_67 (by decide) ?_
            have hk1 : tg_kc t G2 1 (i + 1) = tg_kc t G2 1 i + 1 := tg_kc_y heq
            have hk2 := tg_kc_m t G2 1 (i + 1) (n - (i + 1))
            rw [show i + 1 + (n - (i + 1)) = n by omega] at hk2
            have e1 : pl_v t g 1 n one two = 0 := by rw [hv, if_neg (by omega)]
            exact ret (nI 4294967295) (t, (tg_go t (tg_it t G2 i)), u_35) dX7_gainOfMarches_68 rfl (by rw [e1]; rfl) hP hD hS
    exact loop_46 ((n - 0) + 1) 0 X2 (by omega) hX2 rfl (Nat.lt_succ_self _) _ _ _ (hP.sub [11, 12, 13, 14, 15, 16, 17, 18, 19, 20, 21, 22, 0, 1, 2, 3, 4, 5, 6, 7, 8, 9, 10] rfl) (hD.sub [11, 12, 13, 14, 15, 16, 17, 18, 19, 20, 21, 22, 0, 1, 2, 3, 4, 5, 6, 7, 8, 9, 10] (by decide) rfl) hS (lv_sub hl [0, 1, 2, 3, 4] rfl)

set_option maxHeartbeats 4000000 in
set_option maxRecDepth 100000 in
theorem c_X7_plot (l : Launch) (D : va_G) (k : ta_C) (o : Nat → Nat) (x : Nat → Nat) (tq : Nat → Nat) (rd : Nat) (q : Nat → Nat) (tr : Nat → Nat) (pz : Nat → Nat) (sz : Nat → Nat) (t : Nat → Nat) (g : Nat → Nat) (X : Nat → Nat → Nat) (tt : Nat → Nat) (gg : Nat → Nat) (XX : Nat → Nat → Nat) (a : Nat) (n : Nat) (w : Nat) (hok : tg_ok t g) (hh0 : g 0 < 1000000) (hX : tg_X g X) (wa : a < 4294967296) (wn : n < 4294967296) (ww : w < 4294967296) : ta_Mi (S := (Nat → Nat) × (Nat → Nat) × (Nat → Nat → Nat)) l D k yX7_plot cX7_plot 10 .int 5 180 [.ref (o 0), .int (nI a), .int (nI n), .int (nI w)] ([(o 0, .inr (7, [.ref (x 0), .ref (tq 0), .ref rd, .ref (q 0), .ref (tr 0), .ref (pz 0), .ref (o 1), .ref (o 2), .ref (sz 0)]))] ++ ((dyW k q t g X) ++ (dyW k tr tt gg XX))) (fun r _ => ∃ v, pl_R t g a n w v ∧ r = nI v) (fun u => ([(o 0, .inr (7, [.ref (x 0), .ref (tq 0), .ref rd, .ref (q 0), .ref (tr 0), .ref (pz 0), .ref (o 1), .ref (o 2), .ref (sz 0)]))] ++ ((dyW k q t g X) ++ (dyW k tr u.1 u.2.1 u.2.2)))) := by
  refine ta_enter_i (by decide) (Nat.le_of_ble_eq_true rfl) ?_
  intro p e s m below meth c A ls Q C ret hP hD hS hl
  have C : ta_At p l D k s m ([.ref (o 0), .int (nI a), .int (nI n), .int (nI w)] : List Value).toArray c RX7 cX7_plot 10 A := C
  have hx := C.1.1
  have hb := C.1.2.1
  have hl : lv_has ls 10 [(0, .ref (o 0)), (1, .int (nI a)), (2, .int (nI n)), (3, .int (nI w))] := hl
  obtain ⟨H, hH⟩ : ∃ H, H = s.heap := ⟨_, rfl⟩
  obtain ⟨locs, hlocs⟩ : ∃ q : List Loc, q = [] := ⟨_, rfl⟩
  have hP : va_P D vwCl ([(o 0, .inr (7, [.ref (x 0), .ref (tq 0), .ref rd, .ref (q 0), .ref (tr 0), .ref (pz 0), .ref (o 1), .ref (o 2), .ref (sz 0)]))] ++ ((dyW k q t g X) ++ (dyW k tr tt gg XX))) H := by rw [hH]; exact hP
  have hS : va_S A s.heap H locs := by rw [hH, hlocs]; exact hS
  rw [← hlocs]
  suffices hgoal : W p l e ({ frames := 5, cells := 0, slots := 0, locals := 180 }) s m ([.ref (o 0), .int (nI a), .int (nI n), .int (nI w)] : List Value).toArray below meth c H locs 0 0 Q (F0 m 0 ls []) by rw [hH] at hgoal; exact hgoal
  clear hH hlocs
  obtain ⟨⟨a1, a2, a3, a4, a5, a6⟩, b1, b2, b3, b4, b6, b7, b8, b9⟩ := id hok
  refine lv_iload_n hx hb dX7_plot_0 rfl (lv_at hl 1 rfl) ?_
  refine ta_callSi (As := [.int (nI a)]) (rest0 := []) (Wr := ([(o 0, .inr (7, [.ref (x 0), .ref (tq 0), .ref rd, .ref (q 0), .ref (tr 0), .ref (pz 0), .ref (o 1), .ref (o 2), .ref (sz 0)]))] ++ ((dyW k q t g X) ++ (dyW k tr tt gg XX)))) C hP hD hS (c_X7_isArmy l D k a (by omega)) [] [0, 1, 2, 3, 4, 5, 6, 7, 8, 9, 10, 11, 12, 13, 14, 15, 16, 17, 18, 19, 20, 21, 22] rfl rfl (by decide) (by decide) (by decide) tw_385 tw_383 tw_2 tw_384 ⟨by decide, by decide, rfl⟩ ⟨Nat.le_of_ble_eq_true rfl, Nat.le_of_ble_eq_true rfl⟩ ⟨Nat.zero_le _, Nat.zero_le _⟩ hl.1 rfl (Nat.le_of_ble_eq_true rfl) dX7_plot_1 (fun r1 u2 H locs h3 hP hD hS => ?_)
  rcases h3 with h0 | h0
  · obtain ⟨hi4, rfl⟩ := h0
    have hP : va_P D vwCl ([(o 0, .inr (7, [.ref (x 0), .ref (tq 0), .ref rd, .ref (q 0), .ref (tr 0), .ref (pz 0), .ref (o 1), .ref (o 2), .ref (sz 0)]))] ++ ((dyW k q t g X) ++ (dyW k tr tt gg XX))) H := hP
    have hD : va_D A ([(o 0, .inr (7, [.ref (x 0), .ref (tq 0), .ref rd, .ref (q 0), .ref (tr 0), .ref (pz 0), .ref (o 1), .ref (o 2), .ref (sz 0)]))] ++ ((dyW k q t g X) ++ (dyW k tr tt gg XX))) := hD
    have ha2 := hi4
    refine lv_if_ne (tgt := 10) hx hb dX7_plot_4 (by decide) (fun c5 => ?_) (fun c5 => ?_)
    · refine lv_iload_n hx hb dX7_plot_10 rfl (lv_at hl 2 rfl) ?_
      refine ta_iconst C 1 dX7_plot_11 (by decide) ?_
      refine ta_wlt C (a := n) (b := 1) (tgt := 30) (by omega) (by omega) dX7_plot_12 (by decide) (fun c6 => ?_) (fun c6 => ?_)
      · refine ta_bipush C 4294967293 dX7_plot_30 (by decide) ?_
        exact ret (nI 4294967293) (tt, gg, XX) dX7_plot_32 rfl ⟨_, Or.inr (Or.inl ⟨by omega, by omega, rfl⟩), rfl⟩ hP hD hS
      · refine lv_iload_n hx hb dX7_plot_15 rfl (lv_at hl 2 rfl) ?_
        refine ta_bipush C 40 dX7_plot_16 (by decide) ?_
        refine ta_wgt C (a := n) (b := 40) (tgt := 30) (by omega) (by omega) dX7_plot_18 (by decide) (fun c7 => ?_) (fun c7 => ?_)
        · refine ta_bipush C 4294967293 dX7_plot_30 (by decide) ?_
          exact ret (nI 4294967293) (tt, gg, XX) dX7_plot_32 rfl ⟨_, Or.inr (Or.inl ⟨by omega, by omega, rfl⟩), rfl⟩ hP hD hS
        · refine lv_iload_n hx hb dX7_plot_21 rfl (lv_at hl 3 rfl) ?_
          refine ta_wilt C (a := w) (tgt := 30) (by omega) dX7_plot_22 (by decide) (fun c8 => ?_) (fun c8 => ?_)
          · refine ta_bipush C 4294967293 dX7_plot_30 (by decide) ?_
            exact ret (nI 4294967293) (tt, gg, XX) dX7_plot_32 rfl ⟨_, Or.inr (Or.inl ⟨by omega, by omega, rfl⟩), rfl⟩ hP hD hS
          · refine lv_iload_n hx hb dX7_plot_25 rfl (lv_at hl 3 rfl) ?_
            refine ta_iconst C 2 dX7_plot_26 (by decide) ?_
            refine ta_wle C (a := w) (b := 2) (tgt := 33) (by omega) (by omega) dX7_plot_27 (by decide) (fun c9 => ?_) (fun c9 => ?_)
            · refine lv_aload_n hx hb dX7_plot_33 rfl (lv_at hl 0 rfl) ?_
              refine ta_get C hP 0 inlX7 rfl rfl 3 (by decide) tw_27 rfl dX7_plot_34 ?_
              refine ta_getN C hP 1 inlX0 rfl rfl 13 (by decide) 36 rfl rfl dX7_plot_37 ?_
              refine lv_iload_n hx hb dX7_plot_40 rfl (lv_at hl 1 rfl) ?_
              rcases (show a = 0 ∨ a = 1 by omega) with ha0 | ha0
              · have e6a : g (6 + a) = g 6 := by rw [ha0]
                refine ta_nv (y := 0) ha0 ?_
                refine ta_aald C hP 5 2 rfl rfl (i := 0) (x := q 5) (by omega) rfl dX7_plot_41 ?_
                refine ta_getN C hP 6 inlX1 rfl rfl 2 (by decide) 7 rfl rfl dX7_plot_42 ?_
                refine ta_bipush C 6 dX7_plot_45 (by decide) ?_
                refine ta_cle C (a := g 6) (b := 6) (tgt := 53) (by omega) (by omega) dX7_plot_47 (by decide) (fun c10 => ?_) (fun c10 => ?_)
                · refine ta_iconst C 4294967295 dX7_plot_53 (by decide) ?_
                  refine lv_istore (lv' := [(4, .int (nI 4294967295)), (0, .ref (o 0)), (1, .int (nI a)), (2, .int (nI n)), (3, .int (nI w))]) hx hb dX7_plot_54 hl (by decide) rfl (fun ls hl => ?_)
                  refine ta_iconst C 4294967295 dX7_plot_56 (by decide) ?_
                  refine lv_istore (lv' := [(5, .int (nI 4294967295)), (4, .int (nI 4294967295)), (0, .ref (o 0)), (1, .int (nI a)), (2, .int (nI n)), (3, .int (nI w))]) hx hb dX7_plot_57 hl (by decide) rfl (fun ls hl => ?_)
                  refine ta_iconst C 4294967295 dX7_plot_59 (by decide) ?_
                  refine lv_istore (lv' := [(6, .int (nI 4294967295)), (5, .int (nI 4294967295)), (4, .int (nI 4294967295)), (0, .ref (o 0)), (1, .int (nI a)), (2, .int (nI n)), (3, .int (nI w))]) hx hb dX7_plot_60 hl (by decide) rfl (fun ls hl => ?_)
                  refine ta_iconst C 1 dX7_plot_62 (by decide) ?_
                  refine lv_istore (lv' := [(7, .int (nI 1)), (6, .int (nI 4294967295)), (5, .int (nI 4294967295)), (4, .int (nI 4294967295)), (0, .ref (o 0)), (1, .int (nI a)), (2, .int (nI n)), (3, .int (nI w))]) hx hb dX7_plot_63 hl (by decide) rfl (fun ls hl => ?_)
                  have loop_65 : ∀ (N_65 : Nat) (one : Nat) (m0 : Nat) (x0 : Nat) (y0 : Nat) (mo : Nat) (t1 : Nat → Nat) (g1 : Nat → Nat) (X1 : Nat → Nat → Nat), (1 ≤ one ∧ one ≤ 10) → (a < 2) → (1 ≤ n ∧ n ≤ 40) → (w ≤ 2) → (g (6 + a) ≤ 6) → (pl_B (pl_v t g a n) (pl_S pl_m one 1) m0 x0 y0) → (mo = pl_p m0) → 10 - one < N_65 → ∀ (H : Heap) (locs : List Loc) (ls : Array Slot), va_P D vwCl ([(o 0, .inr (7, [.ref (x 0), .ref (tq 0), .ref rd, .ref (q 0), .ref (tr 0), .ref (pz 0), .ref (o 1), .ref (o 2), .ref (sz 0)]))] ++ ((dyW k q t g X) ++ (dyW k tr t1 g1 X1))) H → va_D A ([(o 0, .inr (7, [.ref (x 0), .ref (tq 0), .ref rd, .ref (q 0), .ref (tr 0), .ref (pz 0), .ref (o 1), .ref (o 2), .ref (sz 0)]))] ++ ((dyW k q t g X) ++ (dyW k tr t1 g1 X1))) → va_S A s.heap H locs → lv_has ls 10 [(7, .int (nI one)), (6, .int (nI y0)), (5, .int (nI x0)), (4, .int (nI mo)), (0, .ref (o 0)), (1, .int (nI a)), (2, .int (nI n)), (3, .int (nI w))] → W p l e ({ frames := 5, cells := 0, slots := 0, locals := 180 }) s m ([.ref (o 0), .int (nI a), .int (nI n), .int (nI w)] : List Value).toArray below meth c H locs 0 0 Q (F0 m 65 ls []) := by
                    clear hP hD hS hl
                    intro N_65
                    induction N_65 with
                    | zero =>
                      intro one m0 x0 y0 mo t1 g1 X1 h1 ha3 hn1 hw2 hn6 hB hmo hf_65
                      exact absurd hf_65 (Nat.not_lt_zero _)
                    | succ N_65 ih_65 =>
                      intro one m0 x0 y0 mo t1 g1 X1 h1 ha3 hn1 hw2 hn6 hB hmo hf_65 H locs ls hP hD hS hl
                      refine lv_iload hx hb dX7_plot_65 (lv_at hl 0 rfl) ?_
                      refine ta_bipush C 9 dX7_plot_67 (by decide) ?_
                      refine ta_cgt C (a := one) (b := 9) (tgt := 133) (by omega) (by omega) dX7_plot_69 (by decide) (fun c11 => ?_) (fun c11 => ?_)
                      · refine lv_iload_n hx hb dX7_plot_133 rfl (lv_at hl 7 rfl) ?_
                        refine ta_ine C (a := w) (tgt := 140) (by omega) dX7_plot_134 (by decide) (fun c12 => ?_) (fun c12 => ?_)
                        · refine lv_iload_n hx hb dX7_plot_140 rfl (lv_at hl 7 rfl) ?_
                          refine ta_iconst C 1 dX7_plot_141 (by decide) ?_
                          refine ta_cne C (a := w) (b := 1) (tgt := 150) (by omega) (by omega) dX7_plot_142 (by decide) (fun c13 => ?_) (fun c13 => ?_)
                          · refine lv_iload hx hb dX7_plot_150 (lv_at hl 1 rfl) ?_
                            have e1 : y0 = if w = 0 then pl_p m0 else pl_f w x0 y0 := by
                              rw [if_neg (by omega)]
                              unfold pl_f
                              rw [if_neg (by omega)]
                            have eo : one = 10 := by omega
                            rw [eo] at hB
                            have hBa := pl_B_m (fun c d h7 h8 h9 => pl_v_m hok ha3 hn6 h7 h8 h9) hB
                            exact ret (nI y0) (t1, g1, X1) dX7_plot_152 rfl ⟨_, Or.inr (Or.inr (Or.inr ⟨ha3, ⟨⟨by omega, by omega⟩, by omega⟩, hn6, m0, x0, y0, hBa, e1⟩)), rfl⟩ hP hD hS
                          · refine lv_iload hx hb dX7_plot_145 (lv_at hl 2 rfl) ?_
                            refine lv_goto (tgt := 152) hx hb dX7_plot_147 (by decide) ?_
                            have e1 : x0 = if w = 0 then pl_p m0 else pl_f w x0 y0 := by
                              rw [if_neg (by omega)]
                              unfold pl_f
                              rw [if_pos (by omega)]
                            have eo : one = 10 := by omega
                            rw [eo] at hB
                            have hBa := pl_B_m (fun c d h7 h8 h9 => pl_v_m hok ha3 hn6 h7 h8 h9) hB
                            exact ret (nI x0) (t1, g1, X1) dX7_plot_152 rfl ⟨_, Or.inr (Or.inr (Or.inr ⟨ha3, ⟨⟨by omega, by omega⟩, by omega⟩, hn6, m0, x0, y0, hBa, e1⟩)), rfl⟩ hP hD hS
                        · refine lv_iload hx hb dX7_plot_137 (lv_at hl 3 rfl) ?_
                          have e1 : mo = if w = 0 then pl_p m0 else pl_f w x0 y0 := by
                            rw [if_pos (by omega)]
                            exact hmo
                          have eo : one = 10 := by omega
                          rw [eo] at hB
                          have hBa := pl_B_m (fun c d h7 h8 h9 => pl_v_m hok ha3 hn6 h7 h8 h9) hB
                          exact ret (nI mo) (t1, g1, X1) dX7_plot_139 rfl ⟨_, Or.inr (Or.inr (Or.inr ⟨ha3, ⟨⟨by omega, by omega⟩, by omega⟩, hn6, m0, x0, y0, hBa, e1⟩)), rfl⟩ hP hD hS
                      · refine ta_iconst C 1 dX7_plot_72 (by decide) ?_
                        refine lv_istore (lv' := [(8, .int (nI 1)), (7, .int (nI one)), (6, .int (nI y0)), (5, .int (nI x0)), (4, .int (nI mo)), (0, .ref (o 0)), (1, .int (nI a)), (2, .int (nI n)), (3, .int (nI w))]) hx hb dX7_plot_73 hl (by decide) rfl (fun ls hl => ?_)
                        have loop_75 : ∀ (N_75 : Nat) (two : Nat) (m0 : Nat) (x0 : Nat) (y0 : Nat) (mo : Nat) (t1 : Nat → Nat) (g1 : Nat → Nat) (X1 : Nat → Nat → Nat), (1 ≤ two ∧ two ≤ 10) → (pl_B (pl_v t g a n) (pl_S pl_m one two) m0 x0 y0) → (mo = pl_p m0) → 10 - two < N_75 → ∀ (H : Heap) (locs : List Loc) (ls : Array Slot), va_P D vwCl ([(o 0, .inr (7, [.ref (x 0), .ref (tq 0), .ref rd, .ref (q 0), .ref (tr 0), .ref (pz 0), .ref (o 1), .ref (o 2), .ref (sz 0)]))] ++ ((dyW k q t g X) ++ (dyW k tr t1 g1 X1))) H → va_D A ([(o 0, .inr (7, [.ref (x 0), .ref (tq 0), .ref rd, .ref (q 0), .ref (tr 0), .ref (pz 0), .ref (o 1), .ref (o 2), .ref (sz 0)]))] ++ ((dyW k q t g X) ++ (dyW k tr t1 g1 X1))) → va_S A s.heap H locs → lv_has ls 10 [(8, .int (nI two)), (7, .int (nI one)), (6, .int (nI y0)), (5, .int (nI x0)), (4, .int (nI mo)), (0, .ref (o 0)), (1, .int (nI a)), (2, .int (nI n)), (3, .int (nI w))] → W p l e ({ frames := 5, cells := 0, slots := 0, locals := 180 }) s m ([.ref (o 0), .int (nI a), .int (nI n), .int (nI w)] : List Value).toArray below meth c H locs 0 0 Q (F0 m 75 ls []) := by
                          clear hP hD hS hl
                          intro N_75
                          induction N_75 with
                          | zero =>
                            intro two m0 x0 y0 mo t1 g1 X1 h2 hB2 hmo hf_75
                            exact absurd hf_75 (Nat.not_lt_zero _)
                          | succ N_75 ih_75 =>
                            intro two m0 x0 y0 mo t1 g1 X1 h2 hB2 hmo hf_75 H locs ls hP hD hS hl
                            refine lv_iload hx hb dX7_plot_75 (lv_at hl 0 rfl) ?_
                            refine ta_bipush C 9 dX7_plot_77 (by decide) ?_
                            refine ta_cgt C (a := two) (b := 9) (tgt := 127) (by omega) (by omega) dX7_plot_79 (by decide) (fun c14 => ?_) (fun c14 => ?_)
                            · have et : two = 10 := by omega
                              rw [et] at hB2
                              refine lv_iinc (v := nI (one + 1)) (lv' := [(7, .int (nI (one + 1))), (8, .int (nI two)), (6, .int (nI y0)), (5, .int (nI x0)), (4, .int (nI mo)), (0, .ref (o 0)), (1, .int (nI a)), (2, .int (nI n)), (3, .int (nI w))]) hx hb dX7_plot_127 hl (k := 1) rfl (ta_inc1 _) (by decide) rfl (fun ls hl => ?_)
                              refine lv_goto (tgt := 65) hx hb dX7_plot_130 (by decide) ?_
                              exact ih_65 (one + 1) m0 x0 y0 mo t1 g1 X1 (by omega) (by omega) (by omega) (by omega) (by omega) (pl_B_r hB2 (fun j hj => ⟨hj.1, by have := hj.2; omega⟩)) hmo (by omega) _ _ _ hP hD hS (lv_sub hl [0, 2, 3, 4, 5, 6, 7, 8] rfl)
                            · refine lv_aload_n hx hb dX7_plot_82 rfl (lv_at hl 5 rfl) ?_
                              refine lv_iload_n hx hb dX7_plot_83 rfl (lv_at hl 6 rfl) ?_
                              refine lv_iload_n hx hb dX7_plot_84 rfl (lv_at hl 7 rfl) ?_
                              refine lv_iload hx hb dX7_plot_85 (lv_at hl 1 rfl) ?_
                              refine lv_iload hx hb dX7_plot_87 (lv_at hl 0 rfl) ?_
                              refine ta_callVi (As := [.int (nI a), .int (nI n), .int (nI one), .int (nI two)]) (rest0 := []) (Wr := []) C hP hD hS (c_X7_gainOfMarches l D k o x tq rd q tr pz sz t g X t1 g1 X1 a n one two hok hh0 hX (by omega) (by omega) (by omega) (by omega) (by omega)) 0 rfl rfl rfl [0, 1, 2, 3, 4, 5, 6, 7, 8, 9, 10, 11, 12, 13, 14, 15, 16, 17, 18, 19, 20, 21, 22] [] rfl rfl (by decide) (by decide) (by decide) tw_581 tw_578 tw_2 tw_579 tw_580 ⟨by decide, by decide, rfl⟩ ⟨Nat.le_of_ble_eq_true rfl, Nat.le_of_ble_eq_true rfl⟩ ⟨Nat.zero_le _, Nat.zero_le _⟩ hl.1 rfl (Nat.le_of_ble_eq_true rfl) dX7_plot_89 (fun r15 u16 H locs h17 hP hD hS => ?_)
                              obtain ⟨ut_18, ug_19, uX_20⟩ := u16
                              try dsimp only at h17
                              obtain rfl := h17
                              have hP : va_P D vwCl ([(o 0, .inr (7, [.ref (x 0), .ref (tq 0), .ref rd, .ref (q 0), .ref (tr 0), .ref (pz 0), .ref (o 1), .ref (o 2), .ref (sz 0)]))] ++ ((dyW k q t g X) ++ (dyW k tr ut_18 ug_19 uX_20))) H := hP
                              have hD : va_D A ([(o 0, .inr (7, [.ref (x 0), .ref (tq 0), .ref rd, .ref (q 0), .ref (tr 0), .ref (pz 0), .ref (o 1), .ref (o 2), .ref (sz 0)]))] ++ ((dyW k q t g X) ++ (dyW k tr ut_18 ug_19 uX_20))) := hD
                              refine lv_istore (lv' := [(9, .int (nI (pl_p (pl_v t g a n one two)))), (8, .int (nI two)), (7, .int (nI one)), (6, .int (nI y0)), (5, .int (nI x0)), (4, .int (nI mo)), (0, .ref (o 0)), (1, .int (nI a)), (2, .int (nI n)), (3, .int (nI w))]) hx hb dX7_plot_92 hl (by decide) rfl (fun ls hl => ?_)
                              refine lv_iload hx hb dX7_plot_94 (lv_at hl 0 rfl) ?_
                              refine lv_iload hx hb dX7_plot_96 (lv_at hl 5 rfl) ?_
                              have hmb := pl_B_b hB2 (fun c d => pl_v_b t g a n c d)
                              have hvb := pl_v_b t g a n one two
                              have hcmp : nI (pl_p (pl_v t g a n one two)) ≤ nI mo ↔ pl_v t g a n one two ≤ m0 := by rw [hmo]; exact pl_p_le (by omega) (by omega)
                              refine lv_icmp_le (tgt := 121) hx hb dX7_plot_98 (by decide) (fun c21 => ?_) (fun c21 => ?_)
                              · have hle := hcmp.mp c21
                                refine lv_iinc (v := nI (two + 1)) (lv' := [(8, .int (nI (two + 1))), (9, .int (nI (pl_p (pl_v t g a n one two)))), (7, .int (nI one)), (6, .int (nI y0)), (5, .int (nI x0)), (4, .int (nI mo)), (0, .ref (o 0)), (1, .int (nI a)), (2, .int (nI n)), (3, .int (nI w))]) hx hb dX7_plot_121 hl (k := 1) rfl (ta_inc1 _) (by decide) rfl (fun ls hl => ?_)
                                refine lv_goto (tgt := 75) hx hb dX7_plot_124 (by decide) ?_
                                exact ih_75 (two + 1) m0 x0 y0 mo ut_18 ug_19 uX_20 (by omega) (pl_B_n hB2 (fun _ _ => hle)) hmo (by omega) _ _ _ hP hD hS (lv_sub hl [0, 2, 3, 4, 5, 6, 7, 8, 9] rfl)
                              · have hgt : m0 < pl_v t g a n one two := Nat.lt_of_not_le (fun h9 => c21 (hcmp.mpr h9))
                                refine lv_iload hx hb dX7_plot_101 (lv_at hl 0 rfl) ?_
                                refine lv_istore (lv' := [(4, .int (nI (pl_p (pl_v t g a n one two)))), (9, .int (nI (pl_p (pl_v t g a n one two)))), (8, .int (nI two)), (7, .int (nI one)), (6, .int (nI y0)), (5, .int (nI x0)), (0, .ref (o 0)), (1, .int (nI a)), (2, .int (nI n)), (3, .int (nI w))]) hx hb dX7_plot_103 hl (by decide) rfl (fun ls hl => ?_)
                                refine ta_iconst C 0 dX7_plot_105 (by decide) ?_
                                refine lv_iload hx hb dX7_plot_106 (lv_at hl 3 rfl) ?_
                                refine ta_callSi (As := [.int (nI 0), .int (nI one)]) (rest0 := []) (Wr := ([(o 0, .inr (7, [.ref (x 0), .ref (tq 0), .ref rd, .ref (q 0), .ref (tr 0), .ref (pz 0), .ref (o 1), .ref (o 2), .ref (sz 0)]))] ++ ((dyW k q t g X) ++ (dyW k tr ut_18 ug_19 uX_20)))) C hP hD hS (c_X7_codeOf l D k 0 one) [] [0, 1, 2, 3, 4, 5, 6, 7, 8, 9, 10, 11, 12, 13, 14, 15, 16, 17, 18, 19, 20, 21, 22] rfl rfl (by decide) (by decide) (by decide) tw_584 tw_582 tw_2 tw_583 ⟨by decide, by decide, rfl⟩ ⟨Nat.le_of_ble_eq_true rfl, Nat.le_of_ble_eq_true rfl⟩ ⟨Nat.zero_le _, Nat.zero_le _⟩ hl.1 rfl (Nat.le_of_ble_eq_true rfl) dX7_plot_108 (fun r22 u23 H locs h24 hP hD hS => ?_)
                                obtain rfl := h24
                                have hP : va_P D vwCl ([(o 0, .inr (7, [.ref (x 0), .ref (tq 0), .ref rd, .ref (q 0), .ref (tr 0), .ref (pz 0), .ref (o 1), .ref (o 2), .ref (sz 0)]))] ++ ((dyW k q t g X) ++ (dyW k tr ut_18 ug_19 uX_20))) H := hP
                                have hD : va_D A ([(o 0, .inr (7, [.ref (x 0), .ref (tq 0), .ref rd, .ref (q 0), .ref (tr 0), .ref (pz 0), .ref (o 1), .ref (o 2), .ref (sz 0)]))] ++ ((dyW k q t g X) ++ (dyW k tr ut_18 ug_19 uX_20))) := hD
                                refine ta_nv (y := one) (by omega) ?_
                                refine lv_istore (lv' := [(5, .int (nI one)), (4, .int (nI (pl_p (pl_v t g a n one two)))), (9, .int (nI (pl_p (pl_v t g a n one two)))), (8, .int (nI two)), (7, .int (nI one)), (6, .int (nI y0)), (0, .ref (o 0)), (1, .int (nI a)), (2, .int (nI n)), (3, .int (nI w))]) hx hb dX7_plot_111 hl (by decide) rfl (fun ls hl => ?_)
                                refine ta_iconst C 0 dX7_plot_113 (by decide) ?_
                                refine lv_iload hx hb dX7_plot_114 (lv_at hl 3 rfl) ?_
                                refine ta_callSi (As := [.int (nI 0), .int (nI two)]) (rest0 := []) (Wr := ([(o 0, .inr (7, [.ref (x 0), .ref (tq 0), .ref rd, .ref (q 0), .ref (tr 0), .ref (pz 0), .ref (o 1), .ref (o 2), .ref (sz 0)]))] ++ ((dyW k q t g X) ++ (dyW k tr ut_18 ug_19 uX_20)))) C hP hD hS (c_X7_codeOf l D k 0 two) [] [0, 1, 2, 3, 4, 5, 6, 7, 8, 9, 10, 11, 12, 13, 14, 15, 16, 17, 18, 19, 20, 21, 22] rfl rfl (by decide) (by decide) (by decide) tw_584 tw_582 tw_2 tw_583 ⟨by decide, by decide, rfl⟩ ⟨Nat.le_of_ble_eq_true rfl, Nat.le_of_ble_eq_true rfl⟩ ⟨Nat.zero_le _, Nat.zero_le _⟩ hl.1 rfl (Nat.le_of_ble_eq_true rfl) dX7_plot_116 (fun r25 u26 H locs h27 hP hD hS => ?_)
                                obtain rfl := h27
                                have hP : va_P D vwCl ([(o 0, .inr (7, [.ref (x 0), .ref (tq 0), .ref rd, .ref (q 0), .ref (tr 0), .ref (pz 0), .ref (o 1), .ref (o 2), .ref (sz 0)]))] ++ ((dyW k q t g X) ++ (dyW k tr ut_18 ug_19 uX_20))) H := hP
                                have hD : va_D A ([(o 0, .inr (7, [.ref (x 0), .ref (tq 0), .ref rd, .ref (q 0), .ref (tr 0), .ref (pz 0), .ref (o 1), .ref (o 2), .ref (sz 0)]))] ++ ((dyW k q t g X) ++ (dyW k tr ut_18 ug_19 uX_20))) := hD
                                refine ta_nv (y := two) (by omega) ?_
                                refine lv_istore (lv' := [(6, .int (nI two)), (5, .int (nI one)), (4, .int (nI (pl_p (pl_v t g a n one two)))), (9, .int (nI (pl_p (pl_v t g a n one two)))), (8, .int (nI two)), (7, .int (nI one)), (0, .ref (o 0)), (1, .int (nI a)), (2, .int (nI n)), (3, .int (nI w))]) hx hb dX7_plot_119 hl (by decide) rfl (fun ls hl => ?_)
                                refine lv_iinc (v := nI (two + 1)) (lv' := [(8, .int (nI (two + 1))), (6, .int (nI two)), (5, .int (nI one)), (4, .int (nI (pl_p (pl_v t g a n one two)))), (9, .int (nI (pl_p (pl_v t g a n one two)))), (7, .int (nI one)), (0, .ref (o 0)), (1, .int (nI a)), (2, .int (nI n)), (3, .int (nI w))]) hx hb dX7_plot_121 hl (k := 4) rfl (ta_inc1 _) (by decide) rfl (fun ls hl => ?_)
                                refine lv_goto (tgt := 75) hx hb dX7_plot_124 (by decide) ?_
                                exact ih_75 (two + 1) (pl_v t g a n one two) one two (pl_p (pl_v t g a n one two)) ut_18 ug_19 uX_20 (by omega) (pl_B_y ⟨by omega, by omega⟩ ⟨by omega, by omega⟩ hB2 hgt) rfl (by omega) _ _ _ hP hD hS (lv_sub hl [0, 5, 1, 2, 3, 6, 7, 8, 9] rfl)
                        exact loop_75 ((10 - 1) + 1) 1 m0 x0 y0 mo t1 g1 X1 (by omega) hB hmo (Nat.lt_succ_self _) _ _ _ hP hD hS (lv_sub hl [0, 1, 2, 3, 4, 5, 6, 7, 8] rfl)
                  exact loop_65 ((10 - 1) + 1) 1 0 4294967295 4294967295 4294967295 tt gg XX (by omega) (by omega) (by omega) (by omega) (by omega) (pl_B_0 (fun j hj => hj.1)) rfl (Nat.lt_succ_self _) _ _ _ hP hD hS (lv_sub hl [0, 1, 2, 3, 4, 5, 6, 7] rfl)
                · refine ta_bipush C 4294967292 dX7_plot_50 (by decide) ?_
                  exact ret (nI 4294967292) (tt, gg, XX) dX7_plot_52 rfl ⟨_, Or.inr (Or.inr (Or.inl ⟨by omega, ⟨⟨by omega, by omega⟩, by omega⟩, by omega, rfl⟩)), rfl⟩ hP hD hS
              · have e6a : g (6 + a) = g 7 := by rw [ha0]
                refine ta_nv (y := 1) ha0 ?_
                refine ta_aald C hP 5 2 rfl rfl (i := 1) (x := q 8) (by omega) rfl dX7_plot_41 ?_
                refine ta_getN C hP 9 inlX1 rfl rfl 2 (by decide) 7 rfl rfl dX7_plot_42 ?_
                refine ta_bipush C 6 dX7_plot_45 (by decide) ?_
                refine ta_cle C (a := g 7) (b := 6) (tgt := 53) (by omega) (by omega) dX7_plot_47 (by decide) (fun c28 => ?_) (fun c28 => ?_)
                · refine ta_iconst C 4294967295 dX7_plot_53 (by decide) ?_
                  refine lv_istore (lv' := [(4, .int (nI 4294967295)), (0, .ref (o 0)), (1, .int (nI a)), (2, .int (nI n)), (3, .int (nI w))]) hx hb dX7_plot_54 hl (by decide) rfl (fun ls hl => ?_)
                  refine ta_iconst C 4294967295 dX7_plot_56 (by decide) ?_
                  refine lv_istore (lv' := [(5, .int (nI 4294967295)), (4, .int (nI 4294967295)), (0, .ref (o 0)), (1, .int (nI a)), (2, .int (nI n)), (3, .int (nI w))]) hx hb dX7_plot_57 hl (by decide) rfl (fun ls hl => ?_)
                  refine ta_iconst C 4294967295 dX7_plot_59 (by decide) ?_
                  refine lv_istore (lv' := [(6, .int (nI 4294967295)), (5, .int (nI 4294967295)), (4, .int (nI 4294967295)), (0, .ref (o 0)), (1, .int (nI a)), (2, .int (nI n)), (3, .int (nI w))]) hx hb dX7_plot_60 hl (by decide) rfl (fun ls hl => ?_)
                  refine ta_iconst C 1 dX7_plot_62 (by decide) ?_
                  refine lv_istore (lv' := [(7, .int (nI 1)), (6, .int (nI 4294967295)), (5, .int (nI 4294967295)), (4, .int (nI 4294967295)), (0, .ref (o 0)), (1, .int (nI a)), (2, .int (nI n)), (3, .int (nI w))]) hx hb dX7_plot_63 hl (by decide) rfl (fun ls hl => ?_)
                  have loop_65 : ∀ (N_65 : Nat) (one : Nat) (m0 : Nat) (x0 : Nat) (y0 : Nat) (mo : Nat) (t1 : Nat → Nat) (g1 : Nat → Nat) (X1 : Nat → Nat → Nat), (1 ≤ one ∧ one ≤ 10) → (a < 2) → (1 ≤ n ∧ n ≤ 40) → (w ≤ 2) → (g (6 + a) ≤ 6) → (pl_B (pl_v t g a n) (pl_S pl_m one 1) m0 x0 y0) → (mo = pl_p m0) → 10 - one < N_65 → ∀ (H : Heap) (locs : List Loc) (ls : Array Slot), va_P D vwCl ([(o 0, .inr (7, [.ref (x 0), .ref (tq 0), .ref rd, .ref (q 0), .ref (tr 0), .ref (pz 0), .ref (o 1), .ref (o 2), .ref (sz 0)]))] ++ ((dyW k q t g X) ++ (dyW k tr t1 g1 X1))) H → va_D A ([(o 0, .inr (7, [.ref (x 0), .ref (tq 0), .ref rd, .ref (q 0), .ref (tr 0), .ref (pz 0), .ref (o 1), .ref (o 2), .ref (sz 0)]))] ++ ((dyW k q t g X) ++ (dyW k tr t1 g1 X1))) → va_S A s.heap H locs → lv_has ls 10 [(7, .int (nI one)), (6, .int (nI y0)), (5, .int (nI x0)), (4, .int (nI mo)), (0, .ref (o 0)), (1, .int (nI a)), (2, .int (nI n)), (3, .int (nI w))] → W p l e ({ frames := 5, cells := 0, slots := 0, locals := 180 }) s m ([.ref (o 0), .int (nI a), .int (nI n), .int (nI w)] : List Value).toArray below meth c H locs 0 0 Q (F0 m 65 ls []) := by
                    clear hP hD hS hl
                    intro N_65
                    induction N_65 with
                    | zero =>
                      intro one m0 x0 y0 mo t1 g1 X1 h1 ha3 hn1 hw2 hn6 hB hmo hf_65
                      exact absurd hf_65 (Nat.not_lt_zero _)
                    | succ N_65 ih_65 =>
                      intro one m0 x0 y0 mo t1 g1 X1 h1 ha3 hn1 hw2 hn6 hB hmo hf_65 H locs ls hP hD hS hl
                      refine lv_iload hx hb dX7_plot_65 (lv_at hl 0 rfl) ?_
                      refine ta_bipush C 9 dX7_plot_67 (by decide) ?_
                      refine ta_cgt C (a := one) (b := 9) (tgt := 133) (by omega) (by omega) dX7_plot_69 (by decide) (fun c29 => ?_) (fun c29 => ?_)
                      · refine lv_iload_n hx hb dX7_plot_133 rfl (lv_at hl 7 rfl) ?_
                        refine ta_ine C (a := w) (tgt := 140) (by omega) dX7_plot_134 (by decide) (fun c30 => ?_) (fun c30 => ?_)
                        · refine lv_iload_n hx hb dX7_plot_140 rfl (lv_at hl 7 rfl) ?_
                          refine ta_iconst C 1 dX7_plot_141 (by decide) ?_
                          refine ta_cne C (a := w) (b := 1) (tgt := 150) (by omega) (by omega) dX7_plot_142 (by decide) (fun c31 => ?_) (fun c31 => ?_)
                          · refine lv_iload hx hb dX7_plot_150 (lv_at hl 1 rfl) ?_
                            have e1 : y0 = if w = 0 then pl_p m0 else pl_f w x0 y0 := by
                              rw [if_neg (by omega)]
                              unfold pl_f
                              rw [if_neg (by omega)]
                            have eo : one = 10 := by omega
                            rw [eo] at hB
                            have hBa := pl_B_m (fun c d h7 h8 h9 => pl_v_m hok ha3 hn6 h7 h8 h9) hB
                            exact ret (nI y0) (t1, g1, X1) dX7_plot_152 rfl ⟨_, Or.inr (Or.inr (Or.inr ⟨ha3, ⟨⟨by omega, by omega⟩, by omega⟩, hn6, m0, x0, y0, hBa, e1⟩)), rfl⟩ hP hD hS
                          · refine lv_iload hx hb dX7_plot_145 (lv_at hl 2 rfl) ?_
                            refine lv_goto (tgt := 152) hx hb dX7_plot_147 (by decide) ?_
                            have e1 : x0 = if w = 0 then pl_p m0 else pl_f w x0 y0 := by
                              rw [if_neg (by omega)]
                              unfold pl_f
                              rw [if_pos (by omega)]
                            have eo : one = 10 := by omega
                            rw [eo] at hB
                            have hBa := pl_B_m (fun c d h7 h8 h9 => pl_v_m hok ha3 hn6 h7 h8 h9) hB
                            exact ret (nI x0) (t1, g1, X1) dX7_plot_152 rfl ⟨_, Or.inr (Or.inr (Or.inr ⟨ha3, ⟨⟨by omega, by omega⟩, by omega⟩, hn6, m0, x0, y0, hBa, e1⟩)), rfl⟩ hP hD hS
                        · refine lv_iload hx hb dX7_plot_137 (lv_at hl 3 rfl) ?_
                          have e1 : mo = if w = 0 then pl_p m0 else pl_f w x0 y0 := by
                            rw [if_pos (by omega)]
                            exact hmo
                          have eo : one = 10 := by omega
                          rw [eo] at hB
                          have hBa := pl_B_m (fun c d h7 h8 h9 => pl_v_m hok ha3 hn6 h7 h8 h9) hB
                          exact ret (nI mo) (t1, g1, X1) dX7_plot_139 rfl ⟨_, Or.inr (Or.inr (Or.inr ⟨ha3, ⟨⟨by omega, by omega⟩, by omega⟩, hn6, m0, x0, y0, hBa, e1⟩)), rfl⟩ hP hD hS
                      · refine ta_iconst C 1 dX7_plot_72 (by decide) ?_
                        refine lv_istore (lv' := [(8, .int (nI 1)), (7, .int (nI one)), (6, .int (nI y0)), (5, .int (nI x0)), (4, .int (nI mo)), (0, .ref (o 0)), (1, .int (nI a)), (2, .int (nI n)), (3, .int (nI w))]) hx hb dX7_plot_73 hl (by decide) rfl (fun ls hl => ?_)
                        have loop_75 : ∀ (N_75 : Nat) (two : Nat) (m0 : Nat) (x0 : Nat) (y0 : Nat) (mo : Nat) (t1 : Nat → Nat) (g1 : Nat → Nat) (X1 : Nat → Nat → Nat), (1 ≤ two ∧ two ≤ 10) → (pl_B (pl_v t g a n) (pl_S pl_m one two) m0 x0 y0) → (mo = pl_p m0) → 10 - two < N_75 → ∀ (H : Heap) (locs : List Loc) (ls : Array Slot), va_P D vwCl ([(o 0, .inr (7, [.ref (x 0), .ref (tq 0), .ref rd, .ref (q 0), .ref (tr 0), .ref (pz 0), .ref (o 1), .ref (o 2), .ref (sz 0)]))] ++ ((dyW k q t g X) ++ (dyW k tr t1 g1 X1))) H → va_D A ([(o 0, .inr (7, [.ref (x 0), .ref (tq 0), .ref rd, .ref (q 0), .ref (tr 0), .ref (pz 0), .ref (o 1), .ref (o 2), .ref (sz 0)]))] ++ ((dyW k q t g X) ++ (dyW k tr t1 g1 X1))) → va_S A s.heap H locs → lv_has ls 10 [(8, .int (nI two)), (7, .int (nI one)), (6, .int (nI y0)), (5, .int (nI x0)), (4, .int (nI mo)), (0, .ref (o 0)), (1, .int (nI a)), (2, .int (nI n)), (3, .int (nI w))] → W p l e ({ frames := 5, cells := 0, slots := 0, locals := 180 }) s m ([.ref (o 0), .int (nI a), .int (nI n), .int (nI w)] : List Value).toArray below meth c H locs 0 0 Q (F0 m 75 ls []) := by
                          clear hP hD hS hl
                          intro N_75
                          induction N_75 with
                          | zero =>
                            intro two m0 x0 y0 mo t1 g1 X1 h2 hB2 hmo hf_75
                            exact absurd hf_75 (Nat.not_lt_zero _)
                          | succ N_75 ih_75 =>
                            intro two m0 x0 y0 mo t1 g1 X1 h2 hB2 hmo hf_75 H locs ls hP hD hS hl
                            refine lv_iload hx hb dX7_plot_75 (lv_at hl 0 rfl) ?_
                            refine ta_bipush C 9 dX7_plot_77 (by decide) ?_
                            refine ta_cgt C (a := two) (b := 9) (tgt := 127) (by omega) (by omega) dX7_plot_79 (by decide) (fun c32 => ?_) (fun c32 => ?_)
                            · have et : two = 10 := by omega
                              rw [et] at hB2
                              refine lv_iinc (v := nI (one + 1)) (lv' := [(7, .int (nI (one + 1))), (8, .int (nI two)), (6, .int (nI y0)), (5, .int (nI x0)), (4, .int (nI mo)), (0, .ref (o 0)), (1, .int (nI a)), (2, .int (nI n)), (3, .int (nI w))]) hx hb dX7_plot_127 hl (k := 1) rfl (ta_inc1 _) (by decide) rfl (fun ls hl => ?_)
                              refine lv_goto (tgt := 65) hx hb dX7_plot_130 (by decide) ?_
                              exact ih_65 (one + 1) m0 x0 y0 mo t1 g1 X1 (by omega) (by omega) (by omega) (by omega) (by omega) (pl_B_r hB2 (fun j hj => ⟨hj.1, by have := hj.2; omega⟩)) hmo (by omega) _ _ _ hP hD hS (lv_sub hl [0, 2, 3, 4, 5, 6, 7, 8] rfl)
                            · refine lv_aload_n hx hb dX7_plot_82 rfl (lv_at hl 5 rfl) ?_
                              refine lv_iload_n hx hb dX7_plot_83 rfl (lv_at hl 6 rfl) ?_
                              refine lv_iload_n hx hb dX7_plot_84 rfl (lv_at hl 7 rfl) ?_
                              refine lv_iload hx hb dX7_plot_85 (lv_at hl 1 rfl) ?_
                              refine lv_iload hx hb dX7_plot_87 (lv_at hl 0 rfl) ?_
                              refine ta_callVi (As := [.int (nI a), .int (nI n), .int (nI one), .int (nI two)]) (rest0 := []) (Wr := []) C hP hD hS (c_X7_gainOfMarches l D k o x tq rd q tr pz sz t g X t1 g1 X1 a n one two hok hh0 hX (by omega) (by omega) (by omega) (by omega) (by omega)) 0 rfl rfl rfl [0, 1, 2, 3, 4, 5, 6, 7, 8, 9, 10, 11, 12, 13, 14, 15, 16, 17, 18, 19, 20, 21, 22] [] rfl rfl (by decide) (by decide) (by decide) tw_581 tw_578 tw_2 tw_579 tw_580 ⟨by decide, by decide, rfl⟩ ⟨Nat.le_of_ble_eq_true rfl, Nat.le_of_ble_eq_true rfl⟩ ⟨Nat.zero_le _, Nat.zero_le _⟩ hl.1 rfl (Nat.le_of_ble_eq_true rfl) dX7_plot_89 (fun r33 u34 H locs h35 hP hD hS => ?_)
                              obtain ⟨ut_36, ug_37, uX_38⟩ := u34
                              try dsimp only at h35
                              obtain rfl := h35
                              have hP : va_P D vwCl ([(o 0, .inr (7, [.ref (x 0), .ref (tq 0), .ref rd, .ref (q 0), .ref (tr 0), .ref (pz 0), .ref (o 1), .ref (o 2), .ref (sz 0)]))] ++ ((dyW k q t g X) ++ (dyW k tr ut_36 ug_37 uX_38))) H := hP
                              have hD : va_D A ([(o 0, .inr (7, [.ref (x 0), .ref (tq 0), .ref rd, .ref (q 0), .ref (tr 0), .ref (pz 0), .ref (o 1), .ref (o 2), .ref (sz 0)]))] ++ ((dyW k q t g X) ++ (dyW k tr ut_36 ug_37 uX_38))) := hD
                              refine lv_istore (lv' := [(9, .int (nI (pl_p (pl_v t g a n one two)))), (8, .int (nI two)), (7, .int (nI one)), (6, .int (nI y0)), (5, .int (nI x0)), (4, .int (nI mo)), (0, .ref (o 0)), (1, .int (nI a)), (2, .int (nI n)), (3, .int (nI w))]) hx hb dX7_plot_92 hl (by decide) rfl (fun ls hl => ?_)
                              refine lv_iload hx hb dX7_plot_94 (lv_at hl 0 rfl) ?_
                              refine lv_iload hx hb dX7_plot_96 (lv_at hl 5 rfl) ?_
                              have hmb := pl_B_b hB2 (fun c d => pl_v_b t g a n c d)
                              have hvb := pl_v_b t g a n one two
                              have hcmp : nI (pl_p (pl_v t g a n one two)) ≤ nI mo ↔ pl_v t g a n one two ≤ m0 := by rw [hmo]; exact pl_p_le (by omega) (by omega)
                              refine lv_icmp_le (tgt := 121) hx hb dX7_plot_98 (by decide) (fun c39 => ?_) (fun c39 => ?_)
                              · have hle := hcmp.mp c39
                                refine lv_iinc (v := nI (two + 1)) (lv' := [(8, .int (nI (two + 1))), (9, .int (nI (pl_p (pl_v t g a n one two)))), (7, .int (nI one)), (6, .int (nI y0)), (5, .int (nI x0)), (4, .int (nI mo)), (0, .ref (o 0)), (1, .int (nI a)), (2, .int (nI n)), (3, .int (nI w))]) hx hb dX7_plot_121 hl (k := 1) rfl (ta_inc1 _) (by decide) rfl (fun ls hl => ?_)
                                refine lv_goto (tgt := 75) hx hb dX7_plot_124 (by decide) ?_
                                exact ih_75 (two + 1) m0 x0 y0 mo ut_36 ug_37 uX_38 (by omega) (pl_B_n hB2 (fun _ _ => hle)) hmo (by omega) _ _ _ hP hD hS (lv_sub hl [0, 2, 3, 4, 5, 6, 7, 8, 9] rfl)
                              · have hgt : m0 < pl_v t g a n one two := Nat.lt_of_not_le (fun h9 => c39 (hcmp.mpr h9))
                                refine lv_iload hx hb dX7_plot_101 (lv_at hl 0 rfl) ?_
                                refine lv_istore (lv' := [(4, .int (nI (pl_p (pl_v t g a n one two)))), (9, .int (nI (pl_p (pl_v t g a n one two)))), (8, .int (nI two)), (7, .int (nI one)), (6, .int (nI y0)), (5, .int (nI x0)), (0, .ref (o 0)), (1, .int (nI a)), (2, .int (nI n)), (3, .int (nI w))]) hx hb dX7_plot_103 hl (by decide) rfl (fun ls hl => ?_)
                                refine ta_iconst C 0 dX7_plot_105 (by decide) ?_
                                refine lv_iload hx hb dX7_plot_106 (lv_at hl 3 rfl) ?_
                                refine ta_callSi (As := [.int (nI 0), .int (nI one)]) (rest0 := []) (Wr := ([(o 0, .inr (7, [.ref (x 0), .ref (tq 0), .ref rd, .ref (q 0), .ref (tr 0), .ref (pz 0), .ref (o 1), .ref (o 2), .ref (sz 0)]))] ++ ((dyW k q t g X) ++ (dyW k tr ut_36 ug_37 uX_38)))) C hP hD hS (c_X7_codeOf l D k 0 one) [] [0, 1, 2, 3, 4, 5, 6, 7, 8, 9, 10, 11, 12, 13, 14, 15, 16, 17, 18, 19, 20, 21, 22] rfl rfl (by decide) (by decide) (by decide) tw_584 tw_582 tw_2 tw_583 ⟨by decide, by decide, rfl⟩ ⟨Nat.le_of_ble_eq_true rfl, Nat.le_of_ble_eq_true rfl⟩ ⟨Nat.zero_le _, Nat.zero_le _⟩ hl.1 rfl (Nat.le_of_ble_eq_true rfl) dX7_plot_108 (fun r40 u41 H locs h42 hP hD hS => ?_)
                                obtain rfl := h42
                                have hP : va_P D vwCl ([(o 0, .inr (7, [.ref (x 0), .ref (tq 0), .ref rd, .ref (q 0), .ref (tr 0), .ref (pz 0), .ref (o 1), .ref (o 2), .ref (sz 0)]))] ++ ((dyW k q t g X) ++ (dyW k tr ut_36 ug_37 uX_38))) H := hP
                                have hD : va_D A ([(o 0, .inr (7, [.ref (x 0), .ref (tq 0), .ref rd, .ref (q 0), .ref (tr 0), .ref (pz 0), .ref (o 1), .ref (o 2), .ref (sz 0)]))] ++ ((dyW k q t g X) ++ (dyW k tr ut_36 ug_37 uX_38))) := hD
                                refine ta_nv (y := one) (by omega) ?_
                                refine lv_istore (lv' := [(5, .int (nI one)), (4, .int (nI (pl_p (pl_v t g a n one two)))), (9, .int (nI (pl_p (pl_v t g a n one two)))), (8, .int (nI two)), (7, .int (nI one)), (6, .int (nI y0)), (0, .ref (o 0)), (1, .int (nI a)), (2, .int (nI n)), (3, .int (nI w))]) hx hb dX7_plot_111 hl (by decide) rfl (fun ls hl => ?_)
                                refine ta_iconst C 0 dX7_plot_113 (by decide) ?_
                                refine lv_iload hx hb dX7_plot_114 (lv_at hl 3 rfl) ?_
                                refine ta_callSi (As := [.int (nI 0), .int (nI two)]) (rest0 := []) (Wr := ([(o 0, .inr (7, [.ref (x 0), .ref (tq 0), .ref rd, .ref (q 0), .ref (tr 0), .ref (pz 0), .ref (o 1), .ref (o 2), .ref (sz 0)]))] ++ ((dyW k q t g X) ++ (dyW k tr ut_36 ug_37 uX_38)))) C hP hD hS (c_X7_codeOf l D k 0 two) [] [0, 1, 2, 3, 4, 5, 6, 7, 8, 9, 10, 11, 12, 13, 14, 15, 16, 17, 18, 19, 20, 21, 22] rfl rfl (by decide) (by decide) (by decide) tw_584 tw_582 tw_2 tw_583 ⟨by decide, by decide, rfl⟩ ⟨Nat.le_of_ble_eq_true rfl, Nat.le_of_ble_eq_true rfl⟩ ⟨Nat.zero_le _, Nat.zero_le _⟩ hl.1 rfl (Nat.le_of_ble_eq_true rfl) dX7_plot_116 (fun r43 u44 H locs h45 hP hD hS => ?_)
                                obtain rfl := h45
                                have hP : va_P D vwCl ([(o 0, .inr (7, [.ref (x 0), .ref (tq 0), .ref rd, .ref (q 0), .ref (tr 0), .ref (pz 0), .ref (o 1), .ref (o 2), .ref (sz 0)]))] ++ ((dyW k q t g X) ++ (dyW k tr ut_36 ug_37 uX_38))) H := hP
                                have hD : va_D A ([(o 0, .inr (7, [.ref (x 0), .ref (tq 0), .ref rd, .ref (q 0), .ref (tr 0), .ref (pz 0), .ref (o 1), .ref (o 2), .ref (sz 0)]))] ++ ((dyW k q t g X) ++ (dyW k tr ut_36 ug_37 uX_38))) := hD
                                refine ta_nv (y := two) (by omega) ?_
                                refine lv_istore (lv' := [(6, .int (nI two)), (5, .int (nI one)), (4, .int (nI (pl_p (pl_v t g a n one two)))), (9, .int (nI (pl_p (pl_v t g a n one two)))), (8, .int (nI two)), (7, .int (nI one)), (0, .ref (o 0)), (1, .int (nI a)), (2, .int (nI n)), (3, .int (nI w))]) hx hb dX7_plot_119 hl (by decide) rfl (fun ls hl => ?_)
                                refine lv_iinc (v := nI (two + 1)) (lv' := [(8, .int (nI (two + 1))), (6, .int (nI two)), (5, .int (nI one)), (4, .int (nI (pl_p (pl_v t g a n one two)))), (9, .int (nI (pl_p (pl_v t g a n one two)))), (7, .int (nI one)), (0, .ref (o 0)), (1, .int (nI a)), (2, .int (nI n)), (3, .int (nI w))]) hx hb dX7_plot_121 hl (k := 4) rfl (ta_inc1 _) (by decide) rfl (fun ls hl => ?_)
                                refine lv_goto (tgt := 75) hx hb dX7_plot_124 (by decide) ?_
                                exact ih_75 (two + 1) (pl_v t g a n one two) one two (pl_p (pl_v t g a n one two)) ut_36 ug_37 uX_38 (by omega) (pl_B_y ⟨by omega, by omega⟩ ⟨by omega, by omega⟩ hB2 hgt) rfl (by omega) _ _ _ hP hD hS (lv_sub hl [0, 5, 1, 2, 3, 6, 7, 8, 9] rfl)
                        exact loop_75 ((10 - 1) + 1) 1 m0 x0 y0 mo t1 g1 X1 (by omega) hB hmo (Nat.lt_succ_self _) _ _ _ hP hD hS (lv_sub hl [0, 1, 2, 3, 4, 5, 6, 7, 8] rfl)
                  exact loop_65 ((10 - 1) + 1) 1 0 4294967295 4294967295 4294967295 tt gg XX (by omega) (by omega) (by omega) (by omega) (by omega) (pl_B_0 (fun j hj => hj.1)) rfl (Nat.lt_succ_self _) _ _ _ hP hD hS (lv_sub hl [0, 1, 2, 3, 4, 5, 6, 7] rfl)
                · refine ta_bipush C 4294967292 dX7_plot_50 (by decide) ?_
                  exact ret (nI 4294967292) (tt, gg, XX) dX7_plot_52 rfl ⟨_, Or.inr (Or.inr (Or.inl ⟨by omega, ⟨⟨by omega, by omega⟩, by omega⟩, by omega, rfl⟩)), rfl⟩ hP hD hS
            · refine ta_bipush C 4294967293 dX7_plot_30 (by decide) ?_
              exact ret (nI 4294967293) (tt, gg, XX) dX7_plot_32 rfl ⟨_, Or.inr (Or.inl ⟨by omega, by omega, rfl⟩), rfl⟩ hP hD hS
    · exact absurd c5 (by decide)
  · obtain ⟨hi46, rfl⟩ := h0
    have hP : va_P D vwCl ([(o 0, .inr (7, [.ref (x 0), .ref (tq 0), .ref rd, .ref (q 0), .ref (tr 0), .ref (pz 0), .ref (o 1), .ref (o 2), .ref (sz 0)]))] ++ ((dyW k q t g X) ++ (dyW k tr tt gg XX))) H := hP
    have hD : va_D A ([(o 0, .inr (7, [.ref (x 0), .ref (tq 0), .ref rd, .ref (q 0), .ref (tr 0), .ref (pz 0), .ref (o 1), .ref (o 2), .ref (sz 0)]))] ++ ((dyW k q t g X) ++ (dyW k tr tt gg XX))) := hD
    have ha2 := hi46
    refine lv_if_ne (tgt := 10) hx hb dX7_plot_4 (by decide) (fun c47 => ?_) (fun c47 => ?_)
    · exact absurd c47 (by decide)
    · refine ta_bipush C 4294967294 dX7_plot_7 (by decide) ?_
      exact ret (nI 4294967294) (tt, gg, XX) dX7_plot_9 rfl ⟨_, Or.inl ⟨by omega, rfl⟩, rfl⟩ hP hD hS
