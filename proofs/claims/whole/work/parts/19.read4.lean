theorem pl_ok_fig {d h : Nat → Nat} (ho : pl_ok d) (e : ∀ j, 5 ≤ j → h j = d j) (ht : tg_tok h) (h3 : h 3 < h 0 * h 1) (h4 : h 4 < 4) : pl_ok h := by
  obtain ⟨-, -, -, b5, b6, b7, b8⟩ := ho
  refine ⟨ht, h3, h4, by rw [e 5 (by omega)]; exact b5, by rw [e 6 (by omega)]; exact b6, fun j hj => ?_, fun j hj => ?_⟩
  · rw [e 5 (by omega)] at hj; rw [e (7 + j) (by omega)]; exact b7 j hj
  · rw [e 6 (by omega)] at hj; rw [e (15 + j) (by omega)]; exact b8 j hj
theorem cl_ground_ok {tx d : Nat → Nat} {L p : Nat} (hp : p ≤ L) (h : (cl_ground tx L p d).1 = 4294967295) (hL : L ≤ 160) : pl_ok (cl_ground tx L p d).2.2 ∧ (cl_ground tx L p d).2.1 ≤ L := by
  have h1 := tn_b (tx := tx) hp
  have h2 := tn_b (tx := tx) h1.2.2.1
  unfold cl_ground at h ⊢
  by_cases c1 : cl_in tx L p 2 6
  · rw [cl_p c1] at h ⊢
    by_cases c2 : cl_in tx L (tn_e tx L p) 2 6
    · rw [cl_p c2] at h ⊢
      obtain ⟨x1, x2⟩ := cl_in_iff.mp c1
      obtain ⟨y1, y2⟩ := cl_in_iff.mp c2
      refine ⟨⟨⟨x1, x2, y1, y2, show 2 ≤ 4 by decide, show 4 ≤ 9 by decide⟩, Nat.mul_pos (Nat.lt_of_lt_of_le (by decide) x1) (Nat.lt_of_lt_of_le (by decide) y1), show 0 < 4 by decide, show 0 ≤ 8 by decide, show 0 ≤ 8 by decide, fun j hj => absurd (show j < 0 from hj) (Nat.not_lt_zero j), fun j hj => absurd (show j < 0 from hj) (Nat.not_lt_zero j)⟩, h2.2.2.1⟩
    · rw [cl_n c2] at h
      exact absurd (show tn_s tx L (tn_e tx L p) = 4294967295 from h) (by omega)
  · rw [cl_n c1] at h
    exact absurd (show tn_s tx L p = 4294967295 from h) (by omega)
theorem cl_stand_ok {tx d : Nat → Nat} {L p : Nat} (ho : pl_ok d) (hp : p ≤ L) (h : (cl_stand tx L p d).1 = 4294967295) (hL : L ≤ 160) : pl_ok (cl_stand tx L p d).2.2 ∧ (cl_stand tx L p d).2.1 ≤ L := by
  have h1 := tn_b (tx := tx) hp
  have h2 := tn_b (tx := tx) h1.2.2.1
  unfold cl_stand at h ⊢
  by_cases c1 : cl_in tx L p 0 (d 0 * d 1 - 1)
  · rw [cl_p c1] at h ⊢
    by_cases c2 : cl_in tx L (tn_e tx L p) 0 3
    · rw [cl_p c2] at h ⊢
      obtain ⟨x1, x2⟩ := cl_in_iff.mp c1
      obtain ⟨y1, y2⟩ := cl_in_iff.mp c2
      have h3 := ho.2.1
      refine ⟨pl_ok_fig ho (fun j hj => by show ta_u (ta_u d 3 _) 4 _ j = d j; rw [ta_un (by omega), ta_un (by omega)]) ho.1 ?_ ?_, h2.2.2.1⟩
      · show tn_v tx L p < d 0 * d 1
        omega
      · show tn_v tx L (tn_e tx L p) < 4
        omega
    · rw [cl_n c2] at h
      exact absurd (show tn_s tx L (tn_e tx L p) = 4294967295 from h) (by omega)
  · rw [cl_n c1] at h
    exact absurd (show tn_s tx L p = 4294967295 from h) (by omega)
theorem cl_hour_ok {tx d : Nat → Nat} {L p : Nat} (ho : pl_ok d) (hp : p ≤ L) (h : (cl_hour tx L p d).1 = 4294967295) (hL : L ≤ 160) : pl_ok (cl_hour tx L p d).2.2 ∧ (cl_hour tx L p d).2.1 ≤ L := by
  have h1 := tn_b (tx := tx) hp
  unfold cl_hour at h ⊢
  by_cases c1 : cl_in tx L p 2 9
  · rw [cl_p c1] at h ⊢
    obtain ⟨x1, x2⟩ := cl_in_iff.mp c1
    obtain ⟨a1, a2, a3, a4, a5, a6⟩ := ho.1
    exact ⟨pl_ok_fig ho (fun j hj => ta_un (by omega)) ⟨a1, a2, a3, a4, x1, x2⟩ ho.2.1 ho.2.2.1, h1.2.2.1⟩
  · rw [cl_n c1] at h
    exact absurd (show tn_s tx L p = 4294967295 from h) (by omega)
theorem cl_rest_ok {tx d : Nat → Nat} {L p : Nat} (ho : pl_ok d) (hp : p ≤ L) (h : (cl_rest tx L p d).1 = 4294967295) (hL : L ≤ 160) : pl_ok (cl_rest tx L p d).2.2 ∧ (cl_rest tx L p d).2.1 ≤ L := by
  have h1 := tn_b (tx := tx) hp
  unfold cl_rest at h ⊢
  by_cases c1 : cl_in tx L p 0 1
  · rw [cl_p c1] at h ⊢
    obtain ⟨x1, x2⟩ := cl_in_iff.mp c1
    obtain ⟨b0, b3, b4, b5, b6, b7, b8⟩ := ho
    refine ⟨?_, h1.2.2.1⟩
    show pl_ok (ta_u d (5 + tn_v tx L p) 0)
    rcases (show tn_v tx L p = 0 ∨ tn_v tx L p = 1 by omega) with e | e
    · rw [e]
      exact ⟨b0, b3, b4, Nat.zero_le _, b6, fun j hj => absurd (show j < 0 from hj) (Nat.not_lt_zero j), fun j hj => by rw [ta_un (by omega)]; exact b8 j hj⟩
    · rw [e]
      exact ⟨b0, b3, b4, b5, Nat.zero_le _, fun j hj => by rw [ta_un (by omega)]; exact b7 j hj, fun j hj => absurd (show j < 0 from hj) (Nat.not_lt_zero j)⟩
  · rw [cl_n c1] at h
    exact absurd (show tn_s tx L p = 4294967295 from h) (by omega)
theorem cl_put_ok {d : Nat → Nat} {a c : Nat} (ho : pl_ok d) (ha : a < 2) (hn : d (5 + a) < 8) (hc : tg_fig c) : pl_ok (cl_put d a c) := by
  obtain ⟨b0, b3, b4, b5, b6, b7, b8⟩ := ho
  have k : ∀ j, j < 5 → cl_put d a c j = d j := fun j hj => by unfold cl_put; rw [ta_un (by omega), ta_un (by omega)]
  have b0' : tg_tok (cl_put d a c) := by
    unfold tg_tok
    rw [k 0 (by omega), k 1 (by omega), k 2 (by omega)]; exact b0
  rcases (show a = 0 ∨ a = 1 by omega) with rfl | rfl
  · have hn : d 5 < 8 := hn
    have e5 : cl_put d 0 c 5 = d 5 + 1 := rfl
    have e6 : cl_put d 0 c 6 = d 6 := by unfold cl_put; rw [ta_un (by omega), ta_un (by omega)]
    have e0 : d (5 + 0) = d 5 := rfl
    refine ⟨b0', by rw [k 3 (by omega), k 0 (by omega), k 1 (by omega)]; exact b3, by rw [k 4 (by omega)]; exact b4, by rw [e5]; omega, by rw [e6]; exact b6, fun j hj => ?_, fun j hj => ?_⟩
    · rw [e5] at hj
      rw [cl_put0 (by omega)]
      split
      · exact hc
      · exact b7 j (by omega)
    · rw [e6] at hj
      have e : cl_put d 0 c (15 + j) = d (15 + j) := by unfold cl_put; rw [ta_un (by omega), e0, ta_un (by omega)]
      rw [e]; exact b8 j hj
  · have hn : d 6 < 8 := hn
    have e6 : cl_put d 1 c 6 = d 6 + 1 := rfl
    have e5 : cl_put d 1 c 5 = d 5 := by unfold cl_put; rw [ta_un (by omega), ta_un (by omega)]
    have e0 : d (5 + 1) = d 6 := rfl
    refine ⟨b0', by rw [k 3 (by omega), k 0 (by omega), k 1 (by omega)]; exact b3, by rw [k 4 (by omega)]; exact b4, by rw [e5]; exact b5, by rw [e6]; omega, fun j hj => ?_, fun j hj => ?_⟩
    · rw [e5] at hj
      have e : cl_put d 1 c (7 + j) = d (7 + j) := by unfold cl_put; rw [ta_un (by omega), e0, ta_un (by omega)]
      rw [e]; exact b7 j hj
    · rw [e6] at hj
      rw [cl_put1 (by omega)]
      split
      · exact hc
      · exact b8 j (by omega)
theorem cl_fig_ok {tx d : Nat → Nat} {L p kd : Nat} (hk : kd < 5) (ho : pl_ok d) (hp : p ≤ L) (h : (cl_fig kd tx L p d).1 = 4294967295) (hL : L ≤ 160) : pl_ok (cl_fig kd tx L p d).2.2 ∧ (cl_fig kd tx L p d).2.1 ≤ L := by
  have h1 := tn_b (tx := tx) hp
  have h2 := tn_b (tx := tx) h1.2.2.1
  unfold cl_fig at h ⊢
  by_cases c1 : cl_in tx L p 0 1 ∧ d (5 + tn_v tx L p) < 8
  · rw [cl_p c1] at h ⊢
    by_cases c2 : cl_in tx L (tn_e tx L p) 1 9
    · rw [cl_p c2] at h ⊢
      obtain ⟨x1, x2⟩ := cl_in_iff.mp c1.1
      obtain ⟨y1, y2⟩ := cl_in_iff.mp c2
      exact ⟨cl_put_ok ho (by omega) c1.2 ⟨by omega, by omega⟩, h2.2.2.1⟩
    · rw [cl_n c2] at h
      exact absurd (show tn_s tx L (tn_e tx L p) = 4294967295 from h) (by omega)
  · rw [cl_n c1] at h
    exact absurd (show tn_s tx L p = 4294967295 from h) (by omega)
theorem cl_read_ok {tx d : Nat → Nat} {L p : Nat} (ho : pl_ok d) (hp : p ≤ L) (h : (cl_read tx L p d).1 = 4294967295) (hL : L ≤ 160) : pl_ok (cl_read tx L p d).2.2 ∧ (cl_read tx L p d).2.1 ≤ L := by
  have h1 := tn_b (tx := tx) hp
  have h2 := h1.2.2.1
  unfold cl_read at h ⊢
  by_cases c0 : tk_is tx (tn_s tx L p) (tn_e tx L p) 0
  · rw [cl_p c0] at h ⊢; exact cl_ground_ok h2 h hL
  rw [cl_n c0] at h ⊢
  by_cases c1 : tk_is tx (tn_s tx L p) (tn_e tx L p) 1
  · rw [cl_p c1] at h ⊢; exact cl_stand_ok ho h2 h hL
  rw [cl_n c1] at h ⊢
  by_cases c2 : tk_is tx (tn_s tx L p) (tn_e tx L p) 2
  · rw [cl_p c2] at h ⊢; exact cl_hour_ok ho h2 h hL
  rw [cl_n c2] at h ⊢
  by_cases c3 : tk_is tx (tn_s tx L p) (tn_e tx L p) 3
  · rw [cl_p c3] at h ⊢; exact cl_rest_ok ho h2 h hL
  rw [cl_n c3] at h ⊢
  by_cases c4 : tk_is tx (tn_s tx L p) (tn_e tx L p) 4
  · rw [cl_p c4] at h ⊢; exact cl_fig_ok (by omega) ho h2 h hL
  rw [cl_n c4] at h ⊢
  by_cases c5 : tk_is tx (tn_s tx L p) (tn_e tx L p) 5
  · rw [cl_p c5] at h ⊢; exact cl_fig_ok (by omega) ho h2 h hL
  rw [cl_n c5] at h ⊢
  by_cases c6 : tk_is tx (tn_s tx L p) (tn_e tx L p) 6
  · rw [cl_p c6] at h ⊢; exact cl_fig_ok (by omega) ho h2 h hL
  rw [cl_n c6] at h ⊢
  by_cases c7 : tk_is tx (tn_s tx L p) (tn_e tx L p) 7
  · rw [cl_p c7] at h ⊢; exact cl_fig_ok (by omega) ho h2 h hL
  rw [cl_n c7] at h ⊢
  by_cases c8 : tk_is tx (tn_s tx L p) (tn_e tx L p) 8
  · rw [cl_p c8] at h ⊢; exact cl_fig_ok (by omega) ho h2 h hL
  rw [cl_n c8] at h
  exact absurd (show tn_s tx L p = 4294967295 from h) (by omega)
/-- the whole text, from place p on, f clauses left -/
noncomputable def rd_go (tx : Nat → Nat) (L : Nat) : Nat → Nat → (Nat → Nat) → cl_T
  | 0, _, d => (4294967295, 14, d)
  | f + 1, p, d => cl_if ((cl_read tx L p d).1 ≠ 4294967295) ((cl_read tx L p d).1, 0, d) (cl_if (L ≤ tn_s tx L (cl_read tx L p d).2.1) (4294967295, 14 - f, (cl_read tx L p d).2.2) (cl_if (f = 0 ∨ tx (tn_s tx L (cl_read tx L p d).2.1) ≠ 59) (tn_s tx L (cl_read tx L p d).2.1, 0, d) (rd_go tx L f (tn_e tx L (cl_read tx L p d).2.1) (cl_read tx L p d).2.2)))
theorem rd_go_s {tx d : Nat → Nat} {L f p : Nat} : rd_go tx L (f + 1) p d = cl_if ((cl_read tx L p d).1 ≠ 4294967295) ((cl_read tx L p d).1, 0, d) (cl_if (L ≤ tn_s tx L (cl_read tx L p d).2.1) (4294967295, 14 - f, (cl_read tx L p d).2.2) (cl_if (f = 0 ∨ tx (tn_s tx L (cl_read tx L p d).2.1) ≠ 59) (tn_s tx L (cl_read tx L p d).2.1, 0, d) (rd_go tx L f (tn_e tx L (cl_read tx L p d).2.1) (cl_read tx L p d).2.2))) := rfl
theorem rd_go_ok {tx : Nat → Nat} {L : Nat} (hL : L ≤ 160) : ∀ (f p : Nat) (d : Nat → Nat), pl_ok d → p ≤ L → (rd_go tx L f p d).1 = 4294967295 → pl_ok (rd_go tx L f p d).2.2 ∧ (rd_go tx L f p d).2.1 ≤ 14
  | 0, p, d, ho, hp, h => ⟨ho, Nat.le_refl _⟩
  | f + 1, p, d, ho, hp, h => by
    rw [rd_go_s] at h ⊢
    by_cases c1 : (cl_read tx L p d).1 ≠ 4294967295
    · rw [cl_p c1] at h; exact absurd h c1
    rw [cl_n c1] at h ⊢
    have c1 : (cl_read tx L p d).1 = 4294967295 := Decidable.of_not_not c1
    obtain ⟨o1, o2⟩ := cl_read_ok ho hp c1 hL
    have h1 := tn_b (tx := tx) o2
    by_cases c2 : L ≤ tn_s tx L (cl_read tx L p d).2.1
    · rw [cl_p c2] at h ⊢; exact ⟨o1, Nat.sub_le _ _⟩
    rw [cl_n c2] at h ⊢
    by_cases c3 : f = 0 ∨ tx (tn_s tx L (cl_read tx L p d).2.1) ≠ 59
    · rw [cl_p c3] at h
      exact absurd (show tn_s tx L (cl_read tx L p d).2.1 = 4294967295 from h) (by omega)
    rw [cl_n c3] at h ⊢
    exact rd_go_ok hL f _ _ o1 h1.2.2.1 h
set_option maxHeartbeats 4000000 in
set_option maxRecDepth 100000 in
theorem c_X4_readClause (l : Launch) (D : va_G) (k : ta_C) (rd : Nat) (pq : Nat → Nat) (st0 : Nat) (en : Nat) (cl : Nat) (x : Nat → Nat) (L : Nat) (tx : Nat → Nat) (t : Nat → Nat) (Y : Nat → Nat → Nat) (hx0 : tx_ok tx L) (hen : en ≤ L) (hpl : pl_ok t) (hY : pl_X t Y) : ta_Mv (S := Nat × Nat × Nat × (Nat → Nat) × (Nat → Nat → Nat)) l D k yX4_readClause cX4_readClause 1 6 190 [.ref rd] ([(rd, .inr (4, [.ref (x 0), .ref (pq 0), .int (nI st0), .int (nI en), .int (nI 4294967295), .int (nI cl)]))] ++ ((txW k x L tx) ++ (plW k pq t Y))) (fun u => cl_post (cl_read tx L en t) u) (fun u => ([(rd, .inr (4, [.ref (x 0), .ref (pq 0), .int (nI u.1), .int (nI u.2.1), .int (nI u.2.2.1), .int (nI cl)]))] ++ ((txW k x L tx) ++ (plW k pq u.2.2.2.1 u.2.2.2.2)))) := by
  refine ta_enter_v (by decide) (Nat.le_of_ble_eq_true rfl) ?_
  intro p e s m below meth c A ls Q C ret hP hD hS hl
  have C : ta_At p l D k s m ([.ref rd] : List Value).toArray c RX4 cX4_readClause 1 A := C
  have hx := C.1.1
  have hb := C.1.2.1
  have hl : lv_has ls 1 [(0, .ref rd)] := hl
  obtain ⟨H, hH⟩ : ∃ H, H = s.heap := ⟨_, rfl⟩
  obtain ⟨locs, hlocs⟩ : ∃ q : List Loc, q = [] := ⟨_, rfl⟩
  have hP : va_P D vwCl ([(rd, .inr (4, [.ref (x 0), .ref (pq 0), .int (nI st0), .int (nI en), .int (nI 4294967295), .int (nI cl)]))] ++ ((txW k x L tx) ++ (plW k pq t Y))) H := by rw [hH]; exact hP
  have hS : va_S A s.heap H locs := by rw [hH, hlocs]; exact hS
  rw [← hlocs]
  suffices hgoal : W p l e ({ frames := 6, cells := 0, slots := 0, locals := 190 }) s m ([.ref rd] : List Value).toArray below meth c H locs 0 0 Q (F0 m 0 ls []) by rw [hH] at hgoal; exact hgoal
  clear hH hlocs
  obtain ⟨hL, hc⟩ := id hx0
  refine lv_aload_n hx hb dX4_readClause_0 rfl (lv_at hl 0 rfl) ?_
  refine ta_callVv (As := []) (rest0 := []) (Wr := (plW k pq t Y)) C hP hD hS (c_X4_nextToken l D k rd (pq 0) st0 en 4294967295 cl x L tx hx0 (by omega)) 0 rfl rfl rfl [0, 1, 2] [3, 4, 5, 6, 7, 8, 9, 10] rfl rfl (by decide) (by decide) (by decide) tw_188 tw_185 tw_22 tw_186 tw_187 ⟨by decide, by decide, rfl⟩ ⟨Nat.le_of_ble_eq_true rfl, Nat.le_of_ble_eq_true rfl⟩ ⟨Nat.zero_le _, Nat.zero_le _⟩ hl.1 rfl (Nat.le_of_ble_eq_true rfl) dX4_readClause_1 (fun u2 H locs h3 hP hD hS => ?_)
  have hP : va_P D vwCl ((plW k pq t Y) ++ ([(rd, .inr (4, [.ref (x 0), .ref (pq 0), .int (nI (tk_st tx L en)), .int (nI (tk_en tx L (tk_st tx L en))), .int (nI 4294967295), .int (nI cl)]))] ++ (txW k x L tx))) H := hP
  have hD : va_D A ((plW k pq t Y) ++ ([(rd, .inr (4, [.ref (x 0), .ref (pq 0), .int (nI (tk_st tx L en)), .int (nI (tk_en tx L (tk_st tx L en))), .int (nI 4294967295), .int (nI cl)]))] ++ (txW k x L tx))) := hD
  obtain ⟨b1, b2, b3, b4⟩ := tn_b (tx := tx) hen
  have hP : va_P D vwCl ([(rd, .inr (4, [.ref (x 0), .ref (pq 0), .int (nI (tk_st tx L en)), .int (nI (tk_en tx L (tk_st tx L en))), .int (nI 4294967295), .int (nI cl)]))] ++ ((txW k x L tx) ++ (plW k pq t Y))) H := hP.sub [8, 9, 10, 0, 1, 2, 3, 4, 5, 6, 7] rfl
  have hD : va_D A ([(rd, .inr (4, [.ref (x 0), .ref (pq 0), .int (nI (tk_st tx L en)), .int (nI (tk_en tx L (tk_st tx L en))), .int (nI 4294967295), .int (nI cl)]))] ++ ((txW k x L tx) ++ (plW k pq t Y))) := hD.sub [8, 9, 10, 0, 1, 2, 3, 4, 5, 6, 7] (by decide) rfl
  have hP : va_P D vwCl ([(rd, .inr (4, [.ref (x 0), .ref (pq 0), .int (nI (tn_s tx L en)), .int (nI (tn_e tx L en)), .int (nI 4294967295), .int (nI cl)]))] ++ ((txW k x L tx) ++ (plW k pq t Y))) H := hP
  have hD : va_D A ([(rd, .inr (4, [.ref (x 0), .ref (pq 0), .int (nI (tn_s tx L en)), .int (nI (tn_e tx L en)), .int (nI 4294967295), .int (nI cl)]))] ++ ((txW k x L tx) ++ (plW k pq t Y))) := hD
  refine lv_aload_n hx hb dX4_readClause_4 rfl (lv_at hl 0 rfl) ?_
  refine ta_get C hP 0 inlX4 rfl rfl 0 (by decide) tw_74 rfl dX4_readClause_5 ?_
  refine va_ldcS hx hb C.1.2.2.2.1 (C.2.1.2.2.1 0 (by decide)) dX4_readClause_8 ?_
  refine lv_aload_n hx hb dX4_readClause_10 rfl (lv_at hl 0 rfl) ?_
  refine ta_get C hP 0 inlX4 rfl rfl 2 (by decide) tw_70 rfl dX4_readClause_11 ?_
  refine lv_aload_n hx hb dX4_readClause_14 rfl (lv_at hl 0 rfl) ?_
  refine ta_get C hP 0 inlX4 rfl rfl 3 (by decide) tw_71 rfl dX4_readClause_15 ?_
  refine ta_callVi (As := [.ref (k.2 (10 + 0)), .int (nI (tn_s tx L en)), .int (nI (tn_e tx L en))]) (rest0 := []) (Wr := ([(rd, .inr (4, [.ref (x 0), .ref (pq 0), .int (nI (tn_s tx L en)), .int (nI (tn_e tx L en)), .int (nI 4294967295), .int (nI cl)]))] ++ (plW k pq t Y))) C hP hD hS (c_X6_holds l D k x L tx 0 (tn_s tx L en) (tn_e tx L en) (by decide) hx0 b2 b3) 1 rfl rfl rfl [1, 2] [0, 3, 4, 5, 6, 7, 8, 9, 10] rfl rfl (by decide) (by decide) (by decide) tw_200 tw_197 tw_14 tw_198 tw_199 ⟨by decide, by decide, rfl⟩ ⟨Nat.le_of_ble_eq_true rfl, Nat.le_of_ble_eq_true rfl⟩ ⟨Nat.zero_le _, Nat.zero_le _⟩ hl.1 rfl (Nat.le_of_ble_eq_true rfl) dX4_readClause_18 (fun r4 u5 H locs h6 hP hD hS => ?_)
  rcases h6 with h0 | h0
  · obtain ⟨his7, rfl⟩ := h0
    have hP : va_P D vwCl ([(rd, .inr (4, [.ref (x 0), .ref (pq 0), .int (nI (tn_s tx L en)), .int (nI (tn_e tx L en)), .int (nI 4294967295), .int (nI cl)]))] ++ ((plW k pq t Y) ++ (txW k x L tx))) H := hP
    have hD : va_D A ([(rd, .inr (4, [.ref (x 0), .ref (pq 0), .int (nI (tn_s tx L en)), .int (nI (tn_e tx L en)), .int (nI 4294967295), .int (nI cl)]))] ++ ((plW k pq t Y) ++ (txW k x L tx))) := hD
    refine lv_if_eq (tgt := 31) hx hb dX4_readClause_21 (by decide) (fun c8 => ?_) (fun c8 => ?_)
    · exact absurd c8 (by decide)
    · refine lv_aload_n hx hb dX4_readClause_24 rfl (lv_at hl 0 rfl) ?_
      refine ta_callVv (As := []) (rest0 := []) (Wr := []) C hP hD hS (c_X4_readGround l D k rd pq (tn_s tx L en) (tn_e tx L en) cl x L tx t Y hx0 b3 hpl hY) 0 rfl rfl rfl [0, 9, 10, 1, 2, 3, 4, 5, 6, 7, 8] [] rfl rfl (by decide) (by decide) (by decide) tw_253 tw_250 tw_22 tw_251 tw_252 ⟨by decide, by decide, rfl⟩ ⟨Nat.le_of_ble_eq_true rfl, Nat.le_of_ble_eq_true rfl⟩ ⟨Nat.zero_le _, Nat.zero_le _⟩ hl.1 rfl (Nat.le_of_ble_eq_true rfl) dX4_readClause_25 (fun u10 H locs h11 hP hD hS => ?_)
      rcases h11 with h0 | h0
      · obtain ⟨us_12, ue_13, uf_14, ud_15, uY_16⟩ := u10
        try dsimp only at h0
        obtain ⟨hF17, rfl, rfl, rfl, hY18⟩ := h0
        have hP : va_P D vwCl ([(rd, .inr (4, [.ref (x 0), .ref (pq 0), .int (nI us_12), .int (nI ((cl_ground tx L (tn_e tx L en) t).2.1)), .int (nI 4294967295), .int (nI cl)]))] ++ ((txW k x L tx) ++ (plW k pq ((cl_ground tx L (tn_e tx L en) t).2.2) uY_16))) H := hP
        have hD : va_D A ([(rd, .inr (4, [.ref (x 0), .ref (pq 0), .int (nI us_12), .int (nI ((cl_ground tx L (tn_e tx L en) t).2.1)), .int (nI 4294967295), .int (nI cl)]))] ++ ((txW k x L tx) ++ (plW k pq ((cl_ground tx L (tn_e tx L en) t).2.2) uY_16))) := hD
        refine lv_goto (tgt := 120) hx hb dX4_readClause_28 (by decide) ?_
        have eF : cl_read tx L en t = cl_ground tx L (tn_e tx L en) t := by unfold cl_read; rw [cl_p his7]
        exact ret (us_12, (cl_ground tx L (tn_e tx L en) t).2.1, 4294967295, (cl_ground tx L (tn_e tx L en) t).2.2, uY_16) dX4_readClause_120 (Or.inl ⟨by rw [eF]; exact hF17, rfl, by rw [eF], by rw [eF], by rw [eF]; exact hY18⟩) hP hD hS
      · obtain ⟨us_19, ue_20, uf_21, ud_22, uY_23⟩ := u10
        try dsimp only at h0
        obtain ⟨hF24, rfl⟩ := h0
        have hP : va_P D vwCl ([(rd, .inr (4, [.ref (x 0), .ref (pq 0), .int (nI us_19), .int (nI ue_20), .int (nI ((cl_ground tx L (tn_e tx L en) t).1)), .int (nI cl)]))] ++ ((txW k x L tx) ++ (plW k pq ud_22 uY_23))) H := hP
        have hD : va_D A ([(rd, .inr (4, [.ref (x 0), .ref (pq 0), .int (nI us_19), .int (nI ue_20), .int (nI ((cl_ground tx L (tn_e tx L en) t).1)), .int (nI cl)]))] ++ ((txW k x L tx) ++ (plW k pq ud_22 uY_23))) := hD
        refine lv_goto (tgt := 120) hx hb dX4_readClause_28 (by decide) ?_
        have eF : cl_read tx L en t = cl_ground tx L (tn_e tx L en) t := by unfold cl_read; rw [cl_p his7]
        exact ret (us_19, ue_20, (cl_ground tx L (tn_e tx L en) t).1, ud_22, uY_23) dX4_readClause_120 (Or.inr ⟨by rw [eF]; exact hF24, by rw [eF]⟩) hP hD hS
  · obtain ⟨his25, rfl⟩ := h0
    have hP : va_P D vwCl ([(rd, .inr (4, [.ref (x 0), .ref (pq 0), .int (nI (tn_s tx L en)), .int (nI (tn_e tx L en)), .int (nI 4294967295), .int (nI cl)]))] ++ ((plW k pq t Y) ++ (txW k x L tx))) H := hP
    have hD : va_D A ([(rd, .inr (4, [.ref (x 0), .ref (pq 0), .int (nI (tn_s tx L en)), .int (nI (tn_e tx L en)), .int (nI 4294967295), .int (nI cl)]))] ++ ((plW k pq t Y) ++ (txW k x L tx))) := hD
    refine lv_if_eq (tgt := 31) hx hb dX4_readClause_21 (by decide) (fun c26 => ?_) (fun c26 => ?_)
    · refine lv_aload_n hx hb dX4_readClause_31 rfl (lv_at hl 0 rfl) ?_
      refine ta_get C hP 0 inlX4 rfl rfl 0 (by decide) tw_74 rfl dX4_readClause_32 ?_
      refine va_ldcS hx hb C.1.2.2.2.1 (C.2.1.2.2.1 1 (by decide)) dX4_readClause_35 ?_
      refine lv_aload_n hx hb dX4_readClause_37 rfl (lv_at hl 0 rfl) ?_
      refine ta_get C hP 0 inlX4 rfl rfl 2 (by decide) tw_70 rfl dX4_readClause_38 ?_
      refine lv_aload_n hx hb dX4_readClause_41 rfl (lv_at hl 0 rfl) ?_
      refine ta_get C hP 0 inlX4 rfl rfl 3 (by decide) tw_71 rfl dX4_readClause_42 ?_
      refine ta_callVi (As := [.ref (k.2 (10 + 1)), .int (nI (tn_s tx L en)), .int (nI (tn_e tx L en))]) (rest0 := []) (Wr := ([(rd, .inr (4, [.ref (x 0), .ref (pq 0), .int (nI (tn_s tx L en)), .int (nI (tn_e tx L en)), .int (nI 4294967295), .int (nI cl)]))] ++ (plW k pq t Y))) C hP hD hS (c_X6_holds l D k x L tx 1 (tn_s tx L en) (tn_e tx L en) (by decide) hx0 b2 b3) 9 rfl rfl rfl [9, 10] [0, 1, 2, 3, 4, 5, 6, 7, 8] rfl rfl (by decide) (by decide) (by decide) tw_200 tw_197 tw_14 tw_198 tw_199 ⟨by decide, by decide, rfl⟩ ⟨Nat.le_of_ble_eq_true rfl, Nat.le_of_ble_eq_true rfl⟩ ⟨Nat.zero_le _, Nat.zero_le _⟩ hl.1 rfl (Nat.le_of_ble_eq_true rfl) dX4_readClause_45 (fun r27 u28 H locs h29 hP hD hS => ?_)
      rcases h29 with h0 | h0
      · obtain ⟨his30, rfl⟩ := h0
        have hP : va_P D vwCl ([(rd, .inr (4, [.ref (x 0), .ref (pq 0), .int (nI (tn_s tx L en)), .int (nI (tn_e tx L en)), .int (nI 4294967295), .int (nI cl)]))] ++ ((plW k pq t Y) ++ (txW k x L tx))) H := hP
        have hD : va_D A ([(rd, .inr (4, [.ref (x 0), .ref (pq 0), .int (nI (tn_s tx L en)), .int (nI (tn_e tx L en)), .int (nI 4294967295), .int (nI cl)]))] ++ ((plW k pq t Y) ++ (txW k x L tx))) := hD
        refine lv_if_eq (tgt := 58) hx hb dX4_readClause_48 (by decide) (fun c31 => ?_) (fun c31 => ?_)
        · exact absurd c31 (by decide)
        · refine lv_aload_n hx hb dX4_readClause_51 rfl (lv_at hl 0 rfl) ?_
          refine ta_callVv (As := []) (rest0 := []) (Wr := []) C hP hD hS (c_X4_readStand l D k rd pq (tn_s tx L en) (tn_e tx L en) cl x L tx t Y hx0 b3 hpl hY) 0 rfl rfl rfl [0, 9, 10, 1, 2, 3, 4, 5, 6, 7, 8] [] rfl rfl (by decide) (by decide) (by decide) tw_270 tw_267 tw_22 tw_268 tw_269 ⟨by decide, by decide, rfl⟩ ⟨Nat.le_of_ble_eq_true rfl, Nat.le_of_ble_eq_true rfl⟩ ⟨Nat.zero_le _, Nat.zero_le _⟩ hl.1 rfl (Nat.le_of_ble_eq_true rfl) dX4_readClause_52 (fun u33 H locs h34 hP hD hS => ?_)
          rcases h34 with h0 | h0
          · obtain ⟨us_35, ue_36, uf_37, ud_38, uY_39⟩ := u33
            try dsimp only at h0
            obtain ⟨hF40, rfl, rfl, rfl, hY41⟩ := h0
            have hP : va_P D vwCl ([(rd, .inr (4, [.ref (x 0), .ref (pq 0), .int (nI us_35), .int (nI ((cl_stand tx L (tn_e tx L en) t).2.1)), .int (nI 4294967295), .int (nI cl)]))] ++ ((txW k x L tx) ++ (plW k pq ((cl_stand tx L (tn_e tx L en) t).2.2) uY_39))) H := hP
            have hD : va_D A ([(rd, .inr (4, [.ref (x 0), .ref (pq 0), .int (nI us_35), .int (nI ((cl_stand tx L (tn_e tx L en) t).2.1)), .int (nI 4294967295), .int (nI cl)]))] ++ ((txW k x L tx) ++ (plW k pq ((cl_stand tx L (tn_e tx L en) t).2.2) uY_39))) := hD
            refine lv_goto (tgt := 120) hx hb dX4_readClause_55 (by decide) ?_
            have eF : cl_read tx L en t = cl_stand tx L (tn_e tx L en) t := by unfold cl_read; rw [cl_n his25, cl_p his30]
            exact ret (us_35, (cl_stand tx L (tn_e tx L en) t).2.1, 4294967295, (cl_stand tx L (tn_e tx L en) t).2.2, uY_39) dX4_readClause_120 (Or.inl ⟨by rw [eF]; exact hF40, rfl, by rw [eF], by rw [eF], by rw [eF]; exact hY41⟩) hP hD hS
          · obtain ⟨us_42, ue_43, uf_44, ud_45, uY_46⟩ := u33
            try dsimp only at h0
            obtain ⟨hF47, rfl⟩ := h0
            have hP : va_P D vwCl ([(rd, .inr (4, [.ref (x 0), .ref (pq 0), .int (nI us_42), .int (nI ue_43), .int (nI ((cl_stand tx L (tn_e tx L en) t).1)), .int (nI cl)]))] ++ ((txW k x L tx) ++ (plW k pq ud_45 uY_46))) H := hP
            have hD : va_D A ([(rd, .inr (4, [.ref (x 0), .ref (pq 0), .int (nI us_42), .int (nI ue_43), .int (nI ((cl_stand tx L (tn_e tx L en) t).1)), .int (nI cl)]))] ++ ((txW k x L tx) ++ (plW k pq ud_45 uY_46))) := hD
            refine lv_goto (tgt := 120) hx hb dX4_readClause_55 (by decide) ?_
            have eF : cl_read tx L en t = cl_stand tx L (tn_e tx L en) t := by unfold cl_read; rw [cl_n his25, cl_p his30]
            exact ret (us_42, ue_43, (cl_stand tx L (tn_e tx L en) t).1, ud_45, uY_46) dX4_readClause_120 (Or.inr ⟨by rw [eF]; exact hF47, by rw [eF]⟩) hP hD hS
      · obtain ⟨his48, rfl⟩ := h0
        have hP : va_P D vwCl ([(rd, .inr (4, [.ref (x 0), .ref (pq 0), .int (nI (tn_s tx L en)), .int (nI (tn_e tx L en)), .int (nI 4294967295), .int (nI cl)]))] ++ ((plW k pq t Y) ++ (txW k x L tx))) H := hP
        have hD : va_D A ([(rd, .inr (4, [.ref (x 0), .ref (pq 0), .int (nI (tn_s tx L en)), .int (nI (tn_e tx L en)), .int (nI 4294967295), .int (nI cl)]))] ++ ((plW k pq t Y) ++ (txW k x L tx))) := hD
        refine lv_if_eq (tgt := 58) hx hb dX4_readClause_48 (by decide) (fun c49 => ?_) (fun c49 => ?_)
        · refine lv_aload_n hx hb dX4_readClause_58 rfl (lv_at hl 0 rfl) ?_
          refine ta_get C hP 0 inlX4 rfl rfl 0 (by decide) tw_74 rfl dX4_readClause_59 ?_
          refine va_ldcS hx hb C.1.2.2.2.1 (C.2.1.2.2.1 2 (by decide)) dX4_readClause_62 ?_
          refine lv_aload_n hx hb dX4_readClause_64 rfl (lv_at hl 0 rfl) ?_
          refine ta_get C hP 0 inlX4 rfl rfl 2 (by decide) tw_70 rfl dX4_readClause_65 ?_
          refine lv_aload_n hx hb dX4_readClause_68 rfl (lv_at hl 0 rfl) ?_
          refine ta_get C hP 0 inlX4 rfl rfl 3 (by decide) tw_71 rfl dX4_readClause_69 ?_
          refine ta_callVi (As := [.ref (k.2 (10 + 2)), .int (nI (tn_s tx L en)), .int (nI (tn_e tx L en))]) (rest0 := []) (Wr := ([(rd, .inr (4, [.ref (x 0), .ref (pq 0), .int (nI (tn_s tx L en)), .int (nI (tn_e tx L en)), .int (nI 4294967295), .int (nI cl)]))] ++ (plW k pq t Y))) C hP hD hS (c_X6_holds l D k x L tx 2 (tn_s tx L en) (tn_e tx L en) (by decide) hx0 b2 b3) 9 rfl rfl rfl [9, 10] [0, 1, 2, 3, 4, 5, 6, 7, 8] rfl rfl (by decide) (by decide) (by decide) tw_200 tw_197 tw_14 tw_198 tw_199 ⟨by decide, by decide, rfl⟩ ⟨Nat.le_of_ble_eq_true rfl, Nat.le_of_ble_eq_true rfl⟩ ⟨Nat.zero_le _, Nat.zero_le _⟩ hl.1 rfl (Nat.le_of_ble_eq_true rfl) dX4_readClause_72 (fun r50 u51 H locs h52 hP hD hS => ?_)
          rcases h52 with h0 | h0
          · obtain ⟨his53, rfl⟩ := h0
            have hP : va_P D vwCl ([(rd, .inr (4, [.ref (x 0), .ref (pq 0), .int (nI (tn_s tx L en)), .int (nI (tn_e tx L en)), .int (nI 4294967295), .int (nI cl)]))] ++ ((plW k pq t Y) ++ (txW k x L tx))) H := hP
            have hD : va_D A ([(rd, .inr (4, [.ref (x 0), .ref (pq 0), .int (nI (tn_s tx L en)), .int (nI (tn_e tx L en)), .int (nI 4294967295), .int (nI cl)]))] ++ ((plW k pq t Y) ++ (txW k x L tx))) := hD
            refine lv_if_eq (tgt := 85) hx hb dX4_readClause_75 (by decide) (fun c54 => ?_) (fun c54 => ?_)
            · exact absurd c54 (by decide)
            · refine lv_aload_n hx hb dX4_readClause_78 rfl (lv_at hl 0 rfl) ?_
              refine ta_callVv (As := []) (rest0 := []) (Wr := []) C hP hD hS (c_X4_readHour l D k rd pq (tn_s tx L en) (tn_e tx L en) cl x L tx t Y hx0 b3 hpl hY) 0 rfl rfl rfl [0, 9, 10, 1, 2, 3, 4, 5, 6, 7, 8] [] rfl rfl (by decide) (by decide) (by decide) tw_274 tw_271 tw_22 tw_272 tw_273 ⟨by decide, by decide, rfl⟩ ⟨Nat.le_of_ble_eq_true rfl, Nat.le_of_ble_eq_true rfl⟩ ⟨Nat.zero_le _, Nat.zero_le _⟩ hl.1 rfl (Nat.le_of_ble_eq_true rfl) dX4_readClause_79 (fun u56 H locs h57 hP hD hS => ?_)
              rcases h57 with h0 | h0
              · obtain ⟨us_58, ue_59, uf_60, ud_61, uY_62⟩ := u56
                try dsimp only at h0
                obtain ⟨hF63, rfl, rfl, rfl, hY64⟩ := h0
                have hP : va_P D vwCl ([(rd, .inr (4, [.ref (x 0), .ref (pq 0), .int (nI us_58), .int (nI ((cl_hour tx L (tn_e tx L en) t).2.1)), .int (nI 4294967295), .int (nI cl)]))] ++ ((txW k x L tx) ++ (plW k pq ((cl_hour tx L (tn_e tx L en) t).2.2) uY_62))) H := hP
                have hD : va_D A ([(rd, .inr (4, [.ref (x 0), .ref (pq 0), .int (nI us_58), .int (nI ((cl_hour tx L (tn_e tx L en) t).2.1)), .int (nI 4294967295), .int (nI cl)]))] ++ ((txW k x L tx) ++ (plW k pq ((cl_hour tx L (tn_e tx L en) t).2.2) uY_62))) := hD
                refine lv_goto (tgt := 120) hx hb dX4_readClause_82 (by decide) ?_
                have eF : cl_read tx L en t = cl_hour tx L (tn_e tx L en) t := by unfold cl_read; rw [cl_n his25, cl_n his48, cl_p his53]
                exact ret (us_58, (cl_hour tx L (tn_e tx L en) t).2.1, 4294967295, (cl_hour tx L (tn_e tx L en) t).2.2, uY_62) dX4_readClause_120 (Or.inl ⟨by rw [eF]; exact hF63, rfl, by rw [eF], by rw [eF], by rw [eF]; exact hY64⟩) hP hD hS
              · obtain ⟨us_65, ue_66, uf_67, ud_68, uY_69⟩ := u56
                try dsimp only at h0
                obtain ⟨hF70, rfl⟩ := h0
                have hP : va_P D vwCl ([(rd, .inr (4, [.ref (x 0), .ref (pq 0), .int (nI us_65), .int (nI ue_66), .int (nI ((cl_hour tx L (tn_e tx L en) t).1)), .int (nI cl)]))] ++ ((txW k x L tx) ++ (plW k pq ud_68 uY_69))) H := hP
                have hD : va_D A ([(rd, .inr (4, [.ref (x 0), .ref (pq 0), .int (nI us_65), .int (nI ue_66), .int (nI ((cl_hour tx L (tn_e tx L en) t).1)), .int (nI cl)]))] ++ ((txW k x L tx) ++ (plW k pq ud_68 uY_69))) := hD
                refine lv_goto (tgt := 120) hx hb dX4_readClause_82 (by decide) ?_
                have eF : cl_read tx L en t = cl_hour tx L (tn_e tx L en) t := by unfold cl_read; rw [cl_n his25, cl_n his48, cl_p his53]
                exact ret (us_65, ue_66, (cl_hour tx L (tn_e tx L en) t).1, ud_68, uY_69) dX4_readClause_120 (Or.inr ⟨by rw [eF]; exact hF70, by rw [eF]⟩) hP hD hS
          · obtain ⟨his71, rfl⟩ := h0
            have hP : va_P D vwCl ([(rd, .inr (4, [.ref (x 0), .ref (pq 0), .int (nI (tn_s tx L en)), .int (nI (tn_e tx L en)), .int (nI 4294967295), .int (nI cl)]))] ++ ((plW k pq t Y) ++ (txW k x L tx))) H := hP
            have hD : va_D A ([(rd, .inr (4, [.ref (x 0), .ref (pq 0), .int (nI (tn_s tx L en)), .int (nI (tn_e tx L en)), .int (nI 4294967295), .int (nI cl)]))] ++ ((plW k pq t Y) ++ (txW k x L tx))) := hD
            refine lv_if_eq (tgt := 85) hx hb dX4_readClause_75 (by decide) (fun c72 => ?_) (fun c72 => ?_)
            · refine lv_aload_n hx hb dX4_readClause_85 rfl (lv_at hl 0 rfl) ?_
              refine ta_get C hP 0 inlX4 rfl rfl 0 (by decide) tw_74 rfl dX4_readClause_86 ?_
              refine va_ldcS hx hb C.1.2.2.2.1 (C.2.1.2.2.1 3 (by decide)) dX4_readClause_89 ?_
              refine lv_aload_n hx hb dX4_readClause_91 rfl (lv_at hl 0 rfl) ?_
              refine ta_get C hP 0 inlX4 rfl rfl 2 (by decide) tw_70 rfl dX4_readClause_92 ?_
              refine lv_aload_n hx hb dX4_readClause_95 rfl (lv_at hl 0 rfl) ?_
              refine ta_get C hP 0 inlX4 rfl rfl 3 (by decide) tw_71 rfl dX4_readClause_96 ?_
              refine ta_callVi (As := [.ref (k.2 (10 + 3)), .int (nI (tn_s tx L en)), .int (nI (tn_e tx L en))]) (rest0 := []) (Wr := ([(rd, .inr (4, [.ref (x 0), .ref (pq 0), .int (nI (tn_s tx L en)), .int (nI (tn_e tx L en)), .int (nI 4294967295), .int (nI cl)]))] ++ (plW k pq t Y))) C hP hD hS (c_X6_holds l D k x L tx 3 (tn_s tx L en) (tn_e tx L en) (by decide) hx0 b2 b3) 9 rfl rfl rfl [9, 10] [0, 1, 2, 3, 4, 5, 6, 7, 8] rfl rfl (by decide) (by decide) (by decide) tw_200 tw_197 tw_14 tw_198 tw_199 ⟨by decide, by decide, rfl⟩ ⟨Nat.le_of_ble_eq_true rfl, Nat.le_of_ble_eq_true rfl⟩ ⟨Nat.zero_le _, Nat.zero_le _⟩ hl.1 rfl (Nat.le_of_ble_eq_true rfl) dX4_readClause_99 (fun r73 u74 H locs h75 hP hD hS => ?_)
              rcases h75 with h0 | h0
              · obtain ⟨his76, rfl⟩ := h0
                have hP : va_P D vwCl ([(rd, .inr (4, [.ref (x 0), .ref (pq 0), .int (nI (tn_s tx L en)), .int (nI (tn_e tx L en)), .int (nI 4294967295), .int (nI cl)]))] ++ ((plW k pq t Y) ++ (txW k x L tx))) H := hP
                have hD : va_D A ([(rd, .inr (4, [.ref (x 0), .ref (pq 0), .int (nI (tn_s tx L en)), .int (nI (tn_e tx L en)), .int (nI 4294967295), .int (nI cl)]))] ++ ((plW k pq t Y) ++ (txW k x L tx))) := hD
                refine lv_if_eq (tgt := 112) hx hb dX4_readClause_102 (by decide) (fun c77 => ?_) (fun c77 => ?_)
                · exact absurd c77 (by decide)
                · refine lv_aload_n hx hb dX4_readClause_105 rfl (lv_at hl 0 rfl) ?_
                  refine ta_callVv (As := []) (rest0 := []) (Wr := []) C hP hD hS (c_X4_readRest l D k rd pq (tn_s tx L en) (tn_e tx L en) cl x L tx t Y hx0 b3 hpl hY) 0 rfl rfl rfl [0, 9, 10, 1, 2, 3, 4, 5, 6, 7, 8] [] rfl rfl (by decide) (by decide) (by decide) tw_278 tw_275 tw_22 tw_276 tw_277 ⟨by decide, by decide, rfl⟩ ⟨Nat.le_of_ble_eq_true rfl, Nat.le_of_ble_eq_true rfl⟩ ⟨Nat.zero_le _, Nat.zero_le _⟩ hl.1 rfl (Nat.le_of_ble_eq_true rfl) dX4_readClause_106 (fun u79 H locs h80 hP hD hS => ?_)
                  rcases h80 with h0 | h0
                  · obtain ⟨us_81, ue_82, uf_83, ud_84, uY_85⟩ := u79
                    try dsimp only at h0
                    obtain ⟨hF86, rfl, rfl, rfl, hY87⟩ := h0
                    have hP : va_P D vwCl ([(rd, .inr (4, [.ref (x 0), .ref (pq 0), .int (nI us_81), .int (nI ((cl_rest tx L (tn_e tx L en) t).2.1)), .int (nI 4294967295), .int (nI cl)]))] ++ ((txW k x L tx) ++ (plW k pq ((cl_rest tx L (tn_e tx L en) t).2.2) uY_85))) H := hP
                    have hD : va_D A ([(rd, .inr (4, [.ref (x 0), .ref (pq 0), .int (nI us_81), .int (nI ((cl_rest tx L (tn_e tx L en) t).2.1)), .int (nI 4294967295), .int (nI cl)]))] ++ ((txW k x L tx) ++ (plW k pq ((cl_rest tx L (tn_e tx L en) t).2.2) uY_85))) := hD
                    refine lv_goto (tgt := 120) hx hb dX4_readClause_109 (by decide) ?_
                    have eF : cl_read tx L en t = cl_rest tx L (tn_e tx L en) t := by unfold cl_read; rw [cl_n his25, cl_n his48, cl_n his71, cl_p his76]
                    exact ret (us_81, (cl_rest tx L (tn_e tx L en) t).2.1, 4294967295, (cl_rest tx L (tn_e tx L en) t).2.2, uY_85) dX4_readClause_120 (Or.inl ⟨by rw [eF]; exact hF86, rfl, by rw [eF], by rw [eF], by rw [eF]; exact hY87⟩) hP hD hS
                  · obtain ⟨us_88, ue_89, uf_90, ud_91, uY_92⟩ := u79
                    try dsimp only at h0
                    obtain ⟨hF93, rfl⟩ := h0
                    have hP : va_P D vwCl ([(rd, .inr (4, [.ref (x 0), .ref (pq 0), .int (nI us_88), .int (nI ue_89), .int (nI ((cl_rest tx L (tn_e tx L en) t).1)), .int (nI cl)]))] ++ ((txW k x L tx) ++ (plW k pq ud_91 uY_92))) H := hP
                    have hD : va_D A ([(rd, .inr (4, [.ref (x 0), .ref (pq 0), .int (nI us_88), .int (nI ue_89), .int (nI ((cl_rest tx L (tn_e tx L en) t).1)), .int (nI cl)]))] ++ ((txW k x L tx) ++ (plW k pq ud_91 uY_92))) := hD
                    refine lv_goto (tgt := 120) hx hb dX4_readClause_109 (by decide) ?_
                    have eF : cl_read tx L en t = cl_rest tx L (tn_e tx L en) t := by unfold cl_read; rw [cl_n his25, cl_n his48, cl_n his71, cl_p his76]
                    exact ret (us_88, ue_89, (cl_rest tx L (tn_e tx L en) t).1, ud_91, uY_92) dX4_readClause_120 (Or.inr ⟨by rw [eF]; exact hF93, by rw [eF]⟩) hP hD hS
              · obtain ⟨his94, rfl⟩ := h0
                have hP : va_P D vwCl ([(rd, .inr (4, [.ref (x 0), .ref (pq 0), .int (nI (tn_s tx L en)), .int (nI (tn_e tx L en)), .int (nI 4294967295), .int (nI cl)]))] ++ ((plW k pq t Y) ++ (txW k x L tx))) H := hP
                have hD : va_D A ([(rd, .inr (4, [.ref (x 0), .ref (pq 0), .int (nI (tn_s tx L en)), .int (nI (tn_e tx L en)), .int (nI 4294967295), .int (nI cl)]))] ++ ((plW k pq t Y) ++ (txW k x L tx))) := hD
                refine lv_if_eq (tgt := 112) hx hb dX4_readClause_102 (by decide) (fun c95 => ?_) (fun c95 => ?_)
                · refine lv_aload_n hx hb dX4_readClause_112 rfl (lv_at hl 0 rfl) ?_
                  refine lv_aload_n hx hb dX4_readClause_113 rfl (lv_at hl 0 rfl) ?_
                  refine ta_callVi (As := []) (rest0 := [.ref rd]) (Wr := (plW k pq t Y)) C hP hD hS (c_X4_kindNamed l D k rd (pq 0) (tn_s tx L en) (tn_e tx L en) 4294967295 cl x L tx hx0 b2 b3) 0 rfl rfl rfl [0, 9, 10] [1, 2, 3, 4, 5, 6, 7, 8] rfl rfl (by decide) (by decide) (by decide) tw_282 tw_279 tw_22 tw_280 tw_281 ⟨by decide, by decide, rfl⟩ ⟨Nat.le_of_ble_eq_true rfl, Nat.le_of_ble_eq_true rfl⟩ ⟨Nat.zero_le _, Nat.zero_le _⟩ hl.1 rfl (Nat.le_of_ble_eq_true rfl) dX4_readClause_114 (fun r96 u97 H locs h98 hP hD hS => ?_)
                  rcases h98 with h0 | h0 | h0 | h0 | h0 | h0
                  · obtain ⟨y499, rfl⟩ := h0
                    have hP : va_P D vwCl ((plW k pq t Y) ++ ([(rd, .inr (4, [.ref (x 0), .ref (pq 0), .int (nI (tn_s tx L en)), .int (nI (tn_e tx L en)), .int (nI 4294967295), .int (nI cl)]))] ++ (txW k x L tx))) H := hP
                    have hD : va_D A ((plW k pq t Y) ++ ([(rd, .inr (4, [.ref (x 0), .ref (pq 0), .int (nI (tn_s tx L en)), .int (nI (tn_e tx L en)), .int (nI 4294967295), .int (nI cl)]))] ++ (txW k x L tx))) := hD
                    have hP : va_P D vwCl ([(rd, .inr (4, [.ref (x 0), .ref (pq 0), .int (nI (tn_s tx L en)), .int (nI (tn_e tx L en)), .int (nI 4294967295), .int (nI cl)]))] ++ ((txW k x L tx) ++ (plW k pq t Y))) H := hP.sub [8, 9, 10, 0, 1, 2, 3, 4, 5, 6, 7] rfl
                    have hD : va_D A ([(rd, .inr (4, [.ref (x 0), .ref (pq 0), .int (nI (tn_s tx L en)), .int (nI (tn_e tx L en)), .int (nI 4294967295), .int (nI cl)]))] ++ ((txW k x L tx) ++ (plW k pq t Y))) := hD.sub [8, 9, 10, 0, 1, 2, 3, 4, 5, 6, 7] (by decide) rfl
                    refine ta_callVv (As := [.int (nI 0)]) (rest0 := []) (Wr := []) C hP hD hS (c_X4_readFigure l D k rd pq (tn_s tx L en) (tn_e tx L en) cl x L tx t Y 0 hx0 b3 hpl hY (by decide)) 0 rfl rfl rfl [0, 1, 2, 3, 4, 5, 6, 7, 8, 9, 10] [] rfl rfl (by decide) (by decide) (by decide) tw_286 tw_283 tw_22 tw_284 tw_285 ⟨by decide, by decide, rfl⟩ ⟨Nat.le_of_ble_eq_true rfl, Nat.le_of_ble_eq_true rfl⟩ ⟨Nat.zero_le _, Nat.zero_le _⟩ hl.1 rfl (Nat.le_of_ble_eq_true rfl) dX4_readClause_117 (fun u101 H locs h102 hP hD hS => ?_)
                    rcases h102 with h0 | h0
                    · obtain ⟨us_103, ue_104, uf_105, ud_106, uY_107⟩ := u101
                      try dsimp only at h0
                      obtain ⟨hF108, rfl, rfl, rfl, hY109⟩ := h0
                      have hP : va_P D vwCl ([(rd, .inr (4, [.ref (x 0), .ref (pq 0), .int (nI us_103), .int (nI ((cl_fig 0 tx L (tn_e tx L en) t).2.1)), .int (nI 4294967295), .int (nI cl)]))] ++ ((txW k x L tx) ++ (plW k pq ((cl_fig 0 tx L (tn_e tx L en) t).2.2) uY_107))) H := hP
                      have hD : va_D A ([(rd, .inr (4, [.ref (x 0), .ref (pq 0), .int (nI us_103), .int (nI ((cl_fig 0 tx L (tn_e tx L en) t).2.1)), .int (nI 4294967295), .int (nI cl)]))] ++ ((txW k x L tx) ++ (plW k pq ((cl_fig 0 tx L (tn_e tx L en) t).2.2) uY_107))) := hD
                      have eF : cl_read tx L en t = cl_fig 0 tx L (tn_e tx L en) t := by unfold cl_read; rw [cl_n his25, cl_n his48, cl_n his71, cl_n his94, cl_p y499]
                      exact ret (us_103, (cl_fig 0 tx L (tn_e tx L en) t).2.1, 4294967295, (cl_fig 0 tx L (tn_e tx L en) t).2.2, uY_107) dX4_readClause_120 (Or.inl ⟨by rw [eF]; exact hF108, rfl, by rw [eF], by rw [eF], by rw [eF]; exact hY109⟩) hP hD hS
                    · obtain ⟨us_110, ue_111, uf_112, ud_113, uY_114⟩ := u101
                      try dsimp only at h0
                      obtain ⟨hF115, rfl⟩ := h0
                      have hP : va_P D vwCl ([(rd, .inr (4, [.ref (x 0), .ref (pq 0), .int (nI us_110), .int (nI ue_111), .int (nI ((cl_fig 0 tx L (tn_e tx L en) t).1)), .int (nI cl)]))] ++ ((txW k x L tx) ++ (plW k pq ud_113 uY_114))) H := hP
                      have hD : va_D A ([(rd, .inr (4, [.ref (x 0), .ref (pq 0), .int (nI us_110), .int (nI ue_111), .int (nI ((cl_fig 0 tx L (tn_e tx L en) t).1)), .int (nI cl)]))] ++ ((txW k x L tx) ++ (plW k pq ud_113 uY_114))) := hD
                      have eF : cl_read tx L en t = cl_fig 0 tx L (tn_e tx L en) t := by unfold cl_read; rw [cl_n his25, cl_n his48, cl_n his71, cl_n his94, cl_p y499]
                      exact ret (us_110, ue_111, (cl_fig 0 tx L (tn_e tx L en) t).1, ud_113, uY_114) dX4_readClause_120 (Or.inr ⟨by rw [eF]; exact hF115, by rw [eF]⟩) hP hD hS
                  · obtain ⟨n4116, y5117, rfl⟩ := h0
                    have hP : va_P D vwCl ((plW k pq t Y) ++ ([(rd, .inr (4, [.ref (x 0), .ref (pq 0), .int (nI (tn_s tx L en)), .int (nI (tn_e tx L en)), .int (nI 4294967295), .int (nI cl)]))] ++ (txW k x L tx))) H := hP
                    have hD : va_D A ((plW k pq t Y) ++ ([(rd, .inr (4, [.ref (x 0), .ref (pq 0), .int (nI (tn_s tx L en)), .int (nI (tn_e tx L en)), .int (nI 4294967295), .int (nI cl)]))] ++ (txW k x L tx))) := hD
                    have hP : va_P D vwCl ([(rd, .inr (4, [.ref (x 0), .ref (pq 0), .int (nI (tn_s tx L en)), .int (nI (tn_e tx L en)), .int (nI 4294967295), .int (nI cl)]))] ++ ((txW k x L tx) ++ (plW k pq t Y))) H := hP.sub [8, 9, 10, 0, 1, 2, 3, 4, 5, 6, 7] rfl
                    have hD : va_D A ([(rd, .inr (4, [.ref (x 0), .ref (pq 0), .int (nI (tn_s tx L en)), .int (nI (tn_e tx L en)), .int (nI 4294967295), .int (nI cl)]))] ++ ((txW k x L tx) ++ (plW k pq t Y))) := hD.sub [8, 9, 10, 0, 1, 2, 3, 4, 5, 6, 7] (by decide) rfl
                    refine ta_callVv (As := [.int (nI 1)]) (rest0 := []) (Wr := []) C hP hD hS (c_X4_readFigure l D k rd pq (tn_s tx L en) (tn_e tx L en) cl x L tx t Y 1 hx0 b3 hpl hY (by decide)) 0 rfl rfl rfl [0, 1, 2, 3, 4, 5, 6, 7, 8, 9, 10] [] rfl rfl (by decide) (by decide) (by decide) tw_286 tw_283 tw_22 tw_284 tw_285 ⟨by decide, by decide, rfl⟩ ⟨Nat.le_of_ble_eq_true rfl, Nat.le_of_ble_eq_true rfl⟩ ⟨Nat.zero_le _, Nat.zero_le _⟩ hl.1 rfl (Nat.le_of_ble_eq_true rfl) dX4_readClause_117 (fun u119 H locs h120 hP hD hS => ?_)
                    rcases h120 with h0 | h0
                    · obtain ⟨us_121, ue_122, uf_123, ud_124, uY_125⟩ := u119
                      try dsimp only at h0
                      obtain ⟨hF126, rfl, rfl, rfl, hY127⟩ := h0
                      have hP : va_P D vwCl ([(rd, .inr (4, [.ref (x 0), .ref (pq 0), .int (nI us_121), .int (nI ((cl_fig 1 tx L (tn_e tx L en) t).2.1)), .int (nI 4294967295), .int (nI cl)]))] ++ ((txW k x L tx) ++ (plW k pq ((cl_fig 1 tx L (tn_e tx L en) t).2.2) uY_125))) H := hP
                      have hD : va_D A ([(rd, .inr (4, [.ref (x 0), .ref (pq 0), .int (nI us_121), .int (nI ((cl_fig 1 tx L (tn_e tx L en) t).2.1)), .int (nI 4294967295), .int (nI cl)]))] ++ ((txW k x L tx) ++ (plW k pq ((cl_fig 1 tx L (tn_e tx L en) t).2.2) uY_125))) := hD
                      have eF : cl_read tx L en t = cl_fig 1 tx L (tn_e tx L en) t := by unfold cl_read; rw [cl_n his25, cl_n his48, cl_n his71, cl_n his94, cl_n n4116, cl_p y5117]
                      exact ret (us_121, (cl_fig 1 tx L (tn_e tx L en) t).2.1, 4294967295, (cl_fig 1 tx L (tn_e tx L en) t).2.2, uY_125) dX4_readClause_120 (Or.inl ⟨by rw [eF]; exact hF126, rfl, by rw [eF], by rw [eF], by rw [eF]; exact hY127⟩) hP hD hS
                    · obtain ⟨us_128, ue_129, uf_130, ud_131, uY_132⟩ := u119
                      try dsimp only at h0
                      obtain ⟨hF133, rfl⟩ := h0
                      have hP : va_P D vwCl ([(rd, .inr (4, [.ref (x 0), .ref (pq 0), .int (nI us_128), .int (nI ue_129), .int (nI ((cl_fig 1 tx L (tn_e tx L en) t).1)), .int (nI cl)]))] ++ ((txW k x L tx) ++ (plW k pq ud_131 uY_132))) H := hP
                      have hD : va_D A ([(rd, .inr (4, [.ref (x 0), .ref (pq 0), .int (nI us_128), .int (nI ue_129), .int (nI ((cl_fig 1 tx L (tn_e tx L en) t).1)), .int (nI cl)]))] ++ ((txW k x L tx) ++ (plW k pq ud_131 uY_132))) := hD
                      have eF : cl_read tx L en t = cl_fig 1 tx L (tn_e tx L en) t := by unfold cl_read; rw [cl_n his25, cl_n his48, cl_n his71, cl_n his94, cl_n n4116, cl_p y5117]
                      exact ret (us_128, ue_129, (cl_fig 1 tx L (tn_e tx L en) t).1, ud_131, uY_132) dX4_readClause_120 (Or.inr ⟨by rw [eF]; exact hF133, by rw [eF]⟩) hP hD hS
                  · obtain ⟨n4134, n5135, y6136, rfl⟩ := h0
                    have hP : va_P D vwCl ((plW k pq t Y) ++ ([(rd, .inr (4, [.ref (x 0), .ref (pq 0), .int (nI (tn_s tx L en)), .int (nI (tn_e tx L en)), .int (nI 4294967295), .int (nI cl)]))] ++ (txW k x L tx))) H := hP
                    have hD : va_D A ((plW k pq t Y) ++ ([(rd, .inr (4, [.ref (x 0), .ref (pq 0), .int (nI (tn_s tx L en)), .int (nI (tn_e tx L en)), .int (nI 4294967295), .int (nI cl)]))] ++ (txW k x L tx))) := hD
                    have hP : va_P D vwCl ([(rd, .inr (4, [.ref (x 0), .ref (pq 0), .int (nI (tn_s tx L en)), .int (nI (tn_e tx L en)), .int (nI 4294967295), .int (nI cl)]))] ++ ((txW k x L tx) ++ (plW k pq t Y))) H := hP.sub [8, 9, 10, 0, 1, 2, 3, 4, 5, 6, 7] rfl
                    have hD : va_D A ([(rd, .inr (4, [.ref (x 0), .ref (pq 0), .int (nI (tn_s tx L en)), .int (nI (tn_e tx L en)), .int (nI 4294967295), .int (nI cl)]))] ++ ((txW k x L tx) ++ (plW k pq t Y))) := hD.sub [8, 9, 10, 0, 1, 2, 3, 4, 5, 6, 7] (by decide) rfl
                    refine ta_callVv (As := [.int (nI 2)]) (rest0 := []) (Wr := []) C hP hD hS (c_X4_readFigure l D k rd pq (tn_s tx L en) (tn_e tx L en) cl x L tx t Y 2 hx0 b3 hpl hY (by decide)) 0 rfl rfl rfl [0, 1, 2, 3, 4, 5, 6, 7, 8, 9, 10] [] rfl rfl (by decide) (by decide) (by decide) tw_286 tw_283 tw_22 tw_284 tw_285 ⟨by decide, by decide, rfl⟩ ⟨Nat.le_of_ble_eq_true rfl, Nat.le_of_ble_eq_true rfl⟩ ⟨Nat.zero_le _, Nat.zero_le _⟩ hl.1 rfl (Nat.le_of_ble_eq_true rfl) dX4_readClause_117 (fun u138 H locs h139 hP hD hS => ?_)
                    rcases h139 with h0 | h0
                    · obtain ⟨us_140, ue_141, uf_142, ud_143, uY_144⟩ := u138
                      try dsimp only at h0
                      obtain ⟨hF145, rfl, rfl, rfl, hY146⟩ := h0
                      have hP : va_P D vwCl ([(rd, .inr (4, [.ref (x 0), .ref (pq 0), .int (nI us_140), .int (nI ((cl_fig 2 tx L (tn_e tx L en) t).2.1)), .int (nI 4294967295), .int (nI cl)]))] ++ ((txW k x L tx) ++ (plW k pq ((cl_fig 2 tx L (tn_e tx L en) t).2.2) uY_144))) H := hP
                      have hD : va_D A ([(rd, .inr (4, [.ref (x 0), .ref (pq 0), .int (nI us_140), .int (nI ((cl_fig 2 tx L (tn_e tx L en) t).2.1)), .int (nI 4294967295), .int (nI cl)]))] ++ ((txW k x L tx) ++ (plW k pq ((cl_fig 2 tx L (tn_e tx L en) t).2.2) uY_144))) := hD
                      have eF : cl_read tx L en t = cl_fig 2 tx L (tn_e tx L en) t := by unfold cl_read; rw [cl_n his25, cl_n his48, cl_n his71, cl_n his94, cl_n n4134, cl_n n5135, cl_p y6136]
                      exact ret (us_140, (cl_fig 2 tx L (tn_e tx L en) t).2.1, 4294967295, (cl_fig 2 tx L (tn_e tx L en) t).2.2, uY_144) dX4_readClause_120 (Or.inl ⟨by rw [eF]; exact hF145, rfl, by rw [eF], by rw [eF], by rw [eF]; exact hY146⟩) hP hD hS
                    · obtain ⟨us_147, ue_148, uf_149, ud_150, uY_151⟩ := u138
                      try dsimp only at h0
                      obtain ⟨hF152, rfl⟩ := h0
                      have hP : va_P D vwCl ([(rd, .inr (4, [.ref (x 0), .ref (pq 0), .int (nI us_147), .int (nI ue_148), .int (nI ((cl_fig 2 tx L (tn_e tx L en) t).1)), .int (nI cl)]))] ++ ((txW k x L tx) ++ (plW k pq ud_150 uY_151))) H := hP
                      have hD : va_D A ([(rd, .inr (4, [.ref (x 0), .ref (pq 0), .int (nI us_147), .int (nI ue_148), .int (nI ((cl_fig 2 tx L (tn_e tx L en) t).1)), .int (nI cl)]))] ++ ((txW k x L tx) ++ (plW k pq ud_150 uY_151))) := hD
                      have eF : cl_read tx L en t = cl_fig 2 tx L (tn_e tx L en) t := by unfold cl_read; rw [cl_n his25, cl_n his48, cl_n his71, cl_n his94, cl_n n4134, cl_n n5135, cl_p y6136]
                      exact ret (us_147, ue_148, (cl_fig 2 tx L (tn_e tx L en) t).1, ud_150, uY_151) dX4_readClause_120 (Or.inr ⟨by rw [eF]; exact hF152, by rw [eF]⟩) hP hD hS
                  · obtain ⟨n4153, n5154, n6155, y7156, rfl⟩ := h0
                    have hP : va_P D vwCl ((plW k pq t Y) ++ ([(rd, .inr (4, [.ref (x 0), .ref (pq 0), .int (nI (tn_s tx L en)), .int (nI (tn_e tx L en)), .int (nI 4294967295), .int (nI cl)]))] ++ (txW k x L tx))) H := hP
                    have hD : va_D A ((plW k pq t Y) ++ ([(rd, .inr (4, [.ref (x 0), .ref (pq 0), .int (nI (tn_s tx L en)), .int (nI (tn_e tx L en)), .int (nI 4294967295), .int (nI cl)]))] ++ (txW k x L tx))) := hD
                    have hP : va_P D vwCl ([(rd, .inr (4, [.ref (x 0), .ref (pq 0), .int (nI (tn_s tx L en)), .int (nI (tn_e tx L en)), .int (nI 4294967295), .int (nI cl)]))] ++ ((txW k x L tx) ++ (plW k pq t Y))) H := hP.sub [8, 9, 10, 0, 1, 2, 3, 4, 5, 6, 7] rfl
                    have hD : va_D A ([(rd, .inr (4, [.ref (x 0), .ref (pq 0), .int (nI (tn_s tx L en)), .int (nI (tn_e tx L en)), .int (nI 4294967295), .int (nI cl)]))] ++ ((txW k x L tx) ++ (plW k pq t Y))) := hD.sub [8, 9, 10, 0, 1, 2, 3, 4, 5, 6, 7] (by decide) rfl
                    refine ta_callVv (As := [.int (nI 3)]) (rest0 := []) (Wr := []) C hP hD hS (c_X4_readFigure l D k rd pq (tn_s tx L en) (tn_e tx L en) cl x L tx t Y 3 hx0 b3 hpl hY (by decide)) 0 rfl rfl rfl [0, 1, 2, 3, 4, 5, 6, 7, 8, 9, 10] [] rfl rfl (by decide) (by decide) (by decide) tw_286 tw_283 tw_22 tw_284 tw_285 ⟨by decide, by decide, rfl⟩ ⟨Nat.le_of_ble_eq_true rfl, Nat.le_of_ble_eq_true rfl⟩ ⟨Nat.zero_le _, Nat.zero_le _⟩ hl.1 rfl (Nat.le_of_ble_eq_true rfl) dX4_readClause_117 (fun u158 H locs h159 hP hD hS => ?_)
                    rcases h159 with h0 | h0
                    · obtain ⟨us_160, ue_161, uf_162, ud_163, uY_164⟩ := u158
                      try dsimp only at h0
                      obtain ⟨hF165, rfl, rfl, rfl, hY166⟩ := h0
                      have hP : va_P D vwCl ([(rd, .inr (4, [.ref (x 0), .ref (pq 0), .int (nI us_160), .int (nI ((cl_fig 3 tx L (tn_e tx L en) t).2.1)), .int (nI 4294967295), .int (nI cl)]))] ++ ((txW k x L tx) ++ (plW k pq ((cl_fig 3 tx L (tn_e tx L en) t).2.2) uY_164))) H := hP
                      have hD : va_D A ([(rd, .inr (4, [.ref (x 0), .ref (pq 0), .int (nI us_160), .int (nI ((cl_fig 3 tx L (tn_e tx L en) t).2.1)), .int (nI 4294967295), .int (nI cl)]))] ++ ((txW k x L tx) ++ (plW k pq ((cl_fig 3 tx L (tn_e tx L en) t).2.2) uY_164))) := hD
                      have eF : cl_read tx L en t = cl_fig 3 tx L (tn_e tx L en) t := by unfold cl_read; rw [cl_n his25, cl_n his48, cl_n his71, cl_n his94, cl_n n4153, cl_n n5154, cl_n n6155, cl_p y7156]
                      exact ret (us_160, (cl_fig 3 tx L (tn_e tx L en) t).2.1, 4294967295, (cl_fig 3 tx L (tn_e tx L en) t).2.2, uY_164) dX4_readClause_120 (Or.inl ⟨by rw [eF]; exact hF165, rfl, by rw [eF], by rw [eF], by rw [eF]; exact hY166⟩) hP hD hS
                    · obtain ⟨us_167, ue_168, uf_169, ud_170, uY_171⟩ := u158
                      try dsimp only at h0
                      obtain ⟨hF172, rfl⟩ := h0
                      have hP : va_P D vwCl ([(rd, .inr (4, [.ref (x 0), .ref (pq 0), .int (nI us_167), .int (nI ue_168), .int (nI ((cl_fig 3 tx L (tn_e tx L en) t).1)), .int (nI cl)]))] ++ ((txW k x L tx) ++ (plW k pq ud_170 uY_171))) H := hP
                      have hD : va_D A ([(rd, .inr (4, [.ref (x 0), .ref (pq 0), .int (nI us_167), .int (nI ue_168), .int (nI ((cl_fig 3 tx L (tn_e tx L en) t).1)), .int (nI cl)]))] ++ ((txW k x L tx) ++ (plW k pq ud_170 uY_171))) := hD
                      have eF : cl_read tx L en t = cl_fig 3 tx L (tn_e tx L en) t := by unfold cl_read; rw [cl_n his25, cl_n his48, cl_n his71, cl_n his94, cl_n n4153, cl_n n5154, cl_n n6155, cl_p y7156]
                      exact ret (us_167, ue_168, (cl_fig 3 tx L (tn_e tx L en) t).1, ud_170, uY_171) dX4_readClause_120 (Or.inr ⟨by rw [eF]; exact hF172, by rw [eF]⟩) hP hD hS
                  · obtain ⟨n4173, n5174, n6175, n7176, y8177, rfl⟩ := h0
                    have hP : va_P D vwCl ((plW k pq t Y) ++ ([(rd, .inr (4, [.ref (x 0), .ref (pq 0), .int (nI (tn_s tx L en)), .int (nI (tn_e tx L en)), .int (nI 4294967295), .int (nI cl)]))] ++ (txW k x L tx))) H := hP
                    have hD : va_D A ((plW k pq t Y) ++ ([(rd, .inr (4, [.ref (x 0), .ref (pq 0), .int (nI (tn_s tx L en)), .int (nI (tn_e tx L en)), .int (nI 4294967295), .int (nI cl)]))] ++ (txW k x L tx))) := hD
                    have hP : va_P D vwCl ([(rd, .inr (4, [.ref (x 0), .ref (pq 0), .int (nI (tn_s tx L en)), .int (nI (tn_e tx L en)), .int (nI 4294967295), .int (nI cl)]))] ++ ((txW k x L tx) ++ (plW k pq t Y))) H := hP.sub [8, 9, 10, 0, 1, 2, 3, 4, 5, 6, 7] rfl
                    have hD : va_D A ([(rd, .inr (4, [.ref (x 0), .ref (pq 0), .int (nI (tn_s tx L en)), .int (nI (tn_e tx L en)), .int (nI 4294967295), .int (nI cl)]))] ++ ((txW k x L tx) ++ (plW k pq t Y))) := hD.sub [8, 9, 10, 0, 1, 2, 3, 4, 5, 6, 7] (by decide) rfl
                    refine ta_callVv (As := [.int (nI 4)]) (rest0 := []) (Wr := []) C hP hD hS (c_X4_readFigure l D k rd pq (tn_s tx L en) (tn_e tx L en) cl x L tx t Y 4 hx0 b3 hpl hY (by decide)) 0 rfl rfl rfl [0, 1, 2, 3, 4, 5, 6, 7, 8, 9, 10] [] rfl rfl (by decide) (by decide) (by decide) tw_286 tw_283 tw_22 tw_284 tw_285 ⟨by decide, by decide, rfl⟩ ⟨Nat.le_of_ble_eq_true rfl, Nat.le_of_ble_eq_true rfl⟩ ⟨Nat.zero_le _, Nat.zero_le _⟩ hl.1 rfl (Nat.le_of_ble_eq_true rfl) dX4_readClause_117 (fun u179 H locs h180 hP hD hS => ?_)
                    rcases h180 with h0 | h0
                    · obtain ⟨us_181, ue_182, uf_183, ud_184, uY_185⟩ := u179
                      try dsimp only at h0
                      obtain ⟨hF186, rfl, rfl, rfl, hY187⟩ := h0
                      have hP : va_P D vwCl ([(rd, .inr (4, [.ref (x 0), .ref (pq 0), .int (nI us_181), .int (nI ((cl_fig 4 tx L (tn_e tx L en) t).2.1)), .int (nI 4294967295), .int (nI cl)]))] ++ ((txW k x L tx) ++ (plW k pq ((cl_fig 4 tx L (tn_e tx L en) t).2.2) uY_185))) H := hP
                      have hD : va_D A ([(rd, .inr (4, [.ref (x 0), .ref (pq 0), .int (nI us_181), .int (nI ((cl_fig 4 tx L (tn_e tx L en) t).2.1)), .int (nI 4294967295), .int (nI cl)]))] ++ ((txW k x L tx) ++ (plW k pq ((cl_fig 4 tx L (tn_e tx L en) t).2.2) uY_185))) := hD
                      have eF : cl_read tx L en t = cl_fig 4 tx L (tn_e tx L en) t := by unfold cl_read; rw [cl_n his25, cl_n his48, cl_n his71, cl_n his94, cl_n n4173, cl_n n5174, cl_n n6175, cl_n n7176, cl_p y8177]
                      exact ret (us_181, (cl_fig 4 tx L (tn_e tx L en) t).2.1, 4294967295, (cl_fig 4 tx L (tn_e tx L en) t).2.2, uY_185) dX4_readClause_120 (Or.inl ⟨by rw [eF]; exact hF186, rfl, by rw [eF], by rw [eF], by rw [eF]; exact hY187⟩) hP hD hS
                    · obtain ⟨us_188, ue_189, uf_190, ud_191, uY_192⟩ := u179
                      try dsimp only at h0
                      obtain ⟨hF193, rfl⟩ := h0
                      have hP : va_P D vwCl ([(rd, .inr (4, [.ref (x 0), .ref (pq 0), .int (nI us_188), .int (nI ue_189), .int (nI ((cl_fig 4 tx L (tn_e tx L en) t).1)), .int (nI cl)]))] ++ ((txW k x L tx) ++ (plW k pq ud_191 uY_192))) H := hP
                      have hD : va_D A ([(rd, .inr (4, [.ref (x 0), .ref (pq 0), .int (nI us_188), .int (nI ue_189), .int (nI ((cl_fig 4 tx L (tn_e tx L en) t).1)), .int (nI cl)]))] ++ ((txW k x L tx) ++ (plW k pq ud_191 uY_192))) := hD
                      have eF : cl_read tx L en t = cl_fig 4 tx L (tn_e tx L en) t := by unfold cl_read; rw [cl_n his25, cl_n his48, cl_n his71, cl_n his94, cl_n n4173, cl_n n5174, cl_n n6175, cl_n n7176, cl_p y8177]
                      exact ret (us_188, ue_189, (cl_fig 4 tx L (tn_e tx L en) t).1, ud_191, uY_192) dX4_readClause_120 (Or.inr ⟨by rw [eF]; exact hF193, by rw [eF]⟩) hP hD hS
                  · obtain ⟨n4194, n5195, n6196, n7197, n8198, rfl⟩ := h0
                    have hP : va_P D vwCl ((plW k pq t Y) ++ ([(rd, .inr (4, [.ref (x 0), .ref (pq 0), .int (nI (tn_s tx L en)), .int (nI (tn_e tx L en)), .int (nI 4294967295), .int (nI cl)]))] ++ (txW k x L tx))) H := hP
                    have hD : va_D A ((plW k pq t Y) ++ ([(rd, .inr (4, [.ref (x 0), .ref (pq 0), .int (nI (tn_s tx L en)), .int (nI (tn_e tx L en)), .int (nI 4294967295), .int (nI cl)]))] ++ (txW k x L tx))) := hD
                    have hP : va_P D vwCl ([(rd, .inr (4, [.ref (x 0), .ref (pq 0), .int (nI (tn_s tx L en)), .int (nI (tn_e tx L en)), .int (nI 4294967295), .int (nI cl)]))] ++ ((txW k x L tx) ++ (plW k pq t Y))) H := hP.sub [8, 9, 10, 0, 1, 2, 3, 4, 5, 6, 7] rfl
                    have hD : va_D A ([(rd, .inr (4, [.ref (x 0), .ref (pq 0), .int (nI (tn_s tx L en)), .int (nI (tn_e tx L en)), .int (nI 4294967295), .int (nI cl)]))] ++ ((txW k x L tx) ++ (plW k pq t Y))) := hD.sub [8, 9, 10, 0, 1, 2, 3, 4, 5, 6, 7] (by decide) rfl
                    refine ta_callVv (As := [.int (nI 4294967295)]) (rest0 := []) (Wr := []) C hP hD hS (c_X4_readFigure_n l D k rd pq (tn_s tx L en) (tn_e tx L en) cl x L tx t Y) 0 rfl rfl rfl [0, 1, 2, 3, 4, 5, 6, 7, 8, 9, 10] [] rfl rfl (by decide) (by decide) (by decide) tw_286 tw_283 tw_22 tw_284 tw_285 ⟨by decide, by decide, rfl⟩ ⟨Nat.le_of_ble_eq_true rfl, Nat.le_of_ble_eq_true rfl⟩ ⟨Nat.zero_le _, Nat.zero_le _⟩ hl.1 rfl (Nat.le_of_ble_eq_true rfl) dX4_readClause_117 (fun u200 H locs h201 hP hD hS => ?_)
                    have hP : va_P D vwCl ([(rd, .inr (4, [.ref (x 0), .ref (pq 0), .int (nI (tn_s tx L en)), .int (nI (tn_e tx L en)), .int (nI (tn_s tx L en)), .int (nI cl)]))] ++ ((txW k x L tx) ++ (plW k pq t Y))) H := hP
                    have hD : va_D A ([(rd, .inr (4, [.ref (x 0), .ref (pq 0), .int (nI (tn_s tx L en)), .int (nI (tn_e tx L en)), .int (nI (tn_s tx L en)), .int (nI cl)]))] ++ ((txW k x L tx) ++ (plW k pq t Y))) := hD
                    have eF : cl_read tx L en t = (tn_s tx L en, 0, t) := by unfold cl_read; rw [cl_n his25, cl_n his48, cl_n his71, cl_n his94, cl_n n4194, cl_n n5195, cl_n n6196, cl_n n7197, cl_n n8198]
                    exact ret (tn_s tx L en, tn_e tx L en, tn_s tx L en, t, Y) dX4_readClause_120 (Or.inr ⟨by rw [eF]; exact Nat.ne_of_lt (show tn_s tx L en < 4294967295 by omega), by rw [eF]⟩) hP hD hS
                · exact absurd c95 (by decide)
            · exact absurd c72 (by decide)
        · exact absurd c49 (by decide)
    · exact absurd c26 (by decide)

set_option maxHeartbeats 4000000 in
set_option maxRecDepth 100000 in
theorem c_X4_readLink (l : Launch) (D : va_G) (k : ta_C) (rd : Nat) (pa : Nat) (st0 : Nat) (en : Nat) (cl : Nat) (x : Nat → Nat) (L : Nat) (tx : Nat → Nat) (hx0 : tx_ok tx L) (hen : en ≤ L) (hcl : cl ≤ 14) : ta_Mi (S := Nat) l D k yX4_readLink cX4_readLink 1 .boolean 5 150 [.ref rd] ([(rd, .inr (4, [.ref (x 0), .ref pa, .int (nI st0), .int (nI en), .int (nI 4294967295), .int (nI cl)]))] ++ (txW k x L tx)) (fun r u => (L ≤ tn_s tx L en ∧ r = nI 0 ∧ u = 4294967295) ∨ (tn_s tx L en < L ∧ (14 ≤ cl ∨ tx (tn_s tx L en) ≠ 59) ∧ r = nI 0 ∧ u = tn_s tx L en) ∨ (tn_s tx L en < L ∧ cl < 14 ∧ tx (tn_s tx L en) = 59 ∧ r = nI 1 ∧ u = 4294967295)) (fun u => ([(rd, .inr (4, [.ref (x 0), .ref pa, .int (nI (tn_s tx L en)), .int (nI (tn_e tx L en)), .int (nI u), .int (nI cl)]))] ++ (txW k x L tx))) := by
  refine ta_enter_i (by decide) (Nat.le_of_ble_eq_true rfl) ?_
  intro p e s m below meth c A ls Q C ret hP hD hS hl
  have C : ta_At p l D k s m ([.ref rd] : List Value).toArray c RX4 cX4_readLink 1 A := C
  have hx := C.1.1
  have hb := C.1.2.1
  have hl : lv_has ls 1 [(0, .ref rd)] := hl
  obtain ⟨H, hH⟩ : ∃ H, H = s.heap := ⟨_, rfl⟩
  obtain ⟨locs, hlocs⟩ : ∃ q : List Loc, q = [] := ⟨_, rfl⟩
  have hP : va_P D vwCl ([(rd, .inr (4, [.ref (x 0), .ref pa, .int (nI st0), .int (nI en), .int (nI 4294967295), .int (nI cl)]))] ++ (txW k x L tx)) H := by rw [hH]; exact hP
  have hS : va_S A s.heap H locs := by rw [hH, hlocs]; exact hS
  rw [← hlocs]
  suffices hgoal : W p l e ({ frames := 5, cells := 0, slots := 0, locals := 150 }) s m ([.ref rd] : List Value).toArray below meth c H locs 0 0 Q (F0 m 0 ls []) by rw [hH] at hgoal; exact hgoal
  clear hH hlocs
  obtain ⟨hL, hc⟩ := id hx0
  refine lv_aload_n hx hb dX4_readLink_0 rfl (lv_at hl 0 rfl) ?_
  refine ta_callVv (As := []) (rest0 := []) (Wr := []) C hP hD hS (c_X4_nextToken l D k rd pa st0 en 4294967295 cl x L tx hx0 (by omega)) 0 rfl rfl rfl [0, 1, 2] [] rfl rfl (by decide) (by decide) (by decide) tw_188 tw_185 tw_22 tw_186 tw_187 ⟨by decide, by decide, rfl⟩ ⟨Nat.le_of_ble_eq_true rfl, Nat.le_of_ble_eq_true rfl⟩ ⟨Nat.zero_le _, Nat.zero_le _⟩ hl.1 rfl (Nat.le_of_ble_eq_true rfl) dX4_readLink_1 (fun u2 H locs h3 hP hD hS => ?_)
  have hP : va_P D vwCl ([(rd, .inr (4, [.ref (x 0), .ref pa, .int (nI (tk_st tx L en)), .int (nI (tk_en tx L (tk_st tx L en))), .int (nI 4294967295), .int (nI cl)]))] ++ (txW k x L tx)) H := hP
  have hD : va_D A ([(rd, .inr (4, [.ref (x 0), .ref pa, .int (nI (tk_st tx L en)), .int (nI (tk_en tx L (tk_st tx L en))), .int (nI 4294967295), .int (nI cl)]))] ++ (txW k x L tx)) := hD
  obtain ⟨b1, b2, b3, b4⟩ := tn_b (tx := tx) hen
  have hP : va_P D vwCl ([(rd, .inr (4, [.ref (x 0), .ref pa, .int (nI (tn_s tx L en)), .int (nI (tn_e tx L en)), .int (nI 4294967295), .int (nI cl)]))] ++ (txW k x L tx)) H := hP
  have hD : va_D A ([(rd, .inr (4, [.ref (x 0), .ref pa, .int (nI (tn_s tx L en)), .int (nI (tn_e tx L en)), .int (nI 4294967295), .int (nI cl)]))] ++ (txW k x L tx)) := hD
  refine lv_aload_n hx hb dX4_readLink_4 rfl (lv_at hl 0 rfl) ?_
  refine ta_get C hP 0 inlX4 rfl rfl 2 (by decide) tw_70 rfl dX4_readLink_5 ?_
  refine lv_aload_n hx hb dX4_readLink_8 rfl (lv_at hl 0 rfl) ?_
  refine ta_get C hP 0 inlX4 rfl rfl 0 (by decide) tw_74 rfl dX4_readLink_9 ?_
  refine ta_getN C hP 1 inlX6 rfl rfl 1 (by decide) 1 rfl rfl dX4_readLink_12 ?_
  refine ta_clt C (a := tn_s tx L en) (b := L) (tgt := 20) (by omega) (by omega) dX4_readLink_15 (by decide) (fun c4 => ?_) (fun c4 => ?_)
  · have h15 : tn_s tx L en < L := c4
    refine lv_aload_n hx hb dX4_readLink_20 rfl (lv_at hl 0 rfl) ?_
    refine ta_get C hP 0 inlX4 rfl rfl 5 (by decide) tw_73 rfl dX4_readLink_21 ?_
    refine ta_bipush C 14 dX4_readLink_24 (by decide) ?_
    refine ta_cge C (a := cl) (b := 14) (tgt := 49) (by omega) (by omega) dX4_readLink_26 (by decide) (fun c5 => ?_) (fun c5 => ?_)
    · refine lv_aload_n hx hb dX4_readLink_49 rfl (lv_at hl 0 rfl) ?_
      refine lv_aload_n hx hb dX4_readLink_50 rfl (lv_at hl 0 rfl) ?_
      refine ta_get C hP 0 inlX4 rfl rfl 2 (by decide) tw_70 rfl dX4_readLink_51 ?_
      refine ta_put C hP hD hS 0 inlX4 tyX4 tyX4_ok nmX4 rfl rfl 4 (by decide) tw_72 rfl rfl rfl (Nat.le_of_ble_eq_true rfl) dX4_readLink_54 (fun H locs hP hD hS => ?_)
      have hP : va_P D vwCl ([(rd, .inr (4, [.ref (x 0), .ref pa, .int (nI (tn_s tx L en)), .int (nI (tn_e tx L en)), .int (nI (tn_s tx L en)), .int (nI cl)]))] ++ (txW k x L tx)) H := hP
      have hD : va_D A ([(rd, .inr (4, [.ref (x 0), .ref pa, .int (nI (tn_s tx L en)), .int (nI (tn_e tx L en)), .int (nI (tn_s tx L en)), .int (nI cl)]))] ++ (txW k x L tx)) := hD
      refine ta_iconst C 0 dX4_readLink_57 (by decide) ?_
      exact ret _ (tn_s tx L en) dX4_readLink_58 (by decide) (Or.inr (Or.inl ⟨by omega, Or.inl (by omega), rfl, rfl⟩)) hP hD hS
    · refine lv_aload_n hx hb dX4_readLink_29 rfl (lv_at hl 0 rfl) ?_
      refine ta_get C hP 0 inlX4 rfl rfl 0 (by decide) tw_74 rfl dX4_readLink_30 ?_
      refine va_ldcS hx hb C.1.2.2.2.1 (C.2.1.2.2.1 9 (by decide)) dX4_readLink_33 ?_
      refine lv_aload_n hx hb dX4_readLink_35 rfl (lv_at hl 0 rfl) ?_
      refine ta_get C hP 0 inlX4 rfl rfl 2 (by decide) tw_70 rfl dX4_readLink_36 ?_
      refine lv_aload_n hx hb dX4_readLink_39 rfl (lv_at hl 0 rfl) ?_
      refine ta_get C hP 0 inlX4 rfl rfl 3 (by decide) tw_71 rfl dX4_readLink_40 ?_
      refine ta_callVi (As := [.ref (k.2 (10 + 9)), .int (nI (tn_s tx L en)), .int (nI (tn_e tx L en))]) (rest0 := []) (Wr := [(rd, .inr (4, [.ref (x 0), .ref pa, .int (nI (tn_s tx L en)), .int (nI (tn_e tx L en)), .int (nI 4294967295), .int (nI cl)]))]) C hP hD hS (c_X6_holds l D k x L tx 9 (tn_s tx L en) (tn_e tx L en) (by decide) hx0 b2 b3) 1 rfl rfl rfl [1, 2] [0] rfl rfl (by decide) (by decide) (by decide) tw_200 tw_197 tw_14 tw_198 tw_199 ⟨by decide, by decide, rfl⟩ ⟨Nat.le_of_ble_eq_true rfl, Nat.le_of_ble_eq_true rfl⟩ ⟨Nat.zero_le _, Nat.zero_le _⟩ hl.1 rfl (Nat.le_of_ble_eq_true rfl) dX4_readLink_43 (fun r6 u7 H locs h8 hP hD hS => ?_)
      rcases h8 with h0 | h0
      · obtain ⟨his9, rfl⟩ := h0
        have hP : va_P D vwCl ([(rd, .inr (4, [.ref (x 0), .ref pa, .int (nI (tn_s tx L en)), .int (nI (tn_e tx L en)), .int (nI 4294967295), .int (nI cl)]))] ++ (txW k x L tx)) H := hP
        have hD : va_D A ([(rd, .inr (4, [.ref (x 0), .ref pa, .int (nI (tn_s tx L en)), .int (nI (tn_e tx L en)), .int (nI 4294967295), .int (nI cl)]))] ++ (txW k x L tx)) := hD
        refine lv_if_ne (tgt := 59) hx hb dX4_readLink_46 (by decide) (fun c10 => ?_) (fun c10 => ?_)
        · refine ta_iconst C 1 dX4_readLink_59 (by decide) ?_
          exact ret _ 4294967295 dX4_readLink_60 (by decide) (Or.inr (Or.inr ⟨by omega, by omega, (tk_is9 (L := L) (show tk_st tx L en < L from h15)).mp his9, rfl, rfl⟩)) hP hD hS
        · exact absurd c10 (by decide)
      · obtain ⟨his11, rfl⟩ := h0
        have hP : va_P D vwCl ([(rd, .inr (4, [.ref (x 0), .ref pa, .int (nI (tn_s tx L en)), .int (nI (tn_e tx L en)), .int (nI 4294967295), .int (nI cl)]))] ++ (txW k x L tx)) H := hP
        have hD : va_D A ([(rd, .inr (4, [.ref (x 0), .ref pa, .int (nI (tn_s tx L en)), .int (nI (tn_e tx L en)), .int (nI 4294967295), .int (nI cl)]))] ++ (txW k x L tx)) := hD
        refine lv_if_ne (tgt := 59) hx hb dX4_readLink_46 (by decide) (fun c12 => ?_) (fun c12 => ?_)
        · exact absurd c12 (by decide)
        · refine lv_aload_n hx hb dX4_readLink_49 rfl (lv_at hl 0 rfl) ?_
          refine lv_aload_n hx hb dX4_readLink_50 rfl (lv_at hl 0 rfl) ?_
          refine ta_get C hP 0 inlX4 rfl rfl 2 (by decide) tw_70 rfl dX4_readLink_51 ?_
          refine ta_put C hP hD hS 0 inlX4 tyX4 tyX4_ok nmX4 rfl rfl 4 (by decide) tw_72 rfl rfl rfl (Nat.le_of_ble_eq_true rfl) dX4_readLink_54 (fun H locs hP hD hS => ?_)
          have hP : va_P D vwCl ([(rd, .inr (4, [.ref (x 0), .ref pa, .int (nI (tn_s tx L en)), .int (nI (tn_e tx L en)), .int (nI (tn_s tx L en)), .int (nI cl)]))] ++ (txW k x L tx)) H := hP
          have hD : va_D A ([(rd, .inr (4, [.ref (x 0), .ref pa, .int (nI (tn_s tx L en)), .int (nI (tn_e tx L en)), .int (nI (tn_s tx L en)), .int (nI cl)]))] ++ (txW k x L tx)) := hD
          refine ta_iconst C 0 dX4_readLink_57 (by decide) ?_
          exact ret _ (tn_s tx L en) dX4_readLink_58 (by decide) (Or.inr (Or.inl ⟨by omega, Or.inr (fun h => his11 ((tk_is9 (L := L) (show tk_st tx L en < L from h15)).mpr h)), rfl, rfl⟩)) hP hD hS
  · refine ta_iconst C 0 dX4_readLink_18 (by decide) ?_
    exact ret _ 4294967295 dX4_readLink_19 (by decide) (Or.inl ⟨by omega, rfl, rfl⟩) hP hD hS
