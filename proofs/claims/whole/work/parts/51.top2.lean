theorem rd_go_f {tx : Nat → Nat} {L : Nat} (hL : L ≤ 160) : ∀ (f p : Nat) (d : Nat → Nat), pl_ok d → p ≤ L → (rd_go tx L f p d).1 ≠ 4294967295 → (rd_go tx L f p d).1 ≤ L
  | 0, p, d, ho, hp, h => absurd rfl h
  | f + 1, p, d, ho, hp, h => by
    rw [rd_go_s] at h ⊢
    by_cases c1 : (cl_read tx L p d).1 ≠ 4294967295
    · rw [cl_p c1]; exact cl_read_f hp c1
    rw [cl_n c1] at h ⊢
    have c1 : (cl_read tx L p d).1 = 4294967295 := Decidable.of_not_not c1
    obtain ⟨o1, o2⟩ := cl_read_ok ho hp c1 hL
    have h1 := tn_b (tx := tx) o2
    by_cases c2 : L ≤ tn_s tx L (cl_read tx L p d).2.1
    · rw [cl_p c2] at h; exact absurd rfl h
    rw [cl_n c2] at h ⊢
    by_cases c3 : f = 0 ∨ tx (tn_s tx L (cl_read tx L p d).2.1) ≠ 59
    · rw [cl_p c3]; show tn_s tx L (cl_read tx L p d).2.1 ≤ L; omega
    rw [cl_n c3] at h ⊢
    exact rd_go_f hL f _ _ o1 h1.2.2.1 h
theorem rd_go_w {tx : Nat → Nat} {L : Nat} (hL : L ≤ 160) {d : Nat → Nat} (ho : pl_ok d) : (rd_go tx L 14 0 d).1 < 4294967296 := by
  by_cases e : (rd_go tx L 14 0 d).1 = 4294967295
  · omega
  · have := rd_go_f hL 14 0 d ho (Nat.zero_le _) e; omega
/-- one cell read otherwise -/
theorem ta_Ps {D : va_G} {cl : List vw_C} {H : Heap} {ws : va_W} {c : Nat × va_E} (hP : va_P D cl ws H) (i : Nat) (h : va_at D cl c H) : va_P D cl (ws.set i c) H := by
  intro j q hj
  rw [List.getElem?_set] at hj
  split at hj
  · split at hj
    · cases hj; exact h
    · cases hj
  · exact hP j q hj
theorem ta_Pa {D : va_G} {cl : List vw_C} {H : Heap} {w1 w2 : va_W} (h1 : va_P D cl w1 H) (h2 : va_P D cl w2 H) : va_P D cl (w1 ++ w2) H := by
  intro j q hj
  rw [List.getElem?_append] at hj
  split at hj
  · exact h1 j q hj
  · exact h2 _ q hj
theorem tg_X_ord0 {g : Nat → Nat} {X : Nat → Nat → Nat} {kd mi : Nat} (h6 : g 6 < 8) (hm : mi ≤ 9) (hX : tg_X g X) : tg_X (tg_ord g 0 (10 * kd + mi)) (ta_x4 (ta_u (X 0) (g 6) kd) (ta_u (X 1) (g 6) mi) (X 2) (X 3)) := by
  have e6 : tg_ord g 0 (10 * kd + mi) 6 = g 6 + 1 := tg_ord_n g 0 _
  have e7 : tg_ord g 0 (10 * kd + mi) 7 = g 7 := tg_ord_k (by omega) (by omega)
  refine ⟨fun j hj => ?_, fun j hj => ?_⟩
  · rw [e6] at hj
    by_cases q : j = g 6
    · have e : tg_ord g 0 (10 * kd + mi) (8 + g 6) = 10 * kd + mi := tg_ord_c (a := 0) (by omega)
      rw [q, e]
      show ta_u (X 0) (g 6) kd (g 6) = _ ∧ ta_u (X 1) (g 6) mi (g 6) = _
      rw [ta_us, ta_us]
      omega
    · have e : tg_ord g 0 (10 * kd + mi) (8 + j) = g (8 + j) := tg_ord_k (by omega) (show 8 + j ≠ 8 + 8 * 0 + g (6 + 0) by have e60 : g (6 + 0) = g 6 := rfl; omega)
      rw [e]
      show ta_u (X 0) (g 6) kd j = _ ∧ ta_u (X 1) (g 6) mi j = _
      rw [ta_un q, ta_un q]
      exact hX.1 j (by omega)
  · rw [e7] at hj
    have e : tg_ord g 0 (10 * kd + mi) (16 + j) = g (16 + j) := tg_ord_k (by omega) (show 16 + j ≠ 8 + 8 * 0 + g (6 + 0) by have e60 : g (6 + 0) = g 6 := rfl; omega)
    rw [e]
    exact hX.2 j hj
theorem tg_X_ord1 {g : Nat → Nat} {X : Nat → Nat → Nat} {kd mi : Nat} (h6 : g 6 ≤ 8) (h7 : g 7 < 8) (hm : mi ≤ 9) (hX : tg_X g X) : tg_X (tg_ord g 1 (10 * kd + mi)) (ta_x4 (X 0) (X 1) (ta_u (X 2) (g 7) kd) (ta_u (X 3) (g 7) mi)) := by
  have e7 : tg_ord g 1 (10 * kd + mi) 7 = g 7 + 1 := tg_ord_n g 1 _
  have e6 : tg_ord g 1 (10 * kd + mi) 6 = g 6 := tg_ord_k (by omega) (by omega)
  refine ⟨fun j hj => ?_, fun j hj => ?_⟩
  · rw [e6] at hj
    have e : tg_ord g 1 (10 * kd + mi) (8 + j) = g (8 + j) := tg_ord_k (by omega) (show 8 + j ≠ 8 + 8 * 1 + g (6 + 1) by omega)
    rw [e]
    exact hX.1 j hj
  · rw [e7] at hj
    by_cases q : j = g 7
    · have e : tg_ord g 1 (10 * kd + mi) (16 + g 7) = 10 * kd + mi := tg_ord_c (a := 1) (by omega)
      rw [q, e]
      show ta_u (X 2) (g 7) kd (g 7) = _ ∧ ta_u (X 3) (g 7) mi (g 7) = _
      rw [ta_us, ta_us]
      omega
    · have e : tg_ord g 1 (10 * kd + mi) (16 + j) = g (16 + j) := tg_ord_k (by omega) (show 16 + j ≠ 8 + 8 * 1 + g (6 + 1) by have e60 : g (6 + 1) = g 7 := rfl; omega)
      rw [e]
      show ta_u (X 2) (g 7) kd j = _ ∧ ta_u (X 3) (g 7) mi j = _
      rw [ta_un q, ta_un q]
      exact hX.2 j (by omega)
set_option maxHeartbeats 4000000 in
set_option maxRecDepth 100000 in
theorem c_X7_fault (l : Launch) (D : va_G) (k : ta_C) (o : Nat → Nat) (x : Nat → Nat) (tq : Nat → Nat) (rd : Nat) (q : Nat → Nat) (tr : Nat → Nat) (pz : Nat → Nat) (sz : Nat → Nat) (pq : Nat → Nat) (st0 : Nat) (en : Nat) (fa : Nat) (cl : Nat) (L : Nat) (tx : Nat → Nat) (t0 : Nat → Nat) (Y0 : Nat → Nat → Nat) (t : Nat → Nat) (Y : Nat → Nat → Nat) (hx0 : tx_ok tx L) (hpl : pl_ok t) (hY : pl_X t Y) : ta_Mi (S := Nat × Nat × Nat × Nat × (Nat → Nat) × (Nat → Nat → Nat)) l D k yX7_fault cX7_fault 1 .int 8 250 [.ref (o 0)] ([(o 0, .inr (7, [.ref (x 0), .ref (tq 0), .ref rd, .ref (q 0), .ref (tr 0), .ref (pz 0), .ref (o 1), .ref (o 2), .ref (sz 0)])), (rd, .inr (4, [.ref (x 0), .ref (pq 0), .int (nI st0), .int (nI en), .int (nI fa), .int (nI cl)]))] ++ ((txW k x L tx) ++ ((plW k pq t0 Y0) ++ (plW k tq t Y)))) (fun r _ => r = nI (rd_go tx L 14 0 t).1) (fun u => ([(o 0, .inr (7, [.ref (x 0), .ref (tq 0), .ref rd, .ref (q 0), .ref (tr 0), .ref (pz 0), .ref (o 1), .ref (o 2), .ref (sz 0)])), (rd, .inr (4, [.ref (x 0), .ref (pq 0), .int (nI u.1), .int (nI u.2.1), .int (nI u.2.2.1), .int (nI u.2.2.2.1)]))] ++ ((txW k x L tx) ++ ((plW k pq u.2.2.2.2.1 u.2.2.2.2.2) ++ (plW k tq t Y))))) := by
  refine ta_enter_i (by decide) (Nat.le_of_ble_eq_true rfl) ?_
  intro p e s m below meth c A ls Q C ret hP hD hS hl
  have C : ta_At p l D k s m ([.ref (o 0)] : List Value).toArray c RX7 cX7_fault 1 A := C
  have hx := C.1.1
  have hb := C.1.2.1
  have hl : lv_has ls 1 [(0, .ref (o 0))] := hl
  obtain ⟨H, hH⟩ : ∃ H, H = s.heap := ⟨_, rfl⟩
  obtain ⟨locs, hlocs⟩ : ∃ q : List Loc, q = [] := ⟨_, rfl⟩
  have hP : va_P D vwCl ([(o 0, .inr (7, [.ref (x 0), .ref (tq 0), .ref rd, .ref (q 0), .ref (tr 0), .ref (pz 0), .ref (o 1), .ref (o 2), .ref (sz 0)])), (rd, .inr (4, [.ref (x 0), .ref (pq 0), .int (nI st0), .int (nI en), .int (nI fa), .int (nI cl)]))] ++ ((txW k x L tx) ++ ((plW k pq t0 Y0) ++ (plW k tq t Y)))) H := by rw [hH]; exact hP
  have hS : va_S A s.heap H locs := by rw [hH, hlocs]; exact hS
  rw [← hlocs]
  suffices hgoal : W p l e ({ frames := 8, cells := 0, slots := 0, locals := 250 }) s m ([.ref (o 0)] : List Value).toArray below meth c H locs 0 0 Q (F0 m 0 ls []) by rw [hH] at hgoal; exact hgoal
  clear hH hlocs
  refine lv_aload_n hx hb dX7_fault_0 rfl (lv_at hl 0 rfl) ?_
  refine ta_get C hP 0 inlX7 rfl rfl 2 (by decide) tw_23 rfl dX7_fault_1 ?_
  refine lv_aload_n hx hb dX7_fault_4 rfl (lv_at hl 0 rfl) ?_
  refine ta_get C hP 0 inlX7 rfl rfl 1 (by decide) tw_19 rfl dX7_fault_5 ?_
  refine ta_callVi (As := [.ref (tq 0)]) (rest0 := []) (Wr := [(o 0, .inr (7, [.ref (x 0), .ref (tq 0), .ref rd, .ref (q 0), .ref (tr 0), .ref (pz 0), .ref (o 1), .ref (o 2), .ref (sz 0)]))]) C hP hD hS (c_X4_readAll l D k rd pq st0 en fa cl x L tx t0 Y0 tq t Y hx0 hpl hY) 1 rfl rfl rfl [1, 2, 3, 4, 5, 6, 7, 8, 9, 10, 11, 12, 13, 14, 15, 16, 17, 18, 19] [0] rfl rfl (by decide) (by decide) (by decide) tw_175 tw_172 tw_22 tw_173 tw_174 ⟨by decide, by decide, rfl⟩ ⟨Nat.le_of_ble_eq_true rfl, Nat.le_of_ble_eq_true rfl⟩ ⟨Nat.zero_le _, Nat.zero_le _⟩ hl.1 rfl (Nat.le_of_ble_eq_true rfl) dX7_fault_8 (fun r1 u2 H locs h3 hP hD hS => ?_)
  obtain ⟨us_4, ue_5, uf_6, uc_7, ud_8, uY_9⟩ := u2
  try dsimp only at h3
  obtain ⟨rfl, hok10⟩ := h3
  have hP : va_P D vwCl ([(o 0, .inr (7, [.ref (x 0), .ref (tq 0), .ref rd, .ref (q 0), .ref (tr 0), .ref (pz 0), .ref (o 1), .ref (o 2), .ref (sz 0)])), (rd, .inr (4, [.ref (x 0), .ref (pq 0), .int (nI us_4), .int (nI ue_5), .int (nI uf_6), .int (nI uc_7)]))] ++ ((txW k x L tx) ++ ((plW k pq ud_8 uY_9) ++ (plW k tq t Y)))) H := hP
  have hD : va_D A ([(o 0, .inr (7, [.ref (x 0), .ref (tq 0), .ref rd, .ref (q 0), .ref (tr 0), .ref (pz 0), .ref (o 1), .ref (o 2), .ref (sz 0)])), (rd, .inr (4, [.ref (x 0), .ref (pq 0), .int (nI us_4), .int (nI ue_5), .int (nI uf_6), .int (nI uc_7)]))] ++ ((txW k x L tx) ++ ((plW k pq ud_8 uY_9) ++ (plW k tq t Y)))) := hD
  exact ret (nI ((rd_go tx L 14 0 t).1)) (us_4, ue_5, uf_6, uc_7, ud_8, uY_9) dX7_fault_11 rfl rfl hP hD hS

set_option maxHeartbeats 4000000 in
set_option maxRecDepth 100000 in
theorem c_X7_parade (l : Launch) (D : va_G) (k : ta_C) (o : Nat → Nat) (x : Nat → Nat) (tq : Nat → Nat) (rd : Nat) (q : Nat → Nat) (tr : Nat → Nat) (pz : Nat → Nat) (sz : Nat → Nat) (pq : Nat → Nat) (st0 : Nat) (en : Nat) (fa : Nat) (cl : Nat) (L : Nat) (tx : Nat → Nat) (t0 : Nat → Nat) (Y0 : Nat → Nat → Nat) (t : Nat → Nat) (Y : Nat → Nat → Nat) (g : Nat → Nat) (X : Nat → Nat → Nat) (n : Nat) (c_ : Nat → Nat) (m_ : Nat → Nat) (kn : Nat) (kp : Nat → Nat) (hx0 : tx_ok tx L) (hpl : pl_ok t) (hY : pl_X t Y) (hX : tg_X g X) : ta_Mi (S := Nat × Nat × Nat × Nat × (Nat → Nat) × (Nat → Nat → Nat) × (Nat → Nat → Nat) × (Nat → Nat → Nat)) l D k yX7_parade cX7_parade 2 .int 8 250 [.ref (o 0)] ([(o 0, .inr (7, [.ref (x 0), .ref (tq 0), .ref rd, .ref (q 0), .ref (tr 0), .ref (pz 0), .ref (o 1), .ref (o 2), .ref (sz 0)])), (o 2, .inl (k.1 1, 2, .inl (ta_e kp))), (rd, .inr (4, [.ref (x 0), .ref (pq 0), .int (nI st0), .int (nI en), .int (nI fa), .int (nI cl)]))] ++ ((txW k x L tx) ++ ((plW k pq t0 Y0) ++ ((plW k tq t Y) ++ ((dyW k q t g X) ++ ((siW k sz n c_ m_) ++ [(pz 0, .inr (2, [.ref (pz 1), .int (nI kn)]))])))))) (fun r u => r = nI (sp_parade tx L t) ∧ tg_X (cl_if ((rd_go tx L 14 0 t).1 = 4294967295) (tg_lay (rd_go tx L 14 0 t).2.2) (g)) u.2.2.2.2.2.2.2 ∧ pl_X (cl_if ((rd_go tx L 14 0 t).1 = 4294967295) ((rd_go tx L 14 0 t).2.2) (t)) u.2.2.2.2.2.2.1) (fun u => ([(o 0, .inr (7, [.ref (x 0), .ref (tq 0), .ref rd, .ref (q 0), .ref (tr 0), .ref (pz 0), .ref (o 1), .ref (o 2), .ref (sz 0)])), (o 2, .inl (k.1 1, 2, .inl (ta_e (cl_if ((rd_go tx L 14 0 t).1 = 4294967295) (fun _ => 0) (kp))))), (rd, .inr (4, [.ref (x 0), .ref (pq 0), .int (nI u.1), .int (nI u.2.1), .int (nI u.2.2.1), .int (nI u.2.2.2.1)]))] ++ ((txW k x (cl_if ((rd_go tx L 14 0 t).1 = 4294967295) (0) (L)) tx) ++ ((plW k pq u.2.2.2.2.1 u.2.2.2.2.2.1) ++ ((plW k tq (cl_if ((rd_go tx L 14 0 t).1 = 4294967295) ((rd_go tx L 14 0 t).2.2) (t)) u.2.2.2.2.2.2.1) ++ ((dyW k q (cl_if ((rd_go tx L 14 0 t).1 = 4294967295) ((rd_go tx L 14 0 t).2.2) (t)) (cl_if ((rd_go tx L 14 0 t).1 = 4294967295) (tg_lay (rd_go tx L 14 0 t).2.2) (g)) u.2.2.2.2.2.2.2) ++ ((siW k sz (cl_if ((rd_go tx L 14 0 t).1 = 4294967295) (0) (n)) c_ m_) ++ [(pz 0, .inr (2, [.ref (pz 1), .int (nI (cl_if ((rd_go tx L 14 0 t).1 = 4294967295) (0) (kn)))]))]))))))) := by
  refine ta_enter_i (by decide) (Nat.le_of_ble_eq_true rfl) ?_
  intro p e s m below meth c A ls Q C ret hP hD hS hl
  have C : ta_At p l D k s m ([.ref (o 0)] : List Value).toArray c RX7 cX7_parade 2 A := C
  have hx := C.1.1
  have hb := C.1.2.1
  have hl : lv_has ls 2 [(0, .ref (o 0))] := hl
  obtain ⟨H, hH⟩ : ∃ H, H = s.heap := ⟨_, rfl⟩
  obtain ⟨locs, hlocs⟩ : ∃ q : List Loc, q = [] := ⟨_, rfl⟩
  have hP : va_P D vwCl ([(o 0, .inr (7, [.ref (x 0), .ref (tq 0), .ref rd, .ref (q 0), .ref (tr 0), .ref (pz 0), .ref (o 1), .ref (o 2), .ref (sz 0)])), (o 2, .inl (k.1 1, 2, .inl (ta_e kp))), (rd, .inr (4, [.ref (x 0), .ref (pq 0), .int (nI st0), .int (nI en), .int (nI fa), .int (nI cl)]))] ++ ((txW k x L tx) ++ ((plW k pq t0 Y0) ++ ((plW k tq t Y) ++ ((dyW k q t g X) ++ ((siW k sz n c_ m_) ++ [(pz 0, .inr (2, [.ref (pz 1), .int (nI kn)]))])))))) H := by rw [hH]; exact hP
  have hS : va_S A s.heap H locs := by rw [hH, hlocs]; exact hS
  rw [← hlocs]
  suffices hgoal : W p l e ({ frames := 8, cells := 0, slots := 0, locals := 250 }) s m ([.ref (o 0)] : List Value).toArray below meth c H locs 0 0 Q (F0 m 0 ls []) by rw [hH] at hgoal; exact hgoal
  clear hH hlocs
  have hrw := rd_go_w hx0.1 hpl (tx := tx)
  refine lv_aload_n hx hb dX7_parade_0 rfl (lv_at hl 0 rfl) ?_
  refine ta_get C hP 0 inlX7 rfl rfl 2 (by decide) tw_23 rfl dX7_parade_1 ?_
  refine lv_aload_n hx hb dX7_parade_4 rfl (lv_at hl 0 rfl) ?_
  refine ta_get C hP 0 inlX7 rfl rfl 1 (by decide) tw_19 rfl dX7_parade_5 ?_
  refine ta_callVi (As := [.ref (tq 0)]) (rest0 := []) (Wr := ([(o 0, .inr (7, [.ref (x 0), .ref (tq 0), .ref rd, .ref (q 0), .ref (tr 0), .ref (pz 0), .ref (o 1), .ref (o 2), .ref (sz 0)])), (o 2, .inl (k.1 1, 2, .inl (ta_e kp)))] ++ ((dyW k q t g X) ++ ((siW k sz n c_ m_) ++ [(pz 0, .inr (2, [.ref (pz 1), .int (nI kn)]))])))) C hP hD hS (c_X4_readAll l D k rd pq st0 en fa cl x L tx t0 Y0 tq t Y hx0 hpl hY) 2 rfl rfl rfl [2, 3, 4, 5, 6, 7, 8, 9, 10, 11, 12, 13, 14, 15, 16, 17, 18, 19, 20] [0, 1, 21, 22, 23, 24, 25, 26, 27, 28, 29, 30, 31, 32, 33, 34, 35] rfl rfl (by decide) (by decide) (by decide) tw_175 tw_172 tw_22 tw_173 tw_174 ⟨by decide, by decide, rfl⟩ ⟨Nat.le_of_ble_eq_true rfl, Nat.le_of_ble_eq_true rfl⟩ ⟨Nat.zero_le _, Nat.zero_le _⟩ hl.1 rfl (Nat.le_of_ble_eq_true rfl) dX7_parade_8 (fun r1 u2 H locs h3 hP hD hS => ?_)
  obtain ⟨us_4, ue_5, uf_6, uc_7, ud_8, uY_9⟩ := u2
  try dsimp only at h3
  obtain ⟨rfl, hok10⟩ := h3
  have hP : va_P D vwCl ([(o 0, .inr (7, [.ref (x 0), .ref (tq 0), .ref rd, .ref (q 0), .ref (tr 0), .ref (pz 0), .ref (o 1), .ref (o 2), .ref (sz 0)])), (o 2, .inl (k.1 1, 2, .inl (ta_e kp)))] ++ ((dyW k q t g X) ++ ((siW k sz n c_ m_) ++ ([(pz 0, .inr (2, [.ref (pz 1), .int (nI kn)])), (rd, .inr (4, [.ref (x 0), .ref (pq 0), .int (nI us_4), .int (nI ue_5), .int (nI uf_6), .int (nI uc_7)]))] ++ ((txW k x L tx) ++ ((plW k pq ud_8 uY_9) ++ (plW k tq t Y))))))) H := hP
  have hD : va_D A ([(o 0, .inr (7, [.ref (x 0), .ref (tq 0), .ref rd, .ref (q 0), .ref (tr 0), .ref (pz 0), .ref (o 1), .ref (o 2), .ref (sz 0)])), (o 2, .inl (k.1 1, 2, .inl (ta_e kp)))] ++ ((dyW k q t g X) ++ ((siW k sz n c_ m_) ++ ([(pz 0, .inr (2, [.ref (pz 1), .int (nI kn)])), (rd, .inr (4, [.ref (x 0), .ref (pq 0), .int (nI us_4), .int (nI ue_5), .int (nI uf_6), .int (nI uc_7)]))] ++ ((txW k x L tx) ++ ((plW k pq ud_8 uY_9) ++ (plW k tq t Y))))))) := hD
  refine ta_iconst C 4294967295 dX7_parade_11 (by decide) ?_
  refine ta_ceq C (a := (rd_go tx L 14 0 t).1) (b := 4294967295) (tgt := 18) (by omega) (by omega) dX7_parade_12 (by decide) (fun c11 => ?_) (fun c11 => ?_)
  · obtain ⟨ec9, ed9, hYu⟩ := hok10 c11
    rw [ec9, ed9] at hP hD
    rw [ed9] at hYu
    have hCP : (rd_go tx L 14 0 t).1 = 4294967295 := c11
    obtain ⟨hpl2, hb14⟩ := rd_go_ok hx0.1 14 0 t hpl (Nat.zero_le _) hCP
    obtain ⟨⟨p1_, p2_, p3_, p4_, -, -⟩, p7_, -, p5_, p6_, -, -⟩ := id hpl2
    have hp36 : (rd_go tx L 14 0 t).2.2 0 * (rd_go tx L 14 0 t).2.2 1 ≤ 36 := tg_36 p2_ p4_
    refine lv_aload_n hx hb dX7_parade_18 rfl (lv_at hl 0 rfl) ?_
    refine ta_get C hP 0 inlX7 rfl rfl 1 (by decide) tw_19 rfl dX7_parade_19 ?_
    refine lv_aload_n hx hb dX7_parade_22 rfl (lv_at hl 0 rfl) ?_
    refine ta_get C hP 0 inlX7 rfl rfl 2 (by decide) tw_23 rfl dX7_parade_23 ?_
    refine ta_getN C hP 17 inlX4 rfl rfl 1 (by decide) 22 rfl rfl dX7_parade_26 ?_
    refine ta_callVv (As := [.ref (pq 0)]) (rest0 := []) (Wr := ([(o 0, .inr (7, [.ref (x 0), .ref (tq 0), .ref rd, .ref (q 0), .ref (tr 0), .ref (pz 0), .ref (o 1), .ref (o 2), .ref (sz 0)])), (o 2, .inl (k.1 1, 2, .inl (ta_e kp)))] ++ ((dyW k q t g X) ++ ((siW k sz n c_ m_) ++ ([(pz 0, .inr (2, [.ref (pz 1), .int (nI kn)])), (rd, .inr (4, [.ref (x 0), .ref (pq 0), .int (nI us_4), .int (nI ue_5), .int (nI uf_6), .int (nI ((rd_go tx L 14 0 t).2.1))]))] ++ (txW k x L tx)))))) C hP hD hS (c_X3_copyFrom l D k tq t Y pq ((rd_go tx L 14 0 t).2.2) uY_9 p5_ p6_ hYu) 28 rfl rfl rfl [28, 29, 30, 31, 32, 33, 34, 35, 20, 21, 22, 23, 24, 25, 26, 27] [0, 1, 2, 3, 4, 5, 6, 7, 8, 9, 10, 11, 12, 13, 14, 15, 16, 17, 18, 19] rfl rfl (by decide) (by decide) (by decide) tw_179 tw_358 tw_18 tw_177 tw_178 ⟨by decide, by decide, rfl⟩ ⟨Nat.le_of_ble_eq_true rfl, Nat.le_of_ble_eq_true rfl⟩ ⟨Nat.zero_le _, Nat.zero_le _⟩ hl.1 rfl (Nat.le_of_ble_eq_true rfl) dX7_parade_29 (fun u13 H locs h14 hP hD hS => ?_)
    obtain ⟨u_15, hu0⟩ : ∃ z, z = u13 := ⟨_, rfl⟩
    subst hu0
    have hY16 := h14
    have hP : va_P D vwCl ([(o 0, .inr (7, [.ref (x 0), .ref (tq 0), .ref rd, .ref (q 0), .ref (tr 0), .ref (pz 0), .ref (o 1), .ref (o 2), .ref (sz 0)])), (o 2, .inl (k.1 1, 2, .inl (ta_e kp)))] ++ ((dyW k q t g X) ++ ((siW k sz n c_ m_) ++ ([(pz 0, .inr (2, [.ref (pz 1), .int (nI kn)])), (rd, .inr (4, [.ref (x 0), .ref (pq 0), .int (nI us_4), .int (nI ue_5), .int (nI uf_6), .int (nI ((rd_go tx L 14 0 t).2.1))]))] ++ ((txW k x L tx) ++ ((plW k tq ((rd_go tx L 14 0 t).2.2) u_15) ++ (plW k pq ((rd_go tx L 14 0 t).2.2) uY_9))))))) H := hP
    have hD : va_D A ([(o 0, .inr (7, [.ref (x 0), .ref (tq 0), .ref rd, .ref (q 0), .ref (tr 0), .ref (pz 0), .ref (o 1), .ref (o 2), .ref (sz 0)])), (o 2, .inl (k.1 1, 2, .inl (ta_e kp)))] ++ ((dyW k q t g X) ++ ((siW k sz n c_ m_) ++ ([(pz 0, .inr (2, [.ref (pz 1), .int (nI kn)])), (rd, .inr (4, [.ref (x 0), .ref (pq 0), .int (nI us_4), .int (nI ue_5), .int (nI uf_6), .int (nI ((rd_go tx L 14 0 t).2.1))]))] ++ ((txW k x L tx) ++ ((plW k tq ((rd_go tx L 14 0 t).2.2) u_15) ++ (plW k pq ((rd_go tx L 14 0 t).2.2) uY_9))))))) := hD
    refine lv_aload_n hx hb dX7_parade_32 rfl (lv_at hl 0 rfl) ?_
    refine ta_get C hP 0 inlX7 rfl rfl 3 (by decide) tw_27 rfl dX7_parade_33 ?_
    refine lv_aload_n hx hb dX7_parade_36 rfl (lv_at hl 0 rfl) ?_
    refine ta_get C hP 0 inlX7 rfl rfl 1 (by decide) tw_19 rfl dX7_parade_37 ?_
    refine ta_callVv (As := [.ref (tq 0)]) (rest0 := []) (Wr := ([(o 0, .inr (7, [.ref (x 0), .ref (tq 0), .ref rd, .ref (q 0), .ref (tr 0), .ref (pz 0), .ref (o 1), .ref (o 2), .ref (sz 0)])), (o 2, .inl (k.1 1, 2, .inl (ta_e kp)))] ++ ((siW k sz n c_ m_) ++ ([(pz 0, .inr (2, [.ref (pz 1), .int (nI kn)])), (rd, .inr (4, [.ref (x 0), .ref (pq 0), .int (nI us_4), .int (nI ue_5), .int (nI uf_6), .int (nI ((rd_go tx L 14 0 t).2.1))]))] ++ ((txW k x L tx) ++ (plW k pq ((rd_go tx L 14 0 t).2.2) uY_9)))))) C hP hD hS (c_X0_startAsTold l D k q t g X tq ((rd_go tx L 14 0 t).2.2) u_15 ⟨by omega, by omega⟩ (by omega) p5_ p6_ hY16) 2 rfl rfl rfl [2, 3, 4, 5, 6, 7, 8, 9, 10, 11, 12, 20, 21, 22, 23, 24, 25, 26, 27] [0, 1, 13, 14, 15, 16, 17, 18, 19, 28, 29, 30, 31, 32, 33, 34, 35] rfl rfl (by decide) (by decide) (by decide) tw_99 tw_96 tw_26 tw_97 tw_98 ⟨by decide, by decide, rfl⟩ ⟨Nat.le_of_ble_eq_true rfl, Nat.le_of_ble_eq_true rfl⟩ ⟨Nat.zero_le _, Nat.zero_le _⟩ hl.1 rfl (Nat.le_of_ble_eq_true rfl) dX7_parade_40 (fun u18 H locs h19 hP hD hS => ?_)
    obtain ⟨u_20, hu0⟩ : ∃ z, z = u18 := ⟨_, rfl⟩
    subst hu0
    have hX21 := h19
    have hP : va_P D vwCl ([(o 0, .inr (7, [.ref (x 0), .ref (tq 0), .ref rd, .ref (q 0), .ref (tr 0), .ref (pz 0), .ref (o 1), .ref (o 2), .ref (sz 0)])), (o 2, .inl (k.1 1, 2, .inl (ta_e kp)))] ++ ((siW k sz n c_ m_) ++ ([(pz 0, .inr (2, [.ref (pz 1), .int (nI kn)])), (rd, .inr (4, [.ref (x 0), .ref (pq 0), .int (nI us_4), .int (nI ue_5), .int (nI uf_6), .int (nI ((rd_go tx L 14 0 t).2.1))]))] ++ ((txW k x L tx) ++ ((plW k pq ((rd_go tx L 14 0 t).2.2) uY_9) ++ ((dyW k q ((rd_go tx L 14 0 t).2.2) (tg_lay ((rd_go tx L 14 0 t).2.2)) u_20) ++ (plW k tq ((rd_go tx L 14 0 t).2.2) u_15))))))) H := hP
    have hD : va_D A ([(o 0, .inr (7, [.ref (x 0), .ref (tq 0), .ref rd, .ref (q 0), .ref (tr 0), .ref (pz 0), .ref (o 1), .ref (o 2), .ref (sz 0)])), (o 2, .inl (k.1 1, 2, .inl (ta_e kp)))] ++ ((siW k sz n c_ m_) ++ ([(pz 0, .inr (2, [.ref (pz 1), .int (nI kn)])), (rd, .inr (4, [.ref (x 0), .ref (pq 0), .int (nI us_4), .int (nI ue_5), .int (nI uf_6), .int (nI ((rd_go tx L 14 0 t).2.1))]))] ++ ((txW k x L tx) ++ ((plW k pq ((rd_go tx L 14 0 t).2.2) uY_9) ++ ((dyW k q ((rd_go tx L 14 0 t).2.2) (tg_lay ((rd_go tx L 14 0 t).2.2)) u_20) ++ (plW k tq ((rd_go tx L 14 0 t).2.2) u_15))))))) := hD
    refine lv_aload_n hx hb dX7_parade_43 rfl (lv_at hl 0 rfl) ?_
    refine ta_get C hP 0 inlX7 rfl rfl 0 (by decide) tw_15 rfl dX7_parade_44 ?_
    refine ta_iconst C 0 dX7_parade_47 (by decide) ?_
    refine ta_putN C hP hD hS 7 inlX6 tyX6 tyX6_ok nmX6 rfl rfl 1 (by decide) 0 rfl rfl rfl rfl (Nat.le_of_ble_eq_true rfl) dX7_parade_48 (fun H locs hP hD hS => ?_)
    have hP : va_P D vwCl ([(o 0, .inr (7, [.ref (x 0), .ref (tq 0), .ref rd, .ref (q 0), .ref (tr 0), .ref (pz 0), .ref (o 1), .ref (o 2), .ref (sz 0)])), (o 2, .inl (k.1 1, 2, .inl (ta_e kp)))] ++ ((siW k sz n c_ m_) ++ ([(pz 0, .inr (2, [.ref (pz 1), .int (nI kn)])), (rd, .inr (4, [.ref (x 0), .ref (pq 0), .int (nI us_4), .int (nI ue_5), .int (nI uf_6), .int (nI ((rd_go tx L 14 0 t).2.1))])), (x 0, .inr (6, [.ref (x 1), .int (nI 0)])), (x 1, .inl (k.1 0, 160, .inl (ta_e tx)))] ++ ((plW k pq ((rd_go tx L 14 0 t).2.2) uY_9) ++ ((dyW k q ((rd_go tx L 14 0 t).2.2) (tg_lay ((rd_go tx L 14 0 t).2.2)) u_20) ++ (plW k tq ((rd_go tx L 14 0 t).2.2) u_15)))))) H := hP
    have hD : va_D A ([(o 0, .inr (7, [.ref (x 0), .ref (tq 0), .ref rd, .ref (q 0), .ref (tr 0), .ref (pz 0), .ref (o 1), .ref (o 2), .ref (sz 0)])), (o 2, .inl (k.1 1, 2, .inl (ta_e kp)))] ++ ((siW k sz n c_ m_) ++ ([(pz 0, .inr (2, [.ref (pz 1), .int (nI kn)])), (rd, .inr (4, [.ref (x 0), .ref (pq 0), .int (nI us_4), .int (nI ue_5), .int (nI uf_6), .int (nI ((rd_go tx L 14 0 t).2.1))])), (x 0, .inr (6, [.ref (x 1), .int (nI 0)])), (x 1, .inl (k.1 0, 160, .inl (ta_e tx)))] ++ ((plW k pq ((rd_go tx L 14 0 t).2.2) uY_9) ++ ((dyW k q ((rd_go tx L 14 0 t).2.2) (tg_lay ((rd_go tx L 14 0 t).2.2)) u_20) ++ (plW k tq ((rd_go tx L 14 0 t).2.2) u_15)))))) := hD
    refine lv_aload_n hx hb dX7_parade_51 rfl (lv_at hl 0 rfl) ?_
    refine ta_get C hP 0 inlX7 rfl rfl 8 (by decide) tw_39 rfl dX7_parade_52 ?_
    refine ta_iconst C 0 dX7_parade_55 (by decide) ?_
    refine ta_putN C hP hD hS 2 inlX5 tyX5 tyX5_ok nmX5 rfl rfl 2 (by decide) 38 rfl rfl rfl rfl (Nat.le_of_ble_eq_true rfl) dX7_parade_56 (fun H locs hP hD hS => ?_)
    have hP : va_P D vwCl ([(o 0, .inr (7, [.ref (x 0), .ref (tq 0), .ref rd, .ref (q 0), .ref (tr 0), .ref (pz 0), .ref (o 1), .ref (o 2), .ref (sz 0)])), (o 2, .inl (k.1 1, 2, .inl (ta_e kp))), (sz 0, .inr (5, [.ref (sz 1), .ref (sz 2), .int (nI 0)])), (sz 1, .inl (k.1 0, 6, .inl (ta_e c_))), (sz 2, .inl (k.1 0, 6, .inl (ta_e m_))), (pz 0, .inr (2, [.ref (pz 1), .int (nI kn)])), (rd, .inr (4, [.ref (x 0), .ref (pq 0), .int (nI us_4), .int (nI ue_5), .int (nI uf_6), .int (nI ((rd_go tx L 14 0 t).2.1))])), (x 0, .inr (6, [.ref (x 1), .int (nI 0)])), (x 1, .inl (k.1 0, 160, .inl (ta_e tx)))] ++ ((plW k pq ((rd_go tx L 14 0 t).2.2) uY_9) ++ ((dyW k q ((rd_go tx L 14 0 t).2.2) (tg_lay ((rd_go tx L 14 0 t).2.2)) u_20) ++ (plW k tq ((rd_go tx L 14 0 t).2.2) u_15)))) H := hP
    have hD : va_D A ([(o 0, .inr (7, [.ref (x 0), .ref (tq 0), .ref rd, .ref (q 0), .ref (tr 0), .ref (pz 0), .ref (o 1), .ref (o 2), .ref (sz 0)])), (o 2, .inl (k.1 1, 2, .inl (ta_e kp))), (sz 0, .inr (5, [.ref (sz 1), .ref (sz 2), .int (nI 0)])), (sz 1, .inl (k.1 0, 6, .inl (ta_e c_))), (sz 2, .inl (k.1 0, 6, .inl (ta_e m_))), (pz 0, .inr (2, [.ref (pz 1), .int (nI kn)])), (rd, .inr (4, [.ref (x 0), .ref (pq 0), .int (nI us_4), .int (nI ue_5), .int (nI uf_6), .int (nI ((rd_go tx L 14 0 t).2.1))])), (x 0, .inr (6, [.ref (x 1), .int (nI 0)])), (x 1, .inl (k.1 0, 160, .inl (ta_e tx)))] ++ ((plW k pq ((rd_go tx L 14 0 t).2.2) uY_9) ++ ((dyW k q ((rd_go tx L 14 0 t).2.2) (tg_lay ((rd_go tx L 14 0 t).2.2)) u_20) ++ (plW k tq ((rd_go tx L 14 0 t).2.2) u_15)))) := hD
    refine lv_aload_n hx hb dX7_parade_59 rfl (lv_at hl 0 rfl) ?_
    refine ta_get C hP 0 inlX7 rfl rfl 5 (by decide) tw_32 rfl dX7_parade_60 ?_
    refine ta_iconst C 0 dX7_parade_63 (by decide) ?_
    refine ta_putN C hP hD hS 5 inlX2 tyX2 tyX2_ok nmX2 rfl rfl 1 (by decide) 37 rfl rfl rfl rfl (Nat.le_of_ble_eq_true rfl) dX7_parade_64 (fun H locs hP hD hS => ?_)
    have hP : va_P D vwCl ([(o 0, .inr (7, [.ref (x 0), .ref (tq 0), .ref rd, .ref (q 0), .ref (tr 0), .ref (pz 0), .ref (o 1), .ref (o 2), .ref (sz 0)])), (o 2, .inl (k.1 1, 2, .inl (ta_e kp))), (sz 0, .inr (5, [.ref (sz 1), .ref (sz 2), .int (nI 0)])), (sz 1, .inl (k.1 0, 6, .inl (ta_e c_))), (sz 2, .inl (k.1 0, 6, .inl (ta_e m_))), (pz 0, .inr (2, [.ref (pz 1), .int (nI 0)])), (rd, .inr (4, [.ref (x 0), .ref (pq 0), .int (nI us_4), .int (nI ue_5), .int (nI uf_6), .int (nI ((rd_go tx L 14 0 t).2.1))])), (x 0, .inr (6, [.ref (x 1), .int (nI 0)])), (x 1, .inl (k.1 0, 160, .inl (ta_e tx)))] ++ ((plW k pq ((rd_go tx L 14 0 t).2.2) uY_9) ++ ((dyW k q ((rd_go tx L 14 0 t).2.2) (tg_lay ((rd_go tx L 14 0 t).2.2)) u_20) ++ (plW k tq ((rd_go tx L 14 0 t).2.2) u_15)))) H := hP
    have hD : va_D A ([(o 0, .inr (7, [.ref (x 0), .ref (tq 0), .ref rd, .ref (q 0), .ref (tr 0), .ref (pz 0), .ref (o 1), .ref (o 2), .ref (sz 0)])), (o 2, .inl (k.1 1, 2, .inl (ta_e kp))), (sz 0, .inr (5, [.ref (sz 1), .ref (sz 2), .int (nI 0)])), (sz 1, .inl (k.1 0, 6, .inl (ta_e c_))), (sz 2, .inl (k.1 0, 6, .inl (ta_e m_))), (pz 0, .inr (2, [.ref (pz 1), .int (nI 0)])), (rd, .inr (4, [.ref (x 0), .ref (pq 0), .int (nI us_4), .int (nI ue_5), .int (nI uf_6), .int (nI ((rd_go tx L 14 0 t).2.1))])), (x 0, .inr (6, [.ref (x 1), .int (nI 0)])), (x 1, .inl (k.1 0, 160, .inl (ta_e tx)))] ++ ((plW k pq ((rd_go tx L 14 0 t).2.2) uY_9) ++ ((dyW k q ((rd_go tx L 14 0 t).2.2) (tg_lay ((rd_go tx L 14 0 t).2.2)) u_20) ++ (plW k tq ((rd_go tx L 14 0 t).2.2) u_15)))) := hD
    refine ta_iconst C 0 dX7_parade_67 (by decide) ?_
    refine lv_istore_n (lv' := [(1, .int (nI 0)), (0, .ref (o 0))]) hx hb dX7_parade_68 rfl hl (by decide) rfl (fun ls hl => ?_)
    refine lv_iload_n hx hb dX7_parade_69 rfl (lv_at hl 0 rfl) ?_
    refine ta_iconst C 2 dX7_parade_70 (by decide) ?_
    refine lv_icmp_ge (tgt := 87) hx hb dX7_parade_71 (by decide) (fun c22 => ?_) (fun c22 => ?_)
    · exact absurd c22 (by decide)
    · refine lv_aload_n hx hb dX7_parade_74 rfl (lv_at hl 1 rfl) ?_
      refine ta_get C hP 0 inlX7 rfl rfl 7 (by decide) tw_35 rfl dX7_parade_75 ?_
      refine lv_iload_n hx hb dX7_parade_78 rfl (lv_at hl 0 rfl) ?_
      refine ta_iconst C 0 dX7_parade_79 (by decide) ?_
      refine ta_zast C hP hD hS 1 rfl (i := 0) (v := 0) (by omega) (by decide) dX7_parade_80 (fun H locs hP hD hS => ?_)
      have hP : va_P D vwCl ([(o 0, .inr (7, [.ref (x 0), .ref (tq 0), .ref rd, .ref (q 0), .ref (tr 0), .ref (pz 0), .ref (o 1), .ref (o 2), .ref (sz 0)])), (o 2, .inl (k.1 1, 2, .inl (ta_e (ta_u kp 0 0)))), (sz 0, .inr (5, [.ref (sz 1), .ref (sz 2), .int (nI 0)])), (sz 1, .inl (k.1 0, 6, .inl (ta_e c_))), (sz 2, .inl (k.1 0, 6, .inl (ta_e m_))), (pz 0, .inr (2, [.ref (pz 1), .int (nI 0)])), (rd, .inr (4, [.ref (x 0), .ref (pq 0), .int (nI us_4), .int (nI ue_5), .int (nI uf_6), .int (nI ((rd_go tx L 14 0 t).2.1))])), (x 0, .inr (6, [.ref (x 1), .int (nI 0)])), (x 1, .inl (k.1 0, 160, .inl (ta_e tx)))] ++ ((plW k pq ((rd_go tx L 14 0 t).2.2) uY_9) ++ ((dyW k q ((rd_go tx L 14 0 t).2.2) (tg_lay ((rd_go tx L 14 0 t).2.2)) u_20) ++ (plW k tq ((rd_go tx L 14 0 t).2.2) u_15)))) H := hP
      have hD : va_D A ([(o 0, .inr (7, [.ref (x 0), .ref (tq 0), .ref rd, .ref (q 0), .ref (tr 0), .ref (pz 0), .ref (o 1), .ref (o 2), .ref (sz 0)])), (o 2, .inl (k.1 1, 2, .inl (ta_e (ta_u kp 0 0)))), (sz 0, .inr (5, [.ref (sz 1), .ref (sz 2), .int (nI 0)])), (sz 1, .inl (k.1 0, 6, .inl (ta_e c_))), (sz 2, .inl (k.1 0, 6, .inl (ta_e m_))), (pz 0, .inr (2, [.ref (pz 1), .int (nI 0)])), (rd, .inr (4, [.ref (x 0), .ref (pq 0), .int (nI us_4), .int (nI ue_5), .int (nI uf_6), .int (nI ((rd_go tx L 14 0 t).2.1))])), (x 0, .inr (6, [.ref (x 1), .int (nI 0)])), (x 1, .inl (k.1 0, 160, .inl (ta_e tx)))] ++ ((plW k pq ((rd_go tx L 14 0 t).2.2) uY_9) ++ ((dyW k q ((rd_go tx L 14 0 t).2.2) (tg_lay ((rd_go tx L 14 0 t).2.2)) u_20) ++ (plW k tq ((rd_go tx L 14 0 t).2.2) u_15)))) := hD
      refine lv_iinc (v := nI 1) (lv' := [(1, .int (nI 1)), (0, .ref (o 0))]) hx hb dX7_parade_81 hl (k := 0) rfl (by decide) (by decide) rfl (fun ls hl => ?_)
      refine lv_goto (tgt := 69) hx hb dX7_parade_84 (by decide) ?_
      refine lv_iload_n hx hb dX7_parade_69 rfl (lv_at hl 0 rfl) ?_
      refine ta_iconst C 2 dX7_parade_70 (by decide) ?_
      refine lv_icmp_ge (tgt := 87) hx hb dX7_parade_71 (by decide) (fun c23 => ?_) (fun c23 => ?_)
      · exact absurd c23 (by decide)
      · refine lv_aload_n hx hb dX7_parade_74 rfl (lv_at hl 1 rfl) ?_
        refine ta_get C hP 0 inlX7 rfl rfl 7 (by decide) tw_35 rfl dX7_parade_75 ?_
        refine lv_iload_n hx hb dX7_parade_78 rfl (lv_at hl 0 rfl) ?_
        refine ta_iconst C 0 dX7_parade_79 (by decide) ?_
        refine ta_zast C hP hD hS 1 rfl (i := 1) (v := 0) (by omega) (by decide) dX7_parade_80 (fun H locs hP hD hS => ?_)
        have hP : va_P D vwCl ([(o 0, .inr (7, [.ref (x 0), .ref (tq 0), .ref rd, .ref (q 0), .ref (tr 0), .ref (pz 0), .ref (o 1), .ref (o 2), .ref (sz 0)])), (o 2, .inl (k.1 1, 2, .inl (ta_e (ta_u (ta_u kp 0 0) 1 0)))), (sz 0, .inr (5, [.ref (sz 1), .ref (sz 2), .int (nI 0)])), (sz 1, .inl (k.1 0, 6, .inl (ta_e c_))), (sz 2, .inl (k.1 0, 6, .inl (ta_e m_))), (pz 0, .inr (2, [.ref (pz 1), .int (nI 0)])), (rd, .inr (4, [.ref (x 0), .ref (pq 0), .int (nI us_4), .int (nI ue_5), .int (nI uf_6), .int (nI ((rd_go tx L 14 0 t).2.1))])), (x 0, .inr (6, [.ref (x 1), .int (nI 0)])), (x 1, .inl (k.1 0, 160, .inl (ta_e tx)))] ++ ((plW k pq ((rd_go tx L 14 0 t).2.2) uY_9) ++ ((dyW k q ((rd_go tx L 14 0 t).2.2) (tg_lay ((rd_go tx L 14 0 t).2.2)) u_20) ++ (plW k tq ((rd_go tx L 14 0 t).2.2) u_15)))) H := hP
        have hD : va_D A ([(o 0, .inr (7, [.ref (x 0), .ref (tq 0), .ref rd, .ref (q 0), .ref (tr 0), .ref (pz 0), .ref (o 1), .ref (o 2), .ref (sz 0)])), (o 2, .inl (k.1 1, 2, .inl (ta_e (ta_u (ta_u kp 0 0) 1 0)))), (sz 0, .inr (5, [.ref (sz 1), .ref (sz 2), .int (nI 0)])), (sz 1, .inl (k.1 0, 6, .inl (ta_e c_))), (sz 2, .inl (k.1 0, 6, .inl (ta_e m_))), (pz 0, .inr (2, [.ref (pz 1), .int (nI 0)])), (rd, .inr (4, [.ref (x 0), .ref (pq 0), .int (nI us_4), .int (nI ue_5), .int (nI uf_6), .int (nI ((rd_go tx L 14 0 t).2.1))])), (x 0, .inr (6, [.ref (x 1), .int (nI 0)])), (x 1, .inl (k.1 0, 160, .inl (ta_e tx)))] ++ ((plW k pq ((rd_go tx L 14 0 t).2.2) uY_9) ++ ((dyW k q ((rd_go tx L 14 0 t).2.2) (tg_lay ((rd_go tx L 14 0 t).2.2)) u_20) ++ (plW k tq ((rd_go tx L 14 0 t).2.2) u_15)))) := hD
        refine lv_iinc (v := nI 2) (lv' := [(1, .int (nI 2)), (0, .ref (o 0))]) hx hb dX7_parade_81 hl (k := 0) rfl (by decide) (by decide) rfl (fun ls hl => ?_)
        refine lv_goto (tgt := 69) hx hb dX7_parade_84 (by decide) ?_
        refine lv_iload_n hx hb dX7_parade_69 rfl (lv_at hl 0 rfl) ?_
        refine ta_iconst C 2 dX7_parade_70 (by decide) ?_
        refine lv_icmp_ge (tgt := 87) hx hb dX7_parade_71 (by decide) (fun c24 => ?_) (fun c24 => ?_)
        · refine lv_aload_n hx hb dX7_parade_87 rfl (lv_at hl 1 rfl) ?_
          refine ta_get C hP 0 inlX7 rfl rfl 2 (by decide) tw_23 rfl dX7_parade_88 ?_
          refine ta_getN C hP 6 inlX4 rfl rfl 5 (by decide) 23 rfl rfl dX7_parade_91 ?_
          simp only [cl_p hCP] at ret
          have e1 : sp_parade tx L t = (rd_go tx L 14 0 t).2.1 := if_pos hCP
          have hk2 : ∀ j, j < 2 → (ta_u (ta_u kp 0 0) 1 0) j = (fun _ => 0) j := by
            intro j hj
            rcases (show j = 0 ∨ j = 1 by omega) with rfl | rfl <;> rfl
          have hP : va_P D vwCl ([(o 0, .inr (7, [.ref (x 0), .ref (tq 0), .ref rd, .ref (q 0), .ref (tr 0), .ref (pz 0), .ref (o 1), .ref (o 2), .ref (sz 0)])), (o 2, .inl (k.1 1, 2, .inl (ta_e (fun _ => 0)))), (sz 0, .inr (5, [.ref (sz 1), .ref (sz 2), .int (nI 0)])), (sz 1, .inl (k.1 0, 6, .inl (ta_e c_))), (sz 2, .inl (k.1 0, 6, .inl (ta_e m_))), (pz 0, .inr (2, [.ref (pz 1), .int (nI 0)])), (rd, .inr (4, [.ref (x 0), .ref (pq 0), .int (nI us_4), .int (nI ue_5), .int (nI uf_6), .int (nI ((rd_go tx L 14 0 t).2.1))])), (x 0, .inr (6, [.ref (x 1), .int (nI 0)])), (x 1, .inl (k.1 0, 160, .inl (ta_e tx)))] ++ ((plW k pq ((rd_go tx L 14 0 t).2.2) uY_9) ++ ((dyW k q ((rd_go tx L 14 0 t).2.2) (tg_lay ((rd_go tx L 14 0 t).2.2)) u_20) ++ (plW k tq ((rd_go tx L 14 0 t).2.2) u_15)))) H := ta_Ps hP 1 (ta_ae hk2 (hP 1 _ rfl))
          have hD : va_D A ([(o 0, .inr (7, [.ref (x 0), .ref (tq 0), .ref rd, .ref (q 0), .ref (tr 0), .ref (pz 0), .ref (o 1), .ref (o 2), .ref (sz 0)])), (o 2, .inl (k.1 1, 2, .inl (ta_e (fun _ => 0)))), (sz 0, .inr (5, [.ref (sz 1), .ref (sz 2), .int (nI 0)])), (sz 1, .inl (k.1 0, 6, .inl (ta_e c_))), (sz 2, .inl (k.1 0, 6, .inl (ta_e m_))), (pz 0, .inr (2, [.ref (pz 1), .int (nI 0)])), (rd, .inr (4, [.ref (x 0), .ref (pq 0), .int (nI us_4), .int (nI ue_5), .int (nI uf_6), .int (nI ((rd_go tx L 14 0 t).2.1))])), (x 0, .inr (6, [.ref (x 1), .int (nI 0)])), (x 1, .inl (k.1 0, 160, .inl (ta_e tx)))] ++ ((plW k pq ((rd_go tx L 14 0 t).2.2) uY_9) ++ ((dyW k q ((rd_go tx L 14 0 t).2.2) (tg_lay ((rd_go tx L 14 0 t).2.2)) u_20) ++ (plW k tq ((rd_go tx L 14 0 t).2.2) u_15)))) := ta_De hD rfl
          exact ret (nI ((rd_go tx L 14 0 t).2.1)) (us_4, ue_5, uf_6, (rd_go tx L 14 0 t).2.1, (rd_go tx L 14 0 t).2.2, uY_9, u_15, u_20) dX7_parade_94 rfl ⟨by rw [e1], hX21, hY16⟩ (hP.sub [0, 1, 6, 7, 8, 9, 10, 11, 12, 13, 14, 15, 16, 28, 29, 30, 31, 32, 33, 34, 35, 17, 18, 19, 20, 21, 22, 23, 24, 25, 26, 27, 2, 3, 4, 5] rfl) (hD.sub [0, 1, 6, 7, 8, 9, 10, 11, 12, 13, 14, 15, 16, 28, 29, 30, 31, 32, 33, 34, 35, 17, 18, 19, 20, 21, 22, 23, 24, 25, 26, 27, 2, 3, 4, 5] (by decide) rfl) hS
        · exact absurd c24 (by decide)
  · refine ta_bipush C 4294967292 dX7_parade_15 (by decide) ?_
    have hnCP : ¬ (rd_go tx L 14 0 t).1 = 4294967295 := by omega
    simp only [cl_n hnCP] at ret
    have e1 : sp_parade tx L t = 4294967292 := if_neg hnCP
    exact ret (nI 4294967292) (us_4, ue_5, uf_6, uc_7, ud_8, uY_9, Y, X) dX7_parade_17 rfl ⟨by rw [e1], hX, hY⟩ (hP.sub [0, 1, 17, 18, 19, 20, 21, 22, 23, 24, 25, 26, 27, 28, 29, 30, 31, 32, 33, 34, 35, 2, 3, 4, 5, 6, 7, 8, 9, 10, 11, 12, 13, 14, 15, 16] rfl) (hD.sub [0, 1, 17, 18, 19, 20, 21, 22, 23, 24, 25, 26, 27, 28, 29, 30, 31, 32, 33, 34, 35, 2, 3, 4, 5, 6, 7, 8, 9, 10, 11, 12, 13, 14, 15, 16] (by decide) rfl) hS

set_option maxHeartbeats 4000000 in
set_option maxRecDepth 100000 in
theorem c_X7_pass (l : Launch) (D : va_G) (k : ta_C) (o : Nat → Nat) (x : Nat → Nat) (tq : Nat → Nat) (rd : Nat) (q : Nat → Nat) (tr : Nat → Nat) (pz : Nat → Nat) (sz : Nat → Nat) (kn : Nat) (d : Nat → Nat → Nat) (T : Nat → Nat → Nat) (G : Nat → Nat → Nat) (Z : Nat → Nat → Nat → Nat) (t : Nat → Nat) (g : Nat → Nat) (X : Nat → Nat → Nat) (n : Nat) (hok : tg_ok t g) (hh0 : g 0 < 1000000) (hX : tg_X g X) (hkn : kn ≤ 8) (hT : ∀ i, i < kn → T i = t) (hZ : ∀ i, i < kn → tg_X (G i) (Z i)) (wn : n < 4294967296) : ta_Mi (S := (Nat → Nat → Nat) × (Nat → Nat → Nat) × (Nat → Nat → Nat → Nat) × (Nat → Nat → Nat)) l D k yX7_pass cX7_pass 2 .int 5 170 [.ref (o 0), .int (nI n)] ([(o 0, .inr (7, [.ref (x 0), .ref (tq 0), .ref rd, .ref (q 0), .ref (tr 0), .ref (pz 0), .ref (o 1), .ref (o 2), .ref (sz 0)])), (pz 0, .inr (2, [.ref (pz 1), .int (nI kn)])), (pz 1, .inl (k.1 3, 8, .inr (.inr (.inr (.inr (ta_pd d))))))] ++ ((pdW k d T G Z) ++ (dyW k q t g X))) (fun r u => r = nI (sp_pass t g n) ∧ (∀ i, i < cl_if (sp_pass_c g n) (sp_n kn) (kn) → u.2.1 i = t) ∧ (∀ i, i < cl_if (sp_pass_c g n) (sp_n kn) (kn) → tg_X (cl_if (sp_pass_c g n) (sp_G kn G g) (G) i) (u.2.2.1 i)) ∧ tg_X (cl_if (sp_pass_c g n) (tg_it t g n) (g)) u.2.2.2) (fun u => ([(o 0, .inr (7, [.ref (x 0), .ref (tq 0), .ref rd, .ref (q 0), .ref (tr 0), .ref (pz 0), .ref (o 1), .ref (o 2), .ref (sz 0)])), (pz 0, .inr (2, [.ref (pz 1), .int (nI (cl_if (sp_pass_c g n) (sp_n kn) (kn)))])), (pz 1, .inl (k.1 3, 8, .inr (.inr (.inr (.inr (ta_pd u.1))))))] ++ ((pdW k u.1 u.2.1 (cl_if (sp_pass_c g n) (sp_G kn G g) (G)) u.2.2.1) ++ (dyW k q t (cl_if (sp_pass_c g n) (tg_it t g n) (g)) u.2.2.2)))) := by
  refine ta_enter_i (by decide) (Nat.le_of_ble_eq_true rfl) ?_
  intro p e s m below meth c A ls Q C ret hP hD hS hl
  have C : ta_At p l D k s m ([.ref (o 0), .int (nI n)] : List Value).toArray c RX7 cX7_pass 2 A := C
  have hx := C.1.1
  have hb := C.1.2.1
  have hl : lv_has ls 2 [(0, .ref (o 0)), (1, .int (nI n))] := hl
  obtain ⟨H, hH⟩ : ∃ H, H = s.heap := ⟨_, rfl⟩
  obtain ⟨locs, hlocs⟩ : ∃ q : List Loc, q = [] := ⟨_, rfl⟩
  have hP : va_P D vwCl ([(o 0, .inr (7, [.ref (x 0), .ref (tq 0), .ref rd, .ref (q 0), .ref (tr 0), .ref (pz 0), .ref (o 1), .ref (o 2), .ref (sz 0)])), (pz 0, .inr (2, [.ref (pz 1), .int (nI kn)])), (pz 1, .inl (k.1 3, 8, .inr (.inr (.inr (.inr (ta_pd d))))))] ++ ((pdW k d T G Z) ++ (dyW k q t g X))) H := by rw [hH]; exact hP
  have hS : va_S A s.heap H locs := by rw [hH, hlocs]; exact hS
  rw [← hlocs]
  suffices hgoal : W p l e ({ frames := 5, cells := 0, slots := 0, locals := 170 }) s m ([.ref (o 0), .int (nI n)] : List Value).toArray below meth c H locs 0 0 Q (F0 m 0 ls []) by rw [hH] at hgoal; exact hgoal
  clear hH hlocs
  obtain ⟨⟨a1, a2, a3, a4, a5, a6⟩, b1, b2, b3, b4, b6, b7, b8, b9⟩ := id hok
  refine lv_iload_n hx hb dX7_pass_0 rfl (lv_at hl 1 rfl) ?_
  refine ta_iconst C 1 dX7_pass_1 (by decide) ?_
  refine ta_wlt C (a := n) (b := 1) (tgt := 11) (by omega) (by omega) dX7_pass_2 (by decide) (fun c1 => ?_) (fun c1 => ?_)
  · refine ta_bipush C 4294967293 dX7_pass_11 (by decide) ?_
    have hcd : ¬ (sp_pass_c g n) := by unfold sp_pass_c; omega
    simp only [cl_n hcd] at ret
    have e1 : sp_pass t g n = 4294967293 := by
      unfold sp_pass
      (repeat' split) <;> omega
    exact ret (nI 4294967293) (d, T, Z, X) dX7_pass_13 rfl ⟨by rw [e1], hT, hZ, hX⟩ (hP.sub [0, 1, 2, 3, 4, 5, 6, 7, 8, 9, 10, 11, 12, 13, 14, 15, 16, 17, 18, 19, 20, 21, 22, 23, 24, 25, 26, 27, 28, 29, 30, 31, 32, 33, 34, 35, 36, 37, 38, 39, 40, 41, 42, 43, 44, 45, 46, 47, 48, 49, 50, 51, 52, 53, 54, 55, 56, 57, 58, 59, 60, 61, 62, 63, 64, 65, 66, 67, 68, 69, 70, 71, 72, 73, 74, 75, 76, 77, 78, 79, 80, 81, 82, 83, 84, 85, 86, 87, 88, 89, 90, 91, 92, 93, 94, 95, 96, 97, 98, 99, 100, 101] rfl) (hD.sub [0, 1, 2, 3, 4, 5, 6, 7, 8, 9, 10, 11, 12, 13, 14, 15, 16, 17, 18, 19, 20, 21, 22, 23, 24, 25, 26, 27, 28, 29, 30, 31, 32, 33, 34, 35, 36, 37, 38, 39, 40, 41, 42, 43, 44, 45, 46, 47, 48, 49, 50, 51, 52, 53, 54, 55, 56, 57, 58, 59, 60, 61, 62, 63, 64, 65, 66, 67, 68, 69, 70, 71, 72, 73, 74, 75, 76, 77, 78, 79, 80, 81, 82, 83, 84, 85, 86, 87, 88, 89, 90, 91, 92, 93, 94, 95, 96, 97, 98, 99, 100, 101] (by decide) rfl) hS
  · refine lv_iload_n hx hb dX7_pass_5 rfl (lv_at hl 1 rfl) ?_
    refine ta_bipush C 60 dX7_pass_6 (by decide) ?_
    refine ta_wle C (a := n) (b := 60) (tgt := 14) (by omega) (by omega) dX7_pass_8 (by decide) (fun c2 => ?_) (fun c2 => ?_)
    · refine lv_aload_n hx hb dX7_pass_14 rfl (lv_at hl 0 rfl) ?_
      refine ta_get C hP 0 inlX7 rfl rfl 3 (by decide) tw_27 rfl dX7_pass_15 ?_
      refine ta_getN C hP 91 inlX0 rfl rfl 3 (by decide) 28 rfl rfl dX7_pass_18 ?_
      refine ta_sipush C 999 dX7_pass_21 (by decide) ?_
      refine ta_cle C (a := g 0) (b := 999) (tgt := 30) (by omega) (by omega) dX7_pass_24 (by decide) (fun c3 => ?_) (fun c3 => ?_)
      · refine lv_aload_n hx hb dX7_pass_30 rfl (lv_at hl 0 rfl) ?_
        refine ta_get C hP 0 inlX7 rfl rfl 5 (by decide) tw_32 rfl dX7_pass_31 ?_
        refine lv_aload_n hx hb dX7_pass_34 rfl (lv_at hl 0 rfl) ?_
        refine ta_get C hP 0 inlX7 rfl rfl 3 (by decide) tw_27 rfl dX7_pass_35 ?_
        refine ta_callVv (As := [.ref (q 0)]) (rest0 := []) (Wr := [(o 0, .inr (7, [.ref (x 0), .ref (tq 0), .ref rd, .ref (q 0), .ref (tr 0), .ref (pz 0), .ref (o 1), .ref (o 2), .ref (sz 0)]))]) C hP hD hS (c_X2_rememberA l D k pz kn d T G Z q t g X hkn b6 b7 hX hT hZ) 1 rfl rfl rfl [1, 2, 3, 4, 5, 6, 7, 8, 9, 10, 11, 12, 13, 14, 15, 16, 17, 18, 19, 20, 21, 22, 23, 24, 25, 26, 27, 28, 29, 30, 31, 32, 33, 34, 35, 36, 37, 38, 39, 40, 41, 42, 43, 44, 45, 46, 47, 48, 49, 50, 51, 52, 53, 54, 55, 56, 57, 58, 59, 60, 61, 62, 63, 64, 65, 66, 67, 68, 69, 70, 71, 72, 73, 74, 75, 76, 77, 78, 79, 80, 81, 82, 83, 84, 85, 86, 87, 88, 89, 90, 91, 92, 93, 94, 95, 96, 97, 98, 99, 100, 101] [0] rfl rfl (by decide) (by decide) (by decide) tw_426 tw_423 tw_31 tw_424 tw_425 ⟨by decide, by decide, rfl⟩ ⟨Nat.le_of_ble_eq_true rfl, Nat.le_of_ble_eq_true rfl⟩ ⟨Nat.zero_le _, Nat.zero_le _⟩ hl.1 rfl (Nat.le_of_ble_eq_true rfl) dX7_pass_38 (fun u5 H locs h6 hP hD hS => ?_)
        obtain ⟨ud_7, uT_8, uZ_9⟩ := u5
        try dsimp only at h6
        obtain ⟨hT10, hZ11⟩ := h6
        have hP : va_P D vwCl ([(o 0, .inr (7, [.ref (x 0), .ref (tq 0), .ref rd, .ref (q 0), .ref (tr 0), .ref (pz 0), .ref (o 1), .ref (o 2), .ref (sz 0)])), (pz 0, .inr (2, [.ref (pz 1), .int (nI (sp_n kn))])), (pz 1, .inl (k.1 3, 8, .inr (.inr (.inr (.inr (ta_pd ud_7))))))] ++ ((pdW k ud_7 uT_8 (sp_G kn G g) uZ_9) ++ (dyW k q t g X))) H := hP
        have hD : va_D A ([(o 0, .inr (7, [.ref (x 0), .ref (tq 0), .ref rd, .ref (q 0), .ref (tr 0), .ref (pz 0), .ref (o 1), .ref (o 2), .ref (sz 0)])), (pz 0, .inr (2, [.ref (pz 1), .int (nI (sp_n kn))])), (pz 1, .inl (k.1 3, 8, .inr (.inr (.inr (.inr (ta_pd ud_7))))))] ++ ((pdW k ud_7 uT_8 (sp_G kn G g) uZ_9) ++ (dyW k q t g X))) := hD
        refine lv_aload_n hx hb dX7_pass_41 rfl (lv_at hl 0 rfl) ?_
        refine ta_get C hP 0 inlX7 rfl rfl 3 (by decide) tw_27 rfl dX7_pass_42 ?_
        refine lv_iload_n hx hb dX7_pass_45 rfl (lv_at hl 1 rfl) ?_
        refine ta_callVv (As := [.int (nI n)]) (rest0 := []) (Wr := ([(o 0, .inr (7, [.ref (x 0), .ref (tq 0), .ref rd, .ref (q 0), .ref (tr 0), .ref (pz 0), .ref (o 1), .ref (o 2), .ref (sz 0)])), (pz 0, .inr (2, [.ref (pz 1), .int (nI (sp_n kn))])), (pz 1, .inl (k.1 3, 8, .inr (.inr (.inr (.inr (ta_pd ud_7))))))] ++ (pdW k ud_7 uT_8 (sp_G kn G g) uZ_9))) C hP hD hS (c_X0_goMinutes l D k q t g X n hok (by omega) hX) 91 rfl rfl rfl [91, 92, 93, 94, 95, 96, 97, 98, 99, 100, 101] [0, 1, 2, 3, 4, 5, 6, 7, 8, 9, 10, 11, 12, 13, 14, 15, 16, 17, 18, 19, 20, 21, 22, 23, 24, 25, 26, 27, 28, 29, 30, 31, 32, 33, 34, 35, 36, 37, 38, 39, 40, 41, 42, 43, 44, 45, 46, 47, 48, 49, 50, 51, 52, 53, 54, 55, 56, 57, 58, 59, 60, 61, 62, 63, 64, 65, 66, 67, 68, 69, 70, 71, 72, 73, 74, 75, 76, 77, 78, 79, 80, 81, 82, 83, 84, 85, 86, 87, 88, 89, 90] rfl rfl (by decide) (by decide) (by decide) tw_439 tw_436 tw_26 tw_437 tw_438 ⟨by decide, by decide, rfl⟩ ⟨Nat.le_of_ble_eq_true rfl, Nat.le_of_ble_eq_true rfl⟩ ⟨Nat.zero_le _, Nat.zero_le _⟩ hl.1 rfl (Nat.le_of_ble_eq_true rfl) dX7_pass_46 (fun u13 H locs h14 hP hD hS => ?_)
        obtain ⟨u_15, hu0⟩ : ∃ z, z = u13 := ⟨_, rfl⟩
        subst hu0
        have hX16 := h14
        have hP : va_P D vwCl ([(o 0, .inr (7, [.ref (x 0), .ref (tq 0), .ref rd, .ref (q 0), .ref (tr 0), .ref (pz 0), .ref (o 1), .ref (o 2), .ref (sz 0)])), (pz 0, .inr (2, [.ref (pz 1), .int (nI (sp_n kn))])), (pz 1, .inl (k.1 3, 8, .inr (.inr (.inr (.inr (ta_pd ud_7))))))] ++ ((pdW k ud_7 uT_8 (sp_G kn G g) uZ_9) ++ (dyW k q t (tg_it t g n) u_15))) H := hP
        have hD : va_D A ([(o 0, .inr (7, [.ref (x 0), .ref (tq 0), .ref rd, .ref (q 0), .ref (tr 0), .ref (pz 0), .ref (o 1), .ref (o 2), .ref (sz 0)])), (pz 0, .inr (2, [.ref (pz 1), .int (nI (sp_n kn))])), (pz 1, .inl (k.1 3, 8, .inr (.inr (.inr (.inr (ta_pd ud_7))))))] ++ ((pdW k ud_7 uT_8 (sp_G kn G g) uZ_9) ++ (dyW k q t (tg_it t g n) u_15))) := hD
        refine lv_aload_n hx hb dX7_pass_49 rfl (lv_at hl 0 rfl) ?_
        refine ta_get C hP 0 inlX7 rfl rfl 3 (by decide) tw_27 rfl dX7_pass_50 ?_
        refine ta_callVi (As := []) (rest0 := []) (Wr := ([(o 0, .inr (7, [.ref (x 0), .ref (tq 0), .ref rd, .ref (q 0), .ref (tr 0), .ref (pz 0), .ref (o 1), .ref (o 2), .ref (sz 0)])), (pz 0, .inr (2, [.ref (pz 1), .int (nI (sp_n kn))])), (pz 1, .inl (k.1 3, 8, .inr (.inr (.inr (.inr (ta_pd ud_7))))))] ++ (pdW k ud_7 uT_8 (sp_G kn G g) uZ_9))) C hP hD hS (c_X0_cell l D k q t (tg_it t g n) u_15) 91 rfl rfl rfl [91, 92, 93, 94, 95, 96, 97, 98, 99, 100, 101] [0, 1, 2, 3, 4, 5, 6, 7, 8, 9, 10, 11, 12, 13, 14, 15, 16, 17, 18, 19, 20, 21, 22, 23, 24, 25, 26, 27, 28, 29, 30, 31, 32, 33, 34, 35, 36, 37, 38, 39, 40, 41, 42, 43, 44, 45, 46, 47, 48, 49, 50, 51, 52, 53, 54, 55, 56, 57, 58, 59, 60, 61, 62, 63, 64, 65, 66, 67, 68, 69, 70, 71, 72, 73, 74, 75, 76, 77, 78, 79, 80, 81, 82, 83, 84, 85, 86, 87, 88, 89, 90] rfl rfl (by decide) (by decide) (by decide) tw_464 tw_469 tw_26 tw_462 tw_463 ⟨by decide, by decide, rfl⟩ ⟨Nat.le_of_ble_eq_true rfl, Nat.le_of_ble_eq_true rfl⟩ ⟨Nat.zero_le _, Nat.zero_le _⟩ hl.1 rfl (Nat.le_of_ble_eq_true rfl) dX7_pass_53 (fun r17 u18 H locs h19 hP hD hS => ?_)
        obtain rfl := h19
        have hP : va_P D vwCl ([(o 0, .inr (7, [.ref (x 0), .ref (tq 0), .ref rd, .ref (q 0), .ref (tr 0), .ref (pz 0), .ref (o 1), .ref (o 2), .ref (sz 0)])), (pz 0, .inr (2, [.ref (pz 1), .int (nI (sp_n kn))])), (pz 1, .inl (k.1 3, 8, .inr (.inr (.inr (.inr (ta_pd ud_7))))))] ++ ((pdW k ud_7 uT_8 (sp_G kn G g) uZ_9) ++ (dyW k q t (tg_it t g n) u_15))) H := hP
        have hD : va_D A ([(o 0, .inr (7, [.ref (x 0), .ref (tq 0), .ref rd, .ref (q 0), .ref (tr 0), .ref (pz 0), .ref (o 1), .ref (o 2), .ref (sz 0)])), (pz 0, .inr (2, [.ref (pz 1), .int (nI (sp_n kn))])), (pz 1, .inl (k.1 3, 8, .inr (.inr (.inr (.inr (ta_pd ud_7))))))] ++ ((pdW k ud_7 uT_8 (sp_G kn G g) uZ_9) ++ (dyW k q t (tg_it t g n) u_15))) := hD
        have hcd : (sp_pass_c g n) := by unfold sp_pass_c; omega
        simp only [cl_p hcd] at ret
        have e1 : sp_pass t g n = (tg_it t g n) 2 := by
          unfold sp_pass
          (repeat' split) <;> omega
        exact ret (nI ((tg_it t g n) 2)) (ud_7, uT_8, uZ_9, u_15) dX7_pass_56 rfl ⟨by rw [e1], hT10, hZ11, hX16⟩ (hP.sub [0, 1, 2, 3, 4, 5, 6, 7, 8, 9, 10, 11, 12, 13, 14, 15, 16, 17, 18, 19, 20, 21, 22, 23, 24, 25, 26, 27, 28, 29, 30, 31, 32, 33, 34, 35, 36, 37, 38, 39, 40, 41, 42, 43, 44, 45, 46, 47, 48, 49, 50, 51, 52, 53, 54, 55, 56, 57, 58, 59, 60, 61, 62, 63, 64, 65, 66, 67, 68, 69, 70, 71, 72, 73, 74, 75, 76, 77, 78, 79, 80, 81, 82, 83, 84, 85, 86, 87, 88, 89, 90, 91, 92, 93, 94, 95, 96, 97, 98, 99, 100, 101] rfl) (hD.sub [0, 1, 2, 3, 4, 5, 6, 7, 8, 9, 10, 11, 12, 13, 14, 15, 16, 17, 18, 19, 20, 21, 22, 23, 24, 25, 26, 27, 28, 29, 30, 31, 32, 33, 34, 35, 36, 37, 38, 39, 40, 41, 42, 43, 44, 45, 46, 47, 48, 49, 50, 51, 52, 53, 54, 55, 56, 57, 58, 59, 60, 61, 62, 63, 64, 65, 66, 67, 68, 69, 70, 71, 72, 73, 74, 75, 76, 77, 78, 79, 80, 81, 82, 83, 84, 85, 86, 87, 88, 89, 90, 91, 92, 93, 94, 95, 96, 97, 98, 99, 100, 101] (by decide) rfl) hS
      · refine ta_bipush C 4294967291 dX7_pass_27 (by decide) ?_
        have hcd : ¬ (sp_pass_c g n) := by unfold sp_pass_c; omega
        simp only [cl_n hcd] at ret
        have e1 : sp_pass t g n = 4294967291 := by
          unfold sp_pass
          (repeat' split) <;> omega
        exact ret (nI 4294967291) (d, T, Z, X) dX7_pass_29 rfl ⟨by rw [e1], hT, hZ, hX⟩ (hP.sub [0, 1, 2, 3, 4, 5, 6, 7, 8, 9, 10, 11, 12, 13, 14, 15, 16, 17, 18, 19, 20, 21, 22, 23, 24, 25, 26, 27, 28, 29, 30, 31, 32, 33, 34, 35, 36, 37, 38, 39, 40, 41, 42, 43, 44, 45, 46, 47, 48, 49, 50, 51, 52, 53, 54, 55, 56, 57, 58, 59, 60, 61, 62, 63, 64, 65, 66, 67, 68, 69, 70, 71, 72, 73, 74, 75, 76, 77, 78, 79, 80, 81, 82, 83, 84, 85, 86, 87, 88, 89, 90, 91, 92, 93, 94, 95, 96, 97, 98, 99, 100, 101] rfl) (hD.sub [0, 1, 2, 3, 4, 5, 6, 7, 8, 9, 10, 11, 12, 13, 14, 15, 16, 17, 18, 19, 20, 21, 22, 23, 24, 25, 26, 27, 28, 29, 30, 31, 32, 33, 34, 35, 36, 37, 38, 39, 40, 41, 42, 43, 44, 45, 46, 47, 48, 49, 50, 51, 52, 53, 54, 55, 56, 57, 58, 59, 60, 61, 62, 63, 64, 65, 66, 67, 68, 69, 70, 71, 72, 73, 74, 75, 76, 77, 78, 79, 80, 81, 82, 83, 84, 85, 86, 87, 88, 89, 90, 91, 92, 93, 94, 95, 96, 97, 98, 99, 100, 101] (by decide) rfl) hS
    · refine ta_bipush C 4294967293 dX7_pass_11 (by decide) ?_
      have hcd : ¬ (sp_pass_c g n) := by unfold sp_pass_c; omega
      simp only [cl_n hcd] at ret
      have e1 : sp_pass t g n = 4294967293 := by
        unfold sp_pass
        (repeat' split) <;> omega
      exact ret (nI 4294967293) (d, T, Z, X) dX7_pass_13 rfl ⟨by rw [e1], hT, hZ, hX⟩ (hP.sub [0, 1, 2, 3, 4, 5, 6, 7, 8, 9, 10, 11, 12, 13, 14, 15, 16, 17, 18, 19, 20, 21, 22, 23, 24, 25, 26, 27, 28, 29, 30, 31, 32, 33, 34, 35, 36, 37, 38, 39, 40, 41, 42, 43, 44, 45, 46, 47, 48, 49, 50, 51, 52, 53, 54, 55, 56, 57, 58, 59, 60, 61, 62, 63, 64, 65, 66, 67, 68, 69, 70, 71, 72, 73, 74, 75, 76, 77, 78, 79, 80, 81, 82, 83, 84, 85, 86, 87, 88, 89, 90, 91, 92, 93, 94, 95, 96, 97, 98, 99, 100, 101] rfl) (hD.sub [0, 1, 2, 3, 4, 5, 6, 7, 8, 9, 10, 11, 12, 13, 14, 15, 16, 17, 18, 19, 20, 21, 22, 23, 24, 25, 26, 27, 28, 29, 30, 31, 32, 33, 34, 35, 36, 37, 38, 39, 40, 41, 42, 43, 44, 45, 46, 47, 48, 49, 50, 51, 52, 53, 54, 55, 56, 57, 58, 59, 60, 61, 62, 63, 64, 65, 66, 67, 68, 69, 70, 71, 72, 73, 74, 75, 76, 77, 78, 79, 80, 81, 82, 83, 84, 85, 86, 87, 88, 89, 90, 91, 92, 93, 94, 95, 96, 97, 98, 99, 100, 101] (by decide) rfl) hS

set_option maxHeartbeats 4000000 in
set_option maxRecDepth 100000 in
theorem c_X7_wind (l : Launch) (D : va_G) (k : ta_C) (o : Nat → Nat) (x : Nat → Nat) (tq : Nat → Nat) (rd : Nat) (q : Nat → Nat) (tr : Nat → Nat) (pz : Nat → Nat) (sz : Nat → Nat) (kn : Nat) (d : Nat → Nat → Nat) (T : Nat → Nat → Nat) (G : Nat → Nat → Nat) (Z : Nat → Nat → Nat → Nat) (t : Nat → Nat) (g : Nat → Nat) (X : Nat → Nat → Nat) (n : Nat) (hok : tg_ok t g) (hh0 : g 0 < 1000000) (hX : tg_X g X) (hkn : kn ≤ 8) (hT : ∀ i, i < kn → T i = t) (hZ : ∀ i, i < kn → tg_X (G i) (Z i)) (wn : n < 4294967296) : ta_Mi (S := (Nat → Nat → Nat) × (Nat → Nat → Nat) × (Nat → Nat → Nat → Nat) × (Nat → Nat → Nat)) l D k yX7_wind cX7_wind 2 .int 4 140 [.ref (o 0), .int (nI n)] ([(o 0, .inr (7, [.ref (x 0), .ref (tq 0), .ref rd, .ref (q 0), .ref (tr 0), .ref (pz 0), .ref (o 1), .ref (o 2), .ref (sz 0)])), (pz 0, .inr (2, [.ref (pz 1), .int (nI kn)])), (pz 1, .inl (k.1 3, 8, .inr (.inr (.inr (.inr (ta_pd d))))))] ++ ((pdW k d T G Z) ++ (dyW k q t g X))) (fun r u => r = nI (sp_wind t g n) ∧ (∀ i, i < cl_if (n ≤ 8) (sp_n kn) (kn) → u.2.1 i = t) ∧ (∀ i, i < cl_if (n ≤ 8) (sp_n kn) (kn) → tg_X (cl_if (n ≤ 8) (sp_G kn G g) (G) i) (u.2.2.1 i)) ∧ tg_X (cl_if (n ≤ 8) (tg_wind t g n) (g)) u.2.2.2) (fun u => ([(o 0, .inr (7, [.ref (x 0), .ref (tq 0), .ref rd, .ref (q 0), .ref (tr 0), .ref (pz 0), .ref (o 1), .ref (o 2), .ref (sz 0)])), (pz 0, .inr (2, [.ref (pz 1), .int (nI (cl_if (n ≤ 8) (sp_n kn) (kn)))])), (pz 1, .inl (k.1 3, 8, .inr (.inr (.inr (.inr (ta_pd u.1))))))] ++ ((pdW k u.1 u.2.1 (cl_if (n ≤ 8) (sp_G kn G g) (G)) u.2.2.1) ++ (dyW k q t (cl_if (n ≤ 8) (tg_wind t g n) (g)) u.2.2.2)))) := by
  refine ta_enter_i (by decide) (Nat.le_of_ble_eq_true rfl) ?_
  intro p e s m below meth c A ls Q C ret hP hD hS hl
  have C : ta_At p l D k s m ([.ref (o 0), .int (nI n)] : List Value).toArray c RX7 cX7_wind 2 A := C
  have hx := C.1.1
  have hb := C.1.2.1
  have hl : lv_has ls 2 [(0, .ref (o 0)), (1, .int (nI n))] := hl
  obtain ⟨H, hH⟩ : ∃ H, H = s.heap := ⟨_, rfl⟩
  obtain ⟨locs, hlocs⟩ : ∃ q : List Loc, q = [] := ⟨_, rfl⟩
  have hP : va_P D vwCl ([(o 0, .inr (7, [.ref (x 0), .ref (tq 0), .ref rd, .ref (q 0), .ref (tr 0), .ref (pz 0), .ref (o 1), .ref (o 2), .ref (sz 0)])), (pz 0, .inr (2, [.ref (pz 1), .int (nI kn)])), (pz 1, .inl (k.1 3, 8, .inr (.inr (.inr (.inr (ta_pd d))))))] ++ ((pdW k d T G Z) ++ (dyW k q t g X))) H := by rw [hH]; exact hP
  have hS : va_S A s.heap H locs := by rw [hH, hlocs]; exact hS
  rw [← hlocs]
  suffices hgoal : W p l e ({ frames := 4, cells := 0, slots := 0, locals := 140 }) s m ([.ref (o 0), .int (nI n)] : List Value).toArray below meth c H locs 0 0 Q (F0 m 0 ls []) by rw [hH] at hgoal; exact hgoal
  clear hH hlocs
  obtain ⟨⟨a1, a2, a3, a4, a5, a6⟩, b1, b2, b3, b4, b6, b7, b8, b9⟩ := id hok
  refine lv_iload_n hx hb dX7_wind_0 rfl (lv_at hl 1 rfl) ?_
  refine ta_wilt C (a := n) (tgt := 10) (by omega) dX7_wind_1 (by decide) (fun c1 => ?_) (fun c1 => ?_)
  · refine ta_bipush C 4294967293 dX7_wind_10 (by decide) ?_
    have hcd : ¬ (n ≤ 8) := by omega
    simp only [cl_n hcd] at ret
    have e1 : sp_wind t g n = 4294967293 := by
      unfold sp_wind
      (repeat' split) <;> omega
    exact ret (nI 4294967293) (d, T, Z, X) dX7_wind_12 rfl ⟨by rw [e1], hT, hZ, hX⟩ (hP.sub [0, 1, 2, 3, 4, 5, 6, 7, 8, 9, 10, 11, 12, 13, 14, 15, 16, 17, 18, 19, 20, 21, 22, 23, 24, 25, 26, 27, 28, 29, 30, 31, 32, 33, 34, 35, 36, 37, 38, 39, 40, 41, 42, 43, 44, 45, 46, 47, 48, 49, 50, 51, 52, 53, 54, 55, 56, 57, 58, 59, 60, 61, 62, 63, 64, 65, 66, 67, 68, 69, 70, 71, 72, 73, 74, 75, 76, 77, 78, 79, 80, 81, 82, 83, 84, 85, 86, 87, 88, 89, 90, 91, 92, 93, 94, 95, 96, 97, 98, 99, 100, 101] rfl) (hD.sub [0, 1, 2, 3, 4, 5, 6, 7, 8, 9, 10, 11, 12, 13, 14, 15, 16, 17, 18, 19, 20, 21, 22, 23, 24, 25, 26, 27, 28, 29, 30, 31, 32, 33, 34, 35, 36, 37, 38, 39, 40, 41, 42, 43, 44, 45, 46, 47, 48, 49, 50, 51, 52, 53, 54, 55, 56, 57, 58, 59, 60, 61, 62, 63, 64, 65, 66, 67, 68, 69, 70, 71, 72, 73, 74, 75, 76, 77, 78, 79, 80, 81, 82, 83, 84, 85, 86, 87, 88, 89, 90, 91, 92, 93, 94, 95, 96, 97, 98, 99, 100, 101] (by decide) rfl) hS
  · refine lv_iload_n hx hb dX7_wind_4 rfl (lv_at hl 1 rfl) ?_
    refine ta_bipush C 8 dX7_wind_5 (by decide) ?_
    refine ta_wle C (a := n) (b := 8) (tgt := 13) (by omega) (by omega) dX7_wind_7 (by decide) (fun c2 => ?_) (fun c2 => ?_)
    · refine lv_aload_n hx hb dX7_wind_13 rfl (lv_at hl 0 rfl) ?_
      refine ta_get C hP 0 inlX7 rfl rfl 5 (by decide) tw_32 rfl dX7_wind_14 ?_
      refine lv_aload_n hx hb dX7_wind_17 rfl (lv_at hl 0 rfl) ?_
      refine ta_get C hP 0 inlX7 rfl rfl 3 (by decide) tw_27 rfl dX7_wind_18 ?_
      refine ta_callVv (As := [.ref (q 0)]) (rest0 := []) (Wr := [(o 0, .inr (7, [.ref (x 0), .ref (tq 0), .ref rd, .ref (q 0), .ref (tr 0), .ref (pz 0), .ref (o 1), .ref (o 2), .ref (sz 0)]))]) C hP hD hS (c_X2_rememberA l D k pz kn d T G Z q t g X hkn b6 b7 hX hT hZ) 1 rfl rfl rfl [1, 2, 3, 4, 5, 6, 7, 8, 9, 10, 11, 12, 13, 14, 15, 16, 17, 18, 19, 20, 21, 22, 23, 24, 25, 26, 27, 28, 29, 30, 31, 32, 33, 34, 35, 36, 37, 38, 39, 40, 41, 42, 43, 44, 45, 46, 47, 48, 49, 50, 51, 52, 53, 54, 55, 56, 57, 58, 59, 60, 61, 62, 63, 64, 65, 66, 67, 68, 69, 70, 71, 72, 73, 74, 75, 76, 77, 78, 79, 80, 81, 82, 83, 84, 85, 86, 87, 88, 89, 90, 91, 92, 93, 94, 95, 96, 97, 98, 99, 100, 101] [0] rfl rfl (by decide) (by decide) (by decide) tw_426 tw_423 tw_31 tw_424 tw_425 ⟨by decide, by decide, rfl⟩ ⟨Nat.le_of_ble_eq_true rfl, Nat.le_of_ble_eq_true rfl⟩ ⟨Nat.zero_le _, Nat.zero_le _⟩ hl.1 rfl (Nat.le_of_ble_eq_true rfl) dX7_wind_21 (fun u4 H locs h5 hP hD hS => ?_)
      obtain ⟨ud_6, uT_7, uZ_8⟩ := u4
      try dsimp only at h5
      obtain ⟨hT9, hZ10⟩ := h5
      have hP : va_P D vwCl ([(o 0, .inr (7, [.ref (x 0), .ref (tq 0), .ref rd, .ref (q 0), .ref (tr 0), .ref (pz 0), .ref (o 1), .ref (o 2), .ref (sz 0)])), (pz 0, .inr (2, [.ref (pz 1), .int (nI (sp_n kn))])), (pz 1, .inl (k.1 3, 8, .inr (.inr (.inr (.inr (ta_pd ud_6))))))] ++ ((pdW k ud_6 uT_7 (sp_G kn G g) uZ_8) ++ (dyW k q t g X))) H := hP
      have hD : va_D A ([(o 0, .inr (7, [.ref (x 0), .ref (tq 0), .ref rd, .ref (q 0), .ref (tr 0), .ref (pz 0), .ref (o 1), .ref (o 2), .ref (sz 0)])), (pz 0, .inr (2, [.ref (pz 1), .int (nI (sp_n kn))])), (pz 1, .inl (k.1 3, 8, .inr (.inr (.inr (.inr (ta_pd ud_6))))))] ++ ((pdW k ud_6 uT_7 (sp_G kn G g) uZ_8) ++ (dyW k q t g X))) := hD
      refine lv_aload_n hx hb dX7_wind_24 rfl (lv_at hl 0 rfl) ?_
      refine ta_get C hP 0 inlX7 rfl rfl 3 (by decide) tw_27 rfl dX7_wind_25 ?_
      refine lv_iload_n hx hb dX7_wind_28 rfl (lv_at hl 1 rfl) ?_
      refine ta_callVv (As := [.int (nI n)]) (rest0 := []) (Wr := ([(o 0, .inr (7, [.ref (x 0), .ref (tq 0), .ref rd, .ref (q 0), .ref (tr 0), .ref (pz 0), .ref (o 1), .ref (o 2), .ref (sz 0)])), (pz 0, .inr (2, [.ref (pz 1), .int (nI (sp_n kn))])), (pz 1, .inl (k.1 3, 8, .inr (.inr (.inr (.inr (ta_pd ud_6))))))] ++ (pdW k ud_6 uT_7 (sp_G kn G g) uZ_8))) C hP hD hS (c_X0_windOn l D k q t g X n (by omega) (by omega)) 91 rfl rfl rfl [91, 92, 93, 94, 95, 96, 97, 98, 99, 100, 101] [0, 1, 2, 3, 4, 5, 6, 7, 8, 9, 10, 11, 12, 13, 14, 15, 16, 17, 18, 19, 20, 21, 22, 23, 24, 25, 26, 27, 28, 29, 30, 31, 32, 33, 34, 35, 36, 37, 38, 39, 40, 41, 42, 43, 44, 45, 46, 47, 48, 49, 50, 51, 52, 53, 54, 55, 56, 57, 58, 59, 60, 61, 62, 63, 64, 65, 66, 67, 68, 69, 70, 71, 72, 73, 74, 75, 76, 77, 78, 79, 80, 81, 82, 83, 84, 85, 86, 87, 88, 89, 90] rfl rfl (by decide) (by decide) (by decide) tw_468 tw_511 tw_26 tw_466 tw_467 ⟨by decide, by decide, rfl⟩ ⟨Nat.le_of_ble_eq_true rfl, Nat.le_of_ble_eq_true rfl⟩ ⟨Nat.zero_le _, Nat.zero_le _⟩ hl.1 rfl (Nat.le_of_ble_eq_true rfl) dX7_wind_29 (fun u12 H locs h13 hP hD hS => ?_)
      have hP : va_P D vwCl ([(o 0, .inr (7, [.ref (x 0), .ref (tq 0), .ref rd, .ref (q 0), .ref (tr 0), .ref (pz 0), .ref (o 1), .ref (o 2), .ref (sz 0)])), (pz 0, .inr (2, [.ref (pz 1), .int (nI (sp_n kn))])), (pz 1, .inl (k.1 3, 8, .inr (.inr (.inr (.inr (ta_pd ud_6))))))] ++ ((pdW k ud_6 uT_7 (sp_G kn G g) uZ_8) ++ (dyW k q t (tg_wind t g n) X))) H := hP
      have hD : va_D A ([(o 0, .inr (7, [.ref (x 0), .ref (tq 0), .ref rd, .ref (q 0), .ref (tr 0), .ref (pz 0), .ref (o 1), .ref (o 2), .ref (sz 0)])), (pz 0, .inr (2, [.ref (pz 1), .int (nI (sp_n kn))])), (pz 1, .inl (k.1 3, 8, .inr (.inr (.inr (.inr (ta_pd ud_6))))))] ++ ((pdW k ud_6 uT_7 (sp_G kn G g) uZ_8) ++ (dyW k q t (tg_wind t g n) X))) := hD
      refine lv_aload_n hx hb dX7_wind_32 rfl (lv_at hl 0 rfl) ?_
      refine ta_get C hP 0 inlX7 rfl rfl 3 (by decide) tw_27 rfl dX7_wind_33 ?_
      refine ta_getN C hP 91 inlX0 rfl rfl 3 (by decide) 28 rfl rfl dX7_wind_36 ?_
      have hcd : (n ≤ 8) := by omega
      simp only [cl_p hcd] at ret
      have e1 : sp_wind t g n = (tg_wind t g n) 0 := by
        unfold sp_wind
        (repeat' split) <;> omega
      exact ret (nI ((tg_wind t g n) 0)) (ud_6, uT_7, uZ_8, X) dX7_wind_39 rfl ⟨by rw [e1], hT9, hZ10, (tg_Xk (fun j h1 h2 => tg_wind_k (by omega) (by omega)) hok hX)⟩ (hP.sub [0, 1, 2, 3, 4, 5, 6, 7, 8, 9, 10, 11, 12, 13, 14, 15, 16, 17, 18, 19, 20, 21, 22, 23, 24, 25, 26, 27, 28, 29, 30, 31, 32, 33, 34, 35, 36, 37, 38, 39, 40, 41, 42, 43, 44, 45, 46, 47, 48, 49, 50, 51, 52, 53, 54, 55, 56, 57, 58, 59, 60, 61, 62, 63, 64, 65, 66, 67, 68, 69, 70, 71, 72, 73, 74, 75, 76, 77, 78, 79, 80, 81, 82, 83, 84, 85, 86, 87, 88, 89, 90, 91, 92, 93, 94, 95, 96, 97, 98, 99, 100, 101] rfl) (hD.sub [0, 1, 2, 3, 4, 5, 6, 7, 8, 9, 10, 11, 12, 13, 14, 15, 16, 17, 18, 19, 20, 21, 22, 23, 24, 25, 26, 27, 28, 29, 30, 31, 32, 33, 34, 35, 36, 37, 38, 39, 40, 41, 42, 43, 44, 45, 46, 47, 48, 49, 50, 51, 52, 53, 54, 55, 56, 57, 58, 59, 60, 61, 62, 63, 64, 65, 66, 67, 68, 69, 70, 71, 72, 73, 74, 75, 76, 77, 78, 79, 80, 81, 82, 83, 84, 85, 86, 87, 88, 89, 90, 91, 92, 93, 94, 95, 96, 97, 98, 99, 100, 101] (by decide) rfl) hS
    · refine ta_bipush C 4294967293 dX7_wind_10 (by decide) ?_
      have hcd : ¬ (n ≤ 8) := by omega
      simp only [cl_n hcd] at ret
      have e1 : sp_wind t g n = 4294967293 := by
        unfold sp_wind
        (repeat' split) <;> omega
      exact ret (nI 4294967293) (d, T, Z, X) dX7_wind_12 rfl ⟨by rw [e1], hT, hZ, hX⟩ (hP.sub [0, 1, 2, 3, 4, 5, 6, 7, 8, 9, 10, 11, 12, 13, 14, 15, 16, 17, 18, 19, 20, 21, 22, 23, 24, 25, 26, 27, 28, 29, 30, 31, 32, 33, 34, 35, 36, 37, 38, 39, 40, 41, 42, 43, 44, 45, 46, 47, 48, 49, 50, 51, 52, 53, 54, 55, 56, 57, 58, 59, 60, 61, 62, 63, 64, 65, 66, 67, 68, 69, 70, 71, 72, 73, 74, 75, 76, 77, 78, 79, 80, 81, 82, 83, 84, 85, 86, 87, 88, 89, 90, 91, 92, 93, 94, 95, 96, 97, 98, 99, 100, 101] rfl) (hD.sub [0, 1, 2, 3, 4, 5, 6, 7, 8, 9, 10, 11, 12, 13, 14, 15, 16, 17, 18, 19, 20, 21, 22, 23, 24, 25, 26, 27, 28, 29, 30, 31, 32, 33, 34, 35, 36, 37, 38, 39, 40, 41, 42, 43, 44, 45, 46, 47, 48, 49, 50, 51, 52, 53, 54, 55, 56, 57, 58, 59, 60, 61, 62, 63, 64, 65, 66, 67, 68, 69, 70, 71, 72, 73, 74, 75, 76, 77, 78, 79, 80, 81, 82, 83, 84, 85, 86, 87, 88, 89, 90, 91, 92, 93, 94, 95, 96, 97, 98, 99, 100, 101] (by decide) rfl) hS

set_option maxHeartbeats 4000000 in
set_option maxRecDepth 100000 in
theorem c_X7_order (l : Launch) (D : va_G) (k : ta_C) (o : Nat → Nat) (x : Nat → Nat) (tq : Nat → Nat) (rd : Nat) (q : Nat → Nat) (tr : Nat → Nat) (pz : Nat → Nat) (sz : Nat → Nat) (kn : Nat) (d : Nat → Nat → Nat) (T : Nat → Nat → Nat) (G : Nat → Nat → Nat) (Z : Nat → Nat → Nat → Nat) (t : Nat → Nat) (g : Nat → Nat) (X : Nat → Nat → Nat) (a : Nat) (kd : Nat) (mi : Nat) (hok : tg_ok t g) (hh0 : g 0 < 1000000) (hX : tg_X g X) (hkn : kn ≤ 8) (hT : ∀ i, i < kn → T i = t) (hZ : ∀ i, i < kn → tg_X (G i) (Z i)) (wa : a < 4294967296) (wkd : kd < 4294967296) (wmi : mi < 4294967296) : ta_Mi (S := (Nat → Nat → Nat) × (Nat → Nat → Nat) × (Nat → Nat → Nat → Nat) × (Nat → Nat → Nat)) l D k yX7_order cX7_order 4 .int 4 140 [.ref (o 0), .int (nI a), .int (nI kd), .int (nI mi)] ([(o 0, .inr (7, [.ref (x 0), .ref (tq 0), .ref rd, .ref (q 0), .ref (tr 0), .ref (pz 0), .ref (o 1), .ref (o 2), .ref (sz 0)])), (pz 0, .inr (2, [.ref (pz 1), .int (nI kn)])), (pz 1, .inl (k.1 3, 8, .inr (.inr (.inr (.inr (ta_pd d))))))] ++ ((pdW k d T G Z) ++ (dyW k q t g X))) (fun r u => r = nI (sp_order g a kd mi) ∧ (∀ i, i < cl_if (sp_order_c g a kd mi) (sp_n kn) (kn) → u.2.1 i = t) ∧ (∀ i, i < cl_if (sp_order_c g a kd mi) (sp_n kn) (kn) → tg_X (cl_if (sp_order_c g a kd mi) (sp_G kn G g) (G) i) (u.2.2.1 i)) ∧ tg_X (cl_if (sp_order_c g a kd mi) (tg_ord g a (10 * kd + mi)) (g)) u.2.2.2) (fun u => ([(o 0, .inr (7, [.ref (x 0), .ref (tq 0), .ref rd, .ref (q 0), .ref (tr 0), .ref (pz 0), .ref (o 1), .ref (o 2), .ref (sz 0)])), (pz 0, .inr (2, [.ref (pz 1), .int (nI (cl_if (sp_order_c g a kd mi) (sp_n kn) (kn)))])), (pz 1, .inl (k.1 3, 8, .inr (.inr (.inr (.inr (ta_pd u.1))))))] ++ ((pdW k u.1 u.2.1 (cl_if (sp_order_c g a kd mi) (sp_G kn G g) (G)) u.2.2.1) ++ (dyW k q t (cl_if (sp_order_c g a kd mi) (tg_ord g a (10 * kd + mi)) (g)) u.2.2.2)))) := by
  refine ta_enter_i (by decide) (Nat.le_of_ble_eq_true rfl) ?_
  intro p e s m below meth c A ls Q C ret hP hD hS hl
  have C : ta_At p l D k s m ([.ref (o 0), .int (nI a), .int (nI kd), .int (nI mi)] : List Value).toArray c RX7 cX7_order 4 A := C
  have hx := C.1.1
  have hb := C.1.2.1
  have hl : lv_has ls 4 [(0, .ref (o 0)), (1, .int (nI a)), (2, .int (nI kd)), (3, .int (nI mi))] := hl
  obtain ⟨H, hH⟩ : ∃ H, H = s.heap := ⟨_, rfl⟩
  obtain ⟨locs, hlocs⟩ : ∃ q : List Loc, q = [] := ⟨_, rfl⟩
  have hP : va_P D vwCl ([(o 0, .inr (7, [.ref (x 0), .ref (tq 0), .ref rd, .ref (q 0), .ref (tr 0), .ref (pz 0), .ref (o 1), .ref (o 2), .ref (sz 0)])), (pz 0, .inr (2, [.ref (pz 1), .int (nI kn)])), (pz 1, .inl (k.1 3, 8, .inr (.inr (.inr (.inr (ta_pd d))))))] ++ ((pdW k d T G Z) ++ (dyW k q t g X))) H := by rw [hH]; exact hP
  have hS : va_S A s.heap H locs := by rw [hH, hlocs]; exact hS
  rw [← hlocs]
  suffices hgoal : W p l e ({ frames := 4, cells := 0, slots := 0, locals := 140 }) s m ([.ref (o 0), .int (nI a), .int (nI kd), .int (nI mi)] : List Value).toArray below meth c H locs 0 0 Q (F0 m 0 ls []) by rw [hH] at hgoal; exact hgoal
  clear hH hlocs
  obtain ⟨⟨a1, a2, a3, a4, a5, a6⟩, b1, b2, b3, b4, b6, b7, b8, b9⟩ := id hok
  refine lv_iload_n hx hb dX7_order_0 rfl (lv_at hl 1 rfl) ?_
  refine ta_callSi (As := [.int (nI a)]) (rest0 := []) (Wr := ([(o 0, .inr (7, [.ref (x 0), .ref (tq 0), .ref rd, .ref (q 0), .ref (tr 0), .ref (pz 0), .ref (o 1), .ref (o 2), .ref (sz 0)])), (pz 0, .inr (2, [.ref (pz 1), .int (nI kn)])), (pz 1, .inl (k.1 3, 8, .inr (.inr (.inr (.inr (ta_pd d))))))] ++ ((pdW k d T G Z) ++ (dyW k q t g X)))) C hP hD hS (c_X7_isArmy l D k a (by omega)) [] [0, 1, 2, 3, 4, 5, 6, 7, 8, 9, 10, 11, 12, 13, 14, 15, 16, 17, 18, 19, 20, 21, 22, 23, 24, 25, 26, 27, 28, 29, 30, 31, 32, 33, 34, 35, 36, 37, 38, 39, 40, 41, 42, 43, 44, 45, 46, 47, 48, 49, 50, 51, 52, 53, 54, 55, 56, 57, 58, 59, 60, 61, 62, 63, 64, 65, 66, 67, 68, 69, 70, 71, 72, 73, 74, 75, 76, 77, 78, 79, 80, 81, 82, 83, 84, 85, 86, 87, 88, 89, 90, 91, 92, 93, 94, 95, 96, 97, 98, 99, 100, 101] rfl rfl (by decide) (by decide) (by decide) tw_385 tw_383 tw_2 tw_384 ⟨by decide, by decide, rfl⟩ ⟨Nat.le_of_ble_eq_true rfl, Nat.le_of_ble_eq_true rfl⟩ ⟨Nat.zero_le _, Nat.zero_le _⟩ hl.1 rfl (Nat.le_of_ble_eq_true rfl) dX7_order_1 (fun r1 u2 H locs h3 hP hD hS => ?_)
  rcases h3 with h0 | h0
  · obtain ⟨hi4, rfl⟩ := h0
    have hP : va_P D vwCl ([(o 0, .inr (7, [.ref (x 0), .ref (tq 0), .ref rd, .ref (q 0), .ref (tr 0), .ref (pz 0), .ref (o 1), .ref (o 2), .ref (sz 0)])), (pz 0, .inr (2, [.ref (pz 1), .int (nI kn)])), (pz 1, .inl (k.1 3, 8, .inr (.inr (.inr (.inr (ta_pd d))))))] ++ ((pdW k d T G Z) ++ (dyW k q t g X))) H := hP
    have hD : va_D A ([(o 0, .inr (7, [.ref (x 0), .ref (tq 0), .ref rd, .ref (q 0), .ref (tr 0), .ref (pz 0), .ref (o 1), .ref (o 2), .ref (sz 0)])), (pz 0, .inr (2, [.ref (pz 1), .int (nI kn)])), (pz 1, .inl (k.1 3, 8, .inr (.inr (.inr (.inr (ta_pd d))))))] ++ ((pdW k d T G Z) ++ (dyW k q t g X))) := hD
    rcases (show a = 0 ∨ a = 1 by have h9 := hi4; omega) with rfl | rfl
    · have e6a : g (6 + 0) = g 6 := rfl
      have e8a : g (8 + 8 * 0) = g 8 := rfl
      have e24a : g (24 + 0) = g 24 := rfl
      refine lv_if_ne (tgt := 10) hx hb dX7_order_4 (by decide) (fun c5 => ?_) (fun c5 => ?_)
      · refine lv_iload_n hx hb dX7_order_10 rfl (lv_at hl 2 rfl) ?_
        refine lv_iload_n hx hb dX7_order_11 rfl (lv_at hl 3 rfl) ?_
        refine ta_callSi (As := [.int (nI kd), .int (nI mi)]) (rest0 := []) (Wr := ([(o 0, .inr (7, [.ref (x 0), .ref (tq 0), .ref rd, .ref (q 0), .ref (tr 0), .ref (pz 0), .ref (o 1), .ref (o 2), .ref (sz 0)])), (pz 0, .inr (2, [.ref (pz 1), .int (nI kn)])), (pz 1, .inl (k.1 3, 8, .inr (.inr (.inr (.inr (ta_pd d))))))] ++ ((pdW k d T G Z) ++ (dyW k q t g X)))) C hP hD hS (c_X7_isFigure l D k kd mi (by omega) (by omega)) [] [0, 1, 2, 3, 4, 5, 6, 7, 8, 9, 10, 11, 12, 13, 14, 15, 16, 17, 18, 19, 20, 21, 22, 23, 24, 25, 26, 27, 28, 29, 30, 31, 32, 33, 34, 35, 36, 37, 38, 39, 40, 41, 42, 43, 44, 45, 46, 47, 48, 49, 50, 51, 52, 53, 54, 55, 56, 57, 58, 59, 60, 61, 62, 63, 64, 65, 66, 67, 68, 69, 70, 71, 72, 73, 74, 75, 76, 77, 78, 79, 80, 81, 82, 83, 84, 85, 86, 87, 88, 89, 90, 91, 92, 93, 94, 95, 96, 97, 98, 99, 100, 101] rfl rfl (by decide) (by decide) (by decide) tw_496 tw_494 tw_2 tw_495 ⟨by decide, by decide, rfl⟩ ⟨Nat.le_of_ble_eq_true rfl, Nat.le_of_ble_eq_true rfl⟩ ⟨Nat.zero_le _, Nat.zero_le _⟩ hl.1 rfl (Nat.le_of_ble_eq_true rfl) dX7_order_12 (fun r6 u7 H locs h8 hP hD hS => ?_)
        rcases h8 with h0 | h0
        · obtain ⟨hi9, rfl⟩ := h0
          have hP : va_P D vwCl ([(o 0, .inr (7, [.ref (x 0), .ref (tq 0), .ref rd, .ref (q 0), .ref (tr 0), .ref (pz 0), .ref (o 1), .ref (o 2), .ref (sz 0)])), (pz 0, .inr (2, [.ref (pz 1), .int (nI kn)])), (pz 1, .inl (k.1 3, 8, .inr (.inr (.inr (.inr (ta_pd d))))))] ++ ((pdW k d T G Z) ++ (dyW k q t g X))) H := hP
          have hD : va_D A ([(o 0, .inr (7, [.ref (x 0), .ref (tq 0), .ref rd, .ref (q 0), .ref (tr 0), .ref (pz 0), .ref (o 1), .ref (o 2), .ref (sz 0)])), (pz 0, .inr (2, [.ref (pz 1), .int (nI kn)])), (pz 1, .inl (k.1 3, 8, .inr (.inr (.inr (.inr (ta_pd d))))))] ++ ((pdW k d T G Z) ++ (dyW k q t g X))) := hD
          have hfi := hi9
          refine lv_if_ne (tgt := 21) hx hb dX7_order_15 (by decide) (fun c10 => ?_) (fun c10 => ?_)
          · refine lv_aload_n hx hb dX7_order_21 rfl (lv_at hl 0 rfl) ?_
            refine ta_get C hP 0 inlX7 rfl rfl 3 (by decide) tw_27 rfl dX7_order_22 ?_
            refine ta_getN C hP 91 inlX0 rfl rfl 13 (by decide) 36 rfl rfl dX7_order_25 ?_
            refine lv_iload_n hx hb dX7_order_28 rfl (lv_at hl 1 rfl) ?_
            refine ta_aald C hP 95 2 rfl rfl (i := 0) (x := q 5) (by omega) rfl dX7_order_29 ?_
            refine ta_callVi (As := []) (rest0 := []) (Wr := ([(o 0, .inr (7, [.ref (x 0), .ref (tq 0), .ref rd, .ref (q 0), .ref (tr 0), .ref (pz 0), .ref (o 1), .ref (o 2), .ref (sz 0)])), (pz 0, .inr (2, [.ref (pz 1), .int (nI kn)])), (pz 1, .inl (k.1 3, 8, .inr (.inr (.inr (.inr (ta_pd d))))))] ++ ((pdW k d T G Z) ++ [(q 0, .inr (0, [.int (nI (t 0)), .int (nI (t 1)), .int (nI (t 2)), .int (nI (g 0)), .int (nI (g 1)), .int (nI (g 2 / t 0)), .int (nI (g 2 % t 0)), .int (nI (g 3)), .int (nI (g 4)), .int (nI (g 5)), .ref (q 1), .ref (q 2), .ref (q 3), .ref (q 4)])), (q 1, .inl (k.1 0, 36, .inl (ta_e (tg_mud g)))), (q 2, .inl (k.1 0, 4, .inl (ta_e (tg_wal g)))), (q 3, .inl (k.1 0, 2, .inl (ta_e (tg_kne g)))), (q 4, .inl (k.1 2, 2, .inr (.inr (.inr (.inr (ta_dr (q 5) (q 8))))))), (q 6, .inl (k.1 0, 8, .inl (ta_e (X 0)))), (q 7, .inl (k.1 0, 8, .inl (ta_e (X 1)))), (q 8, .inr (1, [.ref (q 9), .ref (q 10), .int (nI (g 7))])), (q 9, .inl (k.1 0, 8, .inl (ta_e (X 2)))), (q 10, .inl (k.1 0, 8, .inl (ta_e (X 3))))]))) C hP hD hS (c_X1_isFull l D k (q 5) (q 6) (q 7) (g 6) (by omega)) 96 rfl rfl rfl [96] [0, 1, 2, 3, 4, 5, 6, 7, 8, 9, 10, 11, 12, 13, 14, 15, 16, 17, 18, 19, 20, 21, 22, 23, 24, 25, 26, 27, 28, 29, 30, 31, 32, 33, 34, 35, 36, 37, 38, 39, 40, 41, 42, 43, 44, 45, 46, 47, 48, 49, 50, 51, 52, 53, 54, 55, 56, 57, 58, 59, 60, 61, 62, 63, 64, 65, 66, 67, 68, 69, 70, 71, 72, 73, 74, 75, 76, 77, 78, 79, 80, 81, 82, 83, 84, 85, 86, 87, 88, 89, 90, 91, 92, 93, 94, 95, 97, 98, 99, 100, 101] rfl rfl (by decide) (by decide) (by decide) tw_290 tw_497 tw_56 tw_288 tw_289 ⟨by decide, by decide, rfl⟩ ⟨Nat.le_of_ble_eq_true rfl, Nat.le_of_ble_eq_true rfl⟩ ⟨Nat.zero_le _, Nat.zero_le _⟩ hl.1 rfl (Nat.le_of_ble_eq_true rfl) dX7_order_30 (fun r11 u12 H locs h13 hP hD hS => ?_)
            rcases h13 with h0 | h0
            · obtain ⟨hf14, rfl⟩ := h0
              have hP : va_P D vwCl ([(o 0, .inr (7, [.ref (x 0), .ref (tq 0), .ref rd, .ref (q 0), .ref (tr 0), .ref (pz 0), .ref (o 1), .ref (o 2), .ref (sz 0)])), (pz 0, .inr (2, [.ref (pz 1), .int (nI kn)])), (pz 1, .inl (k.1 3, 8, .inr (.inr (.inr (.inr (ta_pd d))))))] ++ ((pdW k d T G Z) ++ [(q 0, .inr (0, [.int (nI (t 0)), .int (nI (t 1)), .int (nI (t 2)), .int (nI (g 0)), .int (nI (g 1)), .int (nI (g 2 / t 0)), .int (nI (g 2 % t 0)), .int (nI (g 3)), .int (nI (g 4)), .int (nI (g 5)), .ref (q 1), .ref (q 2), .ref (q 3), .ref (q 4)])), (q 1, .inl (k.1 0, 36, .inl (ta_e (tg_mud g)))), (q 2, .inl (k.1 0, 4, .inl (ta_e (tg_wal g)))), (q 3, .inl (k.1 0, 2, .inl (ta_e (tg_kne g)))), (q 4, .inl (k.1 2, 2, .inr (.inr (.inr (.inr (ta_dr (q 5) (q 8))))))), (q 6, .inl (k.1 0, 8, .inl (ta_e (X 0)))), (q 7, .inl (k.1 0, 8, .inl (ta_e (X 1)))), (q 8, .inr (1, [.ref (q 9), .ref (q 10), .int (nI (g 7))])), (q 9, .inl (k.1 0, 8, .inl (ta_e (X 2)))), (q 10, .inl (k.1 0, 8, .inl (ta_e (X 3)))), (q 5, .inr (1, [.ref (q 6), .ref (q 7), .int (nI (g 6))]))])) H := hP
              have hD : va_D A ([(o 0, .inr (7, [.ref (x 0), .ref (tq 0), .ref rd, .ref (q 0), .ref (tr 0), .ref (pz 0), .ref (o 1), .ref (o 2), .ref (sz 0)])), (pz 0, .inr (2, [.ref (pz 1), .int (nI kn)])), (pz 1, .inl (k.1 3, 8, .inr (.inr (.inr (.inr (ta_pd d))))))] ++ ((pdW k d T G Z) ++ [(q 0, .inr (0, [.int (nI (t 0)), .int (nI (t 1)), .int (nI (t 2)), .int (nI (g 0)), .int (nI (g 1)), .int (nI (g 2 / t 0)), .int (nI (g 2 % t 0)), .int (nI (g 3)), .int (nI (g 4)), .int (nI (g 5)), .ref (q 1), .ref (q 2), .ref (q 3), .ref (q 4)])), (q 1, .inl (k.1 0, 36, .inl (ta_e (tg_mud g)))), (q 2, .inl (k.1 0, 4, .inl (ta_e (tg_wal g)))), (q 3, .inl (k.1 0, 2, .inl (ta_e (tg_kne g)))), (q 4, .inl (k.1 2, 2, .inr (.inr (.inr (.inr (ta_dr (q 5) (q 8))))))), (q 6, .inl (k.1 0, 8, .inl (ta_e (X 0)))), (q 7, .inl (k.1 0, 8, .inl (ta_e (X 1)))), (q 8, .inr (1, [.ref (q 9), .ref (q 10), .int (nI (g 7))])), (q 9, .inl (k.1 0, 8, .inl (ta_e (X 2)))), (q 10, .inl (k.1 0, 8, .inl (ta_e (X 3)))), (q 5, .inr (1, [.ref (q 6), .ref (q 7), .int (nI (g 6))]))])) := hD
              have hfl := hf14
              have hP : va_P D vwCl ((dyW k q t g X) ++ ([(o 0, .inr (7, [.ref (x 0), .ref (tq 0), .ref rd, .ref (q 0), .ref (tr 0), .ref (pz 0), .ref (o 1), .ref (o 2), .ref (sz 0)])), (pz 0, .inr (2, [.ref (pz 1), .int (nI kn)])), (pz 1, .inl (k.1 3, 8, .inr (.inr (.inr (.inr (ta_pd d))))))] ++ (pdW k d T G Z))) H := hP.sub [91, 92, 93, 94, 95, 101, 96, 97, 98, 99, 100, 0, 1, 2, 3, 4, 5, 6, 7, 8, 9, 10, 11, 12, 13, 14, 15, 16, 17, 18, 19, 20, 21, 22, 23, 24, 25, 26, 27, 28, 29, 30, 31, 32, 33, 34, 35, 36, 37, 38, 39, 40, 41, 42, 43, 44, 45, 46, 47, 48, 49, 50, 51, 52, 53, 54, 55, 56, 57, 58, 59, 60, 61, 62, 63, 64, 65, 66, 67, 68, 69, 70, 71, 72, 73, 74, 75, 76, 77, 78, 79, 80, 81, 82, 83, 84, 85, 86, 87, 88, 89, 90] rfl
              have hD : va_D A ((dyW k q t g X) ++ ([(o 0, .inr (7, [.ref (x 0), .ref (tq 0), .ref rd, .ref (q 0), .ref (tr 0), .ref (pz 0), .ref (o 1), .ref (o 2), .ref (sz 0)])), (pz 0, .inr (2, [.ref (pz 1), .int (nI kn)])), (pz 1, .inl (k.1 3, 8, .inr (.inr (.inr (.inr (ta_pd d))))))] ++ (pdW k d T G Z))) := hD.sub [91, 92, 93, 94, 95, 101, 96, 97, 98, 99, 100, 0, 1, 2, 3, 4, 5, 6, 7, 8, 9, 10, 11, 12, 13, 14, 15, 16, 17, 18, 19, 20, 21, 22, 23, 24, 25, 26, 27, 28, 29, 30, 31, 32, 33, 34, 35, 36, 37, 38, 39, 40, 41, 42, 43, 44, 45, 46, 47, 48, 49, 50, 51, 52, 53, 54, 55, 56, 57, 58, 59, 60, 61, 62, 63, 64, 65, 66, 67, 68, 69, 70, 71, 72, 73, 74, 75, 76, 77, 78, 79, 80, 81, 82, 83, 84, 85, 86, 87, 88, 89, 90] (by decide) rfl
              refine lv_if_eq (tgt := 39) hx hb dX7_order_33 (by decide) (fun c15 => ?_) (fun c15 => ?_)
              · exact absurd c15 (by decide)
              · refine ta_bipush C 4294967291 dX7_order_36 (by decide) ?_
                have hcd : ¬ (sp_order_c g 0 kd mi) := by unfold sp_order_c; omega
                simp only [cl_n hcd] at ret
                have e1 : sp_order g 0 kd mi = 4294967291 := by
                  unfold sp_order
                  (repeat' split) <;> omega
                exact ret (nI 4294967291) (d, T, Z, X) dX7_order_38 rfl ⟨by rw [e1], hT, hZ, hX⟩ (hP.sub [11, 12, 13, 14, 15, 16, 17, 18, 19, 20, 21, 22, 23, 24, 25, 26, 27, 28, 29, 30, 31, 32, 33, 34, 35, 36, 37, 38, 39, 40, 41, 42, 43, 44, 45, 46, 47, 48, 49, 50, 51, 52, 53, 54, 55, 56, 57, 58, 59, 60, 61, 62, 63, 64, 65, 66, 67, 68, 69, 70, 71, 72, 73, 74, 75, 76, 77, 78, 79, 80, 81, 82, 83, 84, 85, 86, 87, 88, 89, 90, 91, 92, 93, 94, 95, 96, 97, 98, 99, 100, 101, 0, 1, 2, 3, 4, 5, 6, 7, 8, 9, 10] rfl) (hD.sub [11, 12, 13, 14, 15, 16, 17, 18, 19, 20, 21, 22, 23, 24, 25, 26, 27, 28, 29, 30, 31, 32, 33, 34, 35, 36, 37, 38, 39, 40, 41, 42, 43, 44, 45, 46, 47, 48, 49, 50, 51, 52, 53, 54, 55, 56, 57, 58, 59, 60, 61, 62, 63, 64, 65, 66, 67, 68, 69, 70, 71, 72, 73, 74, 75, 76, 77, 78, 79, 80, 81, 82, 83, 84, 85, 86, 87, 88, 89, 90, 91, 92, 93, 94, 95, 96, 97, 98, 99, 100, 101, 0, 1, 2, 3, 4, 5, 6, 7, 8, 9, 10] (by decide) rfl) hS
            · obtain ⟨hf16, rfl⟩ := h0
              have hP : va_P D vwCl ([(o 0, .inr (7, [.ref (x 0), .ref (tq 0), .ref rd, .ref (q 0), .ref (tr 0), .ref (pz 0), .ref (o 1), .ref (o 2), .ref (sz 0)])), (pz 0, .inr (2, [.ref (pz 1), .int (nI kn)])), (pz 1, .inl (k.1 3, 8, .inr (.inr (.inr (.inr (ta_pd d))))))] ++ ((pdW k d T G Z) ++ [(q 0, .inr (0, [.int (nI (t 0)), .int (nI (t 1)), .int (nI (t 2)), .int (nI (g 0)), .int (nI (g 1)), .int (nI (g 2 / t 0)), .int (nI (g 2 % t 0)), .int (nI (g 3)), .int (nI (g 4)), .int (nI (g 5)), .ref (q 1), .ref (q 2), .ref (q 3), .ref (q 4)])), (q 1, .inl (k.1 0, 36, .inl (ta_e (tg_mud g)))), (q 2, .inl (k.1 0, 4, .inl (ta_e (tg_wal g)))), (q 3, .inl (k.1 0, 2, .inl (ta_e (tg_kne g)))), (q 4, .inl (k.1 2, 2, .inr (.inr (.inr (.inr (ta_dr (q 5) (q 8))))))), (q 6, .inl (k.1 0, 8, .inl (ta_e (X 0)))), (q 7, .inl (k.1 0, 8, .inl (ta_e (X 1)))), (q 8, .inr (1, [.ref (q 9), .ref (q 10), .int (nI (g 7))])), (q 9, .inl (k.1 0, 8, .inl (ta_e (X 2)))), (q 10, .inl (k.1 0, 8, .inl (ta_e (X 3)))), (q 5, .inr (1, [.ref (q 6), .ref (q 7), .int (nI (g 6))]))])) H := hP
              have hD : va_D A ([(o 0, .inr (7, [.ref (x 0), .ref (tq 0), .ref rd, .ref (q 0), .ref (tr 0), .ref (pz 0), .ref (o 1), .ref (o 2), .ref (sz 0)])), (pz 0, .inr (2, [.ref (pz 1), .int (nI kn)])), (pz 1, .inl (k.1 3, 8, .inr (.inr (.inr (.inr (ta_pd d))))))] ++ ((pdW k d T G Z) ++ [(q 0, .inr (0, [.int (nI (t 0)), .int (nI (t 1)), .int (nI (t 2)), .int (nI (g 0)), .int (nI (g 1)), .int (nI (g 2 / t 0)), .int (nI (g 2 % t 0)), .int (nI (g 3)), .int (nI (g 4)), .int (nI (g 5)), .ref (q 1), .ref (q 2), .ref (q 3), .ref (q 4)])), (q 1, .inl (k.1 0, 36, .inl (ta_e (tg_mud g)))), (q 2, .inl (k.1 0, 4, .inl (ta_e (tg_wal g)))), (q 3, .inl (k.1 0, 2, .inl (ta_e (tg_kne g)))), (q 4, .inl (k.1 2, 2, .inr (.inr (.inr (.inr (ta_dr (q 5) (q 8))))))), (q 6, .inl (k.1 0, 8, .inl (ta_e (X 0)))), (q 7, .inl (k.1 0, 8, .inl (ta_e (X 1)))), (q 8, .inr (1, [.ref (q 9), .ref (q 10), .int (nI (g 7))])), (q 9, .inl (k.1 0, 8, .inl (ta_e (X 2)))), (q 10, .inl (k.1 0, 8, .inl (ta_e (X 3)))), (q 5, .inr (1, [.ref (q 6), .ref (q 7), .int (nI (g 6))]))])) := hD
              have hfl := hf16
              have hP : va_P D vwCl ((dyW k q t g X) ++ ([(o 0, .inr (7, [.ref (x 0), .ref (tq 0), .ref rd, .ref (q 0), .ref (tr 0), .ref (pz 0), .ref (o 1), .ref (o 2), .ref (sz 0)])), (pz 0, .inr (2, [.ref (pz 1), .int (nI kn)])), (pz 1, .inl (k.1 3, 8, .inr (.inr (.inr (.inr (ta_pd d))))))] ++ (pdW k d T G Z))) H := hP.sub [91, 92, 93, 94, 95, 101, 96, 97, 98, 99, 100, 0, 1, 2, 3, 4, 5, 6, 7, 8, 9, 10, 11, 12, 13, 14, 15, 16, 17, 18, 19, 20, 21, 22, 23, 24, 25, 26, 27, 28, 29, 30, 31, 32, 33, 34, 35, 36, 37, 38, 39, 40, 41, 42, 43, 44, 45, 46, 47, 48, 49, 50, 51, 52, 53, 54, 55, 56, 57, 58, 59, 60, 61, 62, 63, 64, 65, 66, 67, 68, 69, 70, 71, 72, 73, 74, 75, 76, 77, 78, 79, 80, 81, 82, 83, 84, 85, 86, 87, 88, 89, 90] rfl
              have hD : va_D A ((dyW k q t g X) ++ ([(o 0, .inr (7, [.ref (x 0), .ref (tq 0), .ref rd, .ref (q 0), .ref (tr 0), .ref (pz 0), .ref (o 1), .ref (o 2), .ref (sz 0)])), (pz 0, .inr (2, [.ref (pz 1), .int (nI kn)])), (pz 1, .inl (k.1 3, 8, .inr (.inr (.inr (.inr (ta_pd d))))))] ++ (pdW k d T G Z))) := hD.sub [91, 92, 93, 94, 95, 101, 96, 97, 98, 99, 100, 0, 1, 2, 3, 4, 5, 6, 7, 8, 9, 10, 11, 12, 13, 14, 15, 16, 17, 18, 19, 20, 21, 22, 23, 24, 25, 26, 27, 28, 29, 30, 31, 32, 33, 34, 35, 36, 37, 38, 39, 40, 41, 42, 43, 44, 45, 46, 47, 48, 49, 50, 51, 52, 53, 54, 55, 56, 57, 58, 59, 60, 61, 62, 63, 64, 65, 66, 67, 68, 69, 70, 71, 72, 73, 74, 75, 76, 77, 78, 79, 80, 81, 82, 83, 84, 85, 86, 87, 88, 89, 90] (by decide) rfl
              refine lv_if_eq (tgt := 39) hx hb dX7_order_33 (by decide) (fun c17 => ?_) (fun c17 => ?_)
              · refine lv_aload_n hx hb dX7_order_39 rfl (lv_at hl 0 rfl) ?_
                refine ta_get C hP 11 inlX7 rfl rfl 5 (by decide) tw_32 rfl dX7_order_40 ?_
                refine lv_aload_n hx hb dX7_order_43 rfl (lv_at hl 0 rfl) ?_
                refine ta_get C hP 11 inlX7 rfl rfl 3 (by decide) tw_27 rfl dX7_order_44 ?_
                refine ta_callVv (As := [.ref (q 0)]) (rest0 := []) (Wr := [(o 0, .inr (7, [.ref (x 0), .ref (tq 0), .ref rd, .ref (q 0), .ref (tr 0), .ref (pz 0), .ref (o 1), .ref (o 2), .ref (sz 0)]))]) C hP hD hS (c_X2_rememberA l D k pz kn d T G Z q t g X hkn b6 b7 hX hT hZ) 12 rfl rfl rfl [12, 13, 14, 15, 16, 17, 18, 19, 20, 21, 22, 23, 24, 25, 26, 27, 28, 29, 30, 31, 32, 33, 34, 35, 36, 37, 38, 39, 40, 41, 42, 43, 44, 45, 46, 47, 48, 49, 50, 51, 52, 53, 54, 55, 56, 57, 58, 59, 60, 61, 62, 63, 64, 65, 66, 67, 68, 69, 70, 71, 72, 73, 74, 75, 76, 77, 78, 79, 80, 81, 82, 83, 84, 85, 86, 87, 88, 89, 90, 91, 92, 93, 94, 95, 96, 97, 98, 99, 100, 101, 0, 1, 2, 3, 4, 5, 6, 7, 8, 9, 10] [11] rfl rfl (by decide) (by decide) (by decide) tw_426 tw_423 tw_31 tw_424 tw_425 ⟨by decide, by decide, rfl⟩ ⟨Nat.le_of_ble_eq_true rfl, Nat.le_of_ble_eq_true rfl⟩ ⟨Nat.zero_le _, Nat.zero_le _⟩ hl.1 rfl (Nat.le_of_ble_eq_true rfl) dX7_order_47 (fun u19 H locs h20 hP hD hS => ?_)
                obtain ⟨ud_21, uT_22, uZ_23⟩ := u19
                try dsimp only at h20
                obtain ⟨hT24, hZ25⟩ := h20
                have hP : va_P D vwCl ([(o 0, .inr (7, [.ref (x 0), .ref (tq 0), .ref rd, .ref (q 0), .ref (tr 0), .ref (pz 0), .ref (o 1), .ref (o 2), .ref (sz 0)])), (pz 0, .inr (2, [.ref (pz 1), .int (nI (sp_n kn))])), (pz 1, .inl (k.1 3, 8, .inr (.inr (.inr (.inr (ta_pd ud_21))))))] ++ ((pdW k ud_21 uT_22 (sp_G kn G g) uZ_23) ++ (dyW k q t g X))) H := hP
                have hD : va_D A ([(o 0, .inr (7, [.ref (x 0), .ref (tq 0), .ref rd, .ref (q 0), .ref (tr 0), .ref (pz 0), .ref (o 1), .ref (o 2), .ref (sz 0)])), (pz 0, .inr (2, [.ref (pz 1), .int (nI (sp_n kn))])), (pz 1, .inl (k.1 3, 8, .inr (.inr (.inr (.inr (ta_pd ud_21))))))] ++ ((pdW k ud_21 uT_22 (sp_G kn G g) uZ_23) ++ (dyW k q t g X))) := hD
                refine lv_aload_n hx hb dX7_order_50 rfl (lv_at hl 0 rfl) ?_
                refine ta_get C hP 0 inlX7 rfl rfl 3 (by decide) tw_27 rfl dX7_order_51 ?_
                refine ta_getN C hP 91 inlX0 rfl rfl 13 (by decide) 36 rfl rfl dX7_order_54 ?_
                refine lv_iload_n hx hb dX7_order_57 rfl (lv_at hl 1 rfl) ?_
                refine ta_aald C hP 95 2 rfl rfl (i := 0) (x := q 5) (by omega) rfl dX7_order_58 ?_
                refine lv_iload_n hx hb dX7_order_59 rfl (lv_at hl 2 rfl) ?_
                refine lv_iload_n hx hb dX7_order_60 rfl (lv_at hl 3 rfl) ?_
                refine ta_callVv (As := [.int (nI kd), .int (nI mi)]) (rest0 := []) (Wr := ([(o 0, .inr (7, [.ref (x 0), .ref (tq 0), .ref rd, .ref (q 0), .ref (tr 0), .ref (pz 0), .ref (o 1), .ref (o 2), .ref (sz 0)])), (pz 0, .inr (2, [.ref (pz 1), .int (nI (sp_n kn))])), (pz 1, .inl (k.1 3, 8, .inr (.inr (.inr (.inr (ta_pd ud_21))))))] ++ ((pdW k ud_21 uT_22 (sp_G kn G g) uZ_23) ++ [(q 0, .inr (0, [.int (nI (t 0)), .int (nI (t 1)), .int (nI (t 2)), .int (nI (g 0)), .int (nI (g 1)), .int (nI (g 2 / t 0)), .int (nI (g 2 % t 0)), .int (nI (g 3)), .int (nI (g 4)), .int (nI (g 5)), .ref (q 1), .ref (q 2), .ref (q 3), .ref (q 4)])), (q 1, .inl (k.1 0, 36, .inl (ta_e (tg_mud g)))), (q 2, .inl (k.1 0, 4, .inl (ta_e (tg_wal g)))), (q 3, .inl (k.1 0, 2, .inl (ta_e (tg_kne g)))), (q 4, .inl (k.1 2, 2, .inr (.inr (.inr (.inr (ta_dr (q 5) (q 8))))))), (q 8, .inr (1, [.ref (q 9), .ref (q 10), .int (nI (g 7))])), (q 9, .inl (k.1 0, 8, .inl (ta_e (X 2)))), (q 10, .inl (k.1 0, 8, .inl (ta_e (X 3))))]))) C hP hD hS (c_X1_append l D k (q 5) (q 6) (q 7) (X 0) (X 1) (g 6) kd mi (by omega)) 96 rfl rfl rfl [96, 97, 98] [0, 1, 2, 3, 4, 5, 6, 7, 8, 9, 10, 11, 12, 13, 14, 15, 16, 17, 18, 19, 20, 21, 22, 23, 24, 25, 26, 27, 28, 29, 30, 31, 32, 33, 34, 35, 36, 37, 38, 39, 40, 41, 42, 43, 44, 45, 46, 47, 48, 49, 50, 51, 52, 53, 54, 55, 56, 57, 58, 59, 60, 61, 62, 63, 64, 65, 66, 67, 68, 69, 70, 71, 72, 73, 74, 75, 76, 77, 78, 79, 80, 81, 82, 83, 84, 85, 86, 87, 88, 89, 90, 91, 92, 93, 94, 95, 99, 100, 101] rfl rfl (by decide) (by decide) (by decide) tw_294 tw_498 tw_56 tw_292 tw_293 ⟨by decide, by decide, rfl⟩ ⟨Nat.le_of_ble_eq_true rfl, Nat.le_of_ble_eq_true rfl⟩ ⟨Nat.zero_le _, Nat.zero_le _⟩ hl.1 rfl (Nat.le_of_ble_eq_true rfl) dX7_order_61 (fun u27 H locs h28 hP hD hS => ?_)
                have hP : va_P D vwCl ([(o 0, .inr (7, [.ref (x 0), .ref (tq 0), .ref rd, .ref (q 0), .ref (tr 0), .ref (pz 0), .ref (o 1), .ref (o 2), .ref (sz 0)])), (pz 0, .inr (2, [.ref (pz 1), .int (nI (sp_n kn))])), (pz 1, .inl (k.1 3, 8, .inr (.inr (.inr (.inr (ta_pd ud_21))))))] ++ ((pdW k ud_21 uT_22 (sp_G kn G g) uZ_23) ++ [(q 0, .inr (0, [.int (nI (t 0)), .int (nI (t 1)), .int (nI (t 2)), .int (nI (g 0)), .int (nI (g 1)), .int (nI (g 2 / t 0)), .int (nI (g 2 % t 0)), .int (nI (g 3)), .int (nI (g 4)), .int (nI (g 5)), .ref (q 1), .ref (q 2), .ref (q 3), .ref (q 4)])), (q 1, .inl (k.1 0, 36, .inl (ta_e (tg_mud g)))), (q 2, .inl (k.1 0, 4, .inl (ta_e (tg_wal g)))), (q 3, .inl (k.1 0, 2, .inl (ta_e (tg_kne g)))), (q 4, .inl (k.1 2, 2, .inr (.inr (.inr (.inr (ta_dr (q 5) (q 8))))))), (q 8, .inr (1, [.ref (q 9), .ref (q 10), .int (nI (g 7))])), (q 9, .inl (k.1 0, 8, .inl (ta_e (X 2)))), (q 10, .inl (k.1 0, 8, .inl (ta_e (X 3)))), (q 5, .inr (1, [.ref (q 6), .ref (q 7), .int (nI ((g 6) + 1))])), (q 6, .inl (k.1 0, 8, .inl (ta_e (ta_u (X 0) (g 6) kd)))), (q 7, .inl (k.1 0, 8, .inl (ta_e (ta_u (X 1) (g 6) mi))))])) H := hP
                have hD : va_D A ([(o 0, .inr (7, [.ref (x 0), .ref (tq 0), .ref rd, .ref (q 0), .ref (tr 0), .ref (pz 0), .ref (o 1), .ref (o 2), .ref (sz 0)])), (pz 0, .inr (2, [.ref (pz 1), .int (nI (sp_n kn))])), (pz 1, .inl (k.1 3, 8, .inr (.inr (.inr (.inr (ta_pd ud_21))))))] ++ ((pdW k ud_21 uT_22 (sp_G kn G g) uZ_23) ++ [(q 0, .inr (0, [.int (nI (t 0)), .int (nI (t 1)), .int (nI (t 2)), .int (nI (g 0)), .int (nI (g 1)), .int (nI (g 2 / t 0)), .int (nI (g 2 % t 0)), .int (nI (g 3)), .int (nI (g 4)), .int (nI (g 5)), .ref (q 1), .ref (q 2), .ref (q 3), .ref (q 4)])), (q 1, .inl (k.1 0, 36, .inl (ta_e (tg_mud g)))), (q 2, .inl (k.1 0, 4, .inl (ta_e (tg_wal g)))), (q 3, .inl (k.1 0, 2, .inl (ta_e (tg_kne g)))), (q 4, .inl (k.1 2, 2, .inr (.inr (.inr (.inr (ta_dr (q 5) (q 8))))))), (q 8, .inr (1, [.ref (q 9), .ref (q 10), .int (nI (g 7))])), (q 9, .inl (k.1 0, 8, .inl (ta_e (X 2)))), (q 10, .inl (k.1 0, 8, .inl (ta_e (X 3)))), (q 5, .inr (1, [.ref (q 6), .ref (q 7), .int (nI ((g 6) + 1))])), (q 6, .inl (k.1 0, 8, .inl (ta_e (ta_u (X 0) (g 6) kd)))), (q 7, .inl (k.1 0, 8, .inl (ta_e (ta_u (X 1) (g 6) mi))))])) := hD
                have hn8a : g (6 + 0) ≤ 8 := by have e9 : g (6 + 0) = g 6 := rfl; omega
                have hP : va_P D vwCl ([(q 0, .inr (0, [.int (nI (t 0)), .int (nI (t 1)), .int (nI (t 2)), .int (nI (g 0)), .int (nI (g 1)), .int (nI (g 2 / t 0)), .int (nI (g 2 % t 0)), .int (nI (g 3)), .int (nI (g 4)), .int (nI (g 5)), .ref (q 1), .ref (q 2), .ref (q 3), .ref (q 4)])), (q 1, .inl (k.1 0, 36, .inl (ta_e (tg_mud g)))), (q 2, .inl (k.1 0, 4, .inl (ta_e (tg_wal g)))), (q 3, .inl (k.1 0, 2, .inl (ta_e (tg_kne g)))), (q 4, .inl (k.1 2, 2, .inr (.inr (.inr (.inr (ta_dr (q 5) (q 8))))))), (q 5, .inr (1, [.ref (q 6), .ref (q 7), .int (nI ((g 6) + 1))])), (q 6, .inl (k.1 0, 8, .inl (ta_e (ta_u (X 0) (g 6) kd)))), (q 7, .inl (k.1 0, 8, .inl (ta_e (ta_u (X 1) (g 6) mi)))), (q 8, .inr (1, [.ref (q 9), .ref (q 10), .int (nI (g 7))])), (q 9, .inl (k.1 0, 8, .inl (ta_e (X 2)))), (q 10, .inl (k.1 0, 8, .inl (ta_e (X 3)))), (o 0, .inr (7, [.ref (x 0), .ref (tq 0), .ref rd, .ref (q 0), .ref (tr 0), .ref (pz 0), .ref (o 1), .ref (o 2), .ref (sz 0)])), (pz 0, .inr (2, [.ref (pz 1), .int (nI (sp_n kn))])), (pz 1, .inl (k.1 3, 8, .inr (.inr (.inr (.inr (ta_pd ud_21))))))] ++ (pdW k ud_21 uT_22 (sp_G kn G g) uZ_23)) H := hP.sub [91, 92, 93, 94, 95, 99, 100, 101, 96, 97, 98, 0, 1, 2, 3, 4, 5, 6, 7, 8, 9, 10, 11, 12, 13, 14, 15, 16, 17, 18, 19, 20, 21, 22, 23, 24, 25, 26, 27, 28, 29, 30, 31, 32, 33, 34, 35, 36, 37, 38, 39, 40, 41, 42, 43, 44, 45, 46, 47, 48, 49, 50, 51, 52, 53, 54, 55, 56, 57, 58, 59, 60, 61, 62, 63, 64, 65, 66, 67, 68, 69, 70, 71, 72, 73, 74, 75, 76, 77, 78, 79, 80, 81, 82, 83, 84, 85, 86, 87, 88, 89, 90] rfl
                have hD : va_D A ([(q 0, .inr (0, [.int (nI (t 0)), .int (nI (t 1)), .int (nI (t 2)), .int (nI (g 0)), .int (nI (g 1)), .int (nI (g 2 / t 0)), .int (nI (g 2 % t 0)), .int (nI (g 3)), .int (nI (g 4)), .int (nI (g 5)), .ref (q 1), .ref (q 2), .ref (q 3), .ref (q 4)])), (q 1, .inl (k.1 0, 36, .inl (ta_e (tg_mud g)))), (q 2, .inl (k.1 0, 4, .inl (ta_e (tg_wal g)))), (q 3, .inl (k.1 0, 2, .inl (ta_e (tg_kne g)))), (q 4, .inl (k.1 2, 2, .inr (.inr (.inr (.inr (ta_dr (q 5) (q 8))))))), (q 5, .inr (1, [.ref (q 6), .ref (q 7), .int (nI ((g 6) + 1))])), (q 6, .inl (k.1 0, 8, .inl (ta_e (ta_u (X 0) (g 6) kd)))), (q 7, .inl (k.1 0, 8, .inl (ta_e (ta_u (X 1) (g 6) mi)))), (q 8, .inr (1, [.ref (q 9), .ref (q 10), .int (nI (g 7))])), (q 9, .inl (k.1 0, 8, .inl (ta_e (X 2)))), (q 10, .inl (k.1 0, 8, .inl (ta_e (X 3)))), (o 0, .inr (7, [.ref (x 0), .ref (tq 0), .ref rd, .ref (q 0), .ref (tr 0), .ref (pz 0), .ref (o 1), .ref (o 2), .ref (sz 0)])), (pz 0, .inr (2, [.ref (pz 1), .int (nI (sp_n kn))])), (pz 1, .inl (k.1 3, 8, .inr (.inr (.inr (.inr (ta_pd ud_21))))))] ++ (pdW k ud_21 uT_22 (sp_G kn G g) uZ_23)) := hD.sub [91, 92, 93, 94, 95, 99, 100, 101, 96, 97, 98, 0, 1, 2, 3, 4, 5, 6, 7, 8, 9, 10, 11, 12, 13, 14, 15, 16, 17, 18, 19, 20, 21, 22, 23, 24, 25, 26, 27, 28, 29, 30, 31, 32, 33, 34, 35, 36, 37, 38, 39, 40, 41, 42, 43, 44, 45, 46, 47, 48, 49, 50, 51, 52, 53, 54, 55, 56, 57, 58, 59, 60, 61, 62, 63, 64, 65, 66, 67, 68, 69, 70, 71, 72, 73, 74, 75, 76, 77, 78, 79, 80, 81, 82, 83, 84, 85, 86, 87, 88, 89, 90] (by decide) rfl
                have hPd : va_P D vwCl (dyW k q t (tg_ord g 0 (10 * kd + mi)) (ta_x4 (ta_u (X 0) (g 6) kd) (ta_u (X 1) (g 6) mi) (X 2) (X 3))) H := dy_to (q := q) (t := t) (g := tg_ord g 0 (10 * kd + mi)) ⟨rfl, rfl, rfl, (tg_ord_k (by omega) (by omega)).symm, (tg_ord_k (by omega) (by omega)).symm, (by rw [tg_ord_k (by omega) (by omega)]), (by rw [tg_ord_k (by omega) (by omega)]), (tg_ord_k (by omega) (by omega)).symm, (tg_ord_k (by omega) (by omega)).symm, (tg_ord_k (by omega) (by omega)).symm, (tg_ord_n g 0 (10 * kd + mi)).symm, (tg_ord_k (by omega) (by omega)).symm⟩ (fun j hj => (tg_ord_k (by omega) (by omega)).symm) (fun j hj => (tg_ord_k (by omega) (by omega)).symm) (fun j hj => (tg_ord_k (by omega) (by omega)).symm) (hP.sub [0, 1, 2, 3, 4, 5, 6, 7, 8, 9, 10] rfl)
                have hP : va_P D vwCl ((dyW k q t (tg_ord g 0 (10 * kd + mi)) (ta_x4 (ta_u (X 0) (g 6) kd) (ta_u (X 1) (g 6) mi) (X 2) (X 3))) ++ ([(o 0, .inr (7, [.ref (x 0), .ref (tq 0), .ref rd, .ref (q 0), .ref (tr 0), .ref (pz 0), .ref (o 1), .ref (o 2), .ref (sz 0)])), (pz 0, .inr (2, [.ref (pz 1), .int (nI (sp_n kn))])), (pz 1, .inl (k.1 3, 8, .inr (.inr (.inr (.inr (ta_pd ud_21))))))] ++ (pdW k ud_21 uT_22 (sp_G kn G g) uZ_23))) H := ta_Pa hPd (hP.sub [11, 12, 13, 14, 15, 16, 17, 18, 19, 20, 21, 22, 23, 24, 25, 26, 27, 28, 29, 30, 31, 32, 33, 34, 35, 36, 37, 38, 39, 40, 41, 42, 43, 44, 45, 46, 47, 48, 49, 50, 51, 52, 53, 54, 55, 56, 57, 58, 59, 60, 61, 62, 63, 64, 65, 66, 67, 68, 69, 70, 71, 72, 73, 74, 75, 76, 77, 78, 79, 80, 81, 82, 83, 84, 85, 86, 87, 88, 89, 90, 91, 92, 93, 94, 95, 96, 97, 98, 99, 100, 101] rfl)
                have hD : va_D A ((dyW k q t (tg_ord g 0 (10 * kd + mi)) (ta_x4 (ta_u (X 0) (g 6) kd) (ta_u (X 1) (g 6) mi) (X 2) (X 3))) ++ ([(o 0, .inr (7, [.ref (x 0), .ref (tq 0), .ref rd, .ref (q 0), .ref (tr 0), .ref (pz 0), .ref (o 1), .ref (o 2), .ref (sz 0)])), (pz 0, .inr (2, [.ref (pz 1), .int (nI (sp_n kn))])), (pz 1, .inl (k.1 3, 8, .inr (.inr (.inr (.inr (ta_pd ud_21))))))] ++ (pdW k ud_21 uT_22 (sp_G kn G g) uZ_23))) := ta_De hD rfl
                have hXn : tg_X (tg_ord g 0 (10 * kd + mi)) (ta_x4 (ta_u (X 0) (g 6) kd) (ta_u (X 1) (g 6) mi) (X 2) (X 3)) := tg_X_ord0 (by omega) (by omega) hX
                have eno : tg_ord g 0 (10 * kd + mi) 6 = g 6 + 1 := tg_ord_n g 0 _
                refine lv_aload_n hx hb dX7_order_64 rfl (lv_at hl 0 rfl) ?_
                refine ta_get C hP 11 inlX7 rfl rfl 3 (by decide) tw_27 rfl dX7_order_65 ?_
                refine ta_getN C hP 0 inlX0 rfl rfl 13 (by decide) 36 rfl rfl dX7_order_68 ?_
                refine lv_iload_n hx hb dX7_order_71 rfl (lv_at hl 1 rfl) ?_
                refine ta_aald C hP 4 2 rfl rfl (i := 0) (x := q 5) (by omega) rfl dX7_order_72 ?_
                refine ta_getN C hP 5 inlX1 rfl rfl 2 (by decide) 7 rfl rfl dX7_order_73 ?_
                have hcd : (sp_order_c g 0 kd mi) := by unfold sp_order_c; omega
                simp only [cl_p hcd] at ret
                have e1 : sp_order g 0 kd mi = (tg_ord g 0 (10 * kd + mi)) 6 := by
                  unfold sp_order
                  (repeat' split) <;> omega
                exact ret (nI ((tg_ord g 0 (10 * kd + mi)) 6)) (ud_21, uT_22, uZ_23, (ta_x4 (ta_u (X 0) (g 6) kd) (ta_u (X 1) (g 6) mi) (X 2) (X 3))) dX7_order_76 rfl ⟨by rw [e1], hT24, hZ25, hXn⟩ (hP.sub [11, 12, 13, 14, 15, 16, 17, 18, 19, 20, 21, 22, 23, 24, 25, 26, 27, 28, 29, 30, 31, 32, 33, 34, 35, 36, 37, 38, 39, 40, 41, 42, 43, 44, 45, 46, 47, 48, 49, 50, 51, 52, 53, 54, 55, 56, 57, 58, 59, 60, 61, 62, 63, 64, 65, 66, 67, 68, 69, 70, 71, 72, 73, 74, 75, 76, 77, 78, 79, 80, 81, 82, 83, 84, 85, 86, 87, 88, 89, 90, 91, 92, 93, 94, 95, 96, 97, 98, 99, 100, 101, 0, 1, 2, 3, 4, 5, 6, 7, 8, 9, 10] rfl) (hD.sub [11, 12, 13, 14, 15, 16, 17, 18, 19, 20, 21, 22, 23, 24, 25, 26, 27, 28, 29, 30, 31, 32, 33, 34, 35, 36, 37, 38, 39, 40, 41, 42, 43, 44, 45, 46, 47, 48, 49, 50, 51, 52, 53, 54, 55, 56, 57, 58, 59, 60, 61, 62, 63, 64, 65, 66, 67, 68, 69, 70, 71, 72, 73, 74, 75, 76, 77, 78, 79, 80, 81, 82, 83, 84, 85, 86, 87, 88, 89, 90, 91, 92, 93, 94, 95, 96, 97, 98, 99, 100, 101, 0, 1, 2, 3, 4, 5, 6, 7, 8, 9, 10] (by decide) rfl) hS
              · exact absurd c17 (by decide)
          · exact absurd c10 (by decide)
        · obtain ⟨hi29, rfl⟩ := h0
          have hP : va_P D vwCl ([(o 0, .inr (7, [.ref (x 0), .ref (tq 0), .ref rd, .ref (q 0), .ref (tr 0), .ref (pz 0), .ref (o 1), .ref (o 2), .ref (sz 0)])), (pz 0, .inr (2, [.ref (pz 1), .int (nI kn)])), (pz 1, .inl (k.1 3, 8, .inr (.inr (.inr (.inr (ta_pd d))))))] ++ ((pdW k d T G Z) ++ (dyW k q t g X))) H := hP
          have hD : va_D A ([(o 0, .inr (7, [.ref (x 0), .ref (tq 0), .ref rd, .ref (q 0), .ref (tr 0), .ref (pz 0), .ref (o 1), .ref (o 2), .ref (sz 0)])), (pz 0, .inr (2, [.ref (pz 1), .int (nI kn)])), (pz 1, .inl (k.1 3, 8, .inr (.inr (.inr (.inr (ta_pd d))))))] ++ ((pdW k d T G Z) ++ (dyW k q t g X))) := hD
          have hfi := hi29
          refine lv_if_ne (tgt := 21) hx hb dX7_order_15 (by decide) (fun c30 => ?_) (fun c30 => ?_)
          · exact absurd c30 (by decide)
          · refine ta_bipush C 4294967293 dX7_order_18 (by decide) ?_
            have hcd : ¬ (sp_order_c g 0 kd mi) := by unfold sp_order_c; omega
            simp only [cl_n hcd] at ret
            have e1 : sp_order g 0 kd mi = 4294967293 := by
              unfold sp_order
              (repeat' split) <;> omega
            exact ret (nI 4294967293) (d, T, Z, X) dX7_order_20 rfl ⟨by rw [e1], hT, hZ, hX⟩ (hP.sub [0, 1, 2, 3, 4, 5, 6, 7, 8, 9, 10, 11, 12, 13, 14, 15, 16, 17, 18, 19, 20, 21, 22, 23, 24, 25, 26, 27, 28, 29, 30, 31, 32, 33, 34, 35, 36, 37, 38, 39, 40, 41, 42, 43, 44, 45, 46, 47, 48, 49, 50, 51, 52, 53, 54, 55, 56, 57, 58, 59, 60, 61, 62, 63, 64, 65, 66, 67, 68, 69, 70, 71, 72, 73, 74, 75, 76, 77, 78, 79, 80, 81, 82, 83, 84, 85, 86, 87, 88, 89, 90, 91, 92, 93, 94, 95, 96, 97, 98, 99, 100, 101] rfl) (hD.sub [0, 1, 2, 3, 4, 5, 6, 7, 8, 9, 10, 11, 12, 13, 14, 15, 16, 17, 18, 19, 20, 21, 22, 23, 24, 25, 26, 27, 28, 29, 30, 31, 32, 33, 34, 35, 36, 37, 38, 39, 40, 41, 42, 43, 44, 45, 46, 47, 48, 49, 50, 51, 52, 53, 54, 55, 56, 57, 58, 59, 60, 61, 62, 63, 64, 65, 66, 67, 68, 69, 70, 71, 72, 73, 74, 75, 76, 77, 78, 79, 80, 81, 82, 83, 84, 85, 86, 87, 88, 89, 90, 91, 92, 93, 94, 95, 96, 97, 98, 99, 100, 101] (by decide) rfl) hS
      · exact absurd c5 (by decide)
    · have e6a : g (6 + 1) = g 7 := rfl
      have e8a : g (8 + 8 * 1) = g 16 := rfl
      have e24a : g (24 + 1) = g 25 := rfl
      refine lv_if_ne (tgt := 10) hx hb dX7_order_4 (by decide) (fun c31 => ?_) (fun c31 => ?_)
      · refine lv_iload_n hx hb dX7_order_10 rfl (lv_at hl 2 rfl) ?_
        refine lv_iload_n hx hb dX7_order_11 rfl (lv_at hl 3 rfl) ?_
        refine ta_callSi (As := [.int (nI kd), .int (nI mi)]) (rest0 := []) (Wr := ([(o 0, .inr (7, [.ref (x 0), .ref (tq 0), .ref rd, .ref (q 0), .ref (tr 0), .ref (pz 0), .ref (o 1), .ref (o 2), .ref (sz 0)])), (pz 0, .inr (2, [.ref (pz 1), .int (nI kn)])), (pz 1, .inl (k.1 3, 8, .inr (.inr (.inr (.inr (ta_pd d))))))] ++ ((pdW k d T G Z) ++ (dyW k q t g X)))) C hP hD hS (c_X7_isFigure l D k kd mi (by omega) (by omega)) [] [0, 1, 2, 3, 4, 5, 6, 7, 8, 9, 10, 11, 12, 13, 14, 15, 16, 17, 18, 19, 20, 21, 22, 23, 24, 25, 26, 27, 28, 29, 30, 31, 32, 33, 34, 35, 36, 37, 38, 39, 40, 41, 42, 43, 44, 45, 46, 47, 48, 49, 50, 51, 52, 53, 54, 55, 56, 57, 58, 59, 60, 61, 62, 63, 64, 65, 66, 67, 68, 69, 70, 71, 72, 73, 74, 75, 76, 77, 78, 79, 80, 81, 82, 83, 84, 85, 86, 87, 88, 89, 90, 91, 92, 93, 94, 95, 96, 97, 98, 99, 100, 101] rfl rfl (by decide) (by decide) (by decide) tw_496 tw_494 tw_2 tw_495 ⟨by decide, by decide, rfl⟩ ⟨Nat.le_of_ble_eq_true rfl, Nat.le_of_ble_eq_true rfl⟩ ⟨Nat.zero_le _, Nat.zero_le _⟩ hl.1 rfl (Nat.le_of_ble_eq_true rfl) dX7_order_12 (fun r32 u33 H locs h34 hP hD hS => ?_)
        rcases h34 with h0 | h0
        · obtain ⟨hi35, rfl⟩ := h0
          have hP : va_P D vwCl ([(o 0, .inr (7, [.ref (x 0), .ref (tq 0), .ref rd, .ref (q 0), .ref (tr 0), .ref (pz 0), .ref (o 1), .ref (o 2), .ref (sz 0)])), (pz 0, .inr (2, [.ref (pz 1), .int (nI kn)])), (pz 1, .inl (k.1 3, 8, .inr (.inr (.inr (.inr (ta_pd d))))))] ++ ((pdW k d T G Z) ++ (dyW k q t g X))) H := hP
          have hD : va_D A ([(o 0, .inr (7, [.ref (x 0), .ref (tq 0), .ref rd, .ref (q 0), .ref (tr 0), .ref (pz 0), .ref (o 1), .ref (o 2), .ref (sz 0)])), (pz 0, .inr (2, [.ref (pz 1), .int (nI kn)])), (pz 1, .inl (k.1 3, 8, .inr (.inr (.inr (.inr (ta_pd d))))))] ++ ((pdW k d T G Z) ++ (dyW k q t g X))) := hD
          have hfi := hi35
          refine lv_if_ne (tgt := 21) hx hb dX7_order_15 (by decide) (fun c36 => ?_) (fun c36 => ?_)
          · refine lv_aload_n hx hb dX7_order_21 rfl (lv_at hl 0 rfl) ?_
            refine ta_get C hP 0 inlX7 rfl rfl 3 (by decide) tw_27 rfl dX7_order_22 ?_
            refine ta_getN C hP 91 inlX0 rfl rfl 13 (by decide) 36 rfl rfl dX7_order_25 ?_
            refine lv_iload_n hx hb dX7_order_28 rfl (lv_at hl 1 rfl) ?_
            refine ta_aald C hP 95 2 rfl rfl (i := 1) (x := q 8) (by omega) rfl dX7_order_29 ?_
            refine ta_callVi (As := []) (rest0 := []) (Wr := ([(o 0, .inr (7, [.ref (x 0), .ref (tq 0), .ref rd, .ref (q 0), .ref (tr 0), .ref (pz 0), .ref (o 1), .ref (o 2), .ref (sz 0)])), (pz 0, .inr (2, [.ref (pz 1), .int (nI kn)])), (pz 1, .inl (k.1 3, 8, .inr (.inr (.inr (.inr (ta_pd d))))))] ++ ((pdW k d T G Z) ++ [(q 0, .inr (0, [.int (nI (t 0)), .int (nI (t 1)), .int (nI (t 2)), .int (nI (g 0)), .int (nI (g 1)), .int (nI (g 2 / t 0)), .int (nI (g 2 % t 0)), .int (nI (g 3)), .int (nI (g 4)), .int (nI (g 5)), .ref (q 1), .ref (q 2), .ref (q 3), .ref (q 4)])), (q 1, .inl (k.1 0, 36, .inl (ta_e (tg_mud g)))), (q 2, .inl (k.1 0, 4, .inl (ta_e (tg_wal g)))), (q 3, .inl (k.1 0, 2, .inl (ta_e (tg_kne g)))), (q 4, .inl (k.1 2, 2, .inr (.inr (.inr (.inr (ta_dr (q 5) (q 8))))))), (q 5, .inr (1, [.ref (q 6), .ref (q 7), .int (nI (g 6))])), (q 6, .inl (k.1 0, 8, .inl (ta_e (X 0)))), (q 7, .inl (k.1 0, 8, .inl (ta_e (X 1)))), (q 9, .inl (k.1 0, 8, .inl (ta_e (X 2)))), (q 10, .inl (k.1 0, 8, .inl (ta_e (X 3))))]))) C hP hD hS (c_X1_isFull l D k (q 8) (q 9) (q 10) (g 7) (by omega)) 99 rfl rfl rfl [99] [0, 1, 2, 3, 4, 5, 6, 7, 8, 9, 10, 11, 12, 13, 14, 15, 16, 17, 18, 19, 20, 21, 22, 23, 24, 25, 26, 27, 28, 29, 30, 31, 32, 33, 34, 35, 36, 37, 38, 39, 40, 41, 42, 43, 44, 45, 46, 47, 48, 49, 50, 51, 52, 53, 54, 55, 56, 57, 58, 59, 60, 61, 62, 63, 64, 65, 66, 67, 68, 69, 70, 71, 72, 73, 74, 75, 76, 77, 78, 79, 80, 81, 82, 83, 84, 85, 86, 87, 88, 89, 90, 91, 92, 93, 94, 95, 96, 97, 98, 100, 101] rfl rfl (by decide) (by decide) (by decide) tw_290 tw_497 tw_56 tw_288 tw_289 ⟨by decide, by decide, rfl⟩ ⟨Nat.le_of_ble_eq_true rfl, Nat.le_of_ble_eq_true rfl⟩ ⟨Nat.zero_le _, Nat.zero_le _⟩ hl.1 rfl (Nat.le_of_ble_eq_true rfl) dX7_order_30 (fun r37 u38 H locs h39 hP hD hS => ?_)
            rcases h39 with h0 | h0
            · obtain ⟨hf40, rfl⟩ := h0
              have hP : va_P D vwCl ([(o 0, .inr (7, [.ref (x 0), .ref (tq 0), .ref rd, .ref (q 0), .ref (tr 0), .ref (pz 0), .ref (o 1), .ref (o 2), .ref (sz 0)])), (pz 0, .inr (2, [.ref (pz 1), .int (nI kn)])), (pz 1, .inl (k.1 3, 8, .inr (.inr (.inr (.inr (ta_pd d))))))] ++ ((pdW k d T G Z) ++ [(q 0, .inr (0, [.int (nI (t 0)), .int (nI (t 1)), .int (nI (t 2)), .int (nI (g 0)), .int (nI (g 1)), .int (nI (g 2 / t 0)), .int (nI (g 2 % t 0)), .int (nI (g 3)), .int (nI (g 4)), .int (nI (g 5)), .ref (q 1), .ref (q 2), .ref (q 3), .ref (q 4)])), (q 1, .inl (k.1 0, 36, .inl (ta_e (tg_mud g)))), (q 2, .inl (k.1 0, 4, .inl (ta_e (tg_wal g)))), (q 3, .inl (k.1 0, 2, .inl (ta_e (tg_kne g)))), (q 4, .inl (k.1 2, 2, .inr (.inr (.inr (.inr (ta_dr (q 5) (q 8))))))), (q 5, .inr (1, [.ref (q 6), .ref (q 7), .int (nI (g 6))])), (q 6, .inl (k.1 0, 8, .inl (ta_e (X 0)))), (q 7, .inl (k.1 0, 8, .inl (ta_e (X 1)))), (q 9, .inl (k.1 0, 8, .inl (ta_e (X 2)))), (q 10, .inl (k.1 0, 8, .inl (ta_e (X 3)))), (q 8, .inr (1, [.ref (q 9), .ref (q 10), .int (nI (g 7))]))])) H := hP
              have hD : va_D A ([(o 0, .inr (7, [.ref (x 0), .ref (tq 0), .ref rd, .ref (q 0), .ref (tr 0), .ref (pz 0), .ref (o 1), .ref (o 2), .ref (sz 0)])), (pz 0, .inr (2, [.ref (pz 1), .int (nI kn)])), (pz 1, .inl (k.1 3, 8, .inr (.inr (.inr (.inr (ta_pd d))))))] ++ ((pdW k d T G Z) ++ [(q 0, .inr (0, [.int (nI (t 0)), .int (nI (t 1)), .int (nI (t 2)), .int (nI (g 0)), .int (nI (g 1)), .int (nI (g 2 / t 0)), .int (nI (g 2 % t 0)), .int (nI (g 3)), .int (nI (g 4)), .int (nI (g 5)), .ref (q 1), .ref (q 2), .ref (q 3), .ref (q 4)])), (q 1, .inl (k.1 0, 36, .inl (ta_e (tg_mud g)))), (q 2, .inl (k.1 0, 4, .inl (ta_e (tg_wal g)))), (q 3, .inl (k.1 0, 2, .inl (ta_e (tg_kne g)))), (q 4, .inl (k.1 2, 2, .inr (.inr (.inr (.inr (ta_dr (q 5) (q 8))))))), (q 5, .inr (1, [.ref (q 6), .ref (q 7), .int (nI (g 6))])), (q 6, .inl (k.1 0, 8, .inl (ta_e (X 0)))), (q 7, .inl (k.1 0, 8, .inl (ta_e (X 1)))), (q 9, .inl (k.1 0, 8, .inl (ta_e (X 2)))), (q 10, .inl (k.1 0, 8, .inl (ta_e (X 3)))), (q 8, .inr (1, [.ref (q 9), .ref (q 10), .int (nI (g 7))]))])) := hD
              have hfl := hf40
              have hP : va_P D vwCl ((dyW k q t g X) ++ ([(o 0, .inr (7, [.ref (x 0), .ref (tq 0), .ref rd, .ref (q 0), .ref (tr 0), .ref (pz 0), .ref (o 1), .ref (o 2), .ref (sz 0)])), (pz 0, .inr (2, [.ref (pz 1), .int (nI kn)])), (pz 1, .inl (k.1 3, 8, .inr (.inr (.inr (.inr (ta_pd d))))))] ++ (pdW k d T G Z))) H := hP.sub [91, 92, 93, 94, 95, 96, 97, 98, 101, 99, 100, 0, 1, 2, 3, 4, 5, 6, 7, 8, 9, 10, 11, 12, 13, 14, 15, 16, 17, 18, 19, 20, 21, 22, 23, 24, 25, 26, 27, 28, 29, 30, 31, 32, 33, 34, 35, 36, 37, 38, 39, 40, 41, 42, 43, 44, 45, 46, 47, 48, 49, 50, 51, 52, 53, 54, 55, 56, 57, 58, 59, 60, 61, 62, 63, 64, 65, 66, 67, 68, 69, 70, 71, 72, 73, 74, 75, 76, 77, 78, 79, 80, 81, 82, 83, 84, 85, 86, 87, 88, 89, 90] rfl
              have hD : va_D A ((dyW k q t g X) ++ ([(o 0, .inr (7, [.ref (x 0), .ref (tq 0), .ref rd, .ref (q 0), .ref (tr 0), .ref (pz 0), .ref (o 1), .ref (o 2), .ref (sz 0)])), (pz 0, .inr (2, [.ref (pz 1), .int (nI kn)])), (pz 1, .inl (k.1 3, 8, .inr (.inr (.inr (.inr (ta_pd d))))))] ++ (pdW k d T G Z))) := hD.sub [91, 92, 93, 94, 95, 96, 97, 98, 101, 99, 100, 0, 1, 2, 3, 4, 5, 6, 7, 8, 9, 10, 11, 12, 13, 14, 15, 16, 17, 18, 19, 20, 21, 22, 23, 24, 25, 26, 27, 28, 29, 30, 31, 32, 33, 34, 35, 36, 37, 38, 39, 40, 41, 42, 43, 44, 45, 46, 47, 48, 49, 50, 51, 52, 53, 54, 55, 56, 57, 58, 59, 60, 61, 62, 63, 64, 65, 66, 67, 68, 69, 70, 71, 72, 73, 74, 75, 76, 77, 78, 79, 80, 81, 82, 83, 84, 85, 86, 87, 88, 89, 90] (by decide) rfl
              refine lv_if_eq (tgt := 39) hx hb dX7_order_33 (by decide) (fun c41 => ?_) (fun c41 => ?_)
              · exact absurd c41 (by decide)
              · refine ta_bipush C 4294967291 dX7_order_36 (by decide) ?_
                have hcd : ¬ (sp_order_c g 1 kd mi) := by unfold sp_order_c; omega
                simp only [cl_n hcd] at ret
                have e1 : sp_order g 1 kd mi = 4294967291 := by
                  unfold sp_order
                  (repeat' split) <;> omega
                exact ret (nI 4294967291) (d, T, Z, X) dX7_order_38 rfl ⟨by rw [e1], hT, hZ, hX⟩ (hP.sub [11, 12, 13, 14, 15, 16, 17, 18, 19, 20, 21, 22, 23, 24, 25, 26, 27, 28, 29, 30, 31, 32, 33, 34, 35, 36, 37, 38, 39, 40, 41, 42, 43, 44, 45, 46, 47, 48, 49, 50, 51, 52, 53, 54, 55, 56, 57, 58, 59, 60, 61, 62, 63, 64, 65, 66, 67, 68, 69, 70, 71, 72, 73, 74, 75, 76, 77, 78, 79, 80, 81, 82, 83, 84, 85, 86, 87, 88, 89, 90, 91, 92, 93, 94, 95, 96, 97, 98, 99, 100, 101, 0, 1, 2, 3, 4, 5, 6, 7, 8, 9, 10] rfl) (hD.sub [11, 12, 13, 14, 15, 16, 17, 18, 19, 20, 21, 22, 23, 24, 25, 26, 27, 28, 29, 30, 31, 32, 33, 34, 35, 36, 37, 38, 39, 40, 41, 42, 43, 44, 45, 46, 47, 48, 49, 50, 51, 52, 53, 54, 55, 56, 57, 58, 59, 60, 61, 62, 63, 64, 65, 66, 67, 68, 69, 70, 71, 72, 73, 74, 75, 76, 77, 78, 79, 80, 81, 82, 83, 84, 85, 86, 87, 88, 89, 90, 91, 92, 93, 94, 95, 96, 97, 98, 99, 100, 101, 0, 1, 2, 3, 4, 5, 6, 7, 8, 9, 10] (by decide) rfl) hS
            · obtain ⟨hf42, rfl⟩ := h0
              have hP : va_P D vwCl ([(o 0, .inr (7, [.ref (x 0), .ref (tq 0), .ref rd, .ref (q 0), .ref (tr 0), .ref (pz 0), .ref (o 1), .ref (o 2), .ref (sz 0)])), (pz 0, .inr (2, [.ref (pz 1), .int (nI kn)])), (pz 1, .inl (k.1 3, 8, .inr (.inr (.inr (.inr (ta_pd d))))))] ++ ((pdW k d T G Z) ++ [(q 0, .inr (0, [.int (nI (t 0)), .int (nI (t 1)), .int (nI (t 2)), .int (nI (g 0)), .int (nI (g 1)), .int (nI (g 2 / t 0)), .int (nI (g 2 % t 0)), .int (nI (g 3)), .int (nI (g 4)), .int (nI (g 5)), .ref (q 1), .ref (q 2), .ref (q 3), .ref (q 4)])), (q 1, .inl (k.1 0, 36, .inl (ta_e (tg_mud g)))), (q 2, .inl (k.1 0, 4, .inl (ta_e (tg_wal g)))), (q 3, .inl (k.1 0, 2, .inl (ta_e (tg_kne g)))), (q 4, .inl (k.1 2, 2, .inr (.inr (.inr (.inr (ta_dr (q 5) (q 8))))))), (q 5, .inr (1, [.ref (q 6), .ref (q 7), .int (nI (g 6))])), (q 6, .inl (k.1 0, 8, .inl (ta_e (X 0)))), (q 7, .inl (k.1 0, 8, .inl (ta_e (X 1)))), (q 9, .inl (k.1 0, 8, .inl (ta_e (X 2)))), (q 10, .inl (k.1 0, 8, .inl (ta_e (X 3)))), (q 8, .inr (1, [.ref (q 9), .ref (q 10), .int (nI (g 7))]))])) H := hP
              have hD : va_D A ([(o 0, .inr (7, [.ref (x 0), .ref (tq 0), .ref rd, .ref (q 0), .ref (tr 0), .ref (pz 0), .ref (o 1), .ref (o 2), .ref (sz 0)])), (pz 0, .inr (2, [.ref (pz 1), .int (nI kn)])), (pz 1, .inl (k.1 3, 8, .inr (.inr (.inr (.inr (ta_pd d))))))] ++ ((pdW k d T G Z) ++ [(q 0, .inr (0, [.int (nI (t 0)), .int (nI (t 1)), .int (nI (t 2)), .int (nI (g 0)), .int (nI (g 1)), .int (nI (g 2 / t 0)), .int (nI (g 2 % t 0)), .int (nI (g 3)), .int (nI (g 4)), .int (nI (g 5)), .ref (q 1), .ref (q 2), .ref (q 3), .ref (q 4)])), (q 1, .inl (k.1 0, 36, .inl (ta_e (tg_mud g)))), (q 2, .inl (k.1 0, 4, .inl (ta_e (tg_wal g)))), (q 3, .inl (k.1 0, 2, .inl (ta_e (tg_kne g)))), (q 4, .inl (k.1 2, 2, .inr (.inr (.inr (.inr (ta_dr (q 5) (q 8))))))), (q 5, .inr (1, [.ref (q 6), .ref (q 7), .int (nI (g 6))])), (q 6, .inl (k.1 0, 8, .inl (ta_e (X 0)))), (q 7, .inl (k.1 0, 8, .inl (ta_e (X 1)))), (q 9, .inl (k.1 0, 8, .inl (ta_e (X 2)))), (q 10, .inl (k.1 0, 8, .inl (ta_e (X 3)))), (q 8, .inr (1, [.ref (q 9), .ref (q 10), .int (nI (g 7))]))])) := hD
              have hfl := hf42
              have hP : va_P D vwCl ((dyW k q t g X) ++ ([(o 0, .inr (7, [.ref (x 0), .ref (tq 0), .ref rd, .ref (q 0), .ref (tr 0), .ref (pz 0), .ref (o 1), .ref (o 2), .ref (sz 0)])), (pz 0, .inr (2, [.ref (pz 1), .int (nI kn)])), (pz 1, .inl (k.1 3, 8, .inr (.inr (.inr (.inr (ta_pd d))))))] ++ (pdW k d T G Z))) H := hP.sub [91, 92, 93, 94, 95, 96, 97, 98, 101, 99, 100, 0, 1, 2, 3, 4, 5, 6, 7, 8, 9, 10, 11, 12, 13, 14, 15, 16, 17, 18, 19, 20, 21, 22, 23, 24, 25, 26, 27, 28, 29, 30, 31, 32, 33, 34, 35, 36, 37, 38, 39, 40, 41, 42, 43, 44, 45, 46, 47, 48, 49, 50, 51, 52, 53, 54, 55, 56, 57, 58, 59, 60, 61, 62, 63, 64, 65, 66, 67, 68, 69, 70, 71, 72, 73, 74, 75, 76, 77, 78, 79, 80, 81, 82, 83, 84, 85, 86, 87, 88, 89, 90] rfl
              have hD : va_D A ((dyW k q t g X) ++ ([(o 0, .inr (7, [.ref (x 0), .ref (tq 0), .ref rd, .ref (q 0), .ref (tr 0), .ref (pz 0), .ref (o 1), .ref (o 2), .ref (sz 0)])), (pz 0, .inr (2, [.ref (pz 1), .int (nI kn)])), (pz 1, .inl (k.1 3, 8, .inr (.inr (.inr (.inr (ta_pd d))))))] ++ (pdW k d T G Z))) := hD.sub [91, 92, 93, 94, 95, 96, 97, 98, 101, 99, 100, 0, 1, 2, 3, 4, 5, 6, 7, 8, 9, 10, 11, 12, 13, 14, 15, 16, 17, 18, 19, 20, 21, 22, 23, 24, 25, 26, 27, 28, 29, 30, 31, 32, 33, 34, 35, 36, 37, 38, 39, 40, 41, 42, 43, 44, 45, 46, 47, 48, 49, 50, 51, 52, 53, 54, 55, 56, 57, 58, 59, 60, 61, 62, 63, 64, 65, 66, 67, 68, 69, 70, 71, 72, 73, 74, 75, 76, 77, 78, 79, 80, 81, 82, 83, 84, 85, 86, 87, 88, 89, 90] (by decide) rfl
              refine lv_if_eq (tgt := 39) hx hb dX7_order_33 (by decide) (fun c43 => ?_) (fun c43 => ?_)
              · refine lv_aload_n hx hb dX7_order_39 rfl (lv_at hl 0 rfl) ?_
                refine ta_get C hP 11 inlX7 rfl rfl 5 (by decide) tw_32 rfl dX7_order_40 ?_
                refine lv_aload_n hx hb dX7_order_43 rfl (lv_at hl 0 rfl) ?_
                refine ta_get C hP 11 inlX7 rfl rfl 3 (by decide) tw_27 rfl dX7_order_44 ?_
                refine ta_callVv (As := [.ref (q 0)]) (rest0 := []) (Wr := [(o 0, .inr (7, [.ref (x 0), .ref (tq 0), .ref rd, .ref (q 0), .ref (tr 0), .ref (pz 0), .ref (o 1), .ref (o 2), .ref (sz 0)]))]) C hP hD hS (c_X2_rememberA l D k pz kn d T G Z q t g X hkn b6 b7 hX hT hZ) 12 rfl rfl rfl [12, 13, 14, 15, 16, 17, 18, 19, 20, 21, 22, 23, 24, 25, 26, 27, 28, 29, 30, 31, 32, 33, 34, 35, 36, 37, 38, 39, 40, 41, 42, 43, 44, 45, 46, 47, 48, 49, 50, 51, 52, 53, 54, 55, 56, 57, 58, 59, 60, 61, 62, 63, 64, 65, 66, 67, 68, 69, 70, 71, 72, 73, 74, 75, 76, 77, 78, 79, 80, 81, 82, 83, 84, 85, 86, 87, 88, 89, 90, 91, 92, 93, 94, 95, 96, 97, 98, 99, 100, 101, 0, 1, 2, 3, 4, 5, 6, 7, 8, 9, 10] [11] rfl rfl (by decide) (by decide) (by decide) tw_426 tw_423 tw_31 tw_424 tw_425 ⟨by decide, by decide, rfl⟩ ⟨Nat.le_of_ble_eq_true rfl, Nat.le_of_ble_eq_true rfl⟩ ⟨Nat.zero_le _, Nat.zero_le _⟩ hl.1 rfl (Nat.le_of_ble_eq_true rfl) dX7_order_47 (fun u45 H locs h46 hP hD hS => ?_)
                obtain ⟨ud_47, uT_48, uZ_49⟩ := u45
                try dsimp only at h46
                obtain ⟨hT50, hZ51⟩ := h46
                have hP : va_P D vwCl ([(o 0, .inr (7, [.ref (x 0), .ref (tq 0), .ref rd, .ref (q 0), .ref (tr 0), .ref (pz 0), .ref (o 1), .ref (o 2), .ref (sz 0)])), (pz 0, .inr (2, [.ref (pz 1), .int (nI (sp_n kn))])), (pz 1, .inl (k.1 3, 8, .inr (.inr (.inr (.inr (ta_pd ud_47))))))] ++ ((pdW k ud_47 uT_48 (sp_G kn G g) uZ_49) ++ (dyW k q t g X))) H := hP
                have hD : va_D A ([(o 0, .inr (7, [.ref (x 0), .ref (tq 0), .ref rd, .ref (q 0), .ref (tr 0), .ref (pz 0), .ref (o 1), .ref (o 2), .ref (sz 0)])), (pz 0, .inr (2, [.ref (pz 1), .int (nI (sp_n kn))])), (pz 1, .inl (k.1 3, 8, .inr (.inr (.inr (.inr (ta_pd ud_47))))))] ++ ((pdW k ud_47 uT_48 (sp_G kn G g) uZ_49) ++ (dyW k q t g X))) := hD
                refine lv_aload_n hx hb dX7_order_50 rfl (lv_at hl 0 rfl) ?_
                refine ta_get C hP 0 inlX7 rfl rfl 3 (by decide) tw_27 rfl dX7_order_51 ?_
                refine ta_getN C hP 91 inlX0 rfl rfl 13 (by decide) 36 rfl rfl dX7_order_54 ?_
                refine lv_iload_n hx hb dX7_order_57 rfl (lv_at hl 1 rfl) ?_
                refine ta_aald C hP 95 2 rfl rfl (i := 1) (x := q 8) (by omega) rfl dX7_order_58 ?_
                refine lv_iload_n hx hb dX7_order_59 rfl (lv_at hl 2 rfl) ?_
                refine lv_iload_n hx hb dX7_order_60 rfl (lv_at hl 3 rfl) ?_
                refine ta_callVv (As := [.int (nI kd), .int (nI mi)]) (rest0 := []) (Wr := ([(o 0, .inr (7, [.ref (x 0), .ref (tq 0), .ref rd, .ref (q 0), .ref (tr 0), .ref (pz 0), .ref (o 1), .ref (o 2), .ref (sz 0)])), (pz 0, .inr (2, [.ref (pz 1), .int (nI (sp_n kn))])), (pz 1, .inl (k.1 3, 8, .inr (.inr (.inr (.inr (ta_pd ud_47))))))] ++ ((pdW k ud_47 uT_48 (sp_G kn G g) uZ_49) ++ [(q 0, .inr (0, [.int (nI (t 0)), .int (nI (t 1)), .int (nI (t 2)), .int (nI (g 0)), .int (nI (g 1)), .int (nI (g 2 / t 0)), .int (nI (g 2 % t 0)), .int (nI (g 3)), .int (nI (g 4)), .int (nI (g 5)), .ref (q 1), .ref (q 2), .ref (q 3), .ref (q 4)])), (q 1, .inl (k.1 0, 36, .inl (ta_e (tg_mud g)))), (q 2, .inl (k.1 0, 4, .inl (ta_e (tg_wal g)))), (q 3, .inl (k.1 0, 2, .inl (ta_e (tg_kne g)))), (q 4, .inl (k.1 2, 2, .inr (.inr (.inr (.inr (ta_dr (q 5) (q 8))))))), (q 5, .inr (1, [.ref (q 6), .ref (q 7), .int (nI (g 6))])), (q 6, .inl (k.1 0, 8, .inl (ta_e (X 0)))), (q 7, .inl (k.1 0, 8, .inl (ta_e (X 1))))]))) C hP hD hS (c_X1_append l D k (q 8) (q 9) (q 10) (X 2) (X 3) (g 7) kd mi (by omega)) 99 rfl rfl rfl [99, 100, 101] [0, 1, 2, 3, 4, 5, 6, 7, 8, 9, 10, 11, 12, 13, 14, 15, 16, 17, 18, 19, 20, 21, 22, 23, 24, 25, 26, 27, 28, 29, 30, 31, 32, 33, 34, 35, 36, 37, 38, 39, 40, 41, 42, 43, 44, 45, 46, 47, 48, 49, 50, 51, 52, 53, 54, 55, 56, 57, 58, 59, 60, 61, 62, 63, 64, 65, 66, 67, 68, 69, 70, 71, 72, 73, 74, 75, 76, 77, 78, 79, 80, 81, 82, 83, 84, 85, 86, 87, 88, 89, 90, 91, 92, 93, 94, 95, 96, 97, 98] rfl rfl (by decide) (by decide) (by decide) tw_294 tw_498 tw_56 tw_292 tw_293 ⟨by decide, by decide, rfl⟩ ⟨Nat.le_of_ble_eq_true rfl, Nat.le_of_ble_eq_true rfl⟩ ⟨Nat.zero_le _, Nat.zero_le _⟩ hl.1 rfl (Nat.le_of_ble_eq_true rfl) dX7_order_61 (fun u53 H locs h54 hP hD hS => ?_)
                have hP : va_P D vwCl ([(o 0, .inr (7, [.ref (x 0), .ref (tq 0), .ref rd, .ref (q 0), .ref (tr 0), .ref (pz 0), .ref (o 1), .ref (o 2), .ref (sz 0)])), (pz 0, .inr (2, [.ref (pz 1), .int (nI (sp_n kn))])), (pz 1, .inl (k.1 3, 8, .inr (.inr (.inr (.inr (ta_pd ud_47))))))] ++ ((pdW k ud_47 uT_48 (sp_G kn G g) uZ_49) ++ [(q 0, .inr (0, [.int (nI (t 0)), .int (nI (t 1)), .int (nI (t 2)), .int (nI (g 0)), .int (nI (g 1)), .int (nI (g 2 / t 0)), .int (nI (g 2 % t 0)), .int (nI (g 3)), .int (nI (g 4)), .int (nI (g 5)), .ref (q 1), .ref (q 2), .ref (q 3), .ref (q 4)])), (q 1, .inl (k.1 0, 36, .inl (ta_e (tg_mud g)))), (q 2, .inl (k.1 0, 4, .inl (ta_e (tg_wal g)))), (q 3, .inl (k.1 0, 2, .inl (ta_e (tg_kne g)))), (q 4, .inl (k.1 2, 2, .inr (.inr (.inr (.inr (ta_dr (q 5) (q 8))))))), (q 5, .inr (1, [.ref (q 6), .ref (q 7), .int (nI (g 6))])), (q 6, .inl (k.1 0, 8, .inl (ta_e (X 0)))), (q 7, .inl (k.1 0, 8, .inl (ta_e (X 1)))), (q 8, .inr (1, [.ref (q 9), .ref (q 10), .int (nI ((g 7) + 1))])), (q 9, .inl (k.1 0, 8, .inl (ta_e (ta_u (X 2) (g 7) kd)))), (q 10, .inl (k.1 0, 8, .inl (ta_e (ta_u (X 3) (g 7) mi))))])) H := hP
                have hD : va_D A ([(o 0, .inr (7, [.ref (x 0), .ref (tq 0), .ref rd, .ref (q 0), .ref (tr 0), .ref (pz 0), .ref (o 1), .ref (o 2), .ref (sz 0)])), (pz 0, .inr (2, [.ref (pz 1), .int (nI (sp_n kn))])), (pz 1, .inl (k.1 3, 8, .inr (.inr (.inr (.inr (ta_pd ud_47))))))] ++ ((pdW k ud_47 uT_48 (sp_G kn G g) uZ_49) ++ [(q 0, .inr (0, [.int (nI (t 0)), .int (nI (t 1)), .int (nI (t 2)), .int (nI (g 0)), .int (nI (g 1)), .int (nI (g 2 / t 0)), .int (nI (g 2 % t 0)), .int (nI (g 3)), .int (nI (g 4)), .int (nI (g 5)), .ref (q 1), .ref (q 2), .ref (q 3), .ref (q 4)])), (q 1, .inl (k.1 0, 36, .inl (ta_e (tg_mud g)))), (q 2, .inl (k.1 0, 4, .inl (ta_e (tg_wal g)))), (q 3, .inl (k.1 0, 2, .inl (ta_e (tg_kne g)))), (q 4, .inl (k.1 2, 2, .inr (.inr (.inr (.inr (ta_dr (q 5) (q 8))))))), (q 5, .inr (1, [.ref (q 6), .ref (q 7), .int (nI (g 6))])), (q 6, .inl (k.1 0, 8, .inl (ta_e (X 0)))), (q 7, .inl (k.1 0, 8, .inl (ta_e (X 1)))), (q 8, .inr (1, [.ref (q 9), .ref (q 10), .int (nI ((g 7) + 1))])), (q 9, .inl (k.1 0, 8, .inl (ta_e (ta_u (X 2) (g 7) kd)))), (q 10, .inl (k.1 0, 8, .inl (ta_e (ta_u (X 3) (g 7) mi))))])) := hD
                have hn8a : g (6 + 1) ≤ 8 := by have e9 : g (6 + 1) = g 7 := rfl; omega
                have hP : va_P D vwCl ([(q 0, .inr (0, [.int (nI (t 0)), .int (nI (t 1)), .int (nI (t 2)), .int (nI (g 0)), .int (nI (g 1)), .int (nI (g 2 / t 0)), .int (nI (g 2 % t 0)), .int (nI (g 3)), .int (nI (g 4)), .int (nI (g 5)), .ref (q 1), .ref (q 2), .ref (q 3), .ref (q 4)])), (q 1, .inl (k.1 0, 36, .inl (ta_e (tg_mud g)))), (q 2, .inl (k.1 0, 4, .inl (ta_e (tg_wal g)))), (q 3, .inl (k.1 0, 2, .inl (ta_e (tg_kne g)))), (q 4, .inl (k.1 2, 2, .inr (.inr (.inr (.inr (ta_dr (q 5) (q 8))))))), (q 5, .inr (1, [.ref (q 6), .ref (q 7), .int (nI (g 6))])), (q 6, .inl (k.1 0, 8, .inl (ta_e (X 0)))), (q 7, .inl (k.1 0, 8, .inl (ta_e (X 1)))), (q 8, .inr (1, [.ref (q 9), .ref (q 10), .int (nI ((g 7) + 1))])), (q 9, .inl (k.1 0, 8, .inl (ta_e (ta_u (X 2) (g 7) kd)))), (q 10, .inl (k.1 0, 8, .inl (ta_e (ta_u (X 3) (g 7) mi)))), (o 0, .inr (7, [.ref (x 0), .ref (tq 0), .ref rd, .ref (q 0), .ref (tr 0), .ref (pz 0), .ref (o 1), .ref (o 2), .ref (sz 0)])), (pz 0, .inr (2, [.ref (pz 1), .int (nI (sp_n kn))])), (pz 1, .inl (k.1 3, 8, .inr (.inr (.inr (.inr (ta_pd ud_47))))))] ++ (pdW k ud_47 uT_48 (sp_G kn G g) uZ_49)) H := hP.sub [91, 92, 93, 94, 95, 96, 97, 98, 99, 100, 101, 0, 1, 2, 3, 4, 5, 6, 7, 8, 9, 10, 11, 12, 13, 14, 15, 16, 17, 18, 19, 20, 21, 22, 23, 24, 25, 26, 27, 28, 29, 30, 31, 32, 33, 34, 35, 36, 37, 38, 39, 40, 41, 42, 43, 44, 45, 46, 47, 48, 49, 50, 51, 52, 53, 54, 55, 56, 57, 58, 59, 60, 61, 62, 63, 64, 65, 66, 67, 68, 69, 70, 71, 72, 73, 74, 75, 76, 77, 78, 79, 80, 81, 82, 83, 84, 85, 86, 87, 88, 89, 90] rfl
                have hD : va_D A ([(q 0, .inr (0, [.int (nI (t 0)), .int (nI (t 1)), .int (nI (t 2)), .int (nI (g 0)), .int (nI (g 1)), .int (nI (g 2 / t 0)), .int (nI (g 2 % t 0)), .int (nI (g 3)), .int (nI (g 4)), .int (nI (g 5)), .ref (q 1), .ref (q 2), .ref (q 3), .ref (q 4)])), (q 1, .inl (k.1 0, 36, .inl (ta_e (tg_mud g)))), (q 2, .inl (k.1 0, 4, .inl (ta_e (tg_wal g)))), (q 3, .inl (k.1 0, 2, .inl (ta_e (tg_kne g)))), (q 4, .inl (k.1 2, 2, .inr (.inr (.inr (.inr (ta_dr (q 5) (q 8))))))), (q 5, .inr (1, [.ref (q 6), .ref (q 7), .int (nI (g 6))])), (q 6, .inl (k.1 0, 8, .inl (ta_e (X 0)))), (q 7, .inl (k.1 0, 8, .inl (ta_e (X 1)))), (q 8, .inr (1, [.ref (q 9), .ref (q 10), .int (nI ((g 7) + 1))])), (q 9, .inl (k.1 0, 8, .inl (ta_e (ta_u (X 2) (g 7) kd)))), (q 10, .inl (k.1 0, 8, .inl (ta_e (ta_u (X 3) (g 7) mi)))), (o 0, .inr (7, [.ref (x 0), .ref (tq 0), .ref rd, .ref (q 0), .ref (tr 0), .ref (pz 0), .ref (o 1), .ref (o 2), .ref (sz 0)])), (pz 0, .inr (2, [.ref (pz 1), .int (nI (sp_n kn))])), (pz 1, .inl (k.1 3, 8, .inr (.inr (.inr (.inr (ta_pd ud_47))))))] ++ (pdW k ud_47 uT_48 (sp_G kn G g) uZ_49)) := hD.sub [91, 92, 93, 94, 95, 96, 97, 98, 99, 100, 101, 0, 1, 2, 3, 4, 5, 6, 7, 8, 9, 10, 11, 12, 13, 14, 15, 16, 17, 18, 19, 20, 21, 22, 23, 24, 25, 26, 27, 28, 29, 30, 31, 32, 33, 34, 35, 36, 37, 38, 39, 40, 41, 42, 43, 44, 45, 46, 47, 48, 49, 50, 51, 52, 53, 54, 55, 56, 57, 58, 59, 60, 61, 62, 63, 64, 65, 66, 67, 68, 69, 70, 71, 72, 73, 74, 75, 76, 77, 78, 79, 80, 81, 82, 83, 84, 85, 86, 87, 88, 89, 90] (by decide) rfl
                have hPd : va_P D vwCl (dyW k q t (tg_ord g 1 (10 * kd + mi)) (ta_x4 (X 0) (X 1) (ta_u (X 2) (g 7) kd) (ta_u (X 3) (g 7) mi))) H := dy_to (q := q) (t := t) (g := tg_ord g 1 (10 * kd + mi)) ⟨rfl, rfl, rfl, (tg_ord_k (by omega) (by omega)).symm, (tg_ord_k (by omega) (by omega)).symm, (by rw [tg_ord_k (by omega) (by omega)]), (by rw [tg_ord_k (by omega) (by omega)]), (tg_ord_k (by omega) (by omega)).symm, (tg_ord_k (by omega) (by omega)).symm, (tg_ord_k (by omega) (by omega)).symm, (tg_ord_k (by omega) (by omega)).symm, (tg_ord_n g 1 (10 * kd + mi)).symm⟩ (fun j hj => (tg_ord_k (by omega) (by omega)).symm) (fun j hj => (tg_ord_k (by omega) (by omega)).symm) (fun j hj => (tg_ord_k (by omega) (by omega)).symm) (hP.sub [0, 1, 2, 3, 4, 5, 6, 7, 8, 9, 10] rfl)
                have hP : va_P D vwCl ((dyW k q t (tg_ord g 1 (10 * kd + mi)) (ta_x4 (X 0) (X 1) (ta_u (X 2) (g 7) kd) (ta_u (X 3) (g 7) mi))) ++ ([(o 0, .inr (7, [.ref (x 0), .ref (tq 0), .ref rd, .ref (q 0), .ref (tr 0), .ref (pz 0), .ref (o 1), .ref (o 2), .ref (sz 0)])), (pz 0, .inr (2, [.ref (pz 1), .int (nI (sp_n kn))])), (pz 1, .inl (k.1 3, 8, .inr (.inr (.inr (.inr (ta_pd ud_47))))))] ++ (pdW k ud_47 uT_48 (sp_G kn G g) uZ_49))) H := ta_Pa hPd (hP.sub [11, 12, 13, 14, 15, 16, 17, 18, 19, 20, 21, 22, 23, 24, 25, 26, 27, 28, 29, 30, 31, 32, 33, 34, 35, 36, 37, 38, 39, 40, 41, 42, 43, 44, 45, 46, 47, 48, 49, 50, 51, 52, 53, 54, 55, 56, 57, 58, 59, 60, 61, 62, 63, 64, 65, 66, 67, 68, 69, 70, 71, 72, 73, 74, 75, 76, 77, 78, 79, 80, 81, 82, 83, 84, 85, 86, 87, 88, 89, 90, 91, 92, 93, 94, 95, 96, 97, 98, 99, 100, 101] rfl)
                have hD : va_D A ((dyW k q t (tg_ord g 1 (10 * kd + mi)) (ta_x4 (X 0) (X 1) (ta_u (X 2) (g 7) kd) (ta_u (X 3) (g 7) mi))) ++ ([(o 0, .inr (7, [.ref (x 0), .ref (tq 0), .ref rd, .ref (q 0), .ref (tr 0), .ref (pz 0), .ref (o 1), .ref (o 2), .ref (sz 0)])), (pz 0, .inr (2, [.ref (pz 1), .int (nI (sp_n kn))])), (pz 1, .inl (k.1 3, 8, .inr (.inr (.inr (.inr (ta_pd ud_47))))))] ++ (pdW k ud_47 uT_48 (sp_G kn G g) uZ_49))) := ta_De hD rfl
                have hXn : tg_X (tg_ord g 1 (10 * kd + mi)) (ta_x4 (X 0) (X 1) (ta_u (X 2) (g 7) kd) (ta_u (X 3) (g 7) mi)) := tg_X_ord1 b6 (by omega) (by omega) hX
                have eno : tg_ord g 1 (10 * kd + mi) 7 = g 7 + 1 := tg_ord_n g 1 _
                refine lv_aload_n hx hb dX7_order_64 rfl (lv_at hl 0 rfl) ?_
                refine ta_get C hP 11 inlX7 rfl rfl 3 (by decide) tw_27 rfl dX7_order_65 ?_
                refine ta_getN C hP 0 inlX0 rfl rfl 13 (by decide) 36 rfl rfl dX7_order_68 ?_
                refine lv_iload_n hx hb dX7_order_71 rfl (lv_at hl 1 rfl) ?_
                refine ta_aald C hP 4 2 rfl rfl (i := 1) (x := q 8) (by omega) rfl dX7_order_72 ?_
                refine ta_getN C hP 8 inlX1 rfl rfl 2 (by decide) 7 rfl rfl dX7_order_73 ?_
                have hcd : (sp_order_c g 1 kd mi) := by unfold sp_order_c; omega
                simp only [cl_p hcd] at ret
                have e1 : sp_order g 1 kd mi = (tg_ord g 1 (10 * kd + mi)) 7 := by
                  unfold sp_order
                  (repeat' split) <;> omega
                exact ret (nI ((tg_ord g 1 (10 * kd + mi)) 7)) (ud_47, uT_48, uZ_49, (ta_x4 (X 0) (X 1) (ta_u (X 2) (g 7) kd) (ta_u (X 3) (g 7) mi))) dX7_order_76 rfl ⟨by rw [e1], hT50, hZ51, hXn⟩ (hP.sub [11, 12, 13, 14, 15, 16, 17, 18, 19, 20, 21, 22, 23, 24, 25, 26, 27, 28, 29, 30, 31, 32, 33, 34, 35, 36, 37, 38, 39, 40, 41, 42, 43, 44, 45, 46, 47, 48, 49, 50, 51, 52, 53, 54, 55, 56, 57, 58, 59, 60, 61, 62, 63, 64, 65, 66, 67, 68, 69, 70, 71, 72, 73, 74, 75, 76, 77, 78, 79, 80, 81, 82, 83, 84, 85, 86, 87, 88, 89, 90, 91, 92, 93, 94, 95, 96, 97, 98, 99, 100, 101, 0, 1, 2, 3, 4, 5, 6, 7, 8, 9, 10] rfl) (hD.sub [11, 12, 13, 14, 15, 16, 17, 18, 19, 20, 21, 22, 23, 24, 25, 26, 27, 28, 29, 30, 31, 32, 33, 34, 35, 36, 37, 38, 39, 40, 41, 42, 43, 44, 45, 46, 47, 48, 49, 50, 51, 52, 53, 54, 55, 56, 57, 58, 59, 60, 61, 62, 63, 64, 65, 66, 67, 68, 69, 70, 71, 72, 73, 74, 75, 76, 77, 78, 79, 80, 81, 82, 83, 84, 85, 86, 87, 88, 89, 90, 91, 92, 93, 94, 95, 96, 97, 98, 99, 100, 101, 0, 1, 2, 3, 4, 5, 6, 7, 8, 9, 10] (by decide) rfl) hS
              · exact absurd c43 (by decide)
          · exact absurd c36 (by decide)
        · obtain ⟨hi55, rfl⟩ := h0
          have hP : va_P D vwCl ([(o 0, .inr (7, [.ref (x 0), .ref (tq 0), .ref rd, .ref (q 0), .ref (tr 0), .ref (pz 0), .ref (o 1), .ref (o 2), .ref (sz 0)])), (pz 0, .inr (2, [.ref (pz 1), .int (nI kn)])), (pz 1, .inl (k.1 3, 8, .inr (.inr (.inr (.inr (ta_pd d))))))] ++ ((pdW k d T G Z) ++ (dyW k q t g X))) H := hP
          have hD : va_D A ([(o 0, .inr (7, [.ref (x 0), .ref (tq 0), .ref rd, .ref (q 0), .ref (tr 0), .ref (pz 0), .ref (o 1), .ref (o 2), .ref (sz 0)])), (pz 0, .inr (2, [.ref (pz 1), .int (nI kn)])), (pz 1, .inl (k.1 3, 8, .inr (.inr (.inr (.inr (ta_pd d))))))] ++ ((pdW k d T G Z) ++ (dyW k q t g X))) := hD
          have hfi := hi55
          refine lv_if_ne (tgt := 21) hx hb dX7_order_15 (by decide) (fun c56 => ?_) (fun c56 => ?_)
          · exact absurd c56 (by decide)
          · refine ta_bipush C 4294967293 dX7_order_18 (by decide) ?_
            have hcd : ¬ (sp_order_c g 1 kd mi) := by unfold sp_order_c; omega
            simp only [cl_n hcd] at ret
            have e1 : sp_order g 1 kd mi = 4294967293 := by
              unfold sp_order
              (repeat' split) <;> omega
            exact ret (nI 4294967293) (d, T, Z, X) dX7_order_20 rfl ⟨by rw [e1], hT, hZ, hX⟩ (hP.sub [0, 1, 2, 3, 4, 5, 6, 7, 8, 9, 10, 11, 12, 13, 14, 15, 16, 17, 18, 19, 20, 21, 22, 23, 24, 25, 26, 27, 28, 29, 30, 31, 32, 33, 34, 35, 36, 37, 38, 39, 40, 41, 42, 43, 44, 45, 46, 47, 48, 49, 50, 51, 52, 53, 54, 55, 56, 57, 58, 59, 60, 61, 62, 63, 64, 65, 66, 67, 68, 69, 70, 71, 72, 73, 74, 75, 76, 77, 78, 79, 80, 81, 82, 83, 84, 85, 86, 87, 88, 89, 90, 91, 92, 93, 94, 95, 96, 97, 98, 99, 100, 101] rfl) (hD.sub [0, 1, 2, 3, 4, 5, 6, 7, 8, 9, 10, 11, 12, 13, 14, 15, 16, 17, 18, 19, 20, 21, 22, 23, 24, 25, 26, 27, 28, 29, 30, 31, 32, 33, 34, 35, 36, 37, 38, 39, 40, 41, 42, 43, 44, 45, 46, 47, 48, 49, 50, 51, 52, 53, 54, 55, 56, 57, 58, 59, 60, 61, 62, 63, 64, 65, 66, 67, 68, 69, 70, 71, 72, 73, 74, 75, 76, 77, 78, 79, 80, 81, 82, 83, 84, 85, 86, 87, 88, 89, 90, 91, 92, 93, 94, 95, 96, 97, 98, 99, 100, 101] (by decide) rfl) hS
      · exact absurd c31 (by decide)
  · obtain ⟨hi57, rfl⟩ := h0
    have hP : va_P D vwCl ([(o 0, .inr (7, [.ref (x 0), .ref (tq 0), .ref rd, .ref (q 0), .ref (tr 0), .ref (pz 0), .ref (o 1), .ref (o 2), .ref (sz 0)])), (pz 0, .inr (2, [.ref (pz 1), .int (nI kn)])), (pz 1, .inl (k.1 3, 8, .inr (.inr (.inr (.inr (ta_pd d))))))] ++ ((pdW k d T G Z) ++ (dyW k q t g X))) H := hP
    have hD : va_D A ([(o 0, .inr (7, [.ref (x 0), .ref (tq 0), .ref rd, .ref (q 0), .ref (tr 0), .ref (pz 0), .ref (o 1), .ref (o 2), .ref (sz 0)])), (pz 0, .inr (2, [.ref (pz 1), .int (nI kn)])), (pz 1, .inl (k.1 3, 8, .inr (.inr (.inr (.inr (ta_pd d))))))] ++ ((pdW k d T G Z) ++ (dyW k q t g X))) := hD
    refine lv_if_ne (tgt := 10) hx hb dX7_order_4 (by decide) (fun c58 => ?_) (fun c58 => ?_)
    · exact absurd c58 (by decide)
    · refine ta_bipush C 4294967294 dX7_order_7 (by decide) ?_
      have hcd : ¬ (sp_order_c g a kd mi) := by unfold sp_order_c; omega
      simp only [cl_n hcd] at ret
      have e1 : sp_order g a kd mi = 4294967294 := by
        unfold sp_order
        (repeat' split) <;> omega
      exact ret (nI 4294967294) (d, T, Z, X) dX7_order_9 rfl ⟨by rw [e1], hT, hZ, hX⟩ (hP.sub [0, 1, 2, 3, 4, 5, 6, 7, 8, 9, 10, 11, 12, 13, 14, 15, 16, 17, 18, 19, 20, 21, 22, 23, 24, 25, 26, 27, 28, 29, 30, 31, 32, 33, 34, 35, 36, 37, 38, 39, 40, 41, 42, 43, 44, 45, 46, 47, 48, 49, 50, 51, 52, 53, 54, 55, 56, 57, 58, 59, 60, 61, 62, 63, 64, 65, 66, 67, 68, 69, 70, 71, 72, 73, 74, 75, 76, 77, 78, 79, 80, 81, 82, 83, 84, 85, 86, 87, 88, 89, 90, 91, 92, 93, 94, 95, 96, 97, 98, 99, 100, 101] rfl) (hD.sub [0, 1, 2, 3, 4, 5, 6, 7, 8, 9, 10, 11, 12, 13, 14, 15, 16, 17, 18, 19, 20, 21, 22, 23, 24, 25, 26, 27, 28, 29, 30, 31, 32, 33, 34, 35, 36, 37, 38, 39, 40, 41, 42, 43, 44, 45, 46, 47, 48, 49, 50, 51, 52, 53, 54, 55, 56, 57, 58, 59, 60, 61, 62, 63, 64, 65, 66, 67, 68, 69, 70, 71, 72, 73, 74, 75, 76, 77, 78, 79, 80, 81, 82, 83, 84, 85, 86, 87, 88, 89, 90, 91, 92, 93, 94, 95, 96, 97, 98, 99, 100, 101] (by decide) rfl) hS

set_option maxHeartbeats 4000000 in
set_option maxRecDepth 100000 in
theorem c_X7_undo (l : Launch) (D : va_G) (k : ta_C) (o : Nat → Nat) (x : Nat → Nat) (tq : Nat → Nat) (rd : Nat) (q : Nat → Nat) (tr : Nat → Nat) (pz : Nat → Nat) (sz : Nat → Nat) (kn : Nat) (d : Nat → Nat → Nat) (T : Nat → Nat → Nat) (G : Nat → Nat → Nat) (Z : Nat → Nat → Nat → Nat) (t : Nat → Nat) (g : Nat → Nat) (X : Nat → Nat → Nat) (hok : tg_ok t g) (hh0 : g 0 < 1000000) (hX : tg_X g X) (hkn : kn ≤ 8) (hT : ∀ i, i < kn → T i = t) (hZ : ∀ i, i < kn → tg_X (G i) (Z i)) (hGo : ∀ i, i < kn → tg_ok t (G i)) : ta_Mi (S := Nat → Nat → Nat) l D k yX7_undo cX7_undo 1 .int 4 140 [.ref (o 0)] ([(o 0, .inr (7, [.ref (x 0), .ref (tq 0), .ref rd, .ref (q 0), .ref (tr 0), .ref (pz 0), .ref (o 1), .ref (o 2), .ref (sz 0)])), (pz 0, .inr (2, [.ref (pz 1), .int (nI kn)])), (pz 1, .inl (k.1 3, 8, .inr (.inr (.inr (.inr (ta_pd d))))))] ++ ((pdW k d T G Z) ++ (dyW k q t g X))) (fun r u => r = nI (sp_undo kn) ∧ tg_X (cl_if (kn = 0) (g) (G (kn - 1))) u) (fun u => ([(o 0, .inr (7, [.ref (x 0), .ref (tq 0), .ref rd, .ref (q 0), .ref (tr 0), .ref (pz 0), .ref (o 1), .ref (o 2), .ref (sz 0)])), (pz 0, .inr (2, [.ref (pz 1), .int (nI (kn - 1))])), (pz 1, .inl (k.1 3, 8, .inr (.inr (.inr (.inr (ta_pd d))))))] ++ ((pdW k d T G Z) ++ (dyW k q t (cl_if (kn = 0) (g) (G (kn - 1))) u)))) := by
  refine ta_enter_i (by decide) (Nat.le_of_ble_eq_true rfl) ?_
  intro p e s m below meth c A ls Q C ret hP hD hS hl
  have C : ta_At p l D k s m ([.ref (o 0)] : List Value).toArray c RX7 cX7_undo 1 A := C
  have hx := C.1.1
  have hb := C.1.2.1
  have hl : lv_has ls 1 [(0, .ref (o 0))] := hl
  obtain ⟨H, hH⟩ : ∃ H, H = s.heap := ⟨_, rfl⟩
  obtain ⟨locs, hlocs⟩ : ∃ q : List Loc, q = [] := ⟨_, rfl⟩
  have hP : va_P D vwCl ([(o 0, .inr (7, [.ref (x 0), .ref (tq 0), .ref rd, .ref (q 0), .ref (tr 0), .ref (pz 0), .ref (o 1), .ref (o 2), .ref (sz 0)])), (pz 0, .inr (2, [.ref (pz 1), .int (nI kn)])), (pz 1, .inl (k.1 3, 8, .inr (.inr (.inr (.inr (ta_pd d))))))] ++ ((pdW k d T G Z) ++ (dyW k q t g X))) H := by rw [hH]; exact hP
  have hS : va_S A s.heap H locs := by rw [hH, hlocs]; exact hS
  rw [← hlocs]
  suffices hgoal : W p l e ({ frames := 4, cells := 0, slots := 0, locals := 140 }) s m ([.ref (o 0)] : List Value).toArray below meth c H locs 0 0 Q (F0 m 0 ls []) by rw [hH] at hgoal; exact hgoal
  clear hH hlocs
  rcases Nat.eq_zero_or_pos kn with h0 | h0
  · subst h0
    refine lv_aload_n hx hb dX7_undo_0 rfl (lv_at hl 0 rfl) ?_
    refine ta_get C hP 0 inlX7 rfl rfl 5 (by decide) tw_32 rfl dX7_undo_1 ?_
    refine lv_aload_n hx hb dX7_undo_4 rfl (lv_at hl 0 rfl) ?_
    refine ta_get C hP 0 inlX7 rfl rfl 3 (by decide) tw_27 rfl dX7_undo_5 ?_
    refine ta_callVi (As := [.ref (q 0)]) (rest0 := []) (Wr := [(o 0, .inr (7, [.ref (x 0), .ref (tq 0), .ref rd, .ref (q 0), .ref (tr 0), .ref (pz 0), .ref (o 1), .ref (o 2), .ref (sz 0)]))]) C hP hD hS (c_X2_recall_z l D k pz d T G Z q t g X) 1 rfl rfl rfl [1, 2, 3, 4, 5, 6, 7, 8, 9, 10, 11, 12, 13, 14, 15, 16, 17, 18, 19, 20, 21, 22, 23, 24, 25, 26, 27, 28, 29, 30, 31, 32, 33, 34, 35, 36, 37, 38, 39, 40, 41, 42, 43, 44, 45, 46, 47, 48, 49, 50, 51, 52, 53, 54, 55, 56, 57, 58, 59, 60, 61, 62, 63, 64, 65, 66, 67, 68, 69, 70, 71, 72, 73, 74, 75, 76, 77, 78, 79, 80, 81, 82, 83, 84, 85, 86, 87, 88, 89, 90, 91, 92, 93, 94, 95, 96, 97, 98, 99, 100, 101] [0] rfl rfl (by decide) (by decide) (by decide) tw_527 tw_524 tw_31 tw_525 tw_526 ⟨by decide, by decide, rfl⟩ ⟨Nat.le_of_ble_eq_true rfl, Nat.le_of_ble_eq_true rfl⟩ ⟨Nat.zero_le _, Nat.zero_le _⟩ hl.1 rfl (Nat.le_of_ble_eq_true rfl) dX7_undo_8 (fun r1 u2 H locs h3 hP hD hS => ?_)
    obtain rfl := h3
    have hP : va_P D vwCl ([(o 0, .inr (7, [.ref (x 0), .ref (tq 0), .ref rd, .ref (q 0), .ref (tr 0), .ref (pz 0), .ref (o 1), .ref (o 2), .ref (sz 0)])), (pz 0, .inr (2, [.ref (pz 1), .int (nI 0)])), (pz 1, .inl (k.1 3, 8, .inr (.inr (.inr (.inr (ta_pd d))))))] ++ ((pdW k d T G Z) ++ (dyW k q t g X))) H := hP
    have hD : va_D A ([(o 0, .inr (7, [.ref (x 0), .ref (tq 0), .ref rd, .ref (q 0), .ref (tr 0), .ref (pz 0), .ref (o 1), .ref (o 2), .ref (sz 0)])), (pz 0, .inr (2, [.ref (pz 1), .int (nI 0)])), (pz 1, .inl (k.1 3, 8, .inr (.inr (.inr (.inr (ta_pd d))))))] ++ ((pdW k d T G Z) ++ (dyW k q t g X))) := hD
    refine lv_if_eq (tgt := 24) hx hb dX7_undo_11 (by decide) (fun c4 => ?_) (fun c4 => ?_)
    · refine ta_bipush C 4294967292 dX7_undo_24 (by decide) ?_
      rw [show cl_if ((0 : Nat) = 0) g (G (0 - 1)) = g from cl_p rfl] at ret
      exact ret (nI 4294967292) X dX7_undo_26 rfl ⟨rfl, hX⟩ hP hD hS
    · exact absurd c4 (by decide)
  · obtain ⟨kj, rfl⟩ : ∃ j, kn = j + 1 := ⟨kn - 1, by omega⟩
    have hok6 : ∀ i, i < kj + 1 → G i 6 ≤ 8 ∧ G i 7 ≤ 8 := fun i hi => by obtain ⟨-, -, -, -, -, c6, c7, -⟩ := hGo i hi; exact ⟨c6, c7⟩
    refine lv_aload_n hx hb dX7_undo_0 rfl (lv_at hl 0 rfl) ?_
    refine ta_get C hP 0 inlX7 rfl rfl 5 (by decide) tw_32 rfl dX7_undo_1 ?_
    refine lv_aload_n hx hb dX7_undo_4 rfl (lv_at hl 0 rfl) ?_
    refine ta_get C hP 0 inlX7 rfl rfl 3 (by decide) tw_27 rfl dX7_undo_5 ?_
    refine ta_callVi (As := [.ref (q 0)]) (rest0 := []) (Wr := [(o 0, .inr (7, [.ref (x 0), .ref (tq 0), .ref rd, .ref (q 0), .ref (tr 0), .ref (pz 0), .ref (o 1), .ref (o 2), .ref (sz 0)]))]) C hP hD hS (c_X2_recall l D k pz kj d T G Z q t g X (by omega) (hok6 kj (by omega)).1 (hok6 kj (by omega)).2 (hZ kj (by omega))) 1 rfl rfl rfl [1, 2, 3, 4, 5, 6, 7, 8, 9, 10, 11, 12, 13, 14, 15, 16, 17, 18, 19, 20, 21, 22, 23, 24, 25, 26, 27, 28, 29, 30, 31, 32, 33, 34, 35, 36, 37, 38, 39, 40, 41, 42, 43, 44, 45, 46, 47, 48, 49, 50, 51, 52, 53, 54, 55, 56, 57, 58, 59, 60, 61, 62, 63, 64, 65, 66, 67, 68, 69, 70, 71, 72, 73, 74, 75, 76, 77, 78, 79, 80, 81, 82, 83, 84, 85, 86, 87, 88, 89, 90, 91, 92, 93, 94, 95, 96, 97, 98, 99, 100, 101] [0] rfl rfl (by decide) (by decide) (by decide) tw_527 tw_524 tw_31 tw_525 tw_526 ⟨by decide, by decide, rfl⟩ ⟨Nat.le_of_ble_eq_true rfl, Nat.le_of_ble_eq_true rfl⟩ ⟨Nat.zero_le _, Nat.zero_le _⟩ hl.1 rfl (Nat.le_of_ble_eq_true rfl) dX7_undo_8 (fun r5 u6 H locs h7 hP hD hS => ?_)
    obtain ⟨u_8, hu0⟩ : ∃ z, z = u6 := ⟨_, rfl⟩
    subst hu0
    obtain ⟨rfl, hXu9⟩ := h7
    have hP : va_P D vwCl ([(o 0, .inr (7, [.ref (x 0), .ref (tq 0), .ref rd, .ref (q 0), .ref (tr 0), .ref (pz 0), .ref (o 1), .ref (o 2), .ref (sz 0)])), (pz 0, .inr (2, [.ref (pz 1), .int (nI kj)])), (pz 1, .inl (k.1 3, 8, .inr (.inr (.inr (.inr (ta_pd d))))))] ++ ((pdW k d T G Z) ++ (dyW k q (T kj) (G kj) u_8))) H := hP
    have hD : va_D A ([(o 0, .inr (7, [.ref (x 0), .ref (tq 0), .ref rd, .ref (q 0), .ref (tr 0), .ref (pz 0), .ref (o 1), .ref (o 2), .ref (sz 0)])), (pz 0, .inr (2, [.ref (pz 1), .int (nI kj)])), (pz 1, .inl (k.1 3, 8, .inr (.inr (.inr (.inr (ta_pd d))))))] ++ ((pdW k d T G Z) ++ (dyW k q (T kj) (G kj) u_8))) := hD
    rw [hT kj (by omega)] at hP hD
    refine lv_if_eq (tgt := 24) hx hb dX7_undo_11 (by decide) (fun c10 => ?_) (fun c10 => ?_)
    · exact absurd c10 (by decide)
    · refine lv_aload_n hx hb dX7_undo_14 rfl (lv_at hl 0 rfl) ?_
      refine ta_get C hP 0 inlX7 rfl rfl 5 (by decide) tw_32 rfl dX7_undo_15 ?_
      refine ta_getN C hP 1 inlX2 rfl rfl 1 (by decide) 37 rfl rfl dX7_undo_18 ?_
      refine lv_goto (tgt := 26) hx hb dX7_undo_21 (by decide) ?_
      simp only [cl_n (show ¬ kj + 1 = 0 by omega)] at ret
      have e1 : sp_undo (kj + 1) = kj := rfl
      exact ret (nI kj) u_8 dX7_undo_26 rfl ⟨by rw [e1], hXu9⟩ hP hD hS

set_option maxHeartbeats 4000000 in
set_option maxRecDepth 100000 in
theorem c_X7_keep (l : Launch) (D : va_G) (k : ta_C) (o : Nat → Nat) (x : Nat → Nat) (tq : Nat → Nat) (rd : Nat) (q : Nat → Nat) (tr : Nat → Nat) (pz : Nat → Nat) (sz : Nat → Nat) (t : Nat → Nat) (g : Nat → Nat) (X : Nat → Nat → Nat) (ke : Nat → Nat → Nat) (T2 : Nat → Nat → Nat) (K : Nat → Nat → Nat) (Z2 : Nat → Nat → Nat → Nat) (kp : Nat → Nat) (xx : Nat) (hok : tg_ok t g) (hh0 : g 0 < 1000000) (hX : tg_X g X) (hkp : ∀ i, i < 2 → kp i ≤ 1) (hKp : ∀ i, i < 2 → kp i ≠ 0 → T2 i = t ∧ tg_ok t (K i) ∧ tg_X (K i) (Z2 i)) (wxx : xx < 4294967296) : ta_Mi (S := (Nat → Nat → Nat) × (Nat → Nat → Nat → Nat)) l D k yX7_keep cX7_keep 2 .int 3 110 [.ref (o 0), .int (nI xx)] ([(o 0, .inr (7, [.ref (x 0), .ref (tq 0), .ref rd, .ref (q 0), .ref (tr 0), .ref (pz 0), .ref (o 1), .ref (o 2), .ref (sz 0)]))] ++ ((dyW k q t g X) ++ ([(o 1, .inl (k.1 3, 2, .inr (.inr (.inr (.inr (ta_pd ke)))))), (o 2, .inl (k.1 1, 2, .inl (ta_e kp)))] ++ ((dyW k (ke 0) (T2 0) (K 0) (Z2 0)) ++ (dyW k (ke 1) (T2 1) (K 1) (Z2 1)))))) (fun r u => r = nI (sp_keep g xx) ∧ ∀ i, i < 2 → cl_if (xx < 2) (ta_u kp xx 1) (kp) i ≠ 0 → u.1 i = t ∧ tg_X (cl_if (xx < 2) (va_up K xx g) (K) i) (u.2 i)) (fun u => ([(o 0, .inr (7, [.ref (x 0), .ref (tq 0), .ref rd, .ref (q 0), .ref (tr 0), .ref (pz 0), .ref (o 1), .ref (o 2), .ref (sz 0)]))] ++ ((dyW k q t g X) ++ ([(o 1, .inl (k.1 3, 2, .inr (.inr (.inr (.inr (ta_pd ke)))))), (o 2, .inl (k.1 1, 2, .inl (ta_e (cl_if (xx < 2) (ta_u kp xx 1) (kp)))))] ++ ((dyW k (ke 0) (u.1 0) ((cl_if (xx < 2) (va_up K xx g) (K)) 0) (u.2 0)) ++ (dyW k (ke 1) (u.1 1) ((cl_if (xx < 2) (va_up K xx g) (K)) 1) (u.2 1))))))) := by
  refine ta_enter_i (by decide) (Nat.le_of_ble_eq_true rfl) ?_
  intro p e s m below meth c A ls Q C ret hP hD hS hl
  have C : ta_At p l D k s m ([.ref (o 0), .int (nI xx)] : List Value).toArray c RX7 cX7_keep 2 A := C
  have hx := C.1.1
  have hb := C.1.2.1
  have hl : lv_has ls 2 [(0, .ref (o 0)), (1, .int (nI xx))] := hl
  obtain ⟨H, hH⟩ : ∃ H, H = s.heap := ⟨_, rfl⟩
  obtain ⟨locs, hlocs⟩ : ∃ q : List Loc, q = [] := ⟨_, rfl⟩
  have hP : va_P D vwCl ([(o 0, .inr (7, [.ref (x 0), .ref (tq 0), .ref rd, .ref (q 0), .ref (tr 0), .ref (pz 0), .ref (o 1), .ref (o 2), .ref (sz 0)]))] ++ ((dyW k q t g X) ++ ([(o 1, .inl (k.1 3, 2, .inr (.inr (.inr (.inr (ta_pd ke)))))), (o 2, .inl (k.1 1, 2, .inl (ta_e kp)))] ++ ((dyW k (ke 0) (T2 0) (K 0) (Z2 0)) ++ (dyW k (ke 1) (T2 1) (K 1) (Z2 1)))))) H := by rw [hH]; exact hP
  have hS : va_S A s.heap H locs := by rw [hH, hlocs]; exact hS
  rw [← hlocs]
  suffices hgoal : W p l e ({ frames := 3, cells := 0, slots := 0, locals := 110 }) s m ([.ref (o 0), .int (nI xx)] : List Value).toArray below meth c H locs 0 0 Q (F0 m 0 ls []) by rw [hH] at hgoal; exact hgoal
  clear hH hlocs
  obtain ⟨⟨a1, a2, a3, a4, a5, a6⟩, b1, b2, b3, b4, b6, b7, b8, b9⟩ := id hok
  refine lv_iload_n hx hb dX7_keep_0 rfl (lv_at hl 1 rfl) ?_
  refine ta_wilt C (a := xx) (tgt := 9) (by omega) dX7_keep_1 (by decide) (fun c1 => ?_) (fun c1 => ?_)
  · refine ta_bipush C 4294967294 dX7_keep_9 (by decide) ?_
    simp only [cl_n (show ¬ xx < 2 by omega)] at ret
    have e1 : sp_keep g xx = 4294967294 := if_neg (by omega)
    exact ret (nI 4294967294) (T2, Z2) dX7_keep_11 rfl ⟨by rw [e1], fun i h1 h2 => ⟨(hKp i h1 h2).1, (hKp i h1 h2).2.2⟩⟩ hP hD hS
  · refine lv_iload_n hx hb dX7_keep_4 rfl (lv_at hl 1 rfl) ?_
    refine ta_iconst C 2 dX7_keep_5 (by decide) ?_
    refine ta_wlt C (a := xx) (b := 2) (tgt := 12) (by omega) (by omega) dX7_keep_6 (by decide) (fun c2 => ?_) (fun c2 => ?_)
    · rcases (show xx = 0 ∨ xx = 1 by omega) with rfl | rfl
      · refine lv_aload_n hx hb dX7_keep_12 rfl (lv_at hl 0 rfl) ?_
        refine ta_get C hP 0 inlX7 rfl rfl 6 (by decide) tw_33 rfl dX7_keep_13 ?_
        refine lv_iload_n hx hb dX7_keep_16 rfl (lv_at hl 1 rfl) ?_
        refine ta_aald C hP 12 3 rfl rfl (i := 0) (x := ke 0 0) (by omega) rfl dX7_keep_17 ?_
        refine lv_aload_n hx hb dX7_keep_18 rfl (lv_at hl 0 rfl) ?_
        refine ta_get C hP 0 inlX7 rfl rfl 3 (by decide) tw_27 rfl dX7_keep_19 ?_
        refine ta_callVv (As := [.ref (q 0)]) (rest0 := []) (Wr := ([(o 0, .inr (7, [.ref (x 0), .ref (tq 0), .ref rd, .ref (q 0), .ref (tr 0), .ref (pz 0), .ref (o 1), .ref (o 2), .ref (sz 0)])), (o 1, .inl (k.1 3, 2, .inr (.inr (.inr (.inr (ta_pd ke)))))), (o 2, .inl (k.1 1, 2, .inl (ta_e kp)))] ++ (dyW k (ke 1) (T2 1) (K 1) (Z2 1)))) C hP hD hS (c_X0_copyFrom l D k (ke 0) (T2 0) (K 0) (Z2 0) q t g X b6 b7 hX) 14 rfl rfl rfl [14, 15, 16, 17, 18, 19, 20, 21, 22, 23, 24, 1, 2, 3, 4, 5, 6, 7, 8, 9, 10, 11] [0, 12, 13, 25, 26, 27, 28, 29, 30, 31, 32, 33, 34, 35] rfl rfl (by decide) (by decide) (by decide) tw_434 tw_536 tw_26 tw_432 tw_433 ⟨by decide, by decide, rfl⟩ ⟨Nat.le_of_ble_eq_true rfl, Nat.le_of_ble_eq_true rfl⟩ ⟨Nat.zero_le _, Nat.zero_le _⟩ hl.1 rfl (Nat.le_of_ble_eq_true rfl) dX7_keep_22 (fun u4 H locs h5 hP hD hS => ?_)
        obtain ⟨u_6, hu0⟩ : ∃ z, z = u4 := ⟨_, rfl⟩
        subst hu0
        have hX7 := h5
        have hP : va_P D vwCl ([(o 0, .inr (7, [.ref (x 0), .ref (tq 0), .ref rd, .ref (q 0), .ref (tr 0), .ref (pz 0), .ref (o 1), .ref (o 2), .ref (sz 0)])), (o 1, .inl (k.1 3, 2, .inr (.inr (.inr (.inr (ta_pd ke)))))), (o 2, .inl (k.1 1, 2, .inl (ta_e kp)))] ++ ((dyW k (ke 1) (T2 1) (K 1) (Z2 1)) ++ ((dyW k (ke 0) t g u_6) ++ (dyW k q t g X)))) H := hP
        have hD : va_D A ([(o 0, .inr (7, [.ref (x 0), .ref (tq 0), .ref rd, .ref (q 0), .ref (tr 0), .ref (pz 0), .ref (o 1), .ref (o 2), .ref (sz 0)])), (o 1, .inl (k.1 3, 2, .inr (.inr (.inr (.inr (ta_pd ke)))))), (o 2, .inl (k.1 1, 2, .inl (ta_e kp)))] ++ ((dyW k (ke 1) (T2 1) (K 1) (Z2 1)) ++ ((dyW k (ke 0) t g u_6) ++ (dyW k q t g X)))) := hD
        refine lv_aload_n hx hb dX7_keep_25 rfl (lv_at hl 0 rfl) ?_
        refine ta_get C hP 0 inlX7 rfl rfl 7 (by decide) tw_35 rfl dX7_keep_26 ?_
        refine lv_iload_n hx hb dX7_keep_29 rfl (lv_at hl 1 rfl) ?_
        refine ta_iconst C 1 dX7_keep_30 (by decide) ?_
        refine ta_zast C hP hD hS 2 rfl (i := 0) (v := 1) (by omega) (by decide) dX7_keep_31 (fun H locs hP hD hS => ?_)
        have hP : va_P D vwCl ([(o 0, .inr (7, [.ref (x 0), .ref (tq 0), .ref rd, .ref (q 0), .ref (tr 0), .ref (pz 0), .ref (o 1), .ref (o 2), .ref (sz 0)])), (o 1, .inl (k.1 3, 2, .inr (.inr (.inr (.inr (ta_pd ke)))))), (o 2, .inl (k.1 1, 2, .inl (ta_e (ta_u kp 0 1))))] ++ ((dyW k (ke 1) (T2 1) (K 1) (Z2 1)) ++ ((dyW k (ke 0) t g u_6) ++ (dyW k q t g X)))) H := hP
        have hD : va_D A ([(o 0, .inr (7, [.ref (x 0), .ref (tq 0), .ref rd, .ref (q 0), .ref (tr 0), .ref (pz 0), .ref (o 1), .ref (o 2), .ref (sz 0)])), (o 1, .inl (k.1 3, 2, .inr (.inr (.inr (.inr (ta_pd ke)))))), (o 2, .inl (k.1 1, 2, .inl (ta_e (ta_u kp 0 1))))] ++ ((dyW k (ke 1) (T2 1) (K 1) (Z2 1)) ++ ((dyW k (ke 0) t g u_6) ++ (dyW k q t g X)))) := hD
        refine lv_aload_n hx hb dX7_keep_32 rfl (lv_at hl 0 rfl) ?_
        refine ta_get C hP 0 inlX7 rfl rfl 3 (by decide) tw_27 rfl dX7_keep_33 ?_
        refine ta_getN C hP 25 inlX0 rfl rfl 3 (by decide) 28 rfl rfl dX7_keep_36 ?_
        simp only [cl_p (show 0 < 2 by decide)] at ret
        have e1 : sp_keep g 0 = g 0 := rfl
        have hKn : ∀ i, i < 2 → ta_u kp 0 1 i ≠ 0 → (va_up T2 0 t) i = t ∧ tg_X ((va_up K 0 g) i) ((va_up Z2 0 u_6) i) := by
          intro i h1 h2
          by_cases q : i = 0
          · subst q
            exact ⟨rfl, hX7⟩
          · rw [ta_un q] at h2
            have h3 := hKp i h1 h2
            show (if i = 0 then t else T2 i) = t ∧ tg_X (if i = 0 then g else K i) (if i = 0 then u_6 else Z2 i)
            rw [if_neg q, if_neg q, if_neg q]
            exact ⟨h3.1, h3.2.2⟩
        exact ret (nI (g 0)) (va_up T2 0 t, va_up Z2 0 u_6) dX7_keep_39 rfl ⟨by rw [e1], hKn⟩ (hP.sub [0, 25, 26, 27, 28, 29, 30, 31, 32, 33, 34, 35, 1, 2, 14, 15, 16, 17, 18, 19, 20, 21, 22, 23, 24, 3, 4, 5, 6, 7, 8, 9, 10, 11, 12, 13] rfl) (hD.sub [0, 25, 26, 27, 28, 29, 30, 31, 32, 33, 34, 35, 1, 2, 14, 15, 16, 17, 18, 19, 20, 21, 22, 23, 24, 3, 4, 5, 6, 7, 8, 9, 10, 11, 12, 13] (by decide) rfl) hS
      · refine lv_aload_n hx hb dX7_keep_12 rfl (lv_at hl 0 rfl) ?_
        refine ta_get C hP 0 inlX7 rfl rfl 6 (by decide) tw_33 rfl dX7_keep_13 ?_
        refine lv_iload_n hx hb dX7_keep_16 rfl (lv_at hl 1 rfl) ?_
        refine ta_aald C hP 12 3 rfl rfl (i := 1) (x := ke 1 0) (by omega) rfl dX7_keep_17 ?_
        refine lv_aload_n hx hb dX7_keep_18 rfl (lv_at hl 0 rfl) ?_
        refine ta_get C hP 0 inlX7 rfl rfl 3 (by decide) tw_27 rfl dX7_keep_19 ?_
        refine ta_callVv (As := [.ref (q 0)]) (rest0 := []) (Wr := ([(o 0, .inr (7, [.ref (x 0), .ref (tq 0), .ref rd, .ref (q 0), .ref (tr 0), .ref (pz 0), .ref (o 1), .ref (o 2), .ref (sz 0)])), (o 1, .inl (k.1 3, 2, .inr (.inr (.inr (.inr (ta_pd ke)))))), (o 2, .inl (k.1 1, 2, .inl (ta_e kp)))] ++ (dyW k (ke 0) (T2 0) (K 0) (Z2 0)))) C hP hD hS (c_X0_copyFrom l D k (ke 1) (T2 1) (K 1) (Z2 1) q t g X b6 b7 hX) 25 rfl rfl rfl [25, 26, 27, 28, 29, 30, 31, 32, 33, 34, 35, 1, 2, 3, 4, 5, 6, 7, 8, 9, 10, 11] [0, 12, 13, 14, 15, 16, 17, 18, 19, 20, 21, 22, 23, 24] rfl rfl (by decide) (by decide) (by decide) tw_434 tw_536 tw_26 tw_432 tw_433 ⟨by decide, by decide, rfl⟩ ⟨Nat.le_of_ble_eq_true rfl, Nat.le_of_ble_eq_true rfl⟩ ⟨Nat.zero_le _, Nat.zero_le _⟩ hl.1 rfl (Nat.le_of_ble_eq_true rfl) dX7_keep_22 (fun u9 H locs h10 hP hD hS => ?_)
        obtain ⟨u_11, hu0⟩ : ∃ z, z = u9 := ⟨_, rfl⟩
        subst hu0
        have hX12 := h10
        have hP : va_P D vwCl ([(o 0, .inr (7, [.ref (x 0), .ref (tq 0), .ref rd, .ref (q 0), .ref (tr 0), .ref (pz 0), .ref (o 1), .ref (o 2), .ref (sz 0)])), (o 1, .inl (k.1 3, 2, .inr (.inr (.inr (.inr (ta_pd ke)))))), (o 2, .inl (k.1 1, 2, .inl (ta_e kp)))] ++ ((dyW k (ke 0) (T2 0) (K 0) (Z2 0)) ++ ((dyW k (ke 1) t g u_11) ++ (dyW k q t g X)))) H := hP
        have hD : va_D A ([(o 0, .inr (7, [.ref (x 0), .ref (tq 0), .ref rd, .ref (q 0), .ref (tr 0), .ref (pz 0), .ref (o 1), .ref (o 2), .ref (sz 0)])), (o 1, .inl (k.1 3, 2, .inr (.inr (.inr (.inr (ta_pd ke)))))), (o 2, .inl (k.1 1, 2, .inl (ta_e kp)))] ++ ((dyW k (ke 0) (T2 0) (K 0) (Z2 0)) ++ ((dyW k (ke 1) t g u_11) ++ (dyW k q t g X)))) := hD
        refine lv_aload_n hx hb dX7_keep_25 rfl (lv_at hl 0 rfl) ?_
        refine ta_get C hP 0 inlX7 rfl rfl 7 (by decide) tw_35 rfl dX7_keep_26 ?_
        refine lv_iload_n hx hb dX7_keep_29 rfl (lv_at hl 1 rfl) ?_
        refine ta_iconst C 1 dX7_keep_30 (by decide) ?_
        refine ta_zast C hP hD hS 2 rfl (i := 1) (v := 1) (by omega) (by decide) dX7_keep_31 (fun H locs hP hD hS => ?_)
        have hP : va_P D vwCl ([(o 0, .inr (7, [.ref (x 0), .ref (tq 0), .ref rd, .ref (q 0), .ref (tr 0), .ref (pz 0), .ref (o 1), .ref (o 2), .ref (sz 0)])), (o 1, .inl (k.1 3, 2, .inr (.inr (.inr (.inr (ta_pd ke)))))), (o 2, .inl (k.1 1, 2, .inl (ta_e (ta_u kp 1 1))))] ++ ((dyW k (ke 0) (T2 0) (K 0) (Z2 0)) ++ ((dyW k (ke 1) t g u_11) ++ (dyW k q t g X)))) H := hP
        have hD : va_D A ([(o 0, .inr (7, [.ref (x 0), .ref (tq 0), .ref rd, .ref (q 0), .ref (tr 0), .ref (pz 0), .ref (o 1), .ref (o 2), .ref (sz 0)])), (o 1, .inl (k.1 3, 2, .inr (.inr (.inr (.inr (ta_pd ke)))))), (o 2, .inl (k.1 1, 2, .inl (ta_e (ta_u kp 1 1))))] ++ ((dyW k (ke 0) (T2 0) (K 0) (Z2 0)) ++ ((dyW k (ke 1) t g u_11) ++ (dyW k q t g X)))) := hD
        refine lv_aload_n hx hb dX7_keep_32 rfl (lv_at hl 0 rfl) ?_
        refine ta_get C hP 0 inlX7 rfl rfl 3 (by decide) tw_27 rfl dX7_keep_33 ?_
        refine ta_getN C hP 25 inlX0 rfl rfl 3 (by decide) 28 rfl rfl dX7_keep_36 ?_
        simp only [cl_p (show 1 < 2 by decide)] at ret
        have e1 : sp_keep g 1 = g 0 := rfl
        have hKn : ∀ i, i < 2 → ta_u kp 1 1 i ≠ 0 → (va_up T2 1 t) i = t ∧ tg_X ((va_up K 1 g) i) ((va_up Z2 1 u_11) i) := by
          intro i h1 h2
          by_cases q : i = 1
          · subst q
            exact ⟨rfl, hX12⟩
          · rw [ta_un q] at h2
            have h3 := hKp i h1 h2
            show (if i = 1 then t else T2 i) = t ∧ tg_X (if i = 1 then g else K i) (if i = 1 then u_11 else Z2 i)
            rw [if_neg q, if_neg q, if_neg q]
            exact ⟨h3.1, h3.2.2⟩
        exact ret (nI (g 0)) (va_up T2 1 t, va_up Z2 1 u_11) dX7_keep_39 rfl ⟨by rw [e1], hKn⟩ (hP.sub [0, 25, 26, 27, 28, 29, 30, 31, 32, 33, 34, 35, 1, 2, 3, 4, 5, 6, 7, 8, 9, 10, 11, 12, 13, 14, 15, 16, 17, 18, 19, 20, 21, 22, 23, 24] rfl) (hD.sub [0, 25, 26, 27, 28, 29, 30, 31, 32, 33, 34, 35, 1, 2, 3, 4, 5, 6, 7, 8, 9, 10, 11, 12, 13, 14, 15, 16, 17, 18, 19, 20, 21, 22, 23, 24] (by decide) rfl) hS
    · refine ta_bipush C 4294967294 dX7_keep_9 (by decide) ?_
      simp only [cl_n (show ¬ xx < 2 by omega)] at ret
      have e1 : sp_keep g xx = 4294967294 := if_neg (by omega)
      exact ret (nI 4294967294) (T2, Z2) dX7_keep_11 rfl ⟨by rw [e1], fun i h1 h2 => ⟨(hKp i h1 h2).1, (hKp i h1 h2).2.2⟩⟩ hP hD hS

set_option maxHeartbeats 4000000 in
set_option maxRecDepth 100000 in
theorem c_X7_back (l : Launch) (D : va_G) (k : ta_C) (o : Nat → Nat) (x : Nat → Nat) (tq : Nat → Nat) (rd : Nat) (q : Nat → Nat) (tr : Nat → Nat) (pz : Nat → Nat) (sz : Nat → Nat) (t : Nat → Nat) (g : Nat → Nat) (X : Nat → Nat → Nat) (ke : Nat → Nat → Nat) (T2 : Nat → Nat → Nat) (K : Nat → Nat → Nat) (Z2 : Nat → Nat → Nat → Nat) (kp : Nat → Nat) (kn : Nat) (xx : Nat) (hok : tg_ok t g) (hh0 : g 0 < 1000000) (hX : tg_X g X) (hkp : ∀ i, i < 2 → kp i ≤ 1) (hKp : ∀ i, i < 2 → kp i ≠ 0 → T2 i = t ∧ tg_ok t (K i) ∧ tg_X (K i) (Z2 i)) (wxx : xx < 4294967296) : ta_Mi (S := Nat → Nat → Nat) l D k yX7_back cX7_back 2 .int 3 110 [.ref (o 0), .int (nI xx)] ([(o 0, .inr (7, [.ref (x 0), .ref (tq 0), .ref rd, .ref (q 0), .ref (tr 0), .ref (pz 0), .ref (o 1), .ref (o 2), .ref (sz 0)]))] ++ ((dyW k q t g X) ++ ([(o 1, .inl (k.1 3, 2, .inr (.inr (.inr (.inr (ta_pd ke)))))), (o 2, .inl (k.1 1, 2, .inl (ta_e kp)))] ++ ((dyW k (ke 0) (T2 0) (K 0) (Z2 0)) ++ ((dyW k (ke 1) (T2 1) (K 1) (Z2 1)) ++ [(pz 0, .inr (2, [.ref (pz 1), .int (nI kn)]))]))))) (fun r u => r = nI (sp_back kp K xx) ∧ tg_X (cl_if (sp_back_c kp xx) (K xx) (g)) u) (fun u => ([(o 0, .inr (7, [.ref (x 0), .ref (tq 0), .ref rd, .ref (q 0), .ref (tr 0), .ref (pz 0), .ref (o 1), .ref (o 2), .ref (sz 0)]))] ++ ((dyW k q t (cl_if (sp_back_c kp xx) (K xx) (g)) u) ++ ([(o 1, .inl (k.1 3, 2, .inr (.inr (.inr (.inr (ta_pd ke)))))), (o 2, .inl (k.1 1, 2, .inl (ta_e kp)))] ++ ((dyW k (ke 0) (T2 0) (K 0) (Z2 0)) ++ ((dyW k (ke 1) (T2 1) (K 1) (Z2 1)) ++ [(pz 0, .inr (2, [.ref (pz 1), .int (nI (cl_if (sp_back_c kp xx) (0) (kn)))]))])))))) := by
  refine ta_enter_i (by decide) (Nat.le_of_ble_eq_true rfl) ?_
  intro p e s m below meth c A ls Q C ret hP hD hS hl
  have C : ta_At p l D k s m ([.ref (o 0), .int (nI xx)] : List Value).toArray c RX7 cX7_back 2 A := C
  have hx := C.1.1
  have hb := C.1.2.1
  have hl : lv_has ls 2 [(0, .ref (o 0)), (1, .int (nI xx))] := hl
  obtain ⟨H, hH⟩ : ∃ H, H = s.heap := ⟨_, rfl⟩
  obtain ⟨locs, hlocs⟩ : ∃ q : List Loc, q = [] := ⟨_, rfl⟩
  have hP : va_P D vwCl ([(o 0, .inr (7, [.ref (x 0), .ref (tq 0), .ref rd, .ref (q 0), .ref (tr 0), .ref (pz 0), .ref (o 1), .ref (o 2), .ref (sz 0)]))] ++ ((dyW k q t g X) ++ ([(o 1, .inl (k.1 3, 2, .inr (.inr (.inr (.inr (ta_pd ke)))))), (o 2, .inl (k.1 1, 2, .inl (ta_e kp)))] ++ ((dyW k (ke 0) (T2 0) (K 0) (Z2 0)) ++ ((dyW k (ke 1) (T2 1) (K 1) (Z2 1)) ++ [(pz 0, .inr (2, [.ref (pz 1), .int (nI kn)]))]))))) H := by rw [hH]; exact hP
  have hS : va_S A s.heap H locs := by rw [hH, hlocs]; exact hS
  rw [← hlocs]
  suffices hgoal : W p l e ({ frames := 3, cells := 0, slots := 0, locals := 110 }) s m ([.ref (o 0), .int (nI xx)] : List Value).toArray below meth c H locs 0 0 Q (F0 m 0 ls []) by rw [hH] at hgoal; exact hgoal
  clear hH hlocs
  have hk0 := hkp 0 (by decide)
  have hk1 := hkp 1 (by decide)
  refine lv_iload_n hx hb dX7_back_0 rfl (lv_at hl 1 rfl) ?_
  refine ta_wilt C (a := xx) (tgt := 9) (by omega) dX7_back_1 (by decide) (fun c1 => ?_) (fun c1 => ?_)
  · refine ta_bipush C 4294967294 dX7_back_9 (by decide) ?_
    have hcd : ¬ sp_back_c kp xx := by unfold sp_back_c; omega
    simp only [cl_n hcd] at ret
    have e1 : sp_back kp K xx = 4294967294 := if_neg (by omega)
    exact ret (nI 4294967294) X dX7_back_11 rfl ⟨by rw [e1], hX⟩ hP hD hS
  · refine lv_iload_n hx hb dX7_back_4 rfl (lv_at hl 1 rfl) ?_
    refine ta_iconst C 2 dX7_back_5 (by decide) ?_
    refine ta_wlt C (a := xx) (b := 2) (tgt := 12) (by omega) (by omega) dX7_back_6 (by decide) (fun c2 => ?_) (fun c2 => ?_)
    · rcases (show xx = 0 ∨ xx = 1 by omega) with rfl | rfl
      · refine lv_aload_n hx hb dX7_back_12 rfl (lv_at hl 0 rfl) ?_
        refine ta_get C hP 0 inlX7 rfl rfl 7 (by decide) tw_35 rfl dX7_back_13 ?_
        refine lv_iload_n hx hb dX7_back_16 rfl (lv_at hl 1 rfl) ?_
        refine ta_zald C hP 13 rfl (i := 0) (by omega) dX7_back_17 ?_
        refine ta_ine C (a := kp 0) (tgt := 24) (by omega) dX7_back_18 (by decide) (fun c3 => ?_) (fun c3 => ?_)
        · obtain ⟨hT9, hG9, hX9⟩ := hKp 0 (by decide) (by omega)
          obtain ⟨-, -, -, -, -, c6, c7, -, -⟩ := id hG9
          refine lv_aload_n hx hb dX7_back_24 rfl (lv_at hl 0 rfl) ?_
          refine ta_get C hP 0 inlX7 rfl rfl 3 (by decide) tw_27 rfl dX7_back_25 ?_
          refine lv_aload_n hx hb dX7_back_28 rfl (lv_at hl 0 rfl) ?_
          refine ta_get C hP 0 inlX7 rfl rfl 6 (by decide) tw_33 rfl dX7_back_29 ?_
          refine lv_iload_n hx hb dX7_back_32 rfl (lv_at hl 1 rfl) ?_
          refine ta_aald C hP 12 3 rfl rfl (i := 0) (x := ke 0 0) (by omega) rfl dX7_back_33 ?_
          refine ta_callVv (As := [.ref (ke 0 0)]) (rest0 := []) (Wr := ([(o 0, .inr (7, [.ref (x 0), .ref (tq 0), .ref rd, .ref (q 0), .ref (tr 0), .ref (pz 0), .ref (o 1), .ref (o 2), .ref (sz 0)])), (o 1, .inl (k.1 3, 2, .inr (.inr (.inr (.inr (ta_pd ke)))))), (o 2, .inl (k.1 1, 2, .inl (ta_e kp)))] ++ ((dyW k (ke 1) (T2 1) (K 1) (Z2 1)) ++ [(pz 0, .inr (2, [.ref (pz 1), .int (nI kn)]))]))) C hP hD hS (c_X0_copyFrom l D k q t g X (ke 0) (T2 0) (K 0) (Z2 0) c6 c7 hX9) 1 rfl rfl rfl [1, 2, 3, 4, 5, 6, 7, 8, 9, 10, 11, 14, 15, 16, 17, 18, 19, 20, 21, 22, 23, 24] [0, 12, 13, 25, 26, 27, 28, 29, 30, 31, 32, 33, 34, 35, 36] rfl rfl (by decide) (by decide) (by decide) tw_434 tw_536 tw_26 tw_432 tw_433 ⟨by decide, by decide, rfl⟩ ⟨Nat.le_of_ble_eq_true rfl, Nat.le_of_ble_eq_true rfl⟩ ⟨Nat.zero_le _, Nat.zero_le _⟩ hl.1 rfl (Nat.le_of_ble_eq_true rfl) dX7_back_34 (fun u5 H locs h6 hP hD hS => ?_)
          obtain ⟨u_7, hu0⟩ : ∃ z, z = u5 := ⟨_, rfl⟩
          subst hu0
          have hX8 := h6
          have hP : va_P D vwCl ([(o 0, .inr (7, [.ref (x 0), .ref (tq 0), .ref rd, .ref (q 0), .ref (tr 0), .ref (pz 0), .ref (o 1), .ref (o 2), .ref (sz 0)])), (o 1, .inl (k.1 3, 2, .inr (.inr (.inr (.inr (ta_pd ke)))))), (o 2, .inl (k.1 1, 2, .inl (ta_e kp)))] ++ ((dyW k (ke 1) (T2 1) (K 1) (Z2 1)) ++ ([(pz 0, .inr (2, [.ref (pz 1), .int (nI kn)]))] ++ ((dyW k q (T2 0) (K 0) u_7) ++ (dyW k (ke 0) (T2 0) (K 0) (Z2 0)))))) H := hP
          have hD : va_D A ([(o 0, .inr (7, [.ref (x 0), .ref (tq 0), .ref rd, .ref (q 0), .ref (tr 0), .ref (pz 0), .ref (o 1), .ref (o 2), .ref (sz 0)])), (o 1, .inl (k.1 3, 2, .inr (.inr (.inr (.inr (ta_pd ke)))))), (o 2, .inl (k.1 1, 2, .inl (ta_e kp)))] ++ ((dyW k (ke 1) (T2 1) (K 1) (Z2 1)) ++ ([(pz 0, .inr (2, [.ref (pz 1), .int (nI kn)]))] ++ ((dyW k q (T2 0) (K 0) u_7) ++ (dyW k (ke 0) (T2 0) (K 0) (Z2 0)))))) := hD
          have hP : va_P D vwCl ([(o 0, .inr (7, [.ref (x 0), .ref (tq 0), .ref rd, .ref (q 0), .ref (tr 0), .ref (pz 0), .ref (o 1), .ref (o 2), .ref (sz 0)])), (o 1, .inl (k.1 3, 2, .inr (.inr (.inr (.inr (ta_pd ke)))))), (o 2, .inl (k.1 1, 2, .inl (ta_e kp)))] ++ ((dyW k (ke 1) (T2 1) (K 1) (Z2 1)) ++ ([(pz 0, .inr (2, [.ref (pz 1), .int (nI kn)]))] ++ ((dyW k q t (K 0) u_7) ++ (dyW k (ke 0) (T2 0) (K 0) (Z2 0)))))) H := by rw [show dyW k q t (K 0) u_7 = dyW k q (T2 0) (K 0) u_7 by rw [hT9]]; exact hP
          have hD : va_D A ([(o 0, .inr (7, [.ref (x 0), .ref (tq 0), .ref rd, .ref (q 0), .ref (tr 0), .ref (pz 0), .ref (o 1), .ref (o 2), .ref (sz 0)])), (o 1, .inl (k.1 3, 2, .inr (.inr (.inr (.inr (ta_pd ke)))))), (o 2, .inl (k.1 1, 2, .inl (ta_e kp)))] ++ ((dyW k (ke 1) (T2 1) (K 1) (Z2 1)) ++ ([(pz 0, .inr (2, [.ref (pz 1), .int (nI kn)]))] ++ ((dyW k q t (K 0) u_7) ++ (dyW k (ke 0) (T2 0) (K 0) (Z2 0)))))) := ta_De hD rfl
          refine lv_aload_n hx hb dX7_back_37 rfl (lv_at hl 0 rfl) ?_
          refine ta_get C hP 0 inlX7 rfl rfl 5 (by decide) tw_32 rfl dX7_back_38 ?_
          refine ta_iconst C 0 dX7_back_41 (by decide) ?_
          refine ta_putN C hP hD hS 14 inlX2 tyX2 tyX2_ok nmX2 rfl rfl 1 (by decide) 37 rfl rfl rfl rfl (Nat.le_of_ble_eq_true rfl) dX7_back_42 (fun H locs hP hD hS => ?_)
          have hP : va_P D vwCl ([(o 0, .inr (7, [.ref (x 0), .ref (tq 0), .ref rd, .ref (q 0), .ref (tr 0), .ref (pz 0), .ref (o 1), .ref (o 2), .ref (sz 0)])), (o 1, .inl (k.1 3, 2, .inr (.inr (.inr (.inr (ta_pd ke)))))), (o 2, .inl (k.1 1, 2, .inl (ta_e kp)))] ++ ((dyW k (ke 1) (T2 1) (K 1) (Z2 1)) ++ ([(pz 0, .inr (2, [.ref (pz 1), .int (nI 0)]))] ++ ((dyW k q t (K 0) u_7) ++ (dyW k (ke 0) (T2 0) (K 0) (Z2 0)))))) H := hP
          have hD : va_D A ([(o 0, .inr (7, [.ref (x 0), .ref (tq 0), .ref rd, .ref (q 0), .ref (tr 0), .ref (pz 0), .ref (o 1), .ref (o 2), .ref (sz 0)])), (o 1, .inl (k.1 3, 2, .inr (.inr (.inr (.inr (ta_pd ke)))))), (o 2, .inl (k.1 1, 2, .inl (ta_e kp)))] ++ ((dyW k (ke 1) (T2 1) (K 1) (Z2 1)) ++ ([(pz 0, .inr (2, [.ref (pz 1), .int (nI 0)]))] ++ ((dyW k q t (K 0) u_7) ++ (dyW k (ke 0) (T2 0) (K 0) (Z2 0)))))) := hD
          refine lv_aload_n hx hb dX7_back_45 rfl (lv_at hl 0 rfl) ?_
          refine ta_get C hP 0 inlX7 rfl rfl 3 (by decide) tw_27 rfl dX7_back_46 ?_
          refine ta_getN C hP 15 inlX0 rfl rfl 3 (by decide) 28 rfl rfl dX7_back_49 ?_
          have hcd : sp_back_c kp 0 := by unfold sp_back_c; omega
          simp only [cl_p hcd] at ret
          have e1 : sp_back kp K 0 = K 0 0 := by unfold sp_back; rw [if_pos (by decide), if_neg (by omega)]
          exact ret (nI ((K 0) 0)) u_7 dX7_back_52 rfl ⟨by rw [e1], hX8⟩ (hP.sub [0, 15, 16, 17, 18, 19, 20, 21, 22, 23, 24, 25, 1, 2, 26, 27, 28, 29, 30, 31, 32, 33, 34, 35, 36, 3, 4, 5, 6, 7, 8, 9, 10, 11, 12, 13, 14] rfl) (hD.sub [0, 15, 16, 17, 18, 19, 20, 21, 22, 23, 24, 25, 1, 2, 26, 27, 28, 29, 30, 31, 32, 33, 34, 35, 36, 3, 4, 5, 6, 7, 8, 9, 10, 11, 12, 13, 14] (by decide) rfl) hS
        · refine ta_bipush C 4294967292 dX7_back_21 (by decide) ?_
          have hcd : ¬ sp_back_c kp 0 := by unfold sp_back_c; omega
          simp only [cl_n hcd] at ret
          have e1 : sp_back kp K 0 = 4294967292 := by unfold sp_back; rw [if_pos (by decide), if_pos (by omega)]
          exact ret (nI 4294967292) X dX7_back_23 rfl ⟨by rw [e1], hX⟩ hP hD hS
      · refine lv_aload_n hx hb dX7_back_12 rfl (lv_at hl 0 rfl) ?_
        refine ta_get C hP 0 inlX7 rfl rfl 7 (by decide) tw_35 rfl dX7_back_13 ?_
        refine lv_iload_n hx hb dX7_back_16 rfl (lv_at hl 1 rfl) ?_
        refine ta_zald C hP 13 rfl (i := 1) (by omega) dX7_back_17 ?_
        refine ta_ine C (a := kp 1) (tgt := 24) (by omega) dX7_back_18 (by decide) (fun c9 => ?_) (fun c9 => ?_)
        · obtain ⟨hT9, hG9, hX9⟩ := hKp 1 (by decide) (by omega)
          obtain ⟨-, -, -, -, -, c6, c7, -, -⟩ := id hG9
          refine lv_aload_n hx hb dX7_back_24 rfl (lv_at hl 0 rfl) ?_
          refine ta_get C hP 0 inlX7 rfl rfl 3 (by decide) tw_27 rfl dX7_back_25 ?_
          refine lv_aload_n hx hb dX7_back_28 rfl (lv_at hl 0 rfl) ?_
          refine ta_get C hP 0 inlX7 rfl rfl 6 (by decide) tw_33 rfl dX7_back_29 ?_
          refine lv_iload_n hx hb dX7_back_32 rfl (lv_at hl 1 rfl) ?_
          refine ta_aald C hP 12 3 rfl rfl (i := 1) (x := ke 1 0) (by omega) rfl dX7_back_33 ?_
          refine ta_callVv (As := [.ref (ke 1 0)]) (rest0 := []) (Wr := ([(o 0, .inr (7, [.ref (x 0), .ref (tq 0), .ref rd, .ref (q 0), .ref (tr 0), .ref (pz 0), .ref (o 1), .ref (o 2), .ref (sz 0)])), (o 1, .inl (k.1 3, 2, .inr (.inr (.inr (.inr (ta_pd ke)))))), (o 2, .inl (k.1 1, 2, .inl (ta_e kp)))] ++ ((dyW k (ke 0) (T2 0) (K 0) (Z2 0)) ++ [(pz 0, .inr (2, [.ref (pz 1), .int (nI kn)]))]))) C hP hD hS (c_X0_copyFrom l D k q t g X (ke 1) (T2 1) (K 1) (Z2 1) c6 c7 hX9) 1 rfl rfl rfl [1, 2, 3, 4, 5, 6, 7, 8, 9, 10, 11, 25, 26, 27, 28, 29, 30, 31, 32, 33, 34, 35] [0, 12, 13, 14, 15, 16, 17, 18, 19, 20, 21, 22, 23, 24, 36] rfl rfl (by decide) (by decide) (by decide) tw_434 tw_536 tw_26 tw_432 tw_433 ⟨by decide, by decide, rfl⟩ ⟨Nat.le_of_ble_eq_true rfl, Nat.le_of_ble_eq_true rfl⟩ ⟨Nat.zero_le _, Nat.zero_le _⟩ hl.1 rfl (Nat.le_of_ble_eq_true rfl) dX7_back_34 (fun u11 H locs h12 hP hD hS => ?_)
          obtain ⟨u_13, hu0⟩ : ∃ z, z = u11 := ⟨_, rfl⟩
          subst hu0
          have hX14 := h12
          have hP : va_P D vwCl ([(o 0, .inr (7, [.ref (x 0), .ref (tq 0), .ref rd, .ref (q 0), .ref (tr 0), .ref (pz 0), .ref (o 1), .ref (o 2), .ref (sz 0)])), (o 1, .inl (k.1 3, 2, .inr (.inr (.inr (.inr (ta_pd ke)))))), (o 2, .inl (k.1 1, 2, .inl (ta_e kp)))] ++ ((dyW k (ke 0) (T2 0) (K 0) (Z2 0)) ++ ([(pz 0, .inr (2, [.ref (pz 1), .int (nI kn)]))] ++ ((dyW k q (T2 1) (K 1) u_13) ++ (dyW k (ke 1) (T2 1) (K 1) (Z2 1)))))) H := hP
          have hD : va_D A ([(o 0, .inr (7, [.ref (x 0), .ref (tq 0), .ref rd, .ref (q 0), .ref (tr 0), .ref (pz 0), .ref (o 1), .ref (o 2), .ref (sz 0)])), (o 1, .inl (k.1 3, 2, .inr (.inr (.inr (.inr (ta_pd ke)))))), (o 2, .inl (k.1 1, 2, .inl (ta_e kp)))] ++ ((dyW k (ke 0) (T2 0) (K 0) (Z2 0)) ++ ([(pz 0, .inr (2, [.ref (pz 1), .int (nI kn)]))] ++ ((dyW k q (T2 1) (K 1) u_13) ++ (dyW k (ke 1) (T2 1) (K 1) (Z2 1)))))) := hD
          have hP : va_P D vwCl ([(o 0, .inr (7, [.ref (x 0), .ref (tq 0), .ref rd, .ref (q 0), .ref (tr 0), .ref (pz 0), .ref (o 1), .ref (o 2), .ref (sz 0)])), (o 1, .inl (k.1 3, 2, .inr (.inr (.inr (.inr (ta_pd ke)))))), (o 2, .inl (k.1 1, 2, .inl (ta_e kp)))] ++ ((dyW k (ke 0) (T2 0) (K 0) (Z2 0)) ++ ([(pz 0, .inr (2, [.ref (pz 1), .int (nI kn)]))] ++ ((dyW k q t (K 1) u_13) ++ (dyW k (ke 1) (T2 1) (K 1) (Z2 1)))))) H := by rw [show dyW k q t (K 1) u_13 = dyW k q (T2 1) (K 1) u_13 by rw [hT9]]; exact hP
          have hD : va_D A ([(o 0, .inr (7, [.ref (x 0), .ref (tq 0), .ref rd, .ref (q 0), .ref (tr 0), .ref (pz 0), .ref (o 1), .ref (o 2), .ref (sz 0)])), (o 1, .inl (k.1 3, 2, .inr (.inr (.inr (.inr (ta_pd ke)))))), (o 2, .inl (k.1 1, 2, .inl (ta_e kp)))] ++ ((dyW k (ke 0) (T2 0) (K 0) (Z2 0)) ++ ([(pz 0, .inr (2, [.ref (pz 1), .int (nI kn)]))] ++ ((dyW k q t (K 1) u_13) ++ (dyW k (ke 1) (T2 1) (K 1) (Z2 1)))))) := ta_De hD rfl
          refine lv_aload_n hx hb dX7_back_37 rfl (lv_at hl 0 rfl) ?_
          refine ta_get C hP 0 inlX7 rfl rfl 5 (by decide) tw_32 rfl dX7_back_38 ?_
          refine ta_iconst C 0 dX7_back_41 (by decide) ?_
          refine ta_putN C hP hD hS 14 inlX2 tyX2 tyX2_ok nmX2 rfl rfl 1 (by decide) 37 rfl rfl rfl rfl (Nat.le_of_ble_eq_true rfl) dX7_back_42 (fun H locs hP hD hS => ?_)
          have hP : va_P D vwCl ([(o 0, .inr (7, [.ref (x 0), .ref (tq 0), .ref rd, .ref (q 0), .ref (tr 0), .ref (pz 0), .ref (o 1), .ref (o 2), .ref (sz 0)])), (o 1, .inl (k.1 3, 2, .inr (.inr (.inr (.inr (ta_pd ke)))))), (o 2, .inl (k.1 1, 2, .inl (ta_e kp)))] ++ ((dyW k (ke 0) (T2 0) (K 0) (Z2 0)) ++ ([(pz 0, .inr (2, [.ref (pz 1), .int (nI 0)]))] ++ ((dyW k q t (K 1) u_13) ++ (dyW k (ke 1) (T2 1) (K 1) (Z2 1)))))) H := hP
          have hD : va_D A ([(o 0, .inr (7, [.ref (x 0), .ref (tq 0), .ref rd, .ref (q 0), .ref (tr 0), .ref (pz 0), .ref (o 1), .ref (o 2), .ref (sz 0)])), (o 1, .inl (k.1 3, 2, .inr (.inr (.inr (.inr (ta_pd ke)))))), (o 2, .inl (k.1 1, 2, .inl (ta_e kp)))] ++ ((dyW k (ke 0) (T2 0) (K 0) (Z2 0)) ++ ([(pz 0, .inr (2, [.ref (pz 1), .int (nI 0)]))] ++ ((dyW k q t (K 1) u_13) ++ (dyW k (ke 1) (T2 1) (K 1) (Z2 1)))))) := hD
          refine lv_aload_n hx hb dX7_back_45 rfl (lv_at hl 0 rfl) ?_
          refine ta_get C hP 0 inlX7 rfl rfl 3 (by decide) tw_27 rfl dX7_back_46 ?_
          refine ta_getN C hP 15 inlX0 rfl rfl 3 (by decide) 28 rfl rfl dX7_back_49 ?_
          have hcd : sp_back_c kp 1 := by unfold sp_back_c; omega
          simp only [cl_p hcd] at ret
          have e1 : sp_back kp K 1 = K 1 0 := by unfold sp_back; rw [if_pos (by decide), if_neg (by omega)]
          exact ret (nI ((K 1) 0)) u_13 dX7_back_52 rfl ⟨by rw [e1], hX14⟩ (hP.sub [0, 15, 16, 17, 18, 19, 20, 21, 22, 23, 24, 25, 1, 2, 3, 4, 5, 6, 7, 8, 9, 10, 11, 12, 13, 26, 27, 28, 29, 30, 31, 32, 33, 34, 35, 36, 14] rfl) (hD.sub [0, 15, 16, 17, 18, 19, 20, 21, 22, 23, 24, 25, 1, 2, 3, 4, 5, 6, 7, 8, 9, 10, 11, 12, 13, 26, 27, 28, 29, 30, 31, 32, 33, 34, 35, 36, 14] (by decide) rfl) hS
        · refine ta_bipush C 4294967292 dX7_back_21 (by decide) ?_
          have hcd : ¬ sp_back_c kp 1 := by unfold sp_back_c; omega
          simp only [cl_n hcd] at ret
          have e1 : sp_back kp K 1 = 4294967292 := by unfold sp_back; rw [if_pos (by decide), if_pos (by omega)]
          exact ret (nI 4294967292) X dX7_back_23 rfl ⟨by rw [e1], hX⟩ hP hD hS
    · refine ta_bipush C 4294967294 dX7_back_9 (by decide) ?_
      have hcd : ¬ sp_back_c kp xx := by unfold sp_back_c; omega
      simp only [cl_n hcd] at ret
      have e1 : sp_back kp K xx = 4294967294 := if_neg (by omega)
      exact ret (nI 4294967294) X dX7_back_11 rfl ⟨by rw [e1], hX⟩ hP hD hS
