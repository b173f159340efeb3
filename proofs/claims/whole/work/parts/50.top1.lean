/-! contracts by consequence -/
theorem ta_Mi_imp {S1 S2 : Type} {l : Launch} {D : va_G} {k : ta_C} {y : MethodName} {cc : ByteArray} {n : Nat} {r0 : FieldType} {fr lo : Nat} {As : List Value} {Wc : va_W} {post1 : Int32 → S1 → Prop} {post2 : Int32 → S2 → Prop} {Wq1 : S1 → va_W} {Wq2 : S2 → va_W} (f : S1 → S2) (h : ta_Mi l D k y cc n r0 fr lo As Wc post1 Wq1) (hp : ∀ r u, post1 r u → post2 r (f u)) (hw : ∀ u, Wq1 u = Wq2 (f u)) : ta_Mi l D k y cc n r0 fr lo As Wc post2 Wq2 := by
  intro sz p e h1 h2 h3 s m args below hs ha hP hK
  obtain ⟨n, o, a1, a2, a3, ⟨⟨r, u, e1, e2, e3⟩, hF⟩, L, b1, b2⟩ := h sz p e h1 h2 h3 s m args below hs ha hP hK
  exact ⟨n, o, a1, a2, a3, ⟨⟨r, f u, e1, hp r u e2, by rw [hw u] at e3; exact e3⟩, hF⟩, L, b1, b2⟩
theorem ta_Mv_imp {S1 S2 : Type} {l : Launch} {D : va_G} {k : ta_C} {y : MethodName} {cc : ByteArray} {n : Nat} {fr lo : Nat} {As : List Value} {Wc : va_W} {post1 : S1 → Prop} {post2 : S2 → Prop} {Wq1 : S1 → va_W} {Wq2 : S2 → va_W} (f : S1 → S2) (h : ta_Mv l D k y cc n fr lo As Wc post1 Wq1) (hp : ∀ u, post1 u → post2 (f u)) (hw : ∀ u, Wq1 u = Wq2 (f u)) : ta_Mv l D k y cc n fr lo As Wc post2 Wq2 := by
  intro sz p e h1 h2 h3 s m args below hs ha hP hK
  obtain ⟨n, o, a1, a2, a3, ⟨⟨u, e1, e2, e3⟩, hF⟩, L, b1, b2⟩ := h sz p e h1 h2 h3 s m args below hs ha hP hK
  exact ⟨n, o, a1, a2, a3, ⟨⟨f u, e1, hp u e2, by rw [hw u] at e3; exact e3⟩, hF⟩, L, b1, b2⟩
set_option maxHeartbeats 4000000 in
set_option maxRecDepth 100000 in
theorem c_X7_isArmy (l : Launch) (D : va_G) (k : ta_C) (a : Nat) (wa : a < 4294967296) : ta_Mi (S := Unit) l D k yX7_isArmy cX7_isArmy 1 .boolean 0 0 [.int (nI a)] [] (fun r _ => (a < 2 ∧ r = nI 1) ∨ (¬ a < 2 ∧ r = nI 0)) (fun u => []) := by
  refine ta_enter_i (by decide) (Nat.le_of_ble_eq_true rfl) ?_
  intro p e s m below meth c A ls Q C ret hP hD hS hl
  have C : ta_At p l D k s m ([.int (nI a)] : List Value).toArray c RX7 cX7_isArmy 1 A := C
  have hx := C.1.1
  have hb := C.1.2.1
  have hl : lv_has ls 1 [(0, .int (nI a))] := hl
  obtain ⟨H, hH⟩ : ∃ H, H = s.heap := ⟨_, rfl⟩
  obtain ⟨locs, hlocs⟩ : ∃ q : List Loc, q = [] := ⟨_, rfl⟩
  have hP : va_P D vwCl [] H := by rw [hH]; exact hP
  have hS : va_S A s.heap H locs := by rw [hH, hlocs]; exact hS
  rw [← hlocs]
  suffices hgoal : W p l e ({ frames := 0, cells := 0, slots := 0, locals := 0 }) s m ([.int (nI a)] : List Value).toArray below meth c H locs 0 0 Q (F0 m 0 ls []) by rw [hH] at hgoal; exact hgoal
  clear hH hlocs
  refine lv_iload_n hx hb dX7_isArmy_0 rfl (lv_at hl 0 rfl) ?_
  refine ta_wilt C (a := a) (tgt := 13) (by omega) dX7_isArmy_1 (by decide) (fun c1 => ?_) (fun c1 => ?_)
  · refine ta_iconst C 0 dX7_isArmy_13 (by decide) ?_
    exact ret _ () dX7_isArmy_14 (by decide) (Or.inr ⟨by omega, rfl⟩) hP hD hS
  · refine lv_iload_n hx hb dX7_isArmy_4 rfl (lv_at hl 0 rfl) ?_
    refine ta_iconst C 2 dX7_isArmy_5 (by decide) ?_
    refine ta_wge C (a := a) (b := 2) (tgt := 13) (by omega) (by omega) dX7_isArmy_6 (by decide) (fun c2 => ?_) (fun c2 => ?_)
    · refine ta_iconst C 0 dX7_isArmy_13 (by decide) ?_
      exact ret _ () dX7_isArmy_14 (by decide) (Or.inr ⟨by omega, rfl⟩) hP hD hS
    · refine ta_iconst C 1 dX7_isArmy_9 (by decide) ?_
      refine lv_goto (tgt := 14) hx hb dX7_isArmy_10 (by decide) ?_
      exact ret _ () dX7_isArmy_14 (by decide) (Or.inl ⟨by omega, rfl⟩) hP hD hS

set_option maxHeartbeats 4000000 in
set_option maxRecDepth 100000 in
theorem c_X7_isFigure (l : Launch) (D : va_G) (k : ta_C) (a : Nat) (b : Nat) (wa : a < 4294967296) (wb : b < 4294967296) : ta_Mi (S := Unit) l D k yX7_isFigure cX7_isFigure 2 .boolean 0 0 [.int (nI a), .int (nI b)] [] (fun r _ => ((a < 5 ∧ 1 ≤ b ∧ b ≤ 9) ∧ r = nI 1) ∨ (¬ (a < 5 ∧ 1 ≤ b ∧ b ≤ 9) ∧ r = nI 0)) (fun u => []) := by
  refine ta_enter_i (by decide) (Nat.le_of_ble_eq_true rfl) ?_
  intro p e s m below meth c A ls Q C ret hP hD hS hl
  have C : ta_At p l D k s m ([.int (nI a), .int (nI b)] : List Value).toArray c RX7 cX7_isFigure 2 A := C
  have hx := C.1.1
  have hb := C.1.2.1
  have hl : lv_has ls 2 [(0, .int (nI a)), (1, .int (nI b))] := hl
  obtain ⟨H, hH⟩ : ∃ H, H = s.heap := ⟨_, rfl⟩
  obtain ⟨locs, hlocs⟩ : ∃ q : List Loc, q = [] := ⟨_, rfl⟩
  have hP : va_P D vwCl [] H := by rw [hH]; exact hP
  have hS : va_S A s.heap H locs := by rw [hH, hlocs]; exact hS
  rw [← hlocs]
  suffices hgoal : W p l e ({ frames := 0, cells := 0, slots := 0, locals := 0 }) s m ([.int (nI a), .int (nI b)] : List Value).toArray below meth c H locs 0 0 Q (F0 m 0 ls []) by rw [hH] at hgoal; exact hgoal
  clear hH hlocs
  refine lv_iload_n hx hb dX7_isFigure_0 rfl (lv_at hl 0 rfl) ?_
  refine ta_wilt C (a := a) (tgt := 24) (by omega) dX7_isFigure_1 (by decide) (fun c1 => ?_) (fun c1 => ?_)
  · refine ta_iconst C 0 dX7_isFigure_24 (by decide) ?_
    exact ret _ () dX7_isFigure_25 (by decide) (Or.inr ⟨by omega, rfl⟩) hP hD hS
  · refine lv_iload_n hx hb dX7_isFigure_4 rfl (lv_at hl 0 rfl) ?_
    refine ta_iconst C 5 dX7_isFigure_5 (by decide) ?_
    refine ta_wge C (a := a) (b := 5) (tgt := 24) (by omega) (by omega) dX7_isFigure_6 (by decide) (fun c2 => ?_) (fun c2 => ?_)
    · refine ta_iconst C 0 dX7_isFigure_24 (by decide) ?_
      exact ret _ () dX7_isFigure_25 (by decide) (Or.inr ⟨by omega, rfl⟩) hP hD hS
    · refine lv_iload_n hx hb dX7_isFigure_9 rfl (lv_at hl 1 rfl) ?_
      refine ta_iconst C 1 dX7_isFigure_10 (by decide) ?_
      refine ta_wlt C (a := b) (b := 1) (tgt := 24) (by omega) (by omega) dX7_isFigure_11 (by decide) (fun c3 => ?_) (fun c3 => ?_)
      · refine ta_iconst C 0 dX7_isFigure_24 (by decide) ?_
        exact ret _ () dX7_isFigure_25 (by decide) (Or.inr ⟨by omega, rfl⟩) hP hD hS
      · refine lv_iload_n hx hb dX7_isFigure_14 rfl (lv_at hl 1 rfl) ?_
        refine ta_bipush C 9 dX7_isFigure_15 (by decide) ?_
        refine ta_wgt C (a := b) (b := 9) (tgt := 24) (by omega) (by omega) dX7_isFigure_17 (by decide) (fun c4 => ?_) (fun c4 => ?_)
        · refine ta_iconst C 0 dX7_isFigure_24 (by decide) ?_
          exact ret _ () dX7_isFigure_25 (by decide) (Or.inr ⟨by omega, rfl⟩) hP hD hS
        · refine ta_iconst C 1 dX7_isFigure_20 (by decide) ?_
          refine lv_goto (tgt := 25) hx hb dX7_isFigure_21 (by decide) ?_
          exact ret _ () dX7_isFigure_25 (by decide) (Or.inl ⟨by omega, rfl⟩) hP hD hS

set_option maxHeartbeats 4000000 in
set_option maxRecDepth 100000 in
theorem c_X7_codeOf (l : Launch) (D : va_G) (k : ta_C) (a : Nat) (b : Nat) : ta_Mi (S := Unit) l D k yX7_codeOf cX7_codeOf 2 .int 0 0 [.int (nI a), .int (nI b)] [] (fun r _ => r = nI (10 * a + b)) (fun u => []) := by
  refine ta_enter_i (by decide) (Nat.le_of_ble_eq_true rfl) ?_
  intro p e s m below meth c A ls Q C ret hP hD hS hl
  have C : ta_At p l D k s m ([.int (nI a), .int (nI b)] : List Value).toArray c RX7 cX7_codeOf 2 A := C
  have hx := C.1.1
  have hb := C.1.2.1
  have hl : lv_has ls 2 [(0, .int (nI a)), (1, .int (nI b))] := hl
  obtain ⟨H, hH⟩ : ∃ H, H = s.heap := ⟨_, rfl⟩
  obtain ⟨locs, hlocs⟩ : ∃ q : List Loc, q = [] := ⟨_, rfl⟩
  have hP : va_P D vwCl [] H := by rw [hH]; exact hP
  have hS : va_S A s.heap H locs := by rw [hH, hlocs]; exact hS
  rw [← hlocs]
  suffices hgoal : W p l e ({ frames := 0, cells := 0, slots := 0, locals := 0 }) s m ([.int (nI a), .int (nI b)] : List Value).toArray below meth c H locs 0 0 Q (F0 m 0 ls []) by rw [hH] at hgoal; exact hgoal
  clear hH hlocs
  refine ta_bipush C 10 dX7_codeOf_0 (by decide) ?_
  refine lv_iload_n hx hb dX7_codeOf_2 rfl (lv_at hl 0 rfl) ?_
  refine ta_imul C (a := 10) (b := a) dX7_codeOf_3 ?_
  refine lv_iload_n hx hb dX7_codeOf_4 rfl (lv_at hl 1 rfl) ?_
  refine ta_iadd C (a := 10 * a) (b := b) dX7_codeOf_5 ?_
  exact ret (nI ((10 * a) + b)) () dX7_codeOf_6 rfl rfl hP hD hS

set_option maxHeartbeats 4000000 in
set_option maxRecDepth 100000 in
theorem c_X7_isUnder (l : Launch) (D : va_G) (k : ta_C) (a : Nat) (b : Nat) (ha : 1 ≤ a ∧ a ≤ 5) (hb0 : b < 6) : ta_Mi (S := Unit) l D k yX7_isUnder cX7_isUnder 4 .boolean 0 0 [.int (nI a), .int (nI b)] [] (fun r _ => ((b = 0 ∨ b = a ∨ (b = 1 ∧ a < 4)) ∧ r = nI 1) ∨ (¬ (b = 0 ∨ b = a ∨ (b = 1 ∧ a < 4)) ∧ r = nI 0)) (fun u => []) := by
  refine ta_enter_i (by decide) (Nat.le_of_ble_eq_true rfl) ?_
  intro p e s m below meth c A ls Q C ret hP hD hS hl
  have C : ta_At p l D k s m ([.int (nI a), .int (nI b)] : List Value).toArray c RX7 cX7_isUnder 4 A := C
  have hx := C.1.1
  have hb := C.1.2.1
  have hl : lv_has ls 4 [(0, .int (nI a)), (1, .int (nI b))] := hl
  obtain ⟨H, hH⟩ : ∃ H, H = s.heap := ⟨_, rfl⟩
  obtain ⟨locs, hlocs⟩ : ∃ q : List Loc, q = [] := ⟨_, rfl⟩
  have hP : va_P D vwCl [] H := by rw [hH]; exact hP
  have hS : va_S A s.heap H locs := by rw [hH, hlocs]; exact hS
  rw [← hlocs]
  suffices hgoal : W p l e ({ frames := 0, cells := 0, slots := 0, locals := 0 }) s m ([.int (nI a), .int (nI b)] : List Value).toArray below meth c H locs 0 0 Q (F0 m 0 ls []) by rw [hH] at hgoal; exact hgoal
  clear hH hlocs
  rcases (show a = 1 ∨ a = 2 ∨ a = 3 ∨ a = 4 ∨ a = 5 by omega) with rfl | rfl | rfl | rfl | rfl
  · refine lv_iload_n hx hb dX7_isUnder_0 rfl (lv_at hl 0 rfl) ?_
    refine lv_istore_n (lv' := [(2, .int (nI 1)), (0, .int (nI 1)), (1, .int (nI b))]) hx hb dX7_isUnder_1 rfl hl (by decide) rfl (fun ls hl => ?_)
    refine ta_iconst C 0 dX7_isUnder_2 (by decide) ?_
    refine lv_istore_n (lv' := [(3, .int (nI 0)), (2, .int (nI 1)), (0, .int (nI 1)), (1, .int (nI b))]) hx hb dX7_isUnder_3 rfl hl (by decide) rfl (fun ls hl => ?_)
    refine lv_iload_n hx hb dX7_isUnder_4 rfl (lv_at hl 0 rfl) ?_
    refine va_gets hx hb C.2.1.2.2.2.2.2.2.1.1 hS C.1.2.2.2.1 (C.1.2.2.2.2 _ tw_410) (fun _ h => h) dX7_isUnder_5 ?_
    refine va_tlen hx hb C.2.1.2.2.2.2.2.2.1.2 hS (v := nI 6) rfl dX7_isUnder_8 ?_
    refine lv_icmp_ge (tgt := 43) hx hb dX7_isUnder_9 (by decide) (fun c1 => ?_) (fun c1 => ?_)
    · exact absurd c1 (by decide)
    · refine lv_iload_n hx hb dX7_isUnder_12 rfl (lv_at hl 1 rfl) ?_
      refine lv_if_lt (tgt := 43) hx hb dX7_isUnder_13 (by decide) (fun c2 => ?_) (fun c2 => ?_)
      · exact absurd c2 (by decide)
      · refine lv_iload_n hx hb dX7_isUnder_16 rfl (lv_at hl 1 rfl) ?_
        refine va_gets hx hb C.2.1.2.2.2.2.2.2.1.1 hS C.1.2.2.2.1 (C.1.2.2.2.2 _ tw_410) (fun _ h => h) dX7_isUnder_17 ?_
        refine va_tlen hx hb C.2.1.2.2.2.2.2.2.1.2 hS (v := nI 6) rfl dX7_isUnder_20 ?_
        refine lv_icmp_ge (tgt := 43) hx hb dX7_isUnder_21 (by decide) (fun c3 => ?_) (fun c3 => ?_)
        · exact absurd c3 (by decide)
        · refine lv_iload_n hx hb dX7_isUnder_24 rfl (lv_at hl 1 rfl) ?_
          refine lv_iload_n hx hb dX7_isUnder_25 rfl (lv_at hl 3 rfl) ?_
          refine ta_cne C (a := 1) (b := b) (tgt := 31) (by omega) (by omega) dX7_isUnder_26 (by decide) (fun c4 => ?_) (fun c4 => ?_)
          · refine va_gets hx hb C.2.1.2.2.2.2.2.2.1.1 hS C.1.2.2.2.1 (C.1.2.2.2.2 _ tw_410) (fun _ h => h) dX7_isUnder_31 ?_
            refine lv_iload_n hx hb dX7_isUnder_34 rfl (lv_at hl 1 rfl) ?_
            refine ta_sti C C.2.1.2.2.2.2.2.2.1.2 hS (i := 1) (by omega) dX7_isUnder_35 ?_
            refine ta_nv (y := 0) (by decide) ?_
            refine lv_istore_n (lv' := [(2, .int (nI 0)), (3, .int (nI 0)), (0, .int (nI 1)), (1, .int (nI b))]) hx hb dX7_isUnder_36 rfl hl (by decide) rfl (fun ls hl => ?_)
            refine lv_iinc (v := nI 1) (lv' := [(3, .int (nI 1)), (2, .int (nI 0)), (0, .int (nI 1)), (1, .int (nI b))]) hx hb dX7_isUnder_37 hl (k := 1) rfl (by decide) (by decide) rfl (fun ls hl => ?_)
            refine lv_goto (tgt := 4) hx hb dX7_isUnder_40 (by decide) ?_
            refine lv_iload_n hx hb dX7_isUnder_4 rfl (lv_at hl 0 rfl) ?_
            refine va_gets hx hb C.2.1.2.2.2.2.2.2.1.1 hS C.1.2.2.2.1 (C.1.2.2.2.2 _ tw_410) (fun _ h => h) dX7_isUnder_5 ?_
            refine va_tlen hx hb C.2.1.2.2.2.2.2.2.1.2 hS (v := nI 6) rfl dX7_isUnder_8 ?_
            refine lv_icmp_ge (tgt := 43) hx hb dX7_isUnder_9 (by decide) (fun c5 => ?_) (fun c5 => ?_)
            · exact absurd c5 (by decide)
            · refine lv_iload_n hx hb dX7_isUnder_12 rfl (lv_at hl 1 rfl) ?_
              refine lv_if_lt (tgt := 43) hx hb dX7_isUnder_13 (by decide) (fun c6 => ?_) (fun c6 => ?_)
              · exact absurd c6 (by decide)
              · refine lv_iload_n hx hb dX7_isUnder_16 rfl (lv_at hl 1 rfl) ?_
                refine va_gets hx hb C.2.1.2.2.2.2.2.2.1.1 hS C.1.2.2.2.1 (C.1.2.2.2.2 _ tw_410) (fun _ h => h) dX7_isUnder_17 ?_
                refine va_tlen hx hb C.2.1.2.2.2.2.2.2.1.2 hS (v := nI 6) rfl dX7_isUnder_20 ?_
                refine lv_icmp_ge (tgt := 43) hx hb dX7_isUnder_21 (by decide) (fun c7 => ?_) (fun c7 => ?_)
                · exact absurd c7 (by decide)
                · refine lv_iload_n hx hb dX7_isUnder_24 rfl (lv_at hl 1 rfl) ?_
                  refine lv_iload_n hx hb dX7_isUnder_25 rfl (lv_at hl 3 rfl) ?_
                  refine ta_cne C (a := 0) (b := b) (tgt := 31) (by omega) (by omega) dX7_isUnder_26 (by decide) (fun c8 => ?_) (fun c8 => ?_)
                  · refine va_gets hx hb C.2.1.2.2.2.2.2.2.1.1 hS C.1.2.2.2.1 (C.1.2.2.2.2 _ tw_410) (fun _ h => h) dX7_isUnder_31 ?_
                    refine lv_iload_n hx hb dX7_isUnder_34 rfl (lv_at hl 1 rfl) ?_
                    refine ta_sti C C.2.1.2.2.2.2.2.2.1.2 hS (i := 0) (by omega) dX7_isUnder_35 ?_
                    refine ta_nv (y := 4294967295) (by decide) ?_
                    refine lv_istore_n (lv' := [(2, .int (nI 4294967295)), (3, .int (nI 1)), (0, .int (nI 1)), (1, .int (nI b))]) hx hb dX7_isUnder_36 rfl hl (by decide) rfl (fun ls hl => ?_)
                    refine lv_iinc (v := nI 2) (lv' := [(3, .int (nI 2)), (2, .int (nI 4294967295)), (0, .int (nI 1)), (1, .int (nI b))]) hx hb dX7_isUnder_37 hl (k := 1) rfl (by decide) (by decide) rfl (fun ls hl => ?_)
                    refine lv_goto (tgt := 4) hx hb dX7_isUnder_40 (by decide) ?_
                    refine lv_iload_n hx hb dX7_isUnder_4 rfl (lv_at hl 0 rfl) ?_
                    refine va_gets hx hb C.2.1.2.2.2.2.2.2.1.1 hS C.1.2.2.2.1 (C.1.2.2.2.2 _ tw_410) (fun _ h => h) dX7_isUnder_5 ?_
                    refine va_tlen hx hb C.2.1.2.2.2.2.2.2.1.2 hS (v := nI 6) rfl dX7_isUnder_8 ?_
                    refine lv_icmp_ge (tgt := 43) hx hb dX7_isUnder_9 (by decide) (fun c9 => ?_) (fun c9 => ?_)
                    · exact absurd c9 (by decide)
                    · refine lv_iload_n hx hb dX7_isUnder_12 rfl (lv_at hl 1 rfl) ?_
                      refine lv_if_lt (tgt := 43) hx hb dX7_isUnder_13 (by decide) (fun c10 => ?_) (fun c10 => ?_)
                      · refine ta_iconst C 0 dX7_isUnder_43 (by decide) ?_
                        exact ret _ () dX7_isUnder_44 (by decide) (Or.inr ⟨by omega, rfl⟩) hP hD hS
                      · exact absurd c10 (by decide)
                  · refine ta_iconst C 1 dX7_isUnder_29 (by decide) ?_
                    exact ret _ () dX7_isUnder_30 (by decide) (Or.inl ⟨by omega, rfl⟩) hP hD hS
          · refine ta_iconst C 1 dX7_isUnder_29 (by decide) ?_
            exact ret _ () dX7_isUnder_30 (by decide) (Or.inl ⟨by omega, rfl⟩) hP hD hS
  · refine lv_iload_n hx hb dX7_isUnder_0 rfl (lv_at hl 0 rfl) ?_
    refine lv_istore_n (lv' := [(2, .int (nI 2)), (0, .int (nI 2)), (1, .int (nI b))]) hx hb dX7_isUnder_1 rfl hl (by decide) rfl (fun ls hl => ?_)
    refine ta_iconst C 0 dX7_isUnder_2 (by decide) ?_
    refine lv_istore_n (lv' := [(3, .int (nI 0)), (2, .int (nI 2)), (0, .int (nI 2)), (1, .int (nI b))]) hx hb dX7_isUnder_3 rfl hl (by decide) rfl (fun ls hl => ?_)
    refine lv_iload_n hx hb dX7_isUnder_4 rfl (lv_at hl 0 rfl) ?_
    refine va_gets hx hb C.2.1.2.2.2.2.2.2.1.1 hS C.1.2.2.2.1 (C.1.2.2.2.2 _ tw_410) (fun _ h => h) dX7_isUnder_5 ?_
    refine va_tlen hx hb C.2.1.2.2.2.2.2.2.1.2 hS (v := nI 6) rfl dX7_isUnder_8 ?_
    refine lv_icmp_ge (tgt := 43) hx hb dX7_isUnder_9 (by decide) (fun c11 => ?_) (fun c11 => ?_)
    · exact absurd c11 (by decide)
    · refine lv_iload_n hx hb dX7_isUnder_12 rfl (lv_at hl 1 rfl) ?_
      refine lv_if_lt (tgt := 43) hx hb dX7_isUnder_13 (by decide) (fun c12 => ?_) (fun c12 => ?_)
      · exact absurd c12 (by decide)
      · refine lv_iload_n hx hb dX7_isUnder_16 rfl (lv_at hl 1 rfl) ?_
        refine va_gets hx hb C.2.1.2.2.2.2.2.2.1.1 hS C.1.2.2.2.1 (C.1.2.2.2.2 _ tw_410) (fun _ h => h) dX7_isUnder_17 ?_
        refine va_tlen hx hb C.2.1.2.2.2.2.2.2.1.2 hS (v := nI 6) rfl dX7_isUnder_20 ?_
        refine lv_icmp_ge (tgt := 43) hx hb dX7_isUnder_21 (by decide) (fun c13 => ?_) (fun c13 => ?_)
        · exact absurd c13 (by decide)
        · refine lv_iload_n hx hb dX7_isUnder_24 rfl (lv_at hl 1 rfl) ?_
          refine lv_iload_n hx hb dX7_isUnder_25 rfl (lv_at hl 3 rfl) ?_
          refine ta_cne C (a := 2) (b := b) (tgt := 31) (by omega) (by omega) dX7_isUnder_26 (by decide) (fun c14 => ?_) (fun c14 => ?_)
          · refine va_gets hx hb C.2.1.2.2.2.2.2.2.1.1 hS C.1.2.2.2.1 (C.1.2.2.2.2 _ tw_410) (fun _ h => h) dX7_isUnder_31 ?_
            refine lv_iload_n hx hb dX7_isUnder_34 rfl (lv_at hl 1 rfl) ?_
            refine ta_sti C C.2.1.2.2.2.2.2.2.1.2 hS (i := 2) (by omega) dX7_isUnder_35 ?_
            refine ta_nv (y := 1) (by decide) ?_
            refine lv_istore_n (lv' := [(2, .int (nI 1)), (3, .int (nI 0)), (0, .int (nI 2)), (1, .int (nI b))]) hx hb dX7_isUnder_36 rfl hl (by decide) rfl (fun ls hl => ?_)
            refine lv_iinc (v := nI 1) (lv' := [(3, .int (nI 1)), (2, .int (nI 1)), (0, .int (nI 2)), (1, .int (nI b))]) hx hb dX7_isUnder_37 hl (k := 1) rfl (by decide) (by decide) rfl (fun ls hl => ?_)
            refine lv_goto (tgt := 4) hx hb dX7_isUnder_40 (by decide) ?_
            refine lv_iload_n hx hb dX7_isUnder_4 rfl (lv_at hl 0 rfl) ?_
            refine va_gets hx hb C.2.1.2.2.2.2.2.2.1.1 hS C.1.2.2.2.1 (C.1.2.2.2.2 _ tw_410) (fun _ h => h) dX7_isUnder_5 ?_
            refine va_tlen hx hb C.2.1.2.2.2.2.2.2.1.2 hS (v := nI 6) rfl dX7_isUnder_8 ?_
            refine lv_icmp_ge (tgt := 43) hx hb dX7_isUnder_9 (by decide) (fun c15 => ?_) (fun c15 => ?_)
            · exact absurd c15 (by decide)
            · refine lv_iload_n hx hb dX7_isUnder_12 rfl (lv_at hl 1 rfl) ?_
              refine lv_if_lt (tgt := 43) hx hb dX7_isUnder_13 (by decide) (fun c16 => ?_) (fun c16 => ?_)
              · exact absurd c16 (by decide)
              · refine lv_iload_n hx hb dX7_isUnder_16 rfl (lv_at hl 1 rfl) ?_
                refine va_gets hx hb C.2.1.2.2.2.2.2.2.1.1 hS C.1.2.2.2.1 (C.1.2.2.2.2 _ tw_410) (fun _ h => h) dX7_isUnder_17 ?_
                refine va_tlen hx hb C.2.1.2.2.2.2.2.2.1.2 hS (v := nI 6) rfl dX7_isUnder_20 ?_
                refine lv_icmp_ge (tgt := 43) hx hb dX7_isUnder_21 (by decide) (fun c17 => ?_) (fun c17 => ?_)
                · exact absurd c17 (by decide)
                · refine lv_iload_n hx hb dX7_isUnder_24 rfl (lv_at hl 1 rfl) ?_
                  refine lv_iload_n hx hb dX7_isUnder_25 rfl (lv_at hl 3 rfl) ?_
                  refine ta_cne C (a := 1) (b := b) (tgt := 31) (by omega) (by omega) dX7_isUnder_26 (by decide) (fun c18 => ?_) (fun c18 => ?_)
                  · refine va_gets hx hb C.2.1.2.2.2.2.2.2.1.1 hS C.1.2.2.2.1 (C.1.2.2.2.2 _ tw_410) (fun _ h => h) dX7_isUnder_31 ?_
                    refine lv_iload_n hx hb dX7_isUnder_34 rfl (lv_at hl 1 rfl) ?_
                    refine ta_sti C C.2.1.2.2.2.2.2.2.1.2 hS (i := 1) (by omega) dX7_isUnder_35 ?_
                    refine ta_nv (y := 0) (by decide) ?_
                    refine lv_istore_n (lv' := [(2, .int (nI 0)), (3, .int (nI 1)), (0, .int (nI 2)), (1, .int (nI b))]) hx hb dX7_isUnder_36 rfl hl (by decide) rfl (fun ls hl => ?_)
                    refine lv_iinc (v := nI 2) (lv' := [(3, .int (nI 2)), (2, .int (nI 0)), (0, .int (nI 2)), (1, .int (nI b))]) hx hb dX7_isUnder_37 hl (k := 1) rfl (by decide) (by decide) rfl (fun ls hl => ?_)
                    refine lv_goto (tgt := 4) hx hb dX7_isUnder_40 (by decide) ?_
                    refine lv_iload_n hx hb dX7_isUnder_4 rfl (lv_at hl 0 rfl) ?_
                    refine va_gets hx hb C.2.1.2.2.2.2.2.2.1.1 hS C.1.2.2.2.1 (C.1.2.2.2.2 _ tw_410) (fun _ h => h) dX7_isUnder_5 ?_
                    refine va_tlen hx hb C.2.1.2.2.2.2.2.2.1.2 hS (v := nI 6) rfl dX7_isUnder_8 ?_
                    refine lv_icmp_ge (tgt := 43) hx hb dX7_isUnder_9 (by decide) (fun c19 => ?_) (fun c19 => ?_)
                    · exact absurd c19 (by decide)
                    · refine lv_iload_n hx hb dX7_isUnder_12 rfl (lv_at hl 1 rfl) ?_
                      refine lv_if_lt (tgt := 43) hx hb dX7_isUnder_13 (by decide) (fun c20 => ?_) (fun c20 => ?_)
                      · exact absurd c20 (by decide)
                      · refine lv_iload_n hx hb dX7_isUnder_16 rfl (lv_at hl 1 rfl) ?_
                        refine va_gets hx hb C.2.1.2.2.2.2.2.2.1.1 hS C.1.2.2.2.1 (C.1.2.2.2.2 _ tw_410) (fun _ h => h) dX7_isUnder_17 ?_
                        refine va_tlen hx hb C.2.1.2.2.2.2.2.2.1.2 hS (v := nI 6) rfl dX7_isUnder_20 ?_
                        refine lv_icmp_ge (tgt := 43) hx hb dX7_isUnder_21 (by decide) (fun c21 => ?_) (fun c21 => ?_)
                        · exact absurd c21 (by decide)
                        · refine lv_iload_n hx hb dX7_isUnder_24 rfl (lv_at hl 1 rfl) ?_
                          refine lv_iload_n hx hb dX7_isUnder_25 rfl (lv_at hl 3 rfl) ?_
                          refine ta_cne C (a := 0) (b := b) (tgt := 31) (by omega) (by omega) dX7_isUnder_26 (by decide) (fun c22 => ?_) (fun c22 => ?_)
                          · refine va_gets hx hb C.2.1.2.2.2.2.2.2.1.1 hS C.1.2.2.2.1 (C.1.2.2.2.2 _ tw_410) (fun _ h => h) dX7_isUnder_31 ?_
                            refine lv_iload_n hx hb dX7_isUnder_34 rfl (lv_at hl 1 rfl) ?_
                            refine ta_sti C C.2.1.2.2.2.2.2.2.1.2 hS (i := 0) (by omega) dX7_isUnder_35 ?_
                            refine ta_nv (y := 4294967295) (by decide) ?_
                            refine lv_istore_n (lv' := [(2, .int (nI 4294967295)), (3, .int (nI 2)), (0, .int (nI 2)), (1, .int (nI b))]) hx hb dX7_isUnder_36 rfl hl (by decide) rfl (fun ls hl => ?_)
                            refine lv_iinc (v := nI 3) (lv' := [(3, .int (nI 3)), (2, .int (nI 4294967295)), (0, .int (nI 2)), (1, .int (nI b))]) hx hb dX7_isUnder_37 hl (k := 1) rfl (by decide) (by decide) rfl (fun ls hl => ?_)
                            refine lv_goto (tgt := 4) hx hb dX7_isUnder_40 (by decide) ?_
                            refine lv_iload_n hx hb dX7_isUnder_4 rfl (lv_at hl 0 rfl) ?_
                            refine va_gets hx hb C.2.1.2.2.2.2.2.2.1.1 hS C.1.2.2.2.1 (C.1.2.2.2.2 _ tw_410) (fun _ h => h) dX7_isUnder_5 ?_
                            refine va_tlen hx hb C.2.1.2.2.2.2.2.2.1.2 hS (v := nI 6) rfl dX7_isUnder_8 ?_
                            refine lv_icmp_ge (tgt := 43) hx hb dX7_isUnder_9 (by decide) (fun c23 => ?_) (fun c23 => ?_)
                            · exact absurd c23 (by decide)
                            · refine lv_iload_n hx hb dX7_isUnder_12 rfl (lv_at hl 1 rfl) ?_
                              refine lv_if_lt (tgt := 43) hx hb dX7_isUnder_13 (by decide) (fun c24 => ?_) (fun c24 => ?_)
                              · refine ta_iconst C 0 dX7_isUnder_43 (by decide) ?_
                                exact ret _ () dX7_isUnder_44 (by decide) (Or.inr ⟨by omega, rfl⟩) hP hD hS
                              · exact absurd c24 (by decide)
                          · refine ta_iconst C 1 dX7_isUnder_29 (by decide) ?_
                            exact ret _ () dX7_isUnder_30 (by decide) (Or.inl ⟨by omega, rfl⟩) hP hD hS
                  · refine ta_iconst C 1 dX7_isUnder_29 (by decide) ?_
                    exact ret _ () dX7_isUnder_30 (by decide) (Or.inl ⟨by omega, rfl⟩) hP hD hS
          · refine ta_iconst C 1 dX7_isUnder_29 (by decide) ?_
            exact ret _ () dX7_isUnder_30 (by decide) (Or.inl ⟨by omega, rfl⟩) hP hD hS
  · refine lv_iload_n hx hb dX7_isUnder_0 rfl (lv_at hl 0 rfl) ?_
    refine lv_istore_n (lv' := [(2, .int (nI 3)), (0, .int (nI 3)), (1, .int (nI b))]) hx hb dX7_isUnder_1 rfl hl (by decide) rfl (fun ls hl => ?_)
    refine ta_iconst C 0 dX7_isUnder_2 (by decide) ?_
    refine lv_istore_n (lv' := [(3, .int (nI 0)), (2, .int (nI 3)), (0, .int (nI 3)), (1, .int (nI b))]) hx hb dX7_isUnder_3 rfl hl (by decide) rfl (fun ls hl => ?_)
    refine lv_iload_n hx hb dX7_isUnder_4 rfl (lv_at hl 0 rfl) ?_
    refine va_gets hx hb C.2.1.2.2.2.2.2.2.1.1 hS C.1.2.2.2.1 (C.1.2.2.2.2 _ tw_410) (fun _ h => h) dX7_isUnder_5 ?_
    refine va_tlen hx hb C.2.1.2.2.2.2.2.2.1.2 hS (v := nI 6) rfl dX7_isUnder_8 ?_
    refine lv_icmp_ge (tgt := 43) hx hb dX7_isUnder_9 (by decide) (fun c25 => ?_) (fun c25 => ?_)
    · exact absurd c25 (by decide)
    · refine lv_iload_n hx hb dX7_isUnder_12 rfl (lv_at hl 1 rfl) ?_
      refine lv_if_lt (tgt := 43) hx hb dX7_isUnder_13 (by decide) (fun c26 => ?_) (fun c26 => ?_)
      · exact absurd c26 (by decide)
      · refine lv_iload_n hx hb dX7_isUnder_16 rfl (lv_at hl 1 rfl) ?_
        refine va_gets hx hb C.2.1.2.2.2.2.2.2.1.1 hS C.1.2.2.2.1 (C.1.2.2.2.2 _ tw_410) (fun _ h => h) dX7_isUnder_17 ?_
        refine va_tlen hx hb C.2.1.2.2.2.2.2.2.1.2 hS (v := nI 6) rfl dX7_isUnder_20 ?_
        refine lv_icmp_ge (tgt := 43) hx hb dX7_isUnder_21 (by decide) (fun c27 => ?_) (fun c27 => ?_)
        · exact absurd c27 (by decide)
        · refine lv_iload_n hx hb dX7_isUnder_24 rfl (lv_at hl 1 rfl) ?_
          refine lv_iload_n hx hb dX7_isUnder_25 rfl (lv_at hl 3 rfl) ?_
          refine ta_cne C (a := 3) (b := b) (tgt := 31) (by omega) (by omega) dX7_isUnder_26 (by decide) (fun c28 => ?_) (fun c28 => ?_)
          · refine va_gets hx hb C.2.1.2.2.2.2.2.2.1.1 hS C.1.2.2.2.1 (C.1.2.2.2.2 _ tw_410) (fun _ h => h) dX7_isUnder_31 ?_
            refine lv_iload_n hx hb dX7_isUnder_34 rfl (lv_at hl 1 rfl) ?_
            refine ta_sti C C.2.1.2.2.2.2.2.2.1.2 hS (i := 3) (by omega) dX7_isUnder_35 ?_
            refine ta_nv (y := 1) (by decide) ?_
            refine lv_istore_n (lv' := [(2, .int (nI 1)), (3, .int (nI 0)), (0, .int (nI 3)), (1, .int (nI b))]) hx hb dX7_isUnder_36 rfl hl (by decide) rfl (fun ls hl => ?_)
            refine lv_iinc (v := nI 1) (lv' := [(3, .int (nI 1)), (2, .int (nI 1)), (0, .int (nI 3)), (1, .int (nI b))]) hx hb dX7_isUnder_37 hl (k := 1) rfl (by decide) (by decide) rfl (fun ls hl => ?_)
            refine lv_goto (tgt := 4) hx hb dX7_isUnder_40 (by decide) ?_
            refine lv_iload_n hx hb dX7_isUnder_4 rfl (lv_at hl 0 rfl) ?_
            refine va_gets hx hb C.2.1.2.2.2.2.2.2.1.1 hS C.1.2.2.2.1 (C.1.2.2.2.2 _ tw_410) (fun _ h => h) dX7_isUnder_5 ?_
            refine va_tlen hx hb C.2.1.2.2.2.2.2.2.1.2 hS (v := nI 6) rfl dX7_isUnder_8 ?_
            refine lv_icmp_ge (tgt := 43) hx hb dX7_isUnder_9 (by decide) (fun c29 => ?_) (fun c29 => ?_)
            · exact absurd c29 (by decide)
            · refine lv_iload_n hx hb dX7_isUnder_12 rfl (lv_at hl 1 rfl) ?_
              refine lv_if_lt (tgt := 43) hx hb dX7_isUnder_13 (by decide) (fun c30 => ?_) (fun c30 => ?_)
              · exact absurd c30 (by decide)
              · refine lv_iload_n hx hb dX7_isUnder_16 rfl (lv_at hl 1 rfl) ?_
                refine va_gets hx hb C.2.1.2.2.2.2.2.2.1.1 hS C.1.2.2.2.1 (C.1.2.2.2.2 _ tw_410) (fun _ h => h) dX7_isUnder_17 ?_
                refine va_tlen hx hb C.2.1.2.2.2.2.2.2.1.2 hS (v := nI 6) rfl dX7_isUnder_20 ?_
                refine lv_icmp_ge (tgt := 43) hx hb dX7_isUnder_21 (by decide) (fun c31 => ?_) (fun c31 => ?_)
                · exact absurd c31 (by decide)
                · refine lv_iload_n hx hb dX7_isUnder_24 rfl (lv_at hl 1 rfl) ?_
                  refine lv_iload_n hx hb dX7_isUnder_25 rfl (lv_at hl 3 rfl) ?_
                  refine ta_cne C (a := 1) (b := b) (tgt := 31) (by omega) (by omega) dX7_isUnder_26 (by decide) (fun c32 => ?_) (fun c32 => ?_)
                  · refine va_gets hx hb C.2.1.2.2.2.2.2.2.1.1 hS C.1.2.2.2.1 (C.1.2.2.2.2 _ tw_410) (fun _ h => h) dX7_isUnder_31 ?_
                    refine lv_iload_n hx hb dX7_isUnder_34 rfl (lv_at hl 1 rfl) ?_
                    refine ta_sti C C.2.1.2.2.2.2.2.2.1.2 hS (i := 1) (by omega) dX7_isUnder_35 ?_
                    refine ta_nv (y := 0) (by decide) ?_
                    refine lv_istore_n (lv' := [(2, .int (nI 0)), (3, .int (nI 1)), (0, .int (nI 3)), (1, .int (nI b))]) hx hb dX7_isUnder_36 rfl hl (by decide) rfl (fun ls hl => ?_)
                    refine lv_iinc (v := nI 2) (lv' := [(3, .int (nI 2)), (2, .int (nI 0)), (0, .int (nI 3)), (1, .int (nI b))]) hx hb dX7_isUnder_37 hl (k := 1) rfl (by decide) (by decide) rfl (fun ls hl => ?_)
                    refine lv_goto (tgt := 4) hx hb dX7_isUnder_40 (by decide) ?_
                    refine lv_iload_n hx hb dX7_isUnder_4 rfl (lv_at hl 0 rfl) ?_
                    refine va_gets hx hb C.2.1.2.2.2.2.2.2.1.1 hS C.1.2.2.2.1 (C.1.2.2.2.2 _ tw_410) (fun _ h => h) dX7_isUnder_5 ?_
                    refine va_tlen hx hb C.2.1.2.2.2.2.2.2.1.2 hS (v := nI 6) rfl dX7_isUnder_8 ?_
                    refine lv_icmp_ge (tgt := 43) hx hb dX7_isUnder_9 (by decide) (fun c33 => ?_) (fun c33 => ?_)
                    · exact absurd c33 (by decide)
                    · refine lv_iload_n hx hb dX7_isUnder_12 rfl (lv_at hl 1 rfl) ?_
                      refine lv_if_lt (tgt := 43) hx hb dX7_isUnder_13 (by decide) (fun c34 => ?_) (fun c34 => ?_)
                      · exact absurd c34 (by decide)
                      · refine lv_iload_n hx hb dX7_isUnder_16 rfl (lv_at hl 1 rfl) ?_
                        refine va_gets hx hb C.2.1.2.2.2.2.2.2.1.1 hS C.1.2.2.2.1 (C.1.2.2.2.2 _ tw_410) (fun _ h => h) dX7_isUnder_17 ?_
                        refine va_tlen hx hb C.2.1.2.2.2.2.2.2.1.2 hS (v := nI 6) rfl dX7_isUnder_20 ?_
                        refine lv_icmp_ge (tgt := 43) hx hb dX7_isUnder_21 (by decide) (fun c35 => ?_) (fun c35 => ?_)
                        · exact absurd c35 (by decide)
                        · refine lv_iload_n hx hb dX7_isUnder_24 rfl (lv_at hl 1 rfl) ?_
                          refine lv_iload_n hx hb dX7_isUnder_25 rfl (lv_at hl 3 rfl) ?_
                          refine ta_cne C (a := 0) (b := b) (tgt := 31) (by omega) (by omega) dX7_isUnder_26 (by decide) (fun c36 => ?_) (fun c36 => ?_)
                          · refine va_gets hx hb C.2.1.2.2.2.2.2.2.1.1 hS C.1.2.2.2.1 (C.1.2.2.2.2 _ tw_410) (fun _ h => h) dX7_isUnder_31 ?_
                            refine lv_iload_n hx hb dX7_isUnder_34 rfl (lv_at hl 1 rfl) ?_
                            refine ta_sti C C.2.1.2.2.2.2.2.2.1.2 hS (i := 0) (by omega) dX7_isUnder_35 ?_
                            refine ta_nv (y := 4294967295) (by decide) ?_
                            refine lv_istore_n (lv' := [(2, .int (nI 4294967295)), (3, .int (nI 2)), (0, .int (nI 3)), (1, .int (nI b))]) hx hb dX7_isUnder_36 rfl hl (by decide) rfl (fun ls hl => ?_)
                            refine lv_iinc (v := nI 3) (lv' := [(3, .int (nI 3)), (2, .int (nI 4294967295)), (0, .int (nI 3)), (1, .int (nI b))]) hx hb dX7_isUnder_37 hl (k := 1) rfl (by decide) (by decide) rfl (fun ls hl => ?_)
                            refine lv_goto (tgt := 4) hx hb dX7_isUnder_40 (by decide) ?_
                            refine lv_iload_n hx hb dX7_isUnder_4 rfl (lv_at hl 0 rfl) ?_
                            refine va_gets hx hb C.2.1.2.2.2.2.2.2.1.1 hS C.1.2.2.2.1 (C.1.2.2.2.2 _ tw_410) (fun _ h => h) dX7_isUnder_5 ?_
                            refine va_tlen hx hb C.2.1.2.2.2.2.2.2.1.2 hS (v := nI 6) rfl dX7_isUnder_8 ?_
                            refine lv_icmp_ge (tgt := 43) hx hb dX7_isUnder_9 (by decide) (fun c37 => ?_) (fun c37 => ?_)
                            · exact absurd c37 (by decide)
                            · refine lv_iload_n hx hb dX7_isUnder_12 rfl (lv_at hl 1 rfl) ?_
                              refine lv_if_lt (tgt := 43) hx hb dX7_isUnder_13 (by decide) (fun c38 => ?_) (fun c38 => ?_)
                              · refine ta_iconst C 0 dX7_isUnder_43 (by decide) ?_
                                exact ret _ () dX7_isUnder_44 (by decide) (Or.inr ⟨by omega, rfl⟩) hP hD hS
                              · exact absurd c38 (by decide)
                          · refine ta_iconst C 1 dX7_isUnder_29 (by decide) ?_
                            exact ret _ () dX7_isUnder_30 (by decide) (Or.inl ⟨by omega, rfl⟩) hP hD hS
                  · refine ta_iconst C 1 dX7_isUnder_29 (by decide) ?_
                    exact ret _ () dX7_isUnder_30 (by decide) (Or.inl ⟨by omega, rfl⟩) hP hD hS
          · refine ta_iconst C 1 dX7_isUnder_29 (by decide) ?_
            exact ret _ () dX7_isUnder_30 (by decide) (Or.inl ⟨by omega, rfl⟩) hP hD hS
  · refine lv_iload_n hx hb dX7_isUnder_0 rfl (lv_at hl 0 rfl) ?_
    refine lv_istore_n (lv' := [(2, .int (nI 4)), (0, .int (nI 4)), (1, .int (nI b))]) hx hb dX7_isUnder_1 rfl hl (by decide) rfl (fun ls hl => ?_)
    refine ta_iconst C 0 dX7_isUnder_2 (by decide) ?_
    refine lv_istore_n (lv' := [(3, .int (nI 0)), (2, .int (nI 4)), (0, .int (nI 4)), (1, .int (nI b))]) hx hb dX7_isUnder_3 rfl hl (by decide) rfl (fun ls hl => ?_)
    refine lv_iload_n hx hb dX7_isUnder_4 rfl (lv_at hl 0 rfl) ?_
    refine va_gets hx hb C.2.1.2.2.2.2.2.2.1.1 hS C.1.2.2.2.1 (C.1.2.2.2.2 _ tw_410) (fun _ h => h) dX7_isUnder_5 ?_
    refine va_tlen hx hb C.2.1.2.2.2.2.2.2.1.2 hS (v := nI 6) rfl dX7_isUnder_8 ?_
    refine lv_icmp_ge (tgt := 43) hx hb dX7_isUnder_9 (by decide) (fun c39 => ?_) (fun c39 => ?_)
    · exact absurd c39 (by decide)
    · refine lv_iload_n hx hb dX7_isUnder_12 rfl (lv_at hl 1 rfl) ?_
      refine lv_if_lt (tgt := 43) hx hb dX7_isUnder_13 (by decide) (fun c40 => ?_) (fun c40 => ?_)
      · exact absurd c40 (by decide)
      · refine lv_iload_n hx hb dX7_isUnder_16 rfl (lv_at hl 1 rfl) ?_
        refine va_gets hx hb C.2.1.2.2.2.2.2.2.1.1 hS C.1.2.2.2.1 (C.1.2.2.2.2 _ tw_410) (fun _ h => h) dX7_isUnder_17 ?_
        refine va_tlen hx hb C.2.1.2.2.2.2.2.2.1.2 hS (v := nI 6) rfl dX7_isUnder_20 ?_
        refine lv_icmp_ge (tgt := 43) hx hb dX7_isUnder_21 (by decide) (fun c41 => ?_) (fun c41 => ?_)
        · exact absurd c41 (by decide)
        · refine lv_iload_n hx hb dX7_isUnder_24 rfl (lv_at hl 1 rfl) ?_
          refine lv_iload_n hx hb dX7_isUnder_25 rfl (lv_at hl 3 rfl) ?_
          refine ta_cne C (a := 4) (b := b) (tgt := 31) (by omega) (by omega) dX7_isUnder_26 (by decide) (fun c42 => ?_) (fun c42 => ?_)
          · refine va_gets hx hb C.2.1.2.2.2.2.2.2.1.1 hS C.1.2.2.2.1 (C.1.2.2.2.2 _ tw_410) (fun _ h => h) dX7_isUnder_31 ?_
            refine lv_iload_n hx hb dX7_isUnder_34 rfl (lv_at hl 1 rfl) ?_
            refine ta_sti C C.2.1.2.2.2.2.2.2.1.2 hS (i := 4) (by omega) dX7_isUnder_35 ?_
            refine ta_nv (y := 0) (by decide) ?_
            refine lv_istore_n (lv' := [(2, .int (nI 0)), (3, .int (nI 0)), (0, .int (nI 4)), (1, .int (nI b))]) hx hb dX7_isUnder_36 rfl hl (by decide) rfl (fun ls hl => ?_)
            refine lv_iinc (v := nI 1) (lv' := [(3, .int (nI 1)), (2, .int (nI 0)), (0, .int (nI 4)), (1, .int (nI b))]) hx hb dX7_isUnder_37 hl (k := 1) rfl (by decide) (by decide) rfl (fun ls hl => ?_)
            refine lv_goto (tgt := 4) hx hb dX7_isUnder_40 (by decide) ?_
            refine lv_iload_n hx hb dX7_isUnder_4 rfl (lv_at hl 0 rfl) ?_
            refine va_gets hx hb C.2.1.2.2.2.2.2.2.1.1 hS C.1.2.2.2.1 (C.1.2.2.2.2 _ tw_410) (fun _ h => h) dX7_isUnder_5 ?_
            refine va_tlen hx hb C.2.1.2.2.2.2.2.2.1.2 hS (v := nI 6) rfl dX7_isUnder_8 ?_
            refine lv_icmp_ge (tgt := 43) hx hb dX7_isUnder_9 (by decide) (fun c43 => ?_) (fun c43 => ?_)
            · exact absurd c43 (by decide)
            · refine lv_iload_n hx hb dX7_isUnder_12 rfl (lv_at hl 1 rfl) ?_
              refine lv_if_lt (tgt := 43) hx hb dX7_isUnder_13 (by decide) (fun c44 => ?_) (fun c44 => ?_)
              · exact absurd c44 (by decide)
              · refine lv_iload_n hx hb dX7_isUnder_16 rfl (lv_at hl 1 rfl) ?_
                refine va_gets hx hb C.2.1.2.2.2.2.2.2.1.1 hS C.1.2.2.2.1 (C.1.2.2.2.2 _ tw_410) (fun _ h => h) dX7_isUnder_17 ?_
                refine va_tlen hx hb C.2.1.2.2.2.2.2.2.1.2 hS (v := nI 6) rfl dX7_isUnder_20 ?_
                refine lv_icmp_ge (tgt := 43) hx hb dX7_isUnder_21 (by decide) (fun c45 => ?_) (fun c45 => ?_)
                · exact absurd c45 (by decide)
                · refine lv_iload_n hx hb dX7_isUnder_24 rfl (lv_at hl 1 rfl) ?_
                  refine lv_iload_n hx hb dX7_isUnder_25 rfl (lv_at hl 3 rfl) ?_
                  refine ta_cne C (a := 0) (b := b) (tgt := 31) (by omega) (by omega) dX7_isUnder_26 (by decide) (fun c46 => ?_) (fun c46 => ?_)
                  · refine va_gets hx hb C.2.1.2.2.2.2.2.2.1.1 hS C.1.2.2.2.1 (C.1.2.2.2.2 _ tw_410) (fun _ h => h) dX7_isUnder_31 ?_
                    refine lv_iload_n hx hb dX7_isUnder_34 rfl (lv_at hl 1 rfl) ?_
                    refine ta_sti C C.2.1.2.2.2.2.2.2.1.2 hS (i := 0) (by omega) dX7_isUnder_35 ?_
                    refine ta_nv (y := 4294967295) (by decide) ?_
                    refine lv_istore_n (lv' := [(2, .int (nI 4294967295)), (3, .int (nI 1)), (0, .int (nI 4)), (1, .int (nI b))]) hx hb dX7_isUnder_36 rfl hl (by decide) rfl (fun ls hl => ?_)
                    refine lv_iinc (v := nI 2) (lv' := [(3, .int (nI 2)), (2, .int (nI 4294967295)), (0, .int (nI 4)), (1, .int (nI b))]) hx hb dX7_isUnder_37 hl (k := 1) rfl (by decide) (by decide) rfl (fun ls hl => ?_)
                    refine lv_goto (tgt := 4) hx hb dX7_isUnder_40 (by decide) ?_
                    refine lv_iload_n hx hb dX7_isUnder_4 rfl (lv_at hl 0 rfl) ?_
                    refine va_gets hx hb C.2.1.2.2.2.2.2.2.1.1 hS C.1.2.2.2.1 (C.1.2.2.2.2 _ tw_410) (fun _ h => h) dX7_isUnder_5 ?_
                    refine va_tlen hx hb C.2.1.2.2.2.2.2.2.1.2 hS (v := nI 6) rfl dX7_isUnder_8 ?_
                    refine lv_icmp_ge (tgt := 43) hx hb dX7_isUnder_9 (by decide) (fun c47 => ?_) (fun c47 => ?_)
                    · exact absurd c47 (by decide)
                    · refine lv_iload_n hx hb dX7_isUnder_12 rfl (lv_at hl 1 rfl) ?_
                      refine lv_if_lt (tgt := 43) hx hb dX7_isUnder_13 (by decide) (fun c48 => ?_) (fun c48 => ?_)
                      · refine ta_iconst C 0 dX7_isUnder_43 (by decide) ?_
                        exact ret _ () dX7_isUnder_44 (by decide) (Or.inr ⟨by omega, rfl⟩) hP hD hS
                      · exact absurd c48 (by decide)
                  · refine ta_iconst C 1 dX7_isUnder_29 (by decide) ?_
                    exact ret _ () dX7_isUnder_30 (by decide) (Or.inl ⟨by omega, rfl⟩) hP hD hS
          · refine ta_iconst C 1 dX7_isUnder_29 (by decide) ?_
            exact ret _ () dX7_isUnder_30 (by decide) (Or.inl ⟨by omega, rfl⟩) hP hD hS
  · refine lv_iload_n hx hb dX7_isUnder_0 rfl (lv_at hl 0 rfl) ?_
    refine lv_istore_n (lv' := [(2, .int (nI 5)), (0, .int (nI 5)), (1, .int (nI b))]) hx hb dX7_isUnder_1 rfl hl (by decide) rfl (fun ls hl => ?_)
    refine ta_iconst C 0 dX7_isUnder_2 (by decide) ?_
    refine lv_istore_n (lv' := [(3, .int (nI 0)), (2, .int (nI 5)), (0, .int (nI 5)), (1, .int (nI b))]) hx hb dX7_isUnder_3 rfl hl (by decide) rfl (fun ls hl => ?_)
    refine lv_iload_n hx hb dX7_isUnder_4 rfl (lv_at hl 0 rfl) ?_
    refine va_gets hx hb C.2.1.2.2.2.2.2.2.1.1 hS C.1.2.2.2.1 (C.1.2.2.2.2 _ tw_410) (fun _ h => h) dX7_isUnder_5 ?_
    refine va_tlen hx hb C.2.1.2.2.2.2.2.2.1.2 hS (v := nI 6) rfl dX7_isUnder_8 ?_
    refine lv_icmp_ge (tgt := 43) hx hb dX7_isUnder_9 (by decide) (fun c49 => ?_) (fun c49 => ?_)
    · exact absurd c49 (by decide)
    · refine lv_iload_n hx hb dX7_isUnder_12 rfl (lv_at hl 1 rfl) ?_
      refine lv_if_lt (tgt := 43) hx hb dX7_isUnder_13 (by decide) (fun c50 => ?_) (fun c50 => ?_)
      · exact absurd c50 (by decide)
      · refine lv_iload_n hx hb dX7_isUnder_16 rfl (lv_at hl 1 rfl) ?_
        refine va_gets hx hb C.2.1.2.2.2.2.2.2.1.1 hS C.1.2.2.2.1 (C.1.2.2.2.2 _ tw_410) (fun _ h => h) dX7_isUnder_17 ?_
        refine va_tlen hx hb C.2.1.2.2.2.2.2.2.1.2 hS (v := nI 6) rfl dX7_isUnder_20 ?_
        refine lv_icmp_ge (tgt := 43) hx hb dX7_isUnder_21 (by decide) (fun c51 => ?_) (fun c51 => ?_)
        · exact absurd c51 (by decide)
        · refine lv_iload_n hx hb dX7_isUnder_24 rfl (lv_at hl 1 rfl) ?_
          refine lv_iload_n hx hb dX7_isUnder_25 rfl (lv_at hl 3 rfl) ?_
          refine ta_cne C (a := 5) (b := b) (tgt := 31) (by omega) (by omega) dX7_isUnder_26 (by decide) (fun c52 => ?_) (fun c52 => ?_)
          · refine va_gets hx hb C.2.1.2.2.2.2.2.2.1.1 hS C.1.2.2.2.1 (C.1.2.2.2.2 _ tw_410) (fun _ h => h) dX7_isUnder_31 ?_
            refine lv_iload_n hx hb dX7_isUnder_34 rfl (lv_at hl 1 rfl) ?_
            refine ta_sti C C.2.1.2.2.2.2.2.2.1.2 hS (i := 5) (by omega) dX7_isUnder_35 ?_
            refine ta_nv (y := 0) (by decide) ?_
            refine lv_istore_n (lv' := [(2, .int (nI 0)), (3, .int (nI 0)), (0, .int (nI 5)), (1, .int (nI b))]) hx hb dX7_isUnder_36 rfl hl (by decide) rfl (fun ls hl => ?_)
            refine lv_iinc (v := nI 1) (lv' := [(3, .int (nI 1)), (2, .int (nI 0)), (0, .int (nI 5)), (1, .int (nI b))]) hx hb dX7_isUnder_37 hl (k := 1) rfl (by decide) (by decide) rfl (fun ls hl => ?_)
            refine lv_goto (tgt := 4) hx hb dX7_isUnder_40 (by decide) ?_
            refine lv_iload_n hx hb dX7_isUnder_4 rfl (lv_at hl 0 rfl) ?_
            refine va_gets hx hb C.2.1.2.2.2.2.2.2.1.1 hS C.1.2.2.2.1 (C.1.2.2.2.2 _ tw_410) (fun _ h => h) dX7_isUnder_5 ?_
            refine va_tlen hx hb C.2.1.2.2.2.2.2.2.1.2 hS (v := nI 6) rfl dX7_isUnder_8 ?_
            refine lv_icmp_ge (tgt := 43) hx hb dX7_isUnder_9 (by decide) (fun c53 => ?_) (fun c53 => ?_)
            · exact absurd c53 (by decide)
            · refine lv_iload_n hx hb dX7_isUnder_12 rfl (lv_at hl 1 rfl) ?_
              refine lv_if_lt (tgt := 43) hx hb dX7_isUnder_13 (by decide) (fun c54 => ?_) (fun c54 => ?_)
              · exact absurd c54 (by decide)
              · refine lv_iload_n hx hb dX7_isUnder_16 rfl (lv_at hl 1 rfl) ?_
                refine va_gets hx hb C.2.1.2.2.2.2.2.2.1.1 hS C.1.2.2.2.1 (C.1.2.2.2.2 _ tw_410) (fun _ h => h) dX7_isUnder_17 ?_
                refine va_tlen hx hb C.2.1.2.2.2.2.2.2.1.2 hS (v := nI 6) rfl dX7_isUnder_20 ?_
                refine lv_icmp_ge (tgt := 43) hx hb dX7_isUnder_21 (by decide) (fun c55 => ?_) (fun c55 => ?_)
                · exact absurd c55 (by decide)
                · refine lv_iload_n hx hb dX7_isUnder_24 rfl (lv_at hl 1 rfl) ?_
                  refine lv_iload_n hx hb dX7_isUnder_25 rfl (lv_at hl 3 rfl) ?_
                  refine ta_cne C (a := 0) (b := b) (tgt := 31) (by omega) (by omega) dX7_isUnder_26 (by decide) (fun c56 => ?_) (fun c56 => ?_)
                  · refine va_gets hx hb C.2.1.2.2.2.2.2.2.1.1 hS C.1.2.2.2.1 (C.1.2.2.2.2 _ tw_410) (fun _ h => h) dX7_isUnder_31 ?_
                    refine lv_iload_n hx hb dX7_isUnder_34 rfl (lv_at hl 1 rfl) ?_
                    refine ta_sti C C.2.1.2.2.2.2.2.2.1.2 hS (i := 0) (by omega) dX7_isUnder_35 ?_
                    refine ta_nv (y := 4294967295) (by decide) ?_
                    refine lv_istore_n (lv' := [(2, .int (nI 4294967295)), (3, .int (nI 1)), (0, .int (nI 5)), (1, .int (nI b))]) hx hb dX7_isUnder_36 rfl hl (by decide) rfl (fun ls hl => ?_)
                    refine lv_iinc (v := nI 2) (lv' := [(3, .int (nI 2)), (2, .int (nI 4294967295)), (0, .int (nI 5)), (1, .int (nI b))]) hx hb dX7_isUnder_37 hl (k := 1) rfl (by decide) (by decide) rfl (fun ls hl => ?_)
                    refine lv_goto (tgt := 4) hx hb dX7_isUnder_40 (by decide) ?_
                    refine lv_iload_n hx hb dX7_isUnder_4 rfl (lv_at hl 0 rfl) ?_
                    refine va_gets hx hb C.2.1.2.2.2.2.2.2.1.1 hS C.1.2.2.2.1 (C.1.2.2.2.2 _ tw_410) (fun _ h => h) dX7_isUnder_5 ?_
                    refine va_tlen hx hb C.2.1.2.2.2.2.2.2.1.2 hS (v := nI 6) rfl dX7_isUnder_8 ?_
                    refine lv_icmp_ge (tgt := 43) hx hb dX7_isUnder_9 (by decide) (fun c57 => ?_) (fun c57 => ?_)
                    · exact absurd c57 (by decide)
                    · refine lv_iload_n hx hb dX7_isUnder_12 rfl (lv_at hl 1 rfl) ?_
                      refine lv_if_lt (tgt := 43) hx hb dX7_isUnder_13 (by decide) (fun c58 => ?_) (fun c58 => ?_)
                      · refine ta_iconst C 0 dX7_isUnder_43 (by decide) ?_
                        exact ret _ () dX7_isUnder_44 (by decide) (Or.inr ⟨by omega, rfl⟩) hP hD hS
                      · exact absurd c58 (by decide)
                  · refine ta_iconst C 1 dX7_isUnder_29 (by decide) ?_
                    exact ret _ () dX7_isUnder_30 (by decide) (Or.inl ⟨by omega, rfl⟩) hP hD hS
          · refine ta_iconst C 1 dX7_isUnder_29 (by decide) ?_
            exact ret _ () dX7_isUnder_30 (by decide) (Or.inl ⟨by omega, rfl⟩) hP hD hS

set_option maxHeartbeats 4000000 in
set_option maxRecDepth 100000 in
theorem c_X0_hasCell_w (l : Launch) (D : va_G) (k : ta_C) (q : Nat → Nat) (t : Nat → Nat) (g : Nat → Nat) (X : Nat → Nat → Nat) (x : Nat) (hw : t 0 * t 1 ≤ 36) (wx : x < 4294967296) : ta_Mi (S := Unit) l D k yX0_hasCell cX0_hasCell 2 .boolean 0 0 [.ref (q 0), .int (nI x)] (dyW k q t g X) (fun r _ => (x < t 0 * t 1 ∧ r = nI 1) ∨ (¬ x < t 0 * t 1 ∧ r = nI 0)) (fun u => (dyW k q t g X)) := by
  refine ta_enter_i (by decide) (Nat.le_of_ble_eq_true rfl) ?_
  intro p e s m below meth c A ls Q C ret hP hD hS hl
  have C : ta_At p l D k s m ([.ref (q 0), .int (nI x)] : List Value).toArray c RX0 cX0_hasCell 2 A := C
  have hx := C.1.1
  have hb := C.1.2.1
  have hl : lv_has ls 2 [(0, .ref (q 0)), (1, .int (nI x))] := hl
  obtain ⟨H, hH⟩ : ∃ H, H = s.heap := ⟨_, rfl⟩
  obtain ⟨locs, hlocs⟩ : ∃ q : List Loc, q = [] := ⟨_, rfl⟩
  have hP : va_P D vwCl (dyW k q t g X) H := by rw [hH]; exact hP
  have hS : va_S A s.heap H locs := by rw [hH, hlocs]; exact hS
  rw [← hlocs]
  suffices hgoal : W p l e ({ frames := 0, cells := 0, slots := 0, locals := 0 }) s m ([.ref (q 0), .int (nI x)] : List Value).toArray below meth c H locs 0 0 Q (F0 m 0 ls []) by rw [hH] at hgoal; exact hgoal
  clear hH hlocs
  have hP : va_P D vwCl [(q 0, .inr (0, [.int (nI (t 0)), .int (nI (t 1)), .int (nI (t 2)), .int (nI (g 0)), .int (nI (g 1)), .int (nI (g 2 / t 0)), .int (nI (g 2 % t 0)), .int (nI (g 3)), .int (nI (g 4)), .int (nI (g 5)), .ref (q 1), .ref (q 2), .ref (q 3), .ref (q 4)])), (q 1, .inl (k.1 0, 36, .inl (ta_e (tg_mud g)))), (q 2, .inl (k.1 0, 4, .inl (ta_e (tg_wal g)))), (q 3, .inl (k.1 0, 2, .inl (ta_e (tg_kne g)))), (q 4, .inl (k.1 2, 2, .inr (.inr (.inr (.inr (ta_dr (q 5) (q 8))))))), (q 5, .inr (1, [.ref (q 6), .ref (q 7), .int (nI (g 6))])), (q 6, .inl (k.1 0, 8, .inl (ta_e (X 0)))), (q 7, .inl (k.1 0, 8, .inl (ta_e (X 1)))), (q 8, .inr (1, [.ref (q 9), .ref (q 10), .int (nI (g 7))])), (q 9, .inl (k.1 0, 8, .inl (ta_e (X 2)))), (q 10, .inl (k.1 0, 8, .inl (ta_e (X 3))))] H := hP
  have hD : va_D A [(q 0, .inr (0, [.int (nI (t 0)), .int (nI (t 1)), .int (nI (t 2)), .int (nI (g 0)), .int (nI (g 1)), .int (nI (g 2 / t 0)), .int (nI (g 2 % t 0)), .int (nI (g 3)), .int (nI (g 4)), .int (nI (g 5)), .ref (q 1), .ref (q 2), .ref (q 3), .ref (q 4)])), (q 1, .inl (k.1 0, 36, .inl (ta_e (tg_mud g)))), (q 2, .inl (k.1 0, 4, .inl (ta_e (tg_wal g)))), (q 3, .inl (k.1 0, 2, .inl (ta_e (tg_kne g)))), (q 4, .inl (k.1 2, 2, .inr (.inr (.inr (.inr (ta_dr (q 5) (q 8))))))), (q 5, .inr (1, [.ref (q 6), .ref (q 7), .int (nI (g 6))])), (q 6, .inl (k.1 0, 8, .inl (ta_e (X 0)))), (q 7, .inl (k.1 0, 8, .inl (ta_e (X 1)))), (q 8, .inr (1, [.ref (q 9), .ref (q 10), .int (nI (g 7))])), (q 9, .inl (k.1 0, 8, .inl (ta_e (X 2)))), (q 10, .inl (k.1 0, 8, .inl (ta_e (X 3))))] := hD
  refine lv_iload_n hx hb dX0_hasCell_0 rfl (lv_at hl 1 rfl) ?_
  refine ta_wilt C (a := x) (tgt := 21) (by omega) dX0_hasCell_1 (by decide) (fun c1 => ?_) (fun c1 => ?_)
  · refine ta_iconst C 0 dX0_hasCell_21 (by decide) ?_
    exact ret _ () dX0_hasCell_22 (by decide) (Or.inr ⟨by omega, rfl⟩) hP hD hS
  · refine lv_iload_n hx hb dX0_hasCell_4 rfl (lv_at hl 1 rfl) ?_
    refine lv_aload_n hx hb dX0_hasCell_5 rfl (lv_at hl 0 rfl) ?_
    refine ta_get C hP 0 inlX0 rfl rfl 0 (by decide) tw_100 rfl dX0_hasCell_6 ?_
    refine lv_aload_n hx hb dX0_hasCell_9 rfl (lv_at hl 0 rfl) ?_
    refine ta_get C hP 0 inlX0 rfl rfl 1 (by decide) tw_101 rfl dX0_hasCell_10 ?_
    refine ta_imul C (a := t 0) (b := t 1) dX0_hasCell_13 ?_
    refine ta_wge C (a := x) (b := (t 0) * (t 1)) (tgt := 21) (by omega) (by omega) dX0_hasCell_14 (by decide) (fun c2 => ?_) (fun c2 => ?_)
    · refine ta_iconst C 0 dX0_hasCell_21 (by decide) ?_
      exact ret _ () dX0_hasCell_22 (by decide) (Or.inr ⟨by omega, rfl⟩) hP hD hS
    · refine ta_iconst C 1 dX0_hasCell_17 (by decide) ?_
      refine lv_goto (tgt := 22) hx hb dX0_hasCell_18 (by decide) ?_
      exact ret _ () dX0_hasCell_22 (by decide) (Or.inl ⟨by omega, rfl⟩) hP hD hS

theorem c_X2_rememberA (l : Launch) (D : va_G) (k : ta_C) (pz : Nat → Nat) (n : Nat) (d : Nat → Nat → Nat) (T : Nat → Nat → Nat) (G : Nat → Nat → Nat) (Z : Nat → Nat → Nat → Nat) (q : Nat → Nat) (t : Nat → Nat) (g : Nat → Nat) (X : Nat → Nat → Nat) (hn : n ≤ 8) (h6 : g 6 ≤ 8) (h7 : g 7 ≤ 8) (hX : tg_X g X) (hT : ∀ i, i < n → T i = t) (hZ : ∀ i, i < n → tg_X (G i) (Z i)) : ta_Mv (S := (Nat → Nat → Nat) × (Nat → Nat → Nat) × (Nat → Nat → Nat → Nat)) l D k yX2_remember cX2_remember 2 3 110 [.ref (pz 0), .ref (q 0)] ([(pz 0, .inr (2, [.ref (pz 1), .int (nI n)])), (pz 1, .inl (k.1 3, 8, .inr (.inr (.inr (.inr (ta_pd d))))))] ++ ((pdW k d T G Z) ++ (dyW k q t g X))) (fun u => (∀ i, i < sp_n n → u.2.1 i = t) ∧ ∀ i, i < sp_n n → tg_X (sp_G n G g i) (u.2.2 i)) (fun u => ([(pz 0, .inr (2, [.ref (pz 1), .int (nI (sp_n n))])), (pz 1, .inl (k.1 3, 8, .inr (.inr (.inr (.inr (ta_pd u.1))))))] ++ ((pdW k u.1 u.2.1 (sp_G n G g) u.2.2) ++ (dyW k q t g X)))) := by
  rcases Nat.lt_or_ge n 8 with h | h
  · have e1 : sp_n n = n + 1 := if_pos h
    have e2 : sp_G n G g = va_up G n g := if_pos h
    rw [e1, e2]
    refine ta_Mv_imp (fun u => (d, va_up T n t, va_up Z n u)) (c_X2_remember l D k pz n d T G Z q t g X h h6 h7 hX) (fun u hu => ⟨fun i hi => ?_, fun i hi => ?_⟩) (fun u => rfl)
    · show (if i = n then t else T i) = t
      split
      · rfl
      · exact hT i (by omega)
    · show tg_X (if i = n then g else G i) (if i = n then u else Z i)
      split
      · exact hu
      · exact hZ i (by omega)
  · obtain rfl : n = 8 := by omega
    have e1 : sp_n 8 = 8 := rfl
    have e2 : sp_G 8 G g = va_up (ta_rot G) 7 g := rfl
    rw [e1, e2]
    refine ta_Mv_imp (fun u => (ta_rot d, va_up (ta_rot T) 7 t, va_up (ta_rot Z) 7 u)) (c_X2_remember_f l D k pz d T G Z q t g X h6 h7 hX) (fun u hu => ⟨fun i hi => ?_, fun i hi => ?_⟩) (fun u => rfl)
    · show (if i = 7 then t else if i < 7 then T (i + 1) else T 0) = t
      split
      · rfl
      · rw [if_pos (by omega)]; exact hT _ (by omega)
    · show tg_X (if i = 7 then g else if i < 7 then G (i + 1) else G 0) (if i = 7 then u else if i < 7 then Z (i + 1) else Z 0)
      split
      · exact hu
      · rw [if_pos (by omega), if_pos (by omega)]; exact hZ _ (by omega)

set_option maxHeartbeats 4000000 in
set_option maxRecDepth 100000 in
theorem c_X7_write (l : Launch) (D : va_G) (k : ta_C) (o : Nat → Nat) (x : Nat → Nat) (tq : Nat → Nat) (rd : Nat) (q : Nat → Nat) (tr : Nat → Nat) (pz : Nat → Nat) (sz : Nat → Nat) (L : Nat) (tx : Nat → Nat) (a : Nat) (hL : L ≤ 160) (wa : a < 4294967296) : ta_Mi (S := Unit) l D k yX7_write cX7_write 2 .int 1 40 [.ref (o 0), .int (nI a)] ([(o 0, .inr (7, [.ref (x 0), .ref (tq 0), .ref rd, .ref (q 0), .ref (tr 0), .ref (pz 0), .ref (o 1), .ref (o 2), .ref (sz 0)]))] ++ (txW k x L tx)) (fun r _ => r = nI (sp_write L a)) (fun u => ([(o 0, .inr (7, [.ref (x 0), .ref (tq 0), .ref rd, .ref (q 0), .ref (tr 0), .ref (pz 0), .ref (o 1), .ref (o 2), .ref (sz 0)]))] ++ (txW k x (sp_writeL L a) (sp_writeT tx L a)))) := by
  refine ta_enter_i (by decide) (Nat.le_of_ble_eq_true rfl) ?_
  intro p e s m below meth c A ls Q C ret hP hD hS hl
  have C : ta_At p l D k s m ([.ref (o 0), .int (nI a)] : List Value).toArray c RX7 cX7_write 2 A := C
  have hx := C.1.1
  have hb := C.1.2.1
  have hl : lv_has ls 2 [(0, .ref (o 0)), (1, .int (nI a))] := hl
  obtain ⟨H, hH⟩ : ∃ H, H = s.heap := ⟨_, rfl⟩
  obtain ⟨locs, hlocs⟩ : ∃ q : List Loc, q = [] := ⟨_, rfl⟩
  have hP : va_P D vwCl ([(o 0, .inr (7, [.ref (x 0), .ref (tq 0), .ref rd, .ref (q 0), .ref (tr 0), .ref (pz 0), .ref (o 1), .ref (o 2), .ref (sz 0)]))] ++ (txW k x L tx)) H := by rw [hH]; exact hP
  have hS : va_S A s.heap H locs := by rw [hH, hlocs]; exact hS
  rw [← hlocs]
  suffices hgoal : W p l e ({ frames := 1, cells := 0, slots := 0, locals := 40 }) s m ([.ref (o 0), .int (nI a)] : List Value).toArray below meth c H locs 0 0 Q (F0 m 0 ls []) by rw [hH] at hgoal; exact hgoal
  clear hH hlocs
  refine lv_iload_n hx hb dX7_write_0 rfl (lv_at hl 1 rfl) ?_
  refine ta_wilt C (a := a) (tgt := 11) (by omega) dX7_write_1 (by decide) (fun c1 => ?_) (fun c1 => ?_)
  · refine ta_bipush C 4294967293 dX7_write_11 (by decide) ?_
    have e1 : sp_write L a = 4294967293 := by unfold sp_write; (repeat' split) <;> omega
    have e2 : sp_writeL L a = L := if_neg (by omega)
    have e3 : sp_writeT tx L a = tx := if_neg (by omega)
    rw [e2, e3] at ret
    exact ret (nI 4294967293) () dX7_write_13 rfl (by rw [e1]) hP hD hS
  · refine lv_iload_n hx hb dX7_write_4 rfl (lv_at hl 1 rfl) ?_
    refine ta_sipush C 255 dX7_write_5 (by decide) ?_
    refine ta_wle C (a := a) (b := 255) (tgt := 14) (by omega) (by omega) dX7_write_8 (by decide) (fun c2 => ?_) (fun c2 => ?_)
    · refine lv_aload_n hx hb dX7_write_14 rfl (lv_at hl 0 rfl) ?_
      refine ta_get C hP 0 inlX7 rfl rfl 0 (by decide) tw_15 rfl dX7_write_15 ?_
      refine lv_iload_n hx hb dX7_write_18 rfl (lv_at hl 1 rfl) ?_
      rcases Nat.lt_or_ge L 160 with hlt | hge
      · skip
        refine ta_callVi (As := [.int (nI a)]) (rest0 := []) (Wr := [(o 0, .inr (7, [.ref (x 0), .ref (tq 0), .ref rd, .ref (q 0), .ref (tr 0), .ref (pz 0), .ref (o 1), .ref (o 2), .ref (sz 0)]))]) C hP hD hS (c_X6_append l D k x L tx a (by omega)) 1 rfl rfl rfl [1, 2] [0] rfl rfl (by decide) (by decide) (by decide) tw_151 tw_148 tw_14 tw_149 tw_150 ⟨by decide, by decide, rfl⟩ ⟨Nat.le_of_ble_eq_true rfl, Nat.le_of_ble_eq_true rfl⟩ ⟨Nat.zero_le _, Nat.zero_le _⟩ hl.1 rfl (Nat.le_of_ble_eq_true rfl) dX7_write_19 (fun r3 u4 H locs h5 hP hD hS => ?_)
        obtain rfl := h5
        have hP : va_P D vwCl ([(o 0, .inr (7, [.ref (x 0), .ref (tq 0), .ref rd, .ref (q 0), .ref (tr 0), .ref (pz 0), .ref (o 1), .ref (o 2), .ref (sz 0)]))] ++ (txW k x (L + 1) (ta_u tx L a))) H := hP
        have hD : va_D A ([(o 0, .inr (7, [.ref (x 0), .ref (tq 0), .ref rd, .ref (q 0), .ref (tr 0), .ref (pz 0), .ref (o 1), .ref (o 2), .ref (sz 0)]))] ++ (txW k x (L + 1) (ta_u tx L a))) := hD
        refine lv_if_eq (tgt := 35) hx hb dX7_write_22 (by decide) (fun c6 => ?_) (fun c6 => ?_)
        · exact absurd c6 (by decide)
        · refine lv_aload_n hx hb dX7_write_25 rfl (lv_at hl 0 rfl) ?_
          refine ta_get C hP 0 inlX7 rfl rfl 0 (by decide) tw_15 rfl dX7_write_26 ?_
          refine ta_getN C hP 1 inlX6 rfl rfl 1 (by decide) 0 rfl rfl dX7_write_29 ?_
          refine lv_goto (tgt := 37) hx hb dX7_write_32 (by decide) ?_
          have e1 : sp_write L a = L + 1 := by unfold sp_write; (repeat' split) <;> omega
          have e2 : sp_writeL L a = L + 1 := if_pos (by omega)
          have e3 : sp_writeT tx L a = ta_u tx L a := if_pos (by omega)
          rw [e2, e3] at ret
          exact ret (nI (L + 1)) () dX7_write_37 rfl (by rw [e1]) hP hD hS
      · skip
        refine ta_callVi (As := [.int (nI a)]) (rest0 := []) (Wr := [(o 0, .inr (7, [.ref (x 0), .ref (tq 0), .ref rd, .ref (q 0), .ref (tr 0), .ref (pz 0), .ref (o 1), .ref (o 2), .ref (sz 0)]))]) C hP hD hS (c_X6_append_f l D k x L tx a (by omega)) 1 rfl rfl rfl [1, 2] [0] rfl rfl (by decide) (by decide) (by decide) tw_151 tw_148 tw_14 tw_149 tw_150 ⟨by decide, by decide, rfl⟩ ⟨Nat.le_of_ble_eq_true rfl, Nat.le_of_ble_eq_true rfl⟩ ⟨Nat.zero_le _, Nat.zero_le _⟩ hl.1 rfl (Nat.le_of_ble_eq_true rfl) dX7_write_19 (fun r7 u8 H locs h9 hP hD hS => ?_)
        obtain rfl := h9
        have hP : va_P D vwCl ([(o 0, .inr (7, [.ref (x 0), .ref (tq 0), .ref rd, .ref (q 0), .ref (tr 0), .ref (pz 0), .ref (o 1), .ref (o 2), .ref (sz 0)]))] ++ (txW k x L tx)) H := hP
        have hD : va_D A ([(o 0, .inr (7, [.ref (x 0), .ref (tq 0), .ref rd, .ref (q 0), .ref (tr 0), .ref (pz 0), .ref (o 1), .ref (o 2), .ref (sz 0)]))] ++ (txW k x L tx)) := hD
        refine lv_if_eq (tgt := 35) hx hb dX7_write_22 (by decide) (fun c10 => ?_) (fun c10 => ?_)
        · refine ta_bipush C 4294967291 dX7_write_35 (by decide) ?_
          have e1 : sp_write L a = 4294967291 := by unfold sp_write; (repeat' split) <;> omega
          have e2 : sp_writeL L a = L := if_neg (by omega)
          have e3 : sp_writeT tx L a = tx := if_neg (by omega)
          rw [e2, e3] at ret
          exact ret (nI 4294967291) () dX7_write_37 rfl (by rw [e1]) hP hD hS
        · exact absurd c10 (by decide)
    · refine ta_bipush C 4294967293 dX7_write_11 (by decide) ?_
      have e1 : sp_write L a = 4294967293 := by unfold sp_write; (repeat' split) <;> omega
      have e2 : sp_writeL L a = L := if_neg (by omega)
      have e3 : sp_writeT tx L a = tx := if_neg (by omega)
      rw [e2, e3] at ret
      exact ret (nI 4294967293) () dX7_write_13 rfl (by rw [e1]) hP hD hS

set_option maxHeartbeats 4000000 in
set_option maxRecDepth 100000 in
theorem c_X7_erase (l : Launch) (D : va_G) (k : ta_C) (o : Nat → Nat) (x : Nat → Nat) (tq : Nat → Nat) (rd : Nat) (q : Nat → Nat) (tr : Nat → Nat) (pz : Nat → Nat) (sz : Nat → Nat) (L : Nat) (tx : Nat → Nat) : ta_Mi (S := Unit) l D k yX7_erase cX7_erase 2 .int 0 0 [.ref (o 0)] ([(o 0, .inr (7, [.ref (x 0), .ref (tq 0), .ref rd, .ref (q 0), .ref (tr 0), .ref (pz 0), .ref (o 1), .ref (o 2), .ref (sz 0)]))] ++ (txW k x L tx)) (fun r _ => r = nI L) (fun u => ([(o 0, .inr (7, [.ref (x 0), .ref (tq 0), .ref rd, .ref (q 0), .ref (tr 0), .ref (pz 0), .ref (o 1), .ref (o 2), .ref (sz 0)]))] ++ (txW k x 0 tx))) := by
  refine ta_enter_i (by decide) (Nat.le_of_ble_eq_true rfl) ?_
  intro p e s m below meth c A ls Q C ret hP hD hS hl
  have C : ta_At p l D k s m ([.ref (o 0)] : List Value).toArray c RX7 cX7_erase 2 A := C
  have hx := C.1.1
  have hb := C.1.2.1
  have hl : lv_has ls 2 [(0, .ref (o 0))] := hl
  obtain ⟨H, hH⟩ : ∃ H, H = s.heap := ⟨_, rfl⟩
  obtain ⟨locs, hlocs⟩ : ∃ q : List Loc, q = [] := ⟨_, rfl⟩
  have hP : va_P D vwCl ([(o 0, .inr (7, [.ref (x 0), .ref (tq 0), .ref rd, .ref (q 0), .ref (tr 0), .ref (pz 0), .ref (o 1), .ref (o 2), .ref (sz 0)]))] ++ (txW k x L tx)) H := by rw [hH]; exact hP
  have hS : va_S A s.heap H locs := by rw [hH, hlocs]; exact hS
  rw [← hlocs]
  suffices hgoal : W p l e ({ frames := 0, cells := 0, slots := 0, locals := 0 }) s m ([.ref (o 0)] : List Value).toArray below meth c H locs 0 0 Q (F0 m 0 ls []) by rw [hH] at hgoal; exact hgoal
  clear hH hlocs
  refine lv_aload_n hx hb dX7_erase_0 rfl (lv_at hl 0 rfl) ?_
  refine ta_get C hP 0 inlX7 rfl rfl 0 (by decide) tw_15 rfl dX7_erase_1 ?_
  refine ta_getN C hP 1 inlX6 rfl rfl 1 (by decide) 0 rfl rfl dX7_erase_4 ?_
  refine lv_istore_n (lv' := [(1, .int (nI L)), (0, .ref (o 0))]) hx hb dX7_erase_7 rfl hl (by decide) rfl (fun ls hl => ?_)
  refine lv_aload_n hx hb dX7_erase_8 rfl (lv_at hl 1 rfl) ?_
  refine ta_get C hP 0 inlX7 rfl rfl 0 (by decide) tw_15 rfl dX7_erase_9 ?_
  refine ta_iconst C 0 dX7_erase_12 (by decide) ?_
  refine ta_putN C hP hD hS 1 inlX6 tyX6 tyX6_ok nmX6 rfl rfl 1 (by decide) 0 rfl rfl rfl rfl (Nat.le_of_ble_eq_true rfl) dX7_erase_13 (fun H locs hP hD hS => ?_)
  have hP : va_P D vwCl [(o 0, .inr (7, [.ref (x 0), .ref (tq 0), .ref rd, .ref (q 0), .ref (tr 0), .ref (pz 0), .ref (o 1), .ref (o 2), .ref (sz 0)])), (x 0, .inr (6, [.ref (x 1), .int (nI 0)])), (x 1, .inl (k.1 0, 160, .inl (ta_e tx)))] H := hP
  have hD : va_D A [(o 0, .inr (7, [.ref (x 0), .ref (tq 0), .ref rd, .ref (q 0), .ref (tr 0), .ref (pz 0), .ref (o 1), .ref (o 2), .ref (sz 0)])), (x 0, .inr (6, [.ref (x 1), .int (nI 0)])), (x 1, .inl (k.1 0, 160, .inl (ta_e tx)))] := hD
  refine lv_iload_n hx hb dX7_erase_16 rfl (lv_at hl 0 rfl) ?_
  exact ret (nI L) () dX7_erase_17 rfl rfl hP hD hS

set_option maxHeartbeats 4000000 in
set_option maxRecDepth 100000 in
theorem c_X7_mud (l : Launch) (D : va_G) (k : ta_C) (o : Nat → Nat) (x : Nat → Nat) (tq : Nat → Nat) (rd : Nat) (q : Nat → Nat) (tr : Nat → Nat) (pz : Nat → Nat) (sz : Nat → Nat) (t : Nat → Nat) (g : Nat → Nat) (X : Nat → Nat → Nat) (xx : Nat) (hok : tg_ok t g) (hh0 : g 0 < 1000000) (hX : tg_X g X) (wxx : xx < 4294967296) : ta_Mi (S := Unit) l D k yX7_mud cX7_mud 2 .int 1 40 [.ref (o 0), .int (nI xx)] ([(o 0, .inr (7, [.ref (x 0), .ref (tq 0), .ref rd, .ref (q 0), .ref (tr 0), .ref (pz 0), .ref (o 1), .ref (o 2), .ref (sz 0)]))] ++ (dyW k q t g X)) (fun r _ => r = nI (sp_mud t g xx)) (fun u => ([(o 0, .inr (7, [.ref (x 0), .ref (tq 0), .ref rd, .ref (q 0), .ref (tr 0), .ref (pz 0), .ref (o 1), .ref (o 2), .ref (sz 0)]))] ++ (dyW k q t g X))) := by
  refine ta_enter_i (by decide) (Nat.le_of_ble_eq_true rfl) ?_
  intro p e s m below meth c A ls Q C ret hP hD hS hl
  have C : ta_At p l D k s m ([.ref (o 0), .int (nI xx)] : List Value).toArray c RX7 cX7_mud 2 A := C
  have hx := C.1.1
  have hb := C.1.2.1
  have hl : lv_has ls 2 [(0, .ref (o 0)), (1, .int (nI xx))] := hl
  obtain ⟨H, hH⟩ : ∃ H, H = s.heap := ⟨_, rfl⟩
  obtain ⟨locs, hlocs⟩ : ∃ q : List Loc, q = [] := ⟨_, rfl⟩
  have hP : va_P D vwCl ([(o 0, .inr (7, [.ref (x 0), .ref (tq 0), .ref rd, .ref (q 0), .ref (tr 0), .ref (pz 0), .ref (o 1), .ref (o 2), .ref (sz 0)]))] ++ (dyW k q t g X)) H := by rw [hH]; exact hP
  have hS : va_S A s.heap H locs := by rw [hH, hlocs]; exact hS
  rw [← hlocs]
  suffices hgoal : W p l e ({ frames := 1, cells := 0, slots := 0, locals := 40 }) s m ([.ref (o 0), .int (nI xx)] : List Value).toArray below meth c H locs 0 0 Q (F0 m 0 ls []) by rw [hH] at hgoal; exact hgoal
  clear hH hlocs
  obtain ⟨⟨a1, a2, a3, a4, a5, a6⟩, b1, b2, b3, b4, b6, b7, b8, b9⟩ := id hok
  have hm36 := tg_36 a2 a4
  refine lv_aload_n hx hb dX7_mud_0 rfl (lv_at hl 0 rfl) ?_
  refine ta_get C hP 0 inlX7 rfl rfl 3 (by decide) tw_27 rfl dX7_mud_1 ?_
  refine lv_iload_n hx hb dX7_mud_4 rfl (lv_at hl 1 rfl) ?_
  refine ta_callVi (As := [.int (nI xx)]) (rest0 := []) (Wr := [(o 0, .inr (7, [.ref (x 0), .ref (tq 0), .ref rd, .ref (q 0), .ref (tr 0), .ref (pz 0), .ref (o 1), .ref (o 2), .ref (sz 0)]))]) C hP hD hS (c_X0_hasCell_w l D k q t g X xx (by omega) (by omega)) 1 rfl rfl rfl [1, 2, 3, 4, 5, 6, 7, 8, 9, 10, 11] [0] rfl rfl (by decide) (by decide) (by decide) tw_370 tw_367 tw_26 tw_368 tw_369 ⟨by decide, by decide, rfl⟩ ⟨Nat.le_of_ble_eq_true rfl, Nat.le_of_ble_eq_true rfl⟩ ⟨Nat.zero_le _, Nat.zero_le _⟩ hl.1 rfl (Nat.le_of_ble_eq_true rfl) dX7_mud_5 (fun r1 u2 H locs h3 hP hD hS => ?_)
  rcases h3 with h0 | h0
  · obtain ⟨hi4, rfl⟩ := h0
    have hP : va_P D vwCl ([(o 0, .inr (7, [.ref (x 0), .ref (tq 0), .ref rd, .ref (q 0), .ref (tr 0), .ref (pz 0), .ref (o 1), .ref (o 2), .ref (sz 0)]))] ++ (dyW k q t g X)) H := hP
    have hD : va_D A ([(o 0, .inr (7, [.ref (x 0), .ref (tq 0), .ref rd, .ref (q 0), .ref (tr 0), .ref (pz 0), .ref (o 1), .ref (o 2), .ref (sz 0)]))] ++ (dyW k q t g X)) := hD
    refine lv_if_eq (tgt := 23) hx hb dX7_mud_8 (by decide) (fun c5 => ?_) (fun c5 => ?_)
    · exact absurd c5 (by decide)
    · refine lv_aload_n hx hb dX7_mud_11 rfl (lv_at hl 0 rfl) ?_
      refine ta_get C hP 0 inlX7 rfl rfl 3 (by decide) tw_27 rfl dX7_mud_12 ?_
      refine ta_getN C hP 1 inlX0 rfl rfl 10 (by decide) 33 rfl rfl dX7_mud_15 ?_
      refine lv_iload_n hx hb dX7_mud_18 rfl (lv_at hl 1 rfl) ?_
      refine ta_iald C hP 2 rfl (i := xx) (by omega) dX7_mud_19 ?_
      refine lv_goto (tgt := 25) hx hb dX7_mud_20 (by decide) ?_
      have emu : tg_mud g xx = g (30 + xx) := rfl
      have e1 : sp_mud t g xx = (tg_mud g) xx := by unfold sp_mud; (repeat' split) <;> omega
      exact ret (nI ((tg_mud g) xx)) () dX7_mud_25 rfl (by rw [e1]) hP hD hS
  · obtain ⟨hi6, rfl⟩ := h0
    have hP : va_P D vwCl ([(o 0, .inr (7, [.ref (x 0), .ref (tq 0), .ref rd, .ref (q 0), .ref (tr 0), .ref (pz 0), .ref (o 1), .ref (o 2), .ref (sz 0)]))] ++ (dyW k q t g X)) H := hP
    have hD : va_D A ([(o 0, .inr (7, [.ref (x 0), .ref (tq 0), .ref rd, .ref (q 0), .ref (tr 0), .ref (pz 0), .ref (o 1), .ref (o 2), .ref (sz 0)]))] ++ (dyW k q t g X)) := hD
    refine lv_if_eq (tgt := 23) hx hb dX7_mud_8 (by decide) (fun c7 => ?_) (fun c7 => ?_)
    · refine ta_bipush C 4294967294 dX7_mud_23 (by decide) ?_
      have emu : tg_mud g xx = g (30 + xx) := rfl
      have e1 : sp_mud t g xx = 4294967294 := by unfold sp_mud; (repeat' split) <;> omega
      exact ret (nI 4294967294) () dX7_mud_25 rfl (by rw [e1]) hP hD hS
    · exact absurd c7 (by decide)

set_option maxHeartbeats 4000000 in
set_option maxRecDepth 100000 in
theorem c_X7_figure (l : Launch) (D : va_G) (k : ta_C) (o : Nat → Nat) (x : Nat → Nat) (tq : Nat → Nat) (rd : Nat) (q : Nat → Nat) (tr : Nat → Nat) (pz : Nat → Nat) (sz : Nat → Nat) (t : Nat → Nat) (g : Nat → Nat) (X : Nat → Nat → Nat) (a : Nat) (j : Nat) (w : Nat) (hok : tg_ok t g) (hh0 : g 0 < 1000000) (hX : tg_X g X) (wa : a < 4294967296) (wj : j < 4294967296) (ww : w < 4294967296) : ta_Mi (S := Unit) l D k yX7_figure cX7_figure 5 .int 1 40 [.ref (o 0), .int (nI a), .int (nI j), .int (nI w)] ([(o 0, .inr (7, [.ref (x 0), .ref (tq 0), .ref rd, .ref (q 0), .ref (tr 0), .ref (pz 0), .ref (o 1), .ref (o 2), .ref (sz 0)]))] ++ (dyW k q t g X)) (fun r _ => r = nI (sp_figure g a j w)) (fun u => ([(o 0, .inr (7, [.ref (x 0), .ref (tq 0), .ref rd, .ref (q 0), .ref (tr 0), .ref (pz 0), .ref (o 1), .ref (o 2), .ref (sz 0)]))] ++ (dyW k q t g X))) := by
  refine ta_enter_i (by decide) (Nat.le_of_ble_eq_true rfl) ?_
  intro p e s m below meth c A ls Q C ret hP hD hS hl
  have C : ta_At p l D k s m ([.ref (o 0), .int (nI a), .int (nI j), .int (nI w)] : List Value).toArray c RX7 cX7_figure 5 A := C
  have hx := C.1.1
  have hb := C.1.2.1
  have hl : lv_has ls 5 [(0, .ref (o 0)), (1, .int (nI a)), (2, .int (nI j)), (3, .int (nI w))] := hl
  obtain ⟨H, hH⟩ : ∃ H, H = s.heap := ⟨_, rfl⟩
  obtain ⟨locs, hlocs⟩ : ∃ q : List Loc, q = [] := ⟨_, rfl⟩
  have hP : va_P D vwCl ([(o 0, .inr (7, [.ref (x 0), .ref (tq 0), .ref rd, .ref (q 0), .ref (tr 0), .ref (pz 0), .ref (o 1), .ref (o 2), .ref (sz 0)]))] ++ (dyW k q t g X)) H := by rw [hH]; exact hP
  have hS : va_S A s.heap H locs := by rw [hH, hlocs]; exact hS
  rw [← hlocs]
  suffices hgoal : W p l e ({ frames := 1, cells := 0, slots := 0, locals := 40 }) s m ([.ref (o 0), .int (nI a), .int (nI j), .int (nI w)] : List Value).toArray below meth c H locs 0 0 Q (F0 m 0 ls []) by rw [hH] at hgoal; exact hgoal
  clear hH hlocs
  obtain ⟨⟨a1, a2, a3, a4, a5, a6⟩, b1, b2, b3, b4, b6, b7, b8, b9⟩ := id hok
  refine lv_iload_n hx hb dX7_figure_0 rfl (lv_at hl 1 rfl) ?_
  refine ta_callSi (As := [.int (nI a)]) (rest0 := []) (Wr := ([(o 0, .inr (7, [.ref (x 0), .ref (tq 0), .ref rd, .ref (q 0), .ref (tr 0), .ref (pz 0), .ref (o 1), .ref (o 2), .ref (sz 0)]))] ++ (dyW k q t g X))) C hP hD hS (c_X7_isArmy l D k a (by omega)) [] [0, 1, 2, 3, 4, 5, 6, 7, 8, 9, 10, 11] rfl rfl (by decide) (by decide) (by decide) tw_385 tw_383 tw_2 tw_384 ⟨by decide, by decide, rfl⟩ ⟨Nat.le_of_ble_eq_true rfl, Nat.le_of_ble_eq_true rfl⟩ ⟨Nat.zero_le _, Nat.zero_le _⟩ hl.1 rfl (Nat.le_of_ble_eq_true rfl) dX7_figure_1 (fun r1 u2 H locs h3 hP hD hS => ?_)
  rcases h3 with h0 | h0
  · obtain ⟨hi4, rfl⟩ := h0
    have hP : va_P D vwCl ([(o 0, .inr (7, [.ref (x 0), .ref (tq 0), .ref rd, .ref (q 0), .ref (tr 0), .ref (pz 0), .ref (o 1), .ref (o 2), .ref (sz 0)]))] ++ (dyW k q t g X)) H := hP
    have hD : va_D A ([(o 0, .inr (7, [.ref (x 0), .ref (tq 0), .ref rd, .ref (q 0), .ref (tr 0), .ref (pz 0), .ref (o 1), .ref (o 2), .ref (sz 0)]))] ++ (dyW k q t g X)) := hD
    rcases (show a = 0 ∨ a = 1 by have h9 := hi4; omega) with rfl | rfl
    · have e6a : g (6 + 0) = g 6 := rfl
      have e8a : g (8 + 8 * 0) = g 8 := rfl
      have e24a : g (24 + 0) = g 24 := rfl
      refine lv_if_eq (tgt := 27) hx hb dX7_figure_4 (by decide) (fun c5 => ?_) (fun c5 => ?_)
      · exact absurd c5 (by decide)
      · refine lv_iload_n hx hb dX7_figure_7 rfl (lv_at hl 2 rfl) ?_
        refine ta_wilt C (a := j) (tgt := 27) (by omega) dX7_figure_8 (by decide) (fun c6 => ?_) (fun c6 => ?_)
        · refine ta_bipush C 4294967294 dX7_figure_27 (by decide) ?_
          have e1 : sp_figure g 0 j w = 4294967294 := by unfold sp_figure; (repeat' split) <;> omega
          exact ret (nI 4294967294) () dX7_figure_29 rfl (by rw [e1]) hP hD hS
        · refine lv_iload_n hx hb dX7_figure_11 rfl (lv_at hl 2 rfl) ?_
          refine lv_aload_n hx hb dX7_figure_12 rfl (lv_at hl 0 rfl) ?_
          refine ta_get C hP 0 inlX7 rfl rfl 3 (by decide) tw_27 rfl dX7_figure_13 ?_
          refine ta_getN C hP 1 inlX0 rfl rfl 13 (by decide) 36 rfl rfl dX7_figure_16 ?_
          refine lv_iload_n hx hb dX7_figure_19 rfl (lv_at hl 1 rfl) ?_
          refine ta_aald C hP 5 2 rfl rfl (i := 0) (x := q 5) (by omega) rfl dX7_figure_20 ?_
          refine ta_getN C hP 6 inlX1 rfl rfl 2 (by decide) 7 rfl rfl dX7_figure_21 ?_
          refine ta_wlt C (a := j) (b := g 6) (tgt := 30) (by omega) (by omega) dX7_figure_24 (by decide) (fun c7 => ?_) (fun c7 => ?_)
          · refine lv_iload_n hx hb dX7_figure_30 rfl (lv_at hl 3 rfl) ?_
            refine ta_wilt C (a := w) (tgt := 39) (by omega) dX7_figure_31 (by decide) (fun c8 => ?_) (fun c8 => ?_)
            · refine ta_bipush C 4294967293 dX7_figure_39 (by decide) ?_
              have e1 : sp_figure g 0 j w = 4294967293 := by unfold sp_figure; (repeat' split) <;> omega
              exact ret (nI 4294967293) () dX7_figure_41 rfl (by rw [e1]) hP hD hS
            · refine lv_iload_n hx hb dX7_figure_34 rfl (lv_at hl 3 rfl) ?_
              refine ta_iconst C 1 dX7_figure_35 (by decide) ?_
              refine ta_wle C (a := w) (b := 1) (tgt := 42) (by omega) (by omega) dX7_figure_36 (by decide) (fun c9 => ?_) (fun c9 => ?_)
              · refine lv_aload_n hx hb dX7_figure_42 rfl (lv_at hl 0 rfl) ?_
                refine ta_get C hP 0 inlX7 rfl rfl 3 (by decide) tw_27 rfl dX7_figure_43 ?_
                refine ta_getN C hP 1 inlX0 rfl rfl 13 (by decide) 36 rfl rfl dX7_figure_46 ?_
                refine lv_iload_n hx hb dX7_figure_49 rfl (lv_at hl 1 rfl) ?_
                refine ta_aald C hP 5 2 rfl rfl (i := 0) (x := q 5) (by omega) rfl dX7_figure_50 ?_
                refine lv_astore (lv' := [(4, .ref (q 5)), (0, .ref (o 0)), (1, .int (nI 0)), (2, .int (nI j)), (3, .int (nI w))]) hx hb dX7_figure_51 hl (by decide) rfl (fun ls hl => ?_)
                refine lv_iload_n hx hb dX7_figure_53 rfl (lv_at hl 4 rfl) ?_
                refine ta_ine C (a := w) (tgt := 67) (by omega) dX7_figure_54 (by decide) (fun c10 => ?_) (fun c10 => ?_)
                · refine lv_aload hx hb dX7_figure_67 (lv_at hl 0 rfl) ?_
                  refine ta_getN C hP 6 inlX1 rfl rfl 1 (by decide) 4 rfl rfl dX7_figure_69 ?_
                  refine lv_iload_n hx hb dX7_figure_72 rfl (lv_at hl 3 rfl) ?_
                  refine ta_iald C hP 8 rfl (i := j) (by omega) dX7_figure_73 ?_
                  obtain ⟨hx1, hx2⟩ := hX.1 j (by omega)
                  have e8j : g (8 + 8 * 0 + j) = g (8 + j) := rfl
                  have e1 : sp_figure g 0 j w = (X 1) j := by unfold sp_figure; (repeat' split) <;> omega
                  exact ret (nI ((X 1) j)) () dX7_figure_74 rfl (by rw [e1]) hP hD hS
                · refine lv_aload hx hb dX7_figure_57 (lv_at hl 0 rfl) ?_
                  refine ta_getN C hP 6 inlX1 rfl rfl 0 (by decide) 2 rfl rfl dX7_figure_59 ?_
                  refine lv_iload_n hx hb dX7_figure_62 rfl (lv_at hl 3 rfl) ?_
                  refine ta_iald C hP 7 rfl (i := j) (by omega) dX7_figure_63 ?_
                  refine lv_goto (tgt := 74) hx hb dX7_figure_64 (by decide) ?_
                  obtain ⟨hx1, hx2⟩ := hX.1 j (by omega)
                  have e8j : g (8 + 8 * 0 + j) = g (8 + j) := rfl
                  have e1 : sp_figure g 0 j w = (X 0) j := by unfold sp_figure; (repeat' split) <;> omega
                  exact ret (nI ((X 0) j)) () dX7_figure_74 rfl (by rw [e1]) hP hD hS
              · refine ta_bipush C 4294967293 dX7_figure_39 (by decide) ?_
                have e1 : sp_figure g 0 j w = 4294967293 := by unfold sp_figure; (repeat' split) <;> omega
                exact ret (nI 4294967293) () dX7_figure_41 rfl (by rw [e1]) hP hD hS
          · refine ta_bipush C 4294967294 dX7_figure_27 (by decide) ?_
            have e1 : sp_figure g 0 j w = 4294967294 := by unfold sp_figure; (repeat' split) <;> omega
            exact ret (nI 4294967294) () dX7_figure_29 rfl (by rw [e1]) hP hD hS
    · have e6a : g (6 + 1) = g 7 := rfl
      have e8a : g (8 + 8 * 1) = g 16 := rfl
      have e24a : g (24 + 1) = g 25 := rfl
      refine lv_if_eq (tgt := 27) hx hb dX7_figure_4 (by decide) (fun c11 => ?_) (fun c11 => ?_)
      · exact absurd c11 (by decide)
      · refine lv_iload_n hx hb dX7_figure_7 rfl (lv_at hl 2 rfl) ?_
        refine ta_wilt C (a := j) (tgt := 27) (by omega) dX7_figure_8 (by decide) (fun c12 => ?_) (fun c12 => ?_)
        · refine ta_bipush C 4294967294 dX7_figure_27 (by decide) ?_
          have e1 : sp_figure g 1 j w = 4294967294 := by unfold sp_figure; (repeat' split) <;> omega
          exact ret (nI 4294967294) () dX7_figure_29 rfl (by rw [e1]) hP hD hS
        · refine lv_iload_n hx hb dX7_figure_11 rfl (lv_at hl 2 rfl) ?_
          refine lv_aload_n hx hb dX7_figure_12 rfl (lv_at hl 0 rfl) ?_
          refine ta_get C hP 0 inlX7 rfl rfl 3 (by decide) tw_27 rfl dX7_figure_13 ?_
          refine ta_getN C hP 1 inlX0 rfl rfl 13 (by decide) 36 rfl rfl dX7_figure_16 ?_
          refine lv_iload_n hx hb dX7_figure_19 rfl (lv_at hl 1 rfl) ?_
          refine ta_aald C hP 5 2 rfl rfl (i := 1) (x := q 8) (by omega) rfl dX7_figure_20 ?_
          refine ta_getN C hP 9 inlX1 rfl rfl 2 (by decide) 7 rfl rfl dX7_figure_21 ?_
          refine ta_wlt C (a := j) (b := g 7) (tgt := 30) (by omega) (by omega) dX7_figure_24 (by decide) (fun c13 => ?_) (fun c13 => ?_)
          · refine lv_iload_n hx hb dX7_figure_30 rfl (lv_at hl 3 rfl) ?_
            refine ta_wilt C (a := w) (tgt := 39) (by omega) dX7_figure_31 (by decide) (fun c14 => ?_) (fun c14 => ?_)
            · refine ta_bipush C 4294967293 dX7_figure_39 (by decide) ?_
              have e1 : sp_figure g 1 j w = 4294967293 := by unfold sp_figure; (repeat' split) <;> omega
              exact ret (nI 4294967293) () dX7_figure_41 rfl (by rw [e1]) hP hD hS
            · refine lv_iload_n hx hb dX7_figure_34 rfl (lv_at hl 3 rfl) ?_
              refine ta_iconst C 1 dX7_figure_35 (by decide) ?_
              refine ta_wle C (a := w) (b := 1) (tgt := 42) (by omega) (by omega) dX7_figure_36 (by decide) (fun c15 => ?_) (fun c15 => ?_)
              · refine lv_aload_n hx hb dX7_figure_42 rfl (lv_at hl 0 rfl) ?_
                refine ta_get C hP 0 inlX7 rfl rfl 3 (by decide) tw_27 rfl dX7_figure_43 ?_
                refine ta_getN C hP 1 inlX0 rfl rfl 13 (by decide) 36 rfl rfl dX7_figure_46 ?_
                refine lv_iload_n hx hb dX7_figure_49 rfl (lv_at hl 1 rfl) ?_
                refine ta_aald C hP 5 2 rfl rfl (i := 1) (x := q 8) (by omega) rfl dX7_figure_50 ?_
                refine lv_astore (lv' := [(4, .ref (q 8)), (0, .ref (o 0)), (1, .int (nI 1)), (2, .int (nI j)), (3, .int (nI w))]) hx hb dX7_figure_51 hl (by decide) rfl (fun ls hl => ?_)
                refine lv_iload_n hx hb dX7_figure_53 rfl (lv_at hl 4 rfl) ?_
                refine ta_ine C (a := w) (tgt := 67) (by omega) dX7_figure_54 (by decide) (fun c16 => ?_) (fun c16 => ?_)
                · refine lv_aload hx hb dX7_figure_67 (lv_at hl 0 rfl) ?_
                  refine ta_getN C hP 9 inlX1 rfl rfl 1 (by decide) 4 rfl rfl dX7_figure_69 ?_
                  refine lv_iload_n hx hb dX7_figure_72 rfl (lv_at hl 3 rfl) ?_
                  refine ta_iald C hP 11 rfl (i := j) (by omega) dX7_figure_73 ?_
                  obtain ⟨hx1, hx2⟩ := hX.2 j (by omega)
                  have e8j : g (8 + 8 * 1 + j) = g (16 + j) := rfl
                  have e1 : sp_figure g 1 j w = (X 3) j := by unfold sp_figure; (repeat' split) <;> omega
                  exact ret (nI ((X 3) j)) () dX7_figure_74 rfl (by rw [e1]) hP hD hS
                · refine lv_aload hx hb dX7_figure_57 (lv_at hl 0 rfl) ?_
                  refine ta_getN C hP 9 inlX1 rfl rfl 0 (by decide) 2 rfl rfl dX7_figure_59 ?_
                  refine lv_iload_n hx hb dX7_figure_62 rfl (lv_at hl 3 rfl) ?_
                  refine ta_iald C hP 10 rfl (i := j) (by omega) dX7_figure_63 ?_
                  refine lv_goto (tgt := 74) hx hb dX7_figure_64 (by decide) ?_
                  obtain ⟨hx1, hx2⟩ := hX.2 j (by omega)
                  have e8j : g (8 + 8 * 1 + j) = g (16 + j) := rfl
                  have e1 : sp_figure g 1 j w = (X 2) j := by unfold sp_figure; (repeat' split) <;> omega
                  exact ret (nI ((X 2) j)) () dX7_figure_74 rfl (by rw [e1]) hP hD hS
              · refine ta_bipush C 4294967293 dX7_figure_39 (by decide) ?_
                have e1 : sp_figure g 1 j w = 4294967293 := by unfold sp_figure; (repeat' split) <;> omega
                exact ret (nI 4294967293) () dX7_figure_41 rfl (by rw [e1]) hP hD hS
          · refine ta_bipush C 4294967294 dX7_figure_27 (by decide) ?_
            have e1 : sp_figure g 1 j w = 4294967294 := by unfold sp_figure; (repeat' split) <;> omega
            exact ret (nI 4294967294) () dX7_figure_29 rfl (by rw [e1]) hP hD hS
  · obtain ⟨hi17, rfl⟩ := h0
    have hP : va_P D vwCl ([(o 0, .inr (7, [.ref (x 0), .ref (tq 0), .ref rd, .ref (q 0), .ref (tr 0), .ref (pz 0), .ref (o 1), .ref (o 2), .ref (sz 0)]))] ++ (dyW k q t g X)) H := hP
    have hD : va_D A ([(o 0, .inr (7, [.ref (x 0), .ref (tq 0), .ref rd, .ref (q 0), .ref (tr 0), .ref (pz 0), .ref (o 1), .ref (o 2), .ref (sz 0)]))] ++ (dyW k q t g X)) := hD
    refine lv_if_eq (tgt := 27) hx hb dX7_figure_4 (by decide) (fun c18 => ?_) (fun c18 => ?_)
    · refine ta_bipush C 4294967294 dX7_figure_27 (by decide) ?_
      have e1 : sp_figure g a j w = 4294967294 := by unfold sp_figure; (repeat' split) <;> omega
      exact ret (nI 4294967294) () dX7_figure_29 rfl (by rw [e1]) hP hD hS
    · exact absurd c18 (by decide)

set_option maxHeartbeats 4000000 in
set_option maxRecDepth 100000 in
theorem c_X7_army (l : Launch) (D : va_G) (k : ta_C) (o : Nat → Nat) (x : Nat → Nat) (tq : Nat → Nat) (rd : Nat) (q : Nat → Nat) (tr : Nat → Nat) (pz : Nat → Nat) (sz : Nat → Nat) (t : Nat → Nat) (g : Nat → Nat) (X : Nat → Nat → Nat) (a : Nat) (w : Nat) (hok : tg_ok t g) (hh0 : g 0 < 1000000) (hX : tg_X g X) (wa : a < 4294967296) (ww : w < 4294967296) : ta_Mi (S := Unit) l D k yX7_army cX7_army 3 .int 1 40 [.ref (o 0), .int (nI a), .int (nI w)] ([(o 0, .inr (7, [.ref (x 0), .ref (tq 0), .ref rd, .ref (q 0), .ref (tr 0), .ref (pz 0), .ref (o 1), .ref (o 2), .ref (sz 0)]))] ++ (dyW k q t g X)) (fun r _ => r = nI (sp_army g a w)) (fun u => ([(o 0, .inr (7, [.ref (x 0), .ref (tq 0), .ref rd, .ref (q 0), .ref (tr 0), .ref (pz 0), .ref (o 1), .ref (o 2), .ref (sz 0)]))] ++ (dyW k q t g X))) := by
  refine ta_enter_i (by decide) (Nat.le_of_ble_eq_true rfl) ?_
  intro p e s m below meth c A ls Q C ret hP hD hS hl
  have C : ta_At p l D k s m ([.ref (o 0), .int (nI a), .int (nI w)] : List Value).toArray c RX7 cX7_army 3 A := C
  have hx := C.1.1
  have hb := C.1.2.1
  have hl : lv_has ls 3 [(0, .ref (o 0)), (1, .int (nI a)), (2, .int (nI w))] := hl
  obtain ⟨H, hH⟩ : ∃ H, H = s.heap := ⟨_, rfl⟩
  obtain ⟨locs, hlocs⟩ : ∃ q : List Loc, q = [] := ⟨_, rfl⟩
  have hP : va_P D vwCl ([(o 0, .inr (7, [.ref (x 0), .ref (tq 0), .ref rd, .ref (q 0), .ref (tr 0), .ref (pz 0), .ref (o 1), .ref (o 2), .ref (sz 0)]))] ++ (dyW k q t g X)) H := by rw [hH]; exact hP
  have hS : va_S A s.heap H locs := by rw [hH, hlocs]; exact hS
  rw [← hlocs]
  suffices hgoal : W p l e ({ frames := 1, cells := 0, slots := 0, locals := 40 }) s m ([.ref (o 0), .int (nI a), .int (nI w)] : List Value).toArray below meth c H locs 0 0 Q (F0 m 0 ls []) by rw [hH] at hgoal; exact hgoal
  clear hH hlocs
  obtain ⟨⟨a1, a2, a3, a4, a5, a6⟩, b1, b2, b3, b4, b6, b7, b8, b9⟩ := id hok
  refine lv_iload_n hx hb dX7_army_0 rfl (lv_at hl 1 rfl) ?_
  refine ta_callSi (As := [.int (nI a)]) (rest0 := []) (Wr := ([(o 0, .inr (7, [.ref (x 0), .ref (tq 0), .ref rd, .ref (q 0), .ref (tr 0), .ref (pz 0), .ref (o 1), .ref (o 2), .ref (sz 0)]))] ++ (dyW k q t g X))) C hP hD hS (c_X7_isArmy l D k a (by omega)) [] [0, 1, 2, 3, 4, 5, 6, 7, 8, 9, 10, 11] rfl rfl (by decide) (by decide) (by decide) tw_385 tw_383 tw_2 tw_384 ⟨by decide, by decide, rfl⟩ ⟨Nat.le_of_ble_eq_true rfl, Nat.le_of_ble_eq_true rfl⟩ ⟨Nat.zero_le _, Nat.zero_le _⟩ hl.1 rfl (Nat.le_of_ble_eq_true rfl) dX7_army_1 (fun r1 u2 H locs h3 hP hD hS => ?_)
  rcases h3 with h0 | h0
  · obtain ⟨hi4, rfl⟩ := h0
    have hP : va_P D vwCl ([(o 0, .inr (7, [.ref (x 0), .ref (tq 0), .ref rd, .ref (q 0), .ref (tr 0), .ref (pz 0), .ref (o 1), .ref (o 2), .ref (sz 0)]))] ++ (dyW k q t g X)) H := hP
    have hD : va_D A ([(o 0, .inr (7, [.ref (x 0), .ref (tq 0), .ref rd, .ref (q 0), .ref (tr 0), .ref (pz 0), .ref (o 1), .ref (o 2), .ref (sz 0)]))] ++ (dyW k q t g X)) := hD
    rcases (show a = 0 ∨ a = 1 by have h9 := hi4; omega) with rfl | rfl
    · have e6a : g (6 + 0) = g 6 := rfl
      have e8a : g (8 + 8 * 0) = g 8 := rfl
      have e24a : g (24 + 0) = g 24 := rfl
      refine lv_if_ne (tgt := 10) hx hb dX7_army_4 (by decide) (fun c5 => ?_) (fun c5 => ?_)
      · refine lv_iload_n hx hb dX7_army_10 rfl (lv_at hl 2 rfl) ?_
        rcases (show w = 0 ∨ w = 1 ∨ w = 2 ∨ 3 ≤ w by omega) with rfl | rfl | rfl | hout
        · refine lv_tableIn (tgt := 36) hx hb dX7_army_11 (by decide) (by decide) (off := 25) (by decide) (by decide) ?_
          refine lv_aload_n hx hb dX7_army_36 rfl (lv_at hl 0 rfl) ?_
          refine ta_get C hP 0 inlX7 rfl rfl 3 (by decide) tw_27 rfl dX7_army_37 ?_
          refine ta_getN C hP 1 inlX0 rfl rfl 13 (by decide) 36 rfl rfl dX7_army_40 ?_
          refine lv_iload_n hx hb dX7_army_43 rfl (lv_at hl 1 rfl) ?_
          refine ta_aald C hP 5 2 rfl rfl (i := 0) (x := q 5) (by omega) rfl dX7_army_44 ?_
          refine ta_getN C hP 6 inlX1 rfl rfl 2 (by decide) 7 rfl rfl dX7_army_45 ?_
          have ekn : tg_kne g 0 = g 24 := rfl
          have e1 : sp_army g 0 0 = g 6 := by unfold sp_army; (repeat' split) <;> omega
          exact ret (nI (g 6)) () dX7_army_48 rfl (by rw [e1]) hP hD hS
        · refine lv_tableIn (tgt := 49) hx hb dX7_army_11 (by decide) (by decide) (off := 38) (by decide) (by decide) ?_
          refine lv_aload_n hx hb dX7_army_49 rfl (lv_at hl 0 rfl) ?_
          refine ta_get C hP 0 inlX7 rfl rfl 3 (by decide) tw_27 rfl dX7_army_50 ?_
          refine ta_getN C hP 1 inlX0 rfl rfl 12 (by decide) 35 rfl rfl dX7_army_53 ?_
          refine lv_iload_n hx hb dX7_army_56 rfl (lv_at hl 1 rfl) ?_
          refine ta_iald C hP 4 rfl (i := 0) (by omega) dX7_army_57 ?_
          have ekn : tg_kne g 0 = g 24 := rfl
          have e1 : sp_army g 0 1 = (tg_kne g) 0 := by unfold sp_army; (repeat' split) <;> omega
          exact ret (nI ((tg_kne g) 0)) () dX7_army_58 rfl (by rw [e1]) hP hD hS
        · refine lv_tableIn (tgt := 59) hx hb dX7_army_11 (by decide) (by decide) (off := 48) (by decide) (by decide) ?_
          refine lv_aload_n hx hb dX7_army_59 rfl (lv_at hl 0 rfl) ?_
          refine ta_get C hP 0 inlX7 rfl rfl 3 (by decide) tw_27 rfl dX7_army_60 ?_
          refine ta_callVi (As := []) (rest0 := []) (Wr := [(o 0, .inr (7, [.ref (x 0), .ref (tq 0), .ref rd, .ref (q 0), .ref (tr 0), .ref (pz 0), .ref (o 1), .ref (o 2), .ref (sz 0)]))]) C hP hD hS (c_X0_armyOfHour l D k q t g X (by omega)) 1 rfl rfl rfl [1, 2, 3, 4, 5, 6, 7, 8, 9, 10, 11] [0] rfl rfl (by decide) (by decide) (by decide) tw_401 tw_398 tw_26 tw_399 tw_400 ⟨by decide, by decide, rfl⟩ ⟨Nat.le_of_ble_eq_true rfl, Nat.le_of_ble_eq_true rfl⟩ ⟨Nat.zero_le _, Nat.zero_le _⟩ hl.1 rfl (Nat.le_of_ble_eq_true rfl) dX7_army_63 (fun r6 u7 H locs h8 hP hD hS => ?_)
          obtain rfl := h8
          have hP : va_P D vwCl ([(o 0, .inr (7, [.ref (x 0), .ref (tq 0), .ref rd, .ref (q 0), .ref (tr 0), .ref (pz 0), .ref (o 1), .ref (o 2), .ref (sz 0)]))] ++ (dyW k q t g X)) H := hP
          have hD : va_D A ([(o 0, .inr (7, [.ref (x 0), .ref (tq 0), .ref rd, .ref (q 0), .ref (tr 0), .ref (pz 0), .ref (o 1), .ref (o 2), .ref (sz 0)]))] ++ (dyW k q t g X)) := hD
          refine lv_iload_n hx hb dX7_army_66 rfl (lv_at hl 1 rfl) ?_
          refine ta_cne C (a := g 0 % 2) (b := 0) (tgt := 74) (by omega) (by omega) dX7_army_67 (by decide) (fun c9 => ?_) (fun c9 => ?_)
          · refine ta_iconst C 0 dX7_army_74 (by decide) ?_
            have ekn : tg_kne g 0 = g 24 := rfl
            have e1 : sp_army g 0 2 = 0 := by unfold sp_army; (repeat' split) <;> omega
            exact ret (nI 0) () dX7_army_75 rfl (by rw [e1]) hP hD hS
          · refine ta_iconst C 1 dX7_army_70 (by decide) ?_
            refine lv_goto (tgt := 75) hx hb dX7_army_71 (by decide) ?_
            have ekn : tg_kne g 0 = g 24 := rfl
            have e1 : sp_army g 0 2 = 1 := by unfold sp_army; (repeat' split) <;> omega
            exact ret (nI 1) () dX7_army_75 rfl (by rw [e1]) hP hD hS
        · refine lv_tableOut (tgt := 76) hx hb dX7_army_11 (ta_swo (by omega) (by omega)) (by decide) ?_
          refine ta_bipush C 4294967293 dX7_army_76 (by decide) ?_
          have ekn : tg_kne g 0 = g 24 := rfl
          have e1 : sp_army g 0 w = 4294967293 := by unfold sp_army; (repeat' split) <;> omega
          exact ret (nI 4294967293) () dX7_army_78 rfl (by rw [e1]) hP hD hS
      · exact absurd c5 (by decide)
    · have e6a : g (6 + 1) = g 7 := rfl
      have e8a : g (8 + 8 * 1) = g 16 := rfl
      have e24a : g (24 + 1) = g 25 := rfl
      refine lv_if_ne (tgt := 10) hx hb dX7_army_4 (by decide) (fun c10 => ?_) (fun c10 => ?_)
      · refine lv_iload_n hx hb dX7_army_10 rfl (lv_at hl 2 rfl) ?_
        rcases (show w = 0 ∨ w = 1 ∨ w = 2 ∨ 3 ≤ w by omega) with rfl | rfl | rfl | hout
        · refine lv_tableIn (tgt := 36) hx hb dX7_army_11 (by decide) (by decide) (off := 25) (by decide) (by decide) ?_
          refine lv_aload_n hx hb dX7_army_36 rfl (lv_at hl 0 rfl) ?_
          refine ta_get C hP 0 inlX7 rfl rfl 3 (by decide) tw_27 rfl dX7_army_37 ?_
          refine ta_getN C hP 1 inlX0 rfl rfl 13 (by decide) 36 rfl rfl dX7_army_40 ?_
          refine lv_iload_n hx hb dX7_army_43 rfl (lv_at hl 1 rfl) ?_
          refine ta_aald C hP 5 2 rfl rfl (i := 1) (x := q 8) (by omega) rfl dX7_army_44 ?_
          refine ta_getN C hP 9 inlX1 rfl rfl 2 (by decide) 7 rfl rfl dX7_army_45 ?_
          have ekn : tg_kne g 1 = g 25 := rfl
          have e1 : sp_army g 1 0 = g 7 := by unfold sp_army; (repeat' split) <;> omega
          exact ret (nI (g 7)) () dX7_army_48 rfl (by rw [e1]) hP hD hS
        · refine lv_tableIn (tgt := 49) hx hb dX7_army_11 (by decide) (by decide) (off := 38) (by decide) (by decide) ?_
          refine lv_aload_n hx hb dX7_army_49 rfl (lv_at hl 0 rfl) ?_
          refine ta_get C hP 0 inlX7 rfl rfl 3 (by decide) tw_27 rfl dX7_army_50 ?_
          refine ta_getN C hP 1 inlX0 rfl rfl 12 (by decide) 35 rfl rfl dX7_army_53 ?_
          refine lv_iload_n hx hb dX7_army_56 rfl (lv_at hl 1 rfl) ?_
          refine ta_iald C hP 4 rfl (i := 1) (by omega) dX7_army_57 ?_
          have ekn : tg_kne g 1 = g 25 := rfl
          have e1 : sp_army g 1 1 = (tg_kne g) 1 := by unfold sp_army; (repeat' split) <;> omega
          exact ret (nI ((tg_kne g) 1)) () dX7_army_58 rfl (by rw [e1]) hP hD hS
        · refine lv_tableIn (tgt := 59) hx hb dX7_army_11 (by decide) (by decide) (off := 48) (by decide) (by decide) ?_
          refine lv_aload_n hx hb dX7_army_59 rfl (lv_at hl 0 rfl) ?_
          refine ta_get C hP 0 inlX7 rfl rfl 3 (by decide) tw_27 rfl dX7_army_60 ?_
          refine ta_callVi (As := []) (rest0 := []) (Wr := [(o 0, .inr (7, [.ref (x 0), .ref (tq 0), .ref rd, .ref (q 0), .ref (tr 0), .ref (pz 0), .ref (o 1), .ref (o 2), .ref (sz 0)]))]) C hP hD hS (c_X0_armyOfHour l D k q t g X (by omega)) 1 rfl rfl rfl [1, 2, 3, 4, 5, 6, 7, 8, 9, 10, 11] [0] rfl rfl (by decide) (by decide) (by decide) tw_401 tw_398 tw_26 tw_399 tw_400 ⟨by decide, by decide, rfl⟩ ⟨Nat.le_of_ble_eq_true rfl, Nat.le_of_ble_eq_true rfl⟩ ⟨Nat.zero_le _, Nat.zero_le _⟩ hl.1 rfl (Nat.le_of_ble_eq_true rfl) dX7_army_63 (fun r11 u12 H locs h13 hP hD hS => ?_)
          obtain rfl := h13
          have hP : va_P D vwCl ([(o 0, .inr (7, [.ref (x 0), .ref (tq 0), .ref rd, .ref (q 0), .ref (tr 0), .ref (pz 0), .ref (o 1), .ref (o 2), .ref (sz 0)]))] ++ (dyW k q t g X)) H := hP
          have hD : va_D A ([(o 0, .inr (7, [.ref (x 0), .ref (tq 0), .ref rd, .ref (q 0), .ref (tr 0), .ref (pz 0), .ref (o 1), .ref (o 2), .ref (sz 0)]))] ++ (dyW k q t g X)) := hD
          refine lv_iload_n hx hb dX7_army_66 rfl (lv_at hl 1 rfl) ?_
          refine ta_cne C (a := g 0 % 2) (b := 1) (tgt := 74) (by omega) (by omega) dX7_army_67 (by decide) (fun c14 => ?_) (fun c14 => ?_)
          · refine ta_iconst C 0 dX7_army_74 (by decide) ?_
            have ekn : tg_kne g 1 = g 25 := rfl
            have e1 : sp_army g 1 2 = 0 := by unfold sp_army; (repeat' split) <;> omega
            exact ret (nI 0) () dX7_army_75 rfl (by rw [e1]) hP hD hS
          · refine ta_iconst C 1 dX7_army_70 (by decide) ?_
            refine lv_goto (tgt := 75) hx hb dX7_army_71 (by decide) ?_
            have ekn : tg_kne g 1 = g 25 := rfl
            have e1 : sp_army g 1 2 = 1 := by unfold sp_army; (repeat' split) <;> omega
            exact ret (nI 1) () dX7_army_75 rfl (by rw [e1]) hP hD hS
        · refine lv_tableOut (tgt := 76) hx hb dX7_army_11 (ta_swo (by omega) (by omega)) (by decide) ?_
          refine ta_bipush C 4294967293 dX7_army_76 (by decide) ?_
          have ekn : tg_kne g 1 = g 25 := rfl
          have e1 : sp_army g 1 w = 4294967293 := by unfold sp_army; (repeat' split) <;> omega
          exact ret (nI 4294967293) () dX7_army_78 rfl (by rw [e1]) hP hD hS
      · exact absurd c10 (by decide)
  · obtain ⟨hi15, rfl⟩ := h0
    have hP : va_P D vwCl ([(o 0, .inr (7, [.ref (x 0), .ref (tq 0), .ref rd, .ref (q 0), .ref (tr 0), .ref (pz 0), .ref (o 1), .ref (o 2), .ref (sz 0)]))] ++ (dyW k q t g X)) H := hP
    have hD : va_D A ([(o 0, .inr (7, [.ref (x 0), .ref (tq 0), .ref rd, .ref (q 0), .ref (tr 0), .ref (pz 0), .ref (o 1), .ref (o 2), .ref (sz 0)]))] ++ (dyW k q t g X)) := hD
    refine lv_if_ne (tgt := 10) hx hb dX7_army_4 (by decide) (fun c16 => ?_) (fun c16 => ?_)
    · exact absurd c16 (by decide)
    · refine ta_bipush C 4294967294 dX7_army_7 (by decide) ?_
      have e1 : sp_army g a w = 4294967294 := by unfold sp_army; (repeat' split) <;> omega
      exact ret (nI 4294967294) () dX7_army_9 rfl (by rw [e1]) hP hD hS

set_option maxHeartbeats 4000000 in
set_option maxRecDepth 100000 in
theorem c_X7_as (l : Launch) (D : va_G) (k : ta_C) (o : Nat → Nat) (x : Nat → Nat) (tq : Nat → Nat) (rd : Nat) (q : Nat → Nat) (tr : Nat → Nat) (pz : Nat → Nat) (sz : Nat → Nat) (t : Nat → Nat) (g : Nat → Nat) (X : Nat → Nat → Nat) (a : Nat) (kd : Nat) (hok : tg_ok t g) (hh0 : g 0 < 1000000) (hX : tg_X g X) (wa : a < 4294967296) (wkd : kd < 4294967296) : ta_Mi (S := Unit) l D k yX7_as cX7_as 4 .int 1 40 [.ref (o 0), .int (nI a), .int (nI kd)] ([(o 0, .inr (7, [.ref (x 0), .ref (tq 0), .ref rd, .ref (q 0), .ref (tr 0), .ref (pz 0), .ref (o 1), .ref (o 2), .ref (sz 0)]))] ++ (dyW k q t g X)) (fun r _ => r = nI (sp_as g a kd)) (fun u => ([(o 0, .inr (7, [.ref (x 0), .ref (tq 0), .ref rd, .ref (q 0), .ref (tr 0), .ref (pz 0), .ref (o 1), .ref (o 2), .ref (sz 0)]))] ++ (dyW k q t g X))) := by
  refine ta_enter_i (by decide) (Nat.le_of_ble_eq_true rfl) ?_
  intro p e s m below meth c A ls Q C ret hP hD hS hl
  have C : ta_At p l D k s m ([.ref (o 0), .int (nI a), .int (nI kd)] : List Value).toArray c RX7 cX7_as 4 A := C
  have hx := C.1.1
  have hb := C.1.2.1
  have hl : lv_has ls 4 [(0, .ref (o 0)), (1, .int (nI a)), (2, .int (nI kd))] := hl
  obtain ⟨H, hH⟩ : ∃ H, H = s.heap := ⟨_, rfl⟩
  obtain ⟨locs, hlocs⟩ : ∃ q : List Loc, q = [] := ⟨_, rfl⟩
  have hP : va_P D vwCl ([(o 0, .inr (7, [.ref (x 0), .ref (tq 0), .ref rd, .ref (q 0), .ref (tr 0), .ref (pz 0), .ref (o 1), .ref (o 2), .ref (sz 0)]))] ++ (dyW k q t g X)) H := by rw [hH]; exact hP
  have hS : va_S A s.heap H locs := by rw [hH, hlocs]; exact hS
  rw [← hlocs]
  suffices hgoal : W p l e ({ frames := 1, cells := 0, slots := 0, locals := 40 }) s m ([.ref (o 0), .int (nI a), .int (nI kd)] : List Value).toArray below meth c H locs 0 0 Q (F0 m 0 ls []) by rw [hH] at hgoal; exact hgoal
  clear hH hlocs
  obtain ⟨⟨a1, a2, a3, a4, a5, a6⟩, b1, b2, b3, b4, b6, b7, b8, b9⟩ := id hok
  refine lv_iload_n hx hb dX7_as_0 rfl (lv_at hl 1 rfl) ?_
  refine ta_callSi (As := [.int (nI a)]) (rest0 := []) (Wr := ([(o 0, .inr (7, [.ref (x 0), .ref (tq 0), .ref rd, .ref (q 0), .ref (tr 0), .ref (pz 0), .ref (o 1), .ref (o 2), .ref (sz 0)]))] ++ (dyW k q t g X))) C hP hD hS (c_X7_isArmy l D k a (by omega)) [] [0, 1, 2, 3, 4, 5, 6, 7, 8, 9, 10, 11] rfl rfl (by decide) (by decide) (by decide) tw_385 tw_383 tw_2 tw_384 ⟨by decide, by decide, rfl⟩ ⟨Nat.le_of_ble_eq_true rfl, Nat.le_of_ble_eq_true rfl⟩ ⟨Nat.zero_le _, Nat.zero_le _⟩ hl.1 rfl (Nat.le_of_ble_eq_true rfl) dX7_as_1 (fun r1 u2 H locs h3 hP hD hS => ?_)
  rcases h3 with h0 | h0
  · obtain ⟨hi4, rfl⟩ := h0
    have hP : va_P D vwCl ([(o 0, .inr (7, [.ref (x 0), .ref (tq 0), .ref rd, .ref (q 0), .ref (tr 0), .ref (pz 0), .ref (o 1), .ref (o 2), .ref (sz 0)]))] ++ (dyW k q t g X)) H := hP
    have hD : va_D A ([(o 0, .inr (7, [.ref (x 0), .ref (tq 0), .ref rd, .ref (q 0), .ref (tr 0), .ref (pz 0), .ref (o 1), .ref (o 2), .ref (sz 0)]))] ++ (dyW k q t g X)) := hD
    rcases (show a = 0 ∨ a = 1 by have h9 := hi4; omega) with rfl | rfl
    · have e6a : g (6 + 0) = g 6 := rfl
      have e8a : g (8 + 8 * 0) = g 8 := rfl
      have e24a : g (24 + 0) = g 24 := rfl
      refine lv_if_ne (tgt := 10) hx hb dX7_as_4 (by decide) (fun c5 => ?_) (fun c5 => ?_)
      · refine lv_iload_n hx hb dX7_as_10 rfl (lv_at hl 2 rfl) ?_
        refine ta_wilt C (a := kd) (tgt := 22) (by omega) dX7_as_11 (by decide) (fun c6 => ?_) (fun c6 => ?_)
        · refine ta_bipush C 4294967293 dX7_as_22 (by decide) ?_
          have e1 : sp_as g 0 kd = 4294967293 := by
            unfold sp_as
            (repeat' split) <;> omega
          exact ret (nI 4294967293) () dX7_as_24 rfl (by rw [e1]) hP hD hS
        · refine lv_iload_n hx hb dX7_as_14 rfl (lv_at hl 2 rfl) ?_
          refine va_gets hx hb C.2.1.2.2.2.2.2.2.1.1 hS C.1.2.2.2.1 (C.1.2.2.2.2 _ tw_410) (fun _ h => h) dX7_as_15 ?_
          refine va_tlen hx hb C.2.1.2.2.2.2.2.2.1.2 hS (v := nI 6) rfl dX7_as_18 ?_
          refine ta_wlt C (a := kd) (b := 6) (tgt := 25) (by omega) (by omega) dX7_as_19 (by decide) (fun c7 => ?_) (fun c7 => ?_)
          · refine lv_aload_n hx hb dX7_as_25 rfl (lv_at hl 0 rfl) ?_
            refine ta_get C hP 0 inlX7 rfl rfl 3 (by decide) tw_27 rfl dX7_as_26 ?_
            refine ta_getN C hP 1 inlX0 rfl rfl 13 (by decide) 36 rfl rfl dX7_as_29 ?_
            refine lv_iload_n hx hb dX7_as_32 rfl (lv_at hl 1 rfl) ?_
            refine ta_aald C hP 5 2 rfl rfl (i := 0) (x := q 5) (by omega) rfl dX7_as_33 ?_
            refine lv_astore_n (lv' := [(3, .ref (q 5)), (0, .ref (o 0)), (1, .int (nI 0)), (2, .int (nI kd))]) hx hb dX7_as_34 rfl hl (by decide) rfl (fun ls hl => ?_)
            refine lv_aload_n hx hb dX7_as_35 rfl (lv_at hl 0 rfl) ?_
            refine ta_getN C hP 6 inlX1 rfl rfl 2 (by decide) 7 rfl rfl dX7_as_36 ?_
            refine ta_ieq C (a := g 6) (tgt := 57) (by omega) dX7_as_39 (by decide) (fun c8 => ?_) (fun c8 => ?_)
            · refine ta_bipush C 4294967292 dX7_as_57 (by decide) ?_
              have e1 : sp_as g 0 kd = 4294967292 := by
                unfold sp_as
                (repeat' split) <;> omega
              exact ret (nI 4294967292) () dX7_as_59 rfl (by rw [e1]) hP hD hS
            · obtain ⟨hx1, -⟩ := hX.1 0 (by omega)
              have hx1 : X 0 0 = g 8 / 10 := hx1
              have hf50 : g 8 < 50 := (b8 0 (by omega)).1
              refine lv_aload_n hx hb dX7_as_42 rfl (lv_at hl 0 rfl) ?_
              refine ta_getN C hP 6 inlX1 rfl rfl 0 (by decide) 2 rfl rfl dX7_as_43 ?_
              refine ta_iconst C 0 dX7_as_46 (by decide) ?_
              refine ta_iald C hP 7 rfl (i := 0) (by omega) dX7_as_47 ?_
              refine ta_iconst C 1 dX7_as_48 (by decide) ?_
              refine ta_iadd C (a := (X 0) 0) (b := 1) dX7_as_49 ?_
              refine lv_iload_n hx hb dX7_as_50 rfl (lv_at hl 3 rfl) ?_
              refine ta_callSi (As := [.int (nI (((X 0) 0) + 1)), .int (nI kd)]) (rest0 := []) (Wr := ([(o 0, .inr (7, [.ref (x 0), .ref (tq 0), .ref rd, .ref (q 0), .ref (tr 0), .ref (pz 0), .ref (o 1), .ref (o 2), .ref (sz 0)]))] ++ (dyW k q t g X))) C hP hD hS (c_X7_isUnder l D k (((X 0) 0) + 1) kd (by omega) (by omega)) [] [0, 1, 2, 3, 4, 5, 6, 7, 8, 9, 10, 11] rfl rfl (by decide) (by decide) (by decide) tw_414 tw_412 tw_2 tw_413 ⟨by decide, by decide, rfl⟩ ⟨Nat.le_of_ble_eq_true rfl, Nat.le_of_ble_eq_true rfl⟩ ⟨Nat.zero_le _, Nat.zero_le _⟩ hl.1 rfl (Nat.le_of_ble_eq_true rfl) dX7_as_51 (fun r9 u10 H locs h11 hP hD hS => ?_)
              rcases h11 with h0 | h0
              · obtain ⟨hi12, rfl⟩ := h0
                have hP : va_P D vwCl ([(o 0, .inr (7, [.ref (x 0), .ref (tq 0), .ref rd, .ref (q 0), .ref (tr 0), .ref (pz 0), .ref (o 1), .ref (o 2), .ref (sz 0)]))] ++ (dyW k q t g X)) H := hP
                have hD : va_D A ([(o 0, .inr (7, [.ref (x 0), .ref (tq 0), .ref rd, .ref (q 0), .ref (tr 0), .ref (pz 0), .ref (o 1), .ref (o 2), .ref (sz 0)]))] ++ (dyW k q t g X)) := hD
                have hun := hi12
                refine lv_if_ne (tgt := 60) hx hb dX7_as_54 (by decide) (fun c13 => ?_) (fun c13 => ?_)
                · refine va_gets hx hb C.2.1.2.2.2.2.2.1.1 hS C.1.2.2.2.1 (C.1.2.2.2.2 _ tw_411) (fun _ h => h) dX7_as_60 ?_
                  refine lv_aload_n hx hb dX7_as_63 rfl (lv_at hl 0 rfl) ?_
                  refine ta_getN C hP 6 inlX1 rfl rfl 0 (by decide) 2 rfl rfl dX7_as_64 ?_
                  refine ta_iconst C 0 dX7_as_67 (by decide) ?_
                  refine ta_iald C hP 7 rfl (i := 0) (by omega) dX7_as_68 ?_
                  refine ta_sti C C.2.1.2.2.2.2.2.1.2 hS (i := (X 0) 0) (by omega) dX7_as_69 ?_
                  have hgo : ta_goes (X 0 0) = if X 0 0 = 2 then 2 else if X 0 0 < 2 then 1 else 0 := rfl
                  have e1 : sp_as g 0 kd = ta_goes ((X 0) 0) := by
                    unfold sp_as
                    rw [hgo]
                    (repeat' split) <;> omega
                  exact ret (nI (ta_goes ((X 0) 0))) () dX7_as_70 rfl (by rw [e1]) hP hD hS
                · exact absurd c13 (by decide)
              · obtain ⟨hi14, rfl⟩ := h0
                have hP : va_P D vwCl ([(o 0, .inr (7, [.ref (x 0), .ref (tq 0), .ref rd, .ref (q 0), .ref (tr 0), .ref (pz 0), .ref (o 1), .ref (o 2), .ref (sz 0)]))] ++ (dyW k q t g X)) H := hP
                have hD : va_D A ([(o 0, .inr (7, [.ref (x 0), .ref (tq 0), .ref rd, .ref (q 0), .ref (tr 0), .ref (pz 0), .ref (o 1), .ref (o 2), .ref (sz 0)]))] ++ (dyW k q t g X)) := hD
                have hun := hi14
                refine lv_if_ne (tgt := 60) hx hb dX7_as_54 (by decide) (fun c15 => ?_) (fun c15 => ?_)
                · exact absurd c15 (by decide)
                · refine ta_bipush C 4294967292 dX7_as_57 (by decide) ?_
                  have e1 : sp_as g 0 kd = 4294967292 := by
                    unfold sp_as
                    (repeat' split) <;> omega
                  exact ret (nI 4294967292) () dX7_as_59 rfl (by rw [e1]) hP hD hS
          · refine ta_bipush C 4294967293 dX7_as_22 (by decide) ?_
            have e1 : sp_as g 0 kd = 4294967293 := by
              unfold sp_as
              (repeat' split) <;> omega
            exact ret (nI 4294967293) () dX7_as_24 rfl (by rw [e1]) hP hD hS
      · exact absurd c5 (by decide)
    · have e6a : g (6 + 1) = g 7 := rfl
      have e8a : g (8 + 8 * 1) = g 16 := rfl
      have e24a : g (24 + 1) = g 25 := rfl
      refine lv_if_ne (tgt := 10) hx hb dX7_as_4 (by decide) (fun c16 => ?_) (fun c16 => ?_)
      · refine lv_iload_n hx hb dX7_as_10 rfl (lv_at hl 2 rfl) ?_
        refine ta_wilt C (a := kd) (tgt := 22) (by omega) dX7_as_11 (by decide) (fun c17 => ?_) (fun c17 => ?_)
        · refine ta_bipush C 4294967293 dX7_as_22 (by decide) ?_
          have e1 : sp_as g 1 kd = 4294967293 := by
            unfold sp_as
            (repeat' split) <;> omega
          exact ret (nI 4294967293) () dX7_as_24 rfl (by rw [e1]) hP hD hS
        · refine lv_iload_n hx hb dX7_as_14 rfl (lv_at hl 2 rfl) ?_
          refine va_gets hx hb C.2.1.2.2.2.2.2.2.1.1 hS C.1.2.2.2.1 (C.1.2.2.2.2 _ tw_410) (fun _ h => h) dX7_as_15 ?_
          refine va_tlen hx hb C.2.1.2.2.2.2.2.2.1.2 hS (v := nI 6) rfl dX7_as_18 ?_
          refine ta_wlt C (a := kd) (b := 6) (tgt := 25) (by omega) (by omega) dX7_as_19 (by decide) (fun c18 => ?_) (fun c18 => ?_)
          · refine lv_aload_n hx hb dX7_as_25 rfl (lv_at hl 0 rfl) ?_
            refine ta_get C hP 0 inlX7 rfl rfl 3 (by decide) tw_27 rfl dX7_as_26 ?_
            refine ta_getN C hP 1 inlX0 rfl rfl 13 (by decide) 36 rfl rfl dX7_as_29 ?_
            refine lv_iload_n hx hb dX7_as_32 rfl (lv_at hl 1 rfl) ?_
            refine ta_aald C hP 5 2 rfl rfl (i := 1) (x := q 8) (by omega) rfl dX7_as_33 ?_
            refine lv_astore_n (lv' := [(3, .ref (q 8)), (0, .ref (o 0)), (1, .int (nI 1)), (2, .int (nI kd))]) hx hb dX7_as_34 rfl hl (by decide) rfl (fun ls hl => ?_)
            refine lv_aload_n hx hb dX7_as_35 rfl (lv_at hl 0 rfl) ?_
            refine ta_getN C hP 9 inlX1 rfl rfl 2 (by decide) 7 rfl rfl dX7_as_36 ?_
            refine ta_ieq C (a := g 7) (tgt := 57) (by omega) dX7_as_39 (by decide) (fun c19 => ?_) (fun c19 => ?_)
            · refine ta_bipush C 4294967292 dX7_as_57 (by decide) ?_
              have e1 : sp_as g 1 kd = 4294967292 := by
                unfold sp_as
                (repeat' split) <;> omega
              exact ret (nI 4294967292) () dX7_as_59 rfl (by rw [e1]) hP hD hS
            · obtain ⟨hx1, -⟩ := hX.2 0 (by omega)
              have hx1 : X 2 0 = g 16 / 10 := hx1
              have hf50 : g 16 < 50 := (b9 0 (by omega)).1
              refine lv_aload_n hx hb dX7_as_42 rfl (lv_at hl 0 rfl) ?_
              refine ta_getN C hP 9 inlX1 rfl rfl 0 (by decide) 2 rfl rfl dX7_as_43 ?_
              refine ta_iconst C 0 dX7_as_46 (by decide) ?_
              refine ta_iald C hP 10 rfl (i := 0) (by omega) dX7_as_47 ?_
              refine ta_iconst C 1 dX7_as_48 (by decide) ?_
              refine ta_iadd C (a := (X 2) 0) (b := 1) dX7_as_49 ?_
              refine lv_iload_n hx hb dX7_as_50 rfl (lv_at hl 3 rfl) ?_
              refine ta_callSi (As := [.int (nI (((X 2) 0) + 1)), .int (nI kd)]) (rest0 := []) (Wr := ([(o 0, .inr (7, [.ref (x 0), .ref (tq 0), .ref rd, .ref (q 0), .ref (tr 0), .ref (pz 0), .ref (o 1), .ref (o 2), .ref (sz 0)]))] ++ (dyW k q t g X))) C hP hD hS (c_X7_isUnder l D k (((X 2) 0) + 1) kd (by omega) (by omega)) [] [0, 1, 2, 3, 4, 5, 6, 7, 8, 9, 10, 11] rfl rfl (by decide) (by decide) (by decide) tw_414 tw_412 tw_2 tw_413 ⟨by decide, by decide, rfl⟩ ⟨Nat.le_of_ble_eq_true rfl, Nat.le_of_ble_eq_true rfl⟩ ⟨Nat.zero_le _, Nat.zero_le _⟩ hl.1 rfl (Nat.le_of_ble_eq_true rfl) dX7_as_51 (fun r20 u21 H locs h22 hP hD hS => ?_)
              rcases h22 with h0 | h0
              · obtain ⟨hi23, rfl⟩ := h0
                have hP : va_P D vwCl ([(o 0, .inr (7, [.ref (x 0), .ref (tq 0), .ref rd, .ref (q 0), .ref (tr 0), .ref (pz 0), .ref (o 1), .ref (o 2), .ref (sz 0)]))] ++ (dyW k q t g X)) H := hP
                have hD : va_D A ([(o 0, .inr (7, [.ref (x 0), .ref (tq 0), .ref rd, .ref (q 0), .ref (tr 0), .ref (pz 0), .ref (o 1), .ref (o 2), .ref (sz 0)]))] ++ (dyW k q t g X)) := hD
                have hun := hi23
                refine lv_if_ne (tgt := 60) hx hb dX7_as_54 (by decide) (fun c24 => ?_) (fun c24 => ?_)
                · refine va_gets hx hb C.2.1.2.2.2.2.2.1.1 hS C.1.2.2.2.1 (C.1.2.2.2.2 _ tw_411) (fun _ h => h) dX7_as_60 ?_
                  refine lv_aload_n hx hb dX7_as_63 rfl (lv_at hl 0 rfl) ?_
                  refine ta_getN C hP 9 inlX1 rfl rfl 0 (by decide) 2 rfl rfl dX7_as_64 ?_
                  refine ta_iconst C 0 dX7_as_67 (by decide) ?_
                  refine ta_iald C hP 10 rfl (i := 0) (by omega) dX7_as_68 ?_
                  refine ta_sti C C.2.1.2.2.2.2.2.1.2 hS (i := (X 2) 0) (by omega) dX7_as_69 ?_
                  have hgo : ta_goes (X 2 0) = if X 2 0 = 2 then 2 else if X 2 0 < 2 then 1 else 0 := rfl
                  have e1 : sp_as g 1 kd = ta_goes ((X 2) 0) := by
                    unfold sp_as
                    rw [hgo]
                    (repeat' split) <;> omega
                  exact ret (nI (ta_goes ((X 2) 0))) () dX7_as_70 rfl (by rw [e1]) hP hD hS
                · exact absurd c24 (by decide)
              · obtain ⟨hi25, rfl⟩ := h0
                have hP : va_P D vwCl ([(o 0, .inr (7, [.ref (x 0), .ref (tq 0), .ref rd, .ref (q 0), .ref (tr 0), .ref (pz 0), .ref (o 1), .ref (o 2), .ref (sz 0)]))] ++ (dyW k q t g X)) H := hP
                have hD : va_D A ([(o 0, .inr (7, [.ref (x 0), .ref (tq 0), .ref rd, .ref (q 0), .ref (tr 0), .ref (pz 0), .ref (o 1), .ref (o 2), .ref (sz 0)]))] ++ (dyW k q t g X)) := hD
                have hun := hi25
                refine lv_if_ne (tgt := 60) hx hb dX7_as_54 (by decide) (fun c26 => ?_) (fun c26 => ?_)
                · exact absurd c26 (by decide)
                · refine ta_bipush C 4294967292 dX7_as_57 (by decide) ?_
                  have e1 : sp_as g 1 kd = 4294967292 := by
                    unfold sp_as
                    (repeat' split) <;> omega
                  exact ret (nI 4294967292) () dX7_as_59 rfl (by rw [e1]) hP hD hS
          · refine ta_bipush C 4294967293 dX7_as_22 (by decide) ?_
            have e1 : sp_as g 1 kd = 4294967293 := by
              unfold sp_as
              (repeat' split) <;> omega
            exact ret (nI 4294967293) () dX7_as_24 rfl (by rw [e1]) hP hD hS
      · exact absurd c16 (by decide)
  · obtain ⟨hi27, rfl⟩ := h0
    have hP : va_P D vwCl ([(o 0, .inr (7, [.ref (x 0), .ref (tq 0), .ref rd, .ref (q 0), .ref (tr 0), .ref (pz 0), .ref (o 1), .ref (o 2), .ref (sz 0)]))] ++ (dyW k q t g X)) H := hP
    have hD : va_D A ([(o 0, .inr (7, [.ref (x 0), .ref (tq 0), .ref rd, .ref (q 0), .ref (tr 0), .ref (pz 0), .ref (o 1), .ref (o 2), .ref (sz 0)]))] ++ (dyW k q t g X)) := hD
    refine lv_if_ne (tgt := 10) hx hb dX7_as_4 (by decide) (fun c28 => ?_) (fun c28 => ?_)
    · exact absurd c28 (by decide)
    · refine ta_bipush C 4294967294 dX7_as_7 (by decide) ?_
      have e1 : sp_as g a kd = 4294967294 := by
        unfold sp_as
        (repeat' split) <;> omega
      exact ret (nI 4294967294) () dX7_as_9 rfl (by rw [e1]) hP hD hS

set_option maxHeartbeats 4000000 in
set_option maxRecDepth 100000 in
theorem c_X7_count (l : Launch) (D : va_G) (k : ta_C) (o : Nat → Nat) (x : Nat → Nat) (tq : Nat → Nat) (rd : Nat) (q : Nat → Nat) (tr : Nat → Nat) (pz : Nat → Nat) (sz : Nat → Nat) (L : Nat) (tx : Nat → Nat) (t : Nat → Nat) (g : Nat → Nat) (X : Nat → Nat → Nat) (n : Nat) (c_ : Nat → Nat) (m_ : Nat → Nat) (kn : Nat) (w : Nat) (hok : tg_ok t g) (hh0 : g 0 < 1000000) (hX : tg_X g X) (ww : w < 4294967296) : ta_Mi (S := Unit) l D k yX7_count cX7_count 2 .int 1 40 [.ref (o 0), .int (nI w)] ([(o 0, .inr (7, [.ref (x 0), .ref (tq 0), .ref rd, .ref (q 0), .ref (tr 0), .ref (pz 0), .ref (o 1), .ref (o 2), .ref (sz 0)]))] ++ ((txW k x L tx) ++ ((dyW k q t g X) ++ ((siW k sz n c_ m_) ++ [(pz 0, .inr (2, [.ref (pz 1), .int (nI kn)]))])))) (fun r _ => r = nI (sp_count t g n kn L w)) (fun u => ([(o 0, .inr (7, [.ref (x 0), .ref (tq 0), .ref rd, .ref (q 0), .ref (tr 0), .ref (pz 0), .ref (o 1), .ref (o 2), .ref (sz 0)]))] ++ ((txW k x L tx) ++ ((dyW k q t g X) ++ ((siW k sz n c_ m_) ++ [(pz 0, .inr (2, [.ref (pz 1), .int (nI kn)]))]))))) := by
  refine ta_enter_i (by decide) (Nat.le_of_ble_eq_true rfl) ?_
  intro p e s m below meth c A ls Q C ret hP hD hS hl
  have C : ta_At p l D k s m ([.ref (o 0), .int (nI w)] : List Value).toArray c RX7 cX7_count 2 A := C
  have hx := C.1.1
  have hb := C.1.2.1
  have hl : lv_has ls 2 [(0, .ref (o 0)), (1, .int (nI w))] := hl
  obtain ⟨H, hH⟩ : ∃ H, H = s.heap := ⟨_, rfl⟩
  obtain ⟨locs, hlocs⟩ : ∃ q : List Loc, q = [] := ⟨_, rfl⟩
  have hP : va_P D vwCl ([(o 0, .inr (7, [.ref (x 0), .ref (tq 0), .ref rd, .ref (q 0), .ref (tr 0), .ref (pz 0), .ref (o 1), .ref (o 2), .ref (sz 0)]))] ++ ((txW k x L tx) ++ ((dyW k q t g X) ++ ((siW k sz n c_ m_) ++ [(pz 0, .inr (2, [.ref (pz 1), .int (nI kn)]))])))) H := by rw [hH]; exact hP
  have hS : va_S A s.heap H locs := by rw [hH, hlocs]; exact hS
  rw [← hlocs]
  suffices hgoal : W p l e ({ frames := 1, cells := 0, slots := 0, locals := 40 }) s m ([.ref (o 0), .int (nI w)] : List Value).toArray below meth c H locs 0 0 Q (F0 m 0 ls []) by rw [hH] at hgoal; exact hgoal
  clear hH hlocs
  refine lv_iload_n hx hb dX7_count_0 rfl (lv_at hl 1 rfl) ?_
  rcases (show w = 0 ∨ w = 1 ∨ w = 2 ∨ w = 3 ∨ w = 4 ∨ w = 5 ∨ w = 6 ∨ w = 7 ∨ w = 8 ∨ w = 9 ∨ w = 10 ∨ w = 11 ∨ w = 12 ∨ w = 13 ∨ w = 14 ∨ w = 15 ∨ w = 16 ∨ 17 ≤ w by omega) with rfl | rfl | rfl | rfl | rfl | rfl | rfl | rfl | rfl | rfl | rfl | rfl | rfl | rfl | rfl | rfl | rfl | hout
  · refine lv_tableIn (tgt := 84) hx hb dX7_count_1 (by decide) (by decide) (off := 83) (by decide) (by decide) ?_
    refine lv_aload_n hx hb dX7_count_84 rfl (lv_at hl 0 rfl) ?_
    refine ta_get C hP 0 inlX7 rfl rfl 3 (by decide) tw_27 rfl dX7_count_85 ?_
    refine ta_getN C hP 3 inlX0 rfl rfl 0 (by decide) 25 rfl rfl dX7_count_88 ?_
    exact ret (nI (t 0)) () dX7_count_91 rfl rfl hP hD hS
  · refine lv_tableIn (tgt := 92) hx hb dX7_count_1 (by decide) (by decide) (off := 91) (by decide) (by decide) ?_
    refine lv_aload_n hx hb dX7_count_92 rfl (lv_at hl 0 rfl) ?_
    refine ta_get C hP 0 inlX7 rfl rfl 3 (by decide) tw_27 rfl dX7_count_93 ?_
    refine ta_getN C hP 3 inlX0 rfl rfl 1 (by decide) 26 rfl rfl dX7_count_96 ?_
    exact ret (nI (t 1)) () dX7_count_99 rfl rfl hP hD hS
  · refine lv_tableIn (tgt := 100) hx hb dX7_count_1 (by decide) (by decide) (off := 99) (by decide) (by decide) ?_
    refine lv_aload_n hx hb dX7_count_100 rfl (lv_at hl 0 rfl) ?_
    refine ta_get C hP 0 inlX7 rfl rfl 3 (by decide) tw_27 rfl dX7_count_101 ?_
    refine ta_getN C hP 3 inlX0 rfl rfl 2 (by decide) 27 rfl rfl dX7_count_104 ?_
    exact ret (nI (t 2)) () dX7_count_107 rfl rfl hP hD hS
  · refine lv_tableIn (tgt := 108) hx hb dX7_count_1 (by decide) (by decide) (off := 107) (by decide) (by decide) ?_
    refine lv_aload_n hx hb dX7_count_108 rfl (lv_at hl 0 rfl) ?_
    refine ta_get C hP 0 inlX7 rfl rfl 3 (by decide) tw_27 rfl dX7_count_109 ?_
    refine ta_getN C hP 3 inlX0 rfl rfl 3 (by decide) 28 rfl rfl dX7_count_112 ?_
    exact ret (nI (g 0)) () dX7_count_115 rfl rfl hP hD hS
  · refine lv_tableIn (tgt := 116) hx hb dX7_count_1 (by decide) (by decide) (off := 115) (by decide) (by decide) ?_
    refine lv_aload_n hx hb dX7_count_116 rfl (lv_at hl 0 rfl) ?_
    refine ta_get C hP 0 inlX7 rfl rfl 3 (by decide) tw_27 rfl dX7_count_117 ?_
    refine ta_getN C hP 3 inlX0 rfl rfl 4 (by decide) 29 rfl rfl dX7_count_120 ?_
    exact ret (nI (g 1)) () dX7_count_123 rfl rfl hP hD hS
  · refine lv_tableIn (tgt := 124) hx hb dX7_count_1 (by decide) (by decide) (off := 123) (by decide) (by decide) ?_
    refine lv_aload_n hx hb dX7_count_124 rfl (lv_at hl 0 rfl) ?_
    refine ta_get C hP 0 inlX7 rfl rfl 3 (by decide) tw_27 rfl dX7_count_125 ?_
    refine ta_callVi (As := []) (rest0 := []) (Wr := ([(o 0, .inr (7, [.ref (x 0), .ref (tq 0), .ref rd, .ref (q 0), .ref (tr 0), .ref (pz 0), .ref (o 1), .ref (o 2), .ref (sz 0)]))] ++ ((txW k x L tx) ++ ((siW k sz n c_ m_) ++ [(pz 0, .inr (2, [.ref (pz 1), .int (nI kn)]))])))) C hP hD hS (c_X0_cell l D k q t g X) 3 rfl rfl rfl [3, 4, 5, 6, 7, 8, 9, 10, 11, 12, 13] [0, 1, 2, 14, 15, 16, 17] rfl rfl (by decide) (by decide) (by decide) tw_464 tw_469 tw_26 tw_462 tw_463 ⟨by decide, by decide, rfl⟩ ⟨Nat.le_of_ble_eq_true rfl, Nat.le_of_ble_eq_true rfl⟩ ⟨Nat.zero_le _, Nat.zero_le _⟩ hl.1 rfl (Nat.le_of_ble_eq_true rfl) dX7_count_128 (fun r1 u2 H locs h3 hP hD hS => ?_)
    obtain rfl := h3
    have hP : va_P D vwCl ([(o 0, .inr (7, [.ref (x 0), .ref (tq 0), .ref rd, .ref (q 0), .ref (tr 0), .ref (pz 0), .ref (o 1), .ref (o 2), .ref (sz 0)]))] ++ ((txW k x L tx) ++ ((siW k sz n c_ m_) ++ ([(pz 0, .inr (2, [.ref (pz 1), .int (nI kn)]))] ++ (dyW k q t g X))))) H := hP
    have hD : va_D A ([(o 0, .inr (7, [.ref (x 0), .ref (tq 0), .ref rd, .ref (q 0), .ref (tr 0), .ref (pz 0), .ref (o 1), .ref (o 2), .ref (sz 0)]))] ++ ((txW k x L tx) ++ ((siW k sz n c_ m_) ++ ([(pz 0, .inr (2, [.ref (pz 1), .int (nI kn)]))] ++ (dyW k q t g X))))) := hD
    exact ret (nI (g 2)) () dX7_count_131 rfl rfl (hP.sub [0, 1, 2, 7, 8, 9, 10, 11, 12, 13, 14, 15, 16, 17, 3, 4, 5, 6] rfl) (hD.sub [0, 1, 2, 7, 8, 9, 10, 11, 12, 13, 14, 15, 16, 17, 3, 4, 5, 6] (by decide) rfl) hS
  · refine lv_tableIn (tgt := 132) hx hb dX7_count_1 (by decide) (by decide) (off := 131) (by decide) (by decide) ?_
    refine lv_aload_n hx hb dX7_count_132 rfl (lv_at hl 0 rfl) ?_
    refine ta_get C hP 0 inlX7 rfl rfl 3 (by decide) tw_27 rfl dX7_count_133 ?_
    refine ta_getN C hP 3 inlX0 rfl rfl 7 (by decide) 30 rfl rfl dX7_count_136 ?_
    exact ret (nI (g 3)) () dX7_count_139 rfl rfl hP hD hS
  · refine lv_tableIn (tgt := 140) hx hb dX7_count_1 (by decide) (by decide) (off := 139) (by decide) (by decide) ?_
    refine lv_aload_n hx hb dX7_count_140 rfl (lv_at hl 0 rfl) ?_
    refine ta_get C hP 0 inlX7 rfl rfl 3 (by decide) tw_27 rfl dX7_count_141 ?_
    refine ta_getN C hP 3 inlX0 rfl rfl 8 (by decide) 31 rfl rfl dX7_count_144 ?_
    exact ret (nI (g 4)) () dX7_count_147 rfl rfl hP hD hS
  · refine lv_tableIn (tgt := 148) hx hb dX7_count_1 (by decide) (by decide) (off := 147) (by decide) (by decide) ?_
    refine lv_aload_n hx hb dX7_count_148 rfl (lv_at hl 0 rfl) ?_
    refine ta_get C hP 0 inlX7 rfl rfl 3 (by decide) tw_27 rfl dX7_count_149 ?_
    refine ta_getN C hP 3 inlX0 rfl rfl 9 (by decide) 32 rfl rfl dX7_count_152 ?_
    exact ret (nI (g 5)) () dX7_count_155 rfl rfl hP hD hS
  · refine lv_tableIn (tgt := 156) hx hb dX7_count_1 (by decide) (by decide) (off := 155) (by decide) (by decide) ?_
    refine lv_aload_n hx hb dX7_count_156 rfl (lv_at hl 0 rfl) ?_
    refine ta_get C hP 0 inlX7 rfl rfl 3 (by decide) tw_27 rfl dX7_count_157 ?_
    refine ta_callVi (As := []) (rest0 := []) (Wr := ([(o 0, .inr (7, [.ref (x 0), .ref (tq 0), .ref rd, .ref (q 0), .ref (tr 0), .ref (pz 0), .ref (o 1), .ref (o 2), .ref (sz 0)]))] ++ ((txW k x L tx) ++ ((siW k sz n c_ m_) ++ [(pz 0, .inr (2, [.ref (pz 1), .int (nI kn)]))])))) C hP hD hS (c_X0_mudInAll l D k q t g X) 3 rfl rfl rfl [3, 4, 5, 6, 7, 8, 9, 10, 11, 12, 13] [0, 1, 2, 14, 15, 16, 17] rfl rfl (by decide) (by decide) (by decide) tw_673 tw_670 tw_26 tw_671 tw_672 ⟨by decide, by decide, rfl⟩ ⟨Nat.le_of_ble_eq_true rfl, Nat.le_of_ble_eq_true rfl⟩ ⟨Nat.zero_le _, Nat.zero_le _⟩ hl.1 rfl (Nat.le_of_ble_eq_true rfl) dX7_count_160 (fun r4 u5 H locs h6 hP hD hS => ?_)
    obtain rfl := h6
    have hP : va_P D vwCl ([(o 0, .inr (7, [.ref (x 0), .ref (tq 0), .ref rd, .ref (q 0), .ref (tr 0), .ref (pz 0), .ref (o 1), .ref (o 2), .ref (sz 0)]))] ++ ((txW k x L tx) ++ ((siW k sz n c_ m_) ++ ([(pz 0, .inr (2, [.ref (pz 1), .int (nI kn)]))] ++ (dyW k q t g X))))) H := hP
    have hD : va_D A ([(o 0, .inr (7, [.ref (x 0), .ref (tq 0), .ref rd, .ref (q 0), .ref (tr 0), .ref (pz 0), .ref (o 1), .ref (o 2), .ref (sz 0)]))] ++ ((txW k x L tx) ++ ((siW k sz n c_ m_) ++ ([(pz 0, .inr (2, [.ref (pz 1), .int (nI kn)]))] ++ (dyW k q t g X))))) := hD
    exact ret (nI (tg_sum (tg_mud g) 36)) () dX7_count_163 rfl rfl (hP.sub [0, 1, 2, 7, 8, 9, 10, 11, 12, 13, 14, 15, 16, 17, 3, 4, 5, 6] rfl) (hD.sub [0, 1, 2, 7, 8, 9, 10, 11, 12, 13, 14, 15, 16, 17, 3, 4, 5, 6] (by decide) rfl) hS
  · refine lv_tableIn (tgt := 164) hx hb dX7_count_1 (by decide) (by decide) (off := 163) (by decide) (by decide) ?_
    refine lv_aload_n hx hb dX7_count_164 rfl (lv_at hl 0 rfl) ?_
    refine ta_get C hP 0 inlX7 rfl rfl 3 (by decide) tw_27 rfl dX7_count_165 ?_
    refine ta_getN C hP 3 inlX0 rfl rfl 11 (by decide) 34 rfl rfl dX7_count_168 ?_
    refine lv_iload_n hx hb dX7_count_171 rfl (lv_at hl 1 rfl) ?_
    refine ta_bipush C 10 dX7_count_172 (by decide) ?_
    refine ta_isub C (a := 10) (b := 10) (by omega) dX7_count_174 ?_
    refine ta_iald C hP 5 rfl (i := 0) (by omega) dX7_count_175 ?_
    exact ret (nI ((tg_wal g) 0)) () dX7_count_176 rfl rfl hP hD hS
  · refine lv_tableIn (tgt := 164) hx hb dX7_count_1 (by decide) (by decide) (off := 163) (by decide) (by decide) ?_
    refine lv_aload_n hx hb dX7_count_164 rfl (lv_at hl 0 rfl) ?_
    refine ta_get C hP 0 inlX7 rfl rfl 3 (by decide) tw_27 rfl dX7_count_165 ?_
    refine ta_getN C hP 3 inlX0 rfl rfl 11 (by decide) 34 rfl rfl dX7_count_168 ?_
    refine lv_iload_n hx hb dX7_count_171 rfl (lv_at hl 1 rfl) ?_
    refine ta_bipush C 10 dX7_count_172 (by decide) ?_
    refine ta_isub C (a := 11) (b := 10) (by omega) dX7_count_174 ?_
    refine ta_iald C hP 5 rfl (i := 1) (by omega) dX7_count_175 ?_
    exact ret (nI ((tg_wal g) 1)) () dX7_count_176 rfl rfl hP hD hS
  · refine lv_tableIn (tgt := 164) hx hb dX7_count_1 (by decide) (by decide) (off := 163) (by decide) (by decide) ?_
    refine lv_aload_n hx hb dX7_count_164 rfl (lv_at hl 0 rfl) ?_
    refine ta_get C hP 0 inlX7 rfl rfl 3 (by decide) tw_27 rfl dX7_count_165 ?_
    refine ta_getN C hP 3 inlX0 rfl rfl 11 (by decide) 34 rfl rfl dX7_count_168 ?_
    refine lv_iload_n hx hb dX7_count_171 rfl (lv_at hl 1 rfl) ?_
    refine ta_bipush C 10 dX7_count_172 (by decide) ?_
    refine ta_isub C (a := 12) (b := 10) (by omega) dX7_count_174 ?_
    refine ta_iald C hP 5 rfl (i := 2) (by omega) dX7_count_175 ?_
    exact ret (nI ((tg_wal g) 2)) () dX7_count_176 rfl rfl hP hD hS
  · refine lv_tableIn (tgt := 164) hx hb dX7_count_1 (by decide) (by decide) (off := 163) (by decide) (by decide) ?_
    refine lv_aload_n hx hb dX7_count_164 rfl (lv_at hl 0 rfl) ?_
    refine ta_get C hP 0 inlX7 rfl rfl 3 (by decide) tw_27 rfl dX7_count_165 ?_
    refine ta_getN C hP 3 inlX0 rfl rfl 11 (by decide) 34 rfl rfl dX7_count_168 ?_
    refine lv_iload_n hx hb dX7_count_171 rfl (lv_at hl 1 rfl) ?_
    refine ta_bipush C 10 dX7_count_172 (by decide) ?_
    refine ta_isub C (a := 13) (b := 10) (by omega) dX7_count_174 ?_
    refine ta_iald C hP 5 rfl (i := 3) (by omega) dX7_count_175 ?_
    exact ret (nI ((tg_wal g) 3)) () dX7_count_176 rfl rfl hP hD hS
  · refine lv_tableIn (tgt := 177) hx hb dX7_count_1 (by decide) (by decide) (off := 176) (by decide) (by decide) ?_
    refine lv_aload_n hx hb dX7_count_177 rfl (lv_at hl 0 rfl) ?_
    refine ta_get C hP 0 inlX7 rfl rfl 8 (by decide) tw_39 rfl dX7_count_178 ?_
    refine ta_getN C hP 14 inlX5 rfl rfl 2 (by decide) 38 rfl rfl dX7_count_181 ?_
    exact ret (nI n) () dX7_count_184 rfl rfl hP hD hS
  · refine lv_tableIn (tgt := 185) hx hb dX7_count_1 (by decide) (by decide) (off := 184) (by decide) (by decide) ?_
    refine lv_aload_n hx hb dX7_count_185 rfl (lv_at hl 0 rfl) ?_
    refine ta_get C hP 0 inlX7 rfl rfl 5 (by decide) tw_32 rfl dX7_count_186 ?_
    refine ta_getN C hP 17 inlX2 rfl rfl 1 (by decide) 37 rfl rfl dX7_count_189 ?_
    exact ret (nI kn) () dX7_count_192 rfl rfl hP hD hS
  · refine lv_tableIn (tgt := 193) hx hb dX7_count_1 (by decide) (by decide) (off := 192) (by decide) (by decide) ?_
    refine lv_aload_n hx hb dX7_count_193 rfl (lv_at hl 0 rfl) ?_
    refine ta_get C hP 0 inlX7 rfl rfl 0 (by decide) tw_15 rfl dX7_count_194 ?_
    refine ta_getN C hP 1 inlX6 rfl rfl 1 (by decide) 0 rfl rfl dX7_count_197 ?_
    exact ret (nI L) () dX7_count_200 rfl rfl hP hD hS
  · refine lv_tableOut (tgt := 201) hx hb dX7_count_1 (ta_swo (by omega) (by omega)) (by decide) ?_
    refine ta_bipush C 4294967293 dX7_count_201 (by decide) ?_
    have e1 : sp_count t g n kn L w = 4294967293 := by
      unfold sp_count
      rw [if_neg (by omega), if_neg (by omega), if_neg (by omega), if_neg (by omega), if_neg (by omega), if_neg (by omega), if_neg (by omega), if_neg (by omega), if_neg (by omega), if_neg (by omega), if_neg (by omega), if_neg (by omega), if_neg (by omega), if_neg (by omega)]
    exact ret (nI 4294967293) () dX7_count_203 rfl (by rw [e1]) hP hD hS

set_option maxHeartbeats 4000000 in
set_option maxRecDepth 100000 in
theorem c_X7_forget (l : Launch) (D : va_G) (k : ta_C) (o : Nat → Nat) (x : Nat → Nat) (tq : Nat → Nat) (rd : Nat) (q : Nat → Nat) (tr : Nat → Nat) (pz : Nat → Nat) (sz : Nat → Nat) (n : Nat) (c_ : Nat → Nat) (m_ : Nat → Nat) : ta_Mi (S := Unit) l D k yX7_forget cX7_forget 2 .int 0 0 [.ref (o 0)] ([(o 0, .inr (7, [.ref (x 0), .ref (tq 0), .ref rd, .ref (q 0), .ref (tr 0), .ref (pz 0), .ref (o 1), .ref (o 2), .ref (sz 0)]))] ++ (siW k sz n c_ m_)) (fun r _ => r = nI n) (fun u => ([(o 0, .inr (7, [.ref (x 0), .ref (tq 0), .ref rd, .ref (q 0), .ref (tr 0), .ref (pz 0), .ref (o 1), .ref (o 2), .ref (sz 0)]))] ++ (siW k sz 0 c_ m_))) := by
  refine ta_enter_i (by decide) (Nat.le_of_ble_eq_true rfl) ?_
  intro p e s m below meth c A ls Q C ret hP hD hS hl
  have C : ta_At p l D k s m ([.ref (o 0)] : List Value).toArray c RX7 cX7_forget 2 A := C
  have hx := C.1.1
  have hb := C.1.2.1
  have hl : lv_has ls 2 [(0, .ref (o 0))] := hl
  obtain ⟨H, hH⟩ : ∃ H, H = s.heap := ⟨_, rfl⟩
  obtain ⟨locs, hlocs⟩ : ∃ q : List Loc, q = [] := ⟨_, rfl⟩
  have hP : va_P D vwCl ([(o 0, .inr (7, [.ref (x 0), .ref (tq 0), .ref rd, .ref (q 0), .ref (tr 0), .ref (pz 0), .ref (o 1), .ref (o 2), .ref (sz 0)]))] ++ (siW k sz n c_ m_)) H := by rw [hH]; exact hP
  have hS : va_S A s.heap H locs := by rw [hH, hlocs]; exact hS
  rw [← hlocs]
  suffices hgoal : W p l e ({ frames := 0, cells := 0, slots := 0, locals := 0 }) s m ([.ref (o 0)] : List Value).toArray below meth c H locs 0 0 Q (F0 m 0 ls []) by rw [hH] at hgoal; exact hgoal
  clear hH hlocs
  refine lv_aload_n hx hb dX7_forget_0 rfl (lv_at hl 0 rfl) ?_
  refine ta_get C hP 0 inlX7 rfl rfl 8 (by decide) tw_39 rfl dX7_forget_1 ?_
  refine ta_getN C hP 1 inlX5 rfl rfl 2 (by decide) 38 rfl rfl dX7_forget_4 ?_
  refine lv_istore_n (lv' := [(1, .int (nI n)), (0, .ref (o 0))]) hx hb dX7_forget_7 rfl hl (by decide) rfl (fun ls hl => ?_)
  refine lv_aload_n hx hb dX7_forget_8 rfl (lv_at hl 1 rfl) ?_
  refine ta_get C hP 0 inlX7 rfl rfl 8 (by decide) tw_39 rfl dX7_forget_9 ?_
  refine ta_iconst C 0 dX7_forget_12 (by decide) ?_
  refine ta_putN C hP hD hS 1 inlX5 tyX5 tyX5_ok nmX5 rfl rfl 2 (by decide) 38 rfl rfl rfl rfl (Nat.le_of_ble_eq_true rfl) dX7_forget_13 (fun H locs hP hD hS => ?_)
  have hP : va_P D vwCl [(o 0, .inr (7, [.ref (x 0), .ref (tq 0), .ref rd, .ref (q 0), .ref (tr 0), .ref (pz 0), .ref (o 1), .ref (o 2), .ref (sz 0)])), (sz 0, .inr (5, [.ref (sz 1), .ref (sz 2), .int (nI 0)])), (sz 1, .inl (k.1 0, 6, .inl (ta_e c_))), (sz 2, .inl (k.1 0, 6, .inl (ta_e m_)))] H := hP
  have hD : va_D A [(o 0, .inr (7, [.ref (x 0), .ref (tq 0), .ref rd, .ref (q 0), .ref (tr 0), .ref (pz 0), .ref (o 1), .ref (o 2), .ref (sz 0)])), (sz 0, .inr (5, [.ref (sz 1), .ref (sz 2), .int (nI 0)])), (sz 1, .inl (k.1 0, 6, .inl (ta_e c_))), (sz 2, .inl (k.1 0, 6, .inl (ta_e m_)))] := hD
  refine lv_iload_n hx hb dX7_forget_16 rfl (lv_at hl 0 rfl) ?_
  exact ret (nI n) () dX7_forget_17 rfl rfl hP hD hS

set_option maxHeartbeats 4000000 in
set_option maxRecDepth 100000 in
theorem c_X7_seen (l : Launch) (D : va_G) (k : ta_C) (o : Nat → Nat) (x : Nat → Nat) (tq : Nat → Nat) (rd : Nat) (q : Nat → Nat) (tr : Nat → Nat) (pz : Nat → Nat) (sz : Nat → Nat) (t : Nat → Nat) (g : Nat → Nat) (X : Nat → Nat → Nat) (n : Nat) (c_ : Nat → Nat) (m_ : Nat → Nat) (xx : Nat) (mi : Nat) (hok : tg_ok t g) (hh0 : g 0 < 1000000) (hX : tg_X g X) (hn6 : n ≤ 6) (wxx : xx < 4294967296) (wmi : mi < 4294967296) : ta_Mi (S := Unit) l D k yX7_seen cX7_seen 3 .int 1 40 [.ref (o 0), .int (nI xx), .int (nI mi)] ([(o 0, .inr (7, [.ref (x 0), .ref (tq 0), .ref rd, .ref (q 0), .ref (tr 0), .ref (pz 0), .ref (o 1), .ref (o 2), .ref (sz 0)]))] ++ ((dyW k q t g X) ++ (siW k sz n c_ m_))) (fun r _ => r = nI (sp_seen t n xx mi)) (fun u => ([(o 0, .inr (7, [.ref (x 0), .ref (tq 0), .ref rd, .ref (q 0), .ref (tr 0), .ref (pz 0), .ref (o 1), .ref (o 2), .ref (sz 0)]))] ++ ((dyW k q t g X) ++ (siW k sz (cl_if (sp_seen_c t n xx mi) (n + 1) (n)) (cl_if (sp_seen_c t n xx mi) (ta_u c_ n xx) (c_)) (cl_if (sp_seen_c t n xx mi) (ta_u m_ n mi) (m_)))))) := by
  refine ta_enter_i (by decide) (Nat.le_of_ble_eq_true rfl) ?_
  intro p e s m below meth c A ls Q C ret hP hD hS hl
  have C : ta_At p l D k s m ([.ref (o 0), .int (nI xx), .int (nI mi)] : List Value).toArray c RX7 cX7_seen 3 A := C
  have hx := C.1.1
  have hb := C.1.2.1
  have hl : lv_has ls 3 [(0, .ref (o 0)), (1, .int (nI xx)), (2, .int (nI mi))] := hl
  obtain ⟨H, hH⟩ : ∃ H, H = s.heap := ⟨_, rfl⟩
  obtain ⟨locs, hlocs⟩ : ∃ q : List Loc, q = [] := ⟨_, rfl⟩
  have hP : va_P D vwCl ([(o 0, .inr (7, [.ref (x 0), .ref (tq 0), .ref rd, .ref (q 0), .ref (tr 0), .ref (pz 0), .ref (o 1), .ref (o 2), .ref (sz 0)]))] ++ ((dyW k q t g X) ++ (siW k sz n c_ m_))) H := by rw [hH]; exact hP
  have hS : va_S A s.heap H locs := by rw [hH, hlocs]; exact hS
  rw [← hlocs]
  suffices hgoal : W p l e ({ frames := 1, cells := 0, slots := 0, locals := 40 }) s m ([.ref (o 0), .int (nI xx), .int (nI mi)] : List Value).toArray below meth c H locs 0 0 Q (F0 m 0 ls []) by rw [hH] at hgoal; exact hgoal
  clear hH hlocs
  obtain ⟨⟨a1, a2, a3, a4, a5, a6⟩, b1, b2, b3, b4, b6, b7, b8, b9⟩ := id hok
  have hm36 := tg_36 a2 a4
  refine lv_aload_n hx hb dX7_seen_0 rfl (lv_at hl 0 rfl) ?_
  refine ta_get C hP 0 inlX7 rfl rfl 3 (by decide) tw_27 rfl dX7_seen_1 ?_
  refine lv_iload_n hx hb dX7_seen_4 rfl (lv_at hl 1 rfl) ?_
  refine ta_callVi (As := [.int (nI xx)]) (rest0 := []) (Wr := ([(o 0, .inr (7, [.ref (x 0), .ref (tq 0), .ref rd, .ref (q 0), .ref (tr 0), .ref (pz 0), .ref (o 1), .ref (o 2), .ref (sz 0)]))] ++ (siW k sz n c_ m_))) C hP hD hS (c_X0_hasCell_w l D k q t g X xx (by omega) (by omega)) 1 rfl rfl rfl [1, 2, 3, 4, 5, 6, 7, 8, 9, 10, 11] [0, 12, 13, 14] rfl rfl (by decide) (by decide) (by decide) tw_370 tw_367 tw_26 tw_368 tw_369 ⟨by decide, by decide, rfl⟩ ⟨Nat.le_of_ble_eq_true rfl, Nat.le_of_ble_eq_true rfl⟩ ⟨Nat.zero_le _, Nat.zero_le _⟩ hl.1 rfl (Nat.le_of_ble_eq_true rfl) dX7_seen_5 (fun r1 u2 H locs h3 hP hD hS => ?_)
  rcases h3 with h0 | h0
  · obtain ⟨hi4, rfl⟩ := h0
    have hP : va_P D vwCl ([(o 0, .inr (7, [.ref (x 0), .ref (tq 0), .ref rd, .ref (q 0), .ref (tr 0), .ref (pz 0), .ref (o 1), .ref (o 2), .ref (sz 0)]))] ++ ((siW k sz n c_ m_) ++ (dyW k q t g X))) H := hP
    have hD : va_D A ([(o 0, .inr (7, [.ref (x 0), .ref (tq 0), .ref rd, .ref (q 0), .ref (tr 0), .ref (pz 0), .ref (o 1), .ref (o 2), .ref (sz 0)]))] ++ ((siW k sz n c_ m_) ++ (dyW k q t g X))) := hD
    refine lv_if_ne (tgt := 14) hx hb dX7_seen_8 (by decide) (fun c5 => ?_) (fun c5 => ?_)
    · refine lv_iload_n hx hb dX7_seen_14 rfl (lv_at hl 2 rfl) ?_
      refine ta_iconst C 1 dX7_seen_15 (by decide) ?_
      refine ta_wlt C (a := mi) (b := 1) (tgt := 25) (by omega) (by omega) dX7_seen_16 (by decide) (fun c6 => ?_) (fun c6 => ?_)
      · refine ta_bipush C 4294967293 dX7_seen_25 (by decide) ?_
        have hcd : ¬ (sp_seen_c t n xx mi) := by unfold sp_seen_c; omega
        simp only [cl_n hcd] at ret
        have e1 : sp_seen t n xx mi = 4294967293 := by unfold sp_seen; (repeat' split) <;> omega
        exact ret (nI 4294967293) () dX7_seen_27 rfl (by rw [e1]) (hP.sub [0, 4, 5, 6, 7, 8, 9, 10, 11, 12, 13, 14, 1, 2, 3] rfl) (hD.sub [0, 4, 5, 6, 7, 8, 9, 10, 11, 12, 13, 14, 1, 2, 3] (by decide) rfl) hS
      · refine lv_iload_n hx hb dX7_seen_19 rfl (lv_at hl 2 rfl) ?_
        refine ta_bipush C 60 dX7_seen_20 (by decide) ?_
        refine ta_wle C (a := mi) (b := 60) (tgt := 28) (by omega) (by omega) dX7_seen_22 (by decide) (fun c7 => ?_) (fun c7 => ?_)
        · refine lv_aload_n hx hb dX7_seen_28 rfl (lv_at hl 0 rfl) ?_
          refine ta_get C hP 0 inlX7 rfl rfl 8 (by decide) tw_39 rfl dX7_seen_29 ?_
          refine lv_iload_n hx hb dX7_seen_32 rfl (lv_at hl 1 rfl) ?_
          refine lv_iload_n hx hb dX7_seen_33 rfl (lv_at hl 2 rfl) ?_
          rcases Nat.lt_or_ge n 6 with hlt | hge
          · skip
            refine ta_callVi (As := [.int (nI xx), .int (nI mi)]) (rest0 := []) (Wr := ([(o 0, .inr (7, [.ref (x 0), .ref (tq 0), .ref rd, .ref (q 0), .ref (tr 0), .ref (pz 0), .ref (o 1), .ref (o 2), .ref (sz 0)]))] ++ (dyW k q t g X))) C hP hD hS (c_X5_append l D k sz n c_ m_ xx mi (by omega)) 1 rfl rfl rfl [1, 2, 3] [0, 4, 5, 6, 7, 8, 9, 10, 11, 12, 13, 14] rfl rfl (by decide) (by decide) (by decide) tw_596 tw_593 tw_38 tw_594 tw_595 ⟨by decide, by decide, rfl⟩ ⟨Nat.le_of_ble_eq_true rfl, Nat.le_of_ble_eq_true rfl⟩ ⟨Nat.zero_le _, Nat.zero_le _⟩ hl.1 rfl (Nat.le_of_ble_eq_true rfl) dX7_seen_34 (fun r8 u9 H locs h10 hP hD hS => ?_)
            obtain rfl := h10
            have hP : va_P D vwCl ([(o 0, .inr (7, [.ref (x 0), .ref (tq 0), .ref rd, .ref (q 0), .ref (tr 0), .ref (pz 0), .ref (o 1), .ref (o 2), .ref (sz 0)]))] ++ ((dyW k q t g X) ++ (siW k sz (n + 1) (ta_u c_ n xx) (ta_u m_ n mi)))) H := hP
            have hD : va_D A ([(o 0, .inr (7, [.ref (x 0), .ref (tq 0), .ref rd, .ref (q 0), .ref (tr 0), .ref (pz 0), .ref (o 1), .ref (o 2), .ref (sz 0)]))] ++ ((dyW k q t g X) ++ (siW k sz (n + 1) (ta_u c_ n xx) (ta_u m_ n mi)))) := hD
            refine lv_if_eq (tgt := 50) hx hb dX7_seen_37 (by decide) (fun c11 => ?_) (fun c11 => ?_)
            · exact absurd c11 (by decide)
            · refine lv_aload_n hx hb dX7_seen_40 rfl (lv_at hl 0 rfl) ?_
              refine ta_get C hP 0 inlX7 rfl rfl 8 (by decide) tw_39 rfl dX7_seen_41 ?_
              refine ta_getN C hP 12 inlX5 rfl rfl 2 (by decide) 38 rfl rfl dX7_seen_44 ?_
              refine lv_goto (tgt := 52) hx hb dX7_seen_47 (by decide) ?_
              have hcd : (sp_seen_c t n xx mi) := by unfold sp_seen_c; omega
              simp only [cl_p hcd] at ret
              have e1 : sp_seen t n xx mi = n + 1 := by unfold sp_seen; (repeat' split) <;> omega
              exact ret (nI (n + 1)) () dX7_seen_52 rfl (by rw [e1]) hP hD hS
          · skip
            refine ta_callVi (As := [.int (nI xx), .int (nI mi)]) (rest0 := []) (Wr := ([(o 0, .inr (7, [.ref (x 0), .ref (tq 0), .ref rd, .ref (q 0), .ref (tr 0), .ref (pz 0), .ref (o 1), .ref (o 2), .ref (sz 0)]))] ++ (dyW k q t g X))) C hP hD hS (c_X5_append_f l D k sz n c_ m_ xx mi (by omega)) 1 rfl rfl rfl [1, 2, 3] [0, 4, 5, 6, 7, 8, 9, 10, 11, 12, 13, 14] rfl rfl (by decide) (by decide) (by decide) tw_596 tw_593 tw_38 tw_594 tw_595 ⟨by decide, by decide, rfl⟩ ⟨Nat.le_of_ble_eq_true rfl, Nat.le_of_ble_eq_true rfl⟩ ⟨Nat.zero_le _, Nat.zero_le _⟩ hl.1 rfl (Nat.le_of_ble_eq_true rfl) dX7_seen_34 (fun r12 u13 H locs h14 hP hD hS => ?_)
            obtain rfl := h14
            have hP : va_P D vwCl ([(o 0, .inr (7, [.ref (x 0), .ref (tq 0), .ref rd, .ref (q 0), .ref (tr 0), .ref (pz 0), .ref (o 1), .ref (o 2), .ref (sz 0)]))] ++ ((dyW k q t g X) ++ (siW k sz n c_ m_))) H := hP
            have hD : va_D A ([(o 0, .inr (7, [.ref (x 0), .ref (tq 0), .ref rd, .ref (q 0), .ref (tr 0), .ref (pz 0), .ref (o 1), .ref (o 2), .ref (sz 0)]))] ++ ((dyW k q t g X) ++ (siW k sz n c_ m_))) := hD
            refine lv_if_eq (tgt := 50) hx hb dX7_seen_37 (by decide) (fun c15 => ?_) (fun c15 => ?_)
            · refine ta_bipush C 4294967291 dX7_seen_50 (by decide) ?_
              have hcd : ¬ (sp_seen_c t n xx mi) := by unfold sp_seen_c; omega
              simp only [cl_n hcd] at ret
              have e1 : sp_seen t n xx mi = 4294967291 := by unfold sp_seen; (repeat' split) <;> omega
              exact ret (nI 4294967291) () dX7_seen_52 rfl (by rw [e1]) hP hD hS
            · exact absurd c15 (by decide)
        · refine ta_bipush C 4294967293 dX7_seen_25 (by decide) ?_
          have hcd : ¬ (sp_seen_c t n xx mi) := by unfold sp_seen_c; omega
          simp only [cl_n hcd] at ret
          have e1 : sp_seen t n xx mi = 4294967293 := by unfold sp_seen; (repeat' split) <;> omega
          exact ret (nI 4294967293) () dX7_seen_27 rfl (by rw [e1]) (hP.sub [0, 4, 5, 6, 7, 8, 9, 10, 11, 12, 13, 14, 1, 2, 3] rfl) (hD.sub [0, 4, 5, 6, 7, 8, 9, 10, 11, 12, 13, 14, 1, 2, 3] (by decide) rfl) hS
    · exact absurd c5 (by decide)
  · obtain ⟨hi16, rfl⟩ := h0
    have hP : va_P D vwCl ([(o 0, .inr (7, [.ref (x 0), .ref (tq 0), .ref rd, .ref (q 0), .ref (tr 0), .ref (pz 0), .ref (o 1), .ref (o 2), .ref (sz 0)]))] ++ ((siW k sz n c_ m_) ++ (dyW k q t g X))) H := hP
    have hD : va_D A ([(o 0, .inr (7, [.ref (x 0), .ref (tq 0), .ref rd, .ref (q 0), .ref (tr 0), .ref (pz 0), .ref (o 1), .ref (o 2), .ref (sz 0)]))] ++ ((siW k sz n c_ m_) ++ (dyW k q t g X))) := hD
    refine lv_if_ne (tgt := 14) hx hb dX7_seen_8 (by decide) (fun c17 => ?_) (fun c17 => ?_)
    · exact absurd c17 (by decide)
    · refine ta_bipush C 4294967294 dX7_seen_11 (by decide) ?_
      have hcd : ¬ (sp_seen_c t n xx mi) := by unfold sp_seen_c; omega
      simp only [cl_n hcd] at ret
      have e1 : sp_seen t n xx mi = 4294967294 := by unfold sp_seen; (repeat' split) <;> omega
      exact ret (nI 4294967294) () dX7_seen_13 rfl (by rw [e1]) (hP.sub [0, 4, 5, 6, 7, 8, 9, 10, 11, 12, 13, 14, 1, 2, 3] rfl) (hD.sub [0, 4, 5, 6, 7, 8, 9, 10, 11, 12, 13, 14, 1, 2, 3] (by decide) rfl) hS
