theorem ta_cps {f p : Nat → Nat} {dp i : Nat} : ta_u (va_cpy f p 0 dp i) (dp + i) (f i) = va_cpy f p 0 dp (i + 1) := by
  funext j
  by_cases h : j = dp + i
  · rw [h, ta_us, pk_cpy_in (by omega) (by omega)]
    congr 1
    omega
  · rw [ta_un h]
    by_cases h2 : dp ≤ j ∧ j < dp + i
    · rw [pk_cpy_in h2.1 h2.2, pk_cpy_in h2.1 (by omega)]
    · rw [pk_cpy_out (by omega), pk_cpy_out (by omega)]
theorem ta_cp0 (f p : Nat → Nat) (sp dp : Nat) : va_cpy f p sp dp 0 = p := by
  funext j
  exact pk_cpy_out (by omega)
theorem ta_csh {p : Nat → Nat} {i : Nat} : ta_u (va_cpy p p 66 0 i) i (va_cpy p p 66 0 i (i + 66)) = va_cpy p p 66 0 (i + 1) := by
  funext j
  rw [pk_cpy_out (j := i + 66) (by omega)]
  by_cases h : j = i
  · rw [h, ta_us, pk_cpy_in (by omega) (by omega)]
    congr 1
    omega
  · rw [ta_un h]
    by_cases h2 : j < i
    · rw [pk_cpy_in (by omega) (by omega), pk_cpy_in (by omega) (by omega)]
    · rw [pk_cpy_out (by omega), pk_cpy_out (by omega)]
/-- one more day, the oldest dropped if there are eight -/
def sp_n (n : Nat) : Nat := if n < 8 then n + 1 else 8
def sp_G (n : Nat) (G : Nat → Nat → Nat) (g : Nat → Nat) : Nat → Nat → Nat := if n < 8 then va_up G n g else va_up (ta_rot G) 7 g
def mo_pa (n : Nat) (pa g : Nat → Nat) : Nat → Nat := if n < 8 then va_cpy g pa 0 (66 * n) 66 else va_cpy g (va_cpy pa pa 66 0 462) 0 462 66
theorem mo_Pk {pa g : Nat → Nat} {n : Nat} {G : Nat → Nat → Nat} (hn : n ≤ 8) (h : mo_P pa n G) : mo_P (mo_pa n pa g) (sp_n n) (sp_G n G g) := by
  unfold mo_pa sp_n sp_G
  by_cases c : n < 8
  · rw [if_pos c, if_pos c, if_pos c]
    intro i hi j hj
    by_cases e : i = n
    · subst e
      rw [pk_cpy_in (by omega) (by omega)]
      unfold va_up
      rw [if_pos rfl]
      congr 1
      omega
    · rw [pk_cpy_out (by omega)]
      unfold va_up
      rw [if_neg e]
      exact h i (by omega) j hj
  · rw [if_neg c, if_neg c, if_neg c]
    intro i hi j hj
    by_cases e : i = 7
    · subst e
      rw [pk_cpy_in (by omega) (by omega), show 0 + (66 * 7 + j - 462) = j by omega]
      unfold va_up
      rw [if_pos rfl]
    · rw [pk_cpy_out (by omega), pk_cpy_in (by omega) (by omega)]
      unfold va_up ta_rot
      rw [if_neg e, if_pos (by omega), show 66 + (66 * i + j - 0) = 66 * (i + 1) + j by omega]
      exact h (i + 1) (by omega) j hj
def sp_pass (t g : Nat → Nat) (n : Nat) : Nat := if 1 ≤ n ∧ n ≤ 60 then (if 999 < g 0 then 4294967291 else tg_it t g n 2) else 4294967293
/-- whether a call is done, so that what was can be undone -/
def sp_pass_c (g : Nat → Nat) (n : Nat) : Prop := (1 ≤ n ∧ n ≤ 60) ∧ g 0 ≤ 999
def sp_wind (t g : Nat → Nat) (n : Nat) : Nat := if n ≤ 8 then tg_wind t g n 0 else 4294967293
def sp_order (g : Nat → Nat) (a kd mi : Nat) : Nat := if a < 2 then (if kd < 5 ∧ 1 ≤ mi ∧ mi ≤ 9 then (if g (6 + a) = 8 then 4294967291 else g (6 + a) + 1) else 4294967293) else 4294967294
def sp_order_c (g : Nat → Nat) (a kd mi : Nat) : Prop := a < 2 ∧ (kd < 5 ∧ 1 ≤ mi ∧ mi ≤ 9) ∧ g (6 + a) ≠ 8
set_option maxHeartbeats 4000000 in
set_option maxRecDepth 100000 in
theorem c_X8_keeps (l : Launch) (D : va_G) (k : ta_C) (z : Nat → Nat) (ty : Nat) (kn : Nat) (no : Nat) (at_ : Nat) (so : Nat) (sr : Nat) (va : Nat) (g : Nat → Nat) (pa : Nat → Nat) (hkn : kn < 8) : ta_Mv (S := Unit) l D k yX8_keeps cX8_keeps 2 0 0 [.ref (z 0)] [(z 0, .inr (8, [.ref (z 1), .int (nI ty), .ref (z 2), .ref (z 3), .ref (z 4), .ref (z 5), .int (nI kn), .ref (z 6), .ref (z 7), .ref (z 8), .int (nI no), .int (nI at_), .int (nI so), .int (nI sr), .int (nI va), .ref (z 9)])), (z 4, .inl (k.1 0, 66, .inl (ta_e g))), (z 5, .inl (k.1 0, 528, .inl (ta_e pa)))] (fun _ => True) (fun u => [(z 0, .inr (8, [.ref (z 1), .int (nI ty), .ref (z 2), .ref (z 3), .ref (z 4), .ref (z 5), .int (nI (sp_n kn)), .ref (z 6), .ref (z 7), .ref (z 8), .int (nI no), .int (nI at_), .int (nI so), .int (nI sr), .int (nI va), .ref (z 9)])), (z 4, .inl (k.1 0, 66, .inl (ta_e g))), (z 5, .inl (k.1 0, 528, .inl (ta_e (mo_pa kn pa g))))]) := by
  refine ta_enter_v (by decide) (Nat.le_of_ble_eq_true rfl) ?_
  intro p e s m below meth c A ls Q C ret hP hD hS hl
  have C : ta_At p l D k s m ([.ref (z 0)] : List Value).toArray c RX8 cX8_keeps 2 A := C
  have hx := C.1.1
  have hb := C.1.2.1
  have hl : lv_has ls 2 [(0, .ref (z 0))] := hl
  obtain ⟨H, hH⟩ : ∃ H, H = s.heap := ⟨_, rfl⟩
  obtain ⟨locs, hlocs⟩ : ∃ q : List Loc, q = [] := ⟨_, rfl⟩
  have hP : va_P D vwCl [(z 0, .inr (8, [.ref (z 1), .int (nI ty), .ref (z 2), .ref (z 3), .ref (z 4), .ref (z 5), .int (nI kn), .ref (z 6), .ref (z 7), .ref (z 8), .int (nI no), .int (nI at_), .int (nI so), .int (nI sr), .int (nI va), .ref (z 9)])), (z 4, .inl (k.1 0, 66, .inl (ta_e g))), (z 5, .inl (k.1 0, 528, .inl (ta_e pa)))] H := by rw [hH]; exact hP
  have hS : va_S A s.heap H locs := by rw [hH, hlocs]; exact hS
  rw [← hlocs]
  suffices hgoal : W p l e ({ frames := 0, cells := 0, slots := 0, locals := 0 }) s m ([.ref (z 0)] : List Value).toArray below meth c H locs 0 0 Q (F0 m 0 ls []) by rw [hH] at hgoal; exact hgoal
  clear hH hlocs
  refine lv_aload_n hx hb dX8_keeps_0 rfl (lv_at hl 0 rfl) ?_
  refine ta_get C hP 0 inlX8 rfl rfl 6 (by decide) tw_142 rfl dX8_keeps_1 ?_
  refine ta_bipush C 8 dX8_keeps_4 (by decide) ?_
  refine ta_cne C (a := kn) (b := 8) (tgt := 49) (by omega) (by omega) dX8_keeps_6 (by decide) (fun c1 => ?_) (fun c1 => ?_)
  · refine ta_iconst C 0 dX8_keeps_49 (by decide) ?_
    refine lv_istore_n (lv' := [(1, .int (nI 0)), (0, .ref (z 0))]) hx hb dX8_keeps_50 rfl hl (by decide) rfl (fun ls hl => ?_)
    have loop_51 : ∀ (N_51 : Nat) (i : Nat) (f2 : Nat → Nat), (i ≤ 66) → (f2 = va_cpy g pa 0 (66 * kn) i) → 66 - i < N_51 → ∀ (H : Heap) (locs : List Loc) (ls : Array Slot), va_P D vwCl [(z 0, .inr (8, [.ref (z 1), .int (nI ty), .ref (z 2), .ref (z 3), .ref (z 4), .ref (z 5), .int (nI kn), .ref (z 6), .ref (z 7), .ref (z 8), .int (nI no), .int (nI at_), .int (nI so), .int (nI sr), .int (nI va), .ref (z 9)])), (z 4, .inl (k.1 0, 66, .inl (ta_e g))), (z 5, .inl (k.1 0, 528, .inl (ta_e f2)))] H → va_D A [(z 0, .inr (8, [.ref (z 1), .int (nI ty), .ref (z 2), .ref (z 3), .ref (z 4), .ref (z 5), .int (nI kn), .ref (z 6), .ref (z 7), .ref (z 8), .int (nI no), .int (nI at_), .int (nI so), .int (nI sr), .int (nI va), .ref (z 9)])), (z 4, .inl (k.1 0, 66, .inl (ta_e g))), (z 5, .inl (k.1 0, 528, .inl (ta_e f2)))] → va_S A s.heap H locs → lv_has ls 2 [(1, .int (nI i)), (0, .ref (z 0))] → W p l e ({ frames := 0, cells := 0, slots := 0, locals := 0 }) s m ([.ref (z 0)] : List Value).toArray below meth c H locs 0 0 Q (F0 m 51 ls []) := by
      clear hP hD hS hl
      intro N_51
      induction N_51 with
      | zero =>
        intro i f2 h1 h2 hf_51
        exact absurd hf_51 (Nat.not_lt_zero _)
      | succ N_51 ih_51 =>
        intro i f2 h1 h2 hf_51 H locs ls hP hD hS hl
        refine lv_iload_n hx hb dX8_keeps_51 rfl (lv_at hl 0 rfl) ?_
        refine ta_bipush C 66 dX8_keeps_52 (by decide) ?_
        refine ta_cge C (a := i) (b := 66) (tgt := 83) (by omega) (by omega) dX8_keeps_54 (by decide) (fun c2 => ?_) (fun c2 => ?_)
        · refine lv_aload_n hx hb dX8_keeps_83 rfl (lv_at hl 1 rfl) ?_
          refine lv_dup hx hb dX8_keeps_84 rfl ?_
          refine ta_get C hP 0 inlX8 rfl rfl 6 (by decide) tw_142 rfl dX8_keeps_85 ?_
          refine ta_iconst C 1 dX8_keeps_88 (by decide) ?_
          refine ta_iadd C (a := kn) (b := 1) dX8_keeps_89 ?_
          refine ta_put C hP hD hS 0 inlX8 tyX8 tyX8_ok nmX8 rfl rfl 6 (by decide) tw_142 rfl rfl rfl (Nat.le_of_ble_eq_true rfl) dX8_keeps_90 (fun H locs hP hD hS => ?_)
          have hP : va_P D vwCl [(z 0, .inr (8, [.ref (z 1), .int (nI ty), .ref (z 2), .ref (z 3), .ref (z 4), .ref (z 5), .int (nI (kn + 1)), .ref (z 6), .ref (z 7), .ref (z 8), .int (nI no), .int (nI at_), .int (nI so), .int (nI sr), .int (nI va), .ref (z 9)])), (z 4, .inl (k.1 0, 66, .inl (ta_e g))), (z 5, .inl (k.1 0, 528, .inl (ta_e f2)))] H := hP
          have hD : va_D A [(z 0, .inr (8, [.ref (z 1), .int (nI ty), .ref (z 2), .ref (z 3), .ref (z 4), .ref (z 5), .int (nI (kn + 1)), .ref (z 6), .ref (z 7), .ref (z 8), .int (nI no), .int (nI at_), .int (nI so), .int (nI sr), .int (nI va), .ref (z 9)])), (z 4, .inl (k.1 0, 66, .inl (ta_e g))), (z 5, .inl (k.1 0, 528, .inl (ta_e f2)))] := hD
          obtain rfl : i = 66 := by omega
          have e1 : sp_n kn = kn + 1 := if_pos hkn
          have e2 : mo_pa kn pa g = f2 := by rw [h2]; exact if_pos hkn
          rw [e1, e2] at ret
          exact ret () dX8_keeps_93 trivial hP hD hS
        · refine lv_aload_n hx hb dX8_keeps_57 rfl (lv_at hl 1 rfl) ?_
          refine ta_get C hP 0 inlX8 rfl rfl 5 (by decide) tw_129 rfl dX8_keeps_58 ?_
          refine ta_bipush C 66 dX8_keeps_61 (by decide) ?_
          refine lv_aload_n hx hb dX8_keeps_63 rfl (lv_at hl 1 rfl) ?_
          refine ta_get C hP 0 inlX8 rfl rfl 6 (by decide) tw_142 rfl dX8_keeps_64 ?_
          refine ta_imul C (a := 66) (b := kn) dX8_keeps_67 ?_
          refine lv_iload_n hx hb dX8_keeps_68 rfl (lv_at hl 0 rfl) ?_
          refine ta_iadd C (a := 66 * kn) (b := i) dX8_keeps_69 ?_
          refine lv_aload_n hx hb dX8_keeps_70 rfl (lv_at hl 1 rfl) ?_
          refine ta_get C hP 0 inlX8 rfl rfl 4 (by decide) tw_128 rfl dX8_keeps_71 ?_
          refine lv_iload_n hx hb dX8_keeps_74 rfl (lv_at hl 0 rfl) ?_
          refine ta_iald C hP 1 rfl (i := i) (by omega) dX8_keeps_75 ?_
          refine ta_iast C hP hD hS 2 rfl (i := (66 * kn) + i) (v := g i) (by omega) dX8_keeps_76 (fun H locs hP hD hS => ?_)
          have hP : va_P D vwCl [(z 0, .inr (8, [.ref (z 1), .int (nI ty), .ref (z 2), .ref (z 3), .ref (z 4), .ref (z 5), .int (nI kn), .ref (z 6), .ref (z 7), .ref (z 8), .int (nI no), .int (nI at_), .int (nI so), .int (nI sr), .int (nI va), .ref (z 9)])), (z 4, .inl (k.1 0, 66, .inl (ta_e g))), (z 5, .inl (k.1 0, 528, .inl (ta_e (ta_u f2 ((66 * kn) + i) (g i)))))] H := hP
          have hD : va_D A [(z 0, .inr (8, [.ref (z 1), .int (nI ty), .ref (z 2), .ref (z 3), .ref (z 4), .ref (z 5), .int (nI kn), .ref (z 6), .ref (z 7), .ref (z 8), .int (nI no), .int (nI at_), .int (nI so), .int (nI sr), .int (nI va), .ref (z 9)])), (z 4, .inl (k.1 0, 66, .inl (ta_e g))), (z 5, .inl (k.1 0, 528, .inl (ta_e (ta_u f2 ((66 * kn) + i) (g i)))))] := hD
          refine lv_iinc (v := nI (i + 1)) (lv' := [(1, .int (nI (i + 1))), (0, .ref (z 0))]) hx hb dX8_keeps_77 hl (k := 0) rfl (ta_inc1 _) (by decide) rfl (fun ls hl => ?_)
          refine lv_goto (tgt := 51) hx hb dX8_keeps_80 (by decide) ?_
          exact ih_51 (i + 1) (ta_u f2 (66 * kn + i) (g i)) (by omega) (by rw [h2]; exact ta_cps) (by omega) _ _ _ hP hD hS (lv_sub hl [0, 1] rfl)
    exact loop_51 ((66 - 0) + 1) 0 pa (by omega) (ta_cp0 _ _ _ _).symm (Nat.lt_succ_self _) _ _ _ hP hD hS (lv_sub hl [0, 1] rfl)
  · exfalso; omega

set_option maxHeartbeats 4000000 in
set_option maxRecDepth 100000 in
theorem c_X8_keeps_8 (l : Launch) (D : va_G) (k : ta_C) (z : Nat → Nat) (ty : Nat) (no : Nat) (at_ : Nat) (so : Nat) (sr : Nat) (va : Nat) (g : Nat → Nat) (pa : Nat → Nat) : ta_Mv (S := Unit) l D k yX8_keeps cX8_keeps 2 0 0 [.ref (z 0)] [(z 0, .inr (8, [.ref (z 1), .int (nI ty), .ref (z 2), .ref (z 3), .ref (z 4), .ref (z 5), .int (nI 8), .ref (z 6), .ref (z 7), .ref (z 8), .int (nI no), .int (nI at_), .int (nI so), .int (nI sr), .int (nI va), .ref (z 9)])), (z 4, .inl (k.1 0, 66, .inl (ta_e g))), (z 5, .inl (k.1 0, 528, .inl (ta_e pa)))] (fun _ => True) (fun u => [(z 0, .inr (8, [.ref (z 1), .int (nI ty), .ref (z 2), .ref (z 3), .ref (z 4), .ref (z 5), .int (nI (sp_n 8)), .ref (z 6), .ref (z 7), .ref (z 8), .int (nI no), .int (nI at_), .int (nI so), .int (nI sr), .int (nI va), .ref (z 9)])), (z 4, .inl (k.1 0, 66, .inl (ta_e g))), (z 5, .inl (k.1 0, 528, .inl (ta_e (mo_pa 8 pa g))))]) := by
  refine ta_enter_v (by decide) (Nat.le_of_ble_eq_true rfl) ?_
  intro p e s m below meth c A ls Q C ret hP hD hS hl
  have C : ta_At p l D k s m ([.ref (z 0)] : List Value).toArray c RX8 cX8_keeps 2 A := C
  have hx := C.1.1
  have hb := C.1.2.1
  have hl : lv_has ls 2 [(0, .ref (z 0))] := hl
  obtain ⟨H, hH⟩ : ∃ H, H = s.heap := ⟨_, rfl⟩
  obtain ⟨locs, hlocs⟩ : ∃ q : List Loc, q = [] := ⟨_, rfl⟩
  have hP : va_P D vwCl [(z 0, .inr (8, [.ref (z 1), .int (nI ty), .ref (z 2), .ref (z 3), .ref (z 4), .ref (z 5), .int (nI 8), .ref (z 6), .ref (z 7), .ref (z 8), .int (nI no), .int (nI at_), .int (nI so), .int (nI sr), .int (nI va), .ref (z 9)])), (z 4, .inl (k.1 0, 66, .inl (ta_e g))), (z 5, .inl (k.1 0, 528, .inl (ta_e pa)))] H := by rw [hH]; exact hP
  have hS : va_S A s.heap H locs := by rw [hH, hlocs]; exact hS
  rw [← hlocs]
  suffices hgoal : W p l e ({ frames := 0, cells := 0, slots := 0, locals := 0 }) s m ([.ref (z 0)] : List Value).toArray below meth c H locs 0 0 Q (F0 m 0 ls []) by rw [hH] at hgoal; exact hgoal
  clear hH hlocs
  refine lv_aload_n hx hb dX8_keeps_0 rfl (lv_at hl 0 rfl) ?_
  refine ta_get C hP 0 inlX8 rfl rfl 6 (by decide) tw_142 rfl dX8_keeps_1 ?_
  refine ta_bipush C 8 dX8_keeps_4 (by decide) ?_
  refine lv_icmp_ne (tgt := 49) hx hb dX8_keeps_6 (by decide) (fun c1 => ?_) (fun c1 => ?_)
  · exact absurd c1 (by decide)
  · refine ta_iconst C 0 dX8_keeps_9 (by decide) ?_
    refine lv_istore_n (lv' := [(1, .int (nI 0)), (0, .ref (z 0))]) hx hb dX8_keeps_10 rfl hl (by decide) rfl (fun ls hl => ?_)
    have loop_11 : ∀ (N_11 : Nat) (i : Nat) (f2 : Nat → Nat), (i ≤ 462) → (f2 = va_cpy pa pa 66 0 i) → 462 - i < N_11 → ∀ (H : Heap) (locs : List Loc) (ls : Array Slot), va_P D vwCl [(z 0, .inr (8, [.ref (z 1), .int (nI ty), .ref (z 2), .ref (z 3), .ref (z 4), .ref (z 5), .int (nI 8), .ref (z 6), .ref (z 7), .ref (z 8), .int (nI no), .int (nI at_), .int (nI so), .int (nI sr), .int (nI va), .ref (z 9)])), (z 4, .inl (k.1 0, 66, .inl (ta_e g))), (z 5, .inl (k.1 0, 528, .inl (ta_e f2)))] H → va_D A [(z 0, .inr (8, [.ref (z 1), .int (nI ty), .ref (z 2), .ref (z 3), .ref (z 4), .ref (z 5), .int (nI 8), .ref (z 6), .ref (z 7), .ref (z 8), .int (nI no), .int (nI at_), .int (nI so), .int (nI sr), .int (nI va), .ref (z 9)])), (z 4, .inl (k.1 0, 66, .inl (ta_e g))), (z 5, .inl (k.1 0, 528, .inl (ta_e f2)))] → va_S A s.heap H locs → lv_has ls 2 [(1, .int (nI i)), (0, .ref (z 0))] → W p l e ({ frames := 0, cells := 0, slots := 0, locals := 0 }) s m ([.ref (z 0)] : List Value).toArray below meth c H locs 0 0 Q (F0 m 11 ls []) := by
      clear hP hD hS hl
      intro N_11
      induction N_11 with
      | zero =>
        intro i f2 h1 h2 hf_11
        exact absurd hf_11 (Nat.not_lt_zero _)
      | succ N_11 ih_11 =>
        intro i f2 h1 h2 hf_11 H locs ls hP hD hS hl
        refine lv_iload_n hx hb dX8_keeps_11 rfl (lv_at hl 0 rfl) ?_
        refine ta_sipush C 462 dX8_keeps_12 (by decide) ?_
        refine ta_cge C (a := i) (b := 462) (tgt := 39) (by omega) (by omega) dX8_keeps_15 (by decide) (fun c2 => ?_) (fun c2 => ?_)
        · refine lv_aload_n hx hb dX8_keeps_39 rfl (lv_at hl 1 rfl) ?_
          refine lv_dup hx hb dX8_keeps_40 rfl ?_
          refine ta_get C hP 0 inlX8 rfl rfl 6 (by decide) tw_142 rfl dX8_keeps_41 ?_
          refine ta_iconst C 1 dX8_keeps_44 (by decide) ?_
          refine ta_isub C (a := 8) (b := 1) (by omega) dX8_keeps_45 ?_
          refine ta_put C hP hD hS 0 inlX8 tyX8 tyX8_ok nmX8 rfl rfl 6 (by decide) tw_142 rfl rfl rfl (Nat.le_of_ble_eq_true rfl) dX8_keeps_46 (fun H locs hP hD hS => ?_)
          have hP : va_P D vwCl [(z 0, .inr (8, [.ref (z 1), .int (nI ty), .ref (z 2), .ref (z 3), .ref (z 4), .ref (z 5), .int (nI 7), .ref (z 6), .ref (z 7), .ref (z 8), .int (nI no), .int (nI at_), .int (nI so), .int (nI sr), .int (nI va), .ref (z 9)])), (z 4, .inl (k.1 0, 66, .inl (ta_e g))), (z 5, .inl (k.1 0, 528, .inl (ta_e f2)))] H := hP
          have hD : va_D A [(z 0, .inr (8, [.ref (z 1), .int (nI ty), .ref (z 2), .ref (z 3), .ref (z 4), .ref (z 5), .int (nI 7), .ref (z 6), .ref (z 7), .ref (z 8), .int (nI no), .int (nI at_), .int (nI so), .int (nI sr), .int (nI va), .ref (z 9)])), (z 4, .inl (k.1 0, 66, .inl (ta_e g))), (z 5, .inl (k.1 0, 528, .inl (ta_e f2)))] := hD
          refine ta_iconst C 0 dX8_keeps_49 (by decide) ?_
          refine lv_istore_n (lv' := [(1, .int (nI 0)), (0, .ref (z 0))]) hx hb dX8_keeps_50 rfl hl (by decide) rfl (fun ls hl => ?_)
          have loop_51 : ∀ (N_51 : Nat) (i2 : Nat) (f3 : Nat → Nat), (i2 ≤ 66) → (f3 = va_cpy g (va_cpy pa pa 66 0 462) 0 462 i2) → 66 - i2 < N_51 → ∀ (H : Heap) (locs : List Loc) (ls : Array Slot), va_P D vwCl [(z 0, .inr (8, [.ref (z 1), .int (nI ty), .ref (z 2), .ref (z 3), .ref (z 4), .ref (z 5), .int (nI 7), .ref (z 6), .ref (z 7), .ref (z 8), .int (nI no), .int (nI at_), .int (nI so), .int (nI sr), .int (nI va), .ref (z 9)])), (z 4, .inl (k.1 0, 66, .inl (ta_e g))), (z 5, .inl (k.1 0, 528, .inl (ta_e f3)))] H → va_D A [(z 0, .inr (8, [.ref (z 1), .int (nI ty), .ref (z 2), .ref (z 3), .ref (z 4), .ref (z 5), .int (nI 7), .ref (z 6), .ref (z 7), .ref (z 8), .int (nI no), .int (nI at_), .int (nI so), .int (nI sr), .int (nI va), .ref (z 9)])), (z 4, .inl (k.1 0, 66, .inl (ta_e g))), (z 5, .inl (k.1 0, 528, .inl (ta_e f3)))] → va_S A s.heap H locs → lv_has ls 2 [(1, .int (nI i2)), (0, .ref (z 0))] → W p l e ({ frames := 0, cells := 0, slots := 0, locals := 0 }) s m ([.ref (z 0)] : List Value).toArray below meth c H locs 0 0 Q (F0 m 51 ls []) := by
            clear hP hD hS hl
            intro N_51
            induction N_51 with
            | zero =>
              intro i2 f3 h3 h4 hf_51
              exact absurd hf_51 (Nat.not_lt_zero _)
            | succ N_51 ih_51 =>
              intro i2 f3 h3 h4 hf_51 H locs ls hP hD hS hl
              refine lv_iload_n hx hb dX8_keeps_51 rfl (lv_at hl 0 rfl) ?_
              refine ta_bipush C 66 dX8_keeps_52 (by decide) ?_
              refine ta_cge C (a := i2) (b := 66) (tgt := 83) (by omega) (by omega) dX8_keeps_54 (by decide) (fun c3 => ?_) (fun c3 => ?_)
              · refine lv_aload_n hx hb dX8_keeps_83 rfl (lv_at hl 1 rfl) ?_
                refine lv_dup hx hb dX8_keeps_84 rfl ?_
                refine ta_get C hP 0 inlX8 rfl rfl 6 (by decide) tw_142 rfl dX8_keeps_85 ?_
                refine ta_iconst C 1 dX8_keeps_88 (by decide) ?_
                refine ta_iadd C (a := 7) (b := 1) dX8_keeps_89 ?_
                refine ta_put C hP hD hS 0 inlX8 tyX8 tyX8_ok nmX8 rfl rfl 6 (by decide) tw_142 rfl rfl rfl (Nat.le_of_ble_eq_true rfl) dX8_keeps_90 (fun H locs hP hD hS => ?_)
                have hP : va_P D vwCl [(z 0, .inr (8, [.ref (z 1), .int (nI ty), .ref (z 2), .ref (z 3), .ref (z 4), .ref (z 5), .int (nI 8), .ref (z 6), .ref (z 7), .ref (z 8), .int (nI no), .int (nI at_), .int (nI so), .int (nI sr), .int (nI va), .ref (z 9)])), (z 4, .inl (k.1 0, 66, .inl (ta_e g))), (z 5, .inl (k.1 0, 528, .inl (ta_e f3)))] H := hP
                have hD : va_D A [(z 0, .inr (8, [.ref (z 1), .int (nI ty), .ref (z 2), .ref (z 3), .ref (z 4), .ref (z 5), .int (nI 8), .ref (z 6), .ref (z 7), .ref (z 8), .int (nI no), .int (nI at_), .int (nI so), .int (nI sr), .int (nI va), .ref (z 9)])), (z 4, .inl (k.1 0, 66, .inl (ta_e g))), (z 5, .inl (k.1 0, 528, .inl (ta_e f3)))] := hD
                obtain rfl : i2 = 66 := by omega
                have e1 : sp_n 8 = 8 := rfl
                have e2 : mo_pa 8 pa g = f3 := by rw [h4]; rfl
                rw [e1, e2] at ret
                exact ret () dX8_keeps_93 trivial hP hD hS
              · refine lv_aload_n hx hb dX8_keeps_57 rfl (lv_at hl 1 rfl) ?_
                refine ta_get C hP 0 inlX8 rfl rfl 5 (by decide) tw_129 rfl dX8_keeps_58 ?_
                refine ta_bipush C 66 dX8_keeps_61 (by decide) ?_
                refine lv_aload_n hx hb dX8_keeps_63 rfl (lv_at hl 1 rfl) ?_
                refine ta_get C hP 0 inlX8 rfl rfl 6 (by decide) tw_142 rfl dX8_keeps_64 ?_
                refine ta_imul C (a := 66) (b := 7) dX8_keeps_67 ?_
                refine lv_iload_n hx hb dX8_keeps_68 rfl (lv_at hl 0 rfl) ?_
                refine ta_iadd C (a := 462) (b := i2) dX8_keeps_69 ?_
                refine lv_aload_n hx hb dX8_keeps_70 rfl (lv_at hl 1 rfl) ?_
                refine ta_get C hP 0 inlX8 rfl rfl 4 (by decide) tw_128 rfl dX8_keeps_71 ?_
                refine lv_iload_n hx hb dX8_keeps_74 rfl (lv_at hl 0 rfl) ?_
                refine ta_iald C hP 1 rfl (i := i2) (by omega) dX8_keeps_75 ?_
                refine ta_iast C hP hD hS 2 rfl (i := 462 + i2) (v := g i2) (by omega) dX8_keeps_76 (fun H locs hP hD hS => ?_)
                have hP : va_P D vwCl [(z 0, .inr (8, [.ref (z 1), .int (nI ty), .ref (z 2), .ref (z 3), .ref (z 4), .ref (z 5), .int (nI 7), .ref (z 6), .ref (z 7), .ref (z 8), .int (nI no), .int (nI at_), .int (nI so), .int (nI sr), .int (nI va), .ref (z 9)])), (z 4, .inl (k.1 0, 66, .inl (ta_e g))), (z 5, .inl (k.1 0, 528, .inl (ta_e (ta_u f3 (462 + i2) (g i2)))))] H := hP
                have hD : va_D A [(z 0, .inr (8, [.ref (z 1), .int (nI ty), .ref (z 2), .ref (z 3), .ref (z 4), .ref (z 5), .int (nI 7), .ref (z 6), .ref (z 7), .ref (z 8), .int (nI no), .int (nI at_), .int (nI so), .int (nI sr), .int (nI va), .ref (z 9)])), (z 4, .inl (k.1 0, 66, .inl (ta_e g))), (z 5, .inl (k.1 0, 528, .inl (ta_e (ta_u f3 (462 + i2) (g i2)))))] := hD
                refine lv_iinc (v := nI (i2 + 1)) (lv' := [(1, .int (nI (i2 + 1))), (0, .ref (z 0))]) hx hb dX8_keeps_77 hl (k := 0) rfl (ta_inc1 _) (by decide) rfl (fun ls hl => ?_)
                refine lv_goto (tgt := 51) hx hb dX8_keeps_80 (by decide) ?_
                exact ih_51 (i2 + 1) (ta_u f3 (462 + i2) (g i2)) (by omega) (by rw [h4]; exact ta_cps) (by omega) _ _ _ hP hD hS (lv_sub hl [0, 1] rfl)
          exact loop_51 ((66 - 0) + 1) 0 f2 (by omega) (by rw [h2, show i = 462 by omega]; exact (ta_cp0 _ _ _ _).symm) (Nat.lt_succ_self _) _ _ _ hP hD hS (lv_sub hl [0, 1] rfl)
        · refine lv_aload_n hx hb dX8_keeps_18 rfl (lv_at hl 1 rfl) ?_
          refine ta_get C hP 0 inlX8 rfl rfl 5 (by decide) tw_129 rfl dX8_keeps_19 ?_
          refine lv_iload_n hx hb dX8_keeps_22 rfl (lv_at hl 0 rfl) ?_
          refine lv_aload_n hx hb dX8_keeps_23 rfl (lv_at hl 1 rfl) ?_
          refine ta_get C hP 0 inlX8 rfl rfl 5 (by decide) tw_129 rfl dX8_keeps_24 ?_
          refine lv_iload_n hx hb dX8_keeps_27 rfl (lv_at hl 0 rfl) ?_
          refine ta_bipush C 66 dX8_keeps_28 (by decide) ?_
          refine ta_iadd C (a := i) (b := 66) dX8_keeps_30 ?_
          refine ta_iald C hP 2 rfl (i := i + 66) (by omega) dX8_keeps_31 ?_
          refine ta_iast C hP hD hS 2 rfl (i := i) (v := f2 (i + 66)) (by omega) dX8_keeps_32 (fun H locs hP hD hS => ?_)
          have hP : va_P D vwCl [(z 0, .inr (8, [.ref (z 1), .int (nI ty), .ref (z 2), .ref (z 3), .ref (z 4), .ref (z 5), .int (nI 8), .ref (z 6), .ref (z 7), .ref (z 8), .int (nI no), .int (nI at_), .int (nI so), .int (nI sr), .int (nI va), .ref (z 9)])), (z 4, .inl (k.1 0, 66, .inl (ta_e g))), (z 5, .inl (k.1 0, 528, .inl (ta_e (ta_u f2 i (f2 (i + 66))))))] H := hP
          have hD : va_D A [(z 0, .inr (8, [.ref (z 1), .int (nI ty), .ref (z 2), .ref (z 3), .ref (z 4), .ref (z 5), .int (nI 8), .ref (z 6), .ref (z 7), .ref (z 8), .int (nI no), .int (nI at_), .int (nI so), .int (nI sr), .int (nI va), .ref (z 9)])), (z 4, .inl (k.1 0, 66, .inl (ta_e g))), (z 5, .inl (k.1 0, 528, .inl (ta_e (ta_u f2 i (f2 (i + 66))))))] := hD
          refine lv_iinc (v := nI (i + 1)) (lv' := [(1, .int (nI (i + 1))), (0, .ref (z 0))]) hx hb dX8_keeps_33 hl (k := 0) rfl (ta_inc1 _) (by decide) rfl (fun ls hl => ?_)
          refine lv_goto (tgt := 11) hx hb dX8_keeps_36 (by decide) ?_
          exact ih_11 (i + 1) (ta_u f2 i (f2 (i + 66))) (by omega) (by rw [h2]; exact ta_csh) (by omega) _ _ _ hP hD hS (lv_sub hl [0, 1] rfl)
    exact loop_11 ((462 - 0) + 1) 0 pa (by omega) (ta_cp0 _ _ _ _).symm (Nat.lt_succ_self _) _ _ _ hP hD hS (lv_sub hl [0, 1] rfl)

theorem c_X8_keepsA (l : Launch) (D : va_G) (k : ta_C) (z : Nat → Nat) (ty : Nat) (kn : Nat) (no : Nat) (at_ : Nat) (so : Nat) (sr : Nat) (va : Nat) (g : Nat → Nat) (pa : Nat → Nat) (hkn : kn ≤ 8) : ta_Mv (S := Unit) l D k yX8_keeps cX8_keeps 2 0 0 [.ref (z 0)] [(z 0, .inr (8, [.ref (z 1), .int (nI ty), .ref (z 2), .ref (z 3), .ref (z 4), .ref (z 5), .int (nI kn), .ref (z 6), .ref (z 7), .ref (z 8), .int (nI no), .int (nI at_), .int (nI so), .int (nI sr), .int (nI va), .ref (z 9)])), (z 4, .inl (k.1 0, 66, .inl (ta_e g))), (z 5, .inl (k.1 0, 528, .inl (ta_e pa)))] (fun _ => True) (fun u => [(z 0, .inr (8, [.ref (z 1), .int (nI ty), .ref (z 2), .ref (z 3), .ref (z 4), .ref (z 5), .int (nI (sp_n kn)), .ref (z 6), .ref (z 7), .ref (z 8), .int (nI no), .int (nI at_), .int (nI so), .int (nI sr), .int (nI va), .ref (z 9)])), (z 4, .inl (k.1 0, 66, .inl (ta_e g))), (z 5, .inl (k.1 0, 528, .inl (ta_e (mo_pa kn pa g))))]) := by
  rcases Nat.lt_or_ge kn 8 with h | h
  · exact c_X8_keeps l D k z ty kn no at_ so sr va g pa h
  · obtain rfl : kn = 8 := by omega
    exact c_X8_keeps_8 l D k z ty no at_ so sr va g pa
