/-! tokens -/
def tk_sk (tx : Nat → Nat) (L : Nat) : Nat → Nat → Nat
  | 0, p => p
  | n + 1, p => if tx_s tx L p = 0 then tk_sk tx L n (p + 1) else p
/-- where the next token begins -/
def tk_st (tx : Nat → Nat) (L p : Nat) : Nat := tk_sk tx L (L - p) p
theorem tx_s0 {tx : Nat → Nat} {L p : Nat} (h : tx_s tx L p ≠ 3) : p < L := by
  rcases Nat.lt_or_ge p L with h1 | h1
  · exact h1
  · exact absurd (if_neg (by omega)) h
theorem tx_s4 (tx : Nat → Nat) (L p : Nat) : tx_s tx L p < 4 := by
  unfold tx_s
  (repeat' split) <;> omega
theorem tk_st_y {tx : Nat → Nat} {L p : Nat} (h : tx_s tx L p = 0) : tk_st tx L p = tk_st tx L (p + 1) := by
  have hp := tx_s0 (tx := tx) (L := L) (p := p) (by omega)
  unfold tk_st
  rw [show L - p = (L - (p + 1)) + 1 by omega]
  exact if_pos h
theorem tk_st_n {tx : Nat → Nat} {L p : Nat} (h : tx_s tx L p ≠ 0) : tk_st tx L p = p := by
  unfold tk_st
  cases L - p with
  | zero => rfl
  | succ n => exact if_neg h
theorem tk_sk_b {tx : Nat → Nat} {L : Nat} : ∀ (n p : Nat), p ≤ L → p ≤ tk_sk tx L n p ∧ tk_sk tx L n p ≤ L
  | 0, p, h => ⟨Nat.le_refl _, h⟩
  | n + 1, p, h => by
    show p ≤ (if tx_s tx L p = 0 then tk_sk tx L n (p + 1) else p) ∧ (if tx_s tx L p = 0 then tk_sk tx L n (p + 1) else p) ≤ L
    split
    · have := tx_s0 (tx := tx) (L := L) (p := p) (by omega)
      have := tk_sk_b (tx := tx) (L := L) n (p + 1) (by omega)
      omega
    · omega
theorem tk_st_b {tx : Nat → Nat} {L p : Nat} (h : p ≤ L) : p ≤ tk_st tx L p ∧ tk_st tx L p ≤ L := tk_sk_b _ p h
def tk_ru (tx : Nat → Nat) (L c : Nat) : Nat → Nat → Nat
  | 0, p => p
  | n + 1, p => if tx_s tx L p = c then tk_ru tx L c n (p + 1) else p
/-- where a row of one sort ends -/
def tk_rn (tx : Nat → Nat) (L c p : Nat) : Nat := tk_ru tx L c (L - p) p
theorem tk_rn_y {tx : Nat → Nat} {L c p : Nat} (hc : c ≠ 3) (h : tx_s tx L p = c) : tk_rn tx L c p = tk_rn tx L c (p + 1) := by
  have hp := tx_s0 (tx := tx) (L := L) (p := p) (by omega)
  unfold tk_rn
  rw [show L - p = (L - (p + 1)) + 1 by omega]
  exact if_pos h
theorem tk_rn_n {tx : Nat → Nat} {L c p : Nat} (h : tx_s tx L p ≠ c) : tk_rn tx L c p = p := by
  unfold tk_rn
  cases L - p with
  | zero => rfl
  | succ n => exact if_neg h
theorem tk_ru_b {tx : Nat → Nat} {L c : Nat} (hc : c ≠ 3) : ∀ (n p : Nat), p ≤ L → p ≤ tk_ru tx L c n p ∧ tk_ru tx L c n p ≤ L ∧ ∀ j, p ≤ j → j < tk_ru tx L c n p → tx_s tx L j = c
  | 0, p, h => ⟨Nat.le_refl _, h, fun j h1 h2 => absurd h2 (by show ¬ j < p; omega)⟩
  | n + 1, p, h => by
    show p ≤ (if tx_s tx L p = c then tk_ru tx L c n (p + 1) else p) ∧ (if tx_s tx L p = c then tk_ru tx L c n (p + 1) else p) ≤ L ∧ ∀ j, p ≤ j → j < (if tx_s tx L p = c then tk_ru tx L c n (p + 1) else p) → tx_s tx L j = c
    split
    · rename_i hs
      have := tx_s0 (tx := tx) (L := L) (p := p) (by omega)
      obtain ⟨h1, h2, h3⟩ := tk_ru_b (tx := tx) (L := L) hc n (p + 1) (by omega)
      refine ⟨by omega, h2, fun j h4 h5 => ?_⟩
      rcases Nat.eq_or_lt_of_le h4 with e | e
      · rw [← e]; exact hs
      · exact h3 j e h5
    · exact ⟨Nat.le_refl _, h, fun j h1 h2 => absurd h2 (by omega)⟩
/-- where the token that begins at s ends -/
def tk_en (tx : Nat → Nat) (L s : Nat) : Nat := if s < L then (if tx_s tx L s = 1 ∨ tx_s tx L s = 2 then tk_rn tx L (tx_s tx L s) (s + 1) else s + 1) else L
theorem tk_en_b {tx : Nat → Nat} {L s : Nat} (h : s ≤ L) : s ≤ tk_en tx L s ∧ tk_en tx L s ≤ L ∧ (s < L → s < tk_en tx L s) := by
  unfold tk_en
  split
  · split
    · have := tk_ru_b (tx := tx) (L := L) (c := tx_s tx L s) (by omega) (L - (s + 1)) (s + 1) (by omega)
      unfold tk_rn
      omega
    · omega
  · omega
theorem tk_en_a {tx : Nat → Nat} {L s : Nat} (hs : tx_s tx L s = 1 ∨ tx_s tx L s = 2) : ∀ j, s ≤ j → j < tk_en tx L s → tx_s tx L j = tx_s tx L s := by
  have hL := tx_s0 (tx := tx) (L := L) (p := s) (by omega)
  intro j h1 h2
  unfold tk_en at h2
  rw [if_pos hL, if_pos hs] at h2
  rcases Nat.eq_or_lt_of_le h1 with e | e
  · rw [e]
  · exact (tk_ru_b (tx := tx) (L := L) (c := tx_s tx L s) (by omega) (L - (s + 1)) (s + 1) (by omega)).2.2 j e h2
/-- the number that a token is -/
def tk_num (tx : Nat → Nat) (L s e : Nat) : Nat := if s < e ∧ e - s ≤ 2 ∧ tx_s tx L s = 2 then (if e - s = 1 then tx s - 48 else 10 * (tx s - 48) + (tx (s + 1) - 48)) else 4294967295
theorem tx_dg {tx : Nat → Nat} {L p : Nat} (h : tx_s tx L p = 2) : 48 ≤ tx p ∧ tx p ≤ 57 ∧ p < L := by
  have hp := tx_s0 (tx := tx) (L := L) (p := p) (by omega)
  refine ⟨?_, ?_, hp⟩ <;> (unfold tx_s at h; rw [if_pos hp] at h; (repeat' split at h) <;> omega)
/-- it is the i-th word -/
abbrev tk_is (tx : Nat → Nat) (s e i : Nat) : Prop := e - s = ta_len.getD i 0 ∧ ∀ j, j < ta_len.getD i 0 → tx (s + j) = ta_chr i j
theorem ta_neg1 {b : Nat} (h : b < 2147483648) : nI 4294967295 < nI b := by
  rw [show nI 4294967295 = (-1 : Int32) by decide]
  have h1 : (0 : Int32) ≤ nI b := nI_pos' h
  have h2 : (-1 : Int32) < 0 := by decide
  exact Int32.lt_of_lt_of_le h2 h1
def tn_s (tx : Nat → Nat) (L p : Nat) : Nat := tk_st tx L p
def tn_e (tx : Nat → Nat) (L p : Nat) : Nat := tk_en tx L (tk_st tx L p)
def tn_v (tx : Nat → Nat) (L p : Nat) : Nat := tk_num tx L (tk_st tx L p) (tk_en tx L (tk_st tx L p))
theorem tn_b {tx : Nat → Nat} {L p : Nat} (h : p ≤ L) : p ≤ tn_s tx L p ∧ tn_s tx L p ≤ tn_e tx L p ∧ tn_e tx L p ≤ L ∧ (tn_s tx L p < L → tn_s tx L p < tn_e tx L p) := by
  have h1 := tk_st_b (tx := tx) h
  have h2 := tk_en_b (tx := tx) h1.2
  unfold tn_s tn_e
  omega
theorem tk_num_b {tx : Nat → Nat} {L s e : Nat} (h : s < e → e - s = 2 → tx_s tx L s = 2 → tx_s tx L (s + 1) = 2) : tk_num tx L s e = 4294967295 ∨ tk_num tx L s e ≤ 99 := by
  unfold tk_num
  split
  · rename_i h1
    obtain ⟨a1, a2, -⟩ := tx_dg h1.2.2
    split
    · omega
    · obtain ⟨b1, b2, -⟩ := tx_dg (h h1.1 (by omega) h1.2.2)
      omega
  · exact Or.inl rfl
theorem tn_vb {tx : Nat → Nat} {L p : Nat} : tn_v tx L p = 4294967295 ∨ tn_v tx L p ≤ 99 := tk_num_b (fun h1 h2 h3 => by rw [tk_en_a (Or.inr h3) _ (by omega) (by omega)]; exact h3)
set_option maxHeartbeats 4000000 in
set_option maxRecDepth 100000 in
theorem c_X6_numberIn (l : Launch) (D : va_G) (k : ta_C) (x : Nat → Nat) (L : Nat) (tx : Nat → Nat) (s0 : Nat) (e0 : Nat) (hx0 : tx_ok tx L) (hse : s0 ≤ e0) (heL : e0 ≤ L) (hrow : ∀ j, s0 ≤ j → j < e0 → tx_s tx L s0 = 2 → tx_s tx L j = 2) : ta_Mi (S := Unit) l D k yX6_numberIn cX6_numberIn 5 .int 1 40 [.ref (x 0), .int (nI s0), .int (nI e0)] (txW k x L tx) (fun r _ => r = nI (tk_num tx L s0 e0)) (fun u => (txW k x L tx)) := by
  refine ta_enter_i (by decide) (Nat.le_of_ble_eq_true rfl) ?_
  intro p e s m below meth c A ls Q C ret hP hD hS hl
  have C : ta_At p l D k s m ([.ref (x 0), .int (nI s0), .int (nI e0)] : List Value).toArray c RX6 cX6_numberIn 5 A := C
  have hx := C.1.1
  have hb := C.1.2.1
  have hl : lv_has ls 5 [(0, .ref (x 0)), (1, .int (nI s0)), (2, .int (nI e0))] := hl
  obtain ⟨H, hH⟩ : ∃ H, H = s.heap := ⟨_, rfl⟩
  obtain ⟨locs, hlocs⟩ : ∃ q : List Loc, q = [] := ⟨_, rfl⟩
  have hP : va_P D vwCl (txW k x L tx) H := by rw [hH]; exact hP
  have hS : va_S A s.heap H locs := by rw [hH, hlocs]; exact hS
  rw [← hlocs]
  suffices hgoal : W p l e ({ frames := 1, cells := 0, slots := 0, locals := 40 }) s m ([.ref (x 0), .int (nI s0), .int (nI e0)] : List Value).toArray below meth c H locs 0 0 Q (F0 m 0 ls []) by rw [hH] at hgoal; exact hgoal
  clear hH hlocs
  obtain ⟨hL, hc⟩ := id hx0
  refine lv_iload_n hx hb dX6_numberIn_0 rfl (lv_at hl 1 rfl) ?_
  refine ta_ilt C (a := s0) (tgt := 24) (by omega) dX6_numberIn_1 (by decide) ?_
  refine lv_iload_n hx hb dX6_numberIn_4 rfl (lv_at hl 1 rfl) ?_
  refine lv_iload_n hx hb dX6_numberIn_5 rfl (lv_at hl 2 rfl) ?_
  refine ta_cge C (a := s0) (b := e0) (tgt := 24) (by omega) (by omega) dX6_numberIn_6 (by decide) (fun c2 => ?_) (fun c2 => ?_)
  · refine ta_iconst C 4294967295 dX6_numberIn_24 (by decide) ?_
    exact ret _ () dX6_numberIn_25 rfl (by unfold tk_num; rw [if_neg (by omega)]) hP hD hS
  · refine lv_iload_n hx hb dX6_numberIn_9 rfl (lv_at hl 2 rfl) ?_
    refine lv_aload_n hx hb dX6_numberIn_10 rfl (lv_at hl 0 rfl) ?_
    refine ta_get C hP 0 inlX6 rfl rfl 1 (by decide) tw_45 rfl dX6_numberIn_11 ?_
    refine ta_cgt C (a := e0) (b := L) (tgt := 24) (by omega) (by omega) dX6_numberIn_14 (by decide) (fun c3 => ?_) (fun c3 => ?_)
    · refine ta_iconst C 4294967295 dX6_numberIn_24 (by decide) ?_
      exact ret _ () dX6_numberIn_25 rfl (by unfold tk_num; rw [if_neg (by omega)]) hP hD hS
    · refine lv_iload_n hx hb dX6_numberIn_17 rfl (lv_at hl 2 rfl) ?_
      refine lv_iload_n hx hb dX6_numberIn_18 rfl (lv_at hl 1 rfl) ?_
      refine ta_isub C (a := e0) (b := s0) (by omega) dX6_numberIn_19 ?_
      refine ta_iconst C 2 dX6_numberIn_20 (by decide) ?_
      refine ta_cle C (a := e0 - s0) (b := 2) (tgt := 26) (by omega) (by omega) dX6_numberIn_21 (by decide) (fun c4 => ?_) (fun c4 => ?_)
      · rcases (show e0 = s0 + 1 ∨ e0 = s0 + 2 by omega) with rfl | rfl
        · refine ta_iconst C 0 dX6_numberIn_26 (by decide) ?_
          refine lv_istore_n (lv' := [(3, .int (nI 0)), (0, .ref (x 0)), (1, .int (nI s0)), (2, .int (nI (s0 + 1)))]) hx hb dX6_numberIn_27 rfl hl (by decide) rfl (fun ls hl => ?_)
          refine lv_iload_n hx hb dX6_numberIn_28 rfl (lv_at hl 2 rfl) ?_
          refine lv_istore (lv' := [(4, .int (nI s0)), (3, .int (nI 0)), (0, .ref (x 0)), (1, .int (nI s0)), (2, .int (nI (s0 + 1)))]) hx hb dX6_numberIn_29 hl (by decide) rfl (fun ls hl => ?_)
          refine lv_iload hx hb dX6_numberIn_31 (lv_at hl 0 rfl) ?_
          refine lv_iload_n hx hb dX6_numberIn_33 rfl (lv_at hl 4 rfl) ?_
          refine ta_cge C (a := s0) (b := (s0 + 1)) (tgt := 71) (by omega) (by omega) dX6_numberIn_34 (by decide) (fun c5 => ?_) (fun c5 => ?_)
          · exfalso; omega
          · refine lv_aload_n hx hb dX6_numberIn_37 rfl (lv_at hl 2 rfl) ?_
            refine lv_iload hx hb dX6_numberIn_38 (lv_at hl 0 rfl) ?_
            refine ta_callVi (As := [.int (nI s0)]) (rest0 := []) (Wr := []) C hP hD hS (c_X6_sortAt l D k x L tx s0 hx0 (by omega)) 0 rfl rfl rfl [0, 1] [] rfl rfl (by decide) (by decide) (by decide) tw_196 tw_262 tw_14 tw_194 tw_195 ⟨by decide, by decide, rfl⟩ ⟨Nat.le_of_ble_eq_true rfl, Nat.le_of_ble_eq_true rfl⟩ ⟨Nat.zero_le _, Nat.zero_le _⟩ hl.1 rfl (Nat.le_of_ble_eq_true rfl) dX6_numberIn_40 (fun r6 u7 H locs h8 hP hD hS => ?_)
            obtain rfl := h8
            have hP : va_P D vwCl (txW k x L tx) H := hP
            have hD : va_D A (txW k x L tx) := hD
            have h4 := tx_s4 tx L s0
            refine ta_iconst C 2 dX6_numberIn_43 (by decide) ?_
            refine ta_ceq C (a := tx_s tx L s0) (b := 2) (tgt := 49) (by omega) (by omega) dX6_numberIn_44 (by decide) (fun c9 => ?_) (fun c9 => ?_)
            · have hd0 : tx_s tx L s0 = 2 := by omega
              obtain ⟨hq0, hr0, -⟩ := tx_dg hd0
              refine ta_bipush C 10 dX6_numberIn_49 (by decide) ?_
              refine lv_iload_n hx hb dX6_numberIn_51 rfl (lv_at hl 1 rfl) ?_
              refine ta_imul C (a := 10) (b := 0) dX6_numberIn_52 ?_
              refine lv_aload_n hx hb dX6_numberIn_53 rfl (lv_at hl 2 rfl) ?_
              refine ta_get C hP 0 inlX6 rfl rfl 0 (by decide) tw_44 rfl dX6_numberIn_54 ?_
              refine lv_iload hx hb dX6_numberIn_57 (lv_at hl 0 rfl) ?_
              refine ta_iald C hP 1 rfl (i := s0) (by omega) dX6_numberIn_59 ?_
              refine ta_iadd C (a := 0) (b := tx s0) dX6_numberIn_60 ?_
              refine ta_bipush C 48 dX6_numberIn_61 (by decide) ?_
              refine ta_isub C (a := 0 + (tx s0)) (b := 48) (by omega) dX6_numberIn_63 ?_
              refine lv_istore_n (lv' := [(3, .int (nI ((0 + (tx s0)) - 48))), (4, .int (nI s0)), (0, .ref (x 0)), (1, .int (nI s0)), (2, .int (nI (s0 + 1)))]) hx hb dX6_numberIn_64 rfl hl (by decide) rfl (fun ls hl => ?_)
              refine lv_iinc (v := nI (s0 + 1)) (lv' := [(4, .int (nI (s0 + 1))), (3, .int (nI ((0 + (tx s0)) - 48))), (0, .ref (x 0)), (1, .int (nI s0)), (2, .int (nI (s0 + 1)))]) hx hb dX6_numberIn_65 hl (k := 1) rfl (ta_inc1 _) (by decide) rfl (fun ls hl => ?_)
              refine lv_goto (tgt := 31) hx hb dX6_numberIn_68 (by decide) ?_
              refine lv_iload hx hb dX6_numberIn_31 (lv_at hl 0 rfl) ?_
              refine lv_iload_n hx hb dX6_numberIn_33 rfl (lv_at hl 4 rfl) ?_
              refine ta_cge C (a := s0 + 1) (b := (s0 + 1)) (tgt := 71) (by omega) (by omega) dX6_numberIn_34 (by decide) (fun c10 => ?_) (fun c10 => ?_)
              · refine lv_iload_n hx hb dX6_numberIn_71 rfl (lv_at hl 1 rfl) ?_
                exact ret _ () dX6_numberIn_72 rfl (by unfold tk_num; rw [if_pos ⟨by omega, by omega, hd0⟩, if_pos (by omega)]; congr 1; omega) hP hD hS
              · exfalso; omega
            · refine ta_iconst C 4294967295 dX6_numberIn_47 (by decide) ?_
              exact ret _ () dX6_numberIn_48 rfl (by unfold tk_num; rw [if_neg (fun h => by have h9 := hrow s0 (by omega) (by omega) h.2.2; omega)]) hP hD hS
        · refine ta_iconst C 0 dX6_numberIn_26 (by decide) ?_
          refine lv_istore_n (lv' := [(3, .int (nI 0)), (0, .ref (x 0)), (1, .int (nI s0)), (2, .int (nI (s0 + 2)))]) hx hb dX6_numberIn_27 rfl hl (by decide) rfl (fun ls hl => ?_)
          refine lv_iload_n hx hb dX6_numberIn_28 rfl (lv_at hl 2 rfl) ?_
          refine lv_istore (lv' := [(4, .int (nI s0)), (3, .int (nI 0)), (0, .ref (x 0)), (1, .int (nI s0)), (2, .int (nI (s0 + 2)))]) hx hb dX6_numberIn_29 hl (by decide) rfl (fun ls hl => ?_)
          refine lv_iload hx hb dX6_numberIn_31 (lv_at hl 0 rfl) ?_
          refine lv_iload_n hx hb dX6_numberIn_33 rfl (lv_at hl 4 rfl) ?_
          refine ta_cge C (a := s0) (b := (s0 + 2)) (tgt := 71) (by omega) (by omega) dX6_numberIn_34 (by decide) (fun c11 => ?_) (fun c11 => ?_)
          · exfalso; omega
          · refine lv_aload_n hx hb dX6_numberIn_37 rfl (lv_at hl 2 rfl) ?_
            refine lv_iload hx hb dX6_numberIn_38 (lv_at hl 0 rfl) ?_
            refine ta_callVi (As := [.int (nI s0)]) (rest0 := []) (Wr := []) C hP hD hS (c_X6_sortAt l D k x L tx s0 hx0 (by omega)) 0 rfl rfl rfl [0, 1] [] rfl rfl (by decide) (by decide) (by decide) tw_196 tw_262 tw_14 tw_194 tw_195 ⟨by decide, by decide, rfl⟩ ⟨Nat.le_of_ble_eq_true rfl, Nat.le_of_ble_eq_true rfl⟩ ⟨Nat.zero_le _, Nat.zero_le _⟩ hl.1 rfl (Nat.le_of_ble_eq_true rfl) dX6_numberIn_40 (fun r12 u13 H locs h14 hP hD hS => ?_)
            obtain rfl := h14
            have hP : va_P D vwCl (txW k x L tx) H := hP
            have hD : va_D A (txW k x L tx) := hD
            have h4 := tx_s4 tx L s0
            refine ta_iconst C 2 dX6_numberIn_43 (by decide) ?_
            refine ta_ceq C (a := tx_s tx L s0) (b := 2) (tgt := 49) (by omega) (by omega) dX6_numberIn_44 (by decide) (fun c15 => ?_) (fun c15 => ?_)
            · have hd0 : tx_s tx L s0 = 2 := by omega
              obtain ⟨hq0, hr0, -⟩ := tx_dg hd0
              refine ta_bipush C 10 dX6_numberIn_49 (by decide) ?_
              refine lv_iload_n hx hb dX6_numberIn_51 rfl (lv_at hl 1 rfl) ?_
              refine ta_imul C (a := 10) (b := 0) dX6_numberIn_52 ?_
              refine lv_aload_n hx hb dX6_numberIn_53 rfl (lv_at hl 2 rfl) ?_
              refine ta_get C hP 0 inlX6 rfl rfl 0 (by decide) tw_44 rfl dX6_numberIn_54 ?_
              refine lv_iload hx hb dX6_numberIn_57 (lv_at hl 0 rfl) ?_
              refine ta_iald C hP 1 rfl (i := s0) (by omega) dX6_numberIn_59 ?_
              refine ta_iadd C (a := 0) (b := tx s0) dX6_numberIn_60 ?_
              refine ta_bipush C 48 dX6_numberIn_61 (by decide) ?_
              refine ta_isub C (a := 0 + (tx s0)) (b := 48) (by omega) dX6_numberIn_63 ?_
              refine lv_istore_n (lv' := [(3, .int (nI ((0 + (tx s0)) - 48))), (4, .int (nI s0)), (0, .ref (x 0)), (1, .int (nI s0)), (2, .int (nI (s0 + 2)))]) hx hb dX6_numberIn_64 rfl hl (by decide) rfl (fun ls hl => ?_)
              refine lv_iinc (v := nI (s0 + 1)) (lv' := [(4, .int (nI (s0 + 1))), (3, .int (nI ((0 + (tx s0)) - 48))), (0, .ref (x 0)), (1, .int (nI s0)), (2, .int (nI (s0 + 2)))]) hx hb dX6_numberIn_65 hl (k := 1) rfl (ta_inc1 _) (by decide) rfl (fun ls hl => ?_)
              refine lv_goto (tgt := 31) hx hb dX6_numberIn_68 (by decide) ?_
              refine lv_iload hx hb dX6_numberIn_31 (lv_at hl 0 rfl) ?_
              refine lv_iload_n hx hb dX6_numberIn_33 rfl (lv_at hl 4 rfl) ?_
              refine ta_cge C (a := s0 + 1) (b := (s0 + 2)) (tgt := 71) (by omega) (by omega) dX6_numberIn_34 (by decide) (fun c16 => ?_) (fun c16 => ?_)
              · exfalso; omega
              · refine lv_aload_n hx hb dX6_numberIn_37 rfl (lv_at hl 2 rfl) ?_
                refine lv_iload hx hb dX6_numberIn_38 (lv_at hl 0 rfl) ?_
                refine ta_callVi (As := [.int (nI (s0 + 1))]) (rest0 := []) (Wr := []) C hP hD hS (c_X6_sortAt l D k x L tx (s0 + 1) hx0 (by omega)) 0 rfl rfl rfl [0, 1] [] rfl rfl (by decide) (by decide) (by decide) tw_196 tw_262 tw_14 tw_194 tw_195 ⟨by decide, by decide, rfl⟩ ⟨Nat.le_of_ble_eq_true rfl, Nat.le_of_ble_eq_true rfl⟩ ⟨Nat.zero_le _, Nat.zero_le _⟩ hl.1 rfl (Nat.le_of_ble_eq_true rfl) dX6_numberIn_40 (fun r17 u18 H locs h19 hP hD hS => ?_)
                obtain rfl := h19
                have hP : va_P D vwCl (txW k x L tx) H := hP
                have hD : va_D A (txW k x L tx) := hD
                have h4 := tx_s4 tx L (s0 + 1)
                refine ta_iconst C 2 dX6_numberIn_43 (by decide) ?_
                refine ta_ceq C (a := tx_s tx L (s0 + 1)) (b := 2) (tgt := 49) (by omega) (by omega) dX6_numberIn_44 (by decide) (fun c20 => ?_) (fun c20 => ?_)
                · have hd1 : tx_s tx L (s0 + 1) = 2 := by omega
                  obtain ⟨hq1, hr1, -⟩ := tx_dg hd1
                  refine ta_bipush C 10 dX6_numberIn_49 (by decide) ?_
                  refine lv_iload_n hx hb dX6_numberIn_51 rfl (lv_at hl 1 rfl) ?_
                  refine ta_imul C (a := 10) (b := (0 + (tx s0)) - 48) dX6_numberIn_52 ?_
                  refine lv_aload_n hx hb dX6_numberIn_53 rfl (lv_at hl 2 rfl) ?_
                  refine ta_get C hP 0 inlX6 rfl rfl 0 (by decide) tw_44 rfl dX6_numberIn_54 ?_
                  refine lv_iload hx hb dX6_numberIn_57 (lv_at hl 0 rfl) ?_
                  refine ta_iald C hP 1 rfl (i := s0 + 1) (by omega) dX6_numberIn_59 ?_
                  refine ta_iadd C (a := 10 * ((0 + (tx s0)) - 48)) (b := tx (s0 + 1)) dX6_numberIn_60 ?_
                  refine ta_bipush C 48 dX6_numberIn_61 (by decide) ?_
                  refine ta_isub C (a := (10 * ((0 + (tx s0)) - 48)) + (tx (s0 + 1))) (b := 48) (by omega) dX6_numberIn_63 ?_
                  refine lv_istore_n (lv' := [(3, .int (nI (((10 * ((0 + (tx s0)) - 48)) + (tx (s0 + 1))) - 48))), (4, .int (nI (s0 + 1))), (0, .ref (x 0)), (1, .int (nI s0)), (2, .int (nI (s0 + 2)))]) hx hb dX6_numberIn_64 rfl hl (by decide) rfl (fun ls hl => ?_)
                  refine lv_iinc (v := nI (s0 + 1 + 1)) (lv' := [(4, .int (nI (s0 + 1 + 1))), (3, .int (nI (((10 * ((0 + (tx s0)) - 48)) + (tx (s0 + 1))) - 48))), (0, .ref (x 0)), (1, .int (nI s0)), (2, .int (nI (s0 + 2)))]) hx hb dX6_numberIn_65 hl (k := 1) rfl (ta_inc1 _) (by decide) rfl (fun ls hl => ?_)
                  refine lv_goto (tgt := 31) hx hb dX6_numberIn_68 (by decide) ?_
                  refine lv_iload hx hb dX6_numberIn_31 (lv_at hl 0 rfl) ?_
                  refine lv_iload_n hx hb dX6_numberIn_33 rfl (lv_at hl 4 rfl) ?_
                  refine ta_cge C (a := s0 + 1 + 1) (b := (s0 + 2)) (tgt := 71) (by omega) (by omega) dX6_numberIn_34 (by decide) (fun c21 => ?_) (fun c21 => ?_)
                  · refine lv_iload_n hx hb dX6_numberIn_71 rfl (lv_at hl 1 rfl) ?_
                    exact ret _ () dX6_numberIn_72 rfl (by unfold tk_num; rw [if_pos ⟨by omega, by omega, hd0⟩, if_neg (by omega)]; congr 1; omega) hP hD hS
                  · exfalso; omega
                · refine ta_iconst C 4294967295 dX6_numberIn_47 (by decide) ?_
                  exact ret _ () dX6_numberIn_48 rfl (by unfold tk_num; rw [if_neg (fun h => by have h9 := hrow (s0 + 1) (by omega) (by omega) h.2.2; omega)]) hP hD hS
            · refine ta_iconst C 4294967295 dX6_numberIn_47 (by decide) ?_
              exact ret _ () dX6_numberIn_48 rfl (by unfold tk_num; rw [if_neg (fun h => by have h9 := hrow (s0 + 1) (by omega) (by omega) h.2.2; omega)]) hP hD hS
      · refine ta_iconst C 4294967295 dX6_numberIn_24 (by decide) ?_
        exact ret _ () dX6_numberIn_25 rfl (by unfold tk_num; rw [if_neg (by omega)]) hP hD hS

set_option maxHeartbeats 4000000 in
set_option maxRecDepth 100000 in
theorem c_X6_holds (l : Launch) (D : va_G) (k : ta_C) (x : Nat → Nat) (L : Nat) (tx : Nat → Nat) (i : Nat) (s0 : Nat) (e0 : Nat) (hi : i < 10) (hx0 : tx_ok tx L) (hse : s0 ≤ e0) (heL : e0 ≤ L) : ta_Mi (S := Unit) l D k yX6_holds cX6_holds 5 .boolean 4 120 [.ref (x 0), .ref (k.2 (10 + i)), .int (nI s0), .int (nI e0)] (txW k x L tx) (fun r _ => (tk_is tx s0 e0 i ∧ r = nI 1) ∨ (¬ tk_is tx s0 e0 i ∧ r = nI 0)) (fun u => (txW k x L tx)) := by
  refine ta_enter_i (by decide) (Nat.le_of_ble_eq_true rfl) ?_
  intro p e s m below meth c A ls Q C ret hP hD hS hl
  have C : ta_At p l D k s m ([.ref (x 0), .ref (k.2 (10 + i)), .int (nI s0), .int (nI e0)] : List Value).toArray c RX6 cX6_holds 5 A := C
  have hx := C.1.1
  have hb := C.1.2.1
  have hl : lv_has ls 5 [(0, .ref (x 0)), (1, .ref (k.2 (10 + i))), (2, .int (nI s0)), (3, .int (nI e0))] := hl
  obtain ⟨H, hH⟩ : ∃ H, H = s.heap := ⟨_, rfl⟩
  obtain ⟨locs, hlocs⟩ : ∃ q : List Loc, q = [] := ⟨_, rfl⟩
  have hP : va_P D vwCl (txW k x L tx) H := by rw [hH]; exact hP
  have hS : va_S A s.heap H locs := by rw [hH, hlocs]; exact hS
  rw [← hlocs]
  suffices hgoal : W p l e ({ frames := 4, cells := 0, slots := 0, locals := 120 }) s m ([.ref (x 0), .ref (k.2 (10 + i)), .int (nI s0), .int (nI e0)] : List Value).toArray below meth c H locs 0 0 Q (F0 m 0 ls []) by rw [hH] at hgoal; exact hgoal
  clear hH hlocs
  have hP : va_P D vwCl [(x 0, .inr (6, [.ref (x 1), .int (nI L)])), (x 1, .inl (k.1 0, 160, .inl (ta_e tx)))] H := hP
  have hD : va_D A [(x 0, .inr (6, [.ref (x 1), .int (nI L)])), (x 1, .inl (k.1 0, 160, .inl (ta_e tx)))] := hD
  obtain ⟨hL, hc⟩ := id hx0
  have hlen := ta_len_ok i hi
  refine lv_iload_n hx hb dX6_holds_0 rfl (lv_at hl 2 rfl) ?_
  refine ta_ilt C (a := s0) (tgt := 22) (by omega) dX6_holds_1 (by decide) ?_
  refine lv_iload_n hx hb dX6_holds_4 rfl (lv_at hl 3 rfl) ?_
  refine lv_aload_n hx hb dX6_holds_5 rfl (lv_at hl 0 rfl) ?_
  refine ta_get C hP 0 inlX6 rfl rfl 1 (by decide) tw_45 rfl dX6_holds_6 ?_
  refine ta_cgt C (a := e0) (b := L) (tgt := 22) (by omega) (by omega) dX6_holds_9 (by decide) (fun c2 => ?_) (fun c2 => ?_)
  · exfalso; omega
  · refine lv_iload_n hx hb dX6_holds_12 rfl (lv_at hl 3 rfl) ?_
    refine lv_iload_n hx hb dX6_holds_13 rfl (lv_at hl 2 rfl) ?_
    refine ta_isub C (a := e0) (b := s0) (by omega) dX6_holds_14 ?_
    refine lv_aload_n hx hb dX6_holds_15 rfl (lv_at hl 1 rfl) ?_
    refine ta_callKi (i := i) (As := []) (rest0 := [.int (nI (e0 - s0))]) C hP hD hS (c_J0_length l D k i (by omega)) (by omega) rfl tw_205 tw_201 tw_204 tw_202 tw_203 ⟨by decide, by decide, rfl⟩ ⟨Nat.le_of_ble_eq_true rfl, Nat.le_of_ble_eq_true rfl⟩ ⟨Nat.zero_le _, Nat.zero_le _⟩ hl.1 rfl (Nat.le_of_ble_eq_true rfl) dX6_holds_16 (fun r3 u4 H locs h5 hP hS => ?_)
    obtain rfl := h5
    have hP : va_P D vwCl [(x 0, .inr (6, [.ref (x 1), .int (nI L)])), (x 1, .inl (k.1 0, 160, .inl (ta_e tx)))] H := hP
    have hD : va_D A [(x 0, .inr (6, [.ref (x 1), .int (nI L)])), (x 1, .inl (k.1 0, 160, .inl (ta_e tx)))] := hD
    refine ta_ceq C (a := e0 - s0) (b := ta_len.getD i 0) (tgt := 24) (by omega) (by omega) dX6_holds_19 (by decide) (fun c6 => ?_) (fun c6 => ?_)
    · refine ta_iconst C 0 dX6_holds_24 (by decide) ?_
      refine lv_istore (lv' := [(4, .int (nI 0)), (0, .ref (x 0)), (1, .ref (k.2 (10 + i))), (2, .int (nI s0)), (3, .int (nI e0))]) hx hb dX6_holds_25 hl (by decide) rfl (fun ls hl => ?_)
      have loop_27 : ∀ (N_27 : Nat) (j : Nat), (j ≤ ta_len.getD i 0) → (∀ m, m < j → tx (s0 + m) = ta_chr i m) → ta_len.getD i 0 - j < N_27 → ∀ (H : Heap) (locs : List Loc) (ls : Array Slot), va_P D vwCl [(x 0, .inr (6, [.ref (x 1), .int (nI L)])), (x 1, .inl (k.1 0, 160, .inl (ta_e tx)))] H → va_D A [(x 0, .inr (6, [.ref (x 1), .int (nI L)])), (x 1, .inl (k.1 0, 160, .inl (ta_e tx)))] → va_S A s.heap H locs → lv_has ls 5 [(4, .int (nI j)), (0, .ref (x 0)), (1, .ref (k.2 (10 + i))), (2, .int (nI s0)), (3, .int (nI e0))] → W p l e ({ frames := 4, cells := 0, slots := 0, locals := 120 }) s m ([.ref (x 0), .ref (k.2 (10 + i)), .int (nI s0), .int (nI e0)] : List Value).toArray below meth c H locs 0 0 Q (F0 m 27 ls []) := by
        clear hP hD hS hl
        intro N_27
        induction N_27 with
        | zero =>
          intro j h1 h2 hf_27
          exact absurd hf_27 (Nat.not_lt_zero _)
        | succ N_27 ih_27 =>
          intro j h1 h2 hf_27 H locs ls hP hD hS hl
          refine lv_iload hx hb dX6_holds_27 (lv_at hl 0 rfl) ?_
          refine lv_aload_n hx hb dX6_holds_29 rfl (lv_at hl 2 rfl) ?_
          refine ta_callKi (i := i) (As := []) (rest0 := [.int (nI j)]) C hP hD hS (c_J0_length l D k i (by omega)) (by omega) rfl tw_205 tw_201 tw_204 tw_202 tw_203 ⟨by decide, by decide, rfl⟩ ⟨Nat.le_of_ble_eq_true rfl, Nat.le_of_ble_eq_true rfl⟩ ⟨Nat.zero_le _, Nat.zero_le _⟩ hl.1 rfl (Nat.le_of_ble_eq_true rfl) dX6_holds_30 (fun r7 u8 H locs h9 hP hS => ?_)
          obtain rfl := h9
          have hP : va_P D vwCl [(x 0, .inr (6, [.ref (x 1), .int (nI L)])), (x 1, .inl (k.1 0, 160, .inl (ta_e tx)))] H := hP
          have hD : va_D A [(x 0, .inr (6, [.ref (x 1), .int (nI L)])), (x 1, .inl (k.1 0, 160, .inl (ta_e tx)))] := hD
          refine ta_cge C (a := j) (b := ta_len.getD i 0) (tgt := 62) (by omega) (by omega) dX6_holds_33 (by decide) (fun c10 => ?_) (fun c10 => ?_)
          · refine ta_iconst C 1 dX6_holds_62 (by decide) ?_
            exact ret _ () dX6_holds_63 (by decide) (Or.inl ⟨⟨by omega, fun m hm => h2 m (by omega)⟩, rfl⟩) hP hD hS
          · refine lv_aload_n hx hb dX6_holds_36 rfl (lv_at hl 1 rfl) ?_
            refine ta_get C hP 0 inlX6 rfl rfl 0 (by decide) tw_44 rfl dX6_holds_37 ?_
            refine lv_iload_n hx hb dX6_holds_40 rfl (lv_at hl 3 rfl) ?_
            refine lv_iload hx hb dX6_holds_41 (lv_at hl 0 rfl) ?_
            refine ta_iadd C (a := s0) (b := j) dX6_holds_43 ?_
            have hcj := hc (s0 + j) (by omega)
            have hch := (ta_chr_ok i hi j (by omega)).2
            refine ta_iald C hP 1 rfl (i := s0 + j) (by omega) dX6_holds_44 ?_
            refine lv_aload_n hx hb dX6_holds_45 rfl (lv_at hl 2 rfl) ?_
            refine lv_iload hx hb dX6_holds_46 (lv_at hl 0 rfl) ?_
            refine ta_callKi (i := i) (As := [.int (nI j)]) (rest0 := [.int (nI (tx (s0 + j)))]) C hP hD hS (c_J0_charAt l D k i j (by omega) (by omega)) (by omega) rfl tw_216 tw_213 tw_204 tw_214 tw_215 ⟨by decide, by decide, rfl⟩ ⟨Nat.le_of_ble_eq_true rfl, Nat.le_of_ble_eq_true rfl⟩ ⟨Nat.zero_le _, Nat.zero_le _⟩ hl.1 rfl (Nat.le_of_ble_eq_true rfl) dX6_holds_48 (fun r11 u12 H locs h13 hP hS => ?_)
            obtain rfl := h13
            have hP : va_P D vwCl [(x 0, .inr (6, [.ref (x 1), .int (nI L)])), (x 1, .inl (k.1 0, 160, .inl (ta_e tx)))] H := hP
            have hD : va_D A [(x 0, .inr (6, [.ref (x 1), .int (nI L)])), (x 1, .inl (k.1 0, 160, .inl (ta_e tx)))] := hD
            refine ta_ceq C (a := tx (s0 + j)) (b := ta_chr i j) (tgt := 56) (by omega) (by omega) dX6_holds_51 (by decide) (fun c14 => ?_) (fun c14 => ?_)
            · refine lv_iinc (v := nI (j + 1)) (lv' := [(4, .int (nI (j + 1))), (0, .ref (x 0)), (1, .ref (k.2 (10 + i))), (2, .int (nI s0)), (3, .int (nI e0))]) hx hb dX6_holds_56 hl (k := 0) rfl (ta_inc1 _) (by decide) rfl (fun ls hl => ?_)
              refine lv_goto (tgt := 27) hx hb dX6_holds_59 (by decide) ?_
              have h2n : ∀ m, m < j + 1 → tx (s0 + m) = ta_chr i m := by
                intro m hm
                rcases Nat.lt_or_ge m j with h9 | h9
                · exact h2 m h9
                · obtain rfl : m = j := by omega
                  omega
              exact ih_27 (j + 1) (by omega) h2n (by omega) _ _ _ hP hD hS (lv_sub hl [0, 1, 2, 3, 4] rfl)
            · refine ta_iconst C 0 dX6_holds_54 (by decide) ?_
              exact ret _ () dX6_holds_55 (by decide) (Or.inr ⟨fun h => by have h9 := h.2 j (by omega); omega, rfl⟩) hP hD hS
      exact loop_27 ((ta_len.getD i 0 - 0) + 1) 0 (by omega) (fun m hm => absurd hm (Nat.not_lt_zero m)) (Nat.lt_succ_self _) _ _ _ hP hD hS (lv_sub hl [0, 1, 2, 3, 4] rfl)
    · refine ta_iconst C 0 dX6_holds_22 (by decide) ?_
      exact ret _ () dX6_holds_23 (by decide) (Or.inr ⟨fun h => by have h9 := h.1; omega, rfl⟩) hP hD hS

set_option maxHeartbeats 4000000 in
set_option maxRecDepth 100000 in
theorem c_X4_nextToken (l : Launch) (D : va_G) (k : ta_C) (rd : Nat) (pa : Nat) (st0 : Nat) (en : Nat) (fa : Nat) (cl : Nat) (x : Nat → Nat) (L : Nat) (tx : Nat → Nat) (hx0 : tx_ok tx L) (hen : en ≤ L) : ta_Mv (S := Unit) l D k yX4_nextToken cX4_nextToken 3 1 40 [.ref rd] ([(rd, .inr (4, [.ref (x 0), .ref pa, .int (nI st0), .int (nI en), .int (nI fa), .int (nI cl)]))] ++ (txW k x L tx)) (fun _ => True) (fun u => ([(rd, .inr (4, [.ref (x 0), .ref pa, .int (nI (tk_st tx L en)), .int (nI (tk_en tx L (tk_st tx L en))), .int (nI fa), .int (nI cl)]))] ++ (txW k x L tx))) := by
  refine ta_enter_v (by decide) (Nat.le_of_ble_eq_true rfl) ?_
  intro p e s m below meth c A ls Q C ret hP hD hS hl
  have C : ta_At p l D k s m ([.ref rd] : List Value).toArray c RX4 cX4_nextToken 3 A := C
  have hx := C.1.1
  have hb := C.1.2.1
  have hl : lv_has ls 3 [(0, .ref rd)] := hl
  obtain ⟨H, hH⟩ : ∃ H, H = s.heap := ⟨_, rfl⟩
  obtain ⟨locs, hlocs⟩ : ∃ q : List Loc, q = [] := ⟨_, rfl⟩
  have hP : va_P D vwCl ([(rd, .inr (4, [.ref (x 0), .ref pa, .int (nI st0), .int (nI en), .int (nI fa), .int (nI cl)]))] ++ (txW k x L tx)) H := by rw [hH]; exact hP
  have hS : va_S A s.heap H locs := by rw [hH, hlocs]; exact hS
  rw [← hlocs]
  suffices hgoal : W p l e ({ frames := 1, cells := 0, slots := 0, locals := 40 }) s m ([.ref rd] : List Value).toArray below meth c H locs 0 0 Q (F0 m 0 ls []) by rw [hH] at hgoal; exact hgoal
  clear hH hlocs
  obtain ⟨hL, hc⟩ := id hx0
  have join_49 : ∀ (s1 : Nat), (s1 ≤ L) → (s1 = tk_st tx L en) → ∀ (H : Heap) (locs : List Loc) (ls : Array Slot), va_P D vwCl ([(rd, .inr (4, [.ref (x 0), .ref pa, .int (nI s1), .int (nI en), .int (nI fa), .int (nI cl)]))] ++ (txW k x L tx)) H → va_D A ([(rd, .inr (4, [.ref (x 0), .ref pa, .int (nI s1), .int (nI en), .int (nI fa), .int (nI cl)]))] ++ (txW k x L tx)) → va_S A s.heap H locs → lv_has ls 3 [(0, .ref rd)] → W p l e ({ frames := 1, cells := 0, slots := 0, locals := 40 }) s m ([.ref rd] : List Value).toArray below meth c H locs 0 0 Q (F0 m 49 ls []) := by
    clear hP hD hS hl
    intro s1 hs1 hs2 H locs ls hP hD hS hl
    refine lv_aload_n hx hb dX4_nextToken_49 rfl (lv_at hl 0 rfl) ?_
    refine lv_aload_n hx hb dX4_nextToken_50 rfl (lv_at hl 0 rfl) ?_
    refine ta_get C hP 0 inlX4 rfl rfl 2 (by decide) tw_70 rfl dX4_nextToken_51 ?_
    refine ta_iconst C 1 dX4_nextToken_54 (by decide) ?_
    refine ta_iadd C (a := s1) (b := 1) dX4_nextToken_55 ?_
    refine lv_aload_n hx hb dX4_nextToken_56 rfl (lv_at hl 0 rfl) ?_
    refine ta_get C hP 0 inlX4 rfl rfl 0 (by decide) tw_74 rfl dX4_nextToken_57 ?_
    refine ta_getN C hP 1 inlX6 rfl rfl 1 (by decide) 1 rfl rfl dX4_nextToken_60 ?_
    refine va_mmin hx hb (by rw [C.1.2.2.1]; exact hl.1.symm) C.1.2.2.2.1 (C.1.2.2.2.2 _ tw_189) (C.1.2.2.2.2 _ tw_190) (C.1.2.2.2.2 _ tw_191) (C.1.2.2.2.2 _ tw_192) (Nat.le_of_ble_eq_true rfl) (Nat.le_of_ble_eq_true rfl) (Nat.zero_le _) (Nat.zero_le _) dX4_nextToken_63 ?_
    refine ta_val (y := nI (min (s1 + 1) L)) (ta_min (by omega) (by omega)) ?_
    refine ta_put C hP hD hS 0 inlX4 tyX4 tyX4_ok nmX4 rfl rfl 3 (by decide) tw_71 rfl rfl rfl (Nat.le_of_ble_eq_true rfl) dX4_nextToken_66 (fun H locs hP hD hS => ?_)
    have hP : va_P D vwCl ([(rd, .inr (4, [.ref (x 0), .ref pa, .int (nI s1), .int (nI (min (s1 + 1) L)), .int (nI fa), .int (nI cl)]))] ++ (txW k x L tx)) H := hP
    have hD : va_D A ([(rd, .inr (4, [.ref (x 0), .ref pa, .int (nI s1), .int (nI (min (s1 + 1) L)), .int (nI fa), .int (nI cl)]))] ++ (txW k x L tx)) := hD
    refine lv_aload_n hx hb dX4_nextToken_69 rfl (lv_at hl 0 rfl) ?_
    refine ta_get C hP 0 inlX4 rfl rfl 0 (by decide) tw_74 rfl dX4_nextToken_70 ?_
    refine lv_aload_n hx hb dX4_nextToken_73 rfl (lv_at hl 0 rfl) ?_
    refine ta_get C hP 0 inlX4 rfl rfl 2 (by decide) tw_70 rfl dX4_nextToken_74 ?_
    refine ta_callVi (As := [.int (nI s1)]) (rest0 := []) (Wr := [(rd, .inr (4, [.ref (x 0), .ref pa, .int (nI s1), .int (nI (min (s1 + 1) L)), .int (nI fa), .int (nI cl)]))]) C hP hD hS (c_X6_sortAt l D k x L tx s1 hx0 (by omega)) 1 rfl rfl rfl [1, 2] [0] rfl rfl (by decide) (by decide) (by decide) tw_196 tw_193 tw_14 tw_194 tw_195 ⟨by decide, by decide, rfl⟩ ⟨Nat.le_of_ble_eq_true rfl, Nat.le_of_ble_eq_true rfl⟩ ⟨Nat.zero_le _, Nat.zero_le _⟩ hl.1 rfl (Nat.le_of_ble_eq_true rfl) dX4_nextToken_77 (fun r1 u2 H locs h3 hP hD hS => ?_)
    obtain rfl := h3
    have hP : va_P D vwCl ([(rd, .inr (4, [.ref (x 0), .ref pa, .int (nI s1), .int (nI (min (s1 + 1) L)), .int (nI fa), .int (nI cl)]))] ++ (txW k x L tx)) H := hP
    have hD : va_D A ([(rd, .inr (4, [.ref (x 0), .ref pa, .int (nI s1), .int (nI (min (s1 + 1) L)), .int (nI fa), .int (nI cl)]))] ++ (txW k x L tx)) := hD
    have h5 := tx_s4 tx L s1
    refine lv_istore_n (lv' := [(1, .int (nI (tx_s tx L s1))), (0, .ref rd)]) hx hb dX4_nextToken_80 rfl hl (by decide) rfl (fun ls hl => ?_)
    refine lv_iload_n hx hb dX4_nextToken_81 rfl (lv_at hl 0 rfl) ?_
    refine ta_iconst C 1 dX4_nextToken_82 (by decide) ?_
    refine ta_ceq C (a := tx_s tx L s1) (b := 1) (tgt := 91) (by omega) (by omega) dX4_nextToken_83 (by decide) (fun c4 => ?_) (fun c4 => ?_)
    · have hrow : tx_s tx L s1 = 1 ∨ tx_s tx L s1 = 2 := by omega
      have hsL := tx_s0 (tx := tx) (L := L) (p := s1) (by omega)
      have hmin : min (s1 + 1) L = s1 + 1 := by omega
      rw [hmin] at hP hD
      refine ta_iconst C 1 dX4_nextToken_91 (by decide) ?_
      refine lv_goto (tgt := 96) hx hb dX4_nextToken_92 (by decide) ?_
      refine lv_istore_n (lv' := [(2, .int (nI 1)), (1, .int (nI (tx_s tx L s1))), (0, .ref rd)]) hx hb dX4_nextToken_96 rfl hl (by decide) rfl (fun ls hl => ?_)
      have loop_97 : ∀ (N_97 : Nat) (e1 : Nat), (e1 ≤ L) → (tk_rn tx L (tx_s tx L s1) e1 = tk_rn tx L (tx_s tx L s1) (s1 + 1)) → L - e1 < N_97 → ∀ (H : Heap) (locs : List Loc) (ls : Array Slot), va_P D vwCl ([(rd, .inr (4, [.ref (x 0), .ref pa, .int (nI s1), .int (nI e1), .int (nI fa), .int (nI cl)]))] ++ (txW k x L tx)) H → va_D A ([(rd, .inr (4, [.ref (x 0), .ref pa, .int (nI s1), .int (nI e1), .int (nI fa), .int (nI cl)]))] ++ (txW k x L tx)) → va_S A s.heap H locs → lv_has ls 3 [(2, .int (nI 1)), (1, .int (nI (tx_s tx L s1))), (0, .ref rd)] → W p l e ({ frames := 1, cells := 0, slots := 0, locals := 40 }) s m ([.ref rd] : List Value).toArray below meth c H locs 0 0 Q (F0 m 97 ls []) := by
        clear hP hD hS hl
        intro N_97
        induction N_97 with
        | zero =>
          intro e1 h3 h4 hf_97
          exact absurd hf_97 (Nat.not_lt_zero _)
        | succ N_97 ih_97 =>
          intro e1 h3 h4 hf_97 H locs ls hP hD hS hl
          refine lv_iload_n hx hb dX4_nextToken_97 rfl (lv_at hl 0 rfl) ?_
          refine lv_if_eq (tgt := 143) hx hb dX4_nextToken_98 (by decide) (fun c5 => ?_) (fun c5 => ?_)
          · exact absurd c5 (by decide)
          · refine lv_aload_n hx hb dX4_nextToken_101 rfl (lv_at hl 2 rfl) ?_
            refine ta_get C hP 0 inlX4 rfl rfl 3 (by decide) tw_71 rfl dX4_nextToken_102 ?_
            refine lv_aload_n hx hb dX4_nextToken_105 rfl (lv_at hl 2 rfl) ?_
            refine ta_get C hP 0 inlX4 rfl rfl 0 (by decide) tw_74 rfl dX4_nextToken_106 ?_
            refine ta_getN C hP 1 inlX6 rfl rfl 1 (by decide) 1 rfl rfl dX4_nextToken_109 ?_
            refine ta_cge C (a := e1) (b := L) (tgt := 143) (by omega) (by omega) dX4_nextToken_112 (by decide) (fun c6 => ?_) (fun c6 => ?_)
            · have ee : e1 = tk_en tx L s1 := by
                have hne : tx_s tx L e1 ≠ tx_s tx L s1 := by
                  rw [show tx_s tx L e1 = 3 from if_neg (by omega)]; omega
                unfold tk_en
                rw [if_pos hsL, if_pos hrow, ← h4]
                exact (tk_rn_n hne).symm
              rw [ee, hs2] at hP hD
              exact ret () dX4_nextToken_143 trivial hP hD hS
            · refine lv_aload_n hx hb dX4_nextToken_115 rfl (lv_at hl 2 rfl) ?_
              refine ta_get C hP 0 inlX4 rfl rfl 0 (by decide) tw_74 rfl dX4_nextToken_116 ?_
              refine lv_aload_n hx hb dX4_nextToken_119 rfl (lv_at hl 2 rfl) ?_
              refine ta_get C hP 0 inlX4 rfl rfl 3 (by decide) tw_71 rfl dX4_nextToken_120 ?_
              refine ta_callVi (As := [.int (nI e1)]) (rest0 := []) (Wr := [(rd, .inr (4, [.ref (x 0), .ref pa, .int (nI s1), .int (nI e1), .int (nI fa), .int (nI cl)]))]) C hP hD hS (c_X6_sortAt l D k x L tx e1 hx0 (by omega)) 1 rfl rfl rfl [1, 2] [0] rfl rfl (by decide) (by decide) (by decide) tw_196 tw_193 tw_14 tw_194 tw_195 ⟨by decide, by decide, rfl⟩ ⟨Nat.le_of_ble_eq_true rfl, Nat.le_of_ble_eq_true rfl⟩ ⟨Nat.zero_le _, Nat.zero_le _⟩ hl.1 rfl (Nat.le_of_ble_eq_true rfl) dX4_nextToken_123 (fun r7 u8 H locs h9 hP hD hS => ?_)
              obtain rfl := h9
              have hP : va_P D vwCl ([(rd, .inr (4, [.ref (x 0), .ref pa, .int (nI s1), .int (nI e1), .int (nI fa), .int (nI cl)]))] ++ (txW k x L tx)) H := hP
              have hD : va_D A ([(rd, .inr (4, [.ref (x 0), .ref pa, .int (nI s1), .int (nI e1), .int (nI fa), .int (nI cl)]))] ++ (txW k x L tx)) := hD
              refine lv_iload_n hx hb dX4_nextToken_126 rfl (lv_at hl 1 rfl) ?_
              have h6 := tx_s4 tx L e1
              refine ta_cne C (a := tx_s tx L e1) (b := tx_s tx L s1) (tgt := 143) (by omega) (by omega) dX4_nextToken_127 (by decide) (fun c10 => ?_) (fun c10 => ?_)
              · have ee : e1 = tk_en tx L s1 := by
                  have hne : tx_s tx L e1 ≠ tx_s tx L s1 := by
                    omega
                  unfold tk_en
                  rw [if_pos hsL, if_pos hrow, ← h4]
                  exact (tk_rn_n hne).symm
                rw [ee, hs2] at hP hD
                exact ret () dX4_nextToken_143 trivial hP hD hS
              · refine lv_aload_n hx hb dX4_nextToken_130 rfl (lv_at hl 2 rfl) ?_
                refine lv_dup hx hb dX4_nextToken_131 rfl ?_
                refine ta_get C hP 0 inlX4 rfl rfl 3 (by decide) tw_71 rfl dX4_nextToken_132 ?_
                refine ta_iconst C 1 dX4_nextToken_135 (by decide) ?_
                refine ta_iadd C (a := e1) (b := 1) dX4_nextToken_136 ?_
                refine ta_put C hP hD hS 0 inlX4 tyX4 tyX4_ok nmX4 rfl rfl 3 (by decide) tw_71 rfl rfl rfl (Nat.le_of_ble_eq_true rfl) dX4_nextToken_137 (fun H locs hP hD hS => ?_)
                have hP : va_P D vwCl ([(rd, .inr (4, [.ref (x 0), .ref pa, .int (nI s1), .int (nI (e1 + 1)), .int (nI fa), .int (nI cl)]))] ++ (txW k x L tx)) H := hP
                have hD : va_D A ([(rd, .inr (4, [.ref (x 0), .ref pa, .int (nI s1), .int (nI (e1 + 1)), .int (nI fa), .int (nI cl)]))] ++ (txW k x L tx)) := hD
                refine lv_goto (tgt := 97) hx hb dX4_nextToken_140 (by decide) ?_
                exact ih_97 (e1 + 1) (by omega) (by rw [← h4]; exact (tk_rn_y (by omega) (by omega)).symm) (by omega) _ _ _ hP hD hS (lv_sub hl [0, 1, 2] rfl)
      exact loop_97 ((L - (s1 + 1)) + 1) (s1 + 1) (by omega) rfl (Nat.lt_succ_self _) _ _ _ hP hD hS (lv_sub hl [0, 1, 2] rfl)
    · refine lv_iload_n hx hb dX4_nextToken_86 rfl (lv_at hl 0 rfl) ?_
      refine ta_iconst C 2 dX4_nextToken_87 (by decide) ?_
      refine ta_cne C (a := tx_s tx L s1) (b := 2) (tgt := 95) (by omega) (by omega) dX4_nextToken_88 (by decide) (fun c11 => ?_) (fun c11 => ?_)
      · refine ta_iconst C 0 dX4_nextToken_95 (by decide) ?_
        refine lv_istore_n (lv' := [(2, .int (nI 0)), (1, .int (nI (tx_s tx L s1))), (0, .ref rd)]) hx hb dX4_nextToken_96 rfl hl (by decide) rfl (fun ls hl => ?_)
        refine lv_iload_n hx hb dX4_nextToken_97 rfl (lv_at hl 0 rfl) ?_
        refine lv_if_eq (tgt := 143) hx hb dX4_nextToken_98 (by decide) (fun c12 => ?_) (fun c12 => ?_)
        · have ee : min (s1 + 1) L = tk_en tx L s1 := by
            unfold tk_en
            rcases Nat.lt_or_ge s1 L with h9 | h9
            · rw [if_pos h9, if_neg (by omega)]; omega
            · rw [if_neg (by omega)]; omega
          rw [ee, hs2] at hP hD
          exact ret () dX4_nextToken_143 trivial hP hD hS
        · exact absurd c12 (by decide)
      · have hrow : tx_s tx L s1 = 1 ∨ tx_s tx L s1 = 2 := by omega
        have hsL := tx_s0 (tx := tx) (L := L) (p := s1) (by omega)
        have hmin : min (s1 + 1) L = s1 + 1 := by omega
        rw [hmin] at hP hD
        refine ta_iconst C 1 dX4_nextToken_91 (by decide) ?_
        refine lv_goto (tgt := 96) hx hb dX4_nextToken_92 (by decide) ?_
        refine lv_istore_n (lv' := [(2, .int (nI 1)), (1, .int (nI (tx_s tx L s1))), (0, .ref rd)]) hx hb dX4_nextToken_96 rfl hl (by decide) rfl (fun ls hl => ?_)
        have loop_97 : ∀ (N_97 : Nat) (e1 : Nat), (e1 ≤ L) → (tk_rn tx L (tx_s tx L s1) e1 = tk_rn tx L (tx_s tx L s1) (s1 + 1)) → L - e1 < N_97 → ∀ (H : Heap) (locs : List Loc) (ls : Array Slot), va_P D vwCl ([(rd, .inr (4, [.ref (x 0), .ref pa, .int (nI s1), .int (nI e1), .int (nI fa), .int (nI cl)]))] ++ (txW k x L tx)) H → va_D A ([(rd, .inr (4, [.ref (x 0), .ref pa, .int (nI s1), .int (nI e1), .int (nI fa), .int (nI cl)]))] ++ (txW k x L tx)) → va_S A s.heap H locs → lv_has ls 3 [(2, .int (nI 1)), (1, .int (nI (tx_s tx L s1))), (0, .ref rd)] → W p l e ({ frames := 1, cells := 0, slots := 0, locals := 40 }) s m ([.ref rd] : List Value).toArray below meth c H locs 0 0 Q (F0 m 97 ls []) := by
          clear hP hD hS hl
          intro N_97
          induction N_97 with
          | zero =>
            intro e1 h3 h4 hf_97
            exact absurd hf_97 (Nat.not_lt_zero _)
          | succ N_97 ih_97 =>
            intro e1 h3 h4 hf_97 H locs ls hP hD hS hl
            refine lv_iload_n hx hb dX4_nextToken_97 rfl (lv_at hl 0 rfl) ?_
            refine lv_if_eq (tgt := 143) hx hb dX4_nextToken_98 (by decide) (fun c13 => ?_) (fun c13 => ?_)
            · exact absurd c13 (by decide)
            · refine lv_aload_n hx hb dX4_nextToken_101 rfl (lv_at hl 2 rfl) ?_
              refine ta_get C hP 0 inlX4 rfl rfl 3 (by decide) tw_71 rfl dX4_nextToken_102 ?_
              refine lv_aload_n hx hb dX4_nextToken_105 rfl (lv_at hl 2 rfl) ?_
              refine ta_get C hP 0 inlX4 rfl rfl 0 (by decide) tw_74 rfl dX4_nextToken_106 ?_
              refine ta_getN C hP 1 inlX6 rfl rfl 1 (by decide) 1 rfl rfl dX4_nextToken_109 ?_
              refine ta_cge C (a := e1) (b := L) (tgt := 143) (by omega) (by omega) dX4_nextToken_112 (by decide) (fun c14 => ?_) (fun c14 => ?_)
              · have ee : e1 = tk_en tx L s1 := by
                  have hne : tx_s tx L e1 ≠ tx_s tx L s1 := by
                    rw [show tx_s tx L e1 = 3 from if_neg (by omega)]; omega
                  unfold tk_en
                  rw [if_pos hsL, if_pos hrow, ← h4]
                  exact (tk_rn_n hne).symm
                rw [ee, hs2] at hP hD
                exact ret () dX4_nextToken_143 trivial hP hD hS
              · refine lv_aload_n hx hb dX4_nextToken_115 rfl (lv_at hl 2 rfl) ?_
                refine ta_get C hP 0 inlX4 rfl rfl 0 (by decide) tw_74 rfl dX4_nextToken_116 ?_
                refine lv_aload_n hx hb dX4_nextToken_119 rfl (lv_at hl 2 rfl) ?_
                refine ta_get C hP 0 inlX4 rfl rfl 3 (by decide) tw_71 rfl dX4_nextToken_120 ?_
                refine ta_callVi (As := [.int (nI e1)]) (rest0 := []) (Wr := [(rd, .inr (4, [.ref (x 0), .ref pa, .int (nI s1), .int (nI e1), .int (nI fa), .int (nI cl)]))]) C hP hD hS (c_X6_sortAt l D k x L tx e1 hx0 (by omega)) 1 rfl rfl rfl [1, 2] [0] rfl rfl (by decide) (by decide) (by decide) tw_196 tw_193 tw_14 tw_194 tw_195 ⟨by decide, by decide, rfl⟩ ⟨Nat.le_of_ble_eq_true rfl, Nat.le_of_ble_eq_true rfl⟩ ⟨Nat.zero_le _, Nat.zero_le _⟩ hl.1 rfl (Nat.le_of_ble_eq_true rfl) dX4_nextToken_123 (fun r15 u16 H locs h17 hP hD hS => ?_)
                obtain rfl := h17
                have hP : va_P D vwCl ([(rd, .inr (4, [.ref (x 0), .ref pa, .int (nI s1), .int (nI e1), .int (nI fa), .int (nI cl)]))] ++ (txW k x L tx)) H := hP
                have hD : va_D A ([(rd, .inr (4, [.ref (x 0), .ref pa, .int (nI s1), .int (nI e1), .int (nI fa), .int (nI cl)]))] ++ (txW k x L tx)) := hD
                refine lv_iload_n hx hb dX4_nextToken_126 rfl (lv_at hl 1 rfl) ?_
                have h6 := tx_s4 tx L e1
                refine ta_cne C (a := tx_s tx L e1) (b := tx_s tx L s1) (tgt := 143) (by omega) (by omega) dX4_nextToken_127 (by decide) (fun c18 => ?_) (fun c18 => ?_)
                · have ee : e1 = tk_en tx L s1 := by
                    have hne : tx_s tx L e1 ≠ tx_s tx L s1 := by
                      omega
                    unfold tk_en
                    rw [if_pos hsL, if_pos hrow, ← h4]
                    exact (tk_rn_n hne).symm
                  rw [ee, hs2] at hP hD
                  exact ret () dX4_nextToken_143 trivial hP hD hS
                · refine lv_aload_n hx hb dX4_nextToken_130 rfl (lv_at hl 2 rfl) ?_
                  refine lv_dup hx hb dX4_nextToken_131 rfl ?_
                  refine ta_get C hP 0 inlX4 rfl rfl 3 (by decide) tw_71 rfl dX4_nextToken_132 ?_
                  refine ta_iconst C 1 dX4_nextToken_135 (by decide) ?_
                  refine ta_iadd C (a := e1) (b := 1) dX4_nextToken_136 ?_
                  refine ta_put C hP hD hS 0 inlX4 tyX4 tyX4_ok nmX4 rfl rfl 3 (by decide) tw_71 rfl rfl rfl (Nat.le_of_ble_eq_true rfl) dX4_nextToken_137 (fun H locs hP hD hS => ?_)
                  have hP : va_P D vwCl ([(rd, .inr (4, [.ref (x 0), .ref pa, .int (nI s1), .int (nI (e1 + 1)), .int (nI fa), .int (nI cl)]))] ++ (txW k x L tx)) H := hP
                  have hD : va_D A ([(rd, .inr (4, [.ref (x 0), .ref pa, .int (nI s1), .int (nI (e1 + 1)), .int (nI fa), .int (nI cl)]))] ++ (txW k x L tx)) := hD
                  refine lv_goto (tgt := 97) hx hb dX4_nextToken_140 (by decide) ?_
                  exact ih_97 (e1 + 1) (by omega) (by rw [← h4]; exact (tk_rn_y (by omega) (by omega)).symm) (by omega) _ _ _ hP hD hS (lv_sub hl [0, 1, 2] rfl)
        exact loop_97 ((L - (s1 + 1)) + 1) (s1 + 1) (by omega) rfl (Nat.lt_succ_self _) _ _ _ hP hD hS (lv_sub hl [0, 1, 2] rfl)
  refine lv_aload_n hx hb dX4_nextToken_0 rfl (lv_at hl 0 rfl) ?_
  refine lv_aload_n hx hb dX4_nextToken_1 rfl (lv_at hl 0 rfl) ?_
  refine ta_get C hP 0 inlX4 rfl rfl 3 (by decide) tw_71 rfl dX4_nextToken_2 ?_
  refine ta_put C hP hD hS 0 inlX4 tyX4 tyX4_ok nmX4 rfl rfl 2 (by decide) tw_70 rfl rfl rfl (Nat.le_of_ble_eq_true rfl) dX4_nextToken_5 (fun H locs hP hD hS => ?_)
  have hP : va_P D vwCl ([(rd, .inr (4, [.ref (x 0), .ref pa, .int (nI en), .int (nI en), .int (nI fa), .int (nI cl)]))] ++ (txW k x L tx)) H := hP
  have hD : va_D A ([(rd, .inr (4, [.ref (x 0), .ref pa, .int (nI en), .int (nI en), .int (nI fa), .int (nI cl)]))] ++ (txW k x L tx)) := hD
  have loop_8 : ∀ (N_8 : Nat) (s0 : Nat), (s0 ≤ L) → (tk_st tx L s0 = tk_st tx L en) → L - s0 < N_8 → ∀ (H : Heap) (locs : List Loc) (ls : Array Slot), va_P D vwCl ([(rd, .inr (4, [.ref (x 0), .ref pa, .int (nI s0), .int (nI en), .int (nI fa), .int (nI cl)]))] ++ (txW k x L tx)) H → va_D A ([(rd, .inr (4, [.ref (x 0), .ref pa, .int (nI s0), .int (nI en), .int (nI fa), .int (nI cl)]))] ++ (txW k x L tx)) → va_S A s.heap H locs → lv_has ls 3 [(0, .ref rd)] → W p l e ({ frames := 1, cells := 0, slots := 0, locals := 40 }) s m ([.ref rd] : List Value).toArray below meth c H locs 0 0 Q (F0 m 8 ls []) := by
    clear hP hD hS hl
    intro N_8
    induction N_8 with
    | zero =>
      intro s0 h1 h2 hf_8
      exact absurd hf_8 (Nat.not_lt_zero _)
    | succ N_8 ih_8 =>
      intro s0 h1 h2 hf_8 H locs ls hP hD hS hl
      refine lv_aload_n hx hb dX4_nextToken_8 rfl (lv_at hl 0 rfl) ?_
      refine ta_get C hP 0 inlX4 rfl rfl 2 (by decide) tw_70 rfl dX4_nextToken_9 ?_
      refine lv_aload_n hx hb dX4_nextToken_12 rfl (lv_at hl 0 rfl) ?_
      refine ta_get C hP 0 inlX4 rfl rfl 0 (by decide) tw_74 rfl dX4_nextToken_13 ?_
      refine ta_getN C hP 1 inlX6 rfl rfl 1 (by decide) 1 rfl rfl dX4_nextToken_16 ?_
      refine ta_cge C (a := s0) (b := L) (tgt := 49) (by omega) (by omega) dX4_nextToken_19 (by decide) (fun c19 => ?_) (fun c19 => ?_)
      · exact join_49 s0 (by omega) (by rw [← h2]; exact (tk_st_n (by unfold tx_s; rw [if_neg (by omega)]; decide)).symm) _ _ _ hP hD hS (lv_sub hl [0] rfl)
      · refine lv_aload_n hx hb dX4_nextToken_22 rfl (lv_at hl 0 rfl) ?_
        refine ta_get C hP 0 inlX4 rfl rfl 0 (by decide) tw_74 rfl dX4_nextToken_23 ?_
        refine lv_aload_n hx hb dX4_nextToken_26 rfl (lv_at hl 0 rfl) ?_
        refine ta_get C hP 0 inlX4 rfl rfl 2 (by decide) tw_70 rfl dX4_nextToken_27 ?_
        refine ta_callVi (As := [.int (nI s0)]) (rest0 := []) (Wr := [(rd, .inr (4, [.ref (x 0), .ref pa, .int (nI s0), .int (nI en), .int (nI fa), .int (nI cl)]))]) C hP hD hS (c_X6_sortAt l D k x L tx s0 hx0 (by omega)) 1 rfl rfl rfl [1, 2] [0] rfl rfl (by decide) (by decide) (by decide) tw_196 tw_193 tw_14 tw_194 tw_195 ⟨by decide, by decide, rfl⟩ ⟨Nat.le_of_ble_eq_true rfl, Nat.le_of_ble_eq_true rfl⟩ ⟨Nat.zero_le _, Nat.zero_le _⟩ hl.1 rfl (Nat.le_of_ble_eq_true rfl) dX4_nextToken_30 (fun r20 u21 H locs h22 hP hD hS => ?_)
        obtain rfl := h22
        have hP : va_P D vwCl ([(rd, .inr (4, [.ref (x 0), .ref pa, .int (nI s0), .int (nI en), .int (nI fa), .int (nI cl)]))] ++ (txW k x L tx)) H := hP
        have hD : va_D A ([(rd, .inr (4, [.ref (x 0), .ref pa, .int (nI s0), .int (nI en), .int (nI fa), .int (nI cl)]))] ++ (txW k x L tx)) := hD
        have h5 := tx_s4 tx L s0
        refine ta_ine C (a := tx_s tx L s0) (tgt := 49) (by omega) dX4_nextToken_33 (by decide) (fun c23 => ?_) (fun c23 => ?_)
        · exact join_49 s0 (by omega) (by rw [← h2]; exact (tk_st_n (by omega)).symm) _ _ _ hP hD hS (lv_sub hl [0] rfl)
        · refine lv_aload_n hx hb dX4_nextToken_36 rfl (lv_at hl 0 rfl) ?_
          refine lv_dup hx hb dX4_nextToken_37 rfl ?_
          refine ta_get C hP 0 inlX4 rfl rfl 2 (by decide) tw_70 rfl dX4_nextToken_38 ?_
          refine ta_iconst C 1 dX4_nextToken_41 (by decide) ?_
          refine ta_iadd C (a := s0) (b := 1) dX4_nextToken_42 ?_
          refine ta_put C hP hD hS 0 inlX4 tyX4 tyX4_ok nmX4 rfl rfl 2 (by decide) tw_70 rfl rfl rfl (Nat.le_of_ble_eq_true rfl) dX4_nextToken_43 (fun H locs hP hD hS => ?_)
          have hP : va_P D vwCl ([(rd, .inr (4, [.ref (x 0), .ref pa, .int (nI (s0 + 1)), .int (nI en), .int (nI fa), .int (nI cl)]))] ++ (txW k x L tx)) H := hP
          have hD : va_D A ([(rd, .inr (4, [.ref (x 0), .ref pa, .int (nI (s0 + 1)), .int (nI en), .int (nI fa), .int (nI cl)]))] ++ (txW k x L tx)) := hD
          refine lv_goto (tgt := 8) hx hb dX4_nextToken_46 (by decide) ?_
          exact ih_8 (s0 + 1) (by omega) (by rw [← h2]; exact (tk_st_y (by omega)).symm) (by omega) _ _ _ hP hD hS (lv_sub hl [0] rfl)
  exact loop_8 ((L - en) + 1) en (by omega) rfl (Nat.lt_succ_self _) _ _ _ hP hD hS (lv_sub hl [0] rfl)
