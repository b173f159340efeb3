/-! clauses: a fault's place (or none), where it goes on, what is told -/
def cl_in (tx : Nat → Nat) (L p lo hi : Nat) : Prop := lo ≤ tn_v tx L p ∧ tn_v tx L p ≤ hi
theorem cl_in_iff {tx : Nat → Nat} {L p lo hi : Nat} : cl_in tx L p lo hi ↔ lo ≤ tn_v tx L p ∧ tn_v tx L p ≤ hi := Iff.rfl
abbrev cl_T : Type := Nat × Nat × (Nat → Nat)
noncomputable def cl_if {α : Type} (c : Prop) (a b : α) : α := @ite α c (Classical.propDecidable c) a b
theorem cl_p {α : Type} {c : Prop} {a b : α} (h : c) : cl_if c a b = a := @if_pos c (Classical.propDecidable c) h α a b
theorem cl_n {α : Type} {c : Prop} {a b : α} (h : ¬ c) : cl_if c a b = b := @if_neg c (Classical.propDecidable c) h α a b
noncomputable def cl_ground (tx : Nat → Nat) (L p : Nat) (d : Nat → Nat) : cl_T := cl_if (cl_in tx L p 2 6) (cl_if (cl_in tx L (tn_e tx L p) 2 6) (4294967295, tn_e tx L (tn_e tx L p), tg_anew (tn_v tx L p) (tn_v tx L (tn_e tx L p))) (tn_s tx L (tn_e tx L p), 0, d)) (tn_s tx L p, 0, d)
noncomputable def cl_stand (tx : Nat → Nat) (L p : Nat) (d : Nat → Nat) : cl_T := cl_if (cl_in tx L p 0 (d 0 * d 1 - 1)) (cl_if (cl_in tx L (tn_e tx L p) 0 3) (4294967295, tn_e tx L (tn_e tx L p), ta_u (ta_u d 3 (tn_v tx L p)) 4 (tn_v tx L (tn_e tx L p))) (tn_s tx L (tn_e tx L p), 0, d)) (tn_s tx L p, 0, d)
noncomputable def cl_hour (tx : Nat → Nat) (L p : Nat) (d : Nat → Nat) : cl_T := cl_if (cl_in tx L p 2 9) (4294967295, tn_e tx L p, ta_u d 2 (tn_v tx L p)) (tn_s tx L p, 0, d)
noncomputable def cl_rest (tx : Nat → Nat) (L p : Nat) (d : Nat → Nat) : cl_T := cl_if (cl_in tx L p 0 1) (4294967295, tn_e tx L p, ta_u d (5 + tn_v tx L p) 0) (tn_s tx L p, 0, d)
def cl_put (d : Nat → Nat) (a c : Nat) : Nat → Nat := ta_u (ta_u d (7 + 8 * a + d (5 + a)) c) (5 + a) (d (5 + a) + 1)
noncomputable def cl_fig (kd : Nat) (tx : Nat → Nat) (L p : Nat) (d : Nat → Nat) : cl_T := cl_if (cl_in tx L p 0 1 ∧ d (5 + tn_v tx L p) < 8) (cl_if (cl_in tx L (tn_e tx L p) 1 9) (4294967295, tn_e tx L (tn_e tx L p), cl_put d (tn_v tx L p) (10 * kd + tn_v tx L (tn_e tx L p))) (tn_s tx L (tn_e tx L p), 0, d)) (tn_s tx L p, 0, d)
noncomputable def cl_read (tx : Nat → Nat) (L p : Nat) (d : Nat → Nat) : cl_T :=
  cl_if (tk_is tx (tn_s tx L p) (tn_e tx L p) 0) (cl_ground tx L (tn_e tx L p) d) (cl_if (tk_is tx (tn_s tx L p) (tn_e tx L p) 1) (cl_stand tx L (tn_e tx L p) d) (cl_if (tk_is tx (tn_s tx L p) (tn_e tx L p) 2) (cl_hour tx L (tn_e tx L p) d) (cl_if (tk_is tx (tn_s tx L p) (tn_e tx L p) 3) (cl_rest tx L (tn_e tx L p) d)
  (cl_if (tk_is tx (tn_s tx L p) (tn_e tx L p) 4) (cl_fig 0 tx L (tn_e tx L p) d) (cl_if (tk_is tx (tn_s tx L p) (tn_e tx L p) 5) (cl_fig 1 tx L (tn_e tx L p) d) (cl_if (tk_is tx (tn_s tx L p) (tn_e tx L p) 6) (cl_fig 2 tx L (tn_e tx L p) d) (cl_if (tk_is tx (tn_s tx L p) (tn_e tx L p) 7) (cl_fig 3 tx L (tn_e tx L p) d) (cl_if (tk_is tx (tn_s tx L p) (tn_e tx L p) 8) (cl_fig 4 tx L (tn_e tx L p) d) (tn_s tx L p, 0, d)))))))))
/-- what is told, as good -/
def pl_ok (d : Nat → Nat) : Prop := tg_tok d ∧ d 3 < d 0 * d 1 ∧ d 4 < 4 ∧ d 5 ≤ 8 ∧ d 6 ≤ 8 ∧ (∀ k, k < d 5 → tg_fig (d (7 + k))) ∧ ∀ k, k < d 6 → tg_fig (d (15 + k))
/-- what a clause's reader leaves: F the pure reading -/
def cl_post (F : cl_T) (u : Nat × Nat × Nat × (Nat → Nat) × (Nat → Nat → Nat)) : Prop := (F.1 = 4294967295 ∧ u.2.2.1 = 4294967295 ∧ u.2.1 = F.2.1 ∧ u.2.2.2.1 = F.2.2 ∧ pl_X F.2.2 u.2.2.2.2) ∨ (F.1 ≠ 4294967295 ∧ u.2.2.1 = F.1)
set_option maxHeartbeats 4000000 in
set_option maxRecDepth 100000 in
theorem c_X4_readNumber_f (l : Launch) (D : va_G) (k : ta_C) (rd : Nat) (pa : Nat) (st0 : Nat) (en : Nat) (fa : Nat) (cl : Nat) (x : Nat → Nat) (L : Nat) (tx : Nat → Nat) (lo : Nat) (hi : Nat) (hfa : fa < 1000) : ta_Mi (S := Unit) l D k yX4_readNumber cX4_readNumber 4 .int 2 80 [.ref rd, .int (nI lo), .int (nI hi)] ([(rd, .inr (4, [.ref (x 0), .ref pa, .int (nI st0), .int (nI en), .int (nI fa), .int (nI cl)]))] ++ (txW k x L tx)) (fun r _ => r = nI lo) (fun u => ([(rd, .inr (4, [.ref (x 0), .ref pa, .int (nI st0), .int (nI en), .int (nI fa), .int (nI cl)]))] ++ (txW k x L tx))) := by
  refine ta_enter_i (by decide) (Nat.le_of_ble_eq_true rfl) ?_
  intro p e s m below meth c A ls Q C ret hP hD hS hl
  have C : ta_At p l D k s m ([.ref rd, .int (nI lo), .int (nI hi)] : List Value).toArray c RX4 cX4_readNumber 4 A := C
  have hx := C.1.1
  have hb := C.1.2.1
  have hl : lv_has ls 4 [(0, .ref rd), (1, .int (nI lo)), (2, .int (nI hi))] := hl
  obtain ⟨H, hH⟩ : ∃ H, H = s.heap := ⟨_, rfl⟩
  obtain ⟨locs, hlocs⟩ : ∃ q : List Loc, q = [] := ⟨_, rfl⟩
  have hP : va_P D vwCl ([(rd, .inr (4, [.ref (x 0), .ref pa, .int (nI st0), .int (nI en), .int (nI fa), .int (nI cl)]))] ++ (txW k x L tx)) H := by rw [hH]; exact hP
  have hS : va_S A s.heap H locs := by rw [hH, hlocs]; exact hS
  rw [← hlocs]
  suffices hgoal : W p l e ({ frames := 2, cells := 0, slots := 0, locals := 80 }) s m ([.ref rd, .int (nI lo), .int (nI hi)] : List Value).toArray below meth c H locs 0 0 Q (F0 m 0 ls []) by rw [hH] at hgoal; exact hgoal
  clear hH hlocs
  refine lv_aload_n hx hb dX4_readNumber_0 rfl (lv_at hl 0 rfl) ?_
  refine ta_get C hP 0 inlX4 rfl rfl 4 (by decide) tw_72 rfl dX4_readNumber_1 ?_
  refine ta_iconst C 4294967295 dX4_readNumber_4 (by decide) ?_
  refine ta_ceq C (a := fa) (b := 4294967295) (tgt := 10) (by omega) (by omega) dX4_readNumber_5 (by decide) (fun c1 => ?_) (fun c1 => ?_)
  · exfalso; omega
  · refine lv_iload_n hx hb dX4_readNumber_8 rfl (lv_at hl 1 rfl) ?_
    exact ret (nI lo) () dX4_readNumber_9 rfl rfl hP hD hS

set_option maxHeartbeats 4000000 in
set_option maxRecDepth 100000 in
theorem c_X4_readNumber (l : Launch) (D : va_G) (k : ta_C) (rd : Nat) (pa : Nat) (st0 : Nat) (en : Nat) (cl : Nat) (x : Nat → Nat) (L : Nat) (tx : Nat → Nat) (lo : Nat) (hi : Nat) (hx0 : tx_ok tx L) (hen : en ≤ L) (hlh : lo ≤ hi ∧ hi < 1000) : ta_Mi (S := Nat) l D k yX4_readNumber cX4_readNumber 4 .int 2 80 [.ref rd, .int (nI lo), .int (nI hi)] ([(rd, .inr (4, [.ref (x 0), .ref pa, .int (nI st0), .int (nI en), .int (nI 4294967295), .int (nI cl)]))] ++ (txW k x L tx)) (fun r u => (cl_in tx L en lo hi ∧ r = nI (tn_v tx L en) ∧ u = 4294967295) ∨ (¬ cl_in tx L en lo hi ∧ r = nI lo ∧ u = tn_s tx L en)) (fun u => ([(rd, .inr (4, [.ref (x 0), .ref pa, .int (nI (tn_s tx L en)), .int (nI (tn_e tx L en)), .int (nI u), .int (nI cl)]))] ++ (txW k x L tx))) := by
  refine ta_enter_i (by decide) (Nat.le_of_ble_eq_true rfl) ?_
  intro p e s m below meth c A ls Q C ret hP hD hS hl
  have C : ta_At p l D k s m ([.ref rd, .int (nI lo), .int (nI hi)] : List Value).toArray c RX4 cX4_readNumber 4 A := C
  have hx := C.1.1
  have hb := C.1.2.1
  have hl : lv_has ls 4 [(0, .ref rd), (1, .int (nI lo)), (2, .int (nI hi))] := hl
  obtain ⟨H, hH⟩ : ∃ H, H = s.heap := ⟨_, rfl⟩
  obtain ⟨locs, hlocs⟩ : ∃ q : List Loc, q = [] := ⟨_, rfl⟩
  have hP : va_P D vwCl ([(rd, .inr (4, [.ref (x 0), .ref pa, .int (nI st0), .int (nI en), .int (nI 4294967295), .int (nI cl)]))] ++ (txW k x L tx)) H := by rw [hH]; exact hP
  have hS : va_S A s.heap H locs := by rw [hH, hlocs]; exact hS
  rw [← hlocs]
  suffices hgoal : W p l e ({ frames := 2, cells := 0, slots := 0, locals := 80 }) s m ([.ref rd, .int (nI lo), .int (nI hi)] : List Value).toArray below meth c H locs 0 0 Q (F0 m 0 ls []) by rw [hH] at hgoal; exact hgoal
  clear hH hlocs
  obtain ⟨hlh1, hlh2⟩ := hlh
  obtain ⟨hL, hc⟩ := id hx0
  refine lv_aload_n hx hb dX4_readNumber_0 rfl (lv_at hl 0 rfl) ?_
  refine ta_get C hP 0 inlX4 rfl rfl 4 (by decide) tw_72 rfl dX4_readNumber_1 ?_
  refine ta_iconst C 4294967295 dX4_readNumber_4 (by decide) ?_
  refine lv_icmp_eq (tgt := 10) hx hb dX4_readNumber_5 (by decide) (fun c1 => ?_) (fun c1 => ?_)
  · refine lv_aload_n hx hb dX4_readNumber_10 rfl (lv_at hl 0 rfl) ?_
    refine ta_callVv (As := []) (rest0 := []) (Wr := []) C hP hD hS (c_X4_nextToken l D k rd pa st0 en 4294967295 cl x L tx hx0 (by omega)) 0 rfl rfl rfl [0, 1, 2] [] rfl rfl (by decide) (by decide) (by decide) tw_188 tw_185 tw_22 tw_186 tw_187 ⟨by decide, by decide, rfl⟩ ⟨Nat.le_of_ble_eq_true rfl, Nat.le_of_ble_eq_true rfl⟩ ⟨Nat.zero_le _, Nat.zero_le _⟩ hl.1 rfl (Nat.le_of_ble_eq_true rfl) dX4_readNumber_11 (fun u3 H locs h4 hP hD hS => ?_)
    have hP : va_P D vwCl ([(rd, .inr (4, [.ref (x 0), .ref pa, .int (nI (tk_st tx L en)), .int (nI (tk_en tx L (tk_st tx L en))), .int (nI 4294967295), .int (nI cl)]))] ++ (txW k x L tx)) H := hP
    have hD : va_D A ([(rd, .inr (4, [.ref (x 0), .ref pa, .int (nI (tk_st tx L en)), .int (nI (tk_en tx L (tk_st tx L en))), .int (nI 4294967295), .int (nI cl)]))] ++ (txW k x L tx)) := hD
    obtain ⟨s1, hs1⟩ : ∃ z, z = tn_s tx L en := ⟨_, rfl⟩
    obtain ⟨e1, he1⟩ : ∃ z, z = tn_e tx L en := ⟨_, rfl⟩
    have hP : va_P D vwCl ([(rd, .inr (4, [.ref (x 0), .ref pa, .int (nI (tn_s tx L en)), .int (nI (tn_e tx L en)), .int (nI 4294967295), .int (nI cl)]))] ++ (txW k x L tx)) H := hP.sub [0, 1, 2] rfl
    have hD : va_D A ([(rd, .inr (4, [.ref (x 0), .ref pa, .int (nI (tn_s tx L en)), .int (nI (tn_e tx L en)), .int (nI 4294967295), .int (nI cl)]))] ++ (txW k x L tx)) := hD.sub [0, 1, 2] (by decide) rfl
    obtain ⟨b1, b2, b3, b4⟩ := tn_b (tx := tx) hen
    rw [← hs1, ← he1] at hP hD
    rw [← hs1] at b1 b2 b4
    rw [← he1] at b2 b3 b4
    have hP : va_P D vwCl ([(rd, .inr (4, [.ref (x 0), .ref pa, .int (nI s1), .int (nI e1), .int (nI 4294967295), .int (nI cl)]))] ++ (txW k x L tx)) H := hP
    have hD : va_D A ([(rd, .inr (4, [.ref (x 0), .ref pa, .int (nI s1), .int (nI e1), .int (nI 4294967295), .int (nI cl)]))] ++ (txW k x L tx)) := hD
    refine lv_aload_n hx hb dX4_readNumber_14 rfl (lv_at hl 0 rfl) ?_
    refine ta_get C hP 0 inlX4 rfl rfl 0 (by decide) tw_74 rfl dX4_readNumber_15 ?_
    refine lv_aload_n hx hb dX4_readNumber_18 rfl (lv_at hl 0 rfl) ?_
    refine ta_get C hP 0 inlX4 rfl rfl 2 (by decide) tw_70 rfl dX4_readNumber_19 ?_
    refine lv_aload_n hx hb dX4_readNumber_22 rfl (lv_at hl 0 rfl) ?_
    refine ta_get C hP 0 inlX4 rfl rfl 3 (by decide) tw_71 rfl dX4_readNumber_23 ?_
    refine ta_callVi (As := [.int (nI s1), .int (nI e1)]) (rest0 := []) (Wr := [(rd, .inr (4, [.ref (x 0), .ref pa, .int (nI s1), .int (nI e1), .int (nI 4294967295), .int (nI cl)]))]) C hP hD hS (c_X6_numberIn l D k x L tx s1 e1 hx0 (by omega) (by omega) (fun j h1 h2 h3 => by rw [hs1] at h1 h3; rw [he1] at h2; rw [tk_en_a (Or.inr h3) j h1 h2]; exact h3)) 1 rfl rfl rfl [1, 2] [0] rfl rfl (by decide) (by decide) (by decide) tw_261 tw_258 tw_14 tw_259 tw_260 ⟨by decide, by decide, rfl⟩ ⟨Nat.le_of_ble_eq_true rfl, Nat.le_of_ble_eq_true rfl⟩ ⟨Nat.zero_le _, Nat.zero_le _⟩ hl.1 rfl (Nat.le_of_ble_eq_true rfl) dX4_readNumber_26 (fun r5 u6 H locs h7 hP hD hS => ?_)
    obtain rfl := h7
    have hP : va_P D vwCl ([(rd, .inr (4, [.ref (x 0), .ref pa, .int (nI s1), .int (nI e1), .int (nI 4294967295), .int (nI cl)]))] ++ (txW k x L tx)) H := hP
    have hD : va_D A ([(rd, .inr (4, [.ref (x 0), .ref pa, .int (nI s1), .int (nI e1), .int (nI 4294967295), .int (nI cl)]))] ++ (txW k x L tx)) := hD
    obtain ⟨v, hv⟩ : ∃ v, v = tn_v tx L en := ⟨_, rfl⟩
    refine ta_nv (y := v) (by rw [hv, hs1, he1]; rfl) ?_
    rcases (show v = 4294967295 ∨ v ≤ 99 by rw [hv]; exact tn_vb) with h9 | h9
    · refine ta_nv (y := 4294967295) h9 ?_
      refine lv_istore_n (lv' := [(3, .int (nI 4294967295)), (0, .ref rd), (1, .int (nI lo)), (2, .int (nI hi))]) hx hb dX4_readNumber_29 rfl hl (by decide) rfl (fun ls hl => ?_)
      refine lv_iload_n hx hb dX4_readNumber_30 rfl (lv_at hl 0 rfl) ?_
      refine lv_iload_n hx hb dX4_readNumber_31 rfl (lv_at hl 2 rfl) ?_
      refine lv_icmp_lt (tgt := 40) hx hb dX4_readNumber_32 (by decide) (fun _ => ?_) (fun h => absurd (ta_neg1 (by omega)) h)
      refine lv_aload_n hx hb dX4_readNumber_40 rfl (lv_at hl 1 rfl) ?_
      refine lv_aload_n hx hb dX4_readNumber_41 rfl (lv_at hl 1 rfl) ?_
      refine ta_get C hP 0 inlX4 rfl rfl 2 (by decide) tw_70 rfl dX4_readNumber_42 ?_
      refine ta_put C hP hD hS 0 inlX4 tyX4 tyX4_ok nmX4 rfl rfl 4 (by decide) tw_72 rfl rfl rfl (Nat.le_of_ble_eq_true rfl) dX4_readNumber_45 (fun H locs hP hD hS => ?_)
      have hP : va_P D vwCl ([(rd, .inr (4, [.ref (x 0), .ref pa, .int (nI s1), .int (nI e1), .int (nI s1), .int (nI cl)]))] ++ (txW k x L tx)) H := hP
      have hD : va_D A ([(rd, .inr (4, [.ref (x 0), .ref pa, .int (nI s1), .int (nI e1), .int (nI s1), .int (nI cl)]))] ++ (txW k x L tx)) := hD
      refine lv_iload_n hx hb dX4_readNumber_48 rfl (lv_at hl 2 rfl) ?_
      rw [hs1, he1] at hP hD
      exact ret _ (tn_s tx L en) dX4_readNumber_49 rfl (Or.inr ⟨fun h => by have h8 := cl_in_iff.mp h; omega, rfl, rfl⟩) hP hD hS
    · refine ta_nv (y := v) rfl ?_
      refine lv_istore_n (lv' := [(3, .int (nI v)), (0, .ref rd), (1, .int (nI lo)), (2, .int (nI hi))]) hx hb dX4_readNumber_29 rfl hl (by decide) rfl (fun ls hl => ?_)
      refine lv_iload_n hx hb dX4_readNumber_30 rfl (lv_at hl 0 rfl) ?_
      refine lv_iload_n hx hb dX4_readNumber_31 rfl (lv_at hl 2 rfl) ?_
      refine ta_clt C (a := v) (b := lo) (tgt := 40) (by omega) (by omega) dX4_readNumber_32 (by decide) (fun c8 => ?_) (fun c8 => ?_)
      · refine lv_aload_n hx hb dX4_readNumber_40 rfl (lv_at hl 1 rfl) ?_
        refine lv_aload_n hx hb dX4_readNumber_41 rfl (lv_at hl 1 rfl) ?_
        refine ta_get C hP 0 inlX4 rfl rfl 2 (by decide) tw_70 rfl dX4_readNumber_42 ?_
        refine ta_put C hP hD hS 0 inlX4 tyX4 tyX4_ok nmX4 rfl rfl 4 (by decide) tw_72 rfl rfl rfl (Nat.le_of_ble_eq_true rfl) dX4_readNumber_45 (fun H locs hP hD hS => ?_)
        have hP : va_P D vwCl ([(rd, .inr (4, [.ref (x 0), .ref pa, .int (nI s1), .int (nI e1), .int (nI s1), .int (nI cl)]))] ++ (txW k x L tx)) H := hP
        have hD : va_D A ([(rd, .inr (4, [.ref (x 0), .ref pa, .int (nI s1), .int (nI e1), .int (nI s1), .int (nI cl)]))] ++ (txW k x L tx)) := hD
        refine lv_iload_n hx hb dX4_readNumber_48 rfl (lv_at hl 2 rfl) ?_
        rw [hs1, he1] at hP hD
        exact ret _ (tn_s tx L en) dX4_readNumber_49 rfl (Or.inr ⟨fun h => by have h8 := cl_in_iff.mp h; omega, rfl, rfl⟩) hP hD hS
      · refine lv_iload_n hx hb dX4_readNumber_35 rfl (lv_at hl 0 rfl) ?_
        refine lv_iload_n hx hb dX4_readNumber_36 rfl (lv_at hl 3 rfl) ?_
        refine ta_cle C (a := v) (b := hi) (tgt := 50) (by omega) (by omega) dX4_readNumber_37 (by decide) (fun c9 => ?_) (fun c9 => ?_)
        · refine lv_iload_n hx hb dX4_readNumber_50 rfl (lv_at hl 0 rfl) ?_
          exact ret _ 4294967295 dX4_readNumber_51 rfl (Or.inl ⟨cl_in_iff.mpr ⟨by omega, by omega⟩, by rw [hv], rfl⟩) (by rw [hs1, he1] at hP; exact hP) (by rw [hs1, he1] at hD; exact hD) hS
        · refine lv_aload_n hx hb dX4_readNumber_40 rfl (lv_at hl 1 rfl) ?_
          refine lv_aload_n hx hb dX4_readNumber_41 rfl (lv_at hl 1 rfl) ?_
          refine ta_get C hP 0 inlX4 rfl rfl 2 (by decide) tw_70 rfl dX4_readNumber_42 ?_
          refine ta_put C hP hD hS 0 inlX4 tyX4 tyX4_ok nmX4 rfl rfl 4 (by decide) tw_72 rfl rfl rfl (Nat.le_of_ble_eq_true rfl) dX4_readNumber_45 (fun H locs hP hD hS => ?_)
          have hP : va_P D vwCl ([(rd, .inr (4, [.ref (x 0), .ref pa, .int (nI s1), .int (nI e1), .int (nI s1), .int (nI cl)]))] ++ (txW k x L tx)) H := hP
          have hD : va_D A ([(rd, .inr (4, [.ref (x 0), .ref pa, .int (nI s1), .int (nI e1), .int (nI s1), .int (nI cl)]))] ++ (txW k x L tx)) := hD
          refine lv_iload_n hx hb dX4_readNumber_48 rfl (lv_at hl 2 rfl) ?_
          rw [hs1, he1] at hP hD
          exact ret _ (tn_s tx L en) dX4_readNumber_49 rfl (Or.inr ⟨fun h => by have h8 := cl_in_iff.mp h; omega, rfl, rfl⟩) hP hD hS
  · exact absurd c1 (by decide)

set_option maxHeartbeats 4000000 in
set_option maxRecDepth 100000 in
theorem c_X4_readGround (l : Launch) (D : va_G) (k : ta_C) (rd : Nat) (pq : Nat → Nat) (st0 : Nat) (en : Nat) (cl : Nat) (x : Nat → Nat) (L : Nat) (tx : Nat → Nat) (t : Nat → Nat) (Y : Nat → Nat → Nat) (hx0 : tx_ok tx L) (hen : en ≤ L) (hpl : pl_ok t) (hY : pl_X t Y) : ta_Mv (S := Nat × Nat × Nat × (Nat → Nat) × (Nat → Nat → Nat)) l D k yX4_readGround cX4_readGround 3 3 120 [.ref rd] ([(rd, .inr (4, [.ref (x 0), .ref (pq 0), .int (nI st0), .int (nI en), .int (nI 4294967295), .int (nI cl)]))] ++ ((txW k x L tx) ++ (plW k pq t Y))) (fun u => cl_post (cl_ground tx L en t) u) (fun u => ([(rd, .inr (4, [.ref (x 0), .ref (pq 0), .int (nI u.1), .int (nI u.2.1), .int (nI u.2.2.1), .int (nI cl)]))] ++ ((txW k x L tx) ++ (plW k pq u.2.2.2.1 u.2.2.2.2)))) := by
  refine ta_enter_v (by decide) (Nat.le_of_ble_eq_true rfl) ?_
  intro p e s m below meth c A ls Q C ret hP hD hS hl
  have C : ta_At p l D k s m ([.ref rd] : List Value).toArray c RX4 cX4_readGround 3 A := C
  have hx := C.1.1
  have hb := C.1.2.1
  have hl : lv_has ls 3 [(0, .ref rd)] := hl
  obtain ⟨H, hH⟩ : ∃ H, H = s.heap := ⟨_, rfl⟩
  obtain ⟨locs, hlocs⟩ : ∃ q : List Loc, q = [] := ⟨_, rfl⟩
  have hP : va_P D vwCl ([(rd, .inr (4, [.ref (x 0), .ref (pq 0), .int (nI st0), .int (nI en), .int (nI 4294967295), .int (nI cl)]))] ++ ((txW k x L tx) ++ (plW k pq t Y))) H := by rw [hH]; exact hP
  have hS : va_S A s.heap H locs := by rw [hH, hlocs]; exact hS
  rw [← hlocs]
  suffices hgoal : W p l e ({ frames := 3, cells := 0, slots := 0, locals := 120 }) s m ([.ref rd] : List Value).toArray below meth c H locs 0 0 Q (F0 m 0 ls []) by rw [hH] at hgoal; exact hgoal
  clear hH hlocs
  obtain ⟨hL, hc⟩ := id hx0
  refine lv_aload_n hx hb dX4_readGround_0 rfl (lv_at hl 0 rfl) ?_
  refine ta_iconst C 2 dX4_readGround_1 (by decide) ?_
  refine ta_bipush C 6 dX4_readGround_2 (by decide) ?_
  refine ta_callVi (As := [.int (nI 2), .int (nI 6)]) (rest0 := []) (Wr := (plW k pq t Y)) C hP hD hS (c_X4_readNumber l D k rd (pq 0) st0 en cl x L tx 2 6 hx0 (by omega) ⟨by omega, by omega⟩) 0 rfl rfl rfl [0, 1, 2] [3, 4, 5, 6, 7, 8, 9, 10] rfl rfl (by decide) (by decide) (by decide) tw_257 tw_254 tw_22 tw_255 tw_256 ⟨by decide, by decide, rfl⟩ ⟨Nat.le_of_ble_eq_true rfl, Nat.le_of_ble_eq_true rfl⟩ ⟨Nat.zero_le _, Nat.zero_le _⟩ hl.1 rfl (Nat.le_of_ble_eq_true rfl) dX4_readGround_4 (fun r1 u2 H locs h3 hP hD hS => ?_)
  rcases h3 with h0 | h0
  · obtain ⟨hin4, rfl, rfl⟩ := h0
    have hP : va_P D vwCl ((plW k pq t Y) ++ ([(rd, .inr (4, [.ref (x 0), .ref (pq 0), .int (nI (tn_s tx L en)), .int (nI (tn_e tx L en)), .int (nI 4294967295), .int (nI cl)]))] ++ (txW k x L tx))) H := hP
    have hD : va_D A ((plW k pq t Y) ++ ([(rd, .inr (4, [.ref (x 0), .ref (pq 0), .int (nI (tn_s tx L en)), .int (nI (tn_e tx L en)), .int (nI 4294967295), .int (nI cl)]))] ++ (txW k x L tx))) := hD
    obtain ⟨b10, b20, b30, b40⟩ := tn_b (tx := tx) (p := en) (by omega)
    refine lv_istore_n (lv' := [(1, .int (nI (tn_v tx L en))), (0, .ref rd)]) hx hb dX4_readGround_7 rfl hl (by decide) rfl (fun ls hl => ?_)
    refine lv_aload_n hx hb dX4_readGround_8 rfl (lv_at hl 1 rfl) ?_
    refine ta_iconst C 2 dX4_readGround_9 (by decide) ?_
    refine ta_bipush C 6 dX4_readGround_10 (by decide) ?_
    refine ta_callVi (As := [.int (nI 2), .int (nI 6)]) (rest0 := []) (Wr := (plW k pq t Y)) C hP hD hS (c_X4_readNumber l D k rd (pq 0) (tn_s tx L en) (tn_e tx L en) cl x L tx 2 6 hx0 (by omega) ⟨by omega, by omega⟩) 8 rfl rfl rfl [8, 9, 10] [0, 1, 2, 3, 4, 5, 6, 7] rfl rfl (by decide) (by decide) (by decide) tw_257 tw_254 tw_22 tw_255 tw_256 ⟨by decide, by decide, rfl⟩ ⟨Nat.le_of_ble_eq_true rfl, Nat.le_of_ble_eq_true rfl⟩ ⟨Nat.zero_le _, Nat.zero_le _⟩ hl.1 rfl (Nat.le_of_ble_eq_true rfl) dX4_readGround_12 (fun r5 u6 H locs h7 hP hD hS => ?_)
    rcases h7 with h0 | h0
    · obtain ⟨hin8, rfl, rfl⟩ := h0
      have hP : va_P D vwCl ((plW k pq t Y) ++ ([(rd, .inr (4, [.ref (x 0), .ref (pq 0), .int (nI (tn_s tx L (tn_e tx L en))), .int (nI (tn_e tx L (tn_e tx L en))), .int (nI 4294967295), .int (nI cl)]))] ++ (txW k x L tx))) H := hP
      have hD : va_D A ((plW k pq t Y) ++ ([(rd, .inr (4, [.ref (x 0), .ref (pq 0), .int (nI (tn_s tx L (tn_e tx L en))), .int (nI (tn_e tx L (tn_e tx L en))), .int (nI 4294967295), .int (nI cl)]))] ++ (txW k x L tx))) := hD
      obtain ⟨b11, b21, b31, b41⟩ := tn_b (tx := tx) (p := tn_e tx L en) (by omega)
      refine lv_istore_n (lv' := [(2, .int (nI (tn_v tx L (tn_e tx L en)))), (1, .int (nI (tn_v tx L en))), (0, .ref rd)]) hx hb dX4_readGround_15 rfl hl (by decide) rfl (fun ls hl => ?_)
      refine lv_aload_n hx hb dX4_readGround_16 rfl (lv_at hl 2 rfl) ?_
      refine ta_get C hP 8 inlX4 rfl rfl 4 (by decide) tw_72 rfl dX4_readGround_17 ?_
      refine ta_iconst C 4294967295 dX4_readGround_20 (by decide) ?_
      refine lv_icmp_ne (tgt := 33) hx hb dX4_readGround_21 (by decide) (fun c9 => ?_) (fun c9 => ?_)
      · exact absurd c9 (by decide)
      · refine lv_aload_n hx hb dX4_readGround_24 rfl (lv_at hl 2 rfl) ?_
        refine ta_get C hP 8 inlX4 rfl rfl 1 (by decide) tw_69 rfl dX4_readGround_25 ?_
        refine lv_iload_n hx hb dX4_readGround_28 rfl (lv_at hl 1 rfl) ?_
        refine lv_iload_n hx hb dX4_readGround_29 rfl (lv_at hl 0 rfl) ?_
        refine ta_callVv (As := [.int (nI (tn_v tx L en)), .int (nI (tn_v tx L (tn_e tx L en)))]) (rest0 := []) (Wr := ([(rd, .inr (4, [.ref (x 0), .ref (pq 0), .int (nI (tn_s tx L (tn_e tx L en))), .int (nI (tn_e tx L (tn_e tx L en))), .int (nI 4294967295), .int (nI cl)]))] ++ (txW k x L tx))) C hP hD hS (c_X3_startAnew l D k pq t Y (tn_v tx L en) (tn_v tx L (tn_e tx L en))) 0 rfl rfl rfl [0, 1, 2, 3, 4, 5, 6, 7] [8, 9, 10] rfl rfl (by decide) (by decide) (by decide) tw_266 tw_263 tw_18 tw_264 tw_265 ⟨by decide, by decide, rfl⟩ ⟨Nat.le_of_ble_eq_true rfl, Nat.le_of_ble_eq_true rfl⟩ ⟨Nat.zero_le _, Nat.zero_le _⟩ hl.1 rfl (Nat.le_of_ble_eq_true rfl) dX4_readGround_30 (fun u11 H locs h12 hP hD hS => ?_)
        have hP : va_P D vwCl ([(rd, .inr (4, [.ref (x 0), .ref (pq 0), .int (nI (tn_s tx L (tn_e tx L en))), .int (nI (tn_e tx L (tn_e tx L en))), .int (nI 4294967295), .int (nI cl)]))] ++ ((txW k x L tx) ++ (plW k pq (tg_anew (tn_v tx L en) (tn_v tx L (tn_e tx L en))) Y))) H := hP
        have hD : va_D A ([(rd, .inr (4, [.ref (x 0), .ref (pq 0), .int (nI (tn_s tx L (tn_e tx L en))), .int (nI (tn_e tx L (tn_e tx L en))), .int (nI 4294967295), .int (nI cl)]))] ++ ((txW k x L tx) ++ (plW k pq (tg_anew (tn_v tx L en) (tn_v tx L (tn_e tx L en))) Y))) := hD
        have eF : cl_ground tx L en t = (4294967295, tn_e tx L (tn_e tx L en), tg_anew (tn_v tx L en) (tn_v tx L (tn_e tx L en))) := by unfold cl_ground; rw [cl_p hin4, cl_p hin8]
        exact ret (tn_s tx L (tn_e tx L en), tn_e tx L (tn_e tx L en), 4294967295, tg_anew (tn_v tx L en) (tn_v tx L (tn_e tx L en)), Y) dX4_readGround_33 (Or.inl ⟨by rw [eF], rfl, by rw [eF], by rw [eF], by rw [eF]; exact ⟨fun j hj => absurd (show j < 0 from hj) (Nat.not_lt_zero j), fun j hj => absurd (show j < 0 from hj) (Nat.not_lt_zero j)⟩⟩) hP hD hS
    · obtain ⟨hin13, rfl, rfl⟩ := h0
      have hP : va_P D vwCl ((plW k pq t Y) ++ ([(rd, .inr (4, [.ref (x 0), .ref (pq 0), .int (nI (tn_s tx L (tn_e tx L en))), .int (nI (tn_e tx L (tn_e tx L en))), .int (nI (tn_s tx L (tn_e tx L en))), .int (nI cl)]))] ++ (txW k x L tx))) H := hP
      have hD : va_D A ((plW k pq t Y) ++ ([(rd, .inr (4, [.ref (x 0), .ref (pq 0), .int (nI (tn_s tx L (tn_e tx L en))), .int (nI (tn_e tx L (tn_e tx L en))), .int (nI (tn_s tx L (tn_e tx L en))), .int (nI cl)]))] ++ (txW k x L tx))) := hD
      obtain ⟨b11, b21, b31, b41⟩ := tn_b (tx := tx) (p := tn_e tx L en) (by omega)
      refine lv_istore_n (lv' := [(2, .int (nI 2)), (1, .int (nI (tn_v tx L en))), (0, .ref rd)]) hx hb dX4_readGround_15 rfl hl (by decide) rfl (fun ls hl => ?_)
      refine lv_aload_n hx hb dX4_readGround_16 rfl (lv_at hl 2 rfl) ?_
      refine ta_get C hP 8 inlX4 rfl rfl 4 (by decide) tw_72 rfl dX4_readGround_17 ?_
      refine ta_iconst C 4294967295 dX4_readGround_20 (by decide) ?_
      refine ta_cne C (a := tn_s tx L (tn_e tx L en)) (b := 4294967295) (tgt := 33) (by omega) (by omega) dX4_readGround_21 (by decide) (fun c14 => ?_) (fun c14 => ?_)
      · have hP : va_P D vwCl ([(rd, .inr (4, [.ref (x 0), .ref (pq 0), .int (nI (tn_s tx L (tn_e tx L en))), .int (nI (tn_e tx L (tn_e tx L en))), .int (nI (tn_s tx L (tn_e tx L en))), .int (nI cl)]))] ++ ((txW k x L tx) ++ (plW k pq t Y))) H := hP.sub [8, 9, 10, 0, 1, 2, 3, 4, 5, 6, 7] rfl
        have hD : va_D A ([(rd, .inr (4, [.ref (x 0), .ref (pq 0), .int (nI (tn_s tx L (tn_e tx L en))), .int (nI (tn_e tx L (tn_e tx L en))), .int (nI (tn_s tx L (tn_e tx L en))), .int (nI cl)]))] ++ ((txW k x L tx) ++ (plW k pq t Y))) := hD.sub [8, 9, 10, 0, 1, 2, 3, 4, 5, 6, 7] (by decide) rfl
        have eF : cl_ground tx L en t = (tn_s tx L (tn_e tx L en), 0, t) := by unfold cl_ground; rw [cl_p hin4, cl_n hin13]
        exact ret (tn_s tx L (tn_e tx L en), tn_e tx L (tn_e tx L en), tn_s tx L (tn_e tx L en), t, Y) dX4_readGround_33 (Or.inr ⟨by rw [eF]; exact Nat.ne_of_lt (show tn_s tx L (tn_e tx L en) < 4294967295 by omega), by rw [eF]⟩) hP hD hS
      · refine lv_aload_n hx hb dX4_readGround_24 rfl (lv_at hl 2 rfl) ?_
        refine ta_get C hP 8 inlX4 rfl rfl 1 (by decide) tw_69 rfl dX4_readGround_25 ?_
        refine lv_iload_n hx hb dX4_readGround_28 rfl (lv_at hl 1 rfl) ?_
        refine lv_iload_n hx hb dX4_readGround_29 rfl (lv_at hl 0 rfl) ?_
        refine ta_callVv (As := [.int (nI (tn_v tx L en)), .int (nI 2)]) (rest0 := []) (Wr := ([(rd, .inr (4, [.ref (x 0), .ref (pq 0), .int (nI (tn_s tx L (tn_e tx L en))), .int (nI (tn_e tx L (tn_e tx L en))), .int (nI (tn_s tx L (tn_e tx L en))), .int (nI cl)]))] ++ (txW k x L tx))) C hP hD hS (c_X3_startAnew l D k pq t Y (tn_v tx L en) 2) 0 rfl rfl rfl [0, 1, 2, 3, 4, 5, 6, 7] [8, 9, 10] rfl rfl (by decide) (by decide) (by decide) tw_266 tw_263 tw_18 tw_264 tw_265 ⟨by decide, by decide, rfl⟩ ⟨Nat.le_of_ble_eq_true rfl, Nat.le_of_ble_eq_true rfl⟩ ⟨Nat.zero_le _, Nat.zero_le _⟩ hl.1 rfl (Nat.le_of_ble_eq_true rfl) dX4_readGround_30 (fun u16 H locs h17 hP hD hS => ?_)
        have hP : va_P D vwCl ([(rd, .inr (4, [.ref (x 0), .ref (pq 0), .int (nI (tn_s tx L (tn_e tx L en))), .int (nI (tn_e tx L (tn_e tx L en))), .int (nI (tn_s tx L (tn_e tx L en))), .int (nI cl)]))] ++ ((txW k x L tx) ++ (plW k pq (tg_anew (tn_v tx L en) 2) Y))) H := hP
        have hD : va_D A ([(rd, .inr (4, [.ref (x 0), .ref (pq 0), .int (nI (tn_s tx L (tn_e tx L en))), .int (nI (tn_e tx L (tn_e tx L en))), .int (nI (tn_s tx L (tn_e tx L en))), .int (nI cl)]))] ++ ((txW k x L tx) ++ (plW k pq (tg_anew (tn_v tx L en) 2) Y))) := hD
        have eF : cl_ground tx L en t = (tn_s tx L (tn_e tx L en), 0, t) := by unfold cl_ground; rw [cl_p hin4, cl_n hin13]
        exact ret (tn_s tx L (tn_e tx L en), tn_e tx L (tn_e tx L en), tn_s tx L (tn_e tx L en), tg_anew (tn_v tx L en) 2, Y) dX4_readGround_33 (Or.inr ⟨by rw [eF]; exact Nat.ne_of_lt (show tn_s tx L (tn_e tx L en) < 4294967295 by omega), by rw [eF]⟩) hP hD hS
  · obtain ⟨hin18, rfl, rfl⟩ := h0
    have hP : va_P D vwCl ((plW k pq t Y) ++ ([(rd, .inr (4, [.ref (x 0), .ref (pq 0), .int (nI (tn_s tx L en)), .int (nI (tn_e tx L en)), .int (nI (tn_s tx L en)), .int (nI cl)]))] ++ (txW k x L tx))) H := hP
    have hD : va_D A ((plW k pq t Y) ++ ([(rd, .inr (4, [.ref (x 0), .ref (pq 0), .int (nI (tn_s tx L en)), .int (nI (tn_e tx L en)), .int (nI (tn_s tx L en)), .int (nI cl)]))] ++ (txW k x L tx))) := hD
    obtain ⟨b10, b20, b30, b40⟩ := tn_b (tx := tx) (p := en) (by omega)
    refine lv_istore_n (lv' := [(1, .int (nI 2)), (0, .ref rd)]) hx hb dX4_readGround_7 rfl hl (by decide) rfl (fun ls hl => ?_)
    refine lv_aload_n hx hb dX4_readGround_8 rfl (lv_at hl 1 rfl) ?_
    refine ta_iconst C 2 dX4_readGround_9 (by decide) ?_
    refine ta_bipush C 6 dX4_readGround_10 (by decide) ?_
    refine ta_callVi (As := [.int (nI 2), .int (nI 6)]) (rest0 := []) (Wr := (plW k pq t Y)) C hP hD hS (c_X4_readNumber_f l D k rd (pq 0) (tn_s tx L en) (tn_e tx L en) (tn_s tx L en) cl x L tx 2 6 (by omega)) 8 rfl rfl rfl [8, 9, 10] [0, 1, 2, 3, 4, 5, 6, 7] rfl rfl (by decide) (by decide) (by decide) tw_257 tw_254 tw_22 tw_255 tw_256 ⟨by decide, by decide, rfl⟩ ⟨Nat.le_of_ble_eq_true rfl, Nat.le_of_ble_eq_true rfl⟩ ⟨Nat.zero_le _, Nat.zero_le _⟩ hl.1 rfl (Nat.le_of_ble_eq_true rfl) dX4_readGround_12 (fun r19 u20 H locs h21 hP hD hS => ?_)
    obtain rfl := h21
    have hP : va_P D vwCl ((plW k pq t Y) ++ ([(rd, .inr (4, [.ref (x 0), .ref (pq 0), .int (nI (tn_s tx L en)), .int (nI (tn_e tx L en)), .int (nI (tn_s tx L en)), .int (nI cl)]))] ++ (txW k x L tx))) H := hP
    have hD : va_D A ((plW k pq t Y) ++ ([(rd, .inr (4, [.ref (x 0), .ref (pq 0), .int (nI (tn_s tx L en)), .int (nI (tn_e tx L en)), .int (nI (tn_s tx L en)), .int (nI cl)]))] ++ (txW k x L tx))) := hD
    refine lv_istore_n (lv' := [(2, .int (nI 2)), (1, .int (nI 2)), (0, .ref rd)]) hx hb dX4_readGround_15 rfl hl (by decide) rfl (fun ls hl => ?_)
    refine lv_aload_n hx hb dX4_readGround_16 rfl (lv_at hl 2 rfl) ?_
    refine ta_get C hP 8 inlX4 rfl rfl 4 (by decide) tw_72 rfl dX4_readGround_17 ?_
    refine ta_iconst C 4294967295 dX4_readGround_20 (by decide) ?_
    refine ta_cne C (a := tn_s tx L en) (b := 4294967295) (tgt := 33) (by omega) (by omega) dX4_readGround_21 (by decide) (fun c22 => ?_) (fun c22 => ?_)
    · have hP : va_P D vwCl ([(rd, .inr (4, [.ref (x 0), .ref (pq 0), .int (nI (tn_s tx L en)), .int (nI (tn_e tx L en)), .int (nI (tn_s tx L en)), .int (nI cl)]))] ++ ((txW k x L tx) ++ (plW k pq t Y))) H := hP.sub [8, 9, 10, 0, 1, 2, 3, 4, 5, 6, 7] rfl
      have hD : va_D A ([(rd, .inr (4, [.ref (x 0), .ref (pq 0), .int (nI (tn_s tx L en)), .int (nI (tn_e tx L en)), .int (nI (tn_s tx L en)), .int (nI cl)]))] ++ ((txW k x L tx) ++ (plW k pq t Y))) := hD.sub [8, 9, 10, 0, 1, 2, 3, 4, 5, 6, 7] (by decide) rfl
      have eF : cl_ground tx L en t = (tn_s tx L en, 0, t) := by unfold cl_ground; rw [cl_n hin18]
      exact ret (tn_s tx L en, tn_e tx L en, tn_s tx L en, t, Y) dX4_readGround_33 (Or.inr ⟨by rw [eF]; exact Nat.ne_of_lt (show tn_s tx L en < 4294967295 by omega), by rw [eF]⟩) hP hD hS
    · refine lv_aload_n hx hb dX4_readGround_24 rfl (lv_at hl 2 rfl) ?_
      refine ta_get C hP 8 inlX4 rfl rfl 1 (by decide) tw_69 rfl dX4_readGround_25 ?_
      refine lv_iload_n hx hb dX4_readGround_28 rfl (lv_at hl 1 rfl) ?_
      refine lv_iload_n hx hb dX4_readGround_29 rfl (lv_at hl 0 rfl) ?_
      refine ta_callVv (As := [.int (nI 2), .int (nI 2)]) (rest0 := []) (Wr := ([(rd, .inr (4, [.ref (x 0), .ref (pq 0), .int (nI (tn_s tx L en)), .int (nI (tn_e tx L en)), .int (nI (tn_s tx L en)), .int (nI cl)]))] ++ (txW k x L tx))) C hP hD hS (c_X3_startAnew l D k pq t Y 2 2) 0 rfl rfl rfl [0, 1, 2, 3, 4, 5, 6, 7] [8, 9, 10] rfl rfl (by decide) (by decide) (by decide) tw_266 tw_263 tw_18 tw_264 tw_265 ⟨by decide, by decide, rfl⟩ ⟨Nat.le_of_ble_eq_true rfl, Nat.le_of_ble_eq_true rfl⟩ ⟨Nat.zero_le _, Nat.zero_le _⟩ hl.1 rfl (Nat.le_of_ble_eq_true rfl) dX4_readGround_30 (fun u24 H locs h25 hP hD hS => ?_)
      have hP : va_P D vwCl ([(rd, .inr (4, [.ref (x 0), .ref (pq 0), .int (nI (tn_s tx L en)), .int (nI (tn_e tx L en)), .int (nI (tn_s tx L en)), .int (nI cl)]))] ++ ((txW k x L tx) ++ (plW k pq (tg_anew 2 2) Y))) H := hP
      have hD : va_D A ([(rd, .inr (4, [.ref (x 0), .ref (pq 0), .int (nI (tn_s tx L en)), .int (nI (tn_e tx L en)), .int (nI (tn_s tx L en)), .int (nI cl)]))] ++ ((txW k x L tx) ++ (plW k pq (tg_anew 2 2) Y))) := hD
      have eF : cl_ground tx L en t = (tn_s tx L en, 0, t) := by unfold cl_ground; rw [cl_n hin18]
      exact ret (tn_s tx L en, tn_e tx L en, tn_s tx L en, tg_anew 2 2, Y) dX4_readGround_33 (Or.inr ⟨by rw [eF]; exact Nat.ne_of_lt (show tn_s tx L en < 4294967295 by omega), by rw [eF]⟩) hP hD hS
