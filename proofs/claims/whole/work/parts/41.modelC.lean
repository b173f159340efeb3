section TLV
variable {p : Program} {l : Launch} {e : Env} {R : Room} {s : State} {m : MethodId} {args : Array Value} {below : List Frame} {meth : Method} {c : Code} {H : Heap} {locs : List Loc} {cells slots : Nat} {Q : State → Prop} {cc : ByteArray} {pc : Nat} {ls : Array Slot} {rest : List Value}
theorem ta_lval {x y : Int64} (h : x = y) (kk : W p l e R s m args below meth c H locs cells slots Q (F0 m pc ls (.long y :: rest))) : W p l e R s m args below meth c H locs cells slots Q (F0 m pc ls (.long x :: rest)) := by rw [h]; exact kk
end TLV
theorem ta_shl1 : ∀ k, k < 9 → nI 1 <<< (nI k &&& 31) = nI (2 ^ k) := by decide +kernel
theorem ta_or0 : ∀ x, x < 512 → nI x ||| nI 0 = nI x := by decide +kernel
theorem ta_or1 : ∀ k, k < 9 → ∀ x, x < 2 ^ k → nI x ||| nI (2 ^ k) = nI (x + 2 ^ k) := by decide +kernel
/-- notes, as the reference has them: 100 times the cell, and the minutes -/
def mo_no (n : Nat) (nt : Nat → Nat) : Prop := n ≤ 6 ∧ ∀ j, j < n → nt j < 10000 ∧ 1 ≤ nt j % 100 ∧ nt j % 100 ≤ 60
noncomputable def tg_wo (t g : Nat → Nat) (n : Nat) (c m : Nat → Nat) : Nat → Nat
  | 0 => 0
  | k + 1 => tg_wo t g n c m k + cl_if (tg_so t (tg_wind t g k) n c m) (2 ^ k) 0
theorem tg_wo_b (t g : Nat → Nat) (n : Nat) (c m : Nat → Nat) : ∀ k, tg_wo t g n c m k < 2 ^ k
  | 0 => Nat.zero_lt_one
  | k + 1 => by
    have h := tg_wo_b t g n c m k
    have e : tg_wo t g n c m (k + 1) = tg_wo t g n c m k + cl_if (tg_so t (tg_wind t g k) n c m) (2 ^ k) 0 := rfl
    have e2 : 2 ^ (k + 1) = 2 ^ k + 2 ^ k := by rw [Nat.pow_succ]; omega
    rw [e, e2]
    by_cases q : tg_so t (tg_wind t g k) n c m
    · rw [cl_p q]; omega
    · rw [cl_n q]; omega
theorem tg_wo_y {t g : Nat → Nat} {n : Nat} {c m : Nat → Nat} {k : Nat} (q : tg_so t (tg_wind t g k) n c m) : tg_wo t g n c m (k + 1) = tg_wo t g n c m k + 2 ^ k := by
  show tg_wo t g n c m k + cl_if (tg_so t (tg_wind t g k) n c m) (2 ^ k) 0 = _
  rw [cl_p q]
theorem tg_wo_n {t g : Nat → Nat} {n : Nat} {c m : Nat → Nat} {k : Nat} (q : ¬ tg_so t (tg_wind t g k) n c m) : tg_wo t g n c m (k + 1) = tg_wo t g n c m k := by
  show tg_wo t g n c m k + cl_if (tg_so t (tg_wind t g k) n c m) (2 ^ k) 0 = _
  rw [cl_n q]
  rfl
theorem ta_p9 {k x : Nat} (hk : k < 9) (hx : x < 2 ^ k) : x < 512 := Nat.lt_of_lt_of_le hx (show 2 ^ k ≤ 2 ^ 9 from Nat.pow_le_pow_right (by decide) (by omega))
/-- a figure in the place of the next one -/
def tg_rep (g : Nat → Nat) (a c : Nat) : Nat → Nat := ta_u g (8 + 8 * a) c
theorem tg_ok_rep {t g : Nat → Nat} {a c : Nat} (ho : tg_ok t g) (ha : a < 2) (hc : tg_fig c) : tg_ok t (tg_rep g a c) := by
  obtain ⟨a0, b1, b2, b3, b4, b6, b7, b8, b9⟩ := ho
  unfold tg_rep
  refine ⟨a0, by rw [ta_un (by omega)]; exact b1, by rw [ta_un (by omega)]; exact b2, by rw [ta_un (by omega)]; exact b3, by rw [ta_un (by omega), ta_un (by omega)]; exact b4, by rw [ta_un (by omega)]; exact b6, by rw [ta_un (by omega)]; exact b7, fun j hj => ?_, fun j hj => ?_⟩
  · rw [ta_un (by omega)] at hj
    by_cases e : 8 + j = 8 + 8 * a
    · rw [e, ta_us]; exact hc
    · rw [ta_un e]; exact b8 j hj
  · rw [ta_un (by omega)] at hj
    by_cases e : 16 + j = 8 + 8 * a
    · rw [e, ta_us]; exact hc
    · rw [ta_un e]; exact b9 j hj
/-- a figure by which all that is seen would be so -/
def tg_oP (t g : Nat → Nat) (a n : Nat) (c m : Nat → Nat) (x : Nat) : Prop := 0 < x % 10 ∧ tg_so t (tg_rep g a x) n c m
noncomputable def tg_cnt (P : Nat → Prop) : Nat → Nat
  | 0 => 0
  | k + 1 => tg_cnt P k + cl_if (P k) 1 0
noncomputable def tg_lea (P : Nat → Prop) : Nat → Nat → Nat
  | 0, _ => 4294967295
  | f + 1, i => cl_if (P i) i (tg_lea P f (i + 1))
theorem tg_cnt_y {P : Nat → Prop} {k : Nat} (h : P k) : tg_cnt P (k + 1) = tg_cnt P k + 1 := by
  show tg_cnt P k + cl_if (P k) 1 0 = _
  rw [cl_p h]
theorem tg_cnt_n {P : Nat → Prop} {k : Nat} (h : ¬ P k) : tg_cnt P (k + 1) = tg_cnt P k := by
  show tg_cnt P k + cl_if (P k) 1 0 = _
  rw [cl_n h]
  rfl
theorem tg_cnt_b (P : Nat → Prop) : ∀ k, tg_cnt P k ≤ k
  | 0 => Nat.le_refl _
  | k + 1 => by
    have h := tg_cnt_b P k
    by_cases q : P k
    · rw [tg_cnt_y q]; omega
    · rw [tg_cnt_n q]; omega
theorem tg_lea_y {P : Nat → Prop} {f i : Nat} (h : P i) : tg_lea P (f + 1) i = i := cl_p h
theorem tg_lea_n {P : Nat → Prop} {f i : Nat} (h : ¬ P i) : tg_lea P (f + 1) i = tg_lea P f (i + 1) := cl_n h
noncomputable def sp_wound (t g : Nat → Nat) (n : Nat) (c m : Nat → Nat) : Nat := tg_wo t g n c m 9
noncomputable def sp_ordered (t g : Nat → Nat) (n : Nat) (c m : Nat → Nat) (a w : Nat) : Nat := if a < 2 then (if w < 2 then (if g (6 + a) = 0 then 4294967295 else if w = 0 then tg_cnt (tg_oP t g a n c m) 50 else tg_lea (tg_oP t g a n c m) 50 0) else 4294967293) else 4294967294
/-- a billion's share -/
def tg_odd (t g : Nat → Nat) (q : Nat) : Nat → Nat
  | 0 => 1000000000
  | n + 1 => if tg_kn (tg_it t g n) = 4294967295 then tg_odd t g q n else tg_odd t g q n * (10 - q) / 10
theorem tg_odd_b (t g : Nat → Nat) (q : Nat) : ∀ n, tg_odd t g q n ≤ 1000000000
  | 0 => Nat.le_refl _
  | n + 1 => by
    have h := tg_odd_b t g q n
    show (if tg_kn (tg_it t g n) = 4294967295 then tg_odd t g q n else tg_odd t g q n * (10 - q) / 10) ≤ 1000000000
    split
    · exact h
    · have h2 : tg_odd t g q n * (10 - q) ≤ tg_odd t g q n * 10 := Nat.mul_le_mul_left _ (by omega)
      omega
theorem tg_odd_y {t g : Nat → Nat} {q n : Nat} (h : tg_kn (tg_it t g n) = 4294967295) : tg_odd t g q (n + 1) = tg_odd t g q n := if_pos h
theorem tg_odd_n {t g : Nat → Nat} {q n : Nat} (h : tg_kn (tg_it t g n) ≠ 4294967295) : tg_odd t g q (n + 1) = tg_odd t g q n * (10 - q) / 10 := if_neg h
def sp_inspected (t g : Nat → Nat) (n q : Nat) : Nat := if n ≤ 60 ∧ q ≤ 10 then tg_odd t g q n else 4294967293
set_option maxHeartbeats 4000000 in
set_option maxRecDepth 100000 in
theorem c_X8_isSo (l : Launch) (D : va_G) (k : ta_C) (z : Nat → Nat) (ty : Nat) (kn : Nat) (no : Nat) (at_ : Nat) (so : Nat) (sr : Nat) (va : Nat) (t : Nat → Nat) (g : Nat → Nat) (hd : Nat → Nat) (nt : Nat → Nat) (hok : tg_ok t g) (hh0 : g 0 < 1073741824) (hh1 : g 0 < 2000000) (hno : no ≤ 6) (hnt : ∀ j, j < no → nt j < 10000 ∧ 1 ≤ nt j % 100 ∧ nt j % 100 ≤ 60) : ta_Mi (S := Unit) l D k yX8_isSo cX8_isSo 4 .boolean 3 100 [.ref (z 0)] [(z 0, .inr (8, [.ref (z 1), .int (nI ty), .ref (z 2), .ref (z 3), .ref (z 4), .ref (z 5), .int (nI kn), .ref (z 6), .ref (z 7), .ref (z 8), .int (nI no), .int (nI at_), .int (nI so), .int (nI sr), .int (nI va), .ref (z 9)])), (z 2, .inl (k.1 0, 23, .inl (ta_e t))), (z 4, .inl (k.1 0, 66, .inl (ta_e g))), (z 9, .inl (k.1 0, 66, .inl (ta_e hd))), (z 8, .inl (k.1 0, 6, .inl (ta_e nt)))] (fun r _ => (tg_so t g no (fun j => nt j / 100) (fun j => nt j % 100) ∧ r = nI 1) ∨ (¬ tg_so t g no (fun j => nt j / 100) (fun j => nt j % 100) ∧ r = nI 0)) (fun u => [(z 0, .inr (8, [.ref (z 1), .int (nI ty), .ref (z 2), .ref (z 3), .ref (z 4), .ref (z 5), .int (nI kn), .ref (z 6), .ref (z 7), .ref (z 8), .int (nI no), .int (nI at_), .int (nI so), .int (nI sr), .int (nI va), .ref (z 9)])), (z 2, .inl (k.1 0, 23, .inl (ta_e t))), (z 4, .inl (k.1 0, 66, .inl (ta_e hd))), (z 9, .inl (k.1 0, 66, .inl (ta_e hd))), (z 8, .inl (k.1 0, 6, .inl (ta_e nt)))]) := by
  refine ta_enter_i (by decide) (Nat.le_of_ble_eq_true rfl) ?_
  intro p e s m below meth c A ls Q C ret hP hD hS hl
  have C : ta_At p l D k s m ([.ref (z 0)] : List Value).toArray c RX8 cX8_isSo 4 A := C
  have hx := C.1.1
  have hb := C.1.2.1
  have hl : lv_has ls 4 [(0, .ref (z 0))] := hl
  obtain ⟨H, hH⟩ : ∃ H, H = s.heap := ⟨_, rfl⟩
  obtain ⟨locs, hlocs⟩ : ∃ q : List Loc, q = [] := ⟨_, rfl⟩
  have hP : va_P D vwCl [(z 0, .inr (8, [.ref (z 1), .int (nI ty), .ref (z 2), .ref (z 3), .ref (z 4), .ref (z 5), .int (nI kn), .ref (z 6), .ref (z 7), .ref (z 8), .int (nI no), .int (nI at_), .int (nI so), .int (nI sr), .int (nI va), .ref (z 9)])), (z 2, .inl (k.1 0, 23, .inl (ta_e t))), (z 4, .inl (k.1 0, 66, .inl (ta_e g))), (z 9, .inl (k.1 0, 66, .inl (ta_e hd))), (z 8, .inl (k.1 0, 6, .inl (ta_e nt)))] H := by rw [hH]; exact hP
  have hS : va_S A s.heap H locs := by rw [hH, hlocs]; exact hS
  rw [← hlocs]
  suffices hgoal : W p l e ({ frames := 3, cells := 0, slots := 0, locals := 100 }) s m ([.ref (z 0)] : List Value).toArray below meth c H locs 0 0 Q (F0 m 0 ls []) by rw [hH] at hgoal; exact hgoal
  clear hH hlocs
  refine ta_iconst C 1 dX8_isSo_0 (by decide) ?_
  refine lv_istore_n (lv' := [(1, .int (nI 1)), (0, .ref (z 0))]) hx hb dX8_isSo_1 rfl hl (by decide) rfl (fun ls hl => ?_)
  refine ta_iconst C 1 dX8_isSo_2 (by decide) ?_
  refine lv_istore_n (lv' := [(2, .int (nI 1)), (1, .int (nI 1)), (0, .ref (z 0))]) hx hb dX8_isSo_3 rfl hl (by decide) rfl (fun ls hl => ?_)
  have loop_4 : ∀ (N_4 : Nat) (i : Nat) (b : Nat), (1 ≤ i ∧ i ≤ 61) → ((b = 1 ∧ ∀ j, j < no → nt j % 100 < i → tg_it t g (nt j % 100) 2 = nt j / 100) ∨ (b = 0 ∧ ¬ tg_so t g no (fun j => nt j / 100) (fun j => nt j % 100))) → 61 - i < N_4 → ∀ (H : Heap) (locs : List Loc) (ls : Array Slot), va_P D vwCl [(z 0, .inr (8, [.ref (z 1), .int (nI ty), .ref (z 2), .ref (z 3), .ref (z 4), .ref (z 5), .int (nI kn), .ref (z 6), .ref (z 7), .ref (z 8), .int (nI no), .int (nI at_), .int (nI so), .int (nI sr), .int (nI va), .ref (z 9)])), (z 2, .inl (k.1 0, 23, .inl (ta_e t))), (z 4, .inl (k.1 0, 66, .inl (ta_e (tg_it t g (i - 1))))), (z 9, .inl (k.1 0, 66, .inl (ta_e hd))), (z 8, .inl (k.1 0, 6, .inl (ta_e nt)))] H → va_D A [(z 0, .inr (8, [.ref (z 1), .int (nI ty), .ref (z 2), .ref (z 3), .ref (z 4), .ref (z 5), .int (nI kn), .ref (z 6), .ref (z 7), .ref (z 8), .int (nI no), .int (nI at_), .int (nI so), .int (nI sr), .int (nI va), .ref (z 9)])), (z 2, .inl (k.1 0, 23, .inl (ta_e t))), (z 4, .inl (k.1 0, 66, .inl (ta_e (tg_it t g (i - 1))))), (z 9, .inl (k.1 0, 66, .inl (ta_e hd))), (z 8, .inl (k.1 0, 6, .inl (ta_e nt)))] → va_S A s.heap H locs → lv_has ls 4 [(2, .int (nI i)), (1, .int (nI b)), (0, .ref (z 0))] → W p l e ({ frames := 3, cells := 0, slots := 0, locals := 100 }) s m ([.ref (z 0)] : List Value).toArray below meth c H locs 0 0 Q (F0 m 4 ls []) := by
    clear hP hD hS hl
    intro N_4
    induction N_4 with
    | zero =>
      intro i b h1 hbo hf_4
      exact absurd hf_4 (Nat.not_lt_zero _)
    | succ N_4 ih_4 =>
      intro i b h1 hbo hf_4 H locs ls hP hD hS hl
      refine lv_iload_n hx hb dX8_isSo_4 rfl (lv_at hl 0 rfl) ?_
      refine ta_bipush C 61 dX8_isSo_5 (by decide) ?_
      refine ta_cge C (a := i) (b := 61) (tgt := 78) (by omega) (by omega) dX8_isSo_7 (by decide) (fun c1 => ?_) (fun c1 => ?_)
      · obtain rfl : i = 61 := by omega
        rcases hbo with ⟨rfl, h8⟩ | ⟨rfl, h8⟩
        · refine lv_aload_n hx hb dX8_isSo_78 rfl (lv_at hl 2 rfl) ?_
          refine ta_callVv (As := []) (rest0 := []) (Wr := [(z 2, .inl (k.1 0, 23, .inl (ta_e t))), (z 8, .inl (k.1 0, 6, .inl (ta_e nt)))]) C hP hD hS (c_X8_lets l D k z ty kn no at_ so sr va (tg_it t g (61 - 1)) hd) 0 rfl rfl rfl [0, 2, 3] [1, 4] rfl rfl (by decide) (by decide) (by decide) tw_564 tw_561 tw_5 tw_562 tw_563 ⟨by decide, by decide, rfl⟩ ⟨Nat.le_of_ble_eq_true rfl, Nat.le_of_ble_eq_true rfl⟩ ⟨Nat.zero_le _, Nat.zero_le _⟩ hl.1 rfl (Nat.le_of_ble_eq_true rfl) dX8_isSo_79 (fun u3 H locs h4 hP hD hS => ?_)
          have hP : va_P D vwCl [(z 2, .inl (k.1 0, 23, .inl (ta_e t))), (z 8, .inl (k.1 0, 6, .inl (ta_e nt))), (z 0, .inr (8, [.ref (z 1), .int (nI ty), .ref (z 2), .ref (z 3), .ref (z 4), .ref (z 5), .int (nI kn), .ref (z 6), .ref (z 7), .ref (z 8), .int (nI no), .int (nI at_), .int (nI so), .int (nI sr), .int (nI va), .ref (z 9)])), (z 4, .inl (k.1 0, 66, .inl (ta_e hd))), (z 9, .inl (k.1 0, 66, .inl (ta_e hd)))] H := hP
          have hD : va_D A [(z 2, .inl (k.1 0, 23, .inl (ta_e t))), (z 8, .inl (k.1 0, 6, .inl (ta_e nt))), (z 0, .inr (8, [.ref (z 1), .int (nI ty), .ref (z 2), .ref (z 3), .ref (z 4), .ref (z 5), .int (nI kn), .ref (z 6), .ref (z 7), .ref (z 8), .int (nI no), .int (nI at_), .int (nI so), .int (nI sr), .int (nI va), .ref (z 9)])), (z 4, .inl (k.1 0, 66, .inl (ta_e hd))), (z 9, .inl (k.1 0, 66, .inl (ta_e hd)))] := hD
          refine lv_iload_n hx hb dX8_isSo_82 rfl (lv_at hl 1 rfl) ?_
          have hP : va_P D vwCl [(z 0, .inr (8, [.ref (z 1), .int (nI ty), .ref (z 2), .ref (z 3), .ref (z 4), .ref (z 5), .int (nI kn), .ref (z 6), .ref (z 7), .ref (z 8), .int (nI no), .int (nI at_), .int (nI so), .int (nI sr), .int (nI va), .ref (z 9)])), (z 2, .inl (k.1 0, 23, .inl (ta_e t))), (z 4, .inl (k.1 0, 66, .inl (ta_e hd))), (z 9, .inl (k.1 0, 66, .inl (ta_e hd))), (z 8, .inl (k.1 0, 6, .inl (ta_e nt)))] H := hP.sub [2, 0, 3, 4, 1] rfl
          have hD : va_D A [(z 0, .inr (8, [.ref (z 1), .int (nI ty), .ref (z 2), .ref (z 3), .ref (z 4), .ref (z 5), .int (nI kn), .ref (z 6), .ref (z 7), .ref (z 8), .int (nI no), .int (nI at_), .int (nI so), .int (nI sr), .int (nI va), .ref (z 9)])), (z 2, .inl (k.1 0, 23, .inl (ta_e t))), (z 4, .inl (k.1 0, 66, .inl (ta_e hd))), (z 9, .inl (k.1 0, 66, .inl (ta_e hd))), (z 8, .inl (k.1 0, 6, .inl (ta_e nt)))] := hD.sub [2, 0, 3, 4, 1] (by decide) rfl
          exact ret _ () dX8_isSo_83 (by decide) (Or.inl ⟨fun j hj => h8 j hj (by have := hnt j hj; omega), rfl⟩) hP hD hS
        · refine lv_aload_n hx hb dX8_isSo_78 rfl (lv_at hl 2 rfl) ?_
          refine ta_callVv (As := []) (rest0 := []) (Wr := [(z 2, .inl (k.1 0, 23, .inl (ta_e t))), (z 8, .inl (k.1 0, 6, .inl (ta_e nt)))]) C hP hD hS (c_X8_lets l D k z ty kn no at_ so sr va (tg_it t g (61 - 1)) hd) 0 rfl rfl rfl [0, 2, 3] [1, 4] rfl rfl (by decide) (by decide) (by decide) tw_564 tw_561 tw_5 tw_562 tw_563 ⟨by decide, by decide, rfl⟩ ⟨Nat.le_of_ble_eq_true rfl, Nat.le_of_ble_eq_true rfl⟩ ⟨Nat.zero_le _, Nat.zero_le _⟩ hl.1 rfl (Nat.le_of_ble_eq_true rfl) dX8_isSo_79 (fun u6 H locs h7 hP hD hS => ?_)
          have hP : va_P D vwCl [(z 2, .inl (k.1 0, 23, .inl (ta_e t))), (z 8, .inl (k.1 0, 6, .inl (ta_e nt))), (z 0, .inr (8, [.ref (z 1), .int (nI ty), .ref (z 2), .ref (z 3), .ref (z 4), .ref (z 5), .int (nI kn), .ref (z 6), .ref (z 7), .ref (z 8), .int (nI no), .int (nI at_), .int (nI so), .int (nI sr), .int (nI va), .ref (z 9)])), (z 4, .inl (k.1 0, 66, .inl (ta_e hd))), (z 9, .inl (k.1 0, 66, .inl (ta_e hd)))] H := hP
          have hD : va_D A [(z 2, .inl (k.1 0, 23, .inl (ta_e t))), (z 8, .inl (k.1 0, 6, .inl (ta_e nt))), (z 0, .inr (8, [.ref (z 1), .int (nI ty), .ref (z 2), .ref (z 3), .ref (z 4), .ref (z 5), .int (nI kn), .ref (z 6), .ref (z 7), .ref (z 8), .int (nI no), .int (nI at_), .int (nI so), .int (nI sr), .int (nI va), .ref (z 9)])), (z 4, .inl (k.1 0, 66, .inl (ta_e hd))), (z 9, .inl (k.1 0, 66, .inl (ta_e hd)))] := hD
          refine lv_iload_n hx hb dX8_isSo_82 rfl (lv_at hl 1 rfl) ?_
          have hP : va_P D vwCl [(z 0, .inr (8, [.ref (z 1), .int (nI ty), .ref (z 2), .ref (z 3), .ref (z 4), .ref (z 5), .int (nI kn), .ref (z 6), .ref (z 7), .ref (z 8), .int (nI no), .int (nI at_), .int (nI so), .int (nI sr), .int (nI va), .ref (z 9)])), (z 2, .inl (k.1 0, 23, .inl (ta_e t))), (z 4, .inl (k.1 0, 66, .inl (ta_e hd))), (z 9, .inl (k.1 0, 66, .inl (ta_e hd))), (z 8, .inl (k.1 0, 6, .inl (ta_e nt)))] H := hP.sub [2, 0, 3, 4, 1] rfl
          have hD : va_D A [(z 0, .inr (8, [.ref (z 1), .int (nI ty), .ref (z 2), .ref (z 3), .ref (z 4), .ref (z 5), .int (nI kn), .ref (z 6), .ref (z 7), .ref (z 8), .int (nI no), .int (nI at_), .int (nI so), .int (nI sr), .int (nI va), .ref (z 9)])), (z 2, .inl (k.1 0, 23, .inl (ta_e t))), (z 4, .inl (k.1 0, 66, .inl (ta_e hd))), (z 9, .inl (k.1 0, 66, .inl (ta_e hd))), (z 8, .inl (k.1 0, 6, .inl (ta_e nt)))] := hD.sub [2, 0, 3, 4, 1] (by decide) rfl
          exact ret _ () dX8_isSo_83 (by decide) (Or.inr ⟨h8, rfl⟩) hP hD hS
      · refine lv_aload_n hx hb dX8_isSo_10 rfl (lv_at hl 2 rfl) ?_
        refine ta_callVi (As := []) (rest0 := []) (Wr := [(z 9, .inl (k.1 0, 66, .inl (ta_e hd))), (z 8, .inl (k.1 0, 6, .inl (ta_e nt)))]) C hP hD hS (c_X8_goes l D k z ty kn no at_ so sr va t (tg_it t g (i - 1)) (tg_ok_it hok (i - 1)) (by have := tg_it_0 hok (i - 1); omega)) 0 rfl rfl rfl [0, 1, 2] [3, 4] rfl rfl (by decide) (by decide) (by decide) tw_481 tw_478 tw_5 tw_479 tw_480 ⟨by decide, by decide, rfl⟩ ⟨Nat.le_of_ble_eq_true rfl, Nat.le_of_ble_eq_true rfl⟩ ⟨Nat.zero_le _, Nat.zero_le _⟩ hl.1 rfl (Nat.le_of_ble_eq_true rfl) dX8_isSo_11 (fun r8 u9 H locs h10 hP hD hS => ?_)
        obtain rfl := h10
        have hP : va_P D vwCl [(z 9, .inl (k.1 0, 66, .inl (ta_e hd))), (z 8, .inl (k.1 0, 6, .inl (ta_e nt))), (z 0, .inr (8, [.ref (z 1), .int (nI ty), .ref (z 2), .ref (z 3), .ref (z 4), .ref (z 5), .int (nI kn), .ref (z 6), .ref (z 7), .ref (z 8), .int (nI no), .int (nI at_), .int (nI so), .int (nI sr), .int (nI va), .ref (z 9)])), (z 2, .inl (k.1 0, 23, .inl (ta_e t))), (z 4, .inl (k.1 0, 66, .inl (ta_e (tg_go t (tg_it t g (i - 1))))))] H := hP
        have hD : va_D A [(z 9, .inl (k.1 0, 66, .inl (ta_e hd))), (z 8, .inl (k.1 0, 6, .inl (ta_e nt))), (z 0, .inr (8, [.ref (z 1), .int (nI ty), .ref (z 2), .ref (z 3), .ref (z 4), .ref (z 5), .int (nI kn), .ref (z 6), .ref (z 7), .ref (z 8), .int (nI no), .int (nI at_), .int (nI so), .int (nI sr), .int (nI va), .ref (z 9)])), (z 2, .inl (k.1 0, 23, .inl (ta_e t))), (z 4, .inl (k.1 0, 66, .inl (ta_e (tg_go t (tg_it t g (i - 1))))))] := hD
        have ei : tg_go t (tg_it t g (i - 1)) = tg_it t g i := by obtain ⟨j, rfl⟩ : ∃ j, i = j + 1 := ⟨i - 1, by omega⟩; rfl
        rw [ei] at hP hD
        have hlt : tg_it t g i 2 < 36 := by obtain ⟨⟨a1, a2, a3, a4, -, -⟩, -, b2, -⟩ := tg_ok_it hok i; exact Nat.lt_of_lt_of_le b2 (tg_36 a2 a4)
        refine lv_pop hx hb dX8_isSo_14 rfl ?_
        refine ta_iconst C 0 dX8_isSo_15 (by decide) ?_
        refine lv_istore_n (lv' := [(3, .int (nI 0)), (2, .int (nI i)), (1, .int (nI b)), (0, .ref (z 0))]) hx hb dX8_isSo_16 rfl hl (by decide) rfl (fun ls hl => ?_)
        have loop_17 : ∀ (N_17 : Nat) (kx : Nat) (b : Nat), (kx ≤ no) → ((b = 1 ∧ (∀ j, j < no → nt j % 100 < i → tg_it t g (nt j % 100) 2 = nt j / 100) ∧ ∀ j, j < kx → nt j % 100 = i → tg_it t g i 2 = nt j / 100) ∨ (b = 0 ∧ ¬ tg_so t g no (fun j => nt j / 100) (fun j => nt j % 100))) → 6 - kx < N_17 → ∀ (H : Heap) (locs : List Loc) (ls : Array Slot), va_P D vwCl [(z 0, .inr (8, [.ref (z 1), .int (nI ty), .ref (z 2), .ref (z 3), .ref (z 4), .ref (z 5), .int (nI kn), .ref (z 6), .ref (z 7), .ref (z 8), .int (nI no), .int (nI at_), .int (nI so), .int (nI sr), .int (nI va), .ref (z 9)])), (z 2, .inl (k.1 0, 23, .inl (ta_e t))), (z 4, .inl (k.1 0, 66, .inl (ta_e (tg_it t g i)))), (z 9, .inl (k.1 0, 66, .inl (ta_e hd))), (z 8, .inl (k.1 0, 6, .inl (ta_e nt)))] H → va_D A [(z 0, .inr (8, [.ref (z 1), .int (nI ty), .ref (z 2), .ref (z 3), .ref (z 4), .ref (z 5), .int (nI kn), .ref (z 6), .ref (z 7), .ref (z 8), .int (nI no), .int (nI at_), .int (nI so), .int (nI sr), .int (nI va), .ref (z 9)])), (z 2, .inl (k.1 0, 23, .inl (ta_e t))), (z 4, .inl (k.1 0, 66, .inl (ta_e (tg_it t g i)))), (z 9, .inl (k.1 0, 66, .inl (ta_e hd))), (z 8, .inl (k.1 0, 6, .inl (ta_e nt)))] → va_S A s.heap H locs → lv_has ls 4 [(3, .int (nI kx)), (2, .int (nI i)), (1, .int (nI b)), (0, .ref (z 0))] → W p l e ({ frames := 3, cells := 0, slots := 0, locals := 100 }) s m ([.ref (z 0)] : List Value).toArray below meth c H locs 0 0 Q (F0 m 17 ls []) := by
          clear hP hD hS hl
          intro N_17
          induction N_17 with
          | zero =>
            intro kx b h3 hbi hf_17
            exact absurd hf_17 (Nat.not_lt_zero _)
          | succ N_17 ih_17 =>
            intro kx b h3 hbi hf_17 H locs ls hP hD hS hl
            refine lv_iload_n hx hb dX8_isSo_17 rfl (lv_at hl 0 rfl) ?_
            refine lv_aload_n hx hb dX8_isSo_18 rfl (lv_at hl 3 rfl) ?_
            refine ta_get C hP 0 inlX8 rfl rfl 10 (by decide) tw_143 rfl dX8_isSo_19 ?_
            refine ta_cge C (a := kx) (b := no) (tgt := 72) (by omega) (by omega) dX8_isSo_22 (by decide) (fun c11 => ?_) (fun c11 => ?_)
            · refine lv_iinc (v := nI (i + 1)) (lv' := [(2, .int (nI (i + 1))), (3, .int (nI kx)), (1, .int (nI b)), (0, .ref (z 0))]) hx hb dX8_isSo_72 hl (k := 1) rfl (ta_inc1 _) (by decide) rfl (fun ls hl => ?_)
              refine lv_goto (tgt := 4) hx hb dX8_isSo_75 (by decide) ?_
              have hbn : (b = 1 ∧ ∀ j, j < no → nt j % 100 < i + 1 → tg_it t g (nt j % 100) 2 = nt j / 100) ∨ (b = 0 ∧ ¬ tg_so t g no (fun j => nt j / 100) (fun j => nt j % 100)) := by
                rcases hbi with ⟨h7, h8, h9⟩ | h7
                · refine Or.inl ⟨h7, fun j hj h6 => ?_⟩
                  rcases Nat.lt_or_ge (nt j % 100) i with h5 | h5
                  · exact h8 j hj h5
                  · have e9 : nt j % 100 = i := by omega
                    rw [e9]
                    exact h9 j (by omega) e9
                · exact Or.inr h7
              exact ih_4 (i + 1) b (by omega) hbn (by omega) _ _ _ hP hD hS (lv_sub hl [0, 2, 3] rfl)
            · have hb1 : b ≤ 1 := by rcases hbi with h | h <;> omega
              refine lv_iload_n hx hb dX8_isSo_25 rfl (lv_at hl 2 rfl) ?_
              refine ta_ieq C (a := b) (tgt := 64) (by omega) dX8_isSo_26 (by decide) (fun c12 => ?_) (fun c12 => ?_)
              · obtain ⟨rfl, hns⟩ := hbi.resolve_left (fun h => absurd h.1 (by omega))
                refine ta_iconst C 0 dX8_isSo_64 (by decide) ?_
                refine lv_istore_n (lv' := [(1, .int (nI 0)), (3, .int (nI kx)), (2, .int (nI i)), (0, .ref (z 0))]) hx hb dX8_isSo_65 rfl hl (by decide) rfl (fun ls hl => ?_)
                refine lv_iinc (v := nI (kx + 1)) (lv' := [(3, .int (nI (kx + 1))), (1, .int (nI 0)), (2, .int (nI i)), (0, .ref (z 0))]) hx hb dX8_isSo_66 hl (k := 1) rfl (ta_inc1 _) (by decide) rfl (fun ls hl => ?_)
                refine lv_goto (tgt := 17) hx hb dX8_isSo_69 (by decide) ?_
                exact ih_17 (kx + 1) 0 (by omega) (Or.inr ⟨rfl, hns⟩) (by omega) _ _ _ hP hD hS (lv_sub hl [0, 2, 1, 3] rfl)
              · obtain ⟨rfl, hq1, hq2⟩ := hbi.resolve_right (fun h => absurd h.1 (by omega))
                have hntk := hnt kx (by omega)
                refine lv_aload_n hx hb dX8_isSo_29 rfl (lv_at hl 3 rfl) ?_
                refine ta_get C hP 0 inlX8 rfl rfl 9 (by decide) tw_132 rfl dX8_isSo_30 ?_
                refine lv_iload_n hx hb dX8_isSo_33 rfl (lv_at hl 0 rfl) ?_
                refine ta_iald C hP 4 rfl (i := kx) (by omega) dX8_isSo_34 ?_
                refine ta_bipush C 100 dX8_isSo_35 (by decide) ?_
                refine ta_irem C (a := nt kx) (b := 100) (by omega) (by omega) (by omega) dX8_isSo_37 ?_
                refine lv_iload_n hx hb dX8_isSo_38 rfl (lv_at hl 1 rfl) ?_
                refine ta_cne C (a := (nt kx) % 100) (b := i) (tgt := 60) (by omega) (by omega) dX8_isSo_39 (by decide) (fun c13 => ?_) (fun c13 => ?_)
                · refine ta_iconst C 1 dX8_isSo_60 (by decide) ?_
                  refine lv_goto (tgt := 65) hx hb dX8_isSo_61 (by decide) ?_
                  refine lv_istore_n (lv' := [(1, .int (nI 1)), (3, .int (nI kx)), (2, .int (nI i)), (0, .ref (z 0))]) hx hb dX8_isSo_65 rfl hl (by decide) rfl (fun ls hl => ?_)
                  refine lv_iinc (v := nI (kx + 1)) (lv' := [(3, .int (nI (kx + 1))), (1, .int (nI 1)), (2, .int (nI i)), (0, .ref (z 0))]) hx hb dX8_isSo_66 hl (k := 1) rfl (ta_inc1 _) (by decide) rfl (fun ls hl => ?_)
                  refine lv_goto (tgt := 17) hx hb dX8_isSo_69 (by decide) ?_
                  have hqn : ∀ j, j < kx + 1 → nt j % 100 = i → tg_it t g i 2 = nt j / 100 := by
                    intro j hj h6
                    rcases Nat.lt_or_ge j kx with h5 | h5
                    · exact hq2 j h5 h6
                    · obtain rfl : j = kx := by omega
                      omega
                  exact ih_17 (kx + 1) 1 (by omega) (Or.inl ⟨rfl, hq1, hqn⟩) (by omega) _ _ _ hP hD hS (lv_sub hl [0, 2, 1, 3] rfl)
                · have hmi := c13
                  refine lv_aload_n hx hb dX8_isSo_42 rfl (lv_at hl 3 rfl) ?_
                  refine ta_get C hP 0 inlX8 rfl rfl 9 (by decide) tw_132 rfl dX8_isSo_43 ?_
                  refine lv_iload_n hx hb dX8_isSo_46 rfl (lv_at hl 0 rfl) ?_
                  refine ta_iald C hP 4 rfl (i := kx) (by omega) dX8_isSo_47 ?_
                  refine ta_bipush C 100 dX8_isSo_48 (by decide) ?_
                  refine ta_idiv C (a := nt kx) (b := 100) (by omega) (by omega) (by omega) dX8_isSo_50 ?_
                  refine lv_aload_n hx hb dX8_isSo_51 rfl (lv_at hl 3 rfl) ?_
                  refine ta_get C hP 0 inlX8 rfl rfl 4 (by decide) tw_128 rfl dX8_isSo_52 ?_
                  refine ta_iconst C 2 dX8_isSo_55 (by decide) ?_
                  refine ta_iald C hP 2 rfl (i := 2) (by omega) dX8_isSo_56 ?_
                  refine ta_cne C (a := (nt kx) / 100) (b := (tg_it t g i) 2) (tgt := 64) (by omega) (by omega) dX8_isSo_57 (by decide) (fun c14 => ?_) (fun c14 => ?_)
                  · refine ta_iconst C 0 dX8_isSo_64 (by decide) ?_
                    refine lv_istore_n (lv' := [(1, .int (nI 0)), (3, .int (nI kx)), (2, .int (nI i)), (0, .ref (z 0))]) hx hb dX8_isSo_65 rfl hl (by decide) rfl (fun ls hl => ?_)
                    refine lv_iinc (v := nI (kx + 1)) (lv' := [(3, .int (nI (kx + 1))), (1, .int (nI 0)), (2, .int (nI i)), (0, .ref (z 0))]) hx hb dX8_isSo_66 hl (k := 1) rfl (ta_inc1 _) (by decide) rfl (fun ls hl => ?_)
                    refine lv_goto (tgt := 17) hx hb dX8_isSo_69 (by decide) ?_
                    exact ih_17 (kx + 1) 0 (by omega) (Or.inr ⟨rfl, fun hso => absurd (hso kx (by omega)) (fun h9 => by have h9 : tg_it t g (nt kx % 100) 2 = nt kx / 100 := h9; rw [hmi] at h9; omega)⟩) (by omega) _ _ _ hP hD hS (lv_sub hl [0, 2, 1, 3] rfl)
                  · refine ta_iconst C 1 dX8_isSo_60 (by decide) ?_
                    refine lv_goto (tgt := 65) hx hb dX8_isSo_61 (by decide) ?_
                    refine lv_istore_n (lv' := [(1, .int (nI 1)), (3, .int (nI kx)), (2, .int (nI i)), (0, .ref (z 0))]) hx hb dX8_isSo_65 rfl hl (by decide) rfl (fun ls hl => ?_)
                    refine lv_iinc (v := nI (kx + 1)) (lv' := [(3, .int (nI (kx + 1))), (1, .int (nI 1)), (2, .int (nI i)), (0, .ref (z 0))]) hx hb dX8_isSo_66 hl (k := 1) rfl (ta_inc1 _) (by decide) rfl (fun ls hl => ?_)
                    refine lv_goto (tgt := 17) hx hb dX8_isSo_69 (by decide) ?_
                    have hqn : ∀ j, j < kx + 1 → nt j % 100 = i → tg_it t g i 2 = nt j / 100 := by
                      intro j hj h6
                      rcases Nat.lt_or_ge j kx with h5 | h5
                      · exact hq2 j h5 h6
                      · obtain rfl : j = kx := by omega
                        omega
                    exact ih_17 (kx + 1) 1 (by omega) (Or.inl ⟨rfl, hq1, hqn⟩) (by omega) _ _ _ hP hD hS (lv_sub hl [0, 2, 1, 3] rfl)
        exact loop_17 ((6 - 0) + 1) 0 b (by omega) (hbo.elim (fun h => Or.inl ⟨h.1, h.2, fun j hj => absurd hj (Nat.not_lt_zero j)⟩) Or.inr) (Nat.lt_succ_self _) _ _ _ (hP.sub [2, 3, 4, 0, 1] rfl) (hD.sub [2, 3, 4, 0, 1] (by decide) rfl) hS (lv_sub hl [0, 1, 2, 3] rfl)
  exact loop_4 ((61 - 1) + 1) 1 1 (by omega) (Or.inl ⟨rfl, fun j hj h9 => absurd h9 (by have := hnt j hj; omega)⟩) (Nat.lt_succ_self _) _ _ _ hP hD hS (lv_sub hl [0, 1, 2] rfl)

set_option maxHeartbeats 4000000 in
set_option maxRecDepth 100000 in
theorem c_X8_wound (l : Launch) (D : va_G) (k : ta_C) (z : Nat → Nat) (ty : Nat) (kn : Nat) (no : Nat) (at_ : Nat) (so : Nat) (sr : Nat) (va : Nat) (t : Nat → Nat) (g : Nat → Nat) (hd : Nat → Nat) (nt : Nat → Nat) (hok : tg_ok t g) (hh0 : g 0 < 1073741824) (hh1 : g 0 < 1000000) (hno : no ≤ 6) (hnt : ∀ j, j < no → nt j < 10000 ∧ 1 ≤ nt j % 100 ∧ nt j % 100 ≤ 60) : ta_Mi (S := Nat → Nat) l D k yX8_wound cX8_wound 3 .int 4 140 [.ref (z 0)] [(z 0, .inr (8, [.ref (z 1), .int (nI ty), .ref (z 2), .ref (z 3), .ref (z 4), .ref (z 5), .int (nI kn), .ref (z 6), .ref (z 7), .ref (z 8), .int (nI no), .int (nI at_), .int (nI so), .int (nI sr), .int (nI va), .ref (z 9)])), (z 2, .inl (k.1 0, 23, .inl (ta_e t))), (z 4, .inl (k.1 0, 66, .inl (ta_e g))), (z 9, .inl (k.1 0, 66, .inl (ta_e hd))), (z 8, .inl (k.1 0, 6, .inl (ta_e nt)))] (fun r _ => r = nI (sp_wound t g no (fun j => nt j / 100) (fun j => nt j % 100))) (fun u => [(z 0, .inr (8, [.ref (z 1), .int (nI ty), .ref (z 2), .ref (z 3), .ref (z 4), .ref (z 5), .int (nI kn), .ref (z 6), .ref (z 7), .ref (z 8), .int (nI no), .int (nI at_), .int (nI so), .int (nI sr), .int (nI va), .ref (z 9)])), (z 2, .inl (k.1 0, 23, .inl (ta_e t))), (z 4, .inl (k.1 0, 66, .inl (ta_e g))), (z 9, .inl (k.1 0, 66, .inl (ta_e u))), (z 8, .inl (k.1 0, 6, .inl (ta_e nt)))]) := by
  refine ta_enter_i (by decide) (Nat.le_of_ble_eq_true rfl) ?_
  intro p e s m below meth c A ls Q C ret hP hD hS hl
  have C : ta_At p l D k s m ([.ref (z 0)] : List Value).toArray c RX8 cX8_wound 3 A := C
  have hx := C.1.1
  have hb := C.1.2.1
  have hl : lv_has ls 3 [(0, .ref (z 0))] := hl
  obtain ⟨H, hH⟩ : ∃ H, H = s.heap := ⟨_, rfl⟩
  obtain ⟨locs, hlocs⟩ : ∃ q : List Loc, q = [] := ⟨_, rfl⟩
  have hP : va_P D vwCl [(z 0, .inr (8, [.ref (z 1), .int (nI ty), .ref (z 2), .ref (z 3), .ref (z 4), .ref (z 5), .int (nI kn), .ref (z 6), .ref (z 7), .ref (z 8), .int (nI no), .int (nI at_), .int (nI so), .int (nI sr), .int (nI va), .ref (z 9)])), (z 2, .inl (k.1 0, 23, .inl (ta_e t))), (z 4, .inl (k.1 0, 66, .inl (ta_e g))), (z 9, .inl (k.1 0, 66, .inl (ta_e hd))), (z 8, .inl (k.1 0, 6, .inl (ta_e nt)))] H := by rw [hH]; exact hP
  have hS : va_S A s.heap H locs := by rw [hH, hlocs]; exact hS
  rw [← hlocs]
  suffices hgoal : W p l e ({ frames := 4, cells := 0, slots := 0, locals := 140 }) s m ([.ref (z 0)] : List Value).toArray below meth c H locs 0 0 Q (F0 m 0 ls []) by rw [hH] at hgoal; exact hgoal
  clear hH hlocs
  obtain ⟨⟨-, -, -, -, a5, a6⟩, b1, -⟩ := id hok
  refine lv_aload_n hx hb dX8_wound_0 rfl (lv_at hl 0 rfl) ?_
  refine ta_callVv (As := []) (rest0 := []) (Wr := [(z 2, .inl (k.1 0, 23, .inl (ta_e t))), (z 8, .inl (k.1 0, 6, .inl (ta_e nt)))]) C hP hD hS (c_X8_holds l D k z ty kn no at_ so sr va g hd) 0 rfl rfl rfl [0, 2, 3] [1, 4] rfl rfl (by decide) (by decide) (by decide) tw_560 tw_557 tw_5 tw_558 tw_559 ⟨by decide, by decide, rfl⟩ ⟨Nat.le_of_ble_eq_true rfl, Nat.le_of_ble_eq_true rfl⟩ ⟨Nat.zero_le _, Nat.zero_le _⟩ hl.1 rfl (Nat.le_of_ble_eq_true rfl) dX8_wound_1 (fun u2 H locs h3 hP hD hS => ?_)
  have hP : va_P D vwCl [(z 2, .inl (k.1 0, 23, .inl (ta_e t))), (z 8, .inl (k.1 0, 6, .inl (ta_e nt))), (z 0, .inr (8, [.ref (z 1), .int (nI ty), .ref (z 2), .ref (z 3), .ref (z 4), .ref (z 5), .int (nI kn), .ref (z 6), .ref (z 7), .ref (z 8), .int (nI no), .int (nI at_), .int (nI so), .int (nI sr), .int (nI va), .ref (z 9)])), (z 4, .inl (k.1 0, 66, .inl (ta_e g))), (z 9, .inl (k.1 0, 66, .inl (ta_e g)))] H := hP
  have hD : va_D A [(z 2, .inl (k.1 0, 23, .inl (ta_e t))), (z 8, .inl (k.1 0, 6, .inl (ta_e nt))), (z 0, .inr (8, [.ref (z 1), .int (nI ty), .ref (z 2), .ref (z 3), .ref (z 4), .ref (z 5), .int (nI kn), .ref (z 6), .ref (z 7), .ref (z 8), .int (nI no), .int (nI at_), .int (nI so), .int (nI sr), .int (nI va), .ref (z 9)])), (z 4, .inl (k.1 0, 66, .inl (ta_e g))), (z 9, .inl (k.1 0, 66, .inl (ta_e g)))] := hD
  refine ta_iconst C 0 dX8_wound_4 (by decide) ?_
  refine lv_istore_n (lv' := [(1, .int (nI 0)), (0, .ref (z 0))]) hx hb dX8_wound_5 rfl hl (by decide) rfl (fun ls hl => ?_)
  refine ta_iconst C 0 dX8_wound_6 (by decide) ?_
  refine lv_istore_n (lv' := [(2, .int (nI 0)), (1, .int (nI 0)), (0, .ref (z 0))]) hx hb dX8_wound_7 rfl hl (by decide) rfl (fun ls hl => ?_)
  have loop_8 : ∀ (N_8 : Nat) (kx : Nat), (kx ≤ 9) → 9 - kx < N_8 → ∀ (H : Heap) (locs : List Loc) (ls : Array Slot), va_P D vwCl [(z 0, .inr (8, [.ref (z 1), .int (nI ty), .ref (z 2), .ref (z 3), .ref (z 4), .ref (z 5), .int (nI kn), .ref (z 6), .ref (z 7), .ref (z 8), .int (nI no), .int (nI at_), .int (nI so), .int (nI sr), .int (nI va), .ref (z 9)])), (z 2, .inl (k.1 0, 23, .inl (ta_e t))), (z 4, .inl (k.1 0, 66, .inl (ta_e g))), (z 9, .inl (k.1 0, 66, .inl (ta_e g))), (z 8, .inl (k.1 0, 6, .inl (ta_e nt)))] H → va_D A [(z 0, .inr (8, [.ref (z 1), .int (nI ty), .ref (z 2), .ref (z 3), .ref (z 4), .ref (z 5), .int (nI kn), .ref (z 6), .ref (z 7), .ref (z 8), .int (nI no), .int (nI at_), .int (nI so), .int (nI sr), .int (nI va), .ref (z 9)])), (z 2, .inl (k.1 0, 23, .inl (ta_e t))), (z 4, .inl (k.1 0, 66, .inl (ta_e g))), (z 9, .inl (k.1 0, 66, .inl (ta_e g))), (z 8, .inl (k.1 0, 6, .inl (ta_e nt)))] → va_S A s.heap H locs → lv_has ls 3 [(2, .int (nI kx)), (1, .int (nI (tg_wo t g no (fun j => nt j / 100) (fun j => nt j % 100) kx))), (0, .ref (z 0))] → W p l e ({ frames := 4, cells := 0, slots := 0, locals := 140 }) s m ([.ref (z 0)] : List Value).toArray below meth c H locs 0 0 Q (F0 m 8 ls []) := by
    clear hP hD hS hl
    intro N_8
    induction N_8 with
    | zero =>
      intro kx h1 hf_8
      exact absurd hf_8 (Nat.not_lt_zero _)
    | succ N_8 ih_8 =>
      intro kx h1 hf_8 H locs ls hP hD hS hl
      refine lv_iload_n hx hb dX8_wound_8 rfl (lv_at hl 0 rfl) ?_
      refine ta_bipush C 9 dX8_wound_9 (by decide) ?_
      refine ta_cge C (a := kx) (b := 9) (tgt := 42) (by omega) (by omega) dX8_wound_11 (by decide) (fun c4 => ?_) (fun c4 => ?_)
      · refine lv_iload_n hx hb dX8_wound_42 rfl (lv_at hl 1 rfl) ?_
        exact ret _ g dX8_wound_43 rfl (by rw [show kx = 9 by omega]; rfl) hP hD hS
      · refine lv_aload_n hx hb dX8_wound_14 rfl (lv_at hl 2 rfl) ?_
        refine lv_iload_n hx hb dX8_wound_15 rfl (lv_at hl 0 rfl) ?_
        refine ta_callVv (As := [.int (nI kx)]) (rest0 := []) (Wr := [(z 9, .inl (k.1 0, 66, .inl (ta_e g))), (z 8, .inl (k.1 0, 6, .inl (ta_e nt)))]) C hP hD hS (c_X8_winds l D k z ty kn no at_ so sr va t g kx (by omega) (by omega)) 0 rfl rfl rfl [0, 1, 2] [3, 4] rfl rfl (by decide) (by decide) (by decide) tw_519 tw_516 tw_5 tw_517 tw_518 ⟨by decide, by decide, rfl⟩ ⟨Nat.le_of_ble_eq_true rfl, Nat.le_of_ble_eq_true rfl⟩ ⟨Nat.zero_le _, Nat.zero_le _⟩ hl.1 rfl (Nat.le_of_ble_eq_true rfl) dX8_wound_16 (fun u6 H locs h7 hP hD hS => ?_)
        have hP : va_P D vwCl [(z 9, .inl (k.1 0, 66, .inl (ta_e g))), (z 8, .inl (k.1 0, 6, .inl (ta_e nt))), (z 0, .inr (8, [.ref (z 1), .int (nI ty), .ref (z 2), .ref (z 3), .ref (z 4), .ref (z 5), .int (nI kn), .ref (z 6), .ref (z 7), .ref (z 8), .int (nI no), .int (nI at_), .int (nI so), .int (nI sr), .int (nI va), .ref (z 9)])), (z 2, .inl (k.1 0, 23, .inl (ta_e t))), (z 4, .inl (k.1 0, 66, .inl (ta_e (tg_wind t g kx))))] H := hP
        have hD : va_D A [(z 9, .inl (k.1 0, 66, .inl (ta_e g))), (z 8, .inl (k.1 0, 6, .inl (ta_e nt))), (z 0, .inr (8, [.ref (z 1), .int (nI ty), .ref (z 2), .ref (z 3), .ref (z 4), .ref (z 5), .int (nI kn), .ref (z 6), .ref (z 7), .ref (z 8), .int (nI no), .int (nI at_), .int (nI so), .int (nI sr), .int (nI va), .ref (z 9)])), (z 2, .inl (k.1 0, 23, .inl (ta_e t))), (z 4, .inl (k.1 0, 66, .inl (ta_e (tg_wind t g kx))))] := hD
        refine lv_iload_n hx hb dX8_wound_19 rfl (lv_at hl 1 rfl) ?_
        refine lv_aload_n hx hb dX8_wound_20 rfl (lv_at hl 2 rfl) ?_
        refine ta_callVi (As := []) (rest0 := [.int (nI (tg_wo t g no (fun j => nt j / 100) (fun j => nt j % 100) kx))]) (Wr := []) C hP hD hS (c_X8_isSo l D k z ty kn no at_ so sr va t (tg_wind t g kx) g nt (tg_ok_wind _ hok) (by have := @tg_wind_0 t g kx; omega) (by have := @tg_wind_0 t g kx; omega) hno hnt) 2 rfl rfl rfl [2, 3, 4, 0, 1] [] rfl rfl (by decide) (by decide) (by decide) tw_637 tw_634 tw_5 tw_635 tw_636 ⟨by decide, by decide, rfl⟩ ⟨Nat.le_of_ble_eq_true rfl, Nat.le_of_ble_eq_true rfl⟩ ⟨Nat.zero_le _, Nat.zero_le _⟩ hl.1 rfl (Nat.le_of_ble_eq_true rfl) dX8_wound_21 (fun r8 u9 H locs h10 hP hD hS => ?_)
        rcases h10 with h0 | h0
        · obtain ⟨hso11, rfl⟩ := h0
          have hP : va_P D vwCl [(z 0, .inr (8, [.ref (z 1), .int (nI ty), .ref (z 2), .ref (z 3), .ref (z 4), .ref (z 5), .int (nI kn), .ref (z 6), .ref (z 7), .ref (z 8), .int (nI no), .int (nI at_), .int (nI so), .int (nI sr), .int (nI va), .ref (z 9)])), (z 2, .inl (k.1 0, 23, .inl (ta_e t))), (z 4, .inl (k.1 0, 66, .inl (ta_e g))), (z 9, .inl (k.1 0, 66, .inl (ta_e g))), (z 8, .inl (k.1 0, 6, .inl (ta_e nt)))] H := hP
          have hD : va_D A [(z 0, .inr (8, [.ref (z 1), .int (nI ty), .ref (z 2), .ref (z 3), .ref (z 4), .ref (z 5), .int (nI kn), .ref (z 6), .ref (z 7), .ref (z 8), .int (nI no), .int (nI at_), .int (nI so), .int (nI sr), .int (nI va), .ref (z 9)])), (z 2, .inl (k.1 0, 23, .inl (ta_e t))), (z 4, .inl (k.1 0, 66, .inl (ta_e g))), (z 9, .inl (k.1 0, 66, .inl (ta_e g))), (z 8, .inl (k.1 0, 6, .inl (ta_e nt)))] := hD
          refine lv_if_eq (tgt := 33) hx hb dX8_wound_24 (by decide) (fun c12 => ?_) (fun c12 => ?_)
          · exact absurd c12 (by decide)
          · refine ta_iconst C 1 dX8_wound_27 (by decide) ?_
            refine lv_iload_n hx hb dX8_wound_28 rfl (lv_at hl 0 rfl) ?_
            refine lv_ishl hx hb dX8_wound_29 ?_
            refine ta_val (y := nI (2 ^ kx)) (ta_shl1 _ (by omega)) ?_
            refine lv_goto (tgt := 34) hx hb dX8_wound_30 (by decide) ?_
            have hwb := tg_wo_b t g no (fun j => nt j / 100) (fun j => nt j % 100) kx
            have hwb2 := ta_p9 (by omega) hwb
            refine lv_ior hx hb dX8_wound_34 ?_
            refine ta_val (y := nI ((tg_wo t g no (fun j => nt j / 100) (fun j => nt j % 100) kx) + 2 ^ kx)) (ta_or1 _ (by first | assumption | omega) _ (by first | assumption | omega)) ?_
            refine lv_istore_n (lv' := [(1, .int (nI ((tg_wo t g no (fun j => nt j / 100) (fun j => nt j % 100) kx) + 2 ^ kx))), (2, .int (nI kx)), (0, .ref (z 0))]) hx hb dX8_wound_35 rfl hl (by decide) rfl (fun ls hl => ?_)
            refine lv_iinc (v := nI (kx + 1)) (lv' := [(2, .int (nI (kx + 1))), (1, .int (nI ((tg_wo t g no (fun j => nt j / 100) (fun j => nt j % 100) kx) + 2 ^ kx))), (0, .ref (z 0))]) hx hb dX8_wound_36 hl (k := 1) rfl (ta_inc1 _) (by decide) rfl (fun ls hl => ?_)
            refine lv_goto (tgt := 8) hx hb dX8_wound_39 (by decide) ?_
            rw [← tg_wo_y hso11] at hl
            exact ih_8 (kx + 1) (by omega) (by omega) _ _ _ hP hD hS (lv_sub hl [0, 1, 2] rfl)
        · obtain ⟨hso13, rfl⟩ := h0
          have hP : va_P D vwCl [(z 0, .inr (8, [.ref (z 1), .int (nI ty), .ref (z 2), .ref (z 3), .ref (z 4), .ref (z 5), .int (nI kn), .ref (z 6), .ref (z 7), .ref (z 8), .int (nI no), .int (nI at_), .int (nI so), .int (nI sr), .int (nI va), .ref (z 9)])), (z 2, .inl (k.1 0, 23, .inl (ta_e t))), (z 4, .inl (k.1 0, 66, .inl (ta_e g))), (z 9, .inl (k.1 0, 66, .inl (ta_e g))), (z 8, .inl (k.1 0, 6, .inl (ta_e nt)))] H := hP
          have hD : va_D A [(z 0, .inr (8, [.ref (z 1), .int (nI ty), .ref (z 2), .ref (z 3), .ref (z 4), .ref (z 5), .int (nI kn), .ref (z 6), .ref (z 7), .ref (z 8), .int (nI no), .int (nI at_), .int (nI so), .int (nI sr), .int (nI va), .ref (z 9)])), (z 2, .inl (k.1 0, 23, .inl (ta_e t))), (z 4, .inl (k.1 0, 66, .inl (ta_e g))), (z 9, .inl (k.1 0, 66, .inl (ta_e g))), (z 8, .inl (k.1 0, 6, .inl (ta_e nt)))] := hD
          refine lv_if_eq (tgt := 33) hx hb dX8_wound_24 (by decide) (fun c14 => ?_) (fun c14 => ?_)
          · refine ta_iconst C 0 dX8_wound_33 (by decide) ?_
            have hwb := tg_wo_b t g no (fun j => nt j / 100) (fun j => nt j % 100) kx
            have hwb2 := ta_p9 (by omega) hwb
            refine lv_ior hx hb dX8_wound_34 ?_
            refine ta_val (y := nI (tg_wo t g no (fun j => nt j / 100) (fun j => nt j % 100) kx)) (ta_or0 _ (by first | assumption | omega)) ?_
            refine lv_istore_n (lv' := [(1, .int (nI (tg_wo t g no (fun j => nt j / 100) (fun j => nt j % 100) kx))), (2, .int (nI kx)), (0, .ref (z 0))]) hx hb dX8_wound_35 rfl hl (by decide) rfl (fun ls hl => ?_)
            refine lv_iinc (v := nI (kx + 1)) (lv' := [(2, .int (nI (kx + 1))), (1, .int (nI (tg_wo t g no (fun j => nt j / 100) (fun j => nt j % 100) kx))), (0, .ref (z 0))]) hx hb dX8_wound_36 hl (k := 1) rfl (ta_inc1 _) (by decide) rfl (fun ls hl => ?_)
            refine lv_goto (tgt := 8) hx hb dX8_wound_39 (by decide) ?_
            rw [← tg_wo_n hso13] at hl
            exact ih_8 (kx + 1) (by omega) (by omega) _ _ _ hP hD hS (lv_sub hl [0, 1, 2] rfl)
          · exact absurd c14 (by decide)
  exact loop_8 ((9 - 0) + 1) 0 (by omega) (Nat.lt_succ_self _) _ _ _ (hP.sub [2, 0, 3, 4, 1] rfl) (hD.sub [2, 0, 3, 4, 1] (by decide) rfl) hS (lv_sub hl [0, 1, 2] rfl)

set_option maxHeartbeats 4000000 in
set_option maxRecDepth 100000 in
theorem c_X8_ordered (l : Launch) (D : va_G) (k : ta_C) (z : Nat → Nat) (ty : Nat) (kn : Nat) (no : Nat) (at_ : Nat) (so : Nat) (sr : Nat) (va : Nat) (t : Nat → Nat) (g : Nat → Nat) (hd : Nat → Nat) (nt : Nat → Nat) (a : Nat) (w : Nat) (hok : tg_ok t g) (hh0 : g 0 < 1073741824) (hh1 : g 0 < 1000000) (hno : no ≤ 6) (hnt : ∀ j, j < no → nt j < 10000 ∧ 1 ≤ nt j % 100 ∧ nt j % 100 ≤ 60) (wa : a < 4294967296) (ww : w < 4294967296) : ta_Mi (S := Nat → Nat) l D k yX8_ordered cX8_ordered 7 .int 4 140 [.ref (z 0), .int (nI a), .int (nI w)] [(z 0, .inr (8, [.ref (z 1), .int (nI ty), .ref (z 2), .ref (z 3), .ref (z 4), .ref (z 5), .int (nI kn), .ref (z 6), .ref (z 7), .ref (z 8), .int (nI no), .int (nI at_), .int (nI so), .int (nI sr), .int (nI va), .ref (z 9)])), (z 2, .inl (k.1 0, 23, .inl (ta_e t))), (z 4, .inl (k.1 0, 66, .inl (ta_e g))), (z 9, .inl (k.1 0, 66, .inl (ta_e hd))), (z 8, .inl (k.1 0, 6, .inl (ta_e nt)))] (fun r _ => r = nI (sp_ordered t g no (fun j => nt j / 100) (fun j => nt j % 100) a w)) (fun u => [(z 0, .inr (8, [.ref (z 1), .int (nI ty), .ref (z 2), .ref (z 3), .ref (z 4), .ref (z 5), .int (nI kn), .ref (z 6), .ref (z 7), .ref (z 8), .int (nI no), .int (nI at_), .int (nI so), .int (nI sr), .int (nI va), .ref (z 9)])), (z 2, .inl (k.1 0, 23, .inl (ta_e t))), (z 4, .inl (k.1 0, 66, .inl (ta_e g))), (z 9, .inl (k.1 0, 66, .inl (ta_e u))), (z 8, .inl (k.1 0, 6, .inl (ta_e nt)))]) := by
  refine ta_enter_i (by decide) (Nat.le_of_ble_eq_true rfl) ?_
  intro p e s m below meth c A ls Q C ret hP hD hS hl
  have C : ta_At p l D k s m ([.ref (z 0), .int (nI a), .int (nI w)] : List Value).toArray c RX8 cX8_ordered 7 A := C
  have hx := C.1.1
  have hb := C.1.2.1
  have hl : lv_has ls 7 [(0, .ref (z 0)), (1, .int (nI a)), (2, .int (nI w))] := hl
  obtain ⟨H, hH⟩ : ∃ H, H = s.heap := ⟨_, rfl⟩
  obtain ⟨locs, hlocs⟩ : ∃ q : List Loc, q = [] := ⟨_, rfl⟩
  have hP : va_P D vwCl [(z 0, .inr (8, [.ref (z 1), .int (nI ty), .ref (z 2), .ref (z 3), .ref (z 4), .ref (z 5), .int (nI kn), .ref (z 6), .ref (z 7), .ref (z 8), .int (nI no), .int (nI at_), .int (nI so), .int (nI sr), .int (nI va), .ref (z 9)])), (z 2, .inl (k.1 0, 23, .inl (ta_e t))), (z 4, .inl (k.1 0, 66, .inl (ta_e g))), (z 9, .inl (k.1 0, 66, .inl (ta_e hd))), (z 8, .inl (k.1 0, 6, .inl (ta_e nt)))] H := by rw [hH]; exact hP
  have hS : va_S A s.heap H locs := by rw [hH, hlocs]; exact hS
  rw [← hlocs]
  suffices hgoal : W p l e ({ frames := 4, cells := 0, slots := 0, locals := 140 }) s m ([.ref (z 0), .int (nI a), .int (nI w)] : List Value).toArray below meth c H locs 0 0 Q (F0 m 0 ls []) by rw [hH] at hgoal; exact hgoal
  clear hH hlocs
  refine lv_iload_n hx hb dX8_ordered_0 rfl (lv_at hl 1 rfl) ?_
  refine ta_iconst C 0 dX8_ordered_1 (by decide) ?_
  refine ta_iconst C 1 dX8_ordered_2 (by decide) ?_
  refine ta_callSi (As := [.int (nI a), .int (nI 0), .int (nI 1)]) (rest0 := []) (Wr := [(z 0, .inr (8, [.ref (z 1), .int (nI ty), .ref (z 2), .ref (z 3), .ref (z 4), .ref (z 5), .int (nI kn), .ref (z 6), .ref (z 7), .ref (z 8), .int (nI no), .int (nI at_), .int (nI so), .int (nI sr), .int (nI va), .ref (z 9)])), (z 2, .inl (k.1 0, 23, .inl (ta_e t))), (z 4, .inl (k.1 0, 66, .inl (ta_e g))), (z 9, .inl (k.1 0, 66, .inl (ta_e hd))), (z 8, .inl (k.1 0, 6, .inl (ta_e nt)))]) C hP hD hS (c_X8_in_w l D k a 0 1 (by omega) (by omega) (by omega)) [] [0, 1, 2, 3, 4] rfl rfl (by decide) (by decide) (by decide) tw_159 tw_157 tw_5 tw_158 ⟨by decide, by decide, rfl⟩ ⟨Nat.le_of_ble_eq_true rfl, Nat.le_of_ble_eq_true rfl⟩ ⟨Nat.zero_le _, Nat.zero_le _⟩ hl.1 rfl (Nat.le_of_ble_eq_true rfl) dX8_ordered_3 (fun r1 u2 H locs h3 hP hD hS => ?_)
  rcases h3 with h0 | h0
  · obtain ⟨hi4, rfl⟩ := h0
    have hP : va_P D vwCl [(z 0, .inr (8, [.ref (z 1), .int (nI ty), .ref (z 2), .ref (z 3), .ref (z 4), .ref (z 5), .int (nI kn), .ref (z 6), .ref (z 7), .ref (z 8), .int (nI no), .int (nI at_), .int (nI so), .int (nI sr), .int (nI va), .ref (z 9)])), (z 2, .inl (k.1 0, 23, .inl (ta_e t))), (z 4, .inl (k.1 0, 66, .inl (ta_e g))), (z 9, .inl (k.1 0, 66, .inl (ta_e hd))), (z 8, .inl (k.1 0, 6, .inl (ta_e nt)))] H := hP
    have hD : va_D A [(z 0, .inr (8, [.ref (z 1), .int (nI ty), .ref (z 2), .ref (z 3), .ref (z 4), .ref (z 5), .int (nI kn), .ref (z 6), .ref (z 7), .ref (z 8), .int (nI no), .int (nI at_), .int (nI so), .int (nI sr), .int (nI va), .ref (z 9)])), (z 2, .inl (k.1 0, 23, .inl (ta_e t))), (z 4, .inl (k.1 0, 66, .inl (ta_e g))), (z 9, .inl (k.1 0, 66, .inl (ta_e hd))), (z 8, .inl (k.1 0, 6, .inl (ta_e nt)))] := hD
    obtain ⟨hn8, hfgs⟩ := tg_ok_a hok (show a < 2 by have h9 := hi4; omega)
    refine lv_if_ne (tgt := 12) hx hb dX8_ordered_6 (by decide) (fun c5 => ?_) (fun c5 => ?_)
    · refine lv_iload_n hx hb dX8_ordered_12 rfl (lv_at hl 2 rfl) ?_
      refine ta_iconst C 0 dX8_ordered_13 (by decide) ?_
      refine ta_iconst C 1 dX8_ordered_14 (by decide) ?_
      refine ta_callSi (As := [.int (nI w), .int (nI 0), .int (nI 1)]) (rest0 := []) (Wr := [(z 0, .inr (8, [.ref (z 1), .int (nI ty), .ref (z 2), .ref (z 3), .ref (z 4), .ref (z 5), .int (nI kn), .ref (z 6), .ref (z 7), .ref (z 8), .int (nI no), .int (nI at_), .int (nI so), .int (nI sr), .int (nI va), .ref (z 9)])), (z 2, .inl (k.1 0, 23, .inl (ta_e t))), (z 4, .inl (k.1 0, 66, .inl (ta_e g))), (z 9, .inl (k.1 0, 66, .inl (ta_e hd))), (z 8, .inl (k.1 0, 6, .inl (ta_e nt)))]) C hP hD hS (c_X8_in_w l D k w 0 1 (by omega) (by omega) (by omega)) [] [0, 1, 2, 3, 4] rfl rfl (by decide) (by decide) (by decide) tw_159 tw_157 tw_5 tw_158 ⟨by decide, by decide, rfl⟩ ⟨Nat.le_of_ble_eq_true rfl, Nat.le_of_ble_eq_true rfl⟩ ⟨Nat.zero_le _, Nat.zero_le _⟩ hl.1 rfl (Nat.le_of_ble_eq_true rfl) dX8_ordered_15 (fun r6 u7 H locs h8 hP hD hS => ?_)
      rcases h8 with h0 | h0
      · obtain ⟨hi9, rfl⟩ := h0
        have hP : va_P D vwCl [(z 0, .inr (8, [.ref (z 1), .int (nI ty), .ref (z 2), .ref (z 3), .ref (z 4), .ref (z 5), .int (nI kn), .ref (z 6), .ref (z 7), .ref (z 8), .int (nI no), .int (nI at_), .int (nI so), .int (nI sr), .int (nI va), .ref (z 9)])), (z 2, .inl (k.1 0, 23, .inl (ta_e t))), (z 4, .inl (k.1 0, 66, .inl (ta_e g))), (z 9, .inl (k.1 0, 66, .inl (ta_e hd))), (z 8, .inl (k.1 0, 6, .inl (ta_e nt)))] H := hP
        have hD : va_D A [(z 0, .inr (8, [.ref (z 1), .int (nI ty), .ref (z 2), .ref (z 3), .ref (z 4), .ref (z 5), .int (nI kn), .ref (z 6), .ref (z 7), .ref (z 8), .int (nI no), .int (nI at_), .int (nI so), .int (nI sr), .int (nI va), .ref (z 9)])), (z 2, .inl (k.1 0, 23, .inl (ta_e t))), (z 4, .inl (k.1 0, 66, .inl (ta_e g))), (z 9, .inl (k.1 0, 66, .inl (ta_e hd))), (z 8, .inl (k.1 0, 6, .inl (ta_e nt)))] := hD
        refine lv_if_ne (tgt := 24) hx hb dX8_ordered_18 (by decide) (fun c10 => ?_) (fun c10 => ?_)
        · refine lv_aload_n hx hb dX8_ordered_24 rfl (lv_at hl 0 rfl) ?_
          refine ta_get C hP 0 inlX8 rfl rfl 4 (by decide) tw_128 rfl dX8_ordered_25 ?_
          refine ta_bipush C 6 dX8_ordered_28 (by decide) ?_
          refine lv_iload_n hx hb dX8_ordered_30 rfl (lv_at hl 1 rfl) ?_
          refine ta_iadd C (a := 6) (b := a) dX8_ordered_31 ?_
          refine ta_iald C hP 2 rfl (i := 6 + a) (by omega) dX8_ordered_32 ?_
          refine ta_ine C (a := g (6 + a)) (tgt := 38) (by omega) dX8_ordered_33 (by decide) (fun c11 => ?_) (fun c11 => ?_)
          · refine lv_aload_n hx hb dX8_ordered_38 rfl (lv_at hl 0 rfl) ?_
            refine ta_callVv (As := []) (rest0 := []) (Wr := [(z 2, .inl (k.1 0, 23, .inl (ta_e t))), (z 8, .inl (k.1 0, 6, .inl (ta_e nt)))]) C hP hD hS (c_X8_holds l D k z ty kn no at_ so sr va g hd) 0 rfl rfl rfl [0, 2, 3] [1, 4] rfl rfl (by decide) (by decide) (by decide) tw_560 tw_557 tw_5 tw_558 tw_559 ⟨by decide, by decide, rfl⟩ ⟨Nat.le_of_ble_eq_true rfl, Nat.le_of_ble_eq_true rfl⟩ ⟨Nat.zero_le _, Nat.zero_le _⟩ hl.1 rfl (Nat.le_of_ble_eq_true rfl) dX8_ordered_39 (fun u13 H locs h14 hP hD hS => ?_)
            have hP : va_P D vwCl [(z 2, .inl (k.1 0, 23, .inl (ta_e t))), (z 8, .inl (k.1 0, 6, .inl (ta_e nt))), (z 0, .inr (8, [.ref (z 1), .int (nI ty), .ref (z 2), .ref (z 3), .ref (z 4), .ref (z 5), .int (nI kn), .ref (z 6), .ref (z 7), .ref (z 8), .int (nI no), .int (nI at_), .int (nI so), .int (nI sr), .int (nI va), .ref (z 9)])), (z 4, .inl (k.1 0, 66, .inl (ta_e g))), (z 9, .inl (k.1 0, 66, .inl (ta_e g)))] H := hP
            have hD : va_D A [(z 2, .inl (k.1 0, 23, .inl (ta_e t))), (z 8, .inl (k.1 0, 6, .inl (ta_e nt))), (z 0, .inr (8, [.ref (z 1), .int (nI ty), .ref (z 2), .ref (z 3), .ref (z 4), .ref (z 5), .int (nI kn), .ref (z 6), .ref (z 7), .ref (z 8), .int (nI no), .int (nI at_), .int (nI so), .int (nI sr), .int (nI va), .ref (z 9)])), (z 4, .inl (k.1 0, 66, .inl (ta_e g))), (z 9, .inl (k.1 0, 66, .inl (ta_e g)))] := hD
            refine ta_iconst C 0 dX8_ordered_42 (by decide) ?_
            refine lv_istore_n (lv' := [(3, .int (nI 0)), (0, .ref (z 0)), (1, .int (nI a)), (2, .int (nI w))]) hx hb dX8_ordered_43 rfl hl (by decide) rfl (fun ls hl => ?_)
            refine ta_iconst C 4294967295 dX8_ordered_44 (by decide) ?_
            refine lv_istore (lv' := [(4, .int (nI 4294967295)), (3, .int (nI 0)), (0, .ref (z 0)), (1, .int (nI a)), (2, .int (nI w))]) hx hb dX8_ordered_45 hl (by decide) rfl (fun ls hl => ?_)
            refine ta_bipush C 49 dX8_ordered_47 (by decide) ?_
            refine lv_istore (lv' := [(5, .int (nI 49)), (4, .int (nI 4294967295)), (3, .int (nI 0)), (0, .ref (z 0)), (1, .int (nI a)), (2, .int (nI w))]) hx hb dX8_ordered_49 hl (by decide) rfl (fun ls hl => ?_)
            have loop_51 : ∀ (N_51 : Nat) (its : Nat) (cn : Nat) (fo : Nat), (its ≤ 49) → (a < 2) → (w < 2) → (0 < g (6 + a)) → (cn + tg_cnt (tg_oP t g a no (fun j => nt j / 100) (fun j => nt j % 100)) (its + 1) = tg_cnt (tg_oP t g a no (fun j => nt j / 100) (fun j => nt j % 100)) 50) → (fo = tg_lea (tg_oP t g a no (fun j => nt j / 100) (fun j => nt j % 100)) (50 - (its + 1)) (its + 1)) → its < N_51 → ∀ (H : Heap) (locs : List Loc) (ls : Array Slot), va_P D vwCl [(z 0, .inr (8, [.ref (z 1), .int (nI ty), .ref (z 2), .ref (z 3), .ref (z 4), .ref (z 5), .int (nI kn), .ref (z 6), .ref (z 7), .ref (z 8), .int (nI no), .int (nI at_), .int (nI so), .int (nI sr), .int (nI va), .ref (z 9)])), (z 2, .inl (k.1 0, 23, .inl (ta_e t))), (z 4, .inl (k.1 0, 66, .inl (ta_e g))), (z 9, .inl (k.1 0, 66, .inl (ta_e g))), (z 8, .inl (k.1 0, 6, .inl (ta_e nt)))] H → va_D A [(z 0, .inr (8, [.ref (z 1), .int (nI ty), .ref (z 2), .ref (z 3), .ref (z 4), .ref (z 5), .int (nI kn), .ref (z 6), .ref (z 7), .ref (z 8), .int (nI no), .int (nI at_), .int (nI so), .int (nI sr), .int (nI va), .ref (z 9)])), (z 2, .inl (k.1 0, 23, .inl (ta_e t))), (z 4, .inl (k.1 0, 66, .inl (ta_e g))), (z 9, .inl (k.1 0, 66, .inl (ta_e g))), (z 8, .inl (k.1 0, 6, .inl (ta_e nt)))] → va_S A s.heap H locs → lv_has ls 7 [(5, .int (nI its)), (4, .int (nI fo)), (3, .int (nI cn)), (0, .ref (z 0)), (1, .int (nI a)), (2, .int (nI w))] → W p l e ({ frames := 4, cells := 0, slots := 0, locals := 140 }) s m ([.ref (z 0), .int (nI a), .int (nI w)] : List Value).toArray below meth c H locs 0 0 Q (F0 m 51 ls []) := by
              clear hP hD hS hl
              intro N_51
              induction N_51 with
              | zero =>
                intro its cn fo h1 ha2 hw2 hn0 hcn hfo hf_51
                exact absurd hf_51 (Nat.not_lt_zero _)
              | succ N_51 ih_51 =>
                intro its cn fo h1 ha2 hw2 hn0 hcn hfo hf_51 H locs ls hP hD hS hl
                refine lv_iload hx hb dX8_ordered_51 (lv_at hl 0 rfl) ?_
                refine ta_ile C (a := its) (tgt := 116) (by omega) dX8_ordered_53 (by decide) (fun c15 => ?_) (fun c15 => ?_)
                · refine lv_iload_n hx hb dX8_ordered_116 rfl (lv_at hl 5 rfl) ?_
                  refine ta_ine C (a := w) (tgt := 124) (by omega) dX8_ordered_117 (by decide) (fun c16 => ?_) (fun c16 => ?_)
                  · refine lv_iload hx hb dX8_ordered_124 (lv_at hl 1 rfl) ?_
                    have ei0 : its = 0 := by omega
                    rw [ei0] at hcn hfo
                    have h0P : ¬ (tg_oP t g a no (fun j => nt j / 100) (fun j => nt j % 100)) 0 := fun h => absurd h.1 (by decide)
                    have e0 : tg_cnt (tg_oP t g a no (fun j => nt j / 100) (fun j => nt j % 100)) 1 = 0 := tg_cnt_n h0P
                    have e2 : tg_lea (tg_oP t g a no (fun j => nt j / 100) (fun j => nt j % 100)) 50 0 = tg_lea (tg_oP t g a no (fun j => nt j / 100) (fun j => nt j % 100)) 49 1 := tg_lea_n h0P
                    have e1 : sp_ordered t g no (fun j => nt j / 100) (fun j => nt j % 100) a w = fo := by
                      unfold sp_ordered
                      rw [if_pos (by omega), if_pos (by omega), if_neg (by omega)]
                      rw [if_neg (by omega), e2]
                      exact hfo.symm
                    exact ret _ g dX8_ordered_126 rfl (by rw [e1]) hP hD hS
                  · refine lv_iload_n hx hb dX8_ordered_120 rfl (lv_at hl 2 rfl) ?_
                    refine lv_goto (tgt := 126) hx hb dX8_ordered_121 (by decide) ?_
                    have ei0 : its = 0 := by omega
                    rw [ei0] at hcn hfo
                    have h0P : ¬ (tg_oP t g a no (fun j => nt j / 100) (fun j => nt j % 100)) 0 := fun h => absurd h.1 (by decide)
                    have e0 : tg_cnt (tg_oP t g a no (fun j => nt j / 100) (fun j => nt j % 100)) 1 = 0 := tg_cnt_n h0P
                    have e2 : tg_lea (tg_oP t g a no (fun j => nt j / 100) (fun j => nt j % 100)) 50 0 = tg_lea (tg_oP t g a no (fun j => nt j / 100) (fun j => nt j % 100)) 49 1 := tg_lea_n h0P
                    have e1 : sp_ordered t g no (fun j => nt j / 100) (fun j => nt j % 100) a w = cn := by
                      unfold sp_ordered
                      rw [if_pos (by omega), if_pos (by omega), if_neg (by omega)]
                      rw [if_pos (by omega)]
                      have e3 : tg_cnt _ (0 + 1) = 0 := e0
                      omega
                    exact ret _ g dX8_ordered_126 rfl (by rw [e1]) hP hD hS
                · refine lv_iload hx hb dX8_ordered_56 (lv_at hl 0 rfl) ?_
                  refine ta_bipush C 10 dX8_ordered_58 (by decide) ?_
                  refine ta_irem C (a := its) (b := 10) (by omega) (by omega) (by omega) dX8_ordered_60 ?_
                  refine ta_ile C (a := its % 10) (tgt := 110) (by omega) dX8_ordered_61 (by decide) (fun c17 => ?_) (fun c17 => ?_)
                  · refine lv_iinc (v := nI (its - 1)) (lv' := [(5, .int (nI (its - 1))), (4, .int (nI fo)), (3, .int (nI cn)), (0, .ref (z 0)), (1, .int (nI a)), (2, .int (nI w))]) hx hb dX8_ordered_110 hl (k := 0) rfl (ta_dec1 (by omega)) (by decide) rfl (fun ls hl => ?_)
                    refine lv_goto (tgt := 51) hx hb dX8_ordered_113 (by decide) ?_
                    have hop : ¬ (tg_oP t g a no (fun j => nt j / 100) (fun j => nt j % 100)) its := fun h9 => absurd h9.1 (by omega)
                    have hcn2 : cn + tg_cnt (tg_oP t g a no (fun j => nt j / 100) (fun j => nt j % 100)) (its - 1 + 1) = tg_cnt (tg_oP t g a no (fun j => nt j / 100) (fun j => nt j % 100)) 50 := by
                      rw [tg_cnt_n hop] at hcn
                      rw [show its - 1 + 1 = its by omega]
                      omega
                    have hfo2 : fo = tg_lea (tg_oP t g a no (fun j => nt j / 100) (fun j => nt j % 100)) (50 - (its - 1 + 1)) (its - 1 + 1) := by
                      rw [show its - 1 + 1 = its by omega, show 50 - its = (50 - (its + 1)) + 1 by omega, tg_lea_n hop, ← hfo]
                    exact ih_51 (its - 1) cn fo (by omega) (by omega) (by omega) (by omega) hcn2 hfo2 (by omega) _ _ _ hP hD hS (lv_sub hl [0, 1, 2, 3, 4, 5] rfl)
                  · refine lv_aload_n hx hb dX8_ordered_64 rfl (lv_at hl 3 rfl) ?_
                    refine ta_get C hP 0 inlX8 rfl rfl 4 (by decide) tw_128 rfl dX8_ordered_65 ?_
                    refine lv_aload_n hx hb dX8_ordered_68 rfl (lv_at hl 3 rfl) ?_
                    refine lv_iload_n hx hb dX8_ordered_69 rfl (lv_at hl 4 rfl) ?_
                    refine ta_iconst C 0 dX8_ordered_70 (by decide) ?_
                    refine ta_callVi (As := [.int (nI a), .int (nI 0)]) (rest0 := [.ref (z 4)]) (Wr := [(z 2, .inl (k.1 0, 23, .inl (ta_e t))), (z 4, .inl (k.1 0, 66, .inl (ta_e g))), (z 9, .inl (k.1 0, 66, .inl (ta_e g))), (z 8, .inl (k.1 0, 6, .inl (ta_e nt)))]) C hP hD hS (c_X8_next l D k z ty kn no at_ so sr va a 0) 0 rfl rfl rfl [0] [1, 2, 3, 4] rfl rfl (by decide) (by decide) (by decide) tw_393 tw_390 tw_5 tw_391 tw_392 ⟨by decide, by decide, rfl⟩ ⟨Nat.le_of_ble_eq_true rfl, Nat.le_of_ble_eq_true rfl⟩ ⟨Nat.zero_le _, Nat.zero_le _⟩ hl.1 rfl (Nat.le_of_ble_eq_true rfl) dX8_ordered_71 (fun r18 u19 H locs h20 hP hD hS => ?_)
                    obtain rfl := h20
                    have hP : va_P D vwCl [(z 2, .inl (k.1 0, 23, .inl (ta_e t))), (z 4, .inl (k.1 0, 66, .inl (ta_e g))), (z 9, .inl (k.1 0, 66, .inl (ta_e g))), (z 8, .inl (k.1 0, 6, .inl (ta_e nt))), (z 0, .inr (8, [.ref (z 1), .int (nI ty), .ref (z 2), .ref (z 3), .ref (z 4), .ref (z 5), .int (nI kn), .ref (z 6), .ref (z 7), .ref (z 8), .int (nI no), .int (nI at_), .int (nI so), .int (nI sr), .int (nI va), .ref (z 9)]))] H := hP
                    have hD : va_D A [(z 2, .inl (k.1 0, 23, .inl (ta_e t))), (z 4, .inl (k.1 0, 66, .inl (ta_e g))), (z 9, .inl (k.1 0, 66, .inl (ta_e g))), (z 8, .inl (k.1 0, 6, .inl (ta_e nt))), (z 0, .inr (8, [.ref (z 1), .int (nI ty), .ref (z 2), .ref (z 3), .ref (z 4), .ref (z 5), .int (nI kn), .ref (z 6), .ref (z 7), .ref (z 8), .int (nI no), .int (nI at_), .int (nI so), .int (nI sr), .int (nI va), .ref (z 9)]))] := hD
                    refine lv_iload hx hb dX8_ordered_74 (lv_at hl 0 rfl) ?_
                    refine ta_iast C hP hD hS 1 rfl (i := 8 + 8 * a + 0) (v := its) (by omega) dX8_ordered_76 (fun H locs hP hD hS => ?_)
                    have hP : va_P D vwCl [(z 2, .inl (k.1 0, 23, .inl (ta_e t))), (z 4, .inl (k.1 0, 66, .inl (ta_e (ta_u g (8 + 8 * a + 0) its)))), (z 9, .inl (k.1 0, 66, .inl (ta_e g))), (z 8, .inl (k.1 0, 6, .inl (ta_e nt))), (z 0, .inr (8, [.ref (z 1), .int (nI ty), .ref (z 2), .ref (z 3), .ref (z 4), .ref (z 5), .int (nI kn), .ref (z 6), .ref (z 7), .ref (z 8), .int (nI no), .int (nI at_), .int (nI so), .int (nI sr), .int (nI va), .ref (z 9)]))] H := hP
                    have hD : va_D A [(z 2, .inl (k.1 0, 23, .inl (ta_e t))), (z 4, .inl (k.1 0, 66, .inl (ta_e (ta_u g (8 + 8 * a + 0) its)))), (z 9, .inl (k.1 0, 66, .inl (ta_e g))), (z 8, .inl (k.1 0, 6, .inl (ta_e nt))), (z 0, .inr (8, [.ref (z 1), .int (nI ty), .ref (z 2), .ref (z 3), .ref (z 4), .ref (z 5), .int (nI kn), .ref (z 6), .ref (z 7), .ref (z 8), .int (nI no), .int (nI at_), .int (nI so), .int (nI sr), .int (nI va), .ref (z 9)]))] := hD
                    have es : ta_u g (8 + 8 * a + 0) its = tg_rep g a its := rfl
                    rw [es] at hP hD
                    have hok2 := tg_ok_rep (a := a) (c := its) hok (by omega) ⟨by omega, by omega⟩
                    have e20 : tg_rep g a its 0 = g 0 := ta_un (by omega)
                    refine lv_aload_n hx hb dX8_ordered_77 rfl (lv_at hl 3 rfl) ?_
                    refine ta_callVi (As := []) (rest0 := []) (Wr := []) C hP hD hS (c_X8_isSo l D k z ty kn no at_ so sr va t (tg_rep g a its) g nt hok2 (by omega) (by omega) hno hnt) 4 rfl rfl rfl [4, 0, 1, 2, 3] [] rfl rfl (by decide) (by decide) (by decide) tw_637 tw_634 tw_5 tw_635 tw_636 ⟨by decide, by decide, rfl⟩ ⟨Nat.le_of_ble_eq_true rfl, Nat.le_of_ble_eq_true rfl⟩ ⟨Nat.zero_le _, Nat.zero_le _⟩ hl.1 rfl (Nat.le_of_ble_eq_true rfl) dX8_ordered_78 (fun r21 u22 H locs h23 hP hD hS => ?_)
                    rcases h23 with h0 | h0
                    · obtain ⟨hso24, rfl⟩ := h0
                      have hP : va_P D vwCl [(z 0, .inr (8, [.ref (z 1), .int (nI ty), .ref (z 2), .ref (z 3), .ref (z 4), .ref (z 5), .int (nI kn), .ref (z 6), .ref (z 7), .ref (z 8), .int (nI no), .int (nI at_), .int (nI so), .int (nI sr), .int (nI va), .ref (z 9)])), (z 2, .inl (k.1 0, 23, .inl (ta_e t))), (z 4, .inl (k.1 0, 66, .inl (ta_e g))), (z 9, .inl (k.1 0, 66, .inl (ta_e g))), (z 8, .inl (k.1 0, 6, .inl (ta_e nt)))] H := hP
                      have hD : va_D A [(z 0, .inr (8, [.ref (z 1), .int (nI ty), .ref (z 2), .ref (z 3), .ref (z 4), .ref (z 5), .int (nI kn), .ref (z 6), .ref (z 7), .ref (z 8), .int (nI no), .int (nI at_), .int (nI so), .int (nI sr), .int (nI va), .ref (z 9)])), (z 2, .inl (k.1 0, 23, .inl (ta_e t))), (z 4, .inl (k.1 0, 66, .inl (ta_e g))), (z 9, .inl (k.1 0, 66, .inl (ta_e g))), (z 8, .inl (k.1 0, 6, .inl (ta_e nt)))] := hD
                      refine lv_istore (lv' := [(6, .int (nI 1)), (5, .int (nI its)), (4, .int (nI fo)), (3, .int (nI cn)), (0, .ref (z 0)), (1, .int (nI a)), (2, .int (nI w))]) hx hb dX8_ordered_81 hl (by decide) rfl (fun ls hl => ?_)
                      refine lv_iload_n hx hb dX8_ordered_83 rfl (lv_at hl 3 rfl) ?_
                      refine lv_iload hx hb dX8_ordered_84 (lv_at hl 0 rfl) ?_
                      refine lv_if_eq (tgt := 93) hx hb dX8_ordered_86 (by decide) (fun c25 => ?_) (fun c25 => ?_)
                      · exact absurd c25 (by decide)
                      · refine ta_iconst C 1 dX8_ordered_89 (by decide) ?_
                        refine lv_goto (tgt := 94) hx hb dX8_ordered_90 (by decide) ?_
                        refine ta_iadd C (a := cn) (b := 1) dX8_ordered_94 ?_
                        refine lv_istore_n (lv' := [(3, .int (nI (cn + 1))), (6, .int (nI 1)), (5, .int (nI its)), (4, .int (nI fo)), (0, .ref (z 0)), (1, .int (nI a)), (2, .int (nI w))]) hx hb dX8_ordered_95 rfl hl (by decide) rfl (fun ls hl => ?_)
                        refine lv_iload hx hb dX8_ordered_96 (lv_at hl 1 rfl) ?_
                        refine lv_if_eq (tgt := 106) hx hb dX8_ordered_98 (by decide) (fun c26 => ?_) (fun c26 => ?_)
                        · exact absurd c26 (by decide)
                        · refine lv_iload hx hb dX8_ordered_101 (lv_at hl 2 rfl) ?_
                          refine lv_goto (tgt := 108) hx hb dX8_ordered_103 (by decide) ?_
                          refine lv_istore (lv' := [(4, .int (nI its)), (3, .int (nI (cn + 1))), (6, .int (nI 1)), (5, .int (nI its)), (0, .ref (z 0)), (1, .int (nI a)), (2, .int (nI w))]) hx hb dX8_ordered_108 hl (by decide) rfl (fun ls hl => ?_)
                          refine lv_iinc (v := nI (its - 1)) (lv' := [(5, .int (nI (its - 1))), (4, .int (nI its)), (3, .int (nI (cn + 1))), (6, .int (nI 1)), (0, .ref (z 0)), (1, .int (nI a)), (2, .int (nI w))]) hx hb dX8_ordered_110 hl (k := 3) rfl (ta_dec1 (by omega)) (by decide) rfl (fun ls hl => ?_)
                          refine lv_goto (tgt := 51) hx hb dX8_ordered_113 (by decide) ?_
                          have hop : (tg_oP t g a no (fun j => nt j / 100) (fun j => nt j % 100)) its := ⟨by omega, hso24⟩
                          have hcn2 : cn + 1 + tg_cnt (tg_oP t g a no (fun j => nt j / 100) (fun j => nt j % 100)) (its - 1 + 1) = tg_cnt (tg_oP t g a no (fun j => nt j / 100) (fun j => nt j % 100)) 50 := by
                            rw [tg_cnt_y hop] at hcn
                            rw [show its - 1 + 1 = its by omega]
                            omega
                          have hfo2 : its = tg_lea (tg_oP t g a no (fun j => nt j / 100) (fun j => nt j % 100)) (50 - (its - 1 + 1)) (its - 1 + 1) := by
                            rw [show its - 1 + 1 = its by omega, show 50 - its = (50 - (its + 1)) + 1 by omega, tg_lea_y hop]
                          exact ih_51 (its - 1) (cn + 1) its (by omega) (by omega) (by omega) (by omega) hcn2 hfo2 (by omega) _ _ _ hP hD hS (lv_sub hl [0, 1, 2, 4, 5, 6] rfl)
                    · obtain ⟨hso27, rfl⟩ := h0
                      have hP : va_P D vwCl [(z 0, .inr (8, [.ref (z 1), .int (nI ty), .ref (z 2), .ref (z 3), .ref (z 4), .ref (z 5), .int (nI kn), .ref (z 6), .ref (z 7), .ref (z 8), .int (nI no), .int (nI at_), .int (nI so), .int (nI sr), .int (nI va), .ref (z 9)])), (z 2, .inl (k.1 0, 23, .inl (ta_e t))), (z 4, .inl (k.1 0, 66, .inl (ta_e g))), (z 9, .inl (k.1 0, 66, .inl (ta_e g))), (z 8, .inl (k.1 0, 6, .inl (ta_e nt)))] H := hP
                      have hD : va_D A [(z 0, .inr (8, [.ref (z 1), .int (nI ty), .ref (z 2), .ref (z 3), .ref (z 4), .ref (z 5), .int (nI kn), .ref (z 6), .ref (z 7), .ref (z 8), .int (nI no), .int (nI at_), .int (nI so), .int (nI sr), .int (nI va), .ref (z 9)])), (z 2, .inl (k.1 0, 23, .inl (ta_e t))), (z 4, .inl (k.1 0, 66, .inl (ta_e g))), (z 9, .inl (k.1 0, 66, .inl (ta_e g))), (z 8, .inl (k.1 0, 6, .inl (ta_e nt)))] := hD
                      refine lv_istore (lv' := [(6, .int (nI 0)), (5, .int (nI its)), (4, .int (nI fo)), (3, .int (nI cn)), (0, .ref (z 0)), (1, .int (nI a)), (2, .int (nI w))]) hx hb dX8_ordered_81 hl (by decide) rfl (fun ls hl => ?_)
                      refine lv_iload_n hx hb dX8_ordered_83 rfl (lv_at hl 3 rfl) ?_
                      refine lv_iload hx hb dX8_ordered_84 (lv_at hl 0 rfl) ?_
                      refine lv_if_eq (tgt := 93) hx hb dX8_ordered_86 (by decide) (fun c28 => ?_) (fun c28 => ?_)
                      · refine ta_iconst C 0 dX8_ordered_93 (by decide) ?_
                        refine ta_iadd C (a := cn) (b := 0) dX8_ordered_94 ?_
                        refine lv_istore_n (lv' := [(3, .int (nI (cn + 0))), (6, .int (nI 0)), (5, .int (nI its)), (4, .int (nI fo)), (0, .ref (z 0)), (1, .int (nI a)), (2, .int (nI w))]) hx hb dX8_ordered_95 rfl hl (by decide) rfl (fun ls hl => ?_)
                        refine lv_iload hx hb dX8_ordered_96 (lv_at hl 1 rfl) ?_
                        refine lv_if_eq (tgt := 106) hx hb dX8_ordered_98 (by decide) (fun c29 => ?_) (fun c29 => ?_)
                        · refine lv_iload hx hb dX8_ordered_106 (lv_at hl 3 rfl) ?_
                          refine lv_istore (lv' := [(4, .int (nI fo)), (3, .int (nI (cn + 0))), (6, .int (nI 0)), (5, .int (nI its)), (0, .ref (z 0)), (1, .int (nI a)), (2, .int (nI w))]) hx hb dX8_ordered_108 hl (by decide) rfl (fun ls hl => ?_)
                          refine lv_iinc (v := nI (its - 1)) (lv' := [(5, .int (nI (its - 1))), (4, .int (nI fo)), (3, .int (nI (cn + 0))), (6, .int (nI 0)), (0, .ref (z 0)), (1, .int (nI a)), (2, .int (nI w))]) hx hb dX8_ordered_110 hl (k := 3) rfl (ta_dec1 (by omega)) (by decide) rfl (fun ls hl => ?_)
                          refine lv_goto (tgt := 51) hx hb dX8_ordered_113 (by decide) ?_
                          have hop : ¬ (tg_oP t g a no (fun j => nt j / 100) (fun j => nt j % 100)) its := fun h9 => absurd h9.2 hso27
                          have hcn2 : cn + tg_cnt (tg_oP t g a no (fun j => nt j / 100) (fun j => nt j % 100)) (its - 1 + 1) = tg_cnt (tg_oP t g a no (fun j => nt j / 100) (fun j => nt j % 100)) 50 := by
                            rw [tg_cnt_n hop] at hcn
                            rw [show its - 1 + 1 = its by omega]
                            omega
                          have hfo2 : fo = tg_lea (tg_oP t g a no (fun j => nt j / 100) (fun j => nt j % 100)) (50 - (its - 1 + 1)) (its - 1 + 1) := by
                            rw [show its - 1 + 1 = its by omega, show 50 - its = (50 - (its + 1)) + 1 by omega, tg_lea_n hop, ← hfo]
                          exact ih_51 (its - 1) cn fo (by omega) (by omega) (by omega) (by omega) hcn2 hfo2 (by omega) _ _ _ hP hD hS (lv_sub hl [0, 1, 2, 4, 5, 6] rfl)
                        · exact absurd c29 (by decide)
                      · exact absurd c28 (by decide)
            exact loop_51 ((49) + 1) 49 0 4294967295 (by omega) (by omega) (by omega) (by omega) (Nat.zero_add _) rfl (Nat.lt_succ_self _) _ _ _ (hP.sub [2, 0, 3, 4, 1] rfl) (hD.sub [2, 0, 3, 4, 1] (by decide) rfl) hS (lv_sub hl [0, 1, 2, 3, 4, 5] rfl)
          · refine ta_iconst C 4294967295 dX8_ordered_36 (by decide) ?_
            have e1 : sp_ordered t g no (fun j => nt j / 100) (fun j => nt j % 100) a w = 4294967295 := by
              unfold sp_ordered
              rw [if_pos (by omega), if_pos (by omega), if_pos (by omega)]
            exact ret _ hd dX8_ordered_37 rfl (by rw [e1]) hP hD hS
        · exact absurd c10 (by decide)
      · obtain ⟨hi30, rfl⟩ := h0
        have hP : va_P D vwCl [(z 0, .inr (8, [.ref (z 1), .int (nI ty), .ref (z 2), .ref (z 3), .ref (z 4), .ref (z 5), .int (nI kn), .ref (z 6), .ref (z 7), .ref (z 8), .int (nI no), .int (nI at_), .int (nI so), .int (nI sr), .int (nI va), .ref (z 9)])), (z 2, .inl (k.1 0, 23, .inl (ta_e t))), (z 4, .inl (k.1 0, 66, .inl (ta_e g))), (z 9, .inl (k.1 0, 66, .inl (ta_e hd))), (z 8, .inl (k.1 0, 6, .inl (ta_e nt)))] H := hP
        have hD : va_D A [(z 0, .inr (8, [.ref (z 1), .int (nI ty), .ref (z 2), .ref (z 3), .ref (z 4), .ref (z 5), .int (nI kn), .ref (z 6), .ref (z 7), .ref (z 8), .int (nI no), .int (nI at_), .int (nI so), .int (nI sr), .int (nI va), .ref (z 9)])), (z 2, .inl (k.1 0, 23, .inl (ta_e t))), (z 4, .inl (k.1 0, 66, .inl (ta_e g))), (z 9, .inl (k.1 0, 66, .inl (ta_e hd))), (z 8, .inl (k.1 0, 6, .inl (ta_e nt)))] := hD
        refine lv_if_ne (tgt := 24) hx hb dX8_ordered_18 (by decide) (fun c31 => ?_) (fun c31 => ?_)
        · exact absurd c31 (by decide)
        · refine ta_bipush C 4294967293 dX8_ordered_21 (by decide) ?_
          have e1 : sp_ordered t g no (fun j => nt j / 100) (fun j => nt j % 100) a w = 4294967293 := by
            unfold sp_ordered
            rw [if_pos (by omega), if_neg (by omega)]
          exact ret _ hd dX8_ordered_23 rfl (by rw [e1]) hP hD hS
    · exact absurd c5 (by decide)
  · obtain ⟨hi32, rfl⟩ := h0
    have hP : va_P D vwCl [(z 0, .inr (8, [.ref (z 1), .int (nI ty), .ref (z 2), .ref (z 3), .ref (z 4), .ref (z 5), .int (nI kn), .ref (z 6), .ref (z 7), .ref (z 8), .int (nI no), .int (nI at_), .int (nI so), .int (nI sr), .int (nI va), .ref (z 9)])), (z 2, .inl (k.1 0, 23, .inl (ta_e t))), (z 4, .inl (k.1 0, 66, .inl (ta_e g))), (z 9, .inl (k.1 0, 66, .inl (ta_e hd))), (z 8, .inl (k.1 0, 6, .inl (ta_e nt)))] H := hP
    have hD : va_D A [(z 0, .inr (8, [.ref (z 1), .int (nI ty), .ref (z 2), .ref (z 3), .ref (z 4), .ref (z 5), .int (nI kn), .ref (z 6), .ref (z 7), .ref (z 8), .int (nI no), .int (nI at_), .int (nI so), .int (nI sr), .int (nI va), .ref (z 9)])), (z 2, .inl (k.1 0, 23, .inl (ta_e t))), (z 4, .inl (k.1 0, 66, .inl (ta_e g))), (z 9, .inl (k.1 0, 66, .inl (ta_e hd))), (z 8, .inl (k.1 0, 6, .inl (ta_e nt)))] := hD
    refine lv_if_ne (tgt := 12) hx hb dX8_ordered_6 (by decide) (fun c33 => ?_) (fun c33 => ?_)
    · exact absurd c33 (by decide)
    · refine ta_bipush C 4294967294 dX8_ordered_9 (by decide) ?_
      have e1 : sp_ordered t g no (fun j => nt j / 100) (fun j => nt j % 100) a w = 4294967294 := by
        unfold sp_ordered
        rw [if_neg (by omega)]
      exact ret _ hd dX8_ordered_11 rfl (by rw [e1]) hP hD hS

set_option maxHeartbeats 4000000 in
set_option maxRecDepth 100000 in
theorem c_X8_inspected (l : Launch) (D : va_G) (k : ta_C) (z : Nat → Nat) (ty : Nat) (kn : Nat) (no : Nat) (at_ : Nat) (so : Nat) (sr : Nat) (va : Nat) (t : Nat → Nat) (g : Nat → Nat) (hd : Nat → Nat) (n : Nat) (q : Nat) (hok : tg_ok t g) (hh0 : g 0 < 1073741824) (hh1 : g 0 < 1000000) (wn : n < 4294967296) (wq : q < 4294967296) : ta_Mi (S := Nat → Nat) l D k yX8_inspected cX8_inspected 6 .int 3 100 [.ref (z 0), .int (nI n), .int (nI q)] [(z 0, .inr (8, [.ref (z 1), .int (nI ty), .ref (z 2), .ref (z 3), .ref (z 4), .ref (z 5), .int (nI kn), .ref (z 6), .ref (z 7), .ref (z 8), .int (nI no), .int (nI at_), .int (nI so), .int (nI sr), .int (nI va), .ref (z 9)])), (z 2, .inl (k.1 0, 23, .inl (ta_e t))), (z 4, .inl (k.1 0, 66, .inl (ta_e g))), (z 9, .inl (k.1 0, 66, .inl (ta_e hd)))] (fun r _ => r = nI (sp_inspected t g n q)) (fun u => [(z 0, .inr (8, [.ref (z 1), .int (nI ty), .ref (z 2), .ref (z 3), .ref (z 4), .ref (z 5), .int (nI kn), .ref (z 6), .ref (z 7), .ref (z 8), .int (nI no), .int (nI at_), .int (nI so), .int (nI sr), .int (nI va), .ref (z 9)])), (z 2, .inl (k.1 0, 23, .inl (ta_e t))), (z 4, .inl (k.1 0, 66, .inl (ta_e g))), (z 9, .inl (k.1 0, 66, .inl (ta_e u)))]) := by
  refine ta_enter_i (by decide) (Nat.le_of_ble_eq_true rfl) ?_
  intro p e s m below meth c A ls Q C ret hP hD hS hl
  have C : ta_At p l D k s m ([.ref (z 0), .int (nI n), .int (nI q)] : List Value).toArray c RX8 cX8_inspected 6 A := C
  have hx := C.1.1
  have hb := C.1.2.1
  have hl : lv_has ls 6 [(0, .ref (z 0)), (1, .int (nI n)), (2, .int (nI q))] := hl
  obtain ⟨H, hH⟩ : ∃ H, H = s.heap := ⟨_, rfl⟩
  obtain ⟨locs, hlocs⟩ : ∃ q : List Loc, q = [] := ⟨_, rfl⟩
  have hP : va_P D vwCl [(z 0, .inr (8, [.ref (z 1), .int (nI ty), .ref (z 2), .ref (z 3), .ref (z 4), .ref (z 5), .int (nI kn), .ref (z 6), .ref (z 7), .ref (z 8), .int (nI no), .int (nI at_), .int (nI so), .int (nI sr), .int (nI va), .ref (z 9)])), (z 2, .inl (k.1 0, 23, .inl (ta_e t))), (z 4, .inl (k.1 0, 66, .inl (ta_e g))), (z 9, .inl (k.1 0, 66, .inl (ta_e hd)))] H := by rw [hH]; exact hP
  have hS : va_S A s.heap H locs := by rw [hH, hlocs]; exact hS
  rw [← hlocs]
  suffices hgoal : W p l e ({ frames := 3, cells := 0, slots := 0, locals := 100 }) s m ([.ref (z 0), .int (nI n), .int (nI q)] : List Value).toArray below meth c H locs 0 0 Q (F0 m 0 ls []) by rw [hH] at hgoal; exact hgoal
  clear hH hlocs
  refine lv_iload_n hx hb dX8_inspected_0 rfl (lv_at hl 1 rfl) ?_
  refine ta_iconst C 0 dX8_inspected_1 (by decide) ?_
  refine ta_bipush C 60 dX8_inspected_2 (by decide) ?_
  refine ta_callSi (As := [.int (nI n), .int (nI 0), .int (nI 60)]) (rest0 := []) (Wr := [(z 0, .inr (8, [.ref (z 1), .int (nI ty), .ref (z 2), .ref (z 3), .ref (z 4), .ref (z 5), .int (nI kn), .ref (z 6), .ref (z 7), .ref (z 8), .int (nI no), .int (nI at_), .int (nI so), .int (nI sr), .int (nI va), .ref (z 9)])), (z 2, .inl (k.1 0, 23, .inl (ta_e t))), (z 4, .inl (k.1 0, 66, .inl (ta_e g))), (z 9, .inl (k.1 0, 66, .inl (ta_e hd)))]) C hP hD hS (c_X8_in_w l D k n 0 60 (by omega) (by omega) (by omega)) [] [0, 1, 2, 3] rfl rfl (by decide) (by decide) (by decide) tw_159 tw_157 tw_5 tw_158 ⟨by decide, by decide, rfl⟩ ⟨Nat.le_of_ble_eq_true rfl, Nat.le_of_ble_eq_true rfl⟩ ⟨Nat.zero_le _, Nat.zero_le _⟩ hl.1 rfl (Nat.le_of_ble_eq_true rfl) dX8_inspected_4 (fun r1 u2 H locs h3 hP hD hS => ?_)
  rcases h3 with h0 | h0
  · obtain ⟨hi4, rfl⟩ := h0
    have hP : va_P D vwCl [(z 0, .inr (8, [.ref (z 1), .int (nI ty), .ref (z 2), .ref (z 3), .ref (z 4), .ref (z 5), .int (nI kn), .ref (z 6), .ref (z 7), .ref (z 8), .int (nI no), .int (nI at_), .int (nI so), .int (nI sr), .int (nI va), .ref (z 9)])), (z 2, .inl (k.1 0, 23, .inl (ta_e t))), (z 4, .inl (k.1 0, 66, .inl (ta_e g))), (z 9, .inl (k.1 0, 66, .inl (ta_e hd)))] H := hP
    have hD : va_D A [(z 0, .inr (8, [.ref (z 1), .int (nI ty), .ref (z 2), .ref (z 3), .ref (z 4), .ref (z 5), .int (nI kn), .ref (z 6), .ref (z 7), .ref (z 8), .int (nI no), .int (nI at_), .int (nI so), .int (nI sr), .int (nI va), .ref (z 9)])), (z 2, .inl (k.1 0, 23, .inl (ta_e t))), (z 4, .inl (k.1 0, 66, .inl (ta_e g))), (z 9, .inl (k.1 0, 66, .inl (ta_e hd)))] := hD
    refine lv_if_eq (tgt := 20) hx hb dX8_inspected_7 (by decide) (fun c5 => ?_) (fun c5 => ?_)
    · exact absurd c5 (by decide)
    · refine lv_iload_n hx hb dX8_inspected_10 rfl (lv_at hl 2 rfl) ?_
      refine ta_iconst C 0 dX8_inspected_11 (by decide) ?_
      refine ta_bipush C 10 dX8_inspected_12 (by decide) ?_
      refine ta_callSi (As := [.int (nI q), .int (nI 0), .int (nI 10)]) (rest0 := []) (Wr := [(z 0, .inr (8, [.ref (z 1), .int (nI ty), .ref (z 2), .ref (z 3), .ref (z 4), .ref (z 5), .int (nI kn), .ref (z 6), .ref (z 7), .ref (z 8), .int (nI no), .int (nI at_), .int (nI so), .int (nI sr), .int (nI va), .ref (z 9)])), (z 2, .inl (k.1 0, 23, .inl (ta_e t))), (z 4, .inl (k.1 0, 66, .inl (ta_e g))), (z 9, .inl (k.1 0, 66, .inl (ta_e hd)))]) C hP hD hS (c_X8_in_w l D k q 0 10 (by omega) (by omega) (by omega)) [] [0, 1, 2, 3] rfl rfl (by decide) (by decide) (by decide) tw_159 tw_157 tw_5 tw_158 ⟨by decide, by decide, rfl⟩ ⟨Nat.le_of_ble_eq_true rfl, Nat.le_of_ble_eq_true rfl⟩ ⟨Nat.zero_le _, Nat.zero_le _⟩ hl.1 rfl (Nat.le_of_ble_eq_true rfl) dX8_inspected_14 (fun r6 u7 H locs h8 hP hD hS => ?_)
      rcases h8 with h0 | h0
      · obtain ⟨hi9, rfl⟩ := h0
        have hP : va_P D vwCl [(z 0, .inr (8, [.ref (z 1), .int (nI ty), .ref (z 2), .ref (z 3), .ref (z 4), .ref (z 5), .int (nI kn), .ref (z 6), .ref (z 7), .ref (z 8), .int (nI no), .int (nI at_), .int (nI so), .int (nI sr), .int (nI va), .ref (z 9)])), (z 2, .inl (k.1 0, 23, .inl (ta_e t))), (z 4, .inl (k.1 0, 66, .inl (ta_e g))), (z 9, .inl (k.1 0, 66, .inl (ta_e hd)))] H := hP
        have hD : va_D A [(z 0, .inr (8, [.ref (z 1), .int (nI ty), .ref (z 2), .ref (z 3), .ref (z 4), .ref (z 5), .int (nI kn), .ref (z 6), .ref (z 7), .ref (z 8), .int (nI no), .int (nI at_), .int (nI so), .int (nI sr), .int (nI va), .ref (z 9)])), (z 2, .inl (k.1 0, 23, .inl (ta_e t))), (z 4, .inl (k.1 0, 66, .inl (ta_e g))), (z 9, .inl (k.1 0, 66, .inl (ta_e hd)))] := hD
        refine lv_if_ne (tgt := 23) hx hb dX8_inspected_17 (by decide) (fun c10 => ?_) (fun c10 => ?_)
        · refine lv_aload_n hx hb dX8_inspected_23 rfl (lv_at hl 0 rfl) ?_
          refine ta_callVv (As := []) (rest0 := []) (Wr := [(z 2, .inl (k.1 0, 23, .inl (ta_e t)))]) C hP hD hS (c_X8_holds l D k z ty kn no at_ so sr va g hd) 0 rfl rfl rfl [0, 2, 3] [1] rfl rfl (by decide) (by decide) (by decide) tw_560 tw_557 tw_5 tw_558 tw_559 ⟨by decide, by decide, rfl⟩ ⟨Nat.le_of_ble_eq_true rfl, Nat.le_of_ble_eq_true rfl⟩ ⟨Nat.zero_le _, Nat.zero_le _⟩ hl.1 rfl (Nat.le_of_ble_eq_true rfl) dX8_inspected_24 (fun u12 H locs h13 hP hD hS => ?_)
          have hP : va_P D vwCl [(z 2, .inl (k.1 0, 23, .inl (ta_e t))), (z 0, .inr (8, [.ref (z 1), .int (nI ty), .ref (z 2), .ref (z 3), .ref (z 4), .ref (z 5), .int (nI kn), .ref (z 6), .ref (z 7), .ref (z 8), .int (nI no), .int (nI at_), .int (nI so), .int (nI sr), .int (nI va), .ref (z 9)])), (z 4, .inl (k.1 0, 66, .inl (ta_e g))), (z 9, .inl (k.1 0, 66, .inl (ta_e g)))] H := hP
          have hD : va_D A [(z 2, .inl (k.1 0, 23, .inl (ta_e t))), (z 0, .inr (8, [.ref (z 1), .int (nI ty), .ref (z 2), .ref (z 3), .ref (z 4), .ref (z 5), .int (nI kn), .ref (z 6), .ref (z 7), .ref (z 8), .int (nI no), .int (nI at_), .int (nI so), .int (nI sr), .int (nI va), .ref (z 9)])), (z 4, .inl (k.1 0, 66, .inl (ta_e g))), (z 9, .inl (k.1 0, 66, .inl (ta_e g)))] := hD
          refine lv_ldc2 (v := 1000000000) hx hb C.1.2.2.2.1 (C.1.2.2.2.2 _ tw_664) dX8_inspected_27 ?_
          refine ta_lval (y := lN 1000000000) (by decide) ?_
          refine lv_lstore_n (lv' := [(3, .long (lN 1000000000)), (0, .ref (z 0)), (1, .int (nI n)), (2, .int (nI q))]) hx hb dX8_inspected_30 rfl hl (by decide) rfl (fun ls hl => ?_)
          refine ta_iconst C 0 dX8_inspected_31 (by decide) ?_
          refine lv_istore (lv' := [(5, .int (nI 0)), (3, .long (lN 1000000000)), (0, .ref (z 0)), (1, .int (nI n)), (2, .int (nI q))]) hx hb dX8_inspected_32 hl (by decide) rfl (fun ls hl => ?_)
          have loop_34 : ∀ (N_34 : Nat) (i : Nat), (i ≤ n) → (n ≤ 60) → (q ≤ 10) → n - i < N_34 → ∀ (H : Heap) (locs : List Loc) (ls : Array Slot), va_P D vwCl [(z 0, .inr (8, [.ref (z 1), .int (nI ty), .ref (z 2), .ref (z 3), .ref (z 4), .ref (z 5), .int (nI kn), .ref (z 6), .ref (z 7), .ref (z 8), .int (nI no), .int (nI at_), .int (nI so), .int (nI sr), .int (nI va), .ref (z 9)])), (z 2, .inl (k.1 0, 23, .inl (ta_e t))), (z 4, .inl (k.1 0, 66, .inl (ta_e (tg_it t g i)))), (z 9, .inl (k.1 0, 66, .inl (ta_e g)))] H → va_D A [(z 0, .inr (8, [.ref (z 1), .int (nI ty), .ref (z 2), .ref (z 3), .ref (z 4), .ref (z 5), .int (nI kn), .ref (z 6), .ref (z 7), .ref (z 8), .int (nI no), .int (nI at_), .int (nI so), .int (nI sr), .int (nI va), .ref (z 9)])), (z 2, .inl (k.1 0, 23, .inl (ta_e t))), (z 4, .inl (k.1 0, 66, .inl (ta_e (tg_it t g i)))), (z 9, .inl (k.1 0, 66, .inl (ta_e g)))] → va_S A s.heap H locs → lv_has ls 6 [(5, .int (nI i)), (3, .long (lN (tg_odd t g q i))), (0, .ref (z 0)), (1, .int (nI n)), (2, .int (nI q))] → W p l e ({ frames := 3, cells := 0, slots := 0, locals := 100 }) s m ([.ref (z 0), .int (nI n), .int (nI q)] : List Value).toArray below meth c H locs 0 0 Q (F0 m 34 ls []) := by
            clear hP hD hS hl
            intro N_34
            induction N_34 with
            | zero =>
              intro i h1 hn60 hq10 hf_34
              exact absurd hf_34 (Nat.not_lt_zero _)
            | succ N_34 ih_34 =>
              intro i h1 hn60 hq10 hf_34 H locs ls hP hD hS hl
              refine lv_iload hx hb dX8_inspected_34 (lv_at hl 0 rfl) ?_
              refine lv_iload_n hx hb dX8_inspected_36 rfl (lv_at hl 3 rfl) ?_
              refine ta_cge C (a := i) (b := n) (tgt := 70) (by omega) (by omega) dX8_inspected_37 (by decide) (fun c14 => ?_) (fun c14 => ?_)
              · refine lv_aload_n hx hb dX8_inspected_70 rfl (lv_at hl 2 rfl) ?_
                refine ta_callVv (As := []) (rest0 := []) (Wr := [(z 2, .inl (k.1 0, 23, .inl (ta_e t)))]) C hP hD hS (c_X8_lets l D k z ty kn no at_ so sr va (tg_it t g i) g) 0 rfl rfl rfl [0, 2, 3] [1] rfl rfl (by decide) (by decide) (by decide) tw_564 tw_561 tw_5 tw_562 tw_563 ⟨by decide, by decide, rfl⟩ ⟨Nat.le_of_ble_eq_true rfl, Nat.le_of_ble_eq_true rfl⟩ ⟨Nat.zero_le _, Nat.zero_le _⟩ hl.1 rfl (Nat.le_of_ble_eq_true rfl) dX8_inspected_71 (fun u16 H locs h17 hP hD hS => ?_)
                have hP : va_P D vwCl [(z 2, .inl (k.1 0, 23, .inl (ta_e t))), (z 0, .inr (8, [.ref (z 1), .int (nI ty), .ref (z 2), .ref (z 3), .ref (z 4), .ref (z 5), .int (nI kn), .ref (z 6), .ref (z 7), .ref (z 8), .int (nI no), .int (nI at_), .int (nI so), .int (nI sr), .int (nI va), .ref (z 9)])), (z 4, .inl (k.1 0, 66, .inl (ta_e g))), (z 9, .inl (k.1 0, 66, .inl (ta_e g)))] H := hP
                have hD : va_D A [(z 2, .inl (k.1 0, 23, .inl (ta_e t))), (z 0, .inr (8, [.ref (z 1), .int (nI ty), .ref (z 2), .ref (z 3), .ref (z 4), .ref (z 5), .int (nI kn), .ref (z 6), .ref (z 7), .ref (z 8), .int (nI no), .int (nI at_), .int (nI so), .int (nI sr), .int (nI va), .ref (z 9)])), (z 4, .inl (k.1 0, 66, .inl (ta_e g))), (z 9, .inl (k.1 0, 66, .inl (ta_e g)))] := hD
                refine lv_lload_n hx hb dX8_inspected_74 rfl (lv_at hl 1 rfl) ?_
                refine lv_l2i (v := nI (tg_odd t g q i)) hx hb dX8_inspected_75 (lN_i _) ?_
                have hP : va_P D vwCl [(z 0, .inr (8, [.ref (z 1), .int (nI ty), .ref (z 2), .ref (z 3), .ref (z 4), .ref (z 5), .int (nI kn), .ref (z 6), .ref (z 7), .ref (z 8), .int (nI no), .int (nI at_), .int (nI so), .int (nI sr), .int (nI va), .ref (z 9)])), (z 2, .inl (k.1 0, 23, .inl (ta_e t))), (z 4, .inl (k.1 0, 66, .inl (ta_e g))), (z 9, .inl (k.1 0, 66, .inl (ta_e g)))] H := hP.sub [1, 0, 2, 3] rfl
                have hD : va_D A [(z 0, .inr (8, [.ref (z 1), .int (nI ty), .ref (z 2), .ref (z 3), .ref (z 4), .ref (z 5), .int (nI kn), .ref (z 6), .ref (z 7), .ref (z 8), .int (nI no), .int (nI at_), .int (nI so), .int (nI sr), .int (nI va), .ref (z 9)])), (z 2, .inl (k.1 0, 23, .inl (ta_e t))), (z 4, .inl (k.1 0, 66, .inl (ta_e g))), (z 9, .inl (k.1 0, 66, .inl (ta_e g)))] := hD.sub [1, 0, 2, 3] (by decide) rfl
                have e1 : sp_inspected t g n q = tg_odd t g q i := by rw [show i = n by omega]; exact if_pos (by omega)
                exact ret _ g dX8_inspected_76 rfl (by rw [e1]) hP hD hS
              · refine lv_aload_n hx hb dX8_inspected_40 rfl (lv_at hl 2 rfl) ?_
                refine ta_callVi (As := []) (rest0 := []) (Wr := [(z 9, .inl (k.1 0, 66, .inl (ta_e g)))]) C hP hD hS (c_X8_goes l D k z ty kn no at_ so sr va t (tg_it t g i) (tg_ok_it hok i) (by have := tg_it_0 hok i; omega)) 0 rfl rfl rfl [0, 1, 2] [3] rfl rfl (by decide) (by decide) (by decide) tw_481 tw_478 tw_5 tw_479 tw_480 ⟨by decide, by decide, rfl⟩ ⟨Nat.le_of_ble_eq_true rfl, Nat.le_of_ble_eq_true rfl⟩ ⟨Nat.zero_le _, Nat.zero_le _⟩ hl.1 rfl (Nat.le_of_ble_eq_true rfl) dX8_inspected_41 (fun r18 u19 H locs h20 hP hD hS => ?_)
                obtain rfl := h20
                have hP : va_P D vwCl [(z 9, .inl (k.1 0, 66, .inl (ta_e g))), (z 0, .inr (8, [.ref (z 1), .int (nI ty), .ref (z 2), .ref (z 3), .ref (z 4), .ref (z 5), .int (nI kn), .ref (z 6), .ref (z 7), .ref (z 8), .int (nI no), .int (nI at_), .int (nI so), .int (nI sr), .int (nI va), .ref (z 9)])), (z 2, .inl (k.1 0, 23, .inl (ta_e t))), (z 4, .inl (k.1 0, 66, .inl (ta_e (tg_go t (tg_it t g i)))))] H := hP
                have hD : va_D A [(z 9, .inl (k.1 0, 66, .inl (ta_e g))), (z 0, .inr (8, [.ref (z 1), .int (nI ty), .ref (z 2), .ref (z 3), .ref (z 4), .ref (z 5), .int (nI kn), .ref (z 6), .ref (z 7), .ref (z 8), .int (nI no), .int (nI at_), .int (nI so), .int (nI sr), .int (nI va), .ref (z 9)])), (z 2, .inl (k.1 0, 23, .inl (ta_e t))), (z 4, .inl (k.1 0, 66, .inl (ta_e (tg_go t (tg_it t g i)))))] := hD
                have hkb := tg_kn_b (tg_it t g i)
                refine ta_iconst C 4294967295 dX8_inspected_44 (by decide) ?_
                refine ta_cne C (a := tg_kn (tg_it t g i)) (b := 4294967295) (tgt := 52) (by omega) (by omega) dX8_inspected_45 (by decide) (fun c21 => ?_) (fun c21 => ?_)
                · refine lv_lload_n hx hb dX8_inspected_52 rfl (lv_at hl 1 rfl) ?_
                  refine ta_bipush C 10 dX8_inspected_53 (by decide) ?_
                  refine lv_iload_n hx hb dX8_inspected_55 rfl (lv_at hl 4 rfl) ?_
                  refine ta_isub C (a := 10) (b := q) (by omega) dX8_inspected_56 ?_
                  refine lv_i2l (v := lN (10 - q)) hx hb dX8_inspected_57 (nI_l (by omega)) ?_
                  refine lv_lmul hx hb dX8_inspected_58 ?_
                  refine ta_lval (y := lN ((tg_odd t g q i) * (10 - q))) (lN_mul _ _) ?_
                  refine lv_ldc2 (v := 10) hx hb C.1.2.2.2.1 (C.1.2.2.2.2 _ tw_665) dX8_inspected_59 ?_
                  refine ta_lval (y := lN 10) (by decide) ?_
                  have hob := tg_odd_b t g q i
                  have hob2 : tg_odd t g q i * (10 - q) ≤ tg_odd t g q i * 10 := Nat.mul_le_mul_left _ (by omega)
                  refine lv_ldiv hx hb dX8_inspected_62 (by decide) ?_
                  refine ta_lval (y := lN (((tg_odd t g q i) * (10 - q)) / 10)) (pk_lDiv (by omega) (by omega) (by omega)) ?_
                  refine lv_lstore_n (lv' := [(3, .long (lN (((tg_odd t g q i) * (10 - q)) / 10))), (5, .int (nI i)), (0, .ref (z 0)), (1, .int (nI n)), (2, .int (nI q))]) hx hb dX8_inspected_63 rfl hl (by decide) rfl (fun ls hl => ?_)
                  refine lv_iinc (v := nI (i + 1)) (lv' := [(5, .int (nI (i + 1))), (3, .long (lN (((tg_odd t g q i) * (10 - q)) / 10))), (0, .ref (z 0)), (1, .int (nI n)), (2, .int (nI q))]) hx hb dX8_inspected_64 hl (k := 1) rfl (ta_inc1 _) (by decide) rfl (fun ls hl => ?_)
                  refine lv_goto (tgt := 34) hx hb dX8_inspected_67 (by decide) ?_
                  rw [← tg_odd_n c21] at hl
                  exact ih_34 (i + 1) (by omega) (by omega) (by omega) (by omega) _ _ _ (hP.sub [1, 2, 3, 0] rfl) (hD.sub [1, 2, 3, 0] (by decide) rfl) hS (lv_sub hl [0, 1, 2, 3, 4] rfl)
                · refine lv_lload_n hx hb dX8_inspected_48 rfl (lv_at hl 1 rfl) ?_
                  refine lv_goto (tgt := 63) hx hb dX8_inspected_49 (by decide) ?_
                  refine lv_lstore_n (lv' := [(3, .long (lN (tg_odd t g q i))), (5, .int (nI i)), (0, .ref (z 0)), (1, .int (nI n)), (2, .int (nI q))]) hx hb dX8_inspected_63 rfl hl (by decide) rfl (fun ls hl => ?_)
                  refine lv_iinc (v := nI (i + 1)) (lv' := [(5, .int (nI (i + 1))), (3, .long (lN (tg_odd t g q i))), (0, .ref (z 0)), (1, .int (nI n)), (2, .int (nI q))]) hx hb dX8_inspected_64 hl (k := 1) rfl (ta_inc1 _) (by decide) rfl (fun ls hl => ?_)
                  refine lv_goto (tgt := 34) hx hb dX8_inspected_67 (by decide) ?_
                  rw [← tg_odd_y c21] at hl
                  exact ih_34 (i + 1) (by omega) (by omega) (by omega) (by omega) _ _ _ (hP.sub [1, 2, 3, 0] rfl) (hD.sub [1, 2, 3, 0] (by decide) rfl) hS (lv_sub hl [0, 1, 2, 3, 4] rfl)
          exact loop_34 ((n - 0) + 1) 0 (by omega) (by omega) (by omega) (Nat.lt_succ_self _) _ _ _ (hP.sub [1, 0, 2, 3] rfl) (hD.sub [1, 0, 2, 3] (by decide) rfl) hS (lv_sub hl [0, 1, 2, 3, 4] rfl)
        · exact absurd c10 (by decide)
      · obtain ⟨hi22, rfl⟩ := h0
        have hP : va_P D vwCl [(z 0, .inr (8, [.ref (z 1), .int (nI ty), .ref (z 2), .ref (z 3), .ref (z 4), .ref (z 5), .int (nI kn), .ref (z 6), .ref (z 7), .ref (z 8), .int (nI no), .int (nI at_), .int (nI so), .int (nI sr), .int (nI va), .ref (z 9)])), (z 2, .inl (k.1 0, 23, .inl (ta_e t))), (z 4, .inl (k.1 0, 66, .inl (ta_e g))), (z 9, .inl (k.1 0, 66, .inl (ta_e hd)))] H := hP
        have hD : va_D A [(z 0, .inr (8, [.ref (z 1), .int (nI ty), .ref (z 2), .ref (z 3), .ref (z 4), .ref (z 5), .int (nI kn), .ref (z 6), .ref (z 7), .ref (z 8), .int (nI no), .int (nI at_), .int (nI so), .int (nI sr), .int (nI va), .ref (z 9)])), (z 2, .inl (k.1 0, 23, .inl (ta_e t))), (z 4, .inl (k.1 0, 66, .inl (ta_e g))), (z 9, .inl (k.1 0, 66, .inl (ta_e hd)))] := hD
        refine lv_if_ne (tgt := 23) hx hb dX8_inspected_17 (by decide) (fun c23 => ?_) (fun c23 => ?_)
        · exact absurd c23 (by decide)
        · refine ta_bipush C 4294967293 dX8_inspected_20 (by decide) ?_
          have e1 : sp_inspected t g n q = 4294967293 := if_neg (by omega)
          exact ret _ hd dX8_inspected_22 rfl (by rw [e1]) hP hD hS
  · obtain ⟨hi24, rfl⟩ := h0
    have hP : va_P D vwCl [(z 0, .inr (8, [.ref (z 1), .int (nI ty), .ref (z 2), .ref (z 3), .ref (z 4), .ref (z 5), .int (nI kn), .ref (z 6), .ref (z 7), .ref (z 8), .int (nI no), .int (nI at_), .int (nI so), .int (nI sr), .int (nI va), .ref (z 9)])), (z 2, .inl (k.1 0, 23, .inl (ta_e t))), (z 4, .inl (k.1 0, 66, .inl (ta_e g))), (z 9, .inl (k.1 0, 66, .inl (ta_e hd)))] H := hP
    have hD : va_D A [(z 0, .inr (8, [.ref (z 1), .int (nI ty), .ref (z 2), .ref (z 3), .ref (z 4), .ref (z 5), .int (nI kn), .ref (z 6), .ref (z 7), .ref (z 8), .int (nI no), .int (nI at_), .int (nI so), .int (nI sr), .int (nI va), .ref (z 9)])), (z 2, .inl (k.1 0, 23, .inl (ta_e t))), (z 4, .inl (k.1 0, 66, .inl (ta_e g))), (z 9, .inl (k.1 0, 66, .inl (ta_e hd)))] := hD
    refine lv_if_eq (tgt := 20) hx hb dX8_inspected_7 (by decide) (fun c25 => ?_) (fun c25 => ?_)
    · refine ta_bipush C 4294967293 dX8_inspected_20 (by decide) ?_
      have e1 : sp_inspected t g n q = 4294967293 := if_neg (by omega)
      exact ret _ hd dX8_inspected_22 rfl (by rw [e1]) hP hD hS
    · exact absurd c25 (by decide)
