/-! the start -/
def nr_F : List Cond := flatC (Jvm.Cond.and given_1 narrow_1)
abbrev nr_t (i : Nat) : Term := Term.string "TwoArmies$Reader" (ta_sidx.getD i 0)
set_option maxRecDepth 100000 in
theorem nr_ex : ∀ i, i < 10 → nr_F[([58, 68, 78, 88, 99, 112, 125, 141, 156, 173] : List Nat).getD i 0]? = some (Cond.exactly (nr_t i) "java/lang/String") := by decide +kernel
set_option maxRecDepth 100000 in
theorem nr_co : ∀ i, i < 10 → nr_F[([59, 69, 79, 89, 100, 113, 126, 142, 157, 174] : List Nat).getD i 0]? = some (Cond.eq (.field (nr_t i) "java/lang/String" "coder" "B") (.int 0)) := by decide +kernel
set_option maxRecDepth 100000 in
theorem nr_ar : ∀ i, i < 10 → nr_F[([60, 70, 80, 90, 101, 114, 127, 143, 158, 175] : List Nat).getD i 0]? = some (Cond.arrayOf (Term.field (nr_t i) "java/lang/String" "value" "[B") .byte) := by decide +kernel
set_option maxRecDepth 100000 in
theorem nr_le : ∀ i, i < 10 → nr_F[([61, 71, 81, 91, 102, 115, 128, 144, 159, 176] : List Nat).getD i 0]? = some (Cond.eq (.length (Term.field (nr_t i) "java/lang/String" "value" "[B")) (.int (Int32.ofNat (ta_len.getD i 0)))) := by decide +kernel
set_option maxRecDepth 100000 in
theorem nr_el : ∀ i, i < 10 → ∀ j, j < ta_len.getD i 0 → nr_F[(([[62, 63, 64, 65, 66, 67], [72, 73, 74, 75, 76], [82, 83, 84, 85], [92, 93, 94, 95], [103, 104, 105, 106, 107], [116, 117, 118, 119], [129, 130, 131, 132, 133, 134], [145, 146, 147, 148], [160, 161, 162, 163, 164], [177]] : List (List Nat)).getD i []).getD j 0]? = some (Cond.eq (.elem (Term.field (nr_t i) "java/lang/String" "value" "[B") (.int (Int32.ofNat j))) (.int ((ta_byt.getD i []).getD j 0))) := by decide +kernel
set_option maxRecDepth 100000 in
theorem nr_ne : ∀ i, i < 10 → ∀ j, j < 10 → i ≠ j → nr_F[(([[0, 77, 86, 96, 108, 120, 135, 149, 165, 178], [77, 0, 87, 97, 109, 121, 136, 150, 166, 179], [86, 87, 0, 98, 110, 122, 137, 151, 167, 180], [96, 97, 98, 0, 111, 123, 138, 152, 168, 181], [108, 109, 110, 111, 0, 124, 139, 153, 169, 182], [120, 121, 122, 123, 124, 0, 140, 154, 170, 183], [135, 136, 137, 138, 139, 140, 0, 155, 171, 184], [149, 150, 151, 152, 153, 154, 155, 0, 172, 185], [165, 166, 167, 168, 169, 170, 171, 172, 0, 186], [178, 179, 180, 181, 182, 183, 184, 185, 186, 0]] : List (List Nat)).getD i []).getD j 0]? = some (Cond.not (Cond.eq (nr_t i) (nr_t j))) ∨ nr_F[(([[0, 77, 86, 96, 108, 120, 135, 149, 165, 178], [77, 0, 87, 97, 109, 121, 136, 150, 166, 179], [86, 87, 0, 98, 110, 122, 137, 151, 167, 180], [96, 97, 98, 0, 111, 123, 138, 152, 168, 181], [108, 109, 110, 111, 0, 124, 139, 153, 169, 182], [120, 121, 122, 123, 124, 0, 140, 154, 170, 183], [135, 136, 137, 138, 139, 140, 0, 155, 171, 184], [149, 150, 151, 152, 153, 154, 155, 0, 172, 185], [165, 166, 167, 168, 169, 170, 171, 172, 0, 186], [178, 179, 180, 181, 182, 183, 184, 185, 186, 0]] : List (List Nat)).getD i []).getD j 0]? = some (Cond.not (Cond.eq (nr_t j) (nr_t i))) := by decide +kernel
set_option maxRecDepth 100000 in
theorem nr_a0 : nr_F[5]? = some (Cond.arrayOf (Term.static "TwoArmies" "ROWS_ON" "[I") .int) := by decide +kernel
set_option maxRecDepth 100000 in
theorem nr_l0 : nr_F[6]? = some (Cond.eq (.length (Term.static "TwoArmies" "ROWS_ON" "[I")) (.int (Int32.ofNat 4))) := by decide +kernel
set_option maxRecDepth 100000 in
theorem nr_e0 : ∀ j, j < 4 → nr_F[([7, 8, 9, 10] : List Nat).getD j 0]? = some (Cond.eq (.elem (Term.static "TwoArmies" "ROWS_ON" "[I") (.int (Int32.ofNat j))) (.int (ta_e ta_rows j))) := by decide +kernel
set_option maxRecDepth 100000 in
theorem nr_a1 : nr_F[34]? = some (Cond.arrayOf (Term.static "TwoArmies" "COLUMNS_ON" "[I") .int) := by decide +kernel
set_option maxRecDepth 100000 in
theorem nr_l1 : nr_F[35]? = some (Cond.eq (.length (Term.static "TwoArmies" "COLUMNS_ON" "[I")) (.int (Int32.ofNat 4))) := by decide +kernel
set_option maxRecDepth 100000 in
theorem nr_e1 : ∀ j, j < 4 → nr_F[([36, 37, 38, 39] : List Nat).getD j 0]? = some (Cond.eq (.elem (Term.static "TwoArmies" "COLUMNS_ON" "[I") (.int (Int32.ofNat j))) (.int (ta_e ta_cols j))) := by decide +kernel
set_option maxRecDepth 100000 in
theorem nr_a2 : nr_F[26]? = some (Cond.arrayOf (Term.static "TwoArmies" "CELLS_A_MINUTE" "[I") .int) := by decide +kernel
set_option maxRecDepth 100000 in
theorem nr_l2 : nr_F[27]? = some (Cond.eq (.length (Term.static "TwoArmies" "CELLS_A_MINUTE" "[I")) (.int (Int32.ofNat 5))) := by decide +kernel
set_option maxRecDepth 100000 in
theorem nr_e2 : ∀ j, j < 5 → nr_F[([28, 29, 30, 31, 32] : List Nat).getD j 0]? = some (Cond.eq (.elem (Term.static "TwoArmies" "CELLS_A_MINUTE" "[I") (.int (Int32.ofNat j))) (.int (ta_e ta_goes j))) := by decide +kernel
set_option maxRecDepth 100000 in
theorem nr_a3 : nr_F[17]? = some (Cond.arrayOf (Term.static "TwoArmies" "ABOVE" "[I") .int) := by decide +kernel
set_option maxRecDepth 100000 in
theorem nr_l3 : nr_F[18]? = some (Cond.eq (.length (Term.static "TwoArmies" "ABOVE" "[I")) (.int (Int32.ofNat 6))) := by decide +kernel
set_option maxRecDepth 100000 in
theorem nr_e3 : ∀ j, j < 6 → nr_F[([19, 20, 21, 22, 23, 24] : List Nat).getD j 0]? = some (Cond.eq (.elem (Term.static "TwoArmies" "ABOVE" "[I") (.int (Int32.ofNat j))) (.int (ta_e ta_over j))) := by decide +kernel
set_option maxRecDepth 100000 in
theorem nr_cs : nr_F[11]? = some (Cond.eq (.static "java/lang/String" "COMPACT_STRINGS" "Z") (.int (nI 1))) := by decide +kernel
set_option maxRecDepth 100000 in
theorem nr_sf : nr_F[12]? = some (Cond.isRef (.static "jdk/internal/util/Preconditions" "SIOOBE_FORMATTER" "Ljava/util/function/BiFunction;")) := by decide +kernel
set_option maxRecDepth 100000 in
theorem nt_ROWS_ON : lw_tbl[179]? = some (Cond.laysStatic "TwoArmies" "ROWS_ON" "[I") := by decide +kernel
set_option maxRecDepth 100000 in
theorem nt_COLUMNS_ON : lw_tbl[549]? = some (Cond.laysStatic "TwoArmies" "COLUMNS_ON" "[I") := by decide +kernel
set_option maxRecDepth 100000 in
theorem nt_CELLS_A_MINUTE : lw_tbl[505]? = some (Cond.laysStatic "TwoArmies" "CELLS_A_MINUTE" "[I") := by decide +kernel
set_option maxRecDepth 100000 in
theorem nt_ABOVE : lw_tbl[500]? = some (Cond.laysStatic "TwoArmies" "ABOVE" "[I") := by decide +kernel
set_option maxRecDepth 100000 in
theorem nt_cs : lw_tbl[368]? = some (Cond.laysStatic "java/lang/String" "COMPACT_STRINGS" "Z") := by decide +kernel
set_option maxRecDepth 100000 in
theorem nt_sf : lw_tbl[384]? = some (Cond.laysStatic "jdk/internal/util/Preconditions" "SIOOBE_FORMATTER" "Ljava/util/function/BiFunction;") := by decide +kernel
set_option maxRecDepth 100000 in
theorem nt_i7 : lw_tbl[42]? = some (Cond.initialized "TwoArmies") := by decide +kernel
set_option maxRecDepth 100000 in
theorem nt_is : lw_tbl[53]? = some (Cond.initialized "java/lang/String") := by decide +kernel
set_option maxRecDepth 100000 in
theorem nt_ip : lw_tbl[55]? = some (Cond.initialized "jdk/internal/util/Preconditions") := by decide +kernel
set_option maxRecDepth 100000 in
theorem nt_aoR : lw_tbl[88]? = some (Cond.arrayOver (.object "TwoArmies$Drill")) := by decide +kernel
set_option maxRecDepth 100000 in
theorem nt_aoD : lw_tbl[244]? = some (Cond.arrayOver (.object "TwoArmies$Day")) := by decide +kernel
set_option maxRecDepth 100000 in
theorem nt_sr : ∀ i, i < 10 → lw_tbl[([354, 424, 429, 434, 443, 444, 445, 446, 447, 465] : List Nat).getD i 0]? = some (Cond.stringRef "TwoArmies$Reader" (ta_sidx.getD i 0) (ta_stx.getD i "")) := by decide +kernel
set_option maxRecDepth 100000 in
theorem nt_nf : ∀ i, i < 40 → lw_tbl[([73, 74, 95, 96, 98, 99, 101, 102, 103, 104, 113, 114, 116, 117, 119, 120, 122, 123, 125, 126, 128, 129, 153, 158, 178, 183, 185, 187, 189, 191, 195, 197, 199, 201, 203, 205, 207, 248, 263, 548] : List Nat).getD i 0]? = (ta_nf[i]?).map (fun q => Cond.fieldLinkNest q.1 q.2.1 q.2.2.1 q.2.2.2.1 q.2.2.2.2 "TwoArmies") := by decide +kernel
set_option maxRecDepth 100000 in
theorem nt_nm : ∀ i, i < 8 → lw_tbl[([67, 83, 90, 150, 174, 181, 245, 256] : List Nat).getD i 0]? = (ta_nm[i]?).map (fun q => Cond.methodLinkNest q.1 q.2.1 q.2.2 "TwoArmies") := by decide +kernel
set_option maxHeartbeats 4000000 in
set_option maxRecDepth 100000 in
theorem ta_start {s : State} {b : Nat} (hts : ∀ w ∈ lw_tbl, w.before #[Value.ref b] s = true) (hgv : (Jvm.Cond.and given_1 narrow_1).before #[Value.ref b] s = true) : ∃ (D : va_G) (k : ta_C), ta_E D k (fun q => s.heap.size ≤ q) s s.heap ∧ va_AO "TwoArmies$Drill" s ∧ va_AO "TwoArmies$Day" s := by
  have hf := flat_of_before _ hgv
  have hn : ∀ {i : Nat} {w : Cond}, nr_F[i]? = some w → w.before #[Value.ref b] s = true := fun h => hf _ (List.mem_of_getElem? h)
  have ht : ∀ {i : Nat} {w : Cond}, lw_tbl[i]? = some w → w.before #[Value.ref b] s = true := fun h => hts _ (List.mem_of_getElem? h)
  have hl : ∀ w ∈ wsL_law, w.before #[Value.ref b] s = true := fun w h => hts w (wsL_law_in w h)
  have hA : ∀ a : Nat, a < s.heap.size → ¬ (fun q : Nat => s.heap.size ≤ q) a := fun a h => Nat.not_le.mpr h
  obtain ⟨c0, d0, K0⟩ := u_known (C := RX0) (T := TX0) (N := 14) (n := 14) hl inlX0 (hl _ tw_25)
  obtain ⟨c1, d1, K1⟩ := u_known (C := RX1) (T := TX1) (N := 3) (n := 3) hl inlX1 (hl _ tw_55)
  obtain ⟨c2, d2, K2⟩ := u_known (C := RX2) (T := TX2) (N := 2) (n := 2) hl inlX2 (hl _ tw_30)
  obtain ⟨c3, d3, K3⟩ := u_known (C := RX3) (T := TX3) (N := 6) (n := 6) hl inlX3 (hl _ tw_17)
  obtain ⟨c4, d4, K4⟩ := u_known (C := RX4) (T := TX4) (N := 6) (n := 6) hl inlX4 (hl _ tw_21)
  obtain ⟨c5, d5, K5⟩ := u_known (C := RX5) (T := TX5) (N := 3) (n := 3) hl inlX5 (hl _ tw_37)
  obtain ⟨c6, d6, K6⟩ := u_known (C := RX6) (T := TX6) (N := 2) (n := 2) hl inlX6 (hl _ tw_13)
  obtain ⟨c7, d7, K7⟩ := u_known (C := RX7) (T := TX7) (N := 9) (n := 9) hl inlX7 (hl _ tw_1)
  obtain ⟨c8, d8, K8⟩ := u_known (C := RX8) (T := TX8) (N := 16) (n := 16) hl inlX8 (hl _ tw_4)
  obtain ⟨dC, dI, hKc⟩ : ∃ (dC : Nat → ClassId) (dI : Nat → Nat → Nat), ∀ (j : Nat) (q : vw_C), vwCl[j]? = some q → u_Kn s q.1 q.2.1 q.2.2 (dC j) (dI j) := by
    refine ⟨fun j => if j = 0 then c0 else if j = 1 then c1 else if j = 2 then c2 else if j = 3 then c3 else if j = 4 then c4 else if j = 5 then c5 else if j = 6 then c6 else if j = 7 then c7 else c8, fun j => if j = 0 then d0 else if j = 1 then d1 else if j = 2 then d2 else if j = 3 then d3 else if j = 4 then d4 else if j = 5 then d5 else if j = 6 then d6 else if j = 7 then d7 else d8, ?_⟩
    intro j q hq
    match j, hq with
    | 0, hq => cases hq; exact K0
    | 1, hq => cases hq; exact K1
    | 2, hq => cases hq; exact K2
    | 3, hq => cases hq; exact K3
    | 4, hq => cases hq; exact K4
    | 5, hq => cases hq; exact K5
    | 6, hq => cases hq; exact K6
    | 7, hq => cases hq; exact K7
    | 8, hq => cases hq; exact K8
    | j + 9, hq => simp [vwCl] at hq
  obtain ⟨cA0, kA0, cm0, e10, e20, e30⟩ := Cond.arrayClass_spec (hl _ tw_43)
  obtain ⟨cA1, kA1, cm1, e11, e21, e31⟩ := Cond.arrayClass_spec (hl _ tw_34)
  obtain ⟨cm2, cA2, kA2, e12, -, e22, e32, e42⟩ := Cond.arrayOver_spec (ht nt_aoR)
  obtain ⟨cm3, cA3, kA3, e13, -, e23, e33, e43⟩ := Cond.arrayOver_spec (ht nt_aoD)
  obtain ⟨t0, ev0, hT0⟩ := va_Tof (tm := .static "TwoArmies" "ROWS_ON" "[I") (ty := .int) (N := 4) (f := fun j => .int (ta_e ta_rows j)) (by decide) (hn nr_a0) (va_eqt (hn nr_l0)) (fun j hj => va_eqt (hn (nr_e0 j hj))) hA
  have hZ0 := va_Zof (ht nt_ROWS_ON) (ht nt_i7) ev0 hA
  obtain ⟨t1, ev1, hT1⟩ := va_Tof (tm := .static "TwoArmies" "COLUMNS_ON" "[I") (ty := .int) (N := 4) (f := fun j => .int (ta_e ta_cols j)) (by decide) (hn nr_a1) (va_eqt (hn nr_l1)) (fun j hj => va_eqt (hn (nr_e1 j hj))) hA
  have hZ1 := va_Zof (ht nt_COLUMNS_ON) (ht nt_i7) ev1 hA
  obtain ⟨t2, ev2, hT2⟩ := va_Tof (tm := .static "TwoArmies" "CELLS_A_MINUTE" "[I") (ty := .int) (N := 5) (f := fun j => .int (ta_e ta_goes j)) (by decide) (hn nr_a2) (va_eqt (hn nr_l2)) (fun j hj => va_eqt (hn (nr_e2 j hj))) hA
  have hZ2 := va_Zof (ht nt_CELLS_A_MINUTE) (ht nt_i7) ev2 hA
  obtain ⟨t3, ev3, hT3⟩ := va_Tof (tm := .static "TwoArmies" "ABOVE" "[I") (ty := .int) (N := 6) (f := fun j => .int (ta_e ta_over j)) (by decide) (hn nr_a3) (va_eqt (hn nr_l3)) (fun j hj => va_eqt (hn (nr_e3 j hj))) hA
  have hZ3 := va_Zof (ht nt_ABOVE) (ht nt_i7) ev3 hA
  obtain ⟨adK, adV, hSt, hev⟩ := vk_Sof (N := 10) (tm := nr_t) (len := ta_len) (byt := ta_byt) (A := fun q : Nat => s.heap.size ≤ q) (by decide) (fun i hi => hn (nr_ex i hi)) (fun i hi => hn (nr_co i hi)) (fun i hi => hn (nr_ar i hi)) (fun i hi => hn (nr_le i hi)) (fun i hi j hj => hn (nr_el i hi j hj)) (fun i j hi hj hij => (nr_ne i hi j hj hij).elim (fun h => Or.inl (hn h)) (fun h => Or.inr (hn h))) hA
  have hZc := va_Zof (ht nt_cs) (ht nt_is) (va_eqi (hn nr_cs)) hA
  have hZs := va_Zqof (ht nt_sf) (ht nt_ip) (hn nr_sf) hA
  obtain ⟨k1, k10, k11, k12, k13⟩ : ∃ k1 : Nat → ClassId, k1 0 = cA0 ∧ k1 1 = cA1 ∧ k1 2 = cA2 ∧ k1 3 = cA3 := ⟨fun j => if j = 0 then cA0 else if j = 1 then cA1 else if j = 2 then cA2 else cA3, rfl, rfl, rfl, rfl⟩
  obtain ⟨k2, k20, k21, k22, k23, k2K, k2V⟩ : ∃ k2 : Nat → Nat, k2 0 = t0 ∧ k2 1 = t1 ∧ k2 2 = t2 ∧ k2 3 = t3 ∧ (∀ i, i < 10 → k2 (10 + i) = adK i) ∧ ∀ i, i < 10 → k2 (20 + i) = adV i := by
    refine ⟨fun j => if j = 0 then t0 else if j = 1 then t1 else if j = 2 then t2 else if j = 3 then t3 else if j < 20 then adK (j - 10) else adV (j - 20), rfl, rfl, rfl, rfl, fun i hi => ?_, fun i hi => ?_⟩
    · show (if 10 + i = 0 then t0 else if 10 + i = 1 then t1 else if 10 + i = 2 then t2 else if 10 + i = 3 then t3 else if 10 + i < 20 then adK (10 + i - 10) else adV (10 + i - 20)) = adK i
      rw [if_neg (by omega), if_neg (by omega), if_neg (by omega), if_neg (by omega), if_pos (by omega), show 10 + i - 10 = i by omega]
    · show (if 20 + i = 0 then t0 else if 20 + i = 1 then t1 else if 20 + i = 2 then t2 else if 20 + i = 3 then t3 else if 20 + i < 20 then adK (20 + i - 10) else adV (20 + i - 20)) = adV i
      rw [if_neg (by omega), if_neg (by omega), if_neg (by omega), if_neg (by omega), if_neg (by omega), show 20 + i - 20 = i by omega]
  refine ⟨(dC, dI), (k1, k2), ⟨⟨hKc, fun j q hq => ?_⟩, ⟨fun q hq => ?_, fun q hq => ?_⟩, fun i hi => ?_, ?_⟩, va_AO.of (ht nt_aoR), va_AO.of (ht nt_aoD)⟩
  · match j, hq with
    | 0, hq => cases hq; rw [show ((k1, k2) : ta_C).1 0 = cA0 from k10]; exact ⟨fun n z => ⟨fun k h => (by cases h), kA0, e20, cm0, e30⟩, e10⟩
    | 1, hq => cases hq; rw [show ((k1, k2) : ta_C).1 1 = cA1 from k11]; exact ⟨fun n z => ⟨fun k h => (by cases h), kA1, e21, cm1, e31⟩, e11⟩
    | 2, hq => cases hq; rw [show ((k1, k2) : ta_C).1 2 = cA2 from k12]; exact ⟨fun n z => ⟨fun k h => (by cases h), kA2, e22, cm2, e32⟩, kA2, cm2, e22, e32, e12, e42⟩
    | 3, hq => cases hq; rw [show ((k1, k2) : ta_C).1 3 = cA3 from k13]; exact ⟨fun n z => ⟨fun k h => (by cases h), kA3, e23, cm3, e33⟩, kA3, cm3, e23, e33, e13, e43⟩
    | j + 4, hq => simp [ta_tys] at hq
  · obtain ⟨i, hi⟩ := List.mem_iff_getElem?.mp hq
    have h1 := nt_nf i (List.getElem?_eq_some_iff.mp hi).1
    rw [hi] at h1
    exact va_tabs rfl rfl (ht h1)
  · obtain ⟨i, hi⟩ := List.mem_iff_getElem?.mp hq
    have h1 := nt_nm i (List.getElem?_eq_some_iff.mp hi).1
    rw [hi] at h1
    exact va_tabs rfl rfl (ht h1)
  · rw [show ((k1, k2) : ta_C).2 (10 + i) = adK i from k2K i hi]
    exact vk_R.of (ht (nt_sr i hi)) (hev i hi)
  · refine ⟨⟨?_, ?_⟩, ⟨?_, ?_⟩, ⟨?_, ?_⟩, ⟨?_, ?_⟩, hZc, ⟨fun i hi => ?_, fun i j hi hj e => ?_⟩, hZs⟩
    · rw [show ((k1, k2) : ta_C).2 0 = t0 from k20]; exact hZ0
    · rw [show ((k1, k2) : ta_C).2 0 = t0 from k20]; exact hT0
    · rw [show ((k1, k2) : ta_C).2 1 = t1 from k21]; exact hZ1
    · rw [show ((k1, k2) : ta_C).2 1 = t1 from k21]; exact hT1
    · rw [show ((k1, k2) : ta_C).2 2 = t2 from k22]; exact hZ2
    · rw [show ((k1, k2) : ta_C).2 2 = t2 from k22]; exact hT2
    · rw [show ((k1, k2) : ta_C).2 3 = t3 from k23]; exact hZ3
    · rw [show ((k1, k2) : ta_C).2 3 = t3 from k23]; exact hT3
    · show va_O "java/lang/String" (k2 (10 + i)) _ s s.heap ∧ va_OF "java/lang/String" "coder" "B" (.int 0) (k2 (10 + i)) _ s s.heap ∧ va_OF "java/lang/String" "value" "[B" (.ref (k2 (20 + i))) (k2 (10 + i)) _ s s.heap ∧ va_T .byte (k2 (20 + i)) (ta_len.getD i 0) (fun j => .int ((ta_byt.getD i []).getD j 0)) _ s s.heap
      rw [k2K i hi, k2V i hi]
      exact hSt.1 i hi
    · have e : k2 (10 + i) = k2 (10 + j) := e
      rw [k2K i hi, k2K j hj] at e
      exact hSt.2 i j hi hj e
