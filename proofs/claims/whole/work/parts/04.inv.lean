/-! what a minute keeps -/
theorem tg_wall_k {g : Nat → Nat} {w j : Nat} (h : j ≠ 26 + w) : tg_wall g w j = g j := ta_un h
theorem tg_mv_2 (t g : Nat → Nat) (y x : Nat) : tg_mv t g y x 2 = t 0 * y + x := by
  unfold tg_mv
  rw [ta_un (by omega), ta_us]
theorem tg_mv_k {t g : Nat → Nat} {y x j : Nat} (h : j < 30) (h2 : j ≠ 2) : tg_mv t g y x j = g j := by
  unfold tg_mv
  rw [ta_un (by omega), ta_un h2]
theorem tg_mv_m {t g : Nat → Nat} {y x j : Nat} : tg_mv t g y x (30 + j) = ta_u (tg_mud g) (t 0 * y + x) (tg_mud g (t 0 * y + x) + 1) j := by
  unfold tg_mv
  by_cases h : j = t 0 * y + x
  · rw [h, ta_us, ta_us]; rfl
  · rw [ta_un (by omega), ta_un (by omega), ta_un h]; rfl
/-- a step: it is against a wall, or goes to a cell of the ground -/
theorem tg_step_is {t g : Nat → Nat} (w : Nat) (hw : 0 < t 0) (hc : g 2 < t 0 * t 1) : (∃ v, v < 4 ∧ tg_step t g w = tg_wall g v) ∨ ∃ y x, y < t 1 ∧ x < t 0 ∧ tg_step t g w = tg_mv t g y x := by
  obtain ⟨h1, h2, -⟩ := tg_div hw hc
  unfold tg_step
  generalize g 2 / t 0 = y0 at h1 ⊢
  generalize g 2 % t 0 = x0 at h2 ⊢
  split
  · split
    · exact Or.inl ⟨0, by omega, rfl⟩
    · exact Or.inr ⟨_, _, by omega, h2, rfl⟩
  · split
    · split
      · exact Or.inr ⟨_, _, h1, by omega, rfl⟩
      · exact Or.inl ⟨1, by omega, rfl⟩
    · split
      · split
        · exact Or.inr ⟨_, _, by omega, h2, rfl⟩
        · exact Or.inl ⟨2, by omega, rfl⟩
      · split
        · exact Or.inl ⟨3, by omega, rfl⟩
        · exact Or.inr ⟨_, _, h1, by omega, rfl⟩
theorem tg_step_k {t g : Nat → Nat} {w j : Nat} (hw : 0 < t 0) (hc : g 2 < t 0 * t 1) (h : j < 26) (h2 : j ≠ 2) : tg_step t g w j = g j := by
  rcases tg_step_is w hw hc with ⟨v, _, e⟩ | ⟨y, x, _, _, e⟩
  · rw [e]; exact tg_wall_k (by omega)
  · rw [e]; exact tg_mv_k (by omega) h2
theorem tg_step_2 {t g : Nat → Nat} {w : Nat} (hw : 0 < t 0) (hc : g 2 < t 0 * t 1) : tg_step t g w 2 < t 0 * t 1 := by
  rcases tg_step_is w hw hc with ⟨v, _, e⟩ | ⟨y, x, hy, hx, e⟩
  · rw [e, tg_wall_k (by omega)]; exact hc
  · rw [e, tg_mv_2]; exact tg_lt hx hy
/-- a day with the same numbers ahead of the counts is as good -/
theorem tg_ok_of {t g h : Nat → Nat} (ho : tg_ok t g) (h1 : h 1 < t 2) (h2 : h 2 < t 0 * t 1) (h3 : h 3 < 4) (h4 : (h 4 = 4294967295 ∧ h 5 = 0) ∨ (h 4 < 5 ∧ 1 ≤ h 5 ∧ h 5 ≤ 9)) (h6 : ∀ j, 6 ≤ j → j < 24 → h j = g j) : tg_ok t h := by
  obtain ⟨a, -, -, -, -, b6, b7, b8, b9⟩ := ho
  refine ⟨a, h1, h2, h3, h4, by rw [h6 6 (by omega) (by omega)]; exact b6, by rw [h6 7 (by omega) (by omega)]; exact b7, fun j hj => ?_, fun j hj => ?_⟩
  · rw [h6 6 (by omega) (by omega)] at hj
    rw [h6 (8 + j) (by omega) (by omega)]
    exact b8 j hj
  · rw [h6 7 (by omega) (by omega)] at hj
    rw [h6 (16 + j) (by omega) (by omega)]
    exact b9 j hj
theorem tg_act_k {t g : Nat → Nat} {a j : Nat} (hw : 0 < t 0) (hc : g 2 < t 0 * t 1) (h : j < 24) (h2 : j ≠ 2) (h3 : j ≠ 3) : tg_act t g a j = g j := by
  unfold tg_act
  split
  · exact tg_step_k hw hc (by omega) h2
  split
  · exact tg_step_k hw hc (by omega) h2
  split
  · rw [tg_step_k hw (tg_step_2 hw hc) (by omega) h2, tg_step_k hw hc (by omega) h2]
  split
  · exact ta_un h3
  · exact ta_un (by omega)
theorem tg_act_2 {t g : Nat → Nat} {a : Nat} (hw : 0 < t 0) (hc : g 2 < t 0 * t 1) : tg_act t g a 2 < t 0 * t 1 := by
  unfold tg_act
  split
  · exact tg_step_2 hw hc
  split
  · exact tg_step_2 hw hc
  split
  · exact tg_step_2 hw (tg_step_2 hw hc)
  split
  · rw [ta_un (by omega)]; exact hc
  · rw [ta_un (by omega)]; exact hc
theorem tg_act_3 {t g : Nat → Nat} {a : Nat} (hw : 0 < t 0) (hc : g 2 < t 0 * t 1) (h3 : g 3 < 4) : tg_act t g a 3 < 4 := by
  unfold tg_act
  split
  · rw [tg_step_k hw hc (by omega) (by omega)]; exact h3
  split
  · rw [tg_step_k hw hc (by omega) (by omega)]; exact h3
  split
  · rw [tg_step_k hw (tg_step_2 hw hc) (by omega) (by omega), tg_step_k hw hc (by omega) (by omega)]; exact h3
  split
  · rw [ta_us]; omega
  · rw [ta_un (by omega)]; exact h3
theorem tg_do_k {t g : Nat → Nat} {a j : Nat} (hw : 0 < t 0) (hc : g 2 < t 0 * t 1) (h : j < 24) (h2 : j ≠ 2) (h3 : j ≠ 3) (h4 : j ≠ 4) (h5 : j ≠ 5) : tg_do t g a j = g j := by
  unfold tg_do
  rw [ta_un h4, ta_un h5, tg_act_k hw hc h h2 h3]
theorem tg_ok_do {t g : Nat → Nat} {a : Nat} (ho : tg_ok t g) (h : g 4 < 5) : tg_ok t (tg_do t g a) := by
  obtain ⟨⟨a1, a2, a3, a4, a5, a6⟩, b1, b2, b3, b4, b6, b7, b8, b9⟩ := id ho
  have hw : 0 < t 0 := by omega
  have h5 : tg_do t g a 5 = g 5 - 1 := by unfold tg_do; rw [ta_un (by omega), ta_us]
  have h4 : tg_do t g a 4 = if g 5 - 1 = 0 then 4294967295 else g 4 := by unfold tg_do; rw [ta_us]
  refine tg_ok_of ho ?_ ?_ ?_ ?_ ?_
  · rw [tg_do_k hw b2 (by omega) (by omega) (by omega) (by omega) (by omega)]; exact b1
  · unfold tg_do; rw [ta_un (by omega), ta_un (by omega)]; exact tg_act_2 hw b2
  · unfold tg_do; rw [ta_un (by omega), ta_un (by omega)]; exact tg_act_3 hw b2 b3
  · rw [h4, h5]; split <;> omega
  · intro j h1 h2; exact tg_do_k hw b2 h2 (by omega) (by omega) (by omega) (by omega)
theorem tg_wind_k {t g : Nat → Nat} {n j : Nat} (h0 : j ≠ 0) (h1 : j ≠ 1) : tg_wind t g n j = g j := by
  unfold tg_wind
  split
  · rw [ta_un h0, ta_un h1]
  · rw [ta_un h1]
theorem tg_wind_1 {t g : Nat → Nat} {n : Nat} (h : 0 < t 2) : tg_wind t g n 1 < t 2 := by
  unfold tg_wind
  split
  · rw [ta_un (by omega), ta_us]; exact h
  · rw [ta_us]; omega
theorem tg_wind_0 {t g : Nat → Nat} {n : Nat} : g 0 ≤ tg_wind t g n 0 ∧ tg_wind t g n 0 ≤ g 0 + 1 := by
  unfold tg_wind
  split
  · rw [ta_us]; omega
  · rw [ta_un (by omega)]; omega
theorem tg_ok_wind {t g : Nat → Nat} (n : Nat) (ho : tg_ok t g) : tg_ok t (tg_wind t g n) := by
  obtain ⟨⟨a1, a2, a3, a4, a5, a6⟩, b1, b2, b3, b4, b6, b7, b8, b9⟩ := id ho
  refine tg_ok_of ho (tg_wind_1 (by omega)) ?_ ?_ ?_ ?_
  · rw [tg_wind_k (by omega) (by omega)]; exact b2
  · rw [tg_wind_k (by omega) (by omega)]; exact b3
  · rw [tg_wind_k (by omega) (by omega), tg_wind_k (by omega) (by omega)]; exact b4
  · intro j h1 h2; exact tg_wind_k (by omega) (by omega)
/-- the figures behind a beginning -/
theorem tg_begin_4 (g : Nat → Nat) (a : Nat) : tg_begin g a 4 = g (8 + 8 * a) / 10 := by unfold tg_begin; rw [ta_un (by omega), ta_us]
theorem tg_begin_5 (g : Nat → Nat) (a : Nat) : tg_begin g a 5 = g (8 + 8 * a) % 10 := by unfold tg_begin; rw [ta_us]
theorem tg_begin_n {g : Nat → Nat} {a : Nat} (ha : a < 2) : tg_begin g a (6 + a) = g (6 + a) - 1 := by
  unfold tg_begin
  rw [ta_un (by omega), ta_un (by omega), pk_cpy_out (by omega), ta_us]
theorem tg_begin_m {g : Nat → Nat} {a j : Nat} (ha : a < 2) (hj : j < g (6 + a) - 1) : tg_begin g a (8 + 8 * a + j) = g (8 + 8 * a + (j + 1)) := by
  unfold tg_begin
  rw [ta_un (by omega), ta_un (by omega), pk_cpy_in (by omega) (by omega), ta_un (by omega)]
  congr 1
  omega
theorem tg_begin_k {g : Nat → Nat} {a j : Nat} (h4 : j ≠ 4) (h5 : j ≠ 5) (h6 : j ≠ 6 + a) (h : j < 8 + 8 * a ∨ 8 + 8 * a + (g (6 + a) - 1) ≤ j) : tg_begin g a j = g j := by
  unfold tg_begin
  rw [ta_un h5, ta_un h4, pk_cpy_out (by omega), ta_un h6]
theorem tg_ok_begin {t g : Nat → Nat} {a : Nat} (ho : tg_ok t g) (ha : a < 2) (hn : 0 < g (6 + a)) : tg_ok t (tg_begin g a) := by
  obtain ⟨a0, b1, b2, b3, b4, b6, b7, b8, b9⟩ := id ho
  rcases (show a = 0 ∨ a = 1 by omega) with rfl | rfl
  · have hn : 0 < g 6 := hn
    have e6 : tg_begin g 0 6 = g 6 - 1 := tg_begin_n (a := 0) (by omega)
    have hf := b8 0 hn
    have hf : g 8 < 50 ∧ 1 ≤ g 8 % 10 := hf
    have e4 : tg_begin g 0 4 = g 8 / 10 := tg_begin_4 g 0
    have e5 : tg_begin g 0 5 = g 8 % 10 := tg_begin_5 g 0
    have kk : ∀ j, j ≠ 4 → j ≠ 5 → j ≠ 6 → (j < 8 ∨ 8 + (g 6 - 1) ≤ j) → tg_begin g 0 j = g j := fun j h4 h5 h6 h => tg_begin_k (a := 0) h4 h5 h6 h
    refine ⟨a0, by rw [kk 1 (by omega) (by omega) (by omega) (by omega)]; exact b1, by rw [kk 2 (by omega) (by omega) (by omega) (by omega)]; exact b2, by rw [kk 3 (by omega) (by omega) (by omega) (by omega)]; exact b3, Or.inr ⟨by rw [e4]; omega, by rw [e5]; omega, by rw [e5]; omega⟩, by rw [e6]; omega, by rw [kk 7 (by omega) (by omega) (by omega) (by omega)]; exact b7, fun j hj => ?_, fun j hj => ?_⟩
    · rw [e6] at hj
      have e : tg_begin g 0 (8 + j) = g (8 + (j + 1)) := tg_begin_m (a := 0) (by omega) hj
      rw [e]
      exact b8 (j + 1) (by omega)
    · rw [kk 7 (by omega) (by omega) (by omega) (by omega)] at hj
      rw [kk (16 + j) (by omega) (by omega) (by omega) (by omega)]
      exact b9 j hj
  · have hn : 0 < g 7 := hn
    have e7 : tg_begin g 1 7 = g 7 - 1 := tg_begin_n (a := 1) (by omega)
    have hf := b9 0 hn
    have hf : g 16 < 50 ∧ 1 ≤ g 16 % 10 := hf
    have e4 : tg_begin g 1 4 = g 16 / 10 := tg_begin_4 g 1
    have e5 : tg_begin g 1 5 = g 16 % 10 := tg_begin_5 g 1
    have kk : ∀ j, j ≠ 4 → j ≠ 5 → j ≠ 7 → (j < 16 ∨ 16 + (g 7 - 1) ≤ j) → tg_begin g 1 j = g j := fun j h4 h5 h6 h => tg_begin_k (a := 1) h4 h5 h6 h
    refine ⟨a0, by rw [kk 1 (by omega) (by omega) (by omega) (by omega)]; exact b1, by rw [kk 2 (by omega) (by omega) (by omega) (by omega)]; exact b2, by rw [kk 3 (by omega) (by omega) (by omega) (by omega)]; exact b3, Or.inr ⟨by rw [e4]; omega, by rw [e5]; omega, by rw [e5]; omega⟩, by rw [kk 6 (by omega) (by omega) (by omega) (by omega)]; exact b6, by rw [e7]; omega, fun j hj => ?_, fun j hj => ?_⟩
    · rw [kk 6 (by omega) (by omega) (by omega) (by omega)] at hj
      rw [kk (8 + j) (by omega) (by omega) (by omega) (by omega)]
      exact b8 j hj
    · rw [e7] at hj
      have e : tg_begin g 1 (16 + j) = g (16 + (j + 1)) := tg_begin_m (a := 1) (by omega) hj
      rw [e]
      exact b9 (j + 1) (by omega)
theorem tg_ok_pre {t g : Nat → Nat} (ho : tg_ok t g) : tg_ok t (tg_pre g) := by
  unfold tg_pre
  split
  · exact tg_ok_begin ho (by omega) (by omega)
  · exact ho
theorem tg_pre_0 (g : Nat → Nat) : tg_pre g 0 = g 0 := by
  unfold tg_pre
  split
  · exact tg_begin_k (by omega) (by omega) (by omega) (by omega)
  · rfl
theorem tg_ok_go {t g : Nat → Nat} (ho : tg_ok t g) : tg_ok t (tg_go t g) := by
  unfold tg_go
  refine tg_ok_wind 1 ?_
  have h1 := tg_ok_pre ho
  split
  · exact h1
  · exact tg_ok_do h1 (by obtain ⟨-, -, -, -, b4, -⟩ := h1; omega)
theorem tg_go_0 {t g : Nat → Nat} (ho : tg_ok t g) : g 0 ≤ tg_go t g 0 ∧ tg_go t g 0 ≤ g 0 + 1 := by
  unfold tg_go
  have h1 := tg_ok_pre ho
  have h0 := tg_pre_0 g
  split
  · have := @tg_wind_0 t (tg_pre g) 1; omega
  · obtain ⟨⟨a1, -⟩, -, b2, -⟩ := h1
    have := @tg_wind_0 t (tg_do t (tg_pre g) (g 0 % 2)) 1
    have e : tg_do t (tg_pre g) (g 0 % 2) 0 = tg_pre g 0 := tg_do_k (by omega) b2 (by omega) (by omega) (by omega) (by omega) (by omega)
    omega
theorem tg_step0 (t g : Nat → Nat) : tg_step t g 0 = if g 2 / t 0 = 0 then tg_wall g 0 else tg_mv t g (g 2 / t 0 - 1) (g 2 % t 0) := rfl
theorem tg_step1 (t g : Nat → Nat) : tg_step t g 1 = if g 2 % t 0 + 1 < t 0 then tg_mv t g (g 2 / t 0) (g 2 % t 0 + 1) else tg_wall g 1 := rfl
theorem tg_step2 (t g : Nat → Nat) : tg_step t g 2 = if g 2 / t 0 + 1 < t 1 then tg_mv t g (g 2 / t 0 + 1) (g 2 % t 0) else tg_wall g 2 := rfl
theorem tg_step3 (t g : Nat → Nat) : tg_step t g 3 = if g 2 % t 0 = 0 then tg_wall g 3 else tg_mv t g (g 2 / t 0) (g 2 % t 0 - 1) := rfl
