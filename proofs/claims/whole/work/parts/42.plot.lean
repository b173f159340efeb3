/-! how much armies kneel, and twos of figures -/
def tg_kc (t g : Nat → Nat) (a : Nat) : Nat → Nat
  | 0 => 0
  | n + 1 => tg_kc t g a n + if tg_kn (tg_it t g n) = a then 1 else 0
theorem tg_kc_s (t g : Nat → Nat) (a n : Nat) : tg_kc t g a (n + 1) = tg_kc t g a n + if tg_kn (tg_it t g n) = a then 1 else 0 := rfl
theorem tg_kc_b (t g : Nat → Nat) (a : Nat) : ∀ n, tg_kc t g a n ≤ n
  | 0 => Nat.le_refl _
  | n + 1 => by
    have h := tg_kc_b t g a n
    rw [tg_kc_s]
    split <;> omega
theorem tg_pre_h {t g : Nat → Nat} {j : Nat} (ho : tg_ok t g) (h : 24 ≤ j) : tg_pre g j = g j := by
  unfold tg_pre
  split
  · have h8 := (tg_ok_a (a := g 0 % 2) ho (by omega)).1
    exact tg_begin_k (by omega) (by omega) (by omega) (by omega)
  · rfl
theorem tg_act_h {t g : Nat → Nat} {a b : Nat} (hw : 0 < t 0) (hc : g 2 < t 0 * t 1) (hb : b < 2) (h4 : g 4 < 5) : tg_act t g a (24 + b) = g (24 + b) + if g 4 = 4 ∧ a = b then 1 else 0 := by
  unfold tg_act
  split
  · rw [if_neg (by omega)]; exact tg_step_k hw hc (by omega) (by omega)
  split
  · rw [if_neg (by omega)]; exact tg_step_k hw hc (by omega) (by omega)
  split
  · rw [if_neg (by omega), tg_step_k hw (tg_step_2 hw hc) (by omega) (by omega), tg_step_k hw hc (by omega) (by omega)]; rfl
  split
  · rw [if_neg (by omega), ta_un (by omega)]; rfl
  · by_cases e : a = b
    · rw [if_pos ⟨by omega, e⟩, e, ta_us]
    · rw [if_neg (fun h => e h.2), ta_un (by omega)]; rfl
theorem tg_go_kn {t g : Nat → Nat} {b : Nat} (ho : tg_ok t g) (hb : b < 2) : tg_go t g (24 + b) = g (24 + b) + if tg_kn g = b then 1 else 0 := by
  have h1 := tg_ok_pre ho
  have hp : tg_pre g (24 + b) = g (24 + b) := tg_pre_h ho (by omega)
  obtain ⟨⟨a1, -⟩, -, b2, -, b4, -⟩ := id h1
  unfold tg_go tg_kn
  rw [tg_wind_k (by omega) (by omega)]
  by_cases e : tg_pre g 4 = 4294967295
  · rw [if_pos e, hp]
    rw [if_neg (show ¬ tg_pre g 4 = 4 by omega)]
    rw [if_neg (by omega)]
    rfl
  · rw [if_neg e]
    unfold tg_do
    rw [ta_un (by omega), ta_un (by omega), tg_act_h (by omega) b2 hb (by omega), hp]
    by_cases q : tg_pre g 4 = 4
    · rw [if_pos q]
      by_cases q2 : g 0 % 2 = b
      · rw [if_pos ⟨q, q2⟩, if_pos q2]
      · rw [if_neg (fun h => q2 h.2), if_neg q2]
    · rw [if_neg q, if_neg (fun h => q h.1), if_neg (by omega)]
theorem tg_it_kn {t g : Nat → Nat} {b : Nat} (ho : tg_ok t g) (hb : b < 2) : ∀ n, tg_it t g n (24 + b) = g (24 + b) + tg_kc t g b n
  | 0 => rfl
  | n + 1 => by
    show tg_go t (tg_it t g n) (24 + b) = _
    rw [tg_go_kn (tg_ok_it ho n) hb, tg_it_kn ho hb n, tg_kc_s]
    omega
theorem tg_ok_ord {t g : Nat → Nat} {a c : Nat} (ho : tg_ok t g) (ha : a < 2) (hn : g (6 + a) < 8) (hc : tg_fig c) : tg_ok t (tg_ord g a c) := by
  obtain ⟨a0, b1, b2, b3, b4, b6, b7, b8, b9⟩ := ho
  rcases (show a = 0 ∨ a = 1 by omega) with rfl | rfl
  · have hn : g 6 < 8 := hn
    have e : tg_ord g 0 c = ta_u (ta_u g (8 + g 6) c) 6 (g 6 + 1) := by unfold tg_ord; rfl
    rw [e]
    refine ⟨a0, by rw [ta_un (by omega), ta_un (by omega)]; exact b1, by rw [ta_un (by omega), ta_un (by omega)]; exact b2, by rw [ta_un (by omega), ta_un (by omega)]; exact b3, by rw [ta_un (by omega), ta_un (by omega), ta_un (by omega), ta_un (by omega)]; exact b4, by rw [ta_us]; omega, by rw [ta_un (by omega), ta_un (by omega)]; exact b7, fun j hj => ?_, fun j hj => ?_⟩
    · rw [ta_us] at hj
      rw [ta_un (by omega)]
      by_cases q : j = g 6
      · rw [q, ta_us]; exact hc
      · rw [ta_un (by omega)]; exact b8 j (by omega)
    · rw [ta_un (by omega), ta_un (by omega)] at hj
      rw [ta_un (by omega), ta_un (by omega)]; exact b9 j hj
  · have hn : g 7 < 8 := hn
    have e : tg_ord g 1 c = ta_u (ta_u g (16 + g 7) c) 7 (g 7 + 1) := by unfold tg_ord; rfl
    rw [e]
    refine ⟨a0, by rw [ta_un (by omega), ta_un (by omega)]; exact b1, by rw [ta_un (by omega), ta_un (by omega)]; exact b2, by rw [ta_un (by omega), ta_un (by omega)]; exact b3, by rw [ta_un (by omega), ta_un (by omega), ta_un (by omega), ta_un (by omega)]; exact b4, by rw [ta_un (by omega), ta_un (by omega)]; exact b6, by rw [ta_us]; omega, fun j hj => ?_, fun j hj => ?_⟩
    · rw [ta_un (by omega), ta_un (by omega)] at hj
      rw [ta_un (by omega), ta_un (by omega)]; exact b8 j hj
    · rw [ta_us] at hj
      rw [ta_un (by omega)]
      by_cases q : j = g 7
      · rw [q, ta_us]; exact hc
      · rw [ta_un (by omega)]; exact b9 j (by omega)
/-- two days that go alike, so long as army a does not kneel -/
def tg_R (a : Nat) (g h : Nat → Nat) : Prop := g 0 = h 0 ∧ g 1 = h 1 ∧ g 5 = h 5 ∧ (g 4 = 4 ↔ h 4 = 4) ∧ (g 4 = 4294967295 ↔ h 4 = 4294967295) ∧ ∀ x, x < 2 → g (6 + x) = h (6 + x) ∧ ∀ j, j < g (6 + x) → g (8 + 8 * x + j) % 10 = h (8 + 8 * x + j) % 10 ∧ (h (8 + 8 * x + j) / 10 = 4 → g (8 + 8 * x + j) / 10 = 4) ∧ (x ≠ a → g (8 + 8 * x + j) / 10 = 4 → h (8 + 8 * x + j) / 10 = 4)
theorem tg_R_begin {t g h : Nat → Nat} {a c : Nat} (og : tg_ok t g) (oh : tg_ok t h) (hc : c < 2) (hn : 0 < g (6 + c)) (r : tg_R a g h) (hk : c = a → g (8 + 8 * c) / 10 ≠ 4) : tg_R a (tg_begin g c) (tg_begin h c) := by
  obtain ⟨r0, r1, r5, r4, r4n, rr⟩ := r
  obtain ⟨gn8, gf⟩ := tg_ok_a (a := c) og hc
  obtain ⟨hn8, hf⟩ := tg_ok_a (a := c) oh hc
  obtain ⟨rc, rcj⟩ := rr c hc
  obtain ⟨m0, k0, k1⟩ := rcj 0 hn
  have m0 : g (8 + 8 * c) % 10 = h (8 + 8 * c) % 10 := m0
  have k0 : h (8 + 8 * c) / 10 = 4 → g (8 + 8 * c) / 10 = 4 := k0
  have k1 : c ≠ a → g (8 + 8 * c) / 10 = 4 → h (8 + 8 * c) / 10 = 4 := k1
  have gf0 := (gf 0 hn).1
  have hf0 := (hf 0 (by omega)).1
  have gf0 : g (8 + 8 * c) < 50 := gf0
  have hf0 : h (8 + 8 * c) < 50 := hf0
  refine ⟨?_, ?_, ?_, ?_, ?_, fun x hx => ?_⟩
  · rw [tg_begin_k (by omega) (by omega) (by omega) (by omega), tg_begin_k (by omega) (by omega) (by omega) (by omega)]; exact r0
  · rw [tg_begin_k (by omega) (by omega) (by omega) (by omega), tg_begin_k (by omega) (by omega) (by omega) (by omega)]; exact r1
  · rw [tg_begin_5, tg_begin_5]; exact m0
  · rw [tg_begin_4, tg_begin_4]
    refine ⟨fun e => ?_, k0⟩
    by_cases q : c = a
    · exact absurd e (hk q)
    · exact k1 q e
  · rw [tg_begin_4, tg_begin_4]; omega
  · obtain ⟨rx, rxj⟩ := rr x hx
    by_cases q : x = c
    · subst q
      rw [tg_begin_n hx, tg_begin_n hx]
      refine ⟨by omega, fun j hj => ?_⟩
      rw [tg_begin_m hx hj, tg_begin_m hx (by omega)]
      exact rxj (j + 1) (by omega)
    · have ga := (tg_ok_a (a := x) og hx).1
      have ha := (tg_ok_a (a := x) oh hx).1
      rw [tg_begin_k (g := g) (j := 6 + x) (by omega) (by omega) (by omega) (by omega), tg_begin_k (g := h) (j := 6 + x) (by omega) (by omega) (by omega) (by omega)]
      refine ⟨rx, fun j hj => ?_⟩
      rw [tg_begin_k (g := g) (j := 8 + 8 * x + j) (by omega) (by omega) (by omega) (by omega), tg_begin_k (g := h) (j := 8 + 8 * x + j) (by omega) (by omega) (by omega) (by omega)]
      exact rxj j hj
/-- a day with the same numbers but for where it stands -/
theorem tg_R_of {a : Nat} {g h g2 h2 : Nat → Nat} (r : tg_R a g h) (e0 : g2 0 = h2 0) (e1 : g2 1 = h2 1) (e5 : g2 5 = h2 5) (e4 : g2 4 = 4 ↔ h2 4 = 4) (e4n : g2 4 = 4294967295 ↔ h2 4 = 4294967295) (eg : ∀ j, 6 ≤ j → j < 24 → g2 j = g j) (eh : ∀ j, 6 ≤ j → j < 24 → h2 j = h j) (hg : ∀ x, x < 2 → g (6 + x) ≤ 8) : tg_R a g2 h2 := by
  obtain ⟨-, -, -, -, -, rr⟩ := r
  refine ⟨e0, e1, e5, e4, e4n, fun x hx => ?_⟩
  obtain ⟨rx, rxj⟩ := rr x hx
  have h8 := hg x hx
  rw [eg (6 + x) (by omega) (by omega), eh (6 + x) (by omega) (by omega)]
  refine ⟨rx, fun j hj => ?_⟩
  rw [eg (8 + 8 * x + j) (by omega) (by omega), eh (8 + 8 * x + j) (by omega) (by omega)]
  exact rxj j hj
theorem tg_R_pre {t g h : Nat → Nat} {a : Nat} (og : tg_ok t g) (oh : tg_ok t h) (r : tg_R a g h) (hk : tg_kn g ≠ a) : tg_R a (tg_pre g) (tg_pre h) := by
  obtain ⟨r0, r1, r5, r4, r4n, rr⟩ := id r
  have hc : g 0 % 2 < 2 := by omega
  have rc := (rr (g 0 % 2) hc).1
  unfold tg_pre
  rw [← r0]
  by_cases q : g 4 = 4294967295 ∧ 0 < g (6 + g 0 % 2)
  · rw [if_pos q, if_pos ⟨r4n.mp q.1, by omega⟩]
    refine tg_R_begin og oh hc q.2 r (fun e h9 => hk ?_)
    have e2 : tg_pre g = tg_begin g (g 0 % 2) := if_pos q
    unfold tg_kn
    rw [e2, tg_begin_4, if_pos h9]
    exact e
  · rw [if_neg q, if_neg (fun h9 => q ⟨r4n.mpr h9.1, by omega⟩)]
    exact r
theorem tg_R_kn {t g h : Nat → Nat} {a : Nat} (og : tg_ok t g) (oh : tg_ok t h) (r : tg_R a g h) (hk : tg_kn g ≠ a) : tg_kn h = tg_kn g := by
  obtain ⟨-, -, -, r4, -⟩ := tg_R_pre og oh r hk
  unfold tg_kn
  rw [← r.1]
  by_cases q : tg_pre g 4 = 4
  · rw [if_pos q, if_pos (r4.mp q)]
  · rw [if_neg q, if_neg (fun h9 => q (r4.mpr h9))]
theorem tg_R_wind {t g h : Nat → Nat} {a : Nat} (r : tg_R a g h) (hg : ∀ x, x < 2 → g (6 + x) ≤ 8) : tg_R a (tg_wind t g 1) (tg_wind t h 1) := by
  obtain ⟨r0, r1, r5, r4, r4n, rr⟩ := id r
  refine tg_R_of r ?_ ?_ ?_ ?_ ?_ (fun j h1 h2 => tg_wind_k (by omega) (by omega)) (fun j h1 h2 => tg_wind_k (by omega) (by omega)) hg
  · unfold tg_wind
    rw [← r1, ← r0]
    split
    · rw [ta_us, ta_us]
    · rw [ta_un (by omega), ta_un (by omega)]; exact r0
  · unfold tg_wind
    rw [← r1]
    split
    · rw [ta_un (by omega), ta_us, ta_un (by omega), ta_us]
    · rw [ta_us, ta_us]
  · rw [tg_wind_k (by omega) (by omega), tg_wind_k (by omega) (by omega)]; exact r5
  · rw [tg_wind_k (by omega) (by omega), tg_wind_k (by omega) (by omega)]; exact r4
  · rw [tg_wind_k (by omega) (by omega), tg_wind_k (by omega) (by omega)]; exact r4n
theorem tg_do_4 (t g : Nat → Nat) (c : Nat) : tg_do t g c 4 = if g 5 - 1 = 0 then 4294967295 else g 4 := by unfold tg_do; rw [ta_us]
theorem tg_do_5 (t g : Nat → Nat) (c : Nat) : tg_do t g c 5 = g 5 - 1 := by unfold tg_do; rw [ta_un (by omega), ta_us]
theorem tg_R_do {t g h : Nat → Nat} {a c : Nat} (og : tg_ok t g) (oh : tg_ok t h) (r : tg_R a g h) : tg_R a (tg_do t g c) (tg_do t h c) := by
  obtain ⟨r0, r1, r5, r4, r4n, rr⟩ := id r
  obtain ⟨⟨a1, -⟩, -, b2, -⟩ := id og
  obtain ⟨-, -, c2, -⟩ := id oh
  have hw : 0 < t 0 := by omega
  refine tg_R_of r ?_ ?_ ?_ ?_ ?_ (fun j h1 h2 => tg_do_k hw b2 h2 (by omega) (by omega) (by omega) (by omega)) (fun j h1 h2 => tg_do_k hw c2 h2 (by omega) (by omega) (by omega) (by omega)) (fun x hx => (tg_ok_a og hx).1)
  · rw [tg_do_k hw b2 (by omega) (by omega) (by omega) (by omega) (by omega), tg_do_k hw c2 (by omega) (by omega) (by omega) (by omega) (by omega)]; exact r0
  · rw [tg_do_k hw b2 (by omega) (by omega) (by omega) (by omega) (by omega), tg_do_k hw c2 (by omega) (by omega) (by omega) (by omega) (by omega)]; exact r1
  · rw [tg_do_5, tg_do_5, r5]
  · rw [tg_do_4, tg_do_4, r5]
    split
    · exact Iff.rfl
    · exact r4
  · rw [tg_do_4, tg_do_4, r5]
    split
    · exact Iff.rfl
    · exact r4n
theorem tg_R_go {t g h : Nat → Nat} {a : Nat} (og : tg_ok t g) (oh : tg_ok t h) (r : tg_R a g h) (hk : tg_kn g ≠ a) : tg_R a (tg_go t g) (tg_go t h) := by
  have rp := tg_R_pre og oh r hk
  have og1 := tg_ok_pre og
  have oh1 := tg_ok_pre oh
  obtain ⟨-, -, -, -, r4n, -⟩ := id rp
  unfold tg_go
  rw [← r.1]
  by_cases q : tg_pre g 4 = 4294967295
  · rw [if_pos q, if_pos (r4n.mp q)]
    exact tg_R_wind rp (fun x hx => (tg_ok_a og1 hx).1)
  · rw [if_neg q, if_neg (fun h9 => q (r4n.mpr h9))]
    have od := tg_ok_do (a := g 0 % 2) og1 (by obtain ⟨-, -, -, -, b4, -⟩ := og1; omega)
    exact tg_R_wind (tg_R_do og1 oh1 rp) (fun x hx => (tg_ok_a od hx).1)
theorem tg_R_it {t g h : Nat → Nat} {a : Nat} (og : tg_ok t g) (oh : tg_ok t h) (r : tg_R a g h) : ∀ n, tg_kc t g a n = 0 → tg_R a (tg_it t g n) (tg_it t h n) ∧ ∀ b, tg_kc t h b n = tg_kc t g b n
  | 0, _ => ⟨r, fun _ => rfl⟩
  | n + 1, e => by
    rw [tg_kc_s] at e
    have hk : tg_kn (tg_it t g n) ≠ a := by
      intro q
      rw [if_pos q] at e
      omega
    obtain ⟨ri, rk⟩ := tg_R_it og oh r n (by omega)
    have og1 := tg_ok_it og n
    have oh1 := tg_ok_it oh n
    refine ⟨tg_R_go og1 oh1 ri hk, fun b => ?_⟩
    rw [tg_kc_s, tg_kc_s, rk b, tg_R_kn og1 oh1 ri hk]
/-- two figures more -/
def tg_two (g : Nat → Nat) (a c d : Nat) : Nat → Nat := tg_ord (tg_ord g a c) a d
theorem tg_ord_n (g : Nat → Nat) (a c : Nat) : tg_ord g a c (6 + a) = g (6 + a) + 1 := by unfold tg_ord; rw [ta_us]
theorem tg_ord_c {g : Nat → Nat} {a c : Nat} (ha : a < 2) : tg_ord g a c (8 + 8 * a + g (6 + a)) = c := by unfold tg_ord; rw [ta_un (by omega), ta_us]
theorem tg_ord_k {g : Nat → Nat} {a c j : Nat} (h1 : j ≠ 6 + a) (h2 : j ≠ 8 + 8 * a + g (6 + a)) : tg_ord g a c j = g j := by unfold tg_ord; rw [ta_un h1, ta_un h2]
theorem tg_ok_two {t g : Nat → Nat} {a c d : Nat} (ho : tg_ok t g) (ha : a < 2) (hn : g (6 + a) ≤ 6) (hc : tg_fig c) (hd : tg_fig d) : tg_ok t (tg_two g a c d) := tg_ok_ord (tg_ok_ord ho ha (by omega) hc) ha (by rw [tg_ord_n]; omega) hd
theorem tg_R_two {t g : Nat → Nat} {a c d : Nat} (ho : tg_ok t g) (ha : a < 2) (hn : g (6 + a) ≤ 6) : tg_R a (tg_two g a c d) (tg_two g a (c % 10) (d % 10)) := by
  have key : ∀ c d j, (j < 6 ∨ 8 ≤ j) → j ≠ 8 + 8 * a + g (6 + a) → j ≠ 8 + 8 * a + (g (6 + a) + 1) → tg_two g a c d j = g j := by
    intro c d j h0 h1 h2
    unfold tg_two
    rw [tg_ord_k (by omega) (by rw [tg_ord_n]; omega), tg_ord_k (by omega) h1]
  have kn : ∀ c d, tg_two g a c d (6 + a) = g (6 + a) + 2 := by
    intro c d
    unfold tg_two
    rw [tg_ord_n, tg_ord_n]
  have ko : ∀ c d x, x < 2 → x ≠ a → tg_two g a c d (6 + x) = g (6 + x) := by
    intro c d x hx h1
    unfold tg_two
    rw [tg_ord_k (by omega) (by rw [tg_ord_n]; omega), tg_ord_k (by omega) (by omega)]
  have k1 : ∀ c d, tg_two g a c d (8 + 8 * a + g (6 + a)) = c := by
    intro c d
    unfold tg_two
    rw [tg_ord_k (by omega) (by rw [tg_ord_n]; omega), tg_ord_c ha]
  have k2 : ∀ c d, tg_two g a c d (8 + 8 * a + (g (6 + a) + 1)) = d := by
    intro c d
    have e := @tg_ord_c (tg_ord g a c) a d ha
    rw [tg_ord_n] at e
    exact e
  refine ⟨?_, ?_, ?_, ?_, ?_, fun x hx => ?_⟩
  · rw [key _ _ 0 (by omega) (by omega) (by omega), key _ _ 0 (by omega) (by omega) (by omega)]
  · rw [key _ _ 1 (by omega) (by omega) (by omega), key _ _ 1 (by omega) (by omega) (by omega)]
  · rw [key _ _ 5 (by omega) (by omega) (by omega), key _ _ 5 (by omega) (by omega) (by omega)]
  · rw [key _ _ 4 (by omega) (by omega) (by omega), key _ _ 4 (by omega) (by omega) (by omega)]
  · rw [key _ _ 4 (by omega) (by omega) (by omega), key _ _ 4 (by omega) (by omega) (by omega)]
  · by_cases q : x = a
    · subst q
      rw [kn, kn]
      refine ⟨rfl, fun j hj => ?_⟩
      rcases (show j < g (6 + x) ∨ j = g (6 + x) ∨ j = g (6 + x) + 1 by omega) with e | e | e
      · rw [key _ _ (8 + 8 * x + j) (by omega) (by omega) (by omega), key _ _ (8 + 8 * x + j) (by omega) (by omega) (by omega)]
        exact ⟨rfl, id, fun h => absurd rfl h⟩
      · rw [e, k1, k1]
        exact ⟨by omega, fun h => by omega, fun h => absurd rfl h⟩
      · rw [e, k2, k2]
        exact ⟨by omega, fun h => by omega, fun h => absurd rfl h⟩
    · rw [ko _ _ x hx q, ko _ _ x hx q]
      have h8 := (tg_ok_a (a := x) ho hx).1
      refine ⟨rfl, fun j hj => ?_⟩
      rw [key _ _ (8 + 8 * x + j) (by omega) (by omega) (by omega), key _ _ (8 + 8 * x + j) (by omega) (by omega) (by omega)]
      exact ⟨rfl, id, fun _ => id⟩
/-- what two figures are worth: 0 if the army itself kneels, else one more than how much the other one does -/
def pl_v (t g : Nat → Nat) (a n c d : Nat) : Nat := if tg_kc t (tg_two g a c d) a n = 0 then tg_kc t (tg_two g a c d) (1 - a) n + 1 else 0
theorem pl_v_m {t g : Nat → Nat} {a n c d : Nat} (ho : tg_ok t g) (ha : a < 2) (hn : g (6 + a) ≤ 6) (hc : tg_fig c) (hd : tg_fig d) (h : pl_v t g a n c d ≠ 0) : pl_v t g a n (c % 10) (d % 10) = pl_v t g a n c d := by
  have e0 : tg_kc t (tg_two g a c d) a n = 0 := by
    rcases Nat.eq_zero_or_pos (tg_kc t (tg_two g a c d) a n) with e | e
    · exact e
    · exact absurd (show pl_v t g a n c d = 0 from if_neg (by omega)) h
  have hc2 : tg_fig (c % 10) := ⟨by omega, by have := hc.2; omega⟩
  have hd2 : tg_fig (d % 10) := ⟨by omega, by have := hd.2; omega⟩
  obtain ⟨-, rk⟩ := tg_R_it (tg_ok_two ho ha hn hc hd) (tg_ok_two ho ha hn hc2 hd2) (tg_R_two (c := c) (d := d) ho ha hn) n e0
  unfold pl_v
  rw [rk a, rk (1 - a)]
/-- the first of the best -/
def pl_S (A : Nat → Prop) (x y c d : Nat) : Prop := A c ∧ A d ∧ (c < x ∨ c = x ∧ d < y)
def pl_B (v : Nat → Nat → Nat) (S : Nat → Nat → Prop) (m x y : Nat) : Prop := (m = 0 ∧ x = 4294967295 ∧ y = 4294967295 ∧ ∀ c d, S c d → v c d = 0) ∨ (0 < m ∧ S x y ∧ v x y = m ∧ (∀ c d, S c d → v c d ≤ m) ∧ ∀ c d, S c d → (c < x ∨ c = x ∧ d < y) → v c d < m)
theorem pl_B_ext {v : Nat → Nat → Nat} {S T : Nat → Nat → Prop} {m x y : Nat} (e : ∀ c d, S c d ↔ T c d) (h : pl_B v S m x y) : pl_B v T m x y := by
  rcases h with ⟨h1, h2, h3, h4⟩ | ⟨h1, h2, h3, h4, h5⟩
  · exact Or.inl ⟨h1, h2, h3, fun c d q => h4 c d ((e c d).mpr q)⟩
  · exact Or.inr ⟨h1, (e x y).mp h2, h3, fun c d q => h4 c d ((e c d).mpr q), fun c d q => h5 c d ((e c d).mpr q)⟩
theorem pl_B_u {v : Nat → Nat → Nat} {S : Nat → Nat → Prop} {m x y m2 x2 y2 : Nat} (h : pl_B v S m x y) (k : pl_B v S m2 x2 y2) : m = m2 ∧ x = x2 ∧ y = y2 := by
  rcases h with ⟨h1, h2, h3, h4⟩ | ⟨h1, h2, h3, h4, h5⟩
  · rcases k with ⟨k1, k2, k3, k4⟩ | ⟨k1, k2, k3, k4, k5⟩
    · omega
    · have := h4 _ _ k2; omega
  · rcases k with ⟨k1, k2, k3, k4⟩ | ⟨k1, k2, k3, k4, k5⟩
    · have := k4 _ _ h2; omega
    · have a1 := h4 _ _ k2
      have a2 := k4 _ _ h2
      have e : m = m2 := by omega
      refine ⟨e, ?_⟩
      rcases (show (x < x2 ∨ x = x2 ∧ y < y2) ∨ (x2 < x ∨ x2 = x ∧ y2 < y) ∨ (x = x2 ∧ y = y2) by omega) with q | q | q
      · have := k5 _ _ h2 q; omega
      · have := h5 _ _ k2 q; omega
      · exact q
theorem pl_B_y {v : Nat → Nat → Nat} {A : Nat → Prop} {m x y c d : Nat} (hc : A c) (hd : A d) (h : pl_B v (pl_S A c d) m x y) (hv : m < v c d) : pl_B v (pl_S A c (d + 1)) (v c d) c d := by
  have hle : ∀ c2 d2, pl_S A c d c2 d2 → v c2 d2 ≤ m := by
    rcases h with ⟨h1, h2, h3, h4⟩ | ⟨h1, h2, h3, h4, h5⟩
    · intro c2 d2 q; have := h4 c2 d2 q; omega
    · exact h4
  refine Or.inr ⟨by omega, ⟨hc, hd, by omega⟩, rfl, fun c2 d2 q => ?_, fun c2 d2 q q2 => ?_⟩
  · obtain ⟨q1, q2, q3⟩ := q
    rcases (show (c2 < c ∨ c2 = c ∧ d2 < d) ∨ (c2 = c ∧ d2 = d) by omega) with e | e
    · have := hle c2 d2 ⟨q1, q2, e⟩; omega
    · rw [e.1, e.2]; exact Nat.le_refl _
  · have := hle c2 d2 ⟨q.1, q.2.1, q2⟩; omega
theorem pl_B_n {v : Nat → Nat → Nat} {A : Nat → Prop} {m x y c d : Nat} (h : pl_B v (pl_S A c d) m x y) (hv : A c → A d → v c d ≤ m) : pl_B v (pl_S A c (d + 1)) m x y := by
  rcases h with ⟨h1, h2, h3, h4⟩ | ⟨h1, h2, h3, h4, h5⟩
  · refine Or.inl ⟨h1, h2, h3, fun c2 d2 q => ?_⟩
    obtain ⟨q1, q2, q3⟩ := q
    rcases (show (c2 < c ∨ c2 = c ∧ d2 < d) ∨ (c2 = c ∧ d2 = d) by omega) with e | e
    · exact h4 c2 d2 ⟨q1, q2, e⟩
    · rw [e.1, e.2]; rw [e.1] at q1; rw [e.2] at q2; have := hv q1 q2; omega
  · obtain ⟨s1, s2, s3⟩ := h2
    refine Or.inr ⟨h1, ⟨s1, s2, by omega⟩, h3, fun c2 d2 q => ?_, fun c2 d2 q q4 => ?_⟩
    · obtain ⟨q1, q2, q3⟩ := q
      rcases (show (c2 < c ∨ c2 = c ∧ d2 < d) ∨ (c2 = c ∧ d2 = d) by omega) with e | e
      · exact h4 c2 d2 ⟨q1, q2, e⟩
      · rw [e.1, e.2]; rw [e.1] at q1; rw [e.2] at q2; exact hv q1 q2
    · exact h5 c2 d2 ⟨q.1, q.2.1, by omega⟩ q4
theorem pl_B_r {v : Nat → Nat → Nat} {A : Nat → Prop} {m x y c d : Nat} (h : pl_B v (pl_S A c d) m x y) (h1 : ∀ j, A j → 1 ≤ j ∧ j < d) : pl_B v (pl_S A (c + 1) 1) m x y := by
  refine pl_B_ext (fun c2 d2 => ⟨fun q => ⟨q.1, q.2.1, by have := h1 d2 q.2.1; have := q.2.2; omega⟩, fun q => ⟨q.1, q.2.1, ?_⟩⟩) h
  have := h1 d2 q.2.1
  have := q.2.2
  omega
theorem pl_B_0 {v : Nat → Nat → Nat} {A : Nat → Prop} (h1 : ∀ j, A j → 1 ≤ j) : pl_B v (pl_S A 1 1) 0 4294967295 4294967295 := by
  refine Or.inl ⟨rfl, rfl, rfl, fun c d q => ?_⟩
  have a1 := h1 c q.1
  have a2 := h1 d q.2.1
  have := q.2.2
  omega
def pl_m (c : Nat) : Prop := 1 ≤ c ∧ c ≤ 9
/-- marches are enough -/
theorem pl_B_m {v : Nat → Nat → Nat} {m x y : Nat} (hm : ∀ c d, tg_fig c → tg_fig d → v c d ≠ 0 → v (c % 10) (d % 10) = v c d) (h : pl_B v (pl_S pl_m 10 1) m x y) : pl_B v (pl_S tg_fig 50 1) m x y := by
  have key : ∀ c d, tg_fig c → tg_fig d → pl_S pl_m 10 1 (c % 10) (d % 10) := by
    intro c d hc hd
    have := hc.2
    have := hd.2
    exact ⟨⟨by omega, by omega⟩, ⟨by omega, by omega⟩, by omega⟩
  rcases h with ⟨h1, h2, h3, h4⟩ | ⟨h1, h2, h3, h4, h5⟩
  · refine Or.inl ⟨h1, h2, h3, fun c d q => ?_⟩
    rcases Nat.eq_zero_or_pos (v c d) with e | e
    · exact e
    · rw [← hm c d q.1 q.2.1 (by omega)]; exact h4 _ _ (key c d q.1 q.2.1)
  · obtain ⟨⟨x1, x2⟩, ⟨y1, y2⟩, -⟩ := h2
    refine Or.inr ⟨h1, ⟨⟨by omega, by omega⟩, ⟨by omega, by omega⟩, by omega⟩, h3, fun c d q => ?_, fun c d q q4 => ?_⟩
    · rcases Nat.eq_zero_or_pos (v c d) with e | e
      · omega
      · rw [← hm c d q.1 q.2.1 (by omega)]; exact h4 _ _ (key c d q.1 q.2.1)
    · rcases Nat.eq_zero_or_pos (v c d) with e | e
      · omega
      · rw [← hm c d q.1 q.2.1 (by omega)]; exact h5 _ _ (key c d q.1 q.2.1) (by omega)
/-- one less, as an int -/
def pl_p : Nat → Nat
  | 0 => 4294967295
  | k + 1 => k
theorem pl_p_le {v m : Nat} (hv : v < 1000000) (hm : m < 1000000) : nI (pl_p v) ≤ nI (pl_p m) ↔ v ≤ m := by
  have hneg : nI 4294967295 < 0 := by decide
  cases v with
  | zero =>
    refine ⟨fun _ => Nat.zero_le _, fun _ => ?_⟩
    cases m with
    | zero => exact Int32.le_refl _
    | succ m => exact Int32.le_of_lt (Int32.lt_of_lt_of_le hneg (nI_pos' (show m < 2147483648 by omega)))
  | succ v =>
    cases m with
    | zero => exact ⟨fun h => absurd (Int32.lt_of_le_of_lt (Int32.le_trans (nI_pos' (show v < 2147483648 by omega)) h) hneg) Int32.lt_irrefl, fun h => absurd h (by omega)⟩
    | succ m =>
      show nI v ≤ nI m ↔ v + 1 ≤ m + 1
      rw [nI_leI (by omega) (by omega)]
      omega
theorem pl_p_b {m : Nat} (hm : m < 1000000) : pl_p m < 4294967296 := by
  cases m with
  | zero => decide
  | succ m => show m < 4294967296; omega
theorem ta_add0 {x k : Nat} (hk : k < 1000000) : nI (x + k) = nI x ↔ k = 0 := by
  refine ⟨fun h => ?_, fun h => by rw [h]; rfl⟩
  rw [← nI_add] at h
  have h2 : nI x + nI k - nI x = nI x - nI x := by rw [h]
  rw [Int32.add_comm, Int32.add_sub_cancel, Int32.sub_self] at h2
  exact (ta_in0 (by omega)).mp h2
def pl_f (w x y : Nat) : Nat := if w = 1 then x else y
/-- what plot answers -/
def pl_R (t g : Nat → Nat) (a n w v : Nat) : Prop := (¬ a < 2 ∧ v = 4294967294) ∨ (a < 2 ∧ ¬ ((1 ≤ n ∧ n ≤ 40) ∧ w ≤ 2) ∧ v = 4294967293) ∨ (a < 2 ∧ ((1 ≤ n ∧ n ≤ 40) ∧ w ≤ 2) ∧ 6 < g (6 + a) ∧ v = 4294967292) ∨ (a < 2 ∧ ((1 ≤ n ∧ n ≤ 40) ∧ w ≤ 2) ∧ g (6 + a) ≤ 6 ∧ ∃ m x y, pl_B (pl_v t g a n) (pl_S tg_fig 50 1) m x y ∧ v = if w = 0 then pl_p m else pl_f w x y)
theorem pl_R_u {t g : Nat → Nat} {a n w v v2 : Nat} (h : pl_R t g a n w v) (k : pl_R t g a n w v2) : v = v2 := by
  rcases h with ⟨h1, h2⟩ | ⟨h1, h2, h3⟩ | ⟨h1, h2, h3, h4⟩ | ⟨h1, h2, h3, m, x, y, h4, h5⟩
  · rcases k with ⟨k1, k2⟩ | ⟨k1, k2, k3⟩ | ⟨k1, k2, k3, k4⟩ | ⟨k1, k2, k3, m2, x2, y2, k4, k5⟩ <;> omega
  · rcases k with ⟨k1, k2⟩ | ⟨k1, k2, k3⟩ | ⟨k1, k2, k3, k4⟩ | ⟨k1, k2, k3, m2, x2, y2, k4, k5⟩ <;> omega
  · rcases k with ⟨k1, k2⟩ | ⟨k1, k2, k3⟩ | ⟨k1, k2, k3, k4⟩ | ⟨k1, k2, k3, m2, x2, y2, k4, k5⟩ <;> omega
  · rcases k with ⟨k1, k2⟩ | ⟨k1, k2, k3⟩ | ⟨k1, k2, k3, k4⟩ | ⟨k1, k2, k3, m2, x2, y2, k4, k5⟩
    · omega
    · omega
    · omega
    · obtain ⟨rfl, rfl, rfl⟩ := pl_B_u h4 k4
      rw [h5, k5]
theorem pl_v_b (t g : Nat → Nat) (a n c d : Nat) : pl_v t g a n c d ≤ n + 1 := by
  unfold pl_v
  have := tg_kc_b t (tg_two g a c d) (1 - a) n
  split <;> omega
theorem pl_B_b {v : Nat → Nat → Nat} {S : Nat → Nat → Prop} {m x y b : Nat} (h : pl_B v S m x y) (hb : ∀ c d, v c d ≤ b) : m ≤ b := by
  rcases h with ⟨h1, h2, h3, h4⟩ | ⟨h1, h2, h3, h4, h5⟩
  · omega
  · have := hb x y; omega
