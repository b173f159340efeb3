/-! the pure game: t what was told (0 w, 1 h, 2 minutes of an hour, 3 cell, 4 looks, 5 6 counts, 7.. figures), g the day, by the reference's places -/
def tg_wall (g : Nat → Nat) (w : Nat) : Nat → Nat := ta_u g (26 + w) (g (26 + w) + 1)
def tg_mv (t g : Nat → Nat) (y x : Nat) : Nat → Nat := ta_u (ta_u g 2 (t 0 * y + x)) (30 + (t 0 * y + x)) (g (30 + (t 0 * y + x)) + 1)
def tg_step (t g : Nat → Nat) (w : Nat) : Nat → Nat :=
  if w = 0 then (if g 2 / t 0 = 0 then tg_wall g 0 else tg_mv t g (g 2 / t 0 - 1) (g 2 % t 0))
  else if w = 1 then (if g 2 % t 0 + 1 < t 0 then tg_mv t g (g 2 / t 0) (g 2 % t 0 + 1) else tg_wall g 1)
  else if w = 2 then (if g 2 / t 0 + 1 < t 1 then tg_mv t g (g 2 / t 0 + 1) (g 2 % t 0) else tg_wall g 2)
  else (if g 2 % t 0 = 0 then tg_wall g 3 else tg_mv t g (g 2 / t 0) (g 2 % t 0 - 1))
def tg_begin (g : Nat → Nat) (a : Nat) : Nat → Nat := ta_u (ta_u (va_cpy (ta_u g (6 + a) (g (6 + a) - 1)) (ta_u g (6 + a) (g (6 + a) - 1)) (9 + 8 * a) (8 + 8 * a) (g (6 + a) - 1)) 4 (g (8 + 8 * a) / 10)) 5 (g (8 + 8 * a) % 10)
/-- what a minute of the begun figure does, but for the count -/
def tg_act (t g : Nat → Nat) (a : Nat) : Nat → Nat :=
  if g 4 = 0 then tg_step t g (g 3) else if g 4 = 1 then tg_step t g ((g 3 + 2) % 4) else if g 4 = 2 then tg_step t (tg_step t g (g 3)) (g 3)
  else if g 4 = 3 then ta_u g 3 ((g 3 + 1) % 4) else ta_u g (24 + a) (g (24 + a) + 1)
def tg_do (t g : Nat → Nat) (a : Nat) : Nat → Nat := ta_u (ta_u (tg_act t g a) 5 (g 5 - 1)) 4 (if g 5 - 1 = 0 then 4294967295 else g 4)
def tg_wind (t g : Nat → Nat) (n : Nat) : Nat → Nat := if t 2 ≤ g 1 + n then ta_u (ta_u g 1 0) 0 (g 0 + 1) else ta_u g 1 (g 1 + n)
/-- the next figure is begun, if none is -/
def tg_pre (g : Nat → Nat) : Nat → Nat := if g 4 = 4294967295 ∧ 0 < g (6 + g 0 % 2) then tg_begin g (g 0 % 2) else g
def tg_go (t g : Nat → Nat) : Nat → Nat := tg_wind t (if tg_pre g 4 = 4294967295 then tg_pre g else tg_do t (tg_pre g) (g 0 % 2)) 1
/-- who kneels in this minute -/
def tg_kn (g : Nat → Nat) : Nat := if tg_pre g 4 = 4 then g 0 % 2 else 4294967295
def tg_tok (t : Nat → Nat) : Prop := 2 ≤ t 0 ∧ t 0 ≤ 6 ∧ 2 ≤ t 1 ∧ t 1 ≤ 6 ∧ 2 ≤ t 2 ∧ t 2 ≤ 9
def tg_fig (c : Nat) : Prop := c < 50 ∧ 1 ≤ c % 10
def tg_ok (t g : Nat → Nat) : Prop := tg_tok t ∧ g 1 < t 2 ∧ g 2 < t 0 * t 1 ∧ g 3 < 4 ∧ ((g 4 = 4294967295 ∧ g 5 = 0) ∨ (g 4 < 5 ∧ 1 ≤ g 5 ∧ g 5 ≤ 9)) ∧ g 6 ≤ 8 ∧ g 7 ≤ 8 ∧ (∀ k, k < g 6 → tg_fig (g (8 + k))) ∧ ∀ k, k < g 7 → tg_fig (g (16 + k))
theorem tg_div {w h c : Nat} (hw : 0 < w) (hc : c < w * h) : c / w < h ∧ c % w < w ∧ w * (c / w) + c % w = c := ⟨Nat.div_lt_of_lt_mul hc, Nat.mod_lt c hw, Nat.div_add_mod c w⟩
theorem tg_rc {w y x : Nat} (hx : x < w) : (w * y + x) / w = y ∧ (w * y + x) % w = x := ⟨by rw [Nat.mul_add_div (by omega), Nat.div_eq_of_lt hx, Nat.add_zero], by rw [Nat.mul_add_mod, Nat.mod_eq_of_lt hx]⟩
theorem tg_lt {w h y x : Nat} (hx : x < w) (hy : y < h) : w * y + x < w * h := by
  have h1 : w * y + w ≤ w * h := by rw [← Nat.mul_succ]; exact Nat.mul_le_mul_left w hy
  omega
theorem tg_36 {w h : Nat} (hw : w ≤ 6) (hh : h ≤ 6) : w * h ≤ 36 := Nat.mul_le_mul hw hh
/-! a day's cells -/
def tg_mud (g : Nat → Nat) : Nat → Nat := fun c => g (30 + c)
def tg_wal (g : Nat → Nat) : Nat → Nat := fun c => g (26 + c)
def tg_kne (g : Nat → Nat) : Nat → Nat := fun c => g (24 + c)
def ta_x4 (a b c d : Nat → Nat) : Nat → Nat → Nat := fun i => match i with
  | 0 => a
  | 1 => b
  | 2 => c
  | _ => d
/-- kinds and minutes as they lie in the two drills, so far as they count -/
def tg_X (g : Nat → Nat) (X : Nat → Nat → Nat) : Prop := (∀ j, j < g 6 → X 0 j = g (8 + j) / 10 ∧ X 1 j = g (8 + j) % 10) ∧ ∀ j, j < g 7 → X 2 j = g (16 + j) / 10 ∧ X 3 j = g (16 + j) % 10
def dyW (k : ta_C) (q : Nat → Nat) (t g : Nat → Nat) (X : Nat → Nat → Nat) : va_W := [(q 0, .inr (0, [.int (nI (t 0)), .int (nI (t 1)), .int (nI (t 2)), .int (nI (g 0)), .int (nI (g 1)), .int (nI (g 2 / t 0)), .int (nI (g 2 % t 0)), .int (nI (g 3)), .int (nI (g 4)), .int (nI (g 5)), .ref (q 1), .ref (q 2), .ref (q 3), .ref (q 4)])),
  (q 1, .inl (k.1 0, 36, .inl (ta_e (tg_mud g)))), (q 2, .inl (k.1 0, 4, .inl (ta_e (tg_wal g)))), (q 3, .inl (k.1 0, 2, .inl (ta_e (tg_kne g)))), (q 4, .inl (k.1 2, 2, .inr (.inr (.inr (.inr (ta_dr (q 5) (q 8))))))),
  (q 5, .inr (1, [.ref (q 6), .ref (q 7), .int (nI (g 6))])), (q 6, .inl (k.1 0, 8, .inl (ta_e (X 0)))), (q 7, .inl (k.1 0, 8, .inl (ta_e (X 1)))),
  (q 8, .inr (1, [.ref (q 9), .ref (q 10), .int (nI (g 7))])), (q 9, .inl (k.1 0, 8, .inl (ta_e (X 2)))), (q 10, .inl (k.1 0, 8, .inl (ta_e (X 3))))]
theorem ta_Pn {D : va_G} {cl : List vw_C} {H : Heap} : va_P D cl [] H := fun k q h => by simp at h
theorem ta_Pc {D : va_G} {cl : List vw_C} {H : Heap} {c : Nat × va_E} {ws : va_W} (h : va_at D cl c H) (h2 : va_P D cl ws H) : va_P D cl (c :: ws) H := fun k q hk => by
  cases k with
  | zero => cases hk; exact h
  | succ k => exact h2 k q hk
theorem ta_ae {D : va_G} {cl : List vw_C} {H : Heap} {a n : Nat} {cA : ClassId} {f g : Nat → Nat} (h : ∀ j, j < n → f j = g j) (h2 : va_at D cl (a, .inl (cA, n, .inl (ta_e f))) H) : va_at D cl (a, .inl (cA, n, .inl (ta_e g))) H := by
  have e : vp_cell cA (n, .inl (ta_e f)) = vp_cell cA (n, .inl (ta_e g)) := by
    show arrV cA n (fun j => .int (nI (f j))) = arrV cA n (fun j => .int (nI (g j)))
    have e2 : (Array.ofFn (n := n) fun j => Value.int (nI (f j.val))) = Array.ofFn (n := n) fun j => Value.int (nI (g j.val)) := by
      congr 1
      funext j
      rw [h j.val j.isLt]
    simp only [arrV, e2]
  show H[a]? = some (vp_cell cA (n, .inl (ta_e g)))
  rw [← e]
  exact h2
theorem ta_De {A : Nat → Prop} {w1 w2 : va_W} (h : va_D A w1) (e : w1.map Prod.fst = w2.map Prod.fst) : va_D A w2 := by
  have key : ∀ (k : Nat) (q : Nat × va_E), w2[k]? = some q → ∃ p, w1[k]? = some p ∧ p.1 = q.1 := by
    intro k q hk
    have h1 : (w1.map Prod.fst)[k]? = some q.1 := by rw [e, List.getElem?_map, hk]; rfl
    rw [List.getElem?_map] at h1
    cases hp : w1[k]? with
    | none => rw [hp] at h1; cases h1
    | some p => rw [hp] at h1; exact ⟨p, rfl, Option.some.inj h1⟩
  refine ⟨fun i j p q hi hj hpq => ?_, fun k q hk => ?_⟩
  · obtain ⟨p1, h1, h2⟩ := key i p hi
    obtain ⟨q1, h3, h4⟩ := key j q hj
    exact h.1 i j p1 q1 h1 h3 (h2.trans (hpq.trans h4.symm))
  · obtain ⟨p1, h1, h2⟩ := key k q hk
    rw [← h2]
    exact h.2 k p1 h1
/-- a day's cells as they are, brought to the form -/
theorem dy_to {D : va_G} {k : ta_C} {q t g : Nat → Nat} {H : Heap} {f0 f1 f2 f3 f4 f5 f6 f7 f8 f9 n0 n1 : Nat} {mu wa kn K0 M0 K1 M1 : Nat → Nat}
    (hf : f0 = t 0 ∧ f1 = t 1 ∧ f2 = t 2 ∧ f3 = g 0 ∧ f4 = g 1 ∧ f5 = g 2 / t 0 ∧ f6 = g 2 % t 0 ∧ f7 = g 3 ∧ f8 = g 4 ∧ f9 = g 5 ∧ n0 = g 6 ∧ n1 = g 7) (hm : ∀ j, j < 36 → mu j = g (30 + j)) (hw : ∀ j, j < 4 → wa j = g (26 + j)) (hk : ∀ j, j < 2 → kn j = g (24 + j))
    (h : va_P D vwCl [(q 0, .inr (0, [.int (nI f0), .int (nI f1), .int (nI f2), .int (nI f3), .int (nI f4), .int (nI f5), .int (nI f6), .int (nI f7), .int (nI f8), .int (nI f9), .ref (q 1), .ref (q 2), .ref (q 3), .ref (q 4)])),
  (q 1, .inl (k.1 0, 36, .inl (ta_e mu))), (q 2, .inl (k.1 0, 4, .inl (ta_e wa))), (q 3, .inl (k.1 0, 2, .inl (ta_e kn))), (q 4, .inl (k.1 2, 2, .inr (.inr (.inr (.inr (ta_dr (q 5) (q 8))))))),
  (q 5, .inr (1, [.ref (q 6), .ref (q 7), .int (nI n0)])), (q 6, .inl (k.1 0, 8, .inl (ta_e K0))), (q 7, .inl (k.1 0, 8, .inl (ta_e M0))),
  (q 8, .inr (1, [.ref (q 9), .ref (q 10), .int (nI n1)])), (q 9, .inl (k.1 0, 8, .inl (ta_e K1))), (q 10, .inl (k.1 0, 8, .inl (ta_e M1)))] H) : va_P D vwCl (dyW k q t g (ta_x4 K0 M0 K1 M1)) H := by
  obtain ⟨rfl, rfl, rfl, rfl, rfl, rfl, rfl, rfl, rfl, rfl, rfl, rfl⟩ := hf
  exact ta_Pc (h 0 _ rfl) (ta_Pc (ta_ae hm (h 1 _ rfl)) (ta_Pc (ta_ae hw (h 2 _ rfl)) (ta_Pc (ta_ae hk (h 3 _ rfl)) (ta_Pc (h 4 _ rfl) (ta_Pc (h 5 _ rfl) (ta_Pc (h 6 _ rfl) (ta_Pc (h 7 _ rfl) (ta_Pc (h 8 _ rfl) (ta_Pc (h 9 _ rfl) (ta_Pc (h 10 _ rfl) ta_Pn))))))))))
theorem dy_X {X : Nat → Nat → Nat} {g : Nat → Nat} (h : tg_X g X) : tg_X g (ta_x4 (X 0) (X 1) (X 2) (X 3)) := h
