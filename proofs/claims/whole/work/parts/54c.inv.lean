/-! what holds between the calls -/
def lw_B (b L : Nat) (tx t : Nat → Nat) (Y : Nat → Nat → Nat) (g : Nat → Nat) (X : Nat → Nat → Nat) (kn : Nat) (T G : Nat → Nat → Nat) (Z : Nat → Nat → Nat → Nat) (pa kp : Nat → Nat) (T2 K : Nat → Nat → Nat) (Z2 : Nat → Nat → Nat → Nat) (im : Nat → Nat) (no : Nat) (nt : Nat → Nat) : Prop :=
  (tx_ok tx L ∧ pl_ok t ∧ pl_X t Y) ∧ (tg_ok t g ∧ g 0 ≤ b ∧ tg_X g X) ∧ (kn ≤ 8 ∧ (∀ i, i < kn → T i = t) ∧ (∀ i, i < kn → tg_ok t (G i) ∧ G i 0 ≤ b) ∧ (∀ i, i < kn → tg_X (G i) (Z i)) ∧ mo_P pa kn G) ∧ ((∀ i, i < 2 → kp i ≤ 1) ∧ (∀ i, i < 2 → kp i ≠ 0 → T2 i = t ∧ tg_ok t (K i) ∧ tg_X (K i) (Z2 i)) ∧ (∀ i, i < 2 → kp i ≠ 0 → K i 0 ≤ b) ∧ mo_K im kp K) ∧ (no ≤ 6 ∧ ∀ j, j < no → (nt j < 10000 ∧ 1 ≤ nt j % 100 ∧ nt j % 100 ≤ 60) ∧ nt j / 100 < 36)
section LWB
variable {b L : Nat} {tx t : Nat → Nat} {Y : Nat → Nat → Nat} {g : Nat → Nat} {X : Nat → Nat → Nat} {kn : Nat} {T G : Nat → Nat → Nat} {Z : Nat → Nat → Nat → Nat} {pa kp : Nat → Nat} {T2 K : Nat → Nat → Nat} {Z2 : Nat → Nat → Nat → Nat} {im : Nat → Nat} {no : Nat} {nt : Nat → Nat}
theorem lb_up (h : lw_B b L tx t Y g X kn T G Z pa kp T2 K Z2 im no nt) : lw_B (b + 400) L tx t Y g X kn T G Z pa kp T2 K Z2 im no nt := by
  obtain ⟨h1, ⟨a1, a2, a3⟩, ⟨b1, b2, b3, b4, b5⟩, ⟨c1, c2, c3, c4⟩, h5⟩ := h
  exact ⟨h1, ⟨a1, by omega, a3⟩, ⟨b1, b2, fun i hi => ⟨(b3 i hi).1, by have := (b3 i hi).2; omega⟩, b4, b5⟩, ⟨c1, c2, fun i h2 h3 => by have := c3 i h2 h3; omega, c4⟩, h5⟩
theorem lb_write {a : Nat} (h : lw_B b L tx t Y g X kn T G Z pa kp T2 K Z2 im no nt) : lw_B (b + 400) (sp_writeL L a) (sp_writeT tx L a) t Y g X kn T G Z pa kp T2 K Z2 im no nt := by
  obtain ⟨⟨⟨x1, x2⟩, h2⟩, hr⟩ := lb_up h
  refine ⟨⟨?_, h2⟩, hr⟩
  unfold sp_writeL sp_writeT
  by_cases c : a ≤ 255 ∧ L < 160
  · rw [if_pos c, if_pos c]
    refine ⟨by omega, fun j hj => ?_⟩
    by_cases e : j = L
    · rw [e, ta_us]; omega
    · rw [ta_un e]; exact x2 j (by omega)
  · rw [if_neg c, if_neg c]; exact ⟨x1, x2⟩
theorem lb_erase (h : lw_B b L tx t Y g X kn T G Z pa kp T2 K Z2 im no nt) : lw_B (b + 400) 0 tx t Y g X kn T G Z pa kp T2 K Z2 im no nt := by
  obtain ⟨⟨_, h2⟩, hr⟩ := lb_up h
  exact ⟨⟨⟨by omega, fun j hj => absurd hj (Nat.not_lt_zero j)⟩, h2⟩, hr⟩
theorem lb_forget (h : lw_B b L tx t Y g X kn T G Z pa kp T2 K Z2 im no nt) : lw_B (b + 400) L tx t Y g X kn T G Z pa kp T2 K Z2 im 0 nt := by
  obtain ⟨h1, h2, h3, h4, h5⟩ := lb_up h
  exact ⟨h1, h2, h3, h4, by omega, fun j hj => absurd hj (Nat.not_lt_zero j)⟩
theorem lb_seen {x mi : Nat} (h : lw_B b L tx t Y g X kn T G Z pa kp T2 K Z2 im no nt) : lw_B (b + 400) L tx t Y g X kn T G Z pa kp T2 K Z2 im (cl_if (sp_seen_c t no x mi) (no + 1) no) (cl_if (sp_seen_c t no x mi) (ta_u nt no (100 * x + mi)) nt) := by
  obtain ⟨h1, h2, h3, h4, h5, h6⟩ := lb_up h
  by_cases c : sp_seen_c t no x mi
  · rw [cl_p c, cl_p c]
    obtain ⟨c1, c2, c3⟩ := c
    obtain ⟨⟨⟨t1, t2, t3, t4, -, -⟩, -⟩, -⟩ := id h2
    have hm : t 0 * t 1 ≤ 36 := tg_36 t2 t4
    refine ⟨h1, h2, h3, h4, by omega, fun j hj => ?_⟩
    by_cases e : j = no
    · rw [e, ta_us]; omega
    · rw [ta_un e]; exact h6 j (by omega)
  · rw [cl_n c, cl_n c]; exact ⟨h1, h2, h3, h4, h5, h6⟩
theorem seen_c {x mi : Nat} : cl_if (sp_seen_c t no x mi) (ta_u (fun j => nt j / 100) no x) (fun j => nt j / 100) = fun j => (cl_if (sp_seen_c t no x mi) (ta_u nt no (100 * x + mi)) nt) j / 100 := by
  by_cases c : sp_seen_c t no x mi
  · rw [cl_p c, cl_p c]
    obtain ⟨c1, c2, c3⟩ := c
    funext j
    by_cases e : j = no
    · rw [e, ta_us, ta_us]; omega
    · rw [ta_un e, ta_un e]
  · rw [cl_n c, cl_n c]
theorem seen_m {x mi : Nat} : cl_if (sp_seen_c t no x mi) (ta_u (fun j => nt j % 100) no mi) (fun j => nt j % 100) = fun j => (cl_if (sp_seen_c t no x mi) (ta_u nt no (100 * x + mi)) nt) j % 100 := by
  by_cases c : sp_seen_c t no x mi
  · rw [cl_p c, cl_p c]
    obtain ⟨c1, c2, c3⟩ := c
    funext j
    by_cases e : j = no
    · rw [e, ta_us, ta_us]; omega
    · rw [ta_un e, ta_un e]
  · rw [cl_n c, cl_n c]
theorem tg_ok_lay {t : Nat → Nat} (h : pl_ok t) : tg_ok t (tg_lay t) := by
  obtain ⟨a0, a3, a4, a5, a6, a7, a8⟩ := id h
  obtain ⟨-, -, -, -, m1, -⟩ := id a0
  refine ⟨a0, show 0 < t 2 by omega, a3, a4, Or.inl ⟨rfl, rfl⟩, a5, a6, fun k hk => ?_, fun k hk => ?_⟩
  · have hk : k < t 5 := hk
    have e : tg_lay t (8 + k) = t (7 + k) := by
      unfold tg_lay
      rw [if_neg (by omega), if_neg (by omega), if_neg (by omega), if_pos (by omega), show 8 + k - 1 = 7 + k by omega]
    rw [e]
    exact a7 k hk
  · have hk : k < t 6 := hk
    have e : tg_lay t (16 + k) = t (15 + k) := by
      unfold tg_lay
      rw [if_neg (by omega), if_neg (by omega), if_neg (by omega), if_pos (by omega), show 16 + k - 1 = 15 + k by omega]
    rw [e]
    exact a8 k hk
theorem lb_parade {Y2 X2 : Nat → Nat → Nat} (h : lw_B b L tx t Y g X kn T G Z pa kp T2 K Z2 im no nt) (hX : tg_X (cl_if ((rd_go tx L 14 0 t).1 = 4294967295) (tg_lay (rd_go tx L 14 0 t).2.2) g) X2) (hY : pl_X (cl_if ((rd_go tx L 14 0 t).1 = 4294967295) (rd_go tx L 14 0 t).2.2 t) Y2) :
    lw_B (b + 400) (cl_if ((rd_go tx L 14 0 t).1 = 4294967295) 0 L) tx (cl_if ((rd_go tx L 14 0 t).1 = 4294967295) (rd_go tx L 14 0 t).2.2 t) Y2 (cl_if ((rd_go tx L 14 0 t).1 = 4294967295) (tg_lay (rd_go tx L 14 0 t).2.2) g) X2 (cl_if ((rd_go tx L 14 0 t).1 = 4294967295) 0 kn) T G Z pa (cl_if ((rd_go tx L 14 0 t).1 = 4294967295) (fun _ => 0) kp) T2 K Z2 im (cl_if ((rd_go tx L 14 0 t).1 = 4294967295) 0 no) nt := by
  obtain ⟨⟨x0, p0, y0⟩, ⟨a1, a2, a3⟩, h3, h4, h5⟩ := lb_up h
  by_cases c : (rd_go tx L 14 0 t).1 = 4294967295
  · simp only [cl_p c] at hX hY ⊢
    have hp := (rd_go_ok x0.1 14 0 t p0 (Nat.zero_le _) c).1
    refine ⟨⟨⟨by omega, fun j hj => absurd hj (Nat.not_lt_zero j)⟩, hp, hY⟩, ⟨tg_ok_lay hp, Nat.zero_le _, hX⟩, ⟨by omega, fun i hi => absurd hi (Nat.not_lt_zero i), fun i hi => absurd hi (Nat.not_lt_zero i), fun i hi => absurd hi (Nat.not_lt_zero i), fun i hi => absurd hi (Nat.not_lt_zero i)⟩, ⟨fun i _ => Nat.zero_le _, fun i _ h9 => absurd rfl h9, fun i _ h9 => absurd rfl h9, fun i _ h9 => absurd rfl h9⟩, by omega, fun j hj => absurd hj (Nat.not_lt_zero j)⟩
  · simp only [cl_n c] at hX hY ⊢
    exact ⟨⟨x0, p0, hY⟩, ⟨a1, a2, hX⟩, h3, h4, h5⟩
theorem sp_G_all {P : (Nat → Nat) → Prop} (hk : kn ≤ 8) (h : ∀ i, i < kn → P (G i)) (hg : P g) : ∀ i, i < sp_n kn → P (sp_G kn G g i) := by
  intro i hi
  unfold sp_n at hi
  unfold sp_G
  by_cases c : kn < 8
  · rw [if_pos c] at hi ⊢
    show P (if i = kn then g else G i)
    split
    · exact hg
    · exact h i (by omega)
  · rw [if_neg c] at hi ⊢
    show P (if i = 7 then g else if i < 7 then G (i + 1) else G 0)
    split
    · exact hg
    · rw [if_pos (by omega)]; exact h _ (by omega)
theorem sp_n_b (hk : kn ≤ 8) : sp_n kn ≤ 8 := by unfold sp_n; split <;> omega
/-- a call that may change the day, so that it can be undone -/
theorem lb_rem {c : Prop} {g2 : Nat → Nat} {X2 T3 : Nat → Nat → Nat} {Z3 : Nat → Nat → Nat → Nat} (h : lw_B b L tx t Y g X kn T G Z pa kp T2 K Z2 im no nt) (hc : c → tg_ok t g2 ∧ g2 0 ≤ b + 400) (hT : ∀ i, i < cl_if c (sp_n kn) kn → T3 i = t) (hZ : ∀ i, i < cl_if c (sp_n kn) kn → tg_X (cl_if c (sp_G kn G g) G i) (Z3 i)) (hX : tg_X (cl_if c g2 g) X2) :
    lw_B (b + 400) L tx t Y (cl_if c g2 g) X2 (cl_if c (sp_n kn) kn) T3 (cl_if c (sp_G kn G g) G) Z3 (cl_if c (mo_pa kn pa g) pa) kp T2 K Z2 im no nt := by
  obtain ⟨h1, ⟨a1, a2, a3⟩, ⟨b1, b2, b3, b4, b5⟩, h4, h5⟩ := lb_up h
  by_cases q : c
  · simp only [cl_p q] at hT hZ hX ⊢
    exact ⟨h1, ⟨(hc q).1, (hc q).2, hX⟩, ⟨sp_n_b b1, hT, sp_G_all (P := fun z => tg_ok t z ∧ z 0 ≤ b + 400) b1 b3 ⟨a1, a2⟩, hZ, mo_Pk b1 b5⟩, h4, h5⟩
  · simp only [cl_n q] at hT hZ hX ⊢
    exact ⟨h1, ⟨a1, a2, hX⟩, ⟨b1, hT, b3, hZ, b5⟩, h4, h5⟩
theorem lb_undo {X2 : Nat → Nat → Nat} (h : lw_B b L tx t Y g X kn T G Z pa kp T2 K Z2 im no nt) (hX : tg_X (cl_if (kn = 0) g (G (kn - 1))) X2) : lw_B (b + 400) L tx t Y (cl_if (kn = 0) g (G (kn - 1))) X2 (kn - 1) T G Z pa kp T2 K Z2 im no nt := by
  obtain ⟨h1, ⟨a1, a2, a3⟩, ⟨b1, b2, b3, b4, b5⟩, h4, h5⟩ := lb_up h
  refine ⟨h1, ?_, ⟨by omega, fun i hi => b2 i (by omega), fun i hi => b3 i (by omega), fun i hi => b4 i (by omega), fun i hi => b5 i (by omega)⟩, h4, h5⟩
  by_cases q : kn = 0
  · simp only [cl_p q] at hX ⊢
    exact ⟨a1, a2, hX⟩
  · simp only [cl_n q] at hX ⊢
    exact ⟨(b3 _ (by omega)).1, (b3 _ (by omega)).2, hX⟩
theorem lb_keep {x : Nat} {T3 : Nat → Nat → Nat} {Z3 : Nat → Nat → Nat → Nat} (h : lw_B b L tx t Y g X kn T G Z pa kp T2 K Z2 im no nt) (hK : ∀ i, i < 2 → cl_if (x < 2) (ta_u kp x 1) kp i ≠ 0 → T3 i = t ∧ tg_X (cl_if (x < 2) (va_up K x g) K i) (Z3 i)) :
    lw_B (b + 400) L tx t Y g X kn T G Z pa (cl_if (x < 2) (ta_u kp x 1) kp) T3 (cl_if (x < 2) (va_up K x g) K) Z3 (cl_if (x < 2) (va_cpy g im 0 (66 * x) 66) im) no nt := by
  obtain ⟨h1, ⟨a1, a2, a3⟩, h3, ⟨c1, c2, c3, c4⟩, h5⟩ := lb_up h
  by_cases q : x < 2
  · simp only [cl_p q] at hK ⊢
    refine ⟨h1, ⟨a1, a2, a3⟩, h3, ⟨fun i hi => ?_, fun i hi h9 => ⟨(hK i hi h9).1, ?_, (hK i hi h9).2⟩, fun i hi h9 => ?_, mo_Kk c4⟩, h5⟩
    · by_cases e : i = x
      · rw [e, ta_us]; omega
      · rw [ta_un e]; exact c1 i hi
    · show tg_ok t (if i = x then g else K i)
      by_cases e : i = x
      · rw [if_pos e]; exact a1
      · rw [if_neg e]; rw [ta_un e] at h9; exact (c2 i hi h9).2.1
    · show (if i = x then g else K i) 0 ≤ b + 400
      by_cases e : i = x
      · rw [if_pos e]; exact a2
      · rw [if_neg e]; rw [ta_un e] at h9; exact c3 i hi h9
  · simp only [cl_n q] at hK ⊢
    exact ⟨h1, ⟨a1, a2, a3⟩, h3, ⟨c1, fun i hi h9 => ⟨(hK i hi h9).1, (c2 i hi h9).2.1, (hK i hi h9).2⟩, c3, c4⟩, h5⟩
theorem lb_back {x : Nat} {X2 : Nat → Nat → Nat} (h : lw_B b L tx t Y g X kn T G Z pa kp T2 K Z2 im no nt) (hX : tg_X (cl_if (sp_back_c kp x) (K x) g) X2) : lw_B (b + 400) L tx t Y (cl_if (sp_back_c kp x) (K x) g) X2 (cl_if (sp_back_c kp x) 0 kn) T G Z pa kp T2 K Z2 im no nt := by
  obtain ⟨h1, ⟨a1, a2, a3⟩, ⟨b1, b2, b3, b4, b5⟩, ⟨c1, c2, c3, c4⟩, h5⟩ := lb_up h
  by_cases q : sp_back_c kp x
  · simp only [cl_p q] at hX ⊢
    exact ⟨h1, ⟨(c2 x q.1 q.2).2.1, c3 x q.1 q.2, hX⟩, ⟨by omega, fun i hi => absurd hi (Nat.not_lt_zero i), fun i hi => absurd hi (Nat.not_lt_zero i), fun i hi => absurd hi (Nat.not_lt_zero i), fun i hi => absurd hi (Nat.not_lt_zero i)⟩, ⟨c1, c2, c3, c4⟩, h5⟩
  · simp only [cl_n q] at hX ⊢
    exact ⟨h1, ⟨a1, a2, hX⟩, ⟨b1, b2, b3, b4, b5⟩, ⟨c1, c2, c3, c4⟩, h5⟩
end LWB
