theorem zt1 (x : Int32) (h : 0 ≤ x) (h2 : x < 9) : x + 1 ≤ 9 := by grind
theorem zt2 (x w : Int32) (h : 0 ≤ x) (h2 : x < w) (h3 : w ≤ 6) : x + 1 = w ∨ x + 1 < w := by grind
theorem zt3 (x : Int32) (h : 0 ≤ x) (h2 : x < 9) : vp_in x 9 := by rw [vp_in_iff]; grind
