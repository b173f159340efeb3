section TAP
variable {p : Program} {l : Launch} {e : Env} {R : Room} {s : State} {m : MethodId} {args : Array Value} {below : List Frame} {meth : Method} {c : Code} {H : Heap} {locs : List Loc} {cells slots : Nat} {Q : State → Prop} {cc : ByteArray} {pc : Nat} {ls : Array Slot} {rest : List Value}
variable {D : va_G} {k : ta_C} {own : String} {nL : Nat} {A : Nat → Prop} {ws : va_W} {a : Nat}
theorem ta_aast (C : ta_At p l D k s m args c own cc nL A) (hP : va_P D vwCl ws H) (hD : va_D A ws) (hS : va_S A s.heap H locs) (q0 t0 qk ci : Nat) {cA : ClassId} {r : vw_C} {n v i : Nat} {vs : List Value} {f : Nat → Option Nat} (ha : ws[q0]? = some (a, .inl (cA, n, .inr (.inr (.inr (.inr f)))))) (ht : (ta_tys k)[t0]? = some (cA, .object r.1)) (hv : ws[qk]? = some (v, .inr (ci, vs))) (hc : vwCl[ci]? = some r) (hi : i < n) (hdg : decode cc pc = .ok (.aastore, 1))
    (kk : ∀ (H1 : Heap) (locs1 : List Loc), va_P D vwCl (ws.set q0 (a, .inl (cA, n, .inr (.inr (.inr (.inr (va_up f i (some v)))))))) H1 → va_D A (ws.set q0 (a, .inl (cA, n, .inr (.inr (.inr (.inr (va_up f i (some v)))))))) → va_S A s.heap H1 locs1 → W p l e R s m args below meth c H1 locs1 cells slots Q (F0 m (pc + 1) ls rest)) (hn : n < 2147483648 := by decide) : W p l e R s m args below meth c H locs cells slots Q (F0 m pc ls (.ref v :: .int (nI i) :: .ref a :: rest)) := by
  have h1 : (nI i).toNatClampNeg = i := nI_clamp (Nat.lt_trans hi hn)
  refine va_astq C.1.1 C.1.2.1 C.2.1.1 hP hD hS q0 t0 qk ci ha ht hv hc (vp_in_nI hi hn) hdg ?_
  rw [h1]
  exact kk
end TAP
theorem ta_re {D : va_G} {cl : List vw_C} {H : Heap} {a n : Nat} {cA : ClassId} {f g : Nat → Option Nat} (h : ∀ j, j < n → f j = g j) (h2 : va_at D cl (a, .inl (cA, n, .inr (.inr (.inr (.inr f))))) H) : va_at D cl (a, .inl (cA, n, .inr (.inr (.inr (.inr g))))) H := by
  have e : vp_cell cA (n, .inr (.inr (.inr (.inr f)))) = vp_cell cA (n, .inr (.inr (.inr (.inr g)))) := by
    show arrV cA n (fun j => va_rf (f j)) = arrV cA n (fun j => va_rf (g j))
    have e2 : (Array.ofFn (n := n) fun j => va_rf (f j.val)) = Array.ofFn (n := n) fun j => va_rf (g j.val) := by
      congr 1
      funext j
      rw [h j.val j.isLt]
    simp only [arrV, e2]
  show H[a]? = some (vp_cell cA (n, .inr (.inr (.inr (.inr g)))))
  rw [← e]
  exact h2
/-- the days that can be gone back to, in the array's order: addresses d, what each holds T G Z -/
def ta_pd (d : Nat → Nat → Nat) : Nat → Option Nat := fun j => some (d j 0)
def ta_rot {α : Type} (f : Nat → α) : Nat → α := fun j => if j < 7 then f (j + 1) else f 0
def pdW (k : ta_C) (d T G : Nat → Nat → Nat) (Z : Nat → Nat → Nat → Nat) : va_W := dyW k (d 0) (T 0) (G 0) (Z 0) ++ (dyW k (d 1) (T 1) (G 1) (Z 1) ++ (dyW k (d 2) (T 2) (G 2) (Z 2) ++ (dyW k (d 3) (T 3) (G 3) (Z 3) ++ (dyW k (d 4) (T 4) (G 4) (Z 4) ++ (dyW k (d 5) (T 5) (G 5) (Z 5) ++ (dyW k (d 6) (T 6) (G 6) (Z 6) ++ dyW k (d 7) (T 7) (G 7) (Z 7)))))))
set_option maxHeartbeats 4000000 in
set_option maxRecDepth 100000 in
theorem c_X2_dropOldest (l : Launch) (D : va_G) (k : ta_C) (pz : Nat → Nat) (d : Nat → Nat → Nat) (T : Nat → Nat → Nat) (G : Nat → Nat → Nat) (Z : Nat → Nat → Nat → Nat) : ta_Mv (S := Unit) l D k yX2_dropOldest cX2_dropOldest 3 0 0 [.ref (pz 0)] ([(pz 0, .inr (2, [.ref (pz 1), .int (nI 8)])), (pz 1, .inl (k.1 3, 8, .inr (.inr (.inr (.inr (ta_pd d))))))] ++ (pdW k d T G Z)) (fun _ => True) (fun u => ([(pz 0, .inr (2, [.ref (pz 1), .int (nI 7)])), (pz 1, .inl (k.1 3, 8, .inr (.inr (.inr (.inr (ta_pd (ta_rot d)))))))] ++ (pdW k (ta_rot d) (ta_rot T) (ta_rot G) (ta_rot Z)))) := by
  refine ta_enter_v (by decide) (Nat.le_of_ble_eq_true rfl) ?_
  intro p e s m below meth c A ls Q C ret hP hD hS hl
  have C : ta_At p l D k s m ([.ref (pz 0)] : List Value).toArray c RX2 cX2_dropOldest 3 A := C
  have hx := C.1.1
  have hb := C.1.2.1
  have hl : lv_has ls 3 [(0, .ref (pz 0))] := hl
  obtain ⟨H, hH⟩ : ∃ H, H = s.heap := ⟨_, rfl⟩
  obtain ⟨locs, hlocs⟩ : ∃ q : List Loc, q = [] := ⟨_, rfl⟩
  have hP : va_P D vwCl ([(pz 0, .inr (2, [.ref (pz 1), .int (nI 8)])), (pz 1, .inl (k.1 3, 8, .inr (.inr (.inr (.inr (ta_pd d))))))] ++ (pdW k d T G Z)) H := by rw [hH]; exact hP
  have hS : va_S A s.heap H locs := by rw [hH, hlocs]; exact hS
  rw [← hlocs]
  suffices hgoal : W p l e ({ frames := 0, cells := 0, slots := 0, locals := 0 }) s m ([.ref (pz 0)] : List Value).toArray below meth c H locs 0 0 Q (F0 m 0 ls []) by rw [hH] at hgoal; exact hgoal
  clear hH hlocs
  have hP : va_P D vwCl ([(pz 0, .inr (2, [.ref (pz 1), .int (nI 8)])), (pz 1, .inl (k.1 3, 8, .inr (.inr (.inr (.inr (ta_pd d))))))] ++ ((dyW k (d 0) (T 0) (G 0) (Z 0)) ++ ((dyW k (d 1) (T 1) (G 1) (Z 1)) ++ ((dyW k (d 2) (T 2) (G 2) (Z 2)) ++ ((dyW k (d 3) (T 3) (G 3) (Z 3)) ++ ((dyW k (d 4) (T 4) (G 4) (Z 4)) ++ ((dyW k (d 5) (T 5) (G 5) (Z 5)) ++ ((dyW k (d 6) (T 6) (G 6) (Z 6)) ++ (dyW k (d 7) (T 7) (G 7) (Z 7)))))))))) H := hP
  have hD : va_D A ([(pz 0, .inr (2, [.ref (pz 1), .int (nI 8)])), (pz 1, .inl (k.1 3, 8, .inr (.inr (.inr (.inr (ta_pd d))))))] ++ ((dyW k (d 0) (T 0) (G 0) (Z 0)) ++ ((dyW k (d 1) (T 1) (G 1) (Z 1)) ++ ((dyW k (d 2) (T 2) (G 2) (Z 2)) ++ ((dyW k (d 3) (T 3) (G 3) (Z 3)) ++ ((dyW k (d 4) (T 4) (G 4) (Z 4)) ++ ((dyW k (d 5) (T 5) (G 5) (Z 5)) ++ ((dyW k (d 6) (T 6) (G 6) (Z 6)) ++ (dyW k (d 7) (T 7) (G 7) (Z 7)))))))))) := hD
  refine lv_aload_n hx hb dX2_dropOldest_0 rfl (lv_at hl 0 rfl) ?_
  refine ta_get C hP 0 inlX2 rfl rfl 0 (by decide) tw_88 rfl dX2_dropOldest_1 ?_
  refine ta_iconst C 0 dX2_dropOldest_4 (by decide) ?_
  refine ta_aald C hP 1 3 rfl rfl (i := 0) (x := d 0 0) (by omega) rfl dX2_dropOldest_5 ?_
  refine lv_astore_n (lv' := [(1, .ref (d 0 0)), (0, .ref (pz 0))]) hx hb dX2_dropOldest_6 rfl hl (by decide) rfl (fun ls hl => ?_)
  refine ta_iconst C 1 dX2_dropOldest_7 (by decide) ?_
  refine lv_istore_n (lv' := [(2, .int (nI 1)), (1, .ref (d 0 0)), (0, .ref (pz 0))]) hx hb dX2_dropOldest_8 rfl hl (by decide) rfl (fun ls hl => ?_)
  refine lv_iload_n hx hb dX2_dropOldest_9 rfl (lv_at hl 0 rfl) ?_
  refine ta_bipush C 8 dX2_dropOldest_10 (by decide) ?_
  refine lv_icmp_ge (tgt := 35) hx hb dX2_dropOldest_12 (by decide) (fun c1 => ?_) (fun c1 => ?_)
  · exact absurd c1 (by decide)
  · refine lv_aload_n hx hb dX2_dropOldest_15 rfl (lv_at hl 2 rfl) ?_
    refine ta_get C hP 0 inlX2 rfl rfl 0 (by decide) tw_88 rfl dX2_dropOldest_16 ?_
    refine lv_iload_n hx hb dX2_dropOldest_19 rfl (lv_at hl 0 rfl) ?_
    refine ta_iconst C 1 dX2_dropOldest_20 (by decide) ?_
    refine ta_isub C (a := 1) (b := 1) (by omega) dX2_dropOldest_21 ?_
    refine lv_aload_n hx hb dX2_dropOldest_22 rfl (lv_at hl 2 rfl) ?_
    refine ta_get C hP 0 inlX2 rfl rfl 0 (by decide) tw_88 rfl dX2_dropOldest_23 ?_
    refine lv_iload_n hx hb dX2_dropOldest_26 rfl (lv_at hl 0 rfl) ?_
    refine ta_aald C hP 1 3 rfl rfl (i := 1) (x := d 1 0) (by omega) rfl dX2_dropOldest_27 ?_
    refine ta_aast C hP hD hS 1 3 13 0 rfl rfl rfl rfl (i := 0) (by omega) dX2_dropOldest_28 (fun H locs hP hD hS => ?_)
    have hP : va_P D vwCl ([(pz 0, .inr (2, [.ref (pz 1), .int (nI 8)])), (pz 1, .inl (k.1 3, 8, .inr (.inr (.inr (.inr (va_up (ta_pd d) 0 (some (d 1 0))))))))] ++ ((dyW k (d 0) (T 0) (G 0) (Z 0)) ++ ((dyW k (d 1) (T 1) (G 1) (Z 1)) ++ ((dyW k (d 2) (T 2) (G 2) (Z 2)) ++ ((dyW k (d 3) (T 3) (G 3) (Z 3)) ++ ((dyW k (d 4) (T 4) (G 4) (Z 4)) ++ ((dyW k (d 5) (T 5) (G 5) (Z 5)) ++ ((dyW k (d 6) (T 6) (G 6) (Z 6)) ++ (dyW k (d 7) (T 7) (G 7) (Z 7)))))))))) H := hP
    have hD : va_D A ([(pz 0, .inr (2, [.ref (pz 1), .int (nI 8)])), (pz 1, .inl (k.1 3, 8, .inr (.inr (.inr (.inr (va_up (ta_pd d) 0 (some (d 1 0))))))))] ++ ((dyW k (d 0) (T 0) (G 0) (Z 0)) ++ ((dyW k (d 1) (T 1) (G 1) (Z 1)) ++ ((dyW k (d 2) (T 2) (G 2) (Z 2)) ++ ((dyW k (d 3) (T 3) (G 3) (Z 3)) ++ ((dyW k (d 4) (T 4) (G 4) (Z 4)) ++ ((dyW k (d 5) (T 5) (G 5) (Z 5)) ++ ((dyW k (d 6) (T 6) (G 6) (Z 6)) ++ (dyW k (d 7) (T 7) (G 7) (Z 7)))))))))) := hD
    refine lv_iinc (v := nI 2) (lv' := [(2, .int (nI 2)), (1, .ref (d 0 0)), (0, .ref (pz 0))]) hx hb dX2_dropOldest_29 hl (k := 0) rfl (by decide) (by decide) rfl (fun ls hl => ?_)
    refine lv_goto (tgt := 9) hx hb dX2_dropOldest_32 (by decide) ?_
    refine lv_iload_n hx hb dX2_dropOldest_9 rfl (lv_at hl 0 rfl) ?_
    refine ta_bipush C 8 dX2_dropOldest_10 (by decide) ?_
    refine lv_icmp_ge (tgt := 35) hx hb dX2_dropOldest_12 (by decide) (fun c2 => ?_) (fun c2 => ?_)
    · exact absurd c2 (by decide)
    · refine lv_aload_n hx hb dX2_dropOldest_15 rfl (lv_at hl 2 rfl) ?_
      refine ta_get C hP 0 inlX2 rfl rfl 0 (by decide) tw_88 rfl dX2_dropOldest_16 ?_
      refine lv_iload_n hx hb dX2_dropOldest_19 rfl (lv_at hl 0 rfl) ?_
      refine ta_iconst C 1 dX2_dropOldest_20 (by decide) ?_
      refine ta_isub C (a := 2) (b := 1) (by omega) dX2_dropOldest_21 ?_
      refine lv_aload_n hx hb dX2_dropOldest_22 rfl (lv_at hl 2 rfl) ?_
      refine ta_get C hP 0 inlX2 rfl rfl 0 (by decide) tw_88 rfl dX2_dropOldest_23 ?_
      refine lv_iload_n hx hb dX2_dropOldest_26 rfl (lv_at hl 0 rfl) ?_
      refine ta_aald C hP 1 3 rfl rfl (i := 2) (x := d 2 0) (by omega) rfl dX2_dropOldest_27 ?_
      refine ta_aast C hP hD hS 1 3 24 0 rfl rfl rfl rfl (i := 1) (by omega) dX2_dropOldest_28 (fun H locs hP hD hS => ?_)
      have hP : va_P D vwCl ([(pz 0, .inr (2, [.ref (pz 1), .int (nI 8)])), (pz 1, .inl (k.1 3, 8, .inr (.inr (.inr (.inr (va_up (va_up (ta_pd d) 0 (some (d 1 0))) 1 (some (d 2 0))))))))] ++ ((dyW k (d 0) (T 0) (G 0) (Z 0)) ++ ((dyW k (d 1) (T 1) (G 1) (Z 1)) ++ ((dyW k (d 2) (T 2) (G 2) (Z 2)) ++ ((dyW k (d 3) (T 3) (G 3) (Z 3)) ++ ((dyW k (d 4) (T 4) (G 4) (Z 4)) ++ ((dyW k (d 5) (T 5) (G 5) (Z 5)) ++ ((dyW k (d 6) (T 6) (G 6) (Z 6)) ++ (dyW k (d 7) (T 7) (G 7) (Z 7)))))))))) H := hP
      have hD : va_D A ([(pz 0, .inr (2, [.ref (pz 1), .int (nI 8)])), (pz 1, .inl (k.1 3, 8, .inr (.inr (.inr (.inr (va_up (va_up (ta_pd d) 0 (some (d 1 0))) 1 (some (d 2 0))))))))] ++ ((dyW k (d 0) (T 0) (G 0) (Z 0)) ++ ((dyW k (d 1) (T 1) (G 1) (Z 1)) ++ ((dyW k (d 2) (T 2) (G 2) (Z 2)) ++ ((dyW k (d 3) (T 3) (G 3) (Z 3)) ++ ((dyW k (d 4) (T 4) (G 4) (Z 4)) ++ ((dyW k (d 5) (T 5) (G 5) (Z 5)) ++ ((dyW k (d 6) (T 6) (G 6) (Z 6)) ++ (dyW k (d 7) (T 7) (G 7) (Z 7)))))))))) := hD
      refine lv_iinc (v := nI 3) (lv' := [(2, .int (nI 3)), (1, .ref (d 0 0)), (0, .ref (pz 0))]) hx hb dX2_dropOldest_29 hl (k := 0) rfl (by decide) (by decide) rfl (fun ls hl => ?_)
      refine lv_goto (tgt := 9) hx hb dX2_dropOldest_32 (by decide) ?_
      refine lv_iload_n hx hb dX2_dropOldest_9 rfl (lv_at hl 0 rfl) ?_
      refine ta_bipush C 8 dX2_dropOldest_10 (by decide) ?_
      refine lv_icmp_ge (tgt := 35) hx hb dX2_dropOldest_12 (by decide) (fun c3 => ?_) (fun c3 => ?_)
      · exact absurd c3 (by decide)
      · refine lv_aload_n hx hb dX2_dropOldest_15 rfl (lv_at hl 2 rfl) ?_
        refine ta_get C hP 0 inlX2 rfl rfl 0 (by decide) tw_88 rfl dX2_dropOldest_16 ?_
        refine lv_iload_n hx hb dX2_dropOldest_19 rfl (lv_at hl 0 rfl) ?_
        refine ta_iconst C 1 dX2_dropOldest_20 (by decide) ?_
        refine ta_isub C (a := 3) (b := 1) (by omega) dX2_dropOldest_21 ?_
        refine lv_aload_n hx hb dX2_dropOldest_22 rfl (lv_at hl 2 rfl) ?_
        refine ta_get C hP 0 inlX2 rfl rfl 0 (by decide) tw_88 rfl dX2_dropOldest_23 ?_
        refine lv_iload_n hx hb dX2_dropOldest_26 rfl (lv_at hl 0 rfl) ?_
        refine ta_aald C hP 1 3 rfl rfl (i := 3) (x := d 3 0) (by omega) rfl dX2_dropOldest_27 ?_
        refine ta_aast C hP hD hS 1 3 35 0 rfl rfl rfl rfl (i := 2) (by omega) dX2_dropOldest_28 (fun H locs hP hD hS => ?_)
        have hP : va_P D vwCl ([(pz 0, .inr (2, [.ref (pz 1), .int (nI 8)])), (pz 1, .inl (k.1 3, 8, .inr (.inr (.inr (.inr (va_up (va_up (va_up (ta_pd d) 0 (some (d 1 0))) 1 (some (d 2 0))) 2 (some (d 3 0))))))))] ++ ((dyW k (d 0) (T 0) (G 0) (Z 0)) ++ ((dyW k (d 1) (T 1) (G 1) (Z 1)) ++ ((dyW k (d 2) (T 2) (G 2) (Z 2)) ++ ((dyW k (d 3) (T 3) (G 3) (Z 3)) ++ ((dyW k (d 4) (T 4) (G 4) (Z 4)) ++ ((dyW k (d 5) (T 5) (G 5) (Z 5)) ++ ((dyW k (d 6) (T 6) (G 6) (Z 6)) ++ (dyW k (d 7) (T 7) (G 7) (Z 7)))))))))) H := hP
        have hD : va_D A ([(pz 0, .inr (2, [.ref (pz 1), .int (nI 8)])), (pz 1, .inl (k.1 3, 8, .inr (.inr (.inr (.inr (va_up (va_up (va_up (ta_pd d) 0 (some (d 1 0))) 1 (some (d 2 0))) 2 (some (d 3 0))))))))] ++ ((dyW k (d 0) (T 0) (G 0) (Z 0)) ++ ((dyW k (d 1) (T 1) (G 1) (Z 1)) ++ ((dyW k (d 2) (T 2) (G 2) (Z 2)) ++ ((dyW k (d 3) (T 3) (G 3) (Z 3)) ++ ((dyW k (d 4) (T 4) (G 4) (Z 4)) ++ ((dyW k (d 5) (T 5) (G 5) (Z 5)) ++ ((dyW k (d 6) (T 6) (G 6) (Z 6)) ++ (dyW k (d 7) (T 7) (G 7) (Z 7)))))))))) := hD
        refine lv_iinc (v := nI 4) (lv' := [(2, .int (nI 4)), (1, .ref (d 0 0)), (0, .ref (pz 0))]) hx hb dX2_dropOldest_29 hl (k := 0) rfl (by decide) (by decide) rfl (fun ls hl => ?_)
        refine lv_goto (tgt := 9) hx hb dX2_dropOldest_32 (by decide) ?_
        refine lv_iload_n hx hb dX2_dropOldest_9 rfl (lv_at hl 0 rfl) ?_
        refine ta_bipush C 8 dX2_dropOldest_10 (by decide) ?_
        refine lv_icmp_ge (tgt := 35) hx hb dX2_dropOldest_12 (by decide) (fun c4 => ?_) (fun c4 => ?_)
        · exact absurd c4 (by decide)
        · refine lv_aload_n hx hb dX2_dropOldest_15 rfl (lv_at hl 2 rfl) ?_
          refine ta_get C hP 0 inlX2 rfl rfl 0 (by decide) tw_88 rfl dX2_dropOldest_16 ?_
          refine lv_iload_n hx hb dX2_dropOldest_19 rfl (lv_at hl 0 rfl) ?_
          refine ta_iconst C 1 dX2_dropOldest_20 (by decide) ?_
          refine ta_isub C (a := 4) (b := 1) (by omega) dX2_dropOldest_21 ?_
          refine lv_aload_n hx hb dX2_dropOldest_22 rfl (lv_at hl 2 rfl) ?_
          refine ta_get C hP 0 inlX2 rfl rfl 0 (by decide) tw_88 rfl dX2_dropOldest_23 ?_
          refine lv_iload_n hx hb dX2_dropOldest_26 rfl (lv_at hl 0 rfl) ?_
          refine ta_aald C hP 1 3 rfl rfl (i := 4) (x := d 4 0) (by omega) rfl dX2_dropOldest_27 ?_
          refine ta_aast C hP hD hS 1 3 46 0 rfl rfl rfl rfl (i := 3) (by omega) dX2_dropOldest_28 (fun H locs hP hD hS => ?_)
          have hP : va_P D vwCl ([(pz 0, .inr (2, [.ref (pz 1), .int (nI 8)])), (pz 1, .inl (k.1 3, 8, .inr (.inr (.inr (.inr (va_up (va_up (va_up (va_up (ta_pd d) 0 (some (d 1 0))) 1 (some (d 2 0))) 2 (some (d 3 0))) 3 (some (d 4 0))))))))] ++ ((dyW k (d 0) (T 0) (G 0) (Z 0)) ++ ((dyW k (d 1) (T 1) (G 1) (Z 1)) ++ ((dyW k (d 2) (T 2) (G 2) (Z 2)) ++ ((dyW k (d 3) (T 3) (G 3) (Z 3)) ++ ((dyW k (d 4) (T 4) (G 4) (Z 4)) ++ ((dyW k (d 5) (T 5) (G 5) (Z 5)) ++ ((dyW k (d 6) (T 6) (G 6) (Z 6)) ++ (dyW k (d 7) (T 7) (G 7) (Z 7)))))))))) H := hP
          have hD : va_D A ([(pz 0, .inr (2, [.ref (pz 1), .int (nI 8)])), (pz 1, .inl (k.1 3, 8, .inr (.inr (.inr (.inr (va_up (va_up (va_up (va_up (ta_pd d) 0 (some (d 1 0))) 1 (some (d 2 0))) 2 (some (d 3 0))) 3 (some (d 4 0))))))))] ++ ((dyW k (d 0) (T 0) (G 0) (Z 0)) ++ ((dyW k (d 1) (T 1) (G 1) (Z 1)) ++ ((dyW k (d 2) (T 2) (G 2) (Z 2)) ++ ((dyW k (d 3) (T 3) (G 3) (Z 3)) ++ ((dyW k (d 4) (T 4) (G 4) (Z 4)) ++ ((dyW k (d 5) (T 5) (G 5) (Z 5)) ++ ((dyW k (d 6) (T 6) (G 6) (Z 6)) ++ (dyW k (d 7) (T 7) (G 7) (Z 7)))))))))) := hD
          refine lv_iinc (v := nI 5) (lv' := [(2, .int (nI 5)), (1, .ref (d 0 0)), (0, .ref (pz 0))]) hx hb dX2_dropOldest_29 hl (k := 0) rfl (by decide) (by decide) rfl (fun ls hl => ?_)
          refine lv_goto (tgt := 9) hx hb dX2_dropOldest_32 (by decide) ?_
          refine lv_iload_n hx hb dX2_dropOldest_9 rfl (lv_at hl 0 rfl) ?_
          refine ta_bipush C 8 dX2_dropOldest_10 (by decide) ?_
          refine lv_icmp_ge (tgt := 35) hx hb dX2_dropOldest_12 (by decide) (fun c5 => ?_) (fun c5 => ?_)
          · exact absurd c5 (by decide)
          · refine lv_aload_n hx hb dX2_dropOldest_15 rfl (lv_at hl 2 rfl) ?_
            refine ta_get C hP 0 inlX2 rfl rfl 0 (by decide) tw_88 rfl dX2_dropOldest_16 ?_
            refine lv_iload_n hx hb dX2_dropOldest_19 rfl (lv_at hl 0 rfl) ?_
            refine ta_iconst C 1 dX2_dropOldest_20 (by decide) ?_
            refine ta_isub C (a := 5) (b := 1) (by omega) dX2_dropOldest_21 ?_
            refine lv_aload_n hx hb dX2_dropOldest_22 rfl (lv_at hl 2 rfl) ?_
            refine ta_get C hP 0 inlX2 rfl rfl 0 (by decide) tw_88 rfl dX2_dropOldest_23 ?_
            refine lv_iload_n hx hb dX2_dropOldest_26 rfl (lv_at hl 0 rfl) ?_
            refine ta_aald C hP 1 3 rfl rfl (i := 5) (x := d 5 0) (by omega) rfl dX2_dropOldest_27 ?_
            refine ta_aast C hP hD hS 1 3 57 0 rfl rfl rfl rfl (i := 4) (by omega) dX2_dropOldest_28 (fun H locs hP hD hS => ?_)
            have hP : va_P D vwCl ([(pz 0, .inr (2, [.ref (pz 1), .int (nI 8)])), (pz 1, .inl (k.1 3, 8, .inr (.inr (.inr (.inr (va_up (va_up (va_up (va_up (va_up (ta_pd d) 0 (some (d 1 0))) 1 (some (d 2 0))) 2 (some (d 3 0))) 3 (some (d 4 0))) 4 (some (d 5 0))))))))] ++ ((dyW k (d 0) (T 0) (G 0) (Z 0)) ++ ((dyW k (d 1) (T 1) (G 1) (Z 1)) ++ ((dyW k (d 2) (T 2) (G 2) (Z 2)) ++ ((dyW k (d 3) (T 3) (G 3) (Z 3)) ++ ((dyW k (d 4) (T 4) (G 4) (Z 4)) ++ ((dyW k (d 5) (T 5) (G 5) (Z 5)) ++ ((dyW k (d 6) (T 6) (G 6) (Z 6)) ++ (dyW k (d 7) (T 7) (G 7) (Z 7)))))))))) H := hP
            have hD : va_D A ([(pz 0, .inr (2, [.ref (pz 1), .int (nI 8)])), (pz 1, .inl (k.1 3, 8, .inr (.inr (.inr (.inr (va_up (va_up (va_up (va_up (va_up (ta_pd d) 0 (some (d 1 0))) 1 (some (d 2 0))) 2 (some (d 3 0))) 3 (some (d 4 0))) 4 (some (d 5 0))))))))] ++ ((dyW k (d 0) (T 0) (G 0) (Z 0)) ++ ((dyW k (d 1) (T 1) (G 1) (Z 1)) ++ ((dyW k (d 2) (T 2) (G 2) (Z 2)) ++ ((dyW k (d 3) (T 3) (G 3) (Z 3)) ++ ((dyW k (d 4) (T 4) (G 4) (Z 4)) ++ ((dyW k (d 5) (T 5) (G 5) (Z 5)) ++ ((dyW k (d 6) (T 6) (G 6) (Z 6)) ++ (dyW k (d 7) (T 7) (G 7) (Z 7)))))))))) := hD
            refine lv_iinc (v := nI 6) (lv' := [(2, .int (nI 6)), (1, .ref (d 0 0)), (0, .ref (pz 0))]) hx hb dX2_dropOldest_29 hl (k := 0) rfl (by decide) (by decide) rfl (fun ls hl => ?_)
            refine lv_goto (tgt := 9) hx hb dX2_dropOldest_32 (by decide) ?_
            refine lv_iload_n hx hb dX2_dropOldest_9 rfl (lv_at hl 0 rfl) ?_
            refine ta_bipush C 8 dX2_dropOldest_10 (by decide) ?_
            refine lv_icmp_ge (tgt := 35) hx hb dX2_dropOldest_12 (by decide) (fun c6 => ?_) (fun c6 => ?_)
            · exact absurd c6 (by decide)
            · refine lv_aload_n hx hb dX2_dropOldest_15 rfl (lv_at hl 2 rfl) ?_
              refine ta_get C hP 0 inlX2 rfl rfl 0 (by decide) tw_88 rfl dX2_dropOldest_16 ?_
              refine lv_iload_n hx hb dX2_dropOldest_19 rfl (lv_at hl 0 rfl) ?_
              refine ta_iconst C 1 dX2_dropOldest_20 (by decide) ?_
              refine ta_isub C (a := 6) (b := 1) (by omega) dX2_dropOldest_21 ?_
              refine lv_aload_n hx hb dX2_dropOldest_22 rfl (lv_at hl 2 rfl) ?_
              refine ta_get C hP 0 inlX2 rfl rfl 0 (by decide) tw_88 rfl dX2_dropOldest_23 ?_
              refine lv_iload_n hx hb dX2_dropOldest_26 rfl (lv_at hl 0 rfl) ?_
              refine ta_aald C hP 1 3 rfl rfl (i := 6) (x := d 6 0) (by omega) rfl dX2_dropOldest_27 ?_
              refine ta_aast C hP hD hS 1 3 68 0 rfl rfl rfl rfl (i := 5) (by omega) dX2_dropOldest_28 (fun H locs hP hD hS => ?_)
              have hP : va_P D vwCl ([(pz 0, .inr (2, [.ref (pz 1), .int (nI 8)])), (pz 1, .inl (k.1 3, 8, .inr (.inr (.inr (.inr (va_up (va_up (va_up (va_up (va_up (va_up (ta_pd d) 0 (some (d 1 0))) 1 (some (d 2 0))) 2 (some (d 3 0))) 3 (some (d 4 0))) 4 (some (d 5 0))) 5 (some (d 6 0))))))))] ++ ((dyW k (d 0) (T 0) (G 0) (Z 0)) ++ ((dyW k (d 1) (T 1) (G 1) (Z 1)) ++ ((dyW k (d 2) (T 2) (G 2) (Z 2)) ++ ((dyW k (d 3) (T 3) (G 3) (Z 3)) ++ ((dyW k (d 4) (T 4) (G 4) (Z 4)) ++ ((dyW k (d 5) (T 5) (G 5) (Z 5)) ++ ((dyW k (d 6) (T 6) (G 6) (Z 6)) ++ (dyW k (d 7) (T 7) (G 7) (Z 7)))))))))) H := hP
              have hD : va_D A ([(pz 0, .inr (2, [.ref (pz 1), .int (nI 8)])), (pz 1, .inl (k.1 3, 8, .inr (.inr (.inr (.inr (va_up (va_up (va_up (va_up (va_up (va_up (ta_pd d) 0 (some (d 1 0))) 1 (some (d 2 0))) 2 (some (d 3 0))) 3 (some (d 4 0))) 4 (some (d 5 0))) 5 (some (d 6 0))))))))] ++ ((dyW k (d 0) (T 0) (G 0) (Z 0)) ++ ((dyW k (d 1) (T 1) (G 1) (Z 1)) ++ ((dyW k (d 2) (T 2) (G 2) (Z 2)) ++ ((dyW k (d 3) (T 3) (G 3) (Z 3)) ++ ((dyW k (d 4) (T 4) (G 4) (Z 4)) ++ ((dyW k (d 5) (T 5) (G 5) (Z 5)) ++ ((dyW k (d 6) (T 6) (G 6) (Z 6)) ++ (dyW k (d 7) (T 7) (G 7) (Z 7)))))))))) := hD
              refine lv_iinc (v := nI 7) (lv' := [(2, .int (nI 7)), (1, .ref (d 0 0)), (0, .ref (pz 0))]) hx hb dX2_dropOldest_29 hl (k := 0) rfl (by decide) (by decide) rfl (fun ls hl => ?_)
              refine lv_goto (tgt := 9) hx hb dX2_dropOldest_32 (by decide) ?_
              refine lv_iload_n hx hb dX2_dropOldest_9 rfl (lv_at hl 0 rfl) ?_
              refine ta_bipush C 8 dX2_dropOldest_10 (by decide) ?_
              refine lv_icmp_ge (tgt := 35) hx hb dX2_dropOldest_12 (by decide) (fun c7 => ?_) (fun c7 => ?_)
              · exact absurd c7 (by decide)
              · refine lv_aload_n hx hb dX2_dropOldest_15 rfl (lv_at hl 2 rfl) ?_
                refine ta_get C hP 0 inlX2 rfl rfl 0 (by decide) tw_88 rfl dX2_dropOldest_16 ?_
                refine lv_iload_n hx hb dX2_dropOldest_19 rfl (lv_at hl 0 rfl) ?_
                refine ta_iconst C 1 dX2_dropOldest_20 (by decide) ?_
                refine ta_isub C (a := 7) (b := 1) (by omega) dX2_dropOldest_21 ?_
                refine lv_aload_n hx hb dX2_dropOldest_22 rfl (lv_at hl 2 rfl) ?_
                refine ta_get C hP 0 inlX2 rfl rfl 0 (by decide) tw_88 rfl dX2_dropOldest_23 ?_
                refine lv_iload_n hx hb dX2_dropOldest_26 rfl (lv_at hl 0 rfl) ?_
                refine ta_aald C hP 1 3 rfl rfl (i := 7) (x := d 7 0) (by omega) rfl dX2_dropOldest_27 ?_
                refine ta_aast C hP hD hS 1 3 79 0 rfl rfl rfl rfl (i := 6) (by omega) dX2_dropOldest_28 (fun H locs hP hD hS => ?_)
                have hP : va_P D vwCl ([(pz 0, .inr (2, [.ref (pz 1), .int (nI 8)])), (pz 1, .inl (k.1 3, 8, .inr (.inr (.inr (.inr (va_up (va_up (va_up (va_up (va_up (va_up (va_up (ta_pd d) 0 (some (d 1 0))) 1 (some (d 2 0))) 2 (some (d 3 0))) 3 (some (d 4 0))) 4 (some (d 5 0))) 5 (some (d 6 0))) 6 (some (d 7 0))))))))] ++ ((dyW k (d 0) (T 0) (G 0) (Z 0)) ++ ((dyW k (d 1) (T 1) (G 1) (Z 1)) ++ ((dyW k (d 2) (T 2) (G 2) (Z 2)) ++ ((dyW k (d 3) (T 3) (G 3) (Z 3)) ++ ((dyW k (d 4) (T 4) (G 4) (Z 4)) ++ ((dyW k (d 5) (T 5) (G 5) (Z 5)) ++ ((dyW k (d 6) (T 6) (G 6) (Z 6)) ++ (dyW k (d 7) (T 7) (G 7) (Z 7)))))))))) H := hP
                have hD : va_D A ([(pz 0, .inr (2, [.ref (pz 1), .int (nI 8)])), (pz 1, .inl (k.1 3, 8, .inr (.inr (.inr (.inr (va_up (va_up (va_up (va_up (va_up (va_up (va_up (ta_pd d) 0 (some (d 1 0))) 1 (some (d 2 0))) 2 (some (d 3 0))) 3 (some (d 4 0))) 4 (some (d 5 0))) 5 (some (d 6 0))) 6 (some (d 7 0))))))))] ++ ((dyW k (d 0) (T 0) (G 0) (Z 0)) ++ ((dyW k (d 1) (T 1) (G 1) (Z 1)) ++ ((dyW k (d 2) (T 2) (G 2) (Z 2)) ++ ((dyW k (d 3) (T 3) (G 3) (Z 3)) ++ ((dyW k (d 4) (T 4) (G 4) (Z 4)) ++ ((dyW k (d 5) (T 5) (G 5) (Z 5)) ++ ((dyW k (d 6) (T 6) (G 6) (Z 6)) ++ (dyW k (d 7) (T 7) (G 7) (Z 7)))))))))) := hD
                refine lv_iinc (v := nI 8) (lv' := [(2, .int (nI 8)), (1, .ref (d 0 0)), (0, .ref (pz 0))]) hx hb dX2_dropOldest_29 hl (k := 0) rfl (by decide) (by decide) rfl (fun ls hl => ?_)
                refine lv_goto (tgt := 9) hx hb dX2_dropOldest_32 (by decide) ?_
                refine lv_iload_n hx hb dX2_dropOldest_9 rfl (lv_at hl 0 rfl) ?_
                refine ta_bipush C 8 dX2_dropOldest_10 (by decide) ?_
                refine lv_icmp_ge (tgt := 35) hx hb dX2_dropOldest_12 (by decide) (fun c8 => ?_) (fun c8 => ?_)
                · refine lv_aload_n hx hb dX2_dropOldest_35 rfl (lv_at hl 2 rfl) ?_
                  refine ta_get C hP 0 inlX2 rfl rfl 0 (by decide) tw_88 rfl dX2_dropOldest_36 ?_
                  refine ta_bipush C 7 dX2_dropOldest_39 (by decide) ?_
                  refine lv_aload_n hx hb dX2_dropOldest_41 rfl (lv_at hl 1 rfl) ?_
                  refine ta_aast C hP hD hS 1 3 2 0 rfl rfl rfl rfl (i := 7) (by omega) dX2_dropOldest_42 (fun H locs hP hD hS => ?_)
                  have hP : va_P D vwCl ([(pz 0, .inr (2, [.ref (pz 1), .int (nI 8)])), (pz 1, .inl (k.1 3, 8, .inr (.inr (.inr (.inr (va_up (va_up (va_up (va_up (va_up (va_up (va_up (va_up (ta_pd d) 0 (some (d 1 0))) 1 (some (d 2 0))) 2 (some (d 3 0))) 3 (some (d 4 0))) 4 (some (d 5 0))) 5 (some (d 6 0))) 6 (some (d 7 0))) 7 (some (d 0 0))))))))] ++ ((dyW k (d 0) (T 0) (G 0) (Z 0)) ++ ((dyW k (d 1) (T 1) (G 1) (Z 1)) ++ ((dyW k (d 2) (T 2) (G 2) (Z 2)) ++ ((dyW k (d 3) (T 3) (G 3) (Z 3)) ++ ((dyW k (d 4) (T 4) (G 4) (Z 4)) ++ ((dyW k (d 5) (T 5) (G 5) (Z 5)) ++ ((dyW k (d 6) (T 6) (G 6) (Z 6)) ++ (dyW k (d 7) (T 7) (G 7) (Z 7)))))))))) H := hP
                  have hD : va_D A ([(pz 0, .inr (2, [.ref (pz 1), .int (nI 8)])), (pz 1, .inl (k.1 3, 8, .inr (.inr (.inr (.inr (va_up (va_up (va_up (va_up (va_up (va_up (va_up (va_up (ta_pd d) 0 (some (d 1 0))) 1 (some (d 2 0))) 2 (some (d 3 0))) 3 (some (d 4 0))) 4 (some (d 5 0))) 5 (some (d 6 0))) 6 (some (d 7 0))) 7 (some (d 0 0))))))))] ++ ((dyW k (d 0) (T 0) (G 0) (Z 0)) ++ ((dyW k (d 1) (T 1) (G 1) (Z 1)) ++ ((dyW k (d 2) (T 2) (G 2) (Z 2)) ++ ((dyW k (d 3) (T 3) (G 3) (Z 3)) ++ ((dyW k (d 4) (T 4) (G 4) (Z 4)) ++ ((dyW k (d 5) (T 5) (G 5) (Z 5)) ++ ((dyW k (d 6) (T 6) (G 6) (Z 6)) ++ (dyW k (d 7) (T 7) (G 7) (Z 7)))))))))) := hD
                  refine lv_aload_n hx hb dX2_dropOldest_43 rfl (lv_at hl 2 rfl) ?_
                  refine ta_bipush C 7 dX2_dropOldest_44 (by decide) ?_
                  refine ta_put C hP hD hS 0 inlX2 tyX2 tyX2_ok nmX2 rfl rfl 1 (by decide) tw_89 rfl rfl rfl (Nat.le_of_ble_eq_true rfl) dX2_dropOldest_46 (fun H locs hP hD hS => ?_)
                  have hP : va_P D vwCl ([(pz 0, .inr (2, [.ref (pz 1), .int (nI 7)])), (pz 1, .inl (k.1 3, 8, .inr (.inr (.inr (.inr (va_up (va_up (va_up (va_up (va_up (va_up (va_up (va_up (ta_pd d) 0 (some (d 1 0))) 1 (some (d 2 0))) 2 (some (d 3 0))) 3 (some (d 4 0))) 4 (some (d 5 0))) 5 (some (d 6 0))) 6 (some (d 7 0))) 7 (some (d 0 0))))))))] ++ ((dyW k (d 0) (T 0) (G 0) (Z 0)) ++ ((dyW k (d 1) (T 1) (G 1) (Z 1)) ++ ((dyW k (d 2) (T 2) (G 2) (Z 2)) ++ ((dyW k (d 3) (T 3) (G 3) (Z 3)) ++ ((dyW k (d 4) (T 4) (G 4) (Z 4)) ++ ((dyW k (d 5) (T 5) (G 5) (Z 5)) ++ ((dyW k (d 6) (T 6) (G 6) (Z 6)) ++ (dyW k (d 7) (T 7) (G 7) (Z 7)))))))))) H := hP
                  have hD : va_D A ([(pz 0, .inr (2, [.ref (pz 1), .int (nI 7)])), (pz 1, .inl (k.1 3, 8, .inr (.inr (.inr (.inr (va_up (va_up (va_up (va_up (va_up (va_up (va_up (va_up (ta_pd d) 0 (some (d 1 0))) 1 (some (d 2 0))) 2 (some (d 3 0))) 3 (some (d 4 0))) 4 (some (d 5 0))) 5 (some (d 6 0))) 6 (some (d 7 0))) 7 (some (d 0 0))))))))] ++ ((dyW k (d 0) (T 0) (G 0) (Z 0)) ++ ((dyW k (d 1) (T 1) (G 1) (Z 1)) ++ ((dyW k (d 2) (T 2) (G 2) (Z 2)) ++ ((dyW k (d 3) (T 3) (G 3) (Z 3)) ++ ((dyW k (d 4) (T 4) (G 4) (Z 4)) ++ ((dyW k (d 5) (T 5) (G 5) (Z 5)) ++ ((dyW k (d 6) (T 6) (G 6) (Z 6)) ++ (dyW k (d 7) (T 7) (G 7) (Z 7)))))))))) := hD
                  have hP : va_P D vwCl ([(pz 0, .inr (2, [.ref (pz 1), .int (nI 7)])), (pz 1, .inl (k.1 3, 8, .inr (.inr (.inr (.inr (va_up (va_up (va_up (va_up (va_up (va_up (va_up (va_up (ta_pd d) 0 (some (d 1 0))) 1 (some (d 2 0))) 2 (some (d 3 0))) 3 (some (d 4 0))) 4 (some (d 5 0))) 5 (some (d 6 0))) 6 (some (d 7 0))) 7 (some (d 0 0))))))))] ++ ((dyW k (d 1) (T 1) (G 1) (Z 1)) ++ ((dyW k (d 2) (T 2) (G 2) (Z 2)) ++ ((dyW k (d 3) (T 3) (G 3) (Z 3)) ++ ((dyW k (d 4) (T 4) (G 4) (Z 4)) ++ ((dyW k (d 5) (T 5) (G 5) (Z 5)) ++ ((dyW k (d 6) (T 6) (G 6) (Z 6)) ++ ((dyW k (d 7) (T 7) (G 7) (Z 7)) ++ (dyW k (d 0) (T 0) (G 0) (Z 0)))))))))) H := hP.sub [0, 1, 13, 14, 15, 16, 17, 18, 19, 20, 21, 22, 23, 24, 25, 26, 27, 28, 29, 30, 31, 32, 33, 34, 35, 36, 37, 38, 39, 40, 41, 42, 43, 44, 45, 46, 47, 48, 49, 50, 51, 52, 53, 54, 55, 56, 57, 58, 59, 60, 61, 62, 63, 64, 65, 66, 67, 68, 69, 70, 71, 72, 73, 74, 75, 76, 77, 78, 79, 80, 81, 82, 83, 84, 85, 86, 87, 88, 89, 2, 3, 4, 5, 6, 7, 8, 9, 10, 11, 12] rfl
                  have hD : va_D A ([(pz 0, .inr (2, [.ref (pz 1), .int (nI 7)])), (pz 1, .inl (k.1 3, 8, .inr (.inr (.inr (.inr (va_up (va_up (va_up (va_up (va_up (va_up (va_up (va_up (ta_pd d) 0 (some (d 1 0))) 1 (some (d 2 0))) 2 (some (d 3 0))) 3 (some (d 4 0))) 4 (some (d 5 0))) 5 (some (d 6 0))) 6 (some (d 7 0))) 7 (some (d 0 0))))))))] ++ ((dyW k (d 1) (T 1) (G 1) (Z 1)) ++ ((dyW k (d 2) (T 2) (G 2) (Z 2)) ++ ((dyW k (d 3) (T 3) (G 3) (Z 3)) ++ ((dyW k (d 4) (T 4) (G 4) (Z 4)) ++ ((dyW k (d 5) (T 5) (G 5) (Z 5)) ++ ((dyW k (d 6) (T 6) (G 6) (Z 6)) ++ ((dyW k (d 7) (T 7) (G 7) (Z 7)) ++ (dyW k (d 0) (T 0) (G 0) (Z 0)))))))))) := hD.sub [0, 1, 13, 14, 15, 16, 17, 18, 19, 20, 21, 22, 23, 24, 25, 26, 27, 28, 29, 30, 31, 32, 33, 34, 35, 36, 37, 38, 39, 40, 41, 42, 43, 44, 45, 46, 47, 48, 49, 50, 51, 52, 53, 54, 55, 56, 57, 58, 59, 60, 61, 62, 63, 64, 65, 66, 67, 68, 69, 70, 71, 72, 73, 74, 75, 76, 77, 78, 79, 80, 81, 82, 83, 84, 85, 86, 87, 88, 89, 2, 3, 4, 5, 6, 7, 8, 9, 10, 11, 12] (by decide) rfl
                  have hr : ∀ j, j < 8 → (va_up (va_up (va_up (va_up (va_up (va_up (va_up (va_up (ta_pd d) 0 (some (d 1 0))) 1 (some (d 2 0))) 2 (some (d 3 0))) 3 (some (d 4 0))) 4 (some (d 5 0))) 5 (some (d 6 0))) 6 (some (d 7 0))) 7 (some (d 0 0))) j = ta_pd (ta_rot d) j := by
                    intro j hj
                    rcases (show j = 0 ∨ j = 1 ∨ j = 2 ∨ j = 3 ∨ j = 4 ∨ j = 5 ∨ j = 6 ∨ j = 7 by omega) with rfl | rfl | rfl | rfl | rfl | rfl | rfl | rfl <;> rfl
                  exact ret () dX2_dropOldest_49 trivial (ta_Pc (hP 0 _ rfl) (ta_Pc (ta_re hr (hP 1 _ rfl)) (hP.sub [2, 3, 4, 5, 6, 7, 8, 9, 10, 11, 12, 13, 14, 15, 16, 17, 18, 19, 20, 21, 22, 23, 24, 25, 26, 27, 28, 29, 30, 31, 32, 33, 34, 35, 36, 37, 38, 39, 40, 41, 42, 43, 44, 45, 46, 47, 48, 49, 50, 51, 52, 53, 54, 55, 56, 57, 58, 59, 60, 61, 62, 63, 64, 65, 66, 67, 68, 69, 70, 71, 72, 73, 74, 75, 76, 77, 78, 79, 80, 81, 82, 83, 84, 85, 86, 87, 88, 89] rfl))) (ta_De hD rfl) hS
                · exact absurd c8 (by decide)
