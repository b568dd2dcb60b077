/-- a fraction in lowest terms -/
def rA (a b : Nat) : Nat := a / Nat.gcd a b
def rB (a b : Nat) : Nat := b / Nat.gcd a b
theorem cpy_0 (f g : Nat → Nat) (i j : Nat) : va_cpy f g i j 0 = g := by funext k; simp only [va_cpy]; rw [if_neg (by omega)]
theorem cpy_up (f g : Nat → Nat) (i j c : Nat) : va_up (va_cpy f g i j c) (j + c) (f (i + c)) = va_cpy f g i j (c + 1) := by
  funext k; simp only [va_up, va_cpy]
  by_cases h : k = j + c
  · rw [if_pos h, if_pos (by omega), h]; congr 1; omega
  · rw [if_neg h]
    by_cases h2 : j ≤ k ∧ k < j + c
    · rw [if_pos h2, if_pos (by omega)]
    · rw [if_neg h2, if_neg (by omega)]
/-- what may be UNDONE, in one row -/
def ntG (g p : Nat → Nat) (k : Nat) : Nat → Nat := if k = 6 then va_cpy p (va_cpy g g 18 0 90) 0 90 18 else va_cpy p g 0 (18 * k) 18
theorem ntG_1 {g p : Nat → Nat} {k : Nat} (h : k < 6) : ntG g p k = va_cpy p g 0 (18 * k) 18 := if_neg (by omega)
theorem ntG_2 {g p : Nat → Nat} {k : Nat} (h : k = 6) : ntG g p k = va_cpy p (va_cpy g g 18 0 90) 0 90 18 := if_pos h
section
variable {x y u v : Nat}
theorem less_w (h1 : 0 < y) (h2 : 0 < v) (h : x / y < u / v) : x * v < u * y := by
  have a1 : x < y * (x / y + 1) := by have := Nat.lt_mul_div_succ x h1; rw [Nat.mul_comm] at this; rw [Nat.mul_comm]; exact this
  have a2 : v * (u / v) ≤ u := Nat.mul_div_le u v
  have a3 : x * v < y * (x / y + 1) * v := Nat.mul_lt_mul_of_pos_right a1 h2
  have a4 : y * (x / y + 1) * v ≤ y * (u / v) * v := Nat.mul_le_mul_right _ (Nat.mul_le_mul_left _ h)
  have a5 : y * (u / v) * v = v * (u / v) * y := by rw [Nat.mul_comm y, Nat.mul_assoc, Nat.mul_comm y v, ← Nat.mul_assoc, Nat.mul_comm (u / v) v]
  have a6 : v * (u / v) * y ≤ u * y := Nat.mul_le_mul_right _ a2
  omega
theorem less_nw (h1 : 0 < y) (h2 : 0 < v) (h : ¬ x / y = u / v) (h3 : ¬ x / y < u / v) : ¬ x * v < u * y := by
  have := less_w (x := u) (y := v) (u := x) (v := y) h2 h1 (by omega)
  omega
theorem less_parts (h1 : 0 < y) (h2 : 0 < v) (h : x / y = u / v) : (x * v < u * y ↔ x % y * v < u % v * y) := by
  have e1 := Nat.div_add_mod x y
  have e2 := Nat.div_add_mod u v
  have a1 : x * v = y * (u / v) * v + x % y * v := by rw [← Nat.add_mul, ← h, e1]
  have a2 : u * y = v * (u / v) * y + u % v * y := by rw [← Nat.add_mul, e2]
  have a5 : y * (u / v) * v = v * (u / v) * y := by rw [Nat.mul_comm y, Nat.mul_assoc, Nat.mul_comm y v, ← Nat.mul_assoc, Nat.mul_comm (u / v) v]
  omega
theorem less_turn (h1 : 0 < y) (h2 : 0 < v) (h : x / y = u / v) : (x * v < u * y ↔ v * (x % y) < y * (u % v)) := by
  rw [less_parts h1 h2 h, Nat.mul_comm v, Nat.mul_comm y]
theorem less_z (h1 : 0 < y) (h2 : 0 < v) (h : x / y = u / v) (h3 : x % y = 0) (h4 : 0 < u % v) : x * v < u * y := by
  rw [less_parts h1 h2 h, h3, Nat.zero_mul]; exact Nat.mul_pos h4 h1
theorem less_nz (h1 : 0 < y) (h2 : 0 < v) (h : x / y = u / v) (h3 : u % v = 0) : ¬ x * v < u * y := by
  rw [less_parts h1 h2 h, h3, Nat.zero_mul]; omega
end
set_option maxHeartbeats 4000000 in
set_option maxRecDepth 100000 in
theorem c_X8_in (l : Launch) (D : va_G) (Z : Nat → ClassId) (zs0 : Nat) (v l1 m1 : Int64) (V L1 M1 : Int) (hV : v.toInt = V) (hL1 : l1.toInt = L1) (hM1 : m1.toInt = M1) : cMi l yX8_in wsX8_in (rmd 0) D Z zs0 [.long v, .long l1, .long m1] [] (S := Unit) (fun (r : Int32) => fun (_ : Unit) => r = nI (bb (L1 ≤ V ∧ V ≤ M1))) (fun (_ : Unit) => []) 0 0 := by
  refine q_open (y := yX8_in) (ws := wsX8_in) (av := [.long v, .long l1, .long m1]) (win := []) (Qc := fun zs0 => cQi D Z zs0 [] (S := Unit) (fun (r : Int32) => fun (_ : Unit) => r = nI (bb (L1 ≤ V ∧ V ≤ M1))) (fun (_ : Unit) => [])) (cc := cX8_in) (maxL := 6) (ret := (some .boolean)) (by decide) rfl (Nat.le_of_ble_eq_true rfl) ?_
  intro pp ee s mm bw mt cd ls A H locs hAe hx hb hr hml hown hmn hts hlocks hA hK hw hl
  have hown : s.vm.findClass RX8 = some mm.cls := hown
  have hl : lv_has ls 6 [(0, .long v), (2, .long l1), (4, .long m1)] := hl
  refine lv_lload_n hx hb dX8_in_0 rfl (lv_at hl 0 rfl) ?_
  refine lv_lload_n hx hb dX8_in_1 rfl (lv_at hl 1 rfl) ?_
  refine q_lc_lt (tgt := 17) hx hb v.toInt l1.toInt rfl rfl dX8_in_2 dX8_in_3 (by decide) (fun c1 => ?_) (fun c1 => ?_)
  · --
    refine q_iconst (v := 0) hx hb dX8_in_17 (by decide) ?_
    exact q_zret (wout := _) hx hb hr hlocks hAe hK () hw rfl (by first | exact (congrArg nI (bb_t (by omega))).symm | exact (congrArg nI (bb_f (by omega))).symm) dX8_in_18
  · --
    refine lv_lload_n hx hb dX8_in_6 rfl (lv_at hl 0 rfl) ?_
    refine lv_lload hx hb dX8_in_7 (lv_at hl 2 rfl) ?_
    refine q_lc_gt (tgt := 17) hx hb v.toInt m1.toInt rfl rfl dX8_in_9 dX8_in_10 (by decide) (fun c2 => ?_) (fun c2 => ?_)
    · --
      refine q_iconst (v := 0) hx hb dX8_in_17 (by decide) ?_
      exact q_zret (wout := _) hx hb hr hlocks hAe hK () hw rfl (by first | exact (congrArg nI (bb_t (by omega))).symm | exact (congrArg nI (bb_f (by omega))).symm) dX8_in_18
    · --
      refine q_iconst (v := 1) hx hb dX8_in_13 (by decide) ?_
      refine lv_goto (tgt := 18) hx hb dX8_in_14 (by decide) ?_
      exact q_zret (wout := _) hx hb hr hlocks hAe hK () hw rfl (by first | exact (congrArg nI (bb_t (by omega))).symm | exact (congrArg nI (bb_f (by omega))).symm) dX8_in_18
set_option maxHeartbeats 4000000 in
set_option maxRecDepth 100000 in
theorem c_X8_bring (l : Launch) (D : va_G) (Z : Nat → ClassId) (zs0 : Nat) (a b la lb i j n : Nat) (f g : Nat → Nat) (hi : i + n ≤ la) (hj : j + n ≤ lb) (hla : la < 2 ^ 31) (hlb : lb < 2 ^ 31) : cMv l yX8_bring wsX8_bring (rmd 0) D Z zs0 [.ref a, .int (nI i), .ref b, .int (nI j), .int (nI n)] [(a, .inl (Z 0, la, .inl (aI f))), (b, .inl (Z 0, lb, .inl (aI g)))] (S := Unit) (fun (_ : Unit) => True) (fun (_ : Unit) => [(a, .inl (Z 0, la, .inl (aI f))), (b, .inl (Z 0, lb, .inl (aI (va_cpy f g i j n))))]) 0 0 := by
  refine q_open (y := yX8_bring) (ws := wsX8_bring) (av := [.ref a, .int (nI i), .ref b, .int (nI j), .int (nI n)]) (win := [(a, .inl (Z 0, la, .inl (aI f))), (b, .inl (Z 0, lb, .inl (aI g)))]) (Qc := fun zs0 => cQv D Z zs0 [(a, .inl (Z 0, la, .inl (aI f))), (b, .inl (Z 0, lb, .inl (aI g)))] (S := Unit) (fun (_ : Unit) => True) (fun (_ : Unit) => [(a, .inl (Z 0, la, .inl (aI f))), (b, .inl (Z 0, lb, .inl (aI (va_cpy f g i j n))))])) (cc := cX8_bring) (maxL := 6) (ret := none) (by decide) rfl (Nat.le_of_ble_eq_true rfl) ?_
  intro pp ee s mm bw mt cd ls A H locs hAe hx hb hr hml hown hmn hts hlocks hA hK hw hl
  have hown : s.vm.findClass RX8 = some mm.cls := hown
  have hl : lv_has ls 6 [(0, .ref a), (1, .int (nI i)), (2, .ref b), (3, .int (nI j)), (4, .int (nI n))] := hl
  refine q_iconst (v := 0) hx hb dX8_bring_0 (by decide) ?_
  refine lv_istore (lv' := [(5, .int (nI 0)), (0, .ref a), (1, .int (nI i)), (2, .ref b), (3, .int (nI j)), (4, .int (nI n))]) hx hb dX8_bring_1 hl (by decide) rfl (fun ls hl => ?_)
  have hw : WS D A s [(a, .inl (Z 0, la, .inl (aI f))), (b, .inl (Z 0, lb, .inl (aI (va_cpy f g i j 0))))] H locs := by rw [show (va_cpy f g i j 0) = g from cpy_0 f g i j]; exact hw
  refine q_loop (σ := Nat) (fun (c : Nat) => n - c) (fun (c : Nat) => c ≤ n) (fun (c : Nat) => [(a, .inl (Z 0, la, .inl (aI f))), (b, .inl (Z 0, lb, .inl (aI (va_cpy f g i j c))))]) (fun (c : Nat) => [(5, .int (nI c)), (0, .ref a), (1, .int (nI i)), (2, .ref b), (3, .int (nI j)), (4, .int (nI n))]) 0 (Nat.zero_le _) hw (lv_sub hl [0, 1, 2, 3, 4, 5] rfl) ?_
  intro c H locs ls hi3 hw hl ih3
  try dsimp only at hi3 hw hl ih3
  have hw : WS D A s [(a, .inl (Z 0, la, .inl (aI f))), (b, .inl (Z 0, lb, .inl (aI (va_cpy f g i j c))))] H locs := hw
  have hl : lv_has ls 6 [(5, .int (nI c)), (0, .ref a), (1, .int (nI i)), (2, .ref b), (3, .int (nI j)), (4, .int (nI n))] := hl
  refine lv_iload hx hb dX8_bring_3 (lv_at hl 0 rfl) ?_
  refine lv_iload hx hb dX8_bring_5 (lv_at hl 5 rfl) ?_
  refine q_icmp_ge (tgt := 28) hx hb ((c : Nat) : Int) ((n : Nat) : Int) (nI_toInt (by omega)) (nI_toInt (by omega)) dX8_bring_7 (by decide) (fun c1 => ?_) (fun c1 => ?_)
  · --
    obtain rfl : n = c := by omega
    exact q_vret (wout := _) hx hb hr hlocks hAe hK () hw (trivial) dX8_bring_28
  · --
    refine lv_aload_n hx hb dX8_bring_10 rfl (lv_at hl 3 rfl) ?_
    refine lv_iload_n hx hb dX8_bring_11 rfl (lv_at hl 4 rfl) ?_
    refine lv_iload hx hb dX8_bring_12 (lv_at hl 0 rfl) ?_
    refine q_iadd hx hb dX8_bring_14 ?_
    refine lv_aload_n hx hb dX8_bring_15 rfl (lv_at hl 1 rfl) ?_
    refine lv_iload_n hx hb dX8_bring_16 rfl (lv_at hl 2 rfl) ?_
    refine lv_iload hx hb dX8_bring_17 (lv_at hl 0 rfl) ?_
    refine q_iadd hx hb dX8_bring_19 ?_
    refine q_iald hx hb hK hw 0 (by omega) (by omega) dX8_bring_20 rfl ?_
    refine q_iast hx hb hK hw 1 (by omega) (by omega) dX8_bring_21 rfl (fun H locs hw => ?_)
    have hw : WS D A s [(a, .inl (Z 0, la, .inl (aI f))), (b, .inl (Z 0, lb, .inl (aI (va_up (va_cpy f g i j c) (j + c) (f (i + c))))))] H locs := hw
    refine lv_iinc (v := nI (c + 1)) (lv' := [(5, .int (nI (c + 1))), (0, .ref a), (1, .int (nI i)), (2, .ref b), (3, .int (nI j)), (4, .int (nI n))]) hx hb dX8_bring_22 hl (k := 0) rfl (nI_add _ _) (by decide) rfl (fun ls hl => ?_)
    refine lv_goto (tgt := 3) hx hb dX8_bring_25 (by decide) ?_
    have hw : WS D A s [(a, .inl (Z 0, la, .inl (aI f))), (b, .inl (Z 0, lb, .inl (aI (va_cpy f g i j (c + 1)))))] H locs := by rw [show (va_cpy f g i j (c + 1)) = (va_up (va_cpy f g i j c) (j + c) (f (i + c))) from (cpy_up f g i j c).symm]; exact hw
    exact ih3 (c + 1) H locs ls (by omega) (by omega) hw (lv_sub hl [0, 1, 2, 3, 4, 5] rfl)
set_option maxHeartbeats 4000000 in
set_option maxRecDepth 100000 in
theorem c_bringS (l : Launch) (D : va_G) (Z : Nat → ClassId) (zs0 : Nat) (a la i j n : Nat) (f : Nat → Nat) (hi : i + n ≤ la) (hj : j + n ≤ la) (hij : j ≤ i) (hla : la < 2 ^ 31) : cMv l yX8_bring wsX8_bring (rmd 0) D Z zs0 [.ref a, .int (nI i), .ref a, .int (nI j), .int (nI n)] [(a, .inl (Z 0, la, .inl (aI f)))] (S := Unit) (fun (_ : Unit) => True) (fun (_ : Unit) => [(a, .inl (Z 0, la, .inl (aI (va_cpy f f i j n))))]) 0 0 := by
  refine q_open (y := yX8_bring) (ws := wsX8_bring) (av := [.ref a, .int (nI i), .ref a, .int (nI j), .int (nI n)]) (win := [(a, .inl (Z 0, la, .inl (aI f)))]) (Qc := fun zs0 => cQv D Z zs0 [(a, .inl (Z 0, la, .inl (aI f)))] (S := Unit) (fun (_ : Unit) => True) (fun (_ : Unit) => [(a, .inl (Z 0, la, .inl (aI (va_cpy f f i j n))))])) (cc := cX8_bring) (maxL := 6) (ret := none) (by decide) rfl (Nat.le_of_ble_eq_true rfl) ?_
  intro pp ee s mm bw mt cd ls A H locs hAe hx hb hr hml hown hmn hts hlocks hA hK hw hl
  have hown : s.vm.findClass RX8 = some mm.cls := hown
  have hl : lv_has ls 6 [(0, .ref a), (1, .int (nI i)), (2, .ref a), (3, .int (nI j)), (4, .int (nI n))] := hl
  refine q_iconst (v := 0) hx hb dX8_bring_0 (by decide) ?_
  refine lv_istore (lv' := [(5, .int (nI 0)), (0, .ref a), (1, .int (nI i)), (2, .ref a), (3, .int (nI j)), (4, .int (nI n))]) hx hb dX8_bring_1 hl (by decide) rfl (fun ls hl => ?_)
  have hw : WS D A s [(a, .inl (Z 0, la, .inl (aI (va_cpy f f i j 0))))] H locs := by rw [show (va_cpy f f i j 0) = f from cpy_0 f f i j]; exact hw
  refine q_loop (σ := Nat) (fun (c : Nat) => n - c) (fun (c : Nat) => c ≤ n) (fun (c : Nat) => [(a, .inl (Z 0, la, .inl (aI (va_cpy f f i j c))))]) (fun (c : Nat) => [(5, .int (nI c)), (0, .ref a), (1, .int (nI i)), (2, .ref a), (3, .int (nI j)), (4, .int (nI n))]) 0 (Nat.zero_le _) hw (lv_sub hl [0, 1, 2, 3, 4, 5] rfl) ?_
  intro c H locs ls hi3 hw hl ih3
  try dsimp only at hi3 hw hl ih3
  have hw : WS D A s [(a, .inl (Z 0, la, .inl (aI (va_cpy f f i j c))))] H locs := hw
  have hl : lv_has ls 6 [(5, .int (nI c)), (0, .ref a), (1, .int (nI i)), (2, .ref a), (3, .int (nI j)), (4, .int (nI n))] := hl
  refine lv_iload hx hb dX8_bring_3 (lv_at hl 0 rfl) ?_
  refine lv_iload hx hb dX8_bring_5 (lv_at hl 5 rfl) ?_
  refine q_icmp_ge (tgt := 28) hx hb ((c : Nat) : Int) ((n : Nat) : Int) (nI_toInt (by omega)) (nI_toInt (by omega)) dX8_bring_7 (by decide) (fun c1 => ?_) (fun c1 => ?_)
  · --
    obtain rfl : n = c := by omega
    exact q_vret (wout := _) hx hb hr hlocks hAe hK () hw (trivial) dX8_bring_28
  · --
    refine lv_aload_n hx hb dX8_bring_10 rfl (lv_at hl 3 rfl) ?_
    refine lv_iload_n hx hb dX8_bring_11 rfl (lv_at hl 4 rfl) ?_
    refine lv_iload hx hb dX8_bring_12 (lv_at hl 0 rfl) ?_
    refine q_iadd hx hb dX8_bring_14 ?_
    refine lv_aload_n hx hb dX8_bring_15 rfl (lv_at hl 1 rfl) ?_
    refine lv_iload_n hx hb dX8_bring_16 rfl (lv_at hl 2 rfl) ?_
    refine lv_iload hx hb dX8_bring_17 (lv_at hl 0 rfl) ?_
    refine q_iadd hx hb dX8_bring_19 ?_
    refine q_iald hx hb hK hw 0 (by omega) (by omega) dX8_bring_20 rfl ?_
    refine q_topi (x := nI ((va_cpy f f i j c) (i + c))) (y := nI (f (i + c))) (congrArg nI (pk_cpy_out (by omega))) ?_
    refine q_iast hx hb hK hw 0 (by omega) (by omega) dX8_bring_21 rfl (fun H locs hw => ?_)
    have hw : WS D A s [(a, .inl (Z 0, la, .inl (aI (va_up (va_cpy f f i j c) (j + c) (f (i + c))))))] H locs := hw
    refine lv_iinc (v := nI (c + 1)) (lv' := [(5, .int (nI (c + 1))), (0, .ref a), (1, .int (nI i)), (2, .ref a), (3, .int (nI j)), (4, .int (nI n))]) hx hb dX8_bring_22 hl (k := 0) rfl (nI_add _ _) (by decide) rfl (fun ls hl => ?_)
    refine lv_goto (tgt := 3) hx hb dX8_bring_25 (by decide) ?_
    have hw : WS D A s [(a, .inl (Z 0, la, .inl (aI (va_cpy f f i j (c + 1)))))] H locs := by rw [show (va_cpy f f i j (c + 1)) = (va_up (va_cpy f f i j c) (j + c) (f (i + c))) from (cpy_up f f i j c).symm]; exact hw
    exact ih3 (c + 1) H locs ls (by omega) (by omega) hw (lv_sub hl [0, 1, 2, 3, 4, 5] rfl)
set_option maxHeartbeats 4000000 in
set_option maxRecDepth 100000 in
theorem c_X8_notes (l : Launch) (D : va_G) (Z : Nat → ClassId) (zs0 : Nat) (M : Nat) (mr mi : Nat → Nat) (ima : Int32) (p g : Nat → Nat) (ha : mi 2 ≤ 6) : cMv l yX8_notes wsX8_notes (rmd 1) D Z zs0 [.ref M] [(M, .inr (8, [.ref (mr 0), .ref (mr 1), .int (nI (mi 2)), .ref (mr 3), .ref (mr 4), .int ima, .ref (mr 6), .int (nI (mi 7)), .ref (mr 8), .ref (mr 9), .ref (mr 10), .long (lN (mi 11)), .long (lN (mi 12)), .ref (mr 13), .ref (mr 14), .ref (mr 15), .ref (mr 16), .ref (mr 17), .ref (mr 18), .int (nI (mi 19)), .ref (mr 20), .ref (mr 21), .ref (mr 22), .ref (mr 23), .long (lN (mi 24)), .long (lN (mi 25)), .int (nI (mi 26)), .int (nI (mi 27)), .ref (mr 28), .int (nI (mi 29)), .int (nI (mi 30)), .int (nI (mi 31)), .int (nI (mi 32))])), (mr 0, .inl (Z 0, 18, .inl (aI p))), (mr 1, .inl (Z 0, 108, .inl (aI g)))] (S := Unit) (fun (_ : Unit) => True) (fun (_ : Unit) => [(M, .inr (8, [.ref (mr 0), .ref (mr 1), .int (nI (min (mi 2 + 1) 6)), .ref (mr 3), .ref (mr 4), .int ima, .ref (mr 6), .int (nI (mi 7)), .ref (mr 8), .ref (mr 9), .ref (mr 10), .long (lN (mi 11)), .long (lN (mi 12)), .ref (mr 13), .ref (mr 14), .ref (mr 15), .ref (mr 16), .ref (mr 17), .ref (mr 18), .int (nI (mi 19)), .ref (mr 20), .ref (mr 21), .ref (mr 22), .ref (mr 23), .long (lN (mi 24)), .long (lN (mi 25)), .int (nI (mi 26)), .int (nI (mi 27)), .ref (mr 28), .int (nI (mi 29)), .int (nI (mi 30)), .int (nI (mi 31)), .int (nI (mi 32))])), (mr 0, .inl (Z 0, 18, .inl (aI p))), (mr 1, .inl (Z 0, 108, .inl (aI (ntG g p (mi 2)))))]) 0 0 := by
  refine q_open (y := yX8_notes) (ws := wsX8_notes) (av := [.ref M]) (win := [(M, .inr (8, [.ref (mr 0), .ref (mr 1), .int (nI (mi 2)), .ref (mr 3), .ref (mr 4), .int ima, .ref (mr 6), .int (nI (mi 7)), .ref (mr 8), .ref (mr 9), .ref (mr 10), .long (lN (mi 11)), .long (lN (mi 12)), .ref (mr 13), .ref (mr 14), .ref (mr 15), .ref (mr 16), .ref (mr 17), .ref (mr 18), .int (nI (mi 19)), .ref (mr 20), .ref (mr 21), .ref (mr 22), .ref (mr 23), .long (lN (mi 24)), .long (lN (mi 25)), .int (nI (mi 26)), .int (nI (mi 27)), .ref (mr 28), .int (nI (mi 29)), .int (nI (mi 30)), .int (nI (mi 31)), .int (nI (mi 32))])), (mr 0, .inl (Z 0, 18, .inl (aI p))), (mr 1, .inl (Z 0, 108, .inl (aI g)))]) (Qc := fun zs0 => cQv D Z zs0 [(M, .inr (8, [.ref (mr 0), .ref (mr 1), .int (nI (mi 2)), .ref (mr 3), .ref (mr 4), .int ima, .ref (mr 6), .int (nI (mi 7)), .ref (mr 8), .ref (mr 9), .ref (mr 10), .long (lN (mi 11)), .long (lN (mi 12)), .ref (mr 13), .ref (mr 14), .ref (mr 15), .ref (mr 16), .ref (mr 17), .ref (mr 18), .int (nI (mi 19)), .ref (mr 20), .ref (mr 21), .ref (mr 22), .ref (mr 23), .long (lN (mi 24)), .long (lN (mi 25)), .int (nI (mi 26)), .int (nI (mi 27)), .ref (mr 28), .int (nI (mi 29)), .int (nI (mi 30)), .int (nI (mi 31)), .int (nI (mi 32))])), (mr 0, .inl (Z 0, 18, .inl (aI p))), (mr 1, .inl (Z 0, 108, .inl (aI g)))] (S := Unit) (fun (_ : Unit) => True) (fun (_ : Unit) => [(M, .inr (8, [.ref (mr 0), .ref (mr 1), .int (nI (min (mi 2 + 1) 6)), .ref (mr 3), .ref (mr 4), .int ima, .ref (mr 6), .int (nI (mi 7)), .ref (mr 8), .ref (mr 9), .ref (mr 10), .long (lN (mi 11)), .long (lN (mi 12)), .ref (mr 13), .ref (mr 14), .ref (mr 15), .ref (mr 16), .ref (mr 17), .ref (mr 18), .int (nI (mi 19)), .ref (mr 20), .ref (mr 21), .ref (mr 22), .ref (mr 23), .long (lN (mi 24)), .long (lN (mi 25)), .int (nI (mi 26)), .int (nI (mi 27)), .ref (mr 28), .int (nI (mi 29)), .int (nI (mi 30)), .int (nI (mi 31)), .int (nI (mi 32))])), (mr 0, .inl (Z 0, 18, .inl (aI p))), (mr 1, .inl (Z 0, 108, .inl (aI (ntG g p (mi 2)))))])) (cc := cX8_notes) (maxL := 1) (ret := none) (by decide) rfl (Nat.le_of_ble_eq_true rfl) ?_
  intro pp ee s mm bw mt cd ls A H locs hAe hx hb hr hml hown hmn hts hlocks hA hK hw hl
  have hown : s.vm.findClass RX8 = some mm.cls := hown
  have hl : lv_has ls 1 [(0, .ref M)] := hl
  have wd1 := hts (.fieldLink RX8 72 "ReplaceAgesModel" "acts" "I") (List.mem_of_getElem? (i := 1) rfl)
  have wd3 := hts (.fieldLink RX8 7 "ReplaceAgesModel" "st" "[I") (List.mem_of_getElem? (i := 3) rfl)
  have wd2 := hts (.fieldLink RX8 13 "ReplaceAgesModel" "past" "[I") (List.mem_of_getElem? (i := 2) rfl)
  have in_X8 : ∀ w ∈ wsX80, w ∈ wsX8_notes := fun _ h => List.mem_cons_of_mem _ (List.mem_append_right _ h)
  refine lv_aload_n hx hb dX8_notes_0 rfl (lv_at hl 0 rfl) ?_
  refine q_get (v := .int (nI (mi 2))) (ci := 8) hx hb hts in_X8 hown hK hw 0 2 wd1 dX8_notes_1 rfl rfl (by decide) rfl ?_
  refine q_bipush (v := 6) hx hb dX8_notes_4 (by decide) ?_
  refine q_icmp_ne (tgt := 35) hx hb ((mi 2 : Nat) : Int) ((6 : Nat) : Int) (nI_toInt (by omega)) (nI_toInt (by omega)) dX8_notes_6 (by decide) (fun c1 => ?_) (fun c1 => ?_)
  · --
    have hne : mi 2 < 6 := by omega
    refine lv_aload_n hx hb dX8_notes_35 rfl (lv_at hl 0 rfl) ?_
    refine q_get (v := .ref (mr 0)) (ci := 8) hx hb hts in_X8 hown hK hw 0 0 wd3 dX8_notes_36 rfl rfl (by decide) rfl ?_
    refine q_iconst (v := 0) hx hb dX8_notes_39 (by decide) ?_
    refine lv_aload_n hx hb dX8_notes_40 rfl (lv_at hl 0 rfl) ?_
    refine q_get (v := .ref (mr 1)) (ci := 8) hx hb hts in_X8 hown hK hw 0 1 wd2 dX8_notes_41 rfl rfl (by decide) rfl ?_
    refine q_bipush (v := 18) hx hb dX8_notes_44 (by decide) ?_
    refine lv_aload_n hx hb dX8_notes_46 rfl (lv_at hl 0 rfl) ?_
    refine q_get (v := .int (nI (mi 2))) (ci := 8) hx hb hts in_X8 hown hK hw 0 2 wd1 dX8_notes_47 rfl rfl (by decide) rfl ?_
    refine q_imul hx hb dX8_notes_50 ?_
    refine q_bipush (v := 18) hx hb dX8_notes_51 (by decide) ?_
    refine q_callv (S := Unit) (Z := Z) (D := D) (wc := [((mr 0), .inl (Z 0, 18, .inl (aI p))), ((mr 1), .inl (Z 0, 108, .inl (aI g)))]) (wr := [(M, .inr (8, [.ref (mr 0), .ref (mr 1), .int (nI (mi 2)), .ref (mr 3), .ref (mr 4), .int ima, .ref (mr 6), .int (nI (mi 7)), .ref (mr 8), .ref (mr 9), .ref (mr 10), .long (lN (mi 11)), .long (lN (mi 12)), .ref (mr 13), .ref (mr 14), .ref (mr 15), .ref (mr 16), .ref (mr 17), .ref (mr 18), .int (nI (mi 19)), .ref (mr 20), .ref (mr 21), .ref (mr 22), .ref (mr 23), .long (lN (mi 24)), .long (lN (mi 25)), .int (nI (mi 26)), .int (nI (mi 27)), .ref (mr 28), .int (nI (mi 29)), .int (nI (mi 30)), .int (nI (mi 31)), .int (nI (mi 32))]))]) (rest := []) hw hA [1, 2] [0] rfl rfl rfl rfl (by decide) (fun hPc hDc => va_runS (As := [.ref (mr 0), .int (nI 0), .ref (mr 1), .int (nI (18 * (mi 2))), .int (nI 18)]) (rest := []) ⟨hx, hb, hml, hown, hts⟩ (c_X8_bring l D Z H.size (mr 0) (mr 1) 18 108 0 (18 * (mi 2)) 18 p g (by first | assumption | omega) (by first | assumption | omega) (by first | assumption | omega) (by first | assumption | omega)) (va_cwS 5 hts gX8_notes_X8_bring rfl rfl rfl (by decide +kernel) ⟨Nat.le_of_ble_eq_true rfl, Nat.le_of_ble_eq_true rfl⟩) ⟨fb_cPre, pre_of hPc hK hDc⟩ rfl rfl hl.1 rfl (lv_room (Nat.le_of_ble_eq_true rfl)) dX8_notes_53 ⟨Nat.le_of_ble_eq_true rfl, Nat.le_of_ble_eq_true rfl⟩) (fun uu H locs hr2 hw => ?_)
    have hw : WS D A s [(M, .inr (8, [.ref (mr 0), .ref (mr 1), .int (nI (mi 2)), .ref (mr 3), .ref (mr 4), .int ima, .ref (mr 6), .int (nI (mi 7)), .ref (mr 8), .ref (mr 9), .ref (mr 10), .long (lN (mi 11)), .long (lN (mi 12)), .ref (mr 13), .ref (mr 14), .ref (mr 15), .ref (mr 16), .ref (mr 17), .ref (mr 18), .int (nI (mi 19)), .ref (mr 20), .ref (mr 21), .ref (mr 22), .ref (mr 23), .long (lN (mi 24)), .long (lN (mi 25)), .int (nI (mi 26)), .int (nI (mi 27)), .ref (mr 28), .int (nI (mi 29)), .int (nI (mi 30)), .int (nI (mi 31)), .int (nI (mi 32))])), ((mr 0), .inl (Z 0, 18, .inl (aI p))), ((mr 1), .inl (Z 0, 108, .inl (aI (va_cpy p g 0 (18 * (mi 2)) 18))))] H locs := hw
    refine lv_aload_n hx hb dX8_notes_56 rfl (lv_at hl 0 rfl) ?_
    refine lv_dup hx hb dX8_notes_57 rfl ?_
    refine q_get (v := .int (nI (mi 2))) (ci := 8) hx hb hts in_X8 hown hK hw 0 2 wd1 dX8_notes_58 rfl rfl (by decide) rfl ?_
    refine q_iconst (v := 1) hx hb dX8_notes_61 (by decide) ?_
    refine q_iadd hx hb dX8_notes_62 ?_
    refine q_put (v := .int (nI (mi 2 + 1))) (ci := 8) hx hb hts in_X8 tyX8 tyX8_ok nmX8 hown hK hw 0 2 wd1 dX8_notes_63 rfl rfl (by decide) rfl rfl rfl (Nat.le_of_ble_eq_true rfl) (fun H locs hw => ?_)
    have hw : WS D A s [(M, .inr (8, [.ref (mr 0), .ref (mr 1), .int (nI (mi 2 + 1)), .ref (mr 3), .ref (mr 4), .int ima, .ref (mr 6), .int (nI (mi 7)), .ref (mr 8), .ref (mr 9), .ref (mr 10), .long (lN (mi 11)), .long (lN (mi 12)), .ref (mr 13), .ref (mr 14), .ref (mr 15), .ref (mr 16), .ref (mr 17), .ref (mr 18), .int (nI (mi 19)), .ref (mr 20), .ref (mr 21), .ref (mr 22), .ref (mr 23), .long (lN (mi 24)), .long (lN (mi 25)), .int (nI (mi 26)), .int (nI (mi 27)), .ref (mr 28), .int (nI (mi 29)), .int (nI (mi 30)), .int (nI (mi 31)), .int (nI (mi 32))])), ((mr 0), .inl (Z 0, 18, .inl (aI p))), ((mr 1), .inl (Z 0, 108, .inl (aI (va_cpy p g 0 (18 * (mi 2)) 18))))] H locs := hw
    exact q_vret (wout := _) hx hb hr hlocks hAe hK () (by first | (rw [show min (mi 2 + 1) 6 = mi 2 + 1 by omega, ntG_1 hne]; exact hw.sub [0, 1, 2] (by decide) rfl) | (rw [show min (mi 2 + 1) 6 = mi 2 - 1 + 1 by omega, ntG_2 heq]; rw [show 18 * (mi 2 - 1) = 90 by omega] at hw; exact hw.sub [0, 1, 2] (by decide) rfl)) (trivial) dX8_notes_66
  · --
    have heq : mi 2 = 6 := by omega
    refine lv_aload_n hx hb dX8_notes_9 rfl (lv_at hl 0 rfl) ?_
    refine q_get (v := .ref (mr 1)) (ci := 8) hx hb hts in_X8 hown hK hw 0 1 wd2 dX8_notes_10 rfl rfl (by decide) rfl ?_
    refine q_bipush (v := 18) hx hb dX8_notes_13 (by decide) ?_
    refine lv_aload_n hx hb dX8_notes_15 rfl (lv_at hl 0 rfl) ?_
    refine q_get (v := .ref (mr 1)) (ci := 8) hx hb hts in_X8 hown hK hw 0 1 wd2 dX8_notes_16 rfl rfl (by decide) rfl ?_
    refine q_iconst (v := 0) hx hb dX8_notes_19 (by decide) ?_
    refine q_bipush (v := 90) hx hb dX8_notes_20 (by decide) ?_
    refine q_callv (S := Unit) (Z := Z) (D := D) (wc := [((mr 1), .inl (Z 0, 108, .inl (aI g)))]) (wr := [(M, .inr (8, [.ref (mr 0), .ref (mr 1), .int (nI (mi 2)), .ref (mr 3), .ref (mr 4), .int ima, .ref (mr 6), .int (nI (mi 7)), .ref (mr 8), .ref (mr 9), .ref (mr 10), .long (lN (mi 11)), .long (lN (mi 12)), .ref (mr 13), .ref (mr 14), .ref (mr 15), .ref (mr 16), .ref (mr 17), .ref (mr 18), .int (nI (mi 19)), .ref (mr 20), .ref (mr 21), .ref (mr 22), .ref (mr 23), .long (lN (mi 24)), .long (lN (mi 25)), .int (nI (mi 26)), .int (nI (mi 27)), .ref (mr 28), .int (nI (mi 29)), .int (nI (mi 30)), .int (nI (mi 31)), .int (nI (mi 32))])), (mr 0, .inl (Z 0, 18, .inl (aI p)))]) (rest := []) hw hA [2] [0, 1] rfl rfl rfl rfl (by decide) (fun hPc hDc => va_runS (As := [.ref (mr 1), .int (nI 18), .ref (mr 1), .int (nI 0), .int (nI 90)]) (rest := []) ⟨hx, hb, hml, hown, hts⟩ (c_bringS l D Z H.size (mr 1) 108 18 0 90 g (by first | assumption | omega) (by first | assumption | omega) (by first | assumption | omega) (by first | assumption | omega)) (va_cwS 5 hts gX8_notes_X8_bring rfl rfl rfl (by decide +kernel) ⟨Nat.le_of_ble_eq_true rfl, Nat.le_of_ble_eq_true rfl⟩) ⟨fb_cPre, pre_of hPc hK hDc⟩ rfl rfl hl.1 rfl (lv_room (Nat.le_of_ble_eq_true rfl)) dX8_notes_22 ⟨Nat.le_of_ble_eq_true rfl, Nat.le_of_ble_eq_true rfl⟩) (fun uu H locs hr3 hw => ?_)
    have hw : WS D A s [(M, .inr (8, [.ref (mr 0), .ref (mr 1), .int (nI (mi 2)), .ref (mr 3), .ref (mr 4), .int ima, .ref (mr 6), .int (nI (mi 7)), .ref (mr 8), .ref (mr 9), .ref (mr 10), .long (lN (mi 11)), .long (lN (mi 12)), .ref (mr 13), .ref (mr 14), .ref (mr 15), .ref (mr 16), .ref (mr 17), .ref (mr 18), .int (nI (mi 19)), .ref (mr 20), .ref (mr 21), .ref (mr 22), .ref (mr 23), .long (lN (mi 24)), .long (lN (mi 25)), .int (nI (mi 26)), .int (nI (mi 27)), .ref (mr 28), .int (nI (mi 29)), .int (nI (mi 30)), .int (nI (mi 31)), .int (nI (mi 32))])), (mr 0, .inl (Z 0, 18, .inl (aI p))), ((mr 1), .inl (Z 0, 108, .inl (aI (va_cpy g g 18 0 90))))] H locs := hw
    refine lv_aload_n hx hb dX8_notes_25 rfl (lv_at hl 0 rfl) ?_
    refine lv_dup hx hb dX8_notes_26 rfl ?_
    refine q_get (v := .int (nI (mi 2))) (ci := 8) hx hb hts in_X8 hown hK hw 0 2 wd1 dX8_notes_27 rfl rfl (by decide) rfl ?_
    refine q_iconst (v := 1) hx hb dX8_notes_30 (by decide) ?_
    refine q_isub hx hb (by omega) dX8_notes_31 ?_
    refine q_put (v := .int (nI (mi 2 - 1))) (ci := 8) hx hb hts in_X8 tyX8 tyX8_ok nmX8 hown hK hw 0 2 wd1 dX8_notes_32 rfl rfl (by decide) rfl rfl rfl (Nat.le_of_ble_eq_true rfl) (fun H locs hw => ?_)
    have hw : WS D A s [(M, .inr (8, [.ref (mr 0), .ref (mr 1), .int (nI (mi 2 - 1)), .ref (mr 3), .ref (mr 4), .int ima, .ref (mr 6), .int (nI (mi 7)), .ref (mr 8), .ref (mr 9), .ref (mr 10), .long (lN (mi 11)), .long (lN (mi 12)), .ref (mr 13), .ref (mr 14), .ref (mr 15), .ref (mr 16), .ref (mr 17), .ref (mr 18), .int (nI (mi 19)), .ref (mr 20), .ref (mr 21), .ref (mr 22), .ref (mr 23), .long (lN (mi 24)), .long (lN (mi 25)), .int (nI (mi 26)), .int (nI (mi 27)), .ref (mr 28), .int (nI (mi 29)), .int (nI (mi 30)), .int (nI (mi 31)), .int (nI (mi 32))])), (mr 0, .inl (Z 0, 18, .inl (aI p))), ((mr 1), .inl (Z 0, 108, .inl (aI (va_cpy g g 18 0 90))))] H locs := hw
    refine lv_aload_n hx hb dX8_notes_35 rfl (lv_at hl 0 rfl) ?_
    refine q_get (v := .ref (mr 0)) (ci := 8) hx hb hts in_X8 hown hK hw 0 0 wd3 dX8_notes_36 rfl rfl (by decide) rfl ?_
    refine q_iconst (v := 0) hx hb dX8_notes_39 (by decide) ?_
    refine lv_aload_n hx hb dX8_notes_40 rfl (lv_at hl 0 rfl) ?_
    refine q_get (v := .ref (mr 1)) (ci := 8) hx hb hts in_X8 hown hK hw 0 1 wd2 dX8_notes_41 rfl rfl (by decide) rfl ?_
    refine q_bipush (v := 18) hx hb dX8_notes_44 (by decide) ?_
    refine lv_aload_n hx hb dX8_notes_46 rfl (lv_at hl 0 rfl) ?_
    refine q_get (v := .int (nI (mi 2 - 1))) (ci := 8) hx hb hts in_X8 hown hK hw 0 2 wd1 dX8_notes_47 rfl rfl (by decide) rfl ?_
    refine q_imul hx hb dX8_notes_50 ?_
    refine q_bipush (v := 18) hx hb dX8_notes_51 (by decide) ?_
    refine q_callv (S := Unit) (Z := Z) (D := D) (wc := [((mr 0), .inl (Z 0, 18, .inl (aI p))), ((mr 1), .inl (Z 0, 108, .inl (aI (va_cpy g g 18 0 90))))]) (wr := [(M, .inr (8, [.ref (mr 0), .ref (mr 1), .int (nI (mi 2 - 1)), .ref (mr 3), .ref (mr 4), .int ima, .ref (mr 6), .int (nI (mi 7)), .ref (mr 8), .ref (mr 9), .ref (mr 10), .long (lN (mi 11)), .long (lN (mi 12)), .ref (mr 13), .ref (mr 14), .ref (mr 15), .ref (mr 16), .ref (mr 17), .ref (mr 18), .int (nI (mi 19)), .ref (mr 20), .ref (mr 21), .ref (mr 22), .ref (mr 23), .long (lN (mi 24)), .long (lN (mi 25)), .int (nI (mi 26)), .int (nI (mi 27)), .ref (mr 28), .int (nI (mi 29)), .int (nI (mi 30)), .int (nI (mi 31)), .int (nI (mi 32))]))]) (rest := []) hw hA [1, 2] [0] rfl rfl rfl rfl (by decide) (fun hPc hDc => va_runS (As := [.ref (mr 0), .int (nI 0), .ref (mr 1), .int (nI (18 * (mi 2 - 1))), .int (nI 18)]) (rest := []) ⟨hx, hb, hml, hown, hts⟩ (c_X8_bring l D Z H.size (mr 0) (mr 1) 18 108 0 (18 * (mi 2 - 1)) 18 p (va_cpy g g 18 0 90) (by first | assumption | omega) (by first | assumption | omega) (by first | assumption | omega) (by first | assumption | omega)) (va_cwS 5 hts gX8_notes_X8_bring rfl rfl rfl (by decide +kernel) ⟨Nat.le_of_ble_eq_true rfl, Nat.le_of_ble_eq_true rfl⟩) ⟨fb_cPre, pre_of hPc hK hDc⟩ rfl rfl hl.1 rfl (lv_room (Nat.le_of_ble_eq_true rfl)) dX8_notes_53 ⟨Nat.le_of_ble_eq_true rfl, Nat.le_of_ble_eq_true rfl⟩) (fun uu H locs hr4 hw => ?_)
    have hw : WS D A s [(M, .inr (8, [.ref (mr 0), .ref (mr 1), .int (nI (mi 2 - 1)), .ref (mr 3), .ref (mr 4), .int ima, .ref (mr 6), .int (nI (mi 7)), .ref (mr 8), .ref (mr 9), .ref (mr 10), .long (lN (mi 11)), .long (lN (mi 12)), .ref (mr 13), .ref (mr 14), .ref (mr 15), .ref (mr 16), .ref (mr 17), .ref (mr 18), .int (nI (mi 19)), .ref (mr 20), .ref (mr 21), .ref (mr 22), .ref (mr 23), .long (lN (mi 24)), .long (lN (mi 25)), .int (nI (mi 26)), .int (nI (mi 27)), .ref (mr 28), .int (nI (mi 29)), .int (nI (mi 30)), .int (nI (mi 31)), .int (nI (mi 32))])), ((mr 0), .inl (Z 0, 18, .inl (aI p))), ((mr 1), .inl (Z 0, 108, .inl (aI (va_cpy p (va_cpy g g 18 0 90) 0 (18 * (mi 2 - 1)) 18))))] H locs := hw
    refine lv_aload_n hx hb dX8_notes_56 rfl (lv_at hl 0 rfl) ?_
    refine lv_dup hx hb dX8_notes_57 rfl ?_
    refine q_get (v := .int (nI (mi 2 - 1))) (ci := 8) hx hb hts in_X8 hown hK hw 0 2 wd1 dX8_notes_58 rfl rfl (by decide) rfl ?_
    refine q_iconst (v := 1) hx hb dX8_notes_61 (by decide) ?_
    refine q_iadd hx hb dX8_notes_62 ?_
    refine q_put (v := .int (nI (mi 2 - 1 + 1))) (ci := 8) hx hb hts in_X8 tyX8 tyX8_ok nmX8 hown hK hw 0 2 wd1 dX8_notes_63 rfl rfl (by decide) rfl rfl rfl (Nat.le_of_ble_eq_true rfl) (fun H locs hw => ?_)
    have hw : WS D A s [(M, .inr (8, [.ref (mr 0), .ref (mr 1), .int (nI (mi 2 - 1 + 1)), .ref (mr 3), .ref (mr 4), .int ima, .ref (mr 6), .int (nI (mi 7)), .ref (mr 8), .ref (mr 9), .ref (mr 10), .long (lN (mi 11)), .long (lN (mi 12)), .ref (mr 13), .ref (mr 14), .ref (mr 15), .ref (mr 16), .ref (mr 17), .ref (mr 18), .int (nI (mi 19)), .ref (mr 20), .ref (mr 21), .ref (mr 22), .ref (mr 23), .long (lN (mi 24)), .long (lN (mi 25)), .int (nI (mi 26)), .int (nI (mi 27)), .ref (mr 28), .int (nI (mi 29)), .int (nI (mi 30)), .int (nI (mi 31)), .int (nI (mi 32))])), ((mr 0), .inl (Z 0, 18, .inl (aI p))), ((mr 1), .inl (Z 0, 108, .inl (aI (va_cpy p (va_cpy g g 18 0 90) 0 (18 * (mi 2 - 1)) 18))))] H locs := hw
    exact q_vret (wout := _) hx hb hr hlocks hAe hK () (by first | (rw [show min (mi 2 + 1) 6 = mi 2 + 1 by omega, ntG_1 hne]; exact hw.sub [0, 1, 2] (by decide) rfl) | (rw [show min (mi 2 + 1) 6 = mi 2 - 1 + 1 by omega, ntG_2 heq]; rw [show 18 * (mi 2 - 1) = 90 by omega] at hw; exact hw.sub [0, 1, 2] (by decide) rfl)) (trivial) dX8_notes_66
set_option maxHeartbeats 4000000 in
set_option maxRecDepth 100000 in
theorem c_X8_divisor (l : Launch) (D : va_G) (Z : Nat → ClassId) (zs0 : Nat) (a b : Nat) (ha : a < 2 ^ 63) (hb0 : b < 2 ^ 63) : cMl l yX8_divisor wsX8_divisor (rmd 0) D Z zs0 [.long (lN a), .long (lN b)] [] (S := Unit) (fun (r : Int64) => fun (_ : Unit) => r = lN (Nat.gcd a b)) (fun (_ : Unit) => []) 0 0 := by
  refine q_open (y := yX8_divisor) (ws := wsX8_divisor) (av := [.long (lN a), .long (lN b)]) (win := []) (Qc := fun zs0 => cQl D Z zs0 [] (S := Unit) (fun (r : Int64) => fun (_ : Unit) => r = lN (Nat.gcd a b)) (fun (_ : Unit) => [])) (cc := cX8_divisor) (maxL := 10) (ret := (some .long)) (by decide) rfl (Nat.le_of_ble_eq_true rfl) ?_
  intro pp ee s mm bw mt cd ls A H locs hAe hx hb hr hml hown hmn hts hlocks hA hK hw hl
  have hown : s.vm.findClass RX8 = some mm.cls := hown
  have hl : lv_has ls 10 [(0, .long (lN a)), (2, .long (lN b))] := hl
  refine lv_lload_n hx hb dX8_divisor_0 rfl (lv_at hl 0 rfl) ?_
  refine lv_lstore (lv' := [(4, .long (lN a)), (0, .long (lN a)), (2, .long (lN b))]) hx hb dX8_divisor_1 hl (by decide) rfl (fun ls hl => ?_)
  refine lv_lload_n hx hb dX8_divisor_3 rfl (lv_at hl 2 rfl) ?_
  refine lv_lstore (lv' := [(6, .long (lN b)), (4, .long (lN a)), (0, .long (lN a)), (2, .long (lN b))]) hx hb dX8_divisor_4 hl (by decide) rfl (fun ls hl => ?_)
  refine q_loop (σ := Nat × Nat) (fun (x : Nat × Nat) => match x with | (x, y) => y) (fun (x : Nat × Nat) => match x with | (x, y) => x < 2 ^ 63 ∧ y < 2 ^ 63 ∧ Nat.gcd x y = Nat.gcd a b) (fun (x : Nat × Nat) => match x with | (x, y) => []) (fun (x : Nat × Nat) => match x with | (x, y) => [(6, .long (lN y)), (4, .long (lN x)), (0, .long (lN a)), (2, .long (lN b))]) (a, b) ⟨ha, hb0, rfl⟩ hw (lv_sub hl [0, 1, 2, 3] rfl) ?_
  intro ⟨x, y⟩ H locs ls hi6 hw hl ih6
  try dsimp only at hi6 hw hl ih6
  obtain ⟨q2, q3, q4⟩ := hi6
  have hw : WS D A s [] H locs := hw
  have hl : lv_has ls 10 [(6, .long (lN y)), (4, .long (lN x)), (0, .long (lN a)), (2, .long (lN b))] := hl
  refine lv_lload hx hb dX8_divisor_6 (lv_at hl 0 rfl) ?_
  refine q_lconst (v := 0) hx hb dX8_divisor_8 (by decide) ?_
  refine q_lc_eq (tgt := 31) hx hb ((y : Nat) : Int) ((0 : Nat) : Int) (pk_lT (by first | omega | assumption)) (pk_lT (by first | omega | assumption)) dX8_divisor_9 dX8_divisor_10 (by decide) (fun c1 => ?_) (fun c1 => ?_)
  · --
    have y0 : y = 0 := by omega
    refine lv_lload hx hb dX8_divisor_31 (lv_at hl 1 rfl) ?_
    exact q_lret (wout := _) hx hb hr hlocks hAe hK () hw (by rw [← q4, y0, Nat.gcd_zero_right]) dX8_divisor_33
  · --
    refine lv_lload hx hb dX8_divisor_13 (lv_at hl 1 rfl) ?_
    refine lv_lload hx hb dX8_divisor_15 (lv_at hl 0 rfl) ?_
    refine q_lrem hx hb (by omega) (by omega) (by omega) dX8_divisor_17 ?_
    refine lv_lstore (lv' := [(8, .long (lN (x % y))), (6, .long (lN y)), (4, .long (lN x)), (0, .long (lN a)), (2, .long (lN b))]) hx hb dX8_divisor_18 hl (by decide) rfl (fun ls hl => ?_)
    refine lv_lload hx hb dX8_divisor_20 (lv_at hl 1 rfl) ?_
    refine lv_lstore (lv' := [(4, .long (lN y)), (8, .long (lN (x % y))), (6, .long (lN y)), (0, .long (lN a)), (2, .long (lN b))]) hx hb dX8_divisor_22 hl (by decide) rfl (fun ls hl => ?_)
    refine lv_lload hx hb dX8_divisor_24 (lv_at hl 1 rfl) ?_
    refine lv_lstore (lv' := [(6, .long (lN (x % y))), (4, .long (lN y)), (8, .long (lN (x % y))), (0, .long (lN a)), (2, .long (lN b))]) hx hb dX8_divisor_26 hl (by decide) rfl (fun ls hl => ?_)
    refine lv_goto (tgt := 6) hx hb dX8_divisor_28 (by decide) ?_
    exact ih6 (y, x % y) H locs ls (Nat.mod_lt _ (by omega)) (by dsimp only; exact ⟨q3, Nat.lt_trans (Nat.mod_lt _ (by omega)) q3, by rw [← q4, Nat.gcd_comm y, ← Nat.gcd_rec, Nat.gcd_comm]⟩) hw (lv_sub hl [0, 1, 3, 4] rfl)
set_option maxHeartbeats 4000000 in
set_option maxRecDepth 100000 in
theorem c_X8_becomes (l : Launch) (D : va_G) (Z : Nat → ClassId) (zs0 : Nat) (M : Nat) (mr mi : Nat → Nat) (ima : Int32) (a b : Nat) (ha : a < 2 ^ 63) (hb0 : b < 2 ^ 63) (hb1 : 0 < b) : cMv l yX8_becomes wsX8_becomes (rmd 1) D Z zs0 [.ref M, .long (lN a), .long (lN b)] [(M, .inr (8, [.ref (mr 0), .ref (mr 1), .int (nI (mi 2)), .ref (mr 3), .ref (mr 4), .int ima, .ref (mr 6), .int (nI (mi 7)), .ref (mr 8), .ref (mr 9), .ref (mr 10), .long (lN (mi 11)), .long (lN (mi 12)), .ref (mr 13), .ref (mr 14), .ref (mr 15), .ref (mr 16), .ref (mr 17), .ref (mr 18), .int (nI (mi 19)), .ref (mr 20), .ref (mr 21), .ref (mr 22), .ref (mr 23), .long (lN (mi 24)), .long (lN (mi 25)), .int (nI (mi 26)), .int (nI (mi 27)), .ref (mr 28), .int (nI (mi 29)), .int (nI (mi 30)), .int (nI (mi 31)), .int (nI (mi 32))]))] (S := Unit) (fun (_ : Unit) => True) (fun (_ : Unit) => [(M, .inr (8, [.ref (mr 0), .ref (mr 1), .int (nI (mi 2)), .ref (mr 3), .ref (mr 4), .int ima, .ref (mr 6), .int (nI (mi 7)), .ref (mr 8), .ref (mr 9), .ref (mr 10), .long (lN (rA a b)), .long (lN (rB a b)), .ref (mr 13), .ref (mr 14), .ref (mr 15), .ref (mr 16), .ref (mr 17), .ref (mr 18), .int (nI (mi 19)), .ref (mr 20), .ref (mr 21), .ref (mr 22), .ref (mr 23), .long (lN (mi 24)), .long (lN (mi 25)), .int (nI (mi 26)), .int (nI (mi 27)), .ref (mr 28), .int (nI (mi 29)), .int (nI (mi 30)), .int (nI (mi 31)), .int (nI (mi 32))]))]) 0 0 := by
  refine q_open (y := yX8_becomes) (ws := wsX8_becomes) (av := [.ref M, .long (lN a), .long (lN b)]) (win := [(M, .inr (8, [.ref (mr 0), .ref (mr 1), .int (nI (mi 2)), .ref (mr 3), .ref (mr 4), .int ima, .ref (mr 6), .int (nI (mi 7)), .ref (mr 8), .ref (mr 9), .ref (mr 10), .long (lN (mi 11)), .long (lN (mi 12)), .ref (mr 13), .ref (mr 14), .ref (mr 15), .ref (mr 16), .ref (mr 17), .ref (mr 18), .int (nI (mi 19)), .ref (mr 20), .ref (mr 21), .ref (mr 22), .ref (mr 23), .long (lN (mi 24)), .long (lN (mi 25)), .int (nI (mi 26)), .int (nI (mi 27)), .ref (mr 28), .int (nI (mi 29)), .int (nI (mi 30)), .int (nI (mi 31)), .int (nI (mi 32))]))]) (Qc := fun zs0 => cQv D Z zs0 [(M, .inr (8, [.ref (mr 0), .ref (mr 1), .int (nI (mi 2)), .ref (mr 3), .ref (mr 4), .int ima, .ref (mr 6), .int (nI (mi 7)), .ref (mr 8), .ref (mr 9), .ref (mr 10), .long (lN (mi 11)), .long (lN (mi 12)), .ref (mr 13), .ref (mr 14), .ref (mr 15), .ref (mr 16), .ref (mr 17), .ref (mr 18), .int (nI (mi 19)), .ref (mr 20), .ref (mr 21), .ref (mr 22), .ref (mr 23), .long (lN (mi 24)), .long (lN (mi 25)), .int (nI (mi 26)), .int (nI (mi 27)), .ref (mr 28), .int (nI (mi 29)), .int (nI (mi 30)), .int (nI (mi 31)), .int (nI (mi 32))]))] (S := Unit) (fun (_ : Unit) => True) (fun (_ : Unit) => [(M, .inr (8, [.ref (mr 0), .ref (mr 1), .int (nI (mi 2)), .ref (mr 3), .ref (mr 4), .int ima, .ref (mr 6), .int (nI (mi 7)), .ref (mr 8), .ref (mr 9), .ref (mr 10), .long (lN (rA a b)), .long (lN (rB a b)), .ref (mr 13), .ref (mr 14), .ref (mr 15), .ref (mr 16), .ref (mr 17), .ref (mr 18), .int (nI (mi 19)), .ref (mr 20), .ref (mr 21), .ref (mr 22), .ref (mr 23), .long (lN (mi 24)), .long (lN (mi 25)), .int (nI (mi 26)), .int (nI (mi 27)), .ref (mr 28), .int (nI (mi 29)), .int (nI (mi 30)), .int (nI (mi 31)), .int (nI (mi 32))]))])) (cc := cX8_becomes) (maxL := 7) (ret := none) (by decide) rfl (Nat.le_of_ble_eq_true rfl) ?_
  intro pp ee s mm bw mt cd ls A H locs hAe hx hb hr hml hown hmn hts hlocks hA hK hw hl
  have hown : s.vm.findClass RX8 = some mm.cls := hown
  have hl : lv_has ls 7 [(0, .ref M), (1, .long (lN a)), (3, .long (lN b))] := hl
  have wd1 := hts (.fieldLink RX8 83 "ReplaceAgesModel" "above" "J") (List.mem_of_getElem? (i := 1) rfl)
  have wd2 := hts (.fieldLink RX8 87 "ReplaceAgesModel" "below" "J") (List.mem_of_getElem? (i := 2) rfl)
  have in_X8 : ∀ w ∈ wsX80, w ∈ wsX8_becomes := fun _ h => List.mem_cons_of_mem _ (List.mem_append_right _ h)
  have g0 : 0 < Nat.gcd a b := Nat.gcd_pos_of_pos_right _ hb1
  have g1 : Nat.gcd a b ≤ b := Nat.gcd_le_right _ hb1
  refine lv_lload_n hx hb dX8_becomes_0 rfl (lv_at hl 1 rfl) ?_
  refine lv_lload_n hx hb dX8_becomes_1 rfl (lv_at hl 2 rfl) ?_
  refine q_calll (S := Unit) (Z := Z) (D := D) (wc := []) (wr := [(M, .inr (8, [.ref (mr 0), .ref (mr 1), .int (nI (mi 2)), .ref (mr 3), .ref (mr 4), .int ima, .ref (mr 6), .int (nI (mi 7)), .ref (mr 8), .ref (mr 9), .ref (mr 10), .long (lN (mi 11)), .long (lN (mi 12)), .ref (mr 13), .ref (mr 14), .ref (mr 15), .ref (mr 16), .ref (mr 17), .ref (mr 18), .int (nI (mi 19)), .ref (mr 20), .ref (mr 21), .ref (mr 22), .ref (mr 23), .long (lN (mi 24)), .long (lN (mi 25)), .int (nI (mi 26)), .int (nI (mi 27)), .ref (mr 28), .int (nI (mi 29)), .int (nI (mi 30)), .int (nI (mi 31)), .int (nI (mi 32))]))]) (rest := []) hw hA [] [0] rfl rfl rfl rfl (by decide) (fun hPc hDc => va_runS (As := [.long (lN a), .long (lN b)]) (rest := []) ⟨hx, hb, hml, hown, hts⟩ (c_X8_divisor l D Z H.size a b (by first | assumption | omega) (by first | assumption | omega)) (va_cwS 2 hts gX8_becomes_X8_divisor rfl rfl rfl (by decide +kernel) ⟨Nat.le_of_ble_eq_true rfl, Nat.le_of_ble_eq_true rfl⟩) ⟨fb_cPre, pre_of hPc hK hDc⟩ rfl rfl hl.1 rfl (lv_room (Nat.le_of_ble_eq_true rfl)) dX8_becomes_2 ⟨Nat.le_of_ble_eq_true rfl, Nat.le_of_ble_eq_true rfl⟩) (fun r1 uu H locs hr1 hw => ?_)
  subst hr1
  have hw : WS D A s [(M, .inr (8, [.ref (mr 0), .ref (mr 1), .int (nI (mi 2)), .ref (mr 3), .ref (mr 4), .int ima, .ref (mr 6), .int (nI (mi 7)), .ref (mr 8), .ref (mr 9), .ref (mr 10), .long (lN (mi 11)), .long (lN (mi 12)), .ref (mr 13), .ref (mr 14), .ref (mr 15), .ref (mr 16), .ref (mr 17), .ref (mr 18), .int (nI (mi 19)), .ref (mr 20), .ref (mr 21), .ref (mr 22), .ref (mr 23), .long (lN (mi 24)), .long (lN (mi 25)), .int (nI (mi 26)), .int (nI (mi 27)), .ref (mr 28), .int (nI (mi 29)), .int (nI (mi 30)), .int (nI (mi 31)), .int (nI (mi 32))]))] H locs := hw
  refine lv_lstore (lv' := [(5, .long (lN (Nat.gcd a b))), (0, .ref M), (1, .long (lN a)), (3, .long (lN b))]) hx hb dX8_becomes_5 hl (by decide) rfl (fun ls hl => ?_)
  refine lv_aload_n hx hb dX8_becomes_7 rfl (lv_at hl 1 rfl) ?_
  refine lv_lload_n hx hb dX8_becomes_8 rfl (lv_at hl 2 rfl) ?_
  refine lv_lload hx hb dX8_becomes_9 (lv_at hl 0 rfl) ?_
  refine q_ldiv hx hb (by omega) (by omega) (by omega) dX8_becomes_11 ?_
  refine q_put (v := .long (lN (a / (Nat.gcd a b)))) (ci := 8) hx hb hts in_X8 tyX8 tyX8_ok nmX8 hown hK hw 0 11 wd1 dX8_becomes_12 rfl rfl (by decide) rfl rfl rfl (Nat.le_of_ble_eq_true rfl) (fun H locs hw => ?_)
  have hw : WS D A s [(M, .inr (8, [.ref (mr 0), .ref (mr 1), .int (nI (mi 2)), .ref (mr 3), .ref (mr 4), .int ima, .ref (mr 6), .int (nI (mi 7)), .ref (mr 8), .ref (mr 9), .ref (mr 10), .long (lN (a / (Nat.gcd a b))), .long (lN (mi 12)), .ref (mr 13), .ref (mr 14), .ref (mr 15), .ref (mr 16), .ref (mr 17), .ref (mr 18), .int (nI (mi 19)), .ref (mr 20), .ref (mr 21), .ref (mr 22), .ref (mr 23), .long (lN (mi 24)), .long (lN (mi 25)), .int (nI (mi 26)), .int (nI (mi 27)), .ref (mr 28), .int (nI (mi 29)), .int (nI (mi 30)), .int (nI (mi 31)), .int (nI (mi 32))]))] H locs := hw
  refine lv_aload_n hx hb dX8_becomes_15 rfl (lv_at hl 1 rfl) ?_
  refine lv_lload_n hx hb dX8_becomes_16 rfl (lv_at hl 3 rfl) ?_
  refine lv_lload hx hb dX8_becomes_17 (lv_at hl 0 rfl) ?_
  refine q_ldiv hx hb (by omega) (by omega) (by omega) dX8_becomes_19 ?_
  refine q_put (v := .long (lN (b / (Nat.gcd a b)))) (ci := 8) hx hb hts in_X8 tyX8 tyX8_ok nmX8 hown hK hw 0 12 wd2 dX8_becomes_20 rfl rfl (by decide) rfl rfl rfl (Nat.le_of_ble_eq_true rfl) (fun H locs hw => ?_)
  have hw : WS D A s [(M, .inr (8, [.ref (mr 0), .ref (mr 1), .int (nI (mi 2)), .ref (mr 3), .ref (mr 4), .int ima, .ref (mr 6), .int (nI (mi 7)), .ref (mr 8), .ref (mr 9), .ref (mr 10), .long (lN (a / (Nat.gcd a b))), .long (lN (b / (Nat.gcd a b))), .ref (mr 13), .ref (mr 14), .ref (mr 15), .ref (mr 16), .ref (mr 17), .ref (mr 18), .int (nI (mi 19)), .ref (mr 20), .ref (mr 21), .ref (mr 22), .ref (mr 23), .long (lN (mi 24)), .long (lN (mi 25)), .int (nI (mi 26)), .int (nI (mi 27)), .ref (mr 28), .int (nI (mi 29)), .int (nI (mi 30)), .int (nI (mi 31)), .int (nI (mi 32))]))] H locs := hw
  exact q_vret (wout := _) hx hb hr hlocks hAe hK () hw (trivial) dX8_becomes_23
set_option maxHeartbeats 4000000 in
set_option maxRecDepth 100000 in
theorem c_X8_isLess (l : Launch) (D : va_G) (Z : Nat → ClassId) (zs0 : Nat) (a b d e : Nat) (ha : a < 2 ^ 63) (hb0 : b < 2 ^ 63 ∧ 0 < b) (hd : d < 2 ^ 63) (he : e < 2 ^ 63 ∧ 0 < e) : cMi l yX8_isLess wsX8_isLess (rmd 0) D Z zs0 [.long (lN a), .long (lN b), .long (lN d), .long (lN e)] [] (S := Unit) (fun (r : Int32) => fun (_ : Unit) => r = nI (bb (a * e < d * b))) (fun (_ : Unit) => []) 0 0 := by
  refine q_open (y := yX8_isLess) (ws := wsX8_isLess) (av := [.long (lN a), .long (lN b), .long (lN d), .long (lN e)]) (win := []) (Qc := fun zs0 => cQi D Z zs0 [] (S := Unit) (fun (r : Int32) => fun (_ : Unit) => r = nI (bb (a * e < d * b))) (fun (_ : Unit) => [])) (cc := cX8_isLess) (maxL := 22) (ret := (some .boolean)) (by decide) rfl (Nat.le_of_ble_eq_true rfl) ?_
  intro pp ee s mm bw mt cd ls A H locs hAe hx hb hr hml hown hmn hts hlocks hA hK hw hl
  have hown : s.vm.findClass RX8 = some mm.cls := hown
  have hl : lv_has ls 22 [(0, .long (lN a)), (2, .long (lN b)), (4, .long (lN d)), (6, .long (lN e))] := hl
  refine lv_lload_n hx hb dX8_isLess_0 rfl (lv_at hl 0 rfl) ?_
  refine lv_lstore (lv' := [(8, .long (lN a)), (0, .long (lN a)), (2, .long (lN b)), (4, .long (lN d)), (6, .long (lN e))]) hx hb dX8_isLess_1 hl (by decide) rfl (fun ls hl => ?_)
  refine lv_lload_n hx hb dX8_isLess_3 rfl (lv_at hl 2 rfl) ?_
  refine lv_lstore (lv' := [(10, .long (lN b)), (8, .long (lN a)), (0, .long (lN a)), (2, .long (lN b)), (4, .long (lN d)), (6, .long (lN e))]) hx hb dX8_isLess_4 hl (by decide) rfl (fun ls hl => ?_)
  refine lv_lload hx hb dX8_isLess_6 (lv_at hl 4 rfl) ?_
  refine lv_lstore (lv' := [(12, .long (lN d)), (10, .long (lN b)), (8, .long (lN a)), (0, .long (lN a)), (2, .long (lN b)), (4, .long (lN d)), (6, .long (lN e))]) hx hb dX8_isLess_8 hl (by decide) rfl (fun ls hl => ?_)
  refine lv_lload hx hb dX8_isLess_10 (lv_at hl 6 rfl) ?_
  refine lv_lstore (lv' := [(14, .long (lN e)), (12, .long (lN d)), (10, .long (lN b)), (8, .long (lN a)), (0, .long (lN a)), (2, .long (lN b)), (4, .long (lN d)), (6, .long (lN e))]) hx hb dX8_isLess_12 hl (by decide) rfl (fun ls hl => ?_)
  refine q_loop (σ := Nat × Nat × Nat × Nat) (fun (x : Nat × Nat × Nat × Nat) => match x with | (x, y, u, v) => y + v) (fun (x : Nat × Nat × Nat × Nat) => match x with | (x, y, u, v) => (x < 2 ^ 63 ∧ y < 2 ^ 63 ∧ 0 < y ∧ u < 2 ^ 63 ∧ v < 2 ^ 63 ∧ 0 < v) ∧ (x * v < u * y ↔ a * e < d * b)) (fun (x : Nat × Nat × Nat × Nat) => match x with | (x, y, u, v) => []) (fun (x : Nat × Nat × Nat × Nat) => match x with | (x, y, u, v) => [(14, .long (lN v)), (12, .long (lN u)), (10, .long (lN y)), (8, .long (lN x))]) (a, b, d, e) ⟨by omega, Iff.rfl⟩ hw (lv_sub hl [0, 1, 2, 3] rfl) ?_
  intro ⟨x, y, u, v⟩ H locs ls hi14 hw hl ih14
  try dsimp only at hi14 hw hl ih14
  obtain ⟨q1, q2⟩ := hi14
  have hw : WS D A s [] H locs := hw
  have hl : lv_has ls 22 [(14, .long (lN v)), (12, .long (lN u)), (10, .long (lN y)), (8, .long (lN x))] := hl
  have d1 := Nat.div_le_self x y
  have d2 := Nat.div_le_self u v
  have m3 := Nat.mod_le x y
  have m4 := Nat.mod_le u v
  refine lv_lload hx hb dX8_isLess_14 (lv_at hl 3 rfl) ?_
  refine lv_lload hx hb dX8_isLess_16 (lv_at hl 2 rfl) ?_
  refine q_ldiv hx hb (by omega) (by omega) (by omega) dX8_isLess_18 ?_
  refine lv_lload hx hb dX8_isLess_19 (lv_at hl 1 rfl) ?_
  refine lv_lload hx hb dX8_isLess_21 (lv_at hl 0 rfl) ?_
  refine q_ldiv hx hb (by omega) (by omega) (by omega) dX8_isLess_23 ?_
  refine q_lc_eq (tgt := 48) hx hb ((x / y : Nat) : Int) ((u / v : Nat) : Int) (pk_lT (by first | omega | assumption)) (pk_lT (by first | omega | assumption)) dX8_isLess_24 dX8_isLess_25 (by decide) (fun c1 => ?_) (fun c1 => ?_)
  · --
    refine lv_lload hx hb dX8_isLess_48 (lv_at hl 3 rfl) ?_
    refine lv_lload hx hb dX8_isLess_50 (lv_at hl 2 rfl) ?_
    refine q_lrem hx hb (by omega) (by omega) (by omega) dX8_isLess_52 ?_
    refine lv_lstore (lv' := [(16, .long (lN (x % y))), (14, .long (lN v)), (12, .long (lN u)), (10, .long (lN y)), (8, .long (lN x))]) hx hb dX8_isLess_53 hl (by decide) rfl (fun ls hl => ?_)
    refine lv_lload hx hb dX8_isLess_55 (lv_at hl 2 rfl) ?_
    refine lv_lload hx hb dX8_isLess_57 (lv_at hl 1 rfl) ?_
    refine q_lrem hx hb (by omega) (by omega) (by omega) dX8_isLess_59 ?_
    refine lv_lstore (lv' := [(18, .long (lN (u % v))), (16, .long (lN (x % y))), (14, .long (lN v)), (12, .long (lN u)), (10, .long (lN y)), (8, .long (lN x))]) hx hb dX8_isLess_60 hl (by decide) rfl (fun ls hl => ?_)
    refine lv_lload hx hb dX8_isLess_62 (lv_at hl 1 rfl) ?_
    refine q_lconst (v := 0) hx hb dX8_isLess_64 (by decide) ?_
    refine q_lc_eq (tgt := 76) hx hb ((x % y : Nat) : Int) ((0 : Nat) : Int) (pk_lT (by first | omega | assumption)) (pk_lT (by first | omega | assumption)) dX8_isLess_65 dX8_isLess_66 (by decide) (fun c2 => ?_) (fun c2 => ?_)
    · --
      refine lv_lload hx hb dX8_isLess_76 (lv_at hl 1 rfl) ?_
      refine q_lconst (v := 0) hx hb dX8_isLess_78 (by decide) ?_
      refine q_lc_ne (tgt := 94) hx hb ((x % y : Nat) : Int) ((0 : Nat) : Int) (pk_lT (by first | omega | assumption)) (pk_lT (by first | omega | assumption)) dX8_isLess_79 dX8_isLess_80 (by decide) (fun c3 => ?_) (fun c3 => ?_)
      · --
        refine q_iconst (v := 0) hx hb dX8_isLess_94 (by decide) ?_
        exact q_zret (wout := _) hx hb hr hlocks hAe hK () hw rfl (by first | exact congrArg nI (bb_t (q2.mp (less_w (x := x) (u := u) q1.2.2.1 q1.2.2.2.2.2 (by omega)))).symm | exact congrArg nI (bb_f (fun q => less_nw (x := x) (u := u) q1.2.2.1 q1.2.2.2.2.2 (by omega) (by omega) (q2.mpr q))).symm | exact congrArg nI (bb_t (q2.mp (less_z (x := x) (u := u) q1.2.2.1 q1.2.2.2.2.2 (by omega) (by omega) (by omega)))).symm | exact congrArg nI (bb_f (fun q => less_nz (x := x) (u := u) q1.2.2.1 q1.2.2.2.2.2 (by omega) (by omega) (q2.mpr q))).symm) dX8_isLess_95
      · --
        refine lv_lload hx hb dX8_isLess_83 (lv_at hl 0 rfl) ?_
        refine q_lconst (v := 0) hx hb dX8_isLess_85 (by decide) ?_
        refine q_lc_le (tgt := 94) hx hb ((u % v : Nat) : Int) ((0 : Nat) : Int) (pk_lT (by first | omega | assumption)) (pk_lT (by first | omega | assumption)) dX8_isLess_86 dX8_isLess_87 (by decide) (fun c4 => ?_) (fun c4 => ?_)
        · --
          refine q_iconst (v := 0) hx hb dX8_isLess_94 (by decide) ?_
          exact q_zret (wout := _) hx hb hr hlocks hAe hK () hw rfl (by first | exact congrArg nI (bb_t (q2.mp (less_w (x := x) (u := u) q1.2.2.1 q1.2.2.2.2.2 (by omega)))).symm | exact congrArg nI (bb_f (fun q => less_nw (x := x) (u := u) q1.2.2.1 q1.2.2.2.2.2 (by omega) (by omega) (q2.mpr q))).symm | exact congrArg nI (bb_t (q2.mp (less_z (x := x) (u := u) q1.2.2.1 q1.2.2.2.2.2 (by omega) (by omega) (by omega)))).symm | exact congrArg nI (bb_f (fun q => less_nz (x := x) (u := u) q1.2.2.1 q1.2.2.2.2.2 (by omega) (by omega) (q2.mpr q))).symm) dX8_isLess_95
        · --
          refine q_iconst (v := 1) hx hb dX8_isLess_90 (by decide) ?_
          refine lv_goto (tgt := 95) hx hb dX8_isLess_91 (by decide) ?_
          exact q_zret (wout := _) hx hb hr hlocks hAe hK () hw rfl (by first | exact congrArg nI (bb_t (q2.mp (less_w (x := x) (u := u) q1.2.2.1 q1.2.2.2.2.2 (by omega)))).symm | exact congrArg nI (bb_f (fun q => less_nw (x := x) (u := u) q1.2.2.1 q1.2.2.2.2.2 (by omega) (by omega) (q2.mpr q))).symm | exact congrArg nI (bb_t (q2.mp (less_z (x := x) (u := u) q1.2.2.1 q1.2.2.2.2.2 (by omega) (by omega) (by omega)))).symm | exact congrArg nI (bb_f (fun q => less_nz (x := x) (u := u) q1.2.2.1 q1.2.2.2.2.2 (by omega) (by omega) (q2.mpr q))).symm) dX8_isLess_95
    · --
      refine lv_lload hx hb dX8_isLess_69 (lv_at hl 0 rfl) ?_
      refine q_lconst (v := 0) hx hb dX8_isLess_71 (by decide) ?_
      refine q_lc_ne (tgt := 96) hx hb ((u % v : Nat) : Int) ((0 : Nat) : Int) (pk_lT (by first | omega | assumption)) (pk_lT (by first | omega | assumption)) dX8_isLess_72 dX8_isLess_73 (by decide) (fun c5 => ?_) (fun c5 => ?_)
      · --
        refine lv_lload hx hb dX8_isLess_96 (lv_at hl 2 rfl) ?_
        refine lv_lstore (lv' := [(8, .long (lN v)), (18, .long (lN (u % v))), (16, .long (lN (x % y))), (14, .long (lN v)), (12, .long (lN u)), (10, .long (lN y))]) hx hb dX8_isLess_98 hl (by decide) rfl (fun ls hl => ?_)
        refine lv_lload hx hb dX8_isLess_100 (lv_at hl 5 rfl) ?_
        refine lv_lstore (lv' := [(12, .long (lN y)), (8, .long (lN v)), (18, .long (lN (u % v))), (16, .long (lN (x % y))), (14, .long (lN v)), (10, .long (lN y))]) hx hb dX8_isLess_102 hl (by decide) rfl (fun ls hl => ?_)
        refine lv_lload hx hb dX8_isLess_104 (lv_at hl 3 rfl) ?_
        refine lv_lstore (lv' := [(20, .long (lN (x % y))), (12, .long (lN y)), (8, .long (lN v)), (18, .long (lN (u % v))), (16, .long (lN (x % y))), (14, .long (lN v)), (10, .long (lN y))]) hx hb dX8_isLess_106 hl (by decide) rfl (fun ls hl => ?_)
        refine lv_lload hx hb dX8_isLess_108 (lv_at hl 3 rfl) ?_
        refine lv_lstore (lv' := [(10, .long (lN (u % v))), (20, .long (lN (x % y))), (12, .long (lN y)), (8, .long (lN v)), (18, .long (lN (u % v))), (16, .long (lN (x % y))), (14, .long (lN v))]) hx hb dX8_isLess_110 hl (by decide) rfl (fun ls hl => ?_)
        refine lv_lload hx hb dX8_isLess_112 (lv_at hl 1 rfl) ?_
        refine lv_lstore (lv' := [(14, .long (lN (x % y))), (10, .long (lN (u % v))), (20, .long (lN (x % y))), (12, .long (lN y)), (8, .long (lN v)), (18, .long (lN (u % v))), (16, .long (lN (x % y)))]) hx hb dX8_isLess_114 hl (by decide) rfl (fun ls hl => ?_)
        refine lv_goto (tgt := 14) hx hb dX8_isLess_116 (by decide) ?_
        exact ih14 (v, u % v, y, x % y) H locs ls (by dsimp only; have m1 := Nat.mod_lt x q1.2.2.1; have m2 := Nat.mod_lt u q1.2.2.2.2.2; omega) (by dsimp only; have m1 := Nat.mod_lt x q1.2.2.1; have m2 := Nat.mod_lt u q1.2.2.2.2.2; exact ⟨by omega, by rw [← q2]; exact (less_turn q1.2.2.1 q1.2.2.2.2.2 (by omega)).symm⟩) hw (lv_sub hl [0, 3, 1, 4] rfl)
      · --
        refine lv_lload hx hb dX8_isLess_76 (lv_at hl 1 rfl) ?_
        refine q_lconst (v := 0) hx hb dX8_isLess_78 (by decide) ?_
        refine q_lc_ne (tgt := 94) hx hb ((x % y : Nat) : Int) ((0 : Nat) : Int) (pk_lT (by first | omega | assumption)) (pk_lT (by first | omega | assumption)) dX8_isLess_79 dX8_isLess_80 (by decide) (fun c6 => ?_) (fun c6 => ?_)
        · --
          refine q_iconst (v := 0) hx hb dX8_isLess_94 (by decide) ?_
          exact q_zret (wout := _) hx hb hr hlocks hAe hK () hw rfl (by first | exact congrArg nI (bb_t (q2.mp (less_w (x := x) (u := u) q1.2.2.1 q1.2.2.2.2.2 (by omega)))).symm | exact congrArg nI (bb_f (fun q => less_nw (x := x) (u := u) q1.2.2.1 q1.2.2.2.2.2 (by omega) (by omega) (q2.mpr q))).symm | exact congrArg nI (bb_t (q2.mp (less_z (x := x) (u := u) q1.2.2.1 q1.2.2.2.2.2 (by omega) (by omega) (by omega)))).symm | exact congrArg nI (bb_f (fun q => less_nz (x := x) (u := u) q1.2.2.1 q1.2.2.2.2.2 (by omega) (by omega) (q2.mpr q))).symm) dX8_isLess_95
        · --
          refine lv_lload hx hb dX8_isLess_83 (lv_at hl 0 rfl) ?_
          refine q_lconst (v := 0) hx hb dX8_isLess_85 (by decide) ?_
          refine q_lc_le (tgt := 94) hx hb ((u % v : Nat) : Int) ((0 : Nat) : Int) (pk_lT (by first | omega | assumption)) (pk_lT (by first | omega | assumption)) dX8_isLess_86 dX8_isLess_87 (by decide) (fun c7 => ?_) (fun c7 => ?_)
          · --
            refine q_iconst (v := 0) hx hb dX8_isLess_94 (by decide) ?_
            exact q_zret (wout := _) hx hb hr hlocks hAe hK () hw rfl (by first | exact congrArg nI (bb_t (q2.mp (less_w (x := x) (u := u) q1.2.2.1 q1.2.2.2.2.2 (by omega)))).symm | exact congrArg nI (bb_f (fun q => less_nw (x := x) (u := u) q1.2.2.1 q1.2.2.2.2.2 (by omega) (by omega) (q2.mpr q))).symm | exact congrArg nI (bb_t (q2.mp (less_z (x := x) (u := u) q1.2.2.1 q1.2.2.2.2.2 (by omega) (by omega) (by omega)))).symm | exact congrArg nI (bb_f (fun q => less_nz (x := x) (u := u) q1.2.2.1 q1.2.2.2.2.2 (by omega) (by omega) (q2.mpr q))).symm) dX8_isLess_95
          · --
            refine q_iconst (v := 1) hx hb dX8_isLess_90 (by decide) ?_
            refine lv_goto (tgt := 95) hx hb dX8_isLess_91 (by decide) ?_
            exact q_zret (wout := _) hx hb hr hlocks hAe hK () hw rfl (by first | exact congrArg nI (bb_t (q2.mp (less_w (x := x) (u := u) q1.2.2.1 q1.2.2.2.2.2 (by omega)))).symm | exact congrArg nI (bb_f (fun q => less_nw (x := x) (u := u) q1.2.2.1 q1.2.2.2.2.2 (by omega) (by omega) (q2.mpr q))).symm | exact congrArg nI (bb_t (q2.mp (less_z (x := x) (u := u) q1.2.2.1 q1.2.2.2.2.2 (by omega) (by omega) (by omega)))).symm | exact congrArg nI (bb_f (fun q => less_nz (x := x) (u := u) q1.2.2.1 q1.2.2.2.2.2 (by omega) (by omega) (q2.mpr q))).symm) dX8_isLess_95
  · --
    refine lv_lload hx hb dX8_isLess_28 (lv_at hl 3 rfl) ?_
    refine lv_lload hx hb dX8_isLess_30 (lv_at hl 2 rfl) ?_
    refine q_ldiv hx hb (by omega) (by omega) (by omega) dX8_isLess_32 ?_
    refine lv_lload hx hb dX8_isLess_33 (lv_at hl 1 rfl) ?_
    refine lv_lload hx hb dX8_isLess_35 (lv_at hl 0 rfl) ?_
    refine q_ldiv hx hb (by omega) (by omega) (by omega) dX8_isLess_37 ?_
    refine q_lc_ge (tgt := 46) hx hb ((x / y : Nat) : Int) ((u / v : Nat) : Int) (pk_lT (by first | omega | assumption)) (pk_lT (by first | omega | assumption)) dX8_isLess_38 dX8_isLess_39 (by decide) (fun c8 => ?_) (fun c8 => ?_)
    · --
      refine q_iconst (v := 0) hx hb dX8_isLess_46 (by decide) ?_
      exact q_zret (wout := _) hx hb hr hlocks hAe hK () hw rfl (by first | exact congrArg nI (bb_t (q2.mp (less_w (x := x) (u := u) q1.2.2.1 q1.2.2.2.2.2 (by omega)))).symm | exact congrArg nI (bb_f (fun q => less_nw (x := x) (u := u) q1.2.2.1 q1.2.2.2.2.2 (by omega) (by omega) (q2.mpr q))).symm | exact congrArg nI (bb_t (q2.mp (less_z (x := x) (u := u) q1.2.2.1 q1.2.2.2.2.2 (by omega) (by omega) (by omega)))).symm | exact congrArg nI (bb_f (fun q => less_nz (x := x) (u := u) q1.2.2.1 q1.2.2.2.2.2 (by omega) (by omega) (q2.mpr q))).symm) dX8_isLess_47
    · --
      refine q_iconst (v := 1) hx hb dX8_isLess_42 (by decide) ?_
      refine lv_goto (tgt := 47) hx hb dX8_isLess_43 (by decide) ?_
      exact q_zret (wout := _) hx hb hr hlocks hAe hK () hw rfl (by first | exact congrArg nI (bb_t (q2.mp (less_w (x := x) (u := u) q1.2.2.1 q1.2.2.2.2.2 (by omega)))).symm | exact congrArg nI (bb_f (fun q => less_nw (x := x) (u := u) q1.2.2.1 q1.2.2.2.2.2 (by omega) (by omega) (q2.mpr q))).symm | exact congrArg nI (bb_t (q2.mp (less_z (x := x) (u := u) q1.2.2.1 q1.2.2.2.2.2 (by omega) (by omega) (by omega)))).symm | exact congrArg nI (bb_f (fun q => less_nz (x := x) (u := u) q1.2.2.1 q1.2.2.2.2.2 (by omega) (by omega) (q2.mpr q))).symm) dX8_isLess_47
set_option maxHeartbeats 4000000 in
set_option maxRecDepth 100000 in
theorem c_X8_told (l : Launch) (D : va_G) (Z : Nat → ClassId) (zs0 : Nat) (M : Nat) (mr mi : Nat → Nat) (ima : Int32) (q : Nat) (hq : q < 2 ^ 31) : cMl l yX8_told wsX8_told (rmd 0) D Z zs0 [.ref M, .int (nI q)] [(M, .inr (8, [.ref (mr 0), .ref (mr 1), .int (nI (mi 2)), .ref (mr 3), .ref (mr 4), .int ima, .ref (mr 6), .int (nI (mi 7)), .ref (mr 8), .ref (mr 9), .ref (mr 10), .long (lN (mi 11)), .long (lN (mi 12)), .ref (mr 13), .ref (mr 14), .ref (mr 15), .ref (mr 16), .ref (mr 17), .ref (mr 18), .int (nI (mi 19)), .ref (mr 20), .ref (mr 21), .ref (mr 22), .ref (mr 23), .long (lN (mi 24)), .long (lN (mi 25)), .int (nI (mi 26)), .int (nI (mi 27)), .ref (mr 28), .int (nI (mi 29)), .int (nI (mi 30)), .int (nI (mi 31)), .int (nI (mi 32))]))] (S := Unit) (fun (r : Int64) => fun (_ : Unit) => r = lN (if q = 0 then mi 11 else mi 12)) (fun (_ : Unit) => [(M, .inr (8, [.ref (mr 0), .ref (mr 1), .int (nI (mi 2)), .ref (mr 3), .ref (mr 4), .int ima, .ref (mr 6), .int (nI (mi 7)), .ref (mr 8), .ref (mr 9), .ref (mr 10), .long (lN (mi 11)), .long (lN (mi 12)), .ref (mr 13), .ref (mr 14), .ref (mr 15), .ref (mr 16), .ref (mr 17), .ref (mr 18), .int (nI (mi 19)), .ref (mr 20), .ref (mr 21), .ref (mr 22), .ref (mr 23), .long (lN (mi 24)), .long (lN (mi 25)), .int (nI (mi 26)), .int (nI (mi 27)), .ref (mr 28), .int (nI (mi 29)), .int (nI (mi 30)), .int (nI (mi 31)), .int (nI (mi 32))]))]) 0 0 := by
  refine q_open (y := yX8_told) (ws := wsX8_told) (av := [.ref M, .int (nI q)]) (win := [(M, .inr (8, [.ref (mr 0), .ref (mr 1), .int (nI (mi 2)), .ref (mr 3), .ref (mr 4), .int ima, .ref (mr 6), .int (nI (mi 7)), .ref (mr 8), .ref (mr 9), .ref (mr 10), .long (lN (mi 11)), .long (lN (mi 12)), .ref (mr 13), .ref (mr 14), .ref (mr 15), .ref (mr 16), .ref (mr 17), .ref (mr 18), .int (nI (mi 19)), .ref (mr 20), .ref (mr 21), .ref (mr 22), .ref (mr 23), .long (lN (mi 24)), .long (lN (mi 25)), .int (nI (mi 26)), .int (nI (mi 27)), .ref (mr 28), .int (nI (mi 29)), .int (nI (mi 30)), .int (nI (mi 31)), .int (nI (mi 32))]))]) (Qc := fun zs0 => cQl D Z zs0 [(M, .inr (8, [.ref (mr 0), .ref (mr 1), .int (nI (mi 2)), .ref (mr 3), .ref (mr 4), .int ima, .ref (mr 6), .int (nI (mi 7)), .ref (mr 8), .ref (mr 9), .ref (mr 10), .long (lN (mi 11)), .long (lN (mi 12)), .ref (mr 13), .ref (mr 14), .ref (mr 15), .ref (mr 16), .ref (mr 17), .ref (mr 18), .int (nI (mi 19)), .ref (mr 20), .ref (mr 21), .ref (mr 22), .ref (mr 23), .long (lN (mi 24)), .long (lN (mi 25)), .int (nI (mi 26)), .int (nI (mi 27)), .ref (mr 28), .int (nI (mi 29)), .int (nI (mi 30)), .int (nI (mi 31)), .int (nI (mi 32))]))] (S := Unit) (fun (r : Int64) => fun (_ : Unit) => r = lN (if q = 0 then mi 11 else mi 12)) (fun (_ : Unit) => [(M, .inr (8, [.ref (mr 0), .ref (mr 1), .int (nI (mi 2)), .ref (mr 3), .ref (mr 4), .int ima, .ref (mr 6), .int (nI (mi 7)), .ref (mr 8), .ref (mr 9), .ref (mr 10), .long (lN (mi 11)), .long (lN (mi 12)), .ref (mr 13), .ref (mr 14), .ref (mr 15), .ref (mr 16), .ref (mr 17), .ref (mr 18), .int (nI (mi 19)), .ref (mr 20), .ref (mr 21), .ref (mr 22), .ref (mr 23), .long (lN (mi 24)), .long (lN (mi 25)), .int (nI (mi 26)), .int (nI (mi 27)), .ref (mr 28), .int (nI (mi 29)), .int (nI (mi 30)), .int (nI (mi 31)), .int (nI (mi 32))]))])) (cc := cX8_told) (maxL := 2) (ret := (some .long)) (by decide) rfl (Nat.le_of_ble_eq_true rfl) ?_
  intro pp ee s mm bw mt cd ls A H locs hAe hx hb hr hml hown hmn hts hlocks hA hK hw hl
  have hown : s.vm.findClass RX8 = some mm.cls := hown
  have hl : lv_has ls 2 [(0, .ref M), (1, .int (nI q))] := hl
  have wd2 := hts (.fieldLink RX8 87 "ReplaceAgesModel" "below" "J") (List.mem_of_getElem? (i := 2) rfl)
  have wd1 := hts (.fieldLink RX8 83 "ReplaceAgesModel" "above" "J") (List.mem_of_getElem? (i := 1) rfl)
  have in_X8 : ∀ w ∈ wsX80, w ∈ wsX8_told := fun _ h => List.mem_cons_of_mem _ (List.mem_append_right _ h)
  refine lv_iload_n hx hb dX8_told_0 rfl (lv_at hl 1 rfl) ?_
  refine q_if_ne (tgt := 11) hx hb ((q : Nat) : Int) (nI_toInt (by assumption)) dX8_told_1 (by decide) (fun c1 => ?_) (fun c1 => ?_)
  · --
    refine lv_aload_n hx hb dX8_told_11 rfl (lv_at hl 0 rfl) ?_
    refine q_get (v := .long (lN (mi 12))) (ci := 8) hx hb hts in_X8 hown hK hw 0 12 wd2 dX8_told_12 rfl rfl (by decide) rfl ?_
    exact q_lret (wout := _) hx hb hr hlocks hAe hK () hw (by first | exact congrArg lN (if_pos (by omega)).symm | exact congrArg lN (if_neg (by omega)).symm) dX8_told_15
  · --
    refine lv_aload_n hx hb dX8_told_4 rfl (lv_at hl 0 rfl) ?_
    refine q_get (v := .long (lN (mi 11))) (ci := 8) hx hb hts in_X8 hown hK hw 0 11 wd1 dX8_told_5 rfl rfl (by decide) rfl ?_
    refine lv_goto (tgt := 15) hx hb dX8_told_8 (by decide) ?_
    exact q_lret (wout := _) hx hb hr hlocks hAe hK () hw (by first | exact congrArg lN (if_pos (by omega)).symm | exact congrArg lN (if_neg (by omega)).symm) dX8_told_15
set_option maxHeartbeats 4000000 in
set_option maxRecDepth 100000 in
theorem c_X8_left (l : Launch) (D : va_G) (Z : Nat → ClassId) (zs0 : Nat) (a la n j : Nat) (z : Nat → Nat) (hn : n < la) (hla : la ≤ 100) (hj : j ≤ 100) : cMi l yX8_left wsX8_left (rmd 0) D Z zs0 [.ref a, .int (nI n), .int (nI j)] [(a, .inl (Z 0, la, .inl (aI z)))] (S := Unit) (fun (r : Int32) => fun (_ : Unit) => r = nI (lf z n j)) (fun (_ : Unit) => [(a, .inl (Z 0, la, .inl (aI z)))]) 0 0 := by
  refine q_open (y := yX8_left) (ws := wsX8_left) (av := [.ref a, .int (nI n), .int (nI j)]) (win := [(a, .inl (Z 0, la, .inl (aI z)))]) (Qc := fun zs0 => cQi D Z zs0 [(a, .inl (Z 0, la, .inl (aI z)))] (S := Unit) (fun (r : Int32) => fun (_ : Unit) => r = nI (lf z n j)) (fun (_ : Unit) => [(a, .inl (Z 0, la, .inl (aI z)))])) (cc := cX8_left) (maxL := 5) (ret := (some .int)) (by decide) rfl (Nat.le_of_ble_eq_true rfl) ?_
  intro pp ee s mm bw mt cd ls A H locs hAe hx hb hr hml hown hmn hts hlocks hA hK hw hl
  have hown : s.vm.findClass RX8 = some mm.cls := hown
  have hl : lv_has ls 5 [(0, .ref a), (1, .int (nI n)), (2, .int (nI j))] := hl
  refine q_iconst (v := 0) hx hb dX8_left_0 (by decide) ?_
  refine lv_istore_n (lv' := [(3, .int (nI 0)), (0, .ref a), (1, .int (nI n)), (2, .int (nI j))]) hx hb dX8_left_1 rfl hl (by decide) rfl (fun ls hl => ?_)
  refine lv_iload_n hx hb dX8_left_2 rfl (lv_at hl 3 rfl) ?_
  refine q_iconst (v := 1) hx hb dX8_left_3 (by decide) ?_
  refine q_iadd hx hb dX8_left_4 ?_
  refine lv_istore (lv' := [(4, .int (nI (j + 1))), (3, .int (nI 0)), (0, .ref a), (1, .int (nI n)), (2, .int (nI j))]) hx hb dX8_left_5 hl (by decide) rfl (fun ls hl => ?_)
  refine q_loop (σ := Nat) (fun (c : Nat) => n - j - c) (fun (c : Nat) => c ≤ n - j) (fun (c : Nat) => [(a, .inl (Z 0, la, .inl (aI z)))]) (fun (c : Nat) => [(4, .int (nI (j + 1 + c))), (3, .int (nI (sm z (j + 1) c))), (0, .ref a), (1, .int (nI n)), (2, .int (nI j))]) 0 (Nat.zero_le _) hw (lv_sub hl [0, 1, 2, 3, 4] rfl) ?_
  intro c H locs ls hi7 hw hl ih7
  try dsimp only at hi7 hw hl ih7
  have hw : WS D A s [(a, .inl (Z 0, la, .inl (aI z)))] H locs := hw
  have hl : lv_has ls 5 [(4, .int (nI (j + 1 + c))), (3, .int (nI (sm z (j + 1) c))), (0, .ref a), (1, .int (nI n)), (2, .int (nI j))] := hl
  refine lv_iload hx hb dX8_left_7 (lv_at hl 0 rfl) ?_
  refine lv_iload_n hx hb dX8_left_9 rfl (lv_at hl 3 rfl) ?_
  refine q_icmp_gt (tgt := 26) hx hb ((j + 1 + c : Nat) : Int) ((n : Nat) : Int) (nI_toInt (by omega)) (nI_toInt (by omega)) dX8_left_10 (by decide) (fun c1 => ?_) (fun c1 => ?_)
  · --
    refine lv_iload_n hx hb dX8_left_26 rfl (lv_at hl 1 rfl) ?_
    exact q_iret (wout := _) hx hb hr hlocks hAe hK () hw (by rw [show c = n - j by omega]; rfl) dX8_left_27
  · --
    refine lv_iload_n hx hb dX8_left_13 rfl (lv_at hl 1 rfl) ?_
    refine lv_aload_n hx hb dX8_left_14 rfl (lv_at hl 2 rfl) ?_
    refine lv_iload hx hb dX8_left_15 (lv_at hl 0 rfl) ?_
    refine q_iald hx hb hK hw 0 (by omega) (by omega) dX8_left_17 rfl ?_
    refine q_iadd hx hb dX8_left_18 ?_
    refine lv_istore_n (lv' := [(3, .int (nI (sm z (j + 1) c + (z (j + 1 + c))))), (4, .int (nI (j + 1 + c))), (0, .ref a), (1, .int (nI n)), (2, .int (nI j))]) hx hb dX8_left_19 rfl hl (by decide) rfl (fun ls hl => ?_)
    refine lv_iinc (v := nI (j + 1 + c + 1)) (lv' := [(4, .int (nI (j + 1 + c + 1))), (3, .int (nI (sm z (j + 1) c + (z (j + 1 + c))))), (0, .ref a), (1, .int (nI n)), (2, .int (nI j))]) hx hb dX8_left_20 hl (k := 1) rfl (nI_add _ _) (by decide) rfl (fun ls hl => ?_)
    refine lv_goto (tgt := 7) hx hb dX8_left_23 (by decide) ?_
    exact ih7 (c + 1) H locs ls (by omega) (by omega) hw (lv_sub hl [0, 1, 2, 3, 4] rfl)
set_option maxHeartbeats 4000000 in
set_option maxRecDepth 100000 in
theorem c_X8_leftOf (l : Launch) (D : va_G) (Z : Nat → ClassId) (zs0 : Nat) (M : Nat) (mr mi : Nat → Nat) (ima : Int32) (p : Nat → Nat) (j : Nat) (hn : p 0 ≤ 8) (hj : j ≤ 100) : cMi l yX8_leftOf wsX8_leftOf (rmd 1) D Z zs0 [.ref M, .int (nI j)] [(M, .inr (8, [.ref (mr 0), .ref (mr 1), .int (nI (mi 2)), .ref (mr 3), .ref (mr 4), .int ima, .ref (mr 6), .int (nI (mi 7)), .ref (mr 8), .ref (mr 9), .ref (mr 10), .long (lN (mi 11)), .long (lN (mi 12)), .ref (mr 13), .ref (mr 14), .ref (mr 15), .ref (mr 16), .ref (mr 17), .ref (mr 18), .int (nI (mi 19)), .ref (mr 20), .ref (mr 21), .ref (mr 22), .ref (mr 23), .long (lN (mi 24)), .long (lN (mi 25)), .int (nI (mi 26)), .int (nI (mi 27)), .ref (mr 28), .int (nI (mi 29)), .int (nI (mi 30)), .int (nI (mi 31)), .int (nI (mi 32))])), (mr 0, .inl (Z 0, 18, .inl (aI p)))] (S := Unit) (fun (r : Int32) => fun (_ : Unit) => r = nI (lf p (p 0) j)) (fun (_ : Unit) => [(M, .inr (8, [.ref (mr 0), .ref (mr 1), .int (nI (mi 2)), .ref (mr 3), .ref (mr 4), .int ima, .ref (mr 6), .int (nI (mi 7)), .ref (mr 8), .ref (mr 9), .ref (mr 10), .long (lN (mi 11)), .long (lN (mi 12)), .ref (mr 13), .ref (mr 14), .ref (mr 15), .ref (mr 16), .ref (mr 17), .ref (mr 18), .int (nI (mi 19)), .ref (mr 20), .ref (mr 21), .ref (mr 22), .ref (mr 23), .long (lN (mi 24)), .long (lN (mi 25)), .int (nI (mi 26)), .int (nI (mi 27)), .ref (mr 28), .int (nI (mi 29)), .int (nI (mi 30)), .int (nI (mi 31)), .int (nI (mi 32))])), (mr 0, .inl (Z 0, 18, .inl (aI p)))]) 0 0 := by
  refine q_open (y := yX8_leftOf) (ws := wsX8_leftOf) (av := [.ref M, .int (nI j)]) (win := [(M, .inr (8, [.ref (mr 0), .ref (mr 1), .int (nI (mi 2)), .ref (mr 3), .ref (mr 4), .int ima, .ref (mr 6), .int (nI (mi 7)), .ref (mr 8), .ref (mr 9), .ref (mr 10), .long (lN (mi 11)), .long (lN (mi 12)), .ref (mr 13), .ref (mr 14), .ref (mr 15), .ref (mr 16), .ref (mr 17), .ref (mr 18), .int (nI (mi 19)), .ref (mr 20), .ref (mr 21), .ref (mr 22), .ref (mr 23), .long (lN (mi 24)), .long (lN (mi 25)), .int (nI (mi 26)), .int (nI (mi 27)), .ref (mr 28), .int (nI (mi 29)), .int (nI (mi 30)), .int (nI (mi 31)), .int (nI (mi 32))])), (mr 0, .inl (Z 0, 18, .inl (aI p)))]) (Qc := fun zs0 => cQi D Z zs0 [(M, .inr (8, [.ref (mr 0), .ref (mr 1), .int (nI (mi 2)), .ref (mr 3), .ref (mr 4), .int ima, .ref (mr 6), .int (nI (mi 7)), .ref (mr 8), .ref (mr 9), .ref (mr 10), .long (lN (mi 11)), .long (lN (mi 12)), .ref (mr 13), .ref (mr 14), .ref (mr 15), .ref (mr 16), .ref (mr 17), .ref (mr 18), .int (nI (mi 19)), .ref (mr 20), .ref (mr 21), .ref (mr 22), .ref (mr 23), .long (lN (mi 24)), .long (lN (mi 25)), .int (nI (mi 26)), .int (nI (mi 27)), .ref (mr 28), .int (nI (mi 29)), .int (nI (mi 30)), .int (nI (mi 31)), .int (nI (mi 32))])), (mr 0, .inl (Z 0, 18, .inl (aI p)))] (S := Unit) (fun (r : Int32) => fun (_ : Unit) => r = nI (lf p (p 0) j)) (fun (_ : Unit) => [(M, .inr (8, [.ref (mr 0), .ref (mr 1), .int (nI (mi 2)), .ref (mr 3), .ref (mr 4), .int ima, .ref (mr 6), .int (nI (mi 7)), .ref (mr 8), .ref (mr 9), .ref (mr 10), .long (lN (mi 11)), .long (lN (mi 12)), .ref (mr 13), .ref (mr 14), .ref (mr 15), .ref (mr 16), .ref (mr 17), .ref (mr 18), .int (nI (mi 19)), .ref (mr 20), .ref (mr 21), .ref (mr 22), .ref (mr 23), .long (lN (mi 24)), .long (lN (mi 25)), .int (nI (mi 26)), .int (nI (mi 27)), .ref (mr 28), .int (nI (mi 29)), .int (nI (mi 30)), .int (nI (mi 31)), .int (nI (mi 32))])), (mr 0, .inl (Z 0, 18, .inl (aI p)))])) (cc := cX8_leftOf) (maxL := 2) (ret := (some .int)) (by decide) rfl (Nat.le_of_ble_eq_true rfl) ?_
  intro pp ee s mm bw mt cd ls A H locs hAe hx hb hr hml hown hmn hts hlocks hA hK hw hl
  have hown : s.vm.findClass RX8 = some mm.cls := hown
  have hl : lv_has ls 2 [(0, .ref M), (1, .int (nI j))] := hl
  have wd1 := hts (.fieldLink RX8 7 "ReplaceAgesModel" "st" "[I") (List.mem_of_getElem? (i := 1) rfl)
  have in_X8 : ∀ w ∈ wsX80, w ∈ wsX8_leftOf := fun _ h => List.mem_cons_of_mem _ (List.mem_append_right _ h)
  refine lv_aload_n hx hb dX8_leftOf_0 rfl (lv_at hl 0 rfl) ?_
  refine q_get (v := .ref (mr 0)) (ci := 8) hx hb hts in_X8 hown hK hw 0 0 wd1 dX8_leftOf_1 rfl rfl (by decide) rfl ?_
  refine lv_aload_n hx hb dX8_leftOf_4 rfl (lv_at hl 0 rfl) ?_
  refine q_get (v := .ref (mr 0)) (ci := 8) hx hb hts in_X8 hown hK hw 0 0 wd1 dX8_leftOf_5 rfl rfl (by decide) rfl ?_
  refine q_iconst (v := 0) hx hb dX8_leftOf_8 (by decide) ?_
  refine q_iald hx hb hK hw 1 (by omega) (by omega) dX8_leftOf_9 rfl ?_
  refine lv_iload_n hx hb dX8_leftOf_10 rfl (lv_at hl 1 rfl) ?_
  refine q_calli (S := Unit) (Z := Z) (D := D) (wc := [((mr 0), .inl (Z 0, 18, .inl (aI p)))]) (wr := [(M, .inr (8, [.ref (mr 0), .ref (mr 1), .int (nI (mi 2)), .ref (mr 3), .ref (mr 4), .int ima, .ref (mr 6), .int (nI (mi 7)), .ref (mr 8), .ref (mr 9), .ref (mr 10), .long (lN (mi 11)), .long (lN (mi 12)), .ref (mr 13), .ref (mr 14), .ref (mr 15), .ref (mr 16), .ref (mr 17), .ref (mr 18), .int (nI (mi 19)), .ref (mr 20), .ref (mr 21), .ref (mr 22), .ref (mr 23), .long (lN (mi 24)), .long (lN (mi 25)), .int (nI (mi 26)), .int (nI (mi 27)), .ref (mr 28), .int (nI (mi 29)), .int (nI (mi 30)), .int (nI (mi 31)), .int (nI (mi 32))]))]) (rest := []) hw hA [1] [0] rfl rfl rfl rfl (by decide) (fun hPc hDc => va_runS (As := [.ref (mr 0), .int (nI (p 0)), .int (nI j)]) (rest := []) ⟨hx, hb, hml, hown, hts⟩ (c_X8_left l D Z H.size (mr 0) 18 (p 0) j p (by first | assumption | omega) (by first | assumption | omega) (by first | assumption | omega)) (va_cwS 3 hts gX8_leftOf_X8_left rfl rfl rfl (by decide +kernel) ⟨Nat.le_of_ble_eq_true rfl, Nat.le_of_ble_eq_true rfl⟩) ⟨fb_cPre, pre_of hPc hK hDc⟩ rfl rfl hl.1 rfl (lv_room (Nat.le_of_ble_eq_true rfl)) dX8_leftOf_11 ⟨Nat.le_of_ble_eq_true rfl, Nat.le_of_ble_eq_true rfl⟩) (fun r1 uu H locs hr1 hw => ?_)
  subst hr1
  have hw : WS D A s [(M, .inr (8, [.ref (mr 0), .ref (mr 1), .int (nI (mi 2)), .ref (mr 3), .ref (mr 4), .int ima, .ref (mr 6), .int (nI (mi 7)), .ref (mr 8), .ref (mr 9), .ref (mr 10), .long (lN (mi 11)), .long (lN (mi 12)), .ref (mr 13), .ref (mr 14), .ref (mr 15), .ref (mr 16), .ref (mr 17), .ref (mr 18), .int (nI (mi 19)), .ref (mr 20), .ref (mr 21), .ref (mr 22), .ref (mr 23), .long (lN (mi 24)), .long (lN (mi 25)), .int (nI (mi 26)), .int (nI (mi 27)), .ref (mr 28), .int (nI (mi 29)), .int (nI (mi 30)), .int (nI (mi 31)), .int (nI (mi 32))])), ((mr 0), .inl (Z 0, 18, .inl (aI p)))] H locs := hw
  exact q_iret (wout := _) hx hb hr hlocks hAe hK () hw (by first | rfl | trivial) dX8_leftOf_14
set_option maxHeartbeats 4000000 in
set_option maxRecDepth 100000 in
theorem c_X8_isAge (l : Launch) (D : va_G) (Z : Nat → ClassId) (zs0 : Nat) (M : Nat) (mr mi : Nat → Nat) (ima : Int32) (p : Nat → Nat) (k : Int32) (hn : p 0 ≤ 8) : cMi l yX8_isAge wsX8_isAge (rmd 1) D Z zs0 [.ref M, .int k] [(M, .inr (8, [.ref (mr 0), .ref (mr 1), .int (nI (mi 2)), .ref (mr 3), .ref (mr 4), .int ima, .ref (mr 6), .int (nI (mi 7)), .ref (mr 8), .ref (mr 9), .ref (mr 10), .long (lN (mi 11)), .long (lN (mi 12)), .ref (mr 13), .ref (mr 14), .ref (mr 15), .ref (mr 16), .ref (mr 17), .ref (mr 18), .int (nI (mi 19)), .ref (mr 20), .ref (mr 21), .ref (mr 22), .ref (mr 23), .long (lN (mi 24)), .long (lN (mi 25)), .int (nI (mi 26)), .int (nI (mi 27)), .ref (mr 28), .int (nI (mi 29)), .int (nI (mi 30)), .int (nI (mi 31)), .int (nI (mi 32))])), (mr 0, .inl (Z 0, 18, .inl (aI p)))] (S := Unit) (fun (r : Int32) => fun (_ : Unit) => r = nI (bb (1 ≤ k.toInt ∧ k.toInt ≤ (p 0 : Nat)))) (fun (_ : Unit) => [(M, .inr (8, [.ref (mr 0), .ref (mr 1), .int (nI (mi 2)), .ref (mr 3), .ref (mr 4), .int ima, .ref (mr 6), .int (nI (mi 7)), .ref (mr 8), .ref (mr 9), .ref (mr 10), .long (lN (mi 11)), .long (lN (mi 12)), .ref (mr 13), .ref (mr 14), .ref (mr 15), .ref (mr 16), .ref (mr 17), .ref (mr 18), .int (nI (mi 19)), .ref (mr 20), .ref (mr 21), .ref (mr 22), .ref (mr 23), .long (lN (mi 24)), .long (lN (mi 25)), .int (nI (mi 26)), .int (nI (mi 27)), .ref (mr 28), .int (nI (mi 29)), .int (nI (mi 30)), .int (nI (mi 31)), .int (nI (mi 32))])), (mr 0, .inl (Z 0, 18, .inl (aI p)))]) 0 0 := by
  refine q_open (y := yX8_isAge) (ws := wsX8_isAge) (av := [.ref M, .int k]) (win := [(M, .inr (8, [.ref (mr 0), .ref (mr 1), .int (nI (mi 2)), .ref (mr 3), .ref (mr 4), .int ima, .ref (mr 6), .int (nI (mi 7)), .ref (mr 8), .ref (mr 9), .ref (mr 10), .long (lN (mi 11)), .long (lN (mi 12)), .ref (mr 13), .ref (mr 14), .ref (mr 15), .ref (mr 16), .ref (mr 17), .ref (mr 18), .int (nI (mi 19)), .ref (mr 20), .ref (mr 21), .ref (mr 22), .ref (mr 23), .long (lN (mi 24)), .long (lN (mi 25)), .int (nI (mi 26)), .int (nI (mi 27)), .ref (mr 28), .int (nI (mi 29)), .int (nI (mi 30)), .int (nI (mi 31)), .int (nI (mi 32))])), (mr 0, .inl (Z 0, 18, .inl (aI p)))]) (Qc := fun zs0 => cQi D Z zs0 [(M, .inr (8, [.ref (mr 0), .ref (mr 1), .int (nI (mi 2)), .ref (mr 3), .ref (mr 4), .int ima, .ref (mr 6), .int (nI (mi 7)), .ref (mr 8), .ref (mr 9), .ref (mr 10), .long (lN (mi 11)), .long (lN (mi 12)), .ref (mr 13), .ref (mr 14), .ref (mr 15), .ref (mr 16), .ref (mr 17), .ref (mr 18), .int (nI (mi 19)), .ref (mr 20), .ref (mr 21), .ref (mr 22), .ref (mr 23), .long (lN (mi 24)), .long (lN (mi 25)), .int (nI (mi 26)), .int (nI (mi 27)), .ref (mr 28), .int (nI (mi 29)), .int (nI (mi 30)), .int (nI (mi 31)), .int (nI (mi 32))])), (mr 0, .inl (Z 0, 18, .inl (aI p)))] (S := Unit) (fun (r : Int32) => fun (_ : Unit) => r = nI (bb (1 ≤ k.toInt ∧ k.toInt ≤ (p 0 : Nat)))) (fun (_ : Unit) => [(M, .inr (8, [.ref (mr 0), .ref (mr 1), .int (nI (mi 2)), .ref (mr 3), .ref (mr 4), .int ima, .ref (mr 6), .int (nI (mi 7)), .ref (mr 8), .ref (mr 9), .ref (mr 10), .long (lN (mi 11)), .long (lN (mi 12)), .ref (mr 13), .ref (mr 14), .ref (mr 15), .ref (mr 16), .ref (mr 17), .ref (mr 18), .int (nI (mi 19)), .ref (mr 20), .ref (mr 21), .ref (mr 22), .ref (mr 23), .long (lN (mi 24)), .long (lN (mi 25)), .int (nI (mi 26)), .int (nI (mi 27)), .ref (mr 28), .int (nI (mi 29)), .int (nI (mi 30)), .int (nI (mi 31)), .int (nI (mi 32))])), (mr 0, .inl (Z 0, 18, .inl (aI p)))])) (cc := cX8_isAge) (maxL := 2) (ret := (some .boolean)) (by decide) rfl (Nat.le_of_ble_eq_true rfl) ?_
  intro pp ee s mm bw mt cd ls A H locs hAe hx hb hr hml hown hmn hts hlocks hA hK hw hl
  have hown : s.vm.findClass RX8 = some mm.cls := hown
  have hl : lv_has ls 2 [(0, .ref M), (1, .int k)] := hl
  have wd1 := hts (.fieldLink RX8 7 "ReplaceAgesModel" "st" "[I") (List.mem_of_getElem? (i := 1) rfl)
  have in_X8 : ∀ w ∈ wsX80, w ∈ wsX8_isAge := fun _ h => List.mem_cons_of_mem _ (List.mem_append_right _ h)
  refine lv_iload_n hx hb dX8_isAge_0 rfl (lv_at hl 1 rfl) ?_
  refine lv_i2l hx hb dX8_isAge_1 rfl ?_
  refine q_lconst (v := 1) hx hb dX8_isAge_2 (by decide) ?_
  refine lv_aload_n hx hb dX8_isAge_3 rfl (lv_at hl 0 rfl) ?_
  refine q_get (v := .ref (mr 0)) (ci := 8) hx hb hts in_X8 hown hK hw 0 0 wd1 dX8_isAge_4 rfl rfl (by decide) rfl ?_
  refine q_iconst (v := 0) hx hb dX8_isAge_7 (by decide) ?_
  refine q_iald hx hb hK hw 1 (by omega) (by omega) dX8_isAge_8 rfl ?_
  refine q_i2l hx hb (by omega) dX8_isAge_9 ?_
  refine q_calli (S := Unit) (Z := Z) (D := D) (wc := []) (wr := [(M, .inr (8, [.ref (mr 0), .ref (mr 1), .int (nI (mi 2)), .ref (mr 3), .ref (mr 4), .int ima, .ref (mr 6), .int (nI (mi 7)), .ref (mr 8), .ref (mr 9), .ref (mr 10), .long (lN (mi 11)), .long (lN (mi 12)), .ref (mr 13), .ref (mr 14), .ref (mr 15), .ref (mr 16), .ref (mr 17), .ref (mr 18), .int (nI (mi 19)), .ref (mr 20), .ref (mr 21), .ref (mr 22), .ref (mr 23), .long (lN (mi 24)), .long (lN (mi 25)), .int (nI (mi 26)), .int (nI (mi 27)), .ref (mr 28), .int (nI (mi 29)), .int (nI (mi 30)), .int (nI (mi 31)), .int (nI (mi 32))])), (mr 0, .inl (Z 0, 18, .inl (aI p)))]) (rest := []) hw hA [] [0, 1] rfl rfl rfl rfl (by decide) (fun hPc hDc => va_runS (As := [.long k.toInt64, .long (lN 1), .long (lN (p 0))]) (rest := []) ⟨hx, hb, hml, hown, hts⟩ (c_X8_in l D Z H.size k.toInt64 (lN 1) (lN (p 0)) k.toInt ((1 : Nat) : Int) ((p 0 : Nat) : Int) (Int32.toInt_toInt64 _) (pk_lT (by first | omega | assumption)) (pk_lT (by first | omega | assumption))) (va_cwS 3 hts gX8_isAge_X8_in rfl rfl rfl (by decide +kernel) ⟨Nat.le_of_ble_eq_true rfl, Nat.le_of_ble_eq_true rfl⟩) ⟨fb_cPre, pre_of hPc hK hDc⟩ rfl rfl hl.1 rfl (lv_room (Nat.le_of_ble_eq_true rfl)) dX8_isAge_10 ⟨Nat.le_of_ble_eq_true rfl, Nat.le_of_ble_eq_true rfl⟩) (fun r1 uu H locs hr1 hw => ?_)
  subst hr1
  have hw : WS D A s [(M, .inr (8, [.ref (mr 0), .ref (mr 1), .int (nI (mi 2)), .ref (mr 3), .ref (mr 4), .int ima, .ref (mr 6), .int (nI (mi 7)), .ref (mr 8), .ref (mr 9), .ref (mr 10), .long (lN (mi 11)), .long (lN (mi 12)), .ref (mr 13), .ref (mr 14), .ref (mr 15), .ref (mr 16), .ref (mr 17), .ref (mr 18), .int (nI (mi 19)), .ref (mr 20), .ref (mr 21), .ref (mr 22), .ref (mr 23), .long (lN (mi 24)), .long (lN (mi 25)), .int (nI (mi 26)), .int (nI (mi 27)), .ref (mr 28), .int (nI (mi 29)), .int (nI (mi 30)), .int (nI (mi 31)), .int (nI (mi 32))])), (mr 0, .inl (Z 0, 18, .inl (aI p)))] H locs := hw
  exact q_zret (wout := _) hx hb hr hlocks hAe hK () hw (bb_n _) (rfl) dX8_isAge_13
set_option maxHeartbeats 4000000 in
set_option maxRecDepth 100000 in
theorem c_X8_begins (l : Launch) (D : va_G) (Z : Nat → ClassId) (zs0 : Nat) (M : Nat) (mr mi : Nat → Nat) (ima : Int32) (p : Nat → Nat)  : cMv l yX8_begins wsX8_begins (rmd 0) D Z zs0 [.ref M] [(M, .inr (8, [.ref (mr 0), .ref (mr 1), .int (nI (mi 2)), .ref (mr 3), .ref (mr 4), .int ima, .ref (mr 6), .int (nI (mi 7)), .ref (mr 8), .ref (mr 9), .ref (mr 10), .long (lN (mi 11)), .long (lN (mi 12)), .ref (mr 13), .ref (mr 14), .ref (mr 15), .ref (mr 16), .ref (mr 17), .ref (mr 18), .int (nI (mi 19)), .ref (mr 20), .ref (mr 21), .ref (mr 22), .ref (mr 23), .long (lN (mi 24)), .long (lN (mi 25)), .int (nI (mi 26)), .int (nI (mi 27)), .ref (mr 28), .int (nI (mi 29)), .int (nI (mi 30)), .int (nI (mi 31)), .int (nI (mi 32))])), (mr 0, .inl (Z 0, 18, .inl (aI p)))] (S := Unit) (fun (_ : Unit) => True) (fun (_ : Unit) => [(M, .inr (8, [.ref (mr 0), .ref (mr 1), .int (nI (mi 2)), .ref (mr 3), .ref (mr 4), .int ima, .ref (mr 6), .int (nI (mi 7)), .ref (mr 8), .ref (mr 9), .ref (mr 10), .long (lN (mi 11)), .long (lN (mi 12)), .ref (mr 13), .ref (mr 14), .ref (mr 15), .ref (mr 16), .ref (mr 17), .ref (mr 18), .int (nI (mi 19)), .ref (mr 20), .ref (mr 21), .ref (mr 22), .ref (mr 23), .long (lN (mi 24)), .long (lN (mi 25)), .int (nI (mi 26)), .int (nI (mi 27)), .ref (mr 28), .int (nI (mi 29)), .int (nI (mi 30)), .int (nI (mi 31)), .int (nI (mi 32))])), (mr 0, .inl (Z 0, 18, .inl (aI (va_up p 13 0))))]) 0 0 := by
  refine q_open (y := yX8_begins) (ws := wsX8_begins) (av := [.ref M]) (win := [(M, .inr (8, [.ref (mr 0), .ref (mr 1), .int (nI (mi 2)), .ref (mr 3), .ref (mr 4), .int ima, .ref (mr 6), .int (nI (mi 7)), .ref (mr 8), .ref (mr 9), .ref (mr 10), .long (lN (mi 11)), .long (lN (mi 12)), .ref (mr 13), .ref (mr 14), .ref (mr 15), .ref (mr 16), .ref (mr 17), .ref (mr 18), .int (nI (mi 19)), .ref (mr 20), .ref (mr 21), .ref (mr 22), .ref (mr 23), .long (lN (mi 24)), .long (lN (mi 25)), .int (nI (mi 26)), .int (nI (mi 27)), .ref (mr 28), .int (nI (mi 29)), .int (nI (mi 30)), .int (nI (mi 31)), .int (nI (mi 32))])), (mr 0, .inl (Z 0, 18, .inl (aI p)))]) (Qc := fun zs0 => cQv D Z zs0 [(M, .inr (8, [.ref (mr 0), .ref (mr 1), .int (nI (mi 2)), .ref (mr 3), .ref (mr 4), .int ima, .ref (mr 6), .int (nI (mi 7)), .ref (mr 8), .ref (mr 9), .ref (mr 10), .long (lN (mi 11)), .long (lN (mi 12)), .ref (mr 13), .ref (mr 14), .ref (mr 15), .ref (mr 16), .ref (mr 17), .ref (mr 18), .int (nI (mi 19)), .ref (mr 20), .ref (mr 21), .ref (mr 22), .ref (mr 23), .long (lN (mi 24)), .long (lN (mi 25)), .int (nI (mi 26)), .int (nI (mi 27)), .ref (mr 28), .int (nI (mi 29)), .int (nI (mi 30)), .int (nI (mi 31)), .int (nI (mi 32))])), (mr 0, .inl (Z 0, 18, .inl (aI p)))] (S := Unit) (fun (_ : Unit) => True) (fun (_ : Unit) => [(M, .inr (8, [.ref (mr 0), .ref (mr 1), .int (nI (mi 2)), .ref (mr 3), .ref (mr 4), .int ima, .ref (mr 6), .int (nI (mi 7)), .ref (mr 8), .ref (mr 9), .ref (mr 10), .long (lN (mi 11)), .long (lN (mi 12)), .ref (mr 13), .ref (mr 14), .ref (mr 15), .ref (mr 16), .ref (mr 17), .ref (mr 18), .int (nI (mi 19)), .ref (mr 20), .ref (mr 21), .ref (mr 22), .ref (mr 23), .long (lN (mi 24)), .long (lN (mi 25)), .int (nI (mi 26)), .int (nI (mi 27)), .ref (mr 28), .int (nI (mi 29)), .int (nI (mi 30)), .int (nI (mi 31)), .int (nI (mi 32))])), (mr 0, .inl (Z 0, 18, .inl (aI (va_up p 13 0))))])) (cc := cX8_begins) (maxL := 1) (ret := none) (by decide) rfl (Nat.le_of_ble_eq_true rfl) ?_
  intro pp ee s mm bw mt cd ls A H locs hAe hx hb hr hml hown hmn hts hlocks hA hK hw hl
  have hown : s.vm.findClass RX8 = some mm.cls := hown
  have hl : lv_has ls 1 [(0, .ref M)] := hl
  have wd1 := hts (.fieldLink RX8 7 "ReplaceAgesModel" "st" "[I") (List.mem_of_getElem? (i := 1) rfl)
  have in_X8 : ∀ w ∈ wsX80, w ∈ wsX8_begins := fun _ h => List.mem_cons_of_mem _ (List.mem_append_right _ h)
  refine lv_aload_n hx hb dX8_begins_0 rfl (lv_at hl 0 rfl) ?_
  refine q_get (v := .ref (mr 0)) (ci := 8) hx hb hts in_X8 hown hK hw 0 0 wd1 dX8_begins_1 rfl rfl (by decide) rfl ?_
  refine q_bipush (v := 13) hx hb dX8_begins_4 (by decide) ?_
  refine q_iconst (v := 0) hx hb dX8_begins_6 (by decide) ?_
  refine q_iast hx hb hK hw 1 (by omega) (by omega) dX8_begins_7 rfl (fun H locs hw => ?_)
  have hw : WS D A s [(M, .inr (8, [.ref (mr 0), .ref (mr 1), .int (nI (mi 2)), .ref (mr 3), .ref (mr 4), .int ima, .ref (mr 6), .int (nI (mi 7)), .ref (mr 8), .ref (mr 9), .ref (mr 10), .long (lN (mi 11)), .long (lN (mi 12)), .ref (mr 13), .ref (mr 14), .ref (mr 15), .ref (mr 16), .ref (mr 17), .ref (mr 18), .int (nI (mi 19)), .ref (mr 20), .ref (mr 21), .ref (mr 22), .ref (mr 23), .long (lN (mi 24)), .long (lN (mi 25)), .int (nI (mi 26)), .int (nI (mi 27)), .ref (mr 28), .int (nI (mi 29)), .int (nI (mi 30)), .int (nI (mi 31)), .int (nI (mi 32))])), (mr 0, .inl (Z 0, 18, .inl (aI (va_up p 13 0))))] H locs := hw
  exact q_vret (wout := _) hx hb hr hlocks hAe hK () hw (trivial) dX8_begins_8
