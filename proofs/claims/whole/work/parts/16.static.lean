/-- Euclid's steps are few: what is left of a hundred -/
def gI (i x y : Nat) : Prop := ∃ k, (y < 2 ^ k ∧ i + 2 * k ≤ 100) ∨ (y < x ∧ x < 2 ^ (k + 1) ∧ i + 2 * k + 1 ≤ 100)
theorem half_mod {x y : Nat} (h0 : 0 < y) (h : y < x) : 2 * (x % y) < x := by
  have h1 : x % y < y := Nat.mod_lt _ h0
  rcases Nat.lt_or_ge (2 * y) (x + 1) with h2 | h2
  · omega
  · have h3 : x % y = x - y := by rw [Nat.mod_eq_sub_mod (by omega), Nat.mod_eq_of_lt (by omega)]
    omega
theorem gI_step {i x y : Nat} (h0 : 0 < y) (h : gI i x y) : gI (i + 1) y (x % y) := by
  obtain ⟨k, h | h⟩ := h
  · cases k with
    | zero => simp at h; omega
    | succ k => exact ⟨k, Or.inr ⟨Nat.mod_lt _ h0, h.1, by omega⟩⟩
  · refine ⟨k, Or.inl ⟨?_, by omega⟩⟩
    have := half_mod h0 h.1
    have h3 := h.2.1
    rw [Nat.pow_succ] at h3
    omega
theorem gI_end {x y : Nat} (h : gI 100 x y) : y = 0 := by
  obtain ⟨k, h | h⟩ := h
  · have : k = 0 := by omega
    subst this; simp at h; omega
  · omega
/-- one side of a fraction in lowest terms -/
def fr (a b q : Nat) : Nat := (if q = 0 then a else b) / Nat.gcd a b
set_option maxHeartbeats 4000000 in
set_option maxRecDepth 100000 in
theorem c_X7_power (l : Launch) (D : va_G) (Z : Nat → ClassId) (sz : Nat) (b e : Nat) (he : e < 2 ^ 31) : cMl l yX7_power wsX7_power (rmd 0) D Z sz [.long (lN b), .int (nI e)] [] (S := Unit) (fun (r : Int64) => fun (_ : Unit) => r = lN (b ^ e)) (fun (_ : Unit) => []) 0 0 := by
  refine q_open (y := yX7_power) (ws := wsX7_power) (av := [.long (lN b), .int (nI e)]) (win := []) (Qc := fun sz => cQl D Z sz [] (S := Unit) (fun (r : Int64) => fun (_ : Unit) => r = lN (b ^ e)) (fun (_ : Unit) => [])) (cc := cX7_power) (maxL := 6) (ret := (some .long)) (by decide) rfl (Nat.le_of_ble_eq_true rfl) ?_
  intro pp ee s mm bw mt cd ls A H locs hAe hx hb hr hml hown hmn hts hlocks hA hK hw hl
  have hown : s.vm.findClass RX7 = some mm.cls := hown
  have hl : lv_has ls 6 [(0, .long (lN b)), (2, .int (nI e))] := hl
  refine q_lconst (v := 1) hx hb dX7_power_0 (by decide) ?_
  refine lv_lstore_n (lv' := [(3, .long (lN 1)), (0, .long (lN b)), (2, .int (nI e))]) hx hb dX7_power_1 rfl hl (by decide) rfl (fun ls hl => ?_)
  refine q_iconst (v := 0) hx hb dX7_power_2 (by decide) ?_
  refine lv_istore (lv' := [(5, .int (nI 0)), (3, .long (lN 1)), (0, .long (lN b)), (2, .int (nI e))]) hx hb dX7_power_3 hl (by decide) rfl (fun ls hl => ?_)
  refine q_loop (σ := Nat) (fun (i : Nat) => e - i) (fun (i : Nat) => i ≤ e) (fun (i : Nat) => []) (fun (i : Nat) => [(5, .int (nI i)), (3, .long (lN (b ^ i))), (0, .long (lN b)), (2, .int (nI e))]) 0 (Nat.zero_le _) hw (lv_sub hl [0, 1, 2, 3] rfl) ?_
  intro i H locs ls hi5 hw hl ih5
  try dsimp only at hi5 hw hl ih5
  have hw : WS D A s [] H locs := hw
  have hl : lv_has ls 6 [(5, .int (nI i)), (3, .long (lN (b ^ i))), (0, .long (lN b)), (2, .int (nI e))] := hl
  refine lv_iload hx hb dX7_power_5 (lv_at hl 0 rfl) ?_
  refine lv_iload_n hx hb dX7_power_7 rfl (lv_at hl 3 rfl) ?_
  refine q_icmp_ge (tgt := 21) hx hb ((i : Nat) : Int) ((e : Nat) : Int) (nI_toInt (by omega)) (nI_toInt (by omega)) dX7_power_8 (by decide) (fun c1 => ?_) (fun c1 => ?_)
  · --
    obtain rfl : i = e := by omega
    refine lv_lload_n hx hb dX7_power_21 rfl (lv_at hl 1 rfl) ?_
    exact q_lret (wout := _) hx hb hr hlocks hAe hK () hw (rfl) dX7_power_22
  · --
    refine lv_lload_n hx hb dX7_power_11 rfl (lv_at hl 1 rfl) ?_
    refine lv_lload_n hx hb dX7_power_12 rfl (lv_at hl 2 rfl) ?_
    refine q_lmul hx hb dX7_power_13 ?_
    refine lv_lstore_n (lv' := [(3, .long (lN ((b ^ i) * b))), (5, .int (nI i)), (0, .long (lN b)), (2, .int (nI e))]) hx hb dX7_power_14 rfl hl (by decide) rfl (fun ls hl => ?_)
    refine lv_iinc (v := nI (i + 1)) (lv' := [(5, .int (nI (i + 1))), (3, .long (lN ((b ^ i) * b))), (0, .long (lN b)), (2, .int (nI e))]) hx hb dX7_power_15 hl (k := 1) rfl (nI_add _ _) (by decide) rfl (fun ls hl => ?_)
    refine lv_goto (tgt := 5) hx hb dX7_power_18 (by decide) ?_
    exact ih5 (i + 1) H locs ls (by omega) (by omega) hw (lv_sub hl [0, 1, 2, 3] rfl)
set_option maxHeartbeats 4000000 in
set_option maxRecDepth 100000 in
theorem c_X7_commonDivisor (l : Launch) (D : va_G) (Z : Nat → ClassId) (sz : Nat) (a b : Nat) (ha : a < 2 ^ 63) (hb0 : b < 2 ^ 50) : cMl l yX7_commonDivisor wsX7_commonDivisor (rmd 0) D Z sz [.long (lN a), .long (lN b)] [] (S := Unit) (fun (r : Int64) => fun (_ : Unit) => r = lN (Nat.gcd a b)) (fun (_ : Unit) => []) 0 0 := by
  refine q_open (y := yX7_commonDivisor) (ws := wsX7_commonDivisor) (av := [.long (lN a), .long (lN b)]) (win := []) (Qc := fun sz => cQl D Z sz [] (S := Unit) (fun (r : Int64) => fun (_ : Unit) => r = lN (Nat.gcd a b)) (fun (_ : Unit) => [])) (cc := cX7_commonDivisor) (maxL := 11) (ret := (some .long)) (by decide) rfl (Nat.le_of_ble_eq_true rfl) ?_
  intro pp ee s mm bw mt cd ls A H locs hAe hx hb hr hml hown hmn hts hlocks hA hK hw hl
  have hown : s.vm.findClass RX7 = some mm.cls := hown
  have hl : lv_has ls 11 [(0, .long (lN a)), (2, .long (lN b))] := hl
  refine lv_lload_n hx hb dX7_commonDivisor_0 rfl (lv_at hl 0 rfl) ?_
  refine lv_lstore (lv' := [(4, .long (lN a)), (0, .long (lN a)), (2, .long (lN b))]) hx hb dX7_commonDivisor_1 hl (by decide) rfl (fun ls hl => ?_)
  refine lv_lload_n hx hb dX7_commonDivisor_3 rfl (lv_at hl 2 rfl) ?_
  refine lv_lstore (lv' := [(6, .long (lN b)), (4, .long (lN a)), (0, .long (lN a)), (2, .long (lN b))]) hx hb dX7_commonDivisor_4 hl (by decide) rfl (fun ls hl => ?_)
  refine q_iconst (v := 0) hx hb dX7_commonDivisor_6 (by decide) ?_
  refine lv_istore (lv' := [(8, .int (nI 0)), (6, .long (lN b)), (4, .long (lN a)), (0, .long (lN a)), (2, .long (lN b))]) hx hb dX7_commonDivisor_7 hl (by decide) rfl (fun ls hl => ?_)
  refine q_loop (σ := Nat × Nat × Nat) (fun (x : Nat × Nat × Nat) => match x with | (x, y, i) => 100 - i) (fun (x : Nat × Nat × Nat) => match x with | (x, y, i) => i ≤ 100 ∧ x < 2 ^ 63 ∧ y < 2 ^ 63 ∧ Nat.gcd x y = Nat.gcd a b ∧ gI i x y) (fun (x : Nat × Nat × Nat) => match x with | (x, y, i) => []) (fun (x : Nat × Nat × Nat) => match x with | (x, y, i) => [(8, .int (nI i)), (6, .long (lN y)), (4, .long (lN x)), (0, .long (lN a)), (2, .long (lN b))]) (a, b, 0) ⟨by omega, ha, by omega, rfl, ⟨50, Or.inl ⟨hb0, by omega⟩⟩⟩ hw (lv_sub hl [0, 1, 2, 3, 4] rfl) ?_
  intro ⟨x, y, i⟩ H locs ls hi9 hw hl ih9
  try dsimp only at hi9 hw hl ih9
  obtain ⟨q1, q2, q3, q4, q5⟩ := hi9
  have hw : WS D A s [] H locs := hw
  have hl : lv_has ls 11 [(8, .int (nI i)), (6, .long (lN y)), (4, .long (lN x)), (0, .long (lN a)), (2, .long (lN b))] := hl
  refine lv_iload hx hb dX7_commonDivisor_9 (lv_at hl 0 rfl) ?_
  refine q_bipush (v := 100) hx hb dX7_commonDivisor_11 (by decide) ?_
  refine q_icmp_ge (tgt := 44) hx hb ((i : Nat) : Int) ((100 : Nat) : Int) (nI_toInt (by omega)) (nI_toInt (by omega)) dX7_commonDivisor_13 (by decide) (fun c1 => ?_) (fun c1 => ?_)
  · --
    obtain rfl : i = 100 := by omega
    have y0 := gI_end q5
    refine lv_lload hx hb dX7_commonDivisor_44 (lv_at hl 2 rfl) ?_
    exact q_lret (wout := _) hx hb hr hlocks hAe hK () hw (by rw [← q4, y0, Nat.gcd_zero_right]) dX7_commonDivisor_46
  · --
    refine lv_lload hx hb dX7_commonDivisor_16 (lv_at hl 1 rfl) ?_
    refine q_lconst (v := 0) hx hb dX7_commonDivisor_18 (by decide) ?_
    refine q_lc_eq (tgt := 44) hx hb ((y : Nat) : Int) ((0 : Nat) : Int) (pk_lT (by first | omega | assumption)) (pk_lT (by first | omega | assumption)) dX7_commonDivisor_19 dX7_commonDivisor_20 (by decide) (fun c2 => ?_) (fun c2 => ?_)
    · --
      have y0 : y = 0 := by omega
      refine lv_lload hx hb dX7_commonDivisor_44 (lv_at hl 2 rfl) ?_
      exact q_lret (wout := _) hx hb hr hlocks hAe hK () hw (by rw [← q4, y0, Nat.gcd_zero_right]) dX7_commonDivisor_46
    · --
      refine lv_lload hx hb dX7_commonDivisor_23 (lv_at hl 2 rfl) ?_
      refine lv_lload hx hb dX7_commonDivisor_25 (lv_at hl 1 rfl) ?_
      refine q_lrem hx hb (by omega) (by omega) (by omega) dX7_commonDivisor_27 ?_
      refine lv_lstore (lv' := [(9, .long (lN (x % y))), (8, .int (nI i)), (6, .long (lN y)), (4, .long (lN x)), (0, .long (lN a)), (2, .long (lN b))]) hx hb dX7_commonDivisor_28 hl (by decide) rfl (fun ls hl => ?_)
      refine lv_lload hx hb dX7_commonDivisor_30 (lv_at hl 2 rfl) ?_
      refine lv_lstore (lv' := [(4, .long (lN y)), (9, .long (lN (x % y))), (8, .int (nI i)), (6, .long (lN y)), (0, .long (lN a)), (2, .long (lN b))]) hx hb dX7_commonDivisor_32 hl (by decide) rfl (fun ls hl => ?_)
      refine lv_lload hx hb dX7_commonDivisor_34 (lv_at hl 1 rfl) ?_
      refine lv_lstore (lv' := [(6, .long (lN (x % y))), (4, .long (lN y)), (9, .long (lN (x % y))), (8, .int (nI i)), (0, .long (lN a)), (2, .long (lN b))]) hx hb dX7_commonDivisor_36 hl (by decide) rfl (fun ls hl => ?_)
      refine lv_iinc (v := nI (i + 1)) (lv' := [(8, .int (nI (i + 1))), (6, .long (lN (x % y))), (4, .long (lN y)), (9, .long (lN (x % y))), (0, .long (lN a)), (2, .long (lN b))]) hx hb dX7_commonDivisor_38 hl (k := 3) rfl (nI_add _ _) (by decide) rfl (fun ls hl => ?_)
      refine lv_goto (tgt := 9) hx hb dX7_commonDivisor_41 (by decide) ?_
      exact ih9 (y, x % y, i + 1) H locs ls (by dsimp only; omega) (by dsimp only; exact ⟨by omega, q3, Nat.lt_trans (Nat.mod_lt _ (by omega)) q3, by rw [← q4, Nat.gcd_comm y, ← Nat.gcd_rec, Nat.gcd_comm], gI_step (by omega) q5⟩) hw (lv_sub hl [0, 1, 2, 4, 5] rfl)
set_option maxHeartbeats 4000000 in
set_option maxRecDepth 100000 in
theorem c_X7_lowest (l : Launch) (D : va_G) (Z : Nat → ClassId) (sz : Nat) (a b q : Nat) (ha : a < 2 ^ 63) (hb0 : b < 2 ^ 50) (hb1 : 0 < b) (hq : q ≤ 2) : cMl l yX7_lowest wsX7_lowest (rmd 1) D Z sz [.long (lN a), .long (lN b), .int (nI q)] [] (S := Unit) (fun (r : Int64) => fun (_ : Unit) => r = lN (fr a b q)) (fun (_ : Unit) => []) 0 0 := by
  refine q_open (y := yX7_lowest) (ws := wsX7_lowest) (av := [.long (lN a), .long (lN b), .int (nI q)]) (win := []) (Qc := fun sz => cQl D Z sz [] (S := Unit) (fun (r : Int64) => fun (_ : Unit) => r = lN (fr a b q)) (fun (_ : Unit) => [])) (cc := cX7_lowest) (maxL := 9) (ret := (some .long)) (by decide) rfl (Nat.le_of_ble_eq_true rfl) ?_
  intro pp ee s mm bw mt cd ls A H locs hAe hx hb hr hml hown hmn hts hlocks hA hK hw hl
  have hown : s.vm.findClass RX7 = some mm.cls := hown
  have hl : lv_has ls 9 [(0, .long (lN a)), (2, .long (lN b)), (4, .int (nI q))] := hl
  have g0 : 0 < Nat.gcd a b := Nat.gcd_pos_of_pos_right _ hb1
  have g1 : Nat.gcd a b ≤ b := Nat.gcd_le_right _ hb1
  refine lv_lload_n hx hb dX7_lowest_0 rfl (lv_at hl 0 rfl) ?_
  refine lv_lload_n hx hb dX7_lowest_1 rfl (lv_at hl 1 rfl) ?_
  refine q_calll (S := Unit) (Z := Z) (D := D) (wc := []) (wr := []) (rest := []) hw hA [] [] rfl rfl rfl rfl (by decide) (fun hPc hDc => va_runS (As := [.long (lN a), .long (lN b)]) (rest := []) ⟨hx, hb, hml, hown, hts⟩ (c_X7_commonDivisor l D Z H.size a b (by first | assumption | omega) (by first | assumption | omega)) (va_cwS 2 hts gX7_lowest_X7_commonDivisor rfl rfl rfl (by decide +kernel) ⟨Nat.le_of_ble_eq_true rfl, Nat.le_of_ble_eq_true rfl⟩) ⟨fb_cPre, pre_of hPc hK hDc⟩ rfl rfl hl.1 rfl (lv_room (Nat.le_of_ble_eq_true rfl)) dX7_lowest_2 ⟨Nat.le_of_ble_eq_true rfl, Nat.le_of_ble_eq_true rfl⟩) (fun r1 u H locs hr1 hw => ?_)
  subst hr1
  have hw : WS D A s [] H locs := hw
  refine lv_lstore (lv' := [(5, .long (lN (Nat.gcd a b))), (0, .long (lN a)), (2, .long (lN b)), (4, .int (nI q))]) hx hb dX7_lowest_5 hl (by decide) rfl (fun ls hl => ?_)
  refine lv_iload hx hb dX7_lowest_7 (lv_at hl 3 rfl) ?_
  refine q_if_ne (tgt := 16) hx hb ((q : Nat) : Int) (nI_toInt (by omega)) dX7_lowest_9 (by decide) (fun c2 => ?_) (fun c2 => ?_)
  · --
    refine lv_lload_n hx hb dX7_lowest_16 rfl (lv_at hl 2 rfl) ?_
    refine lv_lstore (lv' := [(7, .long (lN b)), (5, .long (lN (Nat.gcd a b))), (0, .long (lN a)), (2, .long (lN b)), (4, .int (nI q))]) hx hb dX7_lowest_17 hl (by decide) rfl (fun ls hl => ?_)
    refine lv_lload hx hb dX7_lowest_19 (lv_at hl 1 rfl) ?_
    refine q_lconst (v := 1) hx hb dX7_lowest_21 (by decide) ?_
    refine q_lc_le (tgt := 34) hx hb ((Nat.gcd a b : Nat) : Int) ((1 : Nat) : Int) (pk_lT (by first | omega | assumption)) (pk_lT (by first | omega | assumption)) dX7_lowest_22 dX7_lowest_23 (by decide) (fun c3 => ?_) (fun c3 => ?_)
    · --
      refine lv_lload hx hb dX7_lowest_34 (lv_at hl 0 rfl) ?_
      exact q_lret (wout := _) hx hb hr hlocks hAe hK () hw (by unfold fr; first | rw [if_pos (by omega), show Nat.gcd a b = 1 by omega, Nat.div_one] | rw [if_neg (by omega), show Nat.gcd a b = 1 by omega, Nat.div_one] | rw [if_pos (by omega)] | rw [if_neg (by omega)]) dX7_lowest_36
    · --
      refine lv_lload hx hb dX7_lowest_26 (lv_at hl 0 rfl) ?_
      refine lv_lload hx hb dX7_lowest_28 (lv_at hl 1 rfl) ?_
      refine q_ldiv hx hb (by omega) (by omega) (by omega) dX7_lowest_30 ?_
      refine lv_goto (tgt := 36) hx hb dX7_lowest_31 (by decide) ?_
      exact q_lret (wout := _) hx hb hr hlocks hAe hK () hw (by unfold fr; first | rw [if_pos (by omega), show Nat.gcd a b = 1 by omega, Nat.div_one] | rw [if_neg (by omega), show Nat.gcd a b = 1 by omega, Nat.div_one] | rw [if_pos (by omega)] | rw [if_neg (by omega)]) dX7_lowest_36
  · --
    refine lv_lload_n hx hb dX7_lowest_12 rfl (lv_at hl 1 rfl) ?_
    refine lv_goto (tgt := 17) hx hb dX7_lowest_13 (by decide) ?_
    refine lv_lstore (lv' := [(7, .long (lN a)), (5, .long (lN (Nat.gcd a b))), (0, .long (lN a)), (2, .long (lN b)), (4, .int (nI q))]) hx hb dX7_lowest_17 hl (by decide) rfl (fun ls hl => ?_)
    refine lv_lload hx hb dX7_lowest_19 (lv_at hl 1 rfl) ?_
    refine q_lconst (v := 1) hx hb dX7_lowest_21 (by decide) ?_
    refine q_lc_le (tgt := 34) hx hb ((Nat.gcd a b : Nat) : Int) ((1 : Nat) : Int) (pk_lT (by first | omega | assumption)) (pk_lT (by first | omega | assumption)) dX7_lowest_22 dX7_lowest_23 (by decide) (fun c4 => ?_) (fun c4 => ?_)
    · --
      refine lv_lload hx hb dX7_lowest_34 (lv_at hl 0 rfl) ?_
      exact q_lret (wout := _) hx hb hr hlocks hAe hK () hw (by unfold fr; first | rw [if_pos (by omega), show Nat.gcd a b = 1 by omega, Nat.div_one] | rw [if_neg (by omega), show Nat.gcd a b = 1 by omega, Nat.div_one] | rw [if_pos (by omega)] | rw [if_neg (by omega)]) dX7_lowest_36
    · --
      refine lv_lload hx hb dX7_lowest_26 (lv_at hl 0 rfl) ?_
      refine lv_lload hx hb dX7_lowest_28 (lv_at hl 1 rfl) ?_
      refine q_ldiv hx hb (by omega) (by omega) (by omega) dX7_lowest_30 ?_
      refine lv_goto (tgt := 36) hx hb dX7_lowest_31 (by decide) ?_
      exact q_lret (wout := _) hx hb hr hlocks hAe hK () hw (by unfold fr; first | rw [if_pos (by omega), show Nat.gcd a b = 1 by omega, Nat.div_one] | rw [if_neg (by omega), show Nat.gcd a b = 1 by omega, Nat.div_one] | rw [if_pos (by omega)] | rw [if_neg (by omega)]) dX7_lowest_36
set_option maxHeartbeats 4000000 in
set_option maxRecDepth 100000 in
theorem c_X7_isNoSide (l : Launch) (D : va_G) (Z : Nat → ClassId) (sz : Nat) (w : Int32)  : cMi l yX7_isNoSide wsX7_isNoSide (rmd 0) D Z sz [.int w] [] (S := Unit) (fun (r : Int32) => fun (_ : Unit) => r = nI (bb (w.toInt ≠ 0 ∧ w.toInt ≠ 1))) (fun (_ : Unit) => []) 0 0 := by
  refine q_open (y := yX7_isNoSide) (ws := wsX7_isNoSide) (av := [.int w]) (win := []) (Qc := fun sz => cQi D Z sz [] (S := Unit) (fun (r : Int32) => fun (_ : Unit) => r = nI (bb (w.toInt ≠ 0 ∧ w.toInt ≠ 1))) (fun (_ : Unit) => [])) (cc := cX7_isNoSide) (maxL := 1) (ret := (some .boolean)) (by decide) rfl (Nat.le_of_ble_eq_true rfl) ?_
  intro pp ee s mm bw mt cd ls A H locs hAe hx hb hr hml hown hmn hts hlocks hA hK hw hl
  have hown : s.vm.findClass RX7 = some mm.cls := hown
  have hl : lv_has ls 1 [(0, .int w)] := hl
  refine lv_iload_n hx hb dX7_isNoSide_0 rfl (lv_at hl 0 rfl) ?_
  refine q_if_eq (tgt := 13) hx hb w.toInt rfl dX7_isNoSide_1 (by decide) (fun c1 => ?_) (fun c1 => ?_)
  · --
    refine q_iconst (v := 0) hx hb dX7_isNoSide_13 (by decide) ?_
    exact q_zret (wout := _) hx hb hr hlocks hAe hK () hw rfl (by first | exact (congrArg nI (bb_t (by omega))).symm | exact (congrArg nI (bb_f (by omega))).symm) dX7_isNoSide_14
  · --
    refine lv_iload_n hx hb dX7_isNoSide_4 rfl (lv_at hl 0 rfl) ?_
    refine q_iconst (v := 1) hx hb dX7_isNoSide_5 (by decide) ?_
    refine q_icmp_eq (tgt := 13) hx hb w.toInt ((1 : Nat) : Int) rfl (nI_toInt (by omega)) dX7_isNoSide_6 (by decide) (fun c2 => ?_) (fun c2 => ?_)
    · --
      refine q_iconst (v := 0) hx hb dX7_isNoSide_13 (by decide) ?_
      exact q_zret (wout := _) hx hb hr hlocks hAe hK () hw rfl (by first | exact (congrArg nI (bb_t (by omega))).symm | exact (congrArg nI (bb_f (by omega))).symm) dX7_isNoSide_14
    · --
      refine q_iconst (v := 1) hx hb dX7_isNoSide_9 (by decide) ?_
      refine lv_goto (tgt := 14) hx hb dX7_isNoSide_10 (by decide) ?_
      exact q_zret (wout := _) hx hb hr hlocks hAe hK () hw rfl (by first | exact (congrArg nI (bb_t (by omega))).symm | exact (congrArg nI (bb_f (by omega))).symm) dX7_isNoSide_14
set_option maxHeartbeats 4000000 in
set_option maxRecDepth 100000 in
theorem c_X7_isNoSheet (l : Launch) (D : va_G) (Z : Nat → ClassId) (sz : Nat) (w : Int32)  : cMi l yX7_isNoSheet wsX7_isNoSheet (rmd 0) D Z sz [.int w] [] (S := Unit) (fun (r : Int32) => fun (_ : Unit) => r = nI (bb (w.toInt < 0 ∨ 4 ≤ w.toInt))) (fun (_ : Unit) => []) 0 0 := by
  refine q_open (y := yX7_isNoSheet) (ws := wsX7_isNoSheet) (av := [.int w]) (win := []) (Qc := fun sz => cQi D Z sz [] (S := Unit) (fun (r : Int32) => fun (_ : Unit) => r = nI (bb (w.toInt < 0 ∨ 4 ≤ w.toInt))) (fun (_ : Unit) => [])) (cc := cX7_isNoSheet) (maxL := 1) (ret := (some .boolean)) (by decide) rfl (Nat.le_of_ble_eq_true rfl) ?_
  intro pp ee s mm bw mt cd ls A H locs hAe hx hb hr hml hown hmn hts hlocks hA hK hw hl
  have hown : s.vm.findClass RX7 = some mm.cls := hown
  have hl : lv_has ls 1 [(0, .int w)] := hl
  refine lv_iload_n hx hb dX7_isNoSheet_0 rfl (lv_at hl 0 rfl) ?_
  refine q_if_lt (tgt := 9) hx hb w.toInt rfl dX7_isNoSheet_1 (by decide) (fun c1 => ?_) (fun c1 => ?_)
  · --
    refine q_iconst (v := 1) hx hb dX7_isNoSheet_9 (by decide) ?_
    refine lv_goto (tgt := 14) hx hb dX7_isNoSheet_10 (by decide) ?_
    exact q_zret (wout := _) hx hb hr hlocks hAe hK () hw rfl (by first | exact (congrArg nI (bb_t (by omega))).symm | exact (congrArg nI (bb_f (by omega))).symm) dX7_isNoSheet_14
  · --
    refine lv_iload_n hx hb dX7_isNoSheet_4 rfl (lv_at hl 0 rfl) ?_
    refine q_iconst (v := 4) hx hb dX7_isNoSheet_5 (by decide) ?_
    refine q_icmp_lt (tgt := 13) hx hb w.toInt ((4 : Nat) : Int) rfl (nI_toInt (by omega)) dX7_isNoSheet_6 (by decide) (fun c2 => ?_) (fun c2 => ?_)
    · --
      refine q_iconst (v := 0) hx hb dX7_isNoSheet_13 (by decide) ?_
      exact q_zret (wout := _) hx hb hr hlocks hAe hK () hw rfl (by first | exact (congrArg nI (bb_t (by omega))).symm | exact (congrArg nI (bb_f (by omega))).symm) dX7_isNoSheet_14
    · --
      refine q_iconst (v := 1) hx hb dX7_isNoSheet_9 (by decide) ?_
      refine lv_goto (tgt := 14) hx hb dX7_isNoSheet_10 (by decide) ?_
      exact q_zret (wout := _) hx hb hr hlocks hAe hK () hw rfl (by first | exact (congrArg nI (bb_t (by omega))).symm | exact (congrArg nI (bb_f (by omega))).symm) dX7_isNoSheet_14
set_option maxHeartbeats 4000000 in
set_option maxRecDepth 100000 in
theorem c_X7_isNoLane (l : Launch) (D : va_G) (Z : Nat → ClassId) (sz : Nat) (w : Int32)  : cMi l yX7_isNoLane wsX7_isNoLane (rmd 0) D Z sz [.int w] [] (S := Unit) (fun (r : Int32) => fun (_ : Unit) => r = nI (bb (w.toInt < 0 ∨ 4 ≤ w.toInt))) (fun (_ : Unit) => []) 0 0 := by
  refine q_open (y := yX7_isNoLane) (ws := wsX7_isNoLane) (av := [.int w]) (win := []) (Qc := fun sz => cQi D Z sz [] (S := Unit) (fun (r : Int32) => fun (_ : Unit) => r = nI (bb (w.toInt < 0 ∨ 4 ≤ w.toInt))) (fun (_ : Unit) => [])) (cc := cX7_isNoLane) (maxL := 1) (ret := (some .boolean)) (by decide) rfl (Nat.le_of_ble_eq_true rfl) ?_
  intro pp ee s mm bw mt cd ls A H locs hAe hx hb hr hml hown hmn hts hlocks hA hK hw hl
  have hown : s.vm.findClass RX7 = some mm.cls := hown
  have hl : lv_has ls 1 [(0, .int w)] := hl
  refine lv_iload_n hx hb dX7_isNoLane_0 rfl (lv_at hl 0 rfl) ?_
  refine q_if_lt (tgt := 9) hx hb w.toInt rfl dX7_isNoLane_1 (by decide) (fun c1 => ?_) (fun c1 => ?_)
  · --
    refine q_iconst (v := 1) hx hb dX7_isNoLane_9 (by decide) ?_
    refine lv_goto (tgt := 14) hx hb dX7_isNoLane_10 (by decide) ?_
    exact q_zret (wout := _) hx hb hr hlocks hAe hK () hw rfl (by first | exact (congrArg nI (bb_t (by omega))).symm | exact (congrArg nI (bb_f (by omega))).symm) dX7_isNoLane_14
  · --
    refine lv_iload_n hx hb dX7_isNoLane_4 rfl (lv_at hl 0 rfl) ?_
    refine q_iconst (v := 4) hx hb dX7_isNoLane_5 (by decide) ?_
    refine q_icmp_lt (tgt := 13) hx hb w.toInt ((4 : Nat) : Int) rfl (nI_toInt (by omega)) dX7_isNoLane_6 (by decide) (fun c2 => ?_) (fun c2 => ?_)
    · --
      refine q_iconst (v := 0) hx hb dX7_isNoLane_13 (by decide) ?_
      exact q_zret (wout := _) hx hb hr hlocks hAe hK () hw rfl (by first | exact (congrArg nI (bb_t (by omega))).symm | exact (congrArg nI (bb_f (by omega))).symm) dX7_isNoLane_14
    · --
      refine q_iconst (v := 1) hx hb dX7_isNoLane_9 (by decide) ?_
      refine lv_goto (tgt := 14) hx hb dX7_isNoLane_10 (by decide) ?_
      exact q_zret (wout := _) hx hb hr hlocks hAe hK () hw rfl (by first | exact (congrArg nI (bb_t (by omega))).symm | exact (congrArg nI (bb_f (by omega))).symm) dX7_isNoLane_14
set_option maxHeartbeats 4000000 in
set_option maxRecDepth 100000 in
theorem c_X7_leastTold (l : Launch) (D : va_G) (Z : Nat → ClassId) (sz : Nat) (w : Int32)  : cMi l yX7_leastTold wsX7_leastTold (rmd 0) D Z sz [.int w] [] (S := Unit) (fun (r : Int32) => fun (_ : Unit) => r = nI (1 - bb (w.toInt = 1))) (fun (_ : Unit) => []) 0 0 := by
  refine q_open (y := yX7_leastTold) (ws := wsX7_leastTold) (av := [.int w]) (win := []) (Qc := fun sz => cQi D Z sz [] (S := Unit) (fun (r : Int32) => fun (_ : Unit) => r = nI (1 - bb (w.toInt = 1))) (fun (_ : Unit) => [])) (cc := cX7_leastTold) (maxL := 1) (ret := (some .int)) (by decide) rfl (Nat.le_of_ble_eq_true rfl) ?_
  intro pp ee s mm bw mt cd ls A H locs hAe hx hb hr hml hown hmn hts hlocks hA hK hw hl
  have hown : s.vm.findClass RX7 = some mm.cls := hown
  have hl : lv_has ls 1 [(0, .int w)] := hl
  refine lv_iload_n hx hb dX7_leastTold_0 rfl (lv_at hl 0 rfl) ?_
  refine q_iconst (v := 1) hx hb dX7_leastTold_1 (by decide) ?_
  refine q_icmp_ne (tgt := 9) hx hb w.toInt ((1 : Nat) : Int) rfl (nI_toInt (by omega)) dX7_leastTold_2 (by decide) (fun c1 => ?_) (fun c1 => ?_)
  · --
    refine q_iconst (v := 1) hx hb dX7_leastTold_9 (by decide) ?_
    exact q_iret (wout := _) hx hb hr hlocks hAe hK () hw (by first | exact congrArg nI (by rw [bb_t (by omega)]) | exact congrArg nI (by rw [bb_f (by omega)])) dX7_leastTold_10
  · --
    refine q_iconst (v := 0) hx hb dX7_leastTold_5 (by decide) ?_
    refine lv_goto (tgt := 10) hx hb dX7_leastTold_6 (by decide) ?_
    exact q_iret (wout := _) hx hb hr hlocks hAe hK () hw (by first | exact congrArg nI (by rw [bb_t (by omega)]) | exact congrArg nI (by rw [bb_f (by omega)])) dX7_leastTold_10
set_option maxHeartbeats 4000000 in
set_option maxRecDepth 100000 in
theorem c_X7_mostTold (l : Launch) (D : va_G) (Z : Nat → ClassId) (sz : Nat) (w : Int32)  : cMi l yX7_mostTold wsX7_mostTold (rmd 0) D Z sz [.int w] [] (S := Unit) (fun (r : Int32) => fun (_ : Unit) => r = nI (99 - 91 * bb (w.toInt = 2))) (fun (_ : Unit) => []) 0 0 := by
  refine q_open (y := yX7_mostTold) (ws := wsX7_mostTold) (av := [.int w]) (win := []) (Qc := fun sz => cQi D Z sz [] (S := Unit) (fun (r : Int32) => fun (_ : Unit) => r = nI (99 - 91 * bb (w.toInt = 2))) (fun (_ : Unit) => [])) (cc := cX7_mostTold) (maxL := 1) (ret := (some .int)) (by decide) rfl (Nat.le_of_ble_eq_true rfl) ?_
  intro pp ee s mm bw mt cd ls A H locs hAe hx hb hr hml hown hmn hts hlocks hA hK hw hl
  have hown : s.vm.findClass RX7 = some mm.cls := hown
  have hl : lv_has ls 1 [(0, .int w)] := hl
  refine lv_iload_n hx hb dX7_mostTold_0 rfl (lv_at hl 0 rfl) ?_
  refine q_iconst (v := 2) hx hb dX7_mostTold_1 (by decide) ?_
  refine q_icmp_ne (tgt := 10) hx hb w.toInt ((2 : Nat) : Int) rfl (nI_toInt (by omega)) dX7_mostTold_2 (by decide) (fun c1 => ?_) (fun c1 => ?_)
  · --
    refine q_bipush (v := 99) hx hb dX7_mostTold_10 (by decide) ?_
    exact q_iret (wout := _) hx hb hr hlocks hAe hK () hw (by first | exact congrArg nI (by rw [bb_t (by omega)]) | exact congrArg nI (by rw [bb_f (by omega)])) dX7_mostTold_12
  · --
    refine q_bipush (v := 8) hx hb dX7_mostTold_5 (by decide) ?_
    refine lv_goto (tgt := 12) hx hb dX7_mostTold_7 (by decide) ?_
    exact q_iret (wout := _) hx hb hr hlocks hAe hK () hw (by first | exact congrArg nI (by rw [bb_t (by omega)]) | exact congrArg nI (by rw [bb_f (by omega)])) dX7_mostTold_12
