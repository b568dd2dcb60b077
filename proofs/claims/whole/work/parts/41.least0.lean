theorem red_scale (s t : Nat) {c : Nat} (hc : 0 < c) : rA (s * c) (t * c) = rA s t ∧ rB (s * c) (t * c) = rB s t := by
  unfold rA rB; rw [Nat.gcd_mul_right]; exact ⟨Nat.mul_div_mul_right _ _ hc, Nat.mul_div_mul_right _ _ hc⟩
/-- lowest terms depend on the ratio only -/
theorem red_eq {s t s' t' : Nat} (ht : 0 < t) (ht' : 0 < t') (h : s * t' = s' * t) : rA s t = rA s' t' ∧ rB s t = rB s' t' := by
  have h1 := red_scale s t ht'
  have h2 := red_scale s' t' ht
  rw [h, Nat.mul_comm t t'] at h1
  exact ⟨h1.1.symm.trans h2.1, h1.2.symm.trans h2.2⟩
theorem ad_id (x u1 : Nat) {L : Nat} (hL : 0 < L) : adX (rA x L) (rB x L) (rA u1 L) (rB u1 L) * L = (x + u1) * adY (rB x L) (rB u1 L) := by
  have e1 := rA_mul x L
  have e2 := rB_mul x L
  have e3 := rA_mul u1 L
  have e4 := rB_mul u1 L
  have hb := rB_pos x hL
  unfold adX adY
  generalize rA x L = a at *
  generalize rB x L = b at *
  generalize rA u1 L = c at *
  generalize rB u1 L = d at *
  have f1 : b / Nat.gcd b d * Nat.gcd b d = b := Nat.div_mul_cancel (Nat.gcd_dvd_left b d)
  have f2 : d / Nat.gcd b d * Nat.gcd b d = d := Nat.div_mul_cancel (Nat.gcd_dvd_right b d)
  generalize b / Nat.gcd b d = b' at *
  generalize d / Nat.gcd b d = d' at *
  generalize Nat.gcd b d = g at *
  generalize Nat.gcd x L = m1 at *
  generalize Nat.gcd u1 L = m2 at *
  have k1 : a * d' * L = x * (b' * d) := by
    rw [← e2, ← e1, ← f2]; conv => { lhs; rw [← f1] }
    simp only [Nat.mul_assoc, Nat.mul_left_comm, Nat.mul_comm]
  have k2 : c * b' * L = u1 * (b' * d) := by
    rw [← e4, ← e3]; simp only [Nat.mul_assoc, Nat.mul_left_comm, Nat.mul_comm]
  rw [Nat.add_mul, k1, k2, Nat.add_mul]
theorem adY_le (x u1 : Nat) {L : Nat} (hL : 0 < L) : adY (rB x L) (rB u1 L) ≤ L := by
  have h1 : rB x L ∣ L := ⟨_, (rB_mul x L).symm⟩
  have h2 : rB u1 L ∣ L := ⟨_, (rB_mul u1 L).symm⟩
  have h3 := Nat.le_of_dvd hL (Nat.lcm_dvd h1 h2)
  refine Nat.le_trans (Nat.le_of_eq ?_) h3
  unfold adY Nat.lcm
  rw [Nat.mul_comm (rB x L) (rB u1 L), Nat.mul_div_assoc _ (Nat.gcd_dvd_left _ _), Nat.mul_comm]
theorem adX_le (x u1 : Nat) {L : Nat} (hL : 0 < L) : adX (rA x L) (rB x L) (rA u1 L) (rB u1 L) ≤ x + u1 := by
  refine Nat.le_of_mul_le_mul_right (c := L) ?_ hL
  rw [ad_id x u1 hL]
  exact Nat.mul_le_mul_left _ (adY_le x u1 hL)
theorem ad_red (x u1 : Nat) {L : Nat} (hL : 0 < L) : rA (adX (rA x L) (rB x L) (rA u1 L) (rB u1 L)) (adY (rB x L) (rB u1 L)) = rA (x + u1) L ∧ rB (adX (rA x L) (rB x L) (rA u1 L) (rB u1 L)) (adY (rB x L) (rB u1 L)) = rB (x + u1) L := by
  have hb := rB_pos x hL
  have hd := rB_pos u1 hL
  refine red_eq ?_ hL (ad_id x u1 hL)
  exact Nat.mul_pos (Nat.div_pos (Nat.gcd_le_left _ hb) (Nat.gcd_pos_of_pos_right _ hd)) hd
theorem mu_red (x u1 : Nat) {L w : Nat} (hL : 0 < L) (hw : 0 < w) : rA (muX (rA x L) (rB x L) u1 w) (muY (rA x L) (rB x L) u1 w) = rA (x * u1) (L * w) ∧ rB (muX (rA x L) (rB x L) u1 w) (muY (rA x L) (rB x L) u1 w) = rB (x * u1) (L * w) := by
  have hb := rB_pos x hL
  have e1 := rA_mul x L
  have e2 := rB_mul x L
  refine red_eq (Nat.mul_pos (Nat.div_pos (Nat.gcd_le_right _ hb) (Nat.gcd_pos_of_pos_right _ hb)) (Nat.div_pos (Nat.gcd_le_right _ hw) (Nat.gcd_pos_of_pos_right _ hw))) (Nat.mul_pos hL hw) ?_
  unfold muX muY
  generalize rA x L = a at *
  generalize rB x L = b at *
  have f1 : a / Nat.gcd a w * Nat.gcd a w = a := Nat.div_mul_cancel (Nat.gcd_dvd_left a w)
  have f2 : w / Nat.gcd a w * Nat.gcd a w = w := Nat.div_mul_cancel (Nat.gcd_dvd_right a w)
  have f3 : u1 / Nat.gcd u1 b * Nat.gcd u1 b = u1 := Nat.div_mul_cancel (Nat.gcd_dvd_left u1 b)
  have f4 : b / Nat.gcd u1 b * Nat.gcd u1 b = b := Nat.div_mul_cancel (Nat.gcd_dvd_right u1 b)
  generalize a / Nat.gcd a w = a' at *
  generalize w / Nat.gcd a w = w' at *
  generalize u1 / Nat.gcd u1 b = u' at *
  generalize b / Nat.gcd u1 b = b' at *
  generalize Nat.gcd a w = g at *
  generalize Nat.gcd u1 b = k at *
  generalize Nat.gcd x L = m at *
  subst e1 e2 f1 f2 f3 f4
  simp only [Nat.mul_assoc, Nat.mul_left_comm, Nat.mul_comm]
set_option maxHeartbeats 4000000 in
set_option maxRecDepth 100000 in
theorem c_addsL (l : Launch) (D : va_G) (Z : Nat → ClassId) (zs0 : Nat) (M : Nat) (mr mi : Nat → Nat) (ima : Int32) (x u1 L : Nat) (hX : x + u1 < 2 ^ 63) (hL0 : 0 < L) (hL : L < 2 ^ 63) : cMv l yX8_adds wsX8_adds (rmd 2) D Z zs0 [.ref M, .long (lN (rA x L)), .long (lN (rB x L)), .long (lN (rA u1 L)), .long (lN (rB u1 L))] [(M, .inr (8, [.ref (mr 0), .ref (mr 1), .int (nI (mi 2)), .ref (mr 3), .ref (mr 4), .int ima, .ref (mr 6), .int (nI (mi 7)), .ref (mr 8), .ref (mr 9), .ref (mr 10), .long (lN (mi 11)), .long (lN (mi 12)), .ref (mr 13), .ref (mr 14), .ref (mr 15), .ref (mr 16), .ref (mr 17), .ref (mr 18), .int (nI (mi 19)), .ref (mr 20), .ref (mr 21), .ref (mr 22), .ref (mr 23), .long (lN (mi 24)), .long (lN (mi 25)), .int (nI (mi 26)), .int (nI (mi 27)), .ref (mr 28), .int (nI (mi 29)), .int (nI (mi 30)), .int (nI (mi 31)), .int (nI (mi 32))]))] (S := Unit) (fun (_ : Unit) => True) (fun (_ : Unit) => [(M, .inr (8, [.ref (mr 0), .ref (mr 1), .int (nI (mi 2)), .ref (mr 3), .ref (mr 4), .int ima, .ref (mr 6), .int (nI (mi 7)), .ref (mr 8), .ref (mr 9), .ref (mr 10), .long (lN (rA (x + u1) L)), .long (lN (rB (x + u1) L)), .ref (mr 13), .ref (mr 14), .ref (mr 15), .ref (mr 16), .ref (mr 17), .ref (mr 18), .int (nI (mi 19)), .ref (mr 20), .ref (mr 21), .ref (mr 22), .ref (mr 23), .long (lN (mi 24)), .long (lN (mi 25)), .int (nI (mi 26)), .int (nI (mi 27)), .ref (mr 28), .int (nI (mi 29)), .int (nI (mi 30)), .int (nI (mi 31)), .int (nI (mi 32))]))]) 0 0 := by
  refine q_open (y := yX8_adds) (ws := wsX8_adds) (av := [.ref M, .long (lN (rA x L)), .long (lN (rB x L)), .long (lN (rA u1 L)), .long (lN (rB u1 L))]) (win := [(M, .inr (8, [.ref (mr 0), .ref (mr 1), .int (nI (mi 2)), .ref (mr 3), .ref (mr 4), .int ima, .ref (mr 6), .int (nI (mi 7)), .ref (mr 8), .ref (mr 9), .ref (mr 10), .long (lN (mi 11)), .long (lN (mi 12)), .ref (mr 13), .ref (mr 14), .ref (mr 15), .ref (mr 16), .ref (mr 17), .ref (mr 18), .int (nI (mi 19)), .ref (mr 20), .ref (mr 21), .ref (mr 22), .ref (mr 23), .long (lN (mi 24)), .long (lN (mi 25)), .int (nI (mi 26)), .int (nI (mi 27)), .ref (mr 28), .int (nI (mi 29)), .int (nI (mi 30)), .int (nI (mi 31)), .int (nI (mi 32))]))]) (Qc := fun zs0 => cQv D Z zs0 [(M, .inr (8, [.ref (mr 0), .ref (mr 1), .int (nI (mi 2)), .ref (mr 3), .ref (mr 4), .int ima, .ref (mr 6), .int (nI (mi 7)), .ref (mr 8), .ref (mr 9), .ref (mr 10), .long (lN (mi 11)), .long (lN (mi 12)), .ref (mr 13), .ref (mr 14), .ref (mr 15), .ref (mr 16), .ref (mr 17), .ref (mr 18), .int (nI (mi 19)), .ref (mr 20), .ref (mr 21), .ref (mr 22), .ref (mr 23), .long (lN (mi 24)), .long (lN (mi 25)), .int (nI (mi 26)), .int (nI (mi 27)), .ref (mr 28), .int (nI (mi 29)), .int (nI (mi 30)), .int (nI (mi 31)), .int (nI (mi 32))]))] (S := Unit) (fun (_ : Unit) => True) (fun (_ : Unit) => [(M, .inr (8, [.ref (mr 0), .ref (mr 1), .int (nI (mi 2)), .ref (mr 3), .ref (mr 4), .int ima, .ref (mr 6), .int (nI (mi 7)), .ref (mr 8), .ref (mr 9), .ref (mr 10), .long (lN (rA (x + u1) L)), .long (lN (rB (x + u1) L)), .ref (mr 13), .ref (mr 14), .ref (mr 15), .ref (mr 16), .ref (mr 17), .ref (mr 18), .int (nI (mi 19)), .ref (mr 20), .ref (mr 21), .ref (mr 22), .ref (mr 23), .long (lN (mi 24)), .long (lN (mi 25)), .int (nI (mi 26)), .int (nI (mi 27)), .ref (mr 28), .int (nI (mi 29)), .int (nI (mi 30)), .int (nI (mi 31)), .int (nI (mi 32))]))])) (cc := cX8_adds) (maxL := 11) (ret := none) (by decide) rfl (Nat.le_of_ble_eq_true rfl) ?_
  intro pp ee s mm bw mt cd ls A H locs hAe hx hb hr hml hown hmn hts hlocks hA hK hw hl
  have hown : s.vm.findClass RX8 = some mm.cls := hown
  have hl : lv_has ls 11 [(0, .ref M), (1, .long (lN (rA x L))), (3, .long (lN (rB x L))), (5, .long (lN (rA u1 L))), (7, .long (lN (rB u1 L)))] := hl
  have a1 := rA_le x L
  have a2 := rB_le x L
  have a3 := rB_pos x hL0
  have a4 := rA_le u1 L
  have a5 := rB_le u1 L
  have a6 := rB_pos u1 hL0
  have g0 : 0 < Nat.gcd (rB x L) (rB u1 L) := Nat.gcd_pos_of_pos_right _ a6
  have g1 : Nat.gcd (rB x L) (rB u1 L) ≤ rB u1 L := Nat.gcd_le_right _ a6
  have m1 : adX (rA x L) (rB x L) (rA u1 L) (rB u1 L) ≤ x + u1 := adX_le x u1 hL0
  have m2 : adY (rB x L) (rB u1 L) ≤ L := adY_le x u1 hL0
  have m3 : 0 < adY (rB x L) (rB u1 L) := Nat.mul_pos (Nat.div_pos (Nat.gcd_le_left _ a3) g0) a6
  have m4 := ad_red x u1 hL0
  refine lv_lload_n hx hb dX8_adds_0 rfl (lv_at hl 2 rfl) ?_
  refine lv_lload hx hb dX8_adds_1 (lv_at hl 4 rfl) ?_
  refine q_calll (S := Unit) (Z := Z) (D := D) (wc := []) (wr := [(M, .inr (8, [.ref (mr 0), .ref (mr 1), .int (nI (mi 2)), .ref (mr 3), .ref (mr 4), .int ima, .ref (mr 6), .int (nI (mi 7)), .ref (mr 8), .ref (mr 9), .ref (mr 10), .long (lN (mi 11)), .long (lN (mi 12)), .ref (mr 13), .ref (mr 14), .ref (mr 15), .ref (mr 16), .ref (mr 17), .ref (mr 18), .int (nI (mi 19)), .ref (mr 20), .ref (mr 21), .ref (mr 22), .ref (mr 23), .long (lN (mi 24)), .long (lN (mi 25)), .int (nI (mi 26)), .int (nI (mi 27)), .ref (mr 28), .int (nI (mi 29)), .int (nI (mi 30)), .int (nI (mi 31)), .int (nI (mi 32))]))]) (rest := []) hw hA [] [0] rfl rfl rfl rfl (by decide) (fun hPc hDc => va_runS (As := [.long (lN (rB x L)), .long (lN (rB u1 L))]) (rest := []) ⟨hx, hb, hml, hown, hts⟩ (c_X8_divisor l D Z H.size (rB x L) (rB u1 L) (by first | assumption | omega) (by first | assumption | omega)) (va_cwS 2 hts gX8_adds_X8_divisor rfl rfl rfl (by decide +kernel) ⟨Nat.le_of_ble_eq_true rfl, Nat.le_of_ble_eq_true rfl⟩) ⟨fb_cPre, pre_of hPc hK hDc⟩ rfl rfl hl.1 rfl (lv_room (Nat.le_of_ble_eq_true rfl)) dX8_adds_3 ⟨Nat.le_of_ble_eq_true rfl, Nat.le_of_ble_eq_true rfl⟩) (fun r1 uu H locs hr1 hw => ?_)
  subst hr1
  have hw : WS D A s [(M, .inr (8, [.ref (mr 0), .ref (mr 1), .int (nI (mi 2)), .ref (mr 3), .ref (mr 4), .int ima, .ref (mr 6), .int (nI (mi 7)), .ref (mr 8), .ref (mr 9), .ref (mr 10), .long (lN (mi 11)), .long (lN (mi 12)), .ref (mr 13), .ref (mr 14), .ref (mr 15), .ref (mr 16), .ref (mr 17), .ref (mr 18), .int (nI (mi 19)), .ref (mr 20), .ref (mr 21), .ref (mr 22), .ref (mr 23), .long (lN (mi 24)), .long (lN (mi 25)), .int (nI (mi 26)), .int (nI (mi 27)), .ref (mr 28), .int (nI (mi 29)), .int (nI (mi 30)), .int (nI (mi 31)), .int (nI (mi 32))]))] H locs := hw
  refine lv_lstore (lv' := [(9, .long (lN (Nat.gcd (rB x L) (rB u1 L)))), (0, .ref M), (1, .long (lN (rA x L))), (3, .long (lN (rB x L))), (5, .long (lN (rA u1 L))), (7, .long (lN (rB u1 L)))]) hx hb dX8_adds_6 hl (by decide) rfl (fun ls hl => ?_)
  refine lv_aload_n hx hb dX8_adds_8 rfl (lv_at hl 1 rfl) ?_
  refine lv_lload_n hx hb dX8_adds_9 rfl (lv_at hl 2 rfl) ?_
  refine lv_lload hx hb dX8_adds_10 (lv_at hl 5 rfl) ?_
  refine lv_lload hx hb dX8_adds_12 (lv_at hl 0 rfl) ?_
  refine q_ldiv hx hb (by omega) (by omega) (by omega) dX8_adds_14 ?_
  refine q_lmul hx hb dX8_adds_15 ?_
  refine lv_lload hx hb dX8_adds_16 (lv_at hl 4 rfl) ?_
  refine lv_lload_n hx hb dX8_adds_18 rfl (lv_at hl 3 rfl) ?_
  refine lv_lload hx hb dX8_adds_19 (lv_at hl 0 rfl) ?_
  refine q_ldiv hx hb (by omega) (by omega) (by omega) dX8_adds_21 ?_
  refine q_lmul hx hb dX8_adds_22 ?_
  refine q_ladd hx hb dX8_adds_23 ?_
  refine lv_lload_n hx hb dX8_adds_24 rfl (lv_at hl 3 rfl) ?_
  refine lv_lload hx hb dX8_adds_25 (lv_at hl 0 rfl) ?_
  refine q_ldiv hx hb (by omega) (by omega) (by omega) dX8_adds_27 ?_
  refine lv_lload hx hb dX8_adds_28 (lv_at hl 5 rfl) ?_
  refine q_lmul hx hb dX8_adds_30 ?_
  refine q_callv (S := Unit) (Z := Z) (D := D) (wc := [(M, .inr (8, [.ref (mr 0), .ref (mr 1), .int (nI (mi 2)), .ref (mr 3), .ref (mr 4), .int ima, .ref (mr 6), .int (nI (mi 7)), .ref (mr 8), .ref (mr 9), .ref (mr 10), .long (lN (mi 11)), .long (lN (mi 12)), .ref (mr 13), .ref (mr 14), .ref (mr 15), .ref (mr 16), .ref (mr 17), .ref (mr 18), .int (nI (mi 19)), .ref (mr 20), .ref (mr 21), .ref (mr 22), .ref (mr 23), .long (lN (mi 24)), .long (lN (mi 25)), .int (nI (mi 26)), .int (nI (mi 27)), .ref (mr 28), .int (nI (mi 29)), .int (nI (mi 30)), .int (nI (mi 31)), .int (nI (mi 32))]))]) (wr := []) (rest := []) hw hA [0] [] rfl rfl rfl rfl (by decide) (fun hPc hDc => va_runV (As := [.long (lN ((rA x L) * ((rB u1 L) / (Nat.gcd (rB x L) (rB u1 L))) + ((rA u1 L) * ((rB x L) / (Nat.gcd (rB x L) (rB u1 L)))))), .long (lN (((rB x L) / (Nat.gcd (rB x L) (rB u1 L))) * (rB u1 L)))]) (rest := []) ⟨hx, hb, hml, hown, hts⟩ (c_X8_becomes l D Z H.size M mr mi ima ((rA x L) * ((rB u1 L) / (Nat.gcd (rB x L) (rB u1 L))) + ((rA u1 L) * ((rB x L) / (Nat.gcd (rB x L) (rB u1 L))))) (((rB x L) / (Nat.gcd (rB x L) (rB u1 L))) * (rB u1 L)) (Nat.lt_of_le_of_lt m1 hX) (Nat.lt_of_le_of_lt m2 hL) m3) (cwV 2 hts gX8_adds_X8_becomes rfl rfl rfl (by decide +kernel) ⟨Nat.le_of_ble_eq_true rfl, Nat.le_of_ble_eq_true rfl⟩) ⟨fb_cPre, va_recv hK.1 hPc (ci := 8) (q0 := 0) rfl rfl, pre_of hPc hK hDc⟩ rfl rfl hl.1 rfl (lv_room (Nat.le_of_ble_eq_true rfl)) dX8_adds_31 ⟨Nat.le_of_ble_eq_true rfl, Nat.le_of_ble_eq_true rfl⟩) (fun uu H locs hr2 hw => ?_)
  have hw : WS D A s [(M, .inr (8, [.ref (mr 0), .ref (mr 1), .int (nI (mi 2)), .ref (mr 3), .ref (mr 4), .int ima, .ref (mr 6), .int (nI (mi 7)), .ref (mr 8), .ref (mr 9), .ref (mr 10), .long (lN (rA ((rA x L) * ((rB u1 L) / (Nat.gcd (rB x L) (rB u1 L))) + ((rA u1 L) * ((rB x L) / (Nat.gcd (rB x L) (rB u1 L))))) (((rB x L) / (Nat.gcd (rB x L) (rB u1 L))) * (rB u1 L)))), .long (lN (rB ((rA x L) * ((rB u1 L) / (Nat.gcd (rB x L) (rB u1 L))) + ((rA u1 L) * ((rB x L) / (Nat.gcd (rB x L) (rB u1 L))))) (((rB x L) / (Nat.gcd (rB x L) (rB u1 L))) * (rB u1 L)))), .ref (mr 13), .ref (mr 14), .ref (mr 15), .ref (mr 16), .ref (mr 17), .ref (mr 18), .int (nI (mi 19)), .ref (mr 20), .ref (mr 21), .ref (mr 22), .ref (mr 23), .long (lN (mi 24)), .long (lN (mi 25)), .int (nI (mi 26)), .int (nI (mi 27)), .ref (mr 28), .int (nI (mi 29)), .int (nI (mi 30)), .int (nI (mi 31)), .int (nI (mi 32))]))] H locs := hw
  exact q_vret (wout := _) hx hb hr hlocks hAe hK () (by rw [← m4.1, ← m4.2]; exact hw.sub [0] (by decide) rfl) (trivial) dX8_adds_34
set_option maxHeartbeats 4000000 in
set_option maxRecDepth 100000 in
theorem c_mulL (l : Launch) (D : va_G) (Z : Nat → ClassId) (zs0 : Nat) (M : Nat) (mr mi : Nat → Nat) (ima : Int32) (x L u1 w : Nat) (hX : x * u1 < 2 ^ 63) (hx : x < 2 ^ 63) (hu1 : u1 < 2 ^ 63) (hL0 : 0 < L) (hw0 : 0 < w) (hL : L * w < 2 ^ 63) : cMv l yX8_multiplies wsX8_multiplies (rmd 2) D Z zs0 [.ref M, .long (lN (rA x L)), .long (lN (rB x L)), .long (lN u1), .long (lN w)] [(M, .inr (8, [.ref (mr 0), .ref (mr 1), .int (nI (mi 2)), .ref (mr 3), .ref (mr 4), .int ima, .ref (mr 6), .int (nI (mi 7)), .ref (mr 8), .ref (mr 9), .ref (mr 10), .long (lN (mi 11)), .long (lN (mi 12)), .ref (mr 13), .ref (mr 14), .ref (mr 15), .ref (mr 16), .ref (mr 17), .ref (mr 18), .int (nI (mi 19)), .ref (mr 20), .ref (mr 21), .ref (mr 22), .ref (mr 23), .long (lN (mi 24)), .long (lN (mi 25)), .int (nI (mi 26)), .int (nI (mi 27)), .ref (mr 28), .int (nI (mi 29)), .int (nI (mi 30)), .int (nI (mi 31)), .int (nI (mi 32))]))] (S := Unit) (fun (_ : Unit) => True) (fun (_ : Unit) => [(M, .inr (8, [.ref (mr 0), .ref (mr 1), .int (nI (mi 2)), .ref (mr 3), .ref (mr 4), .int ima, .ref (mr 6), .int (nI (mi 7)), .ref (mr 8), .ref (mr 9), .ref (mr 10), .long (lN (rA (x * u1) (L * w))), .long (lN (rB (x * u1) (L * w))), .ref (mr 13), .ref (mr 14), .ref (mr 15), .ref (mr 16), .ref (mr 17), .ref (mr 18), .int (nI (mi 19)), .ref (mr 20), .ref (mr 21), .ref (mr 22), .ref (mr 23), .long (lN (mi 24)), .long (lN (mi 25)), .int (nI (mi 26)), .int (nI (mi 27)), .ref (mr 28), .int (nI (mi 29)), .int (nI (mi 30)), .int (nI (mi 31)), .int (nI (mi 32))]))]) 0 0 := by
  refine q_open (y := yX8_multiplies) (ws := wsX8_multiplies) (av := [.ref M, .long (lN (rA x L)), .long (lN (rB x L)), .long (lN u1), .long (lN w)]) (win := [(M, .inr (8, [.ref (mr 0), .ref (mr 1), .int (nI (mi 2)), .ref (mr 3), .ref (mr 4), .int ima, .ref (mr 6), .int (nI (mi 7)), .ref (mr 8), .ref (mr 9), .ref (mr 10), .long (lN (mi 11)), .long (lN (mi 12)), .ref (mr 13), .ref (mr 14), .ref (mr 15), .ref (mr 16), .ref (mr 17), .ref (mr 18), .int (nI (mi 19)), .ref (mr 20), .ref (mr 21), .ref (mr 22), .ref (mr 23), .long (lN (mi 24)), .long (lN (mi 25)), .int (nI (mi 26)), .int (nI (mi 27)), .ref (mr 28), .int (nI (mi 29)), .int (nI (mi 30)), .int (nI (mi 31)), .int (nI (mi 32))]))]) (Qc := fun zs0 => cQv D Z zs0 [(M, .inr (8, [.ref (mr 0), .ref (mr 1), .int (nI (mi 2)), .ref (mr 3), .ref (mr 4), .int ima, .ref (mr 6), .int (nI (mi 7)), .ref (mr 8), .ref (mr 9), .ref (mr 10), .long (lN (mi 11)), .long (lN (mi 12)), .ref (mr 13), .ref (mr 14), .ref (mr 15), .ref (mr 16), .ref (mr 17), .ref (mr 18), .int (nI (mi 19)), .ref (mr 20), .ref (mr 21), .ref (mr 22), .ref (mr 23), .long (lN (mi 24)), .long (lN (mi 25)), .int (nI (mi 26)), .int (nI (mi 27)), .ref (mr 28), .int (nI (mi 29)), .int (nI (mi 30)), .int (nI (mi 31)), .int (nI (mi 32))]))] (S := Unit) (fun (_ : Unit) => True) (fun (_ : Unit) => [(M, .inr (8, [.ref (mr 0), .ref (mr 1), .int (nI (mi 2)), .ref (mr 3), .ref (mr 4), .int ima, .ref (mr 6), .int (nI (mi 7)), .ref (mr 8), .ref (mr 9), .ref (mr 10), .long (lN (rA (x * u1) (L * w))), .long (lN (rB (x * u1) (L * w))), .ref (mr 13), .ref (mr 14), .ref (mr 15), .ref (mr 16), .ref (mr 17), .ref (mr 18), .int (nI (mi 19)), .ref (mr 20), .ref (mr 21), .ref (mr 22), .ref (mr 23), .long (lN (mi 24)), .long (lN (mi 25)), .int (nI (mi 26)), .int (nI (mi 27)), .ref (mr 28), .int (nI (mi 29)), .int (nI (mi 30)), .int (nI (mi 31)), .int (nI (mi 32))]))])) (cc := cX8_multiplies) (maxL := 13) (ret := none) (by decide) rfl (Nat.le_of_ble_eq_true rfl) ?_
  intro pp ee s mm bw mt cd ls A H locs hAe hx hb hr hml hown hmn hts hlocks hA hK hw hl
  have hown : s.vm.findClass RX8 = some mm.cls := hown
  have hl : lv_has ls 13 [(0, .ref M), (1, .long (lN (rA x L))), (3, .long (lN (rB x L))), (5, .long (lN u1)), (7, .long (lN w))] := hl
  have a1 := rA_le x L
  have a2 := rB_le x L
  have a3 := rB_pos x hL0
  have l1 : L ≤ L * w := Nat.le_mul_of_pos_right _ hw0
  have l2 : w ≤ L * w := Nat.le_mul_of_pos_left _ hL0
  have g0 : 0 < Nat.gcd (rA x L) w := Nat.gcd_pos_of_pos_right _ hw0
  have g1 : Nat.gcd (rA x L) w ≤ w := Nat.gcd_le_right _ hw0
  have g2 : 0 < Nat.gcd u1 (rB x L) := Nat.gcd_pos_of_pos_right _ a3
  have g3 : Nat.gcd u1 (rB x L) ≤ rB x L := Nat.gcd_le_right _ a3
  have m1 : muX (rA x L) (rB x L) u1 w ≤ x * u1 := Nat.mul_le_mul (Nat.le_trans (Nat.div_le_self _ _) a1) (Nat.div_le_self _ _)
  have m2 : muY (rA x L) (rB x L) u1 w ≤ L * w := Nat.mul_le_mul (Nat.le_trans (Nat.div_le_self _ _) a2) (Nat.div_le_self _ _)
  have m3 : 0 < muY (rA x L) (rB x L) u1 w := Nat.mul_pos (Nat.div_pos g3 g2) (Nat.div_pos g1 g0)
  have m4 := mu_red x u1 hL0 hw0
  refine lv_lload_n hx hb dX8_multiplies_0 rfl (lv_at hl 1 rfl) ?_
  refine lv_lload hx hb dX8_multiplies_1 (lv_at hl 4 rfl) ?_
  refine q_calll (S := Unit) (Z := Z) (D := D) (wc := []) (wr := [(M, .inr (8, [.ref (mr 0), .ref (mr 1), .int (nI (mi 2)), .ref (mr 3), .ref (mr 4), .int ima, .ref (mr 6), .int (nI (mi 7)), .ref (mr 8), .ref (mr 9), .ref (mr 10), .long (lN (mi 11)), .long (lN (mi 12)), .ref (mr 13), .ref (mr 14), .ref (mr 15), .ref (mr 16), .ref (mr 17), .ref (mr 18), .int (nI (mi 19)), .ref (mr 20), .ref (mr 21), .ref (mr 22), .ref (mr 23), .long (lN (mi 24)), .long (lN (mi 25)), .int (nI (mi 26)), .int (nI (mi 27)), .ref (mr 28), .int (nI (mi 29)), .int (nI (mi 30)), .int (nI (mi 31)), .int (nI (mi 32))]))]) (rest := []) hw hA [] [0] rfl rfl rfl rfl (by decide) (fun hPc hDc => va_runS (As := [.long (lN (rA x L)), .long (lN w)]) (rest := []) ⟨hx, hb, hml, hown, hts⟩ (c_X8_divisor l D Z H.size (rA x L) w (by first | assumption | omega) (by first | assumption | omega)) (va_cwS 2 hts gX8_multiplies_X8_divisor rfl rfl rfl (by decide +kernel) ⟨Nat.le_of_ble_eq_true rfl, Nat.le_of_ble_eq_true rfl⟩) ⟨fb_cPre, pre_of hPc hK hDc⟩ rfl rfl hl.1 rfl (lv_room (Nat.le_of_ble_eq_true rfl)) dX8_multiplies_3 ⟨Nat.le_of_ble_eq_true rfl, Nat.le_of_ble_eq_true rfl⟩) (fun r1 uu H locs hr1 hw => ?_)
  subst hr1
  have hw : WS D A s [(M, .inr (8, [.ref (mr 0), .ref (mr 1), .int (nI (mi 2)), .ref (mr 3), .ref (mr 4), .int ima, .ref (mr 6), .int (nI (mi 7)), .ref (mr 8), .ref (mr 9), .ref (mr 10), .long (lN (mi 11)), .long (lN (mi 12)), .ref (mr 13), .ref (mr 14), .ref (mr 15), .ref (mr 16), .ref (mr 17), .ref (mr 18), .int (nI (mi 19)), .ref (mr 20), .ref (mr 21), .ref (mr 22), .ref (mr 23), .long (lN (mi 24)), .long (lN (mi 25)), .int (nI (mi 26)), .int (nI (mi 27)), .ref (mr 28), .int (nI (mi 29)), .int (nI (mi 30)), .int (nI (mi 31)), .int (nI (mi 32))]))] H locs := hw
  refine lv_lstore (lv' := [(9, .long (lN (Nat.gcd (rA x L) w))), (0, .ref M), (1, .long (lN (rA x L))), (3, .long (lN (rB x L))), (5, .long (lN u1)), (7, .long (lN w))]) hx hb dX8_multiplies_6 hl (by decide) rfl (fun ls hl => ?_)
  refine lv_lload hx hb dX8_multiplies_8 (lv_at hl 4 rfl) ?_
  refine lv_lload_n hx hb dX8_multiplies_10 rfl (lv_at hl 3 rfl) ?_
  refine q_calll (S := Unit) (Z := Z) (D := D) (wc := []) (wr := [(M, .inr (8, [.ref (mr 0), .ref (mr 1), .int (nI (mi 2)), .ref (mr 3), .ref (mr 4), .int ima, .ref (mr 6), .int (nI (mi 7)), .ref (mr 8), .ref (mr 9), .ref (mr 10), .long (lN (mi 11)), .long (lN (mi 12)), .ref (mr 13), .ref (mr 14), .ref (mr 15), .ref (mr 16), .ref (mr 17), .ref (mr 18), .int (nI (mi 19)), .ref (mr 20), .ref (mr 21), .ref (mr 22), .ref (mr 23), .long (lN (mi 24)), .long (lN (mi 25)), .int (nI (mi 26)), .int (nI (mi 27)), .ref (mr 28), .int (nI (mi 29)), .int (nI (mi 30)), .int (nI (mi 31)), .int (nI (mi 32))]))]) (rest := []) hw hA [] [0] rfl rfl rfl rfl (by decide) (fun hPc hDc => va_runS (As := [.long (lN u1), .long (lN (rB x L))]) (rest := []) ⟨hx, hb, hml, hown, hts⟩ (c_X8_divisor l D Z H.size u1 (rB x L) (by first | assumption | omega) (by first | assumption | omega)) (va_cwS 2 hts gX8_multiplies_X8_divisor rfl rfl rfl (by decide +kernel) ⟨Nat.le_of_ble_eq_true rfl, Nat.le_of_ble_eq_true rfl⟩) ⟨fb_cPre, pre_of hPc hK hDc⟩ rfl rfl hl.1 rfl (lv_room (Nat.le_of_ble_eq_true rfl)) dX8_multiplies_11 ⟨Nat.le_of_ble_eq_true rfl, Nat.le_of_ble_eq_true rfl⟩) (fun r2 uu H locs hr2 hw => ?_)
  subst hr2
  have hw : WS D A s [(M, .inr (8, [.ref (mr 0), .ref (mr 1), .int (nI (mi 2)), .ref (mr 3), .ref (mr 4), .int ima, .ref (mr 6), .int (nI (mi 7)), .ref (mr 8), .ref (mr 9), .ref (mr 10), .long (lN (mi 11)), .long (lN (mi 12)), .ref (mr 13), .ref (mr 14), .ref (mr 15), .ref (mr 16), .ref (mr 17), .ref (mr 18), .int (nI (mi 19)), .ref (mr 20), .ref (mr 21), .ref (mr 22), .ref (mr 23), .long (lN (mi 24)), .long (lN (mi 25)), .int (nI (mi 26)), .int (nI (mi 27)), .ref (mr 28), .int (nI (mi 29)), .int (nI (mi 30)), .int (nI (mi 31)), .int (nI (mi 32))]))] H locs := hw
  refine lv_lstore (lv' := [(11, .long (lN (Nat.gcd u1 (rB x L)))), (9, .long (lN (Nat.gcd (rA x L) w))), (0, .ref M), (1, .long (lN (rA x L))), (3, .long (lN (rB x L))), (5, .long (lN u1)), (7, .long (lN w))]) hx hb dX8_multiplies_14 hl (by decide) rfl (fun ls hl => ?_)
  refine lv_aload_n hx hb dX8_multiplies_16 rfl (lv_at hl 2 rfl) ?_
  refine lv_lload_n hx hb dX8_multiplies_17 rfl (lv_at hl 3 rfl) ?_
  refine lv_lload hx hb dX8_multiplies_18 (lv_at hl 1 rfl) ?_
  refine q_ldiv hx hb (by omega) (by omega) (by omega) dX8_multiplies_20 ?_
  refine lv_lload hx hb dX8_multiplies_21 (lv_at hl 5 rfl) ?_
  refine lv_lload hx hb dX8_multiplies_23 (lv_at hl 0 rfl) ?_
  refine q_ldiv hx hb (by omega) (by omega) (by omega) dX8_multiplies_25 ?_
  refine q_lmul hx hb dX8_multiplies_26 ?_
  refine lv_lload_n hx hb dX8_multiplies_27 rfl (lv_at hl 4 rfl) ?_
  refine lv_lload hx hb dX8_multiplies_28 (lv_at hl 0 rfl) ?_
  refine q_ldiv hx hb (by omega) (by omega) (by omega) dX8_multiplies_30 ?_
  refine lv_lload hx hb dX8_multiplies_31 (lv_at hl 6 rfl) ?_
  refine lv_lload hx hb dX8_multiplies_33 (lv_at hl 1 rfl) ?_
  refine q_ldiv hx hb (by omega) (by omega) (by omega) dX8_multiplies_35 ?_
  refine q_lmul hx hb dX8_multiplies_36 ?_
  refine q_callv (S := Unit) (Z := Z) (D := D) (wc := [(M, .inr (8, [.ref (mr 0), .ref (mr 1), .int (nI (mi 2)), .ref (mr 3), .ref (mr 4), .int ima, .ref (mr 6), .int (nI (mi 7)), .ref (mr 8), .ref (mr 9), .ref (mr 10), .long (lN (mi 11)), .long (lN (mi 12)), .ref (mr 13), .ref (mr 14), .ref (mr 15), .ref (mr 16), .ref (mr 17), .ref (mr 18), .int (nI (mi 19)), .ref (mr 20), .ref (mr 21), .ref (mr 22), .ref (mr 23), .long (lN (mi 24)), .long (lN (mi 25)), .int (nI (mi 26)), .int (nI (mi 27)), .ref (mr 28), .int (nI (mi 29)), .int (nI (mi 30)), .int (nI (mi 31)), .int (nI (mi 32))]))]) (wr := []) (rest := []) hw hA [0] [] rfl rfl rfl rfl (by decide) (fun hPc hDc => va_runV (As := [.long (lN (((rA x L) / (Nat.gcd (rA x L) w)) * (u1 / (Nat.gcd u1 (rB x L))))), .long (lN (((rB x L) / (Nat.gcd u1 (rB x L))) * (w / (Nat.gcd (rA x L) w))))]) (rest := []) ⟨hx, hb, hml, hown, hts⟩ (c_X8_becomes l D Z H.size M mr mi ima (((rA x L) / (Nat.gcd (rA x L) w)) * (u1 / (Nat.gcd u1 (rB x L)))) (((rB x L) / (Nat.gcd u1 (rB x L))) * (w / (Nat.gcd (rA x L) w))) (Nat.lt_of_le_of_lt m1 hX) (Nat.lt_of_le_of_lt m2 hL) m3) (cwV 2 hts gX8_multiplies_X8_becomes rfl rfl rfl (by decide +kernel) ⟨Nat.le_of_ble_eq_true rfl, Nat.le_of_ble_eq_true rfl⟩) ⟨fb_cPre, va_recv hK.1 hPc (ci := 8) (q0 := 0) rfl rfl, pre_of hPc hK hDc⟩ rfl rfl hl.1 rfl (lv_room (Nat.le_of_ble_eq_true rfl)) dX8_multiplies_37 ⟨Nat.le_of_ble_eq_true rfl, Nat.le_of_ble_eq_true rfl⟩) (fun uu H locs hr3 hw => ?_)
  have hw : WS D A s [(M, .inr (8, [.ref (mr 0), .ref (mr 1), .int (nI (mi 2)), .ref (mr 3), .ref (mr 4), .int ima, .ref (mr 6), .int (nI (mi 7)), .ref (mr 8), .ref (mr 9), .ref (mr 10), .long (lN (rA (((rA x L) / (Nat.gcd (rA x L) w)) * (u1 / (Nat.gcd u1 (rB x L)))) (((rB x L) / (Nat.gcd u1 (rB x L))) * (w / (Nat.gcd (rA x L) w))))), .long (lN (rB (((rA x L) / (Nat.gcd (rA x L) w)) * (u1 / (Nat.gcd u1 (rB x L)))) (((rB x L) / (Nat.gcd u1 (rB x L))) * (w / (Nat.gcd (rA x L) w))))), .ref (mr 13), .ref (mr 14), .ref (mr 15), .ref (mr 16), .ref (mr 17), .ref (mr 18), .int (nI (mi 19)), .ref (mr 20), .ref (mr 21), .ref (mr 22), .ref (mr 23), .long (lN (mi 24)), .long (lN (mi 25)), .int (nI (mi 26)), .int (nI (mi 27)), .ref (mr 28), .int (nI (mi 29)), .int (nI (mi 30)), .int (nI (mi 31)), .int (nI (mi 32))]))] H locs := hw
  exact q_vret (wout := _) hx hb hr hlocks hAe hK () (by rw [← m4.1, ← m4.2]; exact hw.sub [0] (by decide) rfl) (trivial) dX8_multiplies_40
