set_option maxHeartbeats 4000000 in
set_option maxRecDepth 100000 in
theorem c_X8_isFigure (l : Launch) (D : va_G) (Z : Nat → ClassId) (zs0 : Nat) (M : Nat) (mr mi : Nat → Nat) (ima : Int32) (L : Nat → Nat) (a : Nat) (hL : ∀ k, L k < 128) (hsz : mi 7 ≤ 60) (ha : a ≤ 100) : cMi l yX8_isFigure wsX8_isFigure (rmd 1) D Z zs0 [.ref M, .int (nI a)] [(M, .inr (8, [.ref (mr 0), .ref (mr 1), .int (nI (mi 2)), .ref (mr 3), .ref (mr 4), .int ima, .ref (mr 6), .int (nI (mi 7)), .ref (mr 8), .ref (mr 9), .ref (mr 10), .long (lN (mi 11)), .long (lN (mi 12)), .ref (mr 13), .ref (mr 14), .ref (mr 15), .ref (mr 16), .ref (mr 17), .ref (mr 18), .int (nI (mi 19)), .ref (mr 20), .ref (mr 21), .ref (mr 22), .ref (mr 23), .long (lN (mi 24)), .long (lN (mi 25)), .int (nI (mi 26)), .int (nI (mi 27)), .ref (mr 28), .int (nI (mi 29)), .int (nI (mi 30)), .int (nI (mi 31)), .int (nI (mi 32))])), (mr 6, .inl (Z 0, 60, .inl (aI L)))] (S := Unit) (fun (r : Int32) => fun (_ : Unit) => r = nI (bb (fgr (ltr L (mi 7) a)))) (fun (_ : Unit) => [(M, .inr (8, [.ref (mr 0), .ref (mr 1), .int (nI (mi 2)), .ref (mr 3), .ref (mr 4), .int ima, .ref (mr 6), .int (nI (mi 7)), .ref (mr 8), .ref (mr 9), .ref (mr 10), .long (lN (mi 11)), .long (lN (mi 12)), .ref (mr 13), .ref (mr 14), .ref (mr 15), .ref (mr 16), .ref (mr 17), .ref (mr 18), .int (nI (mi 19)), .ref (mr 20), .ref (mr 21), .ref (mr 22), .ref (mr 23), .long (lN (mi 24)), .long (lN (mi 25)), .int (nI (mi 26)), .int (nI (mi 27)), .ref (mr 28), .int (nI (mi 29)), .int (nI (mi 30)), .int (nI (mi 31)), .int (nI (mi 32))])), (mr 6, .inl (Z 0, 60, .inl (aI L)))]) 0 0 := by
  refine q_open (y := yX8_isFigure) (ws := wsX8_isFigure) (av := [.ref M, .int (nI a)]) (win := [(M, .inr (8, [.ref (mr 0), .ref (mr 1), .int (nI (mi 2)), .ref (mr 3), .ref (mr 4), .int ima, .ref (mr 6), .int (nI (mi 7)), .ref (mr 8), .ref (mr 9), .ref (mr 10), .long (lN (mi 11)), .long (lN (mi 12)), .ref (mr 13), .ref (mr 14), .ref (mr 15), .ref (mr 16), .ref (mr 17), .ref (mr 18), .int (nI (mi 19)), .ref (mr 20), .ref (mr 21), .ref (mr 22), .ref (mr 23), .long (lN (mi 24)), .long (lN (mi 25)), .int (nI (mi 26)), .int (nI (mi 27)), .ref (mr 28), .int (nI (mi 29)), .int (nI (mi 30)), .int (nI (mi 31)), .int (nI (mi 32))])), (mr 6, .inl (Z 0, 60, .inl (aI L)))]) (Qc := fun zs0 => cQi D Z zs0 [(M, .inr (8, [.ref (mr 0), .ref (mr 1), .int (nI (mi 2)), .ref (mr 3), .ref (mr 4), .int ima, .ref (mr 6), .int (nI (mi 7)), .ref (mr 8), .ref (mr 9), .ref (mr 10), .long (lN (mi 11)), .long (lN (mi 12)), .ref (mr 13), .ref (mr 14), .ref (mr 15), .ref (mr 16), .ref (mr 17), .ref (mr 18), .int (nI (mi 19)), .ref (mr 20), .ref (mr 21), .ref (mr 22), .ref (mr 23), .long (lN (mi 24)), .long (lN (mi 25)), .int (nI (mi 26)), .int (nI (mi 27)), .ref (mr 28), .int (nI (mi 29)), .int (nI (mi 30)), .int (nI (mi 31)), .int (nI (mi 32))])), (mr 6, .inl (Z 0, 60, .inl (aI L)))] (S := Unit) (fun (r : Int32) => fun (_ : Unit) => r = nI (bb (fgr (ltr L (mi 7) a)))) (fun (_ : Unit) => [(M, .inr (8, [.ref (mr 0), .ref (mr 1), .int (nI (mi 2)), .ref (mr 3), .ref (mr 4), .int ima, .ref (mr 6), .int (nI (mi 7)), .ref (mr 8), .ref (mr 9), .ref (mr 10), .long (lN (mi 11)), .long (lN (mi 12)), .ref (mr 13), .ref (mr 14), .ref (mr 15), .ref (mr 16), .ref (mr 17), .ref (mr 18), .int (nI (mi 19)), .ref (mr 20), .ref (mr 21), .ref (mr 22), .ref (mr 23), .long (lN (mi 24)), .long (lN (mi 25)), .int (nI (mi 26)), .int (nI (mi 27)), .ref (mr 28), .int (nI (mi 29)), .int (nI (mi 30)), .int (nI (mi 31)), .int (nI (mi 32))])), (mr 6, .inl (Z 0, 60, .inl (aI L)))])) (cc := cX8_isFigure) (maxL := 2) (ret := (some .boolean)) (by decide) rfl (Nat.le_of_ble_eq_true rfl) ?_
  intro pp ee s mm bw mt cd ls A H locs hAe hx hb hr hml hown hmn hts hlocks hA hK hw hl
  have hown : s.vm.findClass RX8 = some mm.cls := hown
  have hl : lv_has ls 2 [(0, .ref M), (1, .int (nI a))] := hl
  have wd1 := hts (.fieldLink RX8 218 "ReplaceAgesModel" "tapeMany" "I") (List.mem_of_getElem? (i := 1) rfl)
  have wd2 := hts (.fieldLink RX8 26 "ReplaceAgesModel" "tape" "[I") (List.mem_of_getElem? (i := 2) rfl)
  have wd3 := hts (.constantLong RX8 240 (48)) (List.mem_of_getElem? (i := 3) rfl)
  have wd4 := hts (.constantLong RX8 242 (57)) (List.mem_of_getElem? (i := 4) rfl)
  have in_X8 : ∀ w ∈ wsX80, w ∈ wsX8_isFigure := fun _ h => List.mem_cons_of_mem _ (List.mem_append_right _ h)
  have hLa := hL a
  refine lv_iload_n hx hb dX8_isFigure_0 rfl (lv_at hl 1 rfl) ?_
  refine lv_aload_n hx hb dX8_isFigure_1 rfl (lv_at hl 0 rfl) ?_
  refine q_get (v := .int (nI (mi 7))) (ci := 8) hx hb hts in_X8 hown hK hw 0 7 wd1 dX8_isFigure_2 rfl rfl (by decide) rfl ?_
  refine q_icmp_ge (tgt := 31) hx hb ((a : Nat) : Int) ((mi 7 : Nat) : Int) (nI_toInt (by omega)) (nI_toInt (by omega)) dX8_isFigure_5 (by decide) (fun c1 => ?_) (fun c1 => ?_)
  · --
    refine q_iconst (v := 0) hx hb dX8_isFigure_31 (by decide) ?_
    exact q_zret (wout := _) hx hb hr hlocks hAe hK () hw rfl (by unfold ltr; first | (rw [if_neg (by omega)]; exact (congrArg nI (bb_f (by unfold fgr; omega))).symm) | (rw [if_pos (by omega)]; first | exact (congrArg nI (bb_t (by unfold fgr; omega))).symm | exact (congrArg nI (bb_f (by unfold fgr; omega))).symm)) dX8_isFigure_32
  · --
    refine lv_aload_n hx hb dX8_isFigure_8 rfl (lv_at hl 0 rfl) ?_
    refine q_get (v := .ref (mr 6)) (ci := 8) hx hb hts in_X8 hown hK hw 0 6 wd2 dX8_isFigure_9 rfl rfl (by decide) rfl ?_
    refine lv_iload_n hx hb dX8_isFigure_12 rfl (lv_at hl 1 rfl) ?_
    refine q_iald hx hb hK hw 1 (by omega) (by omega) dX8_isFigure_13 rfl ?_
    refine q_i2l hx hb (by omega) dX8_isFigure_14 ?_
    refine lv_ldc2 hx hb hown wd3 dX8_isFigure_15 ?_
    refine q_topl (x := 48) (y := lN 48) (by decide) ?_
    refine lv_ldc2 hx hb hown wd4 dX8_isFigure_18 ?_
    refine q_topl (x := 57) (y := lN 57) (by decide) ?_
    refine q_calli (S := Unit) (Z := Z) (D := D) (wc := []) (wr := [(M, .inr (8, [.ref (mr 0), .ref (mr 1), .int (nI (mi 2)), .ref (mr 3), .ref (mr 4), .int ima, .ref (mr 6), .int (nI (mi 7)), .ref (mr 8), .ref (mr 9), .ref (mr 10), .long (lN (mi 11)), .long (lN (mi 12)), .ref (mr 13), .ref (mr 14), .ref (mr 15), .ref (mr 16), .ref (mr 17), .ref (mr 18), .int (nI (mi 19)), .ref (mr 20), .ref (mr 21), .ref (mr 22), .ref (mr 23), .long (lN (mi 24)), .long (lN (mi 25)), .int (nI (mi 26)), .int (nI (mi 27)), .ref (mr 28), .int (nI (mi 29)), .int (nI (mi 30)), .int (nI (mi 31)), .int (nI (mi 32))])), (mr 6, .inl (Z 0, 60, .inl (aI L)))]) (rest := []) hw hA [] [0, 1] rfl rfl rfl rfl (by decide) (fun hPc hDc => va_runS (As := [.long (lN (L a)), .long (lN 48), .long (lN 57)]) (rest := []) ⟨hx, hb, hml, hown, hts⟩ (c_X8_in l D Z H.size (lN (L a)) (lN 48) (lN 57) ((L a : Nat) : Int) ((48 : Nat) : Int) ((57 : Nat) : Int) (pk_lT (by first | omega | assumption)) (pk_lT (by first | omega | assumption)) (pk_lT (by first | omega | assumption))) (va_cwS 3 hts gX8_isFigure_X8_in rfl rfl rfl (by decide +kernel) ⟨Nat.le_of_ble_eq_true rfl, Nat.le_of_ble_eq_true rfl⟩) ⟨fb_cPre, pre_of hPc hK hDc⟩ rfl rfl hl.1 rfl (lv_room (Nat.le_of_ble_eq_true rfl)) dX8_isFigure_21 ⟨Nat.le_of_ble_eq_true rfl, Nat.le_of_ble_eq_true rfl⟩) (fun r2 uu H locs hr2 hw => ?_)
    subst hr2
    have hw : WS D A s [(M, .inr (8, [.ref (mr 0), .ref (mr 1), .int (nI (mi 2)), .ref (mr 3), .ref (mr 4), .int ima, .ref (mr 6), .int (nI (mi 7)), .ref (mr 8), .ref (mr 9), .ref (mr 10), .long (lN (mi 11)), .long (lN (mi 12)), .ref (mr 13), .ref (mr 14), .ref (mr 15), .ref (mr 16), .ref (mr 17), .ref (mr 18), .int (nI (mi 19)), .ref (mr 20), .ref (mr 21), .ref (mr 22), .ref (mr 23), .long (lN (mi 24)), .long (lN (mi 25)), .int (nI (mi 26)), .int (nI (mi 27)), .ref (mr 28), .int (nI (mi 29)), .int (nI (mi 30)), .int (nI (mi 31)), .int (nI (mi 32))])), (mr 6, .inl (Z 0, 60, .inl (aI L)))] H locs := hw
    refine q_if_eq (tgt := 31) hx hb ((bb (((48 : Nat) : Int) ≤ ((L a : Nat) : Int) ∧ ((L a : Nat) : Int) ≤ ((57 : Nat) : Int)) : Nat) : Int) (nI_toInt (Nat.lt_of_le_of_lt (bb_le _) (by decide))) dX8_isFigure_24 (by decide) (fun c3 => ?_) (fun c3 => ?_)
    · --
      have c3 := bb_0 c3
      refine q_iconst (v := 0) hx hb dX8_isFigure_31 (by decide) ?_
      exact q_zret (wout := _) hx hb hr hlocks hAe hK () hw rfl (by unfold ltr; first | (rw [if_neg (by omega)]; exact (congrArg nI (bb_f (by unfold fgr; omega))).symm) | (rw [if_pos (by omega)]; first | exact (congrArg nI (bb_t (by unfold fgr; omega))).symm | exact (congrArg nI (bb_f (by unfold fgr; omega))).symm)) dX8_isFigure_32
    · --
      have c3 := bb_1 c3
      refine q_iconst (v := 1) hx hb dX8_isFigure_27 (by decide) ?_
      refine lv_goto (tgt := 32) hx hb dX8_isFigure_28 (by decide) ?_
      exact q_zret (wout := _) hx hb hr hlocks hAe hK () hw rfl (by unfold ltr; first | (rw [if_neg (by omega)]; exact (congrArg nI (bb_f (by unfold fgr; omega))).symm) | (rw [if_pos (by omega)]; first | exact (congrArg nI (bb_t (by unfold fgr; omega))).symm | exact (congrArg nI (bb_f (by unfold fgr; omega))).symm)) dX8_isFigure_32
set_option maxHeartbeats 4000000 in
set_option maxRecDepth 100000 in
theorem c_X8_takes (l : Launch) (D : va_G) (Z : Nat → ClassId) (zs0 : Nat) (M : Nat) (mr mi : Nat → Nat) (ima : Int32) (m1 : Nat) (hm1 : m1 ≤ 1) (hf : mi 27 ≤ 1) (ha : mi 26 ≤ 100) : cMv l yX8_takes wsX8_takes (rmd 0) D Z zs0 [.ref M, .int (nI m1)] [(M, .inr (8, [.ref (mr 0), .ref (mr 1), .int (nI (mi 2)), .ref (mr 3), .ref (mr 4), .int ima, .ref (mr 6), .int (nI (mi 7)), .ref (mr 8), .ref (mr 9), .ref (mr 10), .long (lN (mi 11)), .long (lN (mi 12)), .ref (mr 13), .ref (mr 14), .ref (mr 15), .ref (mr 16), .ref (mr 17), .ref (mr 18), .int (nI (mi 19)), .ref (mr 20), .ref (mr 21), .ref (mr 22), .ref (mr 23), .long (lN (mi 24)), .long (lN (mi 25)), .int (nI (mi 26)), .int (nI (mi 27)), .ref (mr 28), .int (nI (mi 29)), .int (nI (mi 30)), .int (nI (mi 31)), .int (nI (mi 32))]))] (S := Unit) (fun (_ : Unit) => True) (fun (_ : Unit) => [(M, .inr (8, [.ref (mr 0), .ref (mr 1), .int (nI (mi 2)), .ref (mr 3), .ref (mr 4), .int ima, .ref (mr 6), .int (nI (mi 7)), .ref (mr 8), .ref (mr 9), .ref (mr 10), .long (lN (mi 11)), .long (lN (mi 12)), .ref (mr 13), .ref (mr 14), .ref (mr 15), .ref (mr 16), .ref (mr 17), .ref (mr 18), .int (nI (mi 19)), .ref (mr 20), .ref (mr 21), .ref (mr 22), .ref (mr 23), .long (lN (mi 24)), .long (lN (mi 25)), .int (nI (mi 26 + bb (mi 27 = 0 ∧ m1 ≠ 0))), .int (nI (bb (mi 27 ≠ 0 ∨ m1 = 0))), .ref (mr 28), .int (nI (mi 29)), .int (nI (mi 30)), .int (nI (mi 31)), .int (nI (mi 32))]))]) 0 0 := by
  refine q_open (y := yX8_takes) (ws := wsX8_takes) (av := [.ref M, .int (nI m1)]) (win := [(M, .inr (8, [.ref (mr 0), .ref (mr 1), .int (nI (mi 2)), .ref (mr 3), .ref (mr 4), .int ima, .ref (mr 6), .int (nI (mi 7)), .ref (mr 8), .ref (mr 9), .ref (mr 10), .long (lN (mi 11)), .long (lN (mi 12)), .ref (mr 13), .ref (mr 14), .ref (mr 15), .ref (mr 16), .ref (mr 17), .ref (mr 18), .int (nI (mi 19)), .ref (mr 20), .ref (mr 21), .ref (mr 22), .ref (mr 23), .long (lN (mi 24)), .long (lN (mi 25)), .int (nI (mi 26)), .int (nI (mi 27)), .ref (mr 28), .int (nI (mi 29)), .int (nI (mi 30)), .int (nI (mi 31)), .int (nI (mi 32))]))]) (Qc := fun zs0 => cQv D Z zs0 [(M, .inr (8, [.ref (mr 0), .ref (mr 1), .int (nI (mi 2)), .ref (mr 3), .ref (mr 4), .int ima, .ref (mr 6), .int (nI (mi 7)), .ref (mr 8), .ref (mr 9), .ref (mr 10), .long (lN (mi 11)), .long (lN (mi 12)), .ref (mr 13), .ref (mr 14), .ref (mr 15), .ref (mr 16), .ref (mr 17), .ref (mr 18), .int (nI (mi 19)), .ref (mr 20), .ref (mr 21), .ref (mr 22), .ref (mr 23), .long (lN (mi 24)), .long (lN (mi 25)), .int (nI (mi 26)), .int (nI (mi 27)), .ref (mr 28), .int (nI (mi 29)), .int (nI (mi 30)), .int (nI (mi 31)), .int (nI (mi 32))]))] (S := Unit) (fun (_ : Unit) => True) (fun (_ : Unit) => [(M, .inr (8, [.ref (mr 0), .ref (mr 1), .int (nI (mi 2)), .ref (mr 3), .ref (mr 4), .int ima, .ref (mr 6), .int (nI (mi 7)), .ref (mr 8), .ref (mr 9), .ref (mr 10), .long (lN (mi 11)), .long (lN (mi 12)), .ref (mr 13), .ref (mr 14), .ref (mr 15), .ref (mr 16), .ref (mr 17), .ref (mr 18), .int (nI (mi 19)), .ref (mr 20), .ref (mr 21), .ref (mr 22), .ref (mr 23), .long (lN (mi 24)), .long (lN (mi 25)), .int (nI (mi 26 + bb (mi 27 = 0 ∧ m1 ≠ 0))), .int (nI (bb (mi 27 ≠ 0 ∨ m1 = 0))), .ref (mr 28), .int (nI (mi 29)), .int (nI (mi 30)), .int (nI (mi 31)), .int (nI (mi 32))]))])) (cc := cX8_takes) (maxL := 2) (ret := none) (by decide) rfl (Nat.le_of_ble_eq_true rfl) ?_
  intro pp ee s mm bw mt cd ls A H locs hAe hx hb hr hml hown hmn hts hlocks hA hK hw hl
  have hown : s.vm.findClass RX8 = some mm.cls := hown
  have hl : lv_has ls 2 [(0, .ref M), (1, .int (nI m1))] := hl
  have wd1 := hts (.fieldLink RX8 224 "ReplaceAgesModel" "isFault" "Z") (List.mem_of_getElem? (i := 1) rfl)
  have wd2 := hts (.fieldLink RX8 221 "ReplaceAgesModel" "readAt" "I") (List.mem_of_getElem? (i := 2) rfl)
  have in_X8 : ∀ w ∈ wsX80, w ∈ wsX8_takes := fun _ h => List.mem_cons_of_mem _ (List.mem_append_right _ h)
  refine lv_aload_n hx hb dX8_takes_0 rfl (lv_at hl 0 rfl) ?_
  refine lv_aload_n hx hb dX8_takes_1 rfl (lv_at hl 0 rfl) ?_
  refine q_get (v := .int (nI (mi 27))) (ci := 8) hx hb hts in_X8 hown hK hw 0 27 wd1 dX8_takes_2 rfl rfl (by decide) rfl ?_
  refine q_if_ne (tgt := 12) hx hb ((mi 27 : Nat) : Int) (nI_toInt (by omega)) dX8_takes_5 (by decide) (fun c1 => ?_) (fun c1 => ?_)
  · --
    refine q_iconst (v := 1) hx hb dX8_takes_12 (by decide) ?_
    refine lv_goto (tgt := 17) hx hb dX8_takes_13 (by decide) ?_
    refine q_put (v := .int (nI 1)) (ci := 8) hx hb hts in_X8 tyX8 tyX8_ok nmX8 hown hK hw 0 27 wd1 dX8_takes_17 rfl rfl (by decide) rfl rfl rfl (Nat.le_of_ble_eq_true rfl) (fun H locs hw => ?_)
    have hw : WS D A s [(M, .inr (8, [.ref (mr 0), .ref (mr 1), .int (nI (mi 2)), .ref (mr 3), .ref (mr 4), .int ima, .ref (mr 6), .int (nI (mi 7)), .ref (mr 8), .ref (mr 9), .ref (mr 10), .long (lN (mi 11)), .long (lN (mi 12)), .ref (mr 13), .ref (mr 14), .ref (mr 15), .ref (mr 16), .ref (mr 17), .ref (mr 18), .int (nI (mi 19)), .ref (mr 20), .ref (mr 21), .ref (mr 22), .ref (mr 23), .long (lN (mi 24)), .long (lN (mi 25)), .int (nI (mi 26)), .int (nI 1), .ref (mr 28), .int (nI (mi 29)), .int (nI (mi 30)), .int (nI (mi 31)), .int (nI (mi 32))]))] H locs := hw
    refine lv_aload_n hx hb dX8_takes_20 rfl (lv_at hl 0 rfl) ?_
    refine lv_dup hx hb dX8_takes_21 rfl ?_
    refine q_get (v := .int (nI (mi 26))) (ci := 8) hx hb hts in_X8 hown hK hw 0 26 wd2 dX8_takes_22 rfl rfl (by decide) rfl ?_
    refine lv_aload_n hx hb dX8_takes_25 rfl (lv_at hl 0 rfl) ?_
    refine q_get (v := .int (nI 1)) (ci := 8) hx hb hts in_X8 hown hK hw 0 27 wd1 dX8_takes_26 rfl rfl (by decide) rfl ?_
    refine q_if_eq (tgt := 36) hx hb ((1 : Nat) : Int) (nI_toInt (by omega)) dX8_takes_29 (by decide) (fun c2 => ?_) (fun c2 => ?_)
    · --
      exfalso; omega
    · --
      refine q_iconst (v := 0) hx hb dX8_takes_32 (by decide) ?_
      refine lv_goto (tgt := 37) hx hb dX8_takes_33 (by decide) ?_
      refine q_iadd hx hb dX8_takes_37 ?_
      refine q_put (v := .int (nI (mi 26 + 0))) (ci := 8) hx hb hts in_X8 tyX8 tyX8_ok nmX8 hown hK hw 0 26 wd2 dX8_takes_38 rfl rfl (by decide) rfl rfl rfl (Nat.le_of_ble_eq_true rfl) (fun H locs hw => ?_)
      have hw : WS D A s [(M, .inr (8, [.ref (mr 0), .ref (mr 1), .int (nI (mi 2)), .ref (mr 3), .ref (mr 4), .int ima, .ref (mr 6), .int (nI (mi 7)), .ref (mr 8), .ref (mr 9), .ref (mr 10), .long (lN (mi 11)), .long (lN (mi 12)), .ref (mr 13), .ref (mr 14), .ref (mr 15), .ref (mr 16), .ref (mr 17), .ref (mr 18), .int (nI (mi 19)), .ref (mr 20), .ref (mr 21), .ref (mr 22), .ref (mr 23), .long (lN (mi 24)), .long (lN (mi 25)), .int (nI (mi 26 + 0)), .int (nI 1), .ref (mr 28), .int (nI (mi 29)), .int (nI (mi 30)), .int (nI (mi 31)), .int (nI (mi 32))]))] H locs := hw
      exact q_vret (wout := _) hx hb hr hlocks hAe hK () (by first | (exfalso; omega) | (rw [bb_t (P := mi 27 ≠ 0 ∨ m1 = 0) (by omega), bb_f (P := mi 27 = 0 ∧ m1 ≠ 0) (by omega)]; exact hw.sub [0] (by decide) rfl) | (rw [bb_f (P := mi 27 ≠ 0 ∨ m1 = 0) (by omega), bb_t (P := mi 27 = 0 ∧ m1 ≠ 0) (by omega)]; exact hw.sub [0] (by decide) rfl)) (trivial) dX8_takes_41
  · --
    refine lv_iload_n hx hb dX8_takes_8 rfl (lv_at hl 1 rfl) ?_
    refine q_if_ne (tgt := 16) hx hb ((m1 : Nat) : Int) (nI_toInt (by omega)) dX8_takes_9 (by decide) (fun c3 => ?_) (fun c3 => ?_)
    · --
      refine q_iconst (v := 0) hx hb dX8_takes_16 (by decide) ?_
      refine q_put (v := .int (nI 0)) (ci := 8) hx hb hts in_X8 tyX8 tyX8_ok nmX8 hown hK hw 0 27 wd1 dX8_takes_17 rfl rfl (by decide) rfl rfl rfl (Nat.le_of_ble_eq_true rfl) (fun H locs hw => ?_)
      have hw : WS D A s [(M, .inr (8, [.ref (mr 0), .ref (mr 1), .int (nI (mi 2)), .ref (mr 3), .ref (mr 4), .int ima, .ref (mr 6), .int (nI (mi 7)), .ref (mr 8), .ref (mr 9), .ref (mr 10), .long (lN (mi 11)), .long (lN (mi 12)), .ref (mr 13), .ref (mr 14), .ref (mr 15), .ref (mr 16), .ref (mr 17), .ref (mr 18), .int (nI (mi 19)), .ref (mr 20), .ref (mr 21), .ref (mr 22), .ref (mr 23), .long (lN (mi 24)), .long (lN (mi 25)), .int (nI (mi 26)), .int (nI 0), .ref (mr 28), .int (nI (mi 29)), .int (nI (mi 30)), .int (nI (mi 31)), .int (nI (mi 32))]))] H locs := hw
      refine lv_aload_n hx hb dX8_takes_20 rfl (lv_at hl 0 rfl) ?_
      refine lv_dup hx hb dX8_takes_21 rfl ?_
      refine q_get (v := .int (nI (mi 26))) (ci := 8) hx hb hts in_X8 hown hK hw 0 26 wd2 dX8_takes_22 rfl rfl (by decide) rfl ?_
      refine lv_aload_n hx hb dX8_takes_25 rfl (lv_at hl 0 rfl) ?_
      refine q_get (v := .int (nI 0)) (ci := 8) hx hb hts in_X8 hown hK hw 0 27 wd1 dX8_takes_26 rfl rfl (by decide) rfl ?_
      refine q_if_eq (tgt := 36) hx hb ((0 : Nat) : Int) (nI_toInt (by omega)) dX8_takes_29 (by decide) (fun c4 => ?_) (fun c4 => ?_)
      · --
        refine q_iconst (v := 1) hx hb dX8_takes_36 (by decide) ?_
        refine q_iadd hx hb dX8_takes_37 ?_
        refine q_put (v := .int (nI (mi 26 + 1))) (ci := 8) hx hb hts in_X8 tyX8 tyX8_ok nmX8 hown hK hw 0 26 wd2 dX8_takes_38 rfl rfl (by decide) rfl rfl rfl (Nat.le_of_ble_eq_true rfl) (fun H locs hw => ?_)
        have hw : WS D A s [(M, .inr (8, [.ref (mr 0), .ref (mr 1), .int (nI (mi 2)), .ref (mr 3), .ref (mr 4), .int ima, .ref (mr 6), .int (nI (mi 7)), .ref (mr 8), .ref (mr 9), .ref (mr 10), .long (lN (mi 11)), .long (lN (mi 12)), .ref (mr 13), .ref (mr 14), .ref (mr 15), .ref (mr 16), .ref (mr 17), .ref (mr 18), .int (nI (mi 19)), .ref (mr 20), .ref (mr 21), .ref (mr 22), .ref (mr 23), .long (lN (mi 24)), .long (lN (mi 25)), .int (nI (mi 26 + 1)), .int (nI 0), .ref (mr 28), .int (nI (mi 29)), .int (nI (mi 30)), .int (nI (mi 31)), .int (nI (mi 32))]))] H locs := hw
        exact q_vret (wout := _) hx hb hr hlocks hAe hK () (by first | (exfalso; omega) | (rw [bb_t (P := mi 27 ≠ 0 ∨ m1 = 0) (by omega), bb_f (P := mi 27 = 0 ∧ m1 ≠ 0) (by omega)]; exact hw.sub [0] (by decide) rfl) | (rw [bb_f (P := mi 27 ≠ 0 ∨ m1 = 0) (by omega), bb_t (P := mi 27 = 0 ∧ m1 ≠ 0) (by omega)]; exact hw.sub [0] (by decide) rfl)) (trivial) dX8_takes_41
      · --
        exfalso; omega
    · --
      refine q_iconst (v := 1) hx hb dX8_takes_12 (by decide) ?_
      refine lv_goto (tgt := 17) hx hb dX8_takes_13 (by decide) ?_
      refine q_put (v := .int (nI 1)) (ci := 8) hx hb hts in_X8 tyX8 tyX8_ok nmX8 hown hK hw 0 27 wd1 dX8_takes_17 rfl rfl (by decide) rfl rfl rfl (Nat.le_of_ble_eq_true rfl) (fun H locs hw => ?_)
      have hw : WS D A s [(M, .inr (8, [.ref (mr 0), .ref (mr 1), .int (nI (mi 2)), .ref (mr 3), .ref (mr 4), .int ima, .ref (mr 6), .int (nI (mi 7)), .ref (mr 8), .ref (mr 9), .ref (mr 10), .long (lN (mi 11)), .long (lN (mi 12)), .ref (mr 13), .ref (mr 14), .ref (mr 15), .ref (mr 16), .ref (mr 17), .ref (mr 18), .int (nI (mi 19)), .ref (mr 20), .ref (mr 21), .ref (mr 22), .ref (mr 23), .long (lN (mi 24)), .long (lN (mi 25)), .int (nI (mi 26)), .int (nI 1), .ref (mr 28), .int (nI (mi 29)), .int (nI (mi 30)), .int (nI (mi 31)), .int (nI (mi 32))]))] H locs := hw
      refine lv_aload_n hx hb dX8_takes_20 rfl (lv_at hl 0 rfl) ?_
      refine lv_dup hx hb dX8_takes_21 rfl ?_
      refine q_get (v := .int (nI (mi 26))) (ci := 8) hx hb hts in_X8 hown hK hw 0 26 wd2 dX8_takes_22 rfl rfl (by decide) rfl ?_
      refine lv_aload_n hx hb dX8_takes_25 rfl (lv_at hl 0 rfl) ?_
      refine q_get (v := .int (nI 1)) (ci := 8) hx hb hts in_X8 hown hK hw 0 27 wd1 dX8_takes_26 rfl rfl (by decide) rfl ?_
      refine q_if_eq (tgt := 36) hx hb ((1 : Nat) : Int) (nI_toInt (by omega)) dX8_takes_29 (by decide) (fun c5 => ?_) (fun c5 => ?_)
      · --
        exfalso; omega
      · --
        refine q_iconst (v := 0) hx hb dX8_takes_32 (by decide) ?_
        refine lv_goto (tgt := 37) hx hb dX8_takes_33 (by decide) ?_
        refine q_iadd hx hb dX8_takes_37 ?_
        refine q_put (v := .int (nI (mi 26 + 0))) (ci := 8) hx hb hts in_X8 tyX8 tyX8_ok nmX8 hown hK hw 0 26 wd2 dX8_takes_38 rfl rfl (by decide) rfl rfl rfl (Nat.le_of_ble_eq_true rfl) (fun H locs hw => ?_)
        have hw : WS D A s [(M, .inr (8, [.ref (mr 0), .ref (mr 1), .int (nI (mi 2)), .ref (mr 3), .ref (mr 4), .int ima, .ref (mr 6), .int (nI (mi 7)), .ref (mr 8), .ref (mr 9), .ref (mr 10), .long (lN (mi 11)), .long (lN (mi 12)), .ref (mr 13), .ref (mr 14), .ref (mr 15), .ref (mr 16), .ref (mr 17), .ref (mr 18), .int (nI (mi 19)), .ref (mr 20), .ref (mr 21), .ref (mr 22), .ref (mr 23), .long (lN (mi 24)), .long (lN (mi 25)), .int (nI (mi 26 + 0)), .int (nI 1), .ref (mr 28), .int (nI (mi 29)), .int (nI (mi 30)), .int (nI (mi 31)), .int (nI (mi 32))]))] H locs := hw
        exact q_vret (wout := _) hx hb hr hlocks hAe hK () (by first | (exfalso; omega) | (rw [bb_t (P := mi 27 ≠ 0 ∨ m1 = 0) (by omega), bb_f (P := mi 27 = 0 ∧ m1 ≠ 0) (by omega)]; exact hw.sub [0] (by decide) rfl) | (rw [bb_f (P := mi 27 ≠ 0 ∨ m1 = 0) (by omega), bb_t (P := mi 27 = 0 ∧ m1 ≠ 0) (by omega)]; exact hw.sub [0] (by decide) rfl)) (trivial) dX8_takes_41
