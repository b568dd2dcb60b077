theorem lnR_0 (th la : Nat → Nat) (j : Nat) : va_up (lnR th la) j (-4) = lnR (va_up th j 0) la := by
  funext k
  by_cases h : k = j
  · subst h; rw [va_up_eq]; unfold lnR; rw [if_pos (va_up_eq _ _ _)]
  · rw [va_up_other _ _ h]; unfold lnR; rw [va_up_other _ _ h]
set_option maxHeartbeats 4000000 in
set_option maxRecDepth 100000 in
theorem c_X8_drop (l : Launch) (D : va_G) (Z : Nat → ClassId) (zs0 : Nat) (M : Nat) (mr mi : Nat → Nat) (ima : Int32) (th la le : Nat → Nat) (q : Int32) (hla : ∀ k, k < 4 → la k ≤ 3) (hle : ∀ k, k < 4 → le k ≤ 24) : cMi l yX8_drop wsX8_drop (rmd 1) D Z zs0 [.ref M, .int q] [(M, .inr (8, [.ref (mr 0), .ref (mr 1), .int (nI (mi 2)), .ref (mr 3), .ref (mr 4), .int ima, .ref (mr 6), .int (nI (mi 7)), .ref (mr 8), .ref (mr 9), .ref (mr 10), .long (lN (mi 11)), .long (lN (mi 12)), .ref (mr 13), .ref (mr 14), .ref (mr 15), .ref (mr 16), .ref (mr 17), .ref (mr 18), .int (nI (mi 19)), .ref (mr 20), .ref (mr 21), .ref (mr 22), .ref (mr 23), .long (lN (mi 24)), .long (lN (mi 25)), .int (nI (mi 26)), .int (nI (mi 27)), .ref (mr 28), .int (nI (mi 29)), .int (nI (mi 30)), .int (nI (mi 31)), .int (nI (mi 32))])), (mr 8, .inl (Z 0, 4, .inl (lnR th la))), (mr 9, .inl (Z 0, 4, .inl (aI le)))] (S := (Nat → Nat)) (fun (r : Int32) => fun (th' : Nat → Nat) => r = dpC th le q ∧ ((¬ (0 ≤ q.toInt ∧ q.toInt ≤ 3 ∧ th q.toInt.toNat ≠ 0) ∧ th' = th) ∨ ((0 ≤ q.toInt ∧ q.toInt ≤ 3 ∧ th q.toInt.toNat ≠ 0) ∧ th' = va_up th q.toInt.toNat 0))) (fun (th' : Nat → Nat) => [(M, .inr (8, [.ref (mr 0), .ref (mr 1), .int (nI (mi 2)), .ref (mr 3), .ref (mr 4), .int ima, .ref (mr 6), .int (nI (mi 7)), .ref (mr 8), .ref (mr 9), .ref (mr 10), .long (lN (mi 11)), .long (lN (mi 12)), .ref (mr 13), .ref (mr 14), .ref (mr 15), .ref (mr 16), .ref (mr 17), .ref (mr 18), .int (nI (mi 19)), .ref (mr 20), .ref (mr 21), .ref (mr 22), .ref (mr 23), .long (lN (mi 24)), .long (lN (mi 25)), .int (nI (mi 26)), .int (nI (mi 27)), .ref (mr 28), .int (nI (mi 29)), .int (nI (mi 30)), .int (nI (mi 31)), .int (nI (mi 32))])), (mr 8, .inl (Z 0, 4, .inl (lnR th' la))), (mr 9, .inl (Z 0, 4, .inl (aI le)))]) 0 0 := by
  refine q_open (y := yX8_drop) (ws := wsX8_drop) (av := [.ref M, .int q]) (win := [(M, .inr (8, [.ref (mr 0), .ref (mr 1), .int (nI (mi 2)), .ref (mr 3), .ref (mr 4), .int ima, .ref (mr 6), .int (nI (mi 7)), .ref (mr 8), .ref (mr 9), .ref (mr 10), .long (lN (mi 11)), .long (lN (mi 12)), .ref (mr 13), .ref (mr 14), .ref (mr 15), .ref (mr 16), .ref (mr 17), .ref (mr 18), .int (nI (mi 19)), .ref (mr 20), .ref (mr 21), .ref (mr 22), .ref (mr 23), .long (lN (mi 24)), .long (lN (mi 25)), .int (nI (mi 26)), .int (nI (mi 27)), .ref (mr 28), .int (nI (mi 29)), .int (nI (mi 30)), .int (nI (mi 31)), .int (nI (mi 32))])), (mr 8, .inl (Z 0, 4, .inl (lnR th la))), (mr 9, .inl (Z 0, 4, .inl (aI le)))]) (Qc := fun zs0 => cQi D Z zs0 [(M, .inr (8, [.ref (mr 0), .ref (mr 1), .int (nI (mi 2)), .ref (mr 3), .ref (mr 4), .int ima, .ref (mr 6), .int (nI (mi 7)), .ref (mr 8), .ref (mr 9), .ref (mr 10), .long (lN (mi 11)), .long (lN (mi 12)), .ref (mr 13), .ref (mr 14), .ref (mr 15), .ref (mr 16), .ref (mr 17), .ref (mr 18), .int (nI (mi 19)), .ref (mr 20), .ref (mr 21), .ref (mr 22), .ref (mr 23), .long (lN (mi 24)), .long (lN (mi 25)), .int (nI (mi 26)), .int (nI (mi 27)), .ref (mr 28), .int (nI (mi 29)), .int (nI (mi 30)), .int (nI (mi 31)), .int (nI (mi 32))])), (mr 8, .inl (Z 0, 4, .inl (lnR th la))), (mr 9, .inl (Z 0, 4, .inl (aI le)))] (S := (Nat → Nat)) (fun (r : Int32) => fun (th' : Nat → Nat) => r = dpC th le q ∧ ((¬ (0 ≤ q.toInt ∧ q.toInt ≤ 3 ∧ th q.toInt.toNat ≠ 0) ∧ th' = th) ∨ ((0 ≤ q.toInt ∧ q.toInt ≤ 3 ∧ th q.toInt.toNat ≠ 0) ∧ th' = va_up th q.toInt.toNat 0))) (fun (th' : Nat → Nat) => [(M, .inr (8, [.ref (mr 0), .ref (mr 1), .int (nI (mi 2)), .ref (mr 3), .ref (mr 4), .int ima, .ref (mr 6), .int (nI (mi 7)), .ref (mr 8), .ref (mr 9), .ref (mr 10), .long (lN (mi 11)), .long (lN (mi 12)), .ref (mr 13), .ref (mr 14), .ref (mr 15), .ref (mr 16), .ref (mr 17), .ref (mr 18), .int (nI (mi 19)), .ref (mr 20), .ref (mr 21), .ref (mr 22), .ref (mr 23), .long (lN (mi 24)), .long (lN (mi 25)), .int (nI (mi 26)), .int (nI (mi 27)), .ref (mr 28), .int (nI (mi 29)), .int (nI (mi 30)), .int (nI (mi 31)), .int (nI (mi 32))])), (mr 8, .inl (Z 0, 4, .inl (lnR th' la))), (mr 9, .inl (Z 0, 4, .inl (aI le)))])) (cc := cX8_drop) (maxL := 2) (ret := (some .int)) (by decide) rfl (Nat.le_of_ble_eq_true rfl) ?_
  intro pp ee s mm bw mt cd ls A H locs hAe hx hb hr hml hown hmn hts hlocks hA hK hw hl
  have hown : s.vm.findClass RX8 = some mm.cls := hown
  have hl : lv_has ls 2 [(0, .ref M), (1, .int q)] := hl
  have wd1 := hts (.constantLong RX8 130 (3)) (List.mem_of_getElem? (i := 1) rfl)
  have wd2 := hts (.fieldLink RX8 29 "ReplaceAgesModel" "laneOf" "[I") (List.mem_of_getElem? (i := 2) rfl)
  have wd3 := hts (.fieldLink RX8 32 "ReplaceAgesModel" "sizeOf" "[I") (List.mem_of_getElem? (i := 3) rfl)
  have in_X8 : ∀ w ∈ wsX80, w ∈ wsX8_drop := fun _ h => List.mem_cons_of_mem _ (List.mem_append_right _ h)
  refine lv_iload_n hx hb dX8_drop_0 rfl (lv_at hl 1 rfl) ?_
  refine lv_i2l hx hb dX8_drop_1 rfl ?_
  refine q_lconst (v := 0) hx hb dX8_drop_2 (by decide) ?_
  refine lv_ldc2 hx hb hown wd1 dX8_drop_3 ?_
  refine q_topl (x := 3) (y := lN 3) (by decide) ?_
  refine q_calli (S := Unit) (Z := Z) (D := D) (wc := []) (wr := [(M, .inr (8, [.ref (mr 0), .ref (mr 1), .int (nI (mi 2)), .ref (mr 3), .ref (mr 4), .int ima, .ref (mr 6), .int (nI (mi 7)), .ref (mr 8), .ref (mr 9), .ref (mr 10), .long (lN (mi 11)), .long (lN (mi 12)), .ref (mr 13), .ref (mr 14), .ref (mr 15), .ref (mr 16), .ref (mr 17), .ref (mr 18), .int (nI (mi 19)), .ref (mr 20), .ref (mr 21), .ref (mr 22), .ref (mr 23), .long (lN (mi 24)), .long (lN (mi 25)), .int (nI (mi 26)), .int (nI (mi 27)), .ref (mr 28), .int (nI (mi 29)), .int (nI (mi 30)), .int (nI (mi 31)), .int (nI (mi 32))])), (mr 8, .inl (Z 0, 4, .inl (lnR th la))), (mr 9, .inl (Z 0, 4, .inl (aI le)))]) (rest := []) hw hA [] [0, 1, 2] rfl rfl rfl rfl (by decide) (fun hPc hDc => va_runS (As := [.long q.toInt64, .long (lN 0), .long (lN 3)]) (rest := []) ⟨hx, hb, hml, hown, hts⟩ (c_X8_in l D Z H.size q.toInt64 (lN 0) (lN 3) q.toInt ((0 : Nat) : Int) ((3 : Nat) : Int) (Int32.toInt_toInt64 _) (pk_lT (by first | omega | assumption)) (pk_lT (by first | omega | assumption))) (va_cwS 3 hts gX8_drop_X8_in rfl rfl rfl (by decide +kernel) ⟨Nat.le_of_ble_eq_true rfl, Nat.le_of_ble_eq_true rfl⟩) ⟨fb_cPre, pre_of hPc hK hDc⟩ rfl rfl hl.1 rfl (lv_room (Nat.le_of_ble_eq_true rfl)) dX8_drop_6 ⟨Nat.le_of_ble_eq_true rfl, Nat.le_of_ble_eq_true rfl⟩) (fun r1 uu H locs hr1 hw => ?_)
  subst hr1
  have hw : WS D A s [(M, .inr (8, [.ref (mr 0), .ref (mr 1), .int (nI (mi 2)), .ref (mr 3), .ref (mr 4), .int ima, .ref (mr 6), .int (nI (mi 7)), .ref (mr 8), .ref (mr 9), .ref (mr 10), .long (lN (mi 11)), .long (lN (mi 12)), .ref (mr 13), .ref (mr 14), .ref (mr 15), .ref (mr 16), .ref (mr 17), .ref (mr 18), .int (nI (mi 19)), .ref (mr 20), .ref (mr 21), .ref (mr 22), .ref (mr 23), .long (lN (mi 24)), .long (lN (mi 25)), .int (nI (mi 26)), .int (nI (mi 27)), .ref (mr 28), .int (nI (mi 29)), .int (nI (mi 30)), .int (nI (mi 31)), .int (nI (mi 32))])), (mr 8, .inl (Z 0, 4, .inl (lnR th la))), (mr 9, .inl (Z 0, 4, .inl (aI le)))] H locs := hw
  refine q_if_ne (tgt := 14) hx hb ((bb (((0 : Nat) : Int) ≤ q.toInt ∧ q.toInt ≤ ((3 : Nat) : Int)) : Nat) : Int) (nI_toInt (Nat.lt_of_le_of_lt (bb_le _) (by decide))) dX8_drop_9 (by decide) (fun c2 => ?_) (fun c2 => ?_)
  · --
    have c2 := bb_1 c2
    obtain ⟨j, rfl, ej⟩ := i32_nat (x := q) (by omega)
    have lv := lnR_v th la j (hla j (by omega))
    refine lv_aload_n hx hb dX8_drop_14 rfl (lv_at hl 0 rfl) ?_
    refine q_get (v := .ref (mr 8)) (ci := 8) hx hb hts in_X8 hown hK hw 0 8 wd2 dX8_drop_15 rfl rfl (by decide) rfl ?_
    refine lv_iload_n hx hb dX8_drop_18 rfl (lv_at hl 1 rfl) ?_
    refine q_iaR hx hb hK hw 1 (by omega) (by omega) dX8_drop_19 rfl ?_
    refine q_if_ge (tgt := 26) hx hb ((lnR th la) j).toInt rfl dX8_drop_20 (by decide) (fun c3 => ?_) (fun c3 => ?_)
    · --
      have ht : th j ≠ 0 := by omega
      refine lv_aload_n hx hb dX8_drop_26 rfl (lv_at hl 0 rfl) ?_
      refine q_get (v := .ref (mr 8)) (ci := 8) hx hb hts in_X8 hown hK hw 0 8 wd2 dX8_drop_27 rfl rfl (by decide) rfl ?_
      refine lv_iload_n hx hb dX8_drop_30 rfl (lv_at hl 1 rfl) ?_
      refine lv_bipush (v := (-4)) hx hb dX8_drop_31 (by decide) ?_
      refine q_iasR hx hb hK hw 1 (by omega) (by omega) dX8_drop_33 rfl (fun H locs hw => ?_)
      have hw : WS D A s [(M, .inr (8, [.ref (mr 0), .ref (mr 1), .int (nI (mi 2)), .ref (mr 3), .ref (mr 4), .int ima, .ref (mr 6), .int (nI (mi 7)), .ref (mr 8), .ref (mr 9), .ref (mr 10), .long (lN (mi 11)), .long (lN (mi 12)), .ref (mr 13), .ref (mr 14), .ref (mr 15), .ref (mr 16), .ref (mr 17), .ref (mr 18), .int (nI (mi 19)), .ref (mr 20), .ref (mr 21), .ref (mr 22), .ref (mr 23), .long (lN (mi 24)), .long (lN (mi 25)), .int (nI (mi 26)), .int (nI (mi 27)), .ref (mr 28), .int (nI (mi 29)), .int (nI (mi 30)), .int (nI (mi 31)), .int (nI (mi 32))])), (mr 8, .inl (Z 0, 4, .inl (upd (lnR th la) j (-4)))), (mr 9, .inl (Z 0, 4, .inl (aI le)))] H locs := hw
      refine lv_aload_n hx hb dX8_drop_34 rfl (lv_at hl 0 rfl) ?_
      refine q_get (v := .ref (mr 9)) (ci := 8) hx hb hts in_X8 hown hK hw 0 9 wd3 dX8_drop_35 rfl rfl (by decide) rfl ?_
      refine lv_iload_n hx hb dX8_drop_38 rfl (lv_at hl 1 rfl) ?_
      refine q_iald hx hb hK hw 2 (by omega) (by omega) dX8_drop_39 rfl ?_
      exact q_iret (wout := _) hx hb hr hlocks hAe hK (va_up th j 0) (by rw [← lnR_0]; exact hw.sub [0, 1, 2] (by decide) rfl) (⟨by unfold dpC; rw [if_neg (by omega), tnI ej, if_neg (by omega)], Or.inr ⟨by rw [tnI ej]; omega, by rw [tnI ej]⟩⟩) dX8_drop_40
    · --
      have ht : th j = 0 := by omega
      refine lv_bipush (v := (-11)) hx hb dX8_drop_23 (by decide) ?_
      exact q_iret (wout := _) hx hb hr hlocks hAe hK th hw (⟨by unfold dpC; rw [if_neg (by omega), tnI ej, if_pos (by omega)], Or.inl ⟨fun h => by rw [tnI ej] at h; omega, rfl⟩⟩) dX8_drop_25
  · --
    have c2 := bb_0 c2
    refine lv_iconst (v := (-1)) hx hb dX8_drop_12 (by decide) ?_
    exact q_iret (wout := _) hx hb hr hlocks hAe hK th hw (⟨(if_pos (by omega)).symm, Or.inl ⟨fun h => by omega, rfl⟩⟩) dX8_drop_13
