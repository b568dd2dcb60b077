set_option maxHeartbeats 4000000 in
set_option maxRecDepth 100000 in
theorem c_X8_type (l : Launch) (D : va_G) (Z : Nat → ClassId) (zs0 : Nat) (M : Nat) (mr mi : Nat → Nat) (ima : Int32) (L : Nat → Nat) (c : Int32) (hsz : mi 7 ≤ 60) : cMi l yX8_type wsX8_type (rmd 1) D Z zs0 [.ref M, .int c] [(M, .inr (8, [.ref (mr 0), .ref (mr 1), .int (nI (mi 2)), .ref (mr 3), .ref (mr 4), .int ima, .ref (mr 6), .int (nI (mi 7)), .ref (mr 8), .ref (mr 9), .ref (mr 10), .long (lN (mi 11)), .long (lN (mi 12)), .ref (mr 13), .ref (mr 14), .ref (mr 15), .ref (mr 16), .ref (mr 17), .ref (mr 18), .int (nI (mi 19)), .ref (mr 20), .ref (mr 21), .ref (mr 22), .ref (mr 23), .long (lN (mi 24)), .long (lN (mi 25)), .int (nI (mi 26)), .int (nI (mi 27)), .ref (mr 28), .int (nI (mi 29)), .int (nI (mi 30)), .int (nI (mi 31)), .int (nI (mi 32))])), (mr 6, .inl (Z 0, 60, .inl (aI L)))] (S := (Nat → Nat) × Nat) (fun (r : Int32) (u : (Nat → Nat) × Nat) => match u with | (L', sz') => (¬ (32 ≤ c.toInt ∧ c.toInt ≤ 126) ∧ r = (-1) ∧ L' = L ∧ sz' = mi 7) ∨ ((32 ≤ c.toInt ∧ c.toInt ≤ 126) ∧ ((mi 7 < 60 ∧ r = nI (mi 7 + 1) ∧ L' = va_up L (mi 7) c.toInt.toNat ∧ sz' = mi 7 + 1) ∨ (60 ≤ mi 7 ∧ r = (-3) ∧ L' = L ∧ sz' = mi 7)))) (fun (u : (Nat → Nat) × Nat) => match u with | (L', sz') => [(M, .inr (8, [.ref (mr 0), .ref (mr 1), .int (nI (mi 2)), .ref (mr 3), .ref (mr 4), .int ima, .ref (mr 6), .int (nI sz'), .ref (mr 8), .ref (mr 9), .ref (mr 10), .long (lN (mi 11)), .long (lN (mi 12)), .ref (mr 13), .ref (mr 14), .ref (mr 15), .ref (mr 16), .ref (mr 17), .ref (mr 18), .int (nI (mi 19)), .ref (mr 20), .ref (mr 21), .ref (mr 22), .ref (mr 23), .long (lN (mi 24)), .long (lN (mi 25)), .int (nI (mi 26)), .int (nI (mi 27)), .ref (mr 28), .int (nI (mi 29)), .int (nI (mi 30)), .int (nI (mi 31)), .int (nI (mi 32))])), (mr 6, .inl (Z 0, 60, .inl (aI L')))]) 0 0 := by
  refine q_open (y := yX8_type) (ws := wsX8_type) (av := [.ref M, .int c]) (win := [(M, .inr (8, [.ref (mr 0), .ref (mr 1), .int (nI (mi 2)), .ref (mr 3), .ref (mr 4), .int ima, .ref (mr 6), .int (nI (mi 7)), .ref (mr 8), .ref (mr 9), .ref (mr 10), .long (lN (mi 11)), .long (lN (mi 12)), .ref (mr 13), .ref (mr 14), .ref (mr 15), .ref (mr 16), .ref (mr 17), .ref (mr 18), .int (nI (mi 19)), .ref (mr 20), .ref (mr 21), .ref (mr 22), .ref (mr 23), .long (lN (mi 24)), .long (lN (mi 25)), .int (nI (mi 26)), .int (nI (mi 27)), .ref (mr 28), .int (nI (mi 29)), .int (nI (mi 30)), .int (nI (mi 31)), .int (nI (mi 32))])), (mr 6, .inl (Z 0, 60, .inl (aI L)))]) (Qc := fun zs0 => cQi D Z zs0 [(M, .inr (8, [.ref (mr 0), .ref (mr 1), .int (nI (mi 2)), .ref (mr 3), .ref (mr 4), .int ima, .ref (mr 6), .int (nI (mi 7)), .ref (mr 8), .ref (mr 9), .ref (mr 10), .long (lN (mi 11)), .long (lN (mi 12)), .ref (mr 13), .ref (mr 14), .ref (mr 15), .ref (mr 16), .ref (mr 17), .ref (mr 18), .int (nI (mi 19)), .ref (mr 20), .ref (mr 21), .ref (mr 22), .ref (mr 23), .long (lN (mi 24)), .long (lN (mi 25)), .int (nI (mi 26)), .int (nI (mi 27)), .ref (mr 28), .int (nI (mi 29)), .int (nI (mi 30)), .int (nI (mi 31)), .int (nI (mi 32))])), (mr 6, .inl (Z 0, 60, .inl (aI L)))] (S := (Nat → Nat) × Nat) (fun (r : Int32) (u : (Nat → Nat) × Nat) => match u with | (L', sz') => (¬ (32 ≤ c.toInt ∧ c.toInt ≤ 126) ∧ r = (-1) ∧ L' = L ∧ sz' = mi 7) ∨ ((32 ≤ c.toInt ∧ c.toInt ≤ 126) ∧ ((mi 7 < 60 ∧ r = nI (mi 7 + 1) ∧ L' = va_up L (mi 7) c.toInt.toNat ∧ sz' = mi 7 + 1) ∨ (60 ≤ mi 7 ∧ r = (-3) ∧ L' = L ∧ sz' = mi 7)))) (fun (u : (Nat → Nat) × Nat) => match u with | (L', sz') => [(M, .inr (8, [.ref (mr 0), .ref (mr 1), .int (nI (mi 2)), .ref (mr 3), .ref (mr 4), .int ima, .ref (mr 6), .int (nI sz'), .ref (mr 8), .ref (mr 9), .ref (mr 10), .long (lN (mi 11)), .long (lN (mi 12)), .ref (mr 13), .ref (mr 14), .ref (mr 15), .ref (mr 16), .ref (mr 17), .ref (mr 18), .int (nI (mi 19)), .ref (mr 20), .ref (mr 21), .ref (mr 22), .ref (mr 23), .long (lN (mi 24)), .long (lN (mi 25)), .int (nI (mi 26)), .int (nI (mi 27)), .ref (mr 28), .int (nI (mi 29)), .int (nI (mi 30)), .int (nI (mi 31)), .int (nI (mi 32))])), (mr 6, .inl (Z 0, 60, .inl (aI L')))])) (cc := cX8_type) (maxL := 2) (ret := (some .int)) (by decide) rfl (Nat.le_of_ble_eq_true rfl) ?_
  intro pp ee s mm bw mt cd ls A H locs hAe hx hb hr hml hown hmn hts hlocks hA hK hw hl
  have hown : s.vm.findClass RX8 = some mm.cls := hown
  have hl : lv_has ls 2 [(0, .ref M), (1, .int c)] := hl
  have wd1 := hts (.constantLong RX8 214 (32)) (List.mem_of_getElem? (i := 1) rfl)
  have wd2 := hts (.constantLong RX8 216 (126)) (List.mem_of_getElem? (i := 2) rfl)
  have wd3 := hts (.fieldLink RX8 218 "ReplaceAgesModel" "tapeMany" "I") (List.mem_of_getElem? (i := 3) rfl)
  have wd4 := hts (.fieldLink RX8 26 "ReplaceAgesModel" "tape" "[I") (List.mem_of_getElem? (i := 4) rfl)
  have in_X8 : ∀ w ∈ wsX80, w ∈ wsX8_type := fun _ h => List.mem_cons_of_mem _ (List.mem_append_right _ h)
  refine lv_iload_n hx hb dX8_type_0 rfl (lv_at hl 1 rfl) ?_
  refine lv_i2l hx hb dX8_type_1 rfl ?_
  refine lv_ldc2 hx hb hown wd1 dX8_type_2 ?_
  refine q_topl (x := 32) (y := lN 32) (by decide) ?_
  refine lv_ldc2 hx hb hown wd2 dX8_type_5 ?_
  refine q_topl (x := 126) (y := lN 126) (by decide) ?_
  refine q_calli (S := Unit) (Z := Z) (D := D) (wc := []) (wr := [(M, .inr (8, [.ref (mr 0), .ref (mr 1), .int (nI (mi 2)), .ref (mr 3), .ref (mr 4), .int ima, .ref (mr 6), .int (nI (mi 7)), .ref (mr 8), .ref (mr 9), .ref (mr 10), .long (lN (mi 11)), .long (lN (mi 12)), .ref (mr 13), .ref (mr 14), .ref (mr 15), .ref (mr 16), .ref (mr 17), .ref (mr 18), .int (nI (mi 19)), .ref (mr 20), .ref (mr 21), .ref (mr 22), .ref (mr 23), .long (lN (mi 24)), .long (lN (mi 25)), .int (nI (mi 26)), .int (nI (mi 27)), .ref (mr 28), .int (nI (mi 29)), .int (nI (mi 30)), .int (nI (mi 31)), .int (nI (mi 32))])), (mr 6, .inl (Z 0, 60, .inl (aI L)))]) (rest := []) hw hA [] [0, 1] rfl rfl rfl rfl (by decide) (fun hPc hDc => va_runS (As := [.long c.toInt64, .long (lN 32), .long (lN 126)]) (rest := []) ⟨hx, hb, hml, hown, hts⟩ (c_X8_in l D Z H.size c.toInt64 (lN 32) (lN 126) c.toInt ((32 : Nat) : Int) ((126 : Nat) : Int) (Int32.toInt_toInt64 _) (pk_lT (by first | omega | assumption)) (pk_lT (by first | omega | assumption))) (va_cwS 3 hts gX8_type_X8_in rfl rfl rfl (by decide +kernel) ⟨Nat.le_of_ble_eq_true rfl, Nat.le_of_ble_eq_true rfl⟩) ⟨fb_cPre, pre_of hPc hK hDc⟩ rfl rfl hl.1 rfl (lv_room (Nat.le_of_ble_eq_true rfl)) dX8_type_8 ⟨Nat.le_of_ble_eq_true rfl, Nat.le_of_ble_eq_true rfl⟩) (fun r1 uu H locs hr1 hw => ?_)
  subst hr1
  have hw : WS D A s [(M, .inr (8, [.ref (mr 0), .ref (mr 1), .int (nI (mi 2)), .ref (mr 3), .ref (mr 4), .int ima, .ref (mr 6), .int (nI (mi 7)), .ref (mr 8), .ref (mr 9), .ref (mr 10), .long (lN (mi 11)), .long (lN (mi 12)), .ref (mr 13), .ref (mr 14), .ref (mr 15), .ref (mr 16), .ref (mr 17), .ref (mr 18), .int (nI (mi 19)), .ref (mr 20), .ref (mr 21), .ref (mr 22), .ref (mr 23), .long (lN (mi 24)), .long (lN (mi 25)), .int (nI (mi 26)), .int (nI (mi 27)), .ref (mr 28), .int (nI (mi 29)), .int (nI (mi 30)), .int (nI (mi 31)), .int (nI (mi 32))])), (mr 6, .inl (Z 0, 60, .inl (aI L)))] H locs := hw
  refine q_if_ne (tgt := 16) hx hb ((bb (((32 : Nat) : Int) ≤ c.toInt ∧ c.toInt ≤ ((126 : Nat) : Int)) : Nat) : Int) (nI_toInt (Nat.lt_of_le_of_lt (bb_le _) (by decide))) dX8_type_11 (by decide) (fun c2 => ?_) (fun c2 => ?_)
  · --
    have c2 := bb_1 c2
    obtain ⟨j, rfl, ej⟩ := i32_nat (x := c) (by omega)
    refine lv_aload_n hx hb dX8_type_16 rfl (lv_at hl 0 rfl) ?_
    refine q_get (v := .int (nI (mi 7))) (ci := 8) hx hb hts in_X8 hown hK hw 0 7 wd3 dX8_type_17 rfl rfl (by decide) rfl ?_
    refine q_bipush (v := 60) hx hb dX8_type_20 (by decide) ?_
    refine q_icmp_ne (tgt := 28) hx hb ((mi 7 : Nat) : Int) ((60 : Nat) : Int) (nI_toInt (by omega)) (nI_toInt (by omega)) dX8_type_22 (by decide) (fun c3 => ?_) (fun c3 => ?_)
    · --
      refine lv_aload_n hx hb dX8_type_28 rfl (lv_at hl 0 rfl) ?_
      refine q_get (v := .ref (mr 6)) (ci := 8) hx hb hts in_X8 hown hK hw 0 6 wd4 dX8_type_29 rfl rfl (by decide) rfl ?_
      refine lv_aload_n hx hb dX8_type_32 rfl (lv_at hl 0 rfl) ?_
      refine q_get (v := .int (nI (mi 7))) (ci := 8) hx hb hts in_X8 hown hK hw 0 7 wd3 dX8_type_33 rfl rfl (by decide) rfl ?_
      refine lv_iload_n hx hb dX8_type_36 rfl (lv_at hl 1 rfl) ?_
      refine q_iast hx hb hK hw 1 (by omega) (by omega) dX8_type_37 rfl (fun H locs hw => ?_)
      have hw : WS D A s [(M, .inr (8, [.ref (mr 0), .ref (mr 1), .int (nI (mi 2)), .ref (mr 3), .ref (mr 4), .int ima, .ref (mr 6), .int (nI (mi 7)), .ref (mr 8), .ref (mr 9), .ref (mr 10), .long (lN (mi 11)), .long (lN (mi 12)), .ref (mr 13), .ref (mr 14), .ref (mr 15), .ref (mr 16), .ref (mr 17), .ref (mr 18), .int (nI (mi 19)), .ref (mr 20), .ref (mr 21), .ref (mr 22), .ref (mr 23), .long (lN (mi 24)), .long (lN (mi 25)), .int (nI (mi 26)), .int (nI (mi 27)), .ref (mr 28), .int (nI (mi 29)), .int (nI (mi 30)), .int (nI (mi 31)), .int (nI (mi 32))])), (mr 6, .inl (Z 0, 60, .inl (aI (va_up L (mi 7) j))))] H locs := hw
      refine lv_aload_n hx hb dX8_type_38 rfl (lv_at hl 0 rfl) ?_
      refine lv_dup hx hb dX8_type_39 rfl ?_
      refine q_get (v := .int (nI (mi 7))) (ci := 8) hx hb hts in_X8 hown hK hw 0 7 wd3 dX8_type_40 rfl rfl (by decide) rfl ?_
      refine q_iconst (v := 1) hx hb dX8_type_43 (by decide) ?_
      refine q_iadd hx hb dX8_type_44 ?_
      refine q_put (v := .int (nI (mi 7 + 1))) (ci := 8) hx hb hts in_X8 tyX8 tyX8_ok nmX8 hown hK hw 0 7 wd3 dX8_type_45 rfl rfl (by decide) rfl rfl rfl (Nat.le_of_ble_eq_true rfl) (fun H locs hw => ?_)
      have hw : WS D A s [(M, .inr (8, [.ref (mr 0), .ref (mr 1), .int (nI (mi 2)), .ref (mr 3), .ref (mr 4), .int ima, .ref (mr 6), .int (nI (mi 7 + 1)), .ref (mr 8), .ref (mr 9), .ref (mr 10), .long (lN (mi 11)), .long (lN (mi 12)), .ref (mr 13), .ref (mr 14), .ref (mr 15), .ref (mr 16), .ref (mr 17), .ref (mr 18), .int (nI (mi 19)), .ref (mr 20), .ref (mr 21), .ref (mr 22), .ref (mr 23), .long (lN (mi 24)), .long (lN (mi 25)), .int (nI (mi 26)), .int (nI (mi 27)), .ref (mr 28), .int (nI (mi 29)), .int (nI (mi 30)), .int (nI (mi 31)), .int (nI (mi 32))])), (mr 6, .inl (Z 0, 60, .inl (aI (va_up L (mi 7) j))))] H locs := hw
      refine lv_aload_n hx hb dX8_type_48 rfl (lv_at hl 0 rfl) ?_
      refine q_get (v := .int (nI (mi 7 + 1))) (ci := 8) hx hb hts in_X8 hown hK hw 0 7 wd3 dX8_type_49 rfl rfl (by decide) rfl ?_
      exact q_iret (wout := _) hx hb hr hlocks hAe hK (va_up L (mi 7) j, mi 7 + 1) hw (Or.inr ⟨by omega, Or.inl ⟨by omega, rfl, by rw [tnI ej], rfl⟩⟩) dX8_type_52
    · --
      refine lv_bipush (v := (-3)) hx hb dX8_type_25 (by decide) ?_
      exact q_iret (wout := _) hx hb hr hlocks hAe hK (L, mi 7) hw (Or.inr ⟨by omega, Or.inr ⟨by omega, rfl, rfl, rfl⟩⟩) dX8_type_27
  · --
    have c2 := bb_0 c2
    refine lv_iconst (v := (-1)) hx hb dX8_type_14 (by decide) ?_
    exact q_iret (wout := _) hx hb hr hlocks hAe hK (L, mi 7) hw (Or.inl ⟨by omega, rfl, rfl, rfl⟩) dX8_type_15
set_option maxHeartbeats 4000000 in
set_option maxRecDepth 100000 in
theorem c_X8_isSheet (l : Launch) (D : va_G) (Z : Nat → ClassId) (zs0 : Nat) (a1 b1 : Int32)  : cMi l yX8_isSheet wsX8_isSheet (rmd 1) D Z zs0 [.int a1, .int b1] [] (S := Unit) (fun (r : Int32) => fun (_ : Unit) => r = nI (bb (0 ≤ a1.toInt ∧ a1.toInt ≤ 3 ∧ 0 ≤ b1.toInt ∧ b1.toInt ≤ 3))) (fun (_ : Unit) => []) 0 0 := by
  refine q_open (y := yX8_isSheet) (ws := wsX8_isSheet) (av := [.int a1, .int b1]) (win := []) (Qc := fun zs0 => cQi D Z zs0 [] (S := Unit) (fun (r : Int32) => fun (_ : Unit) => r = nI (bb (0 ≤ a1.toInt ∧ a1.toInt ≤ 3 ∧ 0 ≤ b1.toInt ∧ b1.toInt ≤ 3))) (fun (_ : Unit) => [])) (cc := cX8_isSheet) (maxL := 2) (ret := (some .boolean)) (by decide) rfl (Nat.le_of_ble_eq_true rfl) ?_
  intro pp ee s mm bw mt cd ls A H locs hAe hx hb hr hml hown hmn hts hlocks hA hK hw hl
  have hown : s.vm.findClass RX8 = some mm.cls := hown
  have hl : lv_has ls 2 [(0, .int a1), (1, .int b1)] := hl
  have wd1 := hts (.constantLong RX8 130 (3)) (List.mem_of_getElem? (i := 1) rfl)
  refine lv_iload_n hx hb dX8_isSheet_0 rfl (lv_at hl 0 rfl) ?_
  refine lv_i2l hx hb dX8_isSheet_1 rfl ?_
  refine q_lconst (v := 0) hx hb dX8_isSheet_2 (by decide) ?_
  refine lv_ldc2 hx hb hown wd1 dX8_isSheet_3 ?_
  refine q_topl (x := 3) (y := lN 3) (by decide) ?_
  refine q_calli (S := Unit) (Z := Z) (D := D) (wc := []) (wr := []) (rest := []) hw hA [] [] rfl rfl rfl rfl (by decide) (fun hPc hDc => va_runS (As := [.long a1.toInt64, .long (lN 0), .long (lN 3)]) (rest := []) ⟨hx, hb, hml, hown, hts⟩ (c_X8_in l D Z H.size a1.toInt64 (lN 0) (lN 3) a1.toInt ((0 : Nat) : Int) ((3 : Nat) : Int) (Int32.toInt_toInt64 _) (pk_lT (by first | omega | assumption)) (pk_lT (by first | omega | assumption))) (va_cwS 3 hts gX8_isSheet_X8_in rfl rfl rfl (by decide +kernel) ⟨Nat.le_of_ble_eq_true rfl, Nat.le_of_ble_eq_true rfl⟩) ⟨fb_cPre, pre_of hPc hK hDc⟩ rfl rfl hl.1 rfl (lv_room (Nat.le_of_ble_eq_true rfl)) dX8_isSheet_6 ⟨Nat.le_of_ble_eq_true rfl, Nat.le_of_ble_eq_true rfl⟩) (fun r1 uu H locs hr1 hw => ?_)
  subst hr1
  have hw : WS D A s [] H locs := hw
  refine q_if_eq (tgt := 28) hx hb ((bb (((0 : Nat) : Int) ≤ a1.toInt ∧ a1.toInt ≤ ((3 : Nat) : Int)) : Nat) : Int) (nI_toInt (Nat.lt_of_le_of_lt (bb_le _) (by decide))) dX8_isSheet_9 (by decide) (fun c2 => ?_) (fun c2 => ?_)
  · --
    have c2 := bb_0 c2
    refine q_iconst (v := 0) hx hb dX8_isSheet_28 (by decide) ?_
    exact q_zret (wout := _) hx hb hr hlocks hAe hK () hw rfl (by first | exact (congrArg nI (bb_t (by omega))).symm | exact (congrArg nI (bb_f (by omega))).symm) dX8_isSheet_29
  · --
    have c2 := bb_1 c2
    refine lv_iload_n hx hb dX8_isSheet_12 rfl (lv_at hl 1 rfl) ?_
    refine lv_i2l hx hb dX8_isSheet_13 rfl ?_
    refine q_lconst (v := 0) hx hb dX8_isSheet_14 (by decide) ?_
    refine lv_ldc2 hx hb hown wd1 dX8_isSheet_15 ?_
    refine q_topl (x := 3) (y := lN 3) (by decide) ?_
    refine q_calli (S := Unit) (Z := Z) (D := D) (wc := []) (wr := []) (rest := []) hw hA [] [] rfl rfl rfl rfl (by decide) (fun hPc hDc => va_runS (As := [.long b1.toInt64, .long (lN 0), .long (lN 3)]) (rest := []) ⟨hx, hb, hml, hown, hts⟩ (c_X8_in l D Z H.size b1.toInt64 (lN 0) (lN 3) b1.toInt ((0 : Nat) : Int) ((3 : Nat) : Int) (Int32.toInt_toInt64 _) (pk_lT (by first | omega | assumption)) (pk_lT (by first | omega | assumption))) (va_cwS 3 hts gX8_isSheet_X8_in rfl rfl rfl (by decide +kernel) ⟨Nat.le_of_ble_eq_true rfl, Nat.le_of_ble_eq_true rfl⟩) ⟨fb_cPre, pre_of hPc hK hDc⟩ rfl rfl hl.1 rfl (lv_room (Nat.le_of_ble_eq_true rfl)) dX8_isSheet_18 ⟨Nat.le_of_ble_eq_true rfl, Nat.le_of_ble_eq_true rfl⟩) (fun r3 uu H locs hr3 hw => ?_)
    subst hr3
    have hw : WS D A s [] H locs := hw
    refine q_if_eq (tgt := 28) hx hb ((bb (((0 : Nat) : Int) ≤ b1.toInt ∧ b1.toInt ≤ ((3 : Nat) : Int)) : Nat) : Int) (nI_toInt (Nat.lt_of_le_of_lt (bb_le _) (by decide))) dX8_isSheet_21 (by decide) (fun c4 => ?_) (fun c4 => ?_)
    · --
      have c4 := bb_0 c4
      refine q_iconst (v := 0) hx hb dX8_isSheet_28 (by decide) ?_
      exact q_zret (wout := _) hx hb hr hlocks hAe hK () hw rfl (by first | exact (congrArg nI (bb_t (by omega))).symm | exact (congrArg nI (bb_f (by omega))).symm) dX8_isSheet_29
    · --
      have c4 := bb_1 c4
      refine q_iconst (v := 1) hx hb dX8_isSheet_24 (by decide) ?_
      refine lv_goto (tgt := 29) hx hb dX8_isSheet_25 (by decide) ?_
      exact q_zret (wout := _) hx hb hr hlocks hAe hK () hw rfl (by first | exact (congrArg nI (bb_t (by omega))).symm | exact (congrArg nI (bb_f (by omega))).symm) dX8_isSheet_29
