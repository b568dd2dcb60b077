def zr (w : Nat → Nat) (y c : Nat) : Nat → Nat := fun k => if y < k ∧ k ≤ y + c then 0 else w k
theorem zr_0 (w : Nat → Nat) (y : Nat) : zr w y 0 = w := by funext k; simp only [zr]; rw [if_neg (by omega)]
theorem zr_up (w : Nat → Nat) (y c : Nat) : va_up (zr w y c) (y + 1 + c) 0 = zr w y (c + 1) := by
  funext k; simp only [va_up, zr]
  by_cases h : k = y + 1 + c
  · rw [if_pos h, if_pos (by omega)]
  · rw [if_neg h]
    by_cases h2 : y < k ∧ k ≤ y + c
    · rw [if_pos h2, if_pos (by omega)]
    · rw [if_neg h2, if_neg (by omega)]
set_option maxHeartbeats 4000000 in
set_option maxRecDepth 100000 in
theorem c_X8_weigh (l : Launch) (D : va_G) (Z : Nat → ClassId) (zs0 : Nat) (M : Nat) (mr mi : Nat → Nat) (ima : Int32) (p g : Nat → Nat) (k v : Int32) (hn : 1 ≤ p 0 ∧ p 0 ≤ 8) (hs : lf p (p 0) 0 ≤ 24) (hac : mi 2 ≤ 6) : cMi l yX8_weigh wsX8_weigh (rmd 2) D Z zs0 [.ref M, .int k, .int v] [(M, .inr (8, [.ref (mr 0), .ref (mr 1), .int (nI (mi 2)), .ref (mr 3), .ref (mr 4), .int ima, .ref (mr 6), .int (nI (mi 7)), .ref (mr 8), .ref (mr 9), .ref (mr 10), .long (lN (mi 11)), .long (lN (mi 12)), .ref (mr 13), .ref (mr 14), .ref (mr 15), .ref (mr 16), .ref (mr 17), .ref (mr 18), .int (nI (mi 19)), .ref (mr 20), .ref (mr 21), .ref (mr 22), .ref (mr 23), .long (lN (mi 24)), .long (lN (mi 25)), .int (nI (mi 26)), .int (nI (mi 27)), .ref (mr 28), .int (nI (mi 29)), .int (nI (mi 30)), .int (nI (mi 31)), .int (nI (mi 32))])), (mr 0, .inl (Z 0, 18, .inl (aI p))), (mr 1, .inl (Z 0, 108, .inl (aI g)))] (S := Nat × (Nat → Nat) × (Nat → Nat)) (fun (r : Int32) (u : Nat × (Nat → Nat) × (Nat → Nat)) => match u with | (ac', p', g') => r = wgC (p 0) p k v ∧ ((¬ wgOk (p 0) p k v ∧ ac' = mi 2 ∧ p' = p ∧ g' = g) ∨ (wgOk (p 0) p k v ∧ ac' = min (mi 2 + 1) 6 ∧ g' = ntG g p (mi 2) ∧ p' = va_up (va_up p k.toInt.toNat v.toInt.toNat) 13 0))) (fun (u : Nat × (Nat → Nat) × (Nat → Nat)) => match u with | (ac', p', g') => [(M, .inr (8, [.ref (mr 0), .ref (mr 1), .int (nI ac'), .ref (mr 3), .ref (mr 4), .int ima, .ref (mr 6), .int (nI (mi 7)), .ref (mr 8), .ref (mr 9), .ref (mr 10), .long (lN (mi 11)), .long (lN (mi 12)), .ref (mr 13), .ref (mr 14), .ref (mr 15), .ref (mr 16), .ref (mr 17), .ref (mr 18), .int (nI (mi 19)), .ref (mr 20), .ref (mr 21), .ref (mr 22), .ref (mr 23), .long (lN (mi 24)), .long (lN (mi 25)), .int (nI (mi 26)), .int (nI (mi 27)), .ref (mr 28), .int (nI (mi 29)), .int (nI (mi 30)), .int (nI (mi 31)), .int (nI (mi 32))])), (mr 0, .inl (Z 0, 18, .inl (aI p'))), (mr 1, .inl (Z 0, 108, .inl (aI g')))]) 0 0 := by
  refine q_open (y := yX8_weigh) (ws := wsX8_weigh) (av := [.ref M, .int k, .int v]) (win := [(M, .inr (8, [.ref (mr 0), .ref (mr 1), .int (nI (mi 2)), .ref (mr 3), .ref (mr 4), .int ima, .ref (mr 6), .int (nI (mi 7)), .ref (mr 8), .ref (mr 9), .ref (mr 10), .long (lN (mi 11)), .long (lN (mi 12)), .ref (mr 13), .ref (mr 14), .ref (mr 15), .ref (mr 16), .ref (mr 17), .ref (mr 18), .int (nI (mi 19)), .ref (mr 20), .ref (mr 21), .ref (mr 22), .ref (mr 23), .long (lN (mi 24)), .long (lN (mi 25)), .int (nI (mi 26)), .int (nI (mi 27)), .ref (mr 28), .int (nI (mi 29)), .int (nI (mi 30)), .int (nI (mi 31)), .int (nI (mi 32))])), (mr 0, .inl (Z 0, 18, .inl (aI p))), (mr 1, .inl (Z 0, 108, .inl (aI g)))]) (Qc := fun zs0 => cQi D Z zs0 [(M, .inr (8, [.ref (mr 0), .ref (mr 1), .int (nI (mi 2)), .ref (mr 3), .ref (mr 4), .int ima, .ref (mr 6), .int (nI (mi 7)), .ref (mr 8), .ref (mr 9), .ref (mr 10), .long (lN (mi 11)), .long (lN (mi 12)), .ref (mr 13), .ref (mr 14), .ref (mr 15), .ref (mr 16), .ref (mr 17), .ref (mr 18), .int (nI (mi 19)), .ref (mr 20), .ref (mr 21), .ref (mr 22), .ref (mr 23), .long (lN (mi 24)), .long (lN (mi 25)), .int (nI (mi 26)), .int (nI (mi 27)), .ref (mr 28), .int (nI (mi 29)), .int (nI (mi 30)), .int (nI (mi 31)), .int (nI (mi 32))])), (mr 0, .inl (Z 0, 18, .inl (aI p))), (mr 1, .inl (Z 0, 108, .inl (aI g)))] (S := Nat × (Nat → Nat) × (Nat → Nat)) (fun (r : Int32) (u : Nat × (Nat → Nat) × (Nat → Nat)) => match u with | (ac', p', g') => r = wgC (p 0) p k v ∧ ((¬ wgOk (p 0) p k v ∧ ac' = mi 2 ∧ p' = p ∧ g' = g) ∨ (wgOk (p 0) p k v ∧ ac' = min (mi 2 + 1) 6 ∧ g' = ntG g p (mi 2) ∧ p' = va_up (va_up p k.toInt.toNat v.toInt.toNat) 13 0))) (fun (u : Nat × (Nat → Nat) × (Nat → Nat)) => match u with | (ac', p', g') => [(M, .inr (8, [.ref (mr 0), .ref (mr 1), .int (nI ac'), .ref (mr 3), .ref (mr 4), .int ima, .ref (mr 6), .int (nI (mi 7)), .ref (mr 8), .ref (mr 9), .ref (mr 10), .long (lN (mi 11)), .long (lN (mi 12)), .ref (mr 13), .ref (mr 14), .ref (mr 15), .ref (mr 16), .ref (mr 17), .ref (mr 18), .int (nI (mi 19)), .ref (mr 20), .ref (mr 21), .ref (mr 22), .ref (mr 23), .long (lN (mi 24)), .long (lN (mi 25)), .int (nI (mi 26)), .int (nI (mi 27)), .ref (mr 28), .int (nI (mi 29)), .int (nI (mi 30)), .int (nI (mi 31)), .int (nI (mi 32))])), (mr 0, .inl (Z 0, 18, .inl (aI p'))), (mr 1, .inl (Z 0, 108, .inl (aI g')))])) (cc := cX8_weigh) (maxL := 4) (ret := (some .int)) (by decide) rfl (Nat.le_of_ble_eq_true rfl) ?_
  intro pp ee s mm bw mt cd ls A H locs hAe hx hb hr hml hown hmn hts hlocks hA hK hw hl
  have hown : s.vm.findClass RX8 = some mm.cls := hown
  have hl : lv_has ls 4 [(0, .ref M), (1, .int k), (2, .int v)] := hl
  have wd1 := hts (.constantLong RX8 114 (9)) (List.mem_of_getElem? (i := 1) rfl)
  have wd2 := hts (.fieldLink RX8 7 "ReplaceAgesModel" "st" "[I") (List.mem_of_getElem? (i := 2) rfl)
  have in_X8 : ∀ w ∈ wsX80, w ∈ wsX8_weigh := fun _ h => List.mem_cons_of_mem _ (List.mem_append_right _ h)
  refine lv_aload_n hx hb dX8_weigh_0 rfl (lv_at hl 0 rfl) ?_
  refine lv_iload_n hx hb dX8_weigh_1 rfl (lv_at hl 1 rfl) ?_
  refine q_calli (S := Unit) (Z := Z) (D := D) (wc := [(M, .inr (8, [.ref (mr 0), .ref (mr 1), .int (nI (mi 2)), .ref (mr 3), .ref (mr 4), .int ima, .ref (mr 6), .int (nI (mi 7)), .ref (mr 8), .ref (mr 9), .ref (mr 10), .long (lN (mi 11)), .long (lN (mi 12)), .ref (mr 13), .ref (mr 14), .ref (mr 15), .ref (mr 16), .ref (mr 17), .ref (mr 18), .int (nI (mi 19)), .ref (mr 20), .ref (mr 21), .ref (mr 22), .ref (mr 23), .long (lN (mi 24)), .long (lN (mi 25)), .int (nI (mi 26)), .int (nI (mi 27)), .ref (mr 28), .int (nI (mi 29)), .int (nI (mi 30)), .int (nI (mi 31)), .int (nI (mi 32))])), (mr 0, .inl (Z 0, 18, .inl (aI p)))]) (wr := [(mr 1, .inl (Z 0, 108, .inl (aI g)))]) (rest := []) hw hA [0, 1] [2] rfl rfl rfl rfl (by decide) (fun hPc hDc => va_runV (As := [.int k]) (rest := []) ⟨hx, hb, hml, hown, hts⟩ (c_X8_isAge l D Z H.size M mr mi ima p k hn.2) (cwV 1 hts gX8_weigh_X8_isAge rfl rfl rfl (by decide +kernel) ⟨Nat.le_of_ble_eq_true rfl, Nat.le_of_ble_eq_true rfl⟩) ⟨fb_cPre, va_recv hK.1 hPc (ci := 8) (q0 := 0) rfl rfl, pre_of hPc hK hDc⟩ rfl rfl hl.1 rfl (lv_room (Nat.le_of_ble_eq_true rfl)) dX8_weigh_2 ⟨Nat.le_of_ble_eq_true rfl, Nat.le_of_ble_eq_true rfl⟩) (fun r1 uu H locs hr1 hw => ?_)
  subst hr1
  have hw : WS D A s [(mr 1, .inl (Z 0, 108, .inl (aI g))), (M, .inr (8, [.ref (mr 0), .ref (mr 1), .int (nI (mi 2)), .ref (mr 3), .ref (mr 4), .int ima, .ref (mr 6), .int (nI (mi 7)), .ref (mr 8), .ref (mr 9), .ref (mr 10), .long (lN (mi 11)), .long (lN (mi 12)), .ref (mr 13), .ref (mr 14), .ref (mr 15), .ref (mr 16), .ref (mr 17), .ref (mr 18), .int (nI (mi 19)), .ref (mr 20), .ref (mr 21), .ref (mr 22), .ref (mr 23), .long (lN (mi 24)), .long (lN (mi 25)), .int (nI (mi 26)), .int (nI (mi 27)), .ref (mr 28), .int (nI (mi 29)), .int (nI (mi 30)), .int (nI (mi 31)), .int (nI (mi 32))])), (mr 0, .inl (Z 0, 18, .inl (aI p)))] H locs := hw
  refine q_if_eq (tgt := 20) hx hb ((bb (1 ≤ k.toInt ∧ k.toInt ≤ (p 0 : Nat)) : Nat) : Int) (nI_toInt (Nat.lt_of_le_of_lt (bb_le _) (by decide))) dX8_weigh_5 (by decide) (fun c2 => ?_) (fun c2 => ?_)
  · --
    have c2 := bb_0 c2
    refine lv_iconst (v := (-1)) hx hb dX8_weigh_20 (by decide) ?_
    exact q_iret (wout := _) hx hb hr hlocks hAe hK (mi 2, p, g) (hw.sub [1, 2, 0] (by decide) rfl) (⟨(wg_1 (by omega)).symm, Or.inl ⟨fun q => by unfold wgOk at q; omega, ⟨rfl, rfl, rfl⟩⟩⟩) dX8_weigh_21
  · --
    have c2 := bb_1 c2
    refine lv_iload_n hx hb dX8_weigh_8 rfl (lv_at hl 2 rfl) ?_
    refine lv_i2l hx hb dX8_weigh_9 rfl ?_
    refine q_lconst (v := 0) hx hb dX8_weigh_10 (by decide) ?_
    refine lv_ldc2 hx hb hown wd1 dX8_weigh_11 ?_
    refine q_topl (x := 9) (y := lN 9) (by decide) ?_
    refine q_calli (S := Unit) (Z := Z) (D := D) (wc := []) (wr := [(mr 1, .inl (Z 0, 108, .inl (aI g))), (M, .inr (8, [.ref (mr 0), .ref (mr 1), .int (nI (mi 2)), .ref (mr 3), .ref (mr 4), .int ima, .ref (mr 6), .int (nI (mi 7)), .ref (mr 8), .ref (mr 9), .ref (mr 10), .long (lN (mi 11)), .long (lN (mi 12)), .ref (mr 13), .ref (mr 14), .ref (mr 15), .ref (mr 16), .ref (mr 17), .ref (mr 18), .int (nI (mi 19)), .ref (mr 20), .ref (mr 21), .ref (mr 22), .ref (mr 23), .long (lN (mi 24)), .long (lN (mi 25)), .int (nI (mi 26)), .int (nI (mi 27)), .ref (mr 28), .int (nI (mi 29)), .int (nI (mi 30)), .int (nI (mi 31)), .int (nI (mi 32))])), (mr 0, .inl (Z 0, 18, .inl (aI p)))]) (rest := []) hw hA [] [0, 1, 2] rfl rfl rfl rfl (by decide) (fun hPc hDc => va_runS (As := [.long v.toInt64, .long (lN 0), .long (lN 9)]) (rest := []) ⟨hx, hb, hml, hown, hts⟩ (c_X8_in l D Z H.size v.toInt64 (lN 0) (lN 9) v.toInt ((0 : Nat) : Int) ((9 : Nat) : Int) (Int32.toInt_toInt64 _) (pk_lT (by first | omega | assumption)) (pk_lT (by first | omega | assumption))) (va_cwS 3 hts gX8_weigh_X8_in rfl rfl rfl (by decide +kernel) ⟨Nat.le_of_ble_eq_true rfl, Nat.le_of_ble_eq_true rfl⟩) ⟨fb_cPre, pre_of hPc hK hDc⟩ rfl rfl hl.1 rfl (lv_room (Nat.le_of_ble_eq_true rfl)) dX8_weigh_14 ⟨Nat.le_of_ble_eq_true rfl, Nat.le_of_ble_eq_true rfl⟩) (fun r3 uu H locs hr3 hw => ?_)
    subst hr3
    have hw : WS D A s [(mr 1, .inl (Z 0, 108, .inl (aI g))), (M, .inr (8, [.ref (mr 0), .ref (mr 1), .int (nI (mi 2)), .ref (mr 3), .ref (mr 4), .int ima, .ref (mr 6), .int (nI (mi 7)), .ref (mr 8), .ref (mr 9), .ref (mr 10), .long (lN (mi 11)), .long (lN (mi 12)), .ref (mr 13), .ref (mr 14), .ref (mr 15), .ref (mr 16), .ref (mr 17), .ref (mr 18), .int (nI (mi 19)), .ref (mr 20), .ref (mr 21), .ref (mr 22), .ref (mr 23), .long (lN (mi 24)), .long (lN (mi 25)), .int (nI (mi 26)), .int (nI (mi 27)), .ref (mr 28), .int (nI (mi 29)), .int (nI (mi 30)), .int (nI (mi 31)), .int (nI (mi 32))])), (mr 0, .inl (Z 0, 18, .inl (aI p)))] H locs := hw
    refine q_if_ne (tgt := 22) hx hb ((bb (((0 : Nat) : Int) ≤ v.toInt ∧ v.toInt ≤ ((9 : Nat) : Int)) : Nat) : Int) (nI_toInt (Nat.lt_of_le_of_lt (bb_le _) (by decide))) dX8_weigh_17 (by decide) (fun c4 => ?_) (fun c4 => ?_)
    · --
      have c4 := bb_1 c4
      obtain ⟨j, rfl, ej⟩ := i32_nat (x := k) (by omega)
      obtain ⟨y, rfl, ey⟩ := i32_nat (x := v) (by omega)
      refine lv_aload_n hx hb dX8_weigh_22 rfl (lv_at hl 0 rfl) ?_
      refine q_get (v := .ref (mr 0)) (ci := 8) hx hb hts in_X8 hown hK hw 1 0 wd2 dX8_weigh_23 rfl rfl (by decide) rfl ?_
      refine lv_iload_n hx hb dX8_weigh_26 rfl (lv_at hl 1 rfl) ?_
      refine q_iald hx hb hK hw 2 (by omega) (by omega) dX8_weigh_27 rfl ?_
      refine lv_istore_n (lv' := [(3, .int (nI (p j))), (0, .ref M), (1, .int (nI j)), (2, .int (nI y))]) hx hb dX8_weigh_28 rfl hl (by decide) rfl (fun ls hl => ?_)
      have hzj := z_le (z := p) (n := p 0) (k := j) (by omega)
      refine lv_iload_n hx hb dX8_weigh_29 rfl (lv_at hl 0 rfl) ?_
      refine lv_iload_n hx hb dX8_weigh_30 rfl (lv_at hl 3 rfl) ?_
      have hzj := z_le (z := p) (n := p 0) (k := j) (by omega)
      refine q_icmp_ne (tgt := 37) hx hb ((p j : Nat) : Int) ((y : Nat) : Int) (nI_toInt (by omega)) (nI_toInt (by omega)) dX8_weigh_31 (by decide) (fun c5 => ?_) (fun c5 => ?_)
      · --
        refine lv_aload_n hx hb dX8_weigh_37 rfl (lv_at hl 1 rfl) ?_
        refine q_iconst (v := 0) hx hb dX8_weigh_38 (by decide) ?_
        refine q_calli (S := Unit) (Z := Z) (D := D) (wc := [(M, .inr (8, [.ref (mr 0), .ref (mr 1), .int (nI (mi 2)), .ref (mr 3), .ref (mr 4), .int ima, .ref (mr 6), .int (nI (mi 7)), .ref (mr 8), .ref (mr 9), .ref (mr 10), .long (lN (mi 11)), .long (lN (mi 12)), .ref (mr 13), .ref (mr 14), .ref (mr 15), .ref (mr 16), .ref (mr 17), .ref (mr 18), .int (nI (mi 19)), .ref (mr 20), .ref (mr 21), .ref (mr 22), .ref (mr 23), .long (lN (mi 24)), .long (lN (mi 25)), .int (nI (mi 26)), .int (nI (mi 27)), .ref (mr 28), .int (nI (mi 29)), .int (nI (mi 30)), .int (nI (mi 31)), .int (nI (mi 32))])), (mr 0, .inl (Z 0, 18, .inl (aI p)))]) (wr := [(mr 1, .inl (Z 0, 108, .inl (aI g)))]) (rest := []) hw hA [1, 2] [0] rfl rfl rfl rfl (by decide) (fun hPc hDc => va_runV (As := [.int (nI 0)]) (rest := []) ⟨hx, hb, hml, hown, hts⟩ (c_X8_leftOf l D Z H.size M mr mi ima p 0 hn.2 (by first | assumption | omega)) (cwV 1 hts gX8_weigh_X8_leftOf rfl rfl rfl (by decide +kernel) ⟨Nat.le_of_ble_eq_true rfl, Nat.le_of_ble_eq_true rfl⟩) ⟨fb_cPre, va_recv hK.1 hPc (ci := 8) (q0 := 0) rfl rfl, pre_of hPc hK hDc⟩ rfl rfl hl.1 rfl (lv_room (Nat.le_of_ble_eq_true rfl)) dX8_weigh_39 ⟨Nat.le_of_ble_eq_true rfl, Nat.le_of_ble_eq_true rfl⟩) (fun r6 uu H locs hr6 hw => ?_)
        subst hr6
        have hw : WS D A s [(mr 1, .inl (Z 0, 108, .inl (aI g))), (M, .inr (8, [.ref (mr 0), .ref (mr 1), .int (nI (mi 2)), .ref (mr 3), .ref (mr 4), .int ima, .ref (mr 6), .int (nI (mi 7)), .ref (mr 8), .ref (mr 9), .ref (mr 10), .long (lN (mi 11)), .long (lN (mi 12)), .ref (mr 13), .ref (mr 14), .ref (mr 15), .ref (mr 16), .ref (mr 17), .ref (mr 18), .int (nI (mi 19)), .ref (mr 20), .ref (mr 21), .ref (mr 22), .ref (mr 23), .long (lN (mi 24)), .long (lN (mi 25)), .int (nI (mi 26)), .int (nI (mi 27)), .ref (mr 28), .int (nI (mi 29)), .int (nI (mi 30)), .int (nI (mi 31)), .int (nI (mi 32))])), (mr 0, .inl (Z 0, 18, .inl (aI p)))] H locs := hw
        refine lv_iload_n hx hb dX8_weigh_42 rfl (lv_at hl 0 rfl) ?_
        refine q_isub hx hb (by omega) dX8_weigh_43 ?_
        refine lv_iload_n hx hb dX8_weigh_44 rfl (lv_at hl 3 rfl) ?_
        refine q_iadd hx hb dX8_weigh_45 ?_
        refine q_bipush (v := 24) hx hb dX8_weigh_46 (by decide) ?_
        refine q_icmp_le (tgt := 54) hx hb ((lf p (p 0) 0 - (p j) + y : Nat) : Int) ((24 : Nat) : Int) (nI_toInt (by omega)) (nI_toInt (by omega)) dX8_weigh_48 (by decide) (fun c7 => ?_) (fun c7 => ?_)
        · --
          refine lv_iload_n hx hb dX8_weigh_54 rfl (lv_at hl 2 rfl) ?_
          refine lv_aload_n hx hb dX8_weigh_55 rfl (lv_at hl 1 rfl) ?_
          refine q_get (v := .ref (mr 0)) (ci := 8) hx hb hts in_X8 hown hK hw 1 0 wd2 dX8_weigh_56 rfl rfl (by decide) rfl ?_
          refine q_iconst (v := 0) hx hb dX8_weigh_59 (by decide) ?_
          refine q_iald hx hb hK hw 2 (by omega) (by omega) dX8_weigh_60 rfl ?_
          refine q_icmp_ne (tgt := 71) hx hb ((j : Nat) : Int) ((p 0 : Nat) : Int) (nI_toInt (by omega)) (nI_toInt (by omega)) dX8_weigh_61 (by decide) (fun c8 => ?_) (fun c8 => ?_)
          · --
            refine lv_aload_n hx hb dX8_weigh_71 rfl (lv_at hl 1 rfl) ?_
            refine q_callv (S := Unit) (Z := Z) (D := D) (wc := [(M, .inr (8, [.ref (mr 0), .ref (mr 1), .int (nI (mi 2)), .ref (mr 3), .ref (mr 4), .int ima, .ref (mr 6), .int (nI (mi 7)), .ref (mr 8), .ref (mr 9), .ref (mr 10), .long (lN (mi 11)), .long (lN (mi 12)), .ref (mr 13), .ref (mr 14), .ref (mr 15), .ref (mr 16), .ref (mr 17), .ref (mr 18), .int (nI (mi 19)), .ref (mr 20), .ref (mr 21), .ref (mr 22), .ref (mr 23), .long (lN (mi 24)), .long (lN (mi 25)), .int (nI (mi 26)), .int (nI (mi 27)), .ref (mr 28), .int (nI (mi 29)), .int (nI (mi 30)), .int (nI (mi 31)), .int (nI (mi 32))])), (mr 0, .inl (Z 0, 18, .inl (aI p))), (mr 1, .inl (Z 0, 108, .inl (aI g)))]) (wr := []) (rest := []) hw hA [1, 2, 0] [] rfl rfl rfl rfl (by decide) (fun hPc hDc => va_runV (As := []) (rest := []) ⟨hx, hb, hml, hown, hts⟩ (c_X8_notes l D Z H.size M mr mi ima p g (by first | assumption | omega)) (cwV 0 hts gX8_weigh_X8_notes rfl rfl rfl (by decide +kernel) ⟨Nat.le_of_ble_eq_true rfl, Nat.le_of_ble_eq_true rfl⟩) ⟨fb_cPre, va_recv hK.1 hPc (ci := 8) (q0 := 0) rfl rfl, pre_of hPc hK hDc⟩ rfl rfl hl.1 rfl (lv_room (Nat.le_of_ble_eq_true rfl)) dX8_weigh_72 ⟨Nat.le_of_ble_eq_true rfl, Nat.le_of_ble_eq_true rfl⟩) (fun uu H locs hr9 hw => ?_)
            have hw : WS D A s [(M, .inr (8, [.ref (mr 0), .ref (mr 1), .int (nI (min (mi 2 + 1) 6)), .ref (mr 3), .ref (mr 4), .int ima, .ref (mr 6), .int (nI (mi 7)), .ref (mr 8), .ref (mr 9), .ref (mr 10), .long (lN (mi 11)), .long (lN (mi 12)), .ref (mr 13), .ref (mr 14), .ref (mr 15), .ref (mr 16), .ref (mr 17), .ref (mr 18), .int (nI (mi 19)), .ref (mr 20), .ref (mr 21), .ref (mr 22), .ref (mr 23), .long (lN (mi 24)), .long (lN (mi 25)), .int (nI (mi 26)), .int (nI (mi 27)), .ref (mr 28), .int (nI (mi 29)), .int (nI (mi 30)), .int (nI (mi 31)), .int (nI (mi 32))])), (mr 0, .inl (Z 0, 18, .inl (aI p))), (mr 1, .inl (Z 0, 108, .inl (aI (ntG g p (mi 2)))))] H locs := hw
            refine lv_aload_n hx hb dX8_weigh_75 rfl (lv_at hl 1 rfl) ?_
            refine q_get (v := .ref (mr 0)) (ci := 8) hx hb hts in_X8 hown hK hw 0 0 wd2 dX8_weigh_76 rfl rfl (by decide) rfl ?_
            refine lv_iload_n hx hb dX8_weigh_79 rfl (lv_at hl 2 rfl) ?_
            refine lv_iload_n hx hb dX8_weigh_80 rfl (lv_at hl 3 rfl) ?_
            refine q_iast hx hb hK hw 1 (by omega) (by omega) dX8_weigh_81 rfl (fun H locs hw => ?_)
            have hw : WS D A s [(M, .inr (8, [.ref (mr 0), .ref (mr 1), .int (nI (min (mi 2 + 1) 6)), .ref (mr 3), .ref (mr 4), .int ima, .ref (mr 6), .int (nI (mi 7)), .ref (mr 8), .ref (mr 9), .ref (mr 10), .long (lN (mi 11)), .long (lN (mi 12)), .ref (mr 13), .ref (mr 14), .ref (mr 15), .ref (mr 16), .ref (mr 17), .ref (mr 18), .int (nI (mi 19)), .ref (mr 20), .ref (mr 21), .ref (mr 22), .ref (mr 23), .long (lN (mi 24)), .long (lN (mi 25)), .int (nI (mi 26)), .int (nI (mi 27)), .ref (mr 28), .int (nI (mi 29)), .int (nI (mi 30)), .int (nI (mi 31)), .int (nI (mi 32))])), (mr 0, .inl (Z 0, 18, .inl (aI (va_up p j y)))), (mr 1, .inl (Z 0, 108, .inl (aI (ntG g p (mi 2)))))] H locs := hw
            refine lv_aload_n hx hb dX8_weigh_82 rfl (lv_at hl 1 rfl) ?_
            refine q_callv (S := Unit) (Z := Z) (D := D) (wc := [(M, .inr (8, [.ref (mr 0), .ref (mr 1), .int (nI (min (mi 2 + 1) 6)), .ref (mr 3), .ref (mr 4), .int ima, .ref (mr 6), .int (nI (mi 7)), .ref (mr 8), .ref (mr 9), .ref (mr 10), .long (lN (mi 11)), .long (lN (mi 12)), .ref (mr 13), .ref (mr 14), .ref (mr 15), .ref (mr 16), .ref (mr 17), .ref (mr 18), .int (nI (mi 19)), .ref (mr 20), .ref (mr 21), .ref (mr 22), .ref (mr 23), .long (lN (mi 24)), .long (lN (mi 25)), .int (nI (mi 26)), .int (nI (mi 27)), .ref (mr 28), .int (nI (mi 29)), .int (nI (mi 30)), .int (nI (mi 31)), .int (nI (mi 32))])), (mr 0, .inl (Z 0, 18, .inl (aI (va_up p j y))))]) (wr := [(mr 1, .inl (Z 0, 108, .inl (aI (ntG g p (mi 2)))))]) (rest := []) hw hA [0, 1] [2] rfl rfl rfl rfl (by decide) (fun hPc hDc => va_runV (As := []) (rest := []) ⟨hx, hb, hml, hown, hts⟩ (c_X8_begins l D Z H.size M mr (va_up mi 2 (min (mi 2 + 1) 6)) ima (va_up p j y) ) (cwV 0 hts gX8_weigh_X8_begins rfl rfl rfl (by decide +kernel) ⟨Nat.le_of_ble_eq_true rfl, Nat.le_of_ble_eq_true rfl⟩) ⟨fb_cPre, va_recv hK.1 hPc (ci := 8) (q0 := 0) rfl rfl, pre_of hPc hK hDc⟩ rfl rfl hl.1 rfl (lv_room (Nat.le_of_ble_eq_true rfl)) dX8_weigh_83 ⟨Nat.le_of_ble_eq_true rfl, Nat.le_of_ble_eq_true rfl⟩) (fun uu H locs hr10 hw => ?_)
            have hw : WS D A s [(mr 1, .inl (Z 0, 108, .inl (aI (ntG g p (mi 2))))), (M, .inr (8, [.ref (mr 0), .ref (mr 1), .int (nI (min (mi 2 + 1) 6)), .ref (mr 3), .ref (mr 4), .int ima, .ref (mr 6), .int (nI (mi 7)), .ref (mr 8), .ref (mr 9), .ref (mr 10), .long (lN (mi 11)), .long (lN (mi 12)), .ref (mr 13), .ref (mr 14), .ref (mr 15), .ref (mr 16), .ref (mr 17), .ref (mr 18), .int (nI (mi 19)), .ref (mr 20), .ref (mr 21), .ref (mr 22), .ref (mr 23), .long (lN (mi 24)), .long (lN (mi 25)), .int (nI (mi 26)), .int (nI (mi 27)), .ref (mr 28), .int (nI (mi 29)), .int (nI (mi 30)), .int (nI (mi 31)), .int (nI (mi 32))])), (mr 0, .inl (Z 0, 18, .inl (aI (va_up (va_up p j y) 13 0))))] H locs := hw
            refine lv_iload_n hx hb dX8_weigh_86 rfl (lv_at hl 0 rfl) ?_
            exact q_iret (wout := _) hx hb hr hlocks hAe hK (min (mi 2 + 1) 6, va_up (va_up p j y) 13 0, ntG g p (mi 2)) (hw.sub [1, 2, 0] (by decide) rfl) (⟨(wg_5 (j := j) (y := y) ej ey (by omega) (by omega) (by omega) (by omega)).symm, Or.inr ⟨by unfold wgOk; rw [tnI ej, tnI ey]; omega, rfl, rfl, by rw [tnI ej, tnI ey]⟩⟩) dX8_weigh_87
          · --
            refine lv_iload_n hx hb dX8_weigh_64 rfl (lv_at hl 3 rfl) ?_
            refine q_if_ne (tgt := 71) hx hb ((y : Nat) : Int) (nI_toInt (by omega)) dX8_weigh_65 (by decide) (fun c11 => ?_) (fun c11 => ?_)
            · --
              refine lv_aload_n hx hb dX8_weigh_71 rfl (lv_at hl 1 rfl) ?_
              refine q_callv (S := Unit) (Z := Z) (D := D) (wc := [(M, .inr (8, [.ref (mr 0), .ref (mr 1), .int (nI (mi 2)), .ref (mr 3), .ref (mr 4), .int ima, .ref (mr 6), .int (nI (mi 7)), .ref (mr 8), .ref (mr 9), .ref (mr 10), .long (lN (mi 11)), .long (lN (mi 12)), .ref (mr 13), .ref (mr 14), .ref (mr 15), .ref (mr 16), .ref (mr 17), .ref (mr 18), .int (nI (mi 19)), .ref (mr 20), .ref (mr 21), .ref (mr 22), .ref (mr 23), .long (lN (mi 24)), .long (lN (mi 25)), .int (nI (mi 26)), .int (nI (mi 27)), .ref (mr 28), .int (nI (mi 29)), .int (nI (mi 30)), .int (nI (mi 31)), .int (nI (mi 32))])), (mr 0, .inl (Z 0, 18, .inl (aI p))), (mr 1, .inl (Z 0, 108, .inl (aI g)))]) (wr := []) (rest := []) hw hA [1, 2, 0] [] rfl rfl rfl rfl (by decide) (fun hPc hDc => va_runV (As := []) (rest := []) ⟨hx, hb, hml, hown, hts⟩ (c_X8_notes l D Z H.size M mr mi ima p g (by first | assumption | omega)) (cwV 0 hts gX8_weigh_X8_notes rfl rfl rfl (by decide +kernel) ⟨Nat.le_of_ble_eq_true rfl, Nat.le_of_ble_eq_true rfl⟩) ⟨fb_cPre, va_recv hK.1 hPc (ci := 8) (q0 := 0) rfl rfl, pre_of hPc hK hDc⟩ rfl rfl hl.1 rfl (lv_room (Nat.le_of_ble_eq_true rfl)) dX8_weigh_72 ⟨Nat.le_of_ble_eq_true rfl, Nat.le_of_ble_eq_true rfl⟩) (fun uu H locs hr12 hw => ?_)
              have hw : WS D A s [(M, .inr (8, [.ref (mr 0), .ref (mr 1), .int (nI (min (mi 2 + 1) 6)), .ref (mr 3), .ref (mr 4), .int ima, .ref (mr 6), .int (nI (mi 7)), .ref (mr 8), .ref (mr 9), .ref (mr 10), .long (lN (mi 11)), .long (lN (mi 12)), .ref (mr 13), .ref (mr 14), .ref (mr 15), .ref (mr 16), .ref (mr 17), .ref (mr 18), .int (nI (mi 19)), .ref (mr 20), .ref (mr 21), .ref (mr 22), .ref (mr 23), .long (lN (mi 24)), .long (lN (mi 25)), .int (nI (mi 26)), .int (nI (mi 27)), .ref (mr 28), .int (nI (mi 29)), .int (nI (mi 30)), .int (nI (mi 31)), .int (nI (mi 32))])), (mr 0, .inl (Z 0, 18, .inl (aI p))), (mr 1, .inl (Z 0, 108, .inl (aI (ntG g p (mi 2)))))] H locs := hw
              refine lv_aload_n hx hb dX8_weigh_75 rfl (lv_at hl 1 rfl) ?_
              refine q_get (v := .ref (mr 0)) (ci := 8) hx hb hts in_X8 hown hK hw 0 0 wd2 dX8_weigh_76 rfl rfl (by decide) rfl ?_
              refine lv_iload_n hx hb dX8_weigh_79 rfl (lv_at hl 2 rfl) ?_
              refine lv_iload_n hx hb dX8_weigh_80 rfl (lv_at hl 3 rfl) ?_
              refine q_iast hx hb hK hw 1 (by omega) (by omega) dX8_weigh_81 rfl (fun H locs hw => ?_)
              have hw : WS D A s [(M, .inr (8, [.ref (mr 0), .ref (mr 1), .int (nI (min (mi 2 + 1) 6)), .ref (mr 3), .ref (mr 4), .int ima, .ref (mr 6), .int (nI (mi 7)), .ref (mr 8), .ref (mr 9), .ref (mr 10), .long (lN (mi 11)), .long (lN (mi 12)), .ref (mr 13), .ref (mr 14), .ref (mr 15), .ref (mr 16), .ref (mr 17), .ref (mr 18), .int (nI (mi 19)), .ref (mr 20), .ref (mr 21), .ref (mr 22), .ref (mr 23), .long (lN (mi 24)), .long (lN (mi 25)), .int (nI (mi 26)), .int (nI (mi 27)), .ref (mr 28), .int (nI (mi 29)), .int (nI (mi 30)), .int (nI (mi 31)), .int (nI (mi 32))])), (mr 0, .inl (Z 0, 18, .inl (aI (va_up p j y)))), (mr 1, .inl (Z 0, 108, .inl (aI (ntG g p (mi 2)))))] H locs := hw
              refine lv_aload_n hx hb dX8_weigh_82 rfl (lv_at hl 1 rfl) ?_
              refine q_callv (S := Unit) (Z := Z) (D := D) (wc := [(M, .inr (8, [.ref (mr 0), .ref (mr 1), .int (nI (min (mi 2 + 1) 6)), .ref (mr 3), .ref (mr 4), .int ima, .ref (mr 6), .int (nI (mi 7)), .ref (mr 8), .ref (mr 9), .ref (mr 10), .long (lN (mi 11)), .long (lN (mi 12)), .ref (mr 13), .ref (mr 14), .ref (mr 15), .ref (mr 16), .ref (mr 17), .ref (mr 18), .int (nI (mi 19)), .ref (mr 20), .ref (mr 21), .ref (mr 22), .ref (mr 23), .long (lN (mi 24)), .long (lN (mi 25)), .int (nI (mi 26)), .int (nI (mi 27)), .ref (mr 28), .int (nI (mi 29)), .int (nI (mi 30)), .int (nI (mi 31)), .int (nI (mi 32))])), (mr 0, .inl (Z 0, 18, .inl (aI (va_up p j y))))]) (wr := [(mr 1, .inl (Z 0, 108, .inl (aI (ntG g p (mi 2)))))]) (rest := []) hw hA [0, 1] [2] rfl rfl rfl rfl (by decide) (fun hPc hDc => va_runV (As := []) (rest := []) ⟨hx, hb, hml, hown, hts⟩ (c_X8_begins l D Z H.size M mr (va_up mi 2 (min (mi 2 + 1) 6)) ima (va_up p j y) ) (cwV 0 hts gX8_weigh_X8_begins rfl rfl rfl (by decide +kernel) ⟨Nat.le_of_ble_eq_true rfl, Nat.le_of_ble_eq_true rfl⟩) ⟨fb_cPre, va_recv hK.1 hPc (ci := 8) (q0 := 0) rfl rfl, pre_of hPc hK hDc⟩ rfl rfl hl.1 rfl (lv_room (Nat.le_of_ble_eq_true rfl)) dX8_weigh_83 ⟨Nat.le_of_ble_eq_true rfl, Nat.le_of_ble_eq_true rfl⟩) (fun uu H locs hr13 hw => ?_)
              have hw : WS D A s [(mr 1, .inl (Z 0, 108, .inl (aI (ntG g p (mi 2))))), (M, .inr (8, [.ref (mr 0), .ref (mr 1), .int (nI (min (mi 2 + 1) 6)), .ref (mr 3), .ref (mr 4), .int ima, .ref (mr 6), .int (nI (mi 7)), .ref (mr 8), .ref (mr 9), .ref (mr 10), .long (lN (mi 11)), .long (lN (mi 12)), .ref (mr 13), .ref (mr 14), .ref (mr 15), .ref (mr 16), .ref (mr 17), .ref (mr 18), .int (nI (mi 19)), .ref (mr 20), .ref (mr 21), .ref (mr 22), .ref (mr 23), .long (lN (mi 24)), .long (lN (mi 25)), .int (nI (mi 26)), .int (nI (mi 27)), .ref (mr 28), .int (nI (mi 29)), .int (nI (mi 30)), .int (nI (mi 31)), .int (nI (mi 32))])), (mr 0, .inl (Z 0, 18, .inl (aI (va_up (va_up p j y) 13 0))))] H locs := hw
              refine lv_iload_n hx hb dX8_weigh_86 rfl (lv_at hl 0 rfl) ?_
              exact q_iret (wout := _) hx hb hr hlocks hAe hK (min (mi 2 + 1) 6, va_up (va_up p j y) 13 0, ntG g p (mi 2)) (hw.sub [1, 2, 0] (by decide) rfl) (⟨(wg_5 (j := j) (y := y) ej ey (by omega) (by omega) (by omega) (by omega)).symm, Or.inr ⟨by unfold wgOk; rw [tnI ej, tnI ey]; omega, rfl, rfl, by rw [tnI ej, tnI ey]⟩⟩) dX8_weigh_87
            · --
              refine lv_bipush (v := (-4)) hx hb dX8_weigh_68 (by decide) ?_
              exact q_iret (wout := _) hx hb hr hlocks hAe hK (mi 2, p, g) (hw.sub [1, 2, 0] (by decide) rfl) (⟨(wg_4 (j := j) (y := y) ej ey (by omega) (by omega) (by omega) (by omega)).symm, Or.inl ⟨fun q => by unfold wgOk at q; rw [tnI ej, tnI ey] at q; omega, ⟨rfl, rfl, rfl⟩⟩⟩) dX8_weigh_70
        · --
          refine lv_bipush (v := (-3)) hx hb dX8_weigh_51 (by decide) ?_
          exact q_iret (wout := _) hx hb hr hlocks hAe hK (mi 2, p, g) (hw.sub [1, 2, 0] (by decide) rfl) (⟨(wg_3 (j := j) (y := y) ej ey (by omega) (by omega) (by omega)).symm, Or.inl ⟨fun q => by unfold wgOk at q; rw [tnI ej, tnI ey] at q; omega, ⟨rfl, rfl, rfl⟩⟩⟩) dX8_weigh_53
      · --
        refine lv_bipush (v := (-2)) hx hb dX8_weigh_34 (by decide) ?_
        exact q_iret (wout := _) hx hb hr hlocks hAe hK (mi 2, p, g) (hw.sub [1, 2, 0] (by decide) rfl) (⟨(wg_2 (j := j) (y := y) ej ey (by omega) (by omega)).symm, Or.inl ⟨fun q => by unfold wgOk at q; rw [tnI ej] at q; omega, ⟨rfl, rfl, rfl⟩⟩⟩) dX8_weigh_36
    · --
      have c4 := bb_0 c4
      refine lv_iconst (v := (-1)) hx hb dX8_weigh_20 (by decide) ?_
      exact q_iret (wout := _) hx hb hr hlocks hAe hK (mi 2, p, g) (hw.sub [1, 2, 0] (by decide) rfl) (⟨(wg_1 (by omega)).symm, Or.inl ⟨fun q => by unfold wgOk at q; omega, ⟨rfl, rfl, rfl⟩⟩⟩) dX8_weigh_21
set_option maxHeartbeats 4000000 in
set_option maxRecDepth 100000 in
theorem c_X8_ages (l : Launch) (D : va_G) (Z : Nat → ClassId) (zs0 : Nat) (M : Nat) (mr mi : Nat → Nat) (ima : Int32) (p g : Nat → Nat) (v : Int32) (hn : 1 ≤ p 0 ∧ p 0 ≤ 8) (hs : lf p (p 0) 0 ≤ 24) (hac : mi 2 ≤ 6) : cMi l yX8_ages wsX8_ages (rmd 2) D Z zs0 [.ref M, .int v] [(M, .inr (8, [.ref (mr 0), .ref (mr 1), .int (nI (mi 2)), .ref (mr 3), .ref (mr 4), .int ima, .ref (mr 6), .int (nI (mi 7)), .ref (mr 8), .ref (mr 9), .ref (mr 10), .long (lN (mi 11)), .long (lN (mi 12)), .ref (mr 13), .ref (mr 14), .ref (mr 15), .ref (mr 16), .ref (mr 17), .ref (mr 18), .int (nI (mi 19)), .ref (mr 20), .ref (mr 21), .ref (mr 22), .ref (mr 23), .long (lN (mi 24)), .long (lN (mi 25)), .int (nI (mi 26)), .int (nI (mi 27)), .ref (mr 28), .int (nI (mi 29)), .int (nI (mi 30)), .int (nI (mi 31)), .int (nI (mi 32))])), (mr 0, .inl (Z 0, 18, .inl (aI p))), (mr 1, .inl (Z 0, 108, .inl (aI g)))] (S := Nat × (Nat → Nat) × (Nat → Nat)) (fun (r : Int32) (u : Nat × (Nat → Nat) × (Nat → Nat)) => match u with | (ac', p', g') => r = agC (p 0) p v ∧ ((¬ agOk (p 0) p v ∧ ac' = mi 2 ∧ p' = p ∧ g' = g) ∨ (agOk (p 0) p v ∧ ac' = min (mi 2 + 1) 6 ∧ g' = ntG g p (mi 2) ∧ p' = va_up (va_up (zr (rz p (p 0) v.toInt.toNat) v.toInt.toNat (8 - v.toInt.toNat)) 0 v.toInt.toNat) 13 0))) (fun (u : Nat × (Nat → Nat) × (Nat → Nat)) => match u with | (ac', p', g') => [(M, .inr (8, [.ref (mr 0), .ref (mr 1), .int (nI ac'), .ref (mr 3), .ref (mr 4), .int ima, .ref (mr 6), .int (nI (mi 7)), .ref (mr 8), .ref (mr 9), .ref (mr 10), .long (lN (mi 11)), .long (lN (mi 12)), .ref (mr 13), .ref (mr 14), .ref (mr 15), .ref (mr 16), .ref (mr 17), .ref (mr 18), .int (nI (mi 19)), .ref (mr 20), .ref (mr 21), .ref (mr 22), .ref (mr 23), .long (lN (mi 24)), .long (lN (mi 25)), .int (nI (mi 26)), .int (nI (mi 27)), .ref (mr 28), .int (nI (mi 29)), .int (nI (mi 30)), .int (nI (mi 31)), .int (nI (mi 32))])), (mr 0, .inl (Z 0, 18, .inl (aI p'))), (mr 1, .inl (Z 0, 108, .inl (aI g')))]) 0 0 := by
  refine q_open (y := yX8_ages) (ws := wsX8_ages) (av := [.ref M, .int v]) (win := [(M, .inr (8, [.ref (mr 0), .ref (mr 1), .int (nI (mi 2)), .ref (mr 3), .ref (mr 4), .int ima, .ref (mr 6), .int (nI (mi 7)), .ref (mr 8), .ref (mr 9), .ref (mr 10), .long (lN (mi 11)), .long (lN (mi 12)), .ref (mr 13), .ref (mr 14), .ref (mr 15), .ref (mr 16), .ref (mr 17), .ref (mr 18), .int (nI (mi 19)), .ref (mr 20), .ref (mr 21), .ref (mr 22), .ref (mr 23), .long (lN (mi 24)), .long (lN (mi 25)), .int (nI (mi 26)), .int (nI (mi 27)), .ref (mr 28), .int (nI (mi 29)), .int (nI (mi 30)), .int (nI (mi 31)), .int (nI (mi 32))])), (mr 0, .inl (Z 0, 18, .inl (aI p))), (mr 1, .inl (Z 0, 108, .inl (aI g)))]) (Qc := fun zs0 => cQi D Z zs0 [(M, .inr (8, [.ref (mr 0), .ref (mr 1), .int (nI (mi 2)), .ref (mr 3), .ref (mr 4), .int ima, .ref (mr 6), .int (nI (mi 7)), .ref (mr 8), .ref (mr 9), .ref (mr 10), .long (lN (mi 11)), .long (lN (mi 12)), .ref (mr 13), .ref (mr 14), .ref (mr 15), .ref (mr 16), .ref (mr 17), .ref (mr 18), .int (nI (mi 19)), .ref (mr 20), .ref (mr 21), .ref (mr 22), .ref (mr 23), .long (lN (mi 24)), .long (lN (mi 25)), .int (nI (mi 26)), .int (nI (mi 27)), .ref (mr 28), .int (nI (mi 29)), .int (nI (mi 30)), .int (nI (mi 31)), .int (nI (mi 32))])), (mr 0, .inl (Z 0, 18, .inl (aI p))), (mr 1, .inl (Z 0, 108, .inl (aI g)))] (S := Nat × (Nat → Nat) × (Nat → Nat)) (fun (r : Int32) (u : Nat × (Nat → Nat) × (Nat → Nat)) => match u with | (ac', p', g') => r = agC (p 0) p v ∧ ((¬ agOk (p 0) p v ∧ ac' = mi 2 ∧ p' = p ∧ g' = g) ∨ (agOk (p 0) p v ∧ ac' = min (mi 2 + 1) 6 ∧ g' = ntG g p (mi 2) ∧ p' = va_up (va_up (zr (rz p (p 0) v.toInt.toNat) v.toInt.toNat (8 - v.toInt.toNat)) 0 v.toInt.toNat) 13 0))) (fun (u : Nat × (Nat → Nat) × (Nat → Nat)) => match u with | (ac', p', g') => [(M, .inr (8, [.ref (mr 0), .ref (mr 1), .int (nI ac'), .ref (mr 3), .ref (mr 4), .int ima, .ref (mr 6), .int (nI (mi 7)), .ref (mr 8), .ref (mr 9), .ref (mr 10), .long (lN (mi 11)), .long (lN (mi 12)), .ref (mr 13), .ref (mr 14), .ref (mr 15), .ref (mr 16), .ref (mr 17), .ref (mr 18), .int (nI (mi 19)), .ref (mr 20), .ref (mr 21), .ref (mr 22), .ref (mr 23), .long (lN (mi 24)), .long (lN (mi 25)), .int (nI (mi 26)), .int (nI (mi 27)), .ref (mr 28), .int (nI (mi 29)), .int (nI (mi 30)), .int (nI (mi 31)), .int (nI (mi 32))])), (mr 0, .inl (Z 0, 18, .inl (aI p'))), (mr 1, .inl (Z 0, 108, .inl (aI g')))])) (cc := cX8_ages) (maxL := 4) (ret := (some .int)) (by decide) rfl (Nat.le_of_ble_eq_true rfl) ?_
  intro pp ee s mm bw mt cd ls A H locs hAe hx hb hr hml hown hmn hts hlocks hA hK hw hl
  have hown : s.vm.findClass RX8 = some mm.cls := hown
  have hl : lv_has ls 4 [(0, .ref M), (1, .int v)] := hl
  have wd1 := hts (.constantLong RX8 126 (8)) (List.mem_of_getElem? (i := 1) rfl)
  have wd2 := hts (.fieldLink RX8 7 "ReplaceAgesModel" "st" "[I") (List.mem_of_getElem? (i := 2) rfl)
  have in_X8 : ∀ w ∈ wsX80, w ∈ wsX8_ages := fun _ h => List.mem_cons_of_mem _ (List.mem_append_right _ h)
  refine lv_iload_n hx hb dX8_ages_0 rfl (lv_at hl 1 rfl) ?_
  refine lv_i2l hx hb dX8_ages_1 rfl ?_
  refine q_lconst (v := 1) hx hb dX8_ages_2 (by decide) ?_
  refine lv_ldc2 hx hb hown wd1 dX8_ages_3 ?_
  refine q_topl (x := 8) (y := lN 8) (by decide) ?_
  refine q_calli (S := Unit) (Z := Z) (D := D) (wc := []) (wr := [(M, .inr (8, [.ref (mr 0), .ref (mr 1), .int (nI (mi 2)), .ref (mr 3), .ref (mr 4), .int ima, .ref (mr 6), .int (nI (mi 7)), .ref (mr 8), .ref (mr 9), .ref (mr 10), .long (lN (mi 11)), .long (lN (mi 12)), .ref (mr 13), .ref (mr 14), .ref (mr 15), .ref (mr 16), .ref (mr 17), .ref (mr 18), .int (nI (mi 19)), .ref (mr 20), .ref (mr 21), .ref (mr 22), .ref (mr 23), .long (lN (mi 24)), .long (lN (mi 25)), .int (nI (mi 26)), .int (nI (mi 27)), .ref (mr 28), .int (nI (mi 29)), .int (nI (mi 30)), .int (nI (mi 31)), .int (nI (mi 32))])), (mr 0, .inl (Z 0, 18, .inl (aI p))), (mr 1, .inl (Z 0, 108, .inl (aI g)))]) (rest := []) hw hA [] [0, 1, 2] rfl rfl rfl rfl (by decide) (fun hPc hDc => va_runS (As := [.long v.toInt64, .long (lN 1), .long (lN 8)]) (rest := []) ⟨hx, hb, hml, hown, hts⟩ (c_X8_in l D Z H.size v.toInt64 (lN 1) (lN 8) v.toInt ((1 : Nat) : Int) ((8 : Nat) : Int) (Int32.toInt_toInt64 _) (pk_lT (by first | omega | assumption)) (pk_lT (by first | omega | assumption))) (va_cwS 3 hts gX8_ages_X8_in rfl rfl rfl (by decide +kernel) ⟨Nat.le_of_ble_eq_true rfl, Nat.le_of_ble_eq_true rfl⟩) ⟨fb_cPre, pre_of hPc hK hDc⟩ rfl rfl hl.1 rfl (lv_room (Nat.le_of_ble_eq_true rfl)) dX8_ages_6 ⟨Nat.le_of_ble_eq_true rfl, Nat.le_of_ble_eq_true rfl⟩) (fun r1 uu H locs hr1 hw => ?_)
  subst hr1
  have hw : WS D A s [(M, .inr (8, [.ref (mr 0), .ref (mr 1), .int (nI (mi 2)), .ref (mr 3), .ref (mr 4), .int ima, .ref (mr 6), .int (nI (mi 7)), .ref (mr 8), .ref (mr 9), .ref (mr 10), .long (lN (mi 11)), .long (lN (mi 12)), .ref (mr 13), .ref (mr 14), .ref (mr 15), .ref (mr 16), .ref (mr 17), .ref (mr 18), .int (nI (mi 19)), .ref (mr 20), .ref (mr 21), .ref (mr 22), .ref (mr 23), .long (lN (mi 24)), .long (lN (mi 25)), .int (nI (mi 26)), .int (nI (mi 27)), .ref (mr 28), .int (nI (mi 29)), .int (nI (mi 30)), .int (nI (mi 31)), .int (nI (mi 32))])), (mr 0, .inl (Z 0, 18, .inl (aI p))), (mr 1, .inl (Z 0, 108, .inl (aI g)))] H locs := hw
  refine q_if_ne (tgt := 14) hx hb ((bb (((1 : Nat) : Int) ≤ v.toInt ∧ v.toInt ≤ ((8 : Nat) : Int)) : Nat) : Int) (nI_toInt (Nat.lt_of_le_of_lt (bb_le _) (by decide))) dX8_ages_9 (by decide) (fun c2 => ?_) (fun c2 => ?_)
  · --
    have c2 := bb_1 c2
    obtain ⟨y, rfl, ey⟩ := i32_nat (x := v) (by omega)
    refine lv_aload_n hx hb dX8_ages_14 rfl (lv_at hl 0 rfl) ?_
    refine q_get (v := .ref (mr 0)) (ci := 8) hx hb hts in_X8 hown hK hw 0 0 wd2 dX8_ages_15 rfl rfl (by decide) rfl ?_
    refine q_iconst (v := 0) hx hb dX8_ages_18 (by decide) ?_
    refine q_iald hx hb hK hw 1 (by omega) (by omega) dX8_ages_19 rfl ?_
    refine lv_istore_n (lv' := [(2, .int (nI (p 0))), (0, .ref M), (1, .int (nI y))]) hx hb dX8_ages_20 rfl hl (by decide) rfl (fun ls hl => ?_)
    refine lv_iload_n hx hb dX8_ages_21 rfl (lv_at hl 0 rfl) ?_
    refine lv_iload_n hx hb dX8_ages_22 rfl (lv_at hl 2 rfl) ?_
    refine q_icmp_ne (tgt := 29) hx hb ((p 0 : Nat) : Int) ((y : Nat) : Int) (nI_toInt (by omega)) (nI_toInt (by omega)) dX8_ages_23 (by decide) (fun c3 => ?_) (fun c3 => ?_)
    · --
      refine lv_iload_n hx hb dX8_ages_29 rfl (lv_at hl 2 rfl) ?_
      refine lv_iload_n hx hb dX8_ages_30 rfl (lv_at hl 0 rfl) ?_
      refine q_icmp_le (tgt := 51) hx hb ((y : Nat) : Int) ((p 0 : Nat) : Int) (nI_toInt (by omega)) (nI_toInt (by omega)) dX8_ages_31 (by decide) (fun c4 => ?_) (fun c4 => ?_)
      · --
        refine lv_iload_n hx hb dX8_ages_51 rfl (lv_at hl 2 rfl) ?_
        refine lv_iload_n hx hb dX8_ages_52 rfl (lv_at hl 0 rfl) ?_
        refine q_icmp_ge (tgt := 68) hx hb ((y : Nat) : Int) ((p 0 : Nat) : Int) (nI_toInt (by omega)) (nI_toInt (by omega)) dX8_ages_53 (by decide) (fun c5 => ?_) (fun c5 => ?_)
        · --
          refine lv_aload_n hx hb dX8_ages_68 rfl (lv_at hl 1 rfl) ?_
          refine q_callv (S := Unit) (Z := Z) (D := D) (wc := [(M, .inr (8, [.ref (mr 0), .ref (mr 1), .int (nI (mi 2)), .ref (mr 3), .ref (mr 4), .int ima, .ref (mr 6), .int (nI (mi 7)), .ref (mr 8), .ref (mr 9), .ref (mr 10), .long (lN (mi 11)), .long (lN (mi 12)), .ref (mr 13), .ref (mr 14), .ref (mr 15), .ref (mr 16), .ref (mr 17), .ref (mr 18), .int (nI (mi 19)), .ref (mr 20), .ref (mr 21), .ref (mr 22), .ref (mr 23), .long (lN (mi 24)), .long (lN (mi 25)), .int (nI (mi 26)), .int (nI (mi 27)), .ref (mr 28), .int (nI (mi 29)), .int (nI (mi 30)), .int (nI (mi 31)), .int (nI (mi 32))])), (mr 0, .inl (Z 0, 18, .inl (aI p))), (mr 1, .inl (Z 0, 108, .inl (aI g)))]) (wr := []) (rest := []) hw hA [0, 1, 2] [] rfl rfl rfl rfl (by decide) (fun hPc hDc => va_runV (As := []) (rest := []) ⟨hx, hb, hml, hown, hts⟩ (c_X8_notes l D Z H.size M mr mi ima p g (by first | assumption | omega)) (cwV 0 hts gX8_ages_X8_notes rfl rfl rfl (by decide +kernel) ⟨Nat.le_of_ble_eq_true rfl, Nat.le_of_ble_eq_true rfl⟩) ⟨fb_cPre, va_recv hK.1 hPc (ci := 8) (q0 := 0) rfl rfl, pre_of hPc hK hDc⟩ rfl rfl hl.1 rfl (lv_room (Nat.le_of_ble_eq_true rfl)) dX8_ages_69 ⟨Nat.le_of_ble_eq_true rfl, Nat.le_of_ble_eq_true rfl⟩) (fun uu H locs hr6 hw => ?_)
          have hw : WS D A s [(M, .inr (8, [.ref (mr 0), .ref (mr 1), .int (nI (min (mi 2 + 1) 6)), .ref (mr 3), .ref (mr 4), .int ima, .ref (mr 6), .int (nI (mi 7)), .ref (mr 8), .ref (mr 9), .ref (mr 10), .long (lN (mi 11)), .long (lN (mi 12)), .ref (mr 13), .ref (mr 14), .ref (mr 15), .ref (mr 16), .ref (mr 17), .ref (mr 18), .int (nI (mi 19)), .ref (mr 20), .ref (mr 21), .ref (mr 22), .ref (mr 23), .long (lN (mi 24)), .long (lN (mi 25)), .int (nI (mi 26)), .int (nI (mi 27)), .ref (mr 28), .int (nI (mi 29)), .int (nI (mi 30)), .int (nI (mi 31)), .int (nI (mi 32))])), (mr 0, .inl (Z 0, 18, .inl (aI p))), (mr 1, .inl (Z 0, 108, .inl (aI (ntG g p (mi 2)))))] H locs := hw
          refine lv_iload_n hx hb dX8_ages_72 rfl (lv_at hl 0 rfl) ?_
          refine q_iconst (v := 1) hx hb dX8_ages_73 (by decide) ?_
          refine q_iadd hx hb dX8_ages_74 ?_
          refine lv_istore_n (lv' := [(3, .int (nI (p 0 + 1))), (2, .int (nI (p 0))), (0, .ref M), (1, .int (nI y))]) hx hb dX8_ages_75 rfl hl (by decide) rfl (fun ls hl => ?_)
          have hw : WS D A s [(M, .inr (8, [.ref (mr 0), .ref (mr 1), .int (nI (min (mi 2 + 1) 6)), .ref (mr 3), .ref (mr 4), .int ima, .ref (mr 6), .int (nI (mi 7)), .ref (mr 8), .ref (mr 9), .ref (mr 10), .long (lN (mi 11)), .long (lN (mi 12)), .ref (mr 13), .ref (mr 14), .ref (mr 15), .ref (mr 16), .ref (mr 17), .ref (mr 18), .int (nI (mi 19)), .ref (mr 20), .ref (mr 21), .ref (mr 22), .ref (mr 23), .long (lN (mi 24)), .long (lN (mi 25)), .int (nI (mi 26)), .int (nI (mi 27)), .ref (mr 28), .int (nI (mi 29)), .int (nI (mi 30)), .int (nI (mi 31)), .int (nI (mi 32))])), (mr 0, .inl (Z 0, 18, .inl (aI (rz p (p 0) (p 0 + 0))))), (mr 1, .inl (Z 0, 108, .inl (aI (ntG g p (mi 2)))))] H locs := by rw [show (rz p (p 0) (p 0 + 0)) = p from by funext k; simp only [rz]; rw [if_neg (by omega)]]; exact hw
          refine q_loop (σ := Nat) (fun (c : Nat) => y - p 0 - c) (fun (c : Nat) => c ≤ y - p 0) (fun (c : Nat) => [(M, .inr (8, [.ref (mr 0), .ref (mr 1), .int (nI (min (mi 2 + 1) 6)), .ref (mr 3), .ref (mr 4), .int ima, .ref (mr 6), .int (nI (mi 7)), .ref (mr 8), .ref (mr 9), .ref (mr 10), .long (lN (mi 11)), .long (lN (mi 12)), .ref (mr 13), .ref (mr 14), .ref (mr 15), .ref (mr 16), .ref (mr 17), .ref (mr 18), .int (nI (mi 19)), .ref (mr 20), .ref (mr 21), .ref (mr 22), .ref (mr 23), .long (lN (mi 24)), .long (lN (mi 25)), .int (nI (mi 26)), .int (nI (mi 27)), .ref (mr 28), .int (nI (mi 29)), .int (nI (mi 30)), .int (nI (mi 31)), .int (nI (mi 32))])), (mr 0, .inl (Z 0, 18, .inl (aI (rz p (p 0) (p 0 + c))))), (mr 1, .inl (Z 0, 108, .inl (aI (ntG g p (mi 2)))))]) (fun (c : Nat) => [(3, .int (nI (p 0 + 1 + c))), (2, .int (nI (p 0))), (0, .ref M), (1, .int (nI y))]) 0 (Nat.zero_le _) hw (lv_sub hl [0, 1, 2, 3] rfl) ?_
          intro c H locs ls hi76 hw hl ih76
          try dsimp only at hi76 hw hl ih76
          have hw : WS D A s [(M, .inr (8, [.ref (mr 0), .ref (mr 1), .int (nI (min (mi 2 + 1) 6)), .ref (mr 3), .ref (mr 4), .int ima, .ref (mr 6), .int (nI (mi 7)), .ref (mr 8), .ref (mr 9), .ref (mr 10), .long (lN (mi 11)), .long (lN (mi 12)), .ref (mr 13), .ref (mr 14), .ref (mr 15), .ref (mr 16), .ref (mr 17), .ref (mr 18), .int (nI (mi 19)), .ref (mr 20), .ref (mr 21), .ref (mr 22), .ref (mr 23), .long (lN (mi 24)), .long (lN (mi 25)), .int (nI (mi 26)), .int (nI (mi 27)), .ref (mr 28), .int (nI (mi 29)), .int (nI (mi 30)), .int (nI (mi 31)), .int (nI (mi 32))])), (mr 0, .inl (Z 0, 18, .inl (aI (rz p (p 0) (p 0 + c))))), (mr 1, .inl (Z 0, 108, .inl (aI (ntG g p (mi 2)))))] H locs := hw
          have hl : lv_has ls 4 [(3, .int (nI (p 0 + 1 + c))), (2, .int (nI (p 0))), (0, .ref M), (1, .int (nI y))] := hl
          refine lv_iload_n hx hb dX8_ages_76 rfl (lv_at hl 0 rfl) ?_
          refine lv_iload_n hx hb dX8_ages_77 rfl (lv_at hl 3 rfl) ?_
          refine q_icmp_gt (tgt := 94) hx hb ((p 0 + 1 + c : Nat) : Int) ((y : Nat) : Int) (nI_toInt (by omega)) (nI_toInt (by omega)) dX8_ages_78 (by decide) (fun c7 => ?_) (fun c7 => ?_)
          · --
            have ez := rz_end p (n := p 0) (c := c) (v := y) (by omega)
            refine lv_iload_n hx hb dX8_ages_94 rfl (lv_at hl 3 rfl) ?_
            refine q_iconst (v := 1) hx hb dX8_ages_95 (by decide) ?_
            refine q_iadd hx hb dX8_ages_96 ?_
            refine lv_istore_n (lv' := [(3, .int (nI (y + 1))), (2, .int (nI (p 0))), (0, .ref M), (1, .int (nI y))]) hx hb dX8_ages_97 rfl hl (by decide) rfl (fun ls hl => ?_)
            have hw : WS D A s [(M, .inr (8, [.ref (mr 0), .ref (mr 1), .int (nI (min (mi 2 + 1) 6)), .ref (mr 3), .ref (mr 4), .int ima, .ref (mr 6), .int (nI (mi 7)), .ref (mr 8), .ref (mr 9), .ref (mr 10), .long (lN (mi 11)), .long (lN (mi 12)), .ref (mr 13), .ref (mr 14), .ref (mr 15), .ref (mr 16), .ref (mr 17), .ref (mr 18), .int (nI (mi 19)), .ref (mr 20), .ref (mr 21), .ref (mr 22), .ref (mr 23), .long (lN (mi 24)), .long (lN (mi 25)), .int (nI (mi 26)), .int (nI (mi 27)), .ref (mr 28), .int (nI (mi 29)), .int (nI (mi 30)), .int (nI (mi 31)), .int (nI (mi 32))])), (mr 0, .inl (Z 0, 18, .inl (aI (zr (rz p (p 0) y) y 0)))), (mr 1, .inl (Z 0, 108, .inl (aI (ntG g p (mi 2)))))] H locs := by rw [show (zr (rz p (p 0) y) y 0) = (rz p (p 0) (p 0 + c)) from by rw [ez, zr_0]]; exact hw
            refine q_loop (σ := Nat) (fun (d : Nat) => 8 - y - d) (fun (d : Nat) => d ≤ 8 - y) (fun (d : Nat) => [(M, .inr (8, [.ref (mr 0), .ref (mr 1), .int (nI (min (mi 2 + 1) 6)), .ref (mr 3), .ref (mr 4), .int ima, .ref (mr 6), .int (nI (mi 7)), .ref (mr 8), .ref (mr 9), .ref (mr 10), .long (lN (mi 11)), .long (lN (mi 12)), .ref (mr 13), .ref (mr 14), .ref (mr 15), .ref (mr 16), .ref (mr 17), .ref (mr 18), .int (nI (mi 19)), .ref (mr 20), .ref (mr 21), .ref (mr 22), .ref (mr 23), .long (lN (mi 24)), .long (lN (mi 25)), .int (nI (mi 26)), .int (nI (mi 27)), .ref (mr 28), .int (nI (mi 29)), .int (nI (mi 30)), .int (nI (mi 31)), .int (nI (mi 32))])), (mr 0, .inl (Z 0, 18, .inl (aI (zr (rz p (p 0) y) y d)))), (mr 1, .inl (Z 0, 108, .inl (aI (ntG g p (mi 2)))))]) (fun (d : Nat) => [(3, .int (nI (y + 1 + d))), (2, .int (nI (p 0))), (0, .ref M), (1, .int (nI y))]) 0 (Nat.zero_le _) hw (lv_sub hl [0, 1, 2, 3] rfl) ?_
            intro d H locs ls hi98 hw hl ih98
            try dsimp only at hi98 hw hl ih98
            have hw : WS D A s [(M, .inr (8, [.ref (mr 0), .ref (mr 1), .int (nI (min (mi 2 + 1) 6)), .ref (mr 3), .ref (mr 4), .int ima, .ref (mr 6), .int (nI (mi 7)), .ref (mr 8), .ref (mr 9), .ref (mr 10), .long (lN (mi 11)), .long (lN (mi 12)), .ref (mr 13), .ref (mr 14), .ref (mr 15), .ref (mr 16), .ref (mr 17), .ref (mr 18), .int (nI (mi 19)), .ref (mr 20), .ref (mr 21), .ref (mr 22), .ref (mr 23), .long (lN (mi 24)), .long (lN (mi 25)), .int (nI (mi 26)), .int (nI (mi 27)), .ref (mr 28), .int (nI (mi 29)), .int (nI (mi 30)), .int (nI (mi 31)), .int (nI (mi 32))])), (mr 0, .inl (Z 0, 18, .inl (aI (zr (rz p (p 0) y) y d)))), (mr 1, .inl (Z 0, 108, .inl (aI (ntG g p (mi 2)))))] H locs := hw
            have hl : lv_has ls 4 [(3, .int (nI (y + 1 + d))), (2, .int (nI (p 0))), (0, .ref M), (1, .int (nI y))] := hl
            refine lv_iload_n hx hb dX8_ages_98 rfl (lv_at hl 0 rfl) ?_
            refine q_bipush (v := 8) hx hb dX8_ages_99 (by decide) ?_
            refine q_icmp_gt (tgt := 117) hx hb ((y + 1 + d : Nat) : Int) ((8 : Nat) : Int) (nI_toInt (by omega)) (nI_toInt (by omega)) dX8_ages_101 (by decide) (fun c8 => ?_) (fun c8 => ?_)
            · --
              obtain rfl : d = 8 - y := by omega
              refine lv_aload_n hx hb dX8_ages_117 rfl (lv_at hl 2 rfl) ?_
              refine q_get (v := .ref (mr 0)) (ci := 8) hx hb hts in_X8 hown hK hw 0 0 wd2 dX8_ages_118 rfl rfl (by decide) rfl ?_
              refine q_iconst (v := 0) hx hb dX8_ages_121 (by decide) ?_
              refine lv_iload_n hx hb dX8_ages_122 rfl (lv_at hl 3 rfl) ?_
              refine q_iast hx hb hK hw 1 (by omega) (by omega) dX8_ages_123 rfl (fun H locs hw => ?_)
              have hw : WS D A s [(M, .inr (8, [.ref (mr 0), .ref (mr 1), .int (nI (min (mi 2 + 1) 6)), .ref (mr 3), .ref (mr 4), .int ima, .ref (mr 6), .int (nI (mi 7)), .ref (mr 8), .ref (mr 9), .ref (mr 10), .long (lN (mi 11)), .long (lN (mi 12)), .ref (mr 13), .ref (mr 14), .ref (mr 15), .ref (mr 16), .ref (mr 17), .ref (mr 18), .int (nI (mi 19)), .ref (mr 20), .ref (mr 21), .ref (mr 22), .ref (mr 23), .long (lN (mi 24)), .long (lN (mi 25)), .int (nI (mi 26)), .int (nI (mi 27)), .ref (mr 28), .int (nI (mi 29)), .int (nI (mi 30)), .int (nI (mi 31)), .int (nI (mi 32))])), (mr 0, .inl (Z 0, 18, .inl (aI (va_up (zr (rz p (p 0) y) y (8 - y)) 0 y)))), (mr 1, .inl (Z 0, 108, .inl (aI (ntG g p (mi 2)))))] H locs := hw
              refine lv_aload_n hx hb dX8_ages_124 rfl (lv_at hl 2 rfl) ?_
              refine q_callv (S := Unit) (Z := Z) (D := D) (wc := [(M, .inr (8, [.ref (mr 0), .ref (mr 1), .int (nI (min (mi 2 + 1) 6)), .ref (mr 3), .ref (mr 4), .int ima, .ref (mr 6), .int (nI (mi 7)), .ref (mr 8), .ref (mr 9), .ref (mr 10), .long (lN (mi 11)), .long (lN (mi 12)), .ref (mr 13), .ref (mr 14), .ref (mr 15), .ref (mr 16), .ref (mr 17), .ref (mr 18), .int (nI (mi 19)), .ref (mr 20), .ref (mr 21), .ref (mr 22), .ref (mr 23), .long (lN (mi 24)), .long (lN (mi 25)), .int (nI (mi 26)), .int (nI (mi 27)), .ref (mr 28), .int (nI (mi 29)), .int (nI (mi 30)), .int (nI (mi 31)), .int (nI (mi 32))])), (mr 0, .inl (Z 0, 18, .inl (aI (va_up (zr (rz p (p 0) y) y (8 - y)) 0 y))))]) (wr := [(mr 1, .inl (Z 0, 108, .inl (aI (ntG g p (mi 2)))))]) (rest := []) hw hA [0, 1] [2] rfl rfl rfl rfl (by decide) (fun hPc hDc => va_runV (As := []) (rest := []) ⟨hx, hb, hml, hown, hts⟩ (c_X8_begins l D Z H.size M mr (va_up mi 2 (min (mi 2 + 1) 6)) ima (va_up (zr (rz p (p 0) y) y (8 - y)) 0 y) ) (cwV 0 hts gX8_ages_X8_begins rfl rfl rfl (by decide +kernel) ⟨Nat.le_of_ble_eq_true rfl, Nat.le_of_ble_eq_true rfl⟩) ⟨fb_cPre, va_recv hK.1 hPc (ci := 8) (q0 := 0) rfl rfl, pre_of hPc hK hDc⟩ rfl rfl hl.1 rfl (lv_room (Nat.le_of_ble_eq_true rfl)) dX8_ages_125 ⟨Nat.le_of_ble_eq_true rfl, Nat.le_of_ble_eq_true rfl⟩) (fun uu H locs hr9 hw => ?_)
              have hw : WS D A s [(mr 1, .inl (Z 0, 108, .inl (aI (ntG g p (mi 2))))), (M, .inr (8, [.ref (mr 0), .ref (mr 1), .int (nI (min (mi 2 + 1) 6)), .ref (mr 3), .ref (mr 4), .int ima, .ref (mr 6), .int (nI (mi 7)), .ref (mr 8), .ref (mr 9), .ref (mr 10), .long (lN (mi 11)), .long (lN (mi 12)), .ref (mr 13), .ref (mr 14), .ref (mr 15), .ref (mr 16), .ref (mr 17), .ref (mr 18), .int (nI (mi 19)), .ref (mr 20), .ref (mr 21), .ref (mr 22), .ref (mr 23), .long (lN (mi 24)), .long (lN (mi 25)), .int (nI (mi 26)), .int (nI (mi 27)), .ref (mr 28), .int (nI (mi 29)), .int (nI (mi 30)), .int (nI (mi 31)), .int (nI (mi 32))])), (mr 0, .inl (Z 0, 18, .inl (aI (va_up (va_up (zr (rz p (p 0) y) y (8 - y)) 0 y) 13 0))))] H locs := hw
              refine lv_iload_n hx hb dX8_ages_128 rfl (lv_at hl 1 rfl) ?_
              exact q_iret (wout := _) hx hb hr hlocks hAe hK (min (mi 2 + 1) 6, va_up (va_up (zr (rz p (p 0) y) y (8 - y)) 0 y) 13 0, ntG g p (mi 2)) (hw.sub [1, 2, 0] (by decide) rfl) (⟨(ag_5 ey (by omega) (by omega) (by omega) (by omega)).symm, Or.inr ⟨by unfold agOk; rw [tnI ey]; omega, rfl, rfl, by rw [tnI ey]⟩⟩) dX8_ages_129
            · --
              refine lv_aload_n hx hb dX8_ages_104 rfl (lv_at hl 2 rfl) ?_
              refine q_get (v := .ref (mr 0)) (ci := 8) hx hb hts in_X8 hown hK hw 0 0 wd2 dX8_ages_105 rfl rfl (by decide) rfl ?_
              refine lv_iload_n hx hb dX8_ages_108 rfl (lv_at hl 0 rfl) ?_
              refine q_iconst (v := 0) hx hb dX8_ages_109 (by decide) ?_
              refine q_iast hx hb hK hw 1 (by omega) (by omega) dX8_ages_110 rfl (fun H locs hw => ?_)
              have hw : WS D A s [(M, .inr (8, [.ref (mr 0), .ref (mr 1), .int (nI (min (mi 2 + 1) 6)), .ref (mr 3), .ref (mr 4), .int ima, .ref (mr 6), .int (nI (mi 7)), .ref (mr 8), .ref (mr 9), .ref (mr 10), .long (lN (mi 11)), .long (lN (mi 12)), .ref (mr 13), .ref (mr 14), .ref (mr 15), .ref (mr 16), .ref (mr 17), .ref (mr 18), .int (nI (mi 19)), .ref (mr 20), .ref (mr 21), .ref (mr 22), .ref (mr 23), .long (lN (mi 24)), .long (lN (mi 25)), .int (nI (mi 26)), .int (nI (mi 27)), .ref (mr 28), .int (nI (mi 29)), .int (nI (mi 30)), .int (nI (mi 31)), .int (nI (mi 32))])), (mr 0, .inl (Z 0, 18, .inl (aI (va_up (zr (rz p (p 0) y) y d) (y + 1 + d) 0)))), (mr 1, .inl (Z 0, 108, .inl (aI (ntG g p (mi 2)))))] H locs := hw
              refine lv_iinc (v := nI (y + 1 + d + 1)) (lv' := [(3, .int (nI (y + 1 + d + 1))), (2, .int (nI (p 0))), (0, .ref M), (1, .int (nI y))]) hx hb dX8_ages_111 hl (k := 0) rfl (nI_add _ _) (by decide) rfl (fun ls hl => ?_)
              refine lv_goto (tgt := 98) hx hb dX8_ages_114 (by decide) ?_
              have hw : WS D A s [(M, .inr (8, [.ref (mr 0), .ref (mr 1), .int (nI (min (mi 2 + 1) 6)), .ref (mr 3), .ref (mr 4), .int ima, .ref (mr 6), .int (nI (mi 7)), .ref (mr 8), .ref (mr 9), .ref (mr 10), .long (lN (mi 11)), .long (lN (mi 12)), .ref (mr 13), .ref (mr 14), .ref (mr 15), .ref (mr 16), .ref (mr 17), .ref (mr 18), .int (nI (mi 19)), .ref (mr 20), .ref (mr 21), .ref (mr 22), .ref (mr 23), .long (lN (mi 24)), .long (lN (mi 25)), .int (nI (mi 26)), .int (nI (mi 27)), .ref (mr 28), .int (nI (mi 29)), .int (nI (mi 30)), .int (nI (mi 31)), .int (nI (mi 32))])), (mr 0, .inl (Z 0, 18, .inl (aI (zr (rz p (p 0) y) y (d + 1))))), (mr 1, .inl (Z 0, 108, .inl (aI (ntG g p (mi 2)))))] H locs := by rw [show (zr (rz p (p 0) y) y (d + 1)) = (va_up (zr (rz p (p 0) y) y d) (y + 1 + d) 0) from (zr_up _ y d).symm]; exact hw
              exact ih98 (d + 1) H locs ls (by omega) (by omega) hw (lv_sub hl [0, 1, 2, 3] rfl)
          · --
            refine lv_aload_n hx hb dX8_ages_81 rfl (lv_at hl 2 rfl) ?_
            refine q_get (v := .ref (mr 0)) (ci := 8) hx hb hts in_X8 hown hK hw 0 0 wd2 dX8_ages_82 rfl rfl (by decide) rfl ?_
            refine lv_iload_n hx hb dX8_ages_85 rfl (lv_at hl 0 rfl) ?_
            refine q_iconst (v := 1) hx hb dX8_ages_86 (by decide) ?_
            refine q_iast hx hb hK hw 1 (by omega) (by omega) dX8_ages_87 rfl (fun H locs hw => ?_)
            have hw : WS D A s [(M, .inr (8, [.ref (mr 0), .ref (mr 1), .int (nI (min (mi 2 + 1) 6)), .ref (mr 3), .ref (mr 4), .int ima, .ref (mr 6), .int (nI (mi 7)), .ref (mr 8), .ref (mr 9), .ref (mr 10), .long (lN (mi 11)), .long (lN (mi 12)), .ref (mr 13), .ref (mr 14), .ref (mr 15), .ref (mr 16), .ref (mr 17), .ref (mr 18), .int (nI (mi 19)), .ref (mr 20), .ref (mr 21), .ref (mr 22), .ref (mr 23), .long (lN (mi 24)), .long (lN (mi 25)), .int (nI (mi 26)), .int (nI (mi 27)), .ref (mr 28), .int (nI (mi 29)), .int (nI (mi 30)), .int (nI (mi 31)), .int (nI (mi 32))])), (mr 0, .inl (Z 0, 18, .inl (aI (va_up (rz p (p 0) (p 0 + c)) (p 0 + 1 + c) 1)))), (mr 1, .inl (Z 0, 108, .inl (aI (ntG g p (mi 2)))))] H locs := hw
            refine lv_iinc (v := nI (p 0 + 1 + c + 1)) (lv' := [(3, .int (nI (p 0 + 1 + c + 1))), (2, .int (nI (p 0))), (0, .ref M), (1, .int (nI y))]) hx hb dX8_ages_88 hl (k := 0) rfl (nI_add _ _) (by decide) rfl (fun ls hl => ?_)
            refine lv_goto (tgt := 76) hx hb dX8_ages_91 (by decide) ?_
            have hw : WS D A s [(M, .inr (8, [.ref (mr 0), .ref (mr 1), .int (nI (min (mi 2 + 1) 6)), .ref (mr 3), .ref (mr 4), .int ima, .ref (mr 6), .int (nI (mi 7)), .ref (mr 8), .ref (mr 9), .ref (mr 10), .long (lN (mi 11)), .long (lN (mi 12)), .ref (mr 13), .ref (mr 14), .ref (mr 15), .ref (mr 16), .ref (mr 17), .ref (mr 18), .int (nI (mi 19)), .ref (mr 20), .ref (mr 21), .ref (mr 22), .ref (mr 23), .long (lN (mi 24)), .long (lN (mi 25)), .int (nI (mi 26)), .int (nI (mi 27)), .ref (mr 28), .int (nI (mi 29)), .int (nI (mi 30)), .int (nI (mi 31)), .int (nI (mi 32))])), (mr 0, .inl (Z 0, 18, .inl (aI (rz p (p 0) (p 0 + (c + 1)))))), (mr 1, .inl (Z 0, 108, .inl (aI (ntG g p (mi 2)))))] H locs := by rw [show (rz p (p 0) (p 0 + (c + 1))) = (va_up (rz p (p 0) (p 0 + c)) (p 0 + 1 + c) 1) from (rz_up p (p 0) c).symm]; exact hw
            exact ih76 (c + 1) H locs ls (by omega) (by omega) hw (lv_sub hl [0, 1, 2, 3] rfl)
        · --
          refine lv_aload_n hx hb dX8_ages_56 rfl (lv_at hl 1 rfl) ?_
          refine q_get (v := .ref (mr 0)) (ci := 8) hx hb hts in_X8 hown hK hw 0 0 wd2 dX8_ages_57 rfl rfl (by decide) rfl ?_
          refine lv_iload_n hx hb dX8_ages_60 rfl (lv_at hl 2 rfl) ?_
          refine q_iald hx hb hK hw 1 (by omega) (by omega) dX8_ages_61 rfl ?_
          refine q_if_ne (tgt := 68) hx hb ((p y : Nat) : Int) (nI_toInt (Nat.lt_of_le_of_lt (z_le (n := p 0) (by omega)) (by omega))) dX8_ages_62 (by decide) (fun c10 => ?_) (fun c10 => ?_)
          · --
            refine lv_aload_n hx hb dX8_ages_68 rfl (lv_at hl 1 rfl) ?_
            refine q_callv (S := Unit) (Z := Z) (D := D) (wc := [(M, .inr (8, [.ref (mr 0), .ref (mr 1), .int (nI (mi 2)), .ref (mr 3), .ref (mr 4), .int ima, .ref (mr 6), .int (nI (mi 7)), .ref (mr 8), .ref (mr 9), .ref (mr 10), .long (lN (mi 11)), .long (lN (mi 12)), .ref (mr 13), .ref (mr 14), .ref (mr 15), .ref (mr 16), .ref (mr 17), .ref (mr 18), .int (nI (mi 19)), .ref (mr 20), .ref (mr 21), .ref (mr 22), .ref (mr 23), .long (lN (mi 24)), .long (lN (mi 25)), .int (nI (mi 26)), .int (nI (mi 27)), .ref (mr 28), .int (nI (mi 29)), .int (nI (mi 30)), .int (nI (mi 31)), .int (nI (mi 32))])), (mr 0, .inl (Z 0, 18, .inl (aI p))), (mr 1, .inl (Z 0, 108, .inl (aI g)))]) (wr := []) (rest := []) hw hA [0, 1, 2] [] rfl rfl rfl rfl (by decide) (fun hPc hDc => va_runV (As := []) (rest := []) ⟨hx, hb, hml, hown, hts⟩ (c_X8_notes l D Z H.size M mr mi ima p g (by first | assumption | omega)) (cwV 0 hts gX8_ages_X8_notes rfl rfl rfl (by decide +kernel) ⟨Nat.le_of_ble_eq_true rfl, Nat.le_of_ble_eq_true rfl⟩) ⟨fb_cPre, va_recv hK.1 hPc (ci := 8) (q0 := 0) rfl rfl, pre_of hPc hK hDc⟩ rfl rfl hl.1 rfl (lv_room (Nat.le_of_ble_eq_true rfl)) dX8_ages_69 ⟨Nat.le_of_ble_eq_true rfl, Nat.le_of_ble_eq_true rfl⟩) (fun uu H locs hr11 hw => ?_)
            have hw : WS D A s [(M, .inr (8, [.ref (mr 0), .ref (mr 1), .int (nI (min (mi 2 + 1) 6)), .ref (mr 3), .ref (mr 4), .int ima, .ref (mr 6), .int (nI (mi 7)), .ref (mr 8), .ref (mr 9), .ref (mr 10), .long (lN (mi 11)), .long (lN (mi 12)), .ref (mr 13), .ref (mr 14), .ref (mr 15), .ref (mr 16), .ref (mr 17), .ref (mr 18), .int (nI (mi 19)), .ref (mr 20), .ref (mr 21), .ref (mr 22), .ref (mr 23), .long (lN (mi 24)), .long (lN (mi 25)), .int (nI (mi 26)), .int (nI (mi 27)), .ref (mr 28), .int (nI (mi 29)), .int (nI (mi 30)), .int (nI (mi 31)), .int (nI (mi 32))])), (mr 0, .inl (Z 0, 18, .inl (aI p))), (mr 1, .inl (Z 0, 108, .inl (aI (ntG g p (mi 2)))))] H locs := hw
            refine lv_iload_n hx hb dX8_ages_72 rfl (lv_at hl 0 rfl) ?_
            refine q_iconst (v := 1) hx hb dX8_ages_73 (by decide) ?_
            refine q_iadd hx hb dX8_ages_74 ?_
            refine lv_istore_n (lv' := [(3, .int (nI (p 0 + 1))), (2, .int (nI (p 0))), (0, .ref M), (1, .int (nI y))]) hx hb dX8_ages_75 rfl hl (by decide) rfl (fun ls hl => ?_)
            have hw : WS D A s [(M, .inr (8, [.ref (mr 0), .ref (mr 1), .int (nI (min (mi 2 + 1) 6)), .ref (mr 3), .ref (mr 4), .int ima, .ref (mr 6), .int (nI (mi 7)), .ref (mr 8), .ref (mr 9), .ref (mr 10), .long (lN (mi 11)), .long (lN (mi 12)), .ref (mr 13), .ref (mr 14), .ref (mr 15), .ref (mr 16), .ref (mr 17), .ref (mr 18), .int (nI (mi 19)), .ref (mr 20), .ref (mr 21), .ref (mr 22), .ref (mr 23), .long (lN (mi 24)), .long (lN (mi 25)), .int (nI (mi 26)), .int (nI (mi 27)), .ref (mr 28), .int (nI (mi 29)), .int (nI (mi 30)), .int (nI (mi 31)), .int (nI (mi 32))])), (mr 0, .inl (Z 0, 18, .inl (aI (rz p (p 0) (p 0 + 0))))), (mr 1, .inl (Z 0, 108, .inl (aI (ntG g p (mi 2)))))] H locs := by rw [show (rz p (p 0) (p 0 + 0)) = p from by funext k; simp only [rz]; rw [if_neg (by omega)]]; exact hw
            refine q_loop (σ := Nat) (fun (c : Nat) => y - p 0 - c) (fun (c : Nat) => c ≤ y - p 0) (fun (c : Nat) => [(M, .inr (8, [.ref (mr 0), .ref (mr 1), .int (nI (min (mi 2 + 1) 6)), .ref (mr 3), .ref (mr 4), .int ima, .ref (mr 6), .int (nI (mi 7)), .ref (mr 8), .ref (mr 9), .ref (mr 10), .long (lN (mi 11)), .long (lN (mi 12)), .ref (mr 13), .ref (mr 14), .ref (mr 15), .ref (mr 16), .ref (mr 17), .ref (mr 18), .int (nI (mi 19)), .ref (mr 20), .ref (mr 21), .ref (mr 22), .ref (mr 23), .long (lN (mi 24)), .long (lN (mi 25)), .int (nI (mi 26)), .int (nI (mi 27)), .ref (mr 28), .int (nI (mi 29)), .int (nI (mi 30)), .int (nI (mi 31)), .int (nI (mi 32))])), (mr 0, .inl (Z 0, 18, .inl (aI (rz p (p 0) (p 0 + c))))), (mr 1, .inl (Z 0, 108, .inl (aI (ntG g p (mi 2)))))]) (fun (c : Nat) => [(3, .int (nI (p 0 + 1 + c))), (2, .int (nI (p 0))), (0, .ref M), (1, .int (nI y))]) 0 (Nat.zero_le _) hw (lv_sub hl [0, 1, 2, 3] rfl) ?_
            intro c H locs ls hi76 hw hl ih76
            try dsimp only at hi76 hw hl ih76
            have hw : WS D A s [(M, .inr (8, [.ref (mr 0), .ref (mr 1), .int (nI (min (mi 2 + 1) 6)), .ref (mr 3), .ref (mr 4), .int ima, .ref (mr 6), .int (nI (mi 7)), .ref (mr 8), .ref (mr 9), .ref (mr 10), .long (lN (mi 11)), .long (lN (mi 12)), .ref (mr 13), .ref (mr 14), .ref (mr 15), .ref (mr 16), .ref (mr 17), .ref (mr 18), .int (nI (mi 19)), .ref (mr 20), .ref (mr 21), .ref (mr 22), .ref (mr 23), .long (lN (mi 24)), .long (lN (mi 25)), .int (nI (mi 26)), .int (nI (mi 27)), .ref (mr 28), .int (nI (mi 29)), .int (nI (mi 30)), .int (nI (mi 31)), .int (nI (mi 32))])), (mr 0, .inl (Z 0, 18, .inl (aI (rz p (p 0) (p 0 + c))))), (mr 1, .inl (Z 0, 108, .inl (aI (ntG g p (mi 2)))))] H locs := hw
            have hl : lv_has ls 4 [(3, .int (nI (p 0 + 1 + c))), (2, .int (nI (p 0))), (0, .ref M), (1, .int (nI y))] := hl
            refine lv_iload_n hx hb dX8_ages_76 rfl (lv_at hl 0 rfl) ?_
            refine lv_iload_n hx hb dX8_ages_77 rfl (lv_at hl 3 rfl) ?_
            refine q_icmp_gt (tgt := 94) hx hb ((p 0 + 1 + c : Nat) : Int) ((y : Nat) : Int) (nI_toInt (by omega)) (nI_toInt (by omega)) dX8_ages_78 (by decide) (fun c12 => ?_) (fun c12 => ?_)
            · --
              have ez := rz_end p (n := p 0) (c := c) (v := y) (by omega)
              refine lv_iload_n hx hb dX8_ages_94 rfl (lv_at hl 3 rfl) ?_
              refine q_iconst (v := 1) hx hb dX8_ages_95 (by decide) ?_
              refine q_iadd hx hb dX8_ages_96 ?_
              refine lv_istore_n (lv' := [(3, .int (nI (y + 1))), (2, .int (nI (p 0))), (0, .ref M), (1, .int (nI y))]) hx hb dX8_ages_97 rfl hl (by decide) rfl (fun ls hl => ?_)
              have hw : WS D A s [(M, .inr (8, [.ref (mr 0), .ref (mr 1), .int (nI (min (mi 2 + 1) 6)), .ref (mr 3), .ref (mr 4), .int ima, .ref (mr 6), .int (nI (mi 7)), .ref (mr 8), .ref (mr 9), .ref (mr 10), .long (lN (mi 11)), .long (lN (mi 12)), .ref (mr 13), .ref (mr 14), .ref (mr 15), .ref (mr 16), .ref (mr 17), .ref (mr 18), .int (nI (mi 19)), .ref (mr 20), .ref (mr 21), .ref (mr 22), .ref (mr 23), .long (lN (mi 24)), .long (lN (mi 25)), .int (nI (mi 26)), .int (nI (mi 27)), .ref (mr 28), .int (nI (mi 29)), .int (nI (mi 30)), .int (nI (mi 31)), .int (nI (mi 32))])), (mr 0, .inl (Z 0, 18, .inl (aI (zr (rz p (p 0) y) y 0)))), (mr 1, .inl (Z 0, 108, .inl (aI (ntG g p (mi 2)))))] H locs := by rw [show (zr (rz p (p 0) y) y 0) = (rz p (p 0) (p 0 + c)) from by rw [ez, zr_0]]; exact hw
              refine q_loop (σ := Nat) (fun (d : Nat) => 8 - y - d) (fun (d : Nat) => d ≤ 8 - y) (fun (d : Nat) => [(M, .inr (8, [.ref (mr 0), .ref (mr 1), .int (nI (min (mi 2 + 1) 6)), .ref (mr 3), .ref (mr 4), .int ima, .ref (mr 6), .int (nI (mi 7)), .ref (mr 8), .ref (mr 9), .ref (mr 10), .long (lN (mi 11)), .long (lN (mi 12)), .ref (mr 13), .ref (mr 14), .ref (mr 15), .ref (mr 16), .ref (mr 17), .ref (mr 18), .int (nI (mi 19)), .ref (mr 20), .ref (mr 21), .ref (mr 22), .ref (mr 23), .long (lN (mi 24)), .long (lN (mi 25)), .int (nI (mi 26)), .int (nI (mi 27)), .ref (mr 28), .int (nI (mi 29)), .int (nI (mi 30)), .int (nI (mi 31)), .int (nI (mi 32))])), (mr 0, .inl (Z 0, 18, .inl (aI (zr (rz p (p 0) y) y d)))), (mr 1, .inl (Z 0, 108, .inl (aI (ntG g p (mi 2)))))]) (fun (d : Nat) => [(3, .int (nI (y + 1 + d))), (2, .int (nI (p 0))), (0, .ref M), (1, .int (nI y))]) 0 (Nat.zero_le _) hw (lv_sub hl [0, 1, 2, 3] rfl) ?_
              intro d H locs ls hi98 hw hl ih98
              try dsimp only at hi98 hw hl ih98
              have hw : WS D A s [(M, .inr (8, [.ref (mr 0), .ref (mr 1), .int (nI (min (mi 2 + 1) 6)), .ref (mr 3), .ref (mr 4), .int ima, .ref (mr 6), .int (nI (mi 7)), .ref (mr 8), .ref (mr 9), .ref (mr 10), .long (lN (mi 11)), .long (lN (mi 12)), .ref (mr 13), .ref (mr 14), .ref (mr 15), .ref (mr 16), .ref (mr 17), .ref (mr 18), .int (nI (mi 19)), .ref (mr 20), .ref (mr 21), .ref (mr 22), .ref (mr 23), .long (lN (mi 24)), .long (lN (mi 25)), .int (nI (mi 26)), .int (nI (mi 27)), .ref (mr 28), .int (nI (mi 29)), .int (nI (mi 30)), .int (nI (mi 31)), .int (nI (mi 32))])), (mr 0, .inl (Z 0, 18, .inl (aI (zr (rz p (p 0) y) y d)))), (mr 1, .inl (Z 0, 108, .inl (aI (ntG g p (mi 2)))))] H locs := hw
              have hl : lv_has ls 4 [(3, .int (nI (y + 1 + d))), (2, .int (nI (p 0))), (0, .ref M), (1, .int (nI y))] := hl
              refine lv_iload_n hx hb dX8_ages_98 rfl (lv_at hl 0 rfl) ?_
              refine q_bipush (v := 8) hx hb dX8_ages_99 (by decide) ?_
              refine q_icmp_gt (tgt := 117) hx hb ((y + 1 + d : Nat) : Int) ((8 : Nat) : Int) (nI_toInt (by omega)) (nI_toInt (by omega)) dX8_ages_101 (by decide) (fun c13 => ?_) (fun c13 => ?_)
              · --
                obtain rfl : d = 8 - y := by omega
                refine lv_aload_n hx hb dX8_ages_117 rfl (lv_at hl 2 rfl) ?_
                refine q_get (v := .ref (mr 0)) (ci := 8) hx hb hts in_X8 hown hK hw 0 0 wd2 dX8_ages_118 rfl rfl (by decide) rfl ?_
                refine q_iconst (v := 0) hx hb dX8_ages_121 (by decide) ?_
                refine lv_iload_n hx hb dX8_ages_122 rfl (lv_at hl 3 rfl) ?_
                refine q_iast hx hb hK hw 1 (by omega) (by omega) dX8_ages_123 rfl (fun H locs hw => ?_)
                have hw : WS D A s [(M, .inr (8, [.ref (mr 0), .ref (mr 1), .int (nI (min (mi 2 + 1) 6)), .ref (mr 3), .ref (mr 4), .int ima, .ref (mr 6), .int (nI (mi 7)), .ref (mr 8), .ref (mr 9), .ref (mr 10), .long (lN (mi 11)), .long (lN (mi 12)), .ref (mr 13), .ref (mr 14), .ref (mr 15), .ref (mr 16), .ref (mr 17), .ref (mr 18), .int (nI (mi 19)), .ref (mr 20), .ref (mr 21), .ref (mr 22), .ref (mr 23), .long (lN (mi 24)), .long (lN (mi 25)), .int (nI (mi 26)), .int (nI (mi 27)), .ref (mr 28), .int (nI (mi 29)), .int (nI (mi 30)), .int (nI (mi 31)), .int (nI (mi 32))])), (mr 0, .inl (Z 0, 18, .inl (aI (va_up (zr (rz p (p 0) y) y (8 - y)) 0 y)))), (mr 1, .inl (Z 0, 108, .inl (aI (ntG g p (mi 2)))))] H locs := hw
                refine lv_aload_n hx hb dX8_ages_124 rfl (lv_at hl 2 rfl) ?_
                refine q_callv (S := Unit) (Z := Z) (D := D) (wc := [(M, .inr (8, [.ref (mr 0), .ref (mr 1), .int (nI (min (mi 2 + 1) 6)), .ref (mr 3), .ref (mr 4), .int ima, .ref (mr 6), .int (nI (mi 7)), .ref (mr 8), .ref (mr 9), .ref (mr 10), .long (lN (mi 11)), .long (lN (mi 12)), .ref (mr 13), .ref (mr 14), .ref (mr 15), .ref (mr 16), .ref (mr 17), .ref (mr 18), .int (nI (mi 19)), .ref (mr 20), .ref (mr 21), .ref (mr 22), .ref (mr 23), .long (lN (mi 24)), .long (lN (mi 25)), .int (nI (mi 26)), .int (nI (mi 27)), .ref (mr 28), .int (nI (mi 29)), .int (nI (mi 30)), .int (nI (mi 31)), .int (nI (mi 32))])), (mr 0, .inl (Z 0, 18, .inl (aI (va_up (zr (rz p (p 0) y) y (8 - y)) 0 y))))]) (wr := [(mr 1, .inl (Z 0, 108, .inl (aI (ntG g p (mi 2)))))]) (rest := []) hw hA [0, 1] [2] rfl rfl rfl rfl (by decide) (fun hPc hDc => va_runV (As := []) (rest := []) ⟨hx, hb, hml, hown, hts⟩ (c_X8_begins l D Z H.size M mr (va_up mi 2 (min (mi 2 + 1) 6)) ima (va_up (zr (rz p (p 0) y) y (8 - y)) 0 y) ) (cwV 0 hts gX8_ages_X8_begins rfl rfl rfl (by decide +kernel) ⟨Nat.le_of_ble_eq_true rfl, Nat.le_of_ble_eq_true rfl⟩) ⟨fb_cPre, va_recv hK.1 hPc (ci := 8) (q0 := 0) rfl rfl, pre_of hPc hK hDc⟩ rfl rfl hl.1 rfl (lv_room (Nat.le_of_ble_eq_true rfl)) dX8_ages_125 ⟨Nat.le_of_ble_eq_true rfl, Nat.le_of_ble_eq_true rfl⟩) (fun uu H locs hr14 hw => ?_)
                have hw : WS D A s [(mr 1, .inl (Z 0, 108, .inl (aI (ntG g p (mi 2))))), (M, .inr (8, [.ref (mr 0), .ref (mr 1), .int (nI (min (mi 2 + 1) 6)), .ref (mr 3), .ref (mr 4), .int ima, .ref (mr 6), .int (nI (mi 7)), .ref (mr 8), .ref (mr 9), .ref (mr 10), .long (lN (mi 11)), .long (lN (mi 12)), .ref (mr 13), .ref (mr 14), .ref (mr 15), .ref (mr 16), .ref (mr 17), .ref (mr 18), .int (nI (mi 19)), .ref (mr 20), .ref (mr 21), .ref (mr 22), .ref (mr 23), .long (lN (mi 24)), .long (lN (mi 25)), .int (nI (mi 26)), .int (nI (mi 27)), .ref (mr 28), .int (nI (mi 29)), .int (nI (mi 30)), .int (nI (mi 31)), .int (nI (mi 32))])), (mr 0, .inl (Z 0, 18, .inl (aI (va_up (va_up (zr (rz p (p 0) y) y (8 - y)) 0 y) 13 0))))] H locs := hw
                refine lv_iload_n hx hb dX8_ages_128 rfl (lv_at hl 1 rfl) ?_
                exact q_iret (wout := _) hx hb hr hlocks hAe hK (min (mi 2 + 1) 6, va_up (va_up (zr (rz p (p 0) y) y (8 - y)) 0 y) 13 0, ntG g p (mi 2)) (hw.sub [1, 2, 0] (by decide) rfl) (⟨(ag_5 ey (by omega) (by omega) (by omega) (by omega)).symm, Or.inr ⟨by unfold agOk; rw [tnI ey]; omega, rfl, rfl, by rw [tnI ey]⟩⟩) dX8_ages_129
              · --
                refine lv_aload_n hx hb dX8_ages_104 rfl (lv_at hl 2 rfl) ?_
                refine q_get (v := .ref (mr 0)) (ci := 8) hx hb hts in_X8 hown hK hw 0 0 wd2 dX8_ages_105 rfl rfl (by decide) rfl ?_
                refine lv_iload_n hx hb dX8_ages_108 rfl (lv_at hl 0 rfl) ?_
                refine q_iconst (v := 0) hx hb dX8_ages_109 (by decide) ?_
                refine q_iast hx hb hK hw 1 (by omega) (by omega) dX8_ages_110 rfl (fun H locs hw => ?_)
                have hw : WS D A s [(M, .inr (8, [.ref (mr 0), .ref (mr 1), .int (nI (min (mi 2 + 1) 6)), .ref (mr 3), .ref (mr 4), .int ima, .ref (mr 6), .int (nI (mi 7)), .ref (mr 8), .ref (mr 9), .ref (mr 10), .long (lN (mi 11)), .long (lN (mi 12)), .ref (mr 13), .ref (mr 14), .ref (mr 15), .ref (mr 16), .ref (mr 17), .ref (mr 18), .int (nI (mi 19)), .ref (mr 20), .ref (mr 21), .ref (mr 22), .ref (mr 23), .long (lN (mi 24)), .long (lN (mi 25)), .int (nI (mi 26)), .int (nI (mi 27)), .ref (mr 28), .int (nI (mi 29)), .int (nI (mi 30)), .int (nI (mi 31)), .int (nI (mi 32))])), (mr 0, .inl (Z 0, 18, .inl (aI (va_up (zr (rz p (p 0) y) y d) (y + 1 + d) 0)))), (mr 1, .inl (Z 0, 108, .inl (aI (ntG g p (mi 2)))))] H locs := hw
                refine lv_iinc (v := nI (y + 1 + d + 1)) (lv' := [(3, .int (nI (y + 1 + d + 1))), (2, .int (nI (p 0))), (0, .ref M), (1, .int (nI y))]) hx hb dX8_ages_111 hl (k := 0) rfl (nI_add _ _) (by decide) rfl (fun ls hl => ?_)
                refine lv_goto (tgt := 98) hx hb dX8_ages_114 (by decide) ?_
                have hw : WS D A s [(M, .inr (8, [.ref (mr 0), .ref (mr 1), .int (nI (min (mi 2 + 1) 6)), .ref (mr 3), .ref (mr 4), .int ima, .ref (mr 6), .int (nI (mi 7)), .ref (mr 8), .ref (mr 9), .ref (mr 10), .long (lN (mi 11)), .long (lN (mi 12)), .ref (mr 13), .ref (mr 14), .ref (mr 15), .ref (mr 16), .ref (mr 17), .ref (mr 18), .int (nI (mi 19)), .ref (mr 20), .ref (mr 21), .ref (mr 22), .ref (mr 23), .long (lN (mi 24)), .long (lN (mi 25)), .int (nI (mi 26)), .int (nI (mi 27)), .ref (mr 28), .int (nI (mi 29)), .int (nI (mi 30)), .int (nI (mi 31)), .int (nI (mi 32))])), (mr 0, .inl (Z 0, 18, .inl (aI (zr (rz p (p 0) y) y (d + 1))))), (mr 1, .inl (Z 0, 108, .inl (aI (ntG g p (mi 2)))))] H locs := by rw [show (zr (rz p (p 0) y) y (d + 1)) = (va_up (zr (rz p (p 0) y) y d) (y + 1 + d) 0) from (zr_up _ y d).symm]; exact hw
                exact ih98 (d + 1) H locs ls (by omega) (by omega) hw (lv_sub hl [0, 1, 2, 3] rfl)
            · --
              refine lv_aload_n hx hb dX8_ages_81 rfl (lv_at hl 2 rfl) ?_
              refine q_get (v := .ref (mr 0)) (ci := 8) hx hb hts in_X8 hown hK hw 0 0 wd2 dX8_ages_82 rfl rfl (by decide) rfl ?_
              refine lv_iload_n hx hb dX8_ages_85 rfl (lv_at hl 0 rfl) ?_
              refine q_iconst (v := 1) hx hb dX8_ages_86 (by decide) ?_
              refine q_iast hx hb hK hw 1 (by omega) (by omega) dX8_ages_87 rfl (fun H locs hw => ?_)
              have hw : WS D A s [(M, .inr (8, [.ref (mr 0), .ref (mr 1), .int (nI (min (mi 2 + 1) 6)), .ref (mr 3), .ref (mr 4), .int ima, .ref (mr 6), .int (nI (mi 7)), .ref (mr 8), .ref (mr 9), .ref (mr 10), .long (lN (mi 11)), .long (lN (mi 12)), .ref (mr 13), .ref (mr 14), .ref (mr 15), .ref (mr 16), .ref (mr 17), .ref (mr 18), .int (nI (mi 19)), .ref (mr 20), .ref (mr 21), .ref (mr 22), .ref (mr 23), .long (lN (mi 24)), .long (lN (mi 25)), .int (nI (mi 26)), .int (nI (mi 27)), .ref (mr 28), .int (nI (mi 29)), .int (nI (mi 30)), .int (nI (mi 31)), .int (nI (mi 32))])), (mr 0, .inl (Z 0, 18, .inl (aI (va_up (rz p (p 0) (p 0 + c)) (p 0 + 1 + c) 1)))), (mr 1, .inl (Z 0, 108, .inl (aI (ntG g p (mi 2)))))] H locs := hw
              refine lv_iinc (v := nI (p 0 + 1 + c + 1)) (lv' := [(3, .int (nI (p 0 + 1 + c + 1))), (2, .int (nI (p 0))), (0, .ref M), (1, .int (nI y))]) hx hb dX8_ages_88 hl (k := 0) rfl (nI_add _ _) (by decide) rfl (fun ls hl => ?_)
              refine lv_goto (tgt := 76) hx hb dX8_ages_91 (by decide) ?_
              have hw : WS D A s [(M, .inr (8, [.ref (mr 0), .ref (mr 1), .int (nI (min (mi 2 + 1) 6)), .ref (mr 3), .ref (mr 4), .int ima, .ref (mr 6), .int (nI (mi 7)), .ref (mr 8), .ref (mr 9), .ref (mr 10), .long (lN (mi 11)), .long (lN (mi 12)), .ref (mr 13), .ref (mr 14), .ref (mr 15), .ref (mr 16), .ref (mr 17), .ref (mr 18), .int (nI (mi 19)), .ref (mr 20), .ref (mr 21), .ref (mr 22), .ref (mr 23), .long (lN (mi 24)), .long (lN (mi 25)), .int (nI (mi 26)), .int (nI (mi 27)), .ref (mr 28), .int (nI (mi 29)), .int (nI (mi 30)), .int (nI (mi 31)), .int (nI (mi 32))])), (mr 0, .inl (Z 0, 18, .inl (aI (rz p (p 0) (p 0 + (c + 1)))))), (mr 1, .inl (Z 0, 108, .inl (aI (ntG g p (mi 2)))))] H locs := by rw [show (rz p (p 0) (p 0 + (c + 1))) = (va_up (rz p (p 0) (p 0 + c)) (p 0 + 1 + c) 1) from (rz_up p (p 0) c).symm]; exact hw
              exact ih76 (c + 1) H locs ls (by omega) (by omega) hw (lv_sub hl [0, 1, 2, 3] rfl)
          · --
            refine lv_bipush (v := (-4)) hx hb dX8_ages_65 (by decide) ?_
            exact q_iret (wout := _) hx hb hr hlocks hAe hK (mi 2, p, g) hw (⟨(ag_4 ey (by omega) (by omega) (by omega) (by omega)).symm, Or.inl ⟨fun q => by unfold agOk at q; rw [tnI ey] at q; omega, ⟨rfl, rfl, rfl⟩⟩⟩) dX8_ages_67
      · --
        refine lv_aload_n hx hb dX8_ages_34 rfl (lv_at hl 1 rfl) ?_
        refine q_iconst (v := 0) hx hb dX8_ages_35 (by decide) ?_
        refine q_calli (S := Unit) (Z := Z) (D := D) (wc := [(M, .inr (8, [.ref (mr 0), .ref (mr 1), .int (nI (mi 2)), .ref (mr 3), .ref (mr 4), .int ima, .ref (mr 6), .int (nI (mi 7)), .ref (mr 8), .ref (mr 9), .ref (mr 10), .long (lN (mi 11)), .long (lN (mi 12)), .ref (mr 13), .ref (mr 14), .ref (mr 15), .ref (mr 16), .ref (mr 17), .ref (mr 18), .int (nI (mi 19)), .ref (mr 20), .ref (mr 21), .ref (mr 22), .ref (mr 23), .long (lN (mi 24)), .long (lN (mi 25)), .int (nI (mi 26)), .int (nI (mi 27)), .ref (mr 28), .int (nI (mi 29)), .int (nI (mi 30)), .int (nI (mi 31)), .int (nI (mi 32))])), (mr 0, .inl (Z 0, 18, .inl (aI p)))]) (wr := [(mr 1, .inl (Z 0, 108, .inl (aI g)))]) (rest := []) hw hA [0, 1] [2] rfl rfl rfl rfl (by decide) (fun hPc hDc => va_runV (As := [.int (nI 0)]) (rest := []) ⟨hx, hb, hml, hown, hts⟩ (c_X8_leftOf l D Z H.size M mr mi ima p 0 hn.2 (by first | assumption | omega)) (cwV 1 hts gX8_ages_X8_leftOf rfl rfl rfl (by decide +kernel) ⟨Nat.le_of_ble_eq_true rfl, Nat.le_of_ble_eq_true rfl⟩) ⟨fb_cPre, va_recv hK.1 hPc (ci := 8) (q0 := 0) rfl rfl, pre_of hPc hK hDc⟩ rfl rfl hl.1 rfl (lv_room (Nat.le_of_ble_eq_true rfl)) dX8_ages_36 ⟨Nat.le_of_ble_eq_true rfl, Nat.le_of_ble_eq_true rfl⟩) (fun r15 uu H locs hr15 hw => ?_)
        subst hr15
        have hw : WS D A s [(mr 1, .inl (Z 0, 108, .inl (aI g))), (M, .inr (8, [.ref (mr 0), .ref (mr 1), .int (nI (mi 2)), .ref (mr 3), .ref (mr 4), .int ima, .ref (mr 6), .int (nI (mi 7)), .ref (mr 8), .ref (mr 9), .ref (mr 10), .long (lN (mi 11)), .long (lN (mi 12)), .ref (mr 13), .ref (mr 14), .ref (mr 15), .ref (mr 16), .ref (mr 17), .ref (mr 18), .int (nI (mi 19)), .ref (mr 20), .ref (mr 21), .ref (mr 22), .ref (mr 23), .long (lN (mi 24)), .long (lN (mi 25)), .int (nI (mi 26)), .int (nI (mi 27)), .ref (mr 28), .int (nI (mi 29)), .int (nI (mi 30)), .int (nI (mi 31)), .int (nI (mi 32))])), (mr 0, .inl (Z 0, 18, .inl (aI p)))] H locs := hw
        refine lv_iload_n hx hb dX8_ages_39 rfl (lv_at hl 2 rfl) ?_
        refine q_iadd hx hb dX8_ages_40 ?_
        refine lv_iload_n hx hb dX8_ages_41 rfl (lv_at hl 0 rfl) ?_
        refine q_isub hx hb (by omega) dX8_ages_42 ?_
        refine q_bipush (v := 24) hx hb dX8_ages_43 (by decide) ?_
        refine q_icmp_le (tgt := 51) hx hb ((lf p (p 0) 0 + y - (p 0) : Nat) : Int) ((24 : Nat) : Int) (nI_toInt (by omega)) (nI_toInt (by omega)) dX8_ages_45 (by decide) (fun c16 => ?_) (fun c16 => ?_)
        · --
          refine lv_iload_n hx hb dX8_ages_51 rfl (lv_at hl 2 rfl) ?_
          refine lv_iload_n hx hb dX8_ages_52 rfl (lv_at hl 0 rfl) ?_
          refine q_icmp_ge (tgt := 68) hx hb ((y : Nat) : Int) ((p 0 : Nat) : Int) (nI_toInt (by omega)) (nI_toInt (by omega)) dX8_ages_53 (by decide) (fun c17 => ?_) (fun c17 => ?_)
          · --
            refine lv_aload_n hx hb dX8_ages_68 rfl (lv_at hl 1 rfl) ?_
            refine q_callv (S := Unit) (Z := Z) (D := D) (wc := [(M, .inr (8, [.ref (mr 0), .ref (mr 1), .int (nI (mi 2)), .ref (mr 3), .ref (mr 4), .int ima, .ref (mr 6), .int (nI (mi 7)), .ref (mr 8), .ref (mr 9), .ref (mr 10), .long (lN (mi 11)), .long (lN (mi 12)), .ref (mr 13), .ref (mr 14), .ref (mr 15), .ref (mr 16), .ref (mr 17), .ref (mr 18), .int (nI (mi 19)), .ref (mr 20), .ref (mr 21), .ref (mr 22), .ref (mr 23), .long (lN (mi 24)), .long (lN (mi 25)), .int (nI (mi 26)), .int (nI (mi 27)), .ref (mr 28), .int (nI (mi 29)), .int (nI (mi 30)), .int (nI (mi 31)), .int (nI (mi 32))])), (mr 0, .inl (Z 0, 18, .inl (aI p))), (mr 1, .inl (Z 0, 108, .inl (aI g)))]) (wr := []) (rest := []) hw hA [1, 2, 0] [] rfl rfl rfl rfl (by decide) (fun hPc hDc => va_runV (As := []) (rest := []) ⟨hx, hb, hml, hown, hts⟩ (c_X8_notes l D Z H.size M mr mi ima p g (by first | assumption | omega)) (cwV 0 hts gX8_ages_X8_notes rfl rfl rfl (by decide +kernel) ⟨Nat.le_of_ble_eq_true rfl, Nat.le_of_ble_eq_true rfl⟩) ⟨fb_cPre, va_recv hK.1 hPc (ci := 8) (q0 := 0) rfl rfl, pre_of hPc hK hDc⟩ rfl rfl hl.1 rfl (lv_room (Nat.le_of_ble_eq_true rfl)) dX8_ages_69 ⟨Nat.le_of_ble_eq_true rfl, Nat.le_of_ble_eq_true rfl⟩) (fun uu H locs hr18 hw => ?_)
            have hw : WS D A s [(M, .inr (8, [.ref (mr 0), .ref (mr 1), .int (nI (min (mi 2 + 1) 6)), .ref (mr 3), .ref (mr 4), .int ima, .ref (mr 6), .int (nI (mi 7)), .ref (mr 8), .ref (mr 9), .ref (mr 10), .long (lN (mi 11)), .long (lN (mi 12)), .ref (mr 13), .ref (mr 14), .ref (mr 15), .ref (mr 16), .ref (mr 17), .ref (mr 18), .int (nI (mi 19)), .ref (mr 20), .ref (mr 21), .ref (mr 22), .ref (mr 23), .long (lN (mi 24)), .long (lN (mi 25)), .int (nI (mi 26)), .int (nI (mi 27)), .ref (mr 28), .int (nI (mi 29)), .int (nI (mi 30)), .int (nI (mi 31)), .int (nI (mi 32))])), (mr 0, .inl (Z 0, 18, .inl (aI p))), (mr 1, .inl (Z 0, 108, .inl (aI (ntG g p (mi 2)))))] H locs := hw
            refine lv_iload_n hx hb dX8_ages_72 rfl (lv_at hl 0 rfl) ?_
            refine q_iconst (v := 1) hx hb dX8_ages_73 (by decide) ?_
            refine q_iadd hx hb dX8_ages_74 ?_
            refine lv_istore_n (lv' := [(3, .int (nI (p 0 + 1))), (2, .int (nI (p 0))), (0, .ref M), (1, .int (nI y))]) hx hb dX8_ages_75 rfl hl (by decide) rfl (fun ls hl => ?_)
            have hw : WS D A s [(M, .inr (8, [.ref (mr 0), .ref (mr 1), .int (nI (min (mi 2 + 1) 6)), .ref (mr 3), .ref (mr 4), .int ima, .ref (mr 6), .int (nI (mi 7)), .ref (mr 8), .ref (mr 9), .ref (mr 10), .long (lN (mi 11)), .long (lN (mi 12)), .ref (mr 13), .ref (mr 14), .ref (mr 15), .ref (mr 16), .ref (mr 17), .ref (mr 18), .int (nI (mi 19)), .ref (mr 20), .ref (mr 21), .ref (mr 22), .ref (mr 23), .long (lN (mi 24)), .long (lN (mi 25)), .int (nI (mi 26)), .int (nI (mi 27)), .ref (mr 28), .int (nI (mi 29)), .int (nI (mi 30)), .int (nI (mi 31)), .int (nI (mi 32))])), (mr 0, .inl (Z 0, 18, .inl (aI (rz p (p 0) (p 0 + 0))))), (mr 1, .inl (Z 0, 108, .inl (aI (ntG g p (mi 2)))))] H locs := by rw [show (rz p (p 0) (p 0 + 0)) = p from by funext k; simp only [rz]; rw [if_neg (by omega)]]; exact hw
            refine q_loop (σ := Nat) (fun (c : Nat) => y - p 0 - c) (fun (c : Nat) => c ≤ y - p 0) (fun (c : Nat) => [(M, .inr (8, [.ref (mr 0), .ref (mr 1), .int (nI (min (mi 2 + 1) 6)), .ref (mr 3), .ref (mr 4), .int ima, .ref (mr 6), .int (nI (mi 7)), .ref (mr 8), .ref (mr 9), .ref (mr 10), .long (lN (mi 11)), .long (lN (mi 12)), .ref (mr 13), .ref (mr 14), .ref (mr 15), .ref (mr 16), .ref (mr 17), .ref (mr 18), .int (nI (mi 19)), .ref (mr 20), .ref (mr 21), .ref (mr 22), .ref (mr 23), .long (lN (mi 24)), .long (lN (mi 25)), .int (nI (mi 26)), .int (nI (mi 27)), .ref (mr 28), .int (nI (mi 29)), .int (nI (mi 30)), .int (nI (mi 31)), .int (nI (mi 32))])), (mr 0, .inl (Z 0, 18, .inl (aI (rz p (p 0) (p 0 + c))))), (mr 1, .inl (Z 0, 108, .inl (aI (ntG g p (mi 2)))))]) (fun (c : Nat) => [(3, .int (nI (p 0 + 1 + c))), (2, .int (nI (p 0))), (0, .ref M), (1, .int (nI y))]) 0 (Nat.zero_le _) hw (lv_sub hl [0, 1, 2, 3] rfl) ?_
            intro c H locs ls hi76 hw hl ih76
            try dsimp only at hi76 hw hl ih76
            have hw : WS D A s [(M, .inr (8, [.ref (mr 0), .ref (mr 1), .int (nI (min (mi 2 + 1) 6)), .ref (mr 3), .ref (mr 4), .int ima, .ref (mr 6), .int (nI (mi 7)), .ref (mr 8), .ref (mr 9), .ref (mr 10), .long (lN (mi 11)), .long (lN (mi 12)), .ref (mr 13), .ref (mr 14), .ref (mr 15), .ref (mr 16), .ref (mr 17), .ref (mr 18), .int (nI (mi 19)), .ref (mr 20), .ref (mr 21), .ref (mr 22), .ref (mr 23), .long (lN (mi 24)), .long (lN (mi 25)), .int (nI (mi 26)), .int (nI (mi 27)), .ref (mr 28), .int (nI (mi 29)), .int (nI (mi 30)), .int (nI (mi 31)), .int (nI (mi 32))])), (mr 0, .inl (Z 0, 18, .inl (aI (rz p (p 0) (p 0 + c))))), (mr 1, .inl (Z 0, 108, .inl (aI (ntG g p (mi 2)))))] H locs := hw
            have hl : lv_has ls 4 [(3, .int (nI (p 0 + 1 + c))), (2, .int (nI (p 0))), (0, .ref M), (1, .int (nI y))] := hl
            refine lv_iload_n hx hb dX8_ages_76 rfl (lv_at hl 0 rfl) ?_
            refine lv_iload_n hx hb dX8_ages_77 rfl (lv_at hl 3 rfl) ?_
            refine q_icmp_gt (tgt := 94) hx hb ((p 0 + 1 + c : Nat) : Int) ((y : Nat) : Int) (nI_toInt (by omega)) (nI_toInt (by omega)) dX8_ages_78 (by decide) (fun c19 => ?_) (fun c19 => ?_)
            · --
              have ez := rz_end p (n := p 0) (c := c) (v := y) (by omega)
              refine lv_iload_n hx hb dX8_ages_94 rfl (lv_at hl 3 rfl) ?_
              refine q_iconst (v := 1) hx hb dX8_ages_95 (by decide) ?_
              refine q_iadd hx hb dX8_ages_96 ?_
              refine lv_istore_n (lv' := [(3, .int (nI (y + 1))), (2, .int (nI (p 0))), (0, .ref M), (1, .int (nI y))]) hx hb dX8_ages_97 rfl hl (by decide) rfl (fun ls hl => ?_)
              have hw : WS D A s [(M, .inr (8, [.ref (mr 0), .ref (mr 1), .int (nI (min (mi 2 + 1) 6)), .ref (mr 3), .ref (mr 4), .int ima, .ref (mr 6), .int (nI (mi 7)), .ref (mr 8), .ref (mr 9), .ref (mr 10), .long (lN (mi 11)), .long (lN (mi 12)), .ref (mr 13), .ref (mr 14), .ref (mr 15), .ref (mr 16), .ref (mr 17), .ref (mr 18), .int (nI (mi 19)), .ref (mr 20), .ref (mr 21), .ref (mr 22), .ref (mr 23), .long (lN (mi 24)), .long (lN (mi 25)), .int (nI (mi 26)), .int (nI (mi 27)), .ref (mr 28), .int (nI (mi 29)), .int (nI (mi 30)), .int (nI (mi 31)), .int (nI (mi 32))])), (mr 0, .inl (Z 0, 18, .inl (aI (zr (rz p (p 0) y) y 0)))), (mr 1, .inl (Z 0, 108, .inl (aI (ntG g p (mi 2)))))] H locs := by rw [show (zr (rz p (p 0) y) y 0) = (rz p (p 0) (p 0 + c)) from by rw [ez, zr_0]]; exact hw
              refine q_loop (σ := Nat) (fun (d : Nat) => 8 - y - d) (fun (d : Nat) => d ≤ 8 - y) (fun (d : Nat) => [(M, .inr (8, [.ref (mr 0), .ref (mr 1), .int (nI (min (mi 2 + 1) 6)), .ref (mr 3), .ref (mr 4), .int ima, .ref (mr 6), .int (nI (mi 7)), .ref (mr 8), .ref (mr 9), .ref (mr 10), .long (lN (mi 11)), .long (lN (mi 12)), .ref (mr 13), .ref (mr 14), .ref (mr 15), .ref (mr 16), .ref (mr 17), .ref (mr 18), .int (nI (mi 19)), .ref (mr 20), .ref (mr 21), .ref (mr 22), .ref (mr 23), .long (lN (mi 24)), .long (lN (mi 25)), .int (nI (mi 26)), .int (nI (mi 27)), .ref (mr 28), .int (nI (mi 29)), .int (nI (mi 30)), .int (nI (mi 31)), .int (nI (mi 32))])), (mr 0, .inl (Z 0, 18, .inl (aI (zr (rz p (p 0) y) y d)))), (mr 1, .inl (Z 0, 108, .inl (aI (ntG g p (mi 2)))))]) (fun (d : Nat) => [(3, .int (nI (y + 1 + d))), (2, .int (nI (p 0))), (0, .ref M), (1, .int (nI y))]) 0 (Nat.zero_le _) hw (lv_sub hl [0, 1, 2, 3] rfl) ?_
              intro d H locs ls hi98 hw hl ih98
              try dsimp only at hi98 hw hl ih98
              have hw : WS D A s [(M, .inr (8, [.ref (mr 0), .ref (mr 1), .int (nI (min (mi 2 + 1) 6)), .ref (mr 3), .ref (mr 4), .int ima, .ref (mr 6), .int (nI (mi 7)), .ref (mr 8), .ref (mr 9), .ref (mr 10), .long (lN (mi 11)), .long (lN (mi 12)), .ref (mr 13), .ref (mr 14), .ref (mr 15), .ref (mr 16), .ref (mr 17), .ref (mr 18), .int (nI (mi 19)), .ref (mr 20), .ref (mr 21), .ref (mr 22), .ref (mr 23), .long (lN (mi 24)), .long (lN (mi 25)), .int (nI (mi 26)), .int (nI (mi 27)), .ref (mr 28), .int (nI (mi 29)), .int (nI (mi 30)), .int (nI (mi 31)), .int (nI (mi 32))])), (mr 0, .inl (Z 0, 18, .inl (aI (zr (rz p (p 0) y) y d)))), (mr 1, .inl (Z 0, 108, .inl (aI (ntG g p (mi 2)))))] H locs := hw
              have hl : lv_has ls 4 [(3, .int (nI (y + 1 + d))), (2, .int (nI (p 0))), (0, .ref M), (1, .int (nI y))] := hl
              refine lv_iload_n hx hb dX8_ages_98 rfl (lv_at hl 0 rfl) ?_
              refine q_bipush (v := 8) hx hb dX8_ages_99 (by decide) ?_
              refine q_icmp_gt (tgt := 117) hx hb ((y + 1 + d : Nat) : Int) ((8 : Nat) : Int) (nI_toInt (by omega)) (nI_toInt (by omega)) dX8_ages_101 (by decide) (fun c20 => ?_) (fun c20 => ?_)
              · --
                obtain rfl : d = 8 - y := by omega
                refine lv_aload_n hx hb dX8_ages_117 rfl (lv_at hl 2 rfl) ?_
                refine q_get (v := .ref (mr 0)) (ci := 8) hx hb hts in_X8 hown hK hw 0 0 wd2 dX8_ages_118 rfl rfl (by decide) rfl ?_
                refine q_iconst (v := 0) hx hb dX8_ages_121 (by decide) ?_
                refine lv_iload_n hx hb dX8_ages_122 rfl (lv_at hl 3 rfl) ?_
                refine q_iast hx hb hK hw 1 (by omega) (by omega) dX8_ages_123 rfl (fun H locs hw => ?_)
                have hw : WS D A s [(M, .inr (8, [.ref (mr 0), .ref (mr 1), .int (nI (min (mi 2 + 1) 6)), .ref (mr 3), .ref (mr 4), .int ima, .ref (mr 6), .int (nI (mi 7)), .ref (mr 8), .ref (mr 9), .ref (mr 10), .long (lN (mi 11)), .long (lN (mi 12)), .ref (mr 13), .ref (mr 14), .ref (mr 15), .ref (mr 16), .ref (mr 17), .ref (mr 18), .int (nI (mi 19)), .ref (mr 20), .ref (mr 21), .ref (mr 22), .ref (mr 23), .long (lN (mi 24)), .long (lN (mi 25)), .int (nI (mi 26)), .int (nI (mi 27)), .ref (mr 28), .int (nI (mi 29)), .int (nI (mi 30)), .int (nI (mi 31)), .int (nI (mi 32))])), (mr 0, .inl (Z 0, 18, .inl (aI (va_up (zr (rz p (p 0) y) y (8 - y)) 0 y)))), (mr 1, .inl (Z 0, 108, .inl (aI (ntG g p (mi 2)))))] H locs := hw
                refine lv_aload_n hx hb dX8_ages_124 rfl (lv_at hl 2 rfl) ?_
                refine q_callv (S := Unit) (Z := Z) (D := D) (wc := [(M, .inr (8, [.ref (mr 0), .ref (mr 1), .int (nI (min (mi 2 + 1) 6)), .ref (mr 3), .ref (mr 4), .int ima, .ref (mr 6), .int (nI (mi 7)), .ref (mr 8), .ref (mr 9), .ref (mr 10), .long (lN (mi 11)), .long (lN (mi 12)), .ref (mr 13), .ref (mr 14), .ref (mr 15), .ref (mr 16), .ref (mr 17), .ref (mr 18), .int (nI (mi 19)), .ref (mr 20), .ref (mr 21), .ref (mr 22), .ref (mr 23), .long (lN (mi 24)), .long (lN (mi 25)), .int (nI (mi 26)), .int (nI (mi 27)), .ref (mr 28), .int (nI (mi 29)), .int (nI (mi 30)), .int (nI (mi 31)), .int (nI (mi 32))])), (mr 0, .inl (Z 0, 18, .inl (aI (va_up (zr (rz p (p 0) y) y (8 - y)) 0 y))))]) (wr := [(mr 1, .inl (Z 0, 108, .inl (aI (ntG g p (mi 2)))))]) (rest := []) hw hA [0, 1] [2] rfl rfl rfl rfl (by decide) (fun hPc hDc => va_runV (As := []) (rest := []) ⟨hx, hb, hml, hown, hts⟩ (c_X8_begins l D Z H.size M mr (va_up mi 2 (min (mi 2 + 1) 6)) ima (va_up (zr (rz p (p 0) y) y (8 - y)) 0 y) ) (cwV 0 hts gX8_ages_X8_begins rfl rfl rfl (by decide +kernel) ⟨Nat.le_of_ble_eq_true rfl, Nat.le_of_ble_eq_true rfl⟩) ⟨fb_cPre, va_recv hK.1 hPc (ci := 8) (q0 := 0) rfl rfl, pre_of hPc hK hDc⟩ rfl rfl hl.1 rfl (lv_room (Nat.le_of_ble_eq_true rfl)) dX8_ages_125 ⟨Nat.le_of_ble_eq_true rfl, Nat.le_of_ble_eq_true rfl⟩) (fun uu H locs hr21 hw => ?_)
                have hw : WS D A s [(mr 1, .inl (Z 0, 108, .inl (aI (ntG g p (mi 2))))), (M, .inr (8, [.ref (mr 0), .ref (mr 1), .int (nI (min (mi 2 + 1) 6)), .ref (mr 3), .ref (mr 4), .int ima, .ref (mr 6), .int (nI (mi 7)), .ref (mr 8), .ref (mr 9), .ref (mr 10), .long (lN (mi 11)), .long (lN (mi 12)), .ref (mr 13), .ref (mr 14), .ref (mr 15), .ref (mr 16), .ref (mr 17), .ref (mr 18), .int (nI (mi 19)), .ref (mr 20), .ref (mr 21), .ref (mr 22), .ref (mr 23), .long (lN (mi 24)), .long (lN (mi 25)), .int (nI (mi 26)), .int (nI (mi 27)), .ref (mr 28), .int (nI (mi 29)), .int (nI (mi 30)), .int (nI (mi 31)), .int (nI (mi 32))])), (mr 0, .inl (Z 0, 18, .inl (aI (va_up (va_up (zr (rz p (p 0) y) y (8 - y)) 0 y) 13 0))))] H locs := hw
                refine lv_iload_n hx hb dX8_ages_128 rfl (lv_at hl 1 rfl) ?_
                exact q_iret (wout := _) hx hb hr hlocks hAe hK (min (mi 2 + 1) 6, va_up (va_up (zr (rz p (p 0) y) y (8 - y)) 0 y) 13 0, ntG g p (mi 2)) (hw.sub [1, 2, 0] (by decide) rfl) (⟨(ag_5 ey (by omega) (by omega) (by omega) (by omega)).symm, Or.inr ⟨by unfold agOk; rw [tnI ey]; omega, rfl, rfl, by rw [tnI ey]⟩⟩) dX8_ages_129
              · --
                refine lv_aload_n hx hb dX8_ages_104 rfl (lv_at hl 2 rfl) ?_
                refine q_get (v := .ref (mr 0)) (ci := 8) hx hb hts in_X8 hown hK hw 0 0 wd2 dX8_ages_105 rfl rfl (by decide) rfl ?_
                refine lv_iload_n hx hb dX8_ages_108 rfl (lv_at hl 0 rfl) ?_
                refine q_iconst (v := 0) hx hb dX8_ages_109 (by decide) ?_
                refine q_iast hx hb hK hw 1 (by omega) (by omega) dX8_ages_110 rfl (fun H locs hw => ?_)
                have hw : WS D A s [(M, .inr (8, [.ref (mr 0), .ref (mr 1), .int (nI (min (mi 2 + 1) 6)), .ref (mr 3), .ref (mr 4), .int ima, .ref (mr 6), .int (nI (mi 7)), .ref (mr 8), .ref (mr 9), .ref (mr 10), .long (lN (mi 11)), .long (lN (mi 12)), .ref (mr 13), .ref (mr 14), .ref (mr 15), .ref (mr 16), .ref (mr 17), .ref (mr 18), .int (nI (mi 19)), .ref (mr 20), .ref (mr 21), .ref (mr 22), .ref (mr 23), .long (lN (mi 24)), .long (lN (mi 25)), .int (nI (mi 26)), .int (nI (mi 27)), .ref (mr 28), .int (nI (mi 29)), .int (nI (mi 30)), .int (nI (mi 31)), .int (nI (mi 32))])), (mr 0, .inl (Z 0, 18, .inl (aI (va_up (zr (rz p (p 0) y) y d) (y + 1 + d) 0)))), (mr 1, .inl (Z 0, 108, .inl (aI (ntG g p (mi 2)))))] H locs := hw
                refine lv_iinc (v := nI (y + 1 + d + 1)) (lv' := [(3, .int (nI (y + 1 + d + 1))), (2, .int (nI (p 0))), (0, .ref M), (1, .int (nI y))]) hx hb dX8_ages_111 hl (k := 0) rfl (nI_add _ _) (by decide) rfl (fun ls hl => ?_)
                refine lv_goto (tgt := 98) hx hb dX8_ages_114 (by decide) ?_
                have hw : WS D A s [(M, .inr (8, [.ref (mr 0), .ref (mr 1), .int (nI (min (mi 2 + 1) 6)), .ref (mr 3), .ref (mr 4), .int ima, .ref (mr 6), .int (nI (mi 7)), .ref (mr 8), .ref (mr 9), .ref (mr 10), .long (lN (mi 11)), .long (lN (mi 12)), .ref (mr 13), .ref (mr 14), .ref (mr 15), .ref (mr 16), .ref (mr 17), .ref (mr 18), .int (nI (mi 19)), .ref (mr 20), .ref (mr 21), .ref (mr 22), .ref (mr 23), .long (lN (mi 24)), .long (lN (mi 25)), .int (nI (mi 26)), .int (nI (mi 27)), .ref (mr 28), .int (nI (mi 29)), .int (nI (mi 30)), .int (nI (mi 31)), .int (nI (mi 32))])), (mr 0, .inl (Z 0, 18, .inl (aI (zr (rz p (p 0) y) y (d + 1))))), (mr 1, .inl (Z 0, 108, .inl (aI (ntG g p (mi 2)))))] H locs := by rw [show (zr (rz p (p 0) y) y (d + 1)) = (va_up (zr (rz p (p 0) y) y d) (y + 1 + d) 0) from (zr_up _ y d).symm]; exact hw
                exact ih98 (d + 1) H locs ls (by omega) (by omega) hw (lv_sub hl [0, 1, 2, 3] rfl)
            · --
              refine lv_aload_n hx hb dX8_ages_81 rfl (lv_at hl 2 rfl) ?_
              refine q_get (v := .ref (mr 0)) (ci := 8) hx hb hts in_X8 hown hK hw 0 0 wd2 dX8_ages_82 rfl rfl (by decide) rfl ?_
              refine lv_iload_n hx hb dX8_ages_85 rfl (lv_at hl 0 rfl) ?_
              refine q_iconst (v := 1) hx hb dX8_ages_86 (by decide) ?_
              refine q_iast hx hb hK hw 1 (by omega) (by omega) dX8_ages_87 rfl (fun H locs hw => ?_)
              have hw : WS D A s [(M, .inr (8, [.ref (mr 0), .ref (mr 1), .int (nI (min (mi 2 + 1) 6)), .ref (mr 3), .ref (mr 4), .int ima, .ref (mr 6), .int (nI (mi 7)), .ref (mr 8), .ref (mr 9), .ref (mr 10), .long (lN (mi 11)), .long (lN (mi 12)), .ref (mr 13), .ref (mr 14), .ref (mr 15), .ref (mr 16), .ref (mr 17), .ref (mr 18), .int (nI (mi 19)), .ref (mr 20), .ref (mr 21), .ref (mr 22), .ref (mr 23), .long (lN (mi 24)), .long (lN (mi 25)), .int (nI (mi 26)), .int (nI (mi 27)), .ref (mr 28), .int (nI (mi 29)), .int (nI (mi 30)), .int (nI (mi 31)), .int (nI (mi 32))])), (mr 0, .inl (Z 0, 18, .inl (aI (va_up (rz p (p 0) (p 0 + c)) (p 0 + 1 + c) 1)))), (mr 1, .inl (Z 0, 108, .inl (aI (ntG g p (mi 2)))))] H locs := hw
              refine lv_iinc (v := nI (p 0 + 1 + c + 1)) (lv' := [(3, .int (nI (p 0 + 1 + c + 1))), (2, .int (nI (p 0))), (0, .ref M), (1, .int (nI y))]) hx hb dX8_ages_88 hl (k := 0) rfl (nI_add _ _) (by decide) rfl (fun ls hl => ?_)
              refine lv_goto (tgt := 76) hx hb dX8_ages_91 (by decide) ?_
              have hw : WS D A s [(M, .inr (8, [.ref (mr 0), .ref (mr 1), .int (nI (min (mi 2 + 1) 6)), .ref (mr 3), .ref (mr 4), .int ima, .ref (mr 6), .int (nI (mi 7)), .ref (mr 8), .ref (mr 9), .ref (mr 10), .long (lN (mi 11)), .long (lN (mi 12)), .ref (mr 13), .ref (mr 14), .ref (mr 15), .ref (mr 16), .ref (mr 17), .ref (mr 18), .int (nI (mi 19)), .ref (mr 20), .ref (mr 21), .ref (mr 22), .ref (mr 23), .long (lN (mi 24)), .long (lN (mi 25)), .int (nI (mi 26)), .int (nI (mi 27)), .ref (mr 28), .int (nI (mi 29)), .int (nI (mi 30)), .int (nI (mi 31)), .int (nI (mi 32))])), (mr 0, .inl (Z 0, 18, .inl (aI (rz p (p 0) (p 0 + (c + 1)))))), (mr 1, .inl (Z 0, 108, .inl (aI (ntG g p (mi 2)))))] H locs := by rw [show (rz p (p 0) (p 0 + (c + 1))) = (va_up (rz p (p 0) (p 0 + c)) (p 0 + 1 + c) 1) from (rz_up p (p 0) c).symm]; exact hw
              exact ih76 (c + 1) H locs ls (by omega) (by omega) hw (lv_sub hl [0, 1, 2, 3] rfl)
          · --
            refine lv_aload_n hx hb dX8_ages_56 rfl (lv_at hl 1 rfl) ?_
            refine q_get (v := .ref (mr 0)) (ci := 8) hx hb hts in_X8 hown hK hw 1 0 wd2 dX8_ages_57 rfl rfl (by decide) rfl ?_
            refine lv_iload_n hx hb dX8_ages_60 rfl (lv_at hl 2 rfl) ?_
            refine q_iald hx hb hK hw 2 (by omega) (by omega) dX8_ages_61 rfl ?_
            refine q_if_ne (tgt := 68) hx hb ((p y : Nat) : Int) (nI_toInt (Nat.lt_of_le_of_lt (z_le (n := p 0) (by omega)) (by omega))) dX8_ages_62 (by decide) (fun c22 => ?_) (fun c22 => ?_)
            · --
              refine lv_aload_n hx hb dX8_ages_68 rfl (lv_at hl 1 rfl) ?_
              refine q_callv (S := Unit) (Z := Z) (D := D) (wc := [(M, .inr (8, [.ref (mr 0), .ref (mr 1), .int (nI (mi 2)), .ref (mr 3), .ref (mr 4), .int ima, .ref (mr 6), .int (nI (mi 7)), .ref (mr 8), .ref (mr 9), .ref (mr 10), .long (lN (mi 11)), .long (lN (mi 12)), .ref (mr 13), .ref (mr 14), .ref (mr 15), .ref (mr 16), .ref (mr 17), .ref (mr 18), .int (nI (mi 19)), .ref (mr 20), .ref (mr 21), .ref (mr 22), .ref (mr 23), .long (lN (mi 24)), .long (lN (mi 25)), .int (nI (mi 26)), .int (nI (mi 27)), .ref (mr 28), .int (nI (mi 29)), .int (nI (mi 30)), .int (nI (mi 31)), .int (nI (mi 32))])), (mr 0, .inl (Z 0, 18, .inl (aI p))), (mr 1, .inl (Z 0, 108, .inl (aI g)))]) (wr := []) (rest := []) hw hA [1, 2, 0] [] rfl rfl rfl rfl (by decide) (fun hPc hDc => va_runV (As := []) (rest := []) ⟨hx, hb, hml, hown, hts⟩ (c_X8_notes l D Z H.size M mr mi ima p g (by first | assumption | omega)) (cwV 0 hts gX8_ages_X8_notes rfl rfl rfl (by decide +kernel) ⟨Nat.le_of_ble_eq_true rfl, Nat.le_of_ble_eq_true rfl⟩) ⟨fb_cPre, va_recv hK.1 hPc (ci := 8) (q0 := 0) rfl rfl, pre_of hPc hK hDc⟩ rfl rfl hl.1 rfl (lv_room (Nat.le_of_ble_eq_true rfl)) dX8_ages_69 ⟨Nat.le_of_ble_eq_true rfl, Nat.le_of_ble_eq_true rfl⟩) (fun uu H locs hr23 hw => ?_)
              have hw : WS D A s [(M, .inr (8, [.ref (mr 0), .ref (mr 1), .int (nI (min (mi 2 + 1) 6)), .ref (mr 3), .ref (mr 4), .int ima, .ref (mr 6), .int (nI (mi 7)), .ref (mr 8), .ref (mr 9), .ref (mr 10), .long (lN (mi 11)), .long (lN (mi 12)), .ref (mr 13), .ref (mr 14), .ref (mr 15), .ref (mr 16), .ref (mr 17), .ref (mr 18), .int (nI (mi 19)), .ref (mr 20), .ref (mr 21), .ref (mr 22), .ref (mr 23), .long (lN (mi 24)), .long (lN (mi 25)), .int (nI (mi 26)), .int (nI (mi 27)), .ref (mr 28), .int (nI (mi 29)), .int (nI (mi 30)), .int (nI (mi 31)), .int (nI (mi 32))])), (mr 0, .inl (Z 0, 18, .inl (aI p))), (mr 1, .inl (Z 0, 108, .inl (aI (ntG g p (mi 2)))))] H locs := hw
              refine lv_iload_n hx hb dX8_ages_72 rfl (lv_at hl 0 rfl) ?_
              refine q_iconst (v := 1) hx hb dX8_ages_73 (by decide) ?_
              refine q_iadd hx hb dX8_ages_74 ?_
              refine lv_istore_n (lv' := [(3, .int (nI (p 0 + 1))), (2, .int (nI (p 0))), (0, .ref M), (1, .int (nI y))]) hx hb dX8_ages_75 rfl hl (by decide) rfl (fun ls hl => ?_)
              have hw : WS D A s [(M, .inr (8, [.ref (mr 0), .ref (mr 1), .int (nI (min (mi 2 + 1) 6)), .ref (mr 3), .ref (mr 4), .int ima, .ref (mr 6), .int (nI (mi 7)), .ref (mr 8), .ref (mr 9), .ref (mr 10), .long (lN (mi 11)), .long (lN (mi 12)), .ref (mr 13), .ref (mr 14), .ref (mr 15), .ref (mr 16), .ref (mr 17), .ref (mr 18), .int (nI (mi 19)), .ref (mr 20), .ref (mr 21), .ref (mr 22), .ref (mr 23), .long (lN (mi 24)), .long (lN (mi 25)), .int (nI (mi 26)), .int (nI (mi 27)), .ref (mr 28), .int (nI (mi 29)), .int (nI (mi 30)), .int (nI (mi 31)), .int (nI (mi 32))])), (mr 0, .inl (Z 0, 18, .inl (aI (rz p (p 0) (p 0 + 0))))), (mr 1, .inl (Z 0, 108, .inl (aI (ntG g p (mi 2)))))] H locs := by rw [show (rz p (p 0) (p 0 + 0)) = p from by funext k; simp only [rz]; rw [if_neg (by omega)]]; exact hw
              refine q_loop (σ := Nat) (fun (c : Nat) => y - p 0 - c) (fun (c : Nat) => c ≤ y - p 0) (fun (c : Nat) => [(M, .inr (8, [.ref (mr 0), .ref (mr 1), .int (nI (min (mi 2 + 1) 6)), .ref (mr 3), .ref (mr 4), .int ima, .ref (mr 6), .int (nI (mi 7)), .ref (mr 8), .ref (mr 9), .ref (mr 10), .long (lN (mi 11)), .long (lN (mi 12)), .ref (mr 13), .ref (mr 14), .ref (mr 15), .ref (mr 16), .ref (mr 17), .ref (mr 18), .int (nI (mi 19)), .ref (mr 20), .ref (mr 21), .ref (mr 22), .ref (mr 23), .long (lN (mi 24)), .long (lN (mi 25)), .int (nI (mi 26)), .int (nI (mi 27)), .ref (mr 28), .int (nI (mi 29)), .int (nI (mi 30)), .int (nI (mi 31)), .int (nI (mi 32))])), (mr 0, .inl (Z 0, 18, .inl (aI (rz p (p 0) (p 0 + c))))), (mr 1, .inl (Z 0, 108, .inl (aI (ntG g p (mi 2)))))]) (fun (c : Nat) => [(3, .int (nI (p 0 + 1 + c))), (2, .int (nI (p 0))), (0, .ref M), (1, .int (nI y))]) 0 (Nat.zero_le _) hw (lv_sub hl [0, 1, 2, 3] rfl) ?_
              intro c H locs ls hi76 hw hl ih76
              try dsimp only at hi76 hw hl ih76
              have hw : WS D A s [(M, .inr (8, [.ref (mr 0), .ref (mr 1), .int (nI (min (mi 2 + 1) 6)), .ref (mr 3), .ref (mr 4), .int ima, .ref (mr 6), .int (nI (mi 7)), .ref (mr 8), .ref (mr 9), .ref (mr 10), .long (lN (mi 11)), .long (lN (mi 12)), .ref (mr 13), .ref (mr 14), .ref (mr 15), .ref (mr 16), .ref (mr 17), .ref (mr 18), .int (nI (mi 19)), .ref (mr 20), .ref (mr 21), .ref (mr 22), .ref (mr 23), .long (lN (mi 24)), .long (lN (mi 25)), .int (nI (mi 26)), .int (nI (mi 27)), .ref (mr 28), .int (nI (mi 29)), .int (nI (mi 30)), .int (nI (mi 31)), .int (nI (mi 32))])), (mr 0, .inl (Z 0, 18, .inl (aI (rz p (p 0) (p 0 + c))))), (mr 1, .inl (Z 0, 108, .inl (aI (ntG g p (mi 2)))))] H locs := hw
              have hl : lv_has ls 4 [(3, .int (nI (p 0 + 1 + c))), (2, .int (nI (p 0))), (0, .ref M), (1, .int (nI y))] := hl
              refine lv_iload_n hx hb dX8_ages_76 rfl (lv_at hl 0 rfl) ?_
              refine lv_iload_n hx hb dX8_ages_77 rfl (lv_at hl 3 rfl) ?_
              refine q_icmp_gt (tgt := 94) hx hb ((p 0 + 1 + c : Nat) : Int) ((y : Nat) : Int) (nI_toInt (by omega)) (nI_toInt (by omega)) dX8_ages_78 (by decide) (fun c24 => ?_) (fun c24 => ?_)
              · --
                have ez := rz_end p (n := p 0) (c := c) (v := y) (by omega)
                refine lv_iload_n hx hb dX8_ages_94 rfl (lv_at hl 3 rfl) ?_
                refine q_iconst (v := 1) hx hb dX8_ages_95 (by decide) ?_
                refine q_iadd hx hb dX8_ages_96 ?_
                refine lv_istore_n (lv' := [(3, .int (nI (y + 1))), (2, .int (nI (p 0))), (0, .ref M), (1, .int (nI y))]) hx hb dX8_ages_97 rfl hl (by decide) rfl (fun ls hl => ?_)
                have hw : WS D A s [(M, .inr (8, [.ref (mr 0), .ref (mr 1), .int (nI (min (mi 2 + 1) 6)), .ref (mr 3), .ref (mr 4), .int ima, .ref (mr 6), .int (nI (mi 7)), .ref (mr 8), .ref (mr 9), .ref (mr 10), .long (lN (mi 11)), .long (lN (mi 12)), .ref (mr 13), .ref (mr 14), .ref (mr 15), .ref (mr 16), .ref (mr 17), .ref (mr 18), .int (nI (mi 19)), .ref (mr 20), .ref (mr 21), .ref (mr 22), .ref (mr 23), .long (lN (mi 24)), .long (lN (mi 25)), .int (nI (mi 26)), .int (nI (mi 27)), .ref (mr 28), .int (nI (mi 29)), .int (nI (mi 30)), .int (nI (mi 31)), .int (nI (mi 32))])), (mr 0, .inl (Z 0, 18, .inl (aI (zr (rz p (p 0) y) y 0)))), (mr 1, .inl (Z 0, 108, .inl (aI (ntG g p (mi 2)))))] H locs := by rw [show (zr (rz p (p 0) y) y 0) = (rz p (p 0) (p 0 + c)) from by rw [ez, zr_0]]; exact hw
                refine q_loop (σ := Nat) (fun (d : Nat) => 8 - y - d) (fun (d : Nat) => d ≤ 8 - y) (fun (d : Nat) => [(M, .inr (8, [.ref (mr 0), .ref (mr 1), .int (nI (min (mi 2 + 1) 6)), .ref (mr 3), .ref (mr 4), .int ima, .ref (mr 6), .int (nI (mi 7)), .ref (mr 8), .ref (mr 9), .ref (mr 10), .long (lN (mi 11)), .long (lN (mi 12)), .ref (mr 13), .ref (mr 14), .ref (mr 15), .ref (mr 16), .ref (mr 17), .ref (mr 18), .int (nI (mi 19)), .ref (mr 20), .ref (mr 21), .ref (mr 22), .ref (mr 23), .long (lN (mi 24)), .long (lN (mi 25)), .int (nI (mi 26)), .int (nI (mi 27)), .ref (mr 28), .int (nI (mi 29)), .int (nI (mi 30)), .int (nI (mi 31)), .int (nI (mi 32))])), (mr 0, .inl (Z 0, 18, .inl (aI (zr (rz p (p 0) y) y d)))), (mr 1, .inl (Z 0, 108, .inl (aI (ntG g p (mi 2)))))]) (fun (d : Nat) => [(3, .int (nI (y + 1 + d))), (2, .int (nI (p 0))), (0, .ref M), (1, .int (nI y))]) 0 (Nat.zero_le _) hw (lv_sub hl [0, 1, 2, 3] rfl) ?_
                intro d H locs ls hi98 hw hl ih98
                try dsimp only at hi98 hw hl ih98
                have hw : WS D A s [(M, .inr (8, [.ref (mr 0), .ref (mr 1), .int (nI (min (mi 2 + 1) 6)), .ref (mr 3), .ref (mr 4), .int ima, .ref (mr 6), .int (nI (mi 7)), .ref (mr 8), .ref (mr 9), .ref (mr 10), .long (lN (mi 11)), .long (lN (mi 12)), .ref (mr 13), .ref (mr 14), .ref (mr 15), .ref (mr 16), .ref (mr 17), .ref (mr 18), .int (nI (mi 19)), .ref (mr 20), .ref (mr 21), .ref (mr 22), .ref (mr 23), .long (lN (mi 24)), .long (lN (mi 25)), .int (nI (mi 26)), .int (nI (mi 27)), .ref (mr 28), .int (nI (mi 29)), .int (nI (mi 30)), .int (nI (mi 31)), .int (nI (mi 32))])), (mr 0, .inl (Z 0, 18, .inl (aI (zr (rz p (p 0) y) y d)))), (mr 1, .inl (Z 0, 108, .inl (aI (ntG g p (mi 2)))))] H locs := hw
                have hl : lv_has ls 4 [(3, .int (nI (y + 1 + d))), (2, .int (nI (p 0))), (0, .ref M), (1, .int (nI y))] := hl
                refine lv_iload_n hx hb dX8_ages_98 rfl (lv_at hl 0 rfl) ?_
                refine q_bipush (v := 8) hx hb dX8_ages_99 (by decide) ?_
                refine q_icmp_gt (tgt := 117) hx hb ((y + 1 + d : Nat) : Int) ((8 : Nat) : Int) (nI_toInt (by omega)) (nI_toInt (by omega)) dX8_ages_101 (by decide) (fun c25 => ?_) (fun c25 => ?_)
                · --
                  obtain rfl : d = 8 - y := by omega
                  refine lv_aload_n hx hb dX8_ages_117 rfl (lv_at hl 2 rfl) ?_
                  refine q_get (v := .ref (mr 0)) (ci := 8) hx hb hts in_X8 hown hK hw 0 0 wd2 dX8_ages_118 rfl rfl (by decide) rfl ?_
                  refine q_iconst (v := 0) hx hb dX8_ages_121 (by decide) ?_
                  refine lv_iload_n hx hb dX8_ages_122 rfl (lv_at hl 3 rfl) ?_
                  refine q_iast hx hb hK hw 1 (by omega) (by omega) dX8_ages_123 rfl (fun H locs hw => ?_)
                  have hw : WS D A s [(M, .inr (8, [.ref (mr 0), .ref (mr 1), .int (nI (min (mi 2 + 1) 6)), .ref (mr 3), .ref (mr 4), .int ima, .ref (mr 6), .int (nI (mi 7)), .ref (mr 8), .ref (mr 9), .ref (mr 10), .long (lN (mi 11)), .long (lN (mi 12)), .ref (mr 13), .ref (mr 14), .ref (mr 15), .ref (mr 16), .ref (mr 17), .ref (mr 18), .int (nI (mi 19)), .ref (mr 20), .ref (mr 21), .ref (mr 22), .ref (mr 23), .long (lN (mi 24)), .long (lN (mi 25)), .int (nI (mi 26)), .int (nI (mi 27)), .ref (mr 28), .int (nI (mi 29)), .int (nI (mi 30)), .int (nI (mi 31)), .int (nI (mi 32))])), (mr 0, .inl (Z 0, 18, .inl (aI (va_up (zr (rz p (p 0) y) y (8 - y)) 0 y)))), (mr 1, .inl (Z 0, 108, .inl (aI (ntG g p (mi 2)))))] H locs := hw
                  refine lv_aload_n hx hb dX8_ages_124 rfl (lv_at hl 2 rfl) ?_
                  refine q_callv (S := Unit) (Z := Z) (D := D) (wc := [(M, .inr (8, [.ref (mr 0), .ref (mr 1), .int (nI (min (mi 2 + 1) 6)), .ref (mr 3), .ref (mr 4), .int ima, .ref (mr 6), .int (nI (mi 7)), .ref (mr 8), .ref (mr 9), .ref (mr 10), .long (lN (mi 11)), .long (lN (mi 12)), .ref (mr 13), .ref (mr 14), .ref (mr 15), .ref (mr 16), .ref (mr 17), .ref (mr 18), .int (nI (mi 19)), .ref (mr 20), .ref (mr 21), .ref (mr 22), .ref (mr 23), .long (lN (mi 24)), .long (lN (mi 25)), .int (nI (mi 26)), .int (nI (mi 27)), .ref (mr 28), .int (nI (mi 29)), .int (nI (mi 30)), .int (nI (mi 31)), .int (nI (mi 32))])), (mr 0, .inl (Z 0, 18, .inl (aI (va_up (zr (rz p (p 0) y) y (8 - y)) 0 y))))]) (wr := [(mr 1, .inl (Z 0, 108, .inl (aI (ntG g p (mi 2)))))]) (rest := []) hw hA [0, 1] [2] rfl rfl rfl rfl (by decide) (fun hPc hDc => va_runV (As := []) (rest := []) ⟨hx, hb, hml, hown, hts⟩ (c_X8_begins l D Z H.size M mr (va_up mi 2 (min (mi 2 + 1) 6)) ima (va_up (zr (rz p (p 0) y) y (8 - y)) 0 y) ) (cwV 0 hts gX8_ages_X8_begins rfl rfl rfl (by decide +kernel) ⟨Nat.le_of_ble_eq_true rfl, Nat.le_of_ble_eq_true rfl⟩) ⟨fb_cPre, va_recv hK.1 hPc (ci := 8) (q0 := 0) rfl rfl, pre_of hPc hK hDc⟩ rfl rfl hl.1 rfl (lv_room (Nat.le_of_ble_eq_true rfl)) dX8_ages_125 ⟨Nat.le_of_ble_eq_true rfl, Nat.le_of_ble_eq_true rfl⟩) (fun uu H locs hr26 hw => ?_)
                  have hw : WS D A s [(mr 1, .inl (Z 0, 108, .inl (aI (ntG g p (mi 2))))), (M, .inr (8, [.ref (mr 0), .ref (mr 1), .int (nI (min (mi 2 + 1) 6)), .ref (mr 3), .ref (mr 4), .int ima, .ref (mr 6), .int (nI (mi 7)), .ref (mr 8), .ref (mr 9), .ref (mr 10), .long (lN (mi 11)), .long (lN (mi 12)), .ref (mr 13), .ref (mr 14), .ref (mr 15), .ref (mr 16), .ref (mr 17), .ref (mr 18), .int (nI (mi 19)), .ref (mr 20), .ref (mr 21), .ref (mr 22), .ref (mr 23), .long (lN (mi 24)), .long (lN (mi 25)), .int (nI (mi 26)), .int (nI (mi 27)), .ref (mr 28), .int (nI (mi 29)), .int (nI (mi 30)), .int (nI (mi 31)), .int (nI (mi 32))])), (mr 0, .inl (Z 0, 18, .inl (aI (va_up (va_up (zr (rz p (p 0) y) y (8 - y)) 0 y) 13 0))))] H locs := hw
                  refine lv_iload_n hx hb dX8_ages_128 rfl (lv_at hl 1 rfl) ?_
                  exact q_iret (wout := _) hx hb hr hlocks hAe hK (min (mi 2 + 1) 6, va_up (va_up (zr (rz p (p 0) y) y (8 - y)) 0 y) 13 0, ntG g p (mi 2)) (hw.sub [1, 2, 0] (by decide) rfl) (⟨(ag_5 ey (by omega) (by omega) (by omega) (by omega)).symm, Or.inr ⟨by unfold agOk; rw [tnI ey]; omega, rfl, rfl, by rw [tnI ey]⟩⟩) dX8_ages_129
                · --
                  refine lv_aload_n hx hb dX8_ages_104 rfl (lv_at hl 2 rfl) ?_
                  refine q_get (v := .ref (mr 0)) (ci := 8) hx hb hts in_X8 hown hK hw 0 0 wd2 dX8_ages_105 rfl rfl (by decide) rfl ?_
                  refine lv_iload_n hx hb dX8_ages_108 rfl (lv_at hl 0 rfl) ?_
                  refine q_iconst (v := 0) hx hb dX8_ages_109 (by decide) ?_
                  refine q_iast hx hb hK hw 1 (by omega) (by omega) dX8_ages_110 rfl (fun H locs hw => ?_)
                  have hw : WS D A s [(M, .inr (8, [.ref (mr 0), .ref (mr 1), .int (nI (min (mi 2 + 1) 6)), .ref (mr 3), .ref (mr 4), .int ima, .ref (mr 6), .int (nI (mi 7)), .ref (mr 8), .ref (mr 9), .ref (mr 10), .long (lN (mi 11)), .long (lN (mi 12)), .ref (mr 13), .ref (mr 14), .ref (mr 15), .ref (mr 16), .ref (mr 17), .ref (mr 18), .int (nI (mi 19)), .ref (mr 20), .ref (mr 21), .ref (mr 22), .ref (mr 23), .long (lN (mi 24)), .long (lN (mi 25)), .int (nI (mi 26)), .int (nI (mi 27)), .ref (mr 28), .int (nI (mi 29)), .int (nI (mi 30)), .int (nI (mi 31)), .int (nI (mi 32))])), (mr 0, .inl (Z 0, 18, .inl (aI (va_up (zr (rz p (p 0) y) y d) (y + 1 + d) 0)))), (mr 1, .inl (Z 0, 108, .inl (aI (ntG g p (mi 2)))))] H locs := hw
                  refine lv_iinc (v := nI (y + 1 + d + 1)) (lv' := [(3, .int (nI (y + 1 + d + 1))), (2, .int (nI (p 0))), (0, .ref M), (1, .int (nI y))]) hx hb dX8_ages_111 hl (k := 0) rfl (nI_add _ _) (by decide) rfl (fun ls hl => ?_)
                  refine lv_goto (tgt := 98) hx hb dX8_ages_114 (by decide) ?_
                  have hw : WS D A s [(M, .inr (8, [.ref (mr 0), .ref (mr 1), .int (nI (min (mi 2 + 1) 6)), .ref (mr 3), .ref (mr 4), .int ima, .ref (mr 6), .int (nI (mi 7)), .ref (mr 8), .ref (mr 9), .ref (mr 10), .long (lN (mi 11)), .long (lN (mi 12)), .ref (mr 13), .ref (mr 14), .ref (mr 15), .ref (mr 16), .ref (mr 17), .ref (mr 18), .int (nI (mi 19)), .ref (mr 20), .ref (mr 21), .ref (mr 22), .ref (mr 23), .long (lN (mi 24)), .long (lN (mi 25)), .int (nI (mi 26)), .int (nI (mi 27)), .ref (mr 28), .int (nI (mi 29)), .int (nI (mi 30)), .int (nI (mi 31)), .int (nI (mi 32))])), (mr 0, .inl (Z 0, 18, .inl (aI (zr (rz p (p 0) y) y (d + 1))))), (mr 1, .inl (Z 0, 108, .inl (aI (ntG g p (mi 2)))))] H locs := by rw [show (zr (rz p (p 0) y) y (d + 1)) = (va_up (zr (rz p (p 0) y) y d) (y + 1 + d) 0) from (zr_up _ y d).symm]; exact hw
                  exact ih98 (d + 1) H locs ls (by omega) (by omega) hw (lv_sub hl [0, 1, 2, 3] rfl)
              · --
                refine lv_aload_n hx hb dX8_ages_81 rfl (lv_at hl 2 rfl) ?_
                refine q_get (v := .ref (mr 0)) (ci := 8) hx hb hts in_X8 hown hK hw 0 0 wd2 dX8_ages_82 rfl rfl (by decide) rfl ?_
                refine lv_iload_n hx hb dX8_ages_85 rfl (lv_at hl 0 rfl) ?_
                refine q_iconst (v := 1) hx hb dX8_ages_86 (by decide) ?_
                refine q_iast hx hb hK hw 1 (by omega) (by omega) dX8_ages_87 rfl (fun H locs hw => ?_)
                have hw : WS D A s [(M, .inr (8, [.ref (mr 0), .ref (mr 1), .int (nI (min (mi 2 + 1) 6)), .ref (mr 3), .ref (mr 4), .int ima, .ref (mr 6), .int (nI (mi 7)), .ref (mr 8), .ref (mr 9), .ref (mr 10), .long (lN (mi 11)), .long (lN (mi 12)), .ref (mr 13), .ref (mr 14), .ref (mr 15), .ref (mr 16), .ref (mr 17), .ref (mr 18), .int (nI (mi 19)), .ref (mr 20), .ref (mr 21), .ref (mr 22), .ref (mr 23), .long (lN (mi 24)), .long (lN (mi 25)), .int (nI (mi 26)), .int (nI (mi 27)), .ref (mr 28), .int (nI (mi 29)), .int (nI (mi 30)), .int (nI (mi 31)), .int (nI (mi 32))])), (mr 0, .inl (Z 0, 18, .inl (aI (va_up (rz p (p 0) (p 0 + c)) (p 0 + 1 + c) 1)))), (mr 1, .inl (Z 0, 108, .inl (aI (ntG g p (mi 2)))))] H locs := hw
                refine lv_iinc (v := nI (p 0 + 1 + c + 1)) (lv' := [(3, .int (nI (p 0 + 1 + c + 1))), (2, .int (nI (p 0))), (0, .ref M), (1, .int (nI y))]) hx hb dX8_ages_88 hl (k := 0) rfl (nI_add _ _) (by decide) rfl (fun ls hl => ?_)
                refine lv_goto (tgt := 76) hx hb dX8_ages_91 (by decide) ?_
                have hw : WS D A s [(M, .inr (8, [.ref (mr 0), .ref (mr 1), .int (nI (min (mi 2 + 1) 6)), .ref (mr 3), .ref (mr 4), .int ima, .ref (mr 6), .int (nI (mi 7)), .ref (mr 8), .ref (mr 9), .ref (mr 10), .long (lN (mi 11)), .long (lN (mi 12)), .ref (mr 13), .ref (mr 14), .ref (mr 15), .ref (mr 16), .ref (mr 17), .ref (mr 18), .int (nI (mi 19)), .ref (mr 20), .ref (mr 21), .ref (mr 22), .ref (mr 23), .long (lN (mi 24)), .long (lN (mi 25)), .int (nI (mi 26)), .int (nI (mi 27)), .ref (mr 28), .int (nI (mi 29)), .int (nI (mi 30)), .int (nI (mi 31)), .int (nI (mi 32))])), (mr 0, .inl (Z 0, 18, .inl (aI (rz p (p 0) (p 0 + (c + 1)))))), (mr 1, .inl (Z 0, 108, .inl (aI (ntG g p (mi 2)))))] H locs := by rw [show (rz p (p 0) (p 0 + (c + 1))) = (va_up (rz p (p 0) (p 0 + c)) (p 0 + 1 + c) 1) from (rz_up p (p 0) c).symm]; exact hw
                exact ih76 (c + 1) H locs ls (by omega) (by omega) hw (lv_sub hl [0, 1, 2, 3] rfl)
            · --
              refine lv_bipush (v := (-4)) hx hb dX8_ages_65 (by decide) ?_
              exact q_iret (wout := _) hx hb hr hlocks hAe hK (mi 2, p, g) (hw.sub [1, 2, 0] (by decide) rfl) (⟨(ag_4 ey (by omega) (by omega) (by omega) (by omega)).symm, Or.inl ⟨fun q => by unfold agOk at q; rw [tnI ey] at q; omega, ⟨rfl, rfl, rfl⟩⟩⟩) dX8_ages_67
        · --
          refine lv_bipush (v := (-3)) hx hb dX8_ages_48 (by decide) ?_
          exact q_iret (wout := _) hx hb hr hlocks hAe hK (mi 2, p, g) (hw.sub [1, 2, 0] (by decide) rfl) (⟨(ag_3 ey (by omega) (by omega) (by omega)).symm, Or.inl ⟨fun q => by unfold agOk at q; rw [tnI ey] at q; omega, ⟨rfl, rfl, rfl⟩⟩⟩) dX8_ages_50
    · --
      refine lv_bipush (v := (-2)) hx hb dX8_ages_26 (by decide) ?_
      exact q_iret (wout := _) hx hb hr hlocks hAe hK (mi 2, p, g) hw (⟨(ag_2 ey (by omega) (by omega)).symm, Or.inl ⟨fun q => by unfold agOk at q; omega, ⟨rfl, rfl, rfl⟩⟩⟩) dX8_ages_28
  · --
    have c2 := bb_0 c2
    refine lv_iconst (v := (-1)) hx hb dX8_ages_12 (by decide) ?_
    exact q_iret (wout := _) hx hb hr hlocks hAe hK (mi 2, p, g) hw (⟨(ag_1 (by omega)).symm, Or.inl ⟨fun q => by unfold agOk at q; omega, ⟨rfl, rfl, rfl⟩⟩⟩) dX8_ages_13
set_option maxHeartbeats 4000000 in
set_option maxRecDepth 100000 in
theorem c_X8_tell (l : Launch) (D : va_G) (Z : Nat → ClassId) (zs0 : Nat) (M : Nat) (mr mi : Nat → Nat) (ima : Int32) (p g : Nat → Nat) (wh v : Int32) (hac : mi 2 ≤ 6) (h9 : p 9 ≤ 99) (h10 : p 10 ≤ 99) (h11 : p 11 ≤ 99) : cMi l yX8_tell wsX8_tell (rmd 2) D Z zs0 [.ref M, .int wh, .int v] [(M, .inr (8, [.ref (mr 0), .ref (mr 1), .int (nI (mi 2)), .ref (mr 3), .ref (mr 4), .int ima, .ref (mr 6), .int (nI (mi 7)), .ref (mr 8), .ref (mr 9), .ref (mr 10), .long (lN (mi 11)), .long (lN (mi 12)), .ref (mr 13), .ref (mr 14), .ref (mr 15), .ref (mr 16), .ref (mr 17), .ref (mr 18), .int (nI (mi 19)), .ref (mr 20), .ref (mr 21), .ref (mr 22), .ref (mr 23), .long (lN (mi 24)), .long (lN (mi 25)), .int (nI (mi 26)), .int (nI (mi 27)), .ref (mr 28), .int (nI (mi 29)), .int (nI (mi 30)), .int (nI (mi 31)), .int (nI (mi 32))])), (mr 0, .inl (Z 0, 18, .inl (aI p))), (mr 1, .inl (Z 0, 108, .inl (aI g)))] (S := Nat × (Nat → Nat) × (Nat → Nat)) (fun (r : Int32) (u : Nat × (Nat → Nat) × (Nat → Nat)) => match u with | (ac', p', g') => r = tlC p wh v ∧ ((¬ tlOk p wh v ∧ ac' = mi 2 ∧ p' = p ∧ g' = g) ∨ (tlOk p wh v ∧ ac' = min (mi 2 + 1) 6 ∧ g' = ntG g p (mi 2) ∧ p' = va_up p (9 + wh.toInt.toNat) v.toInt.toNat))) (fun (u : Nat × (Nat → Nat) × (Nat → Nat)) => match u with | (ac', p', g') => [(M, .inr (8, [.ref (mr 0), .ref (mr 1), .int (nI ac'), .ref (mr 3), .ref (mr 4), .int ima, .ref (mr 6), .int (nI (mi 7)), .ref (mr 8), .ref (mr 9), .ref (mr 10), .long (lN (mi 11)), .long (lN (mi 12)), .ref (mr 13), .ref (mr 14), .ref (mr 15), .ref (mr 16), .ref (mr 17), .ref (mr 18), .int (nI (mi 19)), .ref (mr 20), .ref (mr 21), .ref (mr 22), .ref (mr 23), .long (lN (mi 24)), .long (lN (mi 25)), .int (nI (mi 26)), .int (nI (mi 27)), .ref (mr 28), .int (nI (mi 29)), .int (nI (mi 30)), .int (nI (mi 31)), .int (nI (mi 32))])), (mr 0, .inl (Z 0, 18, .inl (aI p'))), (mr 1, .inl (Z 0, 108, .inl (aI g')))]) 0 0 := by
  refine q_open (y := yX8_tell) (ws := wsX8_tell) (av := [.ref M, .int wh, .int v]) (win := [(M, .inr (8, [.ref (mr 0), .ref (mr 1), .int (nI (mi 2)), .ref (mr 3), .ref (mr 4), .int ima, .ref (mr 6), .int (nI (mi 7)), .ref (mr 8), .ref (mr 9), .ref (mr 10), .long (lN (mi 11)), .long (lN (mi 12)), .ref (mr 13), .ref (mr 14), .ref (mr 15), .ref (mr 16), .ref (mr 17), .ref (mr 18), .int (nI (mi 19)), .ref (mr 20), .ref (mr 21), .ref (mr 22), .ref (mr 23), .long (lN (mi 24)), .long (lN (mi 25)), .int (nI (mi 26)), .int (nI (mi 27)), .ref (mr 28), .int (nI (mi 29)), .int (nI (mi 30)), .int (nI (mi 31)), .int (nI (mi 32))])), (mr 0, .inl (Z 0, 18, .inl (aI p))), (mr 1, .inl (Z 0, 108, .inl (aI g)))]) (Qc := fun zs0 => cQi D Z zs0 [(M, .inr (8, [.ref (mr 0), .ref (mr 1), .int (nI (mi 2)), .ref (mr 3), .ref (mr 4), .int ima, .ref (mr 6), .int (nI (mi 7)), .ref (mr 8), .ref (mr 9), .ref (mr 10), .long (lN (mi 11)), .long (lN (mi 12)), .ref (mr 13), .ref (mr 14), .ref (mr 15), .ref (mr 16), .ref (mr 17), .ref (mr 18), .int (nI (mi 19)), .ref (mr 20), .ref (mr 21), .ref (mr 22), .ref (mr 23), .long (lN (mi 24)), .long (lN (mi 25)), .int (nI (mi 26)), .int (nI (mi 27)), .ref (mr 28), .int (nI (mi 29)), .int (nI (mi 30)), .int (nI (mi 31)), .int (nI (mi 32))])), (mr 0, .inl (Z 0, 18, .inl (aI p))), (mr 1, .inl (Z 0, 108, .inl (aI g)))] (S := Nat × (Nat → Nat) × (Nat → Nat)) (fun (r : Int32) (u : Nat × (Nat → Nat) × (Nat → Nat)) => match u with | (ac', p', g') => r = tlC p wh v ∧ ((¬ tlOk p wh v ∧ ac' = mi 2 ∧ p' = p ∧ g' = g) ∨ (tlOk p wh v ∧ ac' = min (mi 2 + 1) 6 ∧ g' = ntG g p (mi 2) ∧ p' = va_up p (9 + wh.toInt.toNat) v.toInt.toNat))) (fun (u : Nat × (Nat → Nat) × (Nat → Nat)) => match u with | (ac', p', g') => [(M, .inr (8, [.ref (mr 0), .ref (mr 1), .int (nI ac'), .ref (mr 3), .ref (mr 4), .int ima, .ref (mr 6), .int (nI (mi 7)), .ref (mr 8), .ref (mr 9), .ref (mr 10), .long (lN (mi 11)), .long (lN (mi 12)), .ref (mr 13), .ref (mr 14), .ref (mr 15), .ref (mr 16), .ref (mr 17), .ref (mr 18), .int (nI (mi 19)), .ref (mr 20), .ref (mr 21), .ref (mr 22), .ref (mr 23), .long (lN (mi 24)), .long (lN (mi 25)), .int (nI (mi 26)), .int (nI (mi 27)), .ref (mr 28), .int (nI (mi 29)), .int (nI (mi 30)), .int (nI (mi 31)), .int (nI (mi 32))])), (mr 0, .inl (Z 0, 18, .inl (aI p'))), (mr 1, .inl (Z 0, 108, .inl (aI g')))])) (cc := cX8_tell) (maxL := 5) (ret := (some .int)) (by decide) rfl (Nat.le_of_ble_eq_true rfl) ?_
  intro pp ee s mm bw mt cd ls A H locs hAe hx hb hr hml hown hmn hts hlocks hA hK hw hl
  have hown : s.vm.findClass RX8 = some mm.cls := hown
  have hl : lv_has ls 5 [(0, .ref M), (1, .int wh), (2, .int v)] := hl
  have wd2 := hts (.constantLong RX8 126 (8)) (List.mem_of_getElem? (i := 2) rfl)
  have wd3 := hts (.fieldLink RX8 7 "ReplaceAgesModel" "st" "[I") (List.mem_of_getElem? (i := 3) rfl)
  have wd1 := hts (.constantLong RX8 128 (99)) (List.mem_of_getElem? (i := 1) rfl)
  have in_X8 : ∀ w ∈ wsX80, w ∈ wsX8_tell := fun _ h => List.mem_cons_of_mem _ (List.mem_append_right _ h)
  refine lv_iload_n hx hb dX8_tell_0 rfl (lv_at hl 1 rfl) ?_
  refine q_if_ne (tgt := 16) hx hb wh.toInt rfl dX8_tell_1 (by decide) (fun c1 => ?_) (fun c1 => ?_)
  · --
    refine lv_iload_n hx hb dX8_tell_16 rfl (lv_at hl 1 rfl) ?_
    refine q_iconst (v := 1) hx hb dX8_tell_17 (by decide) ?_
    refine q_icmp_ne (tgt := 33) hx hb wh.toInt ((1 : Nat) : Int) rfl (nI_toInt (by omega)) dX8_tell_18 (by decide) (fun c2 => ?_) (fun c2 => ?_)
    · --
      refine lv_iload_n hx hb dX8_tell_33 rfl (lv_at hl 1 rfl) ?_
      refine q_iconst (v := 2) hx hb dX8_tell_34 (by decide) ?_
      refine q_icmp_ne (tgt := 54) hx hb wh.toInt ((2 : Nat) : Int) rfl (nI_toInt (by omega)) dX8_tell_35 (by decide) (fun c3 => ?_) (fun c3 => ?_)
      · --
        refine q_iconst (v := 0) hx hb dX8_tell_54 (by decide) ?_
        refine lv_istore_n (lv' := [(3, .int (nI 0)), (0, .ref M), (1, .int wh), (2, .int v)]) hx hb dX8_tell_55 rfl hl (by decide) rfl (fun ls hl => ?_)
        refine lv_iload_n hx hb dX8_tell_56 rfl (lv_at hl 0 rfl) ?_
        refine q_if_ne (tgt := 62) hx hb ((0 : Nat) : Int) (nI_toInt (by omega)) dX8_tell_57 (by decide) (fun c4 => ?_) (fun c4 => ?_)
        · --
          exfalso; omega
        · --
          refine lv_iconst (v := (-1)) hx hb dX8_tell_60 (by decide) ?_
          exact q_iret (wout := _) hx hb hr hlocks hAe hK (mi 2, p, g) hw (⟨(tl_1 (by omega)).symm, Or.inl ⟨fun q => by unfold tlOk at q; omega, ⟨rfl, rfl, rfl⟩⟩⟩) dX8_tell_61
      · --
        refine lv_iload_n hx hb dX8_tell_38 rfl (lv_at hl 2 rfl) ?_
        refine lv_i2l hx hb dX8_tell_39 rfl ?_
        refine q_lconst (v := 1) hx hb dX8_tell_40 (by decide) ?_
        refine lv_ldc2 hx hb hown wd2 dX8_tell_41 ?_
        refine q_topl (x := 8) (y := lN 8) (by decide) ?_
        refine q_calli (S := Unit) (Z := Z) (D := D) (wc := []) (wr := [(M, .inr (8, [.ref (mr 0), .ref (mr 1), .int (nI (mi 2)), .ref (mr 3), .ref (mr 4), .int ima, .ref (mr 6), .int (nI (mi 7)), .ref (mr 8), .ref (mr 9), .ref (mr 10), .long (lN (mi 11)), .long (lN (mi 12)), .ref (mr 13), .ref (mr 14), .ref (mr 15), .ref (mr 16), .ref (mr 17), .ref (mr 18), .int (nI (mi 19)), .ref (mr 20), .ref (mr 21), .ref (mr 22), .ref (mr 23), .long (lN (mi 24)), .long (lN (mi 25)), .int (nI (mi 26)), .int (nI (mi 27)), .ref (mr 28), .int (nI (mi 29)), .int (nI (mi 30)), .int (nI (mi 31)), .int (nI (mi 32))])), (mr 0, .inl (Z 0, 18, .inl (aI p))), (mr 1, .inl (Z 0, 108, .inl (aI g)))]) (rest := []) hw hA [] [0, 1, 2] rfl rfl rfl rfl (by decide) (fun hPc hDc => va_runS (As := [.long v.toInt64, .long (lN 1), .long (lN 8)]) (rest := []) ⟨hx, hb, hml, hown, hts⟩ (c_X8_in l D Z H.size v.toInt64 (lN 1) (lN 8) v.toInt ((1 : Nat) : Int) ((8 : Nat) : Int) (Int32.toInt_toInt64 _) (pk_lT (by first | omega | assumption)) (pk_lT (by first | omega | assumption))) (va_cwS 3 hts gX8_tell_X8_in rfl rfl rfl (by decide +kernel) ⟨Nat.le_of_ble_eq_true rfl, Nat.le_of_ble_eq_true rfl⟩) ⟨fb_cPre, pre_of hPc hK hDc⟩ rfl rfl hl.1 rfl (lv_room (Nat.le_of_ble_eq_true rfl)) dX8_tell_44 ⟨Nat.le_of_ble_eq_true rfl, Nat.le_of_ble_eq_true rfl⟩) (fun r5 uu H locs hr5 hw => ?_)
        subst hr5
        have hw : WS D A s [(M, .inr (8, [.ref (mr 0), .ref (mr 1), .int (nI (mi 2)), .ref (mr 3), .ref (mr 4), .int ima, .ref (mr 6), .int (nI (mi 7)), .ref (mr 8), .ref (mr 9), .ref (mr 10), .long (lN (mi 11)), .long (lN (mi 12)), .ref (mr 13), .ref (mr 14), .ref (mr 15), .ref (mr 16), .ref (mr 17), .ref (mr 18), .int (nI (mi 19)), .ref (mr 20), .ref (mr 21), .ref (mr 22), .ref (mr 23), .long (lN (mi 24)), .long (lN (mi 25)), .int (nI (mi 26)), .int (nI (mi 27)), .ref (mr 28), .int (nI (mi 29)), .int (nI (mi 30)), .int (nI (mi 31)), .int (nI (mi 32))])), (mr 0, .inl (Z 0, 18, .inl (aI p))), (mr 1, .inl (Z 0, 108, .inl (aI g)))] H locs := hw
        refine q_if_eq (tgt := 54) hx hb ((bb (((1 : Nat) : Int) ≤ v.toInt ∧ v.toInt ≤ ((8 : Nat) : Int)) : Nat) : Int) (nI_toInt (Nat.lt_of_le_of_lt (bb_le _) (by decide))) dX8_tell_47 (by decide) (fun c6 => ?_) (fun c6 => ?_)
        · --
          have c6 := bb_0 c6
          refine q_iconst (v := 0) hx hb dX8_tell_54 (by decide) ?_
          refine lv_istore_n (lv' := [(3, .int (nI 0)), (0, .ref M), (1, .int wh), (2, .int v)]) hx hb dX8_tell_55 rfl hl (by decide) rfl (fun ls hl => ?_)
          refine lv_iload_n hx hb dX8_tell_56 rfl (lv_at hl 0 rfl) ?_
          refine q_if_ne (tgt := 62) hx hb ((0 : Nat) : Int) (nI_toInt (by omega)) dX8_tell_57 (by decide) (fun c7 => ?_) (fun c7 => ?_)
          · --
            exfalso; omega
          · --
            refine lv_iconst (v := (-1)) hx hb dX8_tell_60 (by decide) ?_
            exact q_iret (wout := _) hx hb hr hlocks hAe hK (mi 2, p, g) hw (⟨(tl_1 (by omega)).symm, Or.inl ⟨fun q => by unfold tlOk at q; omega, ⟨rfl, rfl, rfl⟩⟩⟩) dX8_tell_61
        · --
          have c6 := bb_1 c6
          refine q_iconst (v := 1) hx hb dX8_tell_50 (by decide) ?_
          refine lv_goto (tgt := 55) hx hb dX8_tell_51 (by decide) ?_
          refine lv_istore_n (lv' := [(3, .int (nI 1)), (0, .ref M), (1, .int wh), (2, .int v)]) hx hb dX8_tell_55 rfl hl (by decide) rfl (fun ls hl => ?_)
          refine lv_iload_n hx hb dX8_tell_56 rfl (lv_at hl 0 rfl) ?_
          refine q_if_ne (tgt := 62) hx hb ((1 : Nat) : Int) (nI_toInt (by omega)) dX8_tell_57 (by decide) (fun c8 => ?_) (fun c8 => ?_)
          · --
            obtain ⟨q, rfl, eq⟩ := i32_nat (x := wh) (by omega)
            obtain ⟨y, rfl, ey⟩ := i32_nat (x := v) (by omega)
            have hpq : p (9 + q) ≤ 99 := by rcases (show q = 0 ∨ q = 1 ∨ q = 2 by omega) with rfl | rfl | rfl <;> assumption
            refine lv_aload_n hx hb dX8_tell_62 rfl (lv_at hl 1 rfl) ?_
            refine q_get (v := .ref (mr 0)) (ci := 8) hx hb hts in_X8 hown hK hw 0 0 wd3 dX8_tell_63 rfl rfl (by decide) rfl ?_
            refine q_bipush (v := 9) hx hb dX8_tell_66 (by decide) ?_
            refine lv_iload_n hx hb dX8_tell_68 rfl (lv_at hl 2 rfl) ?_
            refine q_iadd hx hb dX8_tell_69 ?_
            refine q_iald hx hb hK hw 1 (by omega) (by omega) dX8_tell_70 rfl ?_
            refine lv_istore (lv' := [(4, .int (nI (p (9 + q)))), (3, .int (nI 1)), (0, .ref M), (1, .int (nI q)), (2, .int (nI y))]) hx hb dX8_tell_71 hl (by decide) rfl (fun ls hl => ?_)
            refine lv_iload hx hb dX8_tell_73 (lv_at hl 0 rfl) ?_
            refine lv_iload_n hx hb dX8_tell_75 rfl (lv_at hl 4 rfl) ?_
            refine q_icmp_ne (tgt := 82) hx hb ((p (9 + q) : Nat) : Int) ((y : Nat) : Int) (nI_toInt (by omega)) (nI_toInt (by omega)) dX8_tell_76 (by decide) (fun c9 => ?_) (fun c9 => ?_)
            · --
              refine lv_aload_n hx hb dX8_tell_82 rfl (lv_at hl 2 rfl) ?_
              refine q_callv (S := Unit) (Z := Z) (D := D) (wc := [(M, .inr (8, [.ref (mr 0), .ref (mr 1), .int (nI (mi 2)), .ref (mr 3), .ref (mr 4), .int ima, .ref (mr 6), .int (nI (mi 7)), .ref (mr 8), .ref (mr 9), .ref (mr 10), .long (lN (mi 11)), .long (lN (mi 12)), .ref (mr 13), .ref (mr 14), .ref (mr 15), .ref (mr 16), .ref (mr 17), .ref (mr 18), .int (nI (mi 19)), .ref (mr 20), .ref (mr 21), .ref (mr 22), .ref (mr 23), .long (lN (mi 24)), .long (lN (mi 25)), .int (nI (mi 26)), .int (nI (mi 27)), .ref (mr 28), .int (nI (mi 29)), .int (nI (mi 30)), .int (nI (mi 31)), .int (nI (mi 32))])), (mr 0, .inl (Z 0, 18, .inl (aI p))), (mr 1, .inl (Z 0, 108, .inl (aI g)))]) (wr := []) (rest := []) hw hA [0, 1, 2] [] rfl rfl rfl rfl (by decide) (fun hPc hDc => va_runV (As := []) (rest := []) ⟨hx, hb, hml, hown, hts⟩ (c_X8_notes l D Z H.size M mr mi ima p g (by first | assumption | omega)) (cwV 0 hts gX8_tell_X8_notes rfl rfl rfl (by decide +kernel) ⟨Nat.le_of_ble_eq_true rfl, Nat.le_of_ble_eq_true rfl⟩) ⟨fb_cPre, va_recv hK.1 hPc (ci := 8) (q0 := 0) rfl rfl, pre_of hPc hK hDc⟩ rfl rfl hl.1 rfl (lv_room (Nat.le_of_ble_eq_true rfl)) dX8_tell_83 ⟨Nat.le_of_ble_eq_true rfl, Nat.le_of_ble_eq_true rfl⟩) (fun uu H locs hr10 hw => ?_)
              have hw : WS D A s [(M, .inr (8, [.ref (mr 0), .ref (mr 1), .int (nI (min (mi 2 + 1) 6)), .ref (mr 3), .ref (mr 4), .int ima, .ref (mr 6), .int (nI (mi 7)), .ref (mr 8), .ref (mr 9), .ref (mr 10), .long (lN (mi 11)), .long (lN (mi 12)), .ref (mr 13), .ref (mr 14), .ref (mr 15), .ref (mr 16), .ref (mr 17), .ref (mr 18), .int (nI (mi 19)), .ref (mr 20), .ref (mr 21), .ref (mr 22), .ref (mr 23), .long (lN (mi 24)), .long (lN (mi 25)), .int (nI (mi 26)), .int (nI (mi 27)), .ref (mr 28), .int (nI (mi 29)), .int (nI (mi 30)), .int (nI (mi 31)), .int (nI (mi 32))])), (mr 0, .inl (Z 0, 18, .inl (aI p))), (mr 1, .inl (Z 0, 108, .inl (aI (ntG g p (mi 2)))))] H locs := hw
              refine lv_aload_n hx hb dX8_tell_86 rfl (lv_at hl 2 rfl) ?_
              refine q_get (v := .ref (mr 0)) (ci := 8) hx hb hts in_X8 hown hK hw 0 0 wd3 dX8_tell_87 rfl rfl (by decide) rfl ?_
              refine q_bipush (v := 9) hx hb dX8_tell_90 (by decide) ?_
              refine lv_iload_n hx hb dX8_tell_92 rfl (lv_at hl 3 rfl) ?_
              refine q_iadd hx hb dX8_tell_93 ?_
              refine lv_iload_n hx hb dX8_tell_94 rfl (lv_at hl 4 rfl) ?_
              refine q_iast hx hb hK hw 1 (by omega) (by omega) dX8_tell_95 rfl (fun H locs hw => ?_)
              have hw : WS D A s [(M, .inr (8, [.ref (mr 0), .ref (mr 1), .int (nI (min (mi 2 + 1) 6)), .ref (mr 3), .ref (mr 4), .int ima, .ref (mr 6), .int (nI (mi 7)), .ref (mr 8), .ref (mr 9), .ref (mr 10), .long (lN (mi 11)), .long (lN (mi 12)), .ref (mr 13), .ref (mr 14), .ref (mr 15), .ref (mr 16), .ref (mr 17), .ref (mr 18), .int (nI (mi 19)), .ref (mr 20), .ref (mr 21), .ref (mr 22), .ref (mr 23), .long (lN (mi 24)), .long (lN (mi 25)), .int (nI (mi 26)), .int (nI (mi 27)), .ref (mr 28), .int (nI (mi 29)), .int (nI (mi 30)), .int (nI (mi 31)), .int (nI (mi 32))])), (mr 0, .inl (Z 0, 18, .inl (aI (va_up p (9 + q) y)))), (mr 1, .inl (Z 0, 108, .inl (aI (ntG g p (mi 2)))))] H locs := hw
              refine lv_iload hx hb dX8_tell_96 (lv_at hl 0 rfl) ?_
              exact q_iret (wout := _) hx hb hr hlocks hAe hK (min (mi 2 + 1) 6, va_up p (9 + q) y, ntG g p (mi 2)) hw (⟨(tl_3 eq ey (by omega) (by omega)).symm, Or.inr ⟨by unfold tlOk; rw [tnI eq]; omega, rfl, rfl, by rw [tnI eq, tnI ey]⟩⟩) dX8_tell_98
            · --
              refine lv_bipush (v := (-2)) hx hb dX8_tell_79 (by decide) ?_
              exact q_iret (wout := _) hx hb hr hlocks hAe hK (mi 2, p, g) hw (⟨(tl_2 eq ey (by omega) (by omega)).symm, Or.inl ⟨fun q => by unfold tlOk at q; rw [tnI eq] at q; omega, ⟨rfl, rfl, rfl⟩⟩⟩) dX8_tell_81
          · --
            exfalso; omega
    · --
      refine lv_iload_n hx hb dX8_tell_21 rfl (lv_at hl 2 rfl) ?_
      refine lv_i2l hx hb dX8_tell_22 rfl ?_
      refine q_lconst (v := 0) hx hb dX8_tell_23 (by decide) ?_
      refine lv_ldc2 hx hb hown wd1 dX8_tell_24 ?_
      refine q_topl (x := 99) (y := lN 99) (by decide) ?_
      refine q_calli (S := Unit) (Z := Z) (D := D) (wc := []) (wr := [(M, .inr (8, [.ref (mr 0), .ref (mr 1), .int (nI (mi 2)), .ref (mr 3), .ref (mr 4), .int ima, .ref (mr 6), .int (nI (mi 7)), .ref (mr 8), .ref (mr 9), .ref (mr 10), .long (lN (mi 11)), .long (lN (mi 12)), .ref (mr 13), .ref (mr 14), .ref (mr 15), .ref (mr 16), .ref (mr 17), .ref (mr 18), .int (nI (mi 19)), .ref (mr 20), .ref (mr 21), .ref (mr 22), .ref (mr 23), .long (lN (mi 24)), .long (lN (mi 25)), .int (nI (mi 26)), .int (nI (mi 27)), .ref (mr 28), .int (nI (mi 29)), .int (nI (mi 30)), .int (nI (mi 31)), .int (nI (mi 32))])), (mr 0, .inl (Z 0, 18, .inl (aI p))), (mr 1, .inl (Z 0, 108, .inl (aI g)))]) (rest := []) hw hA [] [0, 1, 2] rfl rfl rfl rfl (by decide) (fun hPc hDc => va_runS (As := [.long v.toInt64, .long (lN 0), .long (lN 99)]) (rest := []) ⟨hx, hb, hml, hown, hts⟩ (c_X8_in l D Z H.size v.toInt64 (lN 0) (lN 99) v.toInt ((0 : Nat) : Int) ((99 : Nat) : Int) (Int32.toInt_toInt64 _) (pk_lT (by first | omega | assumption)) (pk_lT (by first | omega | assumption))) (va_cwS 3 hts gX8_tell_X8_in rfl rfl rfl (by decide +kernel) ⟨Nat.le_of_ble_eq_true rfl, Nat.le_of_ble_eq_true rfl⟩) ⟨fb_cPre, pre_of hPc hK hDc⟩ rfl rfl hl.1 rfl (lv_room (Nat.le_of_ble_eq_true rfl)) dX8_tell_27 ⟨Nat.le_of_ble_eq_true rfl, Nat.le_of_ble_eq_true rfl⟩) (fun r11 uu H locs hr11 hw => ?_)
      subst hr11
      have hw : WS D A s [(M, .inr (8, [.ref (mr 0), .ref (mr 1), .int (nI (mi 2)), .ref (mr 3), .ref (mr 4), .int ima, .ref (mr 6), .int (nI (mi 7)), .ref (mr 8), .ref (mr 9), .ref (mr 10), .long (lN (mi 11)), .long (lN (mi 12)), .ref (mr 13), .ref (mr 14), .ref (mr 15), .ref (mr 16), .ref (mr 17), .ref (mr 18), .int (nI (mi 19)), .ref (mr 20), .ref (mr 21), .ref (mr 22), .ref (mr 23), .long (lN (mi 24)), .long (lN (mi 25)), .int (nI (mi 26)), .int (nI (mi 27)), .ref (mr 28), .int (nI (mi 29)), .int (nI (mi 30)), .int (nI (mi 31)), .int (nI (mi 32))])), (mr 0, .inl (Z 0, 18, .inl (aI p))), (mr 1, .inl (Z 0, 108, .inl (aI g)))] H locs := hw
      refine q_if_ne (tgt := 50) hx hb ((bb (((0 : Nat) : Int) ≤ v.toInt ∧ v.toInt ≤ ((99 : Nat) : Int)) : Nat) : Int) (nI_toInt (Nat.lt_of_le_of_lt (bb_le _) (by decide))) dX8_tell_30 (by decide) (fun c12 => ?_) (fun c12 => ?_)
      · --
        have c12 := bb_1 c12
        refine q_iconst (v := 1) hx hb dX8_tell_50 (by decide) ?_
        refine lv_goto (tgt := 55) hx hb dX8_tell_51 (by decide) ?_
        refine lv_istore_n (lv' := [(3, .int (nI 1)), (0, .ref M), (1, .int wh), (2, .int v)]) hx hb dX8_tell_55 rfl hl (by decide) rfl (fun ls hl => ?_)
        refine lv_iload_n hx hb dX8_tell_56 rfl (lv_at hl 0 rfl) ?_
        refine q_if_ne (tgt := 62) hx hb ((1 : Nat) : Int) (nI_toInt (by omega)) dX8_tell_57 (by decide) (fun c13 => ?_) (fun c13 => ?_)
        · --
          obtain ⟨q, rfl, eq⟩ := i32_nat (x := wh) (by omega)
          obtain ⟨y, rfl, ey⟩ := i32_nat (x := v) (by omega)
          have hpq : p (9 + q) ≤ 99 := by rcases (show q = 0 ∨ q = 1 ∨ q = 2 by omega) with rfl | rfl | rfl <;> assumption
          refine lv_aload_n hx hb dX8_tell_62 rfl (lv_at hl 1 rfl) ?_
          refine q_get (v := .ref (mr 0)) (ci := 8) hx hb hts in_X8 hown hK hw 0 0 wd3 dX8_tell_63 rfl rfl (by decide) rfl ?_
          refine q_bipush (v := 9) hx hb dX8_tell_66 (by decide) ?_
          refine lv_iload_n hx hb dX8_tell_68 rfl (lv_at hl 2 rfl) ?_
          refine q_iadd hx hb dX8_tell_69 ?_
          refine q_iald hx hb hK hw 1 (by omega) (by omega) dX8_tell_70 rfl ?_
          refine lv_istore (lv' := [(4, .int (nI (p (9 + q)))), (3, .int (nI 1)), (0, .ref M), (1, .int (nI q)), (2, .int (nI y))]) hx hb dX8_tell_71 hl (by decide) rfl (fun ls hl => ?_)
          refine lv_iload hx hb dX8_tell_73 (lv_at hl 0 rfl) ?_
          refine lv_iload_n hx hb dX8_tell_75 rfl (lv_at hl 4 rfl) ?_
          refine q_icmp_ne (tgt := 82) hx hb ((p (9 + q) : Nat) : Int) ((y : Nat) : Int) (nI_toInt (by omega)) (nI_toInt (by omega)) dX8_tell_76 (by decide) (fun c14 => ?_) (fun c14 => ?_)
          · --
            refine lv_aload_n hx hb dX8_tell_82 rfl (lv_at hl 2 rfl) ?_
            refine q_callv (S := Unit) (Z := Z) (D := D) (wc := [(M, .inr (8, [.ref (mr 0), .ref (mr 1), .int (nI (mi 2)), .ref (mr 3), .ref (mr 4), .int ima, .ref (mr 6), .int (nI (mi 7)), .ref (mr 8), .ref (mr 9), .ref (mr 10), .long (lN (mi 11)), .long (lN (mi 12)), .ref (mr 13), .ref (mr 14), .ref (mr 15), .ref (mr 16), .ref (mr 17), .ref (mr 18), .int (nI (mi 19)), .ref (mr 20), .ref (mr 21), .ref (mr 22), .ref (mr 23), .long (lN (mi 24)), .long (lN (mi 25)), .int (nI (mi 26)), .int (nI (mi 27)), .ref (mr 28), .int (nI (mi 29)), .int (nI (mi 30)), .int (nI (mi 31)), .int (nI (mi 32))])), (mr 0, .inl (Z 0, 18, .inl (aI p))), (mr 1, .inl (Z 0, 108, .inl (aI g)))]) (wr := []) (rest := []) hw hA [0, 1, 2] [] rfl rfl rfl rfl (by decide) (fun hPc hDc => va_runV (As := []) (rest := []) ⟨hx, hb, hml, hown, hts⟩ (c_X8_notes l D Z H.size M mr mi ima p g (by first | assumption | omega)) (cwV 0 hts gX8_tell_X8_notes rfl rfl rfl (by decide +kernel) ⟨Nat.le_of_ble_eq_true rfl, Nat.le_of_ble_eq_true rfl⟩) ⟨fb_cPre, va_recv hK.1 hPc (ci := 8) (q0 := 0) rfl rfl, pre_of hPc hK hDc⟩ rfl rfl hl.1 rfl (lv_room (Nat.le_of_ble_eq_true rfl)) dX8_tell_83 ⟨Nat.le_of_ble_eq_true rfl, Nat.le_of_ble_eq_true rfl⟩) (fun uu H locs hr15 hw => ?_)
            have hw : WS D A s [(M, .inr (8, [.ref (mr 0), .ref (mr 1), .int (nI (min (mi 2 + 1) 6)), .ref (mr 3), .ref (mr 4), .int ima, .ref (mr 6), .int (nI (mi 7)), .ref (mr 8), .ref (mr 9), .ref (mr 10), .long (lN (mi 11)), .long (lN (mi 12)), .ref (mr 13), .ref (mr 14), .ref (mr 15), .ref (mr 16), .ref (mr 17), .ref (mr 18), .int (nI (mi 19)), .ref (mr 20), .ref (mr 21), .ref (mr 22), .ref (mr 23), .long (lN (mi 24)), .long (lN (mi 25)), .int (nI (mi 26)), .int (nI (mi 27)), .ref (mr 28), .int (nI (mi 29)), .int (nI (mi 30)), .int (nI (mi 31)), .int (nI (mi 32))])), (mr 0, .inl (Z 0, 18, .inl (aI p))), (mr 1, .inl (Z 0, 108, .inl (aI (ntG g p (mi 2)))))] H locs := hw
            refine lv_aload_n hx hb dX8_tell_86 rfl (lv_at hl 2 rfl) ?_
            refine q_get (v := .ref (mr 0)) (ci := 8) hx hb hts in_X8 hown hK hw 0 0 wd3 dX8_tell_87 rfl rfl (by decide) rfl ?_
            refine q_bipush (v := 9) hx hb dX8_tell_90 (by decide) ?_
            refine lv_iload_n hx hb dX8_tell_92 rfl (lv_at hl 3 rfl) ?_
            refine q_iadd hx hb dX8_tell_93 ?_
            refine lv_iload_n hx hb dX8_tell_94 rfl (lv_at hl 4 rfl) ?_
            refine q_iast hx hb hK hw 1 (by omega) (by omega) dX8_tell_95 rfl (fun H locs hw => ?_)
            have hw : WS D A s [(M, .inr (8, [.ref (mr 0), .ref (mr 1), .int (nI (min (mi 2 + 1) 6)), .ref (mr 3), .ref (mr 4), .int ima, .ref (mr 6), .int (nI (mi 7)), .ref (mr 8), .ref (mr 9), .ref (mr 10), .long (lN (mi 11)), .long (lN (mi 12)), .ref (mr 13), .ref (mr 14), .ref (mr 15), .ref (mr 16), .ref (mr 17), .ref (mr 18), .int (nI (mi 19)), .ref (mr 20), .ref (mr 21), .ref (mr 22), .ref (mr 23), .long (lN (mi 24)), .long (lN (mi 25)), .int (nI (mi 26)), .int (nI (mi 27)), .ref (mr 28), .int (nI (mi 29)), .int (nI (mi 30)), .int (nI (mi 31)), .int (nI (mi 32))])), (mr 0, .inl (Z 0, 18, .inl (aI (va_up p (9 + q) y)))), (mr 1, .inl (Z 0, 108, .inl (aI (ntG g p (mi 2)))))] H locs := hw
            refine lv_iload hx hb dX8_tell_96 (lv_at hl 0 rfl) ?_
            exact q_iret (wout := _) hx hb hr hlocks hAe hK (min (mi 2 + 1) 6, va_up p (9 + q) y, ntG g p (mi 2)) hw (⟨(tl_3 eq ey (by omega) (by omega)).symm, Or.inr ⟨by unfold tlOk; rw [tnI eq]; omega, rfl, rfl, by rw [tnI eq, tnI ey]⟩⟩) dX8_tell_98
          · --
            refine lv_bipush (v := (-2)) hx hb dX8_tell_79 (by decide) ?_
            exact q_iret (wout := _) hx hb hr hlocks hAe hK (mi 2, p, g) hw (⟨(tl_2 eq ey (by omega) (by omega)).symm, Or.inl ⟨fun q => by unfold tlOk at q; rw [tnI eq] at q; omega, ⟨rfl, rfl, rfl⟩⟩⟩) dX8_tell_81
        · --
          exfalso; omega
      · --
        have c12 := bb_0 c12
        refine lv_iload_n hx hb dX8_tell_33 rfl (lv_at hl 1 rfl) ?_
        refine q_iconst (v := 2) hx hb dX8_tell_34 (by decide) ?_
        refine q_icmp_ne (tgt := 54) hx hb wh.toInt ((2 : Nat) : Int) rfl (nI_toInt (by omega)) dX8_tell_35 (by decide) (fun c16 => ?_) (fun c16 => ?_)
        · --
          refine q_iconst (v := 0) hx hb dX8_tell_54 (by decide) ?_
          refine lv_istore_n (lv' := [(3, .int (nI 0)), (0, .ref M), (1, .int wh), (2, .int v)]) hx hb dX8_tell_55 rfl hl (by decide) rfl (fun ls hl => ?_)
          refine lv_iload_n hx hb dX8_tell_56 rfl (lv_at hl 0 rfl) ?_
          refine q_if_ne (tgt := 62) hx hb ((0 : Nat) : Int) (nI_toInt (by omega)) dX8_tell_57 (by decide) (fun c17 => ?_) (fun c17 => ?_)
          · --
            exfalso; omega
          · --
            refine lv_iconst (v := (-1)) hx hb dX8_tell_60 (by decide) ?_
            exact q_iret (wout := _) hx hb hr hlocks hAe hK (mi 2, p, g) hw (⟨(tl_1 (by omega)).symm, Or.inl ⟨fun q => by unfold tlOk at q; omega, ⟨rfl, rfl, rfl⟩⟩⟩) dX8_tell_61
        · --
          refine lv_iload_n hx hb dX8_tell_38 rfl (lv_at hl 2 rfl) ?_
          refine lv_i2l hx hb dX8_tell_39 rfl ?_
          refine q_lconst (v := 1) hx hb dX8_tell_40 (by decide) ?_
          refine lv_ldc2 hx hb hown wd2 dX8_tell_41 ?_
          refine q_topl (x := 8) (y := lN 8) (by decide) ?_
          refine q_calli (S := Unit) (Z := Z) (D := D) (wc := []) (wr := [(M, .inr (8, [.ref (mr 0), .ref (mr 1), .int (nI (mi 2)), .ref (mr 3), .ref (mr 4), .int ima, .ref (mr 6), .int (nI (mi 7)), .ref (mr 8), .ref (mr 9), .ref (mr 10), .long (lN (mi 11)), .long (lN (mi 12)), .ref (mr 13), .ref (mr 14), .ref (mr 15), .ref (mr 16), .ref (mr 17), .ref (mr 18), .int (nI (mi 19)), .ref (mr 20), .ref (mr 21), .ref (mr 22), .ref (mr 23), .long (lN (mi 24)), .long (lN (mi 25)), .int (nI (mi 26)), .int (nI (mi 27)), .ref (mr 28), .int (nI (mi 29)), .int (nI (mi 30)), .int (nI (mi 31)), .int (nI (mi 32))])), (mr 0, .inl (Z 0, 18, .inl (aI p))), (mr 1, .inl (Z 0, 108, .inl (aI g)))]) (rest := []) hw hA [] [0, 1, 2] rfl rfl rfl rfl (by decide) (fun hPc hDc => va_runS (As := [.long v.toInt64, .long (lN 1), .long (lN 8)]) (rest := []) ⟨hx, hb, hml, hown, hts⟩ (c_X8_in l D Z H.size v.toInt64 (lN 1) (lN 8) v.toInt ((1 : Nat) : Int) ((8 : Nat) : Int) (Int32.toInt_toInt64 _) (pk_lT (by first | omega | assumption)) (pk_lT (by first | omega | assumption))) (va_cwS 3 hts gX8_tell_X8_in rfl rfl rfl (by decide +kernel) ⟨Nat.le_of_ble_eq_true rfl, Nat.le_of_ble_eq_true rfl⟩) ⟨fb_cPre, pre_of hPc hK hDc⟩ rfl rfl hl.1 rfl (lv_room (Nat.le_of_ble_eq_true rfl)) dX8_tell_44 ⟨Nat.le_of_ble_eq_true rfl, Nat.le_of_ble_eq_true rfl⟩) (fun r18 uu H locs hr18 hw => ?_)
          subst hr18
          have hw : WS D A s [(M, .inr (8, [.ref (mr 0), .ref (mr 1), .int (nI (mi 2)), .ref (mr 3), .ref (mr 4), .int ima, .ref (mr 6), .int (nI (mi 7)), .ref (mr 8), .ref (mr 9), .ref (mr 10), .long (lN (mi 11)), .long (lN (mi 12)), .ref (mr 13), .ref (mr 14), .ref (mr 15), .ref (mr 16), .ref (mr 17), .ref (mr 18), .int (nI (mi 19)), .ref (mr 20), .ref (mr 21), .ref (mr 22), .ref (mr 23), .long (lN (mi 24)), .long (lN (mi 25)), .int (nI (mi 26)), .int (nI (mi 27)), .ref (mr 28), .int (nI (mi 29)), .int (nI (mi 30)), .int (nI (mi 31)), .int (nI (mi 32))])), (mr 0, .inl (Z 0, 18, .inl (aI p))), (mr 1, .inl (Z 0, 108, .inl (aI g)))] H locs := hw
          refine q_if_eq (tgt := 54) hx hb ((bb (((1 : Nat) : Int) ≤ v.toInt ∧ v.toInt ≤ ((8 : Nat) : Int)) : Nat) : Int) (nI_toInt (Nat.lt_of_le_of_lt (bb_le _) (by decide))) dX8_tell_47 (by decide) (fun c19 => ?_) (fun c19 => ?_)
          · --
            have c19 := bb_0 c19
            refine q_iconst (v := 0) hx hb dX8_tell_54 (by decide) ?_
            refine lv_istore_n (lv' := [(3, .int (nI 0)), (0, .ref M), (1, .int wh), (2, .int v)]) hx hb dX8_tell_55 rfl hl (by decide) rfl (fun ls hl => ?_)
            refine lv_iload_n hx hb dX8_tell_56 rfl (lv_at hl 0 rfl) ?_
            refine q_if_ne (tgt := 62) hx hb ((0 : Nat) : Int) (nI_toInt (by omega)) dX8_tell_57 (by decide) (fun c20 => ?_) (fun c20 => ?_)
            · --
              exfalso; omega
            · --
              refine lv_iconst (v := (-1)) hx hb dX8_tell_60 (by decide) ?_
              exact q_iret (wout := _) hx hb hr hlocks hAe hK (mi 2, p, g) hw (⟨(tl_1 (by omega)).symm, Or.inl ⟨fun q => by unfold tlOk at q; omega, ⟨rfl, rfl, rfl⟩⟩⟩) dX8_tell_61
          · --
            have c19 := bb_1 c19
            refine q_iconst (v := 1) hx hb dX8_tell_50 (by decide) ?_
            refine lv_goto (tgt := 55) hx hb dX8_tell_51 (by decide) ?_
            refine lv_istore_n (lv' := [(3, .int (nI 1)), (0, .ref M), (1, .int wh), (2, .int v)]) hx hb dX8_tell_55 rfl hl (by decide) rfl (fun ls hl => ?_)
            refine lv_iload_n hx hb dX8_tell_56 rfl (lv_at hl 0 rfl) ?_
            refine q_if_ne (tgt := 62) hx hb ((1 : Nat) : Int) (nI_toInt (by omega)) dX8_tell_57 (by decide) (fun c21 => ?_) (fun c21 => ?_)
            · --
              obtain ⟨q, rfl, eq⟩ := i32_nat (x := wh) (by omega)
              obtain ⟨y, rfl, ey⟩ := i32_nat (x := v) (by omega)
              have hpq : p (9 + q) ≤ 99 := by rcases (show q = 0 ∨ q = 1 ∨ q = 2 by omega) with rfl | rfl | rfl <;> assumption
              refine lv_aload_n hx hb dX8_tell_62 rfl (lv_at hl 1 rfl) ?_
              refine q_get (v := .ref (mr 0)) (ci := 8) hx hb hts in_X8 hown hK hw 0 0 wd3 dX8_tell_63 rfl rfl (by decide) rfl ?_
              refine q_bipush (v := 9) hx hb dX8_tell_66 (by decide) ?_
              refine lv_iload_n hx hb dX8_tell_68 rfl (lv_at hl 2 rfl) ?_
              refine q_iadd hx hb dX8_tell_69 ?_
              refine q_iald hx hb hK hw 1 (by omega) (by omega) dX8_tell_70 rfl ?_
              refine lv_istore (lv' := [(4, .int (nI (p (9 + q)))), (3, .int (nI 1)), (0, .ref M), (1, .int (nI q)), (2, .int (nI y))]) hx hb dX8_tell_71 hl (by decide) rfl (fun ls hl => ?_)
              refine lv_iload hx hb dX8_tell_73 (lv_at hl 0 rfl) ?_
              refine lv_iload_n hx hb dX8_tell_75 rfl (lv_at hl 4 rfl) ?_
              refine q_icmp_ne (tgt := 82) hx hb ((p (9 + q) : Nat) : Int) ((y : Nat) : Int) (nI_toInt (by omega)) (nI_toInt (by omega)) dX8_tell_76 (by decide) (fun c22 => ?_) (fun c22 => ?_)
              · --
                refine lv_aload_n hx hb dX8_tell_82 rfl (lv_at hl 2 rfl) ?_
                refine q_callv (S := Unit) (Z := Z) (D := D) (wc := [(M, .inr (8, [.ref (mr 0), .ref (mr 1), .int (nI (mi 2)), .ref (mr 3), .ref (mr 4), .int ima, .ref (mr 6), .int (nI (mi 7)), .ref (mr 8), .ref (mr 9), .ref (mr 10), .long (lN (mi 11)), .long (lN (mi 12)), .ref (mr 13), .ref (mr 14), .ref (mr 15), .ref (mr 16), .ref (mr 17), .ref (mr 18), .int (nI (mi 19)), .ref (mr 20), .ref (mr 21), .ref (mr 22), .ref (mr 23), .long (lN (mi 24)), .long (lN (mi 25)), .int (nI (mi 26)), .int (nI (mi 27)), .ref (mr 28), .int (nI (mi 29)), .int (nI (mi 30)), .int (nI (mi 31)), .int (nI (mi 32))])), (mr 0, .inl (Z 0, 18, .inl (aI p))), (mr 1, .inl (Z 0, 108, .inl (aI g)))]) (wr := []) (rest := []) hw hA [0, 1, 2] [] rfl rfl rfl rfl (by decide) (fun hPc hDc => va_runV (As := []) (rest := []) ⟨hx, hb, hml, hown, hts⟩ (c_X8_notes l D Z H.size M mr mi ima p g (by first | assumption | omega)) (cwV 0 hts gX8_tell_X8_notes rfl rfl rfl (by decide +kernel) ⟨Nat.le_of_ble_eq_true rfl, Nat.le_of_ble_eq_true rfl⟩) ⟨fb_cPre, va_recv hK.1 hPc (ci := 8) (q0 := 0) rfl rfl, pre_of hPc hK hDc⟩ rfl rfl hl.1 rfl (lv_room (Nat.le_of_ble_eq_true rfl)) dX8_tell_83 ⟨Nat.le_of_ble_eq_true rfl, Nat.le_of_ble_eq_true rfl⟩) (fun uu H locs hr23 hw => ?_)
                have hw : WS D A s [(M, .inr (8, [.ref (mr 0), .ref (mr 1), .int (nI (min (mi 2 + 1) 6)), .ref (mr 3), .ref (mr 4), .int ima, .ref (mr 6), .int (nI (mi 7)), .ref (mr 8), .ref (mr 9), .ref (mr 10), .long (lN (mi 11)), .long (lN (mi 12)), .ref (mr 13), .ref (mr 14), .ref (mr 15), .ref (mr 16), .ref (mr 17), .ref (mr 18), .int (nI (mi 19)), .ref (mr 20), .ref (mr 21), .ref (mr 22), .ref (mr 23), .long (lN (mi 24)), .long (lN (mi 25)), .int (nI (mi 26)), .int (nI (mi 27)), .ref (mr 28), .int (nI (mi 29)), .int (nI (mi 30)), .int (nI (mi 31)), .int (nI (mi 32))])), (mr 0, .inl (Z 0, 18, .inl (aI p))), (mr 1, .inl (Z 0, 108, .inl (aI (ntG g p (mi 2)))))] H locs := hw
                refine lv_aload_n hx hb dX8_tell_86 rfl (lv_at hl 2 rfl) ?_
                refine q_get (v := .ref (mr 0)) (ci := 8) hx hb hts in_X8 hown hK hw 0 0 wd3 dX8_tell_87 rfl rfl (by decide) rfl ?_
                refine q_bipush (v := 9) hx hb dX8_tell_90 (by decide) ?_
                refine lv_iload_n hx hb dX8_tell_92 rfl (lv_at hl 3 rfl) ?_
                refine q_iadd hx hb dX8_tell_93 ?_
                refine lv_iload_n hx hb dX8_tell_94 rfl (lv_at hl 4 rfl) ?_
                refine q_iast hx hb hK hw 1 (by omega) (by omega) dX8_tell_95 rfl (fun H locs hw => ?_)
                have hw : WS D A s [(M, .inr (8, [.ref (mr 0), .ref (mr 1), .int (nI (min (mi 2 + 1) 6)), .ref (mr 3), .ref (mr 4), .int ima, .ref (mr 6), .int (nI (mi 7)), .ref (mr 8), .ref (mr 9), .ref (mr 10), .long (lN (mi 11)), .long (lN (mi 12)), .ref (mr 13), .ref (mr 14), .ref (mr 15), .ref (mr 16), .ref (mr 17), .ref (mr 18), .int (nI (mi 19)), .ref (mr 20), .ref (mr 21), .ref (mr 22), .ref (mr 23), .long (lN (mi 24)), .long (lN (mi 25)), .int (nI (mi 26)), .int (nI (mi 27)), .ref (mr 28), .int (nI (mi 29)), .int (nI (mi 30)), .int (nI (mi 31)), .int (nI (mi 32))])), (mr 0, .inl (Z 0, 18, .inl (aI (va_up p (9 + q) y)))), (mr 1, .inl (Z 0, 108, .inl (aI (ntG g p (mi 2)))))] H locs := hw
                refine lv_iload hx hb dX8_tell_96 (lv_at hl 0 rfl) ?_
                exact q_iret (wout := _) hx hb hr hlocks hAe hK (min (mi 2 + 1) 6, va_up p (9 + q) y, ntG g p (mi 2)) hw (⟨(tl_3 eq ey (by omega) (by omega)).symm, Or.inr ⟨by unfold tlOk; rw [tnI eq]; omega, rfl, rfl, by rw [tnI eq, tnI ey]⟩⟩) dX8_tell_98
              · --
                refine lv_bipush (v := (-2)) hx hb dX8_tell_79 (by decide) ?_
                exact q_iret (wout := _) hx hb hr hlocks hAe hK (mi 2, p, g) hw (⟨(tl_2 eq ey (by omega) (by omega)).symm, Or.inl ⟨fun q => by unfold tlOk at q; rw [tnI eq] at q; omega, ⟨rfl, rfl, rfl⟩⟩⟩) dX8_tell_81
            · --
              exfalso; omega
  · --
    refine lv_iload_n hx hb dX8_tell_4 rfl (lv_at hl 2 rfl) ?_
    refine lv_i2l hx hb dX8_tell_5 rfl ?_
    refine q_lconst (v := 1) hx hb dX8_tell_6 (by decide) ?_
    refine lv_ldc2 hx hb hown wd1 dX8_tell_7 ?_
    refine q_topl (x := 99) (y := lN 99) (by decide) ?_
    refine q_calli (S := Unit) (Z := Z) (D := D) (wc := []) (wr := [(M, .inr (8, [.ref (mr 0), .ref (mr 1), .int (nI (mi 2)), .ref (mr 3), .ref (mr 4), .int ima, .ref (mr 6), .int (nI (mi 7)), .ref (mr 8), .ref (mr 9), .ref (mr 10), .long (lN (mi 11)), .long (lN (mi 12)), .ref (mr 13), .ref (mr 14), .ref (mr 15), .ref (mr 16), .ref (mr 17), .ref (mr 18), .int (nI (mi 19)), .ref (mr 20), .ref (mr 21), .ref (mr 22), .ref (mr 23), .long (lN (mi 24)), .long (lN (mi 25)), .int (nI (mi 26)), .int (nI (mi 27)), .ref (mr 28), .int (nI (mi 29)), .int (nI (mi 30)), .int (nI (mi 31)), .int (nI (mi 32))])), (mr 0, .inl (Z 0, 18, .inl (aI p))), (mr 1, .inl (Z 0, 108, .inl (aI g)))]) (rest := []) hw hA [] [0, 1, 2] rfl rfl rfl rfl (by decide) (fun hPc hDc => va_runS (As := [.long v.toInt64, .long (lN 1), .long (lN 99)]) (rest := []) ⟨hx, hb, hml, hown, hts⟩ (c_X8_in l D Z H.size v.toInt64 (lN 1) (lN 99) v.toInt ((1 : Nat) : Int) ((99 : Nat) : Int) (Int32.toInt_toInt64 _) (pk_lT (by first | omega | assumption)) (pk_lT (by first | omega | assumption))) (va_cwS 3 hts gX8_tell_X8_in rfl rfl rfl (by decide +kernel) ⟨Nat.le_of_ble_eq_true rfl, Nat.le_of_ble_eq_true rfl⟩) ⟨fb_cPre, pre_of hPc hK hDc⟩ rfl rfl hl.1 rfl (lv_room (Nat.le_of_ble_eq_true rfl)) dX8_tell_10 ⟨Nat.le_of_ble_eq_true rfl, Nat.le_of_ble_eq_true rfl⟩) (fun r24 uu H locs hr24 hw => ?_)
    subst hr24
    have hw : WS D A s [(M, .inr (8, [.ref (mr 0), .ref (mr 1), .int (nI (mi 2)), .ref (mr 3), .ref (mr 4), .int ima, .ref (mr 6), .int (nI (mi 7)), .ref (mr 8), .ref (mr 9), .ref (mr 10), .long (lN (mi 11)), .long (lN (mi 12)), .ref (mr 13), .ref (mr 14), .ref (mr 15), .ref (mr 16), .ref (mr 17), .ref (mr 18), .int (nI (mi 19)), .ref (mr 20), .ref (mr 21), .ref (mr 22), .ref (mr 23), .long (lN (mi 24)), .long (lN (mi 25)), .int (nI (mi 26)), .int (nI (mi 27)), .ref (mr 28), .int (nI (mi 29)), .int (nI (mi 30)), .int (nI (mi 31)), .int (nI (mi 32))])), (mr 0, .inl (Z 0, 18, .inl (aI p))), (mr 1, .inl (Z 0, 108, .inl (aI g)))] H locs := hw
    refine q_if_ne (tgt := 50) hx hb ((bb (((1 : Nat) : Int) ≤ v.toInt ∧ v.toInt ≤ ((99 : Nat) : Int)) : Nat) : Int) (nI_toInt (Nat.lt_of_le_of_lt (bb_le _) (by decide))) dX8_tell_13 (by decide) (fun c25 => ?_) (fun c25 => ?_)
    · --
      have c25 := bb_1 c25
      refine q_iconst (v := 1) hx hb dX8_tell_50 (by decide) ?_
      refine lv_goto (tgt := 55) hx hb dX8_tell_51 (by decide) ?_
      refine lv_istore_n (lv' := [(3, .int (nI 1)), (0, .ref M), (1, .int wh), (2, .int v)]) hx hb dX8_tell_55 rfl hl (by decide) rfl (fun ls hl => ?_)
      refine lv_iload_n hx hb dX8_tell_56 rfl (lv_at hl 0 rfl) ?_
      refine q_if_ne (tgt := 62) hx hb ((1 : Nat) : Int) (nI_toInt (by omega)) dX8_tell_57 (by decide) (fun c26 => ?_) (fun c26 => ?_)
      · --
        obtain ⟨q, rfl, eq⟩ := i32_nat (x := wh) (by omega)
        obtain ⟨y, rfl, ey⟩ := i32_nat (x := v) (by omega)
        have hpq : p (9 + q) ≤ 99 := by rcases (show q = 0 ∨ q = 1 ∨ q = 2 by omega) with rfl | rfl | rfl <;> assumption
        refine lv_aload_n hx hb dX8_tell_62 rfl (lv_at hl 1 rfl) ?_
        refine q_get (v := .ref (mr 0)) (ci := 8) hx hb hts in_X8 hown hK hw 0 0 wd3 dX8_tell_63 rfl rfl (by decide) rfl ?_
        refine q_bipush (v := 9) hx hb dX8_tell_66 (by decide) ?_
        refine lv_iload_n hx hb dX8_tell_68 rfl (lv_at hl 2 rfl) ?_
        refine q_iadd hx hb dX8_tell_69 ?_
        refine q_iald hx hb hK hw 1 (by omega) (by omega) dX8_tell_70 rfl ?_
        refine lv_istore (lv' := [(4, .int (nI (p (9 + q)))), (3, .int (nI 1)), (0, .ref M), (1, .int (nI q)), (2, .int (nI y))]) hx hb dX8_tell_71 hl (by decide) rfl (fun ls hl => ?_)
        refine lv_iload hx hb dX8_tell_73 (lv_at hl 0 rfl) ?_
        refine lv_iload_n hx hb dX8_tell_75 rfl (lv_at hl 4 rfl) ?_
        refine q_icmp_ne (tgt := 82) hx hb ((p (9 + q) : Nat) : Int) ((y : Nat) : Int) (nI_toInt (by omega)) (nI_toInt (by omega)) dX8_tell_76 (by decide) (fun c27 => ?_) (fun c27 => ?_)
        · --
          refine lv_aload_n hx hb dX8_tell_82 rfl (lv_at hl 2 rfl) ?_
          refine q_callv (S := Unit) (Z := Z) (D := D) (wc := [(M, .inr (8, [.ref (mr 0), .ref (mr 1), .int (nI (mi 2)), .ref (mr 3), .ref (mr 4), .int ima, .ref (mr 6), .int (nI (mi 7)), .ref (mr 8), .ref (mr 9), .ref (mr 10), .long (lN (mi 11)), .long (lN (mi 12)), .ref (mr 13), .ref (mr 14), .ref (mr 15), .ref (mr 16), .ref (mr 17), .ref (mr 18), .int (nI (mi 19)), .ref (mr 20), .ref (mr 21), .ref (mr 22), .ref (mr 23), .long (lN (mi 24)), .long (lN (mi 25)), .int (nI (mi 26)), .int (nI (mi 27)), .ref (mr 28), .int (nI (mi 29)), .int (nI (mi 30)), .int (nI (mi 31)), .int (nI (mi 32))])), (mr 0, .inl (Z 0, 18, .inl (aI p))), (mr 1, .inl (Z 0, 108, .inl (aI g)))]) (wr := []) (rest := []) hw hA [0, 1, 2] [] rfl rfl rfl rfl (by decide) (fun hPc hDc => va_runV (As := []) (rest := []) ⟨hx, hb, hml, hown, hts⟩ (c_X8_notes l D Z H.size M mr mi ima p g (by first | assumption | omega)) (cwV 0 hts gX8_tell_X8_notes rfl rfl rfl (by decide +kernel) ⟨Nat.le_of_ble_eq_true rfl, Nat.le_of_ble_eq_true rfl⟩) ⟨fb_cPre, va_recv hK.1 hPc (ci := 8) (q0 := 0) rfl rfl, pre_of hPc hK hDc⟩ rfl rfl hl.1 rfl (lv_room (Nat.le_of_ble_eq_true rfl)) dX8_tell_83 ⟨Nat.le_of_ble_eq_true rfl, Nat.le_of_ble_eq_true rfl⟩) (fun uu H locs hr28 hw => ?_)
          have hw : WS D A s [(M, .inr (8, [.ref (mr 0), .ref (mr 1), .int (nI (min (mi 2 + 1) 6)), .ref (mr 3), .ref (mr 4), .int ima, .ref (mr 6), .int (nI (mi 7)), .ref (mr 8), .ref (mr 9), .ref (mr 10), .long (lN (mi 11)), .long (lN (mi 12)), .ref (mr 13), .ref (mr 14), .ref (mr 15), .ref (mr 16), .ref (mr 17), .ref (mr 18), .int (nI (mi 19)), .ref (mr 20), .ref (mr 21), .ref (mr 22), .ref (mr 23), .long (lN (mi 24)), .long (lN (mi 25)), .int (nI (mi 26)), .int (nI (mi 27)), .ref (mr 28), .int (nI (mi 29)), .int (nI (mi 30)), .int (nI (mi 31)), .int (nI (mi 32))])), (mr 0, .inl (Z 0, 18, .inl (aI p))), (mr 1, .inl (Z 0, 108, .inl (aI (ntG g p (mi 2)))))] H locs := hw
          refine lv_aload_n hx hb dX8_tell_86 rfl (lv_at hl 2 rfl) ?_
          refine q_get (v := .ref (mr 0)) (ci := 8) hx hb hts in_X8 hown hK hw 0 0 wd3 dX8_tell_87 rfl rfl (by decide) rfl ?_
          refine q_bipush (v := 9) hx hb dX8_tell_90 (by decide) ?_
          refine lv_iload_n hx hb dX8_tell_92 rfl (lv_at hl 3 rfl) ?_
          refine q_iadd hx hb dX8_tell_93 ?_
          refine lv_iload_n hx hb dX8_tell_94 rfl (lv_at hl 4 rfl) ?_
          refine q_iast hx hb hK hw 1 (by omega) (by omega) dX8_tell_95 rfl (fun H locs hw => ?_)
          have hw : WS D A s [(M, .inr (8, [.ref (mr 0), .ref (mr 1), .int (nI (min (mi 2 + 1) 6)), .ref (mr 3), .ref (mr 4), .int ima, .ref (mr 6), .int (nI (mi 7)), .ref (mr 8), .ref (mr 9), .ref (mr 10), .long (lN (mi 11)), .long (lN (mi 12)), .ref (mr 13), .ref (mr 14), .ref (mr 15), .ref (mr 16), .ref (mr 17), .ref (mr 18), .int (nI (mi 19)), .ref (mr 20), .ref (mr 21), .ref (mr 22), .ref (mr 23), .long (lN (mi 24)), .long (lN (mi 25)), .int (nI (mi 26)), .int (nI (mi 27)), .ref (mr 28), .int (nI (mi 29)), .int (nI (mi 30)), .int (nI (mi 31)), .int (nI (mi 32))])), (mr 0, .inl (Z 0, 18, .inl (aI (va_up p (9 + q) y)))), (mr 1, .inl (Z 0, 108, .inl (aI (ntG g p (mi 2)))))] H locs := hw
          refine lv_iload hx hb dX8_tell_96 (lv_at hl 0 rfl) ?_
          exact q_iret (wout := _) hx hb hr hlocks hAe hK (min (mi 2 + 1) 6, va_up p (9 + q) y, ntG g p (mi 2)) hw (⟨(tl_3 eq ey (by omega) (by omega)).symm, Or.inr ⟨by unfold tlOk; rw [tnI eq]; omega, rfl, rfl, by rw [tnI eq, tnI ey]⟩⟩) dX8_tell_98
        · --
          refine lv_bipush (v := (-2)) hx hb dX8_tell_79 (by decide) ?_
          exact q_iret (wout := _) hx hb hr hlocks hAe hK (mi 2, p, g) hw (⟨(tl_2 eq ey (by omega) (by omega)).symm, Or.inl ⟨fun q => by unfold tlOk at q; rw [tnI eq] at q; omega, ⟨rfl, rfl, rfl⟩⟩⟩) dX8_tell_81
      · --
        exfalso; omega
    · --
      have c25 := bb_0 c25
      refine lv_iload_n hx hb dX8_tell_16 rfl (lv_at hl 1 rfl) ?_
      refine q_iconst (v := 1) hx hb dX8_tell_17 (by decide) ?_
      refine q_icmp_ne (tgt := 33) hx hb wh.toInt ((1 : Nat) : Int) rfl (nI_toInt (by omega)) dX8_tell_18 (by decide) (fun c29 => ?_) (fun c29 => ?_)
      · --
        refine lv_iload_n hx hb dX8_tell_33 rfl (lv_at hl 1 rfl) ?_
        refine q_iconst (v := 2) hx hb dX8_tell_34 (by decide) ?_
        refine q_icmp_ne (tgt := 54) hx hb wh.toInt ((2 : Nat) : Int) rfl (nI_toInt (by omega)) dX8_tell_35 (by decide) (fun c30 => ?_) (fun c30 => ?_)
        · --
          refine q_iconst (v := 0) hx hb dX8_tell_54 (by decide) ?_
          refine lv_istore_n (lv' := [(3, .int (nI 0)), (0, .ref M), (1, .int wh), (2, .int v)]) hx hb dX8_tell_55 rfl hl (by decide) rfl (fun ls hl => ?_)
          refine lv_iload_n hx hb dX8_tell_56 rfl (lv_at hl 0 rfl) ?_
          refine q_if_ne (tgt := 62) hx hb ((0 : Nat) : Int) (nI_toInt (by omega)) dX8_tell_57 (by decide) (fun c31 => ?_) (fun c31 => ?_)
          · --
            exfalso; omega
          · --
            refine lv_iconst (v := (-1)) hx hb dX8_tell_60 (by decide) ?_
            exact q_iret (wout := _) hx hb hr hlocks hAe hK (mi 2, p, g) hw (⟨(tl_1 (by omega)).symm, Or.inl ⟨fun q => by unfold tlOk at q; omega, ⟨rfl, rfl, rfl⟩⟩⟩) dX8_tell_61
        · --
          refine lv_iload_n hx hb dX8_tell_38 rfl (lv_at hl 2 rfl) ?_
          refine lv_i2l hx hb dX8_tell_39 rfl ?_
          refine q_lconst (v := 1) hx hb dX8_tell_40 (by decide) ?_
          refine lv_ldc2 hx hb hown wd2 dX8_tell_41 ?_
          refine q_topl (x := 8) (y := lN 8) (by decide) ?_
          refine q_calli (S := Unit) (Z := Z) (D := D) (wc := []) (wr := [(M, .inr (8, [.ref (mr 0), .ref (mr 1), .int (nI (mi 2)), .ref (mr 3), .ref (mr 4), .int ima, .ref (mr 6), .int (nI (mi 7)), .ref (mr 8), .ref (mr 9), .ref (mr 10), .long (lN (mi 11)), .long (lN (mi 12)), .ref (mr 13), .ref (mr 14), .ref (mr 15), .ref (mr 16), .ref (mr 17), .ref (mr 18), .int (nI (mi 19)), .ref (mr 20), .ref (mr 21), .ref (mr 22), .ref (mr 23), .long (lN (mi 24)), .long (lN (mi 25)), .int (nI (mi 26)), .int (nI (mi 27)), .ref (mr 28), .int (nI (mi 29)), .int (nI (mi 30)), .int (nI (mi 31)), .int (nI (mi 32))])), (mr 0, .inl (Z 0, 18, .inl (aI p))), (mr 1, .inl (Z 0, 108, .inl (aI g)))]) (rest := []) hw hA [] [0, 1, 2] rfl rfl rfl rfl (by decide) (fun hPc hDc => va_runS (As := [.long v.toInt64, .long (lN 1), .long (lN 8)]) (rest := []) ⟨hx, hb, hml, hown, hts⟩ (c_X8_in l D Z H.size v.toInt64 (lN 1) (lN 8) v.toInt ((1 : Nat) : Int) ((8 : Nat) : Int) (Int32.toInt_toInt64 _) (pk_lT (by first | omega | assumption)) (pk_lT (by first | omega | assumption))) (va_cwS 3 hts gX8_tell_X8_in rfl rfl rfl (by decide +kernel) ⟨Nat.le_of_ble_eq_true rfl, Nat.le_of_ble_eq_true rfl⟩) ⟨fb_cPre, pre_of hPc hK hDc⟩ rfl rfl hl.1 rfl (lv_room (Nat.le_of_ble_eq_true rfl)) dX8_tell_44 ⟨Nat.le_of_ble_eq_true rfl, Nat.le_of_ble_eq_true rfl⟩) (fun r32 uu H locs hr32 hw => ?_)
          subst hr32
          have hw : WS D A s [(M, .inr (8, [.ref (mr 0), .ref (mr 1), .int (nI (mi 2)), .ref (mr 3), .ref (mr 4), .int ima, .ref (mr 6), .int (nI (mi 7)), .ref (mr 8), .ref (mr 9), .ref (mr 10), .long (lN (mi 11)), .long (lN (mi 12)), .ref (mr 13), .ref (mr 14), .ref (mr 15), .ref (mr 16), .ref (mr 17), .ref (mr 18), .int (nI (mi 19)), .ref (mr 20), .ref (mr 21), .ref (mr 22), .ref (mr 23), .long (lN (mi 24)), .long (lN (mi 25)), .int (nI (mi 26)), .int (nI (mi 27)), .ref (mr 28), .int (nI (mi 29)), .int (nI (mi 30)), .int (nI (mi 31)), .int (nI (mi 32))])), (mr 0, .inl (Z 0, 18, .inl (aI p))), (mr 1, .inl (Z 0, 108, .inl (aI g)))] H locs := hw
          refine q_if_eq (tgt := 54) hx hb ((bb (((1 : Nat) : Int) ≤ v.toInt ∧ v.toInt ≤ ((8 : Nat) : Int)) : Nat) : Int) (nI_toInt (Nat.lt_of_le_of_lt (bb_le _) (by decide))) dX8_tell_47 (by decide) (fun c33 => ?_) (fun c33 => ?_)
          · --
            have c33 := bb_0 c33
            refine q_iconst (v := 0) hx hb dX8_tell_54 (by decide) ?_
            refine lv_istore_n (lv' := [(3, .int (nI 0)), (0, .ref M), (1, .int wh), (2, .int v)]) hx hb dX8_tell_55 rfl hl (by decide) rfl (fun ls hl => ?_)
            refine lv_iload_n hx hb dX8_tell_56 rfl (lv_at hl 0 rfl) ?_
            refine q_if_ne (tgt := 62) hx hb ((0 : Nat) : Int) (nI_toInt (by omega)) dX8_tell_57 (by decide) (fun c34 => ?_) (fun c34 => ?_)
            · --
              exfalso; omega
            · --
              refine lv_iconst (v := (-1)) hx hb dX8_tell_60 (by decide) ?_
              exact q_iret (wout := _) hx hb hr hlocks hAe hK (mi 2, p, g) hw (⟨(tl_1 (by omega)).symm, Or.inl ⟨fun q => by unfold tlOk at q; omega, ⟨rfl, rfl, rfl⟩⟩⟩) dX8_tell_61
          · --
            have c33 := bb_1 c33
            refine q_iconst (v := 1) hx hb dX8_tell_50 (by decide) ?_
            refine lv_goto (tgt := 55) hx hb dX8_tell_51 (by decide) ?_
            refine lv_istore_n (lv' := [(3, .int (nI 1)), (0, .ref M), (1, .int wh), (2, .int v)]) hx hb dX8_tell_55 rfl hl (by decide) rfl (fun ls hl => ?_)
            refine lv_iload_n hx hb dX8_tell_56 rfl (lv_at hl 0 rfl) ?_
            refine q_if_ne (tgt := 62) hx hb ((1 : Nat) : Int) (nI_toInt (by omega)) dX8_tell_57 (by decide) (fun c35 => ?_) (fun c35 => ?_)
            · --
              obtain ⟨q, rfl, eq⟩ := i32_nat (x := wh) (by omega)
              obtain ⟨y, rfl, ey⟩ := i32_nat (x := v) (by omega)
              have hpq : p (9 + q) ≤ 99 := by rcases (show q = 0 ∨ q = 1 ∨ q = 2 by omega) with rfl | rfl | rfl <;> assumption
              refine lv_aload_n hx hb dX8_tell_62 rfl (lv_at hl 1 rfl) ?_
              refine q_get (v := .ref (mr 0)) (ci := 8) hx hb hts in_X8 hown hK hw 0 0 wd3 dX8_tell_63 rfl rfl (by decide) rfl ?_
              refine q_bipush (v := 9) hx hb dX8_tell_66 (by decide) ?_
              refine lv_iload_n hx hb dX8_tell_68 rfl (lv_at hl 2 rfl) ?_
              refine q_iadd hx hb dX8_tell_69 ?_
              refine q_iald hx hb hK hw 1 (by omega) (by omega) dX8_tell_70 rfl ?_
              refine lv_istore (lv' := [(4, .int (nI (p (9 + q)))), (3, .int (nI 1)), (0, .ref M), (1, .int (nI q)), (2, .int (nI y))]) hx hb dX8_tell_71 hl (by decide) rfl (fun ls hl => ?_)
              refine lv_iload hx hb dX8_tell_73 (lv_at hl 0 rfl) ?_
              refine lv_iload_n hx hb dX8_tell_75 rfl (lv_at hl 4 rfl) ?_
              refine q_icmp_ne (tgt := 82) hx hb ((p (9 + q) : Nat) : Int) ((y : Nat) : Int) (nI_toInt (by omega)) (nI_toInt (by omega)) dX8_tell_76 (by decide) (fun c36 => ?_) (fun c36 => ?_)
              · --
                refine lv_aload_n hx hb dX8_tell_82 rfl (lv_at hl 2 rfl) ?_
                refine q_callv (S := Unit) (Z := Z) (D := D) (wc := [(M, .inr (8, [.ref (mr 0), .ref (mr 1), .int (nI (mi 2)), .ref (mr 3), .ref (mr 4), .int ima, .ref (mr 6), .int (nI (mi 7)), .ref (mr 8), .ref (mr 9), .ref (mr 10), .long (lN (mi 11)), .long (lN (mi 12)), .ref (mr 13), .ref (mr 14), .ref (mr 15), .ref (mr 16), .ref (mr 17), .ref (mr 18), .int (nI (mi 19)), .ref (mr 20), .ref (mr 21), .ref (mr 22), .ref (mr 23), .long (lN (mi 24)), .long (lN (mi 25)), .int (nI (mi 26)), .int (nI (mi 27)), .ref (mr 28), .int (nI (mi 29)), .int (nI (mi 30)), .int (nI (mi 31)), .int (nI (mi 32))])), (mr 0, .inl (Z 0, 18, .inl (aI p))), (mr 1, .inl (Z 0, 108, .inl (aI g)))]) (wr := []) (rest := []) hw hA [0, 1, 2] [] rfl rfl rfl rfl (by decide) (fun hPc hDc => va_runV (As := []) (rest := []) ⟨hx, hb, hml, hown, hts⟩ (c_X8_notes l D Z H.size M mr mi ima p g (by first | assumption | omega)) (cwV 0 hts gX8_tell_X8_notes rfl rfl rfl (by decide +kernel) ⟨Nat.le_of_ble_eq_true rfl, Nat.le_of_ble_eq_true rfl⟩) ⟨fb_cPre, va_recv hK.1 hPc (ci := 8) (q0 := 0) rfl rfl, pre_of hPc hK hDc⟩ rfl rfl hl.1 rfl (lv_room (Nat.le_of_ble_eq_true rfl)) dX8_tell_83 ⟨Nat.le_of_ble_eq_true rfl, Nat.le_of_ble_eq_true rfl⟩) (fun uu H locs hr37 hw => ?_)
                have hw : WS D A s [(M, .inr (8, [.ref (mr 0), .ref (mr 1), .int (nI (min (mi 2 + 1) 6)), .ref (mr 3), .ref (mr 4), .int ima, .ref (mr 6), .int (nI (mi 7)), .ref (mr 8), .ref (mr 9), .ref (mr 10), .long (lN (mi 11)), .long (lN (mi 12)), .ref (mr 13), .ref (mr 14), .ref (mr 15), .ref (mr 16), .ref (mr 17), .ref (mr 18), .int (nI (mi 19)), .ref (mr 20), .ref (mr 21), .ref (mr 22), .ref (mr 23), .long (lN (mi 24)), .long (lN (mi 25)), .int (nI (mi 26)), .int (nI (mi 27)), .ref (mr 28), .int (nI (mi 29)), .int (nI (mi 30)), .int (nI (mi 31)), .int (nI (mi 32))])), (mr 0, .inl (Z 0, 18, .inl (aI p))), (mr 1, .inl (Z 0, 108, .inl (aI (ntG g p (mi 2)))))] H locs := hw
                refine lv_aload_n hx hb dX8_tell_86 rfl (lv_at hl 2 rfl) ?_
                refine q_get (v := .ref (mr 0)) (ci := 8) hx hb hts in_X8 hown hK hw 0 0 wd3 dX8_tell_87 rfl rfl (by decide) rfl ?_
                refine q_bipush (v := 9) hx hb dX8_tell_90 (by decide) ?_
                refine lv_iload_n hx hb dX8_tell_92 rfl (lv_at hl 3 rfl) ?_
                refine q_iadd hx hb dX8_tell_93 ?_
                refine lv_iload_n hx hb dX8_tell_94 rfl (lv_at hl 4 rfl) ?_
                refine q_iast hx hb hK hw 1 (by omega) (by omega) dX8_tell_95 rfl (fun H locs hw => ?_)
                have hw : WS D A s [(M, .inr (8, [.ref (mr 0), .ref (mr 1), .int (nI (min (mi 2 + 1) 6)), .ref (mr 3), .ref (mr 4), .int ima, .ref (mr 6), .int (nI (mi 7)), .ref (mr 8), .ref (mr 9), .ref (mr 10), .long (lN (mi 11)), .long (lN (mi 12)), .ref (mr 13), .ref (mr 14), .ref (mr 15), .ref (mr 16), .ref (mr 17), .ref (mr 18), .int (nI (mi 19)), .ref (mr 20), .ref (mr 21), .ref (mr 22), .ref (mr 23), .long (lN (mi 24)), .long (lN (mi 25)), .int (nI (mi 26)), .int (nI (mi 27)), .ref (mr 28), .int (nI (mi 29)), .int (nI (mi 30)), .int (nI (mi 31)), .int (nI (mi 32))])), (mr 0, .inl (Z 0, 18, .inl (aI (va_up p (9 + q) y)))), (mr 1, .inl (Z 0, 108, .inl (aI (ntG g p (mi 2)))))] H locs := hw
                refine lv_iload hx hb dX8_tell_96 (lv_at hl 0 rfl) ?_
                exact q_iret (wout := _) hx hb hr hlocks hAe hK (min (mi 2 + 1) 6, va_up p (9 + q) y, ntG g p (mi 2)) hw (⟨(tl_3 eq ey (by omega) (by omega)).symm, Or.inr ⟨by unfold tlOk; rw [tnI eq]; omega, rfl, rfl, by rw [tnI eq, tnI ey]⟩⟩) dX8_tell_98
              · --
                refine lv_bipush (v := (-2)) hx hb dX8_tell_79 (by decide) ?_
                exact q_iret (wout := _) hx hb hr hlocks hAe hK (mi 2, p, g) hw (⟨(tl_2 eq ey (by omega) (by omega)).symm, Or.inl ⟨fun q => by unfold tlOk at q; rw [tnI eq] at q; omega, ⟨rfl, rfl, rfl⟩⟩⟩) dX8_tell_81
            · --
              exfalso; omega
      · --
        refine lv_iload_n hx hb dX8_tell_21 rfl (lv_at hl 2 rfl) ?_
        refine lv_i2l hx hb dX8_tell_22 rfl ?_
        refine q_lconst (v := 0) hx hb dX8_tell_23 (by decide) ?_
        refine lv_ldc2 hx hb hown wd1 dX8_tell_24 ?_
        refine q_topl (x := 99) (y := lN 99) (by decide) ?_
        refine q_calli (S := Unit) (Z := Z) (D := D) (wc := []) (wr := [(M, .inr (8, [.ref (mr 0), .ref (mr 1), .int (nI (mi 2)), .ref (mr 3), .ref (mr 4), .int ima, .ref (mr 6), .int (nI (mi 7)), .ref (mr 8), .ref (mr 9), .ref (mr 10), .long (lN (mi 11)), .long (lN (mi 12)), .ref (mr 13), .ref (mr 14), .ref (mr 15), .ref (mr 16), .ref (mr 17), .ref (mr 18), .int (nI (mi 19)), .ref (mr 20), .ref (mr 21), .ref (mr 22), .ref (mr 23), .long (lN (mi 24)), .long (lN (mi 25)), .int (nI (mi 26)), .int (nI (mi 27)), .ref (mr 28), .int (nI (mi 29)), .int (nI (mi 30)), .int (nI (mi 31)), .int (nI (mi 32))])), (mr 0, .inl (Z 0, 18, .inl (aI p))), (mr 1, .inl (Z 0, 108, .inl (aI g)))]) (rest := []) hw hA [] [0, 1, 2] rfl rfl rfl rfl (by decide) (fun hPc hDc => va_runS (As := [.long v.toInt64, .long (lN 0), .long (lN 99)]) (rest := []) ⟨hx, hb, hml, hown, hts⟩ (c_X8_in l D Z H.size v.toInt64 (lN 0) (lN 99) v.toInt ((0 : Nat) : Int) ((99 : Nat) : Int) (Int32.toInt_toInt64 _) (pk_lT (by first | omega | assumption)) (pk_lT (by first | omega | assumption))) (va_cwS 3 hts gX8_tell_X8_in rfl rfl rfl (by decide +kernel) ⟨Nat.le_of_ble_eq_true rfl, Nat.le_of_ble_eq_true rfl⟩) ⟨fb_cPre, pre_of hPc hK hDc⟩ rfl rfl hl.1 rfl (lv_room (Nat.le_of_ble_eq_true rfl)) dX8_tell_27 ⟨Nat.le_of_ble_eq_true rfl, Nat.le_of_ble_eq_true rfl⟩) (fun r38 uu H locs hr38 hw => ?_)
        subst hr38
        have hw : WS D A s [(M, .inr (8, [.ref (mr 0), .ref (mr 1), .int (nI (mi 2)), .ref (mr 3), .ref (mr 4), .int ima, .ref (mr 6), .int (nI (mi 7)), .ref (mr 8), .ref (mr 9), .ref (mr 10), .long (lN (mi 11)), .long (lN (mi 12)), .ref (mr 13), .ref (mr 14), .ref (mr 15), .ref (mr 16), .ref (mr 17), .ref (mr 18), .int (nI (mi 19)), .ref (mr 20), .ref (mr 21), .ref (mr 22), .ref (mr 23), .long (lN (mi 24)), .long (lN (mi 25)), .int (nI (mi 26)), .int (nI (mi 27)), .ref (mr 28), .int (nI (mi 29)), .int (nI (mi 30)), .int (nI (mi 31)), .int (nI (mi 32))])), (mr 0, .inl (Z 0, 18, .inl (aI p))), (mr 1, .inl (Z 0, 108, .inl (aI g)))] H locs := hw
        refine q_if_ne (tgt := 50) hx hb ((bb (((0 : Nat) : Int) ≤ v.toInt ∧ v.toInt ≤ ((99 : Nat) : Int)) : Nat) : Int) (nI_toInt (Nat.lt_of_le_of_lt (bb_le _) (by decide))) dX8_tell_30 (by decide) (fun c39 => ?_) (fun c39 => ?_)
        · --
          have c39 := bb_1 c39
          refine q_iconst (v := 1) hx hb dX8_tell_50 (by decide) ?_
          refine lv_goto (tgt := 55) hx hb dX8_tell_51 (by decide) ?_
          refine lv_istore_n (lv' := [(3, .int (nI 1)), (0, .ref M), (1, .int wh), (2, .int v)]) hx hb dX8_tell_55 rfl hl (by decide) rfl (fun ls hl => ?_)
          refine lv_iload_n hx hb dX8_tell_56 rfl (lv_at hl 0 rfl) ?_
          refine q_if_ne (tgt := 62) hx hb ((1 : Nat) : Int) (nI_toInt (by omega)) dX8_tell_57 (by decide) (fun c40 => ?_) (fun c40 => ?_)
          · --
            obtain ⟨q, rfl, eq⟩ := i32_nat (x := wh) (by omega)
            obtain ⟨y, rfl, ey⟩ := i32_nat (x := v) (by omega)
            have hpq : p (9 + q) ≤ 99 := by rcases (show q = 0 ∨ q = 1 ∨ q = 2 by omega) with rfl | rfl | rfl <;> assumption
            refine lv_aload_n hx hb dX8_tell_62 rfl (lv_at hl 1 rfl) ?_
            refine q_get (v := .ref (mr 0)) (ci := 8) hx hb hts in_X8 hown hK hw 0 0 wd3 dX8_tell_63 rfl rfl (by decide) rfl ?_
            refine q_bipush (v := 9) hx hb dX8_tell_66 (by decide) ?_
            refine lv_iload_n hx hb dX8_tell_68 rfl (lv_at hl 2 rfl) ?_
            refine q_iadd hx hb dX8_tell_69 ?_
            refine q_iald hx hb hK hw 1 (by omega) (by omega) dX8_tell_70 rfl ?_
            refine lv_istore (lv' := [(4, .int (nI (p (9 + q)))), (3, .int (nI 1)), (0, .ref M), (1, .int (nI q)), (2, .int (nI y))]) hx hb dX8_tell_71 hl (by decide) rfl (fun ls hl => ?_)
            refine lv_iload hx hb dX8_tell_73 (lv_at hl 0 rfl) ?_
            refine lv_iload_n hx hb dX8_tell_75 rfl (lv_at hl 4 rfl) ?_
            refine q_icmp_ne (tgt := 82) hx hb ((p (9 + q) : Nat) : Int) ((y : Nat) : Int) (nI_toInt (by omega)) (nI_toInt (by omega)) dX8_tell_76 (by decide) (fun c41 => ?_) (fun c41 => ?_)
            · --
              refine lv_aload_n hx hb dX8_tell_82 rfl (lv_at hl 2 rfl) ?_
              refine q_callv (S := Unit) (Z := Z) (D := D) (wc := [(M, .inr (8, [.ref (mr 0), .ref (mr 1), .int (nI (mi 2)), .ref (mr 3), .ref (mr 4), .int ima, .ref (mr 6), .int (nI (mi 7)), .ref (mr 8), .ref (mr 9), .ref (mr 10), .long (lN (mi 11)), .long (lN (mi 12)), .ref (mr 13), .ref (mr 14), .ref (mr 15), .ref (mr 16), .ref (mr 17), .ref (mr 18), .int (nI (mi 19)), .ref (mr 20), .ref (mr 21), .ref (mr 22), .ref (mr 23), .long (lN (mi 24)), .long (lN (mi 25)), .int (nI (mi 26)), .int (nI (mi 27)), .ref (mr 28), .int (nI (mi 29)), .int (nI (mi 30)), .int (nI (mi 31)), .int (nI (mi 32))])), (mr 0, .inl (Z 0, 18, .inl (aI p))), (mr 1, .inl (Z 0, 108, .inl (aI g)))]) (wr := []) (rest := []) hw hA [0, 1, 2] [] rfl rfl rfl rfl (by decide) (fun hPc hDc => va_runV (As := []) (rest := []) ⟨hx, hb, hml, hown, hts⟩ (c_X8_notes l D Z H.size M mr mi ima p g (by first | assumption | omega)) (cwV 0 hts gX8_tell_X8_notes rfl rfl rfl (by decide +kernel) ⟨Nat.le_of_ble_eq_true rfl, Nat.le_of_ble_eq_true rfl⟩) ⟨fb_cPre, va_recv hK.1 hPc (ci := 8) (q0 := 0) rfl rfl, pre_of hPc hK hDc⟩ rfl rfl hl.1 rfl (lv_room (Nat.le_of_ble_eq_true rfl)) dX8_tell_83 ⟨Nat.le_of_ble_eq_true rfl, Nat.le_of_ble_eq_true rfl⟩) (fun uu H locs hr42 hw => ?_)
              have hw : WS D A s [(M, .inr (8, [.ref (mr 0), .ref (mr 1), .int (nI (min (mi 2 + 1) 6)), .ref (mr 3), .ref (mr 4), .int ima, .ref (mr 6), .int (nI (mi 7)), .ref (mr 8), .ref (mr 9), .ref (mr 10), .long (lN (mi 11)), .long (lN (mi 12)), .ref (mr 13), .ref (mr 14), .ref (mr 15), .ref (mr 16), .ref (mr 17), .ref (mr 18), .int (nI (mi 19)), .ref (mr 20), .ref (mr 21), .ref (mr 22), .ref (mr 23), .long (lN (mi 24)), .long (lN (mi 25)), .int (nI (mi 26)), .int (nI (mi 27)), .ref (mr 28), .int (nI (mi 29)), .int (nI (mi 30)), .int (nI (mi 31)), .int (nI (mi 32))])), (mr 0, .inl (Z 0, 18, .inl (aI p))), (mr 1, .inl (Z 0, 108, .inl (aI (ntG g p (mi 2)))))] H locs := hw
              refine lv_aload_n hx hb dX8_tell_86 rfl (lv_at hl 2 rfl) ?_
              refine q_get (v := .ref (mr 0)) (ci := 8) hx hb hts in_X8 hown hK hw 0 0 wd3 dX8_tell_87 rfl rfl (by decide) rfl ?_
              refine q_bipush (v := 9) hx hb dX8_tell_90 (by decide) ?_
              refine lv_iload_n hx hb dX8_tell_92 rfl (lv_at hl 3 rfl) ?_
              refine q_iadd hx hb dX8_tell_93 ?_
              refine lv_iload_n hx hb dX8_tell_94 rfl (lv_at hl 4 rfl) ?_
              refine q_iast hx hb hK hw 1 (by omega) (by omega) dX8_tell_95 rfl (fun H locs hw => ?_)
              have hw : WS D A s [(M, .inr (8, [.ref (mr 0), .ref (mr 1), .int (nI (min (mi 2 + 1) 6)), .ref (mr 3), .ref (mr 4), .int ima, .ref (mr 6), .int (nI (mi 7)), .ref (mr 8), .ref (mr 9), .ref (mr 10), .long (lN (mi 11)), .long (lN (mi 12)), .ref (mr 13), .ref (mr 14), .ref (mr 15), .ref (mr 16), .ref (mr 17), .ref (mr 18), .int (nI (mi 19)), .ref (mr 20), .ref (mr 21), .ref (mr 22), .ref (mr 23), .long (lN (mi 24)), .long (lN (mi 25)), .int (nI (mi 26)), .int (nI (mi 27)), .ref (mr 28), .int (nI (mi 29)), .int (nI (mi 30)), .int (nI (mi 31)), .int (nI (mi 32))])), (mr 0, .inl (Z 0, 18, .inl (aI (va_up p (9 + q) y)))), (mr 1, .inl (Z 0, 108, .inl (aI (ntG g p (mi 2)))))] H locs := hw
              refine lv_iload hx hb dX8_tell_96 (lv_at hl 0 rfl) ?_
              exact q_iret (wout := _) hx hb hr hlocks hAe hK (min (mi 2 + 1) 6, va_up p (9 + q) y, ntG g p (mi 2)) hw (⟨(tl_3 eq ey (by omega) (by omega)).symm, Or.inr ⟨by unfold tlOk; rw [tnI eq]; omega, rfl, rfl, by rw [tnI eq, tnI ey]⟩⟩) dX8_tell_98
            · --
              refine lv_bipush (v := (-2)) hx hb dX8_tell_79 (by decide) ?_
              exact q_iret (wout := _) hx hb hr hlocks hAe hK (mi 2, p, g) hw (⟨(tl_2 eq ey (by omega) (by omega)).symm, Or.inl ⟨fun q => by unfold tlOk at q; rw [tnI eq] at q; omega, ⟨rfl, rfl, rfl⟩⟩⟩) dX8_tell_81
          · --
            exfalso; omega
        · --
          have c39 := bb_0 c39
          refine lv_iload_n hx hb dX8_tell_33 rfl (lv_at hl 1 rfl) ?_
          refine q_iconst (v := 2) hx hb dX8_tell_34 (by decide) ?_
          refine q_icmp_ne (tgt := 54) hx hb wh.toInt ((2 : Nat) : Int) rfl (nI_toInt (by omega)) dX8_tell_35 (by decide) (fun c43 => ?_) (fun c43 => ?_)
          · --
            refine q_iconst (v := 0) hx hb dX8_tell_54 (by decide) ?_
            refine lv_istore_n (lv' := [(3, .int (nI 0)), (0, .ref M), (1, .int wh), (2, .int v)]) hx hb dX8_tell_55 rfl hl (by decide) rfl (fun ls hl => ?_)
            refine lv_iload_n hx hb dX8_tell_56 rfl (lv_at hl 0 rfl) ?_
            refine q_if_ne (tgt := 62) hx hb ((0 : Nat) : Int) (nI_toInt (by omega)) dX8_tell_57 (by decide) (fun c44 => ?_) (fun c44 => ?_)
            · --
              exfalso; omega
            · --
              refine lv_iconst (v := (-1)) hx hb dX8_tell_60 (by decide) ?_
              exact q_iret (wout := _) hx hb hr hlocks hAe hK (mi 2, p, g) hw (⟨(tl_1 (by omega)).symm, Or.inl ⟨fun q => by unfold tlOk at q; omega, ⟨rfl, rfl, rfl⟩⟩⟩) dX8_tell_61
          · --
            refine lv_iload_n hx hb dX8_tell_38 rfl (lv_at hl 2 rfl) ?_
            refine lv_i2l hx hb dX8_tell_39 rfl ?_
            refine q_lconst (v := 1) hx hb dX8_tell_40 (by decide) ?_
            refine lv_ldc2 hx hb hown wd2 dX8_tell_41 ?_
            refine q_topl (x := 8) (y := lN 8) (by decide) ?_
            refine q_calli (S := Unit) (Z := Z) (D := D) (wc := []) (wr := [(M, .inr (8, [.ref (mr 0), .ref (mr 1), .int (nI (mi 2)), .ref (mr 3), .ref (mr 4), .int ima, .ref (mr 6), .int (nI (mi 7)), .ref (mr 8), .ref (mr 9), .ref (mr 10), .long (lN (mi 11)), .long (lN (mi 12)), .ref (mr 13), .ref (mr 14), .ref (mr 15), .ref (mr 16), .ref (mr 17), .ref (mr 18), .int (nI (mi 19)), .ref (mr 20), .ref (mr 21), .ref (mr 22), .ref (mr 23), .long (lN (mi 24)), .long (lN (mi 25)), .int (nI (mi 26)), .int (nI (mi 27)), .ref (mr 28), .int (nI (mi 29)), .int (nI (mi 30)), .int (nI (mi 31)), .int (nI (mi 32))])), (mr 0, .inl (Z 0, 18, .inl (aI p))), (mr 1, .inl (Z 0, 108, .inl (aI g)))]) (rest := []) hw hA [] [0, 1, 2] rfl rfl rfl rfl (by decide) (fun hPc hDc => va_runS (As := [.long v.toInt64, .long (lN 1), .long (lN 8)]) (rest := []) ⟨hx, hb, hml, hown, hts⟩ (c_X8_in l D Z H.size v.toInt64 (lN 1) (lN 8) v.toInt ((1 : Nat) : Int) ((8 : Nat) : Int) (Int32.toInt_toInt64 _) (pk_lT (by first | omega | assumption)) (pk_lT (by first | omega | assumption))) (va_cwS 3 hts gX8_tell_X8_in rfl rfl rfl (by decide +kernel) ⟨Nat.le_of_ble_eq_true rfl, Nat.le_of_ble_eq_true rfl⟩) ⟨fb_cPre, pre_of hPc hK hDc⟩ rfl rfl hl.1 rfl (lv_room (Nat.le_of_ble_eq_true rfl)) dX8_tell_44 ⟨Nat.le_of_ble_eq_true rfl, Nat.le_of_ble_eq_true rfl⟩) (fun r45 uu H locs hr45 hw => ?_)
            subst hr45
            have hw : WS D A s [(M, .inr (8, [.ref (mr 0), .ref (mr 1), .int (nI (mi 2)), .ref (mr 3), .ref (mr 4), .int ima, .ref (mr 6), .int (nI (mi 7)), .ref (mr 8), .ref (mr 9), .ref (mr 10), .long (lN (mi 11)), .long (lN (mi 12)), .ref (mr 13), .ref (mr 14), .ref (mr 15), .ref (mr 16), .ref (mr 17), .ref (mr 18), .int (nI (mi 19)), .ref (mr 20), .ref (mr 21), .ref (mr 22), .ref (mr 23), .long (lN (mi 24)), .long (lN (mi 25)), .int (nI (mi 26)), .int (nI (mi 27)), .ref (mr 28), .int (nI (mi 29)), .int (nI (mi 30)), .int (nI (mi 31)), .int (nI (mi 32))])), (mr 0, .inl (Z 0, 18, .inl (aI p))), (mr 1, .inl (Z 0, 108, .inl (aI g)))] H locs := hw
            refine q_if_eq (tgt := 54) hx hb ((bb (((1 : Nat) : Int) ≤ v.toInt ∧ v.toInt ≤ ((8 : Nat) : Int)) : Nat) : Int) (nI_toInt (Nat.lt_of_le_of_lt (bb_le _) (by decide))) dX8_tell_47 (by decide) (fun c46 => ?_) (fun c46 => ?_)
            · --
              have c46 := bb_0 c46
              refine q_iconst (v := 0) hx hb dX8_tell_54 (by decide) ?_
              refine lv_istore_n (lv' := [(3, .int (nI 0)), (0, .ref M), (1, .int wh), (2, .int v)]) hx hb dX8_tell_55 rfl hl (by decide) rfl (fun ls hl => ?_)
              refine lv_iload_n hx hb dX8_tell_56 rfl (lv_at hl 0 rfl) ?_
              refine q_if_ne (tgt := 62) hx hb ((0 : Nat) : Int) (nI_toInt (by omega)) dX8_tell_57 (by decide) (fun c47 => ?_) (fun c47 => ?_)
              · --
                exfalso; omega
              · --
                refine lv_iconst (v := (-1)) hx hb dX8_tell_60 (by decide) ?_
                exact q_iret (wout := _) hx hb hr hlocks hAe hK (mi 2, p, g) hw (⟨(tl_1 (by omega)).symm, Or.inl ⟨fun q => by unfold tlOk at q; omega, ⟨rfl, rfl, rfl⟩⟩⟩) dX8_tell_61
            · --
              have c46 := bb_1 c46
              refine q_iconst (v := 1) hx hb dX8_tell_50 (by decide) ?_
              refine lv_goto (tgt := 55) hx hb dX8_tell_51 (by decide) ?_
              refine lv_istore_n (lv' := [(3, .int (nI 1)), (0, .ref M), (1, .int wh), (2, .int v)]) hx hb dX8_tell_55 rfl hl (by decide) rfl (fun ls hl => ?_)
              refine lv_iload_n hx hb dX8_tell_56 rfl (lv_at hl 0 rfl) ?_
              refine q_if_ne (tgt := 62) hx hb ((1 : Nat) : Int) (nI_toInt (by omega)) dX8_tell_57 (by decide) (fun c48 => ?_) (fun c48 => ?_)
              · --
                obtain ⟨q, rfl, eq⟩ := i32_nat (x := wh) (by omega)
                obtain ⟨y, rfl, ey⟩ := i32_nat (x := v) (by omega)
                have hpq : p (9 + q) ≤ 99 := by rcases (show q = 0 ∨ q = 1 ∨ q = 2 by omega) with rfl | rfl | rfl <;> assumption
                refine lv_aload_n hx hb dX8_tell_62 rfl (lv_at hl 1 rfl) ?_
                refine q_get (v := .ref (mr 0)) (ci := 8) hx hb hts in_X8 hown hK hw 0 0 wd3 dX8_tell_63 rfl rfl (by decide) rfl ?_
                refine q_bipush (v := 9) hx hb dX8_tell_66 (by decide) ?_
                refine lv_iload_n hx hb dX8_tell_68 rfl (lv_at hl 2 rfl) ?_
                refine q_iadd hx hb dX8_tell_69 ?_
                refine q_iald hx hb hK hw 1 (by omega) (by omega) dX8_tell_70 rfl ?_
                refine lv_istore (lv' := [(4, .int (nI (p (9 + q)))), (3, .int (nI 1)), (0, .ref M), (1, .int (nI q)), (2, .int (nI y))]) hx hb dX8_tell_71 hl (by decide) rfl (fun ls hl => ?_)
                refine lv_iload hx hb dX8_tell_73 (lv_at hl 0 rfl) ?_
                refine lv_iload_n hx hb dX8_tell_75 rfl (lv_at hl 4 rfl) ?_
                refine q_icmp_ne (tgt := 82) hx hb ((p (9 + q) : Nat) : Int) ((y : Nat) : Int) (nI_toInt (by omega)) (nI_toInt (by omega)) dX8_tell_76 (by decide) (fun c49 => ?_) (fun c49 => ?_)
                · --
                  refine lv_aload_n hx hb dX8_tell_82 rfl (lv_at hl 2 rfl) ?_
                  refine q_callv (S := Unit) (Z := Z) (D := D) (wc := [(M, .inr (8, [.ref (mr 0), .ref (mr 1), .int (nI (mi 2)), .ref (mr 3), .ref (mr 4), .int ima, .ref (mr 6), .int (nI (mi 7)), .ref (mr 8), .ref (mr 9), .ref (mr 10), .long (lN (mi 11)), .long (lN (mi 12)), .ref (mr 13), .ref (mr 14), .ref (mr 15), .ref (mr 16), .ref (mr 17), .ref (mr 18), .int (nI (mi 19)), .ref (mr 20), .ref (mr 21), .ref (mr 22), .ref (mr 23), .long (lN (mi 24)), .long (lN (mi 25)), .int (nI (mi 26)), .int (nI (mi 27)), .ref (mr 28), .int (nI (mi 29)), .int (nI (mi 30)), .int (nI (mi 31)), .int (nI (mi 32))])), (mr 0, .inl (Z 0, 18, .inl (aI p))), (mr 1, .inl (Z 0, 108, .inl (aI g)))]) (wr := []) (rest := []) hw hA [0, 1, 2] [] rfl rfl rfl rfl (by decide) (fun hPc hDc => va_runV (As := []) (rest := []) ⟨hx, hb, hml, hown, hts⟩ (c_X8_notes l D Z H.size M mr mi ima p g (by first | assumption | omega)) (cwV 0 hts gX8_tell_X8_notes rfl rfl rfl (by decide +kernel) ⟨Nat.le_of_ble_eq_true rfl, Nat.le_of_ble_eq_true rfl⟩) ⟨fb_cPre, va_recv hK.1 hPc (ci := 8) (q0 := 0) rfl rfl, pre_of hPc hK hDc⟩ rfl rfl hl.1 rfl (lv_room (Nat.le_of_ble_eq_true rfl)) dX8_tell_83 ⟨Nat.le_of_ble_eq_true rfl, Nat.le_of_ble_eq_true rfl⟩) (fun uu H locs hr50 hw => ?_)
                  have hw : WS D A s [(M, .inr (8, [.ref (mr 0), .ref (mr 1), .int (nI (min (mi 2 + 1) 6)), .ref (mr 3), .ref (mr 4), .int ima, .ref (mr 6), .int (nI (mi 7)), .ref (mr 8), .ref (mr 9), .ref (mr 10), .long (lN (mi 11)), .long (lN (mi 12)), .ref (mr 13), .ref (mr 14), .ref (mr 15), .ref (mr 16), .ref (mr 17), .ref (mr 18), .int (nI (mi 19)), .ref (mr 20), .ref (mr 21), .ref (mr 22), .ref (mr 23), .long (lN (mi 24)), .long (lN (mi 25)), .int (nI (mi 26)), .int (nI (mi 27)), .ref (mr 28), .int (nI (mi 29)), .int (nI (mi 30)), .int (nI (mi 31)), .int (nI (mi 32))])), (mr 0, .inl (Z 0, 18, .inl (aI p))), (mr 1, .inl (Z 0, 108, .inl (aI (ntG g p (mi 2)))))] H locs := hw
                  refine lv_aload_n hx hb dX8_tell_86 rfl (lv_at hl 2 rfl) ?_
                  refine q_get (v := .ref (mr 0)) (ci := 8) hx hb hts in_X8 hown hK hw 0 0 wd3 dX8_tell_87 rfl rfl (by decide) rfl ?_
                  refine q_bipush (v := 9) hx hb dX8_tell_90 (by decide) ?_
                  refine lv_iload_n hx hb dX8_tell_92 rfl (lv_at hl 3 rfl) ?_
                  refine q_iadd hx hb dX8_tell_93 ?_
                  refine lv_iload_n hx hb dX8_tell_94 rfl (lv_at hl 4 rfl) ?_
                  refine q_iast hx hb hK hw 1 (by omega) (by omega) dX8_tell_95 rfl (fun H locs hw => ?_)
                  have hw : WS D A s [(M, .inr (8, [.ref (mr 0), .ref (mr 1), .int (nI (min (mi 2 + 1) 6)), .ref (mr 3), .ref (mr 4), .int ima, .ref (mr 6), .int (nI (mi 7)), .ref (mr 8), .ref (mr 9), .ref (mr 10), .long (lN (mi 11)), .long (lN (mi 12)), .ref (mr 13), .ref (mr 14), .ref (mr 15), .ref (mr 16), .ref (mr 17), .ref (mr 18), .int (nI (mi 19)), .ref (mr 20), .ref (mr 21), .ref (mr 22), .ref (mr 23), .long (lN (mi 24)), .long (lN (mi 25)), .int (nI (mi 26)), .int (nI (mi 27)), .ref (mr 28), .int (nI (mi 29)), .int (nI (mi 30)), .int (nI (mi 31)), .int (nI (mi 32))])), (mr 0, .inl (Z 0, 18, .inl (aI (va_up p (9 + q) y)))), (mr 1, .inl (Z 0, 108, .inl (aI (ntG g p (mi 2)))))] H locs := hw
                  refine lv_iload hx hb dX8_tell_96 (lv_at hl 0 rfl) ?_
                  exact q_iret (wout := _) hx hb hr hlocks hAe hK (min (mi 2 + 1) 6, va_up p (9 + q) y, ntG g p (mi 2)) hw (⟨(tl_3 eq ey (by omega) (by omega)).symm, Or.inr ⟨by unfold tlOk; rw [tnI eq]; omega, rfl, rfl, by rw [tnI eq, tnI ey]⟩⟩) dX8_tell_98
                · --
                  refine lv_bipush (v := (-2)) hx hb dX8_tell_79 (by decide) ?_
                  exact q_iret (wout := _) hx hb hr hlocks hAe hK (mi 2, p, g) hw (⟨(tl_2 eq ey (by omega) (by omega)).symm, Or.inl ⟨fun q => by unfold tlOk at q; rw [tnI eq] at q; omega, ⟨rfl, rfl, rfl⟩⟩⟩) dX8_tell_81
              · --
                exfalso; omega
