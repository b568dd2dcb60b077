theorem lnR_1 (th la : Nat → Nat) (j x : Nat) : va_up (lnR th la) j (nI x) = lnR (va_up th j 1) (va_up la j x) := by
  funext k
  by_cases h : k = j
  · subst h; rw [va_up_eq]; unfold lnR; rw [if_neg (by rw [va_up_eq]; decide), va_up_eq]
  · rw [va_up_other _ _ h]; unfold lnR; rw [va_up_other _ _ h, va_up_other _ _ h]
def zlR (it : Nat → Int64) (a c : Nat) (k : Nat) : Int64 := if a ≤ k ∧ k < a + c then lN 0 else it k
theorem zlR_0 (it : Nat → Int64) (a : Nat) : zlR it a 0 = it := by funext k; unfold zlR; rw [if_neg (by omega)]
theorem zlR_up (it : Nat → Int64) (a c : Nat) : va_up (zlR it a c) (a + c) (lN 0) = zlR it a (c + 1) := by
  funext k
  by_cases h : k = a + c
  · subst h; rw [va_up_eq]; unfold zlR; rw [if_pos (by omega)]
  · rw [va_up_other _ _ h]; unfold zlR
    by_cases q : a ≤ k ∧ k < a + c
    · rw [if_pos q, if_pos (by omega)]
    · rw [if_neg q, if_neg (by omega)]
set_option maxHeartbeats 4000000 in
set_option maxRecDepth 100000 in
theorem c_X8_sheet (l : Launch) (D : va_G) (Z : Nat → ClassId) (zs0 : Nat) (M : Nat) (mr mi : Nat → Nat) (ima : Int32) (th la le : Nat → Nat) (it : Nat → Int64) (q ln n : Int32) (hla : ∀ k, k < 4 → la k ≤ 3) (hle : ∀ k, k < 4 → le k ≤ 24) : cMi l yX8_sheet wsX8_sheet (rmd 2) D Z zs0 [.ref M, .int q, .int ln, .int n] [(M, .inr (8, [.ref (mr 0), .ref (mr 1), .int (nI (mi 2)), .ref (mr 3), .ref (mr 4), .int ima, .ref (mr 6), .int (nI (mi 7)), .ref (mr 8), .ref (mr 9), .ref (mr 10), .long (lN (mi 11)), .long (lN (mi 12)), .ref (mr 13), .ref (mr 14), .ref (mr 15), .ref (mr 16), .ref (mr 17), .ref (mr 18), .int (nI (mi 19)), .ref (mr 20), .ref (mr 21), .ref (mr 22), .ref (mr 23), .long (lN (mi 24)), .long (lN (mi 25)), .int (nI (mi 26)), .int (nI (mi 27)), .ref (mr 28), .int (nI (mi 29)), .int (nI (mi 30)), .int (nI (mi 31)), .int (nI (mi 32))])), (mr 8, .inl (Z 0, 4, .inl (lnR th la))), (mr 9, .inl (Z 0, 4, .inl (aI le))), (mr 10, .inl (Z 1, 96, .inr (.inl it)))] (S := (Nat → Nat) × (Nat → Nat) × (Nat → Nat) × (Nat → Int64)) (fun (r : Int32) (u : (Nat → Nat) × (Nat → Nat) × (Nat → Nat) × (Nat → Int64)) => match u with | (th', la', le', it') => r = stC q ln n ∧ ((¬ stOk q ln n ∧ th' = th ∧ la' = la ∧ le' = le ∧ it' = it) ∨ (stOk q ln n ∧ th' = va_up th q.toInt.toNat 1 ∧ la' = va_up la q.toInt.toNat ln.toInt.toNat ∧ le' = va_up le q.toInt.toNat n.toInt.toNat ∧ it' = zlR it (24 * q.toInt.toNat) n.toInt.toNat))) (fun (u : (Nat → Nat) × (Nat → Nat) × (Nat → Nat) × (Nat → Int64)) => match u with | (th', la', le', it') => [(M, .inr (8, [.ref (mr 0), .ref (mr 1), .int (nI (mi 2)), .ref (mr 3), .ref (mr 4), .int ima, .ref (mr 6), .int (nI (mi 7)), .ref (mr 8), .ref (mr 9), .ref (mr 10), .long (lN (mi 11)), .long (lN (mi 12)), .ref (mr 13), .ref (mr 14), .ref (mr 15), .ref (mr 16), .ref (mr 17), .ref (mr 18), .int (nI (mi 19)), .ref (mr 20), .ref (mr 21), .ref (mr 22), .ref (mr 23), .long (lN (mi 24)), .long (lN (mi 25)), .int (nI (mi 26)), .int (nI (mi 27)), .ref (mr 28), .int (nI (mi 29)), .int (nI (mi 30)), .int (nI (mi 31)), .int (nI (mi 32))])), (mr 8, .inl (Z 0, 4, .inl (lnR th' la'))), (mr 9, .inl (Z 0, 4, .inl (aI le'))), (mr 10, .inl (Z 1, 96, .inr (.inl it')))]) 0 0 := by
  refine q_open (y := yX8_sheet) (ws := wsX8_sheet) (av := [.ref M, .int q, .int ln, .int n]) (win := [(M, .inr (8, [.ref (mr 0), .ref (mr 1), .int (nI (mi 2)), .ref (mr 3), .ref (mr 4), .int ima, .ref (mr 6), .int (nI (mi 7)), .ref (mr 8), .ref (mr 9), .ref (mr 10), .long (lN (mi 11)), .long (lN (mi 12)), .ref (mr 13), .ref (mr 14), .ref (mr 15), .ref (mr 16), .ref (mr 17), .ref (mr 18), .int (nI (mi 19)), .ref (mr 20), .ref (mr 21), .ref (mr 22), .ref (mr 23), .long (lN (mi 24)), .long (lN (mi 25)), .int (nI (mi 26)), .int (nI (mi 27)), .ref (mr 28), .int (nI (mi 29)), .int (nI (mi 30)), .int (nI (mi 31)), .int (nI (mi 32))])), (mr 8, .inl (Z 0, 4, .inl (lnR th la))), (mr 9, .inl (Z 0, 4, .inl (aI le))), (mr 10, .inl (Z 1, 96, .inr (.inl it)))]) (Qc := fun zs0 => cQi D Z zs0 [(M, .inr (8, [.ref (mr 0), .ref (mr 1), .int (nI (mi 2)), .ref (mr 3), .ref (mr 4), .int ima, .ref (mr 6), .int (nI (mi 7)), .ref (mr 8), .ref (mr 9), .ref (mr 10), .long (lN (mi 11)), .long (lN (mi 12)), .ref (mr 13), .ref (mr 14), .ref (mr 15), .ref (mr 16), .ref (mr 17), .ref (mr 18), .int (nI (mi 19)), .ref (mr 20), .ref (mr 21), .ref (mr 22), .ref (mr 23), .long (lN (mi 24)), .long (lN (mi 25)), .int (nI (mi 26)), .int (nI (mi 27)), .ref (mr 28), .int (nI (mi 29)), .int (nI (mi 30)), .int (nI (mi 31)), .int (nI (mi 32))])), (mr 8, .inl (Z 0, 4, .inl (lnR th la))), (mr 9, .inl (Z 0, 4, .inl (aI le))), (mr 10, .inl (Z 1, 96, .inr (.inl it)))] (S := (Nat → Nat) × (Nat → Nat) × (Nat → Nat) × (Nat → Int64)) (fun (r : Int32) (u : (Nat → Nat) × (Nat → Nat) × (Nat → Nat) × (Nat → Int64)) => match u with | (th', la', le', it') => r = stC q ln n ∧ ((¬ stOk q ln n ∧ th' = th ∧ la' = la ∧ le' = le ∧ it' = it) ∨ (stOk q ln n ∧ th' = va_up th q.toInt.toNat 1 ∧ la' = va_up la q.toInt.toNat ln.toInt.toNat ∧ le' = va_up le q.toInt.toNat n.toInt.toNat ∧ it' = zlR it (24 * q.toInt.toNat) n.toInt.toNat))) (fun (u : (Nat → Nat) × (Nat → Nat) × (Nat → Nat) × (Nat → Int64)) => match u with | (th', la', le', it') => [(M, .inr (8, [.ref (mr 0), .ref (mr 1), .int (nI (mi 2)), .ref (mr 3), .ref (mr 4), .int ima, .ref (mr 6), .int (nI (mi 7)), .ref (mr 8), .ref (mr 9), .ref (mr 10), .long (lN (mi 11)), .long (lN (mi 12)), .ref (mr 13), .ref (mr 14), .ref (mr 15), .ref (mr 16), .ref (mr 17), .ref (mr 18), .int (nI (mi 19)), .ref (mr 20), .ref (mr 21), .ref (mr 22), .ref (mr 23), .long (lN (mi 24)), .long (lN (mi 25)), .int (nI (mi 26)), .int (nI (mi 27)), .ref (mr 28), .int (nI (mi 29)), .int (nI (mi 30)), .int (nI (mi 31)), .int (nI (mi 32))])), (mr 8, .inl (Z 0, 4, .inl (lnR th' la'))), (mr 9, .inl (Z 0, 4, .inl (aI le'))), (mr 10, .inl (Z 1, 96, .inr (.inl it')))])) (cc := cX8_sheet) (maxL := 5) (ret := (some .int)) (by decide) rfl (Nat.le_of_ble_eq_true rfl) ?_
  intro pp ee s mm bw mt cd ls A H locs hAe hx hb hr hml hown hmn hts hlocks hA hK hw hl
  have hown : s.vm.findClass RX8 = some mm.cls := hown
  have hl : lv_has ls 5 [(0, .ref M), (1, .int q), (2, .int ln), (3, .int n)] := hl
  have wd1 := hts (.fieldLink RX8 29 "ReplaceAgesModel" "laneOf" "[I") (List.mem_of_getElem? (i := 1) rfl)
  have wd2 := hts (.fieldLink RX8 32 "ReplaceAgesModel" "sizeOf" "[I") (List.mem_of_getElem? (i := 2) rfl)
  have wd3 := hts (.fieldLink RX8 35 "ReplaceAgesModel" "items" "[J") (List.mem_of_getElem? (i := 3) rfl)
  have in_X8 : ∀ w ∈ wsX80, w ∈ wsX8_sheet := fun _ h => List.mem_cons_of_mem _ (List.mem_append_right _ h)
  refine lv_iload_n hx hb dX8_sheet_0 rfl (lv_at hl 1 rfl) ?_
  refine lv_iload_n hx hb dX8_sheet_1 rfl (lv_at hl 2 rfl) ?_
  refine q_calli (S := Unit) (Z := Z) (D := D) (wc := []) (wr := [(M, .inr (8, [.ref (mr 0), .ref (mr 1), .int (nI (mi 2)), .ref (mr 3), .ref (mr 4), .int ima, .ref (mr 6), .int (nI (mi 7)), .ref (mr 8), .ref (mr 9), .ref (mr 10), .long (lN (mi 11)), .long (lN (mi 12)), .ref (mr 13), .ref (mr 14), .ref (mr 15), .ref (mr 16), .ref (mr 17), .ref (mr 18), .int (nI (mi 19)), .ref (mr 20), .ref (mr 21), .ref (mr 22), .ref (mr 23), .long (lN (mi 24)), .long (lN (mi 25)), .int (nI (mi 26)), .int (nI (mi 27)), .ref (mr 28), .int (nI (mi 29)), .int (nI (mi 30)), .int (nI (mi 31)), .int (nI (mi 32))])), (mr 8, .inl (Z 0, 4, .inl (lnR th la))), (mr 9, .inl (Z 0, 4, .inl (aI le))), (mr 10, .inl (Z 1, 96, .inr (.inl it)))]) (rest := []) hw hA [] [0, 1, 2, 3] rfl rfl rfl rfl (by decide) (fun hPc hDc => va_runS (As := [.int q, .int ln]) (rest := []) ⟨hx, hb, hml, hown, hts⟩ (c_X8_isSheet l D Z H.size q ln ) (va_cwS 2 hts gX8_sheet_X8_isSheet rfl rfl rfl (by decide +kernel) ⟨Nat.le_of_ble_eq_true rfl, Nat.le_of_ble_eq_true rfl⟩) ⟨fb_cPre, pre_of hPc hK hDc⟩ rfl rfl hl.1 rfl (lv_room (Nat.le_of_ble_eq_true rfl)) dX8_sheet_2 ⟨Nat.le_of_ble_eq_true rfl, Nat.le_of_ble_eq_true rfl⟩) (fun r1 uu H locs hr1 hw => ?_)
  subst hr1
  have hw : WS D A s [(M, .inr (8, [.ref (mr 0), .ref (mr 1), .int (nI (mi 2)), .ref (mr 3), .ref (mr 4), .int ima, .ref (mr 6), .int (nI (mi 7)), .ref (mr 8), .ref (mr 9), .ref (mr 10), .long (lN (mi 11)), .long (lN (mi 12)), .ref (mr 13), .ref (mr 14), .ref (mr 15), .ref (mr 16), .ref (mr 17), .ref (mr 18), .int (nI (mi 19)), .ref (mr 20), .ref (mr 21), .ref (mr 22), .ref (mr 23), .long (lN (mi 24)), .long (lN (mi 25)), .int (nI (mi 26)), .int (nI (mi 27)), .ref (mr 28), .int (nI (mi 29)), .int (nI (mi 30)), .int (nI (mi 31)), .int (nI (mi 32))])), (mr 8, .inl (Z 0, 4, .inl (lnR th la))), (mr 9, .inl (Z 0, 4, .inl (aI le))), (mr 10, .inl (Z 1, 96, .inr (.inl it)))] H locs := hw
  refine q_if_eq (tgt := 14) hx hb ((bb (0 ≤ q.toInt ∧ q.toInt ≤ 3 ∧ 0 ≤ ln.toInt ∧ ln.toInt ≤ 3) : Nat) : Int) (nI_toInt (Nat.lt_of_le_of_lt (bb_le _) (by decide))) dX8_sheet_5 (by decide) (fun c2 => ?_) (fun c2 => ?_)
  · --
    have c2 := bb_0 c2
    refine lv_iconst (v := (-1)) hx hb dX8_sheet_14 (by decide) ?_
    exact q_iret (wout := _) hx hb hr hlocks hAe hK (th, la, le, it) hw (⟨(if_pos (by omega)).symm, Or.inl ⟨fun h => by unfold stOk at h; omega, rfl, rfl, rfl, rfl⟩⟩) dX8_sheet_15
  · --
    have c2 := bb_1 c2
    refine lv_iload_n hx hb dX8_sheet_8 rfl (lv_at hl 3 rfl) ?_
    refine q_bipush (v := 24) hx hb dX8_sheet_9 (by decide) ?_
    refine q_icmp_le (tgt := 16) hx hb n.toInt ((24 : Nat) : Int) rfl (nI_toInt (by omega)) dX8_sheet_11 (by decide) (fun c3 => ?_) (fun c3 => ?_)
    · --
      refine lv_iload_n hx hb dX8_sheet_16 rfl (lv_at hl 3 rfl) ?_
      refine q_if_ge (tgt := 23) hx hb n.toInt rfl dX8_sheet_17 (by decide) (fun c4 => ?_) (fun c4 => ?_)
      · --
        obtain ⟨j, rfl, ej⟩ := i32_nat (x := q) (by omega)
        obtain ⟨x, rfl, ex⟩ := i32_nat (x := ln) (by omega)
        obtain ⟨y, rfl, ey⟩ := i32_nat (x := n) (by omega)
        refine lv_aload_n hx hb dX8_sheet_23 rfl (lv_at hl 0 rfl) ?_
        refine q_get (v := .ref (mr 8)) (ci := 8) hx hb hts in_X8 hown hK hw 0 8 wd1 dX8_sheet_24 rfl rfl (by decide) rfl ?_
        refine lv_iload_n hx hb dX8_sheet_27 rfl (lv_at hl 1 rfl) ?_
        refine lv_iload_n hx hb dX8_sheet_28 rfl (lv_at hl 2 rfl) ?_
        refine q_iasR hx hb hK hw 1 (by omega) (by omega) dX8_sheet_29 rfl (fun H locs hw => ?_)
        have hw : WS D A s [(M, .inr (8, [.ref (mr 0), .ref (mr 1), .int (nI (mi 2)), .ref (mr 3), .ref (mr 4), .int ima, .ref (mr 6), .int (nI (mi 7)), .ref (mr 8), .ref (mr 9), .ref (mr 10), .long (lN (mi 11)), .long (lN (mi 12)), .ref (mr 13), .ref (mr 14), .ref (mr 15), .ref (mr 16), .ref (mr 17), .ref (mr 18), .int (nI (mi 19)), .ref (mr 20), .ref (mr 21), .ref (mr 22), .ref (mr 23), .long (lN (mi 24)), .long (lN (mi 25)), .int (nI (mi 26)), .int (nI (mi 27)), .ref (mr 28), .int (nI (mi 29)), .int (nI (mi 30)), .int (nI (mi 31)), .int (nI (mi 32))])), (mr 8, .inl (Z 0, 4, .inl (upd (lnR th la) j (nI x)))), (mr 9, .inl (Z 0, 4, .inl (aI le))), (mr 10, .inl (Z 1, 96, .inr (.inl it)))] H locs := hw
        refine lv_aload_n hx hb dX8_sheet_30 rfl (lv_at hl 0 rfl) ?_
        refine q_get (v := .ref (mr 9)) (ci := 8) hx hb hts in_X8 hown hK hw 0 9 wd2 dX8_sheet_31 rfl rfl (by decide) rfl ?_
        refine lv_iload_n hx hb dX8_sheet_34 rfl (lv_at hl 1 rfl) ?_
        refine lv_iload_n hx hb dX8_sheet_35 rfl (lv_at hl 3 rfl) ?_
        refine q_iast hx hb hK hw 2 (by omega) (by omega) dX8_sheet_36 rfl (fun H locs hw => ?_)
        have hw : WS D A s [(M, .inr (8, [.ref (mr 0), .ref (mr 1), .int (nI (mi 2)), .ref (mr 3), .ref (mr 4), .int ima, .ref (mr 6), .int (nI (mi 7)), .ref (mr 8), .ref (mr 9), .ref (mr 10), .long (lN (mi 11)), .long (lN (mi 12)), .ref (mr 13), .ref (mr 14), .ref (mr 15), .ref (mr 16), .ref (mr 17), .ref (mr 18), .int (nI (mi 19)), .ref (mr 20), .ref (mr 21), .ref (mr 22), .ref (mr 23), .long (lN (mi 24)), .long (lN (mi 25)), .int (nI (mi 26)), .int (nI (mi 27)), .ref (mr 28), .int (nI (mi 29)), .int (nI (mi 30)), .int (nI (mi 31)), .int (nI (mi 32))])), (mr 8, .inl (Z 0, 4, .inl (upd (lnR th la) j (nI x)))), (mr 9, .inl (Z 0, 4, .inl (aI (va_up le j y)))), (mr 10, .inl (Z 1, 96, .inr (.inl it)))] H locs := hw
        refine q_iconst (v := 0) hx hb dX8_sheet_37 (by decide) ?_
        refine lv_istore (lv' := [(4, .int (nI 0)), (0, .ref M), (1, .int (nI j)), (2, .int (nI x)), (3, .int (nI y))]) hx hb dX8_sheet_38 hl (by decide) rfl (fun ls hl => ?_)
        have hw : WS D A s [(M, .inr (8, [.ref (mr 0), .ref (mr 1), .int (nI (mi 2)), .ref (mr 3), .ref (mr 4), .int ima, .ref (mr 6), .int (nI (mi 7)), .ref (mr 8), .ref (mr 9), .ref (mr 10), .long (lN (mi 11)), .long (lN (mi 12)), .ref (mr 13), .ref (mr 14), .ref (mr 15), .ref (mr 16), .ref (mr 17), .ref (mr 18), .int (nI (mi 19)), .ref (mr 20), .ref (mr 21), .ref (mr 22), .ref (mr 23), .long (lN (mi 24)), .long (lN (mi 25)), .int (nI (mi 26)), .int (nI (mi 27)), .ref (mr 28), .int (nI (mi 29)), .int (nI (mi 30)), .int (nI (mi 31)), .int (nI (mi 32))])), (mr 8, .inl (Z 0, 4, .inl (upd (lnR th la) j (nI x)))), (mr 9, .inl (Z 0, 4, .inl (aI (va_up le j y)))), (mr 10, .inl (Z 1, 96, .inr (.inl (zlR it (24 * j) 0))))] H locs := by rw [show (zlR it (24 * j) 0) = it from zlR_0 _ _]; exact hw
        refine q_loop (σ := Nat) (fun (c : Nat) => y - c) (fun (c : Nat) => c ≤ y) (fun (c : Nat) => [(M, .inr (8, [.ref (mr 0), .ref (mr 1), .int (nI (mi 2)), .ref (mr 3), .ref (mr 4), .int ima, .ref (mr 6), .int (nI (mi 7)), .ref (mr 8), .ref (mr 9), .ref (mr 10), .long (lN (mi 11)), .long (lN (mi 12)), .ref (mr 13), .ref (mr 14), .ref (mr 15), .ref (mr 16), .ref (mr 17), .ref (mr 18), .int (nI (mi 19)), .ref (mr 20), .ref (mr 21), .ref (mr 22), .ref (mr 23), .long (lN (mi 24)), .long (lN (mi 25)), .int (nI (mi 26)), .int (nI (mi 27)), .ref (mr 28), .int (nI (mi 29)), .int (nI (mi 30)), .int (nI (mi 31)), .int (nI (mi 32))])), (mr 8, .inl (Z 0, 4, .inl (va_up (lnR th la) j (nI x)))), (mr 9, .inl (Z 0, 4, .inl (aI (va_up le j y)))), (mr 10, .inl (Z 1, 96, .inr (.inl (zlR it (24 * j) c))))]) (fun (c : Nat) => [(4, .int (nI c)), (0, .ref M), (1, .int (nI j)), (2, .int (nI x)), (3, .int (nI y))]) 0 (Nat.zero_le _) hw (lv_sub hl [0, 1, 2, 3, 4] rfl) ?_
        intro c H locs ls hi40 hw hl ih40
        try dsimp only at hi40 hw hl ih40
        have hw : WS D A s [(M, .inr (8, [.ref (mr 0), .ref (mr 1), .int (nI (mi 2)), .ref (mr 3), .ref (mr 4), .int ima, .ref (mr 6), .int (nI (mi 7)), .ref (mr 8), .ref (mr 9), .ref (mr 10), .long (lN (mi 11)), .long (lN (mi 12)), .ref (mr 13), .ref (mr 14), .ref (mr 15), .ref (mr 16), .ref (mr 17), .ref (mr 18), .int (nI (mi 19)), .ref (mr 20), .ref (mr 21), .ref (mr 22), .ref (mr 23), .long (lN (mi 24)), .long (lN (mi 25)), .int (nI (mi 26)), .int (nI (mi 27)), .ref (mr 28), .int (nI (mi 29)), .int (nI (mi 30)), .int (nI (mi 31)), .int (nI (mi 32))])), (mr 8, .inl (Z 0, 4, .inl (va_up (lnR th la) j (nI x)))), (mr 9, .inl (Z 0, 4, .inl (aI (va_up le j y)))), (mr 10, .inl (Z 1, 96, .inr (.inl (zlR it (24 * j) c))))] H locs := hw
        have hl : lv_has ls 5 [(4, .int (nI c)), (0, .ref M), (1, .int (nI j)), (2, .int (nI x)), (3, .int (nI y))] := hl
        refine lv_iload hx hb dX8_sheet_40 (lv_at hl 0 rfl) ?_
        refine lv_iload_n hx hb dX8_sheet_42 rfl (lv_at hl 4 rfl) ?_
        refine q_icmp_ge (tgt := 65) hx hb ((c : Nat) : Int) ((y : Nat) : Int) (nI_toInt (by omega)) (nI_toInt (by omega)) dX8_sheet_43 (by decide) (fun c5 => ?_) (fun c5 => ?_)
        · --
          obtain rfl : y = c := by omega
          refine lv_iload_n hx hb dX8_sheet_65 rfl (lv_at hl 4 rfl) ?_
          exact q_iret (wout := _) hx hb hr hlocks hAe hK (va_up th j 1, va_up la j x, va_up le j y, zlR it (24 * j) y) (by rw [lnR_1] at hw; exact hw.sub [0, 1, 2, 3] (by decide) rfl) (⟨(st_3 (by omega) (by omega)).symm, Or.inr ⟨by unfold stOk; omega, by rw [tnI ej], by rw [tnI ej, tnI ex], by rw [tnI ej, tnI ey], by rw [tnI ej, tnI ey]⟩⟩) dX8_sheet_66
        · --
          refine lv_aload_n hx hb dX8_sheet_46 rfl (lv_at hl 1 rfl) ?_
          refine q_get (v := .ref (mr 10)) (ci := 8) hx hb hts in_X8 hown hK hw 0 10 wd3 dX8_sheet_47 rfl rfl (by decide) rfl ?_
          refine q_bipush (v := 24) hx hb dX8_sheet_50 (by decide) ?_
          refine lv_iload_n hx hb dX8_sheet_52 rfl (lv_at hl 2 rfl) ?_
          refine q_imul hx hb dX8_sheet_53 ?_
          refine lv_iload hx hb dX8_sheet_54 (lv_at hl 0 rfl) ?_
          refine q_iadd hx hb dX8_sheet_56 ?_
          refine q_lconst (v := 0) hx hb dX8_sheet_57 (by decide) ?_
          refine q_lasR hx hb hK hw 3 (by omega) (by omega) dX8_sheet_58 rfl (fun H locs hw => ?_)
          have hw : WS D A s [(M, .inr (8, [.ref (mr 0), .ref (mr 1), .int (nI (mi 2)), .ref (mr 3), .ref (mr 4), .int ima, .ref (mr 6), .int (nI (mi 7)), .ref (mr 8), .ref (mr 9), .ref (mr 10), .long (lN (mi 11)), .long (lN (mi 12)), .ref (mr 13), .ref (mr 14), .ref (mr 15), .ref (mr 16), .ref (mr 17), .ref (mr 18), .int (nI (mi 19)), .ref (mr 20), .ref (mr 21), .ref (mr 22), .ref (mr 23), .long (lN (mi 24)), .long (lN (mi 25)), .int (nI (mi 26)), .int (nI (mi 27)), .ref (mr 28), .int (nI (mi 29)), .int (nI (mi 30)), .int (nI (mi 31)), .int (nI (mi 32))])), (mr 8, .inl (Z 0, 4, .inl (va_up (lnR th la) j (nI x)))), (mr 9, .inl (Z 0, 4, .inl (aI (va_up le j y)))), (mr 10, .inl (Z 1, 96, .inr (.inl (vp_updL (zlR it (24 * j) c) (24 * j + c) (lN 0)))))] H locs := hw
          refine lv_iinc (v := nI (c + 1)) (lv' := [(4, .int (nI (c + 1))), (0, .ref M), (1, .int (nI j)), (2, .int (nI x)), (3, .int (nI y))]) hx hb dX8_sheet_59 hl (k := 0) rfl (nI_add _ _) (by decide) rfl (fun ls hl => ?_)
          refine lv_goto (tgt := 40) hx hb dX8_sheet_62 (by decide) ?_
          have hw : WS D A s [(M, .inr (8, [.ref (mr 0), .ref (mr 1), .int (nI (mi 2)), .ref (mr 3), .ref (mr 4), .int ima, .ref (mr 6), .int (nI (mi 7)), .ref (mr 8), .ref (mr 9), .ref (mr 10), .long (lN (mi 11)), .long (lN (mi 12)), .ref (mr 13), .ref (mr 14), .ref (mr 15), .ref (mr 16), .ref (mr 17), .ref (mr 18), .int (nI (mi 19)), .ref (mr 20), .ref (mr 21), .ref (mr 22), .ref (mr 23), .long (lN (mi 24)), .long (lN (mi 25)), .int (nI (mi 26)), .int (nI (mi 27)), .ref (mr 28), .int (nI (mi 29)), .int (nI (mi 30)), .int (nI (mi 31)), .int (nI (mi 32))])), (mr 8, .inl (Z 0, 4, .inl (va_up (lnR th la) j (nI x)))), (mr 9, .inl (Z 0, 4, .inl (aI (va_up le j y)))), (mr 10, .inl (Z 1, 96, .inr (.inl (zlR it (24 * j) (c + 1)))))] H locs := by rw [show (zlR it (24 * j) (c + 1)) = (vp_updL (zlR it (24 * j) c) (24 * j + c) (lN 0)) from (zlR_up it (24 * j) c).symm]; exact hw
          exact ih40 (c + 1) H locs ls (by omega) (by omega) hw (lv_sub hl [0, 1, 2, 3, 4] rfl)
      · --
        refine lv_bipush (v := (-14)) hx hb dX8_sheet_20 (by decide) ?_
        exact q_iret (wout := _) hx hb hr hlocks hAe hK (th, la, le, it) hw (⟨(st_2 (by omega) (by omega)).symm, Or.inl ⟨fun h => by unfold stOk at h; omega, rfl, rfl, rfl, rfl⟩⟩) dX8_sheet_22
    · --
      refine lv_iconst (v := (-1)) hx hb dX8_sheet_14 (by decide) ?_
      exact q_iret (wout := _) hx hb hr hlocks hAe hK (th, la, le, it) hw (⟨(if_pos (by omega)).symm, Or.inl ⟨fun h => by unfold stOk at h; omega, rfl, rfl, rfl, rfl⟩⟩) dX8_sheet_15
