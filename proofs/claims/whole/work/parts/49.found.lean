/-- the lanes of the sheets as the reference keeps them -/
def lnR (th la : Nat → Nat) (k : Nat) : Int32 := if th k = 0 then (-4) else nI (la k)
theorem lnR_v (th la : Nat → Nat) (k : Nat) (h : la k ≤ 3) : (th k = 0 ∧ (lnR th la k).toInt = -4) ∨ (th k ≠ 0 ∧ lnR th la k = nI (la k) ∧ (lnR th la k).toInt = (la k : Int)) := by
  unfold lnR; split
  · exact Or.inl ⟨by assumption, by decide⟩
  · exact Or.inr ⟨by assumption, rfl, nI_toInt (by omega)⟩
theorem pk_sub_r {a b : Nat} (ha : a ≤ 100) (hb : b ≤ 100) : (nI a - nI b).toInt = (a : Int) - b := by
  rw [Int32.toInt_sub, nI_toInt (by omega), nI_toInt (by omega)]
  rw [Int.bmod_eq_of_le (by omega) (by omega)]
set_option maxHeartbeats 4000000 in
set_option maxRecDepth 100000 in
theorem c_X8_found (l : Launch) (D : va_G) (Z : Nat → ClassId) (zs0 : Nat) (M : Nat) (mr mi : Nat → Nat) (ima : Int32) (th la le : Nat → Nat) (sx ln : Nat) (i : Int32) (k : Nat) (hla : ∀ k, k < 4 → la k ≤ 3) (hle : ∀ k, k < 4 → le k ≤ 24) (hsx : sx < 4) (hln : ln ≤ 3) (hk : k ≤ 24) : cMi l yX8_found wsX8_found (rmd 0) D Z zs0 [.ref M, .int (nI sx), .int (nI ln), .int i, .int (nI k)] [(M, .inr (8, [.ref (mr 0), .ref (mr 1), .int (nI (mi 2)), .ref (mr 3), .ref (mr 4), .int ima, .ref (mr 6), .int (nI (mi 7)), .ref (mr 8), .ref (mr 9), .ref (mr 10), .long (lN (mi 11)), .long (lN (mi 12)), .ref (mr 13), .ref (mr 14), .ref (mr 15), .ref (mr 16), .ref (mr 17), .ref (mr 18), .int (nI (mi 19)), .ref (mr 20), .ref (mr 21), .ref (mr 22), .ref (mr 23), .long (lN (mi 24)), .long (lN (mi 25)), .int (nI (mi 26)), .int (nI (mi 27)), .ref (mr 28), .int (nI (mi 29)), .int (nI (mi 30)), .int (nI (mi 31)), .int (nI (mi 32))])), (mr 8, .inl (Z 0, 4, .inl (lnR th la))), (mr 9, .inl (Z 0, 4, .inl (aI le)))] (S := Unit) (fun (r : Int32) => fun (_ : Unit) => r = rfu (th sx) (la sx) (le sx) ln i (nI k)) (fun (_ : Unit) => [(M, .inr (8, [.ref (mr 0), .ref (mr 1), .int (nI (mi 2)), .ref (mr 3), .ref (mr 4), .int ima, .ref (mr 6), .int (nI (mi 7)), .ref (mr 8), .ref (mr 9), .ref (mr 10), .long (lN (mi 11)), .long (lN (mi 12)), .ref (mr 13), .ref (mr 14), .ref (mr 15), .ref (mr 16), .ref (mr 17), .ref (mr 18), .int (nI (mi 19)), .ref (mr 20), .ref (mr 21), .ref (mr 22), .ref (mr 23), .long (lN (mi 24)), .long (lN (mi 25)), .int (nI (mi 26)), .int (nI (mi 27)), .ref (mr 28), .int (nI (mi 29)), .int (nI (mi 30)), .int (nI (mi 31)), .int (nI (mi 32))])), (mr 8, .inl (Z 0, 4, .inl (lnR th la))), (mr 9, .inl (Z 0, 4, .inl (aI le)))]) 0 0 := by
  refine q_open (y := yX8_found) (ws := wsX8_found) (av := [.ref M, .int (nI sx), .int (nI ln), .int i, .int (nI k)]) (win := [(M, .inr (8, [.ref (mr 0), .ref (mr 1), .int (nI (mi 2)), .ref (mr 3), .ref (mr 4), .int ima, .ref (mr 6), .int (nI (mi 7)), .ref (mr 8), .ref (mr 9), .ref (mr 10), .long (lN (mi 11)), .long (lN (mi 12)), .ref (mr 13), .ref (mr 14), .ref (mr 15), .ref (mr 16), .ref (mr 17), .ref (mr 18), .int (nI (mi 19)), .ref (mr 20), .ref (mr 21), .ref (mr 22), .ref (mr 23), .long (lN (mi 24)), .long (lN (mi 25)), .int (nI (mi 26)), .int (nI (mi 27)), .ref (mr 28), .int (nI (mi 29)), .int (nI (mi 30)), .int (nI (mi 31)), .int (nI (mi 32))])), (mr 8, .inl (Z 0, 4, .inl (lnR th la))), (mr 9, .inl (Z 0, 4, .inl (aI le)))]) (Qc := fun zs0 => cQi D Z zs0 [(M, .inr (8, [.ref (mr 0), .ref (mr 1), .int (nI (mi 2)), .ref (mr 3), .ref (mr 4), .int ima, .ref (mr 6), .int (nI (mi 7)), .ref (mr 8), .ref (mr 9), .ref (mr 10), .long (lN (mi 11)), .long (lN (mi 12)), .ref (mr 13), .ref (mr 14), .ref (mr 15), .ref (mr 16), .ref (mr 17), .ref (mr 18), .int (nI (mi 19)), .ref (mr 20), .ref (mr 21), .ref (mr 22), .ref (mr 23), .long (lN (mi 24)), .long (lN (mi 25)), .int (nI (mi 26)), .int (nI (mi 27)), .ref (mr 28), .int (nI (mi 29)), .int (nI (mi 30)), .int (nI (mi 31)), .int (nI (mi 32))])), (mr 8, .inl (Z 0, 4, .inl (lnR th la))), (mr 9, .inl (Z 0, 4, .inl (aI le)))] (S := Unit) (fun (r : Int32) => fun (_ : Unit) => r = rfu (th sx) (la sx) (le sx) ln i (nI k)) (fun (_ : Unit) => [(M, .inr (8, [.ref (mr 0), .ref (mr 1), .int (nI (mi 2)), .ref (mr 3), .ref (mr 4), .int ima, .ref (mr 6), .int (nI (mi 7)), .ref (mr 8), .ref (mr 9), .ref (mr 10), .long (lN (mi 11)), .long (lN (mi 12)), .ref (mr 13), .ref (mr 14), .ref (mr 15), .ref (mr 16), .ref (mr 17), .ref (mr 18), .int (nI (mi 19)), .ref (mr 20), .ref (mr 21), .ref (mr 22), .ref (mr 23), .long (lN (mi 24)), .long (lN (mi 25)), .int (nI (mi 26)), .int (nI (mi 27)), .ref (mr 28), .int (nI (mi 29)), .int (nI (mi 30)), .int (nI (mi 31)), .int (nI (mi 32))])), (mr 8, .inl (Z 0, 4, .inl (lnR th la))), (mr 9, .inl (Z 0, 4, .inl (aI le)))])) (cc := cX8_found) (maxL := 5) (ret := (some .int)) (by decide) rfl (Nat.le_of_ble_eq_true rfl) ?_
  intro pp ee s mm bw mt cd ls A H locs hAe hx hb hr hml hown hmn hts hlocks hA hK hw hl
  have hown : s.vm.findClass RX8 = some mm.cls := hown
  have hl : lv_has ls 5 [(0, .ref M), (1, .int (nI sx)), (2, .int (nI ln)), (3, .int i), (4, .int (nI k))] := hl
  have wd1 := hts (.fieldLink RX8 29 "ReplaceAgesModel" "laneOf" "[I") (List.mem_of_getElem? (i := 1) rfl)
  have wd2 := hts (.fieldLink RX8 32 "ReplaceAgesModel" "sizeOf" "[I") (List.mem_of_getElem? (i := 2) rfl)
  have in_X8 : ∀ w ∈ wsX80, w ∈ wsX8_found := fun _ h => List.mem_cons_of_mem _ (List.mem_append_right _ h)
  have l1 := hla sx hsx
  have l2 := hle sx hsx
  have lv := lnR_v th la sx l1
  have ek : (nI k).toInt = (k : Int) := nI_toInt (by omega)
  have es : (nI (le sx) - nI k).toInt = (le sx : Int) - k := pk_sub_r (by omega) (by omega)
  have eln : (nI ln).toInt = (ln : Int) := nI_toInt (by omega)
  refine lv_aload_n hx hb dX8_found_0 rfl (lv_at hl 0 rfl) ?_
  refine q_get (v := .ref (mr 8)) (ci := 8) hx hb hts in_X8 hown hK hw 0 8 wd1 dX8_found_1 rfl rfl (by decide) rfl ?_
  refine lv_iload_n hx hb dX8_found_4 rfl (lv_at hl 1 rfl) ?_
  refine q_iaR hx hb hK hw 1 (by omega) (by omega) dX8_found_5 rfl ?_
  refine q_if_ge (tgt := 12) hx hb ((lnR th la) sx).toInt rfl dX8_found_6 (by decide) (fun c1 => ?_) (fun c1 => ?_)
  · --
    refine lv_aload_n hx hb dX8_found_12 rfl (lv_at hl 0 rfl) ?_
    refine q_get (v := .ref (mr 8)) (ci := 8) hx hb hts in_X8 hown hK hw 0 8 wd1 dX8_found_13 rfl rfl (by decide) rfl ?_
    refine lv_iload_n hx hb dX8_found_16 rfl (lv_at hl 1 rfl) ?_
    refine q_iaR hx hb hK hw 1 (by omega) (by omega) dX8_found_17 rfl ?_
    refine lv_iload_n hx hb dX8_found_18 rfl (lv_at hl 2 rfl) ?_
    refine q_icmp_eq (tgt := 25) hx hb ((lnR th la) sx).toInt ((ln : Nat) : Int) rfl (nI_toInt (by omega)) dX8_found_19 (by decide) (fun c2 => ?_) (fun c2 => ?_)
    · --
      refine lv_iload_n hx hb dX8_found_25 rfl (lv_at hl 3 rfl) ?_
      refine q_if_lt (tgt := 42) hx hb i.toInt rfl dX8_found_26 (by decide) (fun c3 => ?_) (fun c3 => ?_)
      · --
        refine lv_bipush (v := (-13)) hx hb dX8_found_42 (by decide) ?_
        refine lv_goto (tgt := 48) hx hb dX8_found_44 (by decide) ?_
        exact q_iret (wout := _) hx hb hr hlocks hAe hK () hw (by unfold rfu hol; rcases lv with ⟨v1, v2⟩ | ⟨v1, v2, v3⟩ <;> first | (exfalso; omega) | rw [if_pos (by omega)] | (rw [if_neg (by omega)]; first | rw [if_pos (by omega)] | (rw [if_neg (by omega)]; first | rw [if_pos (by omega)] | rw [if_neg (by omega)]))) dX8_found_48
      · --
        refine lv_iload_n hx hb dX8_found_29 rfl (lv_at hl 3 rfl) ?_
        refine lv_aload_n hx hb dX8_found_30 rfl (lv_at hl 0 rfl) ?_
        refine q_get (v := .ref (mr 9)) (ci := 8) hx hb hts in_X8 hown hK hw 0 9 wd2 dX8_found_31 rfl rfl (by decide) rfl ?_
        refine lv_iload_n hx hb dX8_found_34 rfl (lv_at hl 1 rfl) ?_
        refine q_iald hx hb hK hw 2 (by omega) (by omega) dX8_found_35 rfl ?_
        refine lv_iload hx hb dX8_found_36 (lv_at hl 4 rfl) ?_
        refine lv_isub hx hb dX8_found_38 ?_
        refine q_icmp_le (tgt := 47) hx hb i.toInt (((le sx : Nat) : Int) - ((k : Nat) : Int)) rfl es dX8_found_39 (by decide) (fun c4 => ?_) (fun c4 => ?_)
        · --
          refine q_iconst (v := 0) hx hb dX8_found_47 (by decide) ?_
          exact q_iret (wout := _) hx hb hr hlocks hAe hK () hw (by unfold rfu hol; rcases lv with ⟨v1, v2⟩ | ⟨v1, v2, v3⟩ <;> first | (exfalso; omega) | rw [if_pos (by omega)] | (rw [if_neg (by omega)]; first | rw [if_pos (by omega)] | (rw [if_neg (by omega)]; first | rw [if_pos (by omega)] | rw [if_neg (by omega)]))) dX8_found_48
        · --
          refine lv_bipush (v := (-13)) hx hb dX8_found_42 (by decide) ?_
          refine lv_goto (tgt := 48) hx hb dX8_found_44 (by decide) ?_
          exact q_iret (wout := _) hx hb hr hlocks hAe hK () hw (by unfold rfu hol; rcases lv with ⟨v1, v2⟩ | ⟨v1, v2, v3⟩ <;> first | (exfalso; omega) | rw [if_pos (by omega)] | (rw [if_neg (by omega)]; first | rw [if_pos (by omega)] | (rw [if_neg (by omega)]; first | rw [if_pos (by omega)] | rw [if_neg (by omega)]))) dX8_found_48
    · --
      refine lv_bipush (v := (-12)) hx hb dX8_found_22 (by decide) ?_
      exact q_iret (wout := _) hx hb hr hlocks hAe hK () hw (by unfold rfu hol; rcases lv with ⟨v1, v2⟩ | ⟨v1, v2, v3⟩ <;> first | (exfalso; omega) | rw [if_pos (by omega)] | (rw [if_neg (by omega)]; first | rw [if_pos (by omega)] | (rw [if_neg (by omega)]; first | rw [if_pos (by omega)] | rw [if_neg (by omega)]))) dX8_found_24
  · --
    refine lv_bipush (v := (-11)) hx hb dX8_found_9 (by decide) ?_
    exact q_iret (wout := _) hx hb hr hlocks hAe hK () hw (by unfold rfu hol; rcases lv with ⟨v1, v2⟩ | ⟨v1, v2, v3⟩ <;> first | (exfalso; omega) | rw [if_pos (by omega)] | (rw [if_neg (by omega)]; first | rw [if_pos (by omega)] | (rw [if_neg (by omega)]; first | rw [if_pos (by omega)] | rw [if_neg (by omega)]))) dX8_found_11
