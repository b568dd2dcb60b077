set_option maxHeartbeats 4000000 in
set_option maxRecDepth 100000 in
theorem c_X8_looks (l : Launch) (D : va_G) (Z : Nat → ClassId) (zs0 : Nat) (M : Nat) (mr mi : Nat → Nat) (ima : Int32) (L : Nat → Nat) (hL : ∀ k, L k < 128) (hsz : mi 7 ≤ 60) (hap : mi 26 ≤ mi 7) : cMi l yX8_looks wsX8_looks (rmd 0) D Z zs0 [.ref M] [(M, .inr (8, [.ref (mr 0), .ref (mr 1), .int (nI (mi 2)), .ref (mr 3), .ref (mr 4), .int ima, .ref (mr 6), .int (nI (mi 7)), .ref (mr 8), .ref (mr 9), .ref (mr 10), .long (lN (mi 11)), .long (lN (mi 12)), .ref (mr 13), .ref (mr 14), .ref (mr 15), .ref (mr 16), .ref (mr 17), .ref (mr 18), .int (nI (mi 19)), .ref (mr 20), .ref (mr 21), .ref (mr 22), .ref (mr 23), .long (lN (mi 24)), .long (lN (mi 25)), .int (nI (mi 26)), .int (nI (mi 27)), .ref (mr 28), .int (nI (mi 29)), .int (nI (mi 30)), .int (nI (mi 31)), .int (nI (mi 32))])), (mr 6, .inl (Z 0, 60, .inl (aI L)))] (S := Unit) (fun (r : Int32) => fun (_ : Unit) => r = nI (ltr L (mi 7) (sk L (mi 7) (mi 26)))) (fun (_ : Unit) => [(M, .inr (8, [.ref (mr 0), .ref (mr 1), .int (nI (mi 2)), .ref (mr 3), .ref (mr 4), .int ima, .ref (mr 6), .int (nI (mi 7)), .ref (mr 8), .ref (mr 9), .ref (mr 10), .long (lN (mi 11)), .long (lN (mi 12)), .ref (mr 13), .ref (mr 14), .ref (mr 15), .ref (mr 16), .ref (mr 17), .ref (mr 18), .int (nI (mi 19)), .ref (mr 20), .ref (mr 21), .ref (mr 22), .ref (mr 23), .long (lN (mi 24)), .long (lN (mi 25)), .int (nI (sk L (mi 7) (mi 26))), .int (nI (mi 27)), .ref (mr 28), .int (nI (mi 29)), .int (nI (mi 30)), .int (nI (mi 31)), .int (nI (mi 32))])), (mr 6, .inl (Z 0, 60, .inl (aI L)))]) 0 0 := by
  refine q_open (y := yX8_looks) (ws := wsX8_looks) (av := [.ref M]) (win := [(M, .inr (8, [.ref (mr 0), .ref (mr 1), .int (nI (mi 2)), .ref (mr 3), .ref (mr 4), .int ima, .ref (mr 6), .int (nI (mi 7)), .ref (mr 8), .ref (mr 9), .ref (mr 10), .long (lN (mi 11)), .long (lN (mi 12)), .ref (mr 13), .ref (mr 14), .ref (mr 15), .ref (mr 16), .ref (mr 17), .ref (mr 18), .int (nI (mi 19)), .ref (mr 20), .ref (mr 21), .ref (mr 22), .ref (mr 23), .long (lN (mi 24)), .long (lN (mi 25)), .int (nI (mi 26)), .int (nI (mi 27)), .ref (mr 28), .int (nI (mi 29)), .int (nI (mi 30)), .int (nI (mi 31)), .int (nI (mi 32))])), (mr 6, .inl (Z 0, 60, .inl (aI L)))]) (Qc := fun zs0 => cQi D Z zs0 [(M, .inr (8, [.ref (mr 0), .ref (mr 1), .int (nI (mi 2)), .ref (mr 3), .ref (mr 4), .int ima, .ref (mr 6), .int (nI (mi 7)), .ref (mr 8), .ref (mr 9), .ref (mr 10), .long (lN (mi 11)), .long (lN (mi 12)), .ref (mr 13), .ref (mr 14), .ref (mr 15), .ref (mr 16), .ref (mr 17), .ref (mr 18), .int (nI (mi 19)), .ref (mr 20), .ref (mr 21), .ref (mr 22), .ref (mr 23), .long (lN (mi 24)), .long (lN (mi 25)), .int (nI (mi 26)), .int (nI (mi 27)), .ref (mr 28), .int (nI (mi 29)), .int (nI (mi 30)), .int (nI (mi 31)), .int (nI (mi 32))])), (mr 6, .inl (Z 0, 60, .inl (aI L)))] (S := Unit) (fun (r : Int32) => fun (_ : Unit) => r = nI (ltr L (mi 7) (sk L (mi 7) (mi 26)))) (fun (_ : Unit) => [(M, .inr (8, [.ref (mr 0), .ref (mr 1), .int (nI (mi 2)), .ref (mr 3), .ref (mr 4), .int ima, .ref (mr 6), .int (nI (mi 7)), .ref (mr 8), .ref (mr 9), .ref (mr 10), .long (lN (mi 11)), .long (lN (mi 12)), .ref (mr 13), .ref (mr 14), .ref (mr 15), .ref (mr 16), .ref (mr 17), .ref (mr 18), .int (nI (mi 19)), .ref (mr 20), .ref (mr 21), .ref (mr 22), .ref (mr 23), .long (lN (mi 24)), .long (lN (mi 25)), .int (nI (sk L (mi 7) (mi 26))), .int (nI (mi 27)), .ref (mr 28), .int (nI (mi 29)), .int (nI (mi 30)), .int (nI (mi 31)), .int (nI (mi 32))])), (mr 6, .inl (Z 0, 60, .inl (aI L)))])) (cc := cX8_looks) (maxL := 1) (ret := (some .int)) (by decide) rfl (Nat.le_of_ble_eq_true rfl) ?_
  intro pp ee s mm bw mt cd ls A H locs hAe hx hb hr hml hown hmn hts hlocks hA hK hw hl
  have hown : s.vm.findClass RX8 = some mm.cls := hown
  have hl : lv_has ls 1 [(0, .ref M)] := hl
  have wd1 := hts (.fieldLink RX8 221 "ReplaceAgesModel" "readAt" "I") (List.mem_of_getElem? (i := 1) rfl)
  have wd2 := hts (.fieldLink RX8 218 "ReplaceAgesModel" "tapeMany" "I") (List.mem_of_getElem? (i := 2) rfl)
  have wd3 := hts (.fieldLink RX8 26 "ReplaceAgesModel" "tape" "[I") (List.mem_of_getElem? (i := 3) rfl)
  have in_X8 : ∀ w ∈ wsX80, w ∈ wsX8_looks := fun _ h => List.mem_cons_of_mem _ (List.mem_append_right _ h)
  refine q_loop (σ := Nat) (fun (b : Nat) => mi 7 - b) (fun (b : Nat) => b ≤ mi 7 ∧ sk L (mi 7) b = sk L (mi 7) (mi 26)) (fun (b : Nat) => [(M, .inr (8, [.ref (mr 0), .ref (mr 1), .int (nI (mi 2)), .ref (mr 3), .ref (mr 4), .int ima, .ref (mr 6), .int (nI (mi 7)), .ref (mr 8), .ref (mr 9), .ref (mr 10), .long (lN (mi 11)), .long (lN (mi 12)), .ref (mr 13), .ref (mr 14), .ref (mr 15), .ref (mr 16), .ref (mr 17), .ref (mr 18), .int (nI (mi 19)), .ref (mr 20), .ref (mr 21), .ref (mr 22), .ref (mr 23), .long (lN (mi 24)), .long (lN (mi 25)), .int (nI b), .int (nI (mi 27)), .ref (mr 28), .int (nI (mi 29)), .int (nI (mi 30)), .int (nI (mi 31)), .int (nI (mi 32))])), (mr 6, .inl (Z 0, 60, .inl (aI L)))]) (fun (b : Nat) => [(0, .ref M)]) (mi 26) ⟨hap, rfl⟩ hw (lv_sub hl [0] rfl) ?_
  intro b H locs ls hi0 hw hl ih0
  try dsimp only at hi0 hw hl ih0
  obtain ⟨q1, q2⟩ := hi0
  have hw : WS D A s [(M, .inr (8, [.ref (mr 0), .ref (mr 1), .int (nI (mi 2)), .ref (mr 3), .ref (mr 4), .int ima, .ref (mr 6), .int (nI (mi 7)), .ref (mr 8), .ref (mr 9), .ref (mr 10), .long (lN (mi 11)), .long (lN (mi 12)), .ref (mr 13), .ref (mr 14), .ref (mr 15), .ref (mr 16), .ref (mr 17), .ref (mr 18), .int (nI (mi 19)), .ref (mr 20), .ref (mr 21), .ref (mr 22), .ref (mr 23), .long (lN (mi 24)), .long (lN (mi 25)), .int (nI b), .int (nI (mi 27)), .ref (mr 28), .int (nI (mi 29)), .int (nI (mi 30)), .int (nI (mi 31)), .int (nI (mi 32))])), (mr 6, .inl (Z 0, 60, .inl (aI L)))] H locs := hw
  have hl : lv_has ls 1 [(0, .ref M)] := hl
  have hLb := hL b
  refine lv_aload_n hx hb dX8_looks_0 rfl (lv_at hl 0 rfl) ?_
  refine q_get (v := .int (nI b)) (ci := 8) hx hb hts in_X8 hown hK hw 0 26 wd1 dX8_looks_1 rfl rfl (by decide) rfl ?_
  refine lv_aload_n hx hb dX8_looks_4 rfl (lv_at hl 0 rfl) ?_
  refine q_get (v := .int (nI (mi 7))) (ci := 8) hx hb hts in_X8 hown hK hw 0 7 wd2 dX8_looks_5 rfl rfl (by decide) rfl ?_
  refine q_icmp_ge (tgt := 38) hx hb ((b : Nat) : Int) ((mi 7 : Nat) : Int) (nI_toInt (by omega)) (nI_toInt (by omega)) dX8_looks_8 (by decide) (fun c1 => ?_) (fun c1 => ?_)
  · --
    have e1 : sk L (mi 7) b = b := sk_end (by omega)
    have e2 : b = sk L (mi 7) (mi 26) := by rw [← q2, e1]
    refine lv_aload_n hx hb dX8_looks_38 rfl (lv_at hl 0 rfl) ?_
    refine q_get (v := .int (nI b)) (ci := 8) hx hb hts in_X8 hown hK hw 0 26 wd1 dX8_looks_39 rfl rfl (by decide) rfl ?_
    refine lv_aload_n hx hb dX8_looks_42 rfl (lv_at hl 0 rfl) ?_
    refine q_get (v := .int (nI (mi 7))) (ci := 8) hx hb hts in_X8 hown hK hw 0 7 wd2 dX8_looks_43 rfl rfl (by decide) rfl ?_
    refine q_icmp_ge (tgt := 61) hx hb ((b : Nat) : Int) ((mi 7 : Nat) : Int) (nI_toInt (by omega)) (nI_toInt (by omega)) dX8_looks_46 (by decide) (fun c2 => ?_) (fun c2 => ?_)
    · --
      refine q_iconst (v := 0) hx hb dX8_looks_61 (by decide) ?_
      exact q_iret (wout := _) hx hb hr hlocks hAe hK () (by rw [← e2]; exact hw.sub [0, 1] (by decide) rfl) (by rw [← e2]; unfold ltr; first | (exfalso; omega) | rw [if_pos (by omega)] | rw [if_neg (by omega)]) dX8_looks_62
    · --
      refine lv_aload_n hx hb dX8_looks_49 rfl (lv_at hl 0 rfl) ?_
      refine q_get (v := .ref (mr 6)) (ci := 8) hx hb hts in_X8 hown hK hw 0 6 wd3 dX8_looks_50 rfl rfl (by decide) rfl ?_
      refine lv_aload_n hx hb dX8_looks_53 rfl (lv_at hl 0 rfl) ?_
      refine q_get (v := .int (nI b)) (ci := 8) hx hb hts in_X8 hown hK hw 0 26 wd1 dX8_looks_54 rfl rfl (by decide) rfl ?_
      refine q_iald hx hb hK hw 1 (by omega) (by omega) dX8_looks_57 rfl ?_
      refine lv_goto (tgt := 62) hx hb dX8_looks_58 (by decide) ?_
      exact q_iret (wout := _) hx hb hr hlocks hAe hK () (by rw [← e2]; exact hw.sub [0, 1] (by decide) rfl) (by rw [← e2]; unfold ltr; first | (exfalso; omega) | rw [if_pos (by omega)] | rw [if_neg (by omega)]) dX8_looks_62
  · --
    refine lv_aload_n hx hb dX8_looks_11 rfl (lv_at hl 0 rfl) ?_
    refine q_get (v := .ref (mr 6)) (ci := 8) hx hb hts in_X8 hown hK hw 0 6 wd3 dX8_looks_12 rfl rfl (by decide) rfl ?_
    refine lv_aload_n hx hb dX8_looks_15 rfl (lv_at hl 0 rfl) ?_
    refine q_get (v := .int (nI b)) (ci := 8) hx hb hts in_X8 hown hK hw 0 26 wd1 dX8_looks_16 rfl rfl (by decide) rfl ?_
    refine q_iald hx hb hK hw 1 (by omega) (by omega) dX8_looks_19 rfl ?_
    refine q_bipush (v := 32) hx hb dX8_looks_20 (by decide) ?_
    refine q_icmp_ne (tgt := 38) hx hb ((L b : Nat) : Int) ((32 : Nat) : Int) (nI_toInt (by omega)) (nI_toInt (by omega)) dX8_looks_22 (by decide) (fun c3 => ?_) (fun c3 => ?_)
    · --
      have e1 : sk L (mi 7) b = b := sk_stop (by unfold ltr; rw [if_pos (by omega)]; omega)
      have e2 : b = sk L (mi 7) (mi 26) := by rw [← q2, e1]
      refine lv_aload_n hx hb dX8_looks_38 rfl (lv_at hl 0 rfl) ?_
      refine q_get (v := .int (nI b)) (ci := 8) hx hb hts in_X8 hown hK hw 0 26 wd1 dX8_looks_39 rfl rfl (by decide) rfl ?_
      refine lv_aload_n hx hb dX8_looks_42 rfl (lv_at hl 0 rfl) ?_
      refine q_get (v := .int (nI (mi 7))) (ci := 8) hx hb hts in_X8 hown hK hw 0 7 wd2 dX8_looks_43 rfl rfl (by decide) rfl ?_
      refine q_icmp_ge (tgt := 61) hx hb ((b : Nat) : Int) ((mi 7 : Nat) : Int) (nI_toInt (by omega)) (nI_toInt (by omega)) dX8_looks_46 (by decide) (fun c4 => ?_) (fun c4 => ?_)
      · --
        refine q_iconst (v := 0) hx hb dX8_looks_61 (by decide) ?_
        exact q_iret (wout := _) hx hb hr hlocks hAe hK () (by rw [← e2]; exact hw.sub [0, 1] (by decide) rfl) (by rw [← e2]; unfold ltr; first | (exfalso; omega) | rw [if_pos (by omega)] | rw [if_neg (by omega)]) dX8_looks_62
      · --
        refine lv_aload_n hx hb dX8_looks_49 rfl (lv_at hl 0 rfl) ?_
        refine q_get (v := .ref (mr 6)) (ci := 8) hx hb hts in_X8 hown hK hw 0 6 wd3 dX8_looks_50 rfl rfl (by decide) rfl ?_
        refine lv_aload_n hx hb dX8_looks_53 rfl (lv_at hl 0 rfl) ?_
        refine q_get (v := .int (nI b)) (ci := 8) hx hb hts in_X8 hown hK hw 0 26 wd1 dX8_looks_54 rfl rfl (by decide) rfl ?_
        refine q_iald hx hb hK hw 1 (by omega) (by omega) dX8_looks_57 rfl ?_
        refine lv_goto (tgt := 62) hx hb dX8_looks_58 (by decide) ?_
        exact q_iret (wout := _) hx hb hr hlocks hAe hK () (by rw [← e2]; exact hw.sub [0, 1] (by decide) rfl) (by rw [← e2]; unfold ltr; first | (exfalso; omega) | rw [if_pos (by omega)] | rw [if_neg (by omega)]) dX8_looks_62
    · --
      have c2 : ltr L (mi 7) b = 32 := by unfold ltr; rw [if_pos (by omega)]; omega
      refine lv_aload_n hx hb dX8_looks_25 rfl (lv_at hl 0 rfl) ?_
      refine lv_dup hx hb dX8_looks_26 rfl ?_
      refine q_get (v := .int (nI b)) (ci := 8) hx hb hts in_X8 hown hK hw 0 26 wd1 dX8_looks_27 rfl rfl (by decide) rfl ?_
      refine q_iconst (v := 1) hx hb dX8_looks_30 (by decide) ?_
      refine q_iadd hx hb dX8_looks_31 ?_
      refine q_put (v := .int (nI (b + 1))) (ci := 8) hx hb hts in_X8 tyX8 tyX8_ok nmX8 hown hK hw 0 26 wd1 dX8_looks_32 rfl rfl (by decide) rfl rfl rfl (Nat.le_of_ble_eq_true rfl) (fun H locs hw => ?_)
      have hw : WS D A s [(M, .inr (8, [.ref (mr 0), .ref (mr 1), .int (nI (mi 2)), .ref (mr 3), .ref (mr 4), .int ima, .ref (mr 6), .int (nI (mi 7)), .ref (mr 8), .ref (mr 9), .ref (mr 10), .long (lN (mi 11)), .long (lN (mi 12)), .ref (mr 13), .ref (mr 14), .ref (mr 15), .ref (mr 16), .ref (mr 17), .ref (mr 18), .int (nI (mi 19)), .ref (mr 20), .ref (mr 21), .ref (mr 22), .ref (mr 23), .long (lN (mi 24)), .long (lN (mi 25)), .int (nI (b + 1)), .int (nI (mi 27)), .ref (mr 28), .int (nI (mi 29)), .int (nI (mi 30)), .int (nI (mi 31)), .int (nI (mi 32))])), (mr 6, .inl (Z 0, 60, .inl (aI L)))] H locs := hw
      refine lv_goto (tgt := 0) hx hb dX8_looks_35 (by decide) ?_
      exact ih0 (b + 1) H locs ls (by omega) ⟨by omega, by rw [← q2, sk_step c2]⟩ hw (lv_sub hl [0] rfl)
