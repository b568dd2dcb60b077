/-- THE DRAW changed -/
theorem dw_ex : ∃ f : Nat → Nat, ∀ d, f d = (d * 1103515245 + 12345) % 2147483648 := ⟨_, fun _ => rfl⟩
noncomputable def dw : Nat → Nat := Classical.choose dw_ex
theorem dw_eq (d : Nat) : dw d = (d * 1103515245 + 12345) % 2147483648 := Classical.choose_spec dw_ex d
theorem dw_lt31 (d : Nat) : dw d < 2 ^ 31 := by rw [dw_eq]; exact Nat.mod_lt _ (by decide)
theorem dw_x (d : Nat) : dw d / 65536 < 32768 := by have := dw_lt31 d; omega
theorem z_le {z : Nat → Nat} {n k : Nat} (h : 1 ≤ k ∧ k ≤ n) : z k ≤ lf z n 0 := by
  have h1 := sm_at z 1 (c := k - 1) (d := n) (by omega)
  rw [show 1 + (k - 1) = k by omega] at h1; exact h1
/-- a PERIOD run; weights by the row z -/
noncomputable def rp (z p : Nat → Nat) : Nat → Nat :=
  if dw (p 12) / 65536 % lf z (p 0) (p 13) < z (p 13 + 1) then
    va_up (va_up (va_up (va_up (va_up p 12 (dw (p 12))) 16 (p 16 + 1)) 14 (p 14 + 1)) 17 (p 17 + p 9)) 13 0
  else if p 11 ≤ p 13 + 1 then
    va_up (va_up (va_up (va_up (va_up p 12 (dw (p 12))) 16 (p 16 + 1)) 15 (p 15 + 1)) 17 (p 17 + p 10)) 13 0
  else va_up (va_up (va_up p 12 (dw (p 12))) 16 (p 16 + 1)) 13 (p 13 + 1)
theorem rp_f (z p : Nat → Nat) (h : dw (p 12) / 65536 % lf z (p 0) (p 13) < z (p 13 + 1)) : rp z p = va_up (va_up (va_up (va_up (va_up p 12 (dw (p 12))) 16 (p 16 + 1)) 14 (p 14 + 1)) 17 (p 17 + p 9)) 13 0 := if_pos h
theorem rp_c (z p : Nat → Nat) (h : ¬ dw (p 12) / 65536 % lf z (p 0) (p 13) < z (p 13 + 1)) (h2 : p 11 ≤ p 13 + 1) : rp z p = va_up (va_up (va_up (va_up (va_up p 12 (dw (p 12))) 16 (p 16 + 1)) 15 (p 15 + 1)) 17 (p 17 + p 10)) 13 0 := by unfold rp; rw [if_neg h, if_pos h2]
theorem rp_o (z p : Nat → Nat) (h : ¬ dw (p 12) / 65536 % lf z (p 0) (p 13) < z (p 13 + 1)) (h2 : ¬ p 11 ≤ p 13 + 1) : rp z p = va_up (va_up (va_up p 12 (dw (p 12))) 16 (p 16 + 1)) 13 (p 13 + 1) := by unfold rp; rw [if_neg h, if_neg h2]
/-- a turn of a DRIFT -/
noncomputable def tk (p : Nat → Nat) : Nat := dw (p 12) / 65536 % p 0 + 1
noncomputable def tv (p : Nat → Nat) : Nat := dw (p 12) / 65536 / 8 % 10
abbrev tok (z p : Nat → Nat) : Prop := lf z (p 0) 0 - wt z (p 0) (dw (p 12) / 65536 % p 0 + 1) + dw (p 12) / 65536 / 8 % 10 ≤ 24 ∧ (dw (p 12) / 65536 % p 0 + 1 ≠ p 0 ∨ dw (p 12) / 65536 / 8 % 10 ≠ 0)
noncomputable def tnp (z p : Nat → Nat) : Nat → Nat := if tok z p then va_up (va_up p 12 (dw (p 12))) 13 0 else va_up p 12 (dw (p 12))
noncomputable def tnz (z p : Nat → Nat) : Nat → Nat := if tok z p then va_up z (dw (p 12) / 65536 % p 0 + 1) (dw (p 12) / 65536 / 8 % 10) else z
theorem tnp_t {z p : Nat → Nat} (h : tok z p) : tnp z p = va_up (va_up p 12 (dw (p 12))) 13 0 := if_pos h
theorem tnp_f {z p : Nat → Nat} (h : ¬ tok z p) : tnp z p = va_up p 12 (dw (p 12)) := if_neg h
theorem tnz_t {z p : Nat → Nat} (h : tok z p) : tnz z p = va_up z (dw (p 12) / 65536 % p 0 + 1) (dw (p 12) / 65536 / 8 % 10) := if_pos h
theorem tnz_f {z p : Nat → Nat} (h : ¬ tok z p) : tnz z p = z := if_neg h
set_option maxHeartbeats 4000000 in
set_option maxRecDepth 100000 in
theorem c_X2_takeFrom (l : Launch) (D : va_G) (Z : Nat → ClassId) (sz : Nat) (a t w : Nat) (p z : Nat → Nat) (a2 t2 w2 : Nat) (p2 z2 : Nat → Nat)  : cMv l yX2_takeFrom wsX2_takeFrom (rmd 2) D Z sz [.ref a, .ref a2] [(a, .inr (2, [.ref t, .int (nI (p 9)), .int (nI (p 10)), .int (nI (p 11)), .int (nI (p 13)), .int (nI (p 14)), .int (nI (p 15)), .int (nI (p 16)), .int (nI (p 17)), .int (nI (p 12))])), (t, .inr (5, [.int (nI (p 0)), .ref w])), (w, .inl (Z 0, 9, .inl (aI z))), (a2, .inr (2, [.ref t2, .int (nI (p2 9)), .int (nI (p2 10)), .int (nI (p2 11)), .int (nI (p2 13)), .int (nI (p2 14)), .int (nI (p2 15)), .int (nI (p2 16)), .int (nI (p2 17)), .int (nI (p2 12))])), (t2, .inr (5, [.int (nI (p2 0)), .ref w2])), (w2, .inl (Z 0, 9, .inl (aI z2)))] (S := Unit) (fun (_ : Unit) => True) (fun (_ : Unit) => [(a, .inr (2, [.ref t, .int (nI (p2 9)), .int (nI (p2 10)), .int (nI (p2 11)), .int (nI (p2 13)), .int (nI (p2 14)), .int (nI (p2 15)), .int (nI (p2 16)), .int (nI (p2 17)), .int (nI (p2 12))])), (t, .inr (5, [.int (nI (p2 0)), .ref w])), (w, .inl (Z 0, 9, .inl (aI z2))), (a2, .inr (2, [.ref t2, .int (nI (p2 9)), .int (nI (p2 10)), .int (nI (p2 11)), .int (nI (p2 13)), .int (nI (p2 14)), .int (nI (p2 15)), .int (nI (p2 16)), .int (nI (p2 17)), .int (nI (p2 12))])), (t2, .inr (5, [.int (nI (p2 0)), .ref w2])), (w2, .inl (Z 0, 9, .inl (aI z2)))]) 0 0 := by
  refine q_open (Qc := fun sz => cQv D Z sz [(a, .inr (2, [.ref t, .int (nI (p 9)), .int (nI (p 10)), .int (nI (p 11)), .int (nI (p 13)), .int (nI (p 14)), .int (nI (p 15)), .int (nI (p 16)), .int (nI (p 17)), .int (nI (p 12))])), (t, .inr (5, [.int (nI (p 0)), .ref w])), (w, .inl (Z 0, 9, .inl (aI z))), (a2, .inr (2, [.ref t2, .int (nI (p2 9)), .int (nI (p2 10)), .int (nI (p2 11)), .int (nI (p2 13)), .int (nI (p2 14)), .int (nI (p2 15)), .int (nI (p2 16)), .int (nI (p2 17)), .int (nI (p2 12))])), (t2, .inr (5, [.int (nI (p2 0)), .ref w2])), (w2, .inl (Z 0, 9, .inl (aI z2)))] (S := Unit) _ _) (cc := cX2_takeFrom) (maxL := 2) (ret := none) (by decide) rfl (Nat.le_of_ble_eq_true rfl) ?_
  intro pp ee s mm bw mt cd ls A H locs hAe hx hb hr hml hown hmn hts hlocks hA hK hw hl
  have hown : s.vm.findClass RX2 = some mm.cls := hown
  have hl : lv_has ls 2 [(0, .ref a), (1, .ref a2)] := hl
  have wd1 := hts (.fieldLink RX2 12 "ReplaceAges$Plan" "table" "LReplaceAges$Table;") (List.mem_of_getElem? (i := 1) rfl)
  have wd2 := hts (.fieldLink RX2 18 "ReplaceAges$Plan" "failure" "I") (List.mem_of_getElem? (i := 2) rfl)
  have wd3 := hts (.fieldLink RX2 22 "ReplaceAges$Plan" "change" "I") (List.mem_of_getElem? (i := 3) rfl)
  have wd4 := hts (.fieldLink RX2 25 "ReplaceAges$Plan" "rule" "I") (List.mem_of_getElem? (i := 4) rfl)
  have wd5 := hts (.fieldLink RX2 35 "ReplaceAges$Plan" "partAge" "I") (List.mem_of_getElem? (i := 5) rfl)
  have wd6 := hts (.fieldLink RX2 38 "ReplaceAges$Plan" "failures" "I") (List.mem_of_getElem? (i := 6) rfl)
  have wd7 := hts (.fieldLink RX2 41 "ReplaceAges$Plan" "changes" "I") (List.mem_of_getElem? (i := 7) rfl)
  have wd8 := hts (.fieldLink RX2 44 "ReplaceAges$Plan" "periods" "I") (List.mem_of_getElem? (i := 8) rfl)
  have wd9 := hts (.fieldLink RX2 47 "ReplaceAges$Plan" "bill" "I") (List.mem_of_getElem? (i := 9) rfl)
  have wd10 := hts (.fieldLink RX2 28 "ReplaceAges$Plan" "draw" "I") (List.mem_of_getElem? (i := 10) rfl)
  have in_X2 : ∀ w ∈ wsX20, w ∈ wsX2_takeFrom := fun _ h => List.mem_cons_of_mem _ (List.mem_append_left _ (List.mem_append_right _ h))
  refine lv_aload_n hx hb dX2_takeFrom_0 rfl (lv_at hl 0 rfl) ?_
  refine q_get (v := .ref t) (ci := 2) hx hb hts in_X2 hown hK hw 0 0 wd1 dX2_takeFrom_1 rfl rfl (by decide) rfl ?_
  refine lv_aload_n hx hb dX2_takeFrom_4 rfl (lv_at hl 1 rfl) ?_
  refine q_get (v := .ref t2) (ci := 2) hx hb hts in_X2 hown hK hw 3 0 wd1 dX2_takeFrom_5 rfl rfl (by decide) rfl ?_
  refine q_callv (S := Unit) (Z := Z) (D := D) (wc := [(t, .inr (5, [.int (nI (p 0)), .ref w])), (w, .inl (Z 0, 9, .inl (aI z))), (t2, .inr (5, [.int (nI (p2 0)), .ref w2])), (w2, .inl (Z 0, 9, .inl (aI z2)))]) (wr := [(a, .inr (2, [.ref t, .int (nI (p 9)), .int (nI (p 10)), .int (nI (p 11)), .int (nI (p 13)), .int (nI (p 14)), .int (nI (p 15)), .int (nI (p 16)), .int (nI (p 17)), .int (nI (p 12))])), (a2, .inr (2, [.ref t2, .int (nI (p2 9)), .int (nI (p2 10)), .int (nI (p2 11)), .int (nI (p2 13)), .int (nI (p2 14)), .int (nI (p2 15)), .int (nI (p2 16)), .int (nI (p2 17)), .int (nI (p2 12))]))]) (rest := []) hw hA [1, 2, 4, 5] [0, 3] rfl rfl rfl rfl (by decide) (fun hPc hDc => va_runV (As := [.ref t2]) (rest := []) ⟨hx, hb, hml, hown, hts⟩ (c_X5_takeFrom l D Z H.size t w (p 0) z t2 w2 (p2 0) z2 ) (cwV 1 hts gX2_takeFrom_X5_takeFrom rfl rfl rfl (by decide +kernel) ⟨Nat.le_of_ble_eq_true rfl, Nat.le_of_ble_eq_true rfl⟩) ⟨fb_cPre, va_recv hK.1 hPc (ci := 5) (q0 := 0) rfl rfl, pre_of hPc hK hDc⟩ rfl rfl hl.1 rfl (lv_room (Nat.le_of_ble_eq_true rfl)) dX2_takeFrom_8 ⟨Nat.le_of_ble_eq_true rfl, Nat.le_of_ble_eq_true rfl⟩) (fun u H locs hr1 hw => ?_)
  have hw : WS D A s [(a, .inr (2, [.ref t, .int (nI (p 9)), .int (nI (p 10)), .int (nI (p 11)), .int (nI (p 13)), .int (nI (p 14)), .int (nI (p 15)), .int (nI (p 16)), .int (nI (p 17)), .int (nI (p 12))])), (a2, .inr (2, [.ref t2, .int (nI (p2 9)), .int (nI (p2 10)), .int (nI (p2 11)), .int (nI (p2 13)), .int (nI (p2 14)), .int (nI (p2 15)), .int (nI (p2 16)), .int (nI (p2 17)), .int (nI (p2 12))])), (t, .inr (5, [.int (nI (p2 0)), .ref w])), (w, .inl (Z 0, 9, .inl (aI z2))), (t2, .inr (5, [.int (nI (p2 0)), .ref w2])), (w2, .inl (Z 0, 9, .inl (aI z2)))] H locs := hw
  refine lv_aload_n hx hb dX2_takeFrom_11 rfl (lv_at hl 0 rfl) ?_
  refine lv_aload_n hx hb dX2_takeFrom_12 rfl (lv_at hl 1 rfl) ?_
  refine q_get (v := .int (nI (p2 9))) (ci := 2) hx hb hts in_X2 hown hK hw 1 1 wd2 dX2_takeFrom_13 rfl rfl (by decide) rfl ?_
  refine q_put (v := .int (nI (p2 9))) (ci := 2) hx hb hts in_X2 tyX2 tyX2_ok nmX2 hown hK hw 0 1 wd2 dX2_takeFrom_16 rfl rfl (by decide) rfl rfl rfl (Nat.le_of_ble_eq_true rfl) (fun H locs hw => ?_)
  have hw : WS D A s [(a, .inr (2, [.ref t, .int (nI (p2 9)), .int (nI (p 10)), .int (nI (p 11)), .int (nI (p 13)), .int (nI (p 14)), .int (nI (p 15)), .int (nI (p 16)), .int (nI (p 17)), .int (nI (p 12))])), (a2, .inr (2, [.ref t2, .int (nI (p2 9)), .int (nI (p2 10)), .int (nI (p2 11)), .int (nI (p2 13)), .int (nI (p2 14)), .int (nI (p2 15)), .int (nI (p2 16)), .int (nI (p2 17)), .int (nI (p2 12))])), (t, .inr (5, [.int (nI (p2 0)), .ref w])), (w, .inl (Z 0, 9, .inl (aI z2))), (t2, .inr (5, [.int (nI (p2 0)), .ref w2])), (w2, .inl (Z 0, 9, .inl (aI z2)))] H locs := hw
  refine lv_aload_n hx hb dX2_takeFrom_19 rfl (lv_at hl 0 rfl) ?_
  refine lv_aload_n hx hb dX2_takeFrom_20 rfl (lv_at hl 1 rfl) ?_
  refine q_get (v := .int (nI (p2 10))) (ci := 2) hx hb hts in_X2 hown hK hw 1 2 wd3 dX2_takeFrom_21 rfl rfl (by decide) rfl ?_
  refine q_put (v := .int (nI (p2 10))) (ci := 2) hx hb hts in_X2 tyX2 tyX2_ok nmX2 hown hK hw 0 2 wd3 dX2_takeFrom_24 rfl rfl (by decide) rfl rfl rfl (Nat.le_of_ble_eq_true rfl) (fun H locs hw => ?_)
  have hw : WS D A s [(a, .inr (2, [.ref t, .int (nI (p2 9)), .int (nI (p2 10)), .int (nI (p 11)), .int (nI (p 13)), .int (nI (p 14)), .int (nI (p 15)), .int (nI (p 16)), .int (nI (p 17)), .int (nI (p 12))])), (a2, .inr (2, [.ref t2, .int (nI (p2 9)), .int (nI (p2 10)), .int (nI (p2 11)), .int (nI (p2 13)), .int (nI (p2 14)), .int (nI (p2 15)), .int (nI (p2 16)), .int (nI (p2 17)), .int (nI (p2 12))])), (t, .inr (5, [.int (nI (p2 0)), .ref w])), (w, .inl (Z 0, 9, .inl (aI z2))), (t2, .inr (5, [.int (nI (p2 0)), .ref w2])), (w2, .inl (Z 0, 9, .inl (aI z2)))] H locs := hw
  refine lv_aload_n hx hb dX2_takeFrom_27 rfl (lv_at hl 0 rfl) ?_
  refine lv_aload_n hx hb dX2_takeFrom_28 rfl (lv_at hl 1 rfl) ?_
  refine q_get (v := .int (nI (p2 11))) (ci := 2) hx hb hts in_X2 hown hK hw 1 3 wd4 dX2_takeFrom_29 rfl rfl (by decide) rfl ?_
  refine q_put (v := .int (nI (p2 11))) (ci := 2) hx hb hts in_X2 tyX2 tyX2_ok nmX2 hown hK hw 0 3 wd4 dX2_takeFrom_32 rfl rfl (by decide) rfl rfl rfl (Nat.le_of_ble_eq_true rfl) (fun H locs hw => ?_)
  have hw : WS D A s [(a, .inr (2, [.ref t, .int (nI (p2 9)), .int (nI (p2 10)), .int (nI (p2 11)), .int (nI (p 13)), .int (nI (p 14)), .int (nI (p 15)), .int (nI (p 16)), .int (nI (p 17)), .int (nI (p 12))])), (a2, .inr (2, [.ref t2, .int (nI (p2 9)), .int (nI (p2 10)), .int (nI (p2 11)), .int (nI (p2 13)), .int (nI (p2 14)), .int (nI (p2 15)), .int (nI (p2 16)), .int (nI (p2 17)), .int (nI (p2 12))])), (t, .inr (5, [.int (nI (p2 0)), .ref w])), (w, .inl (Z 0, 9, .inl (aI z2))), (t2, .inr (5, [.int (nI (p2 0)), .ref w2])), (w2, .inl (Z 0, 9, .inl (aI z2)))] H locs := hw
  refine lv_aload_n hx hb dX2_takeFrom_35 rfl (lv_at hl 0 rfl) ?_
  refine lv_aload_n hx hb dX2_takeFrom_36 rfl (lv_at hl 1 rfl) ?_
  refine q_get (v := .int (nI (p2 13))) (ci := 2) hx hb hts in_X2 hown hK hw 1 4 wd5 dX2_takeFrom_37 rfl rfl (by decide) rfl ?_
  refine q_put (v := .int (nI (p2 13))) (ci := 2) hx hb hts in_X2 tyX2 tyX2_ok nmX2 hown hK hw 0 4 wd5 dX2_takeFrom_40 rfl rfl (by decide) rfl rfl rfl (Nat.le_of_ble_eq_true rfl) (fun H locs hw => ?_)
  have hw : WS D A s [(a, .inr (2, [.ref t, .int (nI (p2 9)), .int (nI (p2 10)), .int (nI (p2 11)), .int (nI (p2 13)), .int (nI (p 14)), .int (nI (p 15)), .int (nI (p 16)), .int (nI (p 17)), .int (nI (p 12))])), (a2, .inr (2, [.ref t2, .int (nI (p2 9)), .int (nI (p2 10)), .int (nI (p2 11)), .int (nI (p2 13)), .int (nI (p2 14)), .int (nI (p2 15)), .int (nI (p2 16)), .int (nI (p2 17)), .int (nI (p2 12))])), (t, .inr (5, [.int (nI (p2 0)), .ref w])), (w, .inl (Z 0, 9, .inl (aI z2))), (t2, .inr (5, [.int (nI (p2 0)), .ref w2])), (w2, .inl (Z 0, 9, .inl (aI z2)))] H locs := hw
  refine lv_aload_n hx hb dX2_takeFrom_43 rfl (lv_at hl 0 rfl) ?_
  refine lv_aload_n hx hb dX2_takeFrom_44 rfl (lv_at hl 1 rfl) ?_
  refine q_get (v := .int (nI (p2 14))) (ci := 2) hx hb hts in_X2 hown hK hw 1 5 wd6 dX2_takeFrom_45 rfl rfl (by decide) rfl ?_
  refine q_put (v := .int (nI (p2 14))) (ci := 2) hx hb hts in_X2 tyX2 tyX2_ok nmX2 hown hK hw 0 5 wd6 dX2_takeFrom_48 rfl rfl (by decide) rfl rfl rfl (Nat.le_of_ble_eq_true rfl) (fun H locs hw => ?_)
  have hw : WS D A s [(a, .inr (2, [.ref t, .int (nI (p2 9)), .int (nI (p2 10)), .int (nI (p2 11)), .int (nI (p2 13)), .int (nI (p2 14)), .int (nI (p 15)), .int (nI (p 16)), .int (nI (p 17)), .int (nI (p 12))])), (a2, .inr (2, [.ref t2, .int (nI (p2 9)), .int (nI (p2 10)), .int (nI (p2 11)), .int (nI (p2 13)), .int (nI (p2 14)), .int (nI (p2 15)), .int (nI (p2 16)), .int (nI (p2 17)), .int (nI (p2 12))])), (t, .inr (5, [.int (nI (p2 0)), .ref w])), (w, .inl (Z 0, 9, .inl (aI z2))), (t2, .inr (5, [.int (nI (p2 0)), .ref w2])), (w2, .inl (Z 0, 9, .inl (aI z2)))] H locs := hw
  refine lv_aload_n hx hb dX2_takeFrom_51 rfl (lv_at hl 0 rfl) ?_
  refine lv_aload_n hx hb dX2_takeFrom_52 rfl (lv_at hl 1 rfl) ?_
  refine q_get (v := .int (nI (p2 15))) (ci := 2) hx hb hts in_X2 hown hK hw 1 6 wd7 dX2_takeFrom_53 rfl rfl (by decide) rfl ?_
  refine q_put (v := .int (nI (p2 15))) (ci := 2) hx hb hts in_X2 tyX2 tyX2_ok nmX2 hown hK hw 0 6 wd7 dX2_takeFrom_56 rfl rfl (by decide) rfl rfl rfl (Nat.le_of_ble_eq_true rfl) (fun H locs hw => ?_)
  have hw : WS D A s [(a, .inr (2, [.ref t, .int (nI (p2 9)), .int (nI (p2 10)), .int (nI (p2 11)), .int (nI (p2 13)), .int (nI (p2 14)), .int (nI (p2 15)), .int (nI (p 16)), .int (nI (p 17)), .int (nI (p 12))])), (a2, .inr (2, [.ref t2, .int (nI (p2 9)), .int (nI (p2 10)), .int (nI (p2 11)), .int (nI (p2 13)), .int (nI (p2 14)), .int (nI (p2 15)), .int (nI (p2 16)), .int (nI (p2 17)), .int (nI (p2 12))])), (t, .inr (5, [.int (nI (p2 0)), .ref w])), (w, .inl (Z 0, 9, .inl (aI z2))), (t2, .inr (5, [.int (nI (p2 0)), .ref w2])), (w2, .inl (Z 0, 9, .inl (aI z2)))] H locs := hw
  refine lv_aload_n hx hb dX2_takeFrom_59 rfl (lv_at hl 0 rfl) ?_
  refine lv_aload_n hx hb dX2_takeFrom_60 rfl (lv_at hl 1 rfl) ?_
  refine q_get (v := .int (nI (p2 16))) (ci := 2) hx hb hts in_X2 hown hK hw 1 7 wd8 dX2_takeFrom_61 rfl rfl (by decide) rfl ?_
  refine q_put (v := .int (nI (p2 16))) (ci := 2) hx hb hts in_X2 tyX2 tyX2_ok nmX2 hown hK hw 0 7 wd8 dX2_takeFrom_64 rfl rfl (by decide) rfl rfl rfl (Nat.le_of_ble_eq_true rfl) (fun H locs hw => ?_)
  have hw : WS D A s [(a, .inr (2, [.ref t, .int (nI (p2 9)), .int (nI (p2 10)), .int (nI (p2 11)), .int (nI (p2 13)), .int (nI (p2 14)), .int (nI (p2 15)), .int (nI (p2 16)), .int (nI (p 17)), .int (nI (p 12))])), (a2, .inr (2, [.ref t2, .int (nI (p2 9)), .int (nI (p2 10)), .int (nI (p2 11)), .int (nI (p2 13)), .int (nI (p2 14)), .int (nI (p2 15)), .int (nI (p2 16)), .int (nI (p2 17)), .int (nI (p2 12))])), (t, .inr (5, [.int (nI (p2 0)), .ref w])), (w, .inl (Z 0, 9, .inl (aI z2))), (t2, .inr (5, [.int (nI (p2 0)), .ref w2])), (w2, .inl (Z 0, 9, .inl (aI z2)))] H locs := hw
  refine lv_aload_n hx hb dX2_takeFrom_67 rfl (lv_at hl 0 rfl) ?_
  refine lv_aload_n hx hb dX2_takeFrom_68 rfl (lv_at hl 1 rfl) ?_
  refine q_get (v := .int (nI (p2 17))) (ci := 2) hx hb hts in_X2 hown hK hw 1 8 wd9 dX2_takeFrom_69 rfl rfl (by decide) rfl ?_
  refine q_put (v := .int (nI (p2 17))) (ci := 2) hx hb hts in_X2 tyX2 tyX2_ok nmX2 hown hK hw 0 8 wd9 dX2_takeFrom_72 rfl rfl (by decide) rfl rfl rfl (Nat.le_of_ble_eq_true rfl) (fun H locs hw => ?_)
  have hw : WS D A s [(a, .inr (2, [.ref t, .int (nI (p2 9)), .int (nI (p2 10)), .int (nI (p2 11)), .int (nI (p2 13)), .int (nI (p2 14)), .int (nI (p2 15)), .int (nI (p2 16)), .int (nI (p2 17)), .int (nI (p 12))])), (a2, .inr (2, [.ref t2, .int (nI (p2 9)), .int (nI (p2 10)), .int (nI (p2 11)), .int (nI (p2 13)), .int (nI (p2 14)), .int (nI (p2 15)), .int (nI (p2 16)), .int (nI (p2 17)), .int (nI (p2 12))])), (t, .inr (5, [.int (nI (p2 0)), .ref w])), (w, .inl (Z 0, 9, .inl (aI z2))), (t2, .inr (5, [.int (nI (p2 0)), .ref w2])), (w2, .inl (Z 0, 9, .inl (aI z2)))] H locs := hw
  refine lv_aload_n hx hb dX2_takeFrom_75 rfl (lv_at hl 0 rfl) ?_
  refine lv_aload_n hx hb dX2_takeFrom_76 rfl (lv_at hl 1 rfl) ?_
  refine q_get (v := .int (nI (p2 12))) (ci := 2) hx hb hts in_X2 hown hK hw 1 9 wd10 dX2_takeFrom_77 rfl rfl (by decide) rfl ?_
  refine q_put (v := .int (nI (p2 12))) (ci := 2) hx hb hts in_X2 tyX2 tyX2_ok nmX2 hown hK hw 0 9 wd10 dX2_takeFrom_80 rfl rfl (by decide) rfl rfl rfl (Nat.le_of_ble_eq_true rfl) (fun H locs hw => ?_)
  have hw : WS D A s [(a, .inr (2, [.ref t, .int (nI (p2 9)), .int (nI (p2 10)), .int (nI (p2 11)), .int (nI (p2 13)), .int (nI (p2 14)), .int (nI (p2 15)), .int (nI (p2 16)), .int (nI (p2 17)), .int (nI (p2 12))])), (a2, .inr (2, [.ref t2, .int (nI (p2 9)), .int (nI (p2 10)), .int (nI (p2 11)), .int (nI (p2 13)), .int (nI (p2 14)), .int (nI (p2 15)), .int (nI (p2 16)), .int (nI (p2 17)), .int (nI (p2 12))])), (t, .inr (5, [.int (nI (p2 0)), .ref w])), (w, .inl (Z 0, 9, .inl (aI z2))), (t2, .inr (5, [.int (nI (p2 0)), .ref w2])), (w2, .inl (Z 0, 9, .inl (aI z2)))] H locs := hw
  exact q_vret (wout := _) hx hb hr hlocks hAe hK () (hw.sub [0, 2, 3, 1, 4, 5] (by decide) rfl) (trivial) dX2_takeFrom_83
set_option maxHeartbeats 4000000 in
set_option maxRecDepth 100000 in
theorem c_X2_told (l : Launch) (D : va_G) (Z : Nat → ClassId) (sz : Nat) (a t w : Nat) (p z : Nat → Nat) (q : Nat) (hq : q ≤ 2) : cMi l yX2_told wsX2_told (rmd 0) D Z sz [.ref a, .int (nI q)] [(a, .inr (2, [.ref t, .int (nI (p 9)), .int (nI (p 10)), .int (nI (p 11)), .int (nI (p 13)), .int (nI (p 14)), .int (nI (p 15)), .int (nI (p 16)), .int (nI (p 17)), .int (nI (p 12))])), (t, .inr (5, [.int (nI (p 0)), .ref w])), (w, .inl (Z 0, 9, .inl (aI z)))] (S := Unit) (fun (r : Int32) => fun (_ : Unit) => r = nI (p (9 + q))) (fun (_ : Unit) => [(a, .inr (2, [.ref t, .int (nI (p 9)), .int (nI (p 10)), .int (nI (p 11)), .int (nI (p 13)), .int (nI (p 14)), .int (nI (p 15)), .int (nI (p 16)), .int (nI (p 17)), .int (nI (p 12))])), (t, .inr (5, [.int (nI (p 0)), .ref w])), (w, .inl (Z 0, 9, .inl (aI z)))]) 0 0 := by
  refine q_open (Qc := fun sz => cQi D Z sz [(a, .inr (2, [.ref t, .int (nI (p 9)), .int (nI (p 10)), .int (nI (p 11)), .int (nI (p 13)), .int (nI (p 14)), .int (nI (p 15)), .int (nI (p 16)), .int (nI (p 17)), .int (nI (p 12))])), (t, .inr (5, [.int (nI (p 0)), .ref w])), (w, .inl (Z 0, 9, .inl (aI z)))] (S := Unit) _ _) (cc := cX2_told) (maxL := 2) (ret := (some .int)) (by decide) rfl (Nat.le_of_ble_eq_true rfl) ?_
  intro pp ee s mm bw mt cd ls A H locs hAe hx hb hr hml hown hmn hts hlocks hA hK hw hl
  have hown : s.vm.findClass RX2 = some mm.cls := hown
  have hl : lv_has ls 2 [(0, .ref a), (1, .int (nI q))] := hl
  have wd3 := hts (.fieldLink RX2 25 "ReplaceAges$Plan" "rule" "I") (List.mem_of_getElem? (i := 3) rfl)
  have wd2 := hts (.fieldLink RX2 22 "ReplaceAges$Plan" "change" "I") (List.mem_of_getElem? (i := 2) rfl)
  have wd1 := hts (.fieldLink RX2 18 "ReplaceAges$Plan" "failure" "I") (List.mem_of_getElem? (i := 1) rfl)
  have in_X2 : ∀ w ∈ wsX20, w ∈ wsX2_told := fun _ h => List.mem_cons_of_mem _ (List.mem_append_right _ h)
  refine lv_iload_n hx hb dX2_told_0 rfl (lv_at hl 1 rfl) ?_
  refine q_if_ne (tgt := 11) hx hb ((q : Nat) : Int) (nI_toInt (by omega)) dX2_told_1 (by decide) (fun c1 => ?_) (fun c1 => ?_)
  · --
    refine lv_iload_n hx hb dX2_told_11 rfl (lv_at hl 1 rfl) ?_
    refine q_iconst (v := 1) hx hb dX2_told_12 (by decide) ?_
    refine q_icmp_ne (tgt := 23) hx hb ((q : Nat) : Int) ((1 : Nat) : Int) (nI_toInt (by omega)) (nI_toInt (by omega)) dX2_told_13 (by decide) (fun c2 => ?_) (fun c2 => ?_)
    · --
      obtain rfl : q = 2 := by omega
      refine lv_aload_n hx hb dX2_told_23 rfl (lv_at hl 0 rfl) ?_
      refine q_get (v := .int (nI (p 11))) (ci := 2) hx hb hts in_X2 hown hK hw 0 3 wd3 dX2_told_24 rfl rfl (by decide) rfl ?_
      exact q_iret (wout := _) hx hb hr hlocks hAe hK () hw (rfl) dX2_told_27
    · --
      obtain rfl : q = 1 := by omega
      refine lv_aload_n hx hb dX2_told_16 rfl (lv_at hl 0 rfl) ?_
      refine q_get (v := .int (nI (p 10))) (ci := 2) hx hb hts in_X2 hown hK hw 0 2 wd2 dX2_told_17 rfl rfl (by decide) rfl ?_
      refine lv_goto (tgt := 27) hx hb dX2_told_20 (by decide) ?_
      exact q_iret (wout := _) hx hb hr hlocks hAe hK () hw (rfl) dX2_told_27
  · --
    obtain rfl : q = 0 := by omega
    refine lv_aload_n hx hb dX2_told_4 rfl (lv_at hl 0 rfl) ?_
    refine q_get (v := .int (nI (p 9))) (ci := 2) hx hb hts in_X2 hown hK hw 0 1 wd1 dX2_told_5 rfl rfl (by decide) rfl ?_
    refine lv_goto (tgt := 27) hx hb dX2_told_8 (by decide) ?_
    exact q_iret (wout := _) hx hb hr hlocks hAe hK () hw (rfl) dX2_told_27
set_option maxHeartbeats 4000000 in
set_option maxRecDepth 100000 in
theorem c_X2_putTold (l : Launch) (D : va_G) (Z : Nat → ClassId) (sz : Nat) (a t w : Nat) (p z : Nat → Nat) (q v : Nat) (hq : q ≤ 2) : cMv l yX2_putTold wsX2_putTold (rmd 0) D Z sz [.ref a, .int (nI q), .int (nI v)] [(a, .inr (2, [.ref t, .int (nI (p 9)), .int (nI (p 10)), .int (nI (p 11)), .int (nI (p 13)), .int (nI (p 14)), .int (nI (p 15)), .int (nI (p 16)), .int (nI (p 17)), .int (nI (p 12))])), (t, .inr (5, [.int (nI (p 0)), .ref w])), (w, .inl (Z 0, 9, .inl (aI z)))] (S := Unit) (fun (_ : Unit) => True) (fun (_ : Unit) => [(a, .inr (2, [.ref t, .int (nI (va_up p (9 + q) v 9)), .int (nI (va_up p (9 + q) v 10)), .int (nI (va_up p (9 + q) v 11)), .int (nI (va_up p (9 + q) v 13)), .int (nI (va_up p (9 + q) v 14)), .int (nI (va_up p (9 + q) v 15)), .int (nI (va_up p (9 + q) v 16)), .int (nI (va_up p (9 + q) v 17)), .int (nI (va_up p (9 + q) v 12))])), (t, .inr (5, [.int (nI (va_up p (9 + q) v 0)), .ref w])), (w, .inl (Z 0, 9, .inl (aI z)))]) 0 0 := by
  refine q_open (Qc := fun sz => cQv D Z sz [(a, .inr (2, [.ref t, .int (nI (p 9)), .int (nI (p 10)), .int (nI (p 11)), .int (nI (p 13)), .int (nI (p 14)), .int (nI (p 15)), .int (nI (p 16)), .int (nI (p 17)), .int (nI (p 12))])), (t, .inr (5, [.int (nI (p 0)), .ref w])), (w, .inl (Z 0, 9, .inl (aI z)))] (S := Unit) _ _) (cc := cX2_putTold) (maxL := 3) (ret := none) (by decide) rfl (Nat.le_of_ble_eq_true rfl) ?_
  intro pp ee s mm bw mt cd ls A H locs hAe hx hb hr hml hown hmn hts hlocks hA hK hw hl
  have hown : s.vm.findClass RX2 = some mm.cls := hown
  have hl : lv_has ls 3 [(0, .ref a), (1, .int (nI q)), (2, .int (nI v))] := hl
  have wd3 := hts (.fieldLink RX2 25 "ReplaceAges$Plan" "rule" "I") (List.mem_of_getElem? (i := 3) rfl)
  have wd2 := hts (.fieldLink RX2 22 "ReplaceAges$Plan" "change" "I") (List.mem_of_getElem? (i := 2) rfl)
  have wd1 := hts (.fieldLink RX2 18 "ReplaceAges$Plan" "failure" "I") (List.mem_of_getElem? (i := 1) rfl)
  have in_X2 : ∀ w ∈ wsX20, w ∈ wsX2_putTold := fun _ h => List.mem_cons_of_mem _ (List.mem_append_right _ h)
  refine lv_iload_n hx hb dX2_putTold_0 rfl (lv_at hl 1 rfl) ?_
  refine q_if_ne (tgt := 12) hx hb ((q : Nat) : Int) (nI_toInt (by omega)) dX2_putTold_1 (by decide) (fun c1 => ?_) (fun c1 => ?_)
  · --
    refine lv_iload_n hx hb dX2_putTold_12 rfl (lv_at hl 1 rfl) ?_
    refine q_iconst (v := 1) hx hb dX2_putTold_13 (by decide) ?_
    refine q_icmp_ne (tgt := 25) hx hb ((q : Nat) : Int) ((1 : Nat) : Int) (nI_toInt (by omega)) (nI_toInt (by omega)) dX2_putTold_14 (by decide) (fun c2 => ?_) (fun c2 => ?_)
    · --
      obtain rfl : q = 2 := by omega
      refine lv_aload_n hx hb dX2_putTold_25 rfl (lv_at hl 0 rfl) ?_
      refine lv_iload_n hx hb dX2_putTold_26 rfl (lv_at hl 2 rfl) ?_
      refine q_put (v := .int (nI v)) (ci := 2) hx hb hts in_X2 tyX2 tyX2_ok nmX2 hown hK hw 0 3 wd3 dX2_putTold_27 rfl rfl (by decide) rfl rfl rfl (Nat.le_of_ble_eq_true rfl) (fun H locs hw => ?_)
      have hw : WS D A s [(a, .inr (2, [.ref t, .int (nI (p 9)), .int (nI (p 10)), .int (nI v), .int (nI (p 13)), .int (nI (p 14)), .int (nI (p 15)), .int (nI (p 16)), .int (nI (p 17)), .int (nI (p 12))])), (t, .inr (5, [.int (nI (p 0)), .ref w])), (w, .inl (Z 0, 9, .inl (aI z)))] H locs := hw
      exact q_vret (wout := _) hx hb hr hlocks hAe hK () hw (trivial) dX2_putTold_30
    · --
      obtain rfl : q = 1 := by omega
      refine lv_aload_n hx hb dX2_putTold_17 rfl (lv_at hl 0 rfl) ?_
      refine lv_iload_n hx hb dX2_putTold_18 rfl (lv_at hl 2 rfl) ?_
      refine q_put (v := .int (nI v)) (ci := 2) hx hb hts in_X2 tyX2 tyX2_ok nmX2 hown hK hw 0 2 wd2 dX2_putTold_19 rfl rfl (by decide) rfl rfl rfl (Nat.le_of_ble_eq_true rfl) (fun H locs hw => ?_)
      have hw : WS D A s [(a, .inr (2, [.ref t, .int (nI (p 9)), .int (nI v), .int (nI (p 11)), .int (nI (p 13)), .int (nI (p 14)), .int (nI (p 15)), .int (nI (p 16)), .int (nI (p 17)), .int (nI (p 12))])), (t, .inr (5, [.int (nI (p 0)), .ref w])), (w, .inl (Z 0, 9, .inl (aI z)))] H locs := hw
      refine lv_goto (tgt := 30) hx hb dX2_putTold_22 (by decide) ?_
      exact q_vret (wout := _) hx hb hr hlocks hAe hK () hw (trivial) dX2_putTold_30
  · --
    obtain rfl : q = 0 := by omega
    refine lv_aload_n hx hb dX2_putTold_4 rfl (lv_at hl 0 rfl) ?_
    refine lv_iload_n hx hb dX2_putTold_5 rfl (lv_at hl 2 rfl) ?_
    refine q_put (v := .int (nI v)) (ci := 2) hx hb hts in_X2 tyX2 tyX2_ok nmX2 hown hK hw 0 1 wd1 dX2_putTold_6 rfl rfl (by decide) rfl rfl rfl (Nat.le_of_ble_eq_true rfl) (fun H locs hw => ?_)
    have hw : WS D A s [(a, .inr (2, [.ref t, .int (nI v), .int (nI (p 10)), .int (nI (p 11)), .int (nI (p 13)), .int (nI (p 14)), .int (nI (p 15)), .int (nI (p 16)), .int (nI (p 17)), .int (nI (p 12))])), (t, .inr (5, [.int (nI (p 0)), .ref w])), (w, .inl (Z 0, 9, .inl (aI z)))] H locs := hw
    refine lv_goto (tgt := 30) hx hb dX2_putTold_9 (by decide) ?_
    exact q_vret (wout := _) hx hb hr hlocks hAe hK () hw (trivial) dX2_putTold_30
set_option maxHeartbeats 4000000 in
set_option maxRecDepth 100000 in
theorem c_X2_nextDraw (l : Launch) (D : va_G) (Z : Nat → ClassId) (sz : Nat) (a t w : Nat) (p z : Nat → Nat)  : cMi l yX2_nextDraw wsX2_nextDraw (rmd 0) D Z sz [.ref a] [(a, .inr (2, [.ref t, .int (nI (p 9)), .int (nI (p 10)), .int (nI (p 11)), .int (nI (p 13)), .int (nI (p 14)), .int (nI (p 15)), .int (nI (p 16)), .int (nI (p 17)), .int (nI (p 12))])), (t, .inr (5, [.int (nI (p 0)), .ref w])), (w, .inl (Z 0, 9, .inl (aI z)))] (S := Unit) (fun (r : Int32) => fun (_ : Unit) => r = nI (dw (p 12) / 65536)) (fun (_ : Unit) => [(a, .inr (2, [.ref t, .int (nI (va_up p 12 (dw (p 12)) 9)), .int (nI (va_up p 12 (dw (p 12)) 10)), .int (nI (va_up p 12 (dw (p 12)) 11)), .int (nI (va_up p 12 (dw (p 12)) 13)), .int (nI (va_up p 12 (dw (p 12)) 14)), .int (nI (va_up p 12 (dw (p 12)) 15)), .int (nI (va_up p 12 (dw (p 12)) 16)), .int (nI (va_up p 12 (dw (p 12)) 17)), .int (nI (va_up p 12 (dw (p 12)) 12))])), (t, .inr (5, [.int (nI (va_up p 12 (dw (p 12)) 0)), .ref w])), (w, .inl (Z 0, 9, .inl (aI z)))]) 0 0 := by
  refine q_open (Qc := fun sz => cQi D Z sz [(a, .inr (2, [.ref t, .int (nI (p 9)), .int (nI (p 10)), .int (nI (p 11)), .int (nI (p 13)), .int (nI (p 14)), .int (nI (p 15)), .int (nI (p 16)), .int (nI (p 17)), .int (nI (p 12))])), (t, .inr (5, [.int (nI (p 0)), .ref w])), (w, .inl (Z 0, 9, .inl (aI z)))] (S := Unit) _ _) (cc := cX2_nextDraw) (maxL := 1) (ret := (some .int)) (by decide) rfl (Nat.le_of_ble_eq_true rfl) ?_
  intro pp ee s mm bw mt cd ls A H locs hAe hx hb hr hml hown hmn hts hlocks hA hK hw hl
  have hown : s.vm.findClass RX2 = some mm.cls := hown
  have hl : lv_has ls 1 [(0, .ref a)] := hl
  have wd1 := hts (.fieldLink RX2 28 "ReplaceAges$Plan" "draw" "I") (List.mem_of_getElem? (i := 1) rfl)
  have wd2 := hts (.constant RX2 50 (1103515245)) (List.mem_of_getElem? (i := 2) rfl)
  have wd3 := hts (.constant RX2 51 (2147483647)) (List.mem_of_getElem? (i := 3) rfl)
  have wd4 := hts (.constant RX2 52 (65536)) (List.mem_of_getElem? (i := 4) rfl)
  have in_X2 : ∀ w ∈ wsX20, w ∈ wsX2_nextDraw := fun _ h => List.mem_cons_of_mem _ (List.mem_append_right _ h)
  refine lv_aload_n hx hb dX2_nextDraw_0 rfl (lv_at hl 0 rfl) ?_
  refine lv_aload_n hx hb dX2_nextDraw_1 rfl (lv_at hl 0 rfl) ?_
  refine q_get (v := .int (nI (p 12))) (ci := 2) hx hb hts in_X2 hown hK hw 0 9 wd1 dX2_nextDraw_2 rfl rfl (by decide) rfl ?_
  refine lv_ldc hx hb hown wd2 dX2_nextDraw_5 ?_
  refine q_topi (x := 1103515245) (y := nI 1103515245) (by decide) ?_
  refine q_imul hx hb dX2_nextDraw_7 ?_
  refine q_sipush (v := 12345) hx hb dX2_nextDraw_8 (by decide) ?_
  refine q_iadd hx hb dX2_nextDraw_11 ?_
  refine lv_ldc hx hb hown wd3 dX2_nextDraw_12 ?_
  refine q_topi (x := 2147483647) (y := nI 2147483647) (by decide) ?_
  refine lv_iand hx hb dX2_nextDraw_14 ?_
  refine q_topi (x := (nI ((p 12) * 1103515245 + 12345)) &&& (nI 2147483647)) (y := nI (dw (p 12))) (by rw [msk31, dw_eq]) ?_
  refine q_put (v := .int (nI (dw (p 12)))) (ci := 2) hx hb hts in_X2 tyX2 tyX2_ok nmX2 hown hK hw 0 9 wd1 dX2_nextDraw_15 rfl rfl (by decide) rfl rfl rfl (Nat.le_of_ble_eq_true rfl) (fun H locs hw => ?_)
  have hw : WS D A s [(a, .inr (2, [.ref t, .int (nI (p 9)), .int (nI (p 10)), .int (nI (p 11)), .int (nI (p 13)), .int (nI (p 14)), .int (nI (p 15)), .int (nI (p 16)), .int (nI (p 17)), .int (nI (dw (p 12)))])), (t, .inr (5, [.int (nI (p 0)), .ref w])), (w, .inl (Z 0, 9, .inl (aI z)))] H locs := hw
  refine lv_aload_n hx hb dX2_nextDraw_18 rfl (lv_at hl 0 rfl) ?_
  refine q_get (v := .int (nI (dw (p 12)))) (ci := 2) hx hb hts in_X2 hown hK hw 0 9 wd1 dX2_nextDraw_19 rfl rfl (by decide) rfl ?_
  refine lv_ldc hx hb hown wd4 dX2_nextDraw_22 ?_
  refine q_topi (x := 65536) (y := nI 65536) (by decide) ?_
  refine q_idiv hx hb (dw_lt31 _) (by omega) (by omega) dX2_nextDraw_24 ?_
  exact q_iret (wout := _) hx hb hr hlocks hAe hK () hw (rfl) dX2_nextDraw_25
set_option maxHeartbeats 4000000 in
set_option maxRecDepth 100000 in
theorem c_X2_runPeriod (l : Launch) (D : va_G) (Z : Nat → ClassId) (sz : Nat) (a t w : Nat) (p z : Nat → Nat) (hn : 1 ≤ p 0 ∧ p 0 ≤ 8) (hs : lf z (p 0) 0 ≤ 24) (hg : p 13 < p 0) (hl0 : 0 < lf z (p 0) (p 13)) (hru : p 11 ≤ 8) : cMv l yX2_runPeriod wsX2_runPeriod (rmd 2) D Z sz [.ref a] [(a, .inr (2, [.ref t, .int (nI (p 9)), .int (nI (p 10)), .int (nI (p 11)), .int (nI (p 13)), .int (nI (p 14)), .int (nI (p 15)), .int (nI (p 16)), .int (nI (p 17)), .int (nI (p 12))])), (t, .inr (5, [.int (nI (p 0)), .ref w])), (w, .inl (Z 0, 9, .inl (aI z)))] (S := Unit) (fun (_ : Unit) => True) (fun (_ : Unit) => [(a, .inr (2, [.ref t, .int (nI (rp z p 9)), .int (nI (rp z p 10)), .int (nI (rp z p 11)), .int (nI (rp z p 13)), .int (nI (rp z p 14)), .int (nI (rp z p 15)), .int (nI (rp z p 16)), .int (nI (rp z p 17)), .int (nI (rp z p 12))])), (t, .inr (5, [.int (nI (rp z p 0)), .ref w])), (w, .inl (Z 0, 9, .inl (aI z)))]) 0 0 := by
  refine q_open (Qc := fun sz => cQv D Z sz [(a, .inr (2, [.ref t, .int (nI (p 9)), .int (nI (p 10)), .int (nI (p 11)), .int (nI (p 13)), .int (nI (p 14)), .int (nI (p 15)), .int (nI (p 16)), .int (nI (p 17)), .int (nI (p 12))])), (t, .inr (5, [.int (nI (p 0)), .ref w])), (w, .inl (Z 0, 9, .inl (aI z)))] (S := Unit) _ _) (cc := cX2_runPeriod) (maxL := 3) (ret := none) (by decide) rfl (Nat.le_of_ble_eq_true rfl) ?_
  intro pp ee s mm bw mt cd ls A H locs hAe hx hb hr hml hown hmn hts hlocks hA hK hw hl
  have hown : s.vm.findClass RX2 = some mm.cls := hown
  have hl : lv_has ls 3 [(0, .ref a)] := hl
  have wd1 := hts (.fieldLink RX2 12 "ReplaceAges$Plan" "table" "LReplaceAges$Table;") (List.mem_of_getElem? (i := 1) rfl)
  have wd2 := hts (.fieldLink RX2 35 "ReplaceAges$Plan" "partAge" "I") (List.mem_of_getElem? (i := 2) rfl)
  have wd3 := hts (.fieldLink RX2 44 "ReplaceAges$Plan" "periods" "I") (List.mem_of_getElem? (i := 3) rfl)
  have wd7 := hts (.fieldLink RX2 25 "ReplaceAges$Plan" "rule" "I") (List.mem_of_getElem? (i := 7) rfl)
  have wd8 := hts (.fieldLink RX2 41 "ReplaceAges$Plan" "changes" "I") (List.mem_of_getElem? (i := 8) rfl)
  have wd5 := hts (.fieldLink RX2 47 "ReplaceAges$Plan" "bill" "I") (List.mem_of_getElem? (i := 5) rfl)
  have wd9 := hts (.fieldLink RX2 22 "ReplaceAges$Plan" "change" "I") (List.mem_of_getElem? (i := 9) rfl)
  have wd4 := hts (.fieldLink RX2 38 "ReplaceAges$Plan" "failures" "I") (List.mem_of_getElem? (i := 4) rfl)
  have wd6 := hts (.fieldLink RX2 18 "ReplaceAges$Plan" "failure" "I") (List.mem_of_getElem? (i := 6) rfl)
  have in_X2 : ∀ w ∈ wsX20, w ∈ wsX2_runPeriod := fun _ h => List.mem_cons_of_mem _ (List.mem_append_left _ (List.mem_append_right _ h))
  have hle := lf_anti (w := z) (n := p 0) (Nat.zero_le (p 13))
  have hd := dw_x (p 12)
  refine lv_aload_n hx hb dX2_runPeriod_0 rfl (lv_at hl 0 rfl) ?_
  refine q_calli (S := Unit) (Z := Z) (D := D) (wc := [(a, .inr (2, [.ref t, .int (nI (p 9)), .int (nI (p 10)), .int (nI (p 11)), .int (nI (p 13)), .int (nI (p 14)), .int (nI (p 15)), .int (nI (p 16)), .int (nI (p 17)), .int (nI (p 12))])), (t, .inr (5, [.int (nI (p 0)), .ref w])), (w, .inl (Z 0, 9, .inl (aI z)))]) (wr := []) (rest := []) hw hA [0, 1, 2] [] rfl rfl rfl rfl (by decide) (fun hPc hDc => va_runV (As := []) (rest := []) ⟨hx, hb, hml, hown, hts⟩ (c_X2_nextDraw l D Z H.size a t w p z ) (cwV 0 hts gX2_runPeriod_X2_nextDraw rfl rfl rfl (by decide +kernel) ⟨Nat.le_of_ble_eq_true rfl, Nat.le_of_ble_eq_true rfl⟩) ⟨fb_cPre, va_recv hK.1 hPc (ci := 2) (q0 := 0) rfl rfl, pre_of hPc hK hDc⟩ rfl rfl hl.1 rfl (lv_room (Nat.le_of_ble_eq_true rfl)) dX2_runPeriod_1 ⟨Nat.le_of_ble_eq_true rfl, Nat.le_of_ble_eq_true rfl⟩) (fun r1 u H locs hr1 hw => ?_)
  subst hr1
  have hw : WS D A s [(a, .inr (2, [.ref t, .int (nI (p 9)), .int (nI (p 10)), .int (nI (p 11)), .int (nI (p 13)), .int (nI (p 14)), .int (nI (p 15)), .int (nI (p 16)), .int (nI (p 17)), .int (nI (dw (p 12)))])), (t, .inr (5, [.int (nI (p 0)), .ref w])), (w, .inl (Z 0, 9, .inl (aI z)))] H locs := hw
  refine lv_istore_n (lv' := [(1, .int (nI (dw (p 12) / 65536))), (0, .ref a)]) hx hb dX2_runPeriod_4 rfl hl (by decide) rfl (fun ls hl => ?_)
  refine lv_aload_n hx hb dX2_runPeriod_5 rfl (lv_at hl 1 rfl) ?_
  refine q_get (v := .ref t) (ci := 2) hx hb hts in_X2 hown hK hw 0 0 wd1 dX2_runPeriod_6 rfl rfl (by decide) rfl ?_
  refine lv_aload_n hx hb dX2_runPeriod_9 rfl (lv_at hl 1 rfl) ?_
  refine q_get (v := .int (nI (p 13))) (ci := 2) hx hb hts in_X2 hown hK hw 0 4 wd2 dX2_runPeriod_10 rfl rfl (by decide) rfl ?_
  refine q_calli (S := Unit) (Z := Z) (D := D) (wc := [(t, .inr (5, [.int (nI (p 0)), .ref w])), (w, .inl (Z 0, 9, .inl (aI z)))]) (wr := [(a, .inr (2, [.ref t, .int (nI (p 9)), .int (nI (p 10)), .int (nI (p 11)), .int (nI (p 13)), .int (nI (p 14)), .int (nI (p 15)), .int (nI (p 16)), .int (nI (p 17)), .int (nI (dw (p 12)))]))]) (rest := []) hw hA [1, 2] [0] rfl rfl rfl rfl (by decide) (fun hPc hDc => va_runV (As := [.int (nI (p 13))]) (rest := []) ⟨hx, hb, hml, hown, hts⟩ (c_X5_left l D Z H.size t w (p 0) z (p 13) (by first | assumption | omega) (by first | assumption | omega)) (cwV 1 hts gX2_runPeriod_X5_left rfl rfl rfl (by decide +kernel) ⟨Nat.le_of_ble_eq_true rfl, Nat.le_of_ble_eq_true rfl⟩) ⟨fb_cPre, va_recv hK.1 hPc (ci := 5) (q0 := 0) rfl rfl, pre_of hPc hK hDc⟩ rfl rfl hl.1 rfl (lv_room (Nat.le_of_ble_eq_true rfl)) dX2_runPeriod_13 ⟨Nat.le_of_ble_eq_true rfl, Nat.le_of_ble_eq_true rfl⟩) (fun r2 u H locs hr2 hw => ?_)
  subst hr2
  have hw : WS D A s [(a, .inr (2, [.ref t, .int (nI (p 9)), .int (nI (p 10)), .int (nI (p 11)), .int (nI (p 13)), .int (nI (p 14)), .int (nI (p 15)), .int (nI (p 16)), .int (nI (p 17)), .int (nI (dw (p 12)))])), (t, .inr (5, [.int (nI (p 0)), .ref w])), (w, .inl (Z 0, 9, .inl (aI z)))] H locs := hw
  refine lv_istore_n (lv' := [(2, .int (nI (lf z (p 0) (p 13)))), (1, .int (nI (dw (p 12) / 65536))), (0, .ref a)]) hx hb dX2_runPeriod_16 rfl hl (by decide) rfl (fun ls hl => ?_)
  refine lv_aload_n hx hb dX2_runPeriod_17 rfl (lv_at hl 2 rfl) ?_
  refine lv_dup hx hb dX2_runPeriod_18 rfl ?_
  refine q_get (v := .int (nI (p 16))) (ci := 2) hx hb hts in_X2 hown hK hw 0 7 wd3 dX2_runPeriod_19 rfl rfl (by decide) rfl ?_
  refine q_iconst (v := 1) hx hb dX2_runPeriod_22 (by decide) ?_
  refine q_iadd hx hb dX2_runPeriod_23 ?_
  refine q_put (v := .int (nI (p 16 + 1))) (ci := 2) hx hb hts in_X2 tyX2 tyX2_ok nmX2 hown hK hw 0 7 wd3 dX2_runPeriod_24 rfl rfl (by decide) rfl rfl rfl (Nat.le_of_ble_eq_true rfl) (fun H locs hw => ?_)
  have hw : WS D A s [(a, .inr (2, [.ref t, .int (nI (p 9)), .int (nI (p 10)), .int (nI (p 11)), .int (nI (p 13)), .int (nI (p 14)), .int (nI (p 15)), .int (nI (p 16 + 1)), .int (nI (p 17)), .int (nI (dw (p 12)))])), (t, .inr (5, [.int (nI (p 0)), .ref w])), (w, .inl (Z 0, 9, .inl (aI z)))] H locs := hw
  refine lv_iload_n hx hb dX2_runPeriod_27 rfl (lv_at hl 0 rfl) ?_
  refine q_if_le (tgt := 50) hx hb ((lf z (p 0) (p 13) : Nat) : Int) (nI_toInt (by omega)) dX2_runPeriod_28 (by decide) (fun c3 => ?_) (fun c3 => ?_)
  · --
    exfalso; omega
  · --
    refine lv_iload_n hx hb dX2_runPeriod_31 rfl (lv_at hl 1 rfl) ?_
    refine lv_iload_n hx hb dX2_runPeriod_32 rfl (lv_at hl 0 rfl) ?_
    refine q_irem hx hb (by omega) (by omega) (by omega) dX2_runPeriod_33 ?_
    refine lv_aload_n hx hb dX2_runPeriod_34 rfl (lv_at hl 2 rfl) ?_
    refine q_get (v := .ref t) (ci := 2) hx hb hts in_X2 hown hK hw 0 0 wd1 dX2_runPeriod_35 rfl rfl (by decide) rfl ?_
    refine lv_aload_n hx hb dX2_runPeriod_38 rfl (lv_at hl 2 rfl) ?_
    refine q_get (v := .int (nI (p 13))) (ci := 2) hx hb hts in_X2 hown hK hw 0 4 wd2 dX2_runPeriod_39 rfl rfl (by decide) rfl ?_
    refine q_iconst (v := 1) hx hb dX2_runPeriod_42 (by decide) ?_
    refine q_iadd hx hb dX2_runPeriod_43 ?_
    refine q_calli (S := Unit) (Z := Z) (D := D) (wc := [(t, .inr (5, [.int (nI (p 0)), .ref w])), (w, .inl (Z 0, 9, .inl (aI z)))]) (wr := [(a, .inr (2, [.ref t, .int (nI (p 9)), .int (nI (p 10)), .int (nI (p 11)), .int (nI (p 13)), .int (nI (p 14)), .int (nI (p 15)), .int (nI (p 16 + 1)), .int (nI (p 17)), .int (nI (dw (p 12)))]))]) (rest := [.int (nI ((dw (p 12) / 65536) % (lf z (p 0) (p 13))))]) hw hA [1, 2] [0] rfl rfl rfl rfl (by decide) (fun hPc hDc => va_runV (As := [.int (nI (p 13 + 1))]) (rest := [.int (nI ((dw (p 12) / 65536) % (lf z (p 0) (p 13))))]) ⟨hx, hb, hml, hown, hts⟩ (c_X5_weightOf l D Z H.size t w (p 0) z (p 13 + 1) (by first | assumption | omega) (by first | assumption | omega)) (cwV 1 hts gX2_runPeriod_X5_weightOf rfl rfl rfl (by decide +kernel) ⟨Nat.le_of_ble_eq_true rfl, Nat.le_of_ble_eq_true rfl⟩) ⟨fb_cPre, va_recv hK.1 hPc (ci := 5) (q0 := 0) rfl rfl, pre_of hPc hK hDc⟩ rfl rfl hl.1 rfl (lv_room (Nat.le_of_ble_eq_true rfl)) dX2_runPeriod_44 ⟨Nat.le_of_ble_eq_true rfl, Nat.le_of_ble_eq_true rfl⟩) (fun r4 u H locs hr4 hw => ?_)
    subst hr4
    have hw : WS D A s [(a, .inr (2, [.ref t, .int (nI (p 9)), .int (nI (p 10)), .int (nI (p 11)), .int (nI (p 13)), .int (nI (p 14)), .int (nI (p 15)), .int (nI (p 16 + 1)), .int (nI (p 17)), .int (nI (dw (p 12)))])), (t, .inr (5, [.int (nI (p 0)), .ref w])), (w, .inl (Z 0, 9, .inl (aI z)))] H locs := hw
    refine q_topi (x := nI (wt z (p 0) (p 13 + 1))) (y := nI (z (p 13 + 1))) (congrArg nI (wt_in (by omega))) ?_
    refine q_icmp_ge (tgt := 79) hx hb (((dw (p 12) / 65536) % (lf z (p 0) (p 13)) : Nat) : Int) ((z (p 13 + 1) : Nat) : Int) (nI_toInt (Nat.lt_of_le_of_lt (Nat.mod_le _ _) (by omega))) (nI_toInt (Nat.lt_of_le_of_lt (z_le (n := p 0) (by omega)) (by omega))) dX2_runPeriod_47 (by decide) (fun c5 => ?_) (fun c5 => ?_)
    · --
      refine lv_aload_n hx hb dX2_runPeriod_79 rfl (lv_at hl 2 rfl) ?_
      refine lv_dup hx hb dX2_runPeriod_80 rfl ?_
      refine q_get (v := .int (nI (p 13))) (ci := 2) hx hb hts in_X2 hown hK hw 0 4 wd2 dX2_runPeriod_81 rfl rfl (by decide) rfl ?_
      refine q_iconst (v := 1) hx hb dX2_runPeriod_84 (by decide) ?_
      refine q_iadd hx hb dX2_runPeriod_85 ?_
      refine q_put (v := .int (nI (p 13 + 1))) (ci := 2) hx hb hts in_X2 tyX2 tyX2_ok nmX2 hown hK hw 0 4 wd2 dX2_runPeriod_86 rfl rfl (by decide) rfl rfl rfl (Nat.le_of_ble_eq_true rfl) (fun H locs hw => ?_)
      have hw : WS D A s [(a, .inr (2, [.ref t, .int (nI (p 9)), .int (nI (p 10)), .int (nI (p 11)), .int (nI (p 13 + 1)), .int (nI (p 14)), .int (nI (p 15)), .int (nI (p 16 + 1)), .int (nI (p 17)), .int (nI (dw (p 12)))])), (t, .inr (5, [.int (nI (p 0)), .ref w])), (w, .inl (Z 0, 9, .inl (aI z)))] H locs := hw
      refine lv_aload_n hx hb dX2_runPeriod_89 rfl (lv_at hl 2 rfl) ?_
      refine q_get (v := .int (nI (p 13 + 1))) (ci := 2) hx hb hts in_X2 hown hK hw 0 4 wd2 dX2_runPeriod_90 rfl rfl (by decide) rfl ?_
      refine lv_aload_n hx hb dX2_runPeriod_93 rfl (lv_at hl 2 rfl) ?_
      refine q_get (v := .int (nI (p 11))) (ci := 2) hx hb hts in_X2 hown hK hw 0 3 wd7 dX2_runPeriod_94 rfl rfl (by decide) rfl ?_
      refine q_icmp_lt (tgt := 128) hx hb ((p 13 + 1 : Nat) : Int) ((p 11 : Nat) : Int) (nI_toInt (by omega)) (nI_toInt (by omega)) dX2_runPeriod_97 (by decide) (fun c6 => ?_) (fun c6 => ?_)
      · --
        exact q_vret (wout := _) hx hb hr hlocks hAe hK () (by first | (rw [rp_c z p (by omega) (by omega)]; exact hw) | (rw [rp_o z p (by omega) (by omega)]; exact hw)) (trivial) dX2_runPeriod_128
      · --
        refine lv_aload_n hx hb dX2_runPeriod_100 rfl (lv_at hl 2 rfl) ?_
        refine lv_dup hx hb dX2_runPeriod_101 rfl ?_
        refine q_get (v := .int (nI (p 15))) (ci := 2) hx hb hts in_X2 hown hK hw 0 6 wd8 dX2_runPeriod_102 rfl rfl (by decide) rfl ?_
        refine q_iconst (v := 1) hx hb dX2_runPeriod_105 (by decide) ?_
        refine q_iadd hx hb dX2_runPeriod_106 ?_
        refine q_put (v := .int (nI (p 15 + 1))) (ci := 2) hx hb hts in_X2 tyX2 tyX2_ok nmX2 hown hK hw 0 6 wd8 dX2_runPeriod_107 rfl rfl (by decide) rfl rfl rfl (Nat.le_of_ble_eq_true rfl) (fun H locs hw => ?_)
        have hw : WS D A s [(a, .inr (2, [.ref t, .int (nI (p 9)), .int (nI (p 10)), .int (nI (p 11)), .int (nI (p 13 + 1)), .int (nI (p 14)), .int (nI (p 15 + 1)), .int (nI (p 16 + 1)), .int (nI (p 17)), .int (nI (dw (p 12)))])), (t, .inr (5, [.int (nI (p 0)), .ref w])), (w, .inl (Z 0, 9, .inl (aI z)))] H locs := hw
        refine lv_aload_n hx hb dX2_runPeriod_110 rfl (lv_at hl 2 rfl) ?_
        refine lv_dup hx hb dX2_runPeriod_111 rfl ?_
        refine q_get (v := .int (nI (p 17))) (ci := 2) hx hb hts in_X2 hown hK hw 0 8 wd5 dX2_runPeriod_112 rfl rfl (by decide) rfl ?_
        refine lv_aload_n hx hb dX2_runPeriod_115 rfl (lv_at hl 2 rfl) ?_
        refine q_get (v := .int (nI (p 10))) (ci := 2) hx hb hts in_X2 hown hK hw 0 2 wd9 dX2_runPeriod_116 rfl rfl (by decide) rfl ?_
        refine q_iadd hx hb dX2_runPeriod_119 ?_
        refine q_put (v := .int (nI (p 17 + (p 10)))) (ci := 2) hx hb hts in_X2 tyX2 tyX2_ok nmX2 hown hK hw 0 8 wd5 dX2_runPeriod_120 rfl rfl (by decide) rfl rfl rfl (Nat.le_of_ble_eq_true rfl) (fun H locs hw => ?_)
        have hw : WS D A s [(a, .inr (2, [.ref t, .int (nI (p 9)), .int (nI (p 10)), .int (nI (p 11)), .int (nI (p 13 + 1)), .int (nI (p 14)), .int (nI (p 15 + 1)), .int (nI (p 16 + 1)), .int (nI (p 17 + (p 10))), .int (nI (dw (p 12)))])), (t, .inr (5, [.int (nI (p 0)), .ref w])), (w, .inl (Z 0, 9, .inl (aI z)))] H locs := hw
        refine lv_aload_n hx hb dX2_runPeriod_123 rfl (lv_at hl 2 rfl) ?_
        refine q_iconst (v := 0) hx hb dX2_runPeriod_124 (by decide) ?_
        refine q_put (v := .int (nI 0)) (ci := 2) hx hb hts in_X2 tyX2 tyX2_ok nmX2 hown hK hw 0 4 wd2 dX2_runPeriod_125 rfl rfl (by decide) rfl rfl rfl (Nat.le_of_ble_eq_true rfl) (fun H locs hw => ?_)
        have hw : WS D A s [(a, .inr (2, [.ref t, .int (nI (p 9)), .int (nI (p 10)), .int (nI (p 11)), .int (nI 0), .int (nI (p 14)), .int (nI (p 15 + 1)), .int (nI (p 16 + 1)), .int (nI (p 17 + (p 10))), .int (nI (dw (p 12)))])), (t, .inr (5, [.int (nI (p 0)), .ref w])), (w, .inl (Z 0, 9, .inl (aI z)))] H locs := hw
        exact q_vret (wout := _) hx hb hr hlocks hAe hK () (by first | (rw [rp_c z p (by omega) (by omega)]; exact hw) | (rw [rp_o z p (by omega) (by omega)]; exact hw)) (trivial) dX2_runPeriod_128
    · --
      refine lv_aload_n hx hb dX2_runPeriod_50 rfl (lv_at hl 2 rfl) ?_
      refine lv_dup hx hb dX2_runPeriod_51 rfl ?_
      refine q_get (v := .int (nI (p 14))) (ci := 2) hx hb hts in_X2 hown hK hw 0 5 wd4 dX2_runPeriod_52 rfl rfl (by decide) rfl ?_
      refine q_iconst (v := 1) hx hb dX2_runPeriod_55 (by decide) ?_
      refine q_iadd hx hb dX2_runPeriod_56 ?_
      refine q_put (v := .int (nI (p 14 + 1))) (ci := 2) hx hb hts in_X2 tyX2 tyX2_ok nmX2 hown hK hw 0 5 wd4 dX2_runPeriod_57 rfl rfl (by decide) rfl rfl rfl (Nat.le_of_ble_eq_true rfl) (fun H locs hw => ?_)
      have hw : WS D A s [(a, .inr (2, [.ref t, .int (nI (p 9)), .int (nI (p 10)), .int (nI (p 11)), .int (nI (p 13)), .int (nI (p 14 + 1)), .int (nI (p 15)), .int (nI (p 16 + 1)), .int (nI (p 17)), .int (nI (dw (p 12)))])), (t, .inr (5, [.int (nI (p 0)), .ref w])), (w, .inl (Z 0, 9, .inl (aI z)))] H locs := hw
      refine lv_aload_n hx hb dX2_runPeriod_60 rfl (lv_at hl 2 rfl) ?_
      refine lv_dup hx hb dX2_runPeriod_61 rfl ?_
      refine q_get (v := .int (nI (p 17))) (ci := 2) hx hb hts in_X2 hown hK hw 0 8 wd5 dX2_runPeriod_62 rfl rfl (by decide) rfl ?_
      refine lv_aload_n hx hb dX2_runPeriod_65 rfl (lv_at hl 2 rfl) ?_
      refine q_get (v := .int (nI (p 9))) (ci := 2) hx hb hts in_X2 hown hK hw 0 1 wd6 dX2_runPeriod_66 rfl rfl (by decide) rfl ?_
      refine q_iadd hx hb dX2_runPeriod_69 ?_
      refine q_put (v := .int (nI (p 17 + (p 9)))) (ci := 2) hx hb hts in_X2 tyX2 tyX2_ok nmX2 hown hK hw 0 8 wd5 dX2_runPeriod_70 rfl rfl (by decide) rfl rfl rfl (Nat.le_of_ble_eq_true rfl) (fun H locs hw => ?_)
      have hw : WS D A s [(a, .inr (2, [.ref t, .int (nI (p 9)), .int (nI (p 10)), .int (nI (p 11)), .int (nI (p 13)), .int (nI (p 14 + 1)), .int (nI (p 15)), .int (nI (p 16 + 1)), .int (nI (p 17 + (p 9))), .int (nI (dw (p 12)))])), (t, .inr (5, [.int (nI (p 0)), .ref w])), (w, .inl (Z 0, 9, .inl (aI z)))] H locs := hw
      refine lv_aload_n hx hb dX2_runPeriod_73 rfl (lv_at hl 2 rfl) ?_
      refine q_iconst (v := 0) hx hb dX2_runPeriod_74 (by decide) ?_
      refine q_put (v := .int (nI 0)) (ci := 2) hx hb hts in_X2 tyX2 tyX2_ok nmX2 hown hK hw 0 4 wd2 dX2_runPeriod_75 rfl rfl (by decide) rfl rfl rfl (Nat.le_of_ble_eq_true rfl) (fun H locs hw => ?_)
      have hw : WS D A s [(a, .inr (2, [.ref t, .int (nI (p 9)), .int (nI (p 10)), .int (nI (p 11)), .int (nI 0), .int (nI (p 14 + 1)), .int (nI (p 15)), .int (nI (p 16 + 1)), .int (nI (p 17 + (p 9))), .int (nI (dw (p 12)))])), (t, .inr (5, [.int (nI (p 0)), .ref w])), (w, .inl (Z 0, 9, .inl (aI z)))] H locs := hw
      exact q_vret (wout := _) hx hb hr hlocks hAe hK () (by rw [rp_f z p (by omega)]; exact hw) (trivial) dX2_runPeriod_78
set_option maxHeartbeats 4000000 in
set_option maxRecDepth 100000 in
theorem c_X2_turn (l : Launch) (D : va_G) (Z : Nat → ClassId) (sz : Nat) (a t w : Nat) (p z : Nat → Nat) (hn : 1 ≤ p 0 ∧ p 0 ≤ 8) (hs : lf z (p 0) 0 ≤ 24) : cMv l yX2_turn wsX2_turn (rmd 4) D Z sz [.ref a] [(a, .inr (2, [.ref t, .int (nI (p 9)), .int (nI (p 10)), .int (nI (p 11)), .int (nI (p 13)), .int (nI (p 14)), .int (nI (p 15)), .int (nI (p 16)), .int (nI (p 17)), .int (nI (p 12))])), (t, .inr (5, [.int (nI (p 0)), .ref w])), (w, .inl (Z 0, 9, .inl (aI z)))] (S := Unit) (fun (_ : Unit) => True) (fun (_ : Unit) => [(a, .inr (2, [.ref t, .int (nI (tnp z p 9)), .int (nI (tnp z p 10)), .int (nI (tnp z p 11)), .int (nI (tnp z p 13)), .int (nI (tnp z p 14)), .int (nI (tnp z p 15)), .int (nI (tnp z p 16)), .int (nI (tnp z p 17)), .int (nI (tnp z p 12))])), (t, .inr (5, [.int (nI (tnp z p 0)), .ref w])), (w, .inl (Z 0, 9, .inl (aI (tnz z p))))]) 0 0 := by
  refine q_open (Qc := fun sz => cQv D Z sz [(a, .inr (2, [.ref t, .int (nI (p 9)), .int (nI (p 10)), .int (nI (p 11)), .int (nI (p 13)), .int (nI (p 14)), .int (nI (p 15)), .int (nI (p 16)), .int (nI (p 17)), .int (nI (p 12))])), (t, .inr (5, [.int (nI (p 0)), .ref w])), (w, .inl (Z 0, 9, .inl (aI z)))] (S := Unit) _ _) (cc := cX2_turn) (maxL := 4) (ret := none) (by decide) rfl (Nat.le_of_ble_eq_true rfl) ?_
  intro pp ee s mm bw mt cd ls A H locs hAe hx hb hr hml hown hmn hts hlocks hA hK hw hl
  have hown : s.vm.findClass RX2 = some mm.cls := hown
  have hl : lv_has ls 4 [(0, .ref a)] := hl
  have wd1 := hts (.fieldLink RX2 12 "ReplaceAges$Plan" "table" "LReplaceAges$Table;") (List.mem_of_getElem? (i := 1) rfl)
  have wd2 := hts (.fieldLink RX2 64 "ReplaceAges$Table" "n" "I") (List.mem_of_getElem? (i := 2) rfl)
  have wd3 := hts (.fieldLink RX2 35 "ReplaceAges$Plan" "partAge" "I") (List.mem_of_getElem? (i := 3) rfl)
  have in_X2 : ∀ w ∈ wsX20, w ∈ wsX2_turn := fun _ h => List.mem_cons_of_mem _ (List.mem_append_left _ (List.mem_append_right _ h))
  have in_X5 : ∀ w ∈ wsX50, w ∈ wsX2_turn := fun _ h => List.mem_cons_of_mem _ (List.mem_append_right _ h)
  have hd := dw_x (p 12)
  have hm : (dw (p 12) / 65536) % p 0 < p 0 := Nat.mod_lt _ (by omega)
  have hv : dw (p 12) / 65536 / 8 % 10 < 10 := Nat.mod_lt _ (by omega)
  refine lv_aload_n hx hb dX2_turn_0 rfl (lv_at hl 0 rfl) ?_
  refine q_calli (S := Unit) (Z := Z) (D := D) (wc := [(a, .inr (2, [.ref t, .int (nI (p 9)), .int (nI (p 10)), .int (nI (p 11)), .int (nI (p 13)), .int (nI (p 14)), .int (nI (p 15)), .int (nI (p 16)), .int (nI (p 17)), .int (nI (p 12))])), (t, .inr (5, [.int (nI (p 0)), .ref w])), (w, .inl (Z 0, 9, .inl (aI z)))]) (wr := []) (rest := []) hw hA [0, 1, 2] [] rfl rfl rfl rfl (by decide) (fun hPc hDc => va_runV (As := []) (rest := []) ⟨hx, hb, hml, hown, hts⟩ (c_X2_nextDraw l D Z H.size a t w p z ) (cwV 0 hts gX2_turn_X2_nextDraw rfl rfl rfl (by decide +kernel) ⟨Nat.le_of_ble_eq_true rfl, Nat.le_of_ble_eq_true rfl⟩) ⟨fb_cPre, va_recv hK.1 hPc (ci := 2) (q0 := 0) rfl rfl, pre_of hPc hK hDc⟩ rfl rfl hl.1 rfl (lv_room (Nat.le_of_ble_eq_true rfl)) dX2_turn_1 ⟨Nat.le_of_ble_eq_true rfl, Nat.le_of_ble_eq_true rfl⟩) (fun r1 u H locs hr1 hw => ?_)
  subst hr1
  have hw : WS D A s [(a, .inr (2, [.ref t, .int (nI (p 9)), .int (nI (p 10)), .int (nI (p 11)), .int (nI (p 13)), .int (nI (p 14)), .int (nI (p 15)), .int (nI (p 16)), .int (nI (p 17)), .int (nI (dw (p 12)))])), (t, .inr (5, [.int (nI (p 0)), .ref w])), (w, .inl (Z 0, 9, .inl (aI z)))] H locs := hw
  refine lv_istore_n (lv' := [(1, .int (nI (dw (p 12) / 65536))), (0, .ref a)]) hx hb dX2_turn_4 rfl hl (by decide) rfl (fun ls hl => ?_)
  refine lv_aload_n hx hb dX2_turn_5 rfl (lv_at hl 1 rfl) ?_
  refine q_get (v := .ref t) (ci := 2) hx hb hts in_X2 hown hK hw 0 0 wd1 dX2_turn_6 rfl rfl (by decide) rfl ?_
  refine q_get (v := .int (nI (p 0))) (ci := 5) hx hb hts in_X5 hown hK hw 1 0 wd2 dX2_turn_9 rfl rfl (by decide) rfl ?_
  refine q_if_le (tgt := 29) hx hb ((p 0 : Nat) : Int) (nI_toInt (by omega)) dX2_turn_12 (by decide) (fun c2 => ?_) (fun c2 => ?_)
  · --
    exfalso; omega
  · --
    refine lv_iload_n hx hb dX2_turn_15 rfl (lv_at hl 0 rfl) ?_
    refine lv_aload_n hx hb dX2_turn_16 rfl (lv_at hl 1 rfl) ?_
    refine q_get (v := .ref t) (ci := 2) hx hb hts in_X2 hown hK hw 0 0 wd1 dX2_turn_17 rfl rfl (by decide) rfl ?_
    refine q_get (v := .int (nI (p 0))) (ci := 5) hx hb hts in_X5 hown hK hw 1 0 wd2 dX2_turn_20 rfl rfl (by decide) rfl ?_
    refine q_irem hx hb (by omega) (by omega) (by omega) dX2_turn_23 ?_
    refine q_iconst (v := 1) hx hb dX2_turn_24 (by decide) ?_
    refine q_iadd hx hb dX2_turn_25 ?_
    refine lv_goto (tgt := 30) hx hb dX2_turn_26 (by decide) ?_
    refine lv_istore_n (lv' := [(2, .int (nI ((dw (p 12) / 65536) % (p 0) + 1))), (1, .int (nI (dw (p 12) / 65536))), (0, .ref a)]) hx hb dX2_turn_30 rfl hl (by decide) rfl (fun ls hl => ?_)
    refine lv_iload_n hx hb dX2_turn_31 rfl (lv_at hl 1 rfl) ?_
    refine q_bipush (v := 8) hx hb dX2_turn_32 (by decide) ?_
    refine q_idiv hx hb (by omega) (by omega) (by omega) dX2_turn_34 ?_
    refine q_bipush (v := 10) hx hb dX2_turn_35 (by decide) ?_
    refine q_irem hx hb (by omega) (by omega) (by omega) dX2_turn_37 ?_
    refine lv_istore_n (lv' := [(3, .int (nI (((dw (p 12) / 65536) / 8) % 10))), (2, .int (nI ((dw (p 12) / 65536) % (p 0) + 1))), (1, .int (nI (dw (p 12) / 65536))), (0, .ref a)]) hx hb dX2_turn_38 rfl hl (by decide) rfl (fun ls hl => ?_)
    refine lv_aload_n hx hb dX2_turn_39 rfl (lv_at hl 3 rfl) ?_
    refine q_get (v := .ref t) (ci := 2) hx hb hts in_X2 hown hK hw 0 0 wd1 dX2_turn_40 rfl rfl (by decide) rfl ?_
    refine lv_iload_n hx hb dX2_turn_43 rfl (lv_at hl 1 rfl) ?_
    refine lv_iload_n hx hb dX2_turn_44 rfl (lv_at hl 0 rfl) ?_
    refine q_calli (S := Unit) (Z := Z) (D := D) (wc := [(t, .inr (5, [.int (nI (p 0)), .ref w])), (w, .inl (Z 0, 9, .inl (aI z)))]) (wr := [(a, .inr (2, [.ref t, .int (nI (p 9)), .int (nI (p 10)), .int (nI (p 11)), .int (nI (p 13)), .int (nI (p 14)), .int (nI (p 15)), .int (nI (p 16)), .int (nI (p 17)), .int (nI (dw (p 12)))]))]) (rest := []) hw hA [1, 2] [0] rfl rfl rfl rfl (by decide) (fun hPc hDc => va_runV (As := [.int (nI ((dw (p 12) / 65536) % (p 0) + 1)), .int (nI (((dw (p 12) / 65536) / 8) % 10))]) (rest := []) ⟨hx, hb, hml, hown, hts⟩ (c_X5_mayHold l D Z H.size t w (p 0) z ((dw (p 12) / 65536) % (p 0) + 1) (((dw (p 12) / 65536) / 8) % 10) (by first | assumption | omega) hs (by first | assumption | omega) (by first | assumption | omega)) (cwV 2 hts gX2_turn_X5_mayHold rfl rfl rfl (by decide +kernel) ⟨Nat.le_of_ble_eq_true rfl, Nat.le_of_ble_eq_true rfl⟩) ⟨fb_cPre, va_recv hK.1 hPc (ci := 5) (q0 := 0) rfl rfl, pre_of hPc hK hDc⟩ rfl rfl hl.1 rfl (lv_room (Nat.le_of_ble_eq_true rfl)) dX2_turn_45 ⟨Nat.le_of_ble_eq_true rfl, Nat.le_of_ble_eq_true rfl⟩) (fun r3 u H locs hr3 hw => ?_)
    subst hr3
    have hw : WS D A s [(a, .inr (2, [.ref t, .int (nI (p 9)), .int (nI (p 10)), .int (nI (p 11)), .int (nI (p 13)), .int (nI (p 14)), .int (nI (p 15)), .int (nI (p 16)), .int (nI (p 17)), .int (nI (dw (p 12)))])), (t, .inr (5, [.int (nI (p 0)), .ref w])), (w, .inl (Z 0, 9, .inl (aI z)))] H locs := hw
    refine q_if_eq (tgt := 65) hx hb ((bb (lf z (p 0) 0 - wt z (p 0) ((dw (p 12) / 65536) % (p 0) + 1) + (((dw (p 12) / 65536) / 8) % 10) ≤ 24 ∧ (((dw (p 12) / 65536) % (p 0) + 1) ≠ (p 0) ∨ (((dw (p 12) / 65536) / 8) % 10) ≠ 0)) : Nat) : Int) (nI_toInt (Nat.lt_of_le_of_lt (bb_le _) (by decide))) dX2_turn_48 (by decide) (fun c4 => ?_) (fun c4 => ?_)
    · --
      have c4 := bb_0 c4
      have h57 := c4
      exact q_vret (wout := _) hx hb hr hlocks hAe hK () (by first | (rw [tnp_t h57, tnz_t h57]; exact hw) | (rw [tnp_f h57, tnz_f h57]; exact hw)) (trivial) dX2_turn_65
    · --
      have c4 := bb_1 c4
      have h57 := c4
      refine lv_aload_n hx hb dX2_turn_51 rfl (lv_at hl 3 rfl) ?_
      refine q_get (v := .ref t) (ci := 2) hx hb hts in_X2 hown hK hw 0 0 wd1 dX2_turn_52 rfl rfl (by decide) rfl ?_
      refine lv_iload_n hx hb dX2_turn_55 rfl (lv_at hl 1 rfl) ?_
      refine lv_iload_n hx hb dX2_turn_56 rfl (lv_at hl 0 rfl) ?_
      refine q_callv (S := Unit) (Z := Z) (D := D) (wc := [(t, .inr (5, [.int (nI (p 0)), .ref w])), (w, .inl (Z 0, 9, .inl (aI z)))]) (wr := [(a, .inr (2, [.ref t, .int (nI (p 9)), .int (nI (p 10)), .int (nI (p 11)), .int (nI (p 13)), .int (nI (p 14)), .int (nI (p 15)), .int (nI (p 16)), .int (nI (p 17)), .int (nI (dw (p 12)))]))]) (rest := []) hw hA [1, 2] [0] rfl rfl rfl rfl (by decide) (fun hPc hDc => va_runV (As := [.int (nI ((dw (p 12) / 65536) % (p 0) + 1)), .int (nI (((dw (p 12) / 65536) / 8) % 10))]) (rest := []) ⟨hx, hb, hml, hown, hts⟩ (c_X5_put l D Z H.size t w (p 0) z ((dw (p 12) / 65536) % (p 0) + 1) (((dw (p 12) / 65536) / 8) % 10) (by first | assumption | omega)) (cwV 2 hts gX2_turn_X5_put rfl rfl rfl (by decide +kernel) ⟨Nat.le_of_ble_eq_true rfl, Nat.le_of_ble_eq_true rfl⟩) ⟨fb_cPre, va_recv hK.1 hPc (ci := 5) (q0 := 0) rfl rfl, pre_of hPc hK hDc⟩ rfl rfl hl.1 rfl (lv_room (Nat.le_of_ble_eq_true rfl)) dX2_turn_57 ⟨Nat.le_of_ble_eq_true rfl, Nat.le_of_ble_eq_true rfl⟩) (fun u H locs hr5 hw => ?_)
      have hw : WS D A s [(a, .inr (2, [.ref t, .int (nI (p 9)), .int (nI (p 10)), .int (nI (p 11)), .int (nI (p 13)), .int (nI (p 14)), .int (nI (p 15)), .int (nI (p 16)), .int (nI (p 17)), .int (nI (dw (p 12)))])), (t, .inr (5, [.int (nI (p 0)), .ref w])), (w, .inl (Z 0, 9, .inl (aI (va_up z ((dw (p 12) / 65536) % (p 0) + 1) (((dw (p 12) / 65536) / 8) % 10)))))] H locs := hw
      refine lv_aload_n hx hb dX2_turn_60 rfl (lv_at hl 3 rfl) ?_
      refine q_iconst (v := 0) hx hb dX2_turn_61 (by decide) ?_
      refine q_put (v := .int (nI 0)) (ci := 2) hx hb hts in_X2 tyX2 tyX2_ok nmX2 hown hK hw 0 4 wd3 dX2_turn_62 rfl rfl (by decide) rfl rfl rfl (Nat.le_of_ble_eq_true rfl) (fun H locs hw => ?_)
      have hw : WS D A s [(a, .inr (2, [.ref t, .int (nI (p 9)), .int (nI (p 10)), .int (nI (p 11)), .int (nI 0), .int (nI (p 14)), .int (nI (p 15)), .int (nI (p 16)), .int (nI (p 17)), .int (nI (dw (p 12)))])), (t, .inr (5, [.int (nI (p 0)), .ref w])), (w, .inl (Z 0, 9, .inl (aI (va_up z ((dw (p 12) / 65536) % (p 0) + 1) (((dw (p 12) / 65536) / 8) % 10)))))] H locs := hw
      exact q_vret (wout := _) hx hb hr hlocks hAe hK () (by first | (rw [tnp_t h57, tnz_t h57]; exact hw) | (rw [tnp_f h57, tnz_f h57]; exact hw)) (trivial) dX2_turn_65
