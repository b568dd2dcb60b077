/-- the share in which one part fails and the other one, of AGE i, doesn't -/
def ols (z : Nat → Nat) (n f c g : Nat) (P : Nat → Nat → Nat) (h i bn : Nat) : Nat := if g ≤ i + 1 then lf z n (i + 1) * ((f + c) * lf z n 0 ^ (2 * (h + 1)) + bn) else lf z n (i + 1) * f * lf z n 0 ^ (2 * (h + 1)) + lf z n 0 * P 0 (i + 1)
/-- PAIR's cost of h periods from AGES i, j on, times LEFT of i, LEFT of j, ALL to the 2h -/
def pcs (z : Nat → Nat) (n f c g : Nat) : Nat → Nat → Nat → Nat
  | 0 => fun _ _ => 0
  | h + 1 => fun i j => if n ≤ i ∨ n ≤ j then 0 else z (i + 1) * z (j + 1) * (2 * f * lf z n 0 ^ (2 * (h + 1)) + pcs z n f c g h 0 0) + z (i + 1) * ols z n f c g (pcs z n f c g h) h j (pcs z n f c g h 0 0) + z (j + 1) * ols z n f c g (pcs z n f c g h) h i (pcs z n f c g h 0 0) + lf z n 0 * lf z n 0 * pcs z n f c g h (i + 1) (j + 1)
theorem ols_t {z : Nat → Nat} {n f c g : Nat} {P : Nat → Nat → Nat} {h i bn : Nat} (q : g ≤ i + 1) : ols z n f c g P h i bn = lf z n (i + 1) * ((f + c) * lf z n 0 ^ (2 * (h + 1)) + bn) := if_pos q
theorem ols_f {z : Nat → Nat} {n f c g : Nat} {P : Nat → Nat → Nat} {h i bn : Nat} (q : ¬ g ≤ i + 1) : ols z n f c g P h i bn = lf z n (i + 1) * f * lf z n 0 ^ (2 * (h + 1)) + lf z n 0 * P 0 (i + 1) := if_neg q
theorem pcs_o {z : Nat → Nat} {n f c g h i j : Nat} (q : n ≤ i ∨ n ≤ j) : pcs z n f c g (h + 1) i j = 0 := if_pos q
theorem pcs_i {z : Nat → Nat} {n f c g h i j : Nat} (q1 : i < n) (q2 : j < n) : pcs z n f c g (h + 1) i j = z (i + 1) * z (j + 1) * (2 * f * lf z n 0 ^ (2 * (h + 1)) + pcs z n f c g h 0 0) + z (i + 1) * ols z n f c g (pcs z n f c g h) h j (pcs z n f c g h 0 0) + z (j + 1) * ols z n f c g (pcs z n f c g h) h i (pcs z n f c g h 0 0) + lf z n 0 * lf z n 0 * pcs z n f c g h (i + 1) (j + 1) := if_neg (by omega)
set_option maxHeartbeats 4000000 in
set_option maxRecDepth 100000 in
theorem c_pc0 (l : Launch) (D : va_G) (Z : Nat → ClassId) (sz : Nat) (a t w : Nat) (p z : Nat → Nat) (g i j : Nat) (hn : 1 ≤ p 0 ∧ p 0 ≤ 8) (hal : 1 ≤ lf z (p 0) 0 ∧ lf z (p 0) 0 ≤ 24) (h9 : p 9 ≤ 99) (h10 : p 10 ≤ 99) (hg : g ≤ 8) (hi : i ≤ 8) (hj : j ≤ 8) : cMl l yX7_pairCost wsX7_pairCost (rmd 3) D Z sz [.ref a, .int (nI g), .int (nI 0), .int (nI i), .int (nI j)] [(a, .inr (2, [.ref t, .int (nI (p 9)), .int (nI (p 10)), .int (nI (p 11)), .int (nI (p 13)), .int (nI (p 14)), .int (nI (p 15)), .int (nI (p 16)), .int (nI (p 17)), .int (nI (p 12))])), (t, .inr (5, [.int (nI (p 0)), .ref w])), (w, .inl (Z 0, 9, .inl (aI z)))] (S := Unit) (fun (r : Int64) => fun (_ : Unit) => r = lN (pcs z (p 0) (p 9) (p 10) g 0 i j)) (fun (_ : Unit) => [(a, .inr (2, [.ref t, .int (nI (p 9)), .int (nI (p 10)), .int (nI (p 11)), .int (nI (p 13)), .int (nI (p 14)), .int (nI (p 15)), .int (nI (p 16)), .int (nI (p 17)), .int (nI (p 12))])), (t, .inr (5, [.int (nI (p 0)), .ref w])), (w, .inl (Z 0, 9, .inl (aI z)))]) 0 0 := by
  refine q_open (y := yX7_pairCost) (ws := wsX7_pairCost) (av := [.ref a, .int (nI g), .int (nI 0), .int (nI i), .int (nI j)]) (win := [(a, .inr (2, [.ref t, .int (nI (p 9)), .int (nI (p 10)), .int (nI (p 11)), .int (nI (p 13)), .int (nI (p 14)), .int (nI (p 15)), .int (nI (p 16)), .int (nI (p 17)), .int (nI (p 12))])), (t, .inr (5, [.int (nI (p 0)), .ref w])), (w, .inl (Z 0, 9, .inl (aI z)))]) (Qc := fun sz => cQl D Z sz [(a, .inr (2, [.ref t, .int (nI (p 9)), .int (nI (p 10)), .int (nI (p 11)), .int (nI (p 13)), .int (nI (p 14)), .int (nI (p 15)), .int (nI (p 16)), .int (nI (p 17)), .int (nI (p 12))])), (t, .inr (5, [.int (nI (p 0)), .ref w])), (w, .inl (Z 0, 9, .inl (aI z)))] (S := Unit) (fun (r : Int64) => fun (_ : Unit) => r = lN (pcs z (p 0) (p 9) (p 10) g 0 i j)) (fun (_ : Unit) => [(a, .inr (2, [.ref t, .int (nI (p 9)), .int (nI (p 10)), .int (nI (p 11)), .int (nI (p 13)), .int (nI (p 14)), .int (nI (p 15)), .int (nI (p 16)), .int (nI (p 17)), .int (nI (p 12))])), (t, .inr (5, [.int (nI (p 0)), .ref w])), (w, .inl (Z 0, 9, .inl (aI z)))])) (cc := cX7_pairCost) (maxL := 16) (ret := (some .long)) (by decide) rfl (Nat.le_of_ble_eq_true rfl) ?_
  intro pp ee s mm bw mt cd ls A H locs hAe hx hb hr hml hown hmn hts hlocks hA hK hw hl
  have hown : s.vm.findClass RX7 = some mm.cls := hown
  have hl : lv_has ls 16 [(0, .ref a), (1, .int (nI g)), (2, .int (nI 0)), (3, .int (nI i)), (4, .int (nI j))] := hl
  have wd1 := hts (.fieldLink RX7 64 "ReplaceAges$Plan" "table" "LReplaceAges$Table;") (List.mem_of_getElem? (i := 1) rfl)
  have in_X2 : ∀ w ∈ wsX20, w ∈ wsX7_pairCost := fun _ h => List.mem_cons_of_mem _ (List.mem_append_left _ (List.mem_append_right _ h))
  refine lv_aload_n hx hb dX7_pairCost_0 rfl (lv_at hl 0 rfl) ?_
  refine q_get (v := .ref t) (ci := 2) hx hb hts in_X2 hown hK hw 0 0 wd1 dX7_pairCost_1 rfl rfl (by decide) rfl ?_
  refine lv_astore (lv' := [(5, .ref t), (0, .ref a), (1, .int (nI g)), (2, .int (nI 0)), (3, .int (nI i)), (4, .int (nI j))]) hx hb dX7_pairCost_4 hl (by decide) rfl (fun ls hl => ?_)
  refine lv_iload_n hx hb dX7_pairCost_6 rfl (lv_at hl 3 rfl) ?_
  refine q_if_le (tgt := 34) hx hb ((0 : Nat) : Int) (nI_toInt (by omega)) dX7_pairCost_7 (by decide) (fun c1 => ?_) (fun c1 => ?_)
  · --
    refine q_lconst (v := 0) hx hb dX7_pairCost_34 (by decide) ?_
    exact q_lret (wout := _) hx hb hr hlocks hAe hK () hw (rfl) dX7_pairCost_35
  · --
    exfalso; omega
set_option maxHeartbeats 4000000 in
set_option maxRecDepth 100000 in
theorem c_ol1 (l : Launch) (D : va_G) (Z : Nat → ClassId) (sz : Nat) (a t w : Nat) (p z : Nat → Nat) (g i bn : Nat) (hn : 1 ≤ p 0 ∧ p 0 ≤ 8) (hal : 1 ≤ lf z (p 0) 0 ∧ lf z (p 0) 0 ≤ 24) (h9 : p 9 ≤ 99) (h10 : p 10 ≤ 99) (hg : g ≤ 8) (hi : i < p 0) : cMl l yX7_otherLasts wsX7_otherLasts (rmd 4) D Z sz [.ref a, .int (nI g), .int (nI 1), .int (nI i), .long (lN bn)] [(a, .inr (2, [.ref t, .int (nI (p 9)), .int (nI (p 10)), .int (nI (p 11)), .int (nI (p 13)), .int (nI (p 14)), .int (nI (p 15)), .int (nI (p 16)), .int (nI (p 17)), .int (nI (p 12))])), (t, .inr (5, [.int (nI (p 0)), .ref w])), (w, .inl (Z 0, 9, .inl (aI z)))] (S := Unit) (fun (r : Int64) => fun (_ : Unit) => r = lN (ols z (p 0) (p 9) (p 10) g (pcs z (p 0) (p 9) (p 10) g 0) 0 i bn)) (fun (_ : Unit) => [(a, .inr (2, [.ref t, .int (nI (p 9)), .int (nI (p 10)), .int (nI (p 11)), .int (nI (p 13)), .int (nI (p 14)), .int (nI (p 15)), .int (nI (p 16)), .int (nI (p 17)), .int (nI (p 12))])), (t, .inr (5, [.int (nI (p 0)), .ref w])), (w, .inl (Z 0, 9, .inl (aI z)))]) 0 0 := by
  refine q_open (y := yX7_otherLasts) (ws := wsX7_otherLasts) (av := [.ref a, .int (nI g), .int (nI 1), .int (nI i), .long (lN bn)]) (win := [(a, .inr (2, [.ref t, .int (nI (p 9)), .int (nI (p 10)), .int (nI (p 11)), .int (nI (p 13)), .int (nI (p 14)), .int (nI (p 15)), .int (nI (p 16)), .int (nI (p 17)), .int (nI (p 12))])), (t, .inr (5, [.int (nI (p 0)), .ref w])), (w, .inl (Z 0, 9, .inl (aI z)))]) (Qc := fun sz => cQl D Z sz [(a, .inr (2, [.ref t, .int (nI (p 9)), .int (nI (p 10)), .int (nI (p 11)), .int (nI (p 13)), .int (nI (p 14)), .int (nI (p 15)), .int (nI (p 16)), .int (nI (p 17)), .int (nI (p 12))])), (t, .inr (5, [.int (nI (p 0)), .ref w])), (w, .inl (Z 0, 9, .inl (aI z)))] (S := Unit) (fun (r : Int64) => fun (_ : Unit) => r = lN (ols z (p 0) (p 9) (p 10) g (pcs z (p 0) (p 9) (p 10) g 0) 0 i bn)) (fun (_ : Unit) => [(a, .inr (2, [.ref t, .int (nI (p 9)), .int (nI (p 10)), .int (nI (p 11)), .int (nI (p 13)), .int (nI (p 14)), .int (nI (p 15)), .int (nI (p 16)), .int (nI (p 17)), .int (nI (p 12))])), (t, .inr (5, [.int (nI (p 0)), .ref w])), (w, .inl (Z 0, 9, .inl (aI z)))])) (cc := cX7_otherLasts) (maxL := 12) (ret := (some .long)) (by decide) rfl (Nat.le_of_ble_eq_true rfl) ?_
  intro pp ee s mm bw mt cd ls A H locs hAe hx hb hr hml hown hmn hts hlocks hA hK hw hl
  have hown : s.vm.findClass RX7 = some mm.cls := hown
  have hl : lv_has ls 12 [(0, .ref a), (1, .int (nI g)), (2, .int (nI 1)), (3, .int (nI i)), (4, .long (lN bn))] := hl
  have wd1 := hts (.fieldLink RX7 64 "ReplaceAges$Plan" "table" "LReplaceAges$Table;") (List.mem_of_getElem? (i := 1) rfl)
  have wd2 := hts (.fieldLink RX7 117 "ReplaceAges$Plan" "failure" "I") (List.mem_of_getElem? (i := 2) rfl)
  have wd3 := hts (.fieldLink RX7 120 "ReplaceAges$Plan" "change" "I") (List.mem_of_getElem? (i := 3) rfl)
  have in_X2 : ∀ w ∈ wsX20, w ∈ wsX7_otherLasts := fun _ h => List.mem_cons_of_mem _ (List.mem_append_left _ (List.mem_append_right _ h))
  have hli := lf_anti (w := z) (n := p 0) (Nat.zero_le (i + 1))
  refine lv_aload_n hx hb dX7_otherLasts_0 rfl (lv_at hl 0 rfl) ?_
  refine q_get (v := .ref t) (ci := 2) hx hb hts in_X2 hown hK hw 0 0 wd1 dX7_otherLasts_1 rfl rfl (by decide) rfl ?_
  refine q_calli (S := Unit) (Z := Z) (D := D) (wc := [(t, .inr (5, [.int (nI (p 0)), .ref w])), (w, .inl (Z 0, 9, .inl (aI z)))]) (wr := [(a, .inr (2, [.ref t, .int (nI (p 9)), .int (nI (p 10)), .int (nI (p 11)), .int (nI (p 13)), .int (nI (p 14)), .int (nI (p 15)), .int (nI (p 16)), .int (nI (p 17)), .int (nI (p 12))]))]) (rest := []) hw hA [1, 2] [0] rfl rfl rfl rfl (by decide) (fun hPc hDc => va_runV (As := []) (rest := []) ⟨hx, hb, hml, hown, hts⟩ (c_X5_all l D Z H.size t w (p 0) z (by first | assumption | omega)) (cwV 0 hts gX7_otherLasts_X5_all rfl rfl rfl (by decide +kernel) ⟨Nat.le_of_ble_eq_true rfl, Nat.le_of_ble_eq_true rfl⟩) ⟨fb_cPre, va_recv hK.1 hPc (ci := 5) (q0 := 0) rfl rfl, pre_of hPc hK hDc⟩ rfl rfl hl.1 rfl (lv_room (Nat.le_of_ble_eq_true rfl)) dX7_otherLasts_4 ⟨Nat.le_of_ble_eq_true rfl, Nat.le_of_ble_eq_true rfl⟩) (fun r1 u H locs hr1 hw => ?_)
  subst hr1
  have hw : WS D A s [(a, .inr (2, [.ref t, .int (nI (p 9)), .int (nI (p 10)), .int (nI (p 11)), .int (nI (p 13)), .int (nI (p 14)), .int (nI (p 15)), .int (nI (p 16)), .int (nI (p 17)), .int (nI (p 12))])), (t, .inr (5, [.int (nI (p 0)), .ref w])), (w, .inl (Z 0, 9, .inl (aI z)))] H locs := hw
  refine q_i2l hx hb (by omega) dX7_otherLasts_7 ?_
  refine lv_lstore (lv' := [(6, .long (lN (lf z (p 0) 0))), (0, .ref a), (1, .int (nI g)), (2, .int (nI 1)), (3, .int (nI i)), (4, .long (lN bn))]) hx hb dX7_otherLasts_8 hl (by decide) rfl (fun ls hl => ?_)
  refine lv_aload_n hx hb dX7_otherLasts_10 rfl (lv_at hl 1 rfl) ?_
  refine q_get (v := .ref t) (ci := 2) hx hb hts in_X2 hown hK hw 0 0 wd1 dX7_otherLasts_11 rfl rfl (by decide) rfl ?_
  refine lv_iload_n hx hb dX7_otherLasts_14 rfl (lv_at hl 4 rfl) ?_
  refine q_iconst (v := 1) hx hb dX7_otherLasts_15 (by decide) ?_
  refine q_iadd hx hb dX7_otherLasts_16 ?_
  refine q_calli (S := Unit) (Z := Z) (D := D) (wc := [(t, .inr (5, [.int (nI (p 0)), .ref w])), (w, .inl (Z 0, 9, .inl (aI z)))]) (wr := [(a, .inr (2, [.ref t, .int (nI (p 9)), .int (nI (p 10)), .int (nI (p 11)), .int (nI (p 13)), .int (nI (p 14)), .int (nI (p 15)), .int (nI (p 16)), .int (nI (p 17)), .int (nI (p 12))]))]) (rest := []) hw hA [1, 2] [0] rfl rfl rfl rfl (by decide) (fun hPc hDc => va_runV (As := [.int (nI (i + 1))]) (rest := []) ⟨hx, hb, hml, hown, hts⟩ (c_X5_left l D Z H.size t w (p 0) z (i + 1) (by first | assumption | omega) (by first | assumption | omega)) (cwV 1 hts gX7_otherLasts_X5_left rfl rfl rfl (by decide +kernel) ⟨Nat.le_of_ble_eq_true rfl, Nat.le_of_ble_eq_true rfl⟩) ⟨fb_cPre, va_recv hK.1 hPc (ci := 5) (q0 := 0) rfl rfl, pre_of hPc hK hDc⟩ rfl rfl hl.1 rfl (lv_room (Nat.le_of_ble_eq_true rfl)) dX7_otherLasts_17 ⟨Nat.le_of_ble_eq_true rfl, Nat.le_of_ble_eq_true rfl⟩) (fun r2 u H locs hr2 hw => ?_)
  subst hr2
  have hw : WS D A s [(a, .inr (2, [.ref t, .int (nI (p 9)), .int (nI (p 10)), .int (nI (p 11)), .int (nI (p 13)), .int (nI (p 14)), .int (nI (p 15)), .int (nI (p 16)), .int (nI (p 17)), .int (nI (p 12))])), (t, .inr (5, [.int (nI (p 0)), .ref w])), (w, .inl (Z 0, 9, .inl (aI z)))] H locs := hw
  refine q_i2l hx hb (by omega) dX7_otherLasts_20 ?_
  refine lv_lstore (lv' := [(8, .long (lN (lf z (p 0) (i + 1)))), (6, .long (lN (lf z (p 0) 0))), (0, .ref a), (1, .int (nI g)), (2, .int (nI 1)), (3, .int (nI i)), (4, .long (lN bn))]) hx hb dX7_otherLasts_21 hl (by decide) rfl (fun ls hl => ?_)
  refine lv_lload hx hb dX7_otherLasts_23 (lv_at hl 1 rfl) ?_
  refine q_iconst (v := 2) hx hb dX7_otherLasts_25 (by decide) ?_
  refine lv_iload_n hx hb dX7_otherLasts_26 rfl (lv_at hl 4 rfl) ?_
  refine q_imul hx hb dX7_otherLasts_27 ?_
  refine q_calll (S := Unit) (Z := Z) (D := D) (wc := []) (wr := [(a, .inr (2, [.ref t, .int (nI (p 9)), .int (nI (p 10)), .int (nI (p 11)), .int (nI (p 13)), .int (nI (p 14)), .int (nI (p 15)), .int (nI (p 16)), .int (nI (p 17)), .int (nI (p 12))])), (t, .inr (5, [.int (nI (p 0)), .ref w])), (w, .inl (Z 0, 9, .inl (aI z)))]) (rest := []) hw hA [] [0, 1, 2] rfl rfl rfl rfl (by decide) (fun hPc hDc => va_runS (As := [.long (lN (lf z (p 0) 0)), .int (nI 2)]) (rest := []) ⟨hx, hb, hml, hown, hts⟩ (c_X7_power l D Z H.size (lf z (p 0) 0) 2 (by first | assumption | omega)) (va_cwS 2 hts gX7_otherLasts_X7_power rfl rfl rfl (by decide +kernel) ⟨Nat.le_of_ble_eq_true rfl, Nat.le_of_ble_eq_true rfl⟩) ⟨fb_cPre, pre_of hPc hK hDc⟩ rfl rfl hl.1 rfl (lv_room (Nat.le_of_ble_eq_true rfl)) dX7_otherLasts_28 ⟨Nat.le_of_ble_eq_true rfl, Nat.le_of_ble_eq_true rfl⟩) (fun r3 u H locs hr3 hw => ?_)
  subst hr3
  have hw : WS D A s [(a, .inr (2, [.ref t, .int (nI (p 9)), .int (nI (p 10)), .int (nI (p 11)), .int (nI (p 13)), .int (nI (p 14)), .int (nI (p 15)), .int (nI (p 16)), .int (nI (p 17)), .int (nI (p 12))])), (t, .inr (5, [.int (nI (p 0)), .ref w])), (w, .inl (Z 0, 9, .inl (aI z)))] H locs := hw
  refine lv_lstore (lv' := [(10, .long (lN ((lf z (p 0) 0) ^ 2))), (8, .long (lN (lf z (p 0) (i + 1)))), (6, .long (lN (lf z (p 0) 0))), (0, .ref a), (1, .int (nI g)), (2, .int (nI 1)), (3, .int (nI i)), (4, .long (lN bn))]) hx hb dX7_otherLasts_31 hl (by decide) rfl (fun ls hl => ?_)
  refine lv_iload_n hx hb dX7_otherLasts_33 rfl (lv_at hl 6 rfl) ?_
  refine q_iconst (v := 1) hx hb dX7_otherLasts_34 (by decide) ?_
  refine q_iadd hx hb dX7_otherLasts_35 ?_
  refine lv_iload_n hx hb dX7_otherLasts_36 rfl (lv_at hl 4 rfl) ?_
  refine q_icmp_lt (tgt := 60) hx hb ((i + 1 : Nat) : Int) ((g : Nat) : Int) (nI_toInt (by omega)) (nI_toInt (by omega)) dX7_otherLasts_37 (by decide) (fun c4 => ?_) (fun c4 => ?_)
  · --
    refine lv_lload hx hb dX7_otherLasts_60 (lv_at hl 1 rfl) ?_
    refine lv_aload_n hx hb dX7_otherLasts_62 rfl (lv_at hl 3 rfl) ?_
    refine q_get (v := .int (nI (p 9))) (ci := 2) hx hb hts in_X2 hown hK hw 0 1 wd2 dX7_otherLasts_63 rfl rfl (by decide) rfl ?_
    refine q_i2l hx hb (by omega) dX7_otherLasts_66 ?_
    refine q_lmul hx hb dX7_otherLasts_67 ?_
    refine lv_lload hx hb dX7_otherLasts_68 (lv_at hl 0 rfl) ?_
    refine q_lmul hx hb dX7_otherLasts_70 ?_
    refine lv_lload hx hb dX7_otherLasts_71 (lv_at hl 2 rfl) ?_
    refine lv_aload_n hx hb dX7_otherLasts_73 rfl (lv_at hl 3 rfl) ?_
    refine lv_iload_n hx hb dX7_otherLasts_74 rfl (lv_at hl 4 rfl) ?_
    refine lv_iload_n hx hb dX7_otherLasts_75 rfl (lv_at hl 5 rfl) ?_
    refine q_iconst (v := 1) hx hb dX7_otherLasts_76 (by decide) ?_
    refine q_isub hx hb (by omega) dX7_otherLasts_77 ?_
    refine q_iconst (v := 0) hx hb dX7_otherLasts_78 (by decide) ?_
    refine lv_iload_n hx hb dX7_otherLasts_79 rfl (lv_at hl 6 rfl) ?_
    refine q_iconst (v := 1) hx hb dX7_otherLasts_80 (by decide) ?_
    refine q_iadd hx hb dX7_otherLasts_81 ?_
    refine q_calll (S := Unit) (Z := Z) (D := D) (wc := [(a, .inr (2, [.ref t, .int (nI (p 9)), .int (nI (p 10)), .int (nI (p 11)), .int (nI (p 13)), .int (nI (p 14)), .int (nI (p 15)), .int (nI (p 16)), .int (nI (p 17)), .int (nI (p 12))])), (t, .inr (5, [.int (nI (p 0)), .ref w])), (w, .inl (Z 0, 9, .inl (aI z)))]) (wr := []) (rest := [.long (lN (lf z (p 0) 0)), .long (lN (((lf z (p 0) (i + 1)) * (p 9)) * ((lf z (p 0) 0) ^ 2)))]) hw hA [0, 1, 2] [] rfl rfl rfl rfl (by decide) (fun hPc hDc => va_runS (As := [.ref a, .int (nI g), .int (nI 0), .int (nI 0), .int (nI (i + 1))]) (rest := [.long (lN (lf z (p 0) 0)), .long (lN (((lf z (p 0) (i + 1)) * (p 9)) * ((lf z (p 0) 0) ^ 2)))]) ⟨hx, hb, hml, hown, hts⟩ (c_pc0 l D Z H.size a t w p z g 0 (i + 1) (by first | assumption | omega) (by first | assumption | omega) (by first | assumption | omega) (by first | assumption | omega) (by first | assumption | omega) (by first | assumption | omega) (by first | assumption | omega)) (va_cwS 5 hts gX7_otherLasts_X7_pairCost rfl rfl rfl (by decide +kernel) ⟨Nat.le_of_ble_eq_true rfl, Nat.le_of_ble_eq_true rfl⟩) ⟨fb_cPre, pre_of hPc hK hDc⟩ rfl rfl hl.1 rfl (lv_room (Nat.le_of_ble_eq_true rfl)) dX7_otherLasts_82 ⟨Nat.le_of_ble_eq_true rfl, Nat.le_of_ble_eq_true rfl⟩) (fun r5 u H locs hr5 hw => ?_)
    subst hr5
    have hw : WS D A s [(a, .inr (2, [.ref t, .int (nI (p 9)), .int (nI (p 10)), .int (nI (p 11)), .int (nI (p 13)), .int (nI (p 14)), .int (nI (p 15)), .int (nI (p 16)), .int (nI (p 17)), .int (nI (p 12))])), (t, .inr (5, [.int (nI (p 0)), .ref w])), (w, .inl (Z 0, 9, .inl (aI z)))] H locs := hw
    refine q_lmul hx hb dX7_otherLasts_85 ?_
    refine q_ladd hx hb dX7_otherLasts_86 ?_
    exact q_lret (wout := _) hx hb hr hlocks hAe hK () hw (by first | exact congrArg lN (ols_t (g := g) (i := i) (h := 0) (by omega)).symm | exact congrArg lN (ols_f (g := g) (i := i) (h := 0) (by omega)).symm) dX7_otherLasts_87
  · --
    refine lv_lload hx hb dX7_otherLasts_40 (lv_at hl 1 rfl) ?_
    refine lv_aload_n hx hb dX7_otherLasts_42 rfl (lv_at hl 3 rfl) ?_
    refine q_get (v := .int (nI (p 9))) (ci := 2) hx hb hts in_X2 hown hK hw 0 1 wd2 dX7_otherLasts_43 rfl rfl (by decide) rfl ?_
    refine lv_aload_n hx hb dX7_otherLasts_46 rfl (lv_at hl 3 rfl) ?_
    refine q_get (v := .int (nI (p 10))) (ci := 2) hx hb hts in_X2 hown hK hw 0 2 wd3 dX7_otherLasts_47 rfl rfl (by decide) rfl ?_
    refine q_iadd hx hb dX7_otherLasts_50 ?_
    refine q_i2l hx hb (by omega) dX7_otherLasts_51 ?_
    refine lv_lload hx hb dX7_otherLasts_52 (lv_at hl 0 rfl) ?_
    refine q_lmul hx hb dX7_otherLasts_54 ?_
    refine lv_lload hx hb dX7_otherLasts_55 (lv_at hl 7 rfl) ?_
    refine q_ladd hx hb dX7_otherLasts_57 ?_
    refine q_lmul hx hb dX7_otherLasts_58 ?_
    exact q_lret (wout := _) hx hb hr hlocks hAe hK () hw (by first | exact congrArg lN (ols_t (g := g) (i := i) (h := 0) (by omega)).symm | exact congrArg lN (ols_f (g := g) (i := i) (h := 0) (by omega)).symm) dX7_otherLasts_59
set_option maxHeartbeats 4000000 in
set_option maxRecDepth 100000 in
theorem c_pc1 (l : Launch) (D : va_G) (Z : Nat → ClassId) (sz : Nat) (a t w : Nat) (p z : Nat → Nat) (g i j : Nat) (hn : 1 ≤ p 0 ∧ p 0 ≤ 8) (hal : 1 ≤ lf z (p 0) 0 ∧ lf z (p 0) 0 ≤ 24) (h9 : p 9 ≤ 99) (h10 : p 10 ≤ 99) (hg : g ≤ 8) (hi : i ≤ 8) (hj : j ≤ 8) : cMl l yX7_pairCost wsX7_pairCost (rmd 5) D Z sz [.ref a, .int (nI g), .int (nI 1), .int (nI i), .int (nI j)] [(a, .inr (2, [.ref t, .int (nI (p 9)), .int (nI (p 10)), .int (nI (p 11)), .int (nI (p 13)), .int (nI (p 14)), .int (nI (p 15)), .int (nI (p 16)), .int (nI (p 17)), .int (nI (p 12))])), (t, .inr (5, [.int (nI (p 0)), .ref w])), (w, .inl (Z 0, 9, .inl (aI z)))] (S := Unit) (fun (r : Int64) => fun (_ : Unit) => r = lN (pcs z (p 0) (p 9) (p 10) g 1 i j)) (fun (_ : Unit) => [(a, .inr (2, [.ref t, .int (nI (p 9)), .int (nI (p 10)), .int (nI (p 11)), .int (nI (p 13)), .int (nI (p 14)), .int (nI (p 15)), .int (nI (p 16)), .int (nI (p 17)), .int (nI (p 12))])), (t, .inr (5, [.int (nI (p 0)), .ref w])), (w, .inl (Z 0, 9, .inl (aI z)))]) 0 0 := by
  refine q_open (y := yX7_pairCost) (ws := wsX7_pairCost) (av := [.ref a, .int (nI g), .int (nI 1), .int (nI i), .int (nI j)]) (win := [(a, .inr (2, [.ref t, .int (nI (p 9)), .int (nI (p 10)), .int (nI (p 11)), .int (nI (p 13)), .int (nI (p 14)), .int (nI (p 15)), .int (nI (p 16)), .int (nI (p 17)), .int (nI (p 12))])), (t, .inr (5, [.int (nI (p 0)), .ref w])), (w, .inl (Z 0, 9, .inl (aI z)))]) (Qc := fun sz => cQl D Z sz [(a, .inr (2, [.ref t, .int (nI (p 9)), .int (nI (p 10)), .int (nI (p 11)), .int (nI (p 13)), .int (nI (p 14)), .int (nI (p 15)), .int (nI (p 16)), .int (nI (p 17)), .int (nI (p 12))])), (t, .inr (5, [.int (nI (p 0)), .ref w])), (w, .inl (Z 0, 9, .inl (aI z)))] (S := Unit) (fun (r : Int64) => fun (_ : Unit) => r = lN (pcs z (p 0) (p 9) (p 10) g 1 i j)) (fun (_ : Unit) => [(a, .inr (2, [.ref t, .int (nI (p 9)), .int (nI (p 10)), .int (nI (p 11)), .int (nI (p 13)), .int (nI (p 14)), .int (nI (p 15)), .int (nI (p 16)), .int (nI (p 17)), .int (nI (p 12))])), (t, .inr (5, [.int (nI (p 0)), .ref w])), (w, .inl (Z 0, 9, .inl (aI z)))])) (cc := cX7_pairCost) (maxL := 16) (ret := (some .long)) (by decide) rfl (Nat.le_of_ble_eq_true rfl) ?_
  intro pp ee s mm bw mt cd ls A H locs hAe hx hb hr hml hown hmn hts hlocks hA hK hw hl
  have hown : s.vm.findClass RX7 = some mm.cls := hown
  have hl : lv_has ls 16 [(0, .ref a), (1, .int (nI g)), (2, .int (nI 1)), (3, .int (nI i)), (4, .int (nI j))] := hl
  have wd1 := hts (.fieldLink RX7 64 "ReplaceAges$Plan" "table" "LReplaceAges$Table;") (List.mem_of_getElem? (i := 1) rfl)
  have wd2 := hts (.fieldLink RX7 67 "ReplaceAges$Table" "n" "I") (List.mem_of_getElem? (i := 2) rfl)
  have wd3 := hts (.fieldLink RX7 117 "ReplaceAges$Plan" "failure" "I") (List.mem_of_getElem? (i := 3) rfl)
  have in_X2 : ∀ w ∈ wsX20, w ∈ wsX7_pairCost := fun _ h => List.mem_cons_of_mem _ (List.mem_append_left _ (List.mem_append_right _ h))
  have in_X5 : ∀ w ∈ wsX50, w ∈ wsX7_pairCost := fun _ h => List.mem_cons_of_mem _ (List.mem_append_right _ h)
  refine lv_aload_n hx hb dX7_pairCost_0 rfl (lv_at hl 0 rfl) ?_
  refine q_get (v := .ref t) (ci := 2) hx hb hts in_X2 hown hK hw 0 0 wd1 dX7_pairCost_1 rfl rfl (by decide) rfl ?_
  refine lv_astore (lv' := [(5, .ref t), (0, .ref a), (1, .int (nI g)), (2, .int (nI 1)), (3, .int (nI i)), (4, .int (nI j))]) hx hb dX7_pairCost_4 hl (by decide) rfl (fun ls hl => ?_)
  refine lv_iload_n hx hb dX7_pairCost_6 rfl (lv_at hl 3 rfl) ?_
  refine q_if_le (tgt := 34) hx hb ((1 : Nat) : Int) (nI_toInt (by omega)) dX7_pairCost_7 (by decide) (fun c1 => ?_) (fun c1 => ?_)
  · --
    exfalso; omega
  · --
    refine lv_iload_n hx hb dX7_pairCost_10 rfl (lv_at hl 3 rfl) ?_
    refine q_iconst (v := 3) hx hb dX7_pairCost_11 (by decide) ?_
    refine q_icmp_gt (tgt := 34) hx hb ((1 : Nat) : Int) ((3 : Nat) : Int) (nI_toInt (by omega)) (nI_toInt (by omega)) dX7_pairCost_12 (by decide) (fun c2 => ?_) (fun c2 => ?_)
    · --
      exfalso; omega
    · --
      refine lv_iload_n hx hb dX7_pairCost_15 rfl (lv_at hl 4 rfl) ?_
      refine lv_aload hx hb dX7_pairCost_16 (lv_at hl 0 rfl) ?_
      refine q_get (v := .int (nI (p 0))) (ci := 5) hx hb hts in_X5 hown hK hw 1 0 wd2 dX7_pairCost_18 rfl rfl (by decide) rfl ?_
      refine q_icmp_ge (tgt := 34) hx hb ((i : Nat) : Int) ((p 0 : Nat) : Int) (nI_toInt (by omega)) (nI_toInt (by omega)) dX7_pairCost_21 (by decide) (fun c3 => ?_) (fun c3 => ?_)
      · --
        refine q_lconst (v := 0) hx hb dX7_pairCost_34 (by decide) ?_
        exact q_lret (wout := _) hx hb hr hlocks hAe hK () hw (by first | exact congrArg lN (pcs_o (h := 0) (by omega)).symm | exact congrArg lN (pcs_i (h := 0) (by omega) (by omega)).symm) dX7_pairCost_35
      · --
        refine lv_iload hx hb dX7_pairCost_24 (lv_at hl 5 rfl) ?_
        refine lv_aload hx hb dX7_pairCost_26 (lv_at hl 0 rfl) ?_
        refine q_get (v := .int (nI (p 0))) (ci := 5) hx hb hts in_X5 hown hK hw 1 0 wd2 dX7_pairCost_28 rfl rfl (by decide) rfl ?_
        refine q_icmp_lt (tgt := 36) hx hb ((j : Nat) : Int) ((p 0 : Nat) : Int) (nI_toInt (by omega)) (nI_toInt (by omega)) dX7_pairCost_31 (by decide) (fun c4 => ?_) (fun c4 => ?_)
        · --
          refine lv_aload hx hb dX7_pairCost_36 (lv_at hl 0 rfl) ?_
          refine q_calli (S := Unit) (Z := Z) (D := D) (wc := [(t, .inr (5, [.int (nI (p 0)), .ref w])), (w, .inl (Z 0, 9, .inl (aI z)))]) (wr := [(a, .inr (2, [.ref t, .int (nI (p 9)), .int (nI (p 10)), .int (nI (p 11)), .int (nI (p 13)), .int (nI (p 14)), .int (nI (p 15)), .int (nI (p 16)), .int (nI (p 17)), .int (nI (p 12))]))]) (rest := []) hw hA [1, 2] [0] rfl rfl rfl rfl (by decide) (fun hPc hDc => va_runV (As := []) (rest := []) ⟨hx, hb, hml, hown, hts⟩ (c_X5_all l D Z H.size t w (p 0) z (by first | assumption | omega)) (cwV 0 hts gX7_pairCost_X5_all rfl rfl rfl (by decide +kernel) ⟨Nat.le_of_ble_eq_true rfl, Nat.le_of_ble_eq_true rfl⟩) ⟨fb_cPre, va_recv hK.1 hPc (ci := 5) (q0 := 0) rfl rfl, pre_of hPc hK hDc⟩ rfl rfl hl.1 rfl (lv_room (Nat.le_of_ble_eq_true rfl)) dX7_pairCost_38 ⟨Nat.le_of_ble_eq_true rfl, Nat.le_of_ble_eq_true rfl⟩) (fun r5 u H locs hr5 hw => ?_)
          subst hr5
          have hw : WS D A s [(a, .inr (2, [.ref t, .int (nI (p 9)), .int (nI (p 10)), .int (nI (p 11)), .int (nI (p 13)), .int (nI (p 14)), .int (nI (p 15)), .int (nI (p 16)), .int (nI (p 17)), .int (nI (p 12))])), (t, .inr (5, [.int (nI (p 0)), .ref w])), (w, .inl (Z 0, 9, .inl (aI z)))] H locs := hw
          refine q_i2l hx hb (by omega) dX7_pairCost_41 ?_
          refine lv_lstore (lv' := [(6, .long (lN (lf z (p 0) 0))), (5, .ref t), (0, .ref a), (1, .int (nI g)), (2, .int (nI 1)), (3, .int (nI i)), (4, .int (nI j))]) hx hb dX7_pairCost_42 hl (by decide) rfl (fun ls hl => ?_)
          refine lv_aload hx hb dX7_pairCost_44 (lv_at hl 1 rfl) ?_
          refine lv_iload_n hx hb dX7_pairCost_46 rfl (lv_at hl 5 rfl) ?_
          refine q_iconst (v := 1) hx hb dX7_pairCost_47 (by decide) ?_
          refine q_iadd hx hb dX7_pairCost_48 ?_
          refine q_calli (S := Unit) (Z := Z) (D := D) (wc := [(t, .inr (5, [.int (nI (p 0)), .ref w])), (w, .inl (Z 0, 9, .inl (aI z)))]) (wr := [(a, .inr (2, [.ref t, .int (nI (p 9)), .int (nI (p 10)), .int (nI (p 11)), .int (nI (p 13)), .int (nI (p 14)), .int (nI (p 15)), .int (nI (p 16)), .int (nI (p 17)), .int (nI (p 12))]))]) (rest := []) hw hA [1, 2] [0] rfl rfl rfl rfl (by decide) (fun hPc hDc => va_runV (As := [.int (nI (i + 1))]) (rest := []) ⟨hx, hb, hml, hown, hts⟩ (c_X5_weightOf l D Z H.size t w (p 0) z (i + 1) (by first | assumption | omega) (by first | assumption | omega)) (cwV 1 hts gX7_pairCost_X5_weightOf rfl rfl rfl (by decide +kernel) ⟨Nat.le_of_ble_eq_true rfl, Nat.le_of_ble_eq_true rfl⟩) ⟨fb_cPre, va_recv hK.1 hPc (ci := 5) (q0 := 0) rfl rfl, pre_of hPc hK hDc⟩ rfl rfl hl.1 rfl (lv_room (Nat.le_of_ble_eq_true rfl)) dX7_pairCost_49 ⟨Nat.le_of_ble_eq_true rfl, Nat.le_of_ble_eq_true rfl⟩) (fun r6 u H locs hr6 hw => ?_)
          subst hr6
          have hw : WS D A s [(a, .inr (2, [.ref t, .int (nI (p 9)), .int (nI (p 10)), .int (nI (p 11)), .int (nI (p 13)), .int (nI (p 14)), .int (nI (p 15)), .int (nI (p 16)), .int (nI (p 17)), .int (nI (p 12))])), (t, .inr (5, [.int (nI (p 0)), .ref w])), (w, .inl (Z 0, 9, .inl (aI z)))] H locs := hw
          refine q_topi (x := nI (wt z (p 0) (i + 1))) (y := nI (z (i + 1))) (congrArg nI (wt_in (by omega))) ?_
          refine q_i2l hx hb (Nat.lt_of_le_of_lt (z_le (n := p 0) (by omega)) (by omega)) dX7_pairCost_52 ?_
          refine lv_lstore (lv' := [(8, .long (lN (z (i + 1)))), (6, .long (lN (lf z (p 0) 0))), (5, .ref t), (0, .ref a), (1, .int (nI g)), (2, .int (nI 1)), (3, .int (nI i)), (4, .int (nI j))]) hx hb dX7_pairCost_53 hl (by decide) rfl (fun ls hl => ?_)
          refine lv_aload hx hb dX7_pairCost_55 (lv_at hl 2 rfl) ?_
          refine lv_iload hx hb dX7_pairCost_57 (lv_at hl 7 rfl) ?_
          refine q_iconst (v := 1) hx hb dX7_pairCost_59 (by decide) ?_
          refine q_iadd hx hb dX7_pairCost_60 ?_
          refine q_calli (S := Unit) (Z := Z) (D := D) (wc := [(t, .inr (5, [.int (nI (p 0)), .ref w])), (w, .inl (Z 0, 9, .inl (aI z)))]) (wr := [(a, .inr (2, [.ref t, .int (nI (p 9)), .int (nI (p 10)), .int (nI (p 11)), .int (nI (p 13)), .int (nI (p 14)), .int (nI (p 15)), .int (nI (p 16)), .int (nI (p 17)), .int (nI (p 12))]))]) (rest := []) hw hA [1, 2] [0] rfl rfl rfl rfl (by decide) (fun hPc hDc => va_runV (As := [.int (nI (j + 1))]) (rest := []) ⟨hx, hb, hml, hown, hts⟩ (c_X5_weightOf l D Z H.size t w (p 0) z (j + 1) (by first | assumption | omega) (by first | assumption | omega)) (cwV 1 hts gX7_pairCost_X5_weightOf rfl rfl rfl (by decide +kernel) ⟨Nat.le_of_ble_eq_true rfl, Nat.le_of_ble_eq_true rfl⟩) ⟨fb_cPre, va_recv hK.1 hPc (ci := 5) (q0 := 0) rfl rfl, pre_of hPc hK hDc⟩ rfl rfl hl.1 rfl (lv_room (Nat.le_of_ble_eq_true rfl)) dX7_pairCost_61 ⟨Nat.le_of_ble_eq_true rfl, Nat.le_of_ble_eq_true rfl⟩) (fun r7 u H locs hr7 hw => ?_)
          subst hr7
          have hw : WS D A s [(a, .inr (2, [.ref t, .int (nI (p 9)), .int (nI (p 10)), .int (nI (p 11)), .int (nI (p 13)), .int (nI (p 14)), .int (nI (p 15)), .int (nI (p 16)), .int (nI (p 17)), .int (nI (p 12))])), (t, .inr (5, [.int (nI (p 0)), .ref w])), (w, .inl (Z 0, 9, .inl (aI z)))] H locs := hw
          refine q_topi (x := nI (wt z (p 0) (j + 1))) (y := nI (z (j + 1))) (congrArg nI (wt_in (by omega))) ?_
          refine q_i2l hx hb (Nat.lt_of_le_of_lt (z_le (n := p 0) (by omega)) (by omega)) dX7_pairCost_64 ?_
          refine lv_lstore (lv' := [(10, .long (lN (z (j + 1)))), (8, .long (lN (z (i + 1)))), (6, .long (lN (lf z (p 0) 0))), (5, .ref t), (0, .ref a), (1, .int (nI g)), (2, .int (nI 1)), (3, .int (nI i)), (4, .int (nI j))]) hx hb dX7_pairCost_65 hl (by decide) rfl (fun ls hl => ?_)
          refine lv_aload_n hx hb dX7_pairCost_67 rfl (lv_at hl 4 rfl) ?_
          refine lv_iload_n hx hb dX7_pairCost_68 rfl (lv_at hl 5 rfl) ?_
          refine lv_iload_n hx hb dX7_pairCost_69 rfl (lv_at hl 6 rfl) ?_
          refine q_iconst (v := 1) hx hb dX7_pairCost_70 (by decide) ?_
          refine q_isub hx hb (by omega) dX7_pairCost_71 ?_
          refine q_iconst (v := 0) hx hb dX7_pairCost_72 (by decide) ?_
          refine q_iconst (v := 0) hx hb dX7_pairCost_73 (by decide) ?_
          refine q_calll (S := Unit) (Z := Z) (D := D) (wc := [(a, .inr (2, [.ref t, .int (nI (p 9)), .int (nI (p 10)), .int (nI (p 11)), .int (nI (p 13)), .int (nI (p 14)), .int (nI (p 15)), .int (nI (p 16)), .int (nI (p 17)), .int (nI (p 12))])), (t, .inr (5, [.int (nI (p 0)), .ref w])), (w, .inl (Z 0, 9, .inl (aI z)))]) (wr := []) (rest := []) hw hA [0, 1, 2] [] rfl rfl rfl rfl (by decide) (fun hPc hDc => va_runS (As := [.ref a, .int (nI g), .int (nI 0), .int (nI 0), .int (nI 0)]) (rest := []) ⟨hx, hb, hml, hown, hts⟩ (c_pc0 l D Z H.size a t w p z g 0 0 (by first | assumption | omega) (by first | assumption | omega) (by first | assumption | omega) (by first | assumption | omega) (by first | assumption | omega) (by first | assumption | omega) (by first | assumption | omega)) (va_cwS 5 hts gX7_pairCost_X7_pairCost rfl rfl rfl (by decide +kernel) ⟨Nat.le_of_ble_eq_true rfl, Nat.le_of_ble_eq_true rfl⟩) ⟨fb_cPre, pre_of hPc hK hDc⟩ rfl rfl hl.1 rfl (lv_room (Nat.le_of_ble_eq_true rfl)) dX7_pairCost_74 ⟨Nat.le_of_ble_eq_true rfl, Nat.le_of_ble_eq_true rfl⟩) (fun r8 u H locs hr8 hw => ?_)
          subst hr8
          have hw : WS D A s [(a, .inr (2, [.ref t, .int (nI (p 9)), .int (nI (p 10)), .int (nI (p 11)), .int (nI (p 13)), .int (nI (p 14)), .int (nI (p 15)), .int (nI (p 16)), .int (nI (p 17)), .int (nI (p 12))])), (t, .inr (5, [.int (nI (p 0)), .ref w])), (w, .inl (Z 0, 9, .inl (aI z)))] H locs := hw
          refine lv_lstore (lv' := [(12, .long (lN (pcs z (p 0) (p 9) (p 10) g 0 0 0))), (10, .long (lN (z (j + 1)))), (8, .long (lN (z (i + 1)))), (6, .long (lN (lf z (p 0) 0))), (5, .ref t), (0, .ref a), (1, .int (nI g)), (2, .int (nI 1)), (3, .int (nI i)), (4, .int (nI j))]) hx hb dX7_pairCost_77 hl (by decide) rfl (fun ls hl => ?_)
          refine q_iconst (v := 2) hx hb dX7_pairCost_79 (by decide) ?_
          refine lv_aload_n hx hb dX7_pairCost_80 rfl (lv_at hl 5 rfl) ?_
          refine q_get (v := .int (nI (p 9))) (ci := 2) hx hb hts in_X2 hown hK hw 0 1 wd3 dX7_pairCost_81 rfl rfl (by decide) rfl ?_
          refine q_imul hx hb dX7_pairCost_84 ?_
          refine q_i2l hx hb (by omega) dX7_pairCost_85 ?_
          refine lv_lload hx hb dX7_pairCost_86 (lv_at hl 3 rfl) ?_
          refine q_iconst (v := 2) hx hb dX7_pairCost_88 (by decide) ?_
          refine lv_iload_n hx hb dX7_pairCost_89 rfl (lv_at hl 7 rfl) ?_
          refine q_imul hx hb dX7_pairCost_90 ?_
          refine q_calll (S := Unit) (Z := Z) (D := D) (wc := []) (wr := [(a, .inr (2, [.ref t, .int (nI (p 9)), .int (nI (p 10)), .int (nI (p 11)), .int (nI (p 13)), .int (nI (p 14)), .int (nI (p 15)), .int (nI (p 16)), .int (nI (p 17)), .int (nI (p 12))])), (t, .inr (5, [.int (nI (p 0)), .ref w])), (w, .inl (Z 0, 9, .inl (aI z)))]) (rest := [.long (lN (2 * (p 9)))]) hw hA [] [0, 1, 2] rfl rfl rfl rfl (by decide) (fun hPc hDc => va_runS (As := [.long (lN (lf z (p 0) 0)), .int (nI 2)]) (rest := [.long (lN (2 * (p 9)))]) ⟨hx, hb, hml, hown, hts⟩ (c_X7_power l D Z H.size (lf z (p 0) 0) 2 (by first | assumption | omega)) (va_cwS 2 hts gX7_pairCost_X7_power rfl rfl rfl (by decide +kernel) ⟨Nat.le_of_ble_eq_true rfl, Nat.le_of_ble_eq_true rfl⟩) ⟨fb_cPre, pre_of hPc hK hDc⟩ rfl rfl hl.1 rfl (lv_room (Nat.le_of_ble_eq_true rfl)) dX7_pairCost_91 ⟨Nat.le_of_ble_eq_true rfl, Nat.le_of_ble_eq_true rfl⟩) (fun r9 u H locs hr9 hw => ?_)
          subst hr9
          have hw : WS D A s [(a, .inr (2, [.ref t, .int (nI (p 9)), .int (nI (p 10)), .int (nI (p 11)), .int (nI (p 13)), .int (nI (p 14)), .int (nI (p 15)), .int (nI (p 16)), .int (nI (p 17)), .int (nI (p 12))])), (t, .inr (5, [.int (nI (p 0)), .ref w])), (w, .inl (Z 0, 9, .inl (aI z)))] H locs := hw
          refine q_lmul hx hb dX7_pairCost_94 ?_
          refine lv_lload hx hb dX7_pairCost_95 (lv_at hl 0 rfl) ?_
          refine q_ladd hx hb dX7_pairCost_97 ?_
          refine lv_lstore (lv' := [(14, .long (lN ((2 * (p 9)) * ((lf z (p 0) 0) ^ 2) + (pcs z (p 0) (p 9) (p 10) g 0 0 0)))), (12, .long (lN (pcs z (p 0) (p 9) (p 10) g 0 0 0))), (10, .long (lN (z (j + 1)))), (8, .long (lN (z (i + 1)))), (6, .long (lN (lf z (p 0) 0))), (5, .ref t), (0, .ref a), (1, .int (nI g)), (2, .int (nI 1)), (3, .int (nI i)), (4, .int (nI j))]) hx hb dX7_pairCost_98 hl (by decide) rfl (fun ls hl => ?_)
          refine lv_lload hx hb dX7_pairCost_100 (lv_at hl 3 rfl) ?_
          refine lv_lload hx hb dX7_pairCost_102 (lv_at hl 2 rfl) ?_
          refine q_lmul hx hb dX7_pairCost_104 ?_
          refine lv_lload hx hb dX7_pairCost_105 (lv_at hl 0 rfl) ?_
          refine q_lmul hx hb dX7_pairCost_107 ?_
          refine lv_lload hx hb dX7_pairCost_108 (lv_at hl 3 rfl) ?_
          refine lv_aload_n hx hb dX7_pairCost_110 rfl (lv_at hl 6 rfl) ?_
          refine lv_iload_n hx hb dX7_pairCost_111 rfl (lv_at hl 7 rfl) ?_
          refine lv_iload_n hx hb dX7_pairCost_112 rfl (lv_at hl 8 rfl) ?_
          refine lv_iload hx hb dX7_pairCost_113 (lv_at hl 10 rfl) ?_
          refine lv_lload hx hb dX7_pairCost_115 (lv_at hl 1 rfl) ?_
          refine q_calll (S := Unit) (Z := Z) (D := D) (wc := [(a, .inr (2, [.ref t, .int (nI (p 9)), .int (nI (p 10)), .int (nI (p 11)), .int (nI (p 13)), .int (nI (p 14)), .int (nI (p 15)), .int (nI (p 16)), .int (nI (p 17)), .int (nI (p 12))])), (t, .inr (5, [.int (nI (p 0)), .ref w])), (w, .inl (Z 0, 9, .inl (aI z)))]) (wr := []) (rest := [.long (lN (z (i + 1))), .long (lN (((z (i + 1)) * (z (j + 1))) * ((2 * (p 9)) * ((lf z (p 0) 0) ^ 2) + (pcs z (p 0) (p 9) (p 10) g 0 0 0))))]) hw hA [0, 1, 2] [] rfl rfl rfl rfl (by decide) (fun hPc hDc => va_runS (As := [.ref a, .int (nI g), .int (nI 1), .int (nI j), .long (lN (pcs z (p 0) (p 9) (p 10) g 0 0 0))]) (rest := [.long (lN (z (i + 1))), .long (lN (((z (i + 1)) * (z (j + 1))) * ((2 * (p 9)) * ((lf z (p 0) 0) ^ 2) + (pcs z (p 0) (p 9) (p 10) g 0 0 0))))]) ⟨hx, hb, hml, hown, hts⟩ (c_ol1 l D Z H.size a t w p z g j (pcs z (p 0) (p 9) (p 10) g 0 0 0) (by first | assumption | omega) (by first | assumption | omega) (by first | assumption | omega) (by first | assumption | omega) (by first | assumption | omega) (by first | assumption | omega)) (va_cwS 5 hts gX7_pairCost_X7_otherLasts rfl rfl rfl (by decide +kernel) ⟨Nat.le_of_ble_eq_true rfl, Nat.le_of_ble_eq_true rfl⟩) ⟨fb_cPre, pre_of hPc hK hDc⟩ rfl rfl hl.1 rfl (lv_room (Nat.le_of_ble_eq_true rfl)) dX7_pairCost_117 ⟨Nat.le_of_ble_eq_true rfl, Nat.le_of_ble_eq_true rfl⟩) (fun r10 u H locs hr10 hw => ?_)
          subst hr10
          have hw : WS D A s [(a, .inr (2, [.ref t, .int (nI (p 9)), .int (nI (p 10)), .int (nI (p 11)), .int (nI (p 13)), .int (nI (p 14)), .int (nI (p 15)), .int (nI (p 16)), .int (nI (p 17)), .int (nI (p 12))])), (t, .inr (5, [.int (nI (p 0)), .ref w])), (w, .inl (Z 0, 9, .inl (aI z)))] H locs := hw
          refine q_lmul hx hb dX7_pairCost_120 ?_
          refine q_ladd hx hb dX7_pairCost_121 ?_
          refine lv_lload hx hb dX7_pairCost_122 (lv_at hl 2 rfl) ?_
          refine lv_aload_n hx hb dX7_pairCost_124 rfl (lv_at hl 6 rfl) ?_
          refine lv_iload_n hx hb dX7_pairCost_125 rfl (lv_at hl 7 rfl) ?_
          refine lv_iload_n hx hb dX7_pairCost_126 rfl (lv_at hl 8 rfl) ?_
          refine lv_iload_n hx hb dX7_pairCost_127 rfl (lv_at hl 9 rfl) ?_
          refine lv_lload hx hb dX7_pairCost_128 (lv_at hl 1 rfl) ?_
          refine q_calll (S := Unit) (Z := Z) (D := D) (wc := [(a, .inr (2, [.ref t, .int (nI (p 9)), .int (nI (p 10)), .int (nI (p 11)), .int (nI (p 13)), .int (nI (p 14)), .int (nI (p 15)), .int (nI (p 16)), .int (nI (p 17)), .int (nI (p 12))])), (t, .inr (5, [.int (nI (p 0)), .ref w])), (w, .inl (Z 0, 9, .inl (aI z)))]) (wr := []) (rest := [.long (lN (z (j + 1))), .long (lN (((z (i + 1)) * (z (j + 1))) * ((2 * (p 9)) * ((lf z (p 0) 0) ^ 2) + (pcs z (p 0) (p 9) (p 10) g 0 0 0)) + ((z (i + 1)) * (ols z (p 0) (p 9) (p 10) g (pcs z (p 0) (p 9) (p 10) g 0) 0 j (pcs z (p 0) (p 9) (p 10) g 0 0 0)))))]) hw hA [0, 1, 2] [] rfl rfl rfl rfl (by decide) (fun hPc hDc => va_runS (As := [.ref a, .int (nI g), .int (nI 1), .int (nI i), .long (lN (pcs z (p 0) (p 9) (p 10) g 0 0 0))]) (rest := [.long (lN (z (j + 1))), .long (lN (((z (i + 1)) * (z (j + 1))) * ((2 * (p 9)) * ((lf z (p 0) 0) ^ 2) + (pcs z (p 0) (p 9) (p 10) g 0 0 0)) + ((z (i + 1)) * (ols z (p 0) (p 9) (p 10) g (pcs z (p 0) (p 9) (p 10) g 0) 0 j (pcs z (p 0) (p 9) (p 10) g 0 0 0)))))]) ⟨hx, hb, hml, hown, hts⟩ (c_ol1 l D Z H.size a t w p z g i (pcs z (p 0) (p 9) (p 10) g 0 0 0) (by first | assumption | omega) (by first | assumption | omega) (by first | assumption | omega) (by first | assumption | omega) (by first | assumption | omega) (by first | assumption | omega)) (va_cwS 5 hts gX7_pairCost_X7_otherLasts rfl rfl rfl (by decide +kernel) ⟨Nat.le_of_ble_eq_true rfl, Nat.le_of_ble_eq_true rfl⟩) ⟨fb_cPre, pre_of hPc hK hDc⟩ rfl rfl hl.1 rfl (lv_room (Nat.le_of_ble_eq_true rfl)) dX7_pairCost_130 ⟨Nat.le_of_ble_eq_true rfl, Nat.le_of_ble_eq_true rfl⟩) (fun r11 u H locs hr11 hw => ?_)
          subst hr11
          have hw : WS D A s [(a, .inr (2, [.ref t, .int (nI (p 9)), .int (nI (p 10)), .int (nI (p 11)), .int (nI (p 13)), .int (nI (p 14)), .int (nI (p 15)), .int (nI (p 16)), .int (nI (p 17)), .int (nI (p 12))])), (t, .inr (5, [.int (nI (p 0)), .ref w])), (w, .inl (Z 0, 9, .inl (aI z)))] H locs := hw
          refine q_lmul hx hb dX7_pairCost_133 ?_
          refine q_ladd hx hb dX7_pairCost_134 ?_
          refine lv_lload hx hb dX7_pairCost_135 (lv_at hl 4 rfl) ?_
          refine lv_lload hx hb dX7_pairCost_137 (lv_at hl 4 rfl) ?_
          refine q_lmul hx hb dX7_pairCost_139 ?_
          refine lv_aload_n hx hb dX7_pairCost_140 rfl (lv_at hl 6 rfl) ?_
          refine lv_iload_n hx hb dX7_pairCost_141 rfl (lv_at hl 7 rfl) ?_
          refine lv_iload_n hx hb dX7_pairCost_142 rfl (lv_at hl 8 rfl) ?_
          refine q_iconst (v := 1) hx hb dX7_pairCost_143 (by decide) ?_
          refine q_isub hx hb (by omega) dX7_pairCost_144 ?_
          refine lv_iload_n hx hb dX7_pairCost_145 rfl (lv_at hl 9 rfl) ?_
          refine q_iconst (v := 1) hx hb dX7_pairCost_146 (by decide) ?_
          refine q_iadd hx hb dX7_pairCost_147 ?_
          refine lv_iload hx hb dX7_pairCost_148 (lv_at hl 10 rfl) ?_
          refine q_iconst (v := 1) hx hb dX7_pairCost_150 (by decide) ?_
          refine q_iadd hx hb dX7_pairCost_151 ?_
          refine q_calll (S := Unit) (Z := Z) (D := D) (wc := [(a, .inr (2, [.ref t, .int (nI (p 9)), .int (nI (p 10)), .int (nI (p 11)), .int (nI (p 13)), .int (nI (p 14)), .int (nI (p 15)), .int (nI (p 16)), .int (nI (p 17)), .int (nI (p 12))])), (t, .inr (5, [.int (nI (p 0)), .ref w])), (w, .inl (Z 0, 9, .inl (aI z)))]) (wr := []) (rest := [.long (lN ((lf z (p 0) 0) * (lf z (p 0) 0))), .long (lN (((z (i + 1)) * (z (j + 1))) * ((2 * (p 9)) * ((lf z (p 0) 0) ^ 2) + (pcs z (p 0) (p 9) (p 10) g 0 0 0)) + ((z (i + 1)) * (ols z (p 0) (p 9) (p 10) g (pcs z (p 0) (p 9) (p 10) g 0) 0 j (pcs z (p 0) (p 9) (p 10) g 0 0 0))) + ((z (j + 1)) * (ols z (p 0) (p 9) (p 10) g (pcs z (p 0) (p 9) (p 10) g 0) 0 i (pcs z (p 0) (p 9) (p 10) g 0 0 0)))))]) hw hA [0, 1, 2] [] rfl rfl rfl rfl (by decide) (fun hPc hDc => va_runS (As := [.ref a, .int (nI g), .int (nI 0), .int (nI (i + 1)), .int (nI (j + 1))]) (rest := [.long (lN ((lf z (p 0) 0) * (lf z (p 0) 0))), .long (lN (((z (i + 1)) * (z (j + 1))) * ((2 * (p 9)) * ((lf z (p 0) 0) ^ 2) + (pcs z (p 0) (p 9) (p 10) g 0 0 0)) + ((z (i + 1)) * (ols z (p 0) (p 9) (p 10) g (pcs z (p 0) (p 9) (p 10) g 0) 0 j (pcs z (p 0) (p 9) (p 10) g 0 0 0))) + ((z (j + 1)) * (ols z (p 0) (p 9) (p 10) g (pcs z (p 0) (p 9) (p 10) g 0) 0 i (pcs z (p 0) (p 9) (p 10) g 0 0 0)))))]) ⟨hx, hb, hml, hown, hts⟩ (c_pc0 l D Z H.size a t w p z g (i + 1) (j + 1) (by first | assumption | omega) (by first | assumption | omega) (by first | assumption | omega) (by first | assumption | omega) (by first | assumption | omega) (by first | assumption | omega) (by first | assumption | omega)) (va_cwS 5 hts gX7_pairCost_X7_pairCost rfl rfl rfl (by decide +kernel) ⟨Nat.le_of_ble_eq_true rfl, Nat.le_of_ble_eq_true rfl⟩) ⟨fb_cPre, pre_of hPc hK hDc⟩ rfl rfl hl.1 rfl (lv_room (Nat.le_of_ble_eq_true rfl)) dX7_pairCost_152 ⟨Nat.le_of_ble_eq_true rfl, Nat.le_of_ble_eq_true rfl⟩) (fun r12 u H locs hr12 hw => ?_)
          subst hr12
          have hw : WS D A s [(a, .inr (2, [.ref t, .int (nI (p 9)), .int (nI (p 10)), .int (nI (p 11)), .int (nI (p 13)), .int (nI (p 14)), .int (nI (p 15)), .int (nI (p 16)), .int (nI (p 17)), .int (nI (p 12))])), (t, .inr (5, [.int (nI (p 0)), .ref w])), (w, .inl (Z 0, 9, .inl (aI z)))] H locs := hw
          refine q_lmul hx hb dX7_pairCost_155 ?_
          refine q_ladd hx hb dX7_pairCost_156 ?_
          exact q_lret (wout := _) hx hb hr hlocks hAe hK () hw (by first | exact congrArg lN (pcs_o (h := 0) (by omega)).symm | exact congrArg lN (pcs_i (h := 0) (by omega) (by omega)).symm) dX7_pairCost_157
        · --
          refine q_lconst (v := 0) hx hb dX7_pairCost_34 (by decide) ?_
          exact q_lret (wout := _) hx hb hr hlocks hAe hK () hw (by first | exact congrArg lN (pcs_o (h := 0) (by omega)).symm | exact congrArg lN (pcs_i (h := 0) (by omega) (by omega)).symm) dX7_pairCost_35
set_option maxHeartbeats 4000000 in
set_option maxRecDepth 100000 in
theorem c_ol2 (l : Launch) (D : va_G) (Z : Nat → ClassId) (sz : Nat) (a t w : Nat) (p z : Nat → Nat) (g i bn : Nat) (hn : 1 ≤ p 0 ∧ p 0 ≤ 8) (hal : 1 ≤ lf z (p 0) 0 ∧ lf z (p 0) 0 ≤ 24) (h9 : p 9 ≤ 99) (h10 : p 10 ≤ 99) (hg : g ≤ 8) (hi : i < p 0) : cMl l yX7_otherLasts wsX7_otherLasts (rmd 6) D Z sz [.ref a, .int (nI g), .int (nI 2), .int (nI i), .long (lN bn)] [(a, .inr (2, [.ref t, .int (nI (p 9)), .int (nI (p 10)), .int (nI (p 11)), .int (nI (p 13)), .int (nI (p 14)), .int (nI (p 15)), .int (nI (p 16)), .int (nI (p 17)), .int (nI (p 12))])), (t, .inr (5, [.int (nI (p 0)), .ref w])), (w, .inl (Z 0, 9, .inl (aI z)))] (S := Unit) (fun (r : Int64) => fun (_ : Unit) => r = lN (ols z (p 0) (p 9) (p 10) g (pcs z (p 0) (p 9) (p 10) g 1) 1 i bn)) (fun (_ : Unit) => [(a, .inr (2, [.ref t, .int (nI (p 9)), .int (nI (p 10)), .int (nI (p 11)), .int (nI (p 13)), .int (nI (p 14)), .int (nI (p 15)), .int (nI (p 16)), .int (nI (p 17)), .int (nI (p 12))])), (t, .inr (5, [.int (nI (p 0)), .ref w])), (w, .inl (Z 0, 9, .inl (aI z)))]) 0 0 := by
  refine q_open (y := yX7_otherLasts) (ws := wsX7_otherLasts) (av := [.ref a, .int (nI g), .int (nI 2), .int (nI i), .long (lN bn)]) (win := [(a, .inr (2, [.ref t, .int (nI (p 9)), .int (nI (p 10)), .int (nI (p 11)), .int (nI (p 13)), .int (nI (p 14)), .int (nI (p 15)), .int (nI (p 16)), .int (nI (p 17)), .int (nI (p 12))])), (t, .inr (5, [.int (nI (p 0)), .ref w])), (w, .inl (Z 0, 9, .inl (aI z)))]) (Qc := fun sz => cQl D Z sz [(a, .inr (2, [.ref t, .int (nI (p 9)), .int (nI (p 10)), .int (nI (p 11)), .int (nI (p 13)), .int (nI (p 14)), .int (nI (p 15)), .int (nI (p 16)), .int (nI (p 17)), .int (nI (p 12))])), (t, .inr (5, [.int (nI (p 0)), .ref w])), (w, .inl (Z 0, 9, .inl (aI z)))] (S := Unit) (fun (r : Int64) => fun (_ : Unit) => r = lN (ols z (p 0) (p 9) (p 10) g (pcs z (p 0) (p 9) (p 10) g 1) 1 i bn)) (fun (_ : Unit) => [(a, .inr (2, [.ref t, .int (nI (p 9)), .int (nI (p 10)), .int (nI (p 11)), .int (nI (p 13)), .int (nI (p 14)), .int (nI (p 15)), .int (nI (p 16)), .int (nI (p 17)), .int (nI (p 12))])), (t, .inr (5, [.int (nI (p 0)), .ref w])), (w, .inl (Z 0, 9, .inl (aI z)))])) (cc := cX7_otherLasts) (maxL := 12) (ret := (some .long)) (by decide) rfl (Nat.le_of_ble_eq_true rfl) ?_
  intro pp ee s mm bw mt cd ls A H locs hAe hx hb hr hml hown hmn hts hlocks hA hK hw hl
  have hown : s.vm.findClass RX7 = some mm.cls := hown
  have hl : lv_has ls 12 [(0, .ref a), (1, .int (nI g)), (2, .int (nI 2)), (3, .int (nI i)), (4, .long (lN bn))] := hl
  have wd1 := hts (.fieldLink RX7 64 "ReplaceAges$Plan" "table" "LReplaceAges$Table;") (List.mem_of_getElem? (i := 1) rfl)
  have wd2 := hts (.fieldLink RX7 117 "ReplaceAges$Plan" "failure" "I") (List.mem_of_getElem? (i := 2) rfl)
  have wd3 := hts (.fieldLink RX7 120 "ReplaceAges$Plan" "change" "I") (List.mem_of_getElem? (i := 3) rfl)
  have in_X2 : ∀ w ∈ wsX20, w ∈ wsX7_otherLasts := fun _ h => List.mem_cons_of_mem _ (List.mem_append_left _ (List.mem_append_right _ h))
  have hli := lf_anti (w := z) (n := p 0) (Nat.zero_le (i + 1))
  refine lv_aload_n hx hb dX7_otherLasts_0 rfl (lv_at hl 0 rfl) ?_
  refine q_get (v := .ref t) (ci := 2) hx hb hts in_X2 hown hK hw 0 0 wd1 dX7_otherLasts_1 rfl rfl (by decide) rfl ?_
  refine q_calli (S := Unit) (Z := Z) (D := D) (wc := [(t, .inr (5, [.int (nI (p 0)), .ref w])), (w, .inl (Z 0, 9, .inl (aI z)))]) (wr := [(a, .inr (2, [.ref t, .int (nI (p 9)), .int (nI (p 10)), .int (nI (p 11)), .int (nI (p 13)), .int (nI (p 14)), .int (nI (p 15)), .int (nI (p 16)), .int (nI (p 17)), .int (nI (p 12))]))]) (rest := []) hw hA [1, 2] [0] rfl rfl rfl rfl (by decide) (fun hPc hDc => va_runV (As := []) (rest := []) ⟨hx, hb, hml, hown, hts⟩ (c_X5_all l D Z H.size t w (p 0) z (by first | assumption | omega)) (cwV 0 hts gX7_otherLasts_X5_all rfl rfl rfl (by decide +kernel) ⟨Nat.le_of_ble_eq_true rfl, Nat.le_of_ble_eq_true rfl⟩) ⟨fb_cPre, va_recv hK.1 hPc (ci := 5) (q0 := 0) rfl rfl, pre_of hPc hK hDc⟩ rfl rfl hl.1 rfl (lv_room (Nat.le_of_ble_eq_true rfl)) dX7_otherLasts_4 ⟨Nat.le_of_ble_eq_true rfl, Nat.le_of_ble_eq_true rfl⟩) (fun r1 u H locs hr1 hw => ?_)
  subst hr1
  have hw : WS D A s [(a, .inr (2, [.ref t, .int (nI (p 9)), .int (nI (p 10)), .int (nI (p 11)), .int (nI (p 13)), .int (nI (p 14)), .int (nI (p 15)), .int (nI (p 16)), .int (nI (p 17)), .int (nI (p 12))])), (t, .inr (5, [.int (nI (p 0)), .ref w])), (w, .inl (Z 0, 9, .inl (aI z)))] H locs := hw
  refine q_i2l hx hb (by omega) dX7_otherLasts_7 ?_
  refine lv_lstore (lv' := [(6, .long (lN (lf z (p 0) 0))), (0, .ref a), (1, .int (nI g)), (2, .int (nI 2)), (3, .int (nI i)), (4, .long (lN bn))]) hx hb dX7_otherLasts_8 hl (by decide) rfl (fun ls hl => ?_)
  refine lv_aload_n hx hb dX7_otherLasts_10 rfl (lv_at hl 1 rfl) ?_
  refine q_get (v := .ref t) (ci := 2) hx hb hts in_X2 hown hK hw 0 0 wd1 dX7_otherLasts_11 rfl rfl (by decide) rfl ?_
  refine lv_iload_n hx hb dX7_otherLasts_14 rfl (lv_at hl 4 rfl) ?_
  refine q_iconst (v := 1) hx hb dX7_otherLasts_15 (by decide) ?_
  refine q_iadd hx hb dX7_otherLasts_16 ?_
  refine q_calli (S := Unit) (Z := Z) (D := D) (wc := [(t, .inr (5, [.int (nI (p 0)), .ref w])), (w, .inl (Z 0, 9, .inl (aI z)))]) (wr := [(a, .inr (2, [.ref t, .int (nI (p 9)), .int (nI (p 10)), .int (nI (p 11)), .int (nI (p 13)), .int (nI (p 14)), .int (nI (p 15)), .int (nI (p 16)), .int (nI (p 17)), .int (nI (p 12))]))]) (rest := []) hw hA [1, 2] [0] rfl rfl rfl rfl (by decide) (fun hPc hDc => va_runV (As := [.int (nI (i + 1))]) (rest := []) ⟨hx, hb, hml, hown, hts⟩ (c_X5_left l D Z H.size t w (p 0) z (i + 1) (by first | assumption | omega) (by first | assumption | omega)) (cwV 1 hts gX7_otherLasts_X5_left rfl rfl rfl (by decide +kernel) ⟨Nat.le_of_ble_eq_true rfl, Nat.le_of_ble_eq_true rfl⟩) ⟨fb_cPre, va_recv hK.1 hPc (ci := 5) (q0 := 0) rfl rfl, pre_of hPc hK hDc⟩ rfl rfl hl.1 rfl (lv_room (Nat.le_of_ble_eq_true rfl)) dX7_otherLasts_17 ⟨Nat.le_of_ble_eq_true rfl, Nat.le_of_ble_eq_true rfl⟩) (fun r2 u H locs hr2 hw => ?_)
  subst hr2
  have hw : WS D A s [(a, .inr (2, [.ref t, .int (nI (p 9)), .int (nI (p 10)), .int (nI (p 11)), .int (nI (p 13)), .int (nI (p 14)), .int (nI (p 15)), .int (nI (p 16)), .int (nI (p 17)), .int (nI (p 12))])), (t, .inr (5, [.int (nI (p 0)), .ref w])), (w, .inl (Z 0, 9, .inl (aI z)))] H locs := hw
  refine q_i2l hx hb (by omega) dX7_otherLasts_20 ?_
  refine lv_lstore (lv' := [(8, .long (lN (lf z (p 0) (i + 1)))), (6, .long (lN (lf z (p 0) 0))), (0, .ref a), (1, .int (nI g)), (2, .int (nI 2)), (3, .int (nI i)), (4, .long (lN bn))]) hx hb dX7_otherLasts_21 hl (by decide) rfl (fun ls hl => ?_)
  refine lv_lload hx hb dX7_otherLasts_23 (lv_at hl 1 rfl) ?_
  refine q_iconst (v := 2) hx hb dX7_otherLasts_25 (by decide) ?_
  refine lv_iload_n hx hb dX7_otherLasts_26 rfl (lv_at hl 4 rfl) ?_
  refine q_imul hx hb dX7_otherLasts_27 ?_
  refine q_calll (S := Unit) (Z := Z) (D := D) (wc := []) (wr := [(a, .inr (2, [.ref t, .int (nI (p 9)), .int (nI (p 10)), .int (nI (p 11)), .int (nI (p 13)), .int (nI (p 14)), .int (nI (p 15)), .int (nI (p 16)), .int (nI (p 17)), .int (nI (p 12))])), (t, .inr (5, [.int (nI (p 0)), .ref w])), (w, .inl (Z 0, 9, .inl (aI z)))]) (rest := []) hw hA [] [0, 1, 2] rfl rfl rfl rfl (by decide) (fun hPc hDc => va_runS (As := [.long (lN (lf z (p 0) 0)), .int (nI 4)]) (rest := []) ⟨hx, hb, hml, hown, hts⟩ (c_X7_power l D Z H.size (lf z (p 0) 0) 4 (by first | assumption | omega)) (va_cwS 2 hts gX7_otherLasts_X7_power rfl rfl rfl (by decide +kernel) ⟨Nat.le_of_ble_eq_true rfl, Nat.le_of_ble_eq_true rfl⟩) ⟨fb_cPre, pre_of hPc hK hDc⟩ rfl rfl hl.1 rfl (lv_room (Nat.le_of_ble_eq_true rfl)) dX7_otherLasts_28 ⟨Nat.le_of_ble_eq_true rfl, Nat.le_of_ble_eq_true rfl⟩) (fun r3 u H locs hr3 hw => ?_)
  subst hr3
  have hw : WS D A s [(a, .inr (2, [.ref t, .int (nI (p 9)), .int (nI (p 10)), .int (nI (p 11)), .int (nI (p 13)), .int (nI (p 14)), .int (nI (p 15)), .int (nI (p 16)), .int (nI (p 17)), .int (nI (p 12))])), (t, .inr (5, [.int (nI (p 0)), .ref w])), (w, .inl (Z 0, 9, .inl (aI z)))] H locs := hw
  refine lv_lstore (lv' := [(10, .long (lN ((lf z (p 0) 0) ^ 4))), (8, .long (lN (lf z (p 0) (i + 1)))), (6, .long (lN (lf z (p 0) 0))), (0, .ref a), (1, .int (nI g)), (2, .int (nI 2)), (3, .int (nI i)), (4, .long (lN bn))]) hx hb dX7_otherLasts_31 hl (by decide) rfl (fun ls hl => ?_)
  refine lv_iload_n hx hb dX7_otherLasts_33 rfl (lv_at hl 6 rfl) ?_
  refine q_iconst (v := 1) hx hb dX7_otherLasts_34 (by decide) ?_
  refine q_iadd hx hb dX7_otherLasts_35 ?_
  refine lv_iload_n hx hb dX7_otherLasts_36 rfl (lv_at hl 4 rfl) ?_
  refine q_icmp_lt (tgt := 60) hx hb ((i + 1 : Nat) : Int) ((g : Nat) : Int) (nI_toInt (by omega)) (nI_toInt (by omega)) dX7_otherLasts_37 (by decide) (fun c4 => ?_) (fun c4 => ?_)
  · --
    refine lv_lload hx hb dX7_otherLasts_60 (lv_at hl 1 rfl) ?_
    refine lv_aload_n hx hb dX7_otherLasts_62 rfl (lv_at hl 3 rfl) ?_
    refine q_get (v := .int (nI (p 9))) (ci := 2) hx hb hts in_X2 hown hK hw 0 1 wd2 dX7_otherLasts_63 rfl rfl (by decide) rfl ?_
    refine q_i2l hx hb (by omega) dX7_otherLasts_66 ?_
    refine q_lmul hx hb dX7_otherLasts_67 ?_
    refine lv_lload hx hb dX7_otherLasts_68 (lv_at hl 0 rfl) ?_
    refine q_lmul hx hb dX7_otherLasts_70 ?_
    refine lv_lload hx hb dX7_otherLasts_71 (lv_at hl 2 rfl) ?_
    refine lv_aload_n hx hb dX7_otherLasts_73 rfl (lv_at hl 3 rfl) ?_
    refine lv_iload_n hx hb dX7_otherLasts_74 rfl (lv_at hl 4 rfl) ?_
    refine lv_iload_n hx hb dX7_otherLasts_75 rfl (lv_at hl 5 rfl) ?_
    refine q_iconst (v := 1) hx hb dX7_otherLasts_76 (by decide) ?_
    refine q_isub hx hb (by omega) dX7_otherLasts_77 ?_
    refine q_iconst (v := 0) hx hb dX7_otherLasts_78 (by decide) ?_
    refine lv_iload_n hx hb dX7_otherLasts_79 rfl (lv_at hl 6 rfl) ?_
    refine q_iconst (v := 1) hx hb dX7_otherLasts_80 (by decide) ?_
    refine q_iadd hx hb dX7_otherLasts_81 ?_
    refine q_calll (S := Unit) (Z := Z) (D := D) (wc := [(a, .inr (2, [.ref t, .int (nI (p 9)), .int (nI (p 10)), .int (nI (p 11)), .int (nI (p 13)), .int (nI (p 14)), .int (nI (p 15)), .int (nI (p 16)), .int (nI (p 17)), .int (nI (p 12))])), (t, .inr (5, [.int (nI (p 0)), .ref w])), (w, .inl (Z 0, 9, .inl (aI z)))]) (wr := []) (rest := [.long (lN (lf z (p 0) 0)), .long (lN (((lf z (p 0) (i + 1)) * (p 9)) * ((lf z (p 0) 0) ^ 4)))]) hw hA [0, 1, 2] [] rfl rfl rfl rfl (by decide) (fun hPc hDc => va_runS (As := [.ref a, .int (nI g), .int (nI 1), .int (nI 0), .int (nI (i + 1))]) (rest := [.long (lN (lf z (p 0) 0)), .long (lN (((lf z (p 0) (i + 1)) * (p 9)) * ((lf z (p 0) 0) ^ 4)))]) ⟨hx, hb, hml, hown, hts⟩ (c_pc1 l D Z H.size a t w p z g 0 (i + 1) (by first | assumption | omega) (by first | assumption | omega) (by first | assumption | omega) (by first | assumption | omega) (by first | assumption | omega) (by first | assumption | omega) (by first | assumption | omega)) (va_cwS 5 hts gX7_otherLasts_X7_pairCost rfl rfl rfl (by decide +kernel) ⟨Nat.le_of_ble_eq_true rfl, Nat.le_of_ble_eq_true rfl⟩) ⟨fb_cPre, pre_of hPc hK hDc⟩ rfl rfl hl.1 rfl (lv_room (Nat.le_of_ble_eq_true rfl)) dX7_otherLasts_82 ⟨Nat.le_of_ble_eq_true rfl, Nat.le_of_ble_eq_true rfl⟩) (fun r5 u H locs hr5 hw => ?_)
    subst hr5
    have hw : WS D A s [(a, .inr (2, [.ref t, .int (nI (p 9)), .int (nI (p 10)), .int (nI (p 11)), .int (nI (p 13)), .int (nI (p 14)), .int (nI (p 15)), .int (nI (p 16)), .int (nI (p 17)), .int (nI (p 12))])), (t, .inr (5, [.int (nI (p 0)), .ref w])), (w, .inl (Z 0, 9, .inl (aI z)))] H locs := hw
    refine q_lmul hx hb dX7_otherLasts_85 ?_
    refine q_ladd hx hb dX7_otherLasts_86 ?_
    exact q_lret (wout := _) hx hb hr hlocks hAe hK () hw (by first | exact congrArg lN (ols_t (g := g) (i := i) (h := 1) (by omega)).symm | exact congrArg lN (ols_f (g := g) (i := i) (h := 1) (by omega)).symm) dX7_otherLasts_87
  · --
    refine lv_lload hx hb dX7_otherLasts_40 (lv_at hl 1 rfl) ?_
    refine lv_aload_n hx hb dX7_otherLasts_42 rfl (lv_at hl 3 rfl) ?_
    refine q_get (v := .int (nI (p 9))) (ci := 2) hx hb hts in_X2 hown hK hw 0 1 wd2 dX7_otherLasts_43 rfl rfl (by decide) rfl ?_
    refine lv_aload_n hx hb dX7_otherLasts_46 rfl (lv_at hl 3 rfl) ?_
    refine q_get (v := .int (nI (p 10))) (ci := 2) hx hb hts in_X2 hown hK hw 0 2 wd3 dX7_otherLasts_47 rfl rfl (by decide) rfl ?_
    refine q_iadd hx hb dX7_otherLasts_50 ?_
    refine q_i2l hx hb (by omega) dX7_otherLasts_51 ?_
    refine lv_lload hx hb dX7_otherLasts_52 (lv_at hl 0 rfl) ?_
    refine q_lmul hx hb dX7_otherLasts_54 ?_
    refine lv_lload hx hb dX7_otherLasts_55 (lv_at hl 7 rfl) ?_
    refine q_ladd hx hb dX7_otherLasts_57 ?_
    refine q_lmul hx hb dX7_otherLasts_58 ?_
    exact q_lret (wout := _) hx hb hr hlocks hAe hK () hw (by first | exact congrArg lN (ols_t (g := g) (i := i) (h := 1) (by omega)).symm | exact congrArg lN (ols_f (g := g) (i := i) (h := 1) (by omega)).symm) dX7_otherLasts_59
set_option maxHeartbeats 4000000 in
set_option maxRecDepth 100000 in
theorem c_pc2 (l : Launch) (D : va_G) (Z : Nat → ClassId) (sz : Nat) (a t w : Nat) (p z : Nat → Nat) (g i j : Nat) (hn : 1 ≤ p 0 ∧ p 0 ≤ 8) (hal : 1 ≤ lf z (p 0) 0 ∧ lf z (p 0) 0 ≤ 24) (h9 : p 9 ≤ 99) (h10 : p 10 ≤ 99) (hg : g ≤ 8) (hi : i ≤ 8) (hj : j ≤ 8) : cMl l yX7_pairCost wsX7_pairCost (rmd 7) D Z sz [.ref a, .int (nI g), .int (nI 2), .int (nI i), .int (nI j)] [(a, .inr (2, [.ref t, .int (nI (p 9)), .int (nI (p 10)), .int (nI (p 11)), .int (nI (p 13)), .int (nI (p 14)), .int (nI (p 15)), .int (nI (p 16)), .int (nI (p 17)), .int (nI (p 12))])), (t, .inr (5, [.int (nI (p 0)), .ref w])), (w, .inl (Z 0, 9, .inl (aI z)))] (S := Unit) (fun (r : Int64) => fun (_ : Unit) => r = lN (pcs z (p 0) (p 9) (p 10) g 2 i j)) (fun (_ : Unit) => [(a, .inr (2, [.ref t, .int (nI (p 9)), .int (nI (p 10)), .int (nI (p 11)), .int (nI (p 13)), .int (nI (p 14)), .int (nI (p 15)), .int (nI (p 16)), .int (nI (p 17)), .int (nI (p 12))])), (t, .inr (5, [.int (nI (p 0)), .ref w])), (w, .inl (Z 0, 9, .inl (aI z)))]) 0 0 := by
  refine q_open (y := yX7_pairCost) (ws := wsX7_pairCost) (av := [.ref a, .int (nI g), .int (nI 2), .int (nI i), .int (nI j)]) (win := [(a, .inr (2, [.ref t, .int (nI (p 9)), .int (nI (p 10)), .int (nI (p 11)), .int (nI (p 13)), .int (nI (p 14)), .int (nI (p 15)), .int (nI (p 16)), .int (nI (p 17)), .int (nI (p 12))])), (t, .inr (5, [.int (nI (p 0)), .ref w])), (w, .inl (Z 0, 9, .inl (aI z)))]) (Qc := fun sz => cQl D Z sz [(a, .inr (2, [.ref t, .int (nI (p 9)), .int (nI (p 10)), .int (nI (p 11)), .int (nI (p 13)), .int (nI (p 14)), .int (nI (p 15)), .int (nI (p 16)), .int (nI (p 17)), .int (nI (p 12))])), (t, .inr (5, [.int (nI (p 0)), .ref w])), (w, .inl (Z 0, 9, .inl (aI z)))] (S := Unit) (fun (r : Int64) => fun (_ : Unit) => r = lN (pcs z (p 0) (p 9) (p 10) g 2 i j)) (fun (_ : Unit) => [(a, .inr (2, [.ref t, .int (nI (p 9)), .int (nI (p 10)), .int (nI (p 11)), .int (nI (p 13)), .int (nI (p 14)), .int (nI (p 15)), .int (nI (p 16)), .int (nI (p 17)), .int (nI (p 12))])), (t, .inr (5, [.int (nI (p 0)), .ref w])), (w, .inl (Z 0, 9, .inl (aI z)))])) (cc := cX7_pairCost) (maxL := 16) (ret := (some .long)) (by decide) rfl (Nat.le_of_ble_eq_true rfl) ?_
  intro pp ee s mm bw mt cd ls A H locs hAe hx hb hr hml hown hmn hts hlocks hA hK hw hl
  have hown : s.vm.findClass RX7 = some mm.cls := hown
  have hl : lv_has ls 16 [(0, .ref a), (1, .int (nI g)), (2, .int (nI 2)), (3, .int (nI i)), (4, .int (nI j))] := hl
  have wd1 := hts (.fieldLink RX7 64 "ReplaceAges$Plan" "table" "LReplaceAges$Table;") (List.mem_of_getElem? (i := 1) rfl)
  have wd2 := hts (.fieldLink RX7 67 "ReplaceAges$Table" "n" "I") (List.mem_of_getElem? (i := 2) rfl)
  have wd3 := hts (.fieldLink RX7 117 "ReplaceAges$Plan" "failure" "I") (List.mem_of_getElem? (i := 3) rfl)
  have in_X2 : ∀ w ∈ wsX20, w ∈ wsX7_pairCost := fun _ h => List.mem_cons_of_mem _ (List.mem_append_left _ (List.mem_append_right _ h))
  have in_X5 : ∀ w ∈ wsX50, w ∈ wsX7_pairCost := fun _ h => List.mem_cons_of_mem _ (List.mem_append_right _ h)
  refine lv_aload_n hx hb dX7_pairCost_0 rfl (lv_at hl 0 rfl) ?_
  refine q_get (v := .ref t) (ci := 2) hx hb hts in_X2 hown hK hw 0 0 wd1 dX7_pairCost_1 rfl rfl (by decide) rfl ?_
  refine lv_astore (lv' := [(5, .ref t), (0, .ref a), (1, .int (nI g)), (2, .int (nI 2)), (3, .int (nI i)), (4, .int (nI j))]) hx hb dX7_pairCost_4 hl (by decide) rfl (fun ls hl => ?_)
  refine lv_iload_n hx hb dX7_pairCost_6 rfl (lv_at hl 3 rfl) ?_
  refine q_if_le (tgt := 34) hx hb ((2 : Nat) : Int) (nI_toInt (by omega)) dX7_pairCost_7 (by decide) (fun c1 => ?_) (fun c1 => ?_)
  · --
    exfalso; omega
  · --
    refine lv_iload_n hx hb dX7_pairCost_10 rfl (lv_at hl 3 rfl) ?_
    refine q_iconst (v := 3) hx hb dX7_pairCost_11 (by decide) ?_
    refine q_icmp_gt (tgt := 34) hx hb ((2 : Nat) : Int) ((3 : Nat) : Int) (nI_toInt (by omega)) (nI_toInt (by omega)) dX7_pairCost_12 (by decide) (fun c2 => ?_) (fun c2 => ?_)
    · --
      exfalso; omega
    · --
      refine lv_iload_n hx hb dX7_pairCost_15 rfl (lv_at hl 4 rfl) ?_
      refine lv_aload hx hb dX7_pairCost_16 (lv_at hl 0 rfl) ?_
      refine q_get (v := .int (nI (p 0))) (ci := 5) hx hb hts in_X5 hown hK hw 1 0 wd2 dX7_pairCost_18 rfl rfl (by decide) rfl ?_
      refine q_icmp_ge (tgt := 34) hx hb ((i : Nat) : Int) ((p 0 : Nat) : Int) (nI_toInt (by omega)) (nI_toInt (by omega)) dX7_pairCost_21 (by decide) (fun c3 => ?_) (fun c3 => ?_)
      · --
        refine q_lconst (v := 0) hx hb dX7_pairCost_34 (by decide) ?_
        exact q_lret (wout := _) hx hb hr hlocks hAe hK () hw (by first | exact congrArg lN (pcs_o (h := 1) (by omega)).symm | exact congrArg lN (pcs_i (h := 1) (by omega) (by omega)).symm) dX7_pairCost_35
      · --
        refine lv_iload hx hb dX7_pairCost_24 (lv_at hl 5 rfl) ?_
        refine lv_aload hx hb dX7_pairCost_26 (lv_at hl 0 rfl) ?_
        refine q_get (v := .int (nI (p 0))) (ci := 5) hx hb hts in_X5 hown hK hw 1 0 wd2 dX7_pairCost_28 rfl rfl (by decide) rfl ?_
        refine q_icmp_lt (tgt := 36) hx hb ((j : Nat) : Int) ((p 0 : Nat) : Int) (nI_toInt (by omega)) (nI_toInt (by omega)) dX7_pairCost_31 (by decide) (fun c4 => ?_) (fun c4 => ?_)
        · --
          refine lv_aload hx hb dX7_pairCost_36 (lv_at hl 0 rfl) ?_
          refine q_calli (S := Unit) (Z := Z) (D := D) (wc := [(t, .inr (5, [.int (nI (p 0)), .ref w])), (w, .inl (Z 0, 9, .inl (aI z)))]) (wr := [(a, .inr (2, [.ref t, .int (nI (p 9)), .int (nI (p 10)), .int (nI (p 11)), .int (nI (p 13)), .int (nI (p 14)), .int (nI (p 15)), .int (nI (p 16)), .int (nI (p 17)), .int (nI (p 12))]))]) (rest := []) hw hA [1, 2] [0] rfl rfl rfl rfl (by decide) (fun hPc hDc => va_runV (As := []) (rest := []) ⟨hx, hb, hml, hown, hts⟩ (c_X5_all l D Z H.size t w (p 0) z (by first | assumption | omega)) (cwV 0 hts gX7_pairCost_X5_all rfl rfl rfl (by decide +kernel) ⟨Nat.le_of_ble_eq_true rfl, Nat.le_of_ble_eq_true rfl⟩) ⟨fb_cPre, va_recv hK.1 hPc (ci := 5) (q0 := 0) rfl rfl, pre_of hPc hK hDc⟩ rfl rfl hl.1 rfl (lv_room (Nat.le_of_ble_eq_true rfl)) dX7_pairCost_38 ⟨Nat.le_of_ble_eq_true rfl, Nat.le_of_ble_eq_true rfl⟩) (fun r5 u H locs hr5 hw => ?_)
          subst hr5
          have hw : WS D A s [(a, .inr (2, [.ref t, .int (nI (p 9)), .int (nI (p 10)), .int (nI (p 11)), .int (nI (p 13)), .int (nI (p 14)), .int (nI (p 15)), .int (nI (p 16)), .int (nI (p 17)), .int (nI (p 12))])), (t, .inr (5, [.int (nI (p 0)), .ref w])), (w, .inl (Z 0, 9, .inl (aI z)))] H locs := hw
          refine q_i2l hx hb (by omega) dX7_pairCost_41 ?_
          refine lv_lstore (lv' := [(6, .long (lN (lf z (p 0) 0))), (5, .ref t), (0, .ref a), (1, .int (nI g)), (2, .int (nI 2)), (3, .int (nI i)), (4, .int (nI j))]) hx hb dX7_pairCost_42 hl (by decide) rfl (fun ls hl => ?_)
          refine lv_aload hx hb dX7_pairCost_44 (lv_at hl 1 rfl) ?_
          refine lv_iload_n hx hb dX7_pairCost_46 rfl (lv_at hl 5 rfl) ?_
          refine q_iconst (v := 1) hx hb dX7_pairCost_47 (by decide) ?_
          refine q_iadd hx hb dX7_pairCost_48 ?_
          refine q_calli (S := Unit) (Z := Z) (D := D) (wc := [(t, .inr (5, [.int (nI (p 0)), .ref w])), (w, .inl (Z 0, 9, .inl (aI z)))]) (wr := [(a, .inr (2, [.ref t, .int (nI (p 9)), .int (nI (p 10)), .int (nI (p 11)), .int (nI (p 13)), .int (nI (p 14)), .int (nI (p 15)), .int (nI (p 16)), .int (nI (p 17)), .int (nI (p 12))]))]) (rest := []) hw hA [1, 2] [0] rfl rfl rfl rfl (by decide) (fun hPc hDc => va_runV (As := [.int (nI (i + 1))]) (rest := []) ⟨hx, hb, hml, hown, hts⟩ (c_X5_weightOf l D Z H.size t w (p 0) z (i + 1) (by first | assumption | omega) (by first | assumption | omega)) (cwV 1 hts gX7_pairCost_X5_weightOf rfl rfl rfl (by decide +kernel) ⟨Nat.le_of_ble_eq_true rfl, Nat.le_of_ble_eq_true rfl⟩) ⟨fb_cPre, va_recv hK.1 hPc (ci := 5) (q0 := 0) rfl rfl, pre_of hPc hK hDc⟩ rfl rfl hl.1 rfl (lv_room (Nat.le_of_ble_eq_true rfl)) dX7_pairCost_49 ⟨Nat.le_of_ble_eq_true rfl, Nat.le_of_ble_eq_true rfl⟩) (fun r6 u H locs hr6 hw => ?_)
          subst hr6
          have hw : WS D A s [(a, .inr (2, [.ref t, .int (nI (p 9)), .int (nI (p 10)), .int (nI (p 11)), .int (nI (p 13)), .int (nI (p 14)), .int (nI (p 15)), .int (nI (p 16)), .int (nI (p 17)), .int (nI (p 12))])), (t, .inr (5, [.int (nI (p 0)), .ref w])), (w, .inl (Z 0, 9, .inl (aI z)))] H locs := hw
          refine q_topi (x := nI (wt z (p 0) (i + 1))) (y := nI (z (i + 1))) (congrArg nI (wt_in (by omega))) ?_
          refine q_i2l hx hb (Nat.lt_of_le_of_lt (z_le (n := p 0) (by omega)) (by omega)) dX7_pairCost_52 ?_
          refine lv_lstore (lv' := [(8, .long (lN (z (i + 1)))), (6, .long (lN (lf z (p 0) 0))), (5, .ref t), (0, .ref a), (1, .int (nI g)), (2, .int (nI 2)), (3, .int (nI i)), (4, .int (nI j))]) hx hb dX7_pairCost_53 hl (by decide) rfl (fun ls hl => ?_)
          refine lv_aload hx hb dX7_pairCost_55 (lv_at hl 2 rfl) ?_
          refine lv_iload hx hb dX7_pairCost_57 (lv_at hl 7 rfl) ?_
          refine q_iconst (v := 1) hx hb dX7_pairCost_59 (by decide) ?_
          refine q_iadd hx hb dX7_pairCost_60 ?_
          refine q_calli (S := Unit) (Z := Z) (D := D) (wc := [(t, .inr (5, [.int (nI (p 0)), .ref w])), (w, .inl (Z 0, 9, .inl (aI z)))]) (wr := [(a, .inr (2, [.ref t, .int (nI (p 9)), .int (nI (p 10)), .int (nI (p 11)), .int (nI (p 13)), .int (nI (p 14)), .int (nI (p 15)), .int (nI (p 16)), .int (nI (p 17)), .int (nI (p 12))]))]) (rest := []) hw hA [1, 2] [0] rfl rfl rfl rfl (by decide) (fun hPc hDc => va_runV (As := [.int (nI (j + 1))]) (rest := []) ⟨hx, hb, hml, hown, hts⟩ (c_X5_weightOf l D Z H.size t w (p 0) z (j + 1) (by first | assumption | omega) (by first | assumption | omega)) (cwV 1 hts gX7_pairCost_X5_weightOf rfl rfl rfl (by decide +kernel) ⟨Nat.le_of_ble_eq_true rfl, Nat.le_of_ble_eq_true rfl⟩) ⟨fb_cPre, va_recv hK.1 hPc (ci := 5) (q0 := 0) rfl rfl, pre_of hPc hK hDc⟩ rfl rfl hl.1 rfl (lv_room (Nat.le_of_ble_eq_true rfl)) dX7_pairCost_61 ⟨Nat.le_of_ble_eq_true rfl, Nat.le_of_ble_eq_true rfl⟩) (fun r7 u H locs hr7 hw => ?_)
          subst hr7
          have hw : WS D A s [(a, .inr (2, [.ref t, .int (nI (p 9)), .int (nI (p 10)), .int (nI (p 11)), .int (nI (p 13)), .int (nI (p 14)), .int (nI (p 15)), .int (nI (p 16)), .int (nI (p 17)), .int (nI (p 12))])), (t, .inr (5, [.int (nI (p 0)), .ref w])), (w, .inl (Z 0, 9, .inl (aI z)))] H locs := hw
          refine q_topi (x := nI (wt z (p 0) (j + 1))) (y := nI (z (j + 1))) (congrArg nI (wt_in (by omega))) ?_
          refine q_i2l hx hb (Nat.lt_of_le_of_lt (z_le (n := p 0) (by omega)) (by omega)) dX7_pairCost_64 ?_
          refine lv_lstore (lv' := [(10, .long (lN (z (j + 1)))), (8, .long (lN (z (i + 1)))), (6, .long (lN (lf z (p 0) 0))), (5, .ref t), (0, .ref a), (1, .int (nI g)), (2, .int (nI 2)), (3, .int (nI i)), (4, .int (nI j))]) hx hb dX7_pairCost_65 hl (by decide) rfl (fun ls hl => ?_)
          refine lv_aload_n hx hb dX7_pairCost_67 rfl (lv_at hl 4 rfl) ?_
          refine lv_iload_n hx hb dX7_pairCost_68 rfl (lv_at hl 5 rfl) ?_
          refine lv_iload_n hx hb dX7_pairCost_69 rfl (lv_at hl 6 rfl) ?_
          refine q_iconst (v := 1) hx hb dX7_pairCost_70 (by decide) ?_
          refine q_isub hx hb (by omega) dX7_pairCost_71 ?_
          refine q_iconst (v := 0) hx hb dX7_pairCost_72 (by decide) ?_
          refine q_iconst (v := 0) hx hb dX7_pairCost_73 (by decide) ?_
          refine q_calll (S := Unit) (Z := Z) (D := D) (wc := [(a, .inr (2, [.ref t, .int (nI (p 9)), .int (nI (p 10)), .int (nI (p 11)), .int (nI (p 13)), .int (nI (p 14)), .int (nI (p 15)), .int (nI (p 16)), .int (nI (p 17)), .int (nI (p 12))])), (t, .inr (5, [.int (nI (p 0)), .ref w])), (w, .inl (Z 0, 9, .inl (aI z)))]) (wr := []) (rest := []) hw hA [0, 1, 2] [] rfl rfl rfl rfl (by decide) (fun hPc hDc => va_runS (As := [.ref a, .int (nI g), .int (nI 1), .int (nI 0), .int (nI 0)]) (rest := []) ⟨hx, hb, hml, hown, hts⟩ (c_pc1 l D Z H.size a t w p z g 0 0 (by first | assumption | omega) (by first | assumption | omega) (by first | assumption | omega) (by first | assumption | omega) (by first | assumption | omega) (by first | assumption | omega) (by first | assumption | omega)) (va_cwS 5 hts gX7_pairCost_X7_pairCost rfl rfl rfl (by decide +kernel) ⟨Nat.le_of_ble_eq_true rfl, Nat.le_of_ble_eq_true rfl⟩) ⟨fb_cPre, pre_of hPc hK hDc⟩ rfl rfl hl.1 rfl (lv_room (Nat.le_of_ble_eq_true rfl)) dX7_pairCost_74 ⟨Nat.le_of_ble_eq_true rfl, Nat.le_of_ble_eq_true rfl⟩) (fun r8 u H locs hr8 hw => ?_)
          subst hr8
          have hw : WS D A s [(a, .inr (2, [.ref t, .int (nI (p 9)), .int (nI (p 10)), .int (nI (p 11)), .int (nI (p 13)), .int (nI (p 14)), .int (nI (p 15)), .int (nI (p 16)), .int (nI (p 17)), .int (nI (p 12))])), (t, .inr (5, [.int (nI (p 0)), .ref w])), (w, .inl (Z 0, 9, .inl (aI z)))] H locs := hw
          refine lv_lstore (lv' := [(12, .long (lN (pcs z (p 0) (p 9) (p 10) g 1 0 0))), (10, .long (lN (z (j + 1)))), (8, .long (lN (z (i + 1)))), (6, .long (lN (lf z (p 0) 0))), (5, .ref t), (0, .ref a), (1, .int (nI g)), (2, .int (nI 2)), (3, .int (nI i)), (4, .int (nI j))]) hx hb dX7_pairCost_77 hl (by decide) rfl (fun ls hl => ?_)
          refine q_iconst (v := 2) hx hb dX7_pairCost_79 (by decide) ?_
          refine lv_aload_n hx hb dX7_pairCost_80 rfl (lv_at hl 5 rfl) ?_
          refine q_get (v := .int (nI (p 9))) (ci := 2) hx hb hts in_X2 hown hK hw 0 1 wd3 dX7_pairCost_81 rfl rfl (by decide) rfl ?_
          refine q_imul hx hb dX7_pairCost_84 ?_
          refine q_i2l hx hb (by omega) dX7_pairCost_85 ?_
          refine lv_lload hx hb dX7_pairCost_86 (lv_at hl 3 rfl) ?_
          refine q_iconst (v := 2) hx hb dX7_pairCost_88 (by decide) ?_
          refine lv_iload_n hx hb dX7_pairCost_89 rfl (lv_at hl 7 rfl) ?_
          refine q_imul hx hb dX7_pairCost_90 ?_
          refine q_calll (S := Unit) (Z := Z) (D := D) (wc := []) (wr := [(a, .inr (2, [.ref t, .int (nI (p 9)), .int (nI (p 10)), .int (nI (p 11)), .int (nI (p 13)), .int (nI (p 14)), .int (nI (p 15)), .int (nI (p 16)), .int (nI (p 17)), .int (nI (p 12))])), (t, .inr (5, [.int (nI (p 0)), .ref w])), (w, .inl (Z 0, 9, .inl (aI z)))]) (rest := [.long (lN (2 * (p 9)))]) hw hA [] [0, 1, 2] rfl rfl rfl rfl (by decide) (fun hPc hDc => va_runS (As := [.long (lN (lf z (p 0) 0)), .int (nI 4)]) (rest := [.long (lN (2 * (p 9)))]) ⟨hx, hb, hml, hown, hts⟩ (c_X7_power l D Z H.size (lf z (p 0) 0) 4 (by first | assumption | omega)) (va_cwS 2 hts gX7_pairCost_X7_power rfl rfl rfl (by decide +kernel) ⟨Nat.le_of_ble_eq_true rfl, Nat.le_of_ble_eq_true rfl⟩) ⟨fb_cPre, pre_of hPc hK hDc⟩ rfl rfl hl.1 rfl (lv_room (Nat.le_of_ble_eq_true rfl)) dX7_pairCost_91 ⟨Nat.le_of_ble_eq_true rfl, Nat.le_of_ble_eq_true rfl⟩) (fun r9 u H locs hr9 hw => ?_)
          subst hr9
          have hw : WS D A s [(a, .inr (2, [.ref t, .int (nI (p 9)), .int (nI (p 10)), .int (nI (p 11)), .int (nI (p 13)), .int (nI (p 14)), .int (nI (p 15)), .int (nI (p 16)), .int (nI (p 17)), .int (nI (p 12))])), (t, .inr (5, [.int (nI (p 0)), .ref w])), (w, .inl (Z 0, 9, .inl (aI z)))] H locs := hw
          refine q_lmul hx hb dX7_pairCost_94 ?_
          refine lv_lload hx hb dX7_pairCost_95 (lv_at hl 0 rfl) ?_
          refine q_ladd hx hb dX7_pairCost_97 ?_
          refine lv_lstore (lv' := [(14, .long (lN ((2 * (p 9)) * ((lf z (p 0) 0) ^ 4) + (pcs z (p 0) (p 9) (p 10) g 1 0 0)))), (12, .long (lN (pcs z (p 0) (p 9) (p 10) g 1 0 0))), (10, .long (lN (z (j + 1)))), (8, .long (lN (z (i + 1)))), (6, .long (lN (lf z (p 0) 0))), (5, .ref t), (0, .ref a), (1, .int (nI g)), (2, .int (nI 2)), (3, .int (nI i)), (4, .int (nI j))]) hx hb dX7_pairCost_98 hl (by decide) rfl (fun ls hl => ?_)
          refine lv_lload hx hb dX7_pairCost_100 (lv_at hl 3 rfl) ?_
          refine lv_lload hx hb dX7_pairCost_102 (lv_at hl 2 rfl) ?_
          refine q_lmul hx hb dX7_pairCost_104 ?_
          refine lv_lload hx hb dX7_pairCost_105 (lv_at hl 0 rfl) ?_
          refine q_lmul hx hb dX7_pairCost_107 ?_
          refine lv_lload hx hb dX7_pairCost_108 (lv_at hl 3 rfl) ?_
          refine lv_aload_n hx hb dX7_pairCost_110 rfl (lv_at hl 6 rfl) ?_
          refine lv_iload_n hx hb dX7_pairCost_111 rfl (lv_at hl 7 rfl) ?_
          refine lv_iload_n hx hb dX7_pairCost_112 rfl (lv_at hl 8 rfl) ?_
          refine lv_iload hx hb dX7_pairCost_113 (lv_at hl 10 rfl) ?_
          refine lv_lload hx hb dX7_pairCost_115 (lv_at hl 1 rfl) ?_
          refine q_calll (S := Unit) (Z := Z) (D := D) (wc := [(a, .inr (2, [.ref t, .int (nI (p 9)), .int (nI (p 10)), .int (nI (p 11)), .int (nI (p 13)), .int (nI (p 14)), .int (nI (p 15)), .int (nI (p 16)), .int (nI (p 17)), .int (nI (p 12))])), (t, .inr (5, [.int (nI (p 0)), .ref w])), (w, .inl (Z 0, 9, .inl (aI z)))]) (wr := []) (rest := [.long (lN (z (i + 1))), .long (lN (((z (i + 1)) * (z (j + 1))) * ((2 * (p 9)) * ((lf z (p 0) 0) ^ 4) + (pcs z (p 0) (p 9) (p 10) g 1 0 0))))]) hw hA [0, 1, 2] [] rfl rfl rfl rfl (by decide) (fun hPc hDc => va_runS (As := [.ref a, .int (nI g), .int (nI 2), .int (nI j), .long (lN (pcs z (p 0) (p 9) (p 10) g 1 0 0))]) (rest := [.long (lN (z (i + 1))), .long (lN (((z (i + 1)) * (z (j + 1))) * ((2 * (p 9)) * ((lf z (p 0) 0) ^ 4) + (pcs z (p 0) (p 9) (p 10) g 1 0 0))))]) ⟨hx, hb, hml, hown, hts⟩ (c_ol2 l D Z H.size a t w p z g j (pcs z (p 0) (p 9) (p 10) g 1 0 0) (by first | assumption | omega) (by first | assumption | omega) (by first | assumption | omega) (by first | assumption | omega) (by first | assumption | omega) (by first | assumption | omega)) (va_cwS 5 hts gX7_pairCost_X7_otherLasts rfl rfl rfl (by decide +kernel) ⟨Nat.le_of_ble_eq_true rfl, Nat.le_of_ble_eq_true rfl⟩) ⟨fb_cPre, pre_of hPc hK hDc⟩ rfl rfl hl.1 rfl (lv_room (Nat.le_of_ble_eq_true rfl)) dX7_pairCost_117 ⟨Nat.le_of_ble_eq_true rfl, Nat.le_of_ble_eq_true rfl⟩) (fun r10 u H locs hr10 hw => ?_)
          subst hr10
          have hw : WS D A s [(a, .inr (2, [.ref t, .int (nI (p 9)), .int (nI (p 10)), .int (nI (p 11)), .int (nI (p 13)), .int (nI (p 14)), .int (nI (p 15)), .int (nI (p 16)), .int (nI (p 17)), .int (nI (p 12))])), (t, .inr (5, [.int (nI (p 0)), .ref w])), (w, .inl (Z 0, 9, .inl (aI z)))] H locs := hw
          refine q_lmul hx hb dX7_pairCost_120 ?_
          refine q_ladd hx hb dX7_pairCost_121 ?_
          refine lv_lload hx hb dX7_pairCost_122 (lv_at hl 2 rfl) ?_
          refine lv_aload_n hx hb dX7_pairCost_124 rfl (lv_at hl 6 rfl) ?_
          refine lv_iload_n hx hb dX7_pairCost_125 rfl (lv_at hl 7 rfl) ?_
          refine lv_iload_n hx hb dX7_pairCost_126 rfl (lv_at hl 8 rfl) ?_
          refine lv_iload_n hx hb dX7_pairCost_127 rfl (lv_at hl 9 rfl) ?_
          refine lv_lload hx hb dX7_pairCost_128 (lv_at hl 1 rfl) ?_
          refine q_calll (S := Unit) (Z := Z) (D := D) (wc := [(a, .inr (2, [.ref t, .int (nI (p 9)), .int (nI (p 10)), .int (nI (p 11)), .int (nI (p 13)), .int (nI (p 14)), .int (nI (p 15)), .int (nI (p 16)), .int (nI (p 17)), .int (nI (p 12))])), (t, .inr (5, [.int (nI (p 0)), .ref w])), (w, .inl (Z 0, 9, .inl (aI z)))]) (wr := []) (rest := [.long (lN (z (j + 1))), .long (lN (((z (i + 1)) * (z (j + 1))) * ((2 * (p 9)) * ((lf z (p 0) 0) ^ 4) + (pcs z (p 0) (p 9) (p 10) g 1 0 0)) + ((z (i + 1)) * (ols z (p 0) (p 9) (p 10) g (pcs z (p 0) (p 9) (p 10) g 1) 1 j (pcs z (p 0) (p 9) (p 10) g 1 0 0)))))]) hw hA [0, 1, 2] [] rfl rfl rfl rfl (by decide) (fun hPc hDc => va_runS (As := [.ref a, .int (nI g), .int (nI 2), .int (nI i), .long (lN (pcs z (p 0) (p 9) (p 10) g 1 0 0))]) (rest := [.long (lN (z (j + 1))), .long (lN (((z (i + 1)) * (z (j + 1))) * ((2 * (p 9)) * ((lf z (p 0) 0) ^ 4) + (pcs z (p 0) (p 9) (p 10) g 1 0 0)) + ((z (i + 1)) * (ols z (p 0) (p 9) (p 10) g (pcs z (p 0) (p 9) (p 10) g 1) 1 j (pcs z (p 0) (p 9) (p 10) g 1 0 0)))))]) ⟨hx, hb, hml, hown, hts⟩ (c_ol2 l D Z H.size a t w p z g i (pcs z (p 0) (p 9) (p 10) g 1 0 0) (by first | assumption | omega) (by first | assumption | omega) (by first | assumption | omega) (by first | assumption | omega) (by first | assumption | omega) (by first | assumption | omega)) (va_cwS 5 hts gX7_pairCost_X7_otherLasts rfl rfl rfl (by decide +kernel) ⟨Nat.le_of_ble_eq_true rfl, Nat.le_of_ble_eq_true rfl⟩) ⟨fb_cPre, pre_of hPc hK hDc⟩ rfl rfl hl.1 rfl (lv_room (Nat.le_of_ble_eq_true rfl)) dX7_pairCost_130 ⟨Nat.le_of_ble_eq_true rfl, Nat.le_of_ble_eq_true rfl⟩) (fun r11 u H locs hr11 hw => ?_)
          subst hr11
          have hw : WS D A s [(a, .inr (2, [.ref t, .int (nI (p 9)), .int (nI (p 10)), .int (nI (p 11)), .int (nI (p 13)), .int (nI (p 14)), .int (nI (p 15)), .int (nI (p 16)), .int (nI (p 17)), .int (nI (p 12))])), (t, .inr (5, [.int (nI (p 0)), .ref w])), (w, .inl (Z 0, 9, .inl (aI z)))] H locs := hw
          refine q_lmul hx hb dX7_pairCost_133 ?_
          refine q_ladd hx hb dX7_pairCost_134 ?_
          refine lv_lload hx hb dX7_pairCost_135 (lv_at hl 4 rfl) ?_
          refine lv_lload hx hb dX7_pairCost_137 (lv_at hl 4 rfl) ?_
          refine q_lmul hx hb dX7_pairCost_139 ?_
          refine lv_aload_n hx hb dX7_pairCost_140 rfl (lv_at hl 6 rfl) ?_
          refine lv_iload_n hx hb dX7_pairCost_141 rfl (lv_at hl 7 rfl) ?_
          refine lv_iload_n hx hb dX7_pairCost_142 rfl (lv_at hl 8 rfl) ?_
          refine q_iconst (v := 1) hx hb dX7_pairCost_143 (by decide) ?_
          refine q_isub hx hb (by omega) dX7_pairCost_144 ?_
          refine lv_iload_n hx hb dX7_pairCost_145 rfl (lv_at hl 9 rfl) ?_
          refine q_iconst (v := 1) hx hb dX7_pairCost_146 (by decide) ?_
          refine q_iadd hx hb dX7_pairCost_147 ?_
          refine lv_iload hx hb dX7_pairCost_148 (lv_at hl 10 rfl) ?_
          refine q_iconst (v := 1) hx hb dX7_pairCost_150 (by decide) ?_
          refine q_iadd hx hb dX7_pairCost_151 ?_
          refine q_calll (S := Unit) (Z := Z) (D := D) (wc := [(a, .inr (2, [.ref t, .int (nI (p 9)), .int (nI (p 10)), .int (nI (p 11)), .int (nI (p 13)), .int (nI (p 14)), .int (nI (p 15)), .int (nI (p 16)), .int (nI (p 17)), .int (nI (p 12))])), (t, .inr (5, [.int (nI (p 0)), .ref w])), (w, .inl (Z 0, 9, .inl (aI z)))]) (wr := []) (rest := [.long (lN ((lf z (p 0) 0) * (lf z (p 0) 0))), .long (lN (((z (i + 1)) * (z (j + 1))) * ((2 * (p 9)) * ((lf z (p 0) 0) ^ 4) + (pcs z (p 0) (p 9) (p 10) g 1 0 0)) + ((z (i + 1)) * (ols z (p 0) (p 9) (p 10) g (pcs z (p 0) (p 9) (p 10) g 1) 1 j (pcs z (p 0) (p 9) (p 10) g 1 0 0))) + ((z (j + 1)) * (ols z (p 0) (p 9) (p 10) g (pcs z (p 0) (p 9) (p 10) g 1) 1 i (pcs z (p 0) (p 9) (p 10) g 1 0 0)))))]) hw hA [0, 1, 2] [] rfl rfl rfl rfl (by decide) (fun hPc hDc => va_runS (As := [.ref a, .int (nI g), .int (nI 1), .int (nI (i + 1)), .int (nI (j + 1))]) (rest := [.long (lN ((lf z (p 0) 0) * (lf z (p 0) 0))), .long (lN (((z (i + 1)) * (z (j + 1))) * ((2 * (p 9)) * ((lf z (p 0) 0) ^ 4) + (pcs z (p 0) (p 9) (p 10) g 1 0 0)) + ((z (i + 1)) * (ols z (p 0) (p 9) (p 10) g (pcs z (p 0) (p 9) (p 10) g 1) 1 j (pcs z (p 0) (p 9) (p 10) g 1 0 0))) + ((z (j + 1)) * (ols z (p 0) (p 9) (p 10) g (pcs z (p 0) (p 9) (p 10) g 1) 1 i (pcs z (p 0) (p 9) (p 10) g 1 0 0)))))]) ⟨hx, hb, hml, hown, hts⟩ (c_pc1 l D Z H.size a t w p z g (i + 1) (j + 1) (by first | assumption | omega) (by first | assumption | omega) (by first | assumption | omega) (by first | assumption | omega) (by first | assumption | omega) (by first | assumption | omega) (by first | assumption | omega)) (va_cwS 5 hts gX7_pairCost_X7_pairCost rfl rfl rfl (by decide +kernel) ⟨Nat.le_of_ble_eq_true rfl, Nat.le_of_ble_eq_true rfl⟩) ⟨fb_cPre, pre_of hPc hK hDc⟩ rfl rfl hl.1 rfl (lv_room (Nat.le_of_ble_eq_true rfl)) dX7_pairCost_152 ⟨Nat.le_of_ble_eq_true rfl, Nat.le_of_ble_eq_true rfl⟩) (fun r12 u H locs hr12 hw => ?_)
          subst hr12
          have hw : WS D A s [(a, .inr (2, [.ref t, .int (nI (p 9)), .int (nI (p 10)), .int (nI (p 11)), .int (nI (p 13)), .int (nI (p 14)), .int (nI (p 15)), .int (nI (p 16)), .int (nI (p 17)), .int (nI (p 12))])), (t, .inr (5, [.int (nI (p 0)), .ref w])), (w, .inl (Z 0, 9, .inl (aI z)))] H locs := hw
          refine q_lmul hx hb dX7_pairCost_155 ?_
          refine q_ladd hx hb dX7_pairCost_156 ?_
          exact q_lret (wout := _) hx hb hr hlocks hAe hK () hw (by first | exact congrArg lN (pcs_o (h := 1) (by omega)).symm | exact congrArg lN (pcs_i (h := 1) (by omega) (by omega)).symm) dX7_pairCost_157
        · --
          refine q_lconst (v := 0) hx hb dX7_pairCost_34 (by decide) ?_
          exact q_lret (wout := _) hx hb hr hlocks hAe hK () hw (by first | exact congrArg lN (pcs_o (h := 1) (by omega)).symm | exact congrArg lN (pcs_i (h := 1) (by omega) (by omega)).symm) dX7_pairCost_35
set_option maxHeartbeats 4000000 in
set_option maxRecDepth 100000 in
theorem c_ol3 (l : Launch) (D : va_G) (Z : Nat → ClassId) (sz : Nat) (a t w : Nat) (p z : Nat → Nat) (g i bn : Nat) (hn : 1 ≤ p 0 ∧ p 0 ≤ 8) (hal : 1 ≤ lf z (p 0) 0 ∧ lf z (p 0) 0 ≤ 24) (h9 : p 9 ≤ 99) (h10 : p 10 ≤ 99) (hg : g ≤ 8) (hi : i < p 0) : cMl l yX7_otherLasts wsX7_otherLasts (rmd 8) D Z sz [.ref a, .int (nI g), .int (nI 3), .int (nI i), .long (lN bn)] [(a, .inr (2, [.ref t, .int (nI (p 9)), .int (nI (p 10)), .int (nI (p 11)), .int (nI (p 13)), .int (nI (p 14)), .int (nI (p 15)), .int (nI (p 16)), .int (nI (p 17)), .int (nI (p 12))])), (t, .inr (5, [.int (nI (p 0)), .ref w])), (w, .inl (Z 0, 9, .inl (aI z)))] (S := Unit) (fun (r : Int64) => fun (_ : Unit) => r = lN (ols z (p 0) (p 9) (p 10) g (pcs z (p 0) (p 9) (p 10) g 2) 2 i bn)) (fun (_ : Unit) => [(a, .inr (2, [.ref t, .int (nI (p 9)), .int (nI (p 10)), .int (nI (p 11)), .int (nI (p 13)), .int (nI (p 14)), .int (nI (p 15)), .int (nI (p 16)), .int (nI (p 17)), .int (nI (p 12))])), (t, .inr (5, [.int (nI (p 0)), .ref w])), (w, .inl (Z 0, 9, .inl (aI z)))]) 0 0 := by
  refine q_open (y := yX7_otherLasts) (ws := wsX7_otherLasts) (av := [.ref a, .int (nI g), .int (nI 3), .int (nI i), .long (lN bn)]) (win := [(a, .inr (2, [.ref t, .int (nI (p 9)), .int (nI (p 10)), .int (nI (p 11)), .int (nI (p 13)), .int (nI (p 14)), .int (nI (p 15)), .int (nI (p 16)), .int (nI (p 17)), .int (nI (p 12))])), (t, .inr (5, [.int (nI (p 0)), .ref w])), (w, .inl (Z 0, 9, .inl (aI z)))]) (Qc := fun sz => cQl D Z sz [(a, .inr (2, [.ref t, .int (nI (p 9)), .int (nI (p 10)), .int (nI (p 11)), .int (nI (p 13)), .int (nI (p 14)), .int (nI (p 15)), .int (nI (p 16)), .int (nI (p 17)), .int (nI (p 12))])), (t, .inr (5, [.int (nI (p 0)), .ref w])), (w, .inl (Z 0, 9, .inl (aI z)))] (S := Unit) (fun (r : Int64) => fun (_ : Unit) => r = lN (ols z (p 0) (p 9) (p 10) g (pcs z (p 0) (p 9) (p 10) g 2) 2 i bn)) (fun (_ : Unit) => [(a, .inr (2, [.ref t, .int (nI (p 9)), .int (nI (p 10)), .int (nI (p 11)), .int (nI (p 13)), .int (nI (p 14)), .int (nI (p 15)), .int (nI (p 16)), .int (nI (p 17)), .int (nI (p 12))])), (t, .inr (5, [.int (nI (p 0)), .ref w])), (w, .inl (Z 0, 9, .inl (aI z)))])) (cc := cX7_otherLasts) (maxL := 12) (ret := (some .long)) (by decide) rfl (Nat.le_of_ble_eq_true rfl) ?_
  intro pp ee s mm bw mt cd ls A H locs hAe hx hb hr hml hown hmn hts hlocks hA hK hw hl
  have hown : s.vm.findClass RX7 = some mm.cls := hown
  have hl : lv_has ls 12 [(0, .ref a), (1, .int (nI g)), (2, .int (nI 3)), (3, .int (nI i)), (4, .long (lN bn))] := hl
  have wd1 := hts (.fieldLink RX7 64 "ReplaceAges$Plan" "table" "LReplaceAges$Table;") (List.mem_of_getElem? (i := 1) rfl)
  have wd2 := hts (.fieldLink RX7 117 "ReplaceAges$Plan" "failure" "I") (List.mem_of_getElem? (i := 2) rfl)
  have wd3 := hts (.fieldLink RX7 120 "ReplaceAges$Plan" "change" "I") (List.mem_of_getElem? (i := 3) rfl)
  have in_X2 : ∀ w ∈ wsX20, w ∈ wsX7_otherLasts := fun _ h => List.mem_cons_of_mem _ (List.mem_append_left _ (List.mem_append_right _ h))
  have hli := lf_anti (w := z) (n := p 0) (Nat.zero_le (i + 1))
  refine lv_aload_n hx hb dX7_otherLasts_0 rfl (lv_at hl 0 rfl) ?_
  refine q_get (v := .ref t) (ci := 2) hx hb hts in_X2 hown hK hw 0 0 wd1 dX7_otherLasts_1 rfl rfl (by decide) rfl ?_
  refine q_calli (S := Unit) (Z := Z) (D := D) (wc := [(t, .inr (5, [.int (nI (p 0)), .ref w])), (w, .inl (Z 0, 9, .inl (aI z)))]) (wr := [(a, .inr (2, [.ref t, .int (nI (p 9)), .int (nI (p 10)), .int (nI (p 11)), .int (nI (p 13)), .int (nI (p 14)), .int (nI (p 15)), .int (nI (p 16)), .int (nI (p 17)), .int (nI (p 12))]))]) (rest := []) hw hA [1, 2] [0] rfl rfl rfl rfl (by decide) (fun hPc hDc => va_runV (As := []) (rest := []) ⟨hx, hb, hml, hown, hts⟩ (c_X5_all l D Z H.size t w (p 0) z (by first | assumption | omega)) (cwV 0 hts gX7_otherLasts_X5_all rfl rfl rfl (by decide +kernel) ⟨Nat.le_of_ble_eq_true rfl, Nat.le_of_ble_eq_true rfl⟩) ⟨fb_cPre, va_recv hK.1 hPc (ci := 5) (q0 := 0) rfl rfl, pre_of hPc hK hDc⟩ rfl rfl hl.1 rfl (lv_room (Nat.le_of_ble_eq_true rfl)) dX7_otherLasts_4 ⟨Nat.le_of_ble_eq_true rfl, Nat.le_of_ble_eq_true rfl⟩) (fun r1 u H locs hr1 hw => ?_)
  subst hr1
  have hw : WS D A s [(a, .inr (2, [.ref t, .int (nI (p 9)), .int (nI (p 10)), .int (nI (p 11)), .int (nI (p 13)), .int (nI (p 14)), .int (nI (p 15)), .int (nI (p 16)), .int (nI (p 17)), .int (nI (p 12))])), (t, .inr (5, [.int (nI (p 0)), .ref w])), (w, .inl (Z 0, 9, .inl (aI z)))] H locs := hw
  refine q_i2l hx hb (by omega) dX7_otherLasts_7 ?_
  refine lv_lstore (lv' := [(6, .long (lN (lf z (p 0) 0))), (0, .ref a), (1, .int (nI g)), (2, .int (nI 3)), (3, .int (nI i)), (4, .long (lN bn))]) hx hb dX7_otherLasts_8 hl (by decide) rfl (fun ls hl => ?_)
  refine lv_aload_n hx hb dX7_otherLasts_10 rfl (lv_at hl 1 rfl) ?_
  refine q_get (v := .ref t) (ci := 2) hx hb hts in_X2 hown hK hw 0 0 wd1 dX7_otherLasts_11 rfl rfl (by decide) rfl ?_
  refine lv_iload_n hx hb dX7_otherLasts_14 rfl (lv_at hl 4 rfl) ?_
  refine q_iconst (v := 1) hx hb dX7_otherLasts_15 (by decide) ?_
  refine q_iadd hx hb dX7_otherLasts_16 ?_
  refine q_calli (S := Unit) (Z := Z) (D := D) (wc := [(t, .inr (5, [.int (nI (p 0)), .ref w])), (w, .inl (Z 0, 9, .inl (aI z)))]) (wr := [(a, .inr (2, [.ref t, .int (nI (p 9)), .int (nI (p 10)), .int (nI (p 11)), .int (nI (p 13)), .int (nI (p 14)), .int (nI (p 15)), .int (nI (p 16)), .int (nI (p 17)), .int (nI (p 12))]))]) (rest := []) hw hA [1, 2] [0] rfl rfl rfl rfl (by decide) (fun hPc hDc => va_runV (As := [.int (nI (i + 1))]) (rest := []) ⟨hx, hb, hml, hown, hts⟩ (c_X5_left l D Z H.size t w (p 0) z (i + 1) (by first | assumption | omega) (by first | assumption | omega)) (cwV 1 hts gX7_otherLasts_X5_left rfl rfl rfl (by decide +kernel) ⟨Nat.le_of_ble_eq_true rfl, Nat.le_of_ble_eq_true rfl⟩) ⟨fb_cPre, va_recv hK.1 hPc (ci := 5) (q0 := 0) rfl rfl, pre_of hPc hK hDc⟩ rfl rfl hl.1 rfl (lv_room (Nat.le_of_ble_eq_true rfl)) dX7_otherLasts_17 ⟨Nat.le_of_ble_eq_true rfl, Nat.le_of_ble_eq_true rfl⟩) (fun r2 u H locs hr2 hw => ?_)
  subst hr2
  have hw : WS D A s [(a, .inr (2, [.ref t, .int (nI (p 9)), .int (nI (p 10)), .int (nI (p 11)), .int (nI (p 13)), .int (nI (p 14)), .int (nI (p 15)), .int (nI (p 16)), .int (nI (p 17)), .int (nI (p 12))])), (t, .inr (5, [.int (nI (p 0)), .ref w])), (w, .inl (Z 0, 9, .inl (aI z)))] H locs := hw
  refine q_i2l hx hb (by omega) dX7_otherLasts_20 ?_
  refine lv_lstore (lv' := [(8, .long (lN (lf z (p 0) (i + 1)))), (6, .long (lN (lf z (p 0) 0))), (0, .ref a), (1, .int (nI g)), (2, .int (nI 3)), (3, .int (nI i)), (4, .long (lN bn))]) hx hb dX7_otherLasts_21 hl (by decide) rfl (fun ls hl => ?_)
  refine lv_lload hx hb dX7_otherLasts_23 (lv_at hl 1 rfl) ?_
  refine q_iconst (v := 2) hx hb dX7_otherLasts_25 (by decide) ?_
  refine lv_iload_n hx hb dX7_otherLasts_26 rfl (lv_at hl 4 rfl) ?_
  refine q_imul hx hb dX7_otherLasts_27 ?_
  refine q_calll (S := Unit) (Z := Z) (D := D) (wc := []) (wr := [(a, .inr (2, [.ref t, .int (nI (p 9)), .int (nI (p 10)), .int (nI (p 11)), .int (nI (p 13)), .int (nI (p 14)), .int (nI (p 15)), .int (nI (p 16)), .int (nI (p 17)), .int (nI (p 12))])), (t, .inr (5, [.int (nI (p 0)), .ref w])), (w, .inl (Z 0, 9, .inl (aI z)))]) (rest := []) hw hA [] [0, 1, 2] rfl rfl rfl rfl (by decide) (fun hPc hDc => va_runS (As := [.long (lN (lf z (p 0) 0)), .int (nI 6)]) (rest := []) ⟨hx, hb, hml, hown, hts⟩ (c_X7_power l D Z H.size (lf z (p 0) 0) 6 (by first | assumption | omega)) (va_cwS 2 hts gX7_otherLasts_X7_power rfl rfl rfl (by decide +kernel) ⟨Nat.le_of_ble_eq_true rfl, Nat.le_of_ble_eq_true rfl⟩) ⟨fb_cPre, pre_of hPc hK hDc⟩ rfl rfl hl.1 rfl (lv_room (Nat.le_of_ble_eq_true rfl)) dX7_otherLasts_28 ⟨Nat.le_of_ble_eq_true rfl, Nat.le_of_ble_eq_true rfl⟩) (fun r3 u H locs hr3 hw => ?_)
  subst hr3
  have hw : WS D A s [(a, .inr (2, [.ref t, .int (nI (p 9)), .int (nI (p 10)), .int (nI (p 11)), .int (nI (p 13)), .int (nI (p 14)), .int (nI (p 15)), .int (nI (p 16)), .int (nI (p 17)), .int (nI (p 12))])), (t, .inr (5, [.int (nI (p 0)), .ref w])), (w, .inl (Z 0, 9, .inl (aI z)))] H locs := hw
  refine lv_lstore (lv' := [(10, .long (lN ((lf z (p 0) 0) ^ 6))), (8, .long (lN (lf z (p 0) (i + 1)))), (6, .long (lN (lf z (p 0) 0))), (0, .ref a), (1, .int (nI g)), (2, .int (nI 3)), (3, .int (nI i)), (4, .long (lN bn))]) hx hb dX7_otherLasts_31 hl (by decide) rfl (fun ls hl => ?_)
  refine lv_iload_n hx hb dX7_otherLasts_33 rfl (lv_at hl 6 rfl) ?_
  refine q_iconst (v := 1) hx hb dX7_otherLasts_34 (by decide) ?_
  refine q_iadd hx hb dX7_otherLasts_35 ?_
  refine lv_iload_n hx hb dX7_otherLasts_36 rfl (lv_at hl 4 rfl) ?_
  refine q_icmp_lt (tgt := 60) hx hb ((i + 1 : Nat) : Int) ((g : Nat) : Int) (nI_toInt (by omega)) (nI_toInt (by omega)) dX7_otherLasts_37 (by decide) (fun c4 => ?_) (fun c4 => ?_)
  · --
    refine lv_lload hx hb dX7_otherLasts_60 (lv_at hl 1 rfl) ?_
    refine lv_aload_n hx hb dX7_otherLasts_62 rfl (lv_at hl 3 rfl) ?_
    refine q_get (v := .int (nI (p 9))) (ci := 2) hx hb hts in_X2 hown hK hw 0 1 wd2 dX7_otherLasts_63 rfl rfl (by decide) rfl ?_
    refine q_i2l hx hb (by omega) dX7_otherLasts_66 ?_
    refine q_lmul hx hb dX7_otherLasts_67 ?_
    refine lv_lload hx hb dX7_otherLasts_68 (lv_at hl 0 rfl) ?_
    refine q_lmul hx hb dX7_otherLasts_70 ?_
    refine lv_lload hx hb dX7_otherLasts_71 (lv_at hl 2 rfl) ?_
    refine lv_aload_n hx hb dX7_otherLasts_73 rfl (lv_at hl 3 rfl) ?_
    refine lv_iload_n hx hb dX7_otherLasts_74 rfl (lv_at hl 4 rfl) ?_
    refine lv_iload_n hx hb dX7_otherLasts_75 rfl (lv_at hl 5 rfl) ?_
    refine q_iconst (v := 1) hx hb dX7_otherLasts_76 (by decide) ?_
    refine q_isub hx hb (by omega) dX7_otherLasts_77 ?_
    refine q_iconst (v := 0) hx hb dX7_otherLasts_78 (by decide) ?_
    refine lv_iload_n hx hb dX7_otherLasts_79 rfl (lv_at hl 6 rfl) ?_
    refine q_iconst (v := 1) hx hb dX7_otherLasts_80 (by decide) ?_
    refine q_iadd hx hb dX7_otherLasts_81 ?_
    refine q_calll (S := Unit) (Z := Z) (D := D) (wc := [(a, .inr (2, [.ref t, .int (nI (p 9)), .int (nI (p 10)), .int (nI (p 11)), .int (nI (p 13)), .int (nI (p 14)), .int (nI (p 15)), .int (nI (p 16)), .int (nI (p 17)), .int (nI (p 12))])), (t, .inr (5, [.int (nI (p 0)), .ref w])), (w, .inl (Z 0, 9, .inl (aI z)))]) (wr := []) (rest := [.long (lN (lf z (p 0) 0)), .long (lN (((lf z (p 0) (i + 1)) * (p 9)) * ((lf z (p 0) 0) ^ 6)))]) hw hA [0, 1, 2] [] rfl rfl rfl rfl (by decide) (fun hPc hDc => va_runS (As := [.ref a, .int (nI g), .int (nI 2), .int (nI 0), .int (nI (i + 1))]) (rest := [.long (lN (lf z (p 0) 0)), .long (lN (((lf z (p 0) (i + 1)) * (p 9)) * ((lf z (p 0) 0) ^ 6)))]) ⟨hx, hb, hml, hown, hts⟩ (c_pc2 l D Z H.size a t w p z g 0 (i + 1) (by first | assumption | omega) (by first | assumption | omega) (by first | assumption | omega) (by first | assumption | omega) (by first | assumption | omega) (by first | assumption | omega) (by first | assumption | omega)) (va_cwS 5 hts gX7_otherLasts_X7_pairCost rfl rfl rfl (by decide +kernel) ⟨Nat.le_of_ble_eq_true rfl, Nat.le_of_ble_eq_true rfl⟩) ⟨fb_cPre, pre_of hPc hK hDc⟩ rfl rfl hl.1 rfl (lv_room (Nat.le_of_ble_eq_true rfl)) dX7_otherLasts_82 ⟨Nat.le_of_ble_eq_true rfl, Nat.le_of_ble_eq_true rfl⟩) (fun r5 u H locs hr5 hw => ?_)
    subst hr5
    have hw : WS D A s [(a, .inr (2, [.ref t, .int (nI (p 9)), .int (nI (p 10)), .int (nI (p 11)), .int (nI (p 13)), .int (nI (p 14)), .int (nI (p 15)), .int (nI (p 16)), .int (nI (p 17)), .int (nI (p 12))])), (t, .inr (5, [.int (nI (p 0)), .ref w])), (w, .inl (Z 0, 9, .inl (aI z)))] H locs := hw
    refine q_lmul hx hb dX7_otherLasts_85 ?_
    refine q_ladd hx hb dX7_otherLasts_86 ?_
    exact q_lret (wout := _) hx hb hr hlocks hAe hK () hw (by first | exact congrArg lN (ols_t (g := g) (i := i) (h := 2) (by omega)).symm | exact congrArg lN (ols_f (g := g) (i := i) (h := 2) (by omega)).symm) dX7_otherLasts_87
  · --
    refine lv_lload hx hb dX7_otherLasts_40 (lv_at hl 1 rfl) ?_
    refine lv_aload_n hx hb dX7_otherLasts_42 rfl (lv_at hl 3 rfl) ?_
    refine q_get (v := .int (nI (p 9))) (ci := 2) hx hb hts in_X2 hown hK hw 0 1 wd2 dX7_otherLasts_43 rfl rfl (by decide) rfl ?_
    refine lv_aload_n hx hb dX7_otherLasts_46 rfl (lv_at hl 3 rfl) ?_
    refine q_get (v := .int (nI (p 10))) (ci := 2) hx hb hts in_X2 hown hK hw 0 2 wd3 dX7_otherLasts_47 rfl rfl (by decide) rfl ?_
    refine q_iadd hx hb dX7_otherLasts_50 ?_
    refine q_i2l hx hb (by omega) dX7_otherLasts_51 ?_
    refine lv_lload hx hb dX7_otherLasts_52 (lv_at hl 0 rfl) ?_
    refine q_lmul hx hb dX7_otherLasts_54 ?_
    refine lv_lload hx hb dX7_otherLasts_55 (lv_at hl 7 rfl) ?_
    refine q_ladd hx hb dX7_otherLasts_57 ?_
    refine q_lmul hx hb dX7_otherLasts_58 ?_
    exact q_lret (wout := _) hx hb hr hlocks hAe hK () hw (by first | exact congrArg lN (ols_t (g := g) (i := i) (h := 2) (by omega)).symm | exact congrArg lN (ols_f (g := g) (i := i) (h := 2) (by omega)).symm) dX7_otherLasts_59
set_option maxHeartbeats 4000000 in
set_option maxRecDepth 100000 in
theorem c_pc3 (l : Launch) (D : va_G) (Z : Nat → ClassId) (sz : Nat) (a t w : Nat) (p z : Nat → Nat) (g i j : Nat) (hn : 1 ≤ p 0 ∧ p 0 ≤ 8) (hal : 1 ≤ lf z (p 0) 0 ∧ lf z (p 0) 0 ≤ 24) (h9 : p 9 ≤ 99) (h10 : p 10 ≤ 99) (hg : g ≤ 8) (hi : i ≤ 8) (hj : j ≤ 8) : cMl l yX7_pairCost wsX7_pairCost (rmd 9) D Z sz [.ref a, .int (nI g), .int (nI 3), .int (nI i), .int (nI j)] [(a, .inr (2, [.ref t, .int (nI (p 9)), .int (nI (p 10)), .int (nI (p 11)), .int (nI (p 13)), .int (nI (p 14)), .int (nI (p 15)), .int (nI (p 16)), .int (nI (p 17)), .int (nI (p 12))])), (t, .inr (5, [.int (nI (p 0)), .ref w])), (w, .inl (Z 0, 9, .inl (aI z)))] (S := Unit) (fun (r : Int64) => fun (_ : Unit) => r = lN (pcs z (p 0) (p 9) (p 10) g 3 i j)) (fun (_ : Unit) => [(a, .inr (2, [.ref t, .int (nI (p 9)), .int (nI (p 10)), .int (nI (p 11)), .int (nI (p 13)), .int (nI (p 14)), .int (nI (p 15)), .int (nI (p 16)), .int (nI (p 17)), .int (nI (p 12))])), (t, .inr (5, [.int (nI (p 0)), .ref w])), (w, .inl (Z 0, 9, .inl (aI z)))]) 0 0 := by
  refine q_open (y := yX7_pairCost) (ws := wsX7_pairCost) (av := [.ref a, .int (nI g), .int (nI 3), .int (nI i), .int (nI j)]) (win := [(a, .inr (2, [.ref t, .int (nI (p 9)), .int (nI (p 10)), .int (nI (p 11)), .int (nI (p 13)), .int (nI (p 14)), .int (nI (p 15)), .int (nI (p 16)), .int (nI (p 17)), .int (nI (p 12))])), (t, .inr (5, [.int (nI (p 0)), .ref w])), (w, .inl (Z 0, 9, .inl (aI z)))]) (Qc := fun sz => cQl D Z sz [(a, .inr (2, [.ref t, .int (nI (p 9)), .int (nI (p 10)), .int (nI (p 11)), .int (nI (p 13)), .int (nI (p 14)), .int (nI (p 15)), .int (nI (p 16)), .int (nI (p 17)), .int (nI (p 12))])), (t, .inr (5, [.int (nI (p 0)), .ref w])), (w, .inl (Z 0, 9, .inl (aI z)))] (S := Unit) (fun (r : Int64) => fun (_ : Unit) => r = lN (pcs z (p 0) (p 9) (p 10) g 3 i j)) (fun (_ : Unit) => [(a, .inr (2, [.ref t, .int (nI (p 9)), .int (nI (p 10)), .int (nI (p 11)), .int (nI (p 13)), .int (nI (p 14)), .int (nI (p 15)), .int (nI (p 16)), .int (nI (p 17)), .int (nI (p 12))])), (t, .inr (5, [.int (nI (p 0)), .ref w])), (w, .inl (Z 0, 9, .inl (aI z)))])) (cc := cX7_pairCost) (maxL := 16) (ret := (some .long)) (by decide) rfl (Nat.le_of_ble_eq_true rfl) ?_
  intro pp ee s mm bw mt cd ls A H locs hAe hx hb hr hml hown hmn hts hlocks hA hK hw hl
  have hown : s.vm.findClass RX7 = some mm.cls := hown
  have hl : lv_has ls 16 [(0, .ref a), (1, .int (nI g)), (2, .int (nI 3)), (3, .int (nI i)), (4, .int (nI j))] := hl
  have wd1 := hts (.fieldLink RX7 64 "ReplaceAges$Plan" "table" "LReplaceAges$Table;") (List.mem_of_getElem? (i := 1) rfl)
  have wd2 := hts (.fieldLink RX7 67 "ReplaceAges$Table" "n" "I") (List.mem_of_getElem? (i := 2) rfl)
  have wd3 := hts (.fieldLink RX7 117 "ReplaceAges$Plan" "failure" "I") (List.mem_of_getElem? (i := 3) rfl)
  have in_X2 : ∀ w ∈ wsX20, w ∈ wsX7_pairCost := fun _ h => List.mem_cons_of_mem _ (List.mem_append_left _ (List.mem_append_right _ h))
  have in_X5 : ∀ w ∈ wsX50, w ∈ wsX7_pairCost := fun _ h => List.mem_cons_of_mem _ (List.mem_append_right _ h)
  refine lv_aload_n hx hb dX7_pairCost_0 rfl (lv_at hl 0 rfl) ?_
  refine q_get (v := .ref t) (ci := 2) hx hb hts in_X2 hown hK hw 0 0 wd1 dX7_pairCost_1 rfl rfl (by decide) rfl ?_
  refine lv_astore (lv' := [(5, .ref t), (0, .ref a), (1, .int (nI g)), (2, .int (nI 3)), (3, .int (nI i)), (4, .int (nI j))]) hx hb dX7_pairCost_4 hl (by decide) rfl (fun ls hl => ?_)
  refine lv_iload_n hx hb dX7_pairCost_6 rfl (lv_at hl 3 rfl) ?_
  refine q_if_le (tgt := 34) hx hb ((3 : Nat) : Int) (nI_toInt (by omega)) dX7_pairCost_7 (by decide) (fun c1 => ?_) (fun c1 => ?_)
  · --
    exfalso; omega
  · --
    refine lv_iload_n hx hb dX7_pairCost_10 rfl (lv_at hl 3 rfl) ?_
    refine q_iconst (v := 3) hx hb dX7_pairCost_11 (by decide) ?_
    refine q_icmp_gt (tgt := 34) hx hb ((3 : Nat) : Int) ((3 : Nat) : Int) (nI_toInt (by omega)) (nI_toInt (by omega)) dX7_pairCost_12 (by decide) (fun c2 => ?_) (fun c2 => ?_)
    · --
      exfalso; omega
    · --
      refine lv_iload_n hx hb dX7_pairCost_15 rfl (lv_at hl 4 rfl) ?_
      refine lv_aload hx hb dX7_pairCost_16 (lv_at hl 0 rfl) ?_
      refine q_get (v := .int (nI (p 0))) (ci := 5) hx hb hts in_X5 hown hK hw 1 0 wd2 dX7_pairCost_18 rfl rfl (by decide) rfl ?_
      refine q_icmp_ge (tgt := 34) hx hb ((i : Nat) : Int) ((p 0 : Nat) : Int) (nI_toInt (by omega)) (nI_toInt (by omega)) dX7_pairCost_21 (by decide) (fun c3 => ?_) (fun c3 => ?_)
      · --
        refine q_lconst (v := 0) hx hb dX7_pairCost_34 (by decide) ?_
        exact q_lret (wout := _) hx hb hr hlocks hAe hK () hw (by first | exact congrArg lN (pcs_o (h := 2) (by omega)).symm | exact congrArg lN (pcs_i (h := 2) (by omega) (by omega)).symm) dX7_pairCost_35
      · --
        refine lv_iload hx hb dX7_pairCost_24 (lv_at hl 5 rfl) ?_
        refine lv_aload hx hb dX7_pairCost_26 (lv_at hl 0 rfl) ?_
        refine q_get (v := .int (nI (p 0))) (ci := 5) hx hb hts in_X5 hown hK hw 1 0 wd2 dX7_pairCost_28 rfl rfl (by decide) rfl ?_
        refine q_icmp_lt (tgt := 36) hx hb ((j : Nat) : Int) ((p 0 : Nat) : Int) (nI_toInt (by omega)) (nI_toInt (by omega)) dX7_pairCost_31 (by decide) (fun c4 => ?_) (fun c4 => ?_)
        · --
          refine lv_aload hx hb dX7_pairCost_36 (lv_at hl 0 rfl) ?_
          refine q_calli (S := Unit) (Z := Z) (D := D) (wc := [(t, .inr (5, [.int (nI (p 0)), .ref w])), (w, .inl (Z 0, 9, .inl (aI z)))]) (wr := [(a, .inr (2, [.ref t, .int (nI (p 9)), .int (nI (p 10)), .int (nI (p 11)), .int (nI (p 13)), .int (nI (p 14)), .int (nI (p 15)), .int (nI (p 16)), .int (nI (p 17)), .int (nI (p 12))]))]) (rest := []) hw hA [1, 2] [0] rfl rfl rfl rfl (by decide) (fun hPc hDc => va_runV (As := []) (rest := []) ⟨hx, hb, hml, hown, hts⟩ (c_X5_all l D Z H.size t w (p 0) z (by first | assumption | omega)) (cwV 0 hts gX7_pairCost_X5_all rfl rfl rfl (by decide +kernel) ⟨Nat.le_of_ble_eq_true rfl, Nat.le_of_ble_eq_true rfl⟩) ⟨fb_cPre, va_recv hK.1 hPc (ci := 5) (q0 := 0) rfl rfl, pre_of hPc hK hDc⟩ rfl rfl hl.1 rfl (lv_room (Nat.le_of_ble_eq_true rfl)) dX7_pairCost_38 ⟨Nat.le_of_ble_eq_true rfl, Nat.le_of_ble_eq_true rfl⟩) (fun r5 u H locs hr5 hw => ?_)
          subst hr5
          have hw : WS D A s [(a, .inr (2, [.ref t, .int (nI (p 9)), .int (nI (p 10)), .int (nI (p 11)), .int (nI (p 13)), .int (nI (p 14)), .int (nI (p 15)), .int (nI (p 16)), .int (nI (p 17)), .int (nI (p 12))])), (t, .inr (5, [.int (nI (p 0)), .ref w])), (w, .inl (Z 0, 9, .inl (aI z)))] H locs := hw
          refine q_i2l hx hb (by omega) dX7_pairCost_41 ?_
          refine lv_lstore (lv' := [(6, .long (lN (lf z (p 0) 0))), (5, .ref t), (0, .ref a), (1, .int (nI g)), (2, .int (nI 3)), (3, .int (nI i)), (4, .int (nI j))]) hx hb dX7_pairCost_42 hl (by decide) rfl (fun ls hl => ?_)
          refine lv_aload hx hb dX7_pairCost_44 (lv_at hl 1 rfl) ?_
          refine lv_iload_n hx hb dX7_pairCost_46 rfl (lv_at hl 5 rfl) ?_
          refine q_iconst (v := 1) hx hb dX7_pairCost_47 (by decide) ?_
          refine q_iadd hx hb dX7_pairCost_48 ?_
          refine q_calli (S := Unit) (Z := Z) (D := D) (wc := [(t, .inr (5, [.int (nI (p 0)), .ref w])), (w, .inl (Z 0, 9, .inl (aI z)))]) (wr := [(a, .inr (2, [.ref t, .int (nI (p 9)), .int (nI (p 10)), .int (nI (p 11)), .int (nI (p 13)), .int (nI (p 14)), .int (nI (p 15)), .int (nI (p 16)), .int (nI (p 17)), .int (nI (p 12))]))]) (rest := []) hw hA [1, 2] [0] rfl rfl rfl rfl (by decide) (fun hPc hDc => va_runV (As := [.int (nI (i + 1))]) (rest := []) ⟨hx, hb, hml, hown, hts⟩ (c_X5_weightOf l D Z H.size t w (p 0) z (i + 1) (by first | assumption | omega) (by first | assumption | omega)) (cwV 1 hts gX7_pairCost_X5_weightOf rfl rfl rfl (by decide +kernel) ⟨Nat.le_of_ble_eq_true rfl, Nat.le_of_ble_eq_true rfl⟩) ⟨fb_cPre, va_recv hK.1 hPc (ci := 5) (q0 := 0) rfl rfl, pre_of hPc hK hDc⟩ rfl rfl hl.1 rfl (lv_room (Nat.le_of_ble_eq_true rfl)) dX7_pairCost_49 ⟨Nat.le_of_ble_eq_true rfl, Nat.le_of_ble_eq_true rfl⟩) (fun r6 u H locs hr6 hw => ?_)
          subst hr6
          have hw : WS D A s [(a, .inr (2, [.ref t, .int (nI (p 9)), .int (nI (p 10)), .int (nI (p 11)), .int (nI (p 13)), .int (nI (p 14)), .int (nI (p 15)), .int (nI (p 16)), .int (nI (p 17)), .int (nI (p 12))])), (t, .inr (5, [.int (nI (p 0)), .ref w])), (w, .inl (Z 0, 9, .inl (aI z)))] H locs := hw
          refine q_topi (x := nI (wt z (p 0) (i + 1))) (y := nI (z (i + 1))) (congrArg nI (wt_in (by omega))) ?_
          refine q_i2l hx hb (Nat.lt_of_le_of_lt (z_le (n := p 0) (by omega)) (by omega)) dX7_pairCost_52 ?_
          refine lv_lstore (lv' := [(8, .long (lN (z (i + 1)))), (6, .long (lN (lf z (p 0) 0))), (5, .ref t), (0, .ref a), (1, .int (nI g)), (2, .int (nI 3)), (3, .int (nI i)), (4, .int (nI j))]) hx hb dX7_pairCost_53 hl (by decide) rfl (fun ls hl => ?_)
          refine lv_aload hx hb dX7_pairCost_55 (lv_at hl 2 rfl) ?_
          refine lv_iload hx hb dX7_pairCost_57 (lv_at hl 7 rfl) ?_
          refine q_iconst (v := 1) hx hb dX7_pairCost_59 (by decide) ?_
          refine q_iadd hx hb dX7_pairCost_60 ?_
          refine q_calli (S := Unit) (Z := Z) (D := D) (wc := [(t, .inr (5, [.int (nI (p 0)), .ref w])), (w, .inl (Z 0, 9, .inl (aI z)))]) (wr := [(a, .inr (2, [.ref t, .int (nI (p 9)), .int (nI (p 10)), .int (nI (p 11)), .int (nI (p 13)), .int (nI (p 14)), .int (nI (p 15)), .int (nI (p 16)), .int (nI (p 17)), .int (nI (p 12))]))]) (rest := []) hw hA [1, 2] [0] rfl rfl rfl rfl (by decide) (fun hPc hDc => va_runV (As := [.int (nI (j + 1))]) (rest := []) ⟨hx, hb, hml, hown, hts⟩ (c_X5_weightOf l D Z H.size t w (p 0) z (j + 1) (by first | assumption | omega) (by first | assumption | omega)) (cwV 1 hts gX7_pairCost_X5_weightOf rfl rfl rfl (by decide +kernel) ⟨Nat.le_of_ble_eq_true rfl, Nat.le_of_ble_eq_true rfl⟩) ⟨fb_cPre, va_recv hK.1 hPc (ci := 5) (q0 := 0) rfl rfl, pre_of hPc hK hDc⟩ rfl rfl hl.1 rfl (lv_room (Nat.le_of_ble_eq_true rfl)) dX7_pairCost_61 ⟨Nat.le_of_ble_eq_true rfl, Nat.le_of_ble_eq_true rfl⟩) (fun r7 u H locs hr7 hw => ?_)
          subst hr7
          have hw : WS D A s [(a, .inr (2, [.ref t, .int (nI (p 9)), .int (nI (p 10)), .int (nI (p 11)), .int (nI (p 13)), .int (nI (p 14)), .int (nI (p 15)), .int (nI (p 16)), .int (nI (p 17)), .int (nI (p 12))])), (t, .inr (5, [.int (nI (p 0)), .ref w])), (w, .inl (Z 0, 9, .inl (aI z)))] H locs := hw
          refine q_topi (x := nI (wt z (p 0) (j + 1))) (y := nI (z (j + 1))) (congrArg nI (wt_in (by omega))) ?_
          refine q_i2l hx hb (Nat.lt_of_le_of_lt (z_le (n := p 0) (by omega)) (by omega)) dX7_pairCost_64 ?_
          refine lv_lstore (lv' := [(10, .long (lN (z (j + 1)))), (8, .long (lN (z (i + 1)))), (6, .long (lN (lf z (p 0) 0))), (5, .ref t), (0, .ref a), (1, .int (nI g)), (2, .int (nI 3)), (3, .int (nI i)), (4, .int (nI j))]) hx hb dX7_pairCost_65 hl (by decide) rfl (fun ls hl => ?_)
          refine lv_aload_n hx hb dX7_pairCost_67 rfl (lv_at hl 4 rfl) ?_
          refine lv_iload_n hx hb dX7_pairCost_68 rfl (lv_at hl 5 rfl) ?_
          refine lv_iload_n hx hb dX7_pairCost_69 rfl (lv_at hl 6 rfl) ?_
          refine q_iconst (v := 1) hx hb dX7_pairCost_70 (by decide) ?_
          refine q_isub hx hb (by omega) dX7_pairCost_71 ?_
          refine q_iconst (v := 0) hx hb dX7_pairCost_72 (by decide) ?_
          refine q_iconst (v := 0) hx hb dX7_pairCost_73 (by decide) ?_
          refine q_calll (S := Unit) (Z := Z) (D := D) (wc := [(a, .inr (2, [.ref t, .int (nI (p 9)), .int (nI (p 10)), .int (nI (p 11)), .int (nI (p 13)), .int (nI (p 14)), .int (nI (p 15)), .int (nI (p 16)), .int (nI (p 17)), .int (nI (p 12))])), (t, .inr (5, [.int (nI (p 0)), .ref w])), (w, .inl (Z 0, 9, .inl (aI z)))]) (wr := []) (rest := []) hw hA [0, 1, 2] [] rfl rfl rfl rfl (by decide) (fun hPc hDc => va_runS (As := [.ref a, .int (nI g), .int (nI 2), .int (nI 0), .int (nI 0)]) (rest := []) ⟨hx, hb, hml, hown, hts⟩ (c_pc2 l D Z H.size a t w p z g 0 0 (by first | assumption | omega) (by first | assumption | omega) (by first | assumption | omega) (by first | assumption | omega) (by first | assumption | omega) (by first | assumption | omega) (by first | assumption | omega)) (va_cwS 5 hts gX7_pairCost_X7_pairCost rfl rfl rfl (by decide +kernel) ⟨Nat.le_of_ble_eq_true rfl, Nat.le_of_ble_eq_true rfl⟩) ⟨fb_cPre, pre_of hPc hK hDc⟩ rfl rfl hl.1 rfl (lv_room (Nat.le_of_ble_eq_true rfl)) dX7_pairCost_74 ⟨Nat.le_of_ble_eq_true rfl, Nat.le_of_ble_eq_true rfl⟩) (fun r8 u H locs hr8 hw => ?_)
          subst hr8
          have hw : WS D A s [(a, .inr (2, [.ref t, .int (nI (p 9)), .int (nI (p 10)), .int (nI (p 11)), .int (nI (p 13)), .int (nI (p 14)), .int (nI (p 15)), .int (nI (p 16)), .int (nI (p 17)), .int (nI (p 12))])), (t, .inr (5, [.int (nI (p 0)), .ref w])), (w, .inl (Z 0, 9, .inl (aI z)))] H locs := hw
          refine lv_lstore (lv' := [(12, .long (lN (pcs z (p 0) (p 9) (p 10) g 2 0 0))), (10, .long (lN (z (j + 1)))), (8, .long (lN (z (i + 1)))), (6, .long (lN (lf z (p 0) 0))), (5, .ref t), (0, .ref a), (1, .int (nI g)), (2, .int (nI 3)), (3, .int (nI i)), (4, .int (nI j))]) hx hb dX7_pairCost_77 hl (by decide) rfl (fun ls hl => ?_)
          refine q_iconst (v := 2) hx hb dX7_pairCost_79 (by decide) ?_
          refine lv_aload_n hx hb dX7_pairCost_80 rfl (lv_at hl 5 rfl) ?_
          refine q_get (v := .int (nI (p 9))) (ci := 2) hx hb hts in_X2 hown hK hw 0 1 wd3 dX7_pairCost_81 rfl rfl (by decide) rfl ?_
          refine q_imul hx hb dX7_pairCost_84 ?_
          refine q_i2l hx hb (by omega) dX7_pairCost_85 ?_
          refine lv_lload hx hb dX7_pairCost_86 (lv_at hl 3 rfl) ?_
          refine q_iconst (v := 2) hx hb dX7_pairCost_88 (by decide) ?_
          refine lv_iload_n hx hb dX7_pairCost_89 rfl (lv_at hl 7 rfl) ?_
          refine q_imul hx hb dX7_pairCost_90 ?_
          refine q_calll (S := Unit) (Z := Z) (D := D) (wc := []) (wr := [(a, .inr (2, [.ref t, .int (nI (p 9)), .int (nI (p 10)), .int (nI (p 11)), .int (nI (p 13)), .int (nI (p 14)), .int (nI (p 15)), .int (nI (p 16)), .int (nI (p 17)), .int (nI (p 12))])), (t, .inr (5, [.int (nI (p 0)), .ref w])), (w, .inl (Z 0, 9, .inl (aI z)))]) (rest := [.long (lN (2 * (p 9)))]) hw hA [] [0, 1, 2] rfl rfl rfl rfl (by decide) (fun hPc hDc => va_runS (As := [.long (lN (lf z (p 0) 0)), .int (nI 6)]) (rest := [.long (lN (2 * (p 9)))]) ⟨hx, hb, hml, hown, hts⟩ (c_X7_power l D Z H.size (lf z (p 0) 0) 6 (by first | assumption | omega)) (va_cwS 2 hts gX7_pairCost_X7_power rfl rfl rfl (by decide +kernel) ⟨Nat.le_of_ble_eq_true rfl, Nat.le_of_ble_eq_true rfl⟩) ⟨fb_cPre, pre_of hPc hK hDc⟩ rfl rfl hl.1 rfl (lv_room (Nat.le_of_ble_eq_true rfl)) dX7_pairCost_91 ⟨Nat.le_of_ble_eq_true rfl, Nat.le_of_ble_eq_true rfl⟩) (fun r9 u H locs hr9 hw => ?_)
          subst hr9
          have hw : WS D A s [(a, .inr (2, [.ref t, .int (nI (p 9)), .int (nI (p 10)), .int (nI (p 11)), .int (nI (p 13)), .int (nI (p 14)), .int (nI (p 15)), .int (nI (p 16)), .int (nI (p 17)), .int (nI (p 12))])), (t, .inr (5, [.int (nI (p 0)), .ref w])), (w, .inl (Z 0, 9, .inl (aI z)))] H locs := hw
          refine q_lmul hx hb dX7_pairCost_94 ?_
          refine lv_lload hx hb dX7_pairCost_95 (lv_at hl 0 rfl) ?_
          refine q_ladd hx hb dX7_pairCost_97 ?_
          refine lv_lstore (lv' := [(14, .long (lN ((2 * (p 9)) * ((lf z (p 0) 0) ^ 6) + (pcs z (p 0) (p 9) (p 10) g 2 0 0)))), (12, .long (lN (pcs z (p 0) (p 9) (p 10) g 2 0 0))), (10, .long (lN (z (j + 1)))), (8, .long (lN (z (i + 1)))), (6, .long (lN (lf z (p 0) 0))), (5, .ref t), (0, .ref a), (1, .int (nI g)), (2, .int (nI 3)), (3, .int (nI i)), (4, .int (nI j))]) hx hb dX7_pairCost_98 hl (by decide) rfl (fun ls hl => ?_)
          refine lv_lload hx hb dX7_pairCost_100 (lv_at hl 3 rfl) ?_
          refine lv_lload hx hb dX7_pairCost_102 (lv_at hl 2 rfl) ?_
          refine q_lmul hx hb dX7_pairCost_104 ?_
          refine lv_lload hx hb dX7_pairCost_105 (lv_at hl 0 rfl) ?_
          refine q_lmul hx hb dX7_pairCost_107 ?_
          refine lv_lload hx hb dX7_pairCost_108 (lv_at hl 3 rfl) ?_
          refine lv_aload_n hx hb dX7_pairCost_110 rfl (lv_at hl 6 rfl) ?_
          refine lv_iload_n hx hb dX7_pairCost_111 rfl (lv_at hl 7 rfl) ?_
          refine lv_iload_n hx hb dX7_pairCost_112 rfl (lv_at hl 8 rfl) ?_
          refine lv_iload hx hb dX7_pairCost_113 (lv_at hl 10 rfl) ?_
          refine lv_lload hx hb dX7_pairCost_115 (lv_at hl 1 rfl) ?_
          refine q_calll (S := Unit) (Z := Z) (D := D) (wc := [(a, .inr (2, [.ref t, .int (nI (p 9)), .int (nI (p 10)), .int (nI (p 11)), .int (nI (p 13)), .int (nI (p 14)), .int (nI (p 15)), .int (nI (p 16)), .int (nI (p 17)), .int (nI (p 12))])), (t, .inr (5, [.int (nI (p 0)), .ref w])), (w, .inl (Z 0, 9, .inl (aI z)))]) (wr := []) (rest := [.long (lN (z (i + 1))), .long (lN (((z (i + 1)) * (z (j + 1))) * ((2 * (p 9)) * ((lf z (p 0) 0) ^ 6) + (pcs z (p 0) (p 9) (p 10) g 2 0 0))))]) hw hA [0, 1, 2] [] rfl rfl rfl rfl (by decide) (fun hPc hDc => va_runS (As := [.ref a, .int (nI g), .int (nI 3), .int (nI j), .long (lN (pcs z (p 0) (p 9) (p 10) g 2 0 0))]) (rest := [.long (lN (z (i + 1))), .long (lN (((z (i + 1)) * (z (j + 1))) * ((2 * (p 9)) * ((lf z (p 0) 0) ^ 6) + (pcs z (p 0) (p 9) (p 10) g 2 0 0))))]) ⟨hx, hb, hml, hown, hts⟩ (c_ol3 l D Z H.size a t w p z g j (pcs z (p 0) (p 9) (p 10) g 2 0 0) (by first | assumption | omega) (by first | assumption | omega) (by first | assumption | omega) (by first | assumption | omega) (by first | assumption | omega) (by first | assumption | omega)) (va_cwS 5 hts gX7_pairCost_X7_otherLasts rfl rfl rfl (by decide +kernel) ⟨Nat.le_of_ble_eq_true rfl, Nat.le_of_ble_eq_true rfl⟩) ⟨fb_cPre, pre_of hPc hK hDc⟩ rfl rfl hl.1 rfl (lv_room (Nat.le_of_ble_eq_true rfl)) dX7_pairCost_117 ⟨Nat.le_of_ble_eq_true rfl, Nat.le_of_ble_eq_true rfl⟩) (fun r10 u H locs hr10 hw => ?_)
          subst hr10
          have hw : WS D A s [(a, .inr (2, [.ref t, .int (nI (p 9)), .int (nI (p 10)), .int (nI (p 11)), .int (nI (p 13)), .int (nI (p 14)), .int (nI (p 15)), .int (nI (p 16)), .int (nI (p 17)), .int (nI (p 12))])), (t, .inr (5, [.int (nI (p 0)), .ref w])), (w, .inl (Z 0, 9, .inl (aI z)))] H locs := hw
          refine q_lmul hx hb dX7_pairCost_120 ?_
          refine q_ladd hx hb dX7_pairCost_121 ?_
          refine lv_lload hx hb dX7_pairCost_122 (lv_at hl 2 rfl) ?_
          refine lv_aload_n hx hb dX7_pairCost_124 rfl (lv_at hl 6 rfl) ?_
          refine lv_iload_n hx hb dX7_pairCost_125 rfl (lv_at hl 7 rfl) ?_
          refine lv_iload_n hx hb dX7_pairCost_126 rfl (lv_at hl 8 rfl) ?_
          refine lv_iload_n hx hb dX7_pairCost_127 rfl (lv_at hl 9 rfl) ?_
          refine lv_lload hx hb dX7_pairCost_128 (lv_at hl 1 rfl) ?_
          refine q_calll (S := Unit) (Z := Z) (D := D) (wc := [(a, .inr (2, [.ref t, .int (nI (p 9)), .int (nI (p 10)), .int (nI (p 11)), .int (nI (p 13)), .int (nI (p 14)), .int (nI (p 15)), .int (nI (p 16)), .int (nI (p 17)), .int (nI (p 12))])), (t, .inr (5, [.int (nI (p 0)), .ref w])), (w, .inl (Z 0, 9, .inl (aI z)))]) (wr := []) (rest := [.long (lN (z (j + 1))), .long (lN (((z (i + 1)) * (z (j + 1))) * ((2 * (p 9)) * ((lf z (p 0) 0) ^ 6) + (pcs z (p 0) (p 9) (p 10) g 2 0 0)) + ((z (i + 1)) * (ols z (p 0) (p 9) (p 10) g (pcs z (p 0) (p 9) (p 10) g 2) 2 j (pcs z (p 0) (p 9) (p 10) g 2 0 0)))))]) hw hA [0, 1, 2] [] rfl rfl rfl rfl (by decide) (fun hPc hDc => va_runS (As := [.ref a, .int (nI g), .int (nI 3), .int (nI i), .long (lN (pcs z (p 0) (p 9) (p 10) g 2 0 0))]) (rest := [.long (lN (z (j + 1))), .long (lN (((z (i + 1)) * (z (j + 1))) * ((2 * (p 9)) * ((lf z (p 0) 0) ^ 6) + (pcs z (p 0) (p 9) (p 10) g 2 0 0)) + ((z (i + 1)) * (ols z (p 0) (p 9) (p 10) g (pcs z (p 0) (p 9) (p 10) g 2) 2 j (pcs z (p 0) (p 9) (p 10) g 2 0 0)))))]) ⟨hx, hb, hml, hown, hts⟩ (c_ol3 l D Z H.size a t w p z g i (pcs z (p 0) (p 9) (p 10) g 2 0 0) (by first | assumption | omega) (by first | assumption | omega) (by first | assumption | omega) (by first | assumption | omega) (by first | assumption | omega) (by first | assumption | omega)) (va_cwS 5 hts gX7_pairCost_X7_otherLasts rfl rfl rfl (by decide +kernel) ⟨Nat.le_of_ble_eq_true rfl, Nat.le_of_ble_eq_true rfl⟩) ⟨fb_cPre, pre_of hPc hK hDc⟩ rfl rfl hl.1 rfl (lv_room (Nat.le_of_ble_eq_true rfl)) dX7_pairCost_130 ⟨Nat.le_of_ble_eq_true rfl, Nat.le_of_ble_eq_true rfl⟩) (fun r11 u H locs hr11 hw => ?_)
          subst hr11
          have hw : WS D A s [(a, .inr (2, [.ref t, .int (nI (p 9)), .int (nI (p 10)), .int (nI (p 11)), .int (nI (p 13)), .int (nI (p 14)), .int (nI (p 15)), .int (nI (p 16)), .int (nI (p 17)), .int (nI (p 12))])), (t, .inr (5, [.int (nI (p 0)), .ref w])), (w, .inl (Z 0, 9, .inl (aI z)))] H locs := hw
          refine q_lmul hx hb dX7_pairCost_133 ?_
          refine q_ladd hx hb dX7_pairCost_134 ?_
          refine lv_lload hx hb dX7_pairCost_135 (lv_at hl 4 rfl) ?_
          refine lv_lload hx hb dX7_pairCost_137 (lv_at hl 4 rfl) ?_
          refine q_lmul hx hb dX7_pairCost_139 ?_
          refine lv_aload_n hx hb dX7_pairCost_140 rfl (lv_at hl 6 rfl) ?_
          refine lv_iload_n hx hb dX7_pairCost_141 rfl (lv_at hl 7 rfl) ?_
          refine lv_iload_n hx hb dX7_pairCost_142 rfl (lv_at hl 8 rfl) ?_
          refine q_iconst (v := 1) hx hb dX7_pairCost_143 (by decide) ?_
          refine q_isub hx hb (by omega) dX7_pairCost_144 ?_
          refine lv_iload_n hx hb dX7_pairCost_145 rfl (lv_at hl 9 rfl) ?_
          refine q_iconst (v := 1) hx hb dX7_pairCost_146 (by decide) ?_
          refine q_iadd hx hb dX7_pairCost_147 ?_
          refine lv_iload hx hb dX7_pairCost_148 (lv_at hl 10 rfl) ?_
          refine q_iconst (v := 1) hx hb dX7_pairCost_150 (by decide) ?_
          refine q_iadd hx hb dX7_pairCost_151 ?_
          refine q_calll (S := Unit) (Z := Z) (D := D) (wc := [(a, .inr (2, [.ref t, .int (nI (p 9)), .int (nI (p 10)), .int (nI (p 11)), .int (nI (p 13)), .int (nI (p 14)), .int (nI (p 15)), .int (nI (p 16)), .int (nI (p 17)), .int (nI (p 12))])), (t, .inr (5, [.int (nI (p 0)), .ref w])), (w, .inl (Z 0, 9, .inl (aI z)))]) (wr := []) (rest := [.long (lN ((lf z (p 0) 0) * (lf z (p 0) 0))), .long (lN (((z (i + 1)) * (z (j + 1))) * ((2 * (p 9)) * ((lf z (p 0) 0) ^ 6) + (pcs z (p 0) (p 9) (p 10) g 2 0 0)) + ((z (i + 1)) * (ols z (p 0) (p 9) (p 10) g (pcs z (p 0) (p 9) (p 10) g 2) 2 j (pcs z (p 0) (p 9) (p 10) g 2 0 0))) + ((z (j + 1)) * (ols z (p 0) (p 9) (p 10) g (pcs z (p 0) (p 9) (p 10) g 2) 2 i (pcs z (p 0) (p 9) (p 10) g 2 0 0)))))]) hw hA [0, 1, 2] [] rfl rfl rfl rfl (by decide) (fun hPc hDc => va_runS (As := [.ref a, .int (nI g), .int (nI 2), .int (nI (i + 1)), .int (nI (j + 1))]) (rest := [.long (lN ((lf z (p 0) 0) * (lf z (p 0) 0))), .long (lN (((z (i + 1)) * (z (j + 1))) * ((2 * (p 9)) * ((lf z (p 0) 0) ^ 6) + (pcs z (p 0) (p 9) (p 10) g 2 0 0)) + ((z (i + 1)) * (ols z (p 0) (p 9) (p 10) g (pcs z (p 0) (p 9) (p 10) g 2) 2 j (pcs z (p 0) (p 9) (p 10) g 2 0 0))) + ((z (j + 1)) * (ols z (p 0) (p 9) (p 10) g (pcs z (p 0) (p 9) (p 10) g 2) 2 i (pcs z (p 0) (p 9) (p 10) g 2 0 0)))))]) ⟨hx, hb, hml, hown, hts⟩ (c_pc2 l D Z H.size a t w p z g (i + 1) (j + 1) (by first | assumption | omega) (by first | assumption | omega) (by first | assumption | omega) (by first | assumption | omega) (by first | assumption | omega) (by first | assumption | omega) (by first | assumption | omega)) (va_cwS 5 hts gX7_pairCost_X7_pairCost rfl rfl rfl (by decide +kernel) ⟨Nat.le_of_ble_eq_true rfl, Nat.le_of_ble_eq_true rfl⟩) ⟨fb_cPre, pre_of hPc hK hDc⟩ rfl rfl hl.1 rfl (lv_room (Nat.le_of_ble_eq_true rfl)) dX7_pairCost_152 ⟨Nat.le_of_ble_eq_true rfl, Nat.le_of_ble_eq_true rfl⟩) (fun r12 u H locs hr12 hw => ?_)
          subst hr12
          have hw : WS D A s [(a, .inr (2, [.ref t, .int (nI (p 9)), .int (nI (p 10)), .int (nI (p 11)), .int (nI (p 13)), .int (nI (p 14)), .int (nI (p 15)), .int (nI (p 16)), .int (nI (p 17)), .int (nI (p 12))])), (t, .inr (5, [.int (nI (p 0)), .ref w])), (w, .inl (Z 0, 9, .inl (aI z)))] H locs := hw
          refine q_lmul hx hb dX7_pairCost_155 ?_
          refine q_ladd hx hb dX7_pairCost_156 ?_
          exact q_lret (wout := _) hx hb hr hlocks hAe hK () hw (by first | exact congrArg lN (pcs_o (h := 2) (by omega)).symm | exact congrArg lN (pcs_i (h := 2) (by omega) (by omega)).symm) dX7_pairCost_157
        · --
          refine q_lconst (v := 0) hx hb dX7_pairCost_34 (by decide) ?_
          exact q_lret (wout := _) hx hb hr hlocks hAe hK () hw (by first | exact congrArg lN (pcs_o (h := 2) (by omega)).symm | exact congrArg lN (pcs_i (h := 2) (by omega) (by omega)).symm) dX7_pairCost_35
