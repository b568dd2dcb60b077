/-- age: what it answers -/
def aqC (n : Nat) (z : Nat → Nat) (k wh : Int32) : Int32 :=
  if ¬ (1 ≤ k.toInt ∧ k.toInt ≤ (n : Int) ∧ 0 ≤ wh.toInt ∧ wh.toInt ≤ 3) then (-1) else if wh.toInt = 2 then nI (z k.toInt.toNat) else if wh.toInt = 3 then nI (lf z n k.toInt.toNat)
  else nI (fr (z k.toInt.toNat) (lf z n (k.toInt.toNat - 1)) wh.toInt.toNat)
section
variable {n j q : Nat} {z : Nat → Nat} {k wh : Int32}
theorem aq_1 (h : ¬ (1 ≤ k.toInt ∧ k.toInt ≤ (n : Int) ∧ 0 ≤ wh.toInt ∧ wh.toInt ≤ 3)) : aqC n z k wh = (-1) := if_pos h
theorem aq_2 (ej : k.toInt = (j : Int)) (h : 1 ≤ k.toInt ∧ k.toInt ≤ (n : Int) ∧ 0 ≤ wh.toInt ∧ wh.toInt ≤ 3) (h2 : wh.toInt = 2) : aqC n z k wh = nI (z j) := by unfold aqC; rw [tnI ej, if_neg (fun q => q h), if_pos h2]
theorem aq_3 (ej : k.toInt = (j : Int)) (h : 1 ≤ k.toInt ∧ k.toInt ≤ (n : Int) ∧ 0 ≤ wh.toInt ∧ wh.toInt ≤ 3) (h2 : wh.toInt = 3) : aqC n z k wh = nI (lf z n j) := by unfold aqC; rw [tnI ej, if_neg (fun q => q h), if_neg (by omega), if_pos h2]
theorem aq_4 (ej : k.toInt = (j : Int)) (eq : wh.toInt = (q : Int)) (h : 1 ≤ k.toInt ∧ k.toInt ≤ (n : Int) ∧ 0 ≤ wh.toInt ∧ wh.toInt ≤ 3) (h2 : wh.toInt < 2) : aqC n z k wh = nI (fr (z j) (lf z n (j - 1)) q) := by unfold aqC; rw [tnI ej, tnI eq, if_neg (fun q => q h), if_neg (by omega), if_neg (by omega)]
end
theorem sv_pos {z : Nat → Nat} {n a : Nat} (h : 1 ≤ a) : lf z n 0 ≤ sv z n a := by
  induction a with
  | zero => omega
  | succ a ih =>
    simp only [sv]
    rcases Nat.eq_zero_or_pos a with h1 | h1
    · subst h1; omega
    · have := ih h1; omega
abbrev sid (wh : Int32) : Prop := wh.toInt ≠ 0 ∧ wh.toInt ≠ 1
def mnC (n : Nat) (z : Nat → Nat) (wh : Int32) : Int32 := if sid wh then (-1) else nI (fr (sv z n n) (lf z n 0) wh.toInt.toNat)
def rtC (n : Nat) (z : Nat → Nat) (f c : Nat) (k wh : Int32) : Int32 := if ¬ (1 ≤ k.toInt ∧ k.toInt ≤ (n : Int) ∧ ¬ sid wh) then (-1) else nI (fr (ct z n f c k.toInt.toNat) (sv z n k.toInt.toNat) wh.toInt.toNat)
def flC (n : Nat) (z v : Nat → Nat) (k wh : Int32) : Int64 := if ¬ (0 ≤ k.toInt ∧ k.toInt ≤ 10 ∧ ¬ sid wh) then (-1) else lN (fr (eT z n 10 v k.toInt.toNat) (lf z n 0 ^ 10) wh.toInt.toNat)
def blC (n : Nat) (z : Nat → Nat) (f c : Nat) (v : Nat → Nat) (k wh : Int32) : Int64 := if ¬ (1 ≤ k.toInt ∧ k.toInt ≤ 10 ∧ ¬ sid wh) then (-1) else lN (fr (bkc f c (eT z n 10 v) (lf z n 0 ^ 10) k.toInt.toNat) (k.toInt.toNat * lf z n 0 ^ 10) wh.toInt.toNat)
theorem eT_0 (z : Nat → Nat) (n : Nat) {v : Nat → Nat} : ∀ (T : Nat), v 0 = 0 → eT z n T v 0 = 0 := by
  intro T h; induction T with
  | zero => exact h
  | succ T ih => simp only [eT]; rw [va_up_other _ _ (by omega)]; exact ih
def cnV (p z : Nat → Nat) (kn : Nat) (v : Nat → Nat) (k : Nat) : Nat := match k with
  | 0 => p 0
  | 1 => lf z (p 0) 0
  | 2 => p 9
  | 3 => p 10
  | 4 => p 11
  | 5 => p 13
  | 6 => p 14
  | 7 => p 15
  | 8 => p 16
  | 9 => p 17
  | 10 => tr z (p 0)
  | 11 => ba z (p 0) (p 9) (p 10)
  | 12 => bbk (p 9) (p 10) (eT z (p 0) 10 v) (lf z (p 0) 0 ^ 10)
  | _ => kn
def cnC (p z : Nat → Nat) (kn : Nat) (v : Nat → Nat) (wh : Int32) : Int32 := if 0 ≤ wh.toInt ∧ wh.toInt ≤ 13 then nI (cnV p z kn v wh.toInt.toNat) else (-1)
set_option maxHeartbeats 4000000 in
set_option maxRecDepth 100000 in
theorem c_X7_age (l : Launch) (D : va_G) (Z : Nat → ClassId) (zs0 : Nat) (X pa P ia iP kp T sa et Rn Ol : Nat) (pt pw : Nat) (p z : Nat → Nat) (k wh : Int32) (hn : 1 ≤ p 0 ∧ p 0 ≤ 8) (hs : lf z (p 0) 0 ≤ 24) (hzn : 0 < z (p 0)) : cMi l yX7_age wsX7_age (rmd 2) D Z zs0 [.ref X, .int k, .int wh] [(X, .inr (7, [.ref pa, .ref P, .ref ia, .ref iP, .int (nI kp), .ref T, .ref sa, .ref et, .ref Rn, .ref Ol])), (pa, .inr (2, [.ref pt, .int (nI (p 9)), .int (nI (p 10)), .int (nI (p 11)), .int (nI (p 13)), .int (nI (p 14)), .int (nI (p 15)), .int (nI (p 16)), .int (nI (p 17)), .int (nI (p 12))])), (pt, .inr (5, [.int (nI (p 0)), .ref pw])), (pw, .inl (Z 0, 9, .inl (aI z)))] (S := Unit) (fun (r : Int32) => fun (_ : Unit) => r = aqC (p 0) z k wh) (fun (_ : Unit) => [(X, .inr (7, [.ref pa, .ref P, .ref ia, .ref iP, .int (nI kp), .ref T, .ref sa, .ref et, .ref Rn, .ref Ol])), (pa, .inr (2, [.ref pt, .int (nI (p 9)), .int (nI (p 10)), .int (nI (p 11)), .int (nI (p 13)), .int (nI (p 14)), .int (nI (p 15)), .int (nI (p 16)), .int (nI (p 17)), .int (nI (p 12))])), (pt, .inr (5, [.int (nI (p 0)), .ref pw])), (pw, .inl (Z 0, 9, .inl (aI z)))]) 0 0 := by
  refine q_open (y := yX7_age) (ws := wsX7_age) (av := [.ref X, .int k, .int wh]) (win := [(X, .inr (7, [.ref pa, .ref P, .ref ia, .ref iP, .int (nI kp), .ref T, .ref sa, .ref et, .ref Rn, .ref Ol])), (pa, .inr (2, [.ref pt, .int (nI (p 9)), .int (nI (p 10)), .int (nI (p 11)), .int (nI (p 13)), .int (nI (p 14)), .int (nI (p 15)), .int (nI (p 16)), .int (nI (p 17)), .int (nI (p 12))])), (pt, .inr (5, [.int (nI (p 0)), .ref pw])), (pw, .inl (Z 0, 9, .inl (aI z)))]) (Qc := fun zs0 => cQi D Z zs0 [(X, .inr (7, [.ref pa, .ref P, .ref ia, .ref iP, .int (nI kp), .ref T, .ref sa, .ref et, .ref Rn, .ref Ol])), (pa, .inr (2, [.ref pt, .int (nI (p 9)), .int (nI (p 10)), .int (nI (p 11)), .int (nI (p 13)), .int (nI (p 14)), .int (nI (p 15)), .int (nI (p 16)), .int (nI (p 17)), .int (nI (p 12))])), (pt, .inr (5, [.int (nI (p 0)), .ref pw])), (pw, .inl (Z 0, 9, .inl (aI z)))] (S := Unit) (fun (r : Int32) => fun (_ : Unit) => r = aqC (p 0) z k wh) (fun (_ : Unit) => [(X, .inr (7, [.ref pa, .ref P, .ref ia, .ref iP, .int (nI kp), .ref T, .ref sa, .ref et, .ref Rn, .ref Ol])), (pa, .inr (2, [.ref pt, .int (nI (p 9)), .int (nI (p 10)), .int (nI (p 11)), .int (nI (p 13)), .int (nI (p 14)), .int (nI (p 15)), .int (nI (p 16)), .int (nI (p 17)), .int (nI (p 12))])), (pt, .inr (5, [.int (nI (p 0)), .ref pw])), (pw, .inl (Z 0, 9, .inl (aI z)))])) (cc := cX7_age) (maxL := 4) (ret := (some .int)) (by decide) rfl (Nat.le_of_ble_eq_true rfl) ?_
  intro pp ee s mm bw mt cd ls A H locs hAe hx hb hr hml hown hmn hts hlocks hA hK hw hl
  have hown : s.vm.findClass RX7 = some mm.cls := hown
  have hl : lv_has ls 4 [(0, .ref X), (1, .int k), (2, .int wh)] := hl
  have wd1 := hts (.fieldLink RX7 10 "ReplaceAges" "plan" "LReplaceAges$Plan;") (List.mem_of_getElem? (i := 1) rfl)
  have wd2 := hts (.fieldLink RX7 64 "ReplaceAges$Plan" "table" "LReplaceAges$Table;") (List.mem_of_getElem? (i := 2) rfl)
  have wd3 := hts (.fieldLink RX7 67 "ReplaceAges$Table" "n" "I") (List.mem_of_getElem? (i := 3) rfl)
  have in_X7 : ∀ w ∈ wsX70, w ∈ wsX7_age := fun _ h => List.mem_cons_of_mem _ (List.mem_append_left _ (List.mem_append_left _ (List.mem_append_right _ h)))
  have in_X2 : ∀ w ∈ wsX20, w ∈ wsX7_age := fun _ h => List.mem_cons_of_mem _ (List.mem_append_left _ (List.mem_append_right _ h))
  have in_X5 : ∀ w ∈ wsX50, w ∈ wsX7_age := fun _ h => List.mem_cons_of_mem _ (List.mem_append_right _ h)
  refine lv_aload_n hx hb dX7_age_0 rfl (lv_at hl 0 rfl) ?_
  refine q_get (v := .ref pa) (ci := 7) hx hb hts in_X7 hown hK hw 0 0 wd1 dX7_age_1 rfl rfl (by decide) rfl ?_
  refine q_get (v := .ref pt) (ci := 2) hx hb hts in_X2 hown hK hw 1 0 wd2 dX7_age_4 rfl rfl (by decide) rfl ?_
  refine lv_astore_n (lv' := [(3, .ref pt), (0, .ref X), (1, .int k), (2, .int wh)]) hx hb dX7_age_7 rfl hl (by decide) rfl (fun ls hl => ?_)
  refine lv_iload_n hx hb dX7_age_8 rfl (lv_at hl 2 rfl) ?_
  refine q_iconst (v := 1) hx hb dX7_age_9 (by decide) ?_
  refine q_icmp_lt (tgt := 30) hx hb k.toInt ((1 : Nat) : Int) rfl (nI_toInt (by omega)) dX7_age_10 (by decide) (fun c1 => ?_) (fun c1 => ?_)
  · --
    refine lv_iconst (v := (-1)) hx hb dX7_age_30 (by decide) ?_
    exact q_iret (wout := _) hx hb hr hlocks hAe hK () hw (by first | exact (aq_1 (by omega)).symm | exact (aq_2 ej (by omega) (by omega)).symm | exact (aq_3 ej (by omega) (by omega)).symm | exact (aq_4 ej eq (by omega) (by omega)).symm) dX7_age_31
  · --
    refine lv_iload_n hx hb dX7_age_13 rfl (lv_at hl 2 rfl) ?_
    refine lv_aload_n hx hb dX7_age_14 rfl (lv_at hl 0 rfl) ?_
    refine q_get (v := .int (nI (p 0))) (ci := 5) hx hb hts in_X5 hown hK hw 2 0 wd3 dX7_age_15 rfl rfl (by decide) rfl ?_
    refine q_icmp_gt (tgt := 30) hx hb k.toInt ((p 0 : Nat) : Int) rfl (nI_toInt (by omega)) dX7_age_18 (by decide) (fun c2 => ?_) (fun c2 => ?_)
    · --
      refine lv_iconst (v := (-1)) hx hb dX7_age_30 (by decide) ?_
      exact q_iret (wout := _) hx hb hr hlocks hAe hK () hw (by first | exact (aq_1 (by omega)).symm | exact (aq_2 ej (by omega) (by omega)).symm | exact (aq_3 ej (by omega) (by omega)).symm | exact (aq_4 ej eq (by omega) (by omega)).symm) dX7_age_31
    · --
      refine lv_iload_n hx hb dX7_age_21 rfl (lv_at hl 3 rfl) ?_
      refine q_if_lt (tgt := 30) hx hb wh.toInt rfl dX7_age_22 (by decide) (fun c3 => ?_) (fun c3 => ?_)
      · --
        refine lv_iconst (v := (-1)) hx hb dX7_age_30 (by decide) ?_
        exact q_iret (wout := _) hx hb hr hlocks hAe hK () hw (by first | exact (aq_1 (by omega)).symm | exact (aq_2 ej (by omega) (by omega)).symm | exact (aq_3 ej (by omega) (by omega)).symm | exact (aq_4 ej eq (by omega) (by omega)).symm) dX7_age_31
      · --
        refine lv_iload_n hx hb dX7_age_25 rfl (lv_at hl 3 rfl) ?_
        refine q_iconst (v := 3) hx hb dX7_age_26 (by decide) ?_
        refine q_icmp_le (tgt := 32) hx hb wh.toInt ((3 : Nat) : Int) rfl (nI_toInt (by omega)) dX7_age_27 (by decide) (fun c4 => ?_) (fun c4 => ?_)
        · --
          obtain ⟨j, rfl, ej⟩ := i32_nat (x := k) (by omega)
          obtain ⟨q, rfl, eq⟩ := i32_nat (x := wh) (by omega)
          refine lv_iload_n hx hb dX7_age_32 rfl (lv_at hl 3 rfl) ?_
          refine q_iconst (v := 2) hx hb dX7_age_33 (by decide) ?_
          refine q_icmp_ne (tgt := 43) hx hb ((q : Nat) : Int) ((2 : Nat) : Int) (nI_toInt (by omega)) (nI_toInt (by omega)) dX7_age_34 (by decide) (fun c5 => ?_) (fun c5 => ?_)
          · --
            refine lv_iload_n hx hb dX7_age_43 rfl (lv_at hl 3 rfl) ?_
            refine q_iconst (v := 3) hx hb dX7_age_44 (by decide) ?_
            refine q_icmp_ne (tgt := 54) hx hb ((q : Nat) : Int) ((3 : Nat) : Int) (nI_toInt (by omega)) (nI_toInt (by omega)) dX7_age_45 (by decide) (fun c6 => ?_) (fun c6 => ?_)
            · --
              refine lv_aload_n hx hb dX7_age_54 rfl (lv_at hl 0 rfl) ?_
              refine lv_iload_n hx hb dX7_age_55 rfl (lv_at hl 2 rfl) ?_
              refine q_calli (S := Unit) (Z := Z) (D := D) (wc := [(pt, .inr (5, [.int (nI (p 0)), .ref pw])), (pw, .inl (Z 0, 9, .inl (aI z)))]) (wr := [(X, .inr (7, [.ref pa, .ref P, .ref ia, .ref iP, .int (nI kp), .ref T, .ref sa, .ref et, .ref Rn, .ref Ol])), (pa, .inr (2, [.ref pt, .int (nI (p 9)), .int (nI (p 10)), .int (nI (p 11)), .int (nI (p 13)), .int (nI (p 14)), .int (nI (p 15)), .int (nI (p 16)), .int (nI (p 17)), .int (nI (p 12))]))]) (rest := []) hw hA [2, 3] [0, 1] rfl rfl rfl rfl (by decide) (fun hPc hDc => va_runV (As := [.int (nI j)]) (rest := []) ⟨hx, hb, hml, hown, hts⟩ (c_X5_weightOf l D Z H.size pt pw (p 0) z j hn.2 (by omega)) (cwV 1 hts gX7_age_X5_weightOf rfl rfl rfl (by decide +kernel) ⟨Nat.le_of_ble_eq_true rfl, Nat.le_of_ble_eq_true rfl⟩) ⟨fb_cPre, va_recv hK.1 hPc (ci := 5) (q0 := 0) rfl rfl, pre_of hPc hK hDc⟩ rfl rfl hl.1 rfl (lv_room (Nat.le_of_ble_eq_true rfl)) dX7_age_56 ⟨Nat.le_of_ble_eq_true rfl, Nat.le_of_ble_eq_true rfl⟩) (fun r7 u H locs hr7 hw => ?_)
              subst hr7
              have hw : WS D A s [(X, .inr (7, [.ref pa, .ref P, .ref ia, .ref iP, .int (nI kp), .ref T, .ref sa, .ref et, .ref Rn, .ref Ol])), (pa, .inr (2, [.ref pt, .int (nI (p 9)), .int (nI (p 10)), .int (nI (p 11)), .int (nI (p 13)), .int (nI (p 14)), .int (nI (p 15)), .int (nI (p 16)), .int (nI (p 17)), .int (nI (p 12))])), (pt, .inr (5, [.int (nI (p 0)), .ref pw])), (pw, .inl (Z 0, 9, .inl (aI z)))] H locs := hw
              refine q_topi (x := nI (wt z (p 0) j)) (y := nI (z j)) (congrArg nI (wt_in (by omega))) ?_
              refine q_i2l hx hb (Nat.lt_of_le_of_lt (z_le (n := p 0) (by omega)) (by omega)) dX7_age_59 ?_
              refine lv_aload_n hx hb dX7_age_60 rfl (lv_at hl 0 rfl) ?_
              refine lv_iload_n hx hb dX7_age_61 rfl (lv_at hl 2 rfl) ?_
              refine q_iconst (v := 1) hx hb dX7_age_62 (by decide) ?_
              refine q_isub hx hb (by omega) dX7_age_63 ?_
              refine q_calli (S := Unit) (Z := Z) (D := D) (wc := [(pt, .inr (5, [.int (nI (p 0)), .ref pw])), (pw, .inl (Z 0, 9, .inl (aI z)))]) (wr := [(X, .inr (7, [.ref pa, .ref P, .ref ia, .ref iP, .int (nI kp), .ref T, .ref sa, .ref et, .ref Rn, .ref Ol])), (pa, .inr (2, [.ref pt, .int (nI (p 9)), .int (nI (p 10)), .int (nI (p 11)), .int (nI (p 13)), .int (nI (p 14)), .int (nI (p 15)), .int (nI (p 16)), .int (nI (p 17)), .int (nI (p 12))]))]) (rest := [.long (lN (z j))]) hw hA [2, 3] [0, 1] rfl rfl rfl rfl (by decide) (fun hPc hDc => va_runV (As := [.int (nI (j - 1))]) (rest := [.long (lN (z j))]) ⟨hx, hb, hml, hown, hts⟩ (c_X5_left l D Z H.size pt pw (p 0) z (j - 1) hn.2 (by omega)) (cwV 1 hts gX7_age_X5_left rfl rfl rfl (by decide +kernel) ⟨Nat.le_of_ble_eq_true rfl, Nat.le_of_ble_eq_true rfl⟩) ⟨fb_cPre, va_recv hK.1 hPc (ci := 5) (q0 := 0) rfl rfl, pre_of hPc hK hDc⟩ rfl rfl hl.1 rfl (lv_room (Nat.le_of_ble_eq_true rfl)) dX7_age_64 ⟨Nat.le_of_ble_eq_true rfl, Nat.le_of_ble_eq_true rfl⟩) (fun r8 u H locs hr8 hw => ?_)
              subst hr8
              have hw : WS D A s [(X, .inr (7, [.ref pa, .ref P, .ref ia, .ref iP, .int (nI kp), .ref T, .ref sa, .ref et, .ref Rn, .ref Ol])), (pa, .inr (2, [.ref pt, .int (nI (p 9)), .int (nI (p 10)), .int (nI (p 11)), .int (nI (p 13)), .int (nI (p 14)), .int (nI (p 15)), .int (nI (p 16)), .int (nI (p 17)), .int (nI (p 12))])), (pt, .inr (5, [.int (nI (p 0)), .ref pw])), (pw, .inl (Z 0, 9, .inl (aI z)))] H locs := hw
              have hli := lf_anti (w := z) (n := p 0) (Nat.zero_le (j - 1))
              have hlp := lf_pos hzn (j := j - 1) (by omega)
              have hzj := z_le (z := z) (n := p 0) (k := j) (by omega)
              refine q_i2l hx hb (by omega) dX7_age_67 ?_
              refine lv_iload_n hx hb dX7_age_68 rfl (lv_at hl 3 rfl) ?_
              refine q_calll (S := Unit) (Z := Z) (D := D) (wc := []) (wr := [(X, .inr (7, [.ref pa, .ref P, .ref ia, .ref iP, .int (nI kp), .ref T, .ref sa, .ref et, .ref Rn, .ref Ol])), (pa, .inr (2, [.ref pt, .int (nI (p 9)), .int (nI (p 10)), .int (nI (p 11)), .int (nI (p 13)), .int (nI (p 14)), .int (nI (p 15)), .int (nI (p 16)), .int (nI (p 17)), .int (nI (p 12))])), (pt, .inr (5, [.int (nI (p 0)), .ref pw])), (pw, .inl (Z 0, 9, .inl (aI z)))]) (rest := []) hw hA [] [0, 1, 2, 3] rfl rfl rfl rfl (by decide) (fun hPc hDc => va_runS (As := [.long (lN (z j)), .long (lN (lf z (p 0) (j - 1))), .int (nI q)]) (rest := []) ⟨hx, hb, hml, hown, hts⟩ (c_X7_lowest l D Z H.size (z j) (lf z (p 0) (j - 1)) q (by first | assumption | omega) (by first | assumption | omega) (by first | assumption | omega) (by first | assumption | omega)) (va_cwS 3 hts gX7_age_X7_lowest rfl rfl rfl (by decide +kernel) ⟨Nat.le_of_ble_eq_true rfl, Nat.le_of_ble_eq_true rfl⟩) ⟨fb_cPre, pre_of hPc hK hDc⟩ rfl rfl hl.1 rfl (lv_room (Nat.le_of_ble_eq_true rfl)) dX7_age_69 ⟨Nat.le_of_ble_eq_true rfl, Nat.le_of_ble_eq_true rfl⟩) (fun r9 u H locs hr9 hw => ?_)
              subst hr9
              have hw : WS D A s [(X, .inr (7, [.ref pa, .ref P, .ref ia, .ref iP, .int (nI kp), .ref T, .ref sa, .ref et, .ref Rn, .ref Ol])), (pa, .inr (2, [.ref pt, .int (nI (p 9)), .int (nI (p 10)), .int (nI (p 11)), .int (nI (p 13)), .int (nI (p 14)), .int (nI (p 15)), .int (nI (p 16)), .int (nI (p 17)), .int (nI (p 12))])), (pt, .inr (5, [.int (nI (p 0)), .ref pw])), (pw, .inl (Z 0, 9, .inl (aI z)))] H locs := hw
              refine q_l2i hx hb dX7_age_72 ?_
              exact q_iret (wout := _) hx hb hr hlocks hAe hK () hw (by first | exact (aq_1 (by omega)).symm | exact (aq_2 ej (by omega) (by omega)).symm | exact (aq_3 ej (by omega) (by omega)).symm | exact (aq_4 ej eq (by omega) (by omega)).symm) dX7_age_73
            · --
              refine lv_aload_n hx hb dX7_age_48 rfl (lv_at hl 0 rfl) ?_
              refine lv_iload_n hx hb dX7_age_49 rfl (lv_at hl 2 rfl) ?_
              refine q_calli (S := Unit) (Z := Z) (D := D) (wc := [(pt, .inr (5, [.int (nI (p 0)), .ref pw])), (pw, .inl (Z 0, 9, .inl (aI z)))]) (wr := [(X, .inr (7, [.ref pa, .ref P, .ref ia, .ref iP, .int (nI kp), .ref T, .ref sa, .ref et, .ref Rn, .ref Ol])), (pa, .inr (2, [.ref pt, .int (nI (p 9)), .int (nI (p 10)), .int (nI (p 11)), .int (nI (p 13)), .int (nI (p 14)), .int (nI (p 15)), .int (nI (p 16)), .int (nI (p 17)), .int (nI (p 12))]))]) (rest := []) hw hA [2, 3] [0, 1] rfl rfl rfl rfl (by decide) (fun hPc hDc => va_runV (As := [.int (nI j)]) (rest := []) ⟨hx, hb, hml, hown, hts⟩ (c_X5_left l D Z H.size pt pw (p 0) z j hn.2 (by omega)) (cwV 1 hts gX7_age_X5_left rfl rfl rfl (by decide +kernel) ⟨Nat.le_of_ble_eq_true rfl, Nat.le_of_ble_eq_true rfl⟩) ⟨fb_cPre, va_recv hK.1 hPc (ci := 5) (q0 := 0) rfl rfl, pre_of hPc hK hDc⟩ rfl rfl hl.1 rfl (lv_room (Nat.le_of_ble_eq_true rfl)) dX7_age_50 ⟨Nat.le_of_ble_eq_true rfl, Nat.le_of_ble_eq_true rfl⟩) (fun r10 u H locs hr10 hw => ?_)
              subst hr10
              have hw : WS D A s [(X, .inr (7, [.ref pa, .ref P, .ref ia, .ref iP, .int (nI kp), .ref T, .ref sa, .ref et, .ref Rn, .ref Ol])), (pa, .inr (2, [.ref pt, .int (nI (p 9)), .int (nI (p 10)), .int (nI (p 11)), .int (nI (p 13)), .int (nI (p 14)), .int (nI (p 15)), .int (nI (p 16)), .int (nI (p 17)), .int (nI (p 12))])), (pt, .inr (5, [.int (nI (p 0)), .ref pw])), (pw, .inl (Z 0, 9, .inl (aI z)))] H locs := hw
              exact q_iret (wout := _) hx hb hr hlocks hAe hK () hw (by first | exact (aq_1 (by omega)).symm | exact (aq_2 ej (by omega) (by omega)).symm | exact (aq_3 ej (by omega) (by omega)).symm | exact (aq_4 ej eq (by omega) (by omega)).symm) dX7_age_53
          · --
            refine lv_aload_n hx hb dX7_age_37 rfl (lv_at hl 0 rfl) ?_
            refine lv_iload_n hx hb dX7_age_38 rfl (lv_at hl 2 rfl) ?_
            refine q_calli (S := Unit) (Z := Z) (D := D) (wc := [(pt, .inr (5, [.int (nI (p 0)), .ref pw])), (pw, .inl (Z 0, 9, .inl (aI z)))]) (wr := [(X, .inr (7, [.ref pa, .ref P, .ref ia, .ref iP, .int (nI kp), .ref T, .ref sa, .ref et, .ref Rn, .ref Ol])), (pa, .inr (2, [.ref pt, .int (nI (p 9)), .int (nI (p 10)), .int (nI (p 11)), .int (nI (p 13)), .int (nI (p 14)), .int (nI (p 15)), .int (nI (p 16)), .int (nI (p 17)), .int (nI (p 12))]))]) (rest := []) hw hA [2, 3] [0, 1] rfl rfl rfl rfl (by decide) (fun hPc hDc => va_runV (As := [.int (nI j)]) (rest := []) ⟨hx, hb, hml, hown, hts⟩ (c_X5_weightOf l D Z H.size pt pw (p 0) z j hn.2 (by omega)) (cwV 1 hts gX7_age_X5_weightOf rfl rfl rfl (by decide +kernel) ⟨Nat.le_of_ble_eq_true rfl, Nat.le_of_ble_eq_true rfl⟩) ⟨fb_cPre, va_recv hK.1 hPc (ci := 5) (q0 := 0) rfl rfl, pre_of hPc hK hDc⟩ rfl rfl hl.1 rfl (lv_room (Nat.le_of_ble_eq_true rfl)) dX7_age_39 ⟨Nat.le_of_ble_eq_true rfl, Nat.le_of_ble_eq_true rfl⟩) (fun r11 u H locs hr11 hw => ?_)
            subst hr11
            have hw : WS D A s [(X, .inr (7, [.ref pa, .ref P, .ref ia, .ref iP, .int (nI kp), .ref T, .ref sa, .ref et, .ref Rn, .ref Ol])), (pa, .inr (2, [.ref pt, .int (nI (p 9)), .int (nI (p 10)), .int (nI (p 11)), .int (nI (p 13)), .int (nI (p 14)), .int (nI (p 15)), .int (nI (p 16)), .int (nI (p 17)), .int (nI (p 12))])), (pt, .inr (5, [.int (nI (p 0)), .ref pw])), (pw, .inl (Z 0, 9, .inl (aI z)))] H locs := hw
            refine q_topi (x := nI (wt z (p 0) j)) (y := nI (z j)) (congrArg nI (wt_in (by omega))) ?_
            exact q_iret (wout := _) hx hb hr hlocks hAe hK () hw (by first | exact (aq_1 (by omega)).symm | exact (aq_2 ej (by omega) (by omega)).symm | exact (aq_3 ej (by omega) (by omega)).symm | exact (aq_4 ej eq (by omega) (by omega)).symm) dX7_age_42
        · --
          refine lv_iconst (v := (-1)) hx hb dX7_age_30 (by decide) ?_
          exact q_iret (wout := _) hx hb hr hlocks hAe hK () hw (by first | exact (aq_1 (by omega)).symm | exact (aq_2 ej (by omega) (by omega)).symm | exact (aq_3 ej (by omega) (by omega)).symm | exact (aq_4 ej eq (by omega) (by omega)).symm) dX7_age_31
set_option maxHeartbeats 4000000 in
set_option maxRecDepth 100000 in
theorem c_X7_mean (l : Launch) (D : va_G) (Z : Nat → ClassId) (zs0 : Nat) (X pa P ia iP kp T sa et Rn Ol : Nat) (pt pw : Nat) (p z : Nat → Nat) (wh : Int32) (hn : 1 ≤ p 0 ∧ p 0 ≤ 8) (hs : lf z (p 0) 0 ≤ 24) (hzn : 0 < z (p 0)) : cMi l yX7_mean wsX7_mean (rmd 3) D Z zs0 [.ref X, .int wh] [(X, .inr (7, [.ref pa, .ref P, .ref ia, .ref iP, .int (nI kp), .ref T, .ref sa, .ref et, .ref Rn, .ref Ol])), (pa, .inr (2, [.ref pt, .int (nI (p 9)), .int (nI (p 10)), .int (nI (p 11)), .int (nI (p 13)), .int (nI (p 14)), .int (nI (p 15)), .int (nI (p 16)), .int (nI (p 17)), .int (nI (p 12))])), (pt, .inr (5, [.int (nI (p 0)), .ref pw])), (pw, .inl (Z 0, 9, .inl (aI z)))] (S := Unit) (fun (r : Int32) => fun (_ : Unit) => r = mnC (p 0) z wh) (fun (_ : Unit) => [(X, .inr (7, [.ref pa, .ref P, .ref ia, .ref iP, .int (nI kp), .ref T, .ref sa, .ref et, .ref Rn, .ref Ol])), (pa, .inr (2, [.ref pt, .int (nI (p 9)), .int (nI (p 10)), .int (nI (p 11)), .int (nI (p 13)), .int (nI (p 14)), .int (nI (p 15)), .int (nI (p 16)), .int (nI (p 17)), .int (nI (p 12))])), (pt, .inr (5, [.int (nI (p 0)), .ref pw])), (pw, .inl (Z 0, 9, .inl (aI z)))]) 0 0 := by
  refine q_open (y := yX7_mean) (ws := wsX7_mean) (av := [.ref X, .int wh]) (win := [(X, .inr (7, [.ref pa, .ref P, .ref ia, .ref iP, .int (nI kp), .ref T, .ref sa, .ref et, .ref Rn, .ref Ol])), (pa, .inr (2, [.ref pt, .int (nI (p 9)), .int (nI (p 10)), .int (nI (p 11)), .int (nI (p 13)), .int (nI (p 14)), .int (nI (p 15)), .int (nI (p 16)), .int (nI (p 17)), .int (nI (p 12))])), (pt, .inr (5, [.int (nI (p 0)), .ref pw])), (pw, .inl (Z 0, 9, .inl (aI z)))]) (Qc := fun zs0 => cQi D Z zs0 [(X, .inr (7, [.ref pa, .ref P, .ref ia, .ref iP, .int (nI kp), .ref T, .ref sa, .ref et, .ref Rn, .ref Ol])), (pa, .inr (2, [.ref pt, .int (nI (p 9)), .int (nI (p 10)), .int (nI (p 11)), .int (nI (p 13)), .int (nI (p 14)), .int (nI (p 15)), .int (nI (p 16)), .int (nI (p 17)), .int (nI (p 12))])), (pt, .inr (5, [.int (nI (p 0)), .ref pw])), (pw, .inl (Z 0, 9, .inl (aI z)))] (S := Unit) (fun (r : Int32) => fun (_ : Unit) => r = mnC (p 0) z wh) (fun (_ : Unit) => [(X, .inr (7, [.ref pa, .ref P, .ref ia, .ref iP, .int (nI kp), .ref T, .ref sa, .ref et, .ref Rn, .ref Ol])), (pa, .inr (2, [.ref pt, .int (nI (p 9)), .int (nI (p 10)), .int (nI (p 11)), .int (nI (p 13)), .int (nI (p 14)), .int (nI (p 15)), .int (nI (p 16)), .int (nI (p 17)), .int (nI (p 12))])), (pt, .inr (5, [.int (nI (p 0)), .ref pw])), (pw, .inl (Z 0, 9, .inl (aI z)))])) (cc := cX7_mean) (maxL := 3) (ret := (some .int)) (by decide) rfl (Nat.le_of_ble_eq_true rfl) ?_
  intro pp ee s mm bw mt cd ls A H locs hAe hx hb hr hml hown hmn hts hlocks hA hK hw hl
  have hown : s.vm.findClass RX7 = some mm.cls := hown
  have hl : lv_has ls 3 [(0, .ref X), (1, .int wh)] := hl
  have wd1 := hts (.fieldLink RX7 10 "ReplaceAges" "plan" "LReplaceAges$Plan;") (List.mem_of_getElem? (i := 1) rfl)
  have wd2 := hts (.fieldLink RX7 64 "ReplaceAges$Plan" "table" "LReplaceAges$Table;") (List.mem_of_getElem? (i := 2) rfl)
  have wd3 := hts (.fieldLink RX7 67 "ReplaceAges$Table" "n" "I") (List.mem_of_getElem? (i := 3) rfl)
  have in_X7 : ∀ w ∈ wsX70, w ∈ wsX7_mean := fun _ h => List.mem_cons_of_mem _ (List.mem_append_left _ (List.mem_append_left _ (List.mem_append_right _ h)))
  have in_X2 : ∀ w ∈ wsX20, w ∈ wsX7_mean := fun _ h => List.mem_cons_of_mem _ (List.mem_append_left _ (List.mem_append_right _ h))
  have in_X5 : ∀ w ∈ wsX50, w ∈ wsX7_mean := fun _ h => List.mem_cons_of_mem _ (List.mem_append_right _ h)
  have hlp := lf_pos hzn (j := 0) (by omega)
  have hsv := sv_le hs (p 0)
  refine lv_iload_n hx hb dX7_mean_0 rfl (lv_at hl 1 rfl) ?_
  refine q_calli (S := Unit) (Z := Z) (D := D) (wc := []) (wr := [(X, .inr (7, [.ref pa, .ref P, .ref ia, .ref iP, .int (nI kp), .ref T, .ref sa, .ref et, .ref Rn, .ref Ol])), (pa, .inr (2, [.ref pt, .int (nI (p 9)), .int (nI (p 10)), .int (nI (p 11)), .int (nI (p 13)), .int (nI (p 14)), .int (nI (p 15)), .int (nI (p 16)), .int (nI (p 17)), .int (nI (p 12))])), (pt, .inr (5, [.int (nI (p 0)), .ref pw])), (pw, .inl (Z 0, 9, .inl (aI z)))]) (rest := []) hw hA [] [0, 1, 2, 3] rfl rfl rfl rfl (by decide) (fun hPc hDc => va_runS (As := [.int wh]) (rest := []) ⟨hx, hb, hml, hown, hts⟩ (c_X7_isNoSide l D Z H.size wh ) (va_cwS 1 hts gX7_mean_X7_isNoSide rfl rfl rfl (by decide +kernel) ⟨Nat.le_of_ble_eq_true rfl, Nat.le_of_ble_eq_true rfl⟩) ⟨fb_cPre, pre_of hPc hK hDc⟩ rfl rfl hl.1 rfl (lv_room (Nat.le_of_ble_eq_true rfl)) dX7_mean_1 ⟨Nat.le_of_ble_eq_true rfl, Nat.le_of_ble_eq_true rfl⟩) (fun r1 u H locs hr1 hw => ?_)
  subst hr1
  have hw : WS D A s [(X, .inr (7, [.ref pa, .ref P, .ref ia, .ref iP, .int (nI kp), .ref T, .ref sa, .ref et, .ref Rn, .ref Ol])), (pa, .inr (2, [.ref pt, .int (nI (p 9)), .int (nI (p 10)), .int (nI (p 11)), .int (nI (p 13)), .int (nI (p 14)), .int (nI (p 15)), .int (nI (p 16)), .int (nI (p 17)), .int (nI (p 12))])), (pt, .inr (5, [.int (nI (p 0)), .ref pw])), (pw, .inl (Z 0, 9, .inl (aI z)))] H locs := hw
  refine q_if_eq (tgt := 9) hx hb ((bb (wh.toInt ≠ 0 ∧ wh.toInt ≠ 1) : Nat) : Int) (nI_toInt (Nat.lt_of_le_of_lt (bb_le _) (by decide))) dX7_mean_4 (by decide) (fun c2 => ?_) (fun c2 => ?_)
  · --
    have c2 := bb_0 c2
    obtain ⟨q, rfl, eq⟩ := i32_nat (x := wh) (by omega)
    refine lv_aload_n hx hb dX7_mean_9 rfl (lv_at hl 0 rfl) ?_
    refine q_get (v := .ref pa) (ci := 7) hx hb hts in_X7 hown hK hw 0 0 wd1 dX7_mean_10 rfl rfl (by decide) rfl ?_
    refine q_get (v := .ref pt) (ci := 2) hx hb hts in_X2 hown hK hw 1 0 wd2 dX7_mean_13 rfl rfl (by decide) rfl ?_
    refine lv_astore_n (lv' := [(2, .ref pt), (0, .ref X), (1, .int (nI q))]) hx hb dX7_mean_16 rfl hl (by decide) rfl (fun ls hl => ?_)
    refine lv_aload_n hx hb dX7_mean_17 rfl (lv_at hl 0 rfl) ?_
    refine lv_aload_n hx hb dX7_mean_18 rfl (lv_at hl 0 rfl) ?_
    refine q_get (v := .int (nI (p 0))) (ci := 5) hx hb hts in_X5 hown hK hw 2 0 wd3 dX7_mean_19 rfl rfl (by decide) rfl ?_
    refine q_calli (S := Unit) (Z := Z) (D := D) (wc := [(pt, .inr (5, [.int (nI (p 0)), .ref pw])), (pw, .inl (Z 0, 9, .inl (aI z)))]) (wr := [(X, .inr (7, [.ref pa, .ref P, .ref ia, .ref iP, .int (nI kp), .ref T, .ref sa, .ref et, .ref Rn, .ref Ol])), (pa, .inr (2, [.ref pt, .int (nI (p 9)), .int (nI (p 10)), .int (nI (p 11)), .int (nI (p 13)), .int (nI (p 14)), .int (nI (p 15)), .int (nI (p 16)), .int (nI (p 17)), .int (nI (p 12))]))]) (rest := []) hw hA [2, 3] [0, 1] rfl rfl rfl rfl (by decide) (fun hPc hDc => va_runV (As := [.int (nI (p 0))]) (rest := []) ⟨hx, hb, hml, hown, hts⟩ (c_X5_served l D Z H.size pt pw (p 0) z (p 0) hn.2 hn.2) (cwV 1 hts gX7_mean_X5_served rfl rfl rfl (by decide +kernel) ⟨Nat.le_of_ble_eq_true rfl, Nat.le_of_ble_eq_true rfl⟩) ⟨fb_cPre, va_recv hK.1 hPc (ci := 5) (q0 := 0) rfl rfl, pre_of hPc hK hDc⟩ rfl rfl hl.1 rfl (lv_room (Nat.le_of_ble_eq_true rfl)) dX7_mean_22 ⟨Nat.le_of_ble_eq_true rfl, Nat.le_of_ble_eq_true rfl⟩) (fun r3 u H locs hr3 hw => ?_)
    subst hr3
    have hw : WS D A s [(X, .inr (7, [.ref pa, .ref P, .ref ia, .ref iP, .int (nI kp), .ref T, .ref sa, .ref et, .ref Rn, .ref Ol])), (pa, .inr (2, [.ref pt, .int (nI (p 9)), .int (nI (p 10)), .int (nI (p 11)), .int (nI (p 13)), .int (nI (p 14)), .int (nI (p 15)), .int (nI (p 16)), .int (nI (p 17)), .int (nI (p 12))])), (pt, .inr (5, [.int (nI (p 0)), .ref pw])), (pw, .inl (Z 0, 9, .inl (aI z)))] H locs := hw
    refine q_i2l hx hb (by omega) dX7_mean_25 ?_
    refine lv_aload_n hx hb dX7_mean_26 rfl (lv_at hl 0 rfl) ?_
    refine q_calli (S := Unit) (Z := Z) (D := D) (wc := [(pt, .inr (5, [.int (nI (p 0)), .ref pw])), (pw, .inl (Z 0, 9, .inl (aI z)))]) (wr := [(X, .inr (7, [.ref pa, .ref P, .ref ia, .ref iP, .int (nI kp), .ref T, .ref sa, .ref et, .ref Rn, .ref Ol])), (pa, .inr (2, [.ref pt, .int (nI (p 9)), .int (nI (p 10)), .int (nI (p 11)), .int (nI (p 13)), .int (nI (p 14)), .int (nI (p 15)), .int (nI (p 16)), .int (nI (p 17)), .int (nI (p 12))]))]) (rest := [.long (lN (sv z (p 0) (p 0)))]) hw hA [2, 3] [0, 1] rfl rfl rfl rfl (by decide) (fun hPc hDc => va_runV (As := []) (rest := [.long (lN (sv z (p 0) (p 0)))]) ⟨hx, hb, hml, hown, hts⟩ (c_X5_all l D Z H.size pt pw (p 0) z hn.2) (cwV 0 hts gX7_mean_X5_all rfl rfl rfl (by decide +kernel) ⟨Nat.le_of_ble_eq_true rfl, Nat.le_of_ble_eq_true rfl⟩) ⟨fb_cPre, va_recv hK.1 hPc (ci := 5) (q0 := 0) rfl rfl, pre_of hPc hK hDc⟩ rfl rfl hl.1 rfl (lv_room (Nat.le_of_ble_eq_true rfl)) dX7_mean_27 ⟨Nat.le_of_ble_eq_true rfl, Nat.le_of_ble_eq_true rfl⟩) (fun r4 u H locs hr4 hw => ?_)
    subst hr4
    have hw : WS D A s [(X, .inr (7, [.ref pa, .ref P, .ref ia, .ref iP, .int (nI kp), .ref T, .ref sa, .ref et, .ref Rn, .ref Ol])), (pa, .inr (2, [.ref pt, .int (nI (p 9)), .int (nI (p 10)), .int (nI (p 11)), .int (nI (p 13)), .int (nI (p 14)), .int (nI (p 15)), .int (nI (p 16)), .int (nI (p 17)), .int (nI (p 12))])), (pt, .inr (5, [.int (nI (p 0)), .ref pw])), (pw, .inl (Z 0, 9, .inl (aI z)))] H locs := hw
    refine q_i2l hx hb (by omega) dX7_mean_30 ?_
    refine lv_iload_n hx hb dX7_mean_31 rfl (lv_at hl 2 rfl) ?_
    refine q_calll (S := Unit) (Z := Z) (D := D) (wc := []) (wr := [(X, .inr (7, [.ref pa, .ref P, .ref ia, .ref iP, .int (nI kp), .ref T, .ref sa, .ref et, .ref Rn, .ref Ol])), (pa, .inr (2, [.ref pt, .int (nI (p 9)), .int (nI (p 10)), .int (nI (p 11)), .int (nI (p 13)), .int (nI (p 14)), .int (nI (p 15)), .int (nI (p 16)), .int (nI (p 17)), .int (nI (p 12))])), (pt, .inr (5, [.int (nI (p 0)), .ref pw])), (pw, .inl (Z 0, 9, .inl (aI z)))]) (rest := []) hw hA [] [0, 1, 2, 3] rfl rfl rfl rfl (by decide) (fun hPc hDc => va_runS (As := [.long (lN (sv z (p 0) (p 0))), .long (lN (lf z (p 0) 0)), .int (nI q)]) (rest := []) ⟨hx, hb, hml, hown, hts⟩ (c_X7_lowest l D Z H.size (sv z (p 0) (p 0)) (lf z (p 0) 0) q (by first | assumption | omega) (by first | assumption | omega) (by first | assumption | omega) (by first | assumption | omega)) (va_cwS 3 hts gX7_mean_X7_lowest rfl rfl rfl (by decide +kernel) ⟨Nat.le_of_ble_eq_true rfl, Nat.le_of_ble_eq_true rfl⟩) ⟨fb_cPre, pre_of hPc hK hDc⟩ rfl rfl hl.1 rfl (lv_room (Nat.le_of_ble_eq_true rfl)) dX7_mean_32 ⟨Nat.le_of_ble_eq_true rfl, Nat.le_of_ble_eq_true rfl⟩) (fun r5 u H locs hr5 hw => ?_)
    subst hr5
    have hw : WS D A s [(X, .inr (7, [.ref pa, .ref P, .ref ia, .ref iP, .int (nI kp), .ref T, .ref sa, .ref et, .ref Rn, .ref Ol])), (pa, .inr (2, [.ref pt, .int (nI (p 9)), .int (nI (p 10)), .int (nI (p 11)), .int (nI (p 13)), .int (nI (p 14)), .int (nI (p 15)), .int (nI (p 16)), .int (nI (p 17)), .int (nI (p 12))])), (pt, .inr (5, [.int (nI (p 0)), .ref pw])), (pw, .inl (Z 0, 9, .inl (aI z)))] H locs := hw
    refine q_l2i hx hb dX7_mean_35 ?_
    exact q_iret (wout := _) hx hb hr hlocks hAe hK () hw (by first | exact (if_pos (by omega)).symm | (unfold mnC; rw [if_neg (by omega), tnI eq])) dX7_mean_36
  · --
    have c2 := bb_1 c2
    refine lv_iconst (v := (-1)) hx hb dX7_mean_7 (by decide) ?_
    exact q_iret (wout := _) hx hb hr hlocks hAe hK () hw (by first | exact (if_pos (by omega)).symm | (unfold mnC; rw [if_neg (by omega), tnI eq])) dX7_mean_8
set_option maxHeartbeats 4000000 in
set_option maxRecDepth 100000 in
theorem c_X7_rate (l : Launch) (D : va_G) (Z : Nat → ClassId) (zs0 : Nat) (X pa P ia iP kp T sa et Rn Ol : Nat) (pt pw : Nat) (p z : Nat → Nat) (k wh : Int32) (hn : 1 ≤ p 0 ∧ p 0 ≤ 8) (hs : lf z (p 0) 0 ≤ 24) (hzn : 0 < z (p 0)) (h9 : p 9 ≤ 99) (h10 : p 10 ≤ 99) : cMi l yX7_rate wsX7_rate (rmd 4) D Z zs0 [.ref X, .int k, .int wh] [(X, .inr (7, [.ref pa, .ref P, .ref ia, .ref iP, .int (nI kp), .ref T, .ref sa, .ref et, .ref Rn, .ref Ol])), (pa, .inr (2, [.ref pt, .int (nI (p 9)), .int (nI (p 10)), .int (nI (p 11)), .int (nI (p 13)), .int (nI (p 14)), .int (nI (p 15)), .int (nI (p 16)), .int (nI (p 17)), .int (nI (p 12))])), (pt, .inr (5, [.int (nI (p 0)), .ref pw])), (pw, .inl (Z 0, 9, .inl (aI z)))] (S := Unit) (fun (r : Int32) => fun (_ : Unit) => r = rtC (p 0) z (p 9) (p 10) k wh) (fun (_ : Unit) => [(X, .inr (7, [.ref pa, .ref P, .ref ia, .ref iP, .int (nI kp), .ref T, .ref sa, .ref et, .ref Rn, .ref Ol])), (pa, .inr (2, [.ref pt, .int (nI (p 9)), .int (nI (p 10)), .int (nI (p 11)), .int (nI (p 13)), .int (nI (p 14)), .int (nI (p 15)), .int (nI (p 16)), .int (nI (p 17)), .int (nI (p 12))])), (pt, .inr (5, [.int (nI (p 0)), .ref pw])), (pw, .inl (Z 0, 9, .inl (aI z)))]) 0 0 := by
  refine q_open (y := yX7_rate) (ws := wsX7_rate) (av := [.ref X, .int k, .int wh]) (win := [(X, .inr (7, [.ref pa, .ref P, .ref ia, .ref iP, .int (nI kp), .ref T, .ref sa, .ref et, .ref Rn, .ref Ol])), (pa, .inr (2, [.ref pt, .int (nI (p 9)), .int (nI (p 10)), .int (nI (p 11)), .int (nI (p 13)), .int (nI (p 14)), .int (nI (p 15)), .int (nI (p 16)), .int (nI (p 17)), .int (nI (p 12))])), (pt, .inr (5, [.int (nI (p 0)), .ref pw])), (pw, .inl (Z 0, 9, .inl (aI z)))]) (Qc := fun zs0 => cQi D Z zs0 [(X, .inr (7, [.ref pa, .ref P, .ref ia, .ref iP, .int (nI kp), .ref T, .ref sa, .ref et, .ref Rn, .ref Ol])), (pa, .inr (2, [.ref pt, .int (nI (p 9)), .int (nI (p 10)), .int (nI (p 11)), .int (nI (p 13)), .int (nI (p 14)), .int (nI (p 15)), .int (nI (p 16)), .int (nI (p 17)), .int (nI (p 12))])), (pt, .inr (5, [.int (nI (p 0)), .ref pw])), (pw, .inl (Z 0, 9, .inl (aI z)))] (S := Unit) (fun (r : Int32) => fun (_ : Unit) => r = rtC (p 0) z (p 9) (p 10) k wh) (fun (_ : Unit) => [(X, .inr (7, [.ref pa, .ref P, .ref ia, .ref iP, .int (nI kp), .ref T, .ref sa, .ref et, .ref Rn, .ref Ol])), (pa, .inr (2, [.ref pt, .int (nI (p 9)), .int (nI (p 10)), .int (nI (p 11)), .int (nI (p 13)), .int (nI (p 14)), .int (nI (p 15)), .int (nI (p 16)), .int (nI (p 17)), .int (nI (p 12))])), (pt, .inr (5, [.int (nI (p 0)), .ref pw])), (pw, .inl (Z 0, 9, .inl (aI z)))])) (cc := cX7_rate) (maxL := 4) (ret := (some .int)) (by decide) rfl (Nat.le_of_ble_eq_true rfl) ?_
  intro pp ee s mm bw mt cd ls A H locs hAe hx hb hr hml hown hmn hts hlocks hA hK hw hl
  have hown : s.vm.findClass RX7 = some mm.cls := hown
  have hl : lv_has ls 4 [(0, .ref X), (1, .int k), (2, .int wh)] := hl
  have wd1 := hts (.fieldLink RX7 10 "ReplaceAges" "plan" "LReplaceAges$Plan;") (List.mem_of_getElem? (i := 1) rfl)
  have wd2 := hts (.fieldLink RX7 64 "ReplaceAges$Plan" "table" "LReplaceAges$Table;") (List.mem_of_getElem? (i := 2) rfl)
  have wd3 := hts (.fieldLink RX7 67 "ReplaceAges$Table" "n" "I") (List.mem_of_getElem? (i := 3) rfl)
  have wd4 := hts (.fieldLink RX7 117 "ReplaceAges$Plan" "failure" "I") (List.mem_of_getElem? (i := 4) rfl)
  have wd5 := hts (.fieldLink RX7 120 "ReplaceAges$Plan" "change" "I") (List.mem_of_getElem? (i := 5) rfl)
  have in_X7 : ∀ w ∈ wsX70, w ∈ wsX7_rate := fun _ h => List.mem_cons_of_mem _ (List.mem_append_left _ (List.mem_append_left _ (List.mem_append_right _ h)))
  have in_X2 : ∀ w ∈ wsX20, w ∈ wsX7_rate := fun _ h => List.mem_cons_of_mem _ (List.mem_append_left _ (List.mem_append_right _ h))
  have in_X5 : ∀ w ∈ wsX50, w ∈ wsX7_rate := fun _ h => List.mem_cons_of_mem _ (List.mem_append_right _ h)
  refine lv_aload_n hx hb dX7_rate_0 rfl (lv_at hl 0 rfl) ?_
  refine q_get (v := .ref pa) (ci := 7) hx hb hts in_X7 hown hK hw 0 0 wd1 dX7_rate_1 rfl rfl (by decide) rfl ?_
  refine q_get (v := .ref pt) (ci := 2) hx hb hts in_X2 hown hK hw 1 0 wd2 dX7_rate_4 rfl rfl (by decide) rfl ?_
  refine lv_astore_n (lv' := [(3, .ref pt), (0, .ref X), (1, .int k), (2, .int wh)]) hx hb dX7_rate_7 rfl hl (by decide) rfl (fun ls hl => ?_)
  refine lv_iload_n hx hb dX7_rate_8 rfl (lv_at hl 2 rfl) ?_
  refine q_iconst (v := 1) hx hb dX7_rate_9 (by decide) ?_
  refine q_icmp_lt (tgt := 28) hx hb k.toInt ((1 : Nat) : Int) rfl (nI_toInt (by omega)) dX7_rate_10 (by decide) (fun c1 => ?_) (fun c1 => ?_)
  · --
    refine lv_iconst (v := (-1)) hx hb dX7_rate_28 (by decide) ?_
    exact q_iret (wout := _) hx hb hr hlocks hAe hK () hw (by first | exact (if_pos (by omega)).symm | (unfold rtC; rw [if_neg (by omega), tnI eq, tnI ej])) dX7_rate_29
  · --
    refine lv_iload_n hx hb dX7_rate_13 rfl (lv_at hl 2 rfl) ?_
    refine lv_aload_n hx hb dX7_rate_14 rfl (lv_at hl 0 rfl) ?_
    refine q_get (v := .int (nI (p 0))) (ci := 5) hx hb hts in_X5 hown hK hw 2 0 wd3 dX7_rate_15 rfl rfl (by decide) rfl ?_
    refine q_icmp_gt (tgt := 28) hx hb k.toInt ((p 0 : Nat) : Int) rfl (nI_toInt (by omega)) dX7_rate_18 (by decide) (fun c2 => ?_) (fun c2 => ?_)
    · --
      refine lv_iconst (v := (-1)) hx hb dX7_rate_28 (by decide) ?_
      exact q_iret (wout := _) hx hb hr hlocks hAe hK () hw (by first | exact (if_pos (by omega)).symm | (unfold rtC; rw [if_neg (by omega), tnI eq, tnI ej])) dX7_rate_29
    · --
      refine lv_iload_n hx hb dX7_rate_21 rfl (lv_at hl 3 rfl) ?_
      refine q_calli (S := Unit) (Z := Z) (D := D) (wc := []) (wr := [(X, .inr (7, [.ref pa, .ref P, .ref ia, .ref iP, .int (nI kp), .ref T, .ref sa, .ref et, .ref Rn, .ref Ol])), (pa, .inr (2, [.ref pt, .int (nI (p 9)), .int (nI (p 10)), .int (nI (p 11)), .int (nI (p 13)), .int (nI (p 14)), .int (nI (p 15)), .int (nI (p 16)), .int (nI (p 17)), .int (nI (p 12))])), (pt, .inr (5, [.int (nI (p 0)), .ref pw])), (pw, .inl (Z 0, 9, .inl (aI z)))]) (rest := []) hw hA [] [0, 1, 2, 3] rfl rfl rfl rfl (by decide) (fun hPc hDc => va_runS (As := [.int wh]) (rest := []) ⟨hx, hb, hml, hown, hts⟩ (c_X7_isNoSide l D Z H.size wh ) (va_cwS 1 hts gX7_rate_X7_isNoSide rfl rfl rfl (by decide +kernel) ⟨Nat.le_of_ble_eq_true rfl, Nat.le_of_ble_eq_true rfl⟩) ⟨fb_cPre, pre_of hPc hK hDc⟩ rfl rfl hl.1 rfl (lv_room (Nat.le_of_ble_eq_true rfl)) dX7_rate_22 ⟨Nat.le_of_ble_eq_true rfl, Nat.le_of_ble_eq_true rfl⟩) (fun r3 u H locs hr3 hw => ?_)
      subst hr3
      have hw : WS D A s [(X, .inr (7, [.ref pa, .ref P, .ref ia, .ref iP, .int (nI kp), .ref T, .ref sa, .ref et, .ref Rn, .ref Ol])), (pa, .inr (2, [.ref pt, .int (nI (p 9)), .int (nI (p 10)), .int (nI (p 11)), .int (nI (p 13)), .int (nI (p 14)), .int (nI (p 15)), .int (nI (p 16)), .int (nI (p 17)), .int (nI (p 12))])), (pt, .inr (5, [.int (nI (p 0)), .ref pw])), (pw, .inl (Z 0, 9, .inl (aI z)))] H locs := hw
      refine q_if_eq (tgt := 30) hx hb ((bb (wh.toInt ≠ 0 ∧ wh.toInt ≠ 1) : Nat) : Int) (nI_toInt (Nat.lt_of_le_of_lt (bb_le _) (by decide))) dX7_rate_25 (by decide) (fun c4 => ?_) (fun c4 => ?_)
      · --
        have c4 := bb_0 c4
        obtain ⟨j, rfl, ej⟩ := i32_nat (x := k) (by omega)
        obtain ⟨q, rfl, eq⟩ := i32_nat (x := wh) (by omega)
        have hsv := sv_le hs j
        have hct := ct_le hs h9 h10 j
        have hlp := lf_pos hzn (j := 0) (by omega)
        have hsp := sv_pos (z := z) (n := p 0) (a := j) (by omega)
        refine lv_aload_n hx hb dX7_rate_30 rfl (lv_at hl 0 rfl) ?_
        refine lv_iload_n hx hb dX7_rate_31 rfl (lv_at hl 2 rfl) ?_
        refine lv_aload_n hx hb dX7_rate_32 rfl (lv_at hl 1 rfl) ?_
        refine q_get (v := .ref pa) (ci := 7) hx hb hts in_X7 hown hK hw 0 0 wd1 dX7_rate_33 rfl rfl (by decide) rfl ?_
        refine q_get (v := .int (nI (p 9))) (ci := 2) hx hb hts in_X2 hown hK hw 1 1 wd4 dX7_rate_36 rfl rfl (by decide) rfl ?_
        refine lv_aload_n hx hb dX7_rate_39 rfl (lv_at hl 1 rfl) ?_
        refine q_get (v := .ref pa) (ci := 7) hx hb hts in_X7 hown hK hw 0 0 wd1 dX7_rate_40 rfl rfl (by decide) rfl ?_
        refine q_get (v := .int (nI (p 10))) (ci := 2) hx hb hts in_X2 hown hK hw 1 2 wd5 dX7_rate_43 rfl rfl (by decide) rfl ?_
        refine q_calli (S := Unit) (Z := Z) (D := D) (wc := [(pt, .inr (5, [.int (nI (p 0)), .ref pw])), (pw, .inl (Z 0, 9, .inl (aI z)))]) (wr := [(X, .inr (7, [.ref pa, .ref P, .ref ia, .ref iP, .int (nI kp), .ref T, .ref sa, .ref et, .ref Rn, .ref Ol])), (pa, .inr (2, [.ref pt, .int (nI (p 9)), .int (nI (p 10)), .int (nI (p 11)), .int (nI (p 13)), .int (nI (p 14)), .int (nI (p 15)), .int (nI (p 16)), .int (nI (p 17)), .int (nI (p 12))]))]) (rest := []) hw hA [2, 3] [0, 1] rfl rfl rfl rfl (by decide) (fun hPc hDc => va_runV (As := [.int (nI j), .int (nI (p 9)), .int (nI (p 10))]) (rest := []) ⟨hx, hb, hml, hown, hts⟩ (c_X5_cost l D Z H.size pt pw (p 0) z j (p 9) (p 10) hn.2 (by omega)) (cwV 3 hts gX7_rate_X5_cost rfl rfl rfl (by decide +kernel) ⟨Nat.le_of_ble_eq_true rfl, Nat.le_of_ble_eq_true rfl⟩) ⟨fb_cPre, va_recv hK.1 hPc (ci := 5) (q0 := 0) rfl rfl, pre_of hPc hK hDc⟩ rfl rfl hl.1 rfl (lv_room (Nat.le_of_ble_eq_true rfl)) dX7_rate_46 ⟨Nat.le_of_ble_eq_true rfl, Nat.le_of_ble_eq_true rfl⟩) (fun r5 u H locs hr5 hw => ?_)
        subst hr5
        have hw : WS D A s [(X, .inr (7, [.ref pa, .ref P, .ref ia, .ref iP, .int (nI kp), .ref T, .ref sa, .ref et, .ref Rn, .ref Ol])), (pa, .inr (2, [.ref pt, .int (nI (p 9)), .int (nI (p 10)), .int (nI (p 11)), .int (nI (p 13)), .int (nI (p 14)), .int (nI (p 15)), .int (nI (p 16)), .int (nI (p 17)), .int (nI (p 12))])), (pt, .inr (5, [.int (nI (p 0)), .ref pw])), (pw, .inl (Z 0, 9, .inl (aI z)))] H locs := hw
        refine q_i2l hx hb (by omega) dX7_rate_49 ?_
        refine lv_aload_n hx hb dX7_rate_50 rfl (lv_at hl 0 rfl) ?_
        refine lv_iload_n hx hb dX7_rate_51 rfl (lv_at hl 2 rfl) ?_
        refine q_calli (S := Unit) (Z := Z) (D := D) (wc := [(pt, .inr (5, [.int (nI (p 0)), .ref pw])), (pw, .inl (Z 0, 9, .inl (aI z)))]) (wr := [(X, .inr (7, [.ref pa, .ref P, .ref ia, .ref iP, .int (nI kp), .ref T, .ref sa, .ref et, .ref Rn, .ref Ol])), (pa, .inr (2, [.ref pt, .int (nI (p 9)), .int (nI (p 10)), .int (nI (p 11)), .int (nI (p 13)), .int (nI (p 14)), .int (nI (p 15)), .int (nI (p 16)), .int (nI (p 17)), .int (nI (p 12))]))]) (rest := [.long (lN (ct z (p 0) (p 9) (p 10) j))]) hw hA [2, 3] [0, 1] rfl rfl rfl rfl (by decide) (fun hPc hDc => va_runV (As := [.int (nI j)]) (rest := [.long (lN (ct z (p 0) (p 9) (p 10) j))]) ⟨hx, hb, hml, hown, hts⟩ (c_X5_served l D Z H.size pt pw (p 0) z j hn.2 (by omega)) (cwV 1 hts gX7_rate_X5_served rfl rfl rfl (by decide +kernel) ⟨Nat.le_of_ble_eq_true rfl, Nat.le_of_ble_eq_true rfl⟩) ⟨fb_cPre, va_recv hK.1 hPc (ci := 5) (q0 := 0) rfl rfl, pre_of hPc hK hDc⟩ rfl rfl hl.1 rfl (lv_room (Nat.le_of_ble_eq_true rfl)) dX7_rate_52 ⟨Nat.le_of_ble_eq_true rfl, Nat.le_of_ble_eq_true rfl⟩) (fun r6 u H locs hr6 hw => ?_)
        subst hr6
        have hw : WS D A s [(X, .inr (7, [.ref pa, .ref P, .ref ia, .ref iP, .int (nI kp), .ref T, .ref sa, .ref et, .ref Rn, .ref Ol])), (pa, .inr (2, [.ref pt, .int (nI (p 9)), .int (nI (p 10)), .int (nI (p 11)), .int (nI (p 13)), .int (nI (p 14)), .int (nI (p 15)), .int (nI (p 16)), .int (nI (p 17)), .int (nI (p 12))])), (pt, .inr (5, [.int (nI (p 0)), .ref pw])), (pw, .inl (Z 0, 9, .inl (aI z)))] H locs := hw
        refine q_i2l hx hb (by omega) dX7_rate_55 ?_
        refine lv_iload_n hx hb dX7_rate_56 rfl (lv_at hl 3 rfl) ?_
        refine q_calll (S := Unit) (Z := Z) (D := D) (wc := []) (wr := [(X, .inr (7, [.ref pa, .ref P, .ref ia, .ref iP, .int (nI kp), .ref T, .ref sa, .ref et, .ref Rn, .ref Ol])), (pa, .inr (2, [.ref pt, .int (nI (p 9)), .int (nI (p 10)), .int (nI (p 11)), .int (nI (p 13)), .int (nI (p 14)), .int (nI (p 15)), .int (nI (p 16)), .int (nI (p 17)), .int (nI (p 12))])), (pt, .inr (5, [.int (nI (p 0)), .ref pw])), (pw, .inl (Z 0, 9, .inl (aI z)))]) (rest := []) hw hA [] [0, 1, 2, 3] rfl rfl rfl rfl (by decide) (fun hPc hDc => va_runS (As := [.long (lN (ct z (p 0) (p 9) (p 10) j)), .long (lN (sv z (p 0) j)), .int (nI q)]) (rest := []) ⟨hx, hb, hml, hown, hts⟩ (c_X7_lowest l D Z H.size (ct z (p 0) (p 9) (p 10) j) (sv z (p 0) j) q (by first | assumption | omega) (by first | assumption | omega) (by first | assumption | omega) (by first | assumption | omega)) (va_cwS 3 hts gX7_rate_X7_lowest rfl rfl rfl (by decide +kernel) ⟨Nat.le_of_ble_eq_true rfl, Nat.le_of_ble_eq_true rfl⟩) ⟨fb_cPre, pre_of hPc hK hDc⟩ rfl rfl hl.1 rfl (lv_room (Nat.le_of_ble_eq_true rfl)) dX7_rate_57 ⟨Nat.le_of_ble_eq_true rfl, Nat.le_of_ble_eq_true rfl⟩) (fun r7 u H locs hr7 hw => ?_)
        subst hr7
        have hw : WS D A s [(X, .inr (7, [.ref pa, .ref P, .ref ia, .ref iP, .int (nI kp), .ref T, .ref sa, .ref et, .ref Rn, .ref Ol])), (pa, .inr (2, [.ref pt, .int (nI (p 9)), .int (nI (p 10)), .int (nI (p 11)), .int (nI (p 13)), .int (nI (p 14)), .int (nI (p 15)), .int (nI (p 16)), .int (nI (p 17)), .int (nI (p 12))])), (pt, .inr (5, [.int (nI (p 0)), .ref pw])), (pw, .inl (Z 0, 9, .inl (aI z)))] H locs := hw
        refine q_l2i hx hb dX7_rate_60 ?_
        exact q_iret (wout := _) hx hb hr hlocks hAe hK () hw (by first | exact (if_pos (by omega)).symm | (unfold rtC; rw [if_neg (by omega), tnI eq, tnI ej])) dX7_rate_61
      · --
        have c4 := bb_1 c4
        refine lv_iconst (v := (-1)) hx hb dX7_rate_28 (by decide) ?_
        exact q_iret (wout := _) hx hb hr hlocks hAe hK () hw (by first | exact (if_pos (by omega)).symm | (unfold rtC; rw [if_neg (by omega), tnI eq, tnI ej])) dX7_rate_29
set_option maxHeartbeats 4000000 in
set_option maxRecDepth 100000 in
theorem c_X7_fails (l : Launch) (D : va_G) (Z : Nat → ClassId) (zs0 : Nat) (X pa P ia iP kp T sa et Rn Ol : Nat) (pt pw : Nat) (p z : Nat → Nat) (ex sc : Nat) (v : Nat → Nat) (k wh : Int32) (hn : 1 ≤ p 0 ∧ p 0 ≤ 8) (hs : lf z (p 0) 0 ≤ 24) (hzn : 0 < z (p 0)) (hv0 : v 0 = 0) : cMl l yX7_fails wsX7_fails (rmd 4) D Z zs0 [.ref X, .int k, .int wh] [(X, .inr (7, [.ref pa, .ref P, .ref ia, .ref iP, .int (nI kp), .ref T, .ref sa, .ref et, .ref Rn, .ref Ol])), (pa, .inr (2, [.ref pt, .int (nI (p 9)), .int (nI (p 10)), .int (nI (p 11)), .int (nI (p 13)), .int (nI (p 14)), .int (nI (p 15)), .int (nI (p 16)), .int (nI (p 17)), .int (nI (p 12))])), (pt, .inr (5, [.int (nI (p 0)), .ref pw])), (pw, .inl (Z 0, 9, .inl (aI z))), (Rn, .inr (3, [.long (lN sc), .ref ex])), (ex, .inl (Z 1, 11, .inr (.inl (aL v))))] (S := Nat × (Nat → Nat)) (fun (r : Int64) (u : Nat × (Nat → Nat)) => match u with | (sc', v') => r = flC (p 0) z v k wh ∧ v' 0 = 0) (fun (u : Nat × (Nat → Nat)) => match u with | (sc', v') => [(X, .inr (7, [.ref pa, .ref P, .ref ia, .ref iP, .int (nI kp), .ref T, .ref sa, .ref et, .ref Rn, .ref Ol])), (pa, .inr (2, [.ref pt, .int (nI (p 9)), .int (nI (p 10)), .int (nI (p 11)), .int (nI (p 13)), .int (nI (p 14)), .int (nI (p 15)), .int (nI (p 16)), .int (nI (p 17)), .int (nI (p 12))])), (pt, .inr (5, [.int (nI (p 0)), .ref pw])), (pw, .inl (Z 0, 9, .inl (aI z))), (Rn, .inr (3, [.long (lN sc'), .ref ex])), (ex, .inl (Z 1, 11, .inr (.inl (aL v'))))]) 0 0 := by
  refine q_open (y := yX7_fails) (ws := wsX7_fails) (av := [.ref X, .int k, .int wh]) (win := [(X, .inr (7, [.ref pa, .ref P, .ref ia, .ref iP, .int (nI kp), .ref T, .ref sa, .ref et, .ref Rn, .ref Ol])), (pa, .inr (2, [.ref pt, .int (nI (p 9)), .int (nI (p 10)), .int (nI (p 11)), .int (nI (p 13)), .int (nI (p 14)), .int (nI (p 15)), .int (nI (p 16)), .int (nI (p 17)), .int (nI (p 12))])), (pt, .inr (5, [.int (nI (p 0)), .ref pw])), (pw, .inl (Z 0, 9, .inl (aI z))), (Rn, .inr (3, [.long (lN sc), .ref ex])), (ex, .inl (Z 1, 11, .inr (.inl (aL v))))]) (Qc := fun zs0 => cQl D Z zs0 [(X, .inr (7, [.ref pa, .ref P, .ref ia, .ref iP, .int (nI kp), .ref T, .ref sa, .ref et, .ref Rn, .ref Ol])), (pa, .inr (2, [.ref pt, .int (nI (p 9)), .int (nI (p 10)), .int (nI (p 11)), .int (nI (p 13)), .int (nI (p 14)), .int (nI (p 15)), .int (nI (p 16)), .int (nI (p 17)), .int (nI (p 12))])), (pt, .inr (5, [.int (nI (p 0)), .ref pw])), (pw, .inl (Z 0, 9, .inl (aI z))), (Rn, .inr (3, [.long (lN sc), .ref ex])), (ex, .inl (Z 1, 11, .inr (.inl (aL v))))] (S := Nat × (Nat → Nat)) (fun (r : Int64) (u : Nat × (Nat → Nat)) => match u with | (sc', v') => r = flC (p 0) z v k wh ∧ v' 0 = 0) (fun (u : Nat × (Nat → Nat)) => match u with | (sc', v') => [(X, .inr (7, [.ref pa, .ref P, .ref ia, .ref iP, .int (nI kp), .ref T, .ref sa, .ref et, .ref Rn, .ref Ol])), (pa, .inr (2, [.ref pt, .int (nI (p 9)), .int (nI (p 10)), .int (nI (p 11)), .int (nI (p 13)), .int (nI (p 14)), .int (nI (p 15)), .int (nI (p 16)), .int (nI (p 17)), .int (nI (p 12))])), (pt, .inr (5, [.int (nI (p 0)), .ref pw])), (pw, .inl (Z 0, 9, .inl (aI z))), (Rn, .inr (3, [.long (lN sc'), .ref ex])), (ex, .inl (Z 1, 11, .inr (.inl (aL v'))))])) (cc := cX7_fails) (maxL := 3) (ret := (some .long)) (by decide) rfl (Nat.le_of_ble_eq_true rfl) ?_
  intro pp ee s mm bw mt cd ls A H locs hAe hx hb hr hml hown hmn hts hlocks hA hK hw hl
  have hown : s.vm.findClass RX7 = some mm.cls := hown
  have hl : lv_has ls 3 [(0, .ref X), (1, .int k), (2, .int wh)] := hl
  have wd1 := hts (.constantLong RX7 163 (-1)) (List.mem_of_getElem? (i := 1) rfl)
  have wd2 := hts (.fieldLink RX7 52 "ReplaceAges" "renewal" "LReplaceAges$Renewal;") (List.mem_of_getElem? (i := 2) rfl)
  have wd3 := hts (.fieldLink RX7 10 "ReplaceAges" "plan" "LReplaceAges$Plan;") (List.mem_of_getElem? (i := 3) rfl)
  have wd4 := hts (.fieldLink RX7 64 "ReplaceAges$Plan" "table" "LReplaceAges$Table;") (List.mem_of_getElem? (i := 4) rfl)
  have wd5 := hts (.fieldLink RX7 173 "ReplaceAges$Renewal" "scale" "J") (List.mem_of_getElem? (i := 5) rfl)
  have in_X7 : ∀ w ∈ wsX70, w ∈ wsX7_fails := fun _ h => List.mem_cons_of_mem _ (List.mem_append_left _ (List.mem_append_left _ (List.mem_append_left _ (List.mem_append_right _ h))))
  have in_X2 : ∀ w ∈ wsX20, w ∈ wsX7_fails := fun _ h => List.mem_cons_of_mem _ (List.mem_append_left _ (List.mem_append_left _ (List.mem_append_right _ h)))
  have in_X3 : ∀ w ∈ wsX30, w ∈ wsX7_fails := fun _ h => List.mem_cons_of_mem _ (List.mem_append_left _ (List.mem_append_right _ h))
  have hal : 1 ≤ lf z (p 0) 0 ∧ lf z (p 0) 0 ≤ 24 := ⟨lf_pos hzn (by omega), hs⟩
  have hp0 : 0 < lf z (p 0) 0 ^ 10 := Nat.pow_pos hal.1
  have hp10 : lf z (p 0) 0 ^ 10 ≤ 24 ^ 10 := Nat.pow_le_pow_left hal.2 10
  refine lv_iload_n hx hb dX7_fails_0 rfl (lv_at hl 1 rfl) ?_
  refine q_if_lt (tgt := 17) hx hb k.toInt rfl dX7_fails_1 (by decide) (fun c1 => ?_) (fun c1 => ?_)
  · --
    refine lv_ldc2 hx hb hown wd1 dX7_fails_17 ?_
    exact q_lret (wout := _) hx hb hr hlocks hAe hK (sc, v) hw (⟨(if_pos (by omega)).symm, hv0⟩) dX7_fails_20
  · --
    refine lv_iload_n hx hb dX7_fails_4 rfl (lv_at hl 1 rfl) ?_
    refine q_bipush (v := 10) hx hb dX7_fails_5 (by decide) ?_
    refine q_icmp_gt (tgt := 17) hx hb k.toInt ((10 : Nat) : Int) rfl (nI_toInt (by omega)) dX7_fails_7 (by decide) (fun c2 => ?_) (fun c2 => ?_)
    · --
      refine lv_ldc2 hx hb hown wd1 dX7_fails_17 ?_
      exact q_lret (wout := _) hx hb hr hlocks hAe hK (sc, v) hw (⟨(if_pos (by omega)).symm, hv0⟩) dX7_fails_20
    · --
      refine lv_iload_n hx hb dX7_fails_10 rfl (lv_at hl 2 rfl) ?_
      refine q_calli (S := Unit) (Z := Z) (D := D) (wc := []) (wr := [(X, .inr (7, [.ref pa, .ref P, .ref ia, .ref iP, .int (nI kp), .ref T, .ref sa, .ref et, .ref Rn, .ref Ol])), (pa, .inr (2, [.ref pt, .int (nI (p 9)), .int (nI (p 10)), .int (nI (p 11)), .int (nI (p 13)), .int (nI (p 14)), .int (nI (p 15)), .int (nI (p 16)), .int (nI (p 17)), .int (nI (p 12))])), (pt, .inr (5, [.int (nI (p 0)), .ref pw])), (pw, .inl (Z 0, 9, .inl (aI z))), (Rn, .inr (3, [.long (lN sc), .ref ex])), (ex, .inl (Z 1, 11, .inr (.inl (aL v))))]) (rest := []) hw hA [] [0, 1, 2, 3, 4, 5] rfl rfl rfl rfl (by decide) (fun hPc hDc => va_runS (As := [.int wh]) (rest := []) ⟨hx, hb, hml, hown, hts⟩ (c_X7_isNoSide l D Z H.size wh ) (va_cwS 1 hts gX7_fails_X7_isNoSide rfl rfl rfl (by decide +kernel) ⟨Nat.le_of_ble_eq_true rfl, Nat.le_of_ble_eq_true rfl⟩) ⟨fb_cPre, pre_of hPc hK hDc⟩ rfl rfl hl.1 rfl (lv_room (Nat.le_of_ble_eq_true rfl)) dX7_fails_11 ⟨Nat.le_of_ble_eq_true rfl, Nat.le_of_ble_eq_true rfl⟩) (fun r3 u H locs hr3 hw => ?_)
      subst hr3
      have hw : WS D A s [(X, .inr (7, [.ref pa, .ref P, .ref ia, .ref iP, .int (nI kp), .ref T, .ref sa, .ref et, .ref Rn, .ref Ol])), (pa, .inr (2, [.ref pt, .int (nI (p 9)), .int (nI (p 10)), .int (nI (p 11)), .int (nI (p 13)), .int (nI (p 14)), .int (nI (p 15)), .int (nI (p 16)), .int (nI (p 17)), .int (nI (p 12))])), (pt, .inr (5, [.int (nI (p 0)), .ref pw])), (pw, .inl (Z 0, 9, .inl (aI z))), (Rn, .inr (3, [.long (lN sc), .ref ex])), (ex, .inl (Z 1, 11, .inr (.inl (aL v))))] H locs := hw
      refine q_if_eq (tgt := 21) hx hb ((bb (wh.toInt ≠ 0 ∧ wh.toInt ≠ 1) : Nat) : Int) (nI_toInt (Nat.lt_of_le_of_lt (bb_le _) (by decide))) dX7_fails_14 (by decide) (fun c4 => ?_) (fun c4 => ?_)
      · --
        have c4 := bb_0 c4
        obtain ⟨j, rfl, ej⟩ := i32_nat (x := k) (by omega)
        obtain ⟨q, rfl, eq⟩ := i32_nat (x := wh) (by omega)
        have hbd := eT_le hal.1 hv0 (T := 10) (j := j) (by omega) (by omega)
        refine lv_aload_n hx hb dX7_fails_21 rfl (lv_at hl 0 rfl) ?_
        refine q_get (v := .ref Rn) (ci := 7) hx hb hts in_X7 hown hK hw 0 8 wd2 dX7_fails_22 rfl rfl (by decide) rfl ?_
        refine lv_aload_n hx hb dX7_fails_25 rfl (lv_at hl 0 rfl) ?_
        refine q_get (v := .ref pa) (ci := 7) hx hb hts in_X7 hown hK hw 0 0 wd3 dX7_fails_26 rfl rfl (by decide) rfl ?_
        refine q_get (v := .ref pt) (ci := 2) hx hb hts in_X2 hown hK hw 1 0 wd4 dX7_fails_29 rfl rfl (by decide) rfl ?_
        refine q_callv (S := Unit) (Z := Z) (D := D) (wc := [(Rn, .inr (3, [.long (lN sc), .ref ex])), (ex, .inl (Z 1, 11, .inr (.inl (aL v)))), (pt, .inr (5, [.int (nI (p 0)), .ref pw])), (pw, .inl (Z 0, 9, .inl (aI z)))]) (wr := [(X, .inr (7, [.ref pa, .ref P, .ref ia, .ref iP, .int (nI kp), .ref T, .ref sa, .ref et, .ref Rn, .ref Ol])), (pa, .inr (2, [.ref pt, .int (nI (p 9)), .int (nI (p 10)), .int (nI (p 11)), .int (nI (p 13)), .int (nI (p 14)), .int (nI (p 15)), .int (nI (p 16)), .int (nI (p 17)), .int (nI (p 12))]))]) (rest := []) hw hA [4, 5, 2, 3] [0, 1] rfl rfl rfl rfl (by decide) (fun hPc hDc => va_runV (As := [.ref pt]) (rest := []) ⟨hx, hb, hml, hown, hts⟩ (c_X3_reckon l D Z H.size Rn ex sc v pt pw (p 0) z hn.2 hal hv0) (cwV 1 hts gX7_fails_X3_reckon rfl rfl rfl (by decide +kernel) ⟨Nat.le_of_ble_eq_true rfl, Nat.le_of_ble_eq_true rfl⟩) ⟨fb_cPre, va_recv hK.1 hPc (ci := 3) (q0 := 0) rfl rfl, pre_of hPc hK hDc⟩ rfl rfl hl.1 rfl (lv_room (Nat.le_of_ble_eq_true rfl)) dX7_fails_32 ⟨Nat.le_of_ble_eq_true rfl, Nat.le_of_ble_eq_true rfl⟩) (fun u H locs hr5 hw => ?_)
        have hw : WS D A s [(X, .inr (7, [.ref pa, .ref P, .ref ia, .ref iP, .int (nI kp), .ref T, .ref sa, .ref et, .ref Rn, .ref Ol])), (pa, .inr (2, [.ref pt, .int (nI (p 9)), .int (nI (p 10)), .int (nI (p 11)), .int (nI (p 13)), .int (nI (p 14)), .int (nI (p 15)), .int (nI (p 16)), .int (nI (p 17)), .int (nI (p 12))])), (Rn, .inr (3, [.long (lN (lf z (p 0) 0 ^ 10)), .ref ex])), (ex, .inl (Z 1, 11, .inr (.inl (aL (eT z (p 0) 10 v))))), (pt, .inr (5, [.int (nI (p 0)), .ref pw])), (pw, .inl (Z 0, 9, .inl (aI z)))] H locs := hw
        refine lv_aload_n hx hb dX7_fails_35 rfl (lv_at hl 0 rfl) ?_
        refine q_get (v := .ref Rn) (ci := 7) hx hb hts in_X7 hown hK hw 0 8 wd2 dX7_fails_36 rfl rfl (by decide) rfl ?_
        refine lv_iload_n hx hb dX7_fails_39 rfl (lv_at hl 1 rfl) ?_
        refine q_calll (S := Unit) (Z := Z) (D := D) (wc := [(Rn, .inr (3, [.long (lN (lf z (p 0) 0 ^ 10)), .ref ex])), (ex, .inl (Z 1, 11, .inr (.inl (aL (eT z (p 0) 10 v)))))]) (wr := [(X, .inr (7, [.ref pa, .ref P, .ref ia, .ref iP, .int (nI kp), .ref T, .ref sa, .ref et, .ref Rn, .ref Ol])), (pa, .inr (2, [.ref pt, .int (nI (p 9)), .int (nI (p 10)), .int (nI (p 11)), .int (nI (p 13)), .int (nI (p 14)), .int (nI (p 15)), .int (nI (p 16)), .int (nI (p 17)), .int (nI (p 12))])), (pt, .inr (5, [.int (nI (p 0)), .ref pw])), (pw, .inl (Z 0, 9, .inl (aI z)))]) (rest := []) hw hA [2, 3] [0, 1, 4, 5] rfl rfl rfl rfl (by decide) (fun hPc hDc => va_runV (As := [.int (nI j)]) (rest := []) ⟨hx, hb, hml, hown, hts⟩ (c_X3_expectedUpTo l D Z H.size Rn ex (lf z (p 0) 0 ^ 10) (eT z (p 0) 10 v) j (by omega)) (cwV 1 hts gX7_fails_X3_expectedUpTo rfl rfl rfl (by decide +kernel) ⟨Nat.le_of_ble_eq_true rfl, Nat.le_of_ble_eq_true rfl⟩) ⟨fb_cPre, va_recv hK.1 hPc (ci := 3) (q0 := 0) rfl rfl, pre_of hPc hK hDc⟩ rfl rfl hl.1 rfl (lv_room (Nat.le_of_ble_eq_true rfl)) dX7_fails_40 ⟨Nat.le_of_ble_eq_true rfl, Nat.le_of_ble_eq_true rfl⟩) (fun r6 u H locs hr6 hw => ?_)
        subst hr6
        have hw : WS D A s [(X, .inr (7, [.ref pa, .ref P, .ref ia, .ref iP, .int (nI kp), .ref T, .ref sa, .ref et, .ref Rn, .ref Ol])), (pa, .inr (2, [.ref pt, .int (nI (p 9)), .int (nI (p 10)), .int (nI (p 11)), .int (nI (p 13)), .int (nI (p 14)), .int (nI (p 15)), .int (nI (p 16)), .int (nI (p 17)), .int (nI (p 12))])), (pt, .inr (5, [.int (nI (p 0)), .ref pw])), (pw, .inl (Z 0, 9, .inl (aI z))), (Rn, .inr (3, [.long (lN (lf z (p 0) 0 ^ 10)), .ref ex])), (ex, .inl (Z 1, 11, .inr (.inl (aL (eT z (p 0) 10 v)))))] H locs := hw
        refine lv_aload_n hx hb dX7_fails_43 rfl (lv_at hl 0 rfl) ?_
        refine q_get (v := .ref Rn) (ci := 7) hx hb hts in_X7 hown hK hw 0 8 wd2 dX7_fails_44 rfl rfl (by decide) rfl ?_
        refine q_get (v := .long (lN (lf z (p 0) 0 ^ 10))) (ci := 3) hx hb hts in_X3 hown hK hw 4 0 wd5 dX7_fails_47 rfl rfl (by decide) rfl ?_
        refine lv_iload_n hx hb dX7_fails_50 rfl (lv_at hl 2 rfl) ?_
        refine q_calll (S := Unit) (Z := Z) (D := D) (wc := []) (wr := [(X, .inr (7, [.ref pa, .ref P, .ref ia, .ref iP, .int (nI kp), .ref T, .ref sa, .ref et, .ref Rn, .ref Ol])), (pa, .inr (2, [.ref pt, .int (nI (p 9)), .int (nI (p 10)), .int (nI (p 11)), .int (nI (p 13)), .int (nI (p 14)), .int (nI (p 15)), .int (nI (p 16)), .int (nI (p 17)), .int (nI (p 12))])), (pt, .inr (5, [.int (nI (p 0)), .ref pw])), (pw, .inl (Z 0, 9, .inl (aI z))), (Rn, .inr (3, [.long (lN (lf z (p 0) 0 ^ 10)), .ref ex])), (ex, .inl (Z 1, 11, .inr (.inl (aL (eT z (p 0) 10 v)))))]) (rest := []) hw hA [] [0, 1, 2, 3, 4, 5] rfl rfl rfl rfl (by decide) (fun hPc hDc => va_runS (As := [.long (lN ((eT z (p 0) 10 v) j)), .long (lN (lf z (p 0) 0 ^ 10)), .int (nI q)]) (rest := []) ⟨hx, hb, hml, hown, hts⟩ (c_X7_lowest l D Z H.size ((eT z (p 0) 10 v) j) (lf z (p 0) 0 ^ 10) q (by omega) (by omega) hp0 (by omega)) (va_cwS 3 hts gX7_fails_X7_lowest rfl rfl rfl (by decide +kernel) ⟨Nat.le_of_ble_eq_true rfl, Nat.le_of_ble_eq_true rfl⟩) ⟨fb_cPre, pre_of hPc hK hDc⟩ rfl rfl hl.1 rfl (lv_room (Nat.le_of_ble_eq_true rfl)) dX7_fails_51 ⟨Nat.le_of_ble_eq_true rfl, Nat.le_of_ble_eq_true rfl⟩) (fun r7 u H locs hr7 hw => ?_)
        subst hr7
        have hw : WS D A s [(X, .inr (7, [.ref pa, .ref P, .ref ia, .ref iP, .int (nI kp), .ref T, .ref sa, .ref et, .ref Rn, .ref Ol])), (pa, .inr (2, [.ref pt, .int (nI (p 9)), .int (nI (p 10)), .int (nI (p 11)), .int (nI (p 13)), .int (nI (p 14)), .int (nI (p 15)), .int (nI (p 16)), .int (nI (p 17)), .int (nI (p 12))])), (pt, .inr (5, [.int (nI (p 0)), .ref pw])), (pw, .inl (Z 0, 9, .inl (aI z))), (Rn, .inr (3, [.long (lN (lf z (p 0) 0 ^ 10)), .ref ex])), (ex, .inl (Z 1, 11, .inr (.inl (aL (eT z (p 0) 10 v)))))] H locs := hw
        exact q_lret (wout := _) hx hb hr hlocks hAe hK (lf z (p 0) 0 ^ 10, eT z (p 0) 10 v) hw (⟨by unfold flC; rw [if_neg (by omega), tnI eq, tnI ej], eT_0 z (p 0) 10 hv0⟩) dX7_fails_54
      · --
        have c4 := bb_1 c4
        refine lv_ldc2 hx hb hown wd1 dX7_fails_17 ?_
        exact q_lret (wout := _) hx hb hr hlocks hAe hK (sc, v) hw (⟨(if_pos (by omega)).symm, hv0⟩) dX7_fails_20
set_option maxHeartbeats 4000000 in
set_option maxRecDepth 100000 in
theorem c_X7_block (l : Launch) (D : va_G) (Z : Nat → ClassId) (zs0 : Nat) (X pa P ia iP kp T sa et Rn Ol : Nat) (pt pw : Nat) (p z : Nat → Nat) (ex sc : Nat) (v : Nat → Nat) (k wh : Int32) (hn : 1 ≤ p 0 ∧ p 0 ≤ 8) (hs : lf z (p 0) 0 ≤ 24) (hzn : 0 < z (p 0)) (h9 : p 9 ≤ 99) (h10 : p 10 ≤ 99) (hv0 : v 0 = 0) : cMl l yX7_block wsX7_block (rmd 4) D Z zs0 [.ref X, .int k, .int wh] [(X, .inr (7, [.ref pa, .ref P, .ref ia, .ref iP, .int (nI kp), .ref T, .ref sa, .ref et, .ref Rn, .ref Ol])), (pa, .inr (2, [.ref pt, .int (nI (p 9)), .int (nI (p 10)), .int (nI (p 11)), .int (nI (p 13)), .int (nI (p 14)), .int (nI (p 15)), .int (nI (p 16)), .int (nI (p 17)), .int (nI (p 12))])), (pt, .inr (5, [.int (nI (p 0)), .ref pw])), (pw, .inl (Z 0, 9, .inl (aI z))), (Rn, .inr (3, [.long (lN sc), .ref ex])), (ex, .inl (Z 1, 11, .inr (.inl (aL v))))] (S := Nat × (Nat → Nat)) (fun (r : Int64) (u : Nat × (Nat → Nat)) => match u with | (sc', v') => r = blC (p 0) z (p 9) (p 10) v k wh ∧ v' 0 = 0) (fun (u : Nat × (Nat → Nat)) => match u with | (sc', v') => [(X, .inr (7, [.ref pa, .ref P, .ref ia, .ref iP, .int (nI kp), .ref T, .ref sa, .ref et, .ref Rn, .ref Ol])), (pa, .inr (2, [.ref pt, .int (nI (p 9)), .int (nI (p 10)), .int (nI (p 11)), .int (nI (p 13)), .int (nI (p 14)), .int (nI (p 15)), .int (nI (p 16)), .int (nI (p 17)), .int (nI (p 12))])), (pt, .inr (5, [.int (nI (p 0)), .ref pw])), (pw, .inl (Z 0, 9, .inl (aI z))), (Rn, .inr (3, [.long (lN sc'), .ref ex])), (ex, .inl (Z 1, 11, .inr (.inl (aL v'))))]) 0 0 := by
  refine q_open (y := yX7_block) (ws := wsX7_block) (av := [.ref X, .int k, .int wh]) (win := [(X, .inr (7, [.ref pa, .ref P, .ref ia, .ref iP, .int (nI kp), .ref T, .ref sa, .ref et, .ref Rn, .ref Ol])), (pa, .inr (2, [.ref pt, .int (nI (p 9)), .int (nI (p 10)), .int (nI (p 11)), .int (nI (p 13)), .int (nI (p 14)), .int (nI (p 15)), .int (nI (p 16)), .int (nI (p 17)), .int (nI (p 12))])), (pt, .inr (5, [.int (nI (p 0)), .ref pw])), (pw, .inl (Z 0, 9, .inl (aI z))), (Rn, .inr (3, [.long (lN sc), .ref ex])), (ex, .inl (Z 1, 11, .inr (.inl (aL v))))]) (Qc := fun zs0 => cQl D Z zs0 [(X, .inr (7, [.ref pa, .ref P, .ref ia, .ref iP, .int (nI kp), .ref T, .ref sa, .ref et, .ref Rn, .ref Ol])), (pa, .inr (2, [.ref pt, .int (nI (p 9)), .int (nI (p 10)), .int (nI (p 11)), .int (nI (p 13)), .int (nI (p 14)), .int (nI (p 15)), .int (nI (p 16)), .int (nI (p 17)), .int (nI (p 12))])), (pt, .inr (5, [.int (nI (p 0)), .ref pw])), (pw, .inl (Z 0, 9, .inl (aI z))), (Rn, .inr (3, [.long (lN sc), .ref ex])), (ex, .inl (Z 1, 11, .inr (.inl (aL v))))] (S := Nat × (Nat → Nat)) (fun (r : Int64) (u : Nat × (Nat → Nat)) => match u with | (sc', v') => r = blC (p 0) z (p 9) (p 10) v k wh ∧ v' 0 = 0) (fun (u : Nat × (Nat → Nat)) => match u with | (sc', v') => [(X, .inr (7, [.ref pa, .ref P, .ref ia, .ref iP, .int (nI kp), .ref T, .ref sa, .ref et, .ref Rn, .ref Ol])), (pa, .inr (2, [.ref pt, .int (nI (p 9)), .int (nI (p 10)), .int (nI (p 11)), .int (nI (p 13)), .int (nI (p 14)), .int (nI (p 15)), .int (nI (p 16)), .int (nI (p 17)), .int (nI (p 12))])), (pt, .inr (5, [.int (nI (p 0)), .ref pw])), (pw, .inl (Z 0, 9, .inl (aI z))), (Rn, .inr (3, [.long (lN sc'), .ref ex])), (ex, .inl (Z 1, 11, .inr (.inl (aL v'))))])) (cc := cX7_block) (maxL := 3) (ret := (some .long)) (by decide) rfl (Nat.le_of_ble_eq_true rfl) ?_
  intro pp ee s mm bw mt cd ls A H locs hAe hx hb hr hml hown hmn hts hlocks hA hK hw hl
  have hown : s.vm.findClass RX7 = some mm.cls := hown
  have hl : lv_has ls 3 [(0, .ref X), (1, .int k), (2, .int wh)] := hl
  have wd1 := hts (.constantLong RX7 163 (-1)) (List.mem_of_getElem? (i := 1) rfl)
  have wd2 := hts (.fieldLink RX7 52 "ReplaceAges" "renewal" "LReplaceAges$Renewal;") (List.mem_of_getElem? (i := 2) rfl)
  have wd3 := hts (.fieldLink RX7 10 "ReplaceAges" "plan" "LReplaceAges$Plan;") (List.mem_of_getElem? (i := 3) rfl)
  have wd4 := hts (.fieldLink RX7 64 "ReplaceAges$Plan" "table" "LReplaceAges$Table;") (List.mem_of_getElem? (i := 4) rfl)
  have wd5 := hts (.fieldLink RX7 173 "ReplaceAges$Renewal" "scale" "J") (List.mem_of_getElem? (i := 5) rfl)
  have in_X7 : ∀ w ∈ wsX70, w ∈ wsX7_block := fun _ h => List.mem_cons_of_mem _ (List.mem_append_left _ (List.mem_append_left _ (List.mem_append_left _ (List.mem_append_right _ h))))
  have in_X2 : ∀ w ∈ wsX20, w ∈ wsX7_block := fun _ h => List.mem_cons_of_mem _ (List.mem_append_left _ (List.mem_append_left _ (List.mem_append_right _ h)))
  have in_X3 : ∀ w ∈ wsX30, w ∈ wsX7_block := fun _ h => List.mem_cons_of_mem _ (List.mem_append_left _ (List.mem_append_right _ h))
  have hal : 1 ≤ lf z (p 0) 0 ∧ lf z (p 0) 0 ≤ 24 := ⟨lf_pos hzn (by omega), hs⟩
  have hp0 : 0 < lf z (p 0) 0 ^ 10 := Nat.pow_pos hal.1
  have hp10 : lf z (p 0) 0 ^ 10 ≤ 24 ^ 10 := Nat.pow_le_pow_left hal.2 10
  refine lv_iload_n hx hb dX7_block_0 rfl (lv_at hl 1 rfl) ?_
  refine q_iconst (v := 1) hx hb dX7_block_1 (by decide) ?_
  refine q_icmp_lt (tgt := 18) hx hb k.toInt ((1 : Nat) : Int) rfl (nI_toInt (by omega)) dX7_block_2 (by decide) (fun c1 => ?_) (fun c1 => ?_)
  · --
    refine lv_ldc2 hx hb hown wd1 dX7_block_18 ?_
    exact q_lret (wout := _) hx hb hr hlocks hAe hK (sc, v) hw (⟨(if_pos (by omega)).symm, hv0⟩) dX7_block_21
  · --
    refine lv_iload_n hx hb dX7_block_5 rfl (lv_at hl 1 rfl) ?_
    refine q_bipush (v := 10) hx hb dX7_block_6 (by decide) ?_
    refine q_icmp_gt (tgt := 18) hx hb k.toInt ((10 : Nat) : Int) rfl (nI_toInt (by omega)) dX7_block_8 (by decide) (fun c2 => ?_) (fun c2 => ?_)
    · --
      refine lv_ldc2 hx hb hown wd1 dX7_block_18 ?_
      exact q_lret (wout := _) hx hb hr hlocks hAe hK (sc, v) hw (⟨(if_pos (by omega)).symm, hv0⟩) dX7_block_21
    · --
      refine lv_iload_n hx hb dX7_block_11 rfl (lv_at hl 2 rfl) ?_
      refine q_calli (S := Unit) (Z := Z) (D := D) (wc := []) (wr := [(X, .inr (7, [.ref pa, .ref P, .ref ia, .ref iP, .int (nI kp), .ref T, .ref sa, .ref et, .ref Rn, .ref Ol])), (pa, .inr (2, [.ref pt, .int (nI (p 9)), .int (nI (p 10)), .int (nI (p 11)), .int (nI (p 13)), .int (nI (p 14)), .int (nI (p 15)), .int (nI (p 16)), .int (nI (p 17)), .int (nI (p 12))])), (pt, .inr (5, [.int (nI (p 0)), .ref pw])), (pw, .inl (Z 0, 9, .inl (aI z))), (Rn, .inr (3, [.long (lN sc), .ref ex])), (ex, .inl (Z 1, 11, .inr (.inl (aL v))))]) (rest := []) hw hA [] [0, 1, 2, 3, 4, 5] rfl rfl rfl rfl (by decide) (fun hPc hDc => va_runS (As := [.int wh]) (rest := []) ⟨hx, hb, hml, hown, hts⟩ (c_X7_isNoSide l D Z H.size wh ) (va_cwS 1 hts gX7_block_X7_isNoSide rfl rfl rfl (by decide +kernel) ⟨Nat.le_of_ble_eq_true rfl, Nat.le_of_ble_eq_true rfl⟩) ⟨fb_cPre, pre_of hPc hK hDc⟩ rfl rfl hl.1 rfl (lv_room (Nat.le_of_ble_eq_true rfl)) dX7_block_12 ⟨Nat.le_of_ble_eq_true rfl, Nat.le_of_ble_eq_true rfl⟩) (fun r3 u H locs hr3 hw => ?_)
      subst hr3
      have hw : WS D A s [(X, .inr (7, [.ref pa, .ref P, .ref ia, .ref iP, .int (nI kp), .ref T, .ref sa, .ref et, .ref Rn, .ref Ol])), (pa, .inr (2, [.ref pt, .int (nI (p 9)), .int (nI (p 10)), .int (nI (p 11)), .int (nI (p 13)), .int (nI (p 14)), .int (nI (p 15)), .int (nI (p 16)), .int (nI (p 17)), .int (nI (p 12))])), (pt, .inr (5, [.int (nI (p 0)), .ref pw])), (pw, .inl (Z 0, 9, .inl (aI z))), (Rn, .inr (3, [.long (lN sc), .ref ex])), (ex, .inl (Z 1, 11, .inr (.inl (aL v))))] H locs := hw
      refine q_if_eq (tgt := 22) hx hb ((bb (wh.toInt ≠ 0 ∧ wh.toInt ≠ 1) : Nat) : Int) (nI_toInt (Nat.lt_of_le_of_lt (bb_le _) (by decide))) dX7_block_15 (by decide) (fun c4 => ?_) (fun c4 => ?_)
      · --
        have c4 := bb_0 c4
        obtain ⟨j, rfl, ej⟩ := i32_nat (x := k) (by omega)
        obtain ⟨q, rfl, eq⟩ := i32_nat (x := wh) (by omega)
        have hbd := bkc_le hal hv0 h9 h10 (j := j) (x := 1) (by omega) (by omega)
        rw [Nat.mul_one] at hbd
        have hjs : j * lf z (p 0) 0 ^ 10 ≤ 10 * 24 ^ 10 := Nat.mul_le_mul (by omega) hp10
        have hjp : 0 < j * lf z (p 0) 0 ^ 10 := Nat.mul_pos (by omega) hp0
        refine lv_aload_n hx hb dX7_block_22 rfl (lv_at hl 0 rfl) ?_
        refine q_get (v := .ref Rn) (ci := 7) hx hb hts in_X7 hown hK hw 0 8 wd2 dX7_block_23 rfl rfl (by decide) rfl ?_
        refine lv_aload_n hx hb dX7_block_26 rfl (lv_at hl 0 rfl) ?_
        refine q_get (v := .ref pa) (ci := 7) hx hb hts in_X7 hown hK hw 0 0 wd3 dX7_block_27 rfl rfl (by decide) rfl ?_
        refine q_get (v := .ref pt) (ci := 2) hx hb hts in_X2 hown hK hw 1 0 wd4 dX7_block_30 rfl rfl (by decide) rfl ?_
        refine q_callv (S := Unit) (Z := Z) (D := D) (wc := [(Rn, .inr (3, [.long (lN sc), .ref ex])), (ex, .inl (Z 1, 11, .inr (.inl (aL v)))), (pt, .inr (5, [.int (nI (p 0)), .ref pw])), (pw, .inl (Z 0, 9, .inl (aI z)))]) (wr := [(X, .inr (7, [.ref pa, .ref P, .ref ia, .ref iP, .int (nI kp), .ref T, .ref sa, .ref et, .ref Rn, .ref Ol])), (pa, .inr (2, [.ref pt, .int (nI (p 9)), .int (nI (p 10)), .int (nI (p 11)), .int (nI (p 13)), .int (nI (p 14)), .int (nI (p 15)), .int (nI (p 16)), .int (nI (p 17)), .int (nI (p 12))]))]) (rest := []) hw hA [4, 5, 2, 3] [0, 1] rfl rfl rfl rfl (by decide) (fun hPc hDc => va_runV (As := [.ref pt]) (rest := []) ⟨hx, hb, hml, hown, hts⟩ (c_X3_reckon l D Z H.size Rn ex sc v pt pw (p 0) z hn.2 hal hv0) (cwV 1 hts gX7_block_X3_reckon rfl rfl rfl (by decide +kernel) ⟨Nat.le_of_ble_eq_true rfl, Nat.le_of_ble_eq_true rfl⟩) ⟨fb_cPre, va_recv hK.1 hPc (ci := 3) (q0 := 0) rfl rfl, pre_of hPc hK hDc⟩ rfl rfl hl.1 rfl (lv_room (Nat.le_of_ble_eq_true rfl)) dX7_block_33 ⟨Nat.le_of_ble_eq_true rfl, Nat.le_of_ble_eq_true rfl⟩) (fun u H locs hr5 hw => ?_)
        have hw : WS D A s [(X, .inr (7, [.ref pa, .ref P, .ref ia, .ref iP, .int (nI kp), .ref T, .ref sa, .ref et, .ref Rn, .ref Ol])), (pa, .inr (2, [.ref pt, .int (nI (p 9)), .int (nI (p 10)), .int (nI (p 11)), .int (nI (p 13)), .int (nI (p 14)), .int (nI (p 15)), .int (nI (p 16)), .int (nI (p 17)), .int (nI (p 12))])), (Rn, .inr (3, [.long (lN (lf z (p 0) 0 ^ 10)), .ref ex])), (ex, .inl (Z 1, 11, .inr (.inl (aL (eT z (p 0) 10 v))))), (pt, .inr (5, [.int (nI (p 0)), .ref pw])), (pw, .inl (Z 0, 9, .inl (aI z)))] H locs := hw
        refine lv_aload_n hx hb dX7_block_36 rfl (lv_at hl 0 rfl) ?_
        refine q_get (v := .ref Rn) (ci := 7) hx hb hts in_X7 hown hK hw 0 8 wd2 dX7_block_37 rfl rfl (by decide) rfl ?_
        refine lv_iload_n hx hb dX7_block_40 rfl (lv_at hl 1 rfl) ?_
        refine lv_aload_n hx hb dX7_block_41 rfl (lv_at hl 0 rfl) ?_
        refine q_get (v := .ref pa) (ci := 7) hx hb hts in_X7 hown hK hw 0 0 wd3 dX7_block_42 rfl rfl (by decide) rfl ?_
        refine q_calll (S := Unit) (Z := Z) (D := D) (wc := [(Rn, .inr (3, [.long (lN (lf z (p 0) 0 ^ 10)), .ref ex])), (ex, .inl (Z 1, 11, .inr (.inl (aL (eT z (p 0) 10 v))))), (pa, .inr (2, [.ref pt, .int (nI (p 9)), .int (nI (p 10)), .int (nI (p 11)), .int (nI (p 13)), .int (nI (p 14)), .int (nI (p 15)), .int (nI (p 16)), .int (nI (p 17)), .int (nI (p 12))])), (pt, .inr (5, [.int (nI (p 0)), .ref pw])), (pw, .inl (Z 0, 9, .inl (aI z)))]) (wr := [(X, .inr (7, [.ref pa, .ref P, .ref ia, .ref iP, .int (nI kp), .ref T, .ref sa, .ref et, .ref Rn, .ref Ol]))]) (rest := []) hw hA [2, 3, 1, 4, 5] [0] rfl rfl rfl rfl (by decide) (fun hPc hDc => va_runV (As := [.int (nI j), .ref pa]) (rest := []) ⟨hx, hb, hml, hown, hts⟩ (c_X3_blockCost l D Z H.size Rn ex (lf z (p 0) 0 ^ 10) (eT z (p 0) 10 v) pa pt pw p z j (by omega) h9 h10) (cwV 2 hts gX7_block_X3_blockCost rfl rfl rfl (by decide +kernel) ⟨Nat.le_of_ble_eq_true rfl, Nat.le_of_ble_eq_true rfl⟩) ⟨fb_cPre, va_recv hK.1 hPc (ci := 3) (q0 := 0) rfl rfl, pre_of hPc hK hDc⟩ rfl rfl hl.1 rfl (lv_room (Nat.le_of_ble_eq_true rfl)) dX7_block_45 ⟨Nat.le_of_ble_eq_true rfl, Nat.le_of_ble_eq_true rfl⟩) (fun r6 u H locs hr6 hw => ?_)
        subst hr6
        have hw : WS D A s [(X, .inr (7, [.ref pa, .ref P, .ref ia, .ref iP, .int (nI kp), .ref T, .ref sa, .ref et, .ref Rn, .ref Ol])), (Rn, .inr (3, [.long (lN (lf z (p 0) 0 ^ 10)), .ref ex])), (ex, .inl (Z 1, 11, .inr (.inl (aL (eT z (p 0) 10 v))))), (pa, .inr (2, [.ref pt, .int (nI (p 9)), .int (nI (p 10)), .int (nI (p 11)), .int (nI (p 13)), .int (nI (p 14)), .int (nI (p 15)), .int (nI (p 16)), .int (nI (p 17)), .int (nI (p 12))])), (pt, .inr (5, [.int (nI (p 0)), .ref pw])), (pw, .inl (Z 0, 9, .inl (aI z)))] H locs := hw
        refine lv_iload_n hx hb dX7_block_48 rfl (lv_at hl 1 rfl) ?_
        refine q_i2l hx hb (by omega) dX7_block_49 ?_
        refine lv_aload_n hx hb dX7_block_50 rfl (lv_at hl 0 rfl) ?_
        refine q_get (v := .ref Rn) (ci := 7) hx hb hts in_X7 hown hK hw 0 8 wd2 dX7_block_51 rfl rfl (by decide) rfl ?_
        refine q_get (v := .long (lN (lf z (p 0) 0 ^ 10))) (ci := 3) hx hb hts in_X3 hown hK hw 1 0 wd5 dX7_block_54 rfl rfl (by decide) rfl ?_
        refine q_lmul hx hb dX7_block_57 ?_
        refine lv_iload_n hx hb dX7_block_58 rfl (lv_at hl 2 rfl) ?_
        refine q_calll (S := Unit) (Z := Z) (D := D) (wc := []) (wr := [(X, .inr (7, [.ref pa, .ref P, .ref ia, .ref iP, .int (nI kp), .ref T, .ref sa, .ref et, .ref Rn, .ref Ol])), (Rn, .inr (3, [.long (lN (lf z (p 0) 0 ^ 10)), .ref ex])), (ex, .inl (Z 1, 11, .inr (.inl (aL (eT z (p 0) 10 v))))), (pa, .inr (2, [.ref pt, .int (nI (p 9)), .int (nI (p 10)), .int (nI (p 11)), .int (nI (p 13)), .int (nI (p 14)), .int (nI (p 15)), .int (nI (p 16)), .int (nI (p 17)), .int (nI (p 12))])), (pt, .inr (5, [.int (nI (p 0)), .ref pw])), (pw, .inl (Z 0, 9, .inl (aI z)))]) (rest := []) hw hA [] [0, 1, 2, 3, 4, 5] rfl rfl rfl rfl (by decide) (fun hPc hDc => va_runS (As := [.long (lN (bkc (p 9) (p 10) (eT z (p 0) 10 v) (lf z (p 0) 0 ^ 10) j)), .long (lN (j * (lf z (p 0) 0 ^ 10))), .int (nI q)]) (rest := []) ⟨hx, hb, hml, hown, hts⟩ (c_X7_lowest l D Z H.size (bkc (p 9) (p 10) (eT z (p 0) 10 v) (lf z (p 0) 0 ^ 10) j) (j * (lf z (p 0) 0 ^ 10)) q hbd (by omega) hjp (by omega)) (va_cwS 3 hts gX7_block_X7_lowest rfl rfl rfl (by decide +kernel) ⟨Nat.le_of_ble_eq_true rfl, Nat.le_of_ble_eq_true rfl⟩) ⟨fb_cPre, pre_of hPc hK hDc⟩ rfl rfl hl.1 rfl (lv_room (Nat.le_of_ble_eq_true rfl)) dX7_block_59 ⟨Nat.le_of_ble_eq_true rfl, Nat.le_of_ble_eq_true rfl⟩) (fun r7 u H locs hr7 hw => ?_)
        subst hr7
        have hw : WS D A s [(X, .inr (7, [.ref pa, .ref P, .ref ia, .ref iP, .int (nI kp), .ref T, .ref sa, .ref et, .ref Rn, .ref Ol])), (Rn, .inr (3, [.long (lN (lf z (p 0) 0 ^ 10)), .ref ex])), (ex, .inl (Z 1, 11, .inr (.inl (aL (eT z (p 0) 10 v))))), (pa, .inr (2, [.ref pt, .int (nI (p 9)), .int (nI (p 10)), .int (nI (p 11)), .int (nI (p 13)), .int (nI (p 14)), .int (nI (p 15)), .int (nI (p 16)), .int (nI (p 17)), .int (nI (p 12))])), (pt, .inr (5, [.int (nI (p 0)), .ref pw])), (pw, .inl (Z 0, 9, .inl (aI z)))] H locs := hw
        exact q_lret (wout := _) hx hb hr hlocks hAe hK (lf z (p 0) 0 ^ 10, eT z (p 0) 10 v) (hw.sub [0, 3, 4, 5, 1, 2] (by decide) rfl) (⟨by unfold blC; rw [if_neg (by omega), tnI eq, tnI ej], eT_0 z (p 0) 10 hv0⟩) dX7_block_62
      · --
        have c4 := bb_1 c4
        refine lv_ldc2 hx hb hown wd1 dX7_block_18 ?_
        exact q_lret (wout := _) hx hb hr hlocks hAe hK (sc, v) hw (⟨(if_pos (by omega)).symm, hv0⟩) dX7_block_21
set_option maxHeartbeats 4000000 in
set_option maxRecDepth 100000 in
theorem c_X7_count (l : Launch) (D : va_G) (Z : Nat → ClassId) (zs0 : Nat) (X pa P ia iP kp T sa et Rn Ol : Nat) (pt pw : Nat) (p z : Nat → Nat) (ex sc : Nat) (v : Nat → Nat) (kn ar : Nat) (wh : Int32) (hn : 1 ≤ p 0 ∧ p 0 ≤ 8) (hs : lf z (p 0) 0 ≤ 24) (hzn : 0 < z (p 0)) (h9 : p 9 ≤ 99) (h10 : p 10 ≤ 99) (hv0 : v 0 = 0) : cMi l yX7_count wsX7_count (rmd 5) D Z zs0 [.ref X, .int wh] [(X, .inr (7, [.ref pa, .ref P, .ref ia, .ref iP, .int (nI kp), .ref T, .ref sa, .ref et, .ref Rn, .ref Ol])), (pa, .inr (2, [.ref pt, .int (nI (p 9)), .int (nI (p 10)), .int (nI (p 11)), .int (nI (p 13)), .int (nI (p 14)), .int (nI (p 15)), .int (nI (p 16)), .int (nI (p 17)), .int (nI (p 12))])), (pt, .inr (5, [.int (nI (p 0)), .ref pw])), (pw, .inl (Z 0, 9, .inl (aI z))), (Rn, .inr (3, [.long (lN sc), .ref ex])), (ex, .inl (Z 1, 11, .inr (.inl (aL v)))), (P, .inr (1, [.int (nI kn), .ref ar]))] (S := Nat × (Nat → Nat)) (fun (r : Int32) (u : Nat × (Nat → Nat)) => match u with | (sc', v') => r = cnC p z kn v wh ∧ v' 0 = 0) (fun (u : Nat × (Nat → Nat)) => match u with | (sc', v') => [(X, .inr (7, [.ref pa, .ref P, .ref ia, .ref iP, .int (nI kp), .ref T, .ref sa, .ref et, .ref Rn, .ref Ol])), (pa, .inr (2, [.ref pt, .int (nI (p 9)), .int (nI (p 10)), .int (nI (p 11)), .int (nI (p 13)), .int (nI (p 14)), .int (nI (p 15)), .int (nI (p 16)), .int (nI (p 17)), .int (nI (p 12))])), (pt, .inr (5, [.int (nI (p 0)), .ref pw])), (pw, .inl (Z 0, 9, .inl (aI z))), (Rn, .inr (3, [.long (lN sc'), .ref ex])), (ex, .inl (Z 1, 11, .inr (.inl (aL v')))), (P, .inr (1, [.int (nI kn), .ref ar]))]) 0 0 := by
  refine q_open (y := yX7_count) (ws := wsX7_count) (av := [.ref X, .int wh]) (win := [(X, .inr (7, [.ref pa, .ref P, .ref ia, .ref iP, .int (nI kp), .ref T, .ref sa, .ref et, .ref Rn, .ref Ol])), (pa, .inr (2, [.ref pt, .int (nI (p 9)), .int (nI (p 10)), .int (nI (p 11)), .int (nI (p 13)), .int (nI (p 14)), .int (nI (p 15)), .int (nI (p 16)), .int (nI (p 17)), .int (nI (p 12))])), (pt, .inr (5, [.int (nI (p 0)), .ref pw])), (pw, .inl (Z 0, 9, .inl (aI z))), (Rn, .inr (3, [.long (lN sc), .ref ex])), (ex, .inl (Z 1, 11, .inr (.inl (aL v)))), (P, .inr (1, [.int (nI kn), .ref ar]))]) (Qc := fun zs0 => cQi D Z zs0 [(X, .inr (7, [.ref pa, .ref P, .ref ia, .ref iP, .int (nI kp), .ref T, .ref sa, .ref et, .ref Rn, .ref Ol])), (pa, .inr (2, [.ref pt, .int (nI (p 9)), .int (nI (p 10)), .int (nI (p 11)), .int (nI (p 13)), .int (nI (p 14)), .int (nI (p 15)), .int (nI (p 16)), .int (nI (p 17)), .int (nI (p 12))])), (pt, .inr (5, [.int (nI (p 0)), .ref pw])), (pw, .inl (Z 0, 9, .inl (aI z))), (Rn, .inr (3, [.long (lN sc), .ref ex])), (ex, .inl (Z 1, 11, .inr (.inl (aL v)))), (P, .inr (1, [.int (nI kn), .ref ar]))] (S := Nat × (Nat → Nat)) (fun (r : Int32) (u : Nat × (Nat → Nat)) => match u with | (sc', v') => r = cnC p z kn v wh ∧ v' 0 = 0) (fun (u : Nat × (Nat → Nat)) => match u with | (sc', v') => [(X, .inr (7, [.ref pa, .ref P, .ref ia, .ref iP, .int (nI kp), .ref T, .ref sa, .ref et, .ref Rn, .ref Ol])), (pa, .inr (2, [.ref pt, .int (nI (p 9)), .int (nI (p 10)), .int (nI (p 11)), .int (nI (p 13)), .int (nI (p 14)), .int (nI (p 15)), .int (nI (p 16)), .int (nI (p 17)), .int (nI (p 12))])), (pt, .inr (5, [.int (nI (p 0)), .ref pw])), (pw, .inl (Z 0, 9, .inl (aI z))), (Rn, .inr (3, [.long (lN sc'), .ref ex])), (ex, .inl (Z 1, 11, .inr (.inl (aL v')))), (P, .inr (1, [.int (nI kn), .ref ar]))])) (cc := cX7_count) (maxL := 2) (ret := (some .int)) (by decide) rfl (Nat.le_of_ble_eq_true rfl) ?_
  intro pp ee s mm bw mt cd ls A H locs hAe hx hb hr hml hown hmn hts hlocks hA hK hw hl
  have hown : s.vm.findClass RX7 = some mm.cls := hown
  have hl : lv_has ls 2 [(0, .ref X), (1, .int wh)] := hl
  have wd1 := hts (.fieldLink RX7 10 "ReplaceAges" "plan" "LReplaceAges$Plan;") (List.mem_of_getElem? (i := 1) rfl)
  have wd2 := hts (.fieldLink RX7 64 "ReplaceAges$Plan" "table" "LReplaceAges$Table;") (List.mem_of_getElem? (i := 2) rfl)
  have wd3 := hts (.fieldLink RX7 67 "ReplaceAges$Table" "n" "I") (List.mem_of_getElem? (i := 3) rfl)
  have wd4 := hts (.fieldLink RX7 117 "ReplaceAges$Plan" "failure" "I") (List.mem_of_getElem? (i := 4) rfl)
  have wd5 := hts (.fieldLink RX7 120 "ReplaceAges$Plan" "change" "I") (List.mem_of_getElem? (i := 5) rfl)
  have wd6 := hts (.fieldLink RX7 123 "ReplaceAges$Plan" "rule" "I") (List.mem_of_getElem? (i := 6) rfl)
  have wd7 := hts (.fieldLink RX7 91 "ReplaceAges$Plan" "partAge" "I") (List.mem_of_getElem? (i := 7) rfl)
  have wd8 := hts (.fieldLink RX7 126 "ReplaceAges$Plan" "failures" "I") (List.mem_of_getElem? (i := 8) rfl)
  have wd9 := hts (.fieldLink RX7 129 "ReplaceAges$Plan" "changes" "I") (List.mem_of_getElem? (i := 9) rfl)
  have wd10 := hts (.fieldLink RX7 132 "ReplaceAges$Plan" "periods" "I") (List.mem_of_getElem? (i := 10) rfl)
  have wd11 := hts (.fieldLink RX7 135 "ReplaceAges$Plan" "bill" "I") (List.mem_of_getElem? (i := 11) rfl)
  have wd12 := hts (.fieldLink RX7 52 "ReplaceAges" "renewal" "LReplaceAges$Renewal;") (List.mem_of_getElem? (i := 12) rfl)
  have wd13 := hts (.fieldLink RX7 19 "ReplaceAges" "past" "LReplaceAges$Past;") (List.mem_of_getElem? (i := 13) rfl)
  have wd14 := hts (.fieldLink RX7 149 "ReplaceAges$Past" "known" "I") (List.mem_of_getElem? (i := 14) rfl)
  have in_X7 : ∀ w ∈ wsX70, w ∈ wsX7_count := fun _ h => List.mem_cons_of_mem _ (List.mem_append_left _ (List.mem_append_left _ (List.mem_append_left _ (List.mem_append_left _ (List.mem_append_right _ h)))))
  have in_X2 : ∀ w ∈ wsX20, w ∈ wsX7_count := fun _ h => List.mem_cons_of_mem _ (List.mem_append_left _ (List.mem_append_left _ (List.mem_append_left _ (List.mem_append_right _ h))))
  have in_X5 : ∀ w ∈ wsX50, w ∈ wsX7_count := fun _ h => List.mem_cons_of_mem _ (List.mem_append_left _ (List.mem_append_left _ (List.mem_append_right _ h)))
  have in_X1 : ∀ w ∈ wsX10, w ∈ wsX7_count := fun _ h => List.mem_cons_of_mem _ (List.mem_append_left _ (List.mem_append_right _ h))
  have hal : 1 ≤ lf z (p 0) 0 ∧ lf z (p 0) 0 ≤ 24 := ⟨lf_pos hzn (by omega), hs⟩
  have hp0 : 0 < lf z (p 0) 0 ^ 10 := Nat.pow_pos hal.1
  have hp10 : lf z (p 0) 0 ^ 10 ≤ 24 ^ 10 := Nat.pow_le_pow_left hal.2 10
  refine lv_iload_n hx hb dX7_count_0 rfl (lv_at hl 1 rfl) ?_
  by_cases hsw : 0 ≤ wh.toInt ∧ wh.toInt ≤ 13
  · --
    obtain ⟨jsw, rfl, ejsw⟩ := i32_nat (x := wh) (by omega)
    rcases (show jsw = 0 ∨ jsw = 1 ∨ jsw = 2 ∨ jsw = 3 ∨ jsw = 4 ∨ jsw = 5 ∨ jsw = 6 ∨ jsw = 7 ∨ jsw = 8 ∨ jsw = 9 ∨ jsw = 10 ∨ jsw = 11 ∨ jsw = 12 ∨ jsw = 13 by omega) with rfl | rfl | rfl | rfl | rfl | rfl | rfl | rfl | rfl | rfl | rfl | rfl | rfl | rfl
    · --
      refine lv_tableIn (x := nI 0) (off := 71) (tgt := 72) hx hb dX7_count_1 (by decide) (by decide) rfl (by decide) ?_
      refine lv_aload_n hx hb dX7_count_72 rfl (lv_at hl 0 rfl) ?_
      refine q_get (v := .ref pa) (ci := 7) hx hb hts in_X7 hown hK hw 0 0 wd1 dX7_count_73 rfl rfl (by decide) rfl ?_
      refine q_get (v := .ref pt) (ci := 2) hx hb hts in_X2 hown hK hw 1 0 wd2 dX7_count_76 rfl rfl (by decide) rfl ?_
      refine q_get (v := .int (nI (p 0))) (ci := 5) hx hb hts in_X5 hown hK hw 2 0 wd3 dX7_count_79 rfl rfl (by decide) rfl ?_
      exact q_iret (wout := _) hx hb hr hlocks hAe hK (sc, v) hw (⟨by unfold cnC; rw [if_pos (by omega), tnI ejsw]; rfl, hv0⟩) dX7_count_82
    · --
      refine lv_tableIn (x := nI 1) (off := 82) (tgt := 83) hx hb dX7_count_1 (by decide) (by decide) rfl (by decide) ?_
      refine lv_aload_n hx hb dX7_count_83 rfl (lv_at hl 0 rfl) ?_
      refine q_get (v := .ref pa) (ci := 7) hx hb hts in_X7 hown hK hw 0 0 wd1 dX7_count_84 rfl rfl (by decide) rfl ?_
      refine q_get (v := .ref pt) (ci := 2) hx hb hts in_X2 hown hK hw 1 0 wd2 dX7_count_87 rfl rfl (by decide) rfl ?_
      refine q_calli (S := Unit) (Z := Z) (D := D) (wc := [(pt, .inr (5, [.int (nI (p 0)), .ref pw])), (pw, .inl (Z 0, 9, .inl (aI z)))]) (wr := [(X, .inr (7, [.ref pa, .ref P, .ref ia, .ref iP, .int (nI kp), .ref T, .ref sa, .ref et, .ref Rn, .ref Ol])), (pa, .inr (2, [.ref pt, .int (nI (p 9)), .int (nI (p 10)), .int (nI (p 11)), .int (nI (p 13)), .int (nI (p 14)), .int (nI (p 15)), .int (nI (p 16)), .int (nI (p 17)), .int (nI (p 12))])), (Rn, .inr (3, [.long (lN sc), .ref ex])), (ex, .inl (Z 1, 11, .inr (.inl (aL v)))), (P, .inr (1, [.int (nI kn), .ref ar]))]) (rest := []) hw hA [2, 3] [0, 1, 4, 5, 6] rfl rfl rfl rfl (by decide) (fun hPc hDc => va_runV (As := []) (rest := []) ⟨hx, hb, hml, hown, hts⟩ (c_X5_all l D Z H.size pt pw (p 0) z hn.2) (cwV 0 hts gX7_count_X5_all rfl rfl rfl (by decide +kernel) ⟨Nat.le_of_ble_eq_true rfl, Nat.le_of_ble_eq_true rfl⟩) ⟨fb_cPre, va_recv hK.1 hPc (ci := 5) (q0 := 0) rfl rfl, pre_of hPc hK hDc⟩ rfl rfl hl.1 rfl (lv_room (Nat.le_of_ble_eq_true rfl)) dX7_count_90 ⟨Nat.le_of_ble_eq_true rfl, Nat.le_of_ble_eq_true rfl⟩) (fun r1 u H locs hr1 hw => ?_)
      subst hr1
      have hw : WS D A s [(X, .inr (7, [.ref pa, .ref P, .ref ia, .ref iP, .int (nI kp), .ref T, .ref sa, .ref et, .ref Rn, .ref Ol])), (pa, .inr (2, [.ref pt, .int (nI (p 9)), .int (nI (p 10)), .int (nI (p 11)), .int (nI (p 13)), .int (nI (p 14)), .int (nI (p 15)), .int (nI (p 16)), .int (nI (p 17)), .int (nI (p 12))])), (Rn, .inr (3, [.long (lN sc), .ref ex])), (ex, .inl (Z 1, 11, .inr (.inl (aL v)))), (P, .inr (1, [.int (nI kn), .ref ar])), (pt, .inr (5, [.int (nI (p 0)), .ref pw])), (pw, .inl (Z 0, 9, .inl (aI z)))] H locs := hw
      exact q_iret (wout := _) hx hb hr hlocks hAe hK (sc, v) (hw.sub [0, 1, 5, 6, 2, 3, 4] (by decide) rfl) (⟨by unfold cnC; rw [if_pos (by omega), tnI ejsw]; rfl, hv0⟩) dX7_count_93
    · --
      refine lv_tableIn (x := nI 2) (off := 93) (tgt := 94) hx hb dX7_count_1 (by decide) (by decide) rfl (by decide) ?_
      refine lv_aload_n hx hb dX7_count_94 rfl (lv_at hl 0 rfl) ?_
      refine q_get (v := .ref pa) (ci := 7) hx hb hts in_X7 hown hK hw 0 0 wd1 dX7_count_95 rfl rfl (by decide) rfl ?_
      refine q_get (v := .int (nI (p 9))) (ci := 2) hx hb hts in_X2 hown hK hw 1 1 wd4 dX7_count_98 rfl rfl (by decide) rfl ?_
      exact q_iret (wout := _) hx hb hr hlocks hAe hK (sc, v) hw (⟨by unfold cnC; rw [if_pos (by omega), tnI ejsw]; rfl, hv0⟩) dX7_count_101
    · --
      refine lv_tableIn (x := nI 3) (off := 101) (tgt := 102) hx hb dX7_count_1 (by decide) (by decide) rfl (by decide) ?_
      refine lv_aload_n hx hb dX7_count_102 rfl (lv_at hl 0 rfl) ?_
      refine q_get (v := .ref pa) (ci := 7) hx hb hts in_X7 hown hK hw 0 0 wd1 dX7_count_103 rfl rfl (by decide) rfl ?_
      refine q_get (v := .int (nI (p 10))) (ci := 2) hx hb hts in_X2 hown hK hw 1 2 wd5 dX7_count_106 rfl rfl (by decide) rfl ?_
      exact q_iret (wout := _) hx hb hr hlocks hAe hK (sc, v) hw (⟨by unfold cnC; rw [if_pos (by omega), tnI ejsw]; rfl, hv0⟩) dX7_count_109
    · --
      refine lv_tableIn (x := nI 4) (off := 109) (tgt := 110) hx hb dX7_count_1 (by decide) (by decide) rfl (by decide) ?_
      refine lv_aload_n hx hb dX7_count_110 rfl (lv_at hl 0 rfl) ?_
      refine q_get (v := .ref pa) (ci := 7) hx hb hts in_X7 hown hK hw 0 0 wd1 dX7_count_111 rfl rfl (by decide) rfl ?_
      refine q_get (v := .int (nI (p 11))) (ci := 2) hx hb hts in_X2 hown hK hw 1 3 wd6 dX7_count_114 rfl rfl (by decide) rfl ?_
      exact q_iret (wout := _) hx hb hr hlocks hAe hK (sc, v) hw (⟨by unfold cnC; rw [if_pos (by omega), tnI ejsw]; rfl, hv0⟩) dX7_count_117
    · --
      refine lv_tableIn (x := nI 5) (off := 117) (tgt := 118) hx hb dX7_count_1 (by decide) (by decide) rfl (by decide) ?_
      refine lv_aload_n hx hb dX7_count_118 rfl (lv_at hl 0 rfl) ?_
      refine q_get (v := .ref pa) (ci := 7) hx hb hts in_X7 hown hK hw 0 0 wd1 dX7_count_119 rfl rfl (by decide) rfl ?_
      refine q_get (v := .int (nI (p 13))) (ci := 2) hx hb hts in_X2 hown hK hw 1 4 wd7 dX7_count_122 rfl rfl (by decide) rfl ?_
      exact q_iret (wout := _) hx hb hr hlocks hAe hK (sc, v) hw (⟨by unfold cnC; rw [if_pos (by omega), tnI ejsw]; rfl, hv0⟩) dX7_count_125
    · --
      refine lv_tableIn (x := nI 6) (off := 125) (tgt := 126) hx hb dX7_count_1 (by decide) (by decide) rfl (by decide) ?_
      refine lv_aload_n hx hb dX7_count_126 rfl (lv_at hl 0 rfl) ?_
      refine q_get (v := .ref pa) (ci := 7) hx hb hts in_X7 hown hK hw 0 0 wd1 dX7_count_127 rfl rfl (by decide) rfl ?_
      refine q_get (v := .int (nI (p 14))) (ci := 2) hx hb hts in_X2 hown hK hw 1 5 wd8 dX7_count_130 rfl rfl (by decide) rfl ?_
      exact q_iret (wout := _) hx hb hr hlocks hAe hK (sc, v) hw (⟨by unfold cnC; rw [if_pos (by omega), tnI ejsw]; rfl, hv0⟩) dX7_count_133
    · --
      refine lv_tableIn (x := nI 7) (off := 133) (tgt := 134) hx hb dX7_count_1 (by decide) (by decide) rfl (by decide) ?_
      refine lv_aload_n hx hb dX7_count_134 rfl (lv_at hl 0 rfl) ?_
      refine q_get (v := .ref pa) (ci := 7) hx hb hts in_X7 hown hK hw 0 0 wd1 dX7_count_135 rfl rfl (by decide) rfl ?_
      refine q_get (v := .int (nI (p 15))) (ci := 2) hx hb hts in_X2 hown hK hw 1 6 wd9 dX7_count_138 rfl rfl (by decide) rfl ?_
      exact q_iret (wout := _) hx hb hr hlocks hAe hK (sc, v) hw (⟨by unfold cnC; rw [if_pos (by omega), tnI ejsw]; rfl, hv0⟩) dX7_count_141
    · --
      refine lv_tableIn (x := nI 8) (off := 141) (tgt := 142) hx hb dX7_count_1 (by decide) (by decide) rfl (by decide) ?_
      refine lv_aload_n hx hb dX7_count_142 rfl (lv_at hl 0 rfl) ?_
      refine q_get (v := .ref pa) (ci := 7) hx hb hts in_X7 hown hK hw 0 0 wd1 dX7_count_143 rfl rfl (by decide) rfl ?_
      refine q_get (v := .int (nI (p 16))) (ci := 2) hx hb hts in_X2 hown hK hw 1 7 wd10 dX7_count_146 rfl rfl (by decide) rfl ?_
      exact q_iret (wout := _) hx hb hr hlocks hAe hK (sc, v) hw (⟨by unfold cnC; rw [if_pos (by omega), tnI ejsw]; rfl, hv0⟩) dX7_count_149
    · --
      refine lv_tableIn (x := nI 9) (off := 149) (tgt := 150) hx hb dX7_count_1 (by decide) (by decide) rfl (by decide) ?_
      refine lv_aload_n hx hb dX7_count_150 rfl (lv_at hl 0 rfl) ?_
      refine q_get (v := .ref pa) (ci := 7) hx hb hts in_X7 hown hK hw 0 0 wd1 dX7_count_151 rfl rfl (by decide) rfl ?_
      refine q_get (v := .int (nI (p 17))) (ci := 2) hx hb hts in_X2 hown hK hw 1 8 wd11 dX7_count_154 rfl rfl (by decide) rfl ?_
      exact q_iret (wout := _) hx hb hr hlocks hAe hK (sc, v) hw (⟨by unfold cnC; rw [if_pos (by omega), tnI ejsw]; rfl, hv0⟩) dX7_count_157
    · --
      refine lv_tableIn (x := nI 10) (off := 157) (tgt := 158) hx hb dX7_count_1 (by decide) (by decide) rfl (by decide) ?_
      refine lv_aload_n hx hb dX7_count_158 rfl (lv_at hl 0 rfl) ?_
      refine q_get (v := .ref pa) (ci := 7) hx hb hts in_X7 hown hK hw 0 0 wd1 dX7_count_159 rfl rfl (by decide) rfl ?_
      refine q_get (v := .ref pt) (ci := 2) hx hb hts in_X2 hown hK hw 1 0 wd2 dX7_count_162 rfl rfl (by decide) rfl ?_
      refine q_calli (S := Unit) (Z := Z) (D := D) (wc := [(pt, .inr (5, [.int (nI (p 0)), .ref pw])), (pw, .inl (Z 0, 9, .inl (aI z)))]) (wr := [(X, .inr (7, [.ref pa, .ref P, .ref ia, .ref iP, .int (nI kp), .ref T, .ref sa, .ref et, .ref Rn, .ref Ol])), (pa, .inr (2, [.ref pt, .int (nI (p 9)), .int (nI (p 10)), .int (nI (p 11)), .int (nI (p 13)), .int (nI (p 14)), .int (nI (p 15)), .int (nI (p 16)), .int (nI (p 17)), .int (nI (p 12))])), (Rn, .inr (3, [.long (lN sc), .ref ex])), (ex, .inl (Z 1, 11, .inr (.inl (aL v)))), (P, .inr (1, [.int (nI kn), .ref ar]))]) (rest := []) hw hA [2, 3] [0, 1, 4, 5, 6] rfl rfl rfl rfl (by decide) (fun hPc hDc => va_runV (As := []) (rest := []) ⟨hx, hb, hml, hown, hts⟩ (c_X5_trend l D Z H.size pt pw (p 0) z hn.2 hs) (cwV 0 hts gX7_count_X5_trend rfl rfl rfl (by decide +kernel) ⟨Nat.le_of_ble_eq_true rfl, Nat.le_of_ble_eq_true rfl⟩) ⟨fb_cPre, va_recv hK.1 hPc (ci := 5) (q0 := 0) rfl rfl, pre_of hPc hK hDc⟩ rfl rfl hl.1 rfl (lv_room (Nat.le_of_ble_eq_true rfl)) dX7_count_165 ⟨Nat.le_of_ble_eq_true rfl, Nat.le_of_ble_eq_true rfl⟩) (fun r2 u H locs hr2 hw => ?_)
      subst hr2
      have hw : WS D A s [(X, .inr (7, [.ref pa, .ref P, .ref ia, .ref iP, .int (nI kp), .ref T, .ref sa, .ref et, .ref Rn, .ref Ol])), (pa, .inr (2, [.ref pt, .int (nI (p 9)), .int (nI (p 10)), .int (nI (p 11)), .int (nI (p 13)), .int (nI (p 14)), .int (nI (p 15)), .int (nI (p 16)), .int (nI (p 17)), .int (nI (p 12))])), (Rn, .inr (3, [.long (lN sc), .ref ex])), (ex, .inl (Z 1, 11, .inr (.inl (aL v)))), (P, .inr (1, [.int (nI kn), .ref ar])), (pt, .inr (5, [.int (nI (p 0)), .ref pw])), (pw, .inl (Z 0, 9, .inl (aI z)))] H locs := hw
      exact q_iret (wout := _) hx hb hr hlocks hAe hK (sc, v) (hw.sub [0, 1, 5, 6, 2, 3, 4] (by decide) rfl) (⟨by unfold cnC; rw [if_pos (by omega), tnI ejsw]; rfl, hv0⟩) dX7_count_168
    · --
      refine lv_tableIn (x := nI 11) (off := 168) (tgt := 169) hx hb dX7_count_1 (by decide) (by decide) rfl (by decide) ?_
      refine lv_aload_n hx hb dX7_count_169 rfl (lv_at hl 0 rfl) ?_
      refine q_get (v := .ref pa) (ci := 7) hx hb hts in_X7 hown hK hw 0 0 wd1 dX7_count_170 rfl rfl (by decide) rfl ?_
      refine q_get (v := .ref pt) (ci := 2) hx hb hts in_X2 hown hK hw 1 0 wd2 dX7_count_173 rfl rfl (by decide) rfl ?_
      refine lv_aload_n hx hb dX7_count_176 rfl (lv_at hl 0 rfl) ?_
      refine q_get (v := .ref pa) (ci := 7) hx hb hts in_X7 hown hK hw 0 0 wd1 dX7_count_177 rfl rfl (by decide) rfl ?_
      refine q_get (v := .int (nI (p 9))) (ci := 2) hx hb hts in_X2 hown hK hw 1 1 wd4 dX7_count_180 rfl rfl (by decide) rfl ?_
      refine lv_aload_n hx hb dX7_count_183 rfl (lv_at hl 0 rfl) ?_
      refine q_get (v := .ref pa) (ci := 7) hx hb hts in_X7 hown hK hw 0 0 wd1 dX7_count_184 rfl rfl (by decide) rfl ?_
      refine q_get (v := .int (nI (p 10))) (ci := 2) hx hb hts in_X2 hown hK hw 1 2 wd5 dX7_count_187 rfl rfl (by decide) rfl ?_
      refine q_calli (S := Unit) (Z := Z) (D := D) (wc := [(pt, .inr (5, [.int (nI (p 0)), .ref pw])), (pw, .inl (Z 0, 9, .inl (aI z)))]) (wr := [(X, .inr (7, [.ref pa, .ref P, .ref ia, .ref iP, .int (nI kp), .ref T, .ref sa, .ref et, .ref Rn, .ref Ol])), (pa, .inr (2, [.ref pt, .int (nI (p 9)), .int (nI (p 10)), .int (nI (p 11)), .int (nI (p 13)), .int (nI (p 14)), .int (nI (p 15)), .int (nI (p 16)), .int (nI (p 17)), .int (nI (p 12))])), (Rn, .inr (3, [.long (lN sc), .ref ex])), (ex, .inl (Z 1, 11, .inr (.inl (aL v)))), (P, .inr (1, [.int (nI kn), .ref ar]))]) (rest := []) hw hA [2, 3] [0, 1, 4, 5, 6] rfl rfl rfl rfl (by decide) (fun hPc hDc => va_runV (As := [.int (nI (p 9)), .int (nI (p 10))]) (rest := []) ⟨hx, hb, hml, hown, hts⟩ (c_X5_bestAge l D Z H.size pt pw (p 0) z (p 9) (p 10) hn.2 hs h9 h10) (cwV 2 hts gX7_count_X5_bestAge rfl rfl rfl (by decide +kernel) ⟨Nat.le_of_ble_eq_true rfl, Nat.le_of_ble_eq_true rfl⟩) ⟨fb_cPre, va_recv hK.1 hPc (ci := 5) (q0 := 0) rfl rfl, pre_of hPc hK hDc⟩ rfl rfl hl.1 rfl (lv_room (Nat.le_of_ble_eq_true rfl)) dX7_count_190 ⟨Nat.le_of_ble_eq_true rfl, Nat.le_of_ble_eq_true rfl⟩) (fun r3 u H locs hr3 hw => ?_)
      subst hr3
      have hw : WS D A s [(X, .inr (7, [.ref pa, .ref P, .ref ia, .ref iP, .int (nI kp), .ref T, .ref sa, .ref et, .ref Rn, .ref Ol])), (pa, .inr (2, [.ref pt, .int (nI (p 9)), .int (nI (p 10)), .int (nI (p 11)), .int (nI (p 13)), .int (nI (p 14)), .int (nI (p 15)), .int (nI (p 16)), .int (nI (p 17)), .int (nI (p 12))])), (Rn, .inr (3, [.long (lN sc), .ref ex])), (ex, .inl (Z 1, 11, .inr (.inl (aL v)))), (P, .inr (1, [.int (nI kn), .ref ar])), (pt, .inr (5, [.int (nI (p 0)), .ref pw])), (pw, .inl (Z 0, 9, .inl (aI z)))] H locs := hw
      exact q_iret (wout := _) hx hb hr hlocks hAe hK (sc, v) (hw.sub [0, 1, 5, 6, 2, 3, 4] (by decide) rfl) (⟨by unfold cnC; rw [if_pos (by omega), tnI ejsw]; rfl, hv0⟩) dX7_count_193
    · --
      refine lv_tableIn (x := nI 12) (off := 193) (tgt := 194) hx hb dX7_count_1 (by decide) (by decide) rfl (by decide) ?_
      refine lv_aload_n hx hb dX7_count_194 rfl (lv_at hl 0 rfl) ?_
      refine q_get (v := .ref Rn) (ci := 7) hx hb hts in_X7 hown hK hw 0 8 wd12 dX7_count_195 rfl rfl (by decide) rfl ?_
      refine lv_aload_n hx hb dX7_count_198 rfl (lv_at hl 0 rfl) ?_
      refine q_get (v := .ref pa) (ci := 7) hx hb hts in_X7 hown hK hw 0 0 wd1 dX7_count_199 rfl rfl (by decide) rfl ?_
      refine q_calli (S := Unit) (Z := Z) (D := D) (wc := [(Rn, .inr (3, [.long (lN sc), .ref ex])), (ex, .inl (Z 1, 11, .inr (.inl (aL v)))), (pa, .inr (2, [.ref pt, .int (nI (p 9)), .int (nI (p 10)), .int (nI (p 11)), .int (nI (p 13)), .int (nI (p 14)), .int (nI (p 15)), .int (nI (p 16)), .int (nI (p 17)), .int (nI (p 12))])), (pt, .inr (5, [.int (nI (p 0)), .ref pw])), (pw, .inl (Z 0, 9, .inl (aI z)))]) (wr := [(X, .inr (7, [.ref pa, .ref P, .ref ia, .ref iP, .int (nI kp), .ref T, .ref sa, .ref et, .ref Rn, .ref Ol])), (P, .inr (1, [.int (nI kn), .ref ar]))]) (rest := []) hw hA [4, 5, 1, 2, 3] [0, 6] rfl rfl rfl rfl (by decide) (fun hPc hDc => va_runV (As := [.ref pa]) (rest := []) ⟨hx, hb, hml, hown, hts⟩ (c_X3_bestBlock l D Z H.size Rn ex sc v pa pt pw p z hn hal hv0 h9 h10) (cwV 1 hts gX7_count_X3_bestBlock rfl rfl rfl (by decide +kernel) ⟨Nat.le_of_ble_eq_true rfl, Nat.le_of_ble_eq_true rfl⟩) ⟨fb_cPre, va_recv hK.1 hPc (ci := 3) (q0 := 0) rfl rfl, pre_of hPc hK hDc⟩ rfl rfl hl.1 rfl (lv_room (Nat.le_of_ble_eq_true rfl)) dX7_count_202 ⟨Nat.le_of_ble_eq_true rfl, Nat.le_of_ble_eq_true rfl⟩) (fun r4 u H locs hr4 hw => ?_)
      subst hr4
      have hw : WS D A s [(X, .inr (7, [.ref pa, .ref P, .ref ia, .ref iP, .int (nI kp), .ref T, .ref sa, .ref et, .ref Rn, .ref Ol])), (P, .inr (1, [.int (nI kn), .ref ar])), (Rn, .inr (3, [.long (lN (lf z (p 0) 0 ^ 10)), .ref ex])), (ex, .inl (Z 1, 11, .inr (.inl (aL (eT z (p 0) 10 v))))), (pa, .inr (2, [.ref pt, .int (nI (p 9)), .int (nI (p 10)), .int (nI (p 11)), .int (nI (p 13)), .int (nI (p 14)), .int (nI (p 15)), .int (nI (p 16)), .int (nI (p 17)), .int (nI (p 12))])), (pt, .inr (5, [.int (nI (p 0)), .ref pw])), (pw, .inl (Z 0, 9, .inl (aI z)))] H locs := hw
      exact q_iret (wout := _) hx hb hr hlocks hAe hK (lf z (p 0) 0 ^ 10, eT z (p 0) 10 v) (hw.sub [0, 4, 5, 6, 2, 3, 1] (by decide) rfl) (⟨by unfold cnC; rw [if_pos (by omega), tnI ejsw]; rfl, eT_0 z (p 0) 10 hv0⟩) dX7_count_205
    · --
      refine lv_tableIn (x := nI 13) (off := 205) (tgt := 206) hx hb dX7_count_1 (by decide) (by decide) rfl (by decide) ?_
      refine lv_aload_n hx hb dX7_count_206 rfl (lv_at hl 0 rfl) ?_
      refine q_get (v := .ref P) (ci := 7) hx hb hts in_X7 hown hK hw 0 1 wd13 dX7_count_207 rfl rfl (by decide) rfl ?_
      refine q_get (v := .int (nI kn)) (ci := 1) hx hb hts in_X1 hown hK hw 6 0 wd14 dX7_count_210 rfl rfl (by decide) rfl ?_
      exact q_iret (wout := _) hx hb hr hlocks hAe hK (sc, v) hw (⟨by unfold cnC; rw [if_pos (by omega), tnI ejsw]; rfl, hv0⟩) dX7_count_213
  · --
    refine lv_tableOut (x := wh) (tgt := 214) hx hb dX7_count_1 (by omega) (by decide) ?_
    refine lv_iconst (v := (-1)) hx hb dX7_count_214 (by decide) ?_
    exact q_iret (wout := _) hx hb hr hlocks hAe hK (sc, v) hw (⟨(if_neg (by omega)).symm, hv0⟩) dX7_count_215
