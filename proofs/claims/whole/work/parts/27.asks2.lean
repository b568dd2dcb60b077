theorem rT_le {z : Nat → Nat} {n f c : Nat} (hn : n ≤ 8) (hal : lf z n 0 ≤ 24) (hf : f ≤ 99) (hc : c ≤ 99) {h : Nat} (hh : h ≤ 5) : rT z n f c h ≤ 2000000000000 := by
  cases h with
  | zero => exact Nat.zero_le _
  | succ h => exact rpf_le hn hal hf hc (Nat.le_trans (Nat.pow_le_pow_left hal h) (Nat.le_trans (Nat.pow_le_pow_right (j := 4) (by omega) (by omega)) (by decide))) (cT_le hn hal hf hc (by omega))
theorem kT_le {z : Nat → Nat} {n f c : Nat} (hn : n ≤ 8) (hal : lf z n 0 ≤ 24) (hf : f ≤ 99) (hc : c ≤ 99) {h : Nat} (hh : h ≤ 5) (i : Nat) : kT z n f c h i < 2 ^ 63 := by
  induction h with
  | zero => exact Nat.pow_pos (by omega)
  | succ h ih =>
    simp only [kT]
    by_cases hi : i < n
    · rw [seg_in hi]
      exact Nat.lt_of_le_of_lt (kpf_le hn hal hf (Nat.le_trans (Nat.pow_le_pow_left hal h) (Nat.le_trans (Nat.pow_le_pow_right (j := 4) (by omega) (by omega)) (by decide))) (cT_le hn hal hf hc (by omega)) i hi) (by decide)
    · rw [seg_out (by omega)]; exact ih (by omega)
theorem cT_lt {z : Nat → Nat} {n f c : Nat} (hal : lf z n 0 ≤ 24) (hf : f ≤ 99) {h i : Nat} (hh : h ≤ 5) : cT z n f c h i < 2 ^ 63 := Nat.lt_of_le_of_lt (cT_le0 hal hf h i) (Nat.lt_of_le_of_lt (cB_le hh) (by decide))
/-- least: what it answers -/
def lsC (n : Nat) (z : Nat → Nat) (f c : Nat) (h i wh : Int32) : Int64 :=
  if ¬ (0 ≤ h.toInt ∧ h.toInt ≤ 5 ∧ 0 ≤ i.toInt ∧ i.toInt < (n : Int) ∧ 0 ≤ wh.toInt ∧ wh.toInt ≤ 2) then (-1)
  else if wh.toInt = 2 then lN (bb (lf z n i.toInt.toNat * rT z n f c h.toInt.toNat < kT z n f c h.toInt.toNat i.toInt.toNat))
  else lN (fr (cT z n f c h.toInt.toNat i.toInt.toNat) (lf z n 0 ^ h.toInt.toNat * lf z n i.toInt.toNat) wh.toInt.toNat)
def pB : Nat → Nat
  | 0 => 0
  | h + 1 => 24 * 24 * (198 * 24 ^ (2 * (h + 1)) + pB h) + 24 * (24 * (198 * 24 ^ (2 * (h + 1)) + pB h)) + 24 * (24 * (198 * 24 ^ (2 * (h + 1)) + pB h)) + 24 * 24 * pB h
theorem ols_le {z : Nat → Nat} {n f c g : Nat} (hal : lf z n 0 ≤ 24) (hf : f ≤ 99) (hc : c ≤ 99) {P : Nat → Nat → Nat} {B h : Nat} (hP : ∀ i j, P i j ≤ B) (i : Nat) : ols z n f c g P h i (P 0 0) ≤ 24 * (198 * 24 ^ (2 * (h + 1)) + B) := by
  have hl : lf z n (i + 1) ≤ 24 := Nat.le_trans (lf_anti (Nat.zero_le _)) hal
  have hx : lf z n 0 ^ (2 * (h + 1)) ≤ 24 ^ (2 * (h + 1)) := Nat.pow_le_pow_left hal _
  unfold ols
  generalize lf z n 0 ^ (2 * (h + 1)) = x at hx ⊢
  generalize 24 ^ (2 * (h + 1)) = y at hx ⊢
  split
  · refine Nat.mul_le_mul hl (Nat.add_le_add (Nat.mul_le_mul (by omega) hx) (hP 0 0))
  · have h1 : lf z n (i + 1) * f * x ≤ 24 * 99 * y := Nat.mul_le_mul (Nat.mul_le_mul hl hf) hx
    have h2 : lf z n 0 * P 0 (i + 1) ≤ 24 * B := Nat.mul_le_mul hal (hP 0 (i + 1))
    have h3 : 24 * (198 * y + B) = 24 * 99 * y + 24 * 99 * y + 24 * B := by rw [Nat.mul_add]; omega
    omega
theorem pcs_le {z : Nat → Nat} {n f c g : Nat} (hal : lf z n 0 ≤ 24) (hf : f ≤ 99) (hc : c ≤ 99) : ∀ h i j, pcs z n f c g h i j ≤ pB h := by
  intro h
  induction h with
  | zero => intro i j; exact Nat.le_refl _
  | succ h ih =>
    intro i j
    by_cases q : n ≤ i ∨ n ≤ j
    · rw [pcs_o q]; exact Nat.zero_le _
    · rw [pcs_i (by omega) (by omega)]
      have z1 : z (i + 1) ≤ 24 := Nat.le_trans (z_le (n := n) (by omega)) hal
      have z2 : z (j + 1) ≤ 24 := Nat.le_trans (z_le (n := n) (by omega)) hal
      have hx : lf z n 0 ^ (2 * (h + 1)) ≤ 24 ^ (2 * (h + 1)) := Nat.pow_le_pow_left hal _
      exact Nat.add_le_add (Nat.add_le_add (Nat.add_le_add (Nat.mul_le_mul (Nat.mul_le_mul z1 z2) (Nat.add_le_add (Nat.mul_le_mul (by omega) hx) (ih 0 0))) (Nat.mul_le_mul z1 (ols_le hal hf hc ih j))) (Nat.mul_le_mul z2 (ols_le hal hf hc ih i))) (Nat.mul_le_mul (Nat.mul_le_mul hal hal) (ih _ _))
theorem pcs_lt {z : Nat → Nat} {n f c g : Nat} (hal : lf z n 0 ≤ 24) (hf : f ≤ 99) (hc : c ≤ 99) {h i j : Nat} (hh : h ≤ 3) : pcs z n f c g h i j < 2 ^ 63 := by
  refine Nat.lt_of_le_of_lt (pcs_le hal hf hc h i j) ?_
  rcases (show h = 0 ∨ h = 1 ∨ h = 2 ∨ h = 3 by omega) with rfl | rfl | rfl | rfl <;> decide
def prC (n : Nat) (z : Nat → Nat) (f c : Nat) (g h wh : Int32) : Int64 := if ¬ (1 ≤ g.toInt ∧ g.toInt ≤ (n : Int) ∧ 0 ≤ h.toInt ∧ h.toInt ≤ 3 ∧ ¬ sid wh) then (-1) else lN (fr (pcs z n f c g.toInt.toNat h.toInt.toNat 0 0) (lf z n 0 ^ (2 * h.toInt.toNat + 2)) wh.toInt.toNat)
theorem ch_nI {c : Nat} (h : c < 65536) : ((nI c).toUInt32 % 65536).toInt32 = nI c := by
  rw [pk_char, pk_tn (by omega), Nat.mod_eq_of_lt h]
set_option maxHeartbeats 4000000 in
set_option maxRecDepth 100000 in
theorem c_X7_least (l : Launch) (D : va_G) (Z : Nat → ClassId) (zs0 : Nat) (X pa P ia iP kp T sa et Rn Ol : Nat) (pt pw : Nat) (p z : Nat → Nat) (ke co sc re : Nat) (K C : Nat → Nat) (h i wh : Int32) (hn : 1 ≤ p 0 ∧ p 0 ≤ 8) (hs : lf z (p 0) 0 ≤ 24) (hzn : 0 < z (p 0)) (h9 : p 9 ≤ 99) (h10 : p 10 ≤ 99) : cMl l yX7_least wsX7_least (rmd 5) D Z zs0 [.ref X, .int h, .int i, .int wh] [(X, .inr (7, [.ref pa, .ref P, .ref ia, .ref iP, .int (nI kp), .ref T, .ref sa, .ref et, .ref Rn, .ref Ol])), (pa, .inr (2, [.ref pt, .int (nI (p 9)), .int (nI (p 10)), .int (nI (p 11)), .int (nI (p 13)), .int (nI (p 14)), .int (nI (p 15)), .int (nI (p 16)), .int (nI (p 17)), .int (nI (p 12))])), (pt, .inr (5, [.int (nI (p 0)), .ref pw])), (pw, .inl (Z 0, 9, .inl (aI z))), (Ol, .inr (0, [.long (lN sc), .ref ke, .long (lN re), .ref co])), (ke, .inl (Z 1, 9, .inr (.inl (aL K)))), (co, .inl (Z 1, 9, .inr (.inl (aL C))))] (S := Nat × Nat × (Nat → Nat) × (Nat → Nat)) (fun (r : Int64) (u : Nat × Nat × (Nat → Nat) × (Nat → Nat)) => match u with | (sc', re', K', C') => r = lsC (p 0) z (p 9) (p 10) h i wh) (fun (u : Nat × Nat × (Nat → Nat) × (Nat → Nat)) => match u with | (sc', re', K', C') => [(X, .inr (7, [.ref pa, .ref P, .ref ia, .ref iP, .int (nI kp), .ref T, .ref sa, .ref et, .ref Rn, .ref Ol])), (pa, .inr (2, [.ref pt, .int (nI (p 9)), .int (nI (p 10)), .int (nI (p 11)), .int (nI (p 13)), .int (nI (p 14)), .int (nI (p 15)), .int (nI (p 16)), .int (nI (p 17)), .int (nI (p 12))])), (pt, .inr (5, [.int (nI (p 0)), .ref pw])), (pw, .inl (Z 0, 9, .inl (aI z))), (Ol, .inr (0, [.long (lN sc'), .ref ke, .long (lN re'), .ref co])), (ke, .inl (Z 1, 9, .inr (.inl (aL K')))), (co, .inl (Z 1, 9, .inr (.inl (aL C'))))]) 0 0 := by
  refine q_open (y := yX7_least) (ws := wsX7_least) (av := [.ref X, .int h, .int i, .int wh]) (win := [(X, .inr (7, [.ref pa, .ref P, .ref ia, .ref iP, .int (nI kp), .ref T, .ref sa, .ref et, .ref Rn, .ref Ol])), (pa, .inr (2, [.ref pt, .int (nI (p 9)), .int (nI (p 10)), .int (nI (p 11)), .int (nI (p 13)), .int (nI (p 14)), .int (nI (p 15)), .int (nI (p 16)), .int (nI (p 17)), .int (nI (p 12))])), (pt, .inr (5, [.int (nI (p 0)), .ref pw])), (pw, .inl (Z 0, 9, .inl (aI z))), (Ol, .inr (0, [.long (lN sc), .ref ke, .long (lN re), .ref co])), (ke, .inl (Z 1, 9, .inr (.inl (aL K)))), (co, .inl (Z 1, 9, .inr (.inl (aL C))))]) (Qc := fun zs0 => cQl D Z zs0 [(X, .inr (7, [.ref pa, .ref P, .ref ia, .ref iP, .int (nI kp), .ref T, .ref sa, .ref et, .ref Rn, .ref Ol])), (pa, .inr (2, [.ref pt, .int (nI (p 9)), .int (nI (p 10)), .int (nI (p 11)), .int (nI (p 13)), .int (nI (p 14)), .int (nI (p 15)), .int (nI (p 16)), .int (nI (p 17)), .int (nI (p 12))])), (pt, .inr (5, [.int (nI (p 0)), .ref pw])), (pw, .inl (Z 0, 9, .inl (aI z))), (Ol, .inr (0, [.long (lN sc), .ref ke, .long (lN re), .ref co])), (ke, .inl (Z 1, 9, .inr (.inl (aL K)))), (co, .inl (Z 1, 9, .inr (.inl (aL C))))] (S := Nat × Nat × (Nat → Nat) × (Nat → Nat)) (fun (r : Int64) (u : Nat × Nat × (Nat → Nat) × (Nat → Nat)) => match u with | (sc', re', K', C') => r = lsC (p 0) z (p 9) (p 10) h i wh) (fun (u : Nat × Nat × (Nat → Nat) × (Nat → Nat)) => match u with | (sc', re', K', C') => [(X, .inr (7, [.ref pa, .ref P, .ref ia, .ref iP, .int (nI kp), .ref T, .ref sa, .ref et, .ref Rn, .ref Ol])), (pa, .inr (2, [.ref pt, .int (nI (p 9)), .int (nI (p 10)), .int (nI (p 11)), .int (nI (p 13)), .int (nI (p 14)), .int (nI (p 15)), .int (nI (p 16)), .int (nI (p 17)), .int (nI (p 12))])), (pt, .inr (5, [.int (nI (p 0)), .ref pw])), (pw, .inl (Z 0, 9, .inl (aI z))), (Ol, .inr (0, [.long (lN sc'), .ref ke, .long (lN re'), .ref co])), (ke, .inl (Z 1, 9, .inr (.inl (aL K')))), (co, .inl (Z 1, 9, .inr (.inl (aL C'))))])) (cc := cX7_least) (maxL := 4) (ret := (some .long)) (by decide) rfl (Nat.le_of_ble_eq_true rfl) ?_
  intro pp ee s mm bw mt cd ls A H locs hAe hx hb hr hml hown hmn hts hlocks hA hK hw hl
  have hown : s.vm.findClass RX7 = some mm.cls := hown
  have hl : lv_has ls 4 [(0, .ref X), (1, .int h), (2, .int i), (3, .int wh)] := hl
  have wd4 := hts (.constantLong RX7 163 (-1)) (List.mem_of_getElem? (i := 4) rfl)
  have wd1 := hts (.fieldLink RX7 10 "ReplaceAges" "plan" "LReplaceAges$Plan;") (List.mem_of_getElem? (i := 1) rfl)
  have wd2 := hts (.fieldLink RX7 64 "ReplaceAges$Plan" "table" "LReplaceAges$Table;") (List.mem_of_getElem? (i := 2) rfl)
  have wd3 := hts (.fieldLink RX7 67 "ReplaceAges$Table" "n" "I") (List.mem_of_getElem? (i := 3) rfl)
  have wd5 := hts (.fieldLink RX7 59 "ReplaceAges" "outlook" "LReplaceAges$Outlook;") (List.mem_of_getElem? (i := 5) rfl)
  have wd6 := hts (.fieldLink RX7 191 "ReplaceAges$Outlook" "scale" "J") (List.mem_of_getElem? (i := 6) rfl)
  have in_X7 : ∀ w ∈ wsX70, w ∈ wsX7_least := fun _ h => List.mem_cons_of_mem _ (List.mem_append_left _ (List.mem_append_left _ (List.mem_append_left _ (List.mem_append_right _ h))))
  have in_X2 : ∀ w ∈ wsX20, w ∈ wsX7_least := fun _ h => List.mem_cons_of_mem _ (List.mem_append_left _ (List.mem_append_left _ (List.mem_append_right _ h)))
  have in_X5 : ∀ w ∈ wsX50, w ∈ wsX7_least := fun _ h => List.mem_cons_of_mem _ (List.mem_append_left _ (List.mem_append_right _ h))
  have in_X0 : ∀ w ∈ wsX00, w ∈ wsX7_least := fun _ h => List.mem_cons_of_mem _ (List.mem_append_right _ h)
  have hal : 1 ≤ lf z (p 0) 0 ∧ lf z (p 0) 0 ≤ 24 := ⟨lf_pos hzn (by omega), hs⟩
  refine lv_iload_n hx hb dX7_least_0 rfl (lv_at hl 1 rfl) ?_
  refine q_if_lt (tgt := 36) hx hb h.toInt rfl dX7_least_1 (by decide) (fun c1 => ?_) (fun c1 => ?_)
  · --
    refine lv_ldc2 hx hb hown wd4 dX7_least_36 ?_
    exact q_lret (wout := _) hx hb hr hlocks hAe hK (sc, re, K, C) hw ((if_pos (by omega)).symm) dX7_least_39
  · --
    refine lv_iload_n hx hb dX7_least_4 rfl (lv_at hl 1 rfl) ?_
    refine q_iconst (v := 5) hx hb dX7_least_5 (by decide) ?_
    refine q_icmp_gt (tgt := 36) hx hb h.toInt ((5 : Nat) : Int) rfl (nI_toInt (by omega)) dX7_least_6 (by decide) (fun c2 => ?_) (fun c2 => ?_)
    · --
      refine lv_ldc2 hx hb hown wd4 dX7_least_36 ?_
      exact q_lret (wout := _) hx hb hr hlocks hAe hK (sc, re, K, C) hw ((if_pos (by omega)).symm) dX7_least_39
    · --
      refine lv_iload_n hx hb dX7_least_9 rfl (lv_at hl 2 rfl) ?_
      refine q_if_lt (tgt := 36) hx hb i.toInt rfl dX7_least_10 (by decide) (fun c3 => ?_) (fun c3 => ?_)
      · --
        refine lv_ldc2 hx hb hown wd4 dX7_least_36 ?_
        exact q_lret (wout := _) hx hb hr hlocks hAe hK (sc, re, K, C) hw ((if_pos (by omega)).symm) dX7_least_39
      · --
        refine lv_iload_n hx hb dX7_least_13 rfl (lv_at hl 2 rfl) ?_
        refine lv_aload_n hx hb dX7_least_14 rfl (lv_at hl 0 rfl) ?_
        refine q_get (v := .ref pa) (ci := 7) hx hb hts in_X7 hown hK hw 0 0 wd1 dX7_least_15 rfl rfl (by decide) rfl ?_
        refine q_get (v := .ref pt) (ci := 2) hx hb hts in_X2 hown hK hw 1 0 wd2 dX7_least_18 rfl rfl (by decide) rfl ?_
        refine q_get (v := .int (nI (p 0))) (ci := 5) hx hb hts in_X5 hown hK hw 2 0 wd3 dX7_least_21 rfl rfl (by decide) rfl ?_
        refine q_icmp_ge (tgt := 36) hx hb i.toInt ((p 0 : Nat) : Int) rfl (nI_toInt (by omega)) dX7_least_24 (by decide) (fun c4 => ?_) (fun c4 => ?_)
        · --
          refine lv_ldc2 hx hb hown wd4 dX7_least_36 ?_
          exact q_lret (wout := _) hx hb hr hlocks hAe hK (sc, re, K, C) hw ((if_pos (by omega)).symm) dX7_least_39
        · --
          refine lv_iload_n hx hb dX7_least_27 rfl (lv_at hl 3 rfl) ?_
          refine q_if_lt (tgt := 36) hx hb wh.toInt rfl dX7_least_28 (by decide) (fun c5 => ?_) (fun c5 => ?_)
          · --
            refine lv_ldc2 hx hb hown wd4 dX7_least_36 ?_
            exact q_lret (wout := _) hx hb hr hlocks hAe hK (sc, re, K, C) hw ((if_pos (by omega)).symm) dX7_least_39
          · --
            refine lv_iload_n hx hb dX7_least_31 rfl (lv_at hl 3 rfl) ?_
            refine q_iconst (v := 2) hx hb dX7_least_32 (by decide) ?_
            refine q_icmp_le (tgt := 40) hx hb wh.toInt ((2 : Nat) : Int) rfl (nI_toInt (by omega)) dX7_least_33 (by decide) (fun c6 => ?_) (fun c6 => ?_)
            · --
              obtain ⟨x, rfl, ex⟩ := i32_nat (x := h) (by omega)
              obtain ⟨j, rfl, ej⟩ := i32_nat (x := i) (by omega)
              obtain ⟨q, rfl, eq⟩ := i32_nat (x := wh) (by omega)
              have hli := lf_anti (w := z) (n := p 0) (Nat.zero_le j)
              have hlp := lf_pos hzn (j := j) (by omega)
              have hpx : lf z (p 0) 0 ^ x ≤ 24 ^ 5 := Nat.le_trans (Nat.pow_le_pow_left hal.2 x) (Nat.pow_le_pow_right (by omega) (by omega))
              have hpp : 0 < lf z (p 0) 0 ^ x := Nat.pow_pos hal.1
              refine lv_aload_n hx hb dX7_least_40 rfl (lv_at hl 0 rfl) ?_
              refine q_get (v := .ref Ol) (ci := 7) hx hb hts in_X7 hown hK hw 0 9 wd5 dX7_least_41 rfl rfl (by decide) rfl ?_
              refine lv_aload_n hx hb dX7_least_44 rfl (lv_at hl 0 rfl) ?_
              refine q_get (v := .ref pa) (ci := 7) hx hb hts in_X7 hown hK hw 0 0 wd1 dX7_least_45 rfl rfl (by decide) rfl ?_
              refine lv_iload_n hx hb dX7_least_48 rfl (lv_at hl 1 rfl) ?_
              refine q_callv (S := Unit) (Z := Z) (D := D) (wc := [(Ol, .inr (0, [.long (lN sc), .ref ke, .long (lN re), .ref co])), (ke, .inl (Z 1, 9, .inr (.inl (aL K)))), (co, .inl (Z 1, 9, .inr (.inl (aL C)))), (pa, .inr (2, [.ref pt, .int (nI (p 9)), .int (nI (p 10)), .int (nI (p 11)), .int (nI (p 13)), .int (nI (p 14)), .int (nI (p 15)), .int (nI (p 16)), .int (nI (p 17)), .int (nI (p 12))])), (pt, .inr (5, [.int (nI (p 0)), .ref pw])), (pw, .inl (Z 0, 9, .inl (aI z)))]) (wr := [(X, .inr (7, [.ref pa, .ref P, .ref ia, .ref iP, .int (nI kp), .ref T, .ref sa, .ref et, .ref Rn, .ref Ol]))]) (rest := []) hw hA [4, 5, 6, 1, 2, 3] [0] rfl rfl rfl rfl (by decide) (fun hPc hDc => va_runV (As := [.ref pa, .int (nI x)]) (rest := []) ⟨hx, hb, hml, hown, hts⟩ (c_X0_reckon l D Z H.size Ol ke co sc re K C pa pt pw p z x hn hal h9 h10 (by omega)) (cwV 2 hts gX7_least_X0_reckon rfl rfl rfl (by decide +kernel) ⟨Nat.le_of_ble_eq_true rfl, Nat.le_of_ble_eq_true rfl⟩) ⟨fb_cPre, va_recv hK.1 hPc (ci := 0) (q0 := 0) rfl rfl, pre_of hPc hK hDc⟩ rfl rfl hl.1 rfl (lv_room (Nat.le_of_ble_eq_true rfl)) dX7_least_49 ⟨Nat.le_of_ble_eq_true rfl, Nat.le_of_ble_eq_true rfl⟩) (fun u H locs hr7 hw => ?_)
              have hw : WS D A s [(X, .inr (7, [.ref pa, .ref P, .ref ia, .ref iP, .int (nI kp), .ref T, .ref sa, .ref et, .ref Rn, .ref Ol])), (Ol, .inr (0, [.long (lN (lf z (p 0) 0 ^ x)), .ref ke, .long (lN (rT z (p 0) (p 9) (p 10) x)), .ref co])), (ke, .inl (Z 1, 9, .inr (.inl (aL (kT z (p 0) (p 9) (p 10) x))))), (co, .inl (Z 1, 9, .inr (.inl (aL (cT z (p 0) (p 9) (p 10) x))))), (pa, .inr (2, [.ref pt, .int (nI (p 9)), .int (nI (p 10)), .int (nI (p 11)), .int (nI (p 13)), .int (nI (p 14)), .int (nI (p 15)), .int (nI (p 16)), .int (nI (p 17)), .int (nI (p 12))])), (pt, .inr (5, [.int (nI (p 0)), .ref pw])), (pw, .inl (Z 0, 9, .inl (aI z)))] H locs := hw
              refine lv_iload_n hx hb dX7_least_52 rfl (lv_at hl 3 rfl) ?_
              refine q_iconst (v := 2) hx hb dX7_least_53 (by decide) ?_
              refine q_icmp_ne (tgt := 81) hx hb ((q : Nat) : Int) ((2 : Nat) : Int) (nI_toInt (by omega)) (nI_toInt (by omega)) dX7_least_54 (by decide) (fun c8 => ?_) (fun c8 => ?_)
              · --
                refine lv_aload_n hx hb dX7_least_81 rfl (lv_at hl 0 rfl) ?_
                refine q_get (v := .ref Ol) (ci := 7) hx hb hts in_X7 hown hK hw 0 9 wd5 dX7_least_82 rfl rfl (by decide) rfl ?_
                refine lv_iload_n hx hb dX7_least_85 rfl (lv_at hl 2 rfl) ?_
                refine q_calll (S := Unit) (Z := Z) (D := D) (wc := [(Ol, .inr (0, [.long (lN (lf z (p 0) 0 ^ x)), .ref ke, .long (lN (rT z (p 0) (p 9) (p 10) x)), .ref co])), (ke, .inl (Z 1, 9, .inr (.inl (aL (kT z (p 0) (p 9) (p 10) x))))), (co, .inl (Z 1, 9, .inr (.inl (aL (cT z (p 0) (p 9) (p 10) x)))))]) (wr := [(X, .inr (7, [.ref pa, .ref P, .ref ia, .ref iP, .int (nI kp), .ref T, .ref sa, .ref et, .ref Rn, .ref Ol])), (pa, .inr (2, [.ref pt, .int (nI (p 9)), .int (nI (p 10)), .int (nI (p 11)), .int (nI (p 13)), .int (nI (p 14)), .int (nI (p 15)), .int (nI (p 16)), .int (nI (p 17)), .int (nI (p 12))])), (pt, .inr (5, [.int (nI (p 0)), .ref pw])), (pw, .inl (Z 0, 9, .inl (aI z)))]) (rest := []) hw hA [1, 2, 3] [0, 4, 5, 6] rfl rfl rfl rfl (by decide) (fun hPc hDc => va_runV (As := [.int (nI j)]) (rest := []) ⟨hx, hb, hml, hown, hts⟩ (c_X0_costFrom l D Z H.size Ol ke co (lf z (p 0) 0 ^ x) (rT z (p 0) (p 9) (p 10) x) (kT z (p 0) (p 9) (p 10) x) (cT z (p 0) (p 9) (p 10) x) j (by omega)) (cwV 1 hts gX7_least_X0_costFrom rfl rfl rfl (by decide +kernel) ⟨Nat.le_of_ble_eq_true rfl, Nat.le_of_ble_eq_true rfl⟩) ⟨fb_cPre, va_recv hK.1 hPc (ci := 0) (q0 := 0) rfl rfl, pre_of hPc hK hDc⟩ rfl rfl hl.1 rfl (lv_room (Nat.le_of_ble_eq_true rfl)) dX7_least_86 ⟨Nat.le_of_ble_eq_true rfl, Nat.le_of_ble_eq_true rfl⟩) (fun r9 u H locs hr9 hw => ?_)
                subst hr9
                have hw : WS D A s [(X, .inr (7, [.ref pa, .ref P, .ref ia, .ref iP, .int (nI kp), .ref T, .ref sa, .ref et, .ref Rn, .ref Ol])), (pa, .inr (2, [.ref pt, .int (nI (p 9)), .int (nI (p 10)), .int (nI (p 11)), .int (nI (p 13)), .int (nI (p 14)), .int (nI (p 15)), .int (nI (p 16)), .int (nI (p 17)), .int (nI (p 12))])), (pt, .inr (5, [.int (nI (p 0)), .ref pw])), (pw, .inl (Z 0, 9, .inl (aI z))), (Ol, .inr (0, [.long (lN (lf z (p 0) 0 ^ x)), .ref ke, .long (lN (rT z (p 0) (p 9) (p 10) x)), .ref co])), (ke, .inl (Z 1, 9, .inr (.inl (aL (kT z (p 0) (p 9) (p 10) x))))), (co, .inl (Z 1, 9, .inr (.inl (aL (cT z (p 0) (p 9) (p 10) x)))))] H locs := hw
                refine lv_aload_n hx hb dX7_least_89 rfl (lv_at hl 0 rfl) ?_
                refine q_get (v := .ref Ol) (ci := 7) hx hb hts in_X7 hown hK hw 0 9 wd5 dX7_least_90 rfl rfl (by decide) rfl ?_
                refine q_get (v := .long (lN (lf z (p 0) 0 ^ x))) (ci := 0) hx hb hts in_X0 hown hK hw 4 0 wd6 dX7_least_93 rfl rfl (by decide) rfl ?_
                refine lv_aload_n hx hb dX7_least_96 rfl (lv_at hl 0 rfl) ?_
                refine q_get (v := .ref pa) (ci := 7) hx hb hts in_X7 hown hK hw 0 0 wd1 dX7_least_97 rfl rfl (by decide) rfl ?_
                refine q_get (v := .ref pt) (ci := 2) hx hb hts in_X2 hown hK hw 1 0 wd2 dX7_least_100 rfl rfl (by decide) rfl ?_
                refine lv_iload_n hx hb dX7_least_103 rfl (lv_at hl 2 rfl) ?_
                refine q_calli (S := Unit) (Z := Z) (D := D) (wc := [(pt, .inr (5, [.int (nI (p 0)), .ref pw])), (pw, .inl (Z 0, 9, .inl (aI z)))]) (wr := [(X, .inr (7, [.ref pa, .ref P, .ref ia, .ref iP, .int (nI kp), .ref T, .ref sa, .ref et, .ref Rn, .ref Ol])), (pa, .inr (2, [.ref pt, .int (nI (p 9)), .int (nI (p 10)), .int (nI (p 11)), .int (nI (p 13)), .int (nI (p 14)), .int (nI (p 15)), .int (nI (p 16)), .int (nI (p 17)), .int (nI (p 12))])), (Ol, .inr (0, [.long (lN (lf z (p 0) 0 ^ x)), .ref ke, .long (lN (rT z (p 0) (p 9) (p 10) x)), .ref co])), (ke, .inl (Z 1, 9, .inr (.inl (aL (kT z (p 0) (p 9) (p 10) x))))), (co, .inl (Z 1, 9, .inr (.inl (aL (cT z (p 0) (p 9) (p 10) x)))))]) (rest := [.long (lN (lf z (p 0) 0 ^ x)), .long (lN ((cT z (p 0) (p 9) (p 10) x) j))]) hw hA [2, 3] [0, 1, 4, 5, 6] rfl rfl rfl rfl (by decide) (fun hPc hDc => va_runV (As := [.int (nI j)]) (rest := [.long (lN (lf z (p 0) 0 ^ x)), .long (lN ((cT z (p 0) (p 9) (p 10) x) j))]) ⟨hx, hb, hml, hown, hts⟩ (c_X5_left l D Z H.size pt pw (p 0) z j hn.2 (by omega)) (cwV 1 hts gX7_least_X5_left rfl rfl rfl (by decide +kernel) ⟨Nat.le_of_ble_eq_true rfl, Nat.le_of_ble_eq_true rfl⟩) ⟨fb_cPre, va_recv hK.1 hPc (ci := 5) (q0 := 0) rfl rfl, pre_of hPc hK hDc⟩ rfl rfl hl.1 rfl (lv_room (Nat.le_of_ble_eq_true rfl)) dX7_least_104 ⟨Nat.le_of_ble_eq_true rfl, Nat.le_of_ble_eq_true rfl⟩) (fun r10 u H locs hr10 hw => ?_)
                subst hr10
                have hw : WS D A s [(X, .inr (7, [.ref pa, .ref P, .ref ia, .ref iP, .int (nI kp), .ref T, .ref sa, .ref et, .ref Rn, .ref Ol])), (pa, .inr (2, [.ref pt, .int (nI (p 9)), .int (nI (p 10)), .int (nI (p 11)), .int (nI (p 13)), .int (nI (p 14)), .int (nI (p 15)), .int (nI (p 16)), .int (nI (p 17)), .int (nI (p 12))])), (Ol, .inr (0, [.long (lN (lf z (p 0) 0 ^ x)), .ref ke, .long (lN (rT z (p 0) (p 9) (p 10) x)), .ref co])), (ke, .inl (Z 1, 9, .inr (.inl (aL (kT z (p 0) (p 9) (p 10) x))))), (co, .inl (Z 1, 9, .inr (.inl (aL (cT z (p 0) (p 9) (p 10) x))))), (pt, .inr (5, [.int (nI (p 0)), .ref pw])), (pw, .inl (Z 0, 9, .inl (aI z)))] H locs := hw
                refine q_i2l hx hb (by omega) dX7_least_107 ?_
                refine q_lmul hx hb dX7_least_108 ?_
                refine lv_iload_n hx hb dX7_least_109 rfl (lv_at hl 3 rfl) ?_
                have hb9 : lf z (p 0) 0 ^ x * lf z (p 0) j ≤ 24 ^ 5 * 24 := Nat.mul_le_mul hpx (by omega)
                have hb8 : 0 < lf z (p 0) 0 ^ x * lf z (p 0) j := Nat.mul_pos hpp hlp
                refine q_calll (S := Unit) (Z := Z) (D := D) (wc := []) (wr := [(X, .inr (7, [.ref pa, .ref P, .ref ia, .ref iP, .int (nI kp), .ref T, .ref sa, .ref et, .ref Rn, .ref Ol])), (pa, .inr (2, [.ref pt, .int (nI (p 9)), .int (nI (p 10)), .int (nI (p 11)), .int (nI (p 13)), .int (nI (p 14)), .int (nI (p 15)), .int (nI (p 16)), .int (nI (p 17)), .int (nI (p 12))])), (Ol, .inr (0, [.long (lN (lf z (p 0) 0 ^ x)), .ref ke, .long (lN (rT z (p 0) (p 9) (p 10) x)), .ref co])), (ke, .inl (Z 1, 9, .inr (.inl (aL (kT z (p 0) (p 9) (p 10) x))))), (co, .inl (Z 1, 9, .inr (.inl (aL (cT z (p 0) (p 9) (p 10) x))))), (pt, .inr (5, [.int (nI (p 0)), .ref pw])), (pw, .inl (Z 0, 9, .inl (aI z)))]) (rest := []) hw hA [] [0, 1, 2, 3, 4, 5, 6] rfl rfl rfl rfl (by decide) (fun hPc hDc => va_runS (As := [.long (lN ((cT z (p 0) (p 9) (p 10) x) j)), .long (lN ((lf z (p 0) 0 ^ x) * (lf z (p 0) j))), .int (nI q)]) (rest := []) ⟨hx, hb, hml, hown, hts⟩ (c_X7_lowest l D Z H.size ((cT z (p 0) (p 9) (p 10) x) j) ((lf z (p 0) 0 ^ x) * (lf z (p 0) j)) q (cT_lt hal.2 h9 (by omega)) (by omega) hb8 (by omega)) (va_cwS 3 hts gX7_least_X7_lowest rfl rfl rfl (by decide +kernel) ⟨Nat.le_of_ble_eq_true rfl, Nat.le_of_ble_eq_true rfl⟩) ⟨fb_cPre, pre_of hPc hK hDc⟩ rfl rfl hl.1 rfl (lv_room (Nat.le_of_ble_eq_true rfl)) dX7_least_110 ⟨Nat.le_of_ble_eq_true rfl, Nat.le_of_ble_eq_true rfl⟩) (fun r11 u H locs hr11 hw => ?_)
                subst hr11
                have hw : WS D A s [(X, .inr (7, [.ref pa, .ref P, .ref ia, .ref iP, .int (nI kp), .ref T, .ref sa, .ref et, .ref Rn, .ref Ol])), (pa, .inr (2, [.ref pt, .int (nI (p 9)), .int (nI (p 10)), .int (nI (p 11)), .int (nI (p 13)), .int (nI (p 14)), .int (nI (p 15)), .int (nI (p 16)), .int (nI (p 17)), .int (nI (p 12))])), (Ol, .inr (0, [.long (lN (lf z (p 0) 0 ^ x)), .ref ke, .long (lN (rT z (p 0) (p 9) (p 10) x)), .ref co])), (ke, .inl (Z 1, 9, .inr (.inl (aL (kT z (p 0) (p 9) (p 10) x))))), (co, .inl (Z 1, 9, .inr (.inl (aL (cT z (p 0) (p 9) (p 10) x))))), (pt, .inr (5, [.int (nI (p 0)), .ref pw])), (pw, .inl (Z 0, 9, .inl (aI z)))] H locs := hw
                exact q_lret (wout := _) hx hb hr hlocks hAe hK (lf z (p 0) 0 ^ x, rT z (p 0) (p 9) (p 10) x, kT z (p 0) (p 9) (p 10) x, cT z (p 0) (p 9) (p 10) x) (hw.sub [0, 1, 5, 6, 2, 3, 4] (by decide) rfl) (by unfold lsC; rw [if_neg (by omega), if_neg (by omega), tnI ex, tnI ej, tnI eq]) dX7_least_113
              · --
                refine lv_aload_n hx hb dX7_least_57 rfl (lv_at hl 0 rfl) ?_
                refine q_get (v := .ref Ol) (ci := 7) hx hb hts in_X7 hown hK hw 0 9 wd5 dX7_least_58 rfl rfl (by decide) rfl ?_
                refine lv_iload_n hx hb dX7_least_61 rfl (lv_at hl 2 rfl) ?_
                refine lv_aload_n hx hb dX7_least_62 rfl (lv_at hl 0 rfl) ?_
                refine q_get (v := .ref pa) (ci := 7) hx hb hts in_X7 hown hK hw 0 0 wd1 dX7_least_63 rfl rfl (by decide) rfl ?_
                refine q_get (v := .ref pt) (ci := 2) hx hb hts in_X2 hown hK hw 4 0 wd2 dX7_least_66 rfl rfl (by decide) rfl ?_
                refine q_calli (S := Unit) (Z := Z) (D := D) (wc := [(Ol, .inr (0, [.long (lN (lf z (p 0) 0 ^ x)), .ref ke, .long (lN (rT z (p 0) (p 9) (p 10) x)), .ref co])), (ke, .inl (Z 1, 9, .inr (.inl (aL (kT z (p 0) (p 9) (p 10) x))))), (co, .inl (Z 1, 9, .inr (.inl (aL (cT z (p 0) (p 9) (p 10) x))))), (pt, .inr (5, [.int (nI (p 0)), .ref pw])), (pw, .inl (Z 0, 9, .inl (aI z)))]) (wr := [(X, .inr (7, [.ref pa, .ref P, .ref ia, .ref iP, .int (nI kp), .ref T, .ref sa, .ref et, .ref Rn, .ref Ol])), (pa, .inr (2, [.ref pt, .int (nI (p 9)), .int (nI (p 10)), .int (nI (p 11)), .int (nI (p 13)), .int (nI (p 14)), .int (nI (p 15)), .int (nI (p 16)), .int (nI (p 17)), .int (nI (p 12))]))]) (rest := []) hw hA [1, 2, 3, 5, 6] [0, 4] rfl rfl rfl rfl (by decide) (fun hPc hDc => va_runV (As := [.int (nI j), .ref pt]) (rest := []) ⟨hx, hb, hml, hown, hts⟩ (c_X0_isBetter l D Z H.size Ol ke co (lf z (p 0) 0 ^ x) (rT z (p 0) (p 9) (p 10) x) (kT z (p 0) (p 9) (p 10) x) (cT z (p 0) (p 9) (p 10) x) pt pw (p 0) z j hn.2 hs (by omega) (rT_le hn.2 hal.2 h9 h10 (by omega)) (kT_le hn.2 hal.2 h9 h10 (by omega) j)) (cwV 2 hts gX7_least_X0_isBetter rfl rfl rfl (by decide +kernel) ⟨Nat.le_of_ble_eq_true rfl, Nat.le_of_ble_eq_true rfl⟩) ⟨fb_cPre, va_recv hK.1 hPc (ci := 0) (q0 := 0) rfl rfl, pre_of hPc hK hDc⟩ rfl rfl hl.1 rfl (lv_room (Nat.le_of_ble_eq_true rfl)) dX7_least_69 ⟨Nat.le_of_ble_eq_true rfl, Nat.le_of_ble_eq_true rfl⟩) (fun r12 u H locs hr12 hw => ?_)
                subst hr12
                have hw : WS D A s [(X, .inr (7, [.ref pa, .ref P, .ref ia, .ref iP, .int (nI kp), .ref T, .ref sa, .ref et, .ref Rn, .ref Ol])), (pa, .inr (2, [.ref pt, .int (nI (p 9)), .int (nI (p 10)), .int (nI (p 11)), .int (nI (p 13)), .int (nI (p 14)), .int (nI (p 15)), .int (nI (p 16)), .int (nI (p 17)), .int (nI (p 12))])), (Ol, .inr (0, [.long (lN (lf z (p 0) 0 ^ x)), .ref ke, .long (lN (rT z (p 0) (p 9) (p 10) x)), .ref co])), (ke, .inl (Z 1, 9, .inr (.inl (aL (kT z (p 0) (p 9) (p 10) x))))), (co, .inl (Z 1, 9, .inr (.inl (aL (cT z (p 0) (p 9) (p 10) x))))), (pt, .inr (5, [.int (nI (p 0)), .ref pw])), (pw, .inl (Z 0, 9, .inl (aI z)))] H locs := hw
                refine q_if_eq (tgt := 79) hx hb ((bb (lf z (p 0) j * (rT z (p 0) (p 9) (p 10) x) < (kT z (p 0) (p 9) (p 10) x) j) : Nat) : Int) (nI_toInt (Nat.lt_of_le_of_lt (bb_le _) (by decide))) dX7_least_72 (by decide) (fun c13 => ?_) (fun c13 => ?_)
                · --
                  have c13 := bb_0 c13
                  refine q_lconst (v := 0) hx hb dX7_least_79 (by decide) ?_
                  exact q_lret (wout := _) hx hb hr hlocks hAe hK (lf z (p 0) 0 ^ x, rT z (p 0) (p 9) (p 10) x, kT z (p 0) (p 9) (p 10) x, cT z (p 0) (p 9) (p 10) x) (hw.sub [0, 1, 5, 6, 2, 3, 4] (by decide) rfl) (by unfold lsC; rw [if_neg (by omega), if_pos (by omega), tnI ex, tnI ej]; first | exact congrArg lN (bb_t (by assumption)).symm | exact congrArg lN (bb_f (by assumption)).symm) dX7_least_80
                · --
                  have c13 := bb_1 c13
                  refine q_lconst (v := 1) hx hb dX7_least_75 (by decide) ?_
                  refine lv_goto (tgt := 80) hx hb dX7_least_76 (by decide) ?_
                  exact q_lret (wout := _) hx hb hr hlocks hAe hK (lf z (p 0) 0 ^ x, rT z (p 0) (p 9) (p 10) x, kT z (p 0) (p 9) (p 10) x, cT z (p 0) (p 9) (p 10) x) (hw.sub [0, 1, 5, 6, 2, 3, 4] (by decide) rfl) (by unfold lsC; rw [if_neg (by omega), if_pos (by omega), tnI ex, tnI ej]; first | exact congrArg lN (bb_t (by assumption)).symm | exact congrArg lN (bb_f (by assumption)).symm) dX7_least_80
            · --
              refine lv_ldc2 hx hb hown wd4 dX7_least_36 ?_
              exact q_lret (wout := _) hx hb hr hlocks hAe hK (sc, re, K, C) hw ((if_pos (by omega)).symm) dX7_least_39
set_option maxHeartbeats 4000000 in
set_option maxRecDepth 100000 in
theorem c_X7_pair (l : Launch) (D : va_G) (Z : Nat → ClassId) (zs0 : Nat) (X pa P ia iP kp T sa et Rn Ol : Nat) (pt pw : Nat) (p z : Nat → Nat) (g h wh : Int32) (hn : 1 ≤ p 0 ∧ p 0 ≤ 8) (hs : lf z (p 0) 0 ≤ 24) (hzn : 0 < z (p 0)) (h9 : p 9 ≤ 99) (h10 : p 10 ≤ 99) : cMl l yX7_pair wsX7_pair (rmd 10) D Z zs0 [.ref X, .int g, .int h, .int wh] [(X, .inr (7, [.ref pa, .ref P, .ref ia, .ref iP, .int (nI kp), .ref T, .ref sa, .ref et, .ref Rn, .ref Ol])), (pa, .inr (2, [.ref pt, .int (nI (p 9)), .int (nI (p 10)), .int (nI (p 11)), .int (nI (p 13)), .int (nI (p 14)), .int (nI (p 15)), .int (nI (p 16)), .int (nI (p 17)), .int (nI (p 12))])), (pt, .inr (5, [.int (nI (p 0)), .ref pw])), (pw, .inl (Z 0, 9, .inl (aI z)))] (S := Unit) (fun (r : Int64) => fun (_ : Unit) => r = prC (p 0) z (p 9) (p 10) g h wh) (fun (_ : Unit) => [(X, .inr (7, [.ref pa, .ref P, .ref ia, .ref iP, .int (nI kp), .ref T, .ref sa, .ref et, .ref Rn, .ref Ol])), (pa, .inr (2, [.ref pt, .int (nI (p 9)), .int (nI (p 10)), .int (nI (p 11)), .int (nI (p 13)), .int (nI (p 14)), .int (nI (p 15)), .int (nI (p 16)), .int (nI (p 17)), .int (nI (p 12))])), (pt, .inr (5, [.int (nI (p 0)), .ref pw])), (pw, .inl (Z 0, 9, .inl (aI z)))]) 0 0 := by
  refine q_open (y := yX7_pair) (ws := wsX7_pair) (av := [.ref X, .int g, .int h, .int wh]) (win := [(X, .inr (7, [.ref pa, .ref P, .ref ia, .ref iP, .int (nI kp), .ref T, .ref sa, .ref et, .ref Rn, .ref Ol])), (pa, .inr (2, [.ref pt, .int (nI (p 9)), .int (nI (p 10)), .int (nI (p 11)), .int (nI (p 13)), .int (nI (p 14)), .int (nI (p 15)), .int (nI (p 16)), .int (nI (p 17)), .int (nI (p 12))])), (pt, .inr (5, [.int (nI (p 0)), .ref pw])), (pw, .inl (Z 0, 9, .inl (aI z)))]) (Qc := fun zs0 => cQl D Z zs0 [(X, .inr (7, [.ref pa, .ref P, .ref ia, .ref iP, .int (nI kp), .ref T, .ref sa, .ref et, .ref Rn, .ref Ol])), (pa, .inr (2, [.ref pt, .int (nI (p 9)), .int (nI (p 10)), .int (nI (p 11)), .int (nI (p 13)), .int (nI (p 14)), .int (nI (p 15)), .int (nI (p 16)), .int (nI (p 17)), .int (nI (p 12))])), (pt, .inr (5, [.int (nI (p 0)), .ref pw])), (pw, .inl (Z 0, 9, .inl (aI z)))] (S := Unit) (fun (r : Int64) => fun (_ : Unit) => r = prC (p 0) z (p 9) (p 10) g h wh) (fun (_ : Unit) => [(X, .inr (7, [.ref pa, .ref P, .ref ia, .ref iP, .int (nI kp), .ref T, .ref sa, .ref et, .ref Rn, .ref Ol])), (pa, .inr (2, [.ref pt, .int (nI (p 9)), .int (nI (p 10)), .int (nI (p 11)), .int (nI (p 13)), .int (nI (p 14)), .int (nI (p 15)), .int (nI (p 16)), .int (nI (p 17)), .int (nI (p 12))])), (pt, .inr (5, [.int (nI (p 0)), .ref pw])), (pw, .inl (Z 0, 9, .inl (aI z)))])) (cc := cX7_pair) (maxL := 7) (ret := (some .long)) (by decide) rfl (Nat.le_of_ble_eq_true rfl) ?_
  intro pp ee s mm bw mt cd ls A H locs hAe hx hb hr hml hown hmn hts hlocks hA hK hw hl
  have hown : s.vm.findClass RX7 = some mm.cls := hown
  have hl : lv_has ls 7 [(0, .ref X), (1, .int g), (2, .int h), (3, .int wh)] := hl
  have wd1 := hts (.fieldLink RX7 10 "ReplaceAges" "plan" "LReplaceAges$Plan;") (List.mem_of_getElem? (i := 1) rfl)
  have wd2 := hts (.fieldLink RX7 64 "ReplaceAges$Plan" "table" "LReplaceAges$Table;") (List.mem_of_getElem? (i := 2) rfl)
  have wd4 := hts (.constantLong RX7 163 (-1)) (List.mem_of_getElem? (i := 4) rfl)
  have wd3 := hts (.fieldLink RX7 67 "ReplaceAges$Table" "n" "I") (List.mem_of_getElem? (i := 3) rfl)
  have in_X7 : ∀ w ∈ wsX70, w ∈ wsX7_pair := fun _ h => List.mem_cons_of_mem _ (List.mem_append_left _ (List.mem_append_left _ (List.mem_append_right _ h)))
  have in_X2 : ∀ w ∈ wsX20, w ∈ wsX7_pair := fun _ h => List.mem_cons_of_mem _ (List.mem_append_left _ (List.mem_append_right _ h))
  have in_X5 : ∀ w ∈ wsX50, w ∈ wsX7_pair := fun _ h => List.mem_cons_of_mem _ (List.mem_append_right _ h)
  have hal : 1 ≤ lf z (p 0) 0 ∧ lf z (p 0) 0 ≤ 24 := ⟨lf_pos hzn (by omega), hs⟩
  refine lv_aload_n hx hb dX7_pair_0 rfl (lv_at hl 0 rfl) ?_
  refine q_get (v := .ref pa) (ci := 7) hx hb hts in_X7 hown hK hw 0 0 wd1 dX7_pair_1 rfl rfl (by decide) rfl ?_
  refine q_get (v := .ref pt) (ci := 2) hx hb hts in_X2 hown hK hw 1 0 wd2 dX7_pair_4 rfl rfl (by decide) rfl ?_
  refine lv_astore (lv' := [(4, .ref pt), (0, .ref X), (1, .int g), (2, .int h), (3, .int wh)]) hx hb dX7_pair_7 hl (by decide) rfl (fun ls hl => ?_)
  refine lv_iload_n hx hb dX7_pair_9 rfl (lv_at hl 2 rfl) ?_
  refine q_iconst (v := 1) hx hb dX7_pair_10 (by decide) ?_
  refine q_icmp_lt (tgt := 39) hx hb g.toInt ((1 : Nat) : Int) rfl (nI_toInt (by omega)) dX7_pair_11 (by decide) (fun c1 => ?_) (fun c1 => ?_)
  · --
    refine lv_ldc2 hx hb hown wd4 dX7_pair_39 ?_
    exact q_lret (wout := _) hx hb hr hlocks hAe hK () hw (by first | exact (if_pos (by omega)).symm | (unfold prC; rw [if_neg (by omega), tnI egg, tnI ex, tnI eq])) dX7_pair_42
  · --
    refine lv_iload_n hx hb dX7_pair_14 rfl (lv_at hl 2 rfl) ?_
    refine lv_aload hx hb dX7_pair_15 (lv_at hl 0 rfl) ?_
    refine q_get (v := .int (nI (p 0))) (ci := 5) hx hb hts in_X5 hown hK hw 2 0 wd3 dX7_pair_17 rfl rfl (by decide) rfl ?_
    refine q_icmp_gt (tgt := 39) hx hb g.toInt ((p 0 : Nat) : Int) rfl (nI_toInt (by omega)) dX7_pair_20 (by decide) (fun c2 => ?_) (fun c2 => ?_)
    · --
      refine lv_ldc2 hx hb hown wd4 dX7_pair_39 ?_
      exact q_lret (wout := _) hx hb hr hlocks hAe hK () hw (by first | exact (if_pos (by omega)).symm | (unfold prC; rw [if_neg (by omega), tnI egg, tnI ex, tnI eq])) dX7_pair_42
    · --
      refine lv_iload_n hx hb dX7_pair_23 rfl (lv_at hl 3 rfl) ?_
      refine q_if_lt (tgt := 39) hx hb h.toInt rfl dX7_pair_24 (by decide) (fun c3 => ?_) (fun c3 => ?_)
      · --
        refine lv_ldc2 hx hb hown wd4 dX7_pair_39 ?_
        exact q_lret (wout := _) hx hb hr hlocks hAe hK () hw (by first | exact (if_pos (by omega)).symm | (unfold prC; rw [if_neg (by omega), tnI egg, tnI ex, tnI eq])) dX7_pair_42
      · --
        refine lv_iload_n hx hb dX7_pair_27 rfl (lv_at hl 3 rfl) ?_
        refine q_iconst (v := 3) hx hb dX7_pair_28 (by decide) ?_
        refine q_icmp_gt (tgt := 39) hx hb h.toInt ((3 : Nat) : Int) rfl (nI_toInt (by omega)) dX7_pair_29 (by decide) (fun c4 => ?_) (fun c4 => ?_)
        · --
          refine lv_ldc2 hx hb hown wd4 dX7_pair_39 ?_
          exact q_lret (wout := _) hx hb hr hlocks hAe hK () hw (by first | exact (if_pos (by omega)).symm | (unfold prC; rw [if_neg (by omega), tnI egg, tnI ex, tnI eq])) dX7_pair_42
        · --
          refine lv_iload_n hx hb dX7_pair_32 rfl (lv_at hl 4 rfl) ?_
          refine q_calli (S := Unit) (Z := Z) (D := D) (wc := []) (wr := [(X, .inr (7, [.ref pa, .ref P, .ref ia, .ref iP, .int (nI kp), .ref T, .ref sa, .ref et, .ref Rn, .ref Ol])), (pa, .inr (2, [.ref pt, .int (nI (p 9)), .int (nI (p 10)), .int (nI (p 11)), .int (nI (p 13)), .int (nI (p 14)), .int (nI (p 15)), .int (nI (p 16)), .int (nI (p 17)), .int (nI (p 12))])), (pt, .inr (5, [.int (nI (p 0)), .ref pw])), (pw, .inl (Z 0, 9, .inl (aI z)))]) (rest := []) hw hA [] [0, 1, 2, 3] rfl rfl rfl rfl (by decide) (fun hPc hDc => va_runS (As := [.int wh]) (rest := []) ⟨hx, hb, hml, hown, hts⟩ (c_X7_isNoSide l D Z H.size wh ) (va_cwS 1 hts gX7_pair_X7_isNoSide rfl rfl rfl (by decide +kernel) ⟨Nat.le_of_ble_eq_true rfl, Nat.le_of_ble_eq_true rfl⟩) ⟨fb_cPre, pre_of hPc hK hDc⟩ rfl rfl hl.1 rfl (lv_room (Nat.le_of_ble_eq_true rfl)) dX7_pair_33 ⟨Nat.le_of_ble_eq_true rfl, Nat.le_of_ble_eq_true rfl⟩) (fun r5 u H locs hr5 hw => ?_)
          subst hr5
          have hw : WS D A s [(X, .inr (7, [.ref pa, .ref P, .ref ia, .ref iP, .int (nI kp), .ref T, .ref sa, .ref et, .ref Rn, .ref Ol])), (pa, .inr (2, [.ref pt, .int (nI (p 9)), .int (nI (p 10)), .int (nI (p 11)), .int (nI (p 13)), .int (nI (p 14)), .int (nI (p 15)), .int (nI (p 16)), .int (nI (p 17)), .int (nI (p 12))])), (pt, .inr (5, [.int (nI (p 0)), .ref pw])), (pw, .inl (Z 0, 9, .inl (aI z)))] H locs := hw
          refine q_if_eq (tgt := 43) hx hb ((bb (wh.toInt ≠ 0 ∧ wh.toInt ≠ 1) : Nat) : Int) (nI_toInt (Nat.lt_of_le_of_lt (bb_le _) (by decide))) dX7_pair_36 (by decide) (fun c6 => ?_) (fun c6 => ?_)
          · --
            have c6 := bb_0 c6
            obtain ⟨gg, rfl, egg⟩ := i32_nat (x := g) (by omega)
            obtain ⟨x, rfl, ex⟩ := i32_nat (x := h) (by omega)
            obtain ⟨q, rfl, eq⟩ := i32_nat (x := wh) (by omega)
            refine lv_aload hx hb dX7_pair_43 (lv_at hl 0 rfl) ?_
            rcases (show x = 0 ∨ x = 1 ∨ x = 2 ∨ x = 3 by omega) with rfl | rfl | rfl | rfl
            · --
              refine q_calli (S := Unit) (Z := Z) (D := D) (wc := [(pt, .inr (5, [.int (nI (p 0)), .ref pw])), (pw, .inl (Z 0, 9, .inl (aI z)))]) (wr := [(X, .inr (7, [.ref pa, .ref P, .ref ia, .ref iP, .int (nI kp), .ref T, .ref sa, .ref et, .ref Rn, .ref Ol])), (pa, .inr (2, [.ref pt, .int (nI (p 9)), .int (nI (p 10)), .int (nI (p 11)), .int (nI (p 13)), .int (nI (p 14)), .int (nI (p 15)), .int (nI (p 16)), .int (nI (p 17)), .int (nI (p 12))]))]) (rest := []) hw hA [2, 3] [0, 1] rfl rfl rfl rfl (by decide) (fun hPc hDc => va_runV (As := []) (rest := []) ⟨hx, hb, hml, hown, hts⟩ (c_X5_all l D Z H.size pt pw (p 0) z hn.2) (cwV 0 hts gX7_pair_X5_all rfl rfl rfl (by decide +kernel) ⟨Nat.le_of_ble_eq_true rfl, Nat.le_of_ble_eq_true rfl⟩) ⟨fb_cPre, va_recv hK.1 hPc (ci := 5) (q0 := 0) rfl rfl, pre_of hPc hK hDc⟩ rfl rfl hl.1 rfl (lv_room (Nat.le_of_ble_eq_true rfl)) dX7_pair_45 ⟨Nat.le_of_ble_eq_true rfl, Nat.le_of_ble_eq_true rfl⟩) (fun r7 u H locs hr7 hw => ?_)
              subst hr7
              have hw : WS D A s [(X, .inr (7, [.ref pa, .ref P, .ref ia, .ref iP, .int (nI kp), .ref T, .ref sa, .ref et, .ref Rn, .ref Ol])), (pa, .inr (2, [.ref pt, .int (nI (p 9)), .int (nI (p 10)), .int (nI (p 11)), .int (nI (p 13)), .int (nI (p 14)), .int (nI (p 15)), .int (nI (p 16)), .int (nI (p 17)), .int (nI (p 12))])), (pt, .inr (5, [.int (nI (p 0)), .ref pw])), (pw, .inl (Z 0, 9, .inl (aI z)))] H locs := hw
              refine q_i2l hx hb (by omega) dX7_pair_48 ?_
              refine lv_lstore (lv' := [(5, .long (lN (lf z (p 0) 0))), (4, .ref pt), (0, .ref X), (1, .int (nI gg)), (2, .int (nI 0)), (3, .int (nI q))]) hx hb dX7_pair_49 hl (by decide) rfl (fun ls hl => ?_)
              refine lv_aload_n hx hb dX7_pair_51 rfl (lv_at hl 2 rfl) ?_
              refine q_get (v := .ref pa) (ci := 7) hx hb hts in_X7 hown hK hw 0 0 wd1 dX7_pair_52 rfl rfl (by decide) rfl ?_
              refine lv_iload_n hx hb dX7_pair_55 rfl (lv_at hl 3 rfl) ?_
              refine lv_iload_n hx hb dX7_pair_56 rfl (lv_at hl 4 rfl) ?_
              refine q_iconst (v := 0) hx hb dX7_pair_57 (by decide) ?_
              refine q_iconst (v := 0) hx hb dX7_pair_58 (by decide) ?_
              refine q_calll (S := Unit) (Z := Z) (D := D) (wc := [(pa, .inr (2, [.ref pt, .int (nI (p 9)), .int (nI (p 10)), .int (nI (p 11)), .int (nI (p 13)), .int (nI (p 14)), .int (nI (p 15)), .int (nI (p 16)), .int (nI (p 17)), .int (nI (p 12))])), (pt, .inr (5, [.int (nI (p 0)), .ref pw])), (pw, .inl (Z 0, 9, .inl (aI z)))]) (wr := [(X, .inr (7, [.ref pa, .ref P, .ref ia, .ref iP, .int (nI kp), .ref T, .ref sa, .ref et, .ref Rn, .ref Ol]))]) (rest := []) hw hA [1, 2, 3] [0] rfl rfl rfl rfl (by decide) (fun hPc hDc => va_runS (As := [.ref pa, .int (nI gg), .int (nI 0), .int (nI 0), .int (nI 0)]) (rest := []) ⟨hx, hb, hml, hown, hts⟩ (c_pc0 l D Z H.size pa pt pw p z gg 0 0 hn hal h9 h10 (by omega) (by omega) (by omega)) (va_cwS 5 hts gX7_pair_X7_pairCost rfl rfl rfl (by decide +kernel) ⟨Nat.le_of_ble_eq_true rfl, Nat.le_of_ble_eq_true rfl⟩) ⟨fb_cPre, pre_of hPc hK hDc⟩ rfl rfl hl.1 rfl (lv_room (Nat.le_of_ble_eq_true rfl)) dX7_pair_59 ⟨Nat.le_of_ble_eq_true rfl, Nat.le_of_ble_eq_true rfl⟩) (fun r8 u H locs hr8 hw => ?_)
              subst hr8
              have hw : WS D A s [(X, .inr (7, [.ref pa, .ref P, .ref ia, .ref iP, .int (nI kp), .ref T, .ref sa, .ref et, .ref Rn, .ref Ol])), (pa, .inr (2, [.ref pt, .int (nI (p 9)), .int (nI (p 10)), .int (nI (p 11)), .int (nI (p 13)), .int (nI (p 14)), .int (nI (p 15)), .int (nI (p 16)), .int (nI (p 17)), .int (nI (p 12))])), (pt, .inr (5, [.int (nI (p 0)), .ref pw])), (pw, .inl (Z 0, 9, .inl (aI z)))] H locs := hw
              refine lv_lload hx hb dX7_pair_62 (lv_at hl 0 rfl) ?_
              refine q_iconst (v := 2) hx hb dX7_pair_64 (by decide) ?_
              refine lv_iload_n hx hb dX7_pair_65 rfl (lv_at hl 4 rfl) ?_
              refine q_imul hx hb dX7_pair_66 ?_
              refine q_iconst (v := 2) hx hb dX7_pair_67 (by decide) ?_
              refine q_iadd hx hb dX7_pair_68 ?_
              refine q_calll (S := Unit) (Z := Z) (D := D) (wc := []) (wr := [(X, .inr (7, [.ref pa, .ref P, .ref ia, .ref iP, .int (nI kp), .ref T, .ref sa, .ref et, .ref Rn, .ref Ol])), (pa, .inr (2, [.ref pt, .int (nI (p 9)), .int (nI (p 10)), .int (nI (p 11)), .int (nI (p 13)), .int (nI (p 14)), .int (nI (p 15)), .int (nI (p 16)), .int (nI (p 17)), .int (nI (p 12))])), (pt, .inr (5, [.int (nI (p 0)), .ref pw])), (pw, .inl (Z 0, 9, .inl (aI z)))]) (rest := [.long (lN (pcs z (p 0) (p 9) (p 10) gg 0 0 0))]) hw hA [] [0, 1, 2, 3] rfl rfl rfl rfl (by decide) (fun hPc hDc => va_runS (As := [.long (lN (lf z (p 0) 0)), .int (nI 2)]) (rest := [.long (lN (pcs z (p 0) (p 9) (p 10) gg 0 0 0))]) ⟨hx, hb, hml, hown, hts⟩ (c_X7_power l D Z H.size (lf z (p 0) 0) 2 (by first | assumption | omega)) (va_cwS 2 hts gX7_pair_X7_power rfl rfl rfl (by decide +kernel) ⟨Nat.le_of_ble_eq_true rfl, Nat.le_of_ble_eq_true rfl⟩) ⟨fb_cPre, pre_of hPc hK hDc⟩ rfl rfl hl.1 rfl (lv_room (Nat.le_of_ble_eq_true rfl)) dX7_pair_69 ⟨Nat.le_of_ble_eq_true rfl, Nat.le_of_ble_eq_true rfl⟩) (fun r9 u H locs hr9 hw => ?_)
              subst hr9
              have hw : WS D A s [(X, .inr (7, [.ref pa, .ref P, .ref ia, .ref iP, .int (nI kp), .ref T, .ref sa, .ref et, .ref Rn, .ref Ol])), (pa, .inr (2, [.ref pt, .int (nI (p 9)), .int (nI (p 10)), .int (nI (p 11)), .int (nI (p 13)), .int (nI (p 14)), .int (nI (p 15)), .int (nI (p 16)), .int (nI (p 17)), .int (nI (p 12))])), (pt, .inr (5, [.int (nI (p 0)), .ref pw])), (pw, .inl (Z 0, 9, .inl (aI z)))] H locs := hw
              refine lv_iload_n hx hb dX7_pair_72 rfl (lv_at hl 5 rfl) ?_
              refine q_calll (S := Unit) (Z := Z) (D := D) (wc := []) (wr := [(X, .inr (7, [.ref pa, .ref P, .ref ia, .ref iP, .int (nI kp), .ref T, .ref sa, .ref et, .ref Rn, .ref Ol])), (pa, .inr (2, [.ref pt, .int (nI (p 9)), .int (nI (p 10)), .int (nI (p 11)), .int (nI (p 13)), .int (nI (p 14)), .int (nI (p 15)), .int (nI (p 16)), .int (nI (p 17)), .int (nI (p 12))])), (pt, .inr (5, [.int (nI (p 0)), .ref pw])), (pw, .inl (Z 0, 9, .inl (aI z)))]) (rest := []) hw hA [] [0, 1, 2, 3] rfl rfl rfl rfl (by decide) (fun hPc hDc => va_runS (As := [.long (lN (pcs z (p 0) (p 9) (p 10) gg 0 0 0)), .long (lN ((lf z (p 0) 0) ^ 2)), .int (nI q)]) (rest := []) ⟨hx, hb, hml, hown, hts⟩ (c_X7_lowest l D Z H.size (pcs z (p 0) (p 9) (p 10) gg 0 0 0) ((lf z (p 0) 0) ^ 2) q (pcs_lt hal.2 h9 h10 (by omega)) (Nat.lt_of_le_of_lt (Nat.pow_le_pow_left hal.2 _) (by decide)) (Nat.pow_pos hal.1) (by omega)) (va_cwS 3 hts gX7_pair_X7_lowest rfl rfl rfl (by decide +kernel) ⟨Nat.le_of_ble_eq_true rfl, Nat.le_of_ble_eq_true rfl⟩) ⟨fb_cPre, pre_of hPc hK hDc⟩ rfl rfl hl.1 rfl (lv_room (Nat.le_of_ble_eq_true rfl)) dX7_pair_73 ⟨Nat.le_of_ble_eq_true rfl, Nat.le_of_ble_eq_true rfl⟩) (fun r10 u H locs hr10 hw => ?_)
              subst hr10
              have hw : WS D A s [(X, .inr (7, [.ref pa, .ref P, .ref ia, .ref iP, .int (nI kp), .ref T, .ref sa, .ref et, .ref Rn, .ref Ol])), (pa, .inr (2, [.ref pt, .int (nI (p 9)), .int (nI (p 10)), .int (nI (p 11)), .int (nI (p 13)), .int (nI (p 14)), .int (nI (p 15)), .int (nI (p 16)), .int (nI (p 17)), .int (nI (p 12))])), (pt, .inr (5, [.int (nI (p 0)), .ref pw])), (pw, .inl (Z 0, 9, .inl (aI z)))] H locs := hw
              exact q_lret (wout := _) hx hb hr hlocks hAe hK () hw (by first | exact (if_pos (by omega)).symm | (unfold prC; rw [if_neg (by omega), tnI egg, tnI ex, tnI eq])) dX7_pair_76
            · --
              refine q_calli (S := Unit) (Z := Z) (D := D) (wc := [(pt, .inr (5, [.int (nI (p 0)), .ref pw])), (pw, .inl (Z 0, 9, .inl (aI z)))]) (wr := [(X, .inr (7, [.ref pa, .ref P, .ref ia, .ref iP, .int (nI kp), .ref T, .ref sa, .ref et, .ref Rn, .ref Ol])), (pa, .inr (2, [.ref pt, .int (nI (p 9)), .int (nI (p 10)), .int (nI (p 11)), .int (nI (p 13)), .int (nI (p 14)), .int (nI (p 15)), .int (nI (p 16)), .int (nI (p 17)), .int (nI (p 12))]))]) (rest := []) hw hA [2, 3] [0, 1] rfl rfl rfl rfl (by decide) (fun hPc hDc => va_runV (As := []) (rest := []) ⟨hx, hb, hml, hown, hts⟩ (c_X5_all l D Z H.size pt pw (p 0) z hn.2) (cwV 0 hts gX7_pair_X5_all rfl rfl rfl (by decide +kernel) ⟨Nat.le_of_ble_eq_true rfl, Nat.le_of_ble_eq_true rfl⟩) ⟨fb_cPre, va_recv hK.1 hPc (ci := 5) (q0 := 0) rfl rfl, pre_of hPc hK hDc⟩ rfl rfl hl.1 rfl (lv_room (Nat.le_of_ble_eq_true rfl)) dX7_pair_45 ⟨Nat.le_of_ble_eq_true rfl, Nat.le_of_ble_eq_true rfl⟩) (fun r11 u H locs hr11 hw => ?_)
              subst hr11
              have hw : WS D A s [(X, .inr (7, [.ref pa, .ref P, .ref ia, .ref iP, .int (nI kp), .ref T, .ref sa, .ref et, .ref Rn, .ref Ol])), (pa, .inr (2, [.ref pt, .int (nI (p 9)), .int (nI (p 10)), .int (nI (p 11)), .int (nI (p 13)), .int (nI (p 14)), .int (nI (p 15)), .int (nI (p 16)), .int (nI (p 17)), .int (nI (p 12))])), (pt, .inr (5, [.int (nI (p 0)), .ref pw])), (pw, .inl (Z 0, 9, .inl (aI z)))] H locs := hw
              refine q_i2l hx hb (by omega) dX7_pair_48 ?_
              refine lv_lstore (lv' := [(5, .long (lN (lf z (p 0) 0))), (4, .ref pt), (0, .ref X), (1, .int (nI gg)), (2, .int (nI 1)), (3, .int (nI q))]) hx hb dX7_pair_49 hl (by decide) rfl (fun ls hl => ?_)
              refine lv_aload_n hx hb dX7_pair_51 rfl (lv_at hl 2 rfl) ?_
              refine q_get (v := .ref pa) (ci := 7) hx hb hts in_X7 hown hK hw 0 0 wd1 dX7_pair_52 rfl rfl (by decide) rfl ?_
              refine lv_iload_n hx hb dX7_pair_55 rfl (lv_at hl 3 rfl) ?_
              refine lv_iload_n hx hb dX7_pair_56 rfl (lv_at hl 4 rfl) ?_
              refine q_iconst (v := 0) hx hb dX7_pair_57 (by decide) ?_
              refine q_iconst (v := 0) hx hb dX7_pair_58 (by decide) ?_
              refine q_calll (S := Unit) (Z := Z) (D := D) (wc := [(pa, .inr (2, [.ref pt, .int (nI (p 9)), .int (nI (p 10)), .int (nI (p 11)), .int (nI (p 13)), .int (nI (p 14)), .int (nI (p 15)), .int (nI (p 16)), .int (nI (p 17)), .int (nI (p 12))])), (pt, .inr (5, [.int (nI (p 0)), .ref pw])), (pw, .inl (Z 0, 9, .inl (aI z)))]) (wr := [(X, .inr (7, [.ref pa, .ref P, .ref ia, .ref iP, .int (nI kp), .ref T, .ref sa, .ref et, .ref Rn, .ref Ol]))]) (rest := []) hw hA [1, 2, 3] [0] rfl rfl rfl rfl (by decide) (fun hPc hDc => va_runS (As := [.ref pa, .int (nI gg), .int (nI 1), .int (nI 0), .int (nI 0)]) (rest := []) ⟨hx, hb, hml, hown, hts⟩ (c_pc1 l D Z H.size pa pt pw p z gg 0 0 hn hal h9 h10 (by omega) (by omega) (by omega)) (va_cwS 5 hts gX7_pair_X7_pairCost rfl rfl rfl (by decide +kernel) ⟨Nat.le_of_ble_eq_true rfl, Nat.le_of_ble_eq_true rfl⟩) ⟨fb_cPre, pre_of hPc hK hDc⟩ rfl rfl hl.1 rfl (lv_room (Nat.le_of_ble_eq_true rfl)) dX7_pair_59 ⟨Nat.le_of_ble_eq_true rfl, Nat.le_of_ble_eq_true rfl⟩) (fun r12 u H locs hr12 hw => ?_)
              subst hr12
              have hw : WS D A s [(X, .inr (7, [.ref pa, .ref P, .ref ia, .ref iP, .int (nI kp), .ref T, .ref sa, .ref et, .ref Rn, .ref Ol])), (pa, .inr (2, [.ref pt, .int (nI (p 9)), .int (nI (p 10)), .int (nI (p 11)), .int (nI (p 13)), .int (nI (p 14)), .int (nI (p 15)), .int (nI (p 16)), .int (nI (p 17)), .int (nI (p 12))])), (pt, .inr (5, [.int (nI (p 0)), .ref pw])), (pw, .inl (Z 0, 9, .inl (aI z)))] H locs := hw
              refine lv_lload hx hb dX7_pair_62 (lv_at hl 0 rfl) ?_
              refine q_iconst (v := 2) hx hb dX7_pair_64 (by decide) ?_
              refine lv_iload_n hx hb dX7_pair_65 rfl (lv_at hl 4 rfl) ?_
              refine q_imul hx hb dX7_pair_66 ?_
              refine q_iconst (v := 2) hx hb dX7_pair_67 (by decide) ?_
              refine q_iadd hx hb dX7_pair_68 ?_
              refine q_calll (S := Unit) (Z := Z) (D := D) (wc := []) (wr := [(X, .inr (7, [.ref pa, .ref P, .ref ia, .ref iP, .int (nI kp), .ref T, .ref sa, .ref et, .ref Rn, .ref Ol])), (pa, .inr (2, [.ref pt, .int (nI (p 9)), .int (nI (p 10)), .int (nI (p 11)), .int (nI (p 13)), .int (nI (p 14)), .int (nI (p 15)), .int (nI (p 16)), .int (nI (p 17)), .int (nI (p 12))])), (pt, .inr (5, [.int (nI (p 0)), .ref pw])), (pw, .inl (Z 0, 9, .inl (aI z)))]) (rest := [.long (lN (pcs z (p 0) (p 9) (p 10) gg 1 0 0))]) hw hA [] [0, 1, 2, 3] rfl rfl rfl rfl (by decide) (fun hPc hDc => va_runS (As := [.long (lN (lf z (p 0) 0)), .int (nI 4)]) (rest := [.long (lN (pcs z (p 0) (p 9) (p 10) gg 1 0 0))]) ⟨hx, hb, hml, hown, hts⟩ (c_X7_power l D Z H.size (lf z (p 0) 0) 4 (by first | assumption | omega)) (va_cwS 2 hts gX7_pair_X7_power rfl rfl rfl (by decide +kernel) ⟨Nat.le_of_ble_eq_true rfl, Nat.le_of_ble_eq_true rfl⟩) ⟨fb_cPre, pre_of hPc hK hDc⟩ rfl rfl hl.1 rfl (lv_room (Nat.le_of_ble_eq_true rfl)) dX7_pair_69 ⟨Nat.le_of_ble_eq_true rfl, Nat.le_of_ble_eq_true rfl⟩) (fun r13 u H locs hr13 hw => ?_)
              subst hr13
              have hw : WS D A s [(X, .inr (7, [.ref pa, .ref P, .ref ia, .ref iP, .int (nI kp), .ref T, .ref sa, .ref et, .ref Rn, .ref Ol])), (pa, .inr (2, [.ref pt, .int (nI (p 9)), .int (nI (p 10)), .int (nI (p 11)), .int (nI (p 13)), .int (nI (p 14)), .int (nI (p 15)), .int (nI (p 16)), .int (nI (p 17)), .int (nI (p 12))])), (pt, .inr (5, [.int (nI (p 0)), .ref pw])), (pw, .inl (Z 0, 9, .inl (aI z)))] H locs := hw
              refine lv_iload_n hx hb dX7_pair_72 rfl (lv_at hl 5 rfl) ?_
              refine q_calll (S := Unit) (Z := Z) (D := D) (wc := []) (wr := [(X, .inr (7, [.ref pa, .ref P, .ref ia, .ref iP, .int (nI kp), .ref T, .ref sa, .ref et, .ref Rn, .ref Ol])), (pa, .inr (2, [.ref pt, .int (nI (p 9)), .int (nI (p 10)), .int (nI (p 11)), .int (nI (p 13)), .int (nI (p 14)), .int (nI (p 15)), .int (nI (p 16)), .int (nI (p 17)), .int (nI (p 12))])), (pt, .inr (5, [.int (nI (p 0)), .ref pw])), (pw, .inl (Z 0, 9, .inl (aI z)))]) (rest := []) hw hA [] [0, 1, 2, 3] rfl rfl rfl rfl (by decide) (fun hPc hDc => va_runS (As := [.long (lN (pcs z (p 0) (p 9) (p 10) gg 1 0 0)), .long (lN ((lf z (p 0) 0) ^ 4)), .int (nI q)]) (rest := []) ⟨hx, hb, hml, hown, hts⟩ (c_X7_lowest l D Z H.size (pcs z (p 0) (p 9) (p 10) gg 1 0 0) ((lf z (p 0) 0) ^ 4) q (pcs_lt hal.2 h9 h10 (by omega)) (Nat.lt_of_le_of_lt (Nat.pow_le_pow_left hal.2 _) (by decide)) (Nat.pow_pos hal.1) (by omega)) (va_cwS 3 hts gX7_pair_X7_lowest rfl rfl rfl (by decide +kernel) ⟨Nat.le_of_ble_eq_true rfl, Nat.le_of_ble_eq_true rfl⟩) ⟨fb_cPre, pre_of hPc hK hDc⟩ rfl rfl hl.1 rfl (lv_room (Nat.le_of_ble_eq_true rfl)) dX7_pair_73 ⟨Nat.le_of_ble_eq_true rfl, Nat.le_of_ble_eq_true rfl⟩) (fun r14 u H locs hr14 hw => ?_)
              subst hr14
              have hw : WS D A s [(X, .inr (7, [.ref pa, .ref P, .ref ia, .ref iP, .int (nI kp), .ref T, .ref sa, .ref et, .ref Rn, .ref Ol])), (pa, .inr (2, [.ref pt, .int (nI (p 9)), .int (nI (p 10)), .int (nI (p 11)), .int (nI (p 13)), .int (nI (p 14)), .int (nI (p 15)), .int (nI (p 16)), .int (nI (p 17)), .int (nI (p 12))])), (pt, .inr (5, [.int (nI (p 0)), .ref pw])), (pw, .inl (Z 0, 9, .inl (aI z)))] H locs := hw
              exact q_lret (wout := _) hx hb hr hlocks hAe hK () hw (by first | exact (if_pos (by omega)).symm | (unfold prC; rw [if_neg (by omega), tnI egg, tnI ex, tnI eq])) dX7_pair_76
            · --
              refine q_calli (S := Unit) (Z := Z) (D := D) (wc := [(pt, .inr (5, [.int (nI (p 0)), .ref pw])), (pw, .inl (Z 0, 9, .inl (aI z)))]) (wr := [(X, .inr (7, [.ref pa, .ref P, .ref ia, .ref iP, .int (nI kp), .ref T, .ref sa, .ref et, .ref Rn, .ref Ol])), (pa, .inr (2, [.ref pt, .int (nI (p 9)), .int (nI (p 10)), .int (nI (p 11)), .int (nI (p 13)), .int (nI (p 14)), .int (nI (p 15)), .int (nI (p 16)), .int (nI (p 17)), .int (nI (p 12))]))]) (rest := []) hw hA [2, 3] [0, 1] rfl rfl rfl rfl (by decide) (fun hPc hDc => va_runV (As := []) (rest := []) ⟨hx, hb, hml, hown, hts⟩ (c_X5_all l D Z H.size pt pw (p 0) z hn.2) (cwV 0 hts gX7_pair_X5_all rfl rfl rfl (by decide +kernel) ⟨Nat.le_of_ble_eq_true rfl, Nat.le_of_ble_eq_true rfl⟩) ⟨fb_cPre, va_recv hK.1 hPc (ci := 5) (q0 := 0) rfl rfl, pre_of hPc hK hDc⟩ rfl rfl hl.1 rfl (lv_room (Nat.le_of_ble_eq_true rfl)) dX7_pair_45 ⟨Nat.le_of_ble_eq_true rfl, Nat.le_of_ble_eq_true rfl⟩) (fun r15 u H locs hr15 hw => ?_)
              subst hr15
              have hw : WS D A s [(X, .inr (7, [.ref pa, .ref P, .ref ia, .ref iP, .int (nI kp), .ref T, .ref sa, .ref et, .ref Rn, .ref Ol])), (pa, .inr (2, [.ref pt, .int (nI (p 9)), .int (nI (p 10)), .int (nI (p 11)), .int (nI (p 13)), .int (nI (p 14)), .int (nI (p 15)), .int (nI (p 16)), .int (nI (p 17)), .int (nI (p 12))])), (pt, .inr (5, [.int (nI (p 0)), .ref pw])), (pw, .inl (Z 0, 9, .inl (aI z)))] H locs := hw
              refine q_i2l hx hb (by omega) dX7_pair_48 ?_
              refine lv_lstore (lv' := [(5, .long (lN (lf z (p 0) 0))), (4, .ref pt), (0, .ref X), (1, .int (nI gg)), (2, .int (nI 2)), (3, .int (nI q))]) hx hb dX7_pair_49 hl (by decide) rfl (fun ls hl => ?_)
              refine lv_aload_n hx hb dX7_pair_51 rfl (lv_at hl 2 rfl) ?_
              refine q_get (v := .ref pa) (ci := 7) hx hb hts in_X7 hown hK hw 0 0 wd1 dX7_pair_52 rfl rfl (by decide) rfl ?_
              refine lv_iload_n hx hb dX7_pair_55 rfl (lv_at hl 3 rfl) ?_
              refine lv_iload_n hx hb dX7_pair_56 rfl (lv_at hl 4 rfl) ?_
              refine q_iconst (v := 0) hx hb dX7_pair_57 (by decide) ?_
              refine q_iconst (v := 0) hx hb dX7_pair_58 (by decide) ?_
              refine q_calll (S := Unit) (Z := Z) (D := D) (wc := [(pa, .inr (2, [.ref pt, .int (nI (p 9)), .int (nI (p 10)), .int (nI (p 11)), .int (nI (p 13)), .int (nI (p 14)), .int (nI (p 15)), .int (nI (p 16)), .int (nI (p 17)), .int (nI (p 12))])), (pt, .inr (5, [.int (nI (p 0)), .ref pw])), (pw, .inl (Z 0, 9, .inl (aI z)))]) (wr := [(X, .inr (7, [.ref pa, .ref P, .ref ia, .ref iP, .int (nI kp), .ref T, .ref sa, .ref et, .ref Rn, .ref Ol]))]) (rest := []) hw hA [1, 2, 3] [0] rfl rfl rfl rfl (by decide) (fun hPc hDc => va_runS (As := [.ref pa, .int (nI gg), .int (nI 2), .int (nI 0), .int (nI 0)]) (rest := []) ⟨hx, hb, hml, hown, hts⟩ (c_pc2 l D Z H.size pa pt pw p z gg 0 0 hn hal h9 h10 (by omega) (by omega) (by omega)) (va_cwS 5 hts gX7_pair_X7_pairCost rfl rfl rfl (by decide +kernel) ⟨Nat.le_of_ble_eq_true rfl, Nat.le_of_ble_eq_true rfl⟩) ⟨fb_cPre, pre_of hPc hK hDc⟩ rfl rfl hl.1 rfl (lv_room (Nat.le_of_ble_eq_true rfl)) dX7_pair_59 ⟨Nat.le_of_ble_eq_true rfl, Nat.le_of_ble_eq_true rfl⟩) (fun r16 u H locs hr16 hw => ?_)
              subst hr16
              have hw : WS D A s [(X, .inr (7, [.ref pa, .ref P, .ref ia, .ref iP, .int (nI kp), .ref T, .ref sa, .ref et, .ref Rn, .ref Ol])), (pa, .inr (2, [.ref pt, .int (nI (p 9)), .int (nI (p 10)), .int (nI (p 11)), .int (nI (p 13)), .int (nI (p 14)), .int (nI (p 15)), .int (nI (p 16)), .int (nI (p 17)), .int (nI (p 12))])), (pt, .inr (5, [.int (nI (p 0)), .ref pw])), (pw, .inl (Z 0, 9, .inl (aI z)))] H locs := hw
              refine lv_lload hx hb dX7_pair_62 (lv_at hl 0 rfl) ?_
              refine q_iconst (v := 2) hx hb dX7_pair_64 (by decide) ?_
              refine lv_iload_n hx hb dX7_pair_65 rfl (lv_at hl 4 rfl) ?_
              refine q_imul hx hb dX7_pair_66 ?_
              refine q_iconst (v := 2) hx hb dX7_pair_67 (by decide) ?_
              refine q_iadd hx hb dX7_pair_68 ?_
              refine q_calll (S := Unit) (Z := Z) (D := D) (wc := []) (wr := [(X, .inr (7, [.ref pa, .ref P, .ref ia, .ref iP, .int (nI kp), .ref T, .ref sa, .ref et, .ref Rn, .ref Ol])), (pa, .inr (2, [.ref pt, .int (nI (p 9)), .int (nI (p 10)), .int (nI (p 11)), .int (nI (p 13)), .int (nI (p 14)), .int (nI (p 15)), .int (nI (p 16)), .int (nI (p 17)), .int (nI (p 12))])), (pt, .inr (5, [.int (nI (p 0)), .ref pw])), (pw, .inl (Z 0, 9, .inl (aI z)))]) (rest := [.long (lN (pcs z (p 0) (p 9) (p 10) gg 2 0 0))]) hw hA [] [0, 1, 2, 3] rfl rfl rfl rfl (by decide) (fun hPc hDc => va_runS (As := [.long (lN (lf z (p 0) 0)), .int (nI 6)]) (rest := [.long (lN (pcs z (p 0) (p 9) (p 10) gg 2 0 0))]) ⟨hx, hb, hml, hown, hts⟩ (c_X7_power l D Z H.size (lf z (p 0) 0) 6 (by first | assumption | omega)) (va_cwS 2 hts gX7_pair_X7_power rfl rfl rfl (by decide +kernel) ⟨Nat.le_of_ble_eq_true rfl, Nat.le_of_ble_eq_true rfl⟩) ⟨fb_cPre, pre_of hPc hK hDc⟩ rfl rfl hl.1 rfl (lv_room (Nat.le_of_ble_eq_true rfl)) dX7_pair_69 ⟨Nat.le_of_ble_eq_true rfl, Nat.le_of_ble_eq_true rfl⟩) (fun r17 u H locs hr17 hw => ?_)
              subst hr17
              have hw : WS D A s [(X, .inr (7, [.ref pa, .ref P, .ref ia, .ref iP, .int (nI kp), .ref T, .ref sa, .ref et, .ref Rn, .ref Ol])), (pa, .inr (2, [.ref pt, .int (nI (p 9)), .int (nI (p 10)), .int (nI (p 11)), .int (nI (p 13)), .int (nI (p 14)), .int (nI (p 15)), .int (nI (p 16)), .int (nI (p 17)), .int (nI (p 12))])), (pt, .inr (5, [.int (nI (p 0)), .ref pw])), (pw, .inl (Z 0, 9, .inl (aI z)))] H locs := hw
              refine lv_iload_n hx hb dX7_pair_72 rfl (lv_at hl 5 rfl) ?_
              refine q_calll (S := Unit) (Z := Z) (D := D) (wc := []) (wr := [(X, .inr (7, [.ref pa, .ref P, .ref ia, .ref iP, .int (nI kp), .ref T, .ref sa, .ref et, .ref Rn, .ref Ol])), (pa, .inr (2, [.ref pt, .int (nI (p 9)), .int (nI (p 10)), .int (nI (p 11)), .int (nI (p 13)), .int (nI (p 14)), .int (nI (p 15)), .int (nI (p 16)), .int (nI (p 17)), .int (nI (p 12))])), (pt, .inr (5, [.int (nI (p 0)), .ref pw])), (pw, .inl (Z 0, 9, .inl (aI z)))]) (rest := []) hw hA [] [0, 1, 2, 3] rfl rfl rfl rfl (by decide) (fun hPc hDc => va_runS (As := [.long (lN (pcs z (p 0) (p 9) (p 10) gg 2 0 0)), .long (lN ((lf z (p 0) 0) ^ 6)), .int (nI q)]) (rest := []) ⟨hx, hb, hml, hown, hts⟩ (c_X7_lowest l D Z H.size (pcs z (p 0) (p 9) (p 10) gg 2 0 0) ((lf z (p 0) 0) ^ 6) q (pcs_lt hal.2 h9 h10 (by omega)) (Nat.lt_of_le_of_lt (Nat.pow_le_pow_left hal.2 _) (by decide)) (Nat.pow_pos hal.1) (by omega)) (va_cwS 3 hts gX7_pair_X7_lowest rfl rfl rfl (by decide +kernel) ⟨Nat.le_of_ble_eq_true rfl, Nat.le_of_ble_eq_true rfl⟩) ⟨fb_cPre, pre_of hPc hK hDc⟩ rfl rfl hl.1 rfl (lv_room (Nat.le_of_ble_eq_true rfl)) dX7_pair_73 ⟨Nat.le_of_ble_eq_true rfl, Nat.le_of_ble_eq_true rfl⟩) (fun r18 u H locs hr18 hw => ?_)
              subst hr18
              have hw : WS D A s [(X, .inr (7, [.ref pa, .ref P, .ref ia, .ref iP, .int (nI kp), .ref T, .ref sa, .ref et, .ref Rn, .ref Ol])), (pa, .inr (2, [.ref pt, .int (nI (p 9)), .int (nI (p 10)), .int (nI (p 11)), .int (nI (p 13)), .int (nI (p 14)), .int (nI (p 15)), .int (nI (p 16)), .int (nI (p 17)), .int (nI (p 12))])), (pt, .inr (5, [.int (nI (p 0)), .ref pw])), (pw, .inl (Z 0, 9, .inl (aI z)))] H locs := hw
              exact q_lret (wout := _) hx hb hr hlocks hAe hK () hw (by first | exact (if_pos (by omega)).symm | (unfold prC; rw [if_neg (by omega), tnI egg, tnI ex, tnI eq])) dX7_pair_76
            · --
              refine q_calli (S := Unit) (Z := Z) (D := D) (wc := [(pt, .inr (5, [.int (nI (p 0)), .ref pw])), (pw, .inl (Z 0, 9, .inl (aI z)))]) (wr := [(X, .inr (7, [.ref pa, .ref P, .ref ia, .ref iP, .int (nI kp), .ref T, .ref sa, .ref et, .ref Rn, .ref Ol])), (pa, .inr (2, [.ref pt, .int (nI (p 9)), .int (nI (p 10)), .int (nI (p 11)), .int (nI (p 13)), .int (nI (p 14)), .int (nI (p 15)), .int (nI (p 16)), .int (nI (p 17)), .int (nI (p 12))]))]) (rest := []) hw hA [2, 3] [0, 1] rfl rfl rfl rfl (by decide) (fun hPc hDc => va_runV (As := []) (rest := []) ⟨hx, hb, hml, hown, hts⟩ (c_X5_all l D Z H.size pt pw (p 0) z hn.2) (cwV 0 hts gX7_pair_X5_all rfl rfl rfl (by decide +kernel) ⟨Nat.le_of_ble_eq_true rfl, Nat.le_of_ble_eq_true rfl⟩) ⟨fb_cPre, va_recv hK.1 hPc (ci := 5) (q0 := 0) rfl rfl, pre_of hPc hK hDc⟩ rfl rfl hl.1 rfl (lv_room (Nat.le_of_ble_eq_true rfl)) dX7_pair_45 ⟨Nat.le_of_ble_eq_true rfl, Nat.le_of_ble_eq_true rfl⟩) (fun r19 u H locs hr19 hw => ?_)
              subst hr19
              have hw : WS D A s [(X, .inr (7, [.ref pa, .ref P, .ref ia, .ref iP, .int (nI kp), .ref T, .ref sa, .ref et, .ref Rn, .ref Ol])), (pa, .inr (2, [.ref pt, .int (nI (p 9)), .int (nI (p 10)), .int (nI (p 11)), .int (nI (p 13)), .int (nI (p 14)), .int (nI (p 15)), .int (nI (p 16)), .int (nI (p 17)), .int (nI (p 12))])), (pt, .inr (5, [.int (nI (p 0)), .ref pw])), (pw, .inl (Z 0, 9, .inl (aI z)))] H locs := hw
              refine q_i2l hx hb (by omega) dX7_pair_48 ?_
              refine lv_lstore (lv' := [(5, .long (lN (lf z (p 0) 0))), (4, .ref pt), (0, .ref X), (1, .int (nI gg)), (2, .int (nI 3)), (3, .int (nI q))]) hx hb dX7_pair_49 hl (by decide) rfl (fun ls hl => ?_)
              refine lv_aload_n hx hb dX7_pair_51 rfl (lv_at hl 2 rfl) ?_
              refine q_get (v := .ref pa) (ci := 7) hx hb hts in_X7 hown hK hw 0 0 wd1 dX7_pair_52 rfl rfl (by decide) rfl ?_
              refine lv_iload_n hx hb dX7_pair_55 rfl (lv_at hl 3 rfl) ?_
              refine lv_iload_n hx hb dX7_pair_56 rfl (lv_at hl 4 rfl) ?_
              refine q_iconst (v := 0) hx hb dX7_pair_57 (by decide) ?_
              refine q_iconst (v := 0) hx hb dX7_pair_58 (by decide) ?_
              refine q_calll (S := Unit) (Z := Z) (D := D) (wc := [(pa, .inr (2, [.ref pt, .int (nI (p 9)), .int (nI (p 10)), .int (nI (p 11)), .int (nI (p 13)), .int (nI (p 14)), .int (nI (p 15)), .int (nI (p 16)), .int (nI (p 17)), .int (nI (p 12))])), (pt, .inr (5, [.int (nI (p 0)), .ref pw])), (pw, .inl (Z 0, 9, .inl (aI z)))]) (wr := [(X, .inr (7, [.ref pa, .ref P, .ref ia, .ref iP, .int (nI kp), .ref T, .ref sa, .ref et, .ref Rn, .ref Ol]))]) (rest := []) hw hA [1, 2, 3] [0] rfl rfl rfl rfl (by decide) (fun hPc hDc => va_runS (As := [.ref pa, .int (nI gg), .int (nI 3), .int (nI 0), .int (nI 0)]) (rest := []) ⟨hx, hb, hml, hown, hts⟩ (c_pc3 l D Z H.size pa pt pw p z gg 0 0 hn hal h9 h10 (by omega) (by omega) (by omega)) (va_cwS 5 hts gX7_pair_X7_pairCost rfl rfl rfl (by decide +kernel) ⟨Nat.le_of_ble_eq_true rfl, Nat.le_of_ble_eq_true rfl⟩) ⟨fb_cPre, pre_of hPc hK hDc⟩ rfl rfl hl.1 rfl (lv_room (Nat.le_of_ble_eq_true rfl)) dX7_pair_59 ⟨Nat.le_of_ble_eq_true rfl, Nat.le_of_ble_eq_true rfl⟩) (fun r20 u H locs hr20 hw => ?_)
              subst hr20
              have hw : WS D A s [(X, .inr (7, [.ref pa, .ref P, .ref ia, .ref iP, .int (nI kp), .ref T, .ref sa, .ref et, .ref Rn, .ref Ol])), (pa, .inr (2, [.ref pt, .int (nI (p 9)), .int (nI (p 10)), .int (nI (p 11)), .int (nI (p 13)), .int (nI (p 14)), .int (nI (p 15)), .int (nI (p 16)), .int (nI (p 17)), .int (nI (p 12))])), (pt, .inr (5, [.int (nI (p 0)), .ref pw])), (pw, .inl (Z 0, 9, .inl (aI z)))] H locs := hw
              refine lv_lload hx hb dX7_pair_62 (lv_at hl 0 rfl) ?_
              refine q_iconst (v := 2) hx hb dX7_pair_64 (by decide) ?_
              refine lv_iload_n hx hb dX7_pair_65 rfl (lv_at hl 4 rfl) ?_
              refine q_imul hx hb dX7_pair_66 ?_
              refine q_iconst (v := 2) hx hb dX7_pair_67 (by decide) ?_
              refine q_iadd hx hb dX7_pair_68 ?_
              refine q_calll (S := Unit) (Z := Z) (D := D) (wc := []) (wr := [(X, .inr (7, [.ref pa, .ref P, .ref ia, .ref iP, .int (nI kp), .ref T, .ref sa, .ref et, .ref Rn, .ref Ol])), (pa, .inr (2, [.ref pt, .int (nI (p 9)), .int (nI (p 10)), .int (nI (p 11)), .int (nI (p 13)), .int (nI (p 14)), .int (nI (p 15)), .int (nI (p 16)), .int (nI (p 17)), .int (nI (p 12))])), (pt, .inr (5, [.int (nI (p 0)), .ref pw])), (pw, .inl (Z 0, 9, .inl (aI z)))]) (rest := [.long (lN (pcs z (p 0) (p 9) (p 10) gg 3 0 0))]) hw hA [] [0, 1, 2, 3] rfl rfl rfl rfl (by decide) (fun hPc hDc => va_runS (As := [.long (lN (lf z (p 0) 0)), .int (nI 8)]) (rest := [.long (lN (pcs z (p 0) (p 9) (p 10) gg 3 0 0))]) ⟨hx, hb, hml, hown, hts⟩ (c_X7_power l D Z H.size (lf z (p 0) 0) 8 (by first | assumption | omega)) (va_cwS 2 hts gX7_pair_X7_power rfl rfl rfl (by decide +kernel) ⟨Nat.le_of_ble_eq_true rfl, Nat.le_of_ble_eq_true rfl⟩) ⟨fb_cPre, pre_of hPc hK hDc⟩ rfl rfl hl.1 rfl (lv_room (Nat.le_of_ble_eq_true rfl)) dX7_pair_69 ⟨Nat.le_of_ble_eq_true rfl, Nat.le_of_ble_eq_true rfl⟩) (fun r21 u H locs hr21 hw => ?_)
              subst hr21
              have hw : WS D A s [(X, .inr (7, [.ref pa, .ref P, .ref ia, .ref iP, .int (nI kp), .ref T, .ref sa, .ref et, .ref Rn, .ref Ol])), (pa, .inr (2, [.ref pt, .int (nI (p 9)), .int (nI (p 10)), .int (nI (p 11)), .int (nI (p 13)), .int (nI (p 14)), .int (nI (p 15)), .int (nI (p 16)), .int (nI (p 17)), .int (nI (p 12))])), (pt, .inr (5, [.int (nI (p 0)), .ref pw])), (pw, .inl (Z 0, 9, .inl (aI z)))] H locs := hw
              refine lv_iload_n hx hb dX7_pair_72 rfl (lv_at hl 5 rfl) ?_
              refine q_calll (S := Unit) (Z := Z) (D := D) (wc := []) (wr := [(X, .inr (7, [.ref pa, .ref P, .ref ia, .ref iP, .int (nI kp), .ref T, .ref sa, .ref et, .ref Rn, .ref Ol])), (pa, .inr (2, [.ref pt, .int (nI (p 9)), .int (nI (p 10)), .int (nI (p 11)), .int (nI (p 13)), .int (nI (p 14)), .int (nI (p 15)), .int (nI (p 16)), .int (nI (p 17)), .int (nI (p 12))])), (pt, .inr (5, [.int (nI (p 0)), .ref pw])), (pw, .inl (Z 0, 9, .inl (aI z)))]) (rest := []) hw hA [] [0, 1, 2, 3] rfl rfl rfl rfl (by decide) (fun hPc hDc => va_runS (As := [.long (lN (pcs z (p 0) (p 9) (p 10) gg 3 0 0)), .long (lN ((lf z (p 0) 0) ^ 8)), .int (nI q)]) (rest := []) ⟨hx, hb, hml, hown, hts⟩ (c_X7_lowest l D Z H.size (pcs z (p 0) (p 9) (p 10) gg 3 0 0) ((lf z (p 0) 0) ^ 8) q (pcs_lt hal.2 h9 h10 (by omega)) (Nat.lt_of_le_of_lt (Nat.pow_le_pow_left hal.2 _) (by decide)) (Nat.pow_pos hal.1) (by omega)) (va_cwS 3 hts gX7_pair_X7_lowest rfl rfl rfl (by decide +kernel) ⟨Nat.le_of_ble_eq_true rfl, Nat.le_of_ble_eq_true rfl⟩) ⟨fb_cPre, pre_of hPc hK hDc⟩ rfl rfl hl.1 rfl (lv_room (Nat.le_of_ble_eq_true rfl)) dX7_pair_73 ⟨Nat.le_of_ble_eq_true rfl, Nat.le_of_ble_eq_true rfl⟩) (fun r22 u H locs hr22 hw => ?_)
              subst hr22
              have hw : WS D A s [(X, .inr (7, [.ref pa, .ref P, .ref ia, .ref iP, .int (nI kp), .ref T, .ref sa, .ref et, .ref Rn, .ref Ol])), (pa, .inr (2, [.ref pt, .int (nI (p 9)), .int (nI (p 10)), .int (nI (p 11)), .int (nI (p 13)), .int (nI (p 14)), .int (nI (p 15)), .int (nI (p 16)), .int (nI (p 17)), .int (nI (p 12))])), (pt, .inr (5, [.int (nI (p 0)), .ref pw])), (pw, .inl (Z 0, 9, .inl (aI z)))] H locs := hw
              exact q_lret (wout := _) hx hb hr hlocks hAe hK () hw (by first | exact (if_pos (by omega)).symm | (unfold prC; rw [if_neg (by omega), tnI egg, tnI ex, tnI eq])) dX7_pair_76
          · --
            have c6 := bb_1 c6
            refine lv_ldc2 hx hb hown wd4 dX7_pair_39 ?_
            exact q_lret (wout := _) hx hb hr hlocks hAe hK () hw (by first | exact (if_pos (by omega)).symm | (unfold prC; rw [if_neg (by omega), tnI egg, tnI ex, tnI eq])) dX7_pair_42
set_option maxHeartbeats 4000000 in
set_option maxRecDepth 100000 in
theorem c_X6_add (l : Launch) (D : va_G) (Z : Nat → ClassId) (zs0 : Nat) (T le tt tw : Nat) (L : Nat → Nat) (sz n : Nat) (z : Nat → Nat) (told : Nat) (F G : Int32) (fl ap la : Nat) (c : Nat) (hL : ∀ k, L k < 128) (hsz : sz ≤ 60) (hc : c < 128) : cMi l yX6_add wsX6_add (rmd 0) D Z zs0 [.ref T, .int (nI c)] [(T, .inr (6, [.ref le, .int (nI sz), .ref tt, .int (nI told), .int F, .int G, .int (nI fl), .int (nI ap), .int (nI la)])), (le, .inl (Z 2, 60, .inl (aI L))), (tt, .inr (5, [.int (nI n), .ref tw])), (tw, .inl (Z 0, 9, .inl (aI z)))] (S := (Nat → Nat) × Nat) (fun (r : Int32) (u : (Nat → Nat) × Nat) => match u with | (L', sz') => (sz < 60 ∧ r = nI 1 ∧ L' = va_up L sz c ∧ sz' = sz + 1) ∨ (60 ≤ sz ∧ r = nI 0 ∧ L' = L ∧ sz' = sz)) (fun (u : (Nat → Nat) × Nat) => match u with | (L', sz') => [(T, .inr (6, [.ref le, .int (nI sz'), .ref tt, .int (nI told), .int F, .int G, .int (nI fl), .int (nI ap), .int (nI la)])), (le, .inl (Z 2, 60, .inl (aI L'))), (tt, .inr (5, [.int (nI n), .ref tw])), (tw, .inl (Z 0, 9, .inl (aI z)))]) 0 0 := by
  refine q_open (y := yX6_add) (ws := wsX6_add) (av := [.ref T, .int (nI c)]) (win := [(T, .inr (6, [.ref le, .int (nI sz), .ref tt, .int (nI told), .int F, .int G, .int (nI fl), .int (nI ap), .int (nI la)])), (le, .inl (Z 2, 60, .inl (aI L))), (tt, .inr (5, [.int (nI n), .ref tw])), (tw, .inl (Z 0, 9, .inl (aI z)))]) (Qc := fun zs0 => cQi D Z zs0 [(T, .inr (6, [.ref le, .int (nI sz), .ref tt, .int (nI told), .int F, .int G, .int (nI fl), .int (nI ap), .int (nI la)])), (le, .inl (Z 2, 60, .inl (aI L))), (tt, .inr (5, [.int (nI n), .ref tw])), (tw, .inl (Z 0, 9, .inl (aI z)))] (S := (Nat → Nat) × Nat) (fun (r : Int32) (u : (Nat → Nat) × Nat) => match u with | (L', sz') => (sz < 60 ∧ r = nI 1 ∧ L' = va_up L sz c ∧ sz' = sz + 1) ∨ (60 ≤ sz ∧ r = nI 0 ∧ L' = L ∧ sz' = sz)) (fun (u : (Nat → Nat) × Nat) => match u with | (L', sz') => [(T, .inr (6, [.ref le, .int (nI sz'), .ref tt, .int (nI told), .int F, .int G, .int (nI fl), .int (nI ap), .int (nI la)])), (le, .inl (Z 2, 60, .inl (aI L'))), (tt, .inr (5, [.int (nI n), .ref tw])), (tw, .inl (Z 0, 9, .inl (aI z)))])) (cc := cX6_add) (maxL := 2) (ret := (some .boolean)) (by decide) rfl (Nat.le_of_ble_eq_true rfl) ?_
  intro pp ee s mm bw mt cd ls A H locs hAe hx hb hr hml hown hmn hts hlocks hA hK hw hl
  have hown : s.vm.findClass RX6 = some mm.cls := hown
  have hl : lv_has ls 2 [(0, .ref T), (1, .int (nI c))] := hl
  have wd1 := hts (.fieldLink RX6 22 "ReplaceAges$Text" "size" "I") (List.mem_of_getElem? (i := 1) rfl)
  have wd2 := hts (.fieldLink RX6 9 "ReplaceAges$Text" "letters" "[C") (List.mem_of_getElem? (i := 2) rfl)
  have in_X6 : ∀ w ∈ wsX60, w ∈ wsX6_add := fun _ h => List.mem_cons_of_mem _ (List.mem_append_right _ h)
  refine lv_aload_n hx hb dX6_add_0 rfl (lv_at hl 0 rfl) ?_
  refine q_get (v := .int (nI sz)) (ci := 6) hx hb hts in_X6 hown hK hw 0 1 wd1 dX6_add_1 rfl rfl (by decide) rfl ?_
  refine q_if_lt (tgt := 19) hx hb ((sz : Nat) : Int) (nI_toInt (by omega)) dX6_add_4 (by decide) (fun c1 => ?_) (fun c1 => ?_)
  · --
    exfalso; omega
  · --
    refine lv_aload_n hx hb dX6_add_7 rfl (lv_at hl 0 rfl) ?_
    refine q_get (v := .int (nI sz)) (ci := 6) hx hb hts in_X6 hown hK hw 0 1 wd1 dX6_add_8 rfl rfl (by decide) rfl ?_
    refine lv_aload_n hx hb dX6_add_11 rfl (lv_at hl 0 rfl) ?_
    refine q_get (v := .ref le) (ci := 6) hx hb hts in_X6 hown hK hw 0 0 wd2 dX6_add_12 rfl rfl (by decide) rfl ?_
    refine q_aleni hx hb hK hw 1 2 dX6_add_15 rfl rfl ?_
    refine q_icmp_lt (tgt := 21) hx hb ((sz : Nat) : Int) ((60 : Nat) : Int) (nI_toInt (by omega)) (nI_toInt (by omega)) dX6_add_16 (by decide) (fun c2 => ?_) (fun c2 => ?_)
    · --
      refine lv_aload_n hx hb dX6_add_21 rfl (lv_at hl 0 rfl) ?_
      refine q_get (v := .ref le) (ci := 6) hx hb hts in_X6 hown hK hw 0 0 wd2 dX6_add_22 rfl rfl (by decide) rfl ?_
      refine lv_aload_n hx hb dX6_add_25 rfl (lv_at hl 0 rfl) ?_
      refine q_get (v := .int (nI sz)) (ci := 6) hx hb hts in_X6 hown hK hw 0 1 wd1 dX6_add_26 rfl rfl (by decide) rfl ?_
      refine lv_iload_n hx hb dX6_add_29 rfl (lv_at hl 1 rfl) ?_
      refine q_cast hx hb hK hw 1 (by omega) (by omega) (by omega) dX6_add_30 rfl (fun H locs hw => ?_)
      have hw : WS D A s [(T, .inr (6, [.ref le, .int (nI sz), .ref tt, .int (nI told), .int F, .int G, .int (nI fl), .int (nI ap), .int (nI la)])), (le, .inl (Z 2, 60, .inl (aI (va_up L sz c)))), (tt, .inr (5, [.int (nI n), .ref tw])), (tw, .inl (Z 0, 9, .inl (aI z)))] H locs := hw
      refine lv_aload_n hx hb dX6_add_31 rfl (lv_at hl 0 rfl) ?_
      refine lv_dup hx hb dX6_add_32 rfl ?_
      refine q_get (v := .int (nI sz)) (ci := 6) hx hb hts in_X6 hown hK hw 0 1 wd1 dX6_add_33 rfl rfl (by decide) rfl ?_
      refine q_iconst (v := 1) hx hb dX6_add_36 (by decide) ?_
      refine q_iadd hx hb dX6_add_37 ?_
      refine q_put (v := .int (nI (sz + 1))) (ci := 6) hx hb hts in_X6 tyX6 tyX6_ok nmX6 hown hK hw 0 1 wd1 dX6_add_38 rfl rfl (by decide) rfl rfl rfl (Nat.le_of_ble_eq_true rfl) (fun H locs hw => ?_)
      have hw : WS D A s [(T, .inr (6, [.ref le, .int (nI (sz + 1)), .ref tt, .int (nI told), .int F, .int G, .int (nI fl), .int (nI ap), .int (nI la)])), (le, .inl (Z 2, 60, .inl (aI (va_up L sz c)))), (tt, .inr (5, [.int (nI n), .ref tw])), (tw, .inl (Z 0, 9, .inl (aI z)))] H locs := hw
      refine q_iconst (v := 1) hx hb dX6_add_41 (by decide) ?_
      exact q_zret (wout := _) hx hb hr hlocks hAe hK (va_up L sz c, sz + 1) hw rfl (Or.inl ⟨by omega, rfl, rfl, rfl⟩) dX6_add_42
    · --
      refine q_iconst (v := 0) hx hb dX6_add_19 (by decide) ?_
      exact q_zret (wout := _) hx hb hr hlocks hAe hK (L, sz) hw rfl (Or.inr ⟨by omega, rfl, rfl, rfl⟩) dX6_add_20
set_option maxHeartbeats 4000000 in
set_option maxRecDepth 100000 in
theorem c_X7_type (l : Launch) (D : va_G) (Z : Nat → ClassId) (zs0 : Nat) (X pa P ia iP kp T sa et Rn Ol : Nat) (le tt tw : Nat) (L : Nat → Nat) (sz n : Nat) (z : Nat → Nat) (told : Nat) (F G : Int32) (fl ap la : Nat) (c : Int32) (hL : ∀ k, L k < 128) (hsz : sz ≤ 60) : cMi l yX7_type wsX7_type (rmd 1) D Z zs0 [.ref X, .int c] [(X, .inr (7, [.ref pa, .ref P, .ref ia, .ref iP, .int (nI kp), .ref T, .ref sa, .ref et, .ref Rn, .ref Ol])), (T, .inr (6, [.ref le, .int (nI sz), .ref tt, .int (nI told), .int F, .int G, .int (nI fl), .int (nI ap), .int (nI la)])), (le, .inl (Z 2, 60, .inl (aI L))), (tt, .inr (5, [.int (nI n), .ref tw])), (tw, .inl (Z 0, 9, .inl (aI z)))] (S := (Nat → Nat) × Nat) (fun (r : Int32) (u : (Nat → Nat) × Nat) => match u with | (L', sz') => (¬ (32 ≤ c.toInt ∧ c.toInt ≤ 126) ∧ r = (-1) ∧ L' = L ∧ sz' = sz) ∨ ((32 ≤ c.toInt ∧ c.toInt ≤ 126) ∧ ((sz < 60 ∧ r = nI (sz + 1) ∧ L' = va_up L sz c.toInt.toNat ∧ sz' = sz + 1) ∨ (60 ≤ sz ∧ r = (-3) ∧ L' = L ∧ sz' = sz)))) (fun (u : (Nat → Nat) × Nat) => match u with | (L', sz') => [(X, .inr (7, [.ref pa, .ref P, .ref ia, .ref iP, .int (nI kp), .ref T, .ref sa, .ref et, .ref Rn, .ref Ol])), (T, .inr (6, [.ref le, .int (nI sz'), .ref tt, .int (nI told), .int F, .int G, .int (nI fl), .int (nI ap), .int (nI la)])), (le, .inl (Z 2, 60, .inl (aI L'))), (tt, .inr (5, [.int (nI n), .ref tw])), (tw, .inl (Z 0, 9, .inl (aI z)))]) 0 0 := by
  refine q_open (y := yX7_type) (ws := wsX7_type) (av := [.ref X, .int c]) (win := [(X, .inr (7, [.ref pa, .ref P, .ref ia, .ref iP, .int (nI kp), .ref T, .ref sa, .ref et, .ref Rn, .ref Ol])), (T, .inr (6, [.ref le, .int (nI sz), .ref tt, .int (nI told), .int F, .int G, .int (nI fl), .int (nI ap), .int (nI la)])), (le, .inl (Z 2, 60, .inl (aI L))), (tt, .inr (5, [.int (nI n), .ref tw])), (tw, .inl (Z 0, 9, .inl (aI z)))]) (Qc := fun zs0 => cQi D Z zs0 [(X, .inr (7, [.ref pa, .ref P, .ref ia, .ref iP, .int (nI kp), .ref T, .ref sa, .ref et, .ref Rn, .ref Ol])), (T, .inr (6, [.ref le, .int (nI sz), .ref tt, .int (nI told), .int F, .int G, .int (nI fl), .int (nI ap), .int (nI la)])), (le, .inl (Z 2, 60, .inl (aI L))), (tt, .inr (5, [.int (nI n), .ref tw])), (tw, .inl (Z 0, 9, .inl (aI z)))] (S := (Nat → Nat) × Nat) (fun (r : Int32) (u : (Nat → Nat) × Nat) => match u with | (L', sz') => (¬ (32 ≤ c.toInt ∧ c.toInt ≤ 126) ∧ r = (-1) ∧ L' = L ∧ sz' = sz) ∨ ((32 ≤ c.toInt ∧ c.toInt ≤ 126) ∧ ((sz < 60 ∧ r = nI (sz + 1) ∧ L' = va_up L sz c.toInt.toNat ∧ sz' = sz + 1) ∨ (60 ≤ sz ∧ r = (-3) ∧ L' = L ∧ sz' = sz)))) (fun (u : (Nat → Nat) × Nat) => match u with | (L', sz') => [(X, .inr (7, [.ref pa, .ref P, .ref ia, .ref iP, .int (nI kp), .ref T, .ref sa, .ref et, .ref Rn, .ref Ol])), (T, .inr (6, [.ref le, .int (nI sz'), .ref tt, .int (nI told), .int F, .int G, .int (nI fl), .int (nI ap), .int (nI la)])), (le, .inl (Z 2, 60, .inl (aI L'))), (tt, .inr (5, [.int (nI n), .ref tw])), (tw, .inl (Z 0, 9, .inl (aI z)))])) (cc := cX7_type) (maxL := 2) (ret := (some .int)) (by decide) rfl (Nat.le_of_ble_eq_true rfl) ?_
  intro pp ee s mm bw mt cd ls A H locs hAe hx hb hr hml hown hmn hts hlocks hA hK hw hl
  have hown : s.vm.findClass RX7 = some mm.cls := hown
  have hl : lv_has ls 2 [(0, .ref X), (1, .int c)] := hl
  have wd1 := hts (.fieldLink RX7 32 "ReplaceAges" "tape" "LReplaceAges$Text;") (List.mem_of_getElem? (i := 1) rfl)
  have wd2 := hts (.fieldLink RX7 207 "ReplaceAges$Text" "size" "I") (List.mem_of_getElem? (i := 2) rfl)
  have in_X7 : ∀ w ∈ wsX70, w ∈ wsX7_type := fun _ h => List.mem_cons_of_mem _ (List.mem_append_left _ (List.mem_append_right _ h))
  have in_X6 : ∀ w ∈ wsX60, w ∈ wsX7_type := fun _ h => List.mem_cons_of_mem _ (List.mem_append_right _ h)
  refine lv_iload_n hx hb dX7_type_0 rfl (lv_at hl 1 rfl) ?_
  refine q_bipush (v := 32) hx hb dX7_type_1 (by decide) ?_
  refine q_icmp_lt (tgt := 12) hx hb c.toInt ((32 : Nat) : Int) rfl (nI_toInt (by omega)) dX7_type_3 (by decide) (fun c1 => ?_) (fun c1 => ?_)
  · --
    refine lv_iconst (v := (-1)) hx hb dX7_type_12 (by decide) ?_
    exact q_iret (wout := _) hx hb hr hlocks hAe hK (L, sz) hw (Or.inl ⟨by omega, rfl, rfl, rfl⟩) dX7_type_13
  · --
    refine lv_iload_n hx hb dX7_type_6 rfl (lv_at hl 1 rfl) ?_
    refine q_bipush (v := 126) hx hb dX7_type_7 (by decide) ?_
    refine q_icmp_le (tgt := 14) hx hb c.toInt ((126 : Nat) : Int) rfl (nI_toInt (by omega)) dX7_type_9 (by decide) (fun c2 => ?_) (fun c2 => ?_)
    · --
      obtain ⟨j, rfl, ej⟩ := i32_nat (x := c) (by omega)
      refine lv_aload_n hx hb dX7_type_14 rfl (lv_at hl 0 rfl) ?_
      refine q_get (v := .ref T) (ci := 7) hx hb hts in_X7 hown hK hw 0 5 wd1 dX7_type_15 rfl rfl (by decide) rfl ?_
      refine lv_iload_n hx hb dX7_type_18 rfl (lv_at hl 1 rfl) ?_
      refine lv_i2c hx hb dX7_type_19 rfl ?_
      refine q_topi (x := ((nI j).toUInt32 % 65536).toInt32) (y := nI j) (ch_nI (by omega)) ?_
      refine q_calli (S := (Nat → Nat) × Nat) (Z := Z) (D := D) (wc := [(T, .inr (6, [.ref le, .int (nI sz), .ref tt, .int (nI told), .int F, .int G, .int (nI fl), .int (nI ap), .int (nI la)])), (le, .inl (Z 2, 60, .inl (aI L))), (tt, .inr (5, [.int (nI n), .ref tw])), (tw, .inl (Z 0, 9, .inl (aI z)))]) (wr := [(X, .inr (7, [.ref pa, .ref P, .ref ia, .ref iP, .int (nI kp), .ref T, .ref sa, .ref et, .ref Rn, .ref Ol]))]) (rest := []) hw hA [1, 2, 3, 4] [0] rfl rfl rfl rfl (by decide) (fun hPc hDc => va_runV (As := [.int (nI j)]) (rest := []) ⟨hx, hb, hml, hown, hts⟩ (c_X6_add l D Z H.size T le tt tw L sz n z told F G fl ap la j (by first | assumption | omega) (by first | assumption | omega) (by omega)) (cwV 1 hts gX7_type_X6_add rfl rfl rfl (by decide +kernel) ⟨Nat.le_of_ble_eq_true rfl, Nat.le_of_ble_eq_true rfl⟩) ⟨fb_cPre, va_recv hK.1 hPc (ci := 6) (q0 := 0) rfl rfl, pre_of hPc hK hDc⟩ rfl rfl hl.1 rfl (lv_room (Nat.le_of_ble_eq_true rfl)) dX7_type_20 ⟨Nat.le_of_ble_eq_true rfl, Nat.le_of_ble_eq_true rfl⟩) (fun r3 u H locs hr3 hw => ?_)
      obtain ⟨L1, sz1⟩ := u
      try dsimp only at hr3 hw
      have hw : WS D A s [(X, .inr (7, [.ref pa, .ref P, .ref ia, .ref iP, .int (nI kp), .ref T, .ref sa, .ref et, .ref Rn, .ref Ol])), (T, .inr (6, [.ref le, .int (nI sz1), .ref tt, .int (nI told), .int F, .int G, .int (nI fl), .int (nI ap), .int (nI la)])), (le, .inl (Z 2, 60, .inl (aI L1))), (tt, .inr (5, [.int (nI n), .ref tw])), (tw, .inl (Z 0, 9, .inl (aI z)))] H locs := hw
      rcases hr3 with ⟨hlt, rfl, rfl, rfl⟩ | ⟨hlt, rfl, hL1, hz1⟩
      · --
        have hw : WS D A s [(X, .inr (7, [.ref pa, .ref P, .ref ia, .ref iP, .int (nI kp), .ref T, .ref sa, .ref et, .ref Rn, .ref Ol])), (T, .inr (6, [.ref le, .int (nI (sz + 1)), .ref tt, .int (nI told), .int F, .int G, .int (nI fl), .int (nI ap), .int (nI la)])), (le, .inl (Z 2, 60, .inl (aI (va_up L sz j)))), (tt, .inr (5, [.int (nI n), .ref tw])), (tw, .inl (Z 0, 9, .inl (aI z)))] H locs := hw
        refine q_if_eq (tgt := 36) hx hb ((1 : Nat) : Int) (nI_toInt (by omega)) dX7_type_23 (by decide) (fun c4 => ?_) (fun c4 => ?_)
        · --
          exfalso; omega
        · --
          refine lv_aload_n hx hb dX7_type_26 rfl (lv_at hl 0 rfl) ?_
          refine q_get (v := .ref T) (ci := 7) hx hb hts in_X7 hown hK hw 0 5 wd1 dX7_type_27 rfl rfl (by decide) rfl ?_
          refine q_get (v := .int (nI (sz + 1))) (ci := 6) hx hb hts in_X6 hown hK hw 1 1 wd2 dX7_type_30 rfl rfl (by decide) rfl ?_
          refine lv_goto (tgt := 38) hx hb dX7_type_33 (by decide) ?_
          exact q_iret (wout := _) hx hb hr hlocks hAe hK ((va_up L sz j), (sz + 1)) hw (Or.inr ⟨by omega, by first | exact Or.inl ⟨hlt, rfl, by rw [tnI ej], rfl⟩ | exact Or.inr ⟨hlt, rfl, hL1, hz1⟩⟩) dX7_type_38
      · --
        have hw : WS D A s [(X, .inr (7, [.ref pa, .ref P, .ref ia, .ref iP, .int (nI kp), .ref T, .ref sa, .ref et, .ref Rn, .ref Ol])), (T, .inr (6, [.ref le, .int (nI sz1), .ref tt, .int (nI told), .int F, .int G, .int (nI fl), .int (nI ap), .int (nI la)])), (le, .inl (Z 2, 60, .inl (aI L1))), (tt, .inr (5, [.int (nI n), .ref tw])), (tw, .inl (Z 0, 9, .inl (aI z)))] H locs := hw
        refine q_if_eq (tgt := 36) hx hb ((0 : Nat) : Int) (nI_toInt (by omega)) dX7_type_23 (by decide) (fun c5 => ?_) (fun c5 => ?_)
        · --
          refine lv_bipush (v := (-3)) hx hb dX7_type_36 (by decide) ?_
          exact q_iret (wout := _) hx hb hr hlocks hAe hK (L1, sz1) hw (Or.inr ⟨by omega, by first | exact Or.inl ⟨hlt, rfl, by rw [tnI ej], rfl⟩ | exact Or.inr ⟨hlt, rfl, hL1, hz1⟩⟩) dX7_type_38
        · --
          exfalso; omega
    · --
      refine lv_iconst (v := (-1)) hx hb dX7_type_12 (by decide) ?_
      exact q_iret (wout := _) hx hb hr hlocks hAe hK (L, sz) hw (Or.inl ⟨by omega, rfl, rfl, rfl⟩) dX7_type_13
