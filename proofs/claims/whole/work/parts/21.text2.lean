/-- a number of one or two figures: whether, which, and the place behind it (or the FAULT's) -/
def scN (L : Nat → Nat) (sz a : Nat) : Nat × Nat × Nat :=
  if ¬ fgr (ltr L sz (sk L sz a)) then (0, 0, sk L sz a)
  else if ¬ fgr (ltr L sz (sk L sz a + 1)) then (1, ltr L sz (sk L sz a) - 48, sk L sz a + 1)
  else if ¬ fgr (ltr L sz (sk L sz a + 1 + 1)) then (1, (ltr L sz (sk L sz a) - 48) * 10 + (ltr L sz (sk L sz a + 1) - 48), sk L sz a + 1 + 1)
  else (0, 0, sk L sz a + 1 + 1)
theorem scN_0 {L : Nat → Nat} {sz a : Nat} (h : ¬ fgr (ltr L sz (sk L sz a))) : scN L sz a = (0, 0, sk L sz a) := if_pos h
theorem scN_1 {L : Nat → Nat} {sz a : Nat} (h : fgr (ltr L sz (sk L sz a))) (h1 : ¬ fgr (ltr L sz (sk L sz a + 1))) : scN L sz a = (1, ltr L sz (sk L sz a) - 48, sk L sz a + 1) := by unfold scN; rw [if_neg (fun q => q h), if_pos h1]
theorem scN_2 {L : Nat → Nat} {sz a : Nat} (h : fgr (ltr L sz (sk L sz a))) (h1 : fgr (ltr L sz (sk L sz a + 1))) (h2 : ¬ fgr (ltr L sz (sk L sz a + 1 + 1))) : scN L sz a = (1, (ltr L sz (sk L sz a) - 48) * 10 + (ltr L sz (sk L sz a + 1) - 48), sk L sz a + 1 + 1) := by unfold scN; rw [if_neg (fun q => q h), if_neg (fun q => q h1), if_pos h2]
theorem scN_3 {L : Nat → Nat} {sz a : Nat} (h : fgr (ltr L sz (sk L sz a))) (h1 : fgr (ltr L sz (sk L sz a + 1))) (h2 : fgr (ltr L sz (sk L sz a + 1 + 1))) : scN L sz a = (0, 0, sk L sz a + 1 + 1) := by unfold scN; rw [if_neg (fun q => q h), if_neg (fun q => q h1), if_neg (fun q => q h2)]
/-- WEIGHTS of a TEXT: whether, how many, which, the place behind them (or the FAULT's), the last one's place -/
def scW (L : Nat → Nat) (sz : Nat) : Nat → Nat → (Nat → Nat) → Nat → Nat → Nat × Nat × (Nat → Nat) × Nat × Nat
  | 0, n, z, a, la => (1, n, z, a, la)
  | r + 1, n, z, a, la =>
    if fgr (ltr L sz (sk L sz a)) ∧ lf z n 0 + (ltr L sz (sk L sz a) - 48) ≤ 24 then
      if ltr L sz (sk L sz (sk L sz a + 1)) = 44 ∧ r ≠ 0 then scW L sz r (n + 1) (va_up z (n + 1) (ltr L sz (sk L sz a) - 48)) (sk L sz (sk L sz a + 1) + 1) (sk L sz a)
      else (1, n + 1, va_up z (n + 1) (ltr L sz (sk L sz a) - 48), sk L sz (sk L sz a + 1), sk L sz a)
    else (0, n, z, sk L sz a, la)
theorem scW_f {L : Nat → Nat} {sz q r n a la : Nat} {z : Nat → Nat} (hq : q = r + 1) (h : ¬ (fgr (ltr L sz (sk L sz a)) ∧ lf z n 0 + (ltr L sz (sk L sz a) - 48) ≤ 24)) : scW L sz q n z a la = (0, n, z, sk L sz a, la) := by subst hq; exact if_neg h
theorem scW_f' {L : Nat → Nat} {sz q n a la : Nat} {z : Nat → Nat} (hq : 0 < q) (h : ¬ (fgr (ltr L sz (sk L sz a)) ∧ lf z n 0 + (ltr L sz (sk L sz a) - 48) ≤ 24)) : (nI 0 : Int32) = nI 0 ∧ (scW L sz q n z a la).1 = 0 ∧ sk L sz a = (scW L sz q n z a la).2.2.2.1 := by
  rw [scW_f (r := q - 1) (by omega) h]; exact ⟨rfl, rfl, rfl⟩
theorem scW_n {L : Nat → Nat} {sz q r n a la : Nat} {z : Nat → Nat} (hq : q = r + 1) (h : fgr (ltr L sz (sk L sz a))) (h1 : lf z n 0 + (ltr L sz (sk L sz a) - 48) ≤ 24) (h2 : ltr L sz (sk L sz (sk L sz a + 1)) = 44) (h3 : r ≠ 0) : scW L sz q n z a la = scW L sz r (n + 1) (va_up z (n + 1) (ltr L sz (sk L sz a) - 48)) (sk L sz (sk L sz a + 1) + 1) (sk L sz a) := by subst hq; simp only [scW]; rw [if_pos ⟨h, h1⟩, if_pos ⟨h2, h3⟩]
theorem scW_e {L : Nat → Nat} {sz q r n a la : Nat} {z : Nat → Nat} (hq : q = r + 1) (h : fgr (ltr L sz (sk L sz a))) (h1 : lf z n 0 + (ltr L sz (sk L sz a) - 48) ≤ 24) (h2 : ¬ (ltr L sz (sk L sz (sk L sz a + 1)) = 44 ∧ r ≠ 0)) : scW L sz q n z a la = (1, n + 1, va_up z (n + 1) (ltr L sz (sk L sz a) - 48), sk L sz (sk L sz a + 1), sk L sz a) := by subst hq; simp only [scW]; rw [if_pos ⟨h, h1⟩, if_neg h2]
theorem sm_ext {w v : Nat → Nat} {a : Nat} : ∀ {c : Nat}, (∀ k, a ≤ k → k < a + c → w k = v k) → sm w a c = sm v a c := by
  intro c; induction c with
  | zero => intro _; rfl
  | succ c ih => intro h; simp only [sm]; rw [ih (fun k h1 h2 => h k h1 (by omega)), h (a + c) (by omega) (by omega)]
theorem lf_ext {w v : Nat → Nat} {n j : Nat} (h : ∀ k, j < k → k ≤ n → w k = v k) : lf w n j = lf v n j := sm_ext (fun k h1 h2 => h k (by omega) (by omega))
theorem lf_push (z : Nat → Nat) (n v : Nat) : lf (va_up z (n + 1) v) (n + 1) 0 = lf z n 0 + v := by
  show sm _ 1 (n + 1) = _
  simp only [sm]
  rw [show 1 + n = n + 1 by omega, va_up_eq, sm_ext (v := z) (fun k h1 h2 => va_up_other _ _ (by omega))]; rfl
set_option maxHeartbeats 4000000 in
set_option maxRecDepth 100000 in
theorem c_X6_scanNumber (l : Launch) (D : va_G) (Z : Nat → ClassId) (zs0 : Nat) (T le tt tw : Nat) (L : Nat → Nat) (sz n : Nat) (z : Nat → Nat) (told : Nat) (F G : Int32) (fl ap la : Nat) (hL : ∀ k, L k < 128) (hsz : sz ≤ 60) (hap : ap ≤ sz) : cMi l yX6_scanNumber wsX6_scanNumber (rmd 2) D Z zs0 [.ref T] [(T, .inr (6, [.ref le, .int (nI sz), .ref tt, .int (nI told), .int F, .int G, .int (nI fl), .int (nI ap), .int (nI la)])), (le, .inl (Z 2, 60, .inl (aI L))), (tt, .inr (5, [.int (nI n), .ref tw])), (tw, .inl (Z 0, 9, .inl (aI z)))] (S := Nat × Nat) (fun (r : Int32) (u : Nat × Nat) => match u with | (fl', ap') => (r = nI (scN L sz ap).2.1 ∧ ap' = (scN L sz ap).2.2 ∧ fl = fl' ∧ (scN L sz ap).1 = 1) ∨ (r = (-1) ∧ ap' = (scN L sz ap).2.2 ∧ fl' = (scN L sz ap).2.2 ∧ (scN L sz ap).1 = 0)) (fun (u : Nat × Nat) => match u with | (fl', ap') => [(T, .inr (6, [.ref le, .int (nI sz), .ref tt, .int (nI told), .int F, .int G, .int (nI fl'), .int (nI ap'), .int (nI la)])), (le, .inl (Z 2, 60, .inl (aI L))), (tt, .inr (5, [.int (nI n), .ref tw])), (tw, .inl (Z 0, 9, .inl (aI z)))]) 0 0 := by
  refine q_open (y := yX6_scanNumber) (ws := wsX6_scanNumber) (av := [.ref T]) (win := [(T, .inr (6, [.ref le, .int (nI sz), .ref tt, .int (nI told), .int F, .int G, .int (nI fl), .int (nI ap), .int (nI la)])), (le, .inl (Z 2, 60, .inl (aI L))), (tt, .inr (5, [.int (nI n), .ref tw])), (tw, .inl (Z 0, 9, .inl (aI z)))]) (Qc := fun zs0 => cQi D Z zs0 [(T, .inr (6, [.ref le, .int (nI sz), .ref tt, .int (nI told), .int F, .int G, .int (nI fl), .int (nI ap), .int (nI la)])), (le, .inl (Z 2, 60, .inl (aI L))), (tt, .inr (5, [.int (nI n), .ref tw])), (tw, .inl (Z 0, 9, .inl (aI z)))] (S := Nat × Nat) (fun (r : Int32) (u : Nat × Nat) => match u with | (fl', ap') => (r = nI (scN L sz ap).2.1 ∧ ap' = (scN L sz ap).2.2 ∧ fl = fl' ∧ (scN L sz ap).1 = 1) ∨ (r = (-1) ∧ ap' = (scN L sz ap).2.2 ∧ fl' = (scN L sz ap).2.2 ∧ (scN L sz ap).1 = 0)) (fun (u : Nat × Nat) => match u with | (fl', ap') => [(T, .inr (6, [.ref le, .int (nI sz), .ref tt, .int (nI told), .int F, .int G, .int (nI fl'), .int (nI ap'), .int (nI la)])), (le, .inl (Z 2, 60, .inl (aI L))), (tt, .inr (5, [.int (nI n), .ref tw])), (tw, .inl (Z 0, 9, .inl (aI z)))])) (cc := cX6_scanNumber) (maxL := 4) (ret := (some .int)) (by decide) rfl (Nat.le_of_ble_eq_true rfl) ?_
  intro pp ee s mm bw mt cd ls A H locs hAe hx hb hr hml hown hmn hts hlocks hA hK hw hl
  have hown : s.vm.findClass RX6 = some mm.cls := hown
  have hl : lv_has ls 4 [(0, .ref T)] := hl
  have wd1 := hts (.fieldLink RX6 26 "ReplaceAges$Text" "at" "I") (List.mem_of_getElem? (i := 1) rfl)
  have in_X6 : ∀ w ∈ wsX60, w ∈ wsX6_scanNumber := fun _ h => List.mem_cons_of_mem _ (List.mem_append_right _ h)
  have hsk := sk_le (L := L) hap
  refine lv_aload_n hx hb dX6_scanNumber_0 rfl (lv_at hl 0 rfl) ?_
  refine q_callv (S := Unit) (Z := Z) (D := D) (wc := [(T, .inr (6, [.ref le, .int (nI sz), .ref tt, .int (nI told), .int F, .int G, .int (nI fl), .int (nI ap), .int (nI la)])), (le, .inl (Z 2, 60, .inl (aI L))), (tt, .inr (5, [.int (nI n), .ref tw])), (tw, .inl (Z 0, 9, .inl (aI z)))]) (wr := []) (rest := []) hw hA [0, 1, 2, 3] [] rfl rfl rfl rfl (by decide) (fun hPc hDc => va_runV (As := []) (rest := []) ⟨hx, hb, hml, hown, hts⟩ (c_X6_skipBlanks l D Z H.size T le tt tw L sz n z told F G fl ap la (by first | assumption | omega) (by first | assumption | omega) (by first | assumption | omega)) (cwV 0 hts gX6_scanNumber_X6_skipBlanks rfl rfl rfl (by decide +kernel) ⟨Nat.le_of_ble_eq_true rfl, Nat.le_of_ble_eq_true rfl⟩) ⟨fb_cPre, va_recv hK.1 hPc (ci := 6) (q0 := 0) rfl rfl, pre_of hPc hK hDc⟩ rfl rfl hl.1 rfl (lv_room (Nat.le_of_ble_eq_true rfl)) dX6_scanNumber_1 ⟨Nat.le_of_ble_eq_true rfl, Nat.le_of_ble_eq_true rfl⟩) (fun u H locs hr1 hw => ?_)
  have hw : WS D A s [(T, .inr (6, [.ref le, .int (nI sz), .ref tt, .int (nI told), .int F, .int G, .int (nI fl), .int (nI (sk L sz ap)), .int (nI la)])), (le, .inl (Z 2, 60, .inl (aI L))), (tt, .inr (5, [.int (nI n), .ref tw])), (tw, .inl (Z 0, 9, .inl (aI z)))] H locs := hw
  refine q_iconst (v := 0) hx hb dX6_scanNumber_4 (by decide) ?_
  refine lv_istore_n (lv' := [(1, .int (nI 0)), (0, .ref T)]) hx hb dX6_scanNumber_5 rfl hl (by decide) rfl (fun ls hl => ?_)
  refine q_iconst (v := 0) hx hb dX6_scanNumber_6 (by decide) ?_
  refine lv_istore_n (lv' := [(2, .int (nI 0)), (1, .int (nI 0)), (0, .ref T)]) hx hb dX6_scanNumber_7 rfl hl (by decide) rfl (fun ls hl => ?_)
  refine lv_iload_n hx hb dX6_scanNumber_8 rfl (lv_at hl 0 rfl) ?_
  refine q_iconst (v := 2) hx hb dX6_scanNumber_9 (by decide) ?_
  refine q_icmp_ge (tgt := 66) hx hb ((0 : Nat) : Int) ((2 : Nat) : Int) (nI_toInt (by omega)) (nI_toInt (by omega)) dX6_scanNumber_10 (by decide) (fun c2 => ?_) (fun c2 => ?_)
  · --
    exfalso; omega
  · --
    refine lv_aload_n hx hb dX6_scanNumber_13 rfl (lv_at hl 2 rfl) ?_
    refine q_calli (S := Unit) (Z := Z) (D := D) (wc := [(T, .inr (6, [.ref le, .int (nI sz), .ref tt, .int (nI told), .int F, .int G, .int (nI fl), .int (nI (sk L sz ap)), .int (nI la)])), (le, .inl (Z 2, 60, .inl (aI L))), (tt, .inr (5, [.int (nI n), .ref tw])), (tw, .inl (Z 0, 9, .inl (aI z)))]) (wr := []) (rest := []) hw hA [0, 1, 2, 3] [] rfl rfl rfl rfl (by decide) (fun hPc hDc => va_runV (As := []) (rest := []) ⟨hx, hb, hml, hown, hts⟩ (c_X6_figure l D Z H.size T le tt tw L sz n z told F G fl (sk L sz ap) la (by first | assumption | omega) (by first | assumption | omega) (by first | assumption | omega)) (cwV 0 hts gX6_scanNumber_X6_figure rfl rfl rfl (by decide +kernel) ⟨Nat.le_of_ble_eq_true rfl, Nat.le_of_ble_eq_true rfl⟩) ⟨fb_cPre, va_recv hK.1 hPc (ci := 6) (q0 := 0) rfl rfl, pre_of hPc hK hDc⟩ rfl rfl hl.1 rfl (lv_room (Nat.le_of_ble_eq_true rfl)) dX6_scanNumber_14 ⟨Nat.le_of_ble_eq_true rfl, Nat.le_of_ble_eq_true rfl⟩) (fun r3 u H locs hr3 hw => ?_)
    subst hr3
    have hw : WS D A s [(T, .inr (6, [.ref le, .int (nI sz), .ref tt, .int (nI told), .int F, .int G, .int (nI fl), .int (nI (sk L sz ap)), .int (nI la)])), (le, .inl (Z 2, 60, .inl (aI L))), (tt, .inr (5, [.int (nI n), .ref tw])), (tw, .inl (Z 0, 9, .inl (aI z)))] H locs := hw
    by_cases q4 : fgr (ltr L sz (sk L sz ap))
    · --
      have hq4 := ltr_lt' (L := L) (sz := sz) (a := (sk L sz ap)) (by omega)
      refine q_topi (x := fgv (ltr L sz (sk L sz ap))) (y := nI (ltr L sz (sk L sz ap) - 48)) (fgv_in q4) ?_
      refine lv_istore_n (lv' := [(3, .int (nI (ltr L sz (sk L sz ap) - 48))), (2, .int (nI 0)), (1, .int (nI 0)), (0, .ref T)]) hx hb dX6_scanNumber_17 rfl hl (by decide) rfl (fun ls hl => ?_)
      refine lv_iload_n hx hb dX6_scanNumber_18 rfl (lv_at hl 0 rfl) ?_
      refine q_if_ge (tgt := 43) hx hb ((ltr L sz (sk L sz ap) - 48 : Nat) : Int) (nI_toInt (by omega)) dX6_scanNumber_19 (by decide) (fun c5 => ?_) (fun c5 => ?_)
      · --
        refine lv_iload_n hx hb dX6_scanNumber_43 rfl (lv_at hl 2 rfl) ?_
        refine q_bipush (v := 10) hx hb dX6_scanNumber_44 (by decide) ?_
        refine q_imul hx hb dX6_scanNumber_46 ?_
        refine lv_iload_n hx hb dX6_scanNumber_47 rfl (lv_at hl 0 rfl) ?_
        refine q_iadd hx hb dX6_scanNumber_48 ?_
        refine lv_istore_n (lv' := [(1, .int (nI (0 + (ltr L sz (sk L sz ap) - 48)))), (3, .int (nI (ltr L sz (sk L sz ap) - 48))), (2, .int (nI 0)), (0, .ref T)]) hx hb dX6_scanNumber_49 rfl hl (by decide) rfl (fun ls hl => ?_)
        refine lv_aload_n hx hb dX6_scanNumber_50 rfl (lv_at hl 3 rfl) ?_
        refine lv_dup hx hb dX6_scanNumber_51 rfl ?_
        refine q_get (v := .int (nI (sk L sz ap))) (ci := 6) hx hb hts in_X6 hown hK hw 0 7 wd1 dX6_scanNumber_52 rfl rfl (by decide) rfl ?_
        refine q_iconst (v := 1) hx hb dX6_scanNumber_55 (by decide) ?_
        refine q_iadd hx hb dX6_scanNumber_56 ?_
        refine q_put (v := .int (nI ((sk L sz ap) + 1))) (ci := 6) hx hb hts in_X6 tyX6 tyX6_ok nmX6 hown hK hw 0 7 wd1 dX6_scanNumber_57 rfl rfl (by decide) rfl rfl rfl (Nat.le_of_ble_eq_true rfl) (fun H locs hw => ?_)
        have hw : WS D A s [(T, .inr (6, [.ref le, .int (nI sz), .ref tt, .int (nI told), .int F, .int G, .int (nI fl), .int (nI ((sk L sz ap) + 1)), .int (nI la)])), (le, .inl (Z 2, 60, .inl (aI L))), (tt, .inr (5, [.int (nI n), .ref tw])), (tw, .inl (Z 0, 9, .inl (aI z)))] H locs := hw
        refine lv_iinc (v := nI 1) (lv' := [(2, .int (nI 1)), (1, .int (nI (0 + (ltr L sz (sk L sz ap) - 48)))), (3, .int (nI (ltr L sz (sk L sz ap) - 48))), (0, .ref T)]) hx hb dX6_scanNumber_60 hl (k := 2) rfl (by decide) (by decide) rfl (fun ls hl => ?_)
        refine lv_goto (tgt := 8) hx hb dX6_scanNumber_63 (by decide) ?_
        refine lv_iload_n hx hb dX6_scanNumber_8 rfl (lv_at hl 0 rfl) ?_
        refine q_iconst (v := 2) hx hb dX6_scanNumber_9 (by decide) ?_
        refine q_icmp_ge (tgt := 66) hx hb ((1 : Nat) : Int) ((2 : Nat) : Int) (nI_toInt (by omega)) (nI_toInt (by omega)) dX6_scanNumber_10 (by decide) (fun c6 => ?_) (fun c6 => ?_)
        · --
          exfalso; omega
        · --
          refine lv_aload_n hx hb dX6_scanNumber_13 rfl (lv_at hl 3 rfl) ?_
          refine q_calli (S := Unit) (Z := Z) (D := D) (wc := [(T, .inr (6, [.ref le, .int (nI sz), .ref tt, .int (nI told), .int F, .int G, .int (nI fl), .int (nI ((sk L sz ap) + 1)), .int (nI la)])), (le, .inl (Z 2, 60, .inl (aI L))), (tt, .inr (5, [.int (nI n), .ref tw])), (tw, .inl (Z 0, 9, .inl (aI z)))]) (wr := []) (rest := []) hw hA [0, 1, 2, 3] [] rfl rfl rfl rfl (by decide) (fun hPc hDc => va_runV (As := []) (rest := []) ⟨hx, hb, hml, hown, hts⟩ (c_X6_figure l D Z H.size T le tt tw L sz n z told F G fl ((sk L sz ap) + 1) la (by first | assumption | omega) (by first | assumption | omega) (by first | assumption | omega)) (cwV 0 hts gX6_scanNumber_X6_figure rfl rfl rfl (by decide +kernel) ⟨Nat.le_of_ble_eq_true rfl, Nat.le_of_ble_eq_true rfl⟩) ⟨fb_cPre, va_recv hK.1 hPc (ci := 6) (q0 := 0) rfl rfl, pre_of hPc hK hDc⟩ rfl rfl hl.1 rfl (lv_room (Nat.le_of_ble_eq_true rfl)) dX6_scanNumber_14 ⟨Nat.le_of_ble_eq_true rfl, Nat.le_of_ble_eq_true rfl⟩) (fun r7 u H locs hr7 hw => ?_)
          subst hr7
          have hw : WS D A s [(T, .inr (6, [.ref le, .int (nI sz), .ref tt, .int (nI told), .int F, .int G, .int (nI fl), .int (nI ((sk L sz ap) + 1)), .int (nI la)])), (le, .inl (Z 2, 60, .inl (aI L))), (tt, .inr (5, [.int (nI n), .ref tw])), (tw, .inl (Z 0, 9, .inl (aI z)))] H locs := hw
          by_cases q8 : fgr (ltr L sz ((sk L sz ap) + 1))
          · --
            have hq8 := ltr_lt' (L := L) (sz := sz) (a := ((sk L sz ap) + 1)) (by omega)
            refine q_topi (x := fgv (ltr L sz ((sk L sz ap) + 1))) (y := nI (ltr L sz ((sk L sz ap) + 1) - 48)) (fgv_in q8) ?_
            refine lv_istore_n (lv' := [(3, .int (nI (ltr L sz ((sk L sz ap) + 1) - 48))), (2, .int (nI 1)), (1, .int (nI (0 + (ltr L sz (sk L sz ap) - 48)))), (0, .ref T)]) hx hb dX6_scanNumber_17 rfl hl (by decide) rfl (fun ls hl => ?_)
            refine lv_iload_n hx hb dX6_scanNumber_18 rfl (lv_at hl 0 rfl) ?_
            refine q_if_ge (tgt := 43) hx hb ((ltr L sz ((sk L sz ap) + 1) - 48 : Nat) : Int) (nI_toInt (by omega)) dX6_scanNumber_19 (by decide) (fun c9 => ?_) (fun c9 => ?_)
            · --
              refine lv_iload_n hx hb dX6_scanNumber_43 rfl (lv_at hl 2 rfl) ?_
              refine q_bipush (v := 10) hx hb dX6_scanNumber_44 (by decide) ?_
              refine q_imul hx hb dX6_scanNumber_46 ?_
              refine lv_iload_n hx hb dX6_scanNumber_47 rfl (lv_at hl 0 rfl) ?_
              refine q_iadd hx hb dX6_scanNumber_48 ?_
              refine lv_istore_n (lv' := [(1, .int (nI ((0 + (ltr L sz (sk L sz ap) - 48)) * 10 + (ltr L sz ((sk L sz ap) + 1) - 48)))), (3, .int (nI (ltr L sz ((sk L sz ap) + 1) - 48))), (2, .int (nI 1)), (0, .ref T)]) hx hb dX6_scanNumber_49 rfl hl (by decide) rfl (fun ls hl => ?_)
              refine lv_aload_n hx hb dX6_scanNumber_50 rfl (lv_at hl 3 rfl) ?_
              refine lv_dup hx hb dX6_scanNumber_51 rfl ?_
              refine q_get (v := .int (nI ((sk L sz ap) + 1))) (ci := 6) hx hb hts in_X6 hown hK hw 0 7 wd1 dX6_scanNumber_52 rfl rfl (by decide) rfl ?_
              refine q_iconst (v := 1) hx hb dX6_scanNumber_55 (by decide) ?_
              refine q_iadd hx hb dX6_scanNumber_56 ?_
              refine q_put (v := .int (nI (((sk L sz ap) + 1) + 1))) (ci := 6) hx hb hts in_X6 tyX6 tyX6_ok nmX6 hown hK hw 0 7 wd1 dX6_scanNumber_57 rfl rfl (by decide) rfl rfl rfl (Nat.le_of_ble_eq_true rfl) (fun H locs hw => ?_)
              have hw : WS D A s [(T, .inr (6, [.ref le, .int (nI sz), .ref tt, .int (nI told), .int F, .int G, .int (nI fl), .int (nI (((sk L sz ap) + 1) + 1)), .int (nI la)])), (le, .inl (Z 2, 60, .inl (aI L))), (tt, .inr (5, [.int (nI n), .ref tw])), (tw, .inl (Z 0, 9, .inl (aI z)))] H locs := hw
              refine lv_iinc (v := nI 2) (lv' := [(2, .int (nI 2)), (1, .int (nI ((0 + (ltr L sz (sk L sz ap) - 48)) * 10 + (ltr L sz ((sk L sz ap) + 1) - 48)))), (3, .int (nI (ltr L sz ((sk L sz ap) + 1) - 48))), (0, .ref T)]) hx hb dX6_scanNumber_60 hl (k := 2) rfl (by decide) (by decide) rfl (fun ls hl => ?_)
              refine lv_goto (tgt := 8) hx hb dX6_scanNumber_63 (by decide) ?_
              refine lv_iload_n hx hb dX6_scanNumber_8 rfl (lv_at hl 0 rfl) ?_
              refine q_iconst (v := 2) hx hb dX6_scanNumber_9 (by decide) ?_
              refine q_icmp_ge (tgt := 66) hx hb ((2 : Nat) : Int) ((2 : Nat) : Int) (nI_toInt (by omega)) (nI_toInt (by omega)) dX6_scanNumber_10 (by decide) (fun c10 => ?_) (fun c10 => ?_)
              · --
                refine lv_aload_n hx hb dX6_scanNumber_66 rfl (lv_at hl 3 rfl) ?_
                refine q_calli (S := Unit) (Z := Z) (D := D) (wc := [(T, .inr (6, [.ref le, .int (nI sz), .ref tt, .int (nI told), .int F, .int G, .int (nI fl), .int (nI (((sk L sz ap) + 1) + 1)), .int (nI la)])), (le, .inl (Z 2, 60, .inl (aI L))), (tt, .inr (5, [.int (nI n), .ref tw])), (tw, .inl (Z 0, 9, .inl (aI z)))]) (wr := []) (rest := []) hw hA [0, 1, 2, 3] [] rfl rfl rfl rfl (by decide) (fun hPc hDc => va_runV (As := []) (rest := []) ⟨hx, hb, hml, hown, hts⟩ (c_X6_figure l D Z H.size T le tt tw L sz n z told F G fl (((sk L sz ap) + 1) + 1) la (by first | assumption | omega) (by first | assumption | omega) (by first | assumption | omega)) (cwV 0 hts gX6_scanNumber_X6_figure rfl rfl rfl (by decide +kernel) ⟨Nat.le_of_ble_eq_true rfl, Nat.le_of_ble_eq_true rfl⟩) ⟨fb_cPre, va_recv hK.1 hPc (ci := 6) (q0 := 0) rfl rfl, pre_of hPc hK hDc⟩ rfl rfl hl.1 rfl (lv_room (Nat.le_of_ble_eq_true rfl)) dX6_scanNumber_67 ⟨Nat.le_of_ble_eq_true rfl, Nat.le_of_ble_eq_true rfl⟩) (fun r11 u H locs hr11 hw => ?_)
                subst hr11
                have hw : WS D A s [(T, .inr (6, [.ref le, .int (nI sz), .ref tt, .int (nI told), .int F, .int G, .int (nI fl), .int (nI (((sk L sz ap) + 1) + 1)), .int (nI la)])), (le, .inl (Z 2, 60, .inl (aI L))), (tt, .inr (5, [.int (nI n), .ref tw])), (tw, .inl (Z 0, 9, .inl (aI z)))] H locs := hw
                by_cases q12 : fgr (ltr L sz (((sk L sz ap) + 1) + 1))
                · --
                  have hq12 := ltr_lt' (L := L) (sz := sz) (a := (((sk L sz ap) + 1) + 1)) (by omega)
                  refine q_topi (x := fgv (ltr L sz (((sk L sz ap) + 1) + 1))) (y := nI (ltr L sz (((sk L sz ap) + 1) + 1) - 48)) (fgv_in q12) ?_
                  refine q_if_lt (tgt := 84) hx hb ((ltr L sz (((sk L sz ap) + 1) + 1) - 48 : Nat) : Int) (nI_toInt (by omega)) dX6_scanNumber_70 (by decide) (fun c13 => ?_) (fun c13 => ?_)
                  · --
                    exfalso; omega
                  · --
                    refine lv_aload_n hx hb dX6_scanNumber_73 rfl (lv_at hl 3 rfl) ?_
                    refine lv_aload_n hx hb dX6_scanNumber_74 rfl (lv_at hl 3 rfl) ?_
                    refine q_get (v := .int (nI (((sk L sz ap) + 1) + 1))) (ci := 6) hx hb hts in_X6 hown hK hw 0 7 wd1 dX6_scanNumber_75 rfl rfl (by decide) rfl ?_
                    refine q_calli (S := Unit) (Z := Z) (D := D) (wc := [(T, .inr (6, [.ref le, .int (nI sz), .ref tt, .int (nI told), .int F, .int G, .int (nI fl), .int (nI (((sk L sz ap) + 1) + 1)), .int (nI la)])), (le, .inl (Z 2, 60, .inl (aI L))), (tt, .inr (5, [.int (nI n), .ref tw])), (tw, .inl (Z 0, 9, .inl (aI z)))]) (wr := []) (rest := []) hw hA [0, 1, 2, 3] [] rfl rfl rfl rfl (by decide) (fun hPc hDc => va_runV (As := [.int (nI (((sk L sz ap) + 1) + 1))]) (rest := []) ⟨hx, hb, hml, hown, hts⟩ (c_X6_faultAt l D Z H.size T le tt tw L sz n z told F G fl (((sk L sz ap) + 1) + 1) la (((sk L sz ap) + 1) + 1) ) (cwV 1 hts gX6_scanNumber_X6_faultAt rfl rfl rfl (by decide +kernel) ⟨Nat.le_of_ble_eq_true rfl, Nat.le_of_ble_eq_true rfl⟩) ⟨fb_cPre, va_recv hK.1 hPc (ci := 6) (q0 := 0) rfl rfl, pre_of hPc hK hDc⟩ rfl rfl hl.1 rfl (lv_room (Nat.le_of_ble_eq_true rfl)) dX6_scanNumber_78 ⟨Nat.le_of_ble_eq_true rfl, Nat.le_of_ble_eq_true rfl⟩) (fun r14 u H locs hr14 hw => ?_)
                    subst hr14
                    have hw : WS D A s [(T, .inr (6, [.ref le, .int (nI sz), .ref tt, .int (nI told), .int F, .int G, .int (nI (((sk L sz ap) + 1) + 1)), .int (nI (((sk L sz ap) + 1) + 1)), .int (nI la)])), (le, .inl (Z 2, 60, .inl (aI L))), (tt, .inr (5, [.int (nI n), .ref tw])), (tw, .inl (Z 0, 9, .inl (aI z)))] H locs := hw
                    refine q_if_eq (tgt := 88) hx hb ((0 : Nat) : Int) (nI_toInt (by omega)) dX6_scanNumber_81 (by decide) (fun c15 => ?_) (fun c15 => ?_)
                    · --
                      refine lv_iconst (v := (-1)) hx hb dX6_scanNumber_88 (by decide) ?_
                      exact q_iret (wout := _) hx hb hr hlocks hAe hK ((((sk L sz ap) + 1) + 1), (((sk L sz ap) + 1) + 1)) hw (by first | exact Or.inr (by rw [scN_0 (by assumption)]; dsimp only; exact ⟨rfl, rfl, rfl, rfl⟩) | exact Or.inl (by rw [scN_1 (by assumption) (by assumption)]; dsimp only; exact ⟨congrArg nI (by omega), rfl, rfl, rfl⟩) | exact Or.inl (by rw [scN_2 (by assumption) (by assumption) (by assumption)]; dsimp only; exact ⟨congrArg nI (by omega), rfl, rfl, rfl⟩) | exact Or.inr (by rw [scN_3 (by assumption) (by assumption) (by assumption)]; dsimp only; exact ⟨rfl, rfl, rfl, rfl⟩)) dX6_scanNumber_89
                    · --
                      exfalso; omega
                · --
                  refine q_topi (x := fgv (ltr L sz (((sk L sz ap) + 1) + 1))) (y := (-1)) (fgv_out q12) ?_
                  refine q_if_lt (tgt := 84) hx hb (-1) (by decide) dX6_scanNumber_70 (by decide) (fun c16 => ?_) (fun c16 => ?_)
                  · --
                    refine lv_iload_n hx hb dX6_scanNumber_84 rfl (lv_at hl 1 rfl) ?_
                    refine lv_goto (tgt := 89) hx hb dX6_scanNumber_85 (by decide) ?_
                    exact q_iret (wout := _) hx hb hr hlocks hAe hK (fl, (((sk L sz ap) + 1) + 1)) hw (by first | exact Or.inr (by rw [scN_0 (by assumption)]; dsimp only; exact ⟨rfl, rfl, rfl, rfl⟩) | exact Or.inl (by rw [scN_1 (by assumption) (by assumption)]; dsimp only; exact ⟨congrArg nI (by omega), rfl, rfl, rfl⟩) | exact Or.inl (by rw [scN_2 (by assumption) (by assumption) (by assumption)]; dsimp only; exact ⟨congrArg nI (by omega), rfl, rfl, rfl⟩) | exact Or.inr (by rw [scN_3 (by assumption) (by assumption) (by assumption)]; dsimp only; exact ⟨rfl, rfl, rfl, rfl⟩)) dX6_scanNumber_89
                  · --
                    exfalso; omega
              · --
                exfalso; omega
            · --
              exfalso; omega
          · --
            refine q_topi (x := fgv (ltr L sz ((sk L sz ap) + 1))) (y := (-1)) (fgv_out q8) ?_
            refine lv_istore_n (lv' := [(3, .int (-1)), (2, .int (nI 1)), (1, .int (nI (0 + (ltr L sz (sk L sz ap) - 48)))), (0, .ref T)]) hx hb dX6_scanNumber_17 rfl hl (by decide) rfl (fun ls hl => ?_)
            refine lv_iload_n hx hb dX6_scanNumber_18 rfl (lv_at hl 0 rfl) ?_
            refine q_if_ge (tgt := 43) hx hb (-1) (by decide) dX6_scanNumber_19 (by decide) (fun c17 => ?_) (fun c17 => ?_)
            · --
              exfalso; omega
            · --
              refine lv_iload_n hx hb dX6_scanNumber_22 rfl (lv_at hl 1 rfl) ?_
              refine q_if_gt (tgt := 37) hx hb ((1 : Nat) : Int) (nI_toInt (by omega)) dX6_scanNumber_23 (by decide) (fun c18 => ?_) (fun c18 => ?_)
              · --
                refine lv_iload_n hx hb dX6_scanNumber_37 rfl (lv_at hl 2 rfl) ?_
                refine lv_goto (tgt := 42) hx hb dX6_scanNumber_38 (by decide) ?_
                exact q_iret (wout := _) hx hb hr hlocks hAe hK (fl, ((sk L sz ap) + 1)) hw (by first | exact Or.inr (by rw [scN_0 (by assumption)]; dsimp only; exact ⟨rfl, rfl, rfl, rfl⟩) | exact Or.inl (by rw [scN_1 (by assumption) (by assumption)]; dsimp only; exact ⟨congrArg nI (by omega), rfl, rfl, rfl⟩) | exact Or.inl (by rw [scN_2 (by assumption) (by assumption) (by assumption)]; dsimp only; exact ⟨congrArg nI (by omega), rfl, rfl, rfl⟩) | exact Or.inr (by rw [scN_3 (by assumption) (by assumption) (by assumption)]; dsimp only; exact ⟨rfl, rfl, rfl, rfl⟩)) dX6_scanNumber_42
              · --
                exfalso; omega
      · --
        exfalso; omega
    · --
      refine q_topi (x := fgv (ltr L sz (sk L sz ap))) (y := (-1)) (fgv_out q4) ?_
      refine lv_istore_n (lv' := [(3, .int (-1)), (2, .int (nI 0)), (1, .int (nI 0)), (0, .ref T)]) hx hb dX6_scanNumber_17 rfl hl (by decide) rfl (fun ls hl => ?_)
      refine lv_iload_n hx hb dX6_scanNumber_18 rfl (lv_at hl 0 rfl) ?_
      refine q_if_ge (tgt := 43) hx hb (-1) (by decide) dX6_scanNumber_19 (by decide) (fun c19 => ?_) (fun c19 => ?_)
      · --
        exfalso; omega
      · --
        refine lv_iload_n hx hb dX6_scanNumber_22 rfl (lv_at hl 1 rfl) ?_
        refine q_if_gt (tgt := 37) hx hb ((0 : Nat) : Int) (nI_toInt (by omega)) dX6_scanNumber_23 (by decide) (fun c20 => ?_) (fun c20 => ?_)
        · --
          exfalso; omega
        · --
          refine lv_aload_n hx hb dX6_scanNumber_26 rfl (lv_at hl 3 rfl) ?_
          refine lv_aload_n hx hb dX6_scanNumber_27 rfl (lv_at hl 3 rfl) ?_
          refine q_get (v := .int (nI (sk L sz ap))) (ci := 6) hx hb hts in_X6 hown hK hw 0 7 wd1 dX6_scanNumber_28 rfl rfl (by decide) rfl ?_
          refine q_calli (S := Unit) (Z := Z) (D := D) (wc := [(T, .inr (6, [.ref le, .int (nI sz), .ref tt, .int (nI told), .int F, .int G, .int (nI fl), .int (nI (sk L sz ap)), .int (nI la)])), (le, .inl (Z 2, 60, .inl (aI L))), (tt, .inr (5, [.int (nI n), .ref tw])), (tw, .inl (Z 0, 9, .inl (aI z)))]) (wr := []) (rest := []) hw hA [0, 1, 2, 3] [] rfl rfl rfl rfl (by decide) (fun hPc hDc => va_runV (As := [.int (nI (sk L sz ap))]) (rest := []) ⟨hx, hb, hml, hown, hts⟩ (c_X6_faultAt l D Z H.size T le tt tw L sz n z told F G fl (sk L sz ap) la (sk L sz ap) ) (cwV 1 hts gX6_scanNumber_X6_faultAt rfl rfl rfl (by decide +kernel) ⟨Nat.le_of_ble_eq_true rfl, Nat.le_of_ble_eq_true rfl⟩) ⟨fb_cPre, va_recv hK.1 hPc (ci := 6) (q0 := 0) rfl rfl, pre_of hPc hK hDc⟩ rfl rfl hl.1 rfl (lv_room (Nat.le_of_ble_eq_true rfl)) dX6_scanNumber_31 ⟨Nat.le_of_ble_eq_true rfl, Nat.le_of_ble_eq_true rfl⟩) (fun r21 u H locs hr21 hw => ?_)
          subst hr21
          have hw : WS D A s [(T, .inr (6, [.ref le, .int (nI sz), .ref tt, .int (nI told), .int F, .int G, .int (nI (sk L sz ap)), .int (nI (sk L sz ap)), .int (nI la)])), (le, .inl (Z 2, 60, .inl (aI L))), (tt, .inr (5, [.int (nI n), .ref tw])), (tw, .inl (Z 0, 9, .inl (aI z)))] H locs := hw
          refine q_if_eq (tgt := 41) hx hb ((0 : Nat) : Int) (nI_toInt (by omega)) dX6_scanNumber_34 (by decide) (fun c22 => ?_) (fun c22 => ?_)
          · --
            refine lv_iconst (v := (-1)) hx hb dX6_scanNumber_41 (by decide) ?_
            exact q_iret (wout := _) hx hb hr hlocks hAe hK ((sk L sz ap), (sk L sz ap)) hw (by first | exact Or.inr (by rw [scN_0 (by assumption)]; dsimp only; exact ⟨rfl, rfl, rfl, rfl⟩) | exact Or.inl (by rw [scN_1 (by assumption) (by assumption)]; dsimp only; exact ⟨congrArg nI (by omega), rfl, rfl, rfl⟩) | exact Or.inl (by rw [scN_2 (by assumption) (by assumption) (by assumption)]; dsimp only; exact ⟨congrArg nI (by omega), rfl, rfl, rfl⟩) | exact Or.inr (by rw [scN_3 (by assumption) (by assumption) (by assumption)]; dsimp only; exact ⟨rfl, rfl, rfl, rfl⟩)) dX6_scanNumber_42
          · --
            exfalso; omega
set_option maxHeartbeats 4000000 in
set_option maxRecDepth 100000 in
theorem c_X6_scanWeights (l : Launch) (D : va_G) (Z : Nat → ClassId) (zs0 : Nat) (T le tt tw : Nat) (L : Nat → Nat) (sz n : Nat) (z : Nat → Nat) (told : Nat) (F G : Int32) (fl ap la : Nat) (hL : ∀ k, L k < 128) (hsz : sz ≤ 60) (hap : ap ≤ sz) : cMi l yX6_scanWeights wsX6_scanWeights (rmd 3) D Z zs0 [.ref T] [(T, .inr (6, [.ref le, .int (nI sz), .ref tt, .int (nI told), .int F, .int G, .int (nI fl), .int (nI ap), .int (nI la)])), (le, .inl (Z 2, 60, .inl (aI L))), (tt, .inr (5, [.int (nI n), .ref tw])), (tw, .inl (Z 0, 9, .inl (aI z)))] (S := Nat × (Nat → Nat) × Nat × Nat × Nat) (fun (r : Int32) (u : Nat × (Nat → Nat) × Nat × Nat × Nat) => match u with | (n', z', fl', ap', la') => (r = nI 1 ∧ (scW L sz 8 0 (fil z 9 0) ap la).1 = 1 ∧ n' = (scW L sz 8 0 (fil z 9 0) ap la).2.1 ∧ z' = (scW L sz 8 0 (fil z 9 0) ap la).2.2.1 ∧ ap' = (scW L sz 8 0 (fil z 9 0) ap la).2.2.2.1 ∧ la' = (scW L sz 8 0 (fil z 9 0) ap la).2.2.2.2 ∧ fl = fl') ∨ (r = nI 0 ∧ (scW L sz 8 0 (fil z 9 0) ap la).1 = 0 ∧ fl' = (scW L sz 8 0 (fil z 9 0) ap la).2.2.2.1)) (fun (u : Nat × (Nat → Nat) × Nat × Nat × Nat) => match u with | (n', z', fl', ap', la') => [(T, .inr (6, [.ref le, .int (nI sz), .ref tt, .int (nI told), .int F, .int G, .int (nI fl'), .int (nI ap'), .int (nI la')])), (le, .inl (Z 2, 60, .inl (aI L))), (tt, .inr (5, [.int (nI n'), .ref tw])), (tw, .inl (Z 0, 9, .inl (aI z')))]) 0 0 := by
  refine q_open (y := yX6_scanWeights) (ws := wsX6_scanWeights) (av := [.ref T]) (win := [(T, .inr (6, [.ref le, .int (nI sz), .ref tt, .int (nI told), .int F, .int G, .int (nI fl), .int (nI ap), .int (nI la)])), (le, .inl (Z 2, 60, .inl (aI L))), (tt, .inr (5, [.int (nI n), .ref tw])), (tw, .inl (Z 0, 9, .inl (aI z)))]) (Qc := fun zs0 => cQi D Z zs0 [(T, .inr (6, [.ref le, .int (nI sz), .ref tt, .int (nI told), .int F, .int G, .int (nI fl), .int (nI ap), .int (nI la)])), (le, .inl (Z 2, 60, .inl (aI L))), (tt, .inr (5, [.int (nI n), .ref tw])), (tw, .inl (Z 0, 9, .inl (aI z)))] (S := Nat × (Nat → Nat) × Nat × Nat × Nat) (fun (r : Int32) (u : Nat × (Nat → Nat) × Nat × Nat × Nat) => match u with | (n', z', fl', ap', la') => (r = nI 1 ∧ (scW L sz 8 0 (fil z 9 0) ap la).1 = 1 ∧ n' = (scW L sz 8 0 (fil z 9 0) ap la).2.1 ∧ z' = (scW L sz 8 0 (fil z 9 0) ap la).2.2.1 ∧ ap' = (scW L sz 8 0 (fil z 9 0) ap la).2.2.2.1 ∧ la' = (scW L sz 8 0 (fil z 9 0) ap la).2.2.2.2 ∧ fl = fl') ∨ (r = nI 0 ∧ (scW L sz 8 0 (fil z 9 0) ap la).1 = 0 ∧ fl' = (scW L sz 8 0 (fil z 9 0) ap la).2.2.2.1)) (fun (u : Nat × (Nat → Nat) × Nat × Nat × Nat) => match u with | (n', z', fl', ap', la') => [(T, .inr (6, [.ref le, .int (nI sz), .ref tt, .int (nI told), .int F, .int G, .int (nI fl'), .int (nI ap'), .int (nI la')])), (le, .inl (Z 2, 60, .inl (aI L))), (tt, .inr (5, [.int (nI n'), .ref tw])), (tw, .inl (Z 0, 9, .inl (aI z')))])) (cc := cX6_scanWeights) (maxL := 3) (ret := (some .boolean)) (by decide) rfl (Nat.le_of_ble_eq_true rfl) ?_
  intro pp ee s mm bw mt cd ls A H locs hAe hx hb hr hml hown hmn hts hlocks hA hK hw hl
  have hown : s.vm.findClass RX6 = some mm.cls := hown
  have hl : lv_has ls 3 [(0, .ref T)] := hl
  have wd1 := hts (.fieldLink RX6 18 "ReplaceAges$Text" "table" "LReplaceAges$Table;") (List.mem_of_getElem? (i := 1) rfl)
  have wd3 := hts (.fieldLink RX6 44 "ReplaceAges$Table" "n" "I") (List.mem_of_getElem? (i := 3) rfl)
  have wd2 := hts (.fieldLink RX6 26 "ReplaceAges$Text" "at" "I") (List.mem_of_getElem? (i := 2) rfl)
  have wd4 := hts (.fieldLink RX6 51 "ReplaceAges$Text" "lastWeightAt" "I") (List.mem_of_getElem? (i := 4) rfl)
  have in_X6 : ∀ w ∈ wsX60, w ∈ wsX6_scanWeights := fun _ h => List.mem_cons_of_mem _ (List.mem_append_left _ (List.mem_append_right _ h))
  have in_X5 : ∀ w ∈ wsX50, w ∈ wsX6_scanWeights := fun _ h => List.mem_cons_of_mem _ (List.mem_append_right _ h)
  refine lv_aload_n hx hb dX6_scanWeights_0 rfl (lv_at hl 0 rfl) ?_
  refine q_get (v := .ref tt) (ci := 6) hx hb hts in_X6 hown hK hw 0 2 wd1 dX6_scanWeights_1 rfl rfl (by decide) rfl ?_
  refine q_callv (S := Unit) (Z := Z) (D := D) (wc := [(tt, .inr (5, [.int (nI n), .ref tw])), (tw, .inl (Z 0, 9, .inl (aI z)))]) (wr := [(T, .inr (6, [.ref le, .int (nI sz), .ref tt, .int (nI told), .int F, .int G, .int (nI fl), .int (nI ap), .int (nI la)])), (le, .inl (Z 2, 60, .inl (aI L)))]) (rest := []) hw hA [2, 3] [0, 1] rfl rfl rfl rfl (by decide) (fun hPc hDc => va_runV (As := []) (rest := []) ⟨hx, hb, hml, hown, hts⟩ (c_X5_empty l D Z H.size tt tw n z ) (cwV 0 hts gX6_scanWeights_X5_empty rfl rfl rfl (by decide +kernel) ⟨Nat.le_of_ble_eq_true rfl, Nat.le_of_ble_eq_true rfl⟩) ⟨fb_cPre, va_recv hK.1 hPc (ci := 5) (q0 := 0) rfl rfl, pre_of hPc hK hDc⟩ rfl rfl hl.1 rfl (lv_room (Nat.le_of_ble_eq_true rfl)) dX6_scanWeights_4 ⟨Nat.le_of_ble_eq_true rfl, Nat.le_of_ble_eq_true rfl⟩) (fun u H locs hr1 hw => ?_)
  have hw : WS D A s [(T, .inr (6, [.ref le, .int (nI sz), .ref tt, .int (nI told), .int F, .int G, .int (nI fl), .int (nI ap), .int (nI la)])), (le, .inl (Z 2, 60, .inl (aI L))), (tt, .inr (5, [.int (nI 0), .ref tw])), (tw, .inl (Z 0, 9, .inl (aI (fil z 9 0))))] H locs := hw
  refine q_iconst (v := 1) hx hb dX6_scanWeights_7 (by decide) ?_
  refine lv_istore_n (lv' := [(1, .int (nI 1)), (0, .ref T)]) hx hb dX6_scanWeights_8 rfl hl (by decide) rfl (fun ls hl => ?_)
  refine q_loop (σ := Nat × (Nat → Nat) × Nat × Nat) (fun (x : Nat × (Nat → Nat) × Nat × Nat) => match x with | (k, y, b, g) => 8 - k) (fun (x : Nat × (Nat → Nat) × Nat × Nat) => match x with | (k, y, b, g) => k ≤ 7 ∧ b ≤ sz ∧ lf y k 0 ≤ 24 ∧ scW L sz (8 - k) k y b g = scW L sz 8 0 (fil z 9 0) ap la) (fun (x : Nat × (Nat → Nat) × Nat × Nat) => match x with | (k, y, b, g) => [(T, .inr (6, [.ref le, .int (nI sz), .ref tt, .int (nI told), .int F, .int G, .int (nI fl), .int (nI b), .int (nI g)])), (le, .inl (Z 2, 60, .inl (aI L))), (tt, .inr (5, [.int (nI k), .ref tw])), (tw, .inl (Z 0, 9, .inl (aI y)))]) (fun (x : Nat × (Nat → Nat) × Nat × Nat) => match x with | (k, y, b, g) => [(1, .int (nI (k + 1))), (0, .ref T)]) (0, fil z 9 0, ap, la) ⟨by omega, hap, Nat.zero_le _, rfl⟩ hw (lv_sub hl [0, 1] rfl) ?_
  intro ⟨k, y, b, g⟩ H locs ls hi9 hw hl ih9
  try dsimp only at hi9 hw hl ih9
  obtain ⟨q1, q2, q3, q4⟩ := hi9
  have hw : WS D A s [(T, .inr (6, [.ref le, .int (nI sz), .ref tt, .int (nI told), .int F, .int G, .int (nI fl), .int (nI b), .int (nI g)])), (le, .inl (Z 2, 60, .inl (aI L))), (tt, .inr (5, [.int (nI k), .ref tw])), (tw, .inl (Z 0, 9, .inl (aI y)))] H locs := hw
  have hl : lv_has ls 3 [(1, .int (nI (k + 1))), (0, .ref T)] := hl
  have hsk := sk_le (L := L) q2
  refine lv_iload_n hx hb dX6_scanWeights_9 rfl (lv_at hl 0 rfl) ?_
  refine q_bipush (v := 8) hx hb dX6_scanWeights_10 (by decide) ?_
  refine q_icmp_gt (tgt := 123) hx hb ((k + 1 : Nat) : Int) ((8 : Nat) : Int) (nI_toInt (by omega)) (nI_toInt (by omega)) dX6_scanWeights_12 (by decide) (fun c2 => ?_) (fun c2 => ?_)
  · --
    exfalso; omega
  · --
    refine lv_aload_n hx hb dX6_scanWeights_15 rfl (lv_at hl 1 rfl) ?_
    refine q_callv (S := Unit) (Z := Z) (D := D) (wc := [(T, .inr (6, [.ref le, .int (nI sz), .ref tt, .int (nI told), .int F, .int G, .int (nI fl), .int (nI b), .int (nI g)])), (le, .inl (Z 2, 60, .inl (aI L))), (tt, .inr (5, [.int (nI k), .ref tw])), (tw, .inl (Z 0, 9, .inl (aI y)))]) (wr := []) (rest := []) hw hA [0, 1, 2, 3] [] rfl rfl rfl rfl (by decide) (fun hPc hDc => va_runV (As := []) (rest := []) ⟨hx, hb, hml, hown, hts⟩ (c_X6_skipBlanks l D Z H.size T le tt tw L sz k y told F G fl b g (by first | assumption | omega) (by first | assumption | omega) (by first | assumption | omega)) (cwV 0 hts gX6_scanWeights_X6_skipBlanks rfl rfl rfl (by decide +kernel) ⟨Nat.le_of_ble_eq_true rfl, Nat.le_of_ble_eq_true rfl⟩) ⟨fb_cPre, va_recv hK.1 hPc (ci := 6) (q0 := 0) rfl rfl, pre_of hPc hK hDc⟩ rfl rfl hl.1 rfl (lv_room (Nat.le_of_ble_eq_true rfl)) dX6_scanWeights_16 ⟨Nat.le_of_ble_eq_true rfl, Nat.le_of_ble_eq_true rfl⟩) (fun u H locs hr3 hw => ?_)
    have hw : WS D A s [(T, .inr (6, [.ref le, .int (nI sz), .ref tt, .int (nI told), .int F, .int G, .int (nI fl), .int (nI (sk L sz b)), .int (nI g)])), (le, .inl (Z 2, 60, .inl (aI L))), (tt, .inr (5, [.int (nI k), .ref tw])), (tw, .inl (Z 0, 9, .inl (aI y)))] H locs := hw
    refine lv_aload_n hx hb dX6_scanWeights_19 rfl (lv_at hl 1 rfl) ?_
    refine q_calli (S := Unit) (Z := Z) (D := D) (wc := [(T, .inr (6, [.ref le, .int (nI sz), .ref tt, .int (nI told), .int F, .int G, .int (nI fl), .int (nI (sk L sz b)), .int (nI g)])), (le, .inl (Z 2, 60, .inl (aI L))), (tt, .inr (5, [.int (nI k), .ref tw])), (tw, .inl (Z 0, 9, .inl (aI y)))]) (wr := []) (rest := []) hw hA [0, 1, 2, 3] [] rfl rfl rfl rfl (by decide) (fun hPc hDc => va_runV (As := []) (rest := []) ⟨hx, hb, hml, hown, hts⟩ (c_X6_figure l D Z H.size T le tt tw L sz k y told F G fl (sk L sz b) g (by first | assumption | omega) (by first | assumption | omega) (by first | assumption | omega)) (cwV 0 hts gX6_scanWeights_X6_figure rfl rfl rfl (by decide +kernel) ⟨Nat.le_of_ble_eq_true rfl, Nat.le_of_ble_eq_true rfl⟩) ⟨fb_cPre, va_recv hK.1 hPc (ci := 6) (q0 := 0) rfl rfl, pre_of hPc hK hDc⟩ rfl rfl hl.1 rfl (lv_room (Nat.le_of_ble_eq_true rfl)) dX6_scanWeights_20 ⟨Nat.le_of_ble_eq_true rfl, Nat.le_of_ble_eq_true rfl⟩) (fun r4 u H locs hr4 hw => ?_)
    subst hr4
    have hw : WS D A s [(T, .inr (6, [.ref le, .int (nI sz), .ref tt, .int (nI told), .int F, .int G, .int (nI fl), .int (nI (sk L sz b)), .int (nI g)])), (le, .inl (Z 2, 60, .inl (aI L))), (tt, .inr (5, [.int (nI k), .ref tw])), (tw, .inl (Z 0, 9, .inl (aI y)))] H locs := hw
    by_cases hfg : fgr (ltr L sz (sk L sz b))
    · --
      have hlt := ltr_lt' (L := L) (sz := sz) (a := sk L sz b) (by omega)
      have hs2 := sk_le (L := L) (show sk L sz b + 1 ≤ sz by omega)
      refine q_topi (x := fgv (ltr L sz (sk L sz b))) (y := nI (ltr L sz (sk L sz b) - 48)) (fgv_in hfg) ?_
      refine lv_istore_n (lv' := [(2, .int (nI (ltr L sz (sk L sz b) - 48))), (1, .int (nI (k + 1))), (0, .ref T)]) hx hb dX6_scanWeights_23 rfl hl (by decide) rfl (fun ls hl => ?_)
      refine lv_iload_n hx hb dX6_scanWeights_24 rfl (lv_at hl 0 rfl) ?_
      refine q_if_lt (tgt := 42) hx hb ((ltr L sz (sk L sz b) - 48 : Nat) : Int) (nI_toInt (by omega)) dX6_scanWeights_25 (by decide) (fun c5 => ?_) (fun c5 => ?_)
      · --
        exfalso; omega
      · --
        refine lv_aload_n hx hb dX6_scanWeights_28 rfl (lv_at hl 2 rfl) ?_
        refine q_get (v := .ref tt) (ci := 6) hx hb hts in_X6 hown hK hw 0 2 wd1 dX6_scanWeights_29 rfl rfl (by decide) rfl ?_
        refine q_calli (S := Unit) (Z := Z) (D := D) (wc := [(tt, .inr (5, [.int (nI k), .ref tw])), (tw, .inl (Z 0, 9, .inl (aI y)))]) (wr := [(T, .inr (6, [.ref le, .int (nI sz), .ref tt, .int (nI told), .int F, .int G, .int (nI fl), .int (nI (sk L sz b)), .int (nI g)])), (le, .inl (Z 2, 60, .inl (aI L)))]) (rest := []) hw hA [2, 3] [0, 1] rfl rfl rfl rfl (by decide) (fun hPc hDc => va_runV (As := []) (rest := []) ⟨hx, hb, hml, hown, hts⟩ (c_X5_all l D Z H.size tt tw k y (by first | assumption | omega)) (cwV 0 hts gX6_scanWeights_X5_all rfl rfl rfl (by decide +kernel) ⟨Nat.le_of_ble_eq_true rfl, Nat.le_of_ble_eq_true rfl⟩) ⟨fb_cPre, va_recv hK.1 hPc (ci := 5) (q0 := 0) rfl rfl, pre_of hPc hK hDc⟩ rfl rfl hl.1 rfl (lv_room (Nat.le_of_ble_eq_true rfl)) dX6_scanWeights_32 ⟨Nat.le_of_ble_eq_true rfl, Nat.le_of_ble_eq_true rfl⟩) (fun r6 u H locs hr6 hw => ?_)
        subst hr6
        have hw : WS D A s [(T, .inr (6, [.ref le, .int (nI sz), .ref tt, .int (nI told), .int F, .int G, .int (nI fl), .int (nI (sk L sz b)), .int (nI g)])), (le, .inl (Z 2, 60, .inl (aI L))), (tt, .inr (5, [.int (nI k), .ref tw])), (tw, .inl (Z 0, 9, .inl (aI y)))] H locs := hw
        refine lv_iload_n hx hb dX6_scanWeights_35 rfl (lv_at hl 0 rfl) ?_
        refine q_iadd hx hb dX6_scanWeights_36 ?_
        refine q_bipush (v := 24) hx hb dX6_scanWeights_37 (by decide) ?_
        refine q_icmp_le (tgt := 51) hx hb ((lf y k 0 + (ltr L sz (sk L sz b) - 48) : Nat) : Int) ((24 : Nat) : Int) (nI_toInt (by omega)) (nI_toInt (by omega)) dX6_scanWeights_39 (by decide) (fun c7 => ?_) (fun c7 => ?_)
        · --
          refine lv_aload_n hx hb dX6_scanWeights_51 rfl (lv_at hl 2 rfl) ?_
          refine q_get (v := .ref tt) (ci := 6) hx hb hts in_X6 hown hK hw 0 2 wd1 dX6_scanWeights_52 rfl rfl (by decide) rfl ?_
          refine lv_iload_n hx hb dX6_scanWeights_55 rfl (lv_at hl 1 rfl) ?_
          refine q_put (v := .int (nI (k + 1))) (ci := 5) hx hb hts in_X5 tyX5 tyX5_ok nmX5 hown hK hw 2 0 wd3 dX6_scanWeights_56 rfl rfl (by decide) rfl rfl rfl (Nat.le_of_ble_eq_true rfl) (fun H locs hw => ?_)
          have hw : WS D A s [(T, .inr (6, [.ref le, .int (nI sz), .ref tt, .int (nI told), .int F, .int G, .int (nI fl), .int (nI (sk L sz b)), .int (nI g)])), (le, .inl (Z 2, 60, .inl (aI L))), (tt, .inr (5, [.int (nI (k + 1)), .ref tw])), (tw, .inl (Z 0, 9, .inl (aI y)))] H locs := hw
          refine lv_aload_n hx hb dX6_scanWeights_59 rfl (lv_at hl 2 rfl) ?_
          refine q_get (v := .ref tt) (ci := 6) hx hb hts in_X6 hown hK hw 0 2 wd1 dX6_scanWeights_60 rfl rfl (by decide) rfl ?_
          refine lv_iload_n hx hb dX6_scanWeights_63 rfl (lv_at hl 1 rfl) ?_
          refine lv_iload_n hx hb dX6_scanWeights_64 rfl (lv_at hl 0 rfl) ?_
          refine q_callv (S := Unit) (Z := Z) (D := D) (wc := [(tt, .inr (5, [.int (nI (k + 1)), .ref tw])), (tw, .inl (Z 0, 9, .inl (aI y)))]) (wr := [(T, .inr (6, [.ref le, .int (nI sz), .ref tt, .int (nI told), .int F, .int G, .int (nI fl), .int (nI (sk L sz b)), .int (nI g)])), (le, .inl (Z 2, 60, .inl (aI L)))]) (rest := []) hw hA [2, 3] [0, 1] rfl rfl rfl rfl (by decide) (fun hPc hDc => va_runV (As := [.int (nI (k + 1)), .int (nI (ltr L sz (sk L sz b) - 48))]) (rest := []) ⟨hx, hb, hml, hown, hts⟩ (c_X5_put l D Z H.size tt tw (k + 1) y (k + 1) (ltr L sz (sk L sz b) - 48) (by first | assumption | omega)) (cwV 2 hts gX6_scanWeights_X5_put rfl rfl rfl (by decide +kernel) ⟨Nat.le_of_ble_eq_true rfl, Nat.le_of_ble_eq_true rfl⟩) ⟨fb_cPre, va_recv hK.1 hPc (ci := 5) (q0 := 0) rfl rfl, pre_of hPc hK hDc⟩ rfl rfl hl.1 rfl (lv_room (Nat.le_of_ble_eq_true rfl)) dX6_scanWeights_65 ⟨Nat.le_of_ble_eq_true rfl, Nat.le_of_ble_eq_true rfl⟩) (fun u H locs hr8 hw => ?_)
          have hw : WS D A s [(T, .inr (6, [.ref le, .int (nI sz), .ref tt, .int (nI told), .int F, .int G, .int (nI fl), .int (nI (sk L sz b)), .int (nI g)])), (le, .inl (Z 2, 60, .inl (aI L))), (tt, .inr (5, [.int (nI (k + 1)), .ref tw])), (tw, .inl (Z 0, 9, .inl (aI (va_up y (k + 1) (ltr L sz (sk L sz b) - 48)))))] H locs := hw
          refine lv_aload_n hx hb dX6_scanWeights_68 rfl (lv_at hl 2 rfl) ?_
          refine lv_aload_n hx hb dX6_scanWeights_69 rfl (lv_at hl 2 rfl) ?_
          refine q_get (v := .int (nI (sk L sz b))) (ci := 6) hx hb hts in_X6 hown hK hw 0 7 wd2 dX6_scanWeights_70 rfl rfl (by decide) rfl ?_
          refine q_put (v := .int (nI (sk L sz b))) (ci := 6) hx hb hts in_X6 tyX6 tyX6_ok nmX6 hown hK hw 0 8 wd4 dX6_scanWeights_73 rfl rfl (by decide) rfl rfl rfl (Nat.le_of_ble_eq_true rfl) (fun H locs hw => ?_)
          have hw : WS D A s [(T, .inr (6, [.ref le, .int (nI sz), .ref tt, .int (nI told), .int F, .int G, .int (nI fl), .int (nI (sk L sz b)), .int (nI (sk L sz b))])), (le, .inl (Z 2, 60, .inl (aI L))), (tt, .inr (5, [.int (nI (k + 1)), .ref tw])), (tw, .inl (Z 0, 9, .inl (aI (va_up y (k + 1) (ltr L sz (sk L sz b) - 48)))))] H locs := hw
          refine lv_aload_n hx hb dX6_scanWeights_76 rfl (lv_at hl 2 rfl) ?_
          refine lv_dup hx hb dX6_scanWeights_77 rfl ?_
          refine q_get (v := .int (nI (sk L sz b))) (ci := 6) hx hb hts in_X6 hown hK hw 0 7 wd2 dX6_scanWeights_78 rfl rfl (by decide) rfl ?_
          refine q_iconst (v := 1) hx hb dX6_scanWeights_81 (by decide) ?_
          refine q_iadd hx hb dX6_scanWeights_82 ?_
          refine q_put (v := .int (nI ((sk L sz b) + 1))) (ci := 6) hx hb hts in_X6 tyX6 tyX6_ok nmX6 hown hK hw 0 7 wd2 dX6_scanWeights_83 rfl rfl (by decide) rfl rfl rfl (Nat.le_of_ble_eq_true rfl) (fun H locs hw => ?_)
          have hw : WS D A s [(T, .inr (6, [.ref le, .int (nI sz), .ref tt, .int (nI told), .int F, .int G, .int (nI fl), .int (nI ((sk L sz b) + 1)), .int (nI (sk L sz b))])), (le, .inl (Z 2, 60, .inl (aI L))), (tt, .inr (5, [.int (nI (k + 1)), .ref tw])), (tw, .inl (Z 0, 9, .inl (aI (va_up y (k + 1) (ltr L sz (sk L sz b) - 48)))))] H locs := hw
          refine lv_aload_n hx hb dX6_scanWeights_86 rfl (lv_at hl 2 rfl) ?_
          refine q_callv (S := Unit) (Z := Z) (D := D) (wc := [(T, .inr (6, [.ref le, .int (nI sz), .ref tt, .int (nI told), .int F, .int G, .int (nI fl), .int (nI ((sk L sz b) + 1)), .int (nI (sk L sz b))])), (le, .inl (Z 2, 60, .inl (aI L))), (tt, .inr (5, [.int (nI (k + 1)), .ref tw])), (tw, .inl (Z 0, 9, .inl (aI (va_up y (k + 1) (ltr L sz (sk L sz b) - 48)))))]) (wr := []) (rest := []) hw hA [0, 1, 2, 3] [] rfl rfl rfl rfl (by decide) (fun hPc hDc => va_runV (As := []) (rest := []) ⟨hx, hb, hml, hown, hts⟩ (c_X6_skipBlanks l D Z H.size T le tt tw L sz (k + 1) (va_up y (k + 1) (ltr L sz (sk L sz b) - 48)) told F G fl ((sk L sz b) + 1) (sk L sz b) (by first | assumption | omega) (by first | assumption | omega) (by first | assumption | omega)) (cwV 0 hts gX6_scanWeights_X6_skipBlanks rfl rfl rfl (by decide +kernel) ⟨Nat.le_of_ble_eq_true rfl, Nat.le_of_ble_eq_true rfl⟩) ⟨fb_cPre, va_recv hK.1 hPc (ci := 6) (q0 := 0) rfl rfl, pre_of hPc hK hDc⟩ rfl rfl hl.1 rfl (lv_room (Nat.le_of_ble_eq_true rfl)) dX6_scanWeights_87 ⟨Nat.le_of_ble_eq_true rfl, Nat.le_of_ble_eq_true rfl⟩) (fun u H locs hr9 hw => ?_)
          have hw : WS D A s [(T, .inr (6, [.ref le, .int (nI sz), .ref tt, .int (nI told), .int F, .int G, .int (nI fl), .int (nI (sk L sz ((sk L sz b) + 1))), .int (nI (sk L sz b))])), (le, .inl (Z 2, 60, .inl (aI L))), (tt, .inr (5, [.int (nI (k + 1)), .ref tw])), (tw, .inl (Z 0, 9, .inl (aI (va_up y (k + 1) (ltr L sz (sk L sz b) - 48)))))] H locs := hw
          refine lv_aload_n hx hb dX6_scanWeights_90 rfl (lv_at hl 2 rfl) ?_
          refine q_calli (S := Unit) (Z := Z) (D := D) (wc := [(T, .inr (6, [.ref le, .int (nI sz), .ref tt, .int (nI told), .int F, .int G, .int (nI fl), .int (nI (sk L sz ((sk L sz b) + 1))), .int (nI (sk L sz b))])), (le, .inl (Z 2, 60, .inl (aI L))), (tt, .inr (5, [.int (nI (k + 1)), .ref tw])), (tw, .inl (Z 0, 9, .inl (aI (va_up y (k + 1) (ltr L sz (sk L sz b) - 48)))))]) (wr := []) (rest := []) hw hA [0, 1, 2, 3] [] rfl rfl rfl rfl (by decide) (fun hPc hDc => va_runV (As := []) (rest := []) ⟨hx, hb, hml, hown, hts⟩ (c_X6_letter l D Z H.size T le tt tw L sz (k + 1) (va_up y (k + 1) (ltr L sz (sk L sz b) - 48)) told F G fl (sk L sz ((sk L sz b) + 1)) (sk L sz b) (by first | assumption | omega) (by first | assumption | omega) (by first | assumption | omega)) (cwV 0 hts gX6_scanWeights_X6_letter rfl rfl rfl (by decide +kernel) ⟨Nat.le_of_ble_eq_true rfl, Nat.le_of_ble_eq_true rfl⟩) ⟨fb_cPre, va_recv hK.1 hPc (ci := 6) (q0 := 0) rfl rfl, pre_of hPc hK hDc⟩ rfl rfl hl.1 rfl (lv_room (Nat.le_of_ble_eq_true rfl)) dX6_scanWeights_91 ⟨Nat.le_of_ble_eq_true rfl, Nat.le_of_ble_eq_true rfl⟩) (fun r10 u H locs hr10 hw => ?_)
          subst hr10
          have hw : WS D A s [(T, .inr (6, [.ref le, .int (nI sz), .ref tt, .int (nI told), .int F, .int G, .int (nI fl), .int (nI (sk L sz ((sk L sz b) + 1))), .int (nI (sk L sz b))])), (le, .inl (Z 2, 60, .inl (aI L))), (tt, .inr (5, [.int (nI (k + 1)), .ref tw])), (tw, .inl (Z 0, 9, .inl (aI (va_up y (k + 1) (ltr L sz (sk L sz b) - 48)))))] H locs := hw
          have hb2 := ltr_b (sz := sz) (a := sk L sz (sk L sz b + 1)) hL
          refine q_bipush (v := 44) hx hb dX6_scanWeights_94 (by decide) ?_
          refine q_icmp_ne (tgt := 105) hx hb ((ltr L sz (sk L sz ((sk L sz b) + 1)) : Nat) : Int) ((44 : Nat) : Int) (nI_toInt (by omega)) (nI_toInt (by omega)) dX6_scanWeights_96 (by decide) (fun c11 => ?_) (fun c11 => ?_)
          · --
            refine q_iconst (v := 1) hx hb dX6_scanWeights_105 (by decide) ?_
            exact q_zret (wout := _) hx hb hr hlocks hAe hK ((k + 1), (va_up y (k + 1) (ltr L sz (sk L sz b) - 48)), fl, (sk L sz ((sk L sz b) + 1)), (sk L sz b)) hw rfl (Or.inl (by rw [← q4, scW_e (r := 7 - k) (by omega) hfg (by omega) (by omega)]; exact ⟨rfl, rfl, rfl, rfl, rfl, rfl, rfl⟩)) dX6_scanWeights_106
          · --
            have hl2 := ltr_lt' (L := L) (sz := sz) (a := sk L sz (sk L sz b + 1)) (by omega)
            refine lv_iload_n hx hb dX6_scanWeights_99 rfl (lv_at hl 1 rfl) ?_
            refine q_bipush (v := 8) hx hb dX6_scanWeights_100 (by decide) ?_
            refine q_icmp_ne (tgt := 107) hx hb ((k + 1 : Nat) : Int) ((8 : Nat) : Int) (nI_toInt (by omega)) (nI_toInt (by omega)) dX6_scanWeights_102 (by decide) (fun c12 => ?_) (fun c12 => ?_)
            · --
              refine lv_aload_n hx hb dX6_scanWeights_107 rfl (lv_at hl 2 rfl) ?_
              refine lv_dup hx hb dX6_scanWeights_108 rfl ?_
              refine q_get (v := .int (nI (sk L sz ((sk L sz b) + 1)))) (ci := 6) hx hb hts in_X6 hown hK hw 0 7 wd2 dX6_scanWeights_109 rfl rfl (by decide) rfl ?_
              refine q_iconst (v := 1) hx hb dX6_scanWeights_112 (by decide) ?_
              refine q_iadd hx hb dX6_scanWeights_113 ?_
              refine q_put (v := .int (nI ((sk L sz ((sk L sz b) + 1)) + 1))) (ci := 6) hx hb hts in_X6 tyX6 tyX6_ok nmX6 hown hK hw 0 7 wd2 dX6_scanWeights_114 rfl rfl (by decide) rfl rfl rfl (Nat.le_of_ble_eq_true rfl) (fun H locs hw => ?_)
              have hw : WS D A s [(T, .inr (6, [.ref le, .int (nI sz), .ref tt, .int (nI told), .int F, .int G, .int (nI fl), .int (nI ((sk L sz ((sk L sz b) + 1)) + 1)), .int (nI (sk L sz b))])), (le, .inl (Z 2, 60, .inl (aI L))), (tt, .inr (5, [.int (nI (k + 1)), .ref tw])), (tw, .inl (Z 0, 9, .inl (aI (va_up y (k + 1) (ltr L sz (sk L sz b) - 48)))))] H locs := hw
              refine lv_iinc (v := nI (k + 1 + 1)) (lv' := [(1, .int (nI (k + 1 + 1))), (2, .int (nI (ltr L sz (sk L sz b) - 48))), (0, .ref T)]) hx hb dX6_scanWeights_117 hl (k := 1) rfl (nI_add _ _) (by decide) rfl (fun ls hl => ?_)
              refine lv_goto (tgt := 9) hx hb dX6_scanWeights_120 (by decide) ?_
              exact ih9 (k + 1, va_up y (k + 1) (ltr L sz (sk L sz b) - 48), sk L sz (sk L sz b + 1) + 1, sk L sz b) H locs ls (by dsimp only; omega) (by dsimp only; exact ⟨by omega, by omega, by rw [lf_push]; omega, by rw [← q4, scW_n (r := 7 - k) (by omega) hfg (by omega) (by omega) (by omega)]; rw [show 8 - (k + 1) = 7 - k by omega]⟩) hw (lv_sub hl [0, 2] rfl)
            · --
              refine q_iconst (v := 1) hx hb dX6_scanWeights_105 (by decide) ?_
              exact q_zret (wout := _) hx hb hr hlocks hAe hK ((k + 1), (va_up y (k + 1) (ltr L sz (sk L sz b) - 48)), fl, (sk L sz ((sk L sz b) + 1)), (sk L sz b)) hw rfl (Or.inl (by rw [← q4, scW_e (r := 7 - k) (by omega) hfg (by omega) (by omega)]; exact ⟨rfl, rfl, rfl, rfl, rfl, rfl, rfl⟩)) dX6_scanWeights_106
        · --
          refine lv_aload_n hx hb dX6_scanWeights_42 rfl (lv_at hl 2 rfl) ?_
          refine lv_aload_n hx hb dX6_scanWeights_43 rfl (lv_at hl 2 rfl) ?_
          refine q_get (v := .int (nI (sk L sz b))) (ci := 6) hx hb hts in_X6 hown hK hw 0 7 wd2 dX6_scanWeights_44 rfl rfl (by decide) rfl ?_
          refine q_calli (S := Unit) (Z := Z) (D := D) (wc := [(T, .inr (6, [.ref le, .int (nI sz), .ref tt, .int (nI told), .int F, .int G, .int (nI fl), .int (nI (sk L sz b)), .int (nI g)])), (le, .inl (Z 2, 60, .inl (aI L))), (tt, .inr (5, [.int (nI k), .ref tw])), (tw, .inl (Z 0, 9, .inl (aI y)))]) (wr := []) (rest := []) hw hA [0, 1, 2, 3] [] rfl rfl rfl rfl (by decide) (fun hPc hDc => va_runV (As := [.int (nI (sk L sz b))]) (rest := []) ⟨hx, hb, hml, hown, hts⟩ (c_X6_faultAt l D Z H.size T le tt tw L sz k y told F G fl (sk L sz b) g (sk L sz b) ) (cwV 1 hts gX6_scanWeights_X6_faultAt rfl rfl rfl (by decide +kernel) ⟨Nat.le_of_ble_eq_true rfl, Nat.le_of_ble_eq_true rfl⟩) ⟨fb_cPre, va_recv hK.1 hPc (ci := 6) (q0 := 0) rfl rfl, pre_of hPc hK hDc⟩ rfl rfl hl.1 rfl (lv_room (Nat.le_of_ble_eq_true rfl)) dX6_scanWeights_47 ⟨Nat.le_of_ble_eq_true rfl, Nat.le_of_ble_eq_true rfl⟩) (fun r13 u H locs hr13 hw => ?_)
          subst hr13
          have hw : WS D A s [(T, .inr (6, [.ref le, .int (nI sz), .ref tt, .int (nI told), .int F, .int G, .int (nI (sk L sz b)), .int (nI (sk L sz b)), .int (nI g)])), (le, .inl (Z 2, 60, .inl (aI L))), (tt, .inr (5, [.int (nI k), .ref tw])), (tw, .inl (Z 0, 9, .inl (aI y)))] H locs := hw
          exact q_zret (wout := _) hx hb hr hlocks hAe hK (k, y, (sk L sz b), (sk L sz b), g) hw rfl (Or.inr (by rw [← q4]; exact scW_f' (by omega) (by omega))) dX6_scanWeights_50
    · --
      refine q_topi (x := fgv (ltr L sz (sk L sz b))) (y := (-1)) (fgv_out hfg) ?_
      refine lv_istore_n (lv' := [(2, .int (-1)), (1, .int (nI (k + 1))), (0, .ref T)]) hx hb dX6_scanWeights_23 rfl hl (by decide) rfl (fun ls hl => ?_)
      refine lv_iload_n hx hb dX6_scanWeights_24 rfl (lv_at hl 0 rfl) ?_
      refine q_if_lt (tgt := 42) hx hb (-1) (by decide) dX6_scanWeights_25 (by decide) (fun c14 => ?_) (fun c14 => ?_)
      · --
        refine lv_aload_n hx hb dX6_scanWeights_42 rfl (lv_at hl 2 rfl) ?_
        refine lv_aload_n hx hb dX6_scanWeights_43 rfl (lv_at hl 2 rfl) ?_
        refine q_get (v := .int (nI (sk L sz b))) (ci := 6) hx hb hts in_X6 hown hK hw 0 7 wd2 dX6_scanWeights_44 rfl rfl (by decide) rfl ?_
        refine q_calli (S := Unit) (Z := Z) (D := D) (wc := [(T, .inr (6, [.ref le, .int (nI sz), .ref tt, .int (nI told), .int F, .int G, .int (nI fl), .int (nI (sk L sz b)), .int (nI g)])), (le, .inl (Z 2, 60, .inl (aI L))), (tt, .inr (5, [.int (nI k), .ref tw])), (tw, .inl (Z 0, 9, .inl (aI y)))]) (wr := []) (rest := []) hw hA [0, 1, 2, 3] [] rfl rfl rfl rfl (by decide) (fun hPc hDc => va_runV (As := [.int (nI (sk L sz b))]) (rest := []) ⟨hx, hb, hml, hown, hts⟩ (c_X6_faultAt l D Z H.size T le tt tw L sz k y told F G fl (sk L sz b) g (sk L sz b) ) (cwV 1 hts gX6_scanWeights_X6_faultAt rfl rfl rfl (by decide +kernel) ⟨Nat.le_of_ble_eq_true rfl, Nat.le_of_ble_eq_true rfl⟩) ⟨fb_cPre, va_recv hK.1 hPc (ci := 6) (q0 := 0) rfl rfl, pre_of hPc hK hDc⟩ rfl rfl hl.1 rfl (lv_room (Nat.le_of_ble_eq_true rfl)) dX6_scanWeights_47 ⟨Nat.le_of_ble_eq_true rfl, Nat.le_of_ble_eq_true rfl⟩) (fun r15 u H locs hr15 hw => ?_)
        subst hr15
        have hw : WS D A s [(T, .inr (6, [.ref le, .int (nI sz), .ref tt, .int (nI told), .int F, .int G, .int (nI (sk L sz b)), .int (nI (sk L sz b)), .int (nI g)])), (le, .inl (Z 2, 60, .inl (aI L))), (tt, .inr (5, [.int (nI k), .ref tw])), (tw, .inl (Z 0, 9, .inl (aI y)))] H locs := hw
        exact q_zret (wout := _) hx hb hr hlocks hAe hK (k, y, (sk L sz b), (sk L sz b), g) hw rfl (Or.inr (by rw [← q4]; exact scW_f' (by omega) (by omega))) dX6_scanWeights_50
      · --
        exfalso; omega
