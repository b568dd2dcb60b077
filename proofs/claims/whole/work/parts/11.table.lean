theorem sm_mono (w : Nat → Nat) (a : Nat) {c d : Nat} (h : c ≤ d) : sm w a c ≤ sm w a d := by
  induction d with
  | zero => rw [Nat.le_zero.mp h]; exact Nat.le_refl _
  | succ d ih =>
    rcases Nat.lt_or_ge c (d + 1) with h1 | h1
    · exact Nat.le_trans (ih (by omega)) (by simp only [sm]; omega)
    · rw [show c = d + 1 by omega]; exact Nat.le_refl _
theorem sm_at (w : Nat → Nat) (a : Nat) {c d : Nat} (h : c < d) : w (a + c) ≤ sm w a d := Nat.le_trans (by simp only [sm]; omega) (sm_mono w a (show c + 1 ≤ d from h))
theorem sm_cons (w : Nat → Nat) (a c : Nat) : sm w a (c + 1) = w a + sm w (a + 1) c := by
  induction c with
  | zero => simp [sm]
  | succ c ih => rw [sm, ih, sm, show a + (c + 1) = a + 1 + c by omega]; omega
theorem lf_step {w : Nat → Nat} {n j : Nat} (h : j < n) : lf w n j = w (j + 1) + lf w n (j + 1) := by
  unfold lf; rw [show n - j = (n - (j + 1)) + 1 by omega, sm_cons]
theorem lf_end {w : Nat → Nat} {n j : Nat} (h : n ≤ j) : lf w n j = 0 := by
  unfold lf; rw [show n - j = 0 by omega]; rfl
theorem lf_anti {w : Nat → Nat} {n i j : Nat} (h : i ≤ j) : lf w n j ≤ lf w n i := by
  induction j with
  | zero => rw [Nat.le_zero.mp h]; exact Nat.le_refl _
  | succ j ih =>
    rcases Nat.lt_or_ge i (j + 1) with h1 | h1
    · refine Nat.le_trans ?_ (ih (by omega))
      rcases Nat.lt_or_ge j n with h2 | h2
      · rw [lf_step h2]; omega
      · rw [lf_end (show n ≤ j + 1 by omega)]; omega
    · rw [show i = j + 1 by omega]; exact Nat.le_refl _
theorem wt_in {z : Nat → Nat} {n j : Nat} (h : 1 ≤ j ∧ j ≤ n) : wt z n j = z j := if_pos h
theorem wt_le {z : Nat → Nat} {n j : Nat} (_hn : n ≤ 8) : wt z n j ≤ lf z n 0 := by
  unfold wt; split
  · rename_i h
    have := sm_at z 1 (c := j - 1) (d := n) (by omega)
    rw [show 1 + (j - 1) = j by omega] at this; exact this
  · omega
set_option maxHeartbeats 4000000 in
set_option maxRecDepth 100000 in
theorem c_X5_weightOf (l : Launch) (D : va_G) (Z : Nat → ClassId) (sz : Nat) (t w n : Nat) (z : Nat → Nat) (j : Nat) (hn : n ≤ 8) (hj : j ≤ 9) : cMi l yX5_weightOf wsX5_weightOf (rmd 0) D Z sz [.ref t, .int (nI j)] [(t, .inr (5, [.int (nI n), .ref w])), (w, .inl (Z 0, 9, .inl (aI z)))] (S := Unit) (fun (r : Int32) => fun (_ : Unit) => r = nI (wt z n j)) (fun (_ : Unit) => [(t, .inr (5, [.int (nI n), .ref w])), (w, .inl (Z 0, 9, .inl (aI z)))]) 0 0 := by
  refine q_open (Qc := fun sz => cQi D Z sz [(t, .inr (5, [.int (nI n), .ref w])), (w, .inl (Z 0, 9, .inl (aI z)))] (S := Unit) _ _) (cc := cX5_weightOf) (maxL := 2) (ret := (some .int)) (by decide) rfl (Nat.le_of_ble_eq_true rfl) ?_
  intro pp ee s mm bw mt cd ls A H locs hAe hx hb hr hml hown hmn hts hlocks hA hK hw hl
  have hown : s.vm.findClass RX5 = some mm.cls := hown
  have hl : lv_has ls 2 [(0, .ref t), (1, .int (nI j))] := hl
  have wd1 := hts (.fieldLink RX5 9 "ReplaceAges$Table" "n" "I") (List.mem_of_getElem? (i := 1) rfl)
  have wd2 := hts (.fieldLink RX5 15 "ReplaceAges$Table" "weights" "[I") (List.mem_of_getElem? (i := 2) rfl)
  have in_X5 : ∀ w ∈ wsX50, w ∈ wsX5_weightOf := fun _ h => List.mem_cons_of_mem _ (List.mem_append_right _ h)
  refine lv_iload_n hx hb dX5_weightOf_0 rfl (lv_at hl 1 rfl) ?_
  refine q_iconst (v := 1) hx hb dX5_weightOf_1 (by decide) ?_
  refine q_icmp_lt (tgt := 31) hx hb ((j : Nat) : Int) ((1 : Nat) : Int) (nI_toInt (by omega)) (nI_toInt (by omega)) dX5_weightOf_2 (by decide) (fun c1 => ?_) (fun c1 => ?_)
  · --
    refine q_iconst (v := 0) hx hb dX5_weightOf_31 (by decide) ?_
    exact q_iret (wout := _) hx hb hr hlocks hAe hK () hw (by simp only [wt]; first | rw [if_pos (by omega)] | rw [if_neg (by omega)]) dX5_weightOf_32
  · --
    refine lv_iload_n hx hb dX5_weightOf_5 rfl (lv_at hl 1 rfl) ?_
    refine lv_aload_n hx hb dX5_weightOf_6 rfl (lv_at hl 0 rfl) ?_
    refine q_get (v := .int (nI n)) (ci := 5) hx hb hts in_X5 hown hK hw 0 0 wd1 dX5_weightOf_7 rfl rfl (by decide) rfl ?_
    refine q_icmp_gt (tgt := 31) hx hb ((j : Nat) : Int) ((n : Nat) : Int) (nI_toInt (by omega)) (nI_toInt (by omega)) dX5_weightOf_10 (by decide) (fun c2 => ?_) (fun c2 => ?_)
    · --
      refine q_iconst (v := 0) hx hb dX5_weightOf_31 (by decide) ?_
      exact q_iret (wout := _) hx hb hr hlocks hAe hK () hw (by simp only [wt]; first | rw [if_pos (by omega)] | rw [if_neg (by omega)]) dX5_weightOf_32
    · --
      refine lv_iload_n hx hb dX5_weightOf_13 rfl (lv_at hl 1 rfl) ?_
      refine lv_aload_n hx hb dX5_weightOf_14 rfl (lv_at hl 0 rfl) ?_
      refine q_get (v := .ref w) (ci := 5) hx hb hts in_X5 hown hK hw 0 1 wd2 dX5_weightOf_15 rfl rfl (by decide) rfl ?_
      refine q_aleni hx hb hK hw 1 0 dX5_weightOf_18 rfl rfl ?_
      refine q_icmp_ge (tgt := 31) hx hb ((j : Nat) : Int) ((9 : Nat) : Int) (nI_toInt (by omega)) (nI_toInt (by omega)) dX5_weightOf_19 (by decide) (fun c3 => ?_) (fun c3 => ?_)
      · --
        exfalso; omega
      · --
        refine lv_aload_n hx hb dX5_weightOf_22 rfl (lv_at hl 0 rfl) ?_
        refine q_get (v := .ref w) (ci := 5) hx hb hts in_X5 hown hK hw 0 1 wd2 dX5_weightOf_23 rfl rfl (by decide) rfl ?_
        refine lv_iload_n hx hb dX5_weightOf_26 rfl (lv_at hl 1 rfl) ?_
        refine q_iald hx hb hK hw 1 (by omega) (by omega) dX5_weightOf_27 rfl ?_
        refine lv_goto (tgt := 32) hx hb dX5_weightOf_28 (by decide) ?_
        exact q_iret (wout := _) hx hb hr hlocks hAe hK () hw (by simp only [wt]; first | rw [if_pos (by omega)] | rw [if_neg (by omega)]) dX5_weightOf_32
set_option maxHeartbeats 4000000 in
set_option maxRecDepth 100000 in
theorem c_X5_put (l : Launch) (D : va_G) (Z : Nat → ClassId) (sz : Nat) (t w n : Nat) (z : Nat → Nat) (j v : Nat) (hj : 1 ≤ j ∧ j ≤ 8) : cMv l yX5_put wsX5_put (rmd 0) D Z sz [.ref t, .int (nI j), .int (nI v)] [(t, .inr (5, [.int (nI n), .ref w])), (w, .inl (Z 0, 9, .inl (aI z)))] (S := Unit) (fun (_ : Unit) => True) (fun (_ : Unit) => [(t, .inr (5, [.int (nI n), .ref w])), (w, .inl (Z 0, 9, .inl (aI (va_up z j v))))]) 0 0 := by
  refine q_open (Qc := fun sz => cQv D Z sz [(t, .inr (5, [.int (nI n), .ref w])), (w, .inl (Z 0, 9, .inl (aI z)))] (S := Unit) _ _) (cc := cX5_put) (maxL := 3) (ret := none) (by decide) rfl (Nat.le_of_ble_eq_true rfl) ?_
  intro pp ee s mm bw mt cd ls A H locs hAe hx hb hr hml hown hmn hts hlocks hA hK hw hl
  have hown : s.vm.findClass RX5 = some mm.cls := hown
  have hl : lv_has ls 3 [(0, .ref t), (1, .int (nI j)), (2, .int (nI v))] := hl
  have wd1 := hts (.fieldLink RX5 15 "ReplaceAges$Table" "weights" "[I") (List.mem_of_getElem? (i := 1) rfl)
  have in_X5 : ∀ w ∈ wsX50, w ∈ wsX5_put := fun _ h => List.mem_cons_of_mem _ (List.mem_append_right _ h)
  refine lv_iload_n hx hb dX5_put_0 rfl (lv_at hl 1 rfl) ?_
  refine q_iconst (v := 1) hx hb dX5_put_1 (by decide) ?_
  refine q_icmp_lt (tgt := 21) hx hb ((j : Nat) : Int) ((1 : Nat) : Int) (nI_toInt (by omega)) (nI_toInt (by omega)) dX5_put_2 (by decide) (fun c1 => ?_) (fun c1 => ?_)
  · --
    exfalso; omega
  · --
    refine lv_iload_n hx hb dX5_put_5 rfl (lv_at hl 1 rfl) ?_
    refine lv_aload_n hx hb dX5_put_6 rfl (lv_at hl 0 rfl) ?_
    refine q_get (v := .ref w) (ci := 5) hx hb hts in_X5 hown hK hw 0 1 wd1 dX5_put_7 rfl rfl (by decide) rfl ?_
    refine q_aleni hx hb hK hw 1 0 dX5_put_10 rfl rfl ?_
    refine q_icmp_ge (tgt := 21) hx hb ((j : Nat) : Int) ((9 : Nat) : Int) (nI_toInt (by omega)) (nI_toInt (by omega)) dX5_put_11 (by decide) (fun c2 => ?_) (fun c2 => ?_)
    · --
      exfalso; omega
    · --
      refine lv_aload_n hx hb dX5_put_14 rfl (lv_at hl 0 rfl) ?_
      refine q_get (v := .ref w) (ci := 5) hx hb hts in_X5 hown hK hw 0 1 wd1 dX5_put_15 rfl rfl (by decide) rfl ?_
      refine lv_iload_n hx hb dX5_put_18 rfl (lv_at hl 1 rfl) ?_
      refine lv_iload_n hx hb dX5_put_19 rfl (lv_at hl 2 rfl) ?_
      refine q_iast hx hb hK hw 1 (by omega) (by omega) dX5_put_20 rfl (fun H locs hw => ?_)
      have hw : WS D A s [(t, .inr (5, [.int (nI n), .ref w])), (w, .inl (Z 0, 9, .inl (aI (va_up z j v))))] H locs := hw
      exact q_vret (wout := _) hx hb hr hlocks hAe hK () hw (trivial) dX5_put_21
set_option maxHeartbeats 4000000 in
set_option maxRecDepth 100000 in
theorem c_X5_left (l : Launch) (D : va_G) (Z : Nat → ClassId) (sz : Nat) (t w n : Nat) (z : Nat → Nat) (j : Nat) (hn : n ≤ 8) (hj : j ≤ 8) : cMi l yX5_left wsX5_left (rmd 1) D Z sz [.ref t, .int (nI j)] [(t, .inr (5, [.int (nI n), .ref w])), (w, .inl (Z 0, 9, .inl (aI z)))] (S := Unit) (fun (r : Int32) => fun (_ : Unit) => r = nI (lf z n j)) (fun (_ : Unit) => [(t, .inr (5, [.int (nI n), .ref w])), (w, .inl (Z 0, 9, .inl (aI z)))]) 0 0 := by
  refine q_open (Qc := fun sz => cQi D Z sz [(t, .inr (5, [.int (nI n), .ref w])), (w, .inl (Z 0, 9, .inl (aI z)))] (S := Unit) _ _) (cc := cX5_left) (maxL := 4) (ret := (some .int)) (by decide) rfl (Nat.le_of_ble_eq_true rfl) ?_
  intro pp ee s mm bw mt cd ls A H locs hAe hx hb hr hml hown hmn hts hlocks hA hK hw hl
  have hown : s.vm.findClass RX5 = some mm.cls := hown
  have hl : lv_has ls 4 [(0, .ref t), (1, .int (nI j))] := hl
  have wd1 := hts (.fieldLink RX5 9 "ReplaceAges$Table" "n" "I") (List.mem_of_getElem? (i := 1) rfl)
  have in_X5 : ∀ w ∈ wsX50, w ∈ wsX5_left := fun _ h => List.mem_cons_of_mem _ (List.mem_append_right _ h)
  refine q_iconst (v := 0) hx hb dX5_left_0 (by decide) ?_
  refine lv_istore_n (lv' := [(2, .int (nI 0)), (0, .ref t), (1, .int (nI j))]) hx hb dX5_left_1 rfl hl (by decide) rfl (fun ls hl => ?_)
  refine lv_iload_n hx hb dX5_left_2 rfl (lv_at hl 2 rfl) ?_
  refine q_iconst (v := 1) hx hb dX5_left_3 (by decide) ?_
  refine q_iadd hx hb dX5_left_4 ?_
  refine lv_istore_n (lv' := [(3, .int (nI (j + 1))), (2, .int (nI 0)), (0, .ref t), (1, .int (nI j))]) hx hb dX5_left_5 rfl hl (by decide) rfl (fun ls hl => ?_)
  refine q_loop (σ := Nat) (fun (c : Nat) => n - j - c) (fun (c : Nat) => c ≤ n - j) (fun (c : Nat) => [(t, .inr (5, [.int (nI n), .ref w])), (w, .inl (Z 0, 9, .inl (aI z)))]) (fun (c : Nat) => [(3, .int (nI (j + 1 + c))), (2, .int (nI (sm z (j + 1) c))), (0, .ref t), (1, .int (nI j))]) 0 (Nat.zero_le _) hw (lv_sub hl [0, 1, 2, 3] rfl) ?_
  intro c H locs ls hi6 hw hl ih6
  try dsimp only at hi6 hw hl ih6
  have hw : WS D A s [(t, .inr (5, [.int (nI n), .ref w])), (w, .inl (Z 0, 9, .inl (aI z)))] H locs := hw
  have hl : lv_has ls 4 [(3, .int (nI (j + 1 + c))), (2, .int (nI (sm z (j + 1) c))), (0, .ref t), (1, .int (nI j))] := hl
  refine lv_iload_n hx hb dX5_left_6 rfl (lv_at hl 0 rfl) ?_
  refine lv_aload_n hx hb dX5_left_7 rfl (lv_at hl 2 rfl) ?_
  refine q_get (v := .int (nI n)) (ci := 5) hx hb hts in_X5 hown hK hw 0 0 wd1 dX5_left_8 rfl rfl (by decide) rfl ?_
  refine q_icmp_gt (tgt := 28) hx hb ((j + 1 + c : Nat) : Int) ((n : Nat) : Int) (nI_toInt (by omega)) (nI_toInt (by omega)) dX5_left_11 (by decide) (fun c1 => ?_) (fun c1 => ?_)
  · --
    refine lv_iload_n hx hb dX5_left_28 rfl (lv_at hl 1 rfl) ?_
    exact q_iret (wout := _) hx hb hr hlocks hAe hK () hw (by rw [show c = n - j by omega]; rfl) dX5_left_29
  · --
    refine lv_iload_n hx hb dX5_left_14 rfl (lv_at hl 1 rfl) ?_
    refine lv_aload_n hx hb dX5_left_15 rfl (lv_at hl 2 rfl) ?_
    refine lv_iload_n hx hb dX5_left_16 rfl (lv_at hl 0 rfl) ?_
    refine q_calli (S := Unit) (Z := Z) (D := D) (wc := [(t, .inr (5, [.int (nI n), .ref w])), (w, .inl (Z 0, 9, .inl (aI z)))]) (wr := []) (rest := [.int (nI (sm z (j + 1) c))]) hw hA [0, 1] [] rfl rfl rfl rfl (by decide) (fun hPc hDc => va_runV (As := [.int (nI (j + 1 + c))]) (rest := [.int (nI (sm z (j + 1) c))]) ⟨hx, hb, hml, hown, hts⟩ (c_X5_weightOf l D Z H.size t w n z (j + 1 + c) (by first | assumption | omega) (by first | assumption | omega)) (cwV 1 hts gX5_left_X5_weightOf rfl rfl rfl (by decide +kernel) ⟨Nat.le_of_ble_eq_true rfl, Nat.le_of_ble_eq_true rfl⟩) ⟨fb_cPre, va_recv hK.1 hPc (ci := 5) (q0 := 0) rfl rfl, pre_of hPc hK hDc⟩ rfl rfl hl.1 rfl (lv_room (Nat.le_of_ble_eq_true rfl)) dX5_left_17 ⟨Nat.le_of_ble_eq_true rfl, Nat.le_of_ble_eq_true rfl⟩) (fun r2 u H locs hr2 hw => ?_)
    subst hr2
    have hw : WS D A s [(t, .inr (5, [.int (nI n), .ref w])), (w, .inl (Z 0, 9, .inl (aI z)))] H locs := hw
    refine q_topi (x := nI (wt z n (j + 1 + c))) (y := nI (z (j + 1 + c))) (congrArg nI (by simp only [wt]; rw [if_pos (by omega)])) ?_
    refine q_iadd hx hb dX5_left_20 ?_
    refine lv_istore_n (lv' := [(2, .int (nI (sm z (j + 1) c + (z (j + 1 + c))))), (3, .int (nI (j + 1 + c))), (0, .ref t), (1, .int (nI j))]) hx hb dX5_left_21 rfl hl (by decide) rfl (fun ls hl => ?_)
    refine lv_iinc (v := nI (j + 1 + c + 1)) (lv' := [(3, .int (nI (j + 1 + c + 1))), (2, .int (nI (sm z (j + 1) c + (z (j + 1 + c))))), (0, .ref t), (1, .int (nI j))]) hx hb dX5_left_22 hl (k := 1) rfl (nI_add _ _) (by decide) rfl (fun ls hl => ?_)
    refine lv_goto (tgt := 6) hx hb dX5_left_25 (by decide) ?_
    exact ih6 (c + 1) H locs ls (by omega) (by omega) hw (lv_sub hl [0, 1, 2, 3] rfl)
set_option maxHeartbeats 4000000 in
set_option maxRecDepth 100000 in
theorem c_X5_all (l : Launch) (D : va_G) (Z : Nat → ClassId) (sz : Nat) (t w n : Nat) (z : Nat → Nat) (hn : n ≤ 8) : cMi l yX5_all wsX5_all (rmd 2) D Z sz [.ref t] [(t, .inr (5, [.int (nI n), .ref w])), (w, .inl (Z 0, 9, .inl (aI z)))] (S := Unit) (fun (r : Int32) => fun (_ : Unit) => r = nI (lf z n 0)) (fun (_ : Unit) => [(t, .inr (5, [.int (nI n), .ref w])), (w, .inl (Z 0, 9, .inl (aI z)))]) 0 0 := by
  refine q_open (Qc := fun sz => cQi D Z sz [(t, .inr (5, [.int (nI n), .ref w])), (w, .inl (Z 0, 9, .inl (aI z)))] (S := Unit) _ _) (cc := cX5_all) (maxL := 1) (ret := (some .int)) (by decide) rfl (Nat.le_of_ble_eq_true rfl) ?_
  intro pp ee s mm bw mt cd ls A H locs hAe hx hb hr hml hown hmn hts hlocks hA hK hw hl
  have hown : s.vm.findClass RX5 = some mm.cls := hown
  have hl : lv_has ls 1 [(0, .ref t)] := hl
  refine lv_aload_n hx hb dX5_all_0 rfl (lv_at hl 0 rfl) ?_
  refine q_iconst (v := 0) hx hb dX5_all_1 (by decide) ?_
  refine q_calli (S := Unit) (Z := Z) (D := D) (wc := [(t, .inr (5, [.int (nI n), .ref w])), (w, .inl (Z 0, 9, .inl (aI z)))]) (wr := []) (rest := []) hw hA [0, 1] [] rfl rfl rfl rfl (by decide) (fun hPc hDc => va_runV (As := [.int (nI 0)]) (rest := []) ⟨hx, hb, hml, hown, hts⟩ (c_X5_left l D Z H.size t w n z 0 (by first | assumption | omega) (by first | assumption | omega)) (cwV 1 hts gX5_all_X5_left rfl rfl rfl (by decide +kernel) ⟨Nat.le_of_ble_eq_true rfl, Nat.le_of_ble_eq_true rfl⟩) ⟨fb_cPre, va_recv hK.1 hPc (ci := 5) (q0 := 0) rfl rfl, pre_of hPc hK hDc⟩ rfl rfl hl.1 rfl (lv_room (Nat.le_of_ble_eq_true rfl)) dX5_all_2 ⟨Nat.le_of_ble_eq_true rfl, Nat.le_of_ble_eq_true rfl⟩) (fun r1 u H locs hr1 hw => ?_)
  subst hr1
  have hw : WS D A s [(t, .inr (5, [.int (nI n), .ref w])), (w, .inl (Z 0, 9, .inl (aI z)))] H locs := hw
  exact q_iret (wout := _) hx hb hr hlocks hAe hK () hw (by first | rfl | trivial) dX5_all_5
set_option maxHeartbeats 4000000 in
set_option maxRecDepth 100000 in
theorem c_X5_mayHold (l : Launch) (D : va_G) (Z : Nat → ClassId) (sz : Nat) (t w n : Nat) (z : Nat → Nat) (j v : Nat) (hn : n ≤ 8) (hs : lf z n 0 ≤ 24) (hj : 1 ≤ j ∧ j ≤ n) (hv : v ≤ 9) : cMi l yX5_mayHold wsX5_mayHold (rmd 3) D Z sz [.ref t, .int (nI j), .int (nI v)] [(t, .inr (5, [.int (nI n), .ref w])), (w, .inl (Z 0, 9, .inl (aI z)))] (S := Unit) (fun (r : Int32) => fun (_ : Unit) => r = nI (bb (lf z n 0 - wt z n j + v ≤ 24 ∧ (j ≠ n ∨ v ≠ 0)))) (fun (_ : Unit) => [(t, .inr (5, [.int (nI n), .ref w])), (w, .inl (Z 0, 9, .inl (aI z)))]) 0 0 := by
  refine q_open (Qc := fun sz => cQi D Z sz [(t, .inr (5, [.int (nI n), .ref w])), (w, .inl (Z 0, 9, .inl (aI z)))] (S := Unit) _ _) (cc := cX5_mayHold) (maxL := 3) (ret := (some .boolean)) (by decide) rfl (Nat.le_of_ble_eq_true rfl) ?_
  intro pp ee s mm bw mt cd ls A H locs hAe hx hb hr hml hown hmn hts hlocks hA hK hw hl
  have hown : s.vm.findClass RX5 = some mm.cls := hown
  have hl : lv_has ls 3 [(0, .ref t), (1, .int (nI j)), (2, .int (nI v))] := hl
  have wd1 := hts (.fieldLink RX5 9 "ReplaceAges$Table" "n" "I") (List.mem_of_getElem? (i := 1) rfl)
  have in_X5 : ∀ w ∈ wsX50, w ∈ wsX5_mayHold := fun _ h => List.mem_cons_of_mem _ (List.mem_append_right _ h)
  have hq := wt_le hn (z := z) (j := j)
  refine lv_aload_n hx hb dX5_mayHold_0 rfl (lv_at hl 0 rfl) ?_
  refine q_calli (S := Unit) (Z := Z) (D := D) (wc := [(t, .inr (5, [.int (nI n), .ref w])), (w, .inl (Z 0, 9, .inl (aI z)))]) (wr := []) (rest := []) hw hA [0, 1] [] rfl rfl rfl rfl (by decide) (fun hPc hDc => va_runV (As := []) (rest := []) ⟨hx, hb, hml, hown, hts⟩ (c_X5_all l D Z H.size t w n z (by first | assumption | omega)) (cwV 0 hts gX5_mayHold_X5_all rfl rfl rfl (by decide +kernel) ⟨Nat.le_of_ble_eq_true rfl, Nat.le_of_ble_eq_true rfl⟩) ⟨fb_cPre, va_recv hK.1 hPc (ci := 5) (q0 := 0) rfl rfl, pre_of hPc hK hDc⟩ rfl rfl hl.1 rfl (lv_room (Nat.le_of_ble_eq_true rfl)) dX5_mayHold_1 ⟨Nat.le_of_ble_eq_true rfl, Nat.le_of_ble_eq_true rfl⟩) (fun r1 u H locs hr1 hw => ?_)
  subst hr1
  have hw : WS D A s [(t, .inr (5, [.int (nI n), .ref w])), (w, .inl (Z 0, 9, .inl (aI z)))] H locs := hw
  refine lv_aload_n hx hb dX5_mayHold_4 rfl (lv_at hl 0 rfl) ?_
  refine lv_iload_n hx hb dX5_mayHold_5 rfl (lv_at hl 1 rfl) ?_
  refine q_calli (S := Unit) (Z := Z) (D := D) (wc := [(t, .inr (5, [.int (nI n), .ref w])), (w, .inl (Z 0, 9, .inl (aI z)))]) (wr := []) (rest := [.int (nI (lf z n 0))]) hw hA [0, 1] [] rfl rfl rfl rfl (by decide) (fun hPc hDc => va_runV (As := [.int (nI j)]) (rest := [.int (nI (lf z n 0))]) ⟨hx, hb, hml, hown, hts⟩ (c_X5_weightOf l D Z H.size t w n z j (by first | assumption | omega) (by first | assumption | omega)) (cwV 1 hts gX5_mayHold_X5_weightOf rfl rfl rfl (by decide +kernel) ⟨Nat.le_of_ble_eq_true rfl, Nat.le_of_ble_eq_true rfl⟩) ⟨fb_cPre, va_recv hK.1 hPc (ci := 5) (q0 := 0) rfl rfl, pre_of hPc hK hDc⟩ rfl rfl hl.1 rfl (lv_room (Nat.le_of_ble_eq_true rfl)) dX5_mayHold_6 ⟨Nat.le_of_ble_eq_true rfl, Nat.le_of_ble_eq_true rfl⟩) (fun r2 u H locs hr2 hw => ?_)
  subst hr2
  have hw : WS D A s [(t, .inr (5, [.int (nI n), .ref w])), (w, .inl (Z 0, 9, .inl (aI z)))] H locs := hw
  refine q_isub hx hb (by omega) dX5_mayHold_9 ?_
  refine lv_iload_n hx hb dX5_mayHold_10 rfl (lv_at hl 2 rfl) ?_
  refine q_iadd hx hb dX5_mayHold_11 ?_
  refine q_bipush (v := 24) hx hb dX5_mayHold_12 (by decide) ?_
  refine q_icmp_gt (tgt := 33) hx hb ((lf z n 0 - (wt z n j) + v : Nat) : Int) ((24 : Nat) : Int) (nI_toInt (by omega)) (nI_toInt (by omega)) dX5_mayHold_14 (by decide) (fun c3 => ?_) (fun c3 => ?_)
  · --
    refine q_iconst (v := 0) hx hb dX5_mayHold_33 (by decide) ?_
    exact q_zret (wout := _) hx hb hr hlocks hAe hK () hw rfl (by first | rw [bb_t (by omega)] | rw [bb_f (by omega)]) dX5_mayHold_34
  · --
    refine lv_iload_n hx hb dX5_mayHold_17 rfl (lv_at hl 1 rfl) ?_
    refine lv_aload_n hx hb dX5_mayHold_18 rfl (lv_at hl 0 rfl) ?_
    refine q_get (v := .int (nI n)) (ci := 5) hx hb hts in_X5 hown hK hw 0 0 wd1 dX5_mayHold_19 rfl rfl (by decide) rfl ?_
    refine q_icmp_ne (tgt := 29) hx hb ((j : Nat) : Int) ((n : Nat) : Int) (nI_toInt (by omega)) (nI_toInt (by omega)) dX5_mayHold_22 (by decide) (fun c4 => ?_) (fun c4 => ?_)
    · --
      refine q_iconst (v := 1) hx hb dX5_mayHold_29 (by decide) ?_
      refine lv_goto (tgt := 34) hx hb dX5_mayHold_30 (by decide) ?_
      exact q_zret (wout := _) hx hb hr hlocks hAe hK () hw rfl (by first | rw [bb_t (by omega)] | rw [bb_f (by omega)]) dX5_mayHold_34
    · --
      refine lv_iload_n hx hb dX5_mayHold_25 rfl (lv_at hl 2 rfl) ?_
      refine q_if_eq (tgt := 33) hx hb ((v : Nat) : Int) (nI_toInt (by omega)) dX5_mayHold_26 (by decide) (fun c5 => ?_) (fun c5 => ?_)
      · --
        refine q_iconst (v := 0) hx hb dX5_mayHold_33 (by decide) ?_
        exact q_zret (wout := _) hx hb hr hlocks hAe hK () hw rfl (by first | rw [bb_t (by omega)] | rw [bb_f (by omega)]) dX5_mayHold_34
      · --
        refine q_iconst (v := 1) hx hb dX5_mayHold_29 (by decide) ?_
        refine lv_goto (tgt := 34) hx hb dX5_mayHold_30 (by decide) ?_
        exact q_zret (wout := _) hx hb hr hlocks hAe hK () hw rfl (by first | rw [bb_t (by omega)] | rw [bb_f (by omega)]) dX5_mayHold_34
