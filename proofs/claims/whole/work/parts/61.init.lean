def dfZ : Nat → Nat := va_up (va_up (va_up (va_up (va_up (va_up (va_up (va_up (va_up (fun _ => 0) 0 0) 1 1) 2 1) 3 1) 4 0) 5 0) 6 0) 7 0) 8 0
/-- a new plan's numbers -/
def pz : Nat → Nat
  | 0 => 3
  | 9 => 10
  | 10 => 4
  | 11 => 8
  | 12 => 1
  | _ => 0
set_option maxHeartbeats 4000000 in
set_option maxRecDepth 100000 in
theorem c_X4_init (l : Launch) (D : va_G) (Z : Nat → ClassId) (zs0 : Nat) (o : Nat)  : cMv l yX4_init wsX4_init (rmc 1 1 24) D Z zs0 [.ref o] [(o, .inr (4, [.int (nI 0), .int (nI 0), .int (nI 0), .null]))] (S := Nat) (fun (it' : Nat) => True) (fun (it' : Nat) => [(o, .inr (4, [.int (nI 0), .int (nI 0), .int (nI 0), .ref it'])), (it', .inl (Z 1, 24, .inr (.inl (aL (fun _ => 0)))))]) 1 24 := by
  refine q_open (y := yX4_init) (ws := wsX4_init) (av := [.ref o]) (win := [(o, .inr (4, [.int (nI 0), .int (nI 0), .int (nI 0), .null]))]) (Qc := fun zs0 => cQv D Z zs0 [(o, .inr (4, [.int (nI 0), .int (nI 0), .int (nI 0), .null]))] (S := Nat) (fun (it' : Nat) => True) (fun (it' : Nat) => [(o, .inr (4, [.int (nI 0), .int (nI 0), .int (nI 0), .ref it'])), (it', .inl (Z 1, 24, .inr (.inl (aL (fun _ => 0)))))])) (cc := cX4_init) (maxL := 1) (ret := none) (by decide) rfl (Nat.le_of_ble_eq_true rfl) ?_
  intro pp ee s mm bw mt cd ls A H locs hAe hx hb hr hml hown hmn hts hlocks hA hK hw hl
  have hown : s.vm.findClass RX4 = some mm.cls := hown
  have hl : lv_has ls 1 [(0, .ref o)] := hl
  have wd1 := hts (.methodLink RX4 3 objectInit) (List.mem_of_getElem? (i := 1) rfl)
  have wd2 := hts (.instanceMethod objectInit) (List.mem_of_getElem? (i := 2) rfl)
  have wd3 := hts (.code objectInit ⟨#[0xb1]⟩ 1 none) (List.mem_of_getElem? (i := 3) rfl)
  have wd4 := hts (.arrayClass .long) (List.mem_of_getElem? (i := 4) rfl)
  have wd5 := hts (.fieldLink RX4 9 "ReplaceAges$Sheet" "items" "[J") (List.mem_of_getElem? (i := 5) rfl)
  have in_X4 : ∀ w ∈ wsX40, w ∈ wsX4_init := fun _ h => List.mem_cons_of_mem _ (List.mem_append_right _ h)
  refine lv_aload_n hx hb dX4_init_0 rfl (lv_at hl 0 rfl) ?_
  refine W.objInit hx hb hown wd1 wd2 wd3 rfl (by rw [hml]; exact hl.1) rfl dX4_init_1 (Nat.le_of_ble_eq_true rfl) (Nat.le_of_ble_eq_true rfl) ?_
  refine W.eq (g2 := F0 mm 4 ls []) rfl ?_
  refine lv_aload_n hx hb dX4_init_4 rfl (lv_at hl 0 rfl) ?_
  refine q_bipush (v := 24) hx hb dX4_init_5 (by decide) ?_
  refine q_newl hx hb wd4 hK hw hA (Nat.le_of_ble_eq_true rfl) (Nat.le_of_ble_eq_true rfl) (Nat.le_of_ble_eq_true rfl) dX4_init_7 (fun ad1 H hw => ?_)
  have hw : WS D A s [(o, .inr (4, [.int (nI 0), .int (nI 0), .int (nI 0), .null])), (ad1, .inl (Z 1, 24, .inr (.inl (aL (fun _ => 0)))))] H locs := hw
  refine q_putF (v := .ref ad1) (ci := 4) hx hb hts in_X4 tyX4 tyX4_ok nmX4 hown hmn hK hw 0 3 wd5 dX4_init_9 rfl rfl (by decide) rfl rfl rfl rfl (Nat.le_of_ble_eq_true rfl) (fun H locs hw => ?_)
  have hw : WS D A s [(o, .inr (4, [.int (nI 0), .int (nI 0), .int (nI 0), .ref ad1])), (ad1, .inl (Z 1, 24, .inr (.inl (aL (fun _ => 0)))))] H locs := hw
  exact q_vret (wout := _) hx hb hr hlocks hAe hK (ad1) hw (by first | rfl | trivial) dX4_init_12
set_option maxHeartbeats 4000000 in
set_option maxRecDepth 100000 in
theorem c_X3_init (l : Launch) (D : va_G) (Z : Nat → ClassId) (zs0 : Nat) (o : Nat)  : cMv l yX3_init wsX3_init (rmc 1 1 11) D Z zs0 [.ref o] [(o, .inr (3, [.long (lN 0), .null]))] (S := Nat) (fun (ex' : Nat) => True) (fun (ex' : Nat) => [(o, .inr (3, [.long (lN 1), .ref ex'])), (ex', .inl (Z 1, 11, .inr (.inl (aL (fun _ => 0)))))]) 1 11 := by
  refine q_open (y := yX3_init) (ws := wsX3_init) (av := [.ref o]) (win := [(o, .inr (3, [.long (lN 0), .null]))]) (Qc := fun zs0 => cQv D Z zs0 [(o, .inr (3, [.long (lN 0), .null]))] (S := Nat) (fun (ex' : Nat) => True) (fun (ex' : Nat) => [(o, .inr (3, [.long (lN 1), .ref ex'])), (ex', .inl (Z 1, 11, .inr (.inl (aL (fun _ => 0)))))])) (cc := cX3_init) (maxL := 1) (ret := none) (by decide) rfl (Nat.le_of_ble_eq_true rfl) ?_
  intro pp ee s mm bw mt cd ls A H locs hAe hx hb hr hml hown hmn hts hlocks hA hK hw hl
  have hown : s.vm.findClass RX3 = some mm.cls := hown
  have hl : lv_has ls 1 [(0, .ref o)] := hl
  have wd1 := hts (.methodLink RX3 3 objectInit) (List.mem_of_getElem? (i := 1) rfl)
  have wd2 := hts (.instanceMethod objectInit) (List.mem_of_getElem? (i := 2) rfl)
  have wd3 := hts (.code objectInit ⟨#[0xb1]⟩ 1 none) (List.mem_of_getElem? (i := 3) rfl)
  have wd4 := hts (.fieldLink RX3 9 "ReplaceAges$Renewal" "scale" "J") (List.mem_of_getElem? (i := 4) rfl)
  have wd5 := hts (.arrayClass .long) (List.mem_of_getElem? (i := 5) rfl)
  have wd6 := hts (.fieldLink RX3 15 "ReplaceAges$Renewal" "expected" "[J") (List.mem_of_getElem? (i := 6) rfl)
  have in_X3 : ∀ w ∈ wsX30, w ∈ wsX3_init := fun _ h => List.mem_cons_of_mem _ (List.mem_append_right _ h)
  refine lv_aload_n hx hb dX3_init_0 rfl (lv_at hl 0 rfl) ?_
  refine W.objInit hx hb hown wd1 wd2 wd3 rfl (by rw [hml]; exact hl.1) rfl dX3_init_1 (Nat.le_of_ble_eq_true rfl) (Nat.le_of_ble_eq_true rfl) ?_
  refine W.eq (g2 := F0 mm 4 ls []) rfl ?_
  refine lv_aload_n hx hb dX3_init_4 rfl (lv_at hl 0 rfl) ?_
  refine q_lconst (v := 1) hx hb dX3_init_5 (by decide) ?_
  refine q_put (v := .long (lN 1)) (ci := 3) hx hb hts in_X3 tyX3 tyX3_ok nmX3 hown hK hw 0 0 wd4 dX3_init_6 rfl rfl (by decide) rfl rfl rfl (Nat.le_of_ble_eq_true rfl) (fun H locs hw => ?_)
  have hw : WS D A s [(o, .inr (3, [.long (lN 1), .null]))] H locs := hw
  refine lv_aload_n hx hb dX3_init_9 rfl (lv_at hl 0 rfl) ?_
  refine q_bipush (v := 11) hx hb dX3_init_10 (by decide) ?_
  refine q_newl hx hb wd5 hK hw hA (Nat.le_of_ble_eq_true rfl) (Nat.le_of_ble_eq_true rfl) (Nat.le_of_ble_eq_true rfl) dX3_init_12 (fun ad1 H hw => ?_)
  have hw : WS D A s [(o, .inr (3, [.long (lN 1), .null])), (ad1, .inl (Z 1, 11, .inr (.inl (aL (fun _ => 0)))))] H locs := hw
  refine q_putF (v := .ref ad1) (ci := 3) hx hb hts in_X3 tyX3 tyX3_ok nmX3 hown hmn hK hw 0 1 wd6 dX3_init_14 rfl rfl (by decide) rfl rfl rfl rfl (Nat.le_of_ble_eq_true rfl) (fun H locs hw => ?_)
  have hw : WS D A s [(o, .inr (3, [.long (lN 1), .ref ad1])), (ad1, .inl (Z 1, 11, .inr (.inl (aL (fun _ => 0)))))] H locs := hw
  exact q_vret (wout := _) hx hb hr hlocks hAe hK (ad1) hw (by first | rfl | trivial) dX3_init_17
set_option maxHeartbeats 4000000 in
set_option maxRecDepth 100000 in
theorem c_X0_init (l : Launch) (D : va_G) (Z : Nat → ClassId) (zs0 : Nat) (o : Nat)  : cMv l yX0_init wsX0_init (rmc 1 2 18) D Z zs0 [.ref o] [(o, .inr (0, [.long (lN 0), .null, .long (lN 0), .null]))] (S := Nat × Nat) (fun (u : Nat × Nat) => match u with | (ke', co') => True) (fun (u : Nat × Nat) => match u with | (ke', co') => [(o, .inr (0, [.long (lN 1), .ref ke', .long (lN 0), .ref co'])), (ke', .inl (Z 1, 9, .inr (.inl (aL (fun _ => 0))))), (co', .inl (Z 1, 9, .inr (.inl (aL (fun _ => 0)))))]) 2 18 := by
  refine q_open (y := yX0_init) (ws := wsX0_init) (av := [.ref o]) (win := [(o, .inr (0, [.long (lN 0), .null, .long (lN 0), .null]))]) (Qc := fun zs0 => cQv D Z zs0 [(o, .inr (0, [.long (lN 0), .null, .long (lN 0), .null]))] (S := Nat × Nat) (fun (u : Nat × Nat) => match u with | (ke', co') => True) (fun (u : Nat × Nat) => match u with | (ke', co') => [(o, .inr (0, [.long (lN 1), .ref ke', .long (lN 0), .ref co'])), (ke', .inl (Z 1, 9, .inr (.inl (aL (fun _ => 0))))), (co', .inl (Z 1, 9, .inr (.inl (aL (fun _ => 0)))))])) (cc := cX0_init) (maxL := 1) (ret := none) (by decide) rfl (Nat.le_of_ble_eq_true rfl) ?_
  intro pp ee s mm bw mt cd ls A H locs hAe hx hb hr hml hown hmn hts hlocks hA hK hw hl
  have hown : s.vm.findClass RX0 = some mm.cls := hown
  have hl : lv_has ls 1 [(0, .ref o)] := hl
  have wd1 := hts (.methodLink RX0 3 objectInit) (List.mem_of_getElem? (i := 1) rfl)
  have wd2 := hts (.instanceMethod objectInit) (List.mem_of_getElem? (i := 2) rfl)
  have wd3 := hts (.code objectInit ⟨#[0xb1]⟩ 1 none) (List.mem_of_getElem? (i := 3) rfl)
  have wd4 := hts (.fieldLink RX0 9 "ReplaceAges$Outlook" "scale" "J") (List.mem_of_getElem? (i := 4) rfl)
  have wd5 := hts (.arrayClass .long) (List.mem_of_getElem? (i := 5) rfl)
  have wd6 := hts (.fieldLink RX0 15 "ReplaceAges$Outlook" "keeping" "[J") (List.mem_of_getElem? (i := 6) rfl)
  have wd7 := hts (.fieldLink RX0 19 "ReplaceAges$Outlook" "costs" "[J") (List.mem_of_getElem? (i := 7) rfl)
  have in_X0 : ∀ w ∈ wsX00, w ∈ wsX0_init := fun _ h => List.mem_cons_of_mem _ (List.mem_append_right _ h)
  refine lv_aload_n hx hb dX0_init_0 rfl (lv_at hl 0 rfl) ?_
  refine W.objInit hx hb hown wd1 wd2 wd3 rfl (by rw [hml]; exact hl.1) rfl dX0_init_1 (Nat.le_of_ble_eq_true rfl) (Nat.le_of_ble_eq_true rfl) ?_
  refine W.eq (g2 := F0 mm 4 ls []) rfl ?_
  refine lv_aload_n hx hb dX0_init_4 rfl (lv_at hl 0 rfl) ?_
  refine q_lconst (v := 1) hx hb dX0_init_5 (by decide) ?_
  refine q_put (v := .long (lN 1)) (ci := 0) hx hb hts in_X0 tyX0 tyX0_ok nmX0 hown hK hw 0 0 wd4 dX0_init_6 rfl rfl (by decide) rfl rfl rfl (Nat.le_of_ble_eq_true rfl) (fun H locs hw => ?_)
  have hw : WS D A s [(o, .inr (0, [.long (lN 1), .null, .long (lN 0), .null]))] H locs := hw
  refine lv_aload_n hx hb dX0_init_9 rfl (lv_at hl 0 rfl) ?_
  refine q_bipush (v := 9) hx hb dX0_init_10 (by decide) ?_
  refine q_newl hx hb wd5 hK hw hA (Nat.le_of_ble_eq_true rfl) (Nat.le_of_ble_eq_true rfl) (Nat.le_of_ble_eq_true rfl) dX0_init_12 (fun ad1 H hw => ?_)
  have hw : WS D A s [(o, .inr (0, [.long (lN 1), .null, .long (lN 0), .null])), (ad1, .inl (Z 1, 9, .inr (.inl (aL (fun _ => 0)))))] H locs := hw
  refine q_putF (v := .ref ad1) (ci := 0) hx hb hts in_X0 tyX0 tyX0_ok nmX0 hown hmn hK hw 0 1 wd6 dX0_init_14 rfl rfl (by decide) rfl rfl rfl rfl (Nat.le_of_ble_eq_true rfl) (fun H locs hw => ?_)
  have hw : WS D A s [(o, .inr (0, [.long (lN 1), .ref ad1, .long (lN 0), .null])), (ad1, .inl (Z 1, 9, .inr (.inl (aL (fun _ => 0)))))] H locs := hw
  refine lv_aload_n hx hb dX0_init_17 rfl (lv_at hl 0 rfl) ?_
  refine q_bipush (v := 9) hx hb dX0_init_18 (by decide) ?_
  refine q_newl hx hb wd5 hK hw hA (Nat.le_of_ble_eq_true rfl) (Nat.le_of_ble_eq_true rfl) (Nat.le_of_ble_eq_true rfl) dX0_init_20 (fun ad2 H hw => ?_)
  have hw : WS D A s [(o, .inr (0, [.long (lN 1), .ref ad1, .long (lN 0), .null])), (ad1, .inl (Z 1, 9, .inr (.inl (aL (fun _ => 0))))), (ad2, .inl (Z 1, 9, .inr (.inl (aL (fun _ => 0)))))] H locs := hw
  refine q_putF (v := .ref ad2) (ci := 0) hx hb hts in_X0 tyX0 tyX0_ok nmX0 hown hmn hK hw 0 3 wd7 dX0_init_22 rfl rfl (by decide) rfl rfl rfl rfl (Nat.le_of_ble_eq_true rfl) (fun H locs hw => ?_)
  have hw : WS D A s [(o, .inr (0, [.long (lN 1), .ref ad1, .long (lN 0), .ref ad2])), (ad1, .inl (Z 1, 9, .inr (.inl (aL (fun _ => 0))))), (ad2, .inl (Z 1, 9, .inr (.inl (aL (fun _ => 0)))))] H locs := hw
  exact q_vret (wout := _) hx hb hr hlocks hAe hK (ad1, ad2) hw (by first | rfl | trivial) dX0_init_25
set_option maxHeartbeats 4000000 in
set_option maxRecDepth 100000 in
theorem c_X5_init (l : Launch) (D : va_G) (Z : Nat → ClassId) (zs0 : Nat) (o : Nat)  : cMv l yX5_init wsX5_init (rmc 1 1 9) D Z zs0 [.ref o] [(o, .inr (5, [.int (nI 0), .null]))] (S := Nat) (fun (w' : Nat) => True) (fun (w' : Nat) => [(o, .inr (5, [.int (nI 3), .ref w'])), (w', .inl (Z 0, 9, .inl (aI dfZ)))]) 1 9 := by
  refine q_open (y := yX5_init) (ws := wsX5_init) (av := [.ref o]) (win := [(o, .inr (5, [.int (nI 0), .null]))]) (Qc := fun zs0 => cQv D Z zs0 [(o, .inr (5, [.int (nI 0), .null]))] (S := Nat) (fun (w' : Nat) => True) (fun (w' : Nat) => [(o, .inr (5, [.int (nI 3), .ref w'])), (w', .inl (Z 0, 9, .inl (aI dfZ)))])) (cc := cX5_init) (maxL := 1) (ret := none) (by decide) rfl (Nat.le_of_ble_eq_true rfl) ?_
  intro pp ee s mm bw mt cd ls A H locs hAe hx hb hr hml hown hmn hts hlocks hA hK hw hl
  have hown : s.vm.findClass RX5 = some mm.cls := hown
  have hl : lv_has ls 1 [(0, .ref o)] := hl
  have wd1 := hts (.methodLink RX5 3 objectInit) (List.mem_of_getElem? (i := 1) rfl)
  have wd2 := hts (.instanceMethod objectInit) (List.mem_of_getElem? (i := 2) rfl)
  have wd3 := hts (.code objectInit ⟨#[0xb1]⟩ 1 none) (List.mem_of_getElem? (i := 3) rfl)
  have wd4 := hts (.fieldLink RX5 9 "ReplaceAges$Table" "n" "I") (List.mem_of_getElem? (i := 4) rfl)
  have wd5 := hts (.arrayClass .int) (List.mem_of_getElem? (i := 5) rfl)
  have wd6 := hts (.fieldLink RX5 15 "ReplaceAges$Table" "weights" "[I") (List.mem_of_getElem? (i := 6) rfl)
  have in_X5 : ∀ w ∈ wsX50, w ∈ wsX5_init := fun _ h => List.mem_cons_of_mem _ (List.mem_append_right _ h)
  refine lv_aload_n hx hb dX5_init_0 rfl (lv_at hl 0 rfl) ?_
  refine W.objInit hx hb hown wd1 wd2 wd3 rfl (by rw [hml]; exact hl.1) rfl dX5_init_1 (Nat.le_of_ble_eq_true rfl) (Nat.le_of_ble_eq_true rfl) ?_
  refine W.eq (g2 := F0 mm 4 ls []) rfl ?_
  refine lv_aload_n hx hb dX5_init_4 rfl (lv_at hl 0 rfl) ?_
  refine q_iconst (v := 3) hx hb dX5_init_5 (by decide) ?_
  refine q_put (v := .int (nI 3)) (ci := 5) hx hb hts in_X5 tyX5 tyX5_ok nmX5 hown hK hw 0 0 wd4 dX5_init_6 rfl rfl (by decide) rfl rfl rfl (Nat.le_of_ble_eq_true rfl) (fun H locs hw => ?_)
  have hw : WS D A s [(o, .inr (5, [.int (nI 3), .null]))] H locs := hw
  refine lv_aload_n hx hb dX5_init_9 rfl (lv_at hl 0 rfl) ?_
  refine q_bipush (v := 9) hx hb dX5_init_10 (by decide) ?_
  refine q_newi hx hb wd5 hK hw hA (Nat.le_of_ble_eq_true rfl) (Nat.le_of_ble_eq_true rfl) (Nat.le_of_ble_eq_true rfl) dX5_init_12 (fun ad1 H hw => ?_)
  have hw : WS D A s [(o, .inr (5, [.int (nI 3), .null])), (ad1, .inl (Z 0, 9, .inl (aI (fun _ => 0))))] H locs := hw
  refine lv_dup hx hb dX5_init_14 rfl ?_
  refine q_iconst (v := 0) hx hb dX5_init_15 (by decide) ?_
  refine q_iconst (v := 0) hx hb dX5_init_16 (by decide) ?_
  refine q_iast hx hb hK hw 1 (by omega) (by omega) dX5_init_17 rfl (fun H locs hw => ?_)
  have hw : WS D A s [(o, .inr (5, [.int (nI 3), .null])), (ad1, .inl (Z 0, 9, .inl (aI (va_up (fun _ => 0) 0 0))))] H locs := hw
  refine lv_dup hx hb dX5_init_18 rfl ?_
  refine q_iconst (v := 1) hx hb dX5_init_19 (by decide) ?_
  refine q_iconst (v := 1) hx hb dX5_init_20 (by decide) ?_
  refine q_iast hx hb hK hw 1 (by omega) (by omega) dX5_init_21 rfl (fun H locs hw => ?_)
  have hw : WS D A s [(o, .inr (5, [.int (nI 3), .null])), (ad1, .inl (Z 0, 9, .inl (aI (va_up (va_up (fun _ => 0) 0 0) 1 1))))] H locs := hw
  refine lv_dup hx hb dX5_init_22 rfl ?_
  refine q_iconst (v := 2) hx hb dX5_init_23 (by decide) ?_
  refine q_iconst (v := 1) hx hb dX5_init_24 (by decide) ?_
  refine q_iast hx hb hK hw 1 (by omega) (by omega) dX5_init_25 rfl (fun H locs hw => ?_)
  have hw : WS D A s [(o, .inr (5, [.int (nI 3), .null])), (ad1, .inl (Z 0, 9, .inl (aI (va_up (va_up (va_up (fun _ => 0) 0 0) 1 1) 2 1))))] H locs := hw
  refine lv_dup hx hb dX5_init_26 rfl ?_
  refine q_iconst (v := 3) hx hb dX5_init_27 (by decide) ?_
  refine q_iconst (v := 1) hx hb dX5_init_28 (by decide) ?_
  refine q_iast hx hb hK hw 1 (by omega) (by omega) dX5_init_29 rfl (fun H locs hw => ?_)
  have hw : WS D A s [(o, .inr (5, [.int (nI 3), .null])), (ad1, .inl (Z 0, 9, .inl (aI (va_up (va_up (va_up (va_up (fun _ => 0) 0 0) 1 1) 2 1) 3 1))))] H locs := hw
  refine lv_dup hx hb dX5_init_30 rfl ?_
  refine q_iconst (v := 4) hx hb dX5_init_31 (by decide) ?_
  refine q_iconst (v := 0) hx hb dX5_init_32 (by decide) ?_
  refine q_iast hx hb hK hw 1 (by omega) (by omega) dX5_init_33 rfl (fun H locs hw => ?_)
  have hw : WS D A s [(o, .inr (5, [.int (nI 3), .null])), (ad1, .inl (Z 0, 9, .inl (aI (va_up (va_up (va_up (va_up (va_up (fun _ => 0) 0 0) 1 1) 2 1) 3 1) 4 0))))] H locs := hw
  refine lv_dup hx hb dX5_init_34 rfl ?_
  refine q_iconst (v := 5) hx hb dX5_init_35 (by decide) ?_
  refine q_iconst (v := 0) hx hb dX5_init_36 (by decide) ?_
  refine q_iast hx hb hK hw 1 (by omega) (by omega) dX5_init_37 rfl (fun H locs hw => ?_)
  have hw : WS D A s [(o, .inr (5, [.int (nI 3), .null])), (ad1, .inl (Z 0, 9, .inl (aI (va_up (va_up (va_up (va_up (va_up (va_up (fun _ => 0) 0 0) 1 1) 2 1) 3 1) 4 0) 5 0))))] H locs := hw
  refine lv_dup hx hb dX5_init_38 rfl ?_
  refine q_bipush (v := 6) hx hb dX5_init_39 (by decide) ?_
  refine q_iconst (v := 0) hx hb dX5_init_41 (by decide) ?_
  refine q_iast hx hb hK hw 1 (by omega) (by omega) dX5_init_42 rfl (fun H locs hw => ?_)
  have hw : WS D A s [(o, .inr (5, [.int (nI 3), .null])), (ad1, .inl (Z 0, 9, .inl (aI (va_up (va_up (va_up (va_up (va_up (va_up (va_up (fun _ => 0) 0 0) 1 1) 2 1) 3 1) 4 0) 5 0) 6 0))))] H locs := hw
  refine lv_dup hx hb dX5_init_43 rfl ?_
  refine q_bipush (v := 7) hx hb dX5_init_44 (by decide) ?_
  refine q_iconst (v := 0) hx hb dX5_init_46 (by decide) ?_
  refine q_iast hx hb hK hw 1 (by omega) (by omega) dX5_init_47 rfl (fun H locs hw => ?_)
  have hw : WS D A s [(o, .inr (5, [.int (nI 3), .null])), (ad1, .inl (Z 0, 9, .inl (aI (va_up (va_up (va_up (va_up (va_up (va_up (va_up (va_up (fun _ => 0) 0 0) 1 1) 2 1) 3 1) 4 0) 5 0) 6 0) 7 0))))] H locs := hw
  refine lv_dup hx hb dX5_init_48 rfl ?_
  refine q_bipush (v := 8) hx hb dX5_init_49 (by decide) ?_
  refine q_iconst (v := 0) hx hb dX5_init_51 (by decide) ?_
  refine q_iast hx hb hK hw 1 (by omega) (by omega) dX5_init_52 rfl (fun H locs hw => ?_)
  have hw : WS D A s [(o, .inr (5, [.int (nI 3), .null])), (ad1, .inl (Z 0, 9, .inl (aI (va_up (va_up (va_up (va_up (va_up (va_up (va_up (va_up (va_up (fun _ => 0) 0 0) 1 1) 2 1) 3 1) 4 0) 5 0) 6 0) 7 0) 8 0))))] H locs := hw
  refine q_putF (v := .ref ad1) (ci := 5) hx hb hts in_X5 tyX5 tyX5_ok nmX5 hown hmn hK hw 0 1 wd6 dX5_init_53 rfl rfl (by decide) rfl rfl rfl rfl (Nat.le_of_ble_eq_true rfl) (fun H locs hw => ?_)
  have hw : WS D A s [(o, .inr (5, [.int (nI 3), .ref ad1])), (ad1, .inl (Z 0, 9, .inl (aI (va_up (va_up (va_up (va_up (va_up (va_up (va_up (va_up (va_up (fun _ => 0) 0 0) 1 1) 2 1) 3 1) 4 0) 5 0) 6 0) 7 0) 8 0))))] H locs := hw
  exact q_vret (wout := _) hx hb hr hlocks hAe hK (ad1) hw (by first | rfl | trivial) dX5_init_56
