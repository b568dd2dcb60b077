abbrev cyOk (th la le : Nat → Nat) (q i o j n : Int32) : Prop := (0 ≤ q.toInt ∧ q.toInt ≤ 3 ∧ 0 ≤ o.toInt ∧ o.toInt ≤ 3) ∧ ¬ (th q.toInt.toNat = 0 ∨ th o.toInt.toNat = 0) ∧ la q.toInt.toNat = la o.toInt.toNat ∧ hol (le q.toInt.toNat) i n ∧ hol (le o.toInt.toNat) j n
/-- copy: what it answers -/
def cyC (th la le : Nat → Nat) (q i o j n : Int32) : Int32 := if ¬ (0 ≤ q.toInt ∧ q.toInt ≤ 3 ∧ 0 ≤ o.toInt ∧ o.toInt ≤ 3) then (-1) else if th q.toInt.toNat = 0 ∨ th o.toInt.toNat = 0 then (-11) else if ¬ la q.toInt.toNat = la o.toInt.toNat then (-12) else if hol (le q.toInt.toNat) i n ∧ hol (le o.toInt.toNat) j n then n else (-13)
set_option maxHeartbeats 4000000 in
set_option maxRecDepth 100000 in
theorem c_X7_copy (l : Launch) (D : va_G) (Z : Nat → ClassId) (zs0 : Nat) (X pa P ia iP kp T sa et Rn Ol : Nat) (sh it th la le : Nat → Nat) (fs : Nat → Nat → Int64) (q i o j n : Int32) (hth : ∀ s, th s ≤ 1) (hla : ∀ s, la s ≤ 3) (hle : ∀ s, le s ≤ 24) : cMi l yX7_copy wsX7_copy (rmd 1) D Z zs0 [.ref X, .int q, .int i, .int o, .int j, .int n] [(X, .inr (7, [.ref pa, .ref P, .ref ia, .ref iP, .int (nI kp), .ref T, .ref sa, .ref et, .ref Rn, .ref Ol])), (sa, .inl (Z 4, 4, .inr (.inr (.inr (.inr (rl [sh 0, sh 1, sh 2, sh 3])))))), (sh 0, .inr (4, [.int (nI (th 0)), .int (nI (la 0)), .int (nI (le 0)), .ref (it 0)])), (it 0, .inl (Z 1, 24, .inr (.inl (fs 0)))), (sh 1, .inr (4, [.int (nI (th 1)), .int (nI (la 1)), .int (nI (le 1)), .ref (it 1)])), (it 1, .inl (Z 1, 24, .inr (.inl (fs 1)))), (sh 2, .inr (4, [.int (nI (th 2)), .int (nI (la 2)), .int (nI (le 2)), .ref (it 2)])), (it 2, .inl (Z 1, 24, .inr (.inl (fs 2)))), (sh 3, .inr (4, [.int (nI (th 3)), .int (nI (la 3)), .int (nI (le 3)), .ref (it 3)])), (it 3, .inl (Z 1, 24, .inr (.inl (fs 3))))] (S := (Nat → Nat → Int64)) (fun (r : Int32) => fun (fs' : Nat → Nat → Int64) => r = cyC th la le q i o j n ∧ ((¬ cyOk th la le q i o j n ∧ fs' = fs) ∨ (cyOk th la le q i o j n ∧ fs' = va_up fs o.toInt.toNat (va_cpy (fs q.toInt.toNat) (fs o.toInt.toNat) i.toInt.toNat j.toInt.toNat n.toInt.toNat)))) (fun (fs' : Nat → Nat → Int64) => [(X, .inr (7, [.ref pa, .ref P, .ref ia, .ref iP, .int (nI kp), .ref T, .ref sa, .ref et, .ref Rn, .ref Ol])), (sa, .inl (Z 4, 4, .inr (.inr (.inr (.inr (rl [sh 0, sh 1, sh 2, sh 3])))))), (sh 0, .inr (4, [.int (nI (th 0)), .int (nI (la 0)), .int (nI (le 0)), .ref (it 0)])), (it 0, .inl (Z 1, 24, .inr (.inl (fs' 0)))), (sh 1, .inr (4, [.int (nI (th 1)), .int (nI (la 1)), .int (nI (le 1)), .ref (it 1)])), (it 1, .inl (Z 1, 24, .inr (.inl (fs' 1)))), (sh 2, .inr (4, [.int (nI (th 2)), .int (nI (la 2)), .int (nI (le 2)), .ref (it 2)])), (it 2, .inl (Z 1, 24, .inr (.inl (fs' 2)))), (sh 3, .inr (4, [.int (nI (th 3)), .int (nI (la 3)), .int (nI (le 3)), .ref (it 3)])), (it 3, .inl (Z 1, 24, .inr (.inl (fs' 3))))]) 0 0 := by
  refine q_open (y := yX7_copy) (ws := wsX7_copy) (av := [.ref X, .int q, .int i, .int o, .int j, .int n]) (win := [(X, .inr (7, [.ref pa, .ref P, .ref ia, .ref iP, .int (nI kp), .ref T, .ref sa, .ref et, .ref Rn, .ref Ol])), (sa, .inl (Z 4, 4, .inr (.inr (.inr (.inr (rl [sh 0, sh 1, sh 2, sh 3])))))), (sh 0, .inr (4, [.int (nI (th 0)), .int (nI (la 0)), .int (nI (le 0)), .ref (it 0)])), (it 0, .inl (Z 1, 24, .inr (.inl (fs 0)))), (sh 1, .inr (4, [.int (nI (th 1)), .int (nI (la 1)), .int (nI (le 1)), .ref (it 1)])), (it 1, .inl (Z 1, 24, .inr (.inl (fs 1)))), (sh 2, .inr (4, [.int (nI (th 2)), .int (nI (la 2)), .int (nI (le 2)), .ref (it 2)])), (it 2, .inl (Z 1, 24, .inr (.inl (fs 2)))), (sh 3, .inr (4, [.int (nI (th 3)), .int (nI (la 3)), .int (nI (le 3)), .ref (it 3)])), (it 3, .inl (Z 1, 24, .inr (.inl (fs 3))))]) (Qc := fun zs0 => cQi D Z zs0 [(X, .inr (7, [.ref pa, .ref P, .ref ia, .ref iP, .int (nI kp), .ref T, .ref sa, .ref et, .ref Rn, .ref Ol])), (sa, .inl (Z 4, 4, .inr (.inr (.inr (.inr (rl [sh 0, sh 1, sh 2, sh 3])))))), (sh 0, .inr (4, [.int (nI (th 0)), .int (nI (la 0)), .int (nI (le 0)), .ref (it 0)])), (it 0, .inl (Z 1, 24, .inr (.inl (fs 0)))), (sh 1, .inr (4, [.int (nI (th 1)), .int (nI (la 1)), .int (nI (le 1)), .ref (it 1)])), (it 1, .inl (Z 1, 24, .inr (.inl (fs 1)))), (sh 2, .inr (4, [.int (nI (th 2)), .int (nI (la 2)), .int (nI (le 2)), .ref (it 2)])), (it 2, .inl (Z 1, 24, .inr (.inl (fs 2)))), (sh 3, .inr (4, [.int (nI (th 3)), .int (nI (la 3)), .int (nI (le 3)), .ref (it 3)])), (it 3, .inl (Z 1, 24, .inr (.inl (fs 3))))] (S := (Nat → Nat → Int64)) (fun (r : Int32) => fun (fs' : Nat → Nat → Int64) => r = cyC th la le q i o j n ∧ ((¬ cyOk th la le q i o j n ∧ fs' = fs) ∨ (cyOk th la le q i o j n ∧ fs' = va_up fs o.toInt.toNat (va_cpy (fs q.toInt.toNat) (fs o.toInt.toNat) i.toInt.toNat j.toInt.toNat n.toInt.toNat)))) (fun (fs' : Nat → Nat → Int64) => [(X, .inr (7, [.ref pa, .ref P, .ref ia, .ref iP, .int (nI kp), .ref T, .ref sa, .ref et, .ref Rn, .ref Ol])), (sa, .inl (Z 4, 4, .inr (.inr (.inr (.inr (rl [sh 0, sh 1, sh 2, sh 3])))))), (sh 0, .inr (4, [.int (nI (th 0)), .int (nI (la 0)), .int (nI (le 0)), .ref (it 0)])), (it 0, .inl (Z 1, 24, .inr (.inl (fs' 0)))), (sh 1, .inr (4, [.int (nI (th 1)), .int (nI (la 1)), .int (nI (le 1)), .ref (it 1)])), (it 1, .inl (Z 1, 24, .inr (.inl (fs' 1)))), (sh 2, .inr (4, [.int (nI (th 2)), .int (nI (la 2)), .int (nI (le 2)), .ref (it 2)])), (it 2, .inl (Z 1, 24, .inr (.inl (fs' 2)))), (sh 3, .inr (4, [.int (nI (th 3)), .int (nI (la 3)), .int (nI (le 3)), .ref (it 3)])), (it 3, .inl (Z 1, 24, .inr (.inl (fs' 3))))])) (cc := cX7_copy) (maxL := 8) (ret := (some .int)) (by decide) rfl (Nat.le_of_ble_eq_true rfl) ?_
  intro pp ee s mm bw mt cd ls A H locs hAe hx hb hr hml hown hmn hts hlocks hA hK hw hl
  have hown : s.vm.findClass RX7 = some mm.cls := hown
  have hl : lv_has ls 8 [(0, .ref X), (1, .int q), (2, .int i), (3, .int o), (4, .int j), (5, .int n)] := hl
  have wd1 := hts (.fieldLink RX7 38 "ReplaceAges" "sheets" "[LReplaceAges$Sheet;") (List.mem_of_getElem? (i := 1) rfl)
  have wd2 := hts (.fieldLink RX7 271 "ReplaceAges$Sheet" "there" "Z") (List.mem_of_getElem? (i := 2) rfl)
  have wd3 := hts (.fieldLink RX7 277 "ReplaceAges$Sheet" "lane" "I") (List.mem_of_getElem? (i := 3) rfl)
  have wd4 := hts (.fieldLink RX7 283 "ReplaceAges$Sheet" "items" "[J") (List.mem_of_getElem? (i := 4) rfl)
  have wd5 := hts (.methodLink RX7 287 arraycopyName) (List.mem_of_getElem? (i := 5) rfl)
  have wd6 := hts (.native arraycopyName) (List.mem_of_getElem? (i := 6) rfl)
  have wd7 := hts (.static arraycopyName) (List.mem_of_getElem? (i := 7) rfl)
  have wd8 := hts (.initialized "java/lang/System") (List.mem_of_getElem? (i := 8) rfl)
  have in_X7 : ∀ w ∈ wsX70, w ∈ wsX7_copy := fun _ h => List.mem_cons_of_mem _ (List.mem_append_left _ (List.mem_append_right _ h))
  have in_X4 : ∀ w ∈ wsX40, w ∈ wsX7_copy := fun _ h => List.mem_cons_of_mem _ (List.mem_append_right _ h)
  refine lv_iload_n hx hb dX7_copy_0 rfl (lv_at hl 1 rfl) ?_
  refine q_calli (S := Unit) (Z := Z) (D := D) (wc := []) (wr := [(X, .inr (7, [.ref pa, .ref P, .ref ia, .ref iP, .int (nI kp), .ref T, .ref sa, .ref et, .ref Rn, .ref Ol])), (sa, .inl (Z 4, 4, .inr (.inr (.inr (.inr (rl [sh 0, sh 1, sh 2, sh 3])))))), (sh 0, .inr (4, [.int (nI (th 0)), .int (nI (la 0)), .int (nI (le 0)), .ref (it 0)])), (it 0, .inl (Z 1, 24, .inr (.inl (fs 0)))), (sh 1, .inr (4, [.int (nI (th 1)), .int (nI (la 1)), .int (nI (le 1)), .ref (it 1)])), (it 1, .inl (Z 1, 24, .inr (.inl (fs 1)))), (sh 2, .inr (4, [.int (nI (th 2)), .int (nI (la 2)), .int (nI (le 2)), .ref (it 2)])), (it 2, .inl (Z 1, 24, .inr (.inl (fs 2)))), (sh 3, .inr (4, [.int (nI (th 3)), .int (nI (la 3)), .int (nI (le 3)), .ref (it 3)])), (it 3, .inl (Z 1, 24, .inr (.inl (fs 3))))]) (rest := []) hw hA [] [0, 1, 2, 3, 4, 5, 6, 7, 8, 9] rfl rfl rfl rfl (by decide) (fun hPc hDc => va_runS (As := [.int q]) (rest := []) ⟨hx, hb, hml, hown, hts⟩ (c_X7_isNoSheet l D Z H.size q ) (va_cwS 1 hts gX7_copy_X7_isNoSheet rfl rfl rfl (by decide +kernel) ⟨Nat.le_of_ble_eq_true rfl, Nat.le_of_ble_eq_true rfl⟩) ⟨fb_cPre, pre_of hPc hK hDc⟩ rfl rfl hl.1 rfl (lv_room (Nat.le_of_ble_eq_true rfl)) dX7_copy_1 ⟨Nat.le_of_ble_eq_true rfl, Nat.le_of_ble_eq_true rfl⟩) (fun r1 uu H locs hr1 hw => ?_)
  subst hr1
  have hw : WS D A s [(X, .inr (7, [.ref pa, .ref P, .ref ia, .ref iP, .int (nI kp), .ref T, .ref sa, .ref et, .ref Rn, .ref Ol])), (sa, .inl (Z 4, 4, .inr (.inr (.inr (.inr (rl [sh 0, sh 1, sh 2, sh 3])))))), (sh 0, .inr (4, [.int (nI (th 0)), .int (nI (la 0)), .int (nI (le 0)), .ref (it 0)])), (it 0, .inl (Z 1, 24, .inr (.inl (fs 0)))), (sh 1, .inr (4, [.int (nI (th 1)), .int (nI (la 1)), .int (nI (le 1)), .ref (it 1)])), (it 1, .inl (Z 1, 24, .inr (.inl (fs 1)))), (sh 2, .inr (4, [.int (nI (th 2)), .int (nI (la 2)), .int (nI (le 2)), .ref (it 2)])), (it 2, .inl (Z 1, 24, .inr (.inl (fs 2)))), (sh 3, .inr (4, [.int (nI (th 3)), .int (nI (la 3)), .int (nI (le 3)), .ref (it 3)])), (it 3, .inl (Z 1, 24, .inr (.inl (fs 3))))] H locs := hw
  refine q_if_ne (tgt := 14) hx hb ((bb (q.toInt < 0 ∨ 4 ≤ q.toInt) : Nat) : Int) (nI_toInt (Nat.lt_of_le_of_lt (bb_le _) (by decide))) dX7_copy_4 (by decide) (fun c2 => ?_) (fun c2 => ?_)
  · --
    have c2 := bb_1 c2
    refine lv_iconst (v := (-1)) hx hb dX7_copy_14 (by decide) ?_
    exact q_iret (wout := _) hx hb hr hlocks hAe hK fs hw (⟨(if_pos (by omega)).symm, Or.inl ⟨fun h => by unfold cyOk at h; omega, rfl⟩⟩) dX7_copy_15
  · --
    have c2 := bb_0 c2
    refine lv_iload_n hx hb dX7_copy_7 rfl (lv_at hl 3 rfl) ?_
    refine q_calli (S := Unit) (Z := Z) (D := D) (wc := []) (wr := [(X, .inr (7, [.ref pa, .ref P, .ref ia, .ref iP, .int (nI kp), .ref T, .ref sa, .ref et, .ref Rn, .ref Ol])), (sa, .inl (Z 4, 4, .inr (.inr (.inr (.inr (rl [sh 0, sh 1, sh 2, sh 3])))))), (sh 0, .inr (4, [.int (nI (th 0)), .int (nI (la 0)), .int (nI (le 0)), .ref (it 0)])), (it 0, .inl (Z 1, 24, .inr (.inl (fs 0)))), (sh 1, .inr (4, [.int (nI (th 1)), .int (nI (la 1)), .int (nI (le 1)), .ref (it 1)])), (it 1, .inl (Z 1, 24, .inr (.inl (fs 1)))), (sh 2, .inr (4, [.int (nI (th 2)), .int (nI (la 2)), .int (nI (le 2)), .ref (it 2)])), (it 2, .inl (Z 1, 24, .inr (.inl (fs 2)))), (sh 3, .inr (4, [.int (nI (th 3)), .int (nI (la 3)), .int (nI (le 3)), .ref (it 3)])), (it 3, .inl (Z 1, 24, .inr (.inl (fs 3))))]) (rest := []) hw hA [] [0, 1, 2, 3, 4, 5, 6, 7, 8, 9] rfl rfl rfl rfl (by decide) (fun hPc hDc => va_runS (As := [.int o]) (rest := []) ⟨hx, hb, hml, hown, hts⟩ (c_X7_isNoSheet l D Z H.size o ) (va_cwS 1 hts gX7_copy_X7_isNoSheet rfl rfl rfl (by decide +kernel) ⟨Nat.le_of_ble_eq_true rfl, Nat.le_of_ble_eq_true rfl⟩) ⟨fb_cPre, pre_of hPc hK hDc⟩ rfl rfl hl.1 rfl (lv_room (Nat.le_of_ble_eq_true rfl)) dX7_copy_8 ⟨Nat.le_of_ble_eq_true rfl, Nat.le_of_ble_eq_true rfl⟩) (fun r3 uu H locs hr3 hw => ?_)
    subst hr3
    have hw : WS D A s [(X, .inr (7, [.ref pa, .ref P, .ref ia, .ref iP, .int (nI kp), .ref T, .ref sa, .ref et, .ref Rn, .ref Ol])), (sa, .inl (Z 4, 4, .inr (.inr (.inr (.inr (rl [sh 0, sh 1, sh 2, sh 3])))))), (sh 0, .inr (4, [.int (nI (th 0)), .int (nI (la 0)), .int (nI (le 0)), .ref (it 0)])), (it 0, .inl (Z 1, 24, .inr (.inl (fs 0)))), (sh 1, .inr (4, [.int (nI (th 1)), .int (nI (la 1)), .int (nI (le 1)), .ref (it 1)])), (it 1, .inl (Z 1, 24, .inr (.inl (fs 1)))), (sh 2, .inr (4, [.int (nI (th 2)), .int (nI (la 2)), .int (nI (le 2)), .ref (it 2)])), (it 2, .inl (Z 1, 24, .inr (.inl (fs 2)))), (sh 3, .inr (4, [.int (nI (th 3)), .int (nI (la 3)), .int (nI (le 3)), .ref (it 3)])), (it 3, .inl (Z 1, 24, .inr (.inl (fs 3))))] H locs := hw
    refine q_if_eq (tgt := 16) hx hb ((bb (o.toInt < 0 ∨ 4 ≤ o.toInt) : Nat) : Int) (nI_toInt (Nat.lt_of_le_of_lt (bb_le _) (by decide))) dX7_copy_11 (by decide) (fun c4 => ?_) (fun c4 => ?_)
    · --
      have c4 := bb_0 c4
      obtain ⟨k, rfl, ek⟩ := i32_nat (x := q) (by omega)
      obtain ⟨m, rfl, em⟩ := i32_nat (x := o) (by omega)
      refine lv_aload_n hx hb dX7_copy_16 rfl (lv_at hl 0 rfl) ?_
      refine q_get (v := .ref sa) (ci := 7) hx hb hts in_X7 hown hK hw 0 6 wd1 dX7_copy_17 rfl rfl (by decide) rfl ?_
      rcases (show k = 0 ∨ k = 1 ∨ k = 2 ∨ k = 3 by omega) with rfl | rfl | rfl | rfl
      · --
        refine lv_iload_n hx hb dX7_copy_20 rfl (lv_at hl 1 rfl) ?_
        refine q_aald (b := sh 0) hx hb hK hw 1 4 (by omega) (by omega) rfl dX7_copy_21 rfl rfl ?_
        refine lv_astore (lv' := [(6, .ref (sh 0)), (0, .ref X), (1, .int (nI 0)), (2, .int i), (3, .int (nI m)), (4, .int j), (5, .int n)]) hx hb dX7_copy_22 hl (by decide) rfl (fun ls hl => ?_)
        refine lv_aload_n hx hb dX7_copy_24 rfl (lv_at hl 1 rfl) ?_
        refine q_get (v := .ref sa) (ci := 7) hx hb hts in_X7 hown hK hw 0 6 wd1 dX7_copy_25 rfl rfl (by decide) rfl ?_
        rcases (show m = 0 ∨ m = 1 ∨ m = 2 ∨ m = 3 by omega) with rfl | rfl | rfl | rfl
        · --
          refine lv_iload_n hx hb dX7_copy_28 rfl (lv_at hl 4 rfl) ?_
          refine q_aald (b := sh 0) hx hb hK hw 1 4 (by omega) (by omega) rfl dX7_copy_29 rfl rfl ?_
          refine lv_astore (lv' := [(7, .ref (sh 0)), (6, .ref (sh 0)), (0, .ref X), (1, .int (nI 0)), (2, .int i), (3, .int (nI 0)), (4, .int j), (5, .int n)]) hx hb dX7_copy_30 hl (by decide) rfl (fun ls hl => ?_)
          refine lv_aload hx hb dX7_copy_32 (lv_at hl 1 rfl) ?_
          have t0' := hth 0
          have t1' := hth 1
          have t2' := hth 2
          have t3' := hth 3
          have l0' := hla 0
          have l1' := hla 1
          have l2' := hla 2
          have l3' := hla 3
          refine q_get (v := .int (nI (th 0))) (ci := 4) hx hb hts in_X4 hown hK hw 2 0 wd2 dX7_copy_34 rfl rfl (by decide) rfl ?_
          refine q_if_eq (tgt := 48) hx hb ((th 0 : Nat) : Int) (nI_toInt (by omega)) dX7_copy_37 (by decide) (fun c5 => ?_) (fun c5 => ?_)
          · --
            refine lv_bipush (v := (-11)) hx hb dX7_copy_48 (by decide) ?_
            exact q_iret (wout := _) hx hb hr hlocks hAe hK fs hw (⟨by unfold cyC; rw [if_neg (by omega), tnI ek]; (try rw [tnI em]); rw [if_pos (by omega)], Or.inl ⟨fun h => by unfold cyOk at h; rw [tnI ek] at h; (try rw [tnI em] at h); omega, rfl⟩⟩) dX7_copy_50
          · --
            refine lv_aload hx hb dX7_copy_40 (lv_at hl 0 rfl) ?_
            refine q_get (v := .int (nI (th 0))) (ci := 4) hx hb hts in_X4 hown hK hw 2 0 wd2 dX7_copy_42 rfl rfl (by decide) rfl ?_
            refine q_if_ne (tgt := 51) hx hb ((th 0 : Nat) : Int) (nI_toInt (by omega)) dX7_copy_45 (by decide) (fun c6 => ?_) (fun c6 => ?_)
            · --
              refine lv_aload hx hb dX7_copy_51 (lv_at hl 1 rfl) ?_
              refine q_get (v := .int (nI (la 0))) (ci := 4) hx hb hts in_X4 hown hK hw 2 1 wd3 dX7_copy_53 rfl rfl (by decide) rfl ?_
              refine lv_aload hx hb dX7_copy_56 (lv_at hl 0 rfl) ?_
              refine q_get (v := .int (nI (la 0))) (ci := 4) hx hb hts in_X4 hown hK hw 2 1 wd3 dX7_copy_58 rfl rfl (by decide) rfl ?_
              refine q_icmp_eq (tgt := 67) hx hb ((la 0 : Nat) : Int) ((la 0 : Nat) : Int) (nI_toInt (by omega)) (nI_toInt (by omega)) dX7_copy_61 (by decide) (fun c7 => ?_) (fun c7 => ?_)
              · --
                refine lv_aload hx hb dX7_copy_67 (lv_at hl 1 rfl) ?_
                refine lv_iload_n hx hb dX7_copy_69 rfl (lv_at hl 4 rfl) ?_
                refine lv_iload hx hb dX7_copy_70 (lv_at hl 7 rfl) ?_
                refine q_calli (S := Unit) (Z := Z) (D := D) (wc := [((sh 0), .inr (4, [.int (nI (th 0)), .int (nI (la 0)), .int (nI (le 0)), .ref (it 0)])), ((it 0), .inl (Z 1, 24, .inr (.inl (fs 0))))]) (wr := [(X, .inr (7, [.ref pa, .ref P, .ref ia, .ref iP, .int (nI kp), .ref T, .ref sa, .ref et, .ref Rn, .ref Ol])), (sa, .inl (Z 4, 4, .inr (.inr (.inr (.inr (rl [sh 0, sh 1, sh 2, sh 3])))))), (sh 1, .inr (4, [.int (nI (th 1)), .int (nI (la 1)), .int (nI (le 1)), .ref (it 1)])), (it 1, .inl (Z 1, 24, .inr (.inl (fs 1)))), (sh 2, .inr (4, [.int (nI (th 2)), .int (nI (la 2)), .int (nI (le 2)), .ref (it 2)])), (it 2, .inl (Z 1, 24, .inr (.inl (fs 2)))), (sh 3, .inr (4, [.int (nI (th 3)), .int (nI (la 3)), .int (nI (le 3)), .ref (it 3)])), (it 3, .inl (Z 1, 24, .inr (.inl (fs 3))))]) (rest := []) hw hA [2, 3] [0, 1, 4, 5, 6, 7, 8, 9] rfl rfl rfl rfl (by decide) (fun hPc hDc => va_runV (As := [.int i, .int n]) (rest := []) ⟨hx, hb, hml, hown, hts⟩ (c_X4_holds l D Z H.size (sh 0) (it 0) (th 0) (la 0) (le 0) (fs 0) i n (hle _)) (cwV 2 hts gX7_copy_X4_holds rfl rfl rfl (by decide +kernel) ⟨Nat.le_of_ble_eq_true rfl, Nat.le_of_ble_eq_true rfl⟩) ⟨fb_cPre, va_recv hK.1 hPc (ci := 4) (q0 := 0) rfl rfl, pre_of hPc hK hDc⟩ rfl rfl hl.1 rfl (lv_room (Nat.le_of_ble_eq_true rfl)) dX7_copy_72 ⟨Nat.le_of_ble_eq_true rfl, Nat.le_of_ble_eq_true rfl⟩) (fun r8 uu H locs hr8 hw => ?_)
                subst hr8
                have hw : WS D A s [(X, .inr (7, [.ref pa, .ref P, .ref ia, .ref iP, .int (nI kp), .ref T, .ref sa, .ref et, .ref Rn, .ref Ol])), (sa, .inl (Z 4, 4, .inr (.inr (.inr (.inr (rl [sh 0, sh 1, sh 2, sh 3])))))), (sh 1, .inr (4, [.int (nI (th 1)), .int (nI (la 1)), .int (nI (le 1)), .ref (it 1)])), (it 1, .inl (Z 1, 24, .inr (.inl (fs 1)))), (sh 2, .inr (4, [.int (nI (th 2)), .int (nI (la 2)), .int (nI (le 2)), .ref (it 2)])), (it 2, .inl (Z 1, 24, .inr (.inl (fs 2)))), (sh 3, .inr (4, [.int (nI (th 3)), .int (nI (la 3)), .int (nI (le 3)), .ref (it 3)])), (it 3, .inl (Z 1, 24, .inr (.inl (fs 3)))), ((sh 0), .inr (4, [.int (nI (th 0)), .int (nI (la 0)), .int (nI (le 0)), .ref (it 0)])), ((it 0), .inl (Z 1, 24, .inr (.inl (fs 0))))] H locs := hw
                refine q_if_eq (tgt := 90) hx hb ((bb (hol (le 0) i n) : Nat) : Int) (nI_toInt (Nat.lt_of_le_of_lt (bb_le _) (by decide))) dX7_copy_75 (by decide) (fun c9 => ?_) (fun c9 => ?_)
                · --
                  have c9 := bb_0 c9
                  have hq1 := c9
                  refine lv_bipush (v := (-13)) hx hb dX7_copy_90 (by decide) ?_
                  exact q_iret (wout := _) hx hb hr hlocks hAe hK fs (hw.sub [0, 1, 8, 9, 2, 3, 4, 5, 6, 7] (by decide) rfl) (⟨by unfold cyC; rw [if_neg (by omega), tnI ek]; (try rw [tnI em]); rw [if_neg (by omega), if_neg (by omega), if_neg (by first | exact fun h => hq1 h.1 | exact fun h => hq2 h.2)], Or.inl ⟨fun h => by unfold cyOk at h; rw [tnI ek] at h; (try rw [tnI em] at h); first | exact hq1 h.2.2.2.1 | exact hq2 h.2.2.2.2, rfl⟩⟩) dX7_copy_92
                · --
                  have c9 := bb_1 c9
                  have hq1 := c9
                  refine lv_aload hx hb dX7_copy_78 (lv_at hl 0 rfl) ?_
                  refine lv_iload hx hb dX7_copy_80 (lv_at hl 6 rfl) ?_
                  refine lv_iload hx hb dX7_copy_82 (lv_at hl 7 rfl) ?_
                  refine q_calli (S := Unit) (Z := Z) (D := D) (wc := [((sh 0), .inr (4, [.int (nI (th 0)), .int (nI (la 0)), .int (nI (le 0)), .ref (it 0)])), ((it 0), .inl (Z 1, 24, .inr (.inl (fs 0))))]) (wr := [(X, .inr (7, [.ref pa, .ref P, .ref ia, .ref iP, .int (nI kp), .ref T, .ref sa, .ref et, .ref Rn, .ref Ol])), (sa, .inl (Z 4, 4, .inr (.inr (.inr (.inr (rl [sh 0, sh 1, sh 2, sh 3])))))), (sh 1, .inr (4, [.int (nI (th 1)), .int (nI (la 1)), .int (nI (le 1)), .ref (it 1)])), (it 1, .inl (Z 1, 24, .inr (.inl (fs 1)))), (sh 2, .inr (4, [.int (nI (th 2)), .int (nI (la 2)), .int (nI (le 2)), .ref (it 2)])), (it 2, .inl (Z 1, 24, .inr (.inl (fs 2)))), (sh 3, .inr (4, [.int (nI (th 3)), .int (nI (la 3)), .int (nI (le 3)), .ref (it 3)])), (it 3, .inl (Z 1, 24, .inr (.inl (fs 3))))]) (rest := []) hw hA [8, 9] [0, 1, 2, 3, 4, 5, 6, 7] rfl rfl rfl rfl (by decide) (fun hPc hDc => va_runV (As := [.int j, .int n]) (rest := []) ⟨hx, hb, hml, hown, hts⟩ (c_X4_holds l D Z H.size (sh 0) (it 0) (th 0) (la 0) (le 0) (fs 0) j n (hle _)) (cwV 2 hts gX7_copy_X4_holds rfl rfl rfl (by decide +kernel) ⟨Nat.le_of_ble_eq_true rfl, Nat.le_of_ble_eq_true rfl⟩) ⟨fb_cPre, va_recv hK.1 hPc (ci := 4) (q0 := 0) rfl rfl, pre_of hPc hK hDc⟩ rfl rfl hl.1 rfl (lv_room (Nat.le_of_ble_eq_true rfl)) dX7_copy_84 ⟨Nat.le_of_ble_eq_true rfl, Nat.le_of_ble_eq_true rfl⟩) (fun r10 uu H locs hr10 hw => ?_)
                  subst hr10
                  have hw : WS D A s [(X, .inr (7, [.ref pa, .ref P, .ref ia, .ref iP, .int (nI kp), .ref T, .ref sa, .ref et, .ref Rn, .ref Ol])), (sa, .inl (Z 4, 4, .inr (.inr (.inr (.inr (rl [sh 0, sh 1, sh 2, sh 3])))))), (sh 1, .inr (4, [.int (nI (th 1)), .int (nI (la 1)), .int (nI (le 1)), .ref (it 1)])), (it 1, .inl (Z 1, 24, .inr (.inl (fs 1)))), (sh 2, .inr (4, [.int (nI (th 2)), .int (nI (la 2)), .int (nI (le 2)), .ref (it 2)])), (it 2, .inl (Z 1, 24, .inr (.inl (fs 2)))), (sh 3, .inr (4, [.int (nI (th 3)), .int (nI (la 3)), .int (nI (le 3)), .ref (it 3)])), (it 3, .inl (Z 1, 24, .inr (.inl (fs 3)))), ((sh 0), .inr (4, [.int (nI (th 0)), .int (nI (la 0)), .int (nI (le 0)), .ref (it 0)])), ((it 0), .inl (Z 1, 24, .inr (.inl (fs 0))))] H locs := hw
                  refine q_if_ne (tgt := 93) hx hb ((bb (hol (le 0) j n) : Nat) : Int) (nI_toInt (Nat.lt_of_le_of_lt (bb_le _) (by decide))) dX7_copy_87 (by decide) (fun c11 => ?_) (fun c11 => ?_)
                  · --
                    have c11 := bb_1 c11
                    have hq2 := c11
                    have e0 := hle 0
                    have e1 := hle 1
                    have e2 := hle 2
                    have e3 := hle 3
                    obtain ⟨x, rfl, ex⟩ := i32_nat (x := i) (by omega)
                    obtain ⟨y, rfl, ey⟩ := i32_nat (x := j) (by omega)
                    obtain ⟨v, rfl, ev⟩ := i32_nat (x := n) (by omega)
                    refine lv_aload hx hb dX7_copy_93 (lv_at hl 1 rfl) ?_
                    refine q_get (v := .ref (it 0)) (ci := 4) hx hb hts in_X4 hown hK hw 8 3 wd4 dX7_copy_95 rfl rfl (by decide) rfl ?_
                    refine lv_iload_n hx hb dX7_copy_98 rfl (lv_at hl 4 rfl) ?_
                    refine lv_aload hx hb dX7_copy_99 (lv_at hl 0 rfl) ?_
                    refine q_get (v := .ref (it 0)) (ci := 4) hx hb hts in_X4 hown hK hw 8 3 wd4 dX7_copy_101 rfl rfl (by decide) rfl ?_
                    refine lv_iload hx hb dX7_copy_104 (lv_at hl 6 rfl) ?_
                    refine lv_iload hx hb dX7_copy_106 (lv_at hl 7 rfl) ?_
                    refine q_copyl hx hb (by rw [hml]; exact hl.1.symm) hown wd5 wd6 wd7 wd8 hK hw 9 9 (by omega) (by omega) (by omega) (by omega) (by omega) (Nat.le_of_ble_eq_true rfl) (by decide +kernel) dX7_copy_108 rfl rfl (fun H locs hw => ?_)
                    have hw : WS D A s [(X, .inr (7, [.ref pa, .ref P, .ref ia, .ref iP, .int (nI kp), .ref T, .ref sa, .ref et, .ref Rn, .ref Ol])), (sa, .inl (Z 4, 4, .inr (.inr (.inr (.inr (rl [sh 0, sh 1, sh 2, sh 3])))))), (sh 1, .inr (4, [.int (nI (th 1)), .int (nI (la 1)), .int (nI (le 1)), .ref (it 1)])), (it 1, .inl (Z 1, 24, .inr (.inl (fs 1)))), (sh 2, .inr (4, [.int (nI (th 2)), .int (nI (la 2)), .int (nI (le 2)), .ref (it 2)])), (it 2, .inl (Z 1, 24, .inr (.inl (fs 2)))), (sh 3, .inr (4, [.int (nI (th 3)), .int (nI (la 3)), .int (nI (le 3)), .ref (it 3)])), (it 3, .inl (Z 1, 24, .inr (.inl (fs 3)))), ((sh 0), .inr (4, [.int (nI (th 0)), .int (nI (la 0)), .int (nI (le 0)), .ref (it 0)])), ((it 0), .inl (Z 1, 24, .inr (.inl (va_cpy (fs 0) (fs 0) x y v))))] H locs := hw
                    refine lv_iload hx hb dX7_copy_111 (lv_at hl 7 rfl) ?_
                    exact q_iret (wout := _) hx hb hr hlocks hAe hK (va_up fs 0 (va_cpy (fs 0) (fs 0) x y v)) (hw.sub [0, 1, 8, 9, 2, 3, 4, 5, 6, 7] (by decide) rfl) (⟨by unfold cyC; rw [if_neg (by omega), tnI ek]; (try rw [tnI em]); rw [if_neg (by omega), if_neg (by omega), if_pos ⟨hq1, hq2⟩], Or.inr ⟨by unfold cyOk; rw [tnI ek]; (try rw [tnI em]); exact ⟨by omega, by omega, by omega, hq1, hq2⟩, by rw [tnI ek]; (try rw [tnI em]); rw [tnI ex, tnI ey, tnI ev]⟩⟩) dX7_copy_113
                  · --
                    have c11 := bb_0 c11
                    have hq2 := c11
                    refine lv_bipush (v := (-13)) hx hb dX7_copy_90 (by decide) ?_
                    exact q_iret (wout := _) hx hb hr hlocks hAe hK fs (hw.sub [0, 1, 8, 9, 2, 3, 4, 5, 6, 7] (by decide) rfl) (⟨by unfold cyC; rw [if_neg (by omega), tnI ek]; (try rw [tnI em]); rw [if_neg (by omega), if_neg (by omega), if_neg (by first | exact fun h => hq1 h.1 | exact fun h => hq2 h.2)], Or.inl ⟨fun h => by unfold cyOk at h; rw [tnI ek] at h; (try rw [tnI em] at h); first | exact hq1 h.2.2.2.1 | exact hq2 h.2.2.2.2, rfl⟩⟩) dX7_copy_92
              · --
                refine lv_bipush (v := (-12)) hx hb dX7_copy_64 (by decide) ?_
                exact q_iret (wout := _) hx hb hr hlocks hAe hK fs hw (⟨by unfold cyC; rw [if_neg (by omega), tnI ek]; (try rw [tnI em]); rw [if_neg (by omega), if_pos (by omega)], Or.inl ⟨fun h => by unfold cyOk at h; rw [tnI ek] at h; (try rw [tnI em] at h); omega, rfl⟩⟩) dX7_copy_66
            · --
              refine lv_bipush (v := (-11)) hx hb dX7_copy_48 (by decide) ?_
              exact q_iret (wout := _) hx hb hr hlocks hAe hK fs hw (⟨by unfold cyC; rw [if_neg (by omega), tnI ek]; (try rw [tnI em]); rw [if_pos (by omega)], Or.inl ⟨fun h => by unfold cyOk at h; rw [tnI ek] at h; (try rw [tnI em] at h); omega, rfl⟩⟩) dX7_copy_50
        · --
          refine lv_iload_n hx hb dX7_copy_28 rfl (lv_at hl 4 rfl) ?_
          refine q_aald (b := sh 1) hx hb hK hw 1 4 (by omega) (by omega) rfl dX7_copy_29 rfl rfl ?_
          refine lv_astore (lv' := [(7, .ref (sh 1)), (6, .ref (sh 0)), (0, .ref X), (1, .int (nI 0)), (2, .int i), (3, .int (nI 1)), (4, .int j), (5, .int n)]) hx hb dX7_copy_30 hl (by decide) rfl (fun ls hl => ?_)
          refine lv_aload hx hb dX7_copy_32 (lv_at hl 1 rfl) ?_
          have t0' := hth 0
          have t1' := hth 1
          have t2' := hth 2
          have t3' := hth 3
          have l0' := hla 0
          have l1' := hla 1
          have l2' := hla 2
          have l3' := hla 3
          refine q_get (v := .int (nI (th 0))) (ci := 4) hx hb hts in_X4 hown hK hw 2 0 wd2 dX7_copy_34 rfl rfl (by decide) rfl ?_
          refine q_if_eq (tgt := 48) hx hb ((th 0 : Nat) : Int) (nI_toInt (by omega)) dX7_copy_37 (by decide) (fun c12 => ?_) (fun c12 => ?_)
          · --
            refine lv_bipush (v := (-11)) hx hb dX7_copy_48 (by decide) ?_
            exact q_iret (wout := _) hx hb hr hlocks hAe hK fs hw (⟨by unfold cyC; rw [if_neg (by omega), tnI ek]; (try rw [tnI em]); rw [if_pos (by omega)], Or.inl ⟨fun h => by unfold cyOk at h; rw [tnI ek] at h; (try rw [tnI em] at h); omega, rfl⟩⟩) dX7_copy_50
          · --
            refine lv_aload hx hb dX7_copy_40 (lv_at hl 0 rfl) ?_
            refine q_get (v := .int (nI (th 1))) (ci := 4) hx hb hts in_X4 hown hK hw 4 0 wd2 dX7_copy_42 rfl rfl (by decide) rfl ?_
            refine q_if_ne (tgt := 51) hx hb ((th 1 : Nat) : Int) (nI_toInt (by omega)) dX7_copy_45 (by decide) (fun c13 => ?_) (fun c13 => ?_)
            · --
              refine lv_aload hx hb dX7_copy_51 (lv_at hl 1 rfl) ?_
              refine q_get (v := .int (nI (la 0))) (ci := 4) hx hb hts in_X4 hown hK hw 2 1 wd3 dX7_copy_53 rfl rfl (by decide) rfl ?_
              refine lv_aload hx hb dX7_copy_56 (lv_at hl 0 rfl) ?_
              refine q_get (v := .int (nI (la 1))) (ci := 4) hx hb hts in_X4 hown hK hw 4 1 wd3 dX7_copy_58 rfl rfl (by decide) rfl ?_
              refine q_icmp_eq (tgt := 67) hx hb ((la 0 : Nat) : Int) ((la 1 : Nat) : Int) (nI_toInt (by omega)) (nI_toInt (by omega)) dX7_copy_61 (by decide) (fun c14 => ?_) (fun c14 => ?_)
              · --
                refine lv_aload hx hb dX7_copy_67 (lv_at hl 1 rfl) ?_
                refine lv_iload_n hx hb dX7_copy_69 rfl (lv_at hl 4 rfl) ?_
                refine lv_iload hx hb dX7_copy_70 (lv_at hl 7 rfl) ?_
                refine q_calli (S := Unit) (Z := Z) (D := D) (wc := [((sh 0), .inr (4, [.int (nI (th 0)), .int (nI (la 0)), .int (nI (le 0)), .ref (it 0)])), ((it 0), .inl (Z 1, 24, .inr (.inl (fs 0))))]) (wr := [(X, .inr (7, [.ref pa, .ref P, .ref ia, .ref iP, .int (nI kp), .ref T, .ref sa, .ref et, .ref Rn, .ref Ol])), (sa, .inl (Z 4, 4, .inr (.inr (.inr (.inr (rl [sh 0, sh 1, sh 2, sh 3])))))), (sh 1, .inr (4, [.int (nI (th 1)), .int (nI (la 1)), .int (nI (le 1)), .ref (it 1)])), (it 1, .inl (Z 1, 24, .inr (.inl (fs 1)))), (sh 2, .inr (4, [.int (nI (th 2)), .int (nI (la 2)), .int (nI (le 2)), .ref (it 2)])), (it 2, .inl (Z 1, 24, .inr (.inl (fs 2)))), (sh 3, .inr (4, [.int (nI (th 3)), .int (nI (la 3)), .int (nI (le 3)), .ref (it 3)])), (it 3, .inl (Z 1, 24, .inr (.inl (fs 3))))]) (rest := []) hw hA [2, 3] [0, 1, 4, 5, 6, 7, 8, 9] rfl rfl rfl rfl (by decide) (fun hPc hDc => va_runV (As := [.int i, .int n]) (rest := []) ⟨hx, hb, hml, hown, hts⟩ (c_X4_holds l D Z H.size (sh 0) (it 0) (th 0) (la 0) (le 0) (fs 0) i n (hle _)) (cwV 2 hts gX7_copy_X4_holds rfl rfl rfl (by decide +kernel) ⟨Nat.le_of_ble_eq_true rfl, Nat.le_of_ble_eq_true rfl⟩) ⟨fb_cPre, va_recv hK.1 hPc (ci := 4) (q0 := 0) rfl rfl, pre_of hPc hK hDc⟩ rfl rfl hl.1 rfl (lv_room (Nat.le_of_ble_eq_true rfl)) dX7_copy_72 ⟨Nat.le_of_ble_eq_true rfl, Nat.le_of_ble_eq_true rfl⟩) (fun r15 uu H locs hr15 hw => ?_)
                subst hr15
                have hw : WS D A s [(X, .inr (7, [.ref pa, .ref P, .ref ia, .ref iP, .int (nI kp), .ref T, .ref sa, .ref et, .ref Rn, .ref Ol])), (sa, .inl (Z 4, 4, .inr (.inr (.inr (.inr (rl [sh 0, sh 1, sh 2, sh 3])))))), (sh 1, .inr (4, [.int (nI (th 1)), .int (nI (la 1)), .int (nI (le 1)), .ref (it 1)])), (it 1, .inl (Z 1, 24, .inr (.inl (fs 1)))), (sh 2, .inr (4, [.int (nI (th 2)), .int (nI (la 2)), .int (nI (le 2)), .ref (it 2)])), (it 2, .inl (Z 1, 24, .inr (.inl (fs 2)))), (sh 3, .inr (4, [.int (nI (th 3)), .int (nI (la 3)), .int (nI (le 3)), .ref (it 3)])), (it 3, .inl (Z 1, 24, .inr (.inl (fs 3)))), ((sh 0), .inr (4, [.int (nI (th 0)), .int (nI (la 0)), .int (nI (le 0)), .ref (it 0)])), ((it 0), .inl (Z 1, 24, .inr (.inl (fs 0))))] H locs := hw
                refine q_if_eq (tgt := 90) hx hb ((bb (hol (le 0) i n) : Nat) : Int) (nI_toInt (Nat.lt_of_le_of_lt (bb_le _) (by decide))) dX7_copy_75 (by decide) (fun c16 => ?_) (fun c16 => ?_)
                · --
                  have c16 := bb_0 c16
                  have hq1 := c16
                  refine lv_bipush (v := (-13)) hx hb dX7_copy_90 (by decide) ?_
                  exact q_iret (wout := _) hx hb hr hlocks hAe hK fs (hw.sub [0, 1, 8, 9, 2, 3, 4, 5, 6, 7] (by decide) rfl) (⟨by unfold cyC; rw [if_neg (by omega), tnI ek]; (try rw [tnI em]); rw [if_neg (by omega), if_neg (by omega), if_neg (by first | exact fun h => hq1 h.1 | exact fun h => hq2 h.2)], Or.inl ⟨fun h => by unfold cyOk at h; rw [tnI ek] at h; (try rw [tnI em] at h); first | exact hq1 h.2.2.2.1 | exact hq2 h.2.2.2.2, rfl⟩⟩) dX7_copy_92
                · --
                  have c16 := bb_1 c16
                  have hq1 := c16
                  refine lv_aload hx hb dX7_copy_78 (lv_at hl 0 rfl) ?_
                  refine lv_iload hx hb dX7_copy_80 (lv_at hl 6 rfl) ?_
                  refine lv_iload hx hb dX7_copy_82 (lv_at hl 7 rfl) ?_
                  refine q_calli (S := Unit) (Z := Z) (D := D) (wc := [((sh 1), .inr (4, [.int (nI (th 1)), .int (nI (la 1)), .int (nI (le 1)), .ref (it 1)])), ((it 1), .inl (Z 1, 24, .inr (.inl (fs 1))))]) (wr := [(X, .inr (7, [.ref pa, .ref P, .ref ia, .ref iP, .int (nI kp), .ref T, .ref sa, .ref et, .ref Rn, .ref Ol])), (sa, .inl (Z 4, 4, .inr (.inr (.inr (.inr (rl [sh 0, sh 1, sh 2, sh 3])))))), (sh 2, .inr (4, [.int (nI (th 2)), .int (nI (la 2)), .int (nI (le 2)), .ref (it 2)])), (it 2, .inl (Z 1, 24, .inr (.inl (fs 2)))), (sh 3, .inr (4, [.int (nI (th 3)), .int (nI (la 3)), .int (nI (le 3)), .ref (it 3)])), (it 3, .inl (Z 1, 24, .inr (.inl (fs 3)))), ((sh 0), .inr (4, [.int (nI (th 0)), .int (nI (la 0)), .int (nI (le 0)), .ref (it 0)])), ((it 0), .inl (Z 1, 24, .inr (.inl (fs 0))))]) (rest := []) hw hA [2, 3] [0, 1, 4, 5, 6, 7, 8, 9] rfl rfl rfl rfl (by decide) (fun hPc hDc => va_runV (As := [.int j, .int n]) (rest := []) ⟨hx, hb, hml, hown, hts⟩ (c_X4_holds l D Z H.size (sh 1) (it 1) (th 1) (la 1) (le 1) (fs 1) j n (hle _)) (cwV 2 hts gX7_copy_X4_holds rfl rfl rfl (by decide +kernel) ⟨Nat.le_of_ble_eq_true rfl, Nat.le_of_ble_eq_true rfl⟩) ⟨fb_cPre, va_recv hK.1 hPc (ci := 4) (q0 := 0) rfl rfl, pre_of hPc hK hDc⟩ rfl rfl hl.1 rfl (lv_room (Nat.le_of_ble_eq_true rfl)) dX7_copy_84 ⟨Nat.le_of_ble_eq_true rfl, Nat.le_of_ble_eq_true rfl⟩) (fun r17 uu H locs hr17 hw => ?_)
                  subst hr17
                  have hw : WS D A s [(X, .inr (7, [.ref pa, .ref P, .ref ia, .ref iP, .int (nI kp), .ref T, .ref sa, .ref et, .ref Rn, .ref Ol])), (sa, .inl (Z 4, 4, .inr (.inr (.inr (.inr (rl [sh 0, sh 1, sh 2, sh 3])))))), (sh 2, .inr (4, [.int (nI (th 2)), .int (nI (la 2)), .int (nI (le 2)), .ref (it 2)])), (it 2, .inl (Z 1, 24, .inr (.inl (fs 2)))), (sh 3, .inr (4, [.int (nI (th 3)), .int (nI (la 3)), .int (nI (le 3)), .ref (it 3)])), (it 3, .inl (Z 1, 24, .inr (.inl (fs 3)))), ((sh 0), .inr (4, [.int (nI (th 0)), .int (nI (la 0)), .int (nI (le 0)), .ref (it 0)])), ((it 0), .inl (Z 1, 24, .inr (.inl (fs 0)))), ((sh 1), .inr (4, [.int (nI (th 1)), .int (nI (la 1)), .int (nI (le 1)), .ref (it 1)])), ((it 1), .inl (Z 1, 24, .inr (.inl (fs 1))))] H locs := hw
                  refine q_if_ne (tgt := 93) hx hb ((bb (hol (le 1) j n) : Nat) : Int) (nI_toInt (Nat.lt_of_le_of_lt (bb_le _) (by decide))) dX7_copy_87 (by decide) (fun c18 => ?_) (fun c18 => ?_)
                  · --
                    have c18 := bb_1 c18
                    have hq2 := c18
                    have e0 := hle 0
                    have e1 := hle 1
                    have e2 := hle 2
                    have e3 := hle 3
                    obtain ⟨x, rfl, ex⟩ := i32_nat (x := i) (by omega)
                    obtain ⟨y, rfl, ey⟩ := i32_nat (x := j) (by omega)
                    obtain ⟨v, rfl, ev⟩ := i32_nat (x := n) (by omega)
                    refine lv_aload hx hb dX7_copy_93 (lv_at hl 1 rfl) ?_
                    refine q_get (v := .ref (it 0)) (ci := 4) hx hb hts in_X4 hown hK hw 6 3 wd4 dX7_copy_95 rfl rfl (by decide) rfl ?_
                    refine lv_iload_n hx hb dX7_copy_98 rfl (lv_at hl 4 rfl) ?_
                    refine lv_aload hx hb dX7_copy_99 (lv_at hl 0 rfl) ?_
                    refine q_get (v := .ref (it 1)) (ci := 4) hx hb hts in_X4 hown hK hw 8 3 wd4 dX7_copy_101 rfl rfl (by decide) rfl ?_
                    refine lv_iload hx hb dX7_copy_104 (lv_at hl 6 rfl) ?_
                    refine lv_iload hx hb dX7_copy_106 (lv_at hl 7 rfl) ?_
                    refine q_copyl hx hb (by rw [hml]; exact hl.1.symm) hown wd5 wd6 wd7 wd8 hK hw 7 9 (by omega) (by omega) (by omega) (by omega) (by omega) (Nat.le_of_ble_eq_true rfl) (by decide +kernel) dX7_copy_108 rfl rfl (fun H locs hw => ?_)
                    have hw : WS D A s [(X, .inr (7, [.ref pa, .ref P, .ref ia, .ref iP, .int (nI kp), .ref T, .ref sa, .ref et, .ref Rn, .ref Ol])), (sa, .inl (Z 4, 4, .inr (.inr (.inr (.inr (rl [sh 0, sh 1, sh 2, sh 3])))))), (sh 2, .inr (4, [.int (nI (th 2)), .int (nI (la 2)), .int (nI (le 2)), .ref (it 2)])), (it 2, .inl (Z 1, 24, .inr (.inl (fs 2)))), (sh 3, .inr (4, [.int (nI (th 3)), .int (nI (la 3)), .int (nI (le 3)), .ref (it 3)])), (it 3, .inl (Z 1, 24, .inr (.inl (fs 3)))), ((sh 0), .inr (4, [.int (nI (th 0)), .int (nI (la 0)), .int (nI (le 0)), .ref (it 0)])), ((it 0), .inl (Z 1, 24, .inr (.inl (fs 0)))), ((sh 1), .inr (4, [.int (nI (th 1)), .int (nI (la 1)), .int (nI (le 1)), .ref (it 1)])), ((it 1), .inl (Z 1, 24, .inr (.inl (va_cpy (fs 0) (fs 1) x y v))))] H locs := hw
                    refine lv_iload hx hb dX7_copy_111 (lv_at hl 7 rfl) ?_
                    exact q_iret (wout := _) hx hb hr hlocks hAe hK (va_up fs 1 (va_cpy (fs 0) (fs 1) x y v)) (hw.sub [0, 1, 6, 7, 8, 9, 2, 3, 4, 5] (by decide) rfl) (⟨by unfold cyC; rw [if_neg (by omega), tnI ek]; (try rw [tnI em]); rw [if_neg (by omega), if_neg (by omega), if_pos ⟨hq1, hq2⟩], Or.inr ⟨by unfold cyOk; rw [tnI ek]; (try rw [tnI em]); exact ⟨by omega, by omega, by omega, hq1, hq2⟩, by rw [tnI ek]; (try rw [tnI em]); rw [tnI ex, tnI ey, tnI ev]⟩⟩) dX7_copy_113
                  · --
                    have c18 := bb_0 c18
                    have hq2 := c18
                    refine lv_bipush (v := (-13)) hx hb dX7_copy_90 (by decide) ?_
                    exact q_iret (wout := _) hx hb hr hlocks hAe hK fs (hw.sub [0, 1, 6, 7, 8, 9, 2, 3, 4, 5] (by decide) rfl) (⟨by unfold cyC; rw [if_neg (by omega), tnI ek]; (try rw [tnI em]); rw [if_neg (by omega), if_neg (by omega), if_neg (by first | exact fun h => hq1 h.1 | exact fun h => hq2 h.2)], Or.inl ⟨fun h => by unfold cyOk at h; rw [tnI ek] at h; (try rw [tnI em] at h); first | exact hq1 h.2.2.2.1 | exact hq2 h.2.2.2.2, rfl⟩⟩) dX7_copy_92
              · --
                refine lv_bipush (v := (-12)) hx hb dX7_copy_64 (by decide) ?_
                exact q_iret (wout := _) hx hb hr hlocks hAe hK fs hw (⟨by unfold cyC; rw [if_neg (by omega), tnI ek]; (try rw [tnI em]); rw [if_neg (by omega), if_pos (by omega)], Or.inl ⟨fun h => by unfold cyOk at h; rw [tnI ek] at h; (try rw [tnI em] at h); omega, rfl⟩⟩) dX7_copy_66
            · --
              refine lv_bipush (v := (-11)) hx hb dX7_copy_48 (by decide) ?_
              exact q_iret (wout := _) hx hb hr hlocks hAe hK fs hw (⟨by unfold cyC; rw [if_neg (by omega), tnI ek]; (try rw [tnI em]); rw [if_pos (by omega)], Or.inl ⟨fun h => by unfold cyOk at h; rw [tnI ek] at h; (try rw [tnI em] at h); omega, rfl⟩⟩) dX7_copy_50
        · --
          refine lv_iload_n hx hb dX7_copy_28 rfl (lv_at hl 4 rfl) ?_
          refine q_aald (b := sh 2) hx hb hK hw 1 4 (by omega) (by omega) rfl dX7_copy_29 rfl rfl ?_
          refine lv_astore (lv' := [(7, .ref (sh 2)), (6, .ref (sh 0)), (0, .ref X), (1, .int (nI 0)), (2, .int i), (3, .int (nI 2)), (4, .int j), (5, .int n)]) hx hb dX7_copy_30 hl (by decide) rfl (fun ls hl => ?_)
          refine lv_aload hx hb dX7_copy_32 (lv_at hl 1 rfl) ?_
          have t0' := hth 0
          have t1' := hth 1
          have t2' := hth 2
          have t3' := hth 3
          have l0' := hla 0
          have l1' := hla 1
          have l2' := hla 2
          have l3' := hla 3
          refine q_get (v := .int (nI (th 0))) (ci := 4) hx hb hts in_X4 hown hK hw 2 0 wd2 dX7_copy_34 rfl rfl (by decide) rfl ?_
          refine q_if_eq (tgt := 48) hx hb ((th 0 : Nat) : Int) (nI_toInt (by omega)) dX7_copy_37 (by decide) (fun c19 => ?_) (fun c19 => ?_)
          · --
            refine lv_bipush (v := (-11)) hx hb dX7_copy_48 (by decide) ?_
            exact q_iret (wout := _) hx hb hr hlocks hAe hK fs hw (⟨by unfold cyC; rw [if_neg (by omega), tnI ek]; (try rw [tnI em]); rw [if_pos (by omega)], Or.inl ⟨fun h => by unfold cyOk at h; rw [tnI ek] at h; (try rw [tnI em] at h); omega, rfl⟩⟩) dX7_copy_50
          · --
            refine lv_aload hx hb dX7_copy_40 (lv_at hl 0 rfl) ?_
            refine q_get (v := .int (nI (th 2))) (ci := 4) hx hb hts in_X4 hown hK hw 6 0 wd2 dX7_copy_42 rfl rfl (by decide) rfl ?_
            refine q_if_ne (tgt := 51) hx hb ((th 2 : Nat) : Int) (nI_toInt (by omega)) dX7_copy_45 (by decide) (fun c20 => ?_) (fun c20 => ?_)
            · --
              refine lv_aload hx hb dX7_copy_51 (lv_at hl 1 rfl) ?_
              refine q_get (v := .int (nI (la 0))) (ci := 4) hx hb hts in_X4 hown hK hw 2 1 wd3 dX7_copy_53 rfl rfl (by decide) rfl ?_
              refine lv_aload hx hb dX7_copy_56 (lv_at hl 0 rfl) ?_
              refine q_get (v := .int (nI (la 2))) (ci := 4) hx hb hts in_X4 hown hK hw 6 1 wd3 dX7_copy_58 rfl rfl (by decide) rfl ?_
              refine q_icmp_eq (tgt := 67) hx hb ((la 0 : Nat) : Int) ((la 2 : Nat) : Int) (nI_toInt (by omega)) (nI_toInt (by omega)) dX7_copy_61 (by decide) (fun c21 => ?_) (fun c21 => ?_)
              · --
                refine lv_aload hx hb dX7_copy_67 (lv_at hl 1 rfl) ?_
                refine lv_iload_n hx hb dX7_copy_69 rfl (lv_at hl 4 rfl) ?_
                refine lv_iload hx hb dX7_copy_70 (lv_at hl 7 rfl) ?_
                refine q_calli (S := Unit) (Z := Z) (D := D) (wc := [((sh 0), .inr (4, [.int (nI (th 0)), .int (nI (la 0)), .int (nI (le 0)), .ref (it 0)])), ((it 0), .inl (Z 1, 24, .inr (.inl (fs 0))))]) (wr := [(X, .inr (7, [.ref pa, .ref P, .ref ia, .ref iP, .int (nI kp), .ref T, .ref sa, .ref et, .ref Rn, .ref Ol])), (sa, .inl (Z 4, 4, .inr (.inr (.inr (.inr (rl [sh 0, sh 1, sh 2, sh 3])))))), (sh 1, .inr (4, [.int (nI (th 1)), .int (nI (la 1)), .int (nI (le 1)), .ref (it 1)])), (it 1, .inl (Z 1, 24, .inr (.inl (fs 1)))), (sh 2, .inr (4, [.int (nI (th 2)), .int (nI (la 2)), .int (nI (le 2)), .ref (it 2)])), (it 2, .inl (Z 1, 24, .inr (.inl (fs 2)))), (sh 3, .inr (4, [.int (nI (th 3)), .int (nI (la 3)), .int (nI (le 3)), .ref (it 3)])), (it 3, .inl (Z 1, 24, .inr (.inl (fs 3))))]) (rest := []) hw hA [2, 3] [0, 1, 4, 5, 6, 7, 8, 9] rfl rfl rfl rfl (by decide) (fun hPc hDc => va_runV (As := [.int i, .int n]) (rest := []) ⟨hx, hb, hml, hown, hts⟩ (c_X4_holds l D Z H.size (sh 0) (it 0) (th 0) (la 0) (le 0) (fs 0) i n (hle _)) (cwV 2 hts gX7_copy_X4_holds rfl rfl rfl (by decide +kernel) ⟨Nat.le_of_ble_eq_true rfl, Nat.le_of_ble_eq_true rfl⟩) ⟨fb_cPre, va_recv hK.1 hPc (ci := 4) (q0 := 0) rfl rfl, pre_of hPc hK hDc⟩ rfl rfl hl.1 rfl (lv_room (Nat.le_of_ble_eq_true rfl)) dX7_copy_72 ⟨Nat.le_of_ble_eq_true rfl, Nat.le_of_ble_eq_true rfl⟩) (fun r22 uu H locs hr22 hw => ?_)
                subst hr22
                have hw : WS D A s [(X, .inr (7, [.ref pa, .ref P, .ref ia, .ref iP, .int (nI kp), .ref T, .ref sa, .ref et, .ref Rn, .ref Ol])), (sa, .inl (Z 4, 4, .inr (.inr (.inr (.inr (rl [sh 0, sh 1, sh 2, sh 3])))))), (sh 1, .inr (4, [.int (nI (th 1)), .int (nI (la 1)), .int (nI (le 1)), .ref (it 1)])), (it 1, .inl (Z 1, 24, .inr (.inl (fs 1)))), (sh 2, .inr (4, [.int (nI (th 2)), .int (nI (la 2)), .int (nI (le 2)), .ref (it 2)])), (it 2, .inl (Z 1, 24, .inr (.inl (fs 2)))), (sh 3, .inr (4, [.int (nI (th 3)), .int (nI (la 3)), .int (nI (le 3)), .ref (it 3)])), (it 3, .inl (Z 1, 24, .inr (.inl (fs 3)))), ((sh 0), .inr (4, [.int (nI (th 0)), .int (nI (la 0)), .int (nI (le 0)), .ref (it 0)])), ((it 0), .inl (Z 1, 24, .inr (.inl (fs 0))))] H locs := hw
                refine q_if_eq (tgt := 90) hx hb ((bb (hol (le 0) i n) : Nat) : Int) (nI_toInt (Nat.lt_of_le_of_lt (bb_le _) (by decide))) dX7_copy_75 (by decide) (fun c23 => ?_) (fun c23 => ?_)
                · --
                  have c23 := bb_0 c23
                  have hq1 := c23
                  refine lv_bipush (v := (-13)) hx hb dX7_copy_90 (by decide) ?_
                  exact q_iret (wout := _) hx hb hr hlocks hAe hK fs (hw.sub [0, 1, 8, 9, 2, 3, 4, 5, 6, 7] (by decide) rfl) (⟨by unfold cyC; rw [if_neg (by omega), tnI ek]; (try rw [tnI em]); rw [if_neg (by omega), if_neg (by omega), if_neg (by first | exact fun h => hq1 h.1 | exact fun h => hq2 h.2)], Or.inl ⟨fun h => by unfold cyOk at h; rw [tnI ek] at h; (try rw [tnI em] at h); first | exact hq1 h.2.2.2.1 | exact hq2 h.2.2.2.2, rfl⟩⟩) dX7_copy_92
                · --
                  have c23 := bb_1 c23
                  have hq1 := c23
                  refine lv_aload hx hb dX7_copy_78 (lv_at hl 0 rfl) ?_
                  refine lv_iload hx hb dX7_copy_80 (lv_at hl 6 rfl) ?_
                  refine lv_iload hx hb dX7_copy_82 (lv_at hl 7 rfl) ?_
                  refine q_calli (S := Unit) (Z := Z) (D := D) (wc := [((sh 2), .inr (4, [.int (nI (th 2)), .int (nI (la 2)), .int (nI (le 2)), .ref (it 2)])), ((it 2), .inl (Z 1, 24, .inr (.inl (fs 2))))]) (wr := [(X, .inr (7, [.ref pa, .ref P, .ref ia, .ref iP, .int (nI kp), .ref T, .ref sa, .ref et, .ref Rn, .ref Ol])), (sa, .inl (Z 4, 4, .inr (.inr (.inr (.inr (rl [sh 0, sh 1, sh 2, sh 3])))))), (sh 1, .inr (4, [.int (nI (th 1)), .int (nI (la 1)), .int (nI (le 1)), .ref (it 1)])), (it 1, .inl (Z 1, 24, .inr (.inl (fs 1)))), (sh 3, .inr (4, [.int (nI (th 3)), .int (nI (la 3)), .int (nI (le 3)), .ref (it 3)])), (it 3, .inl (Z 1, 24, .inr (.inl (fs 3)))), ((sh 0), .inr (4, [.int (nI (th 0)), .int (nI (la 0)), .int (nI (le 0)), .ref (it 0)])), ((it 0), .inl (Z 1, 24, .inr (.inl (fs 0))))]) (rest := []) hw hA [4, 5] [0, 1, 2, 3, 6, 7, 8, 9] rfl rfl rfl rfl (by decide) (fun hPc hDc => va_runV (As := [.int j, .int n]) (rest := []) ⟨hx, hb, hml, hown, hts⟩ (c_X4_holds l D Z H.size (sh 2) (it 2) (th 2) (la 2) (le 2) (fs 2) j n (hle _)) (cwV 2 hts gX7_copy_X4_holds rfl rfl rfl (by decide +kernel) ⟨Nat.le_of_ble_eq_true rfl, Nat.le_of_ble_eq_true rfl⟩) ⟨fb_cPre, va_recv hK.1 hPc (ci := 4) (q0 := 0) rfl rfl, pre_of hPc hK hDc⟩ rfl rfl hl.1 rfl (lv_room (Nat.le_of_ble_eq_true rfl)) dX7_copy_84 ⟨Nat.le_of_ble_eq_true rfl, Nat.le_of_ble_eq_true rfl⟩) (fun r24 uu H locs hr24 hw => ?_)
                  subst hr24
                  have hw : WS D A s [(X, .inr (7, [.ref pa, .ref P, .ref ia, .ref iP, .int (nI kp), .ref T, .ref sa, .ref et, .ref Rn, .ref Ol])), (sa, .inl (Z 4, 4, .inr (.inr (.inr (.inr (rl [sh 0, sh 1, sh 2, sh 3])))))), (sh 1, .inr (4, [.int (nI (th 1)), .int (nI (la 1)), .int (nI (le 1)), .ref (it 1)])), (it 1, .inl (Z 1, 24, .inr (.inl (fs 1)))), (sh 3, .inr (4, [.int (nI (th 3)), .int (nI (la 3)), .int (nI (le 3)), .ref (it 3)])), (it 3, .inl (Z 1, 24, .inr (.inl (fs 3)))), ((sh 0), .inr (4, [.int (nI (th 0)), .int (nI (la 0)), .int (nI (le 0)), .ref (it 0)])), ((it 0), .inl (Z 1, 24, .inr (.inl (fs 0)))), ((sh 2), .inr (4, [.int (nI (th 2)), .int (nI (la 2)), .int (nI (le 2)), .ref (it 2)])), ((it 2), .inl (Z 1, 24, .inr (.inl (fs 2))))] H locs := hw
                  refine q_if_ne (tgt := 93) hx hb ((bb (hol (le 2) j n) : Nat) : Int) (nI_toInt (Nat.lt_of_le_of_lt (bb_le _) (by decide))) dX7_copy_87 (by decide) (fun c25 => ?_) (fun c25 => ?_)
                  · --
                    have c25 := bb_1 c25
                    have hq2 := c25
                    have e0 := hle 0
                    have e1 := hle 1
                    have e2 := hle 2
                    have e3 := hle 3
                    obtain ⟨x, rfl, ex⟩ := i32_nat (x := i) (by omega)
                    obtain ⟨y, rfl, ey⟩ := i32_nat (x := j) (by omega)
                    obtain ⟨v, rfl, ev⟩ := i32_nat (x := n) (by omega)
                    refine lv_aload hx hb dX7_copy_93 (lv_at hl 1 rfl) ?_
                    refine q_get (v := .ref (it 0)) (ci := 4) hx hb hts in_X4 hown hK hw 6 3 wd4 dX7_copy_95 rfl rfl (by decide) rfl ?_
                    refine lv_iload_n hx hb dX7_copy_98 rfl (lv_at hl 4 rfl) ?_
                    refine lv_aload hx hb dX7_copy_99 (lv_at hl 0 rfl) ?_
                    refine q_get (v := .ref (it 2)) (ci := 4) hx hb hts in_X4 hown hK hw 8 3 wd4 dX7_copy_101 rfl rfl (by decide) rfl ?_
                    refine lv_iload hx hb dX7_copy_104 (lv_at hl 6 rfl) ?_
                    refine lv_iload hx hb dX7_copy_106 (lv_at hl 7 rfl) ?_
                    refine q_copyl hx hb (by rw [hml]; exact hl.1.symm) hown wd5 wd6 wd7 wd8 hK hw 7 9 (by omega) (by omega) (by omega) (by omega) (by omega) (Nat.le_of_ble_eq_true rfl) (by decide +kernel) dX7_copy_108 rfl rfl (fun H locs hw => ?_)
                    have hw : WS D A s [(X, .inr (7, [.ref pa, .ref P, .ref ia, .ref iP, .int (nI kp), .ref T, .ref sa, .ref et, .ref Rn, .ref Ol])), (sa, .inl (Z 4, 4, .inr (.inr (.inr (.inr (rl [sh 0, sh 1, sh 2, sh 3])))))), (sh 1, .inr (4, [.int (nI (th 1)), .int (nI (la 1)), .int (nI (le 1)), .ref (it 1)])), (it 1, .inl (Z 1, 24, .inr (.inl (fs 1)))), (sh 3, .inr (4, [.int (nI (th 3)), .int (nI (la 3)), .int (nI (le 3)), .ref (it 3)])), (it 3, .inl (Z 1, 24, .inr (.inl (fs 3)))), ((sh 0), .inr (4, [.int (nI (th 0)), .int (nI (la 0)), .int (nI (le 0)), .ref (it 0)])), ((it 0), .inl (Z 1, 24, .inr (.inl (fs 0)))), ((sh 2), .inr (4, [.int (nI (th 2)), .int (nI (la 2)), .int (nI (le 2)), .ref (it 2)])), ((it 2), .inl (Z 1, 24, .inr (.inl (va_cpy (fs 0) (fs 2) x y v))))] H locs := hw
                    refine lv_iload hx hb dX7_copy_111 (lv_at hl 7 rfl) ?_
                    exact q_iret (wout := _) hx hb hr hlocks hAe hK (va_up fs 2 (va_cpy (fs 0) (fs 2) x y v)) (hw.sub [0, 1, 6, 7, 2, 3, 8, 9, 4, 5] (by decide) rfl) (⟨by unfold cyC; rw [if_neg (by omega), tnI ek]; (try rw [tnI em]); rw [if_neg (by omega), if_neg (by omega), if_pos ⟨hq1, hq2⟩], Or.inr ⟨by unfold cyOk; rw [tnI ek]; (try rw [tnI em]); exact ⟨by omega, by omega, by omega, hq1, hq2⟩, by rw [tnI ek]; (try rw [tnI em]); rw [tnI ex, tnI ey, tnI ev]⟩⟩) dX7_copy_113
                  · --
                    have c25 := bb_0 c25
                    have hq2 := c25
                    refine lv_bipush (v := (-13)) hx hb dX7_copy_90 (by decide) ?_
                    exact q_iret (wout := _) hx hb hr hlocks hAe hK fs (hw.sub [0, 1, 6, 7, 2, 3, 8, 9, 4, 5] (by decide) rfl) (⟨by unfold cyC; rw [if_neg (by omega), tnI ek]; (try rw [tnI em]); rw [if_neg (by omega), if_neg (by omega), if_neg (by first | exact fun h => hq1 h.1 | exact fun h => hq2 h.2)], Or.inl ⟨fun h => by unfold cyOk at h; rw [tnI ek] at h; (try rw [tnI em] at h); first | exact hq1 h.2.2.2.1 | exact hq2 h.2.2.2.2, rfl⟩⟩) dX7_copy_92
              · --
                refine lv_bipush (v := (-12)) hx hb dX7_copy_64 (by decide) ?_
                exact q_iret (wout := _) hx hb hr hlocks hAe hK fs hw (⟨by unfold cyC; rw [if_neg (by omega), tnI ek]; (try rw [tnI em]); rw [if_neg (by omega), if_pos (by omega)], Or.inl ⟨fun h => by unfold cyOk at h; rw [tnI ek] at h; (try rw [tnI em] at h); omega, rfl⟩⟩) dX7_copy_66
            · --
              refine lv_bipush (v := (-11)) hx hb dX7_copy_48 (by decide) ?_
              exact q_iret (wout := _) hx hb hr hlocks hAe hK fs hw (⟨by unfold cyC; rw [if_neg (by omega), tnI ek]; (try rw [tnI em]); rw [if_pos (by omega)], Or.inl ⟨fun h => by unfold cyOk at h; rw [tnI ek] at h; (try rw [tnI em] at h); omega, rfl⟩⟩) dX7_copy_50
        · --
          refine lv_iload_n hx hb dX7_copy_28 rfl (lv_at hl 4 rfl) ?_
          refine q_aald (b := sh 3) hx hb hK hw 1 4 (by omega) (by omega) rfl dX7_copy_29 rfl rfl ?_
          refine lv_astore (lv' := [(7, .ref (sh 3)), (6, .ref (sh 0)), (0, .ref X), (1, .int (nI 0)), (2, .int i), (3, .int (nI 3)), (4, .int j), (5, .int n)]) hx hb dX7_copy_30 hl (by decide) rfl (fun ls hl => ?_)
          refine lv_aload hx hb dX7_copy_32 (lv_at hl 1 rfl) ?_
          have t0' := hth 0
          have t1' := hth 1
          have t2' := hth 2
          have t3' := hth 3
          have l0' := hla 0
          have l1' := hla 1
          have l2' := hla 2
          have l3' := hla 3
          refine q_get (v := .int (nI (th 0))) (ci := 4) hx hb hts in_X4 hown hK hw 2 0 wd2 dX7_copy_34 rfl rfl (by decide) rfl ?_
          refine q_if_eq (tgt := 48) hx hb ((th 0 : Nat) : Int) (nI_toInt (by omega)) dX7_copy_37 (by decide) (fun c26 => ?_) (fun c26 => ?_)
          · --
            refine lv_bipush (v := (-11)) hx hb dX7_copy_48 (by decide) ?_
            exact q_iret (wout := _) hx hb hr hlocks hAe hK fs hw (⟨by unfold cyC; rw [if_neg (by omega), tnI ek]; (try rw [tnI em]); rw [if_pos (by omega)], Or.inl ⟨fun h => by unfold cyOk at h; rw [tnI ek] at h; (try rw [tnI em] at h); omega, rfl⟩⟩) dX7_copy_50
          · --
            refine lv_aload hx hb dX7_copy_40 (lv_at hl 0 rfl) ?_
            refine q_get (v := .int (nI (th 3))) (ci := 4) hx hb hts in_X4 hown hK hw 8 0 wd2 dX7_copy_42 rfl rfl (by decide) rfl ?_
            refine q_if_ne (tgt := 51) hx hb ((th 3 : Nat) : Int) (nI_toInt (by omega)) dX7_copy_45 (by decide) (fun c27 => ?_) (fun c27 => ?_)
            · --
              refine lv_aload hx hb dX7_copy_51 (lv_at hl 1 rfl) ?_
              refine q_get (v := .int (nI (la 0))) (ci := 4) hx hb hts in_X4 hown hK hw 2 1 wd3 dX7_copy_53 rfl rfl (by decide) rfl ?_
              refine lv_aload hx hb dX7_copy_56 (lv_at hl 0 rfl) ?_
              refine q_get (v := .int (nI (la 3))) (ci := 4) hx hb hts in_X4 hown hK hw 8 1 wd3 dX7_copy_58 rfl rfl (by decide) rfl ?_
              refine q_icmp_eq (tgt := 67) hx hb ((la 0 : Nat) : Int) ((la 3 : Nat) : Int) (nI_toInt (by omega)) (nI_toInt (by omega)) dX7_copy_61 (by decide) (fun c28 => ?_) (fun c28 => ?_)
              · --
                refine lv_aload hx hb dX7_copy_67 (lv_at hl 1 rfl) ?_
                refine lv_iload_n hx hb dX7_copy_69 rfl (lv_at hl 4 rfl) ?_
                refine lv_iload hx hb dX7_copy_70 (lv_at hl 7 rfl) ?_
                refine q_calli (S := Unit) (Z := Z) (D := D) (wc := [((sh 0), .inr (4, [.int (nI (th 0)), .int (nI (la 0)), .int (nI (le 0)), .ref (it 0)])), ((it 0), .inl (Z 1, 24, .inr (.inl (fs 0))))]) (wr := [(X, .inr (7, [.ref pa, .ref P, .ref ia, .ref iP, .int (nI kp), .ref T, .ref sa, .ref et, .ref Rn, .ref Ol])), (sa, .inl (Z 4, 4, .inr (.inr (.inr (.inr (rl [sh 0, sh 1, sh 2, sh 3])))))), (sh 1, .inr (4, [.int (nI (th 1)), .int (nI (la 1)), .int (nI (le 1)), .ref (it 1)])), (it 1, .inl (Z 1, 24, .inr (.inl (fs 1)))), (sh 2, .inr (4, [.int (nI (th 2)), .int (nI (la 2)), .int (nI (le 2)), .ref (it 2)])), (it 2, .inl (Z 1, 24, .inr (.inl (fs 2)))), (sh 3, .inr (4, [.int (nI (th 3)), .int (nI (la 3)), .int (nI (le 3)), .ref (it 3)])), (it 3, .inl (Z 1, 24, .inr (.inl (fs 3))))]) (rest := []) hw hA [2, 3] [0, 1, 4, 5, 6, 7, 8, 9] rfl rfl rfl rfl (by decide) (fun hPc hDc => va_runV (As := [.int i, .int n]) (rest := []) ⟨hx, hb, hml, hown, hts⟩ (c_X4_holds l D Z H.size (sh 0) (it 0) (th 0) (la 0) (le 0) (fs 0) i n (hle _)) (cwV 2 hts gX7_copy_X4_holds rfl rfl rfl (by decide +kernel) ⟨Nat.le_of_ble_eq_true rfl, Nat.le_of_ble_eq_true rfl⟩) ⟨fb_cPre, va_recv hK.1 hPc (ci := 4) (q0 := 0) rfl rfl, pre_of hPc hK hDc⟩ rfl rfl hl.1 rfl (lv_room (Nat.le_of_ble_eq_true rfl)) dX7_copy_72 ⟨Nat.le_of_ble_eq_true rfl, Nat.le_of_ble_eq_true rfl⟩) (fun r29 uu H locs hr29 hw => ?_)
                subst hr29
                have hw : WS D A s [(X, .inr (7, [.ref pa, .ref P, .ref ia, .ref iP, .int (nI kp), .ref T, .ref sa, .ref et, .ref Rn, .ref Ol])), (sa, .inl (Z 4, 4, .inr (.inr (.inr (.inr (rl [sh 0, sh 1, sh 2, sh 3])))))), (sh 1, .inr (4, [.int (nI (th 1)), .int (nI (la 1)), .int (nI (le 1)), .ref (it 1)])), (it 1, .inl (Z 1, 24, .inr (.inl (fs 1)))), (sh 2, .inr (4, [.int (nI (th 2)), .int (nI (la 2)), .int (nI (le 2)), .ref (it 2)])), (it 2, .inl (Z 1, 24, .inr (.inl (fs 2)))), (sh 3, .inr (4, [.int (nI (th 3)), .int (nI (la 3)), .int (nI (le 3)), .ref (it 3)])), (it 3, .inl (Z 1, 24, .inr (.inl (fs 3)))), ((sh 0), .inr (4, [.int (nI (th 0)), .int (nI (la 0)), .int (nI (le 0)), .ref (it 0)])), ((it 0), .inl (Z 1, 24, .inr (.inl (fs 0))))] H locs := hw
                refine q_if_eq (tgt := 90) hx hb ((bb (hol (le 0) i n) : Nat) : Int) (nI_toInt (Nat.lt_of_le_of_lt (bb_le _) (by decide))) dX7_copy_75 (by decide) (fun c30 => ?_) (fun c30 => ?_)
                · --
                  have c30 := bb_0 c30
                  have hq1 := c30
                  refine lv_bipush (v := (-13)) hx hb dX7_copy_90 (by decide) ?_
                  exact q_iret (wout := _) hx hb hr hlocks hAe hK fs (hw.sub [0, 1, 8, 9, 2, 3, 4, 5, 6, 7] (by decide) rfl) (⟨by unfold cyC; rw [if_neg (by omega), tnI ek]; (try rw [tnI em]); rw [if_neg (by omega), if_neg (by omega), if_neg (by first | exact fun h => hq1 h.1 | exact fun h => hq2 h.2)], Or.inl ⟨fun h => by unfold cyOk at h; rw [tnI ek] at h; (try rw [tnI em] at h); first | exact hq1 h.2.2.2.1 | exact hq2 h.2.2.2.2, rfl⟩⟩) dX7_copy_92
                · --
                  have c30 := bb_1 c30
                  have hq1 := c30
                  refine lv_aload hx hb dX7_copy_78 (lv_at hl 0 rfl) ?_
                  refine lv_iload hx hb dX7_copy_80 (lv_at hl 6 rfl) ?_
                  refine lv_iload hx hb dX7_copy_82 (lv_at hl 7 rfl) ?_
                  refine q_calli (S := Unit) (Z := Z) (D := D) (wc := [((sh 3), .inr (4, [.int (nI (th 3)), .int (nI (la 3)), .int (nI (le 3)), .ref (it 3)])), ((it 3), .inl (Z 1, 24, .inr (.inl (fs 3))))]) (wr := [(X, .inr (7, [.ref pa, .ref P, .ref ia, .ref iP, .int (nI kp), .ref T, .ref sa, .ref et, .ref Rn, .ref Ol])), (sa, .inl (Z 4, 4, .inr (.inr (.inr (.inr (rl [sh 0, sh 1, sh 2, sh 3])))))), (sh 1, .inr (4, [.int (nI (th 1)), .int (nI (la 1)), .int (nI (le 1)), .ref (it 1)])), (it 1, .inl (Z 1, 24, .inr (.inl (fs 1)))), (sh 2, .inr (4, [.int (nI (th 2)), .int (nI (la 2)), .int (nI (le 2)), .ref (it 2)])), (it 2, .inl (Z 1, 24, .inr (.inl (fs 2)))), ((sh 0), .inr (4, [.int (nI (th 0)), .int (nI (la 0)), .int (nI (le 0)), .ref (it 0)])), ((it 0), .inl (Z 1, 24, .inr (.inl (fs 0))))]) (rest := []) hw hA [6, 7] [0, 1, 2, 3, 4, 5, 8, 9] rfl rfl rfl rfl (by decide) (fun hPc hDc => va_runV (As := [.int j, .int n]) (rest := []) ⟨hx, hb, hml, hown, hts⟩ (c_X4_holds l D Z H.size (sh 3) (it 3) (th 3) (la 3) (le 3) (fs 3) j n (hle _)) (cwV 2 hts gX7_copy_X4_holds rfl rfl rfl (by decide +kernel) ⟨Nat.le_of_ble_eq_true rfl, Nat.le_of_ble_eq_true rfl⟩) ⟨fb_cPre, va_recv hK.1 hPc (ci := 4) (q0 := 0) rfl rfl, pre_of hPc hK hDc⟩ rfl rfl hl.1 rfl (lv_room (Nat.le_of_ble_eq_true rfl)) dX7_copy_84 ⟨Nat.le_of_ble_eq_true rfl, Nat.le_of_ble_eq_true rfl⟩) (fun r31 uu H locs hr31 hw => ?_)
                  subst hr31
                  have hw : WS D A s [(X, .inr (7, [.ref pa, .ref P, .ref ia, .ref iP, .int (nI kp), .ref T, .ref sa, .ref et, .ref Rn, .ref Ol])), (sa, .inl (Z 4, 4, .inr (.inr (.inr (.inr (rl [sh 0, sh 1, sh 2, sh 3])))))), (sh 1, .inr (4, [.int (nI (th 1)), .int (nI (la 1)), .int (nI (le 1)), .ref (it 1)])), (it 1, .inl (Z 1, 24, .inr (.inl (fs 1)))), (sh 2, .inr (4, [.int (nI (th 2)), .int (nI (la 2)), .int (nI (le 2)), .ref (it 2)])), (it 2, .inl (Z 1, 24, .inr (.inl (fs 2)))), ((sh 0), .inr (4, [.int (nI (th 0)), .int (nI (la 0)), .int (nI (le 0)), .ref (it 0)])), ((it 0), .inl (Z 1, 24, .inr (.inl (fs 0)))), ((sh 3), .inr (4, [.int (nI (th 3)), .int (nI (la 3)), .int (nI (le 3)), .ref (it 3)])), ((it 3), .inl (Z 1, 24, .inr (.inl (fs 3))))] H locs := hw
                  refine q_if_ne (tgt := 93) hx hb ((bb (hol (le 3) j n) : Nat) : Int) (nI_toInt (Nat.lt_of_le_of_lt (bb_le _) (by decide))) dX7_copy_87 (by decide) (fun c32 => ?_) (fun c32 => ?_)
                  · --
                    have c32 := bb_1 c32
                    have hq2 := c32
                    have e0 := hle 0
                    have e1 := hle 1
                    have e2 := hle 2
                    have e3 := hle 3
                    obtain ⟨x, rfl, ex⟩ := i32_nat (x := i) (by omega)
                    obtain ⟨y, rfl, ey⟩ := i32_nat (x := j) (by omega)
                    obtain ⟨v, rfl, ev⟩ := i32_nat (x := n) (by omega)
                    refine lv_aload hx hb dX7_copy_93 (lv_at hl 1 rfl) ?_
                    refine q_get (v := .ref (it 0)) (ci := 4) hx hb hts in_X4 hown hK hw 6 3 wd4 dX7_copy_95 rfl rfl (by decide) rfl ?_
                    refine lv_iload_n hx hb dX7_copy_98 rfl (lv_at hl 4 rfl) ?_
                    refine lv_aload hx hb dX7_copy_99 (lv_at hl 0 rfl) ?_
                    refine q_get (v := .ref (it 3)) (ci := 4) hx hb hts in_X4 hown hK hw 8 3 wd4 dX7_copy_101 rfl rfl (by decide) rfl ?_
                    refine lv_iload hx hb dX7_copy_104 (lv_at hl 6 rfl) ?_
                    refine lv_iload hx hb dX7_copy_106 (lv_at hl 7 rfl) ?_
                    refine q_copyl hx hb (by rw [hml]; exact hl.1.symm) hown wd5 wd6 wd7 wd8 hK hw 7 9 (by omega) (by omega) (by omega) (by omega) (by omega) (Nat.le_of_ble_eq_true rfl) (by decide +kernel) dX7_copy_108 rfl rfl (fun H locs hw => ?_)
                    have hw : WS D A s [(X, .inr (7, [.ref pa, .ref P, .ref ia, .ref iP, .int (nI kp), .ref T, .ref sa, .ref et, .ref Rn, .ref Ol])), (sa, .inl (Z 4, 4, .inr (.inr (.inr (.inr (rl [sh 0, sh 1, sh 2, sh 3])))))), (sh 1, .inr (4, [.int (nI (th 1)), .int (nI (la 1)), .int (nI (le 1)), .ref (it 1)])), (it 1, .inl (Z 1, 24, .inr (.inl (fs 1)))), (sh 2, .inr (4, [.int (nI (th 2)), .int (nI (la 2)), .int (nI (le 2)), .ref (it 2)])), (it 2, .inl (Z 1, 24, .inr (.inl (fs 2)))), ((sh 0), .inr (4, [.int (nI (th 0)), .int (nI (la 0)), .int (nI (le 0)), .ref (it 0)])), ((it 0), .inl (Z 1, 24, .inr (.inl (fs 0)))), ((sh 3), .inr (4, [.int (nI (th 3)), .int (nI (la 3)), .int (nI (le 3)), .ref (it 3)])), ((it 3), .inl (Z 1, 24, .inr (.inl (va_cpy (fs 0) (fs 3) x y v))))] H locs := hw
                    refine lv_iload hx hb dX7_copy_111 (lv_at hl 7 rfl) ?_
                    exact q_iret (wout := _) hx hb hr hlocks hAe hK (va_up fs 3 (va_cpy (fs 0) (fs 3) x y v)) (hw.sub [0, 1, 6, 7, 2, 3, 4, 5, 8, 9] (by decide) rfl) (⟨by unfold cyC; rw [if_neg (by omega), tnI ek]; (try rw [tnI em]); rw [if_neg (by omega), if_neg (by omega), if_pos ⟨hq1, hq2⟩], Or.inr ⟨by unfold cyOk; rw [tnI ek]; (try rw [tnI em]); exact ⟨by omega, by omega, by omega, hq1, hq2⟩, by rw [tnI ek]; (try rw [tnI em]); rw [tnI ex, tnI ey, tnI ev]⟩⟩) dX7_copy_113
                  · --
                    have c32 := bb_0 c32
                    have hq2 := c32
                    refine lv_bipush (v := (-13)) hx hb dX7_copy_90 (by decide) ?_
                    exact q_iret (wout := _) hx hb hr hlocks hAe hK fs (hw.sub [0, 1, 6, 7, 2, 3, 4, 5, 8, 9] (by decide) rfl) (⟨by unfold cyC; rw [if_neg (by omega), tnI ek]; (try rw [tnI em]); rw [if_neg (by omega), if_neg (by omega), if_neg (by first | exact fun h => hq1 h.1 | exact fun h => hq2 h.2)], Or.inl ⟨fun h => by unfold cyOk at h; rw [tnI ek] at h; (try rw [tnI em] at h); first | exact hq1 h.2.2.2.1 | exact hq2 h.2.2.2.2, rfl⟩⟩) dX7_copy_92
              · --
                refine lv_bipush (v := (-12)) hx hb dX7_copy_64 (by decide) ?_
                exact q_iret (wout := _) hx hb hr hlocks hAe hK fs hw (⟨by unfold cyC; rw [if_neg (by omega), tnI ek]; (try rw [tnI em]); rw [if_neg (by omega), if_pos (by omega)], Or.inl ⟨fun h => by unfold cyOk at h; rw [tnI ek] at h; (try rw [tnI em] at h); omega, rfl⟩⟩) dX7_copy_66
            · --
              refine lv_bipush (v := (-11)) hx hb dX7_copy_48 (by decide) ?_
              exact q_iret (wout := _) hx hb hr hlocks hAe hK fs hw (⟨by unfold cyC; rw [if_neg (by omega), tnI ek]; (try rw [tnI em]); rw [if_pos (by omega)], Or.inl ⟨fun h => by unfold cyOk at h; rw [tnI ek] at h; (try rw [tnI em] at h); omega, rfl⟩⟩) dX7_copy_50
      · --
        refine lv_iload_n hx hb dX7_copy_20 rfl (lv_at hl 1 rfl) ?_
        refine q_aald (b := sh 1) hx hb hK hw 1 4 (by omega) (by omega) rfl dX7_copy_21 rfl rfl ?_
        refine lv_astore (lv' := [(6, .ref (sh 1)), (0, .ref X), (1, .int (nI 1)), (2, .int i), (3, .int (nI m)), (4, .int j), (5, .int n)]) hx hb dX7_copy_22 hl (by decide) rfl (fun ls hl => ?_)
        refine lv_aload_n hx hb dX7_copy_24 rfl (lv_at hl 1 rfl) ?_
        refine q_get (v := .ref sa) (ci := 7) hx hb hts in_X7 hown hK hw 0 6 wd1 dX7_copy_25 rfl rfl (by decide) rfl ?_
        rcases (show m = 0 ∨ m = 1 ∨ m = 2 ∨ m = 3 by omega) with rfl | rfl | rfl | rfl
        · --
          refine lv_iload_n hx hb dX7_copy_28 rfl (lv_at hl 4 rfl) ?_
          refine q_aald (b := sh 0) hx hb hK hw 1 4 (by omega) (by omega) rfl dX7_copy_29 rfl rfl ?_
          refine lv_astore (lv' := [(7, .ref (sh 0)), (6, .ref (sh 1)), (0, .ref X), (1, .int (nI 1)), (2, .int i), (3, .int (nI 0)), (4, .int j), (5, .int n)]) hx hb dX7_copy_30 hl (by decide) rfl (fun ls hl => ?_)
          refine lv_aload hx hb dX7_copy_32 (lv_at hl 1 rfl) ?_
          have t0' := hth 0
          have t1' := hth 1
          have t2' := hth 2
          have t3' := hth 3
          have l0' := hla 0
          have l1' := hla 1
          have l2' := hla 2
          have l3' := hla 3
          refine q_get (v := .int (nI (th 1))) (ci := 4) hx hb hts in_X4 hown hK hw 4 0 wd2 dX7_copy_34 rfl rfl (by decide) rfl ?_
          refine q_if_eq (tgt := 48) hx hb ((th 1 : Nat) : Int) (nI_toInt (by omega)) dX7_copy_37 (by decide) (fun c33 => ?_) (fun c33 => ?_)
          · --
            refine lv_bipush (v := (-11)) hx hb dX7_copy_48 (by decide) ?_
            exact q_iret (wout := _) hx hb hr hlocks hAe hK fs hw (⟨by unfold cyC; rw [if_neg (by omega), tnI ek]; (try rw [tnI em]); rw [if_pos (by omega)], Or.inl ⟨fun h => by unfold cyOk at h; rw [tnI ek] at h; (try rw [tnI em] at h); omega, rfl⟩⟩) dX7_copy_50
          · --
            refine lv_aload hx hb dX7_copy_40 (lv_at hl 0 rfl) ?_
            refine q_get (v := .int (nI (th 0))) (ci := 4) hx hb hts in_X4 hown hK hw 2 0 wd2 dX7_copy_42 rfl rfl (by decide) rfl ?_
            refine q_if_ne (tgt := 51) hx hb ((th 0 : Nat) : Int) (nI_toInt (by omega)) dX7_copy_45 (by decide) (fun c34 => ?_) (fun c34 => ?_)
            · --
              refine lv_aload hx hb dX7_copy_51 (lv_at hl 1 rfl) ?_
              refine q_get (v := .int (nI (la 1))) (ci := 4) hx hb hts in_X4 hown hK hw 4 1 wd3 dX7_copy_53 rfl rfl (by decide) rfl ?_
              refine lv_aload hx hb dX7_copy_56 (lv_at hl 0 rfl) ?_
              refine q_get (v := .int (nI (la 0))) (ci := 4) hx hb hts in_X4 hown hK hw 2 1 wd3 dX7_copy_58 rfl rfl (by decide) rfl ?_
              refine q_icmp_eq (tgt := 67) hx hb ((la 1 : Nat) : Int) ((la 0 : Nat) : Int) (nI_toInt (by omega)) (nI_toInt (by omega)) dX7_copy_61 (by decide) (fun c35 => ?_) (fun c35 => ?_)
              · --
                refine lv_aload hx hb dX7_copy_67 (lv_at hl 1 rfl) ?_
                refine lv_iload_n hx hb dX7_copy_69 rfl (lv_at hl 4 rfl) ?_
                refine lv_iload hx hb dX7_copy_70 (lv_at hl 7 rfl) ?_
                refine q_calli (S := Unit) (Z := Z) (D := D) (wc := [((sh 1), .inr (4, [.int (nI (th 1)), .int (nI (la 1)), .int (nI (le 1)), .ref (it 1)])), ((it 1), .inl (Z 1, 24, .inr (.inl (fs 1))))]) (wr := [(X, .inr (7, [.ref pa, .ref P, .ref ia, .ref iP, .int (nI kp), .ref T, .ref sa, .ref et, .ref Rn, .ref Ol])), (sa, .inl (Z 4, 4, .inr (.inr (.inr (.inr (rl [sh 0, sh 1, sh 2, sh 3])))))), (sh 0, .inr (4, [.int (nI (th 0)), .int (nI (la 0)), .int (nI (le 0)), .ref (it 0)])), (it 0, .inl (Z 1, 24, .inr (.inl (fs 0)))), (sh 2, .inr (4, [.int (nI (th 2)), .int (nI (la 2)), .int (nI (le 2)), .ref (it 2)])), (it 2, .inl (Z 1, 24, .inr (.inl (fs 2)))), (sh 3, .inr (4, [.int (nI (th 3)), .int (nI (la 3)), .int (nI (le 3)), .ref (it 3)])), (it 3, .inl (Z 1, 24, .inr (.inl (fs 3))))]) (rest := []) hw hA [4, 5] [0, 1, 2, 3, 6, 7, 8, 9] rfl rfl rfl rfl (by decide) (fun hPc hDc => va_runV (As := [.int i, .int n]) (rest := []) ⟨hx, hb, hml, hown, hts⟩ (c_X4_holds l D Z H.size (sh 1) (it 1) (th 1) (la 1) (le 1) (fs 1) i n (hle _)) (cwV 2 hts gX7_copy_X4_holds rfl rfl rfl (by decide +kernel) ⟨Nat.le_of_ble_eq_true rfl, Nat.le_of_ble_eq_true rfl⟩) ⟨fb_cPre, va_recv hK.1 hPc (ci := 4) (q0 := 0) rfl rfl, pre_of hPc hK hDc⟩ rfl rfl hl.1 rfl (lv_room (Nat.le_of_ble_eq_true rfl)) dX7_copy_72 ⟨Nat.le_of_ble_eq_true rfl, Nat.le_of_ble_eq_true rfl⟩) (fun r36 uu H locs hr36 hw => ?_)
                subst hr36
                have hw : WS D A s [(X, .inr (7, [.ref pa, .ref P, .ref ia, .ref iP, .int (nI kp), .ref T, .ref sa, .ref et, .ref Rn, .ref Ol])), (sa, .inl (Z 4, 4, .inr (.inr (.inr (.inr (rl [sh 0, sh 1, sh 2, sh 3])))))), (sh 0, .inr (4, [.int (nI (th 0)), .int (nI (la 0)), .int (nI (le 0)), .ref (it 0)])), (it 0, .inl (Z 1, 24, .inr (.inl (fs 0)))), (sh 2, .inr (4, [.int (nI (th 2)), .int (nI (la 2)), .int (nI (le 2)), .ref (it 2)])), (it 2, .inl (Z 1, 24, .inr (.inl (fs 2)))), (sh 3, .inr (4, [.int (nI (th 3)), .int (nI (la 3)), .int (nI (le 3)), .ref (it 3)])), (it 3, .inl (Z 1, 24, .inr (.inl (fs 3)))), ((sh 1), .inr (4, [.int (nI (th 1)), .int (nI (la 1)), .int (nI (le 1)), .ref (it 1)])), ((it 1), .inl (Z 1, 24, .inr (.inl (fs 1))))] H locs := hw
                refine q_if_eq (tgt := 90) hx hb ((bb (hol (le 1) i n) : Nat) : Int) (nI_toInt (Nat.lt_of_le_of_lt (bb_le _) (by decide))) dX7_copy_75 (by decide) (fun c37 => ?_) (fun c37 => ?_)
                · --
                  have c37 := bb_0 c37
                  have hq1 := c37
                  refine lv_bipush (v := (-13)) hx hb dX7_copy_90 (by decide) ?_
                  exact q_iret (wout := _) hx hb hr hlocks hAe hK fs (hw.sub [0, 1, 2, 3, 8, 9, 4, 5, 6, 7] (by decide) rfl) (⟨by unfold cyC; rw [if_neg (by omega), tnI ek]; (try rw [tnI em]); rw [if_neg (by omega), if_neg (by omega), if_neg (by first | exact fun h => hq1 h.1 | exact fun h => hq2 h.2)], Or.inl ⟨fun h => by unfold cyOk at h; rw [tnI ek] at h; (try rw [tnI em] at h); first | exact hq1 h.2.2.2.1 | exact hq2 h.2.2.2.2, rfl⟩⟩) dX7_copy_92
                · --
                  have c37 := bb_1 c37
                  have hq1 := c37
                  refine lv_aload hx hb dX7_copy_78 (lv_at hl 0 rfl) ?_
                  refine lv_iload hx hb dX7_copy_80 (lv_at hl 6 rfl) ?_
                  refine lv_iload hx hb dX7_copy_82 (lv_at hl 7 rfl) ?_
                  refine q_calli (S := Unit) (Z := Z) (D := D) (wc := [((sh 0), .inr (4, [.int (nI (th 0)), .int (nI (la 0)), .int (nI (le 0)), .ref (it 0)])), ((it 0), .inl (Z 1, 24, .inr (.inl (fs 0))))]) (wr := [(X, .inr (7, [.ref pa, .ref P, .ref ia, .ref iP, .int (nI kp), .ref T, .ref sa, .ref et, .ref Rn, .ref Ol])), (sa, .inl (Z 4, 4, .inr (.inr (.inr (.inr (rl [sh 0, sh 1, sh 2, sh 3])))))), (sh 2, .inr (4, [.int (nI (th 2)), .int (nI (la 2)), .int (nI (le 2)), .ref (it 2)])), (it 2, .inl (Z 1, 24, .inr (.inl (fs 2)))), (sh 3, .inr (4, [.int (nI (th 3)), .int (nI (la 3)), .int (nI (le 3)), .ref (it 3)])), (it 3, .inl (Z 1, 24, .inr (.inl (fs 3)))), ((sh 1), .inr (4, [.int (nI (th 1)), .int (nI (la 1)), .int (nI (le 1)), .ref (it 1)])), ((it 1), .inl (Z 1, 24, .inr (.inl (fs 1))))]) (rest := []) hw hA [2, 3] [0, 1, 4, 5, 6, 7, 8, 9] rfl rfl rfl rfl (by decide) (fun hPc hDc => va_runV (As := [.int j, .int n]) (rest := []) ⟨hx, hb, hml, hown, hts⟩ (c_X4_holds l D Z H.size (sh 0) (it 0) (th 0) (la 0) (le 0) (fs 0) j n (hle _)) (cwV 2 hts gX7_copy_X4_holds rfl rfl rfl (by decide +kernel) ⟨Nat.le_of_ble_eq_true rfl, Nat.le_of_ble_eq_true rfl⟩) ⟨fb_cPre, va_recv hK.1 hPc (ci := 4) (q0 := 0) rfl rfl, pre_of hPc hK hDc⟩ rfl rfl hl.1 rfl (lv_room (Nat.le_of_ble_eq_true rfl)) dX7_copy_84 ⟨Nat.le_of_ble_eq_true rfl, Nat.le_of_ble_eq_true rfl⟩) (fun r38 uu H locs hr38 hw => ?_)
                  subst hr38
                  have hw : WS D A s [(X, .inr (7, [.ref pa, .ref P, .ref ia, .ref iP, .int (nI kp), .ref T, .ref sa, .ref et, .ref Rn, .ref Ol])), (sa, .inl (Z 4, 4, .inr (.inr (.inr (.inr (rl [sh 0, sh 1, sh 2, sh 3])))))), (sh 2, .inr (4, [.int (nI (th 2)), .int (nI (la 2)), .int (nI (le 2)), .ref (it 2)])), (it 2, .inl (Z 1, 24, .inr (.inl (fs 2)))), (sh 3, .inr (4, [.int (nI (th 3)), .int (nI (la 3)), .int (nI (le 3)), .ref (it 3)])), (it 3, .inl (Z 1, 24, .inr (.inl (fs 3)))), ((sh 1), .inr (4, [.int (nI (th 1)), .int (nI (la 1)), .int (nI (le 1)), .ref (it 1)])), ((it 1), .inl (Z 1, 24, .inr (.inl (fs 1)))), ((sh 0), .inr (4, [.int (nI (th 0)), .int (nI (la 0)), .int (nI (le 0)), .ref (it 0)])), ((it 0), .inl (Z 1, 24, .inr (.inl (fs 0))))] H locs := hw
                  refine q_if_ne (tgt := 93) hx hb ((bb (hol (le 0) j n) : Nat) : Int) (nI_toInt (Nat.lt_of_le_of_lt (bb_le _) (by decide))) dX7_copy_87 (by decide) (fun c39 => ?_) (fun c39 => ?_)
                  · --
                    have c39 := bb_1 c39
                    have hq2 := c39
                    have e0 := hle 0
                    have e1 := hle 1
                    have e2 := hle 2
                    have e3 := hle 3
                    obtain ⟨x, rfl, ex⟩ := i32_nat (x := i) (by omega)
                    obtain ⟨y, rfl, ey⟩ := i32_nat (x := j) (by omega)
                    obtain ⟨v, rfl, ev⟩ := i32_nat (x := n) (by omega)
                    refine lv_aload hx hb dX7_copy_93 (lv_at hl 1 rfl) ?_
                    refine q_get (v := .ref (it 1)) (ci := 4) hx hb hts in_X4 hown hK hw 6 3 wd4 dX7_copy_95 rfl rfl (by decide) rfl ?_
                    refine lv_iload_n hx hb dX7_copy_98 rfl (lv_at hl 4 rfl) ?_
                    refine lv_aload hx hb dX7_copy_99 (lv_at hl 0 rfl) ?_
                    refine q_get (v := .ref (it 0)) (ci := 4) hx hb hts in_X4 hown hK hw 8 3 wd4 dX7_copy_101 rfl rfl (by decide) rfl ?_
                    refine lv_iload hx hb dX7_copy_104 (lv_at hl 6 rfl) ?_
                    refine lv_iload hx hb dX7_copy_106 (lv_at hl 7 rfl) ?_
                    refine q_copyl hx hb (by rw [hml]; exact hl.1.symm) hown wd5 wd6 wd7 wd8 hK hw 7 9 (by omega) (by omega) (by omega) (by omega) (by omega) (Nat.le_of_ble_eq_true rfl) (by decide +kernel) dX7_copy_108 rfl rfl (fun H locs hw => ?_)
                    have hw : WS D A s [(X, .inr (7, [.ref pa, .ref P, .ref ia, .ref iP, .int (nI kp), .ref T, .ref sa, .ref et, .ref Rn, .ref Ol])), (sa, .inl (Z 4, 4, .inr (.inr (.inr (.inr (rl [sh 0, sh 1, sh 2, sh 3])))))), (sh 2, .inr (4, [.int (nI (th 2)), .int (nI (la 2)), .int (nI (le 2)), .ref (it 2)])), (it 2, .inl (Z 1, 24, .inr (.inl (fs 2)))), (sh 3, .inr (4, [.int (nI (th 3)), .int (nI (la 3)), .int (nI (le 3)), .ref (it 3)])), (it 3, .inl (Z 1, 24, .inr (.inl (fs 3)))), ((sh 1), .inr (4, [.int (nI (th 1)), .int (nI (la 1)), .int (nI (le 1)), .ref (it 1)])), ((it 1), .inl (Z 1, 24, .inr (.inl (fs 1)))), ((sh 0), .inr (4, [.int (nI (th 0)), .int (nI (la 0)), .int (nI (le 0)), .ref (it 0)])), ((it 0), .inl (Z 1, 24, .inr (.inl (va_cpy (fs 1) (fs 0) x y v))))] H locs := hw
                    refine lv_iload hx hb dX7_copy_111 (lv_at hl 7 rfl) ?_
                    exact q_iret (wout := _) hx hb hr hlocks hAe hK (va_up fs 0 (va_cpy (fs 1) (fs 0) x y v)) (hw.sub [0, 1, 8, 9, 6, 7, 2, 3, 4, 5] (by decide) rfl) (⟨by unfold cyC; rw [if_neg (by omega), tnI ek]; (try rw [tnI em]); rw [if_neg (by omega), if_neg (by omega), if_pos ⟨hq1, hq2⟩], Or.inr ⟨by unfold cyOk; rw [tnI ek]; (try rw [tnI em]); exact ⟨by omega, by omega, by omega, hq1, hq2⟩, by rw [tnI ek]; (try rw [tnI em]); rw [tnI ex, tnI ey, tnI ev]⟩⟩) dX7_copy_113
                  · --
                    have c39 := bb_0 c39
                    have hq2 := c39
                    refine lv_bipush (v := (-13)) hx hb dX7_copy_90 (by decide) ?_
                    exact q_iret (wout := _) hx hb hr hlocks hAe hK fs (hw.sub [0, 1, 8, 9, 6, 7, 2, 3, 4, 5] (by decide) rfl) (⟨by unfold cyC; rw [if_neg (by omega), tnI ek]; (try rw [tnI em]); rw [if_neg (by omega), if_neg (by omega), if_neg (by first | exact fun h => hq1 h.1 | exact fun h => hq2 h.2)], Or.inl ⟨fun h => by unfold cyOk at h; rw [tnI ek] at h; (try rw [tnI em] at h); first | exact hq1 h.2.2.2.1 | exact hq2 h.2.2.2.2, rfl⟩⟩) dX7_copy_92
              · --
                refine lv_bipush (v := (-12)) hx hb dX7_copy_64 (by decide) ?_
                exact q_iret (wout := _) hx hb hr hlocks hAe hK fs hw (⟨by unfold cyC; rw [if_neg (by omega), tnI ek]; (try rw [tnI em]); rw [if_neg (by omega), if_pos (by omega)], Or.inl ⟨fun h => by unfold cyOk at h; rw [tnI ek] at h; (try rw [tnI em] at h); omega, rfl⟩⟩) dX7_copy_66
            · --
              refine lv_bipush (v := (-11)) hx hb dX7_copy_48 (by decide) ?_
              exact q_iret (wout := _) hx hb hr hlocks hAe hK fs hw (⟨by unfold cyC; rw [if_neg (by omega), tnI ek]; (try rw [tnI em]); rw [if_pos (by omega)], Or.inl ⟨fun h => by unfold cyOk at h; rw [tnI ek] at h; (try rw [tnI em] at h); omega, rfl⟩⟩) dX7_copy_50
        · --
          refine lv_iload_n hx hb dX7_copy_28 rfl (lv_at hl 4 rfl) ?_
          refine q_aald (b := sh 1) hx hb hK hw 1 4 (by omega) (by omega) rfl dX7_copy_29 rfl rfl ?_
          refine lv_astore (lv' := [(7, .ref (sh 1)), (6, .ref (sh 1)), (0, .ref X), (1, .int (nI 1)), (2, .int i), (3, .int (nI 1)), (4, .int j), (5, .int n)]) hx hb dX7_copy_30 hl (by decide) rfl (fun ls hl => ?_)
          refine lv_aload hx hb dX7_copy_32 (lv_at hl 1 rfl) ?_
          have t0' := hth 0
          have t1' := hth 1
          have t2' := hth 2
          have t3' := hth 3
          have l0' := hla 0
          have l1' := hla 1
          have l2' := hla 2
          have l3' := hla 3
          refine q_get (v := .int (nI (th 1))) (ci := 4) hx hb hts in_X4 hown hK hw 4 0 wd2 dX7_copy_34 rfl rfl (by decide) rfl ?_
          refine q_if_eq (tgt := 48) hx hb ((th 1 : Nat) : Int) (nI_toInt (by omega)) dX7_copy_37 (by decide) (fun c40 => ?_) (fun c40 => ?_)
          · --
            refine lv_bipush (v := (-11)) hx hb dX7_copy_48 (by decide) ?_
            exact q_iret (wout := _) hx hb hr hlocks hAe hK fs hw (⟨by unfold cyC; rw [if_neg (by omega), tnI ek]; (try rw [tnI em]); rw [if_pos (by omega)], Or.inl ⟨fun h => by unfold cyOk at h; rw [tnI ek] at h; (try rw [tnI em] at h); omega, rfl⟩⟩) dX7_copy_50
          · --
            refine lv_aload hx hb dX7_copy_40 (lv_at hl 0 rfl) ?_
            refine q_get (v := .int (nI (th 1))) (ci := 4) hx hb hts in_X4 hown hK hw 4 0 wd2 dX7_copy_42 rfl rfl (by decide) rfl ?_
            refine q_if_ne (tgt := 51) hx hb ((th 1 : Nat) : Int) (nI_toInt (by omega)) dX7_copy_45 (by decide) (fun c41 => ?_) (fun c41 => ?_)
            · --
              refine lv_aload hx hb dX7_copy_51 (lv_at hl 1 rfl) ?_
              refine q_get (v := .int (nI (la 1))) (ci := 4) hx hb hts in_X4 hown hK hw 4 1 wd3 dX7_copy_53 rfl rfl (by decide) rfl ?_
              refine lv_aload hx hb dX7_copy_56 (lv_at hl 0 rfl) ?_
              refine q_get (v := .int (nI (la 1))) (ci := 4) hx hb hts in_X4 hown hK hw 4 1 wd3 dX7_copy_58 rfl rfl (by decide) rfl ?_
              refine q_icmp_eq (tgt := 67) hx hb ((la 1 : Nat) : Int) ((la 1 : Nat) : Int) (nI_toInt (by omega)) (nI_toInt (by omega)) dX7_copy_61 (by decide) (fun c42 => ?_) (fun c42 => ?_)
              · --
                refine lv_aload hx hb dX7_copy_67 (lv_at hl 1 rfl) ?_
                refine lv_iload_n hx hb dX7_copy_69 rfl (lv_at hl 4 rfl) ?_
                refine lv_iload hx hb dX7_copy_70 (lv_at hl 7 rfl) ?_
                refine q_calli (S := Unit) (Z := Z) (D := D) (wc := [((sh 1), .inr (4, [.int (nI (th 1)), .int (nI (la 1)), .int (nI (le 1)), .ref (it 1)])), ((it 1), .inl (Z 1, 24, .inr (.inl (fs 1))))]) (wr := [(X, .inr (7, [.ref pa, .ref P, .ref ia, .ref iP, .int (nI kp), .ref T, .ref sa, .ref et, .ref Rn, .ref Ol])), (sa, .inl (Z 4, 4, .inr (.inr (.inr (.inr (rl [sh 0, sh 1, sh 2, sh 3])))))), (sh 0, .inr (4, [.int (nI (th 0)), .int (nI (la 0)), .int (nI (le 0)), .ref (it 0)])), (it 0, .inl (Z 1, 24, .inr (.inl (fs 0)))), (sh 2, .inr (4, [.int (nI (th 2)), .int (nI (la 2)), .int (nI (le 2)), .ref (it 2)])), (it 2, .inl (Z 1, 24, .inr (.inl (fs 2)))), (sh 3, .inr (4, [.int (nI (th 3)), .int (nI (la 3)), .int (nI (le 3)), .ref (it 3)])), (it 3, .inl (Z 1, 24, .inr (.inl (fs 3))))]) (rest := []) hw hA [4, 5] [0, 1, 2, 3, 6, 7, 8, 9] rfl rfl rfl rfl (by decide) (fun hPc hDc => va_runV (As := [.int i, .int n]) (rest := []) ⟨hx, hb, hml, hown, hts⟩ (c_X4_holds l D Z H.size (sh 1) (it 1) (th 1) (la 1) (le 1) (fs 1) i n (hle _)) (cwV 2 hts gX7_copy_X4_holds rfl rfl rfl (by decide +kernel) ⟨Nat.le_of_ble_eq_true rfl, Nat.le_of_ble_eq_true rfl⟩) ⟨fb_cPre, va_recv hK.1 hPc (ci := 4) (q0 := 0) rfl rfl, pre_of hPc hK hDc⟩ rfl rfl hl.1 rfl (lv_room (Nat.le_of_ble_eq_true rfl)) dX7_copy_72 ⟨Nat.le_of_ble_eq_true rfl, Nat.le_of_ble_eq_true rfl⟩) (fun r43 uu H locs hr43 hw => ?_)
                subst hr43
                have hw : WS D A s [(X, .inr (7, [.ref pa, .ref P, .ref ia, .ref iP, .int (nI kp), .ref T, .ref sa, .ref et, .ref Rn, .ref Ol])), (sa, .inl (Z 4, 4, .inr (.inr (.inr (.inr (rl [sh 0, sh 1, sh 2, sh 3])))))), (sh 0, .inr (4, [.int (nI (th 0)), .int (nI (la 0)), .int (nI (le 0)), .ref (it 0)])), (it 0, .inl (Z 1, 24, .inr (.inl (fs 0)))), (sh 2, .inr (4, [.int (nI (th 2)), .int (nI (la 2)), .int (nI (le 2)), .ref (it 2)])), (it 2, .inl (Z 1, 24, .inr (.inl (fs 2)))), (sh 3, .inr (4, [.int (nI (th 3)), .int (nI (la 3)), .int (nI (le 3)), .ref (it 3)])), (it 3, .inl (Z 1, 24, .inr (.inl (fs 3)))), ((sh 1), .inr (4, [.int (nI (th 1)), .int (nI (la 1)), .int (nI (le 1)), .ref (it 1)])), ((it 1), .inl (Z 1, 24, .inr (.inl (fs 1))))] H locs := hw
                refine q_if_eq (tgt := 90) hx hb ((bb (hol (le 1) i n) : Nat) : Int) (nI_toInt (Nat.lt_of_le_of_lt (bb_le _) (by decide))) dX7_copy_75 (by decide) (fun c44 => ?_) (fun c44 => ?_)
                · --
                  have c44 := bb_0 c44
                  have hq1 := c44
                  refine lv_bipush (v := (-13)) hx hb dX7_copy_90 (by decide) ?_
                  exact q_iret (wout := _) hx hb hr hlocks hAe hK fs (hw.sub [0, 1, 2, 3, 8, 9, 4, 5, 6, 7] (by decide) rfl) (⟨by unfold cyC; rw [if_neg (by omega), tnI ek]; (try rw [tnI em]); rw [if_neg (by omega), if_neg (by omega), if_neg (by first | exact fun h => hq1 h.1 | exact fun h => hq2 h.2)], Or.inl ⟨fun h => by unfold cyOk at h; rw [tnI ek] at h; (try rw [tnI em] at h); first | exact hq1 h.2.2.2.1 | exact hq2 h.2.2.2.2, rfl⟩⟩) dX7_copy_92
                · --
                  have c44 := bb_1 c44
                  have hq1 := c44
                  refine lv_aload hx hb dX7_copy_78 (lv_at hl 0 rfl) ?_
                  refine lv_iload hx hb dX7_copy_80 (lv_at hl 6 rfl) ?_
                  refine lv_iload hx hb dX7_copy_82 (lv_at hl 7 rfl) ?_
                  refine q_calli (S := Unit) (Z := Z) (D := D) (wc := [((sh 1), .inr (4, [.int (nI (th 1)), .int (nI (la 1)), .int (nI (le 1)), .ref (it 1)])), ((it 1), .inl (Z 1, 24, .inr (.inl (fs 1))))]) (wr := [(X, .inr (7, [.ref pa, .ref P, .ref ia, .ref iP, .int (nI kp), .ref T, .ref sa, .ref et, .ref Rn, .ref Ol])), (sa, .inl (Z 4, 4, .inr (.inr (.inr (.inr (rl [sh 0, sh 1, sh 2, sh 3])))))), (sh 0, .inr (4, [.int (nI (th 0)), .int (nI (la 0)), .int (nI (le 0)), .ref (it 0)])), (it 0, .inl (Z 1, 24, .inr (.inl (fs 0)))), (sh 2, .inr (4, [.int (nI (th 2)), .int (nI (la 2)), .int (nI (le 2)), .ref (it 2)])), (it 2, .inl (Z 1, 24, .inr (.inl (fs 2)))), (sh 3, .inr (4, [.int (nI (th 3)), .int (nI (la 3)), .int (nI (le 3)), .ref (it 3)])), (it 3, .inl (Z 1, 24, .inr (.inl (fs 3))))]) (rest := []) hw hA [8, 9] [0, 1, 2, 3, 4, 5, 6, 7] rfl rfl rfl rfl (by decide) (fun hPc hDc => va_runV (As := [.int j, .int n]) (rest := []) ⟨hx, hb, hml, hown, hts⟩ (c_X4_holds l D Z H.size (sh 1) (it 1) (th 1) (la 1) (le 1) (fs 1) j n (hle _)) (cwV 2 hts gX7_copy_X4_holds rfl rfl rfl (by decide +kernel) ⟨Nat.le_of_ble_eq_true rfl, Nat.le_of_ble_eq_true rfl⟩) ⟨fb_cPre, va_recv hK.1 hPc (ci := 4) (q0 := 0) rfl rfl, pre_of hPc hK hDc⟩ rfl rfl hl.1 rfl (lv_room (Nat.le_of_ble_eq_true rfl)) dX7_copy_84 ⟨Nat.le_of_ble_eq_true rfl, Nat.le_of_ble_eq_true rfl⟩) (fun r45 uu H locs hr45 hw => ?_)
                  subst hr45
                  have hw : WS D A s [(X, .inr (7, [.ref pa, .ref P, .ref ia, .ref iP, .int (nI kp), .ref T, .ref sa, .ref et, .ref Rn, .ref Ol])), (sa, .inl (Z 4, 4, .inr (.inr (.inr (.inr (rl [sh 0, sh 1, sh 2, sh 3])))))), (sh 0, .inr (4, [.int (nI (th 0)), .int (nI (la 0)), .int (nI (le 0)), .ref (it 0)])), (it 0, .inl (Z 1, 24, .inr (.inl (fs 0)))), (sh 2, .inr (4, [.int (nI (th 2)), .int (nI (la 2)), .int (nI (le 2)), .ref (it 2)])), (it 2, .inl (Z 1, 24, .inr (.inl (fs 2)))), (sh 3, .inr (4, [.int (nI (th 3)), .int (nI (la 3)), .int (nI (le 3)), .ref (it 3)])), (it 3, .inl (Z 1, 24, .inr (.inl (fs 3)))), ((sh 1), .inr (4, [.int (nI (th 1)), .int (nI (la 1)), .int (nI (le 1)), .ref (it 1)])), ((it 1), .inl (Z 1, 24, .inr (.inl (fs 1))))] H locs := hw
                  refine q_if_ne (tgt := 93) hx hb ((bb (hol (le 1) j n) : Nat) : Int) (nI_toInt (Nat.lt_of_le_of_lt (bb_le _) (by decide))) dX7_copy_87 (by decide) (fun c46 => ?_) (fun c46 => ?_)
                  · --
                    have c46 := bb_1 c46
                    have hq2 := c46
                    have e0 := hle 0
                    have e1 := hle 1
                    have e2 := hle 2
                    have e3 := hle 3
                    obtain ⟨x, rfl, ex⟩ := i32_nat (x := i) (by omega)
                    obtain ⟨y, rfl, ey⟩ := i32_nat (x := j) (by omega)
                    obtain ⟨v, rfl, ev⟩ := i32_nat (x := n) (by omega)
                    refine lv_aload hx hb dX7_copy_93 (lv_at hl 1 rfl) ?_
                    refine q_get (v := .ref (it 1)) (ci := 4) hx hb hts in_X4 hown hK hw 8 3 wd4 dX7_copy_95 rfl rfl (by decide) rfl ?_
                    refine lv_iload_n hx hb dX7_copy_98 rfl (lv_at hl 4 rfl) ?_
                    refine lv_aload hx hb dX7_copy_99 (lv_at hl 0 rfl) ?_
                    refine q_get (v := .ref (it 1)) (ci := 4) hx hb hts in_X4 hown hK hw 8 3 wd4 dX7_copy_101 rfl rfl (by decide) rfl ?_
                    refine lv_iload hx hb dX7_copy_104 (lv_at hl 6 rfl) ?_
                    refine lv_iload hx hb dX7_copy_106 (lv_at hl 7 rfl) ?_
                    refine q_copyl hx hb (by rw [hml]; exact hl.1.symm) hown wd5 wd6 wd7 wd8 hK hw 9 9 (by omega) (by omega) (by omega) (by omega) (by omega) (Nat.le_of_ble_eq_true rfl) (by decide +kernel) dX7_copy_108 rfl rfl (fun H locs hw => ?_)
                    have hw : WS D A s [(X, .inr (7, [.ref pa, .ref P, .ref ia, .ref iP, .int (nI kp), .ref T, .ref sa, .ref et, .ref Rn, .ref Ol])), (sa, .inl (Z 4, 4, .inr (.inr (.inr (.inr (rl [sh 0, sh 1, sh 2, sh 3])))))), (sh 0, .inr (4, [.int (nI (th 0)), .int (nI (la 0)), .int (nI (le 0)), .ref (it 0)])), (it 0, .inl (Z 1, 24, .inr (.inl (fs 0)))), (sh 2, .inr (4, [.int (nI (th 2)), .int (nI (la 2)), .int (nI (le 2)), .ref (it 2)])), (it 2, .inl (Z 1, 24, .inr (.inl (fs 2)))), (sh 3, .inr (4, [.int (nI (th 3)), .int (nI (la 3)), .int (nI (le 3)), .ref (it 3)])), (it 3, .inl (Z 1, 24, .inr (.inl (fs 3)))), ((sh 1), .inr (4, [.int (nI (th 1)), .int (nI (la 1)), .int (nI (le 1)), .ref (it 1)])), ((it 1), .inl (Z 1, 24, .inr (.inl (va_cpy (fs 1) (fs 1) x y v))))] H locs := hw
                    refine lv_iload hx hb dX7_copy_111 (lv_at hl 7 rfl) ?_
                    exact q_iret (wout := _) hx hb hr hlocks hAe hK (va_up fs 1 (va_cpy (fs 1) (fs 1) x y v)) (hw.sub [0, 1, 2, 3, 8, 9, 4, 5, 6, 7] (by decide) rfl) (⟨by unfold cyC; rw [if_neg (by omega), tnI ek]; (try rw [tnI em]); rw [if_neg (by omega), if_neg (by omega), if_pos ⟨hq1, hq2⟩], Or.inr ⟨by unfold cyOk; rw [tnI ek]; (try rw [tnI em]); exact ⟨by omega, by omega, by omega, hq1, hq2⟩, by rw [tnI ek]; (try rw [tnI em]); rw [tnI ex, tnI ey, tnI ev]⟩⟩) dX7_copy_113
                  · --
                    have c46 := bb_0 c46
                    have hq2 := c46
                    refine lv_bipush (v := (-13)) hx hb dX7_copy_90 (by decide) ?_
                    exact q_iret (wout := _) hx hb hr hlocks hAe hK fs (hw.sub [0, 1, 2, 3, 8, 9, 4, 5, 6, 7] (by decide) rfl) (⟨by unfold cyC; rw [if_neg (by omega), tnI ek]; (try rw [tnI em]); rw [if_neg (by omega), if_neg (by omega), if_neg (by first | exact fun h => hq1 h.1 | exact fun h => hq2 h.2)], Or.inl ⟨fun h => by unfold cyOk at h; rw [tnI ek] at h; (try rw [tnI em] at h); first | exact hq1 h.2.2.2.1 | exact hq2 h.2.2.2.2, rfl⟩⟩) dX7_copy_92
              · --
                refine lv_bipush (v := (-12)) hx hb dX7_copy_64 (by decide) ?_
                exact q_iret (wout := _) hx hb hr hlocks hAe hK fs hw (⟨by unfold cyC; rw [if_neg (by omega), tnI ek]; (try rw [tnI em]); rw [if_neg (by omega), if_pos (by omega)], Or.inl ⟨fun h => by unfold cyOk at h; rw [tnI ek] at h; (try rw [tnI em] at h); omega, rfl⟩⟩) dX7_copy_66
            · --
              refine lv_bipush (v := (-11)) hx hb dX7_copy_48 (by decide) ?_
              exact q_iret (wout := _) hx hb hr hlocks hAe hK fs hw (⟨by unfold cyC; rw [if_neg (by omega), tnI ek]; (try rw [tnI em]); rw [if_pos (by omega)], Or.inl ⟨fun h => by unfold cyOk at h; rw [tnI ek] at h; (try rw [tnI em] at h); omega, rfl⟩⟩) dX7_copy_50
        · --
          refine lv_iload_n hx hb dX7_copy_28 rfl (lv_at hl 4 rfl) ?_
          refine q_aald (b := sh 2) hx hb hK hw 1 4 (by omega) (by omega) rfl dX7_copy_29 rfl rfl ?_
          refine lv_astore (lv' := [(7, .ref (sh 2)), (6, .ref (sh 1)), (0, .ref X), (1, .int (nI 1)), (2, .int i), (3, .int (nI 2)), (4, .int j), (5, .int n)]) hx hb dX7_copy_30 hl (by decide) rfl (fun ls hl => ?_)
          refine lv_aload hx hb dX7_copy_32 (lv_at hl 1 rfl) ?_
          have t0' := hth 0
          have t1' := hth 1
          have t2' := hth 2
          have t3' := hth 3
          have l0' := hla 0
          have l1' := hla 1
          have l2' := hla 2
          have l3' := hla 3
          refine q_get (v := .int (nI (th 1))) (ci := 4) hx hb hts in_X4 hown hK hw 4 0 wd2 dX7_copy_34 rfl rfl (by decide) rfl ?_
          refine q_if_eq (tgt := 48) hx hb ((th 1 : Nat) : Int) (nI_toInt (by omega)) dX7_copy_37 (by decide) (fun c47 => ?_) (fun c47 => ?_)
          · --
            refine lv_bipush (v := (-11)) hx hb dX7_copy_48 (by decide) ?_
            exact q_iret (wout := _) hx hb hr hlocks hAe hK fs hw (⟨by unfold cyC; rw [if_neg (by omega), tnI ek]; (try rw [tnI em]); rw [if_pos (by omega)], Or.inl ⟨fun h => by unfold cyOk at h; rw [tnI ek] at h; (try rw [tnI em] at h); omega, rfl⟩⟩) dX7_copy_50
          · --
            refine lv_aload hx hb dX7_copy_40 (lv_at hl 0 rfl) ?_
            refine q_get (v := .int (nI (th 2))) (ci := 4) hx hb hts in_X4 hown hK hw 6 0 wd2 dX7_copy_42 rfl rfl (by decide) rfl ?_
            refine q_if_ne (tgt := 51) hx hb ((th 2 : Nat) : Int) (nI_toInt (by omega)) dX7_copy_45 (by decide) (fun c48 => ?_) (fun c48 => ?_)
            · --
              refine lv_aload hx hb dX7_copy_51 (lv_at hl 1 rfl) ?_
              refine q_get (v := .int (nI (la 1))) (ci := 4) hx hb hts in_X4 hown hK hw 4 1 wd3 dX7_copy_53 rfl rfl (by decide) rfl ?_
              refine lv_aload hx hb dX7_copy_56 (lv_at hl 0 rfl) ?_
              refine q_get (v := .int (nI (la 2))) (ci := 4) hx hb hts in_X4 hown hK hw 6 1 wd3 dX7_copy_58 rfl rfl (by decide) rfl ?_
              refine q_icmp_eq (tgt := 67) hx hb ((la 1 : Nat) : Int) ((la 2 : Nat) : Int) (nI_toInt (by omega)) (nI_toInt (by omega)) dX7_copy_61 (by decide) (fun c49 => ?_) (fun c49 => ?_)
              · --
                refine lv_aload hx hb dX7_copy_67 (lv_at hl 1 rfl) ?_
                refine lv_iload_n hx hb dX7_copy_69 rfl (lv_at hl 4 rfl) ?_
                refine lv_iload hx hb dX7_copy_70 (lv_at hl 7 rfl) ?_
                refine q_calli (S := Unit) (Z := Z) (D := D) (wc := [((sh 1), .inr (4, [.int (nI (th 1)), .int (nI (la 1)), .int (nI (le 1)), .ref (it 1)])), ((it 1), .inl (Z 1, 24, .inr (.inl (fs 1))))]) (wr := [(X, .inr (7, [.ref pa, .ref P, .ref ia, .ref iP, .int (nI kp), .ref T, .ref sa, .ref et, .ref Rn, .ref Ol])), (sa, .inl (Z 4, 4, .inr (.inr (.inr (.inr (rl [sh 0, sh 1, sh 2, sh 3])))))), (sh 0, .inr (4, [.int (nI (th 0)), .int (nI (la 0)), .int (nI (le 0)), .ref (it 0)])), (it 0, .inl (Z 1, 24, .inr (.inl (fs 0)))), (sh 2, .inr (4, [.int (nI (th 2)), .int (nI (la 2)), .int (nI (le 2)), .ref (it 2)])), (it 2, .inl (Z 1, 24, .inr (.inl (fs 2)))), (sh 3, .inr (4, [.int (nI (th 3)), .int (nI (la 3)), .int (nI (le 3)), .ref (it 3)])), (it 3, .inl (Z 1, 24, .inr (.inl (fs 3))))]) (rest := []) hw hA [4, 5] [0, 1, 2, 3, 6, 7, 8, 9] rfl rfl rfl rfl (by decide) (fun hPc hDc => va_runV (As := [.int i, .int n]) (rest := []) ⟨hx, hb, hml, hown, hts⟩ (c_X4_holds l D Z H.size (sh 1) (it 1) (th 1) (la 1) (le 1) (fs 1) i n (hle _)) (cwV 2 hts gX7_copy_X4_holds rfl rfl rfl (by decide +kernel) ⟨Nat.le_of_ble_eq_true rfl, Nat.le_of_ble_eq_true rfl⟩) ⟨fb_cPre, va_recv hK.1 hPc (ci := 4) (q0 := 0) rfl rfl, pre_of hPc hK hDc⟩ rfl rfl hl.1 rfl (lv_room (Nat.le_of_ble_eq_true rfl)) dX7_copy_72 ⟨Nat.le_of_ble_eq_true rfl, Nat.le_of_ble_eq_true rfl⟩) (fun r50 uu H locs hr50 hw => ?_)
                subst hr50
                have hw : WS D A s [(X, .inr (7, [.ref pa, .ref P, .ref ia, .ref iP, .int (nI kp), .ref T, .ref sa, .ref et, .ref Rn, .ref Ol])), (sa, .inl (Z 4, 4, .inr (.inr (.inr (.inr (rl [sh 0, sh 1, sh 2, sh 3])))))), (sh 0, .inr (4, [.int (nI (th 0)), .int (nI (la 0)), .int (nI (le 0)), .ref (it 0)])), (it 0, .inl (Z 1, 24, .inr (.inl (fs 0)))), (sh 2, .inr (4, [.int (nI (th 2)), .int (nI (la 2)), .int (nI (le 2)), .ref (it 2)])), (it 2, .inl (Z 1, 24, .inr (.inl (fs 2)))), (sh 3, .inr (4, [.int (nI (th 3)), .int (nI (la 3)), .int (nI (le 3)), .ref (it 3)])), (it 3, .inl (Z 1, 24, .inr (.inl (fs 3)))), ((sh 1), .inr (4, [.int (nI (th 1)), .int (nI (la 1)), .int (nI (le 1)), .ref (it 1)])), ((it 1), .inl (Z 1, 24, .inr (.inl (fs 1))))] H locs := hw
                refine q_if_eq (tgt := 90) hx hb ((bb (hol (le 1) i n) : Nat) : Int) (nI_toInt (Nat.lt_of_le_of_lt (bb_le _) (by decide))) dX7_copy_75 (by decide) (fun c51 => ?_) (fun c51 => ?_)
                · --
                  have c51 := bb_0 c51
                  have hq1 := c51
                  refine lv_bipush (v := (-13)) hx hb dX7_copy_90 (by decide) ?_
                  exact q_iret (wout := _) hx hb hr hlocks hAe hK fs (hw.sub [0, 1, 2, 3, 8, 9, 4, 5, 6, 7] (by decide) rfl) (⟨by unfold cyC; rw [if_neg (by omega), tnI ek]; (try rw [tnI em]); rw [if_neg (by omega), if_neg (by omega), if_neg (by first | exact fun h => hq1 h.1 | exact fun h => hq2 h.2)], Or.inl ⟨fun h => by unfold cyOk at h; rw [tnI ek] at h; (try rw [tnI em] at h); first | exact hq1 h.2.2.2.1 | exact hq2 h.2.2.2.2, rfl⟩⟩) dX7_copy_92
                · --
                  have c51 := bb_1 c51
                  have hq1 := c51
                  refine lv_aload hx hb dX7_copy_78 (lv_at hl 0 rfl) ?_
                  refine lv_iload hx hb dX7_copy_80 (lv_at hl 6 rfl) ?_
                  refine lv_iload hx hb dX7_copy_82 (lv_at hl 7 rfl) ?_
                  refine q_calli (S := Unit) (Z := Z) (D := D) (wc := [((sh 2), .inr (4, [.int (nI (th 2)), .int (nI (la 2)), .int (nI (le 2)), .ref (it 2)])), ((it 2), .inl (Z 1, 24, .inr (.inl (fs 2))))]) (wr := [(X, .inr (7, [.ref pa, .ref P, .ref ia, .ref iP, .int (nI kp), .ref T, .ref sa, .ref et, .ref Rn, .ref Ol])), (sa, .inl (Z 4, 4, .inr (.inr (.inr (.inr (rl [sh 0, sh 1, sh 2, sh 3])))))), (sh 0, .inr (4, [.int (nI (th 0)), .int (nI (la 0)), .int (nI (le 0)), .ref (it 0)])), (it 0, .inl (Z 1, 24, .inr (.inl (fs 0)))), (sh 3, .inr (4, [.int (nI (th 3)), .int (nI (la 3)), .int (nI (le 3)), .ref (it 3)])), (it 3, .inl (Z 1, 24, .inr (.inl (fs 3)))), ((sh 1), .inr (4, [.int (nI (th 1)), .int (nI (la 1)), .int (nI (le 1)), .ref (it 1)])), ((it 1), .inl (Z 1, 24, .inr (.inl (fs 1))))]) (rest := []) hw hA [4, 5] [0, 1, 2, 3, 6, 7, 8, 9] rfl rfl rfl rfl (by decide) (fun hPc hDc => va_runV (As := [.int j, .int n]) (rest := []) ⟨hx, hb, hml, hown, hts⟩ (c_X4_holds l D Z H.size (sh 2) (it 2) (th 2) (la 2) (le 2) (fs 2) j n (hle _)) (cwV 2 hts gX7_copy_X4_holds rfl rfl rfl (by decide +kernel) ⟨Nat.le_of_ble_eq_true rfl, Nat.le_of_ble_eq_true rfl⟩) ⟨fb_cPre, va_recv hK.1 hPc (ci := 4) (q0 := 0) rfl rfl, pre_of hPc hK hDc⟩ rfl rfl hl.1 rfl (lv_room (Nat.le_of_ble_eq_true rfl)) dX7_copy_84 ⟨Nat.le_of_ble_eq_true rfl, Nat.le_of_ble_eq_true rfl⟩) (fun r52 uu H locs hr52 hw => ?_)
                  subst hr52
                  have hw : WS D A s [(X, .inr (7, [.ref pa, .ref P, .ref ia, .ref iP, .int (nI kp), .ref T, .ref sa, .ref et, .ref Rn, .ref Ol])), (sa, .inl (Z 4, 4, .inr (.inr (.inr (.inr (rl [sh 0, sh 1, sh 2, sh 3])))))), (sh 0, .inr (4, [.int (nI (th 0)), .int (nI (la 0)), .int (nI (le 0)), .ref (it 0)])), (it 0, .inl (Z 1, 24, .inr (.inl (fs 0)))), (sh 3, .inr (4, [.int (nI (th 3)), .int (nI (la 3)), .int (nI (le 3)), .ref (it 3)])), (it 3, .inl (Z 1, 24, .inr (.inl (fs 3)))), ((sh 1), .inr (4, [.int (nI (th 1)), .int (nI (la 1)), .int (nI (le 1)), .ref (it 1)])), ((it 1), .inl (Z 1, 24, .inr (.inl (fs 1)))), ((sh 2), .inr (4, [.int (nI (th 2)), .int (nI (la 2)), .int (nI (le 2)), .ref (it 2)])), ((it 2), .inl (Z 1, 24, .inr (.inl (fs 2))))] H locs := hw
                  refine q_if_ne (tgt := 93) hx hb ((bb (hol (le 2) j n) : Nat) : Int) (nI_toInt (Nat.lt_of_le_of_lt (bb_le _) (by decide))) dX7_copy_87 (by decide) (fun c53 => ?_) (fun c53 => ?_)
                  · --
                    have c53 := bb_1 c53
                    have hq2 := c53
                    have e0 := hle 0
                    have e1 := hle 1
                    have e2 := hle 2
                    have e3 := hle 3
                    obtain ⟨x, rfl, ex⟩ := i32_nat (x := i) (by omega)
                    obtain ⟨y, rfl, ey⟩ := i32_nat (x := j) (by omega)
                    obtain ⟨v, rfl, ev⟩ := i32_nat (x := n) (by omega)
                    refine lv_aload hx hb dX7_copy_93 (lv_at hl 1 rfl) ?_
                    refine q_get (v := .ref (it 1)) (ci := 4) hx hb hts in_X4 hown hK hw 6 3 wd4 dX7_copy_95 rfl rfl (by decide) rfl ?_
                    refine lv_iload_n hx hb dX7_copy_98 rfl (lv_at hl 4 rfl) ?_
                    refine lv_aload hx hb dX7_copy_99 (lv_at hl 0 rfl) ?_
                    refine q_get (v := .ref (it 2)) (ci := 4) hx hb hts in_X4 hown hK hw 8 3 wd4 dX7_copy_101 rfl rfl (by decide) rfl ?_
                    refine lv_iload hx hb dX7_copy_104 (lv_at hl 6 rfl) ?_
                    refine lv_iload hx hb dX7_copy_106 (lv_at hl 7 rfl) ?_
                    refine q_copyl hx hb (by rw [hml]; exact hl.1.symm) hown wd5 wd6 wd7 wd8 hK hw 7 9 (by omega) (by omega) (by omega) (by omega) (by omega) (Nat.le_of_ble_eq_true rfl) (by decide +kernel) dX7_copy_108 rfl rfl (fun H locs hw => ?_)
                    have hw : WS D A s [(X, .inr (7, [.ref pa, .ref P, .ref ia, .ref iP, .int (nI kp), .ref T, .ref sa, .ref et, .ref Rn, .ref Ol])), (sa, .inl (Z 4, 4, .inr (.inr (.inr (.inr (rl [sh 0, sh 1, sh 2, sh 3])))))), (sh 0, .inr (4, [.int (nI (th 0)), .int (nI (la 0)), .int (nI (le 0)), .ref (it 0)])), (it 0, .inl (Z 1, 24, .inr (.inl (fs 0)))), (sh 3, .inr (4, [.int (nI (th 3)), .int (nI (la 3)), .int (nI (le 3)), .ref (it 3)])), (it 3, .inl (Z 1, 24, .inr (.inl (fs 3)))), ((sh 1), .inr (4, [.int (nI (th 1)), .int (nI (la 1)), .int (nI (le 1)), .ref (it 1)])), ((it 1), .inl (Z 1, 24, .inr (.inl (fs 1)))), ((sh 2), .inr (4, [.int (nI (th 2)), .int (nI (la 2)), .int (nI (le 2)), .ref (it 2)])), ((it 2), .inl (Z 1, 24, .inr (.inl (va_cpy (fs 1) (fs 2) x y v))))] H locs := hw
                    refine lv_iload hx hb dX7_copy_111 (lv_at hl 7 rfl) ?_
                    exact q_iret (wout := _) hx hb hr hlocks hAe hK (va_up fs 2 (va_cpy (fs 1) (fs 2) x y v)) (hw.sub [0, 1, 2, 3, 6, 7, 8, 9, 4, 5] (by decide) rfl) (⟨by unfold cyC; rw [if_neg (by omega), tnI ek]; (try rw [tnI em]); rw [if_neg (by omega), if_neg (by omega), if_pos ⟨hq1, hq2⟩], Or.inr ⟨by unfold cyOk; rw [tnI ek]; (try rw [tnI em]); exact ⟨by omega, by omega, by omega, hq1, hq2⟩, by rw [tnI ek]; (try rw [tnI em]); rw [tnI ex, tnI ey, tnI ev]⟩⟩) dX7_copy_113
                  · --
                    have c53 := bb_0 c53
                    have hq2 := c53
                    refine lv_bipush (v := (-13)) hx hb dX7_copy_90 (by decide) ?_
                    exact q_iret (wout := _) hx hb hr hlocks hAe hK fs (hw.sub [0, 1, 2, 3, 6, 7, 8, 9, 4, 5] (by decide) rfl) (⟨by unfold cyC; rw [if_neg (by omega), tnI ek]; (try rw [tnI em]); rw [if_neg (by omega), if_neg (by omega), if_neg (by first | exact fun h => hq1 h.1 | exact fun h => hq2 h.2)], Or.inl ⟨fun h => by unfold cyOk at h; rw [tnI ek] at h; (try rw [tnI em] at h); first | exact hq1 h.2.2.2.1 | exact hq2 h.2.2.2.2, rfl⟩⟩) dX7_copy_92
              · --
                refine lv_bipush (v := (-12)) hx hb dX7_copy_64 (by decide) ?_
                exact q_iret (wout := _) hx hb hr hlocks hAe hK fs hw (⟨by unfold cyC; rw [if_neg (by omega), tnI ek]; (try rw [tnI em]); rw [if_neg (by omega), if_pos (by omega)], Or.inl ⟨fun h => by unfold cyOk at h; rw [tnI ek] at h; (try rw [tnI em] at h); omega, rfl⟩⟩) dX7_copy_66
            · --
              refine lv_bipush (v := (-11)) hx hb dX7_copy_48 (by decide) ?_
              exact q_iret (wout := _) hx hb hr hlocks hAe hK fs hw (⟨by unfold cyC; rw [if_neg (by omega), tnI ek]; (try rw [tnI em]); rw [if_pos (by omega)], Or.inl ⟨fun h => by unfold cyOk at h; rw [tnI ek] at h; (try rw [tnI em] at h); omega, rfl⟩⟩) dX7_copy_50
        · --
          refine lv_iload_n hx hb dX7_copy_28 rfl (lv_at hl 4 rfl) ?_
          refine q_aald (b := sh 3) hx hb hK hw 1 4 (by omega) (by omega) rfl dX7_copy_29 rfl rfl ?_
          refine lv_astore (lv' := [(7, .ref (sh 3)), (6, .ref (sh 1)), (0, .ref X), (1, .int (nI 1)), (2, .int i), (3, .int (nI 3)), (4, .int j), (5, .int n)]) hx hb dX7_copy_30 hl (by decide) rfl (fun ls hl => ?_)
          refine lv_aload hx hb dX7_copy_32 (lv_at hl 1 rfl) ?_
          have t0' := hth 0
          have t1' := hth 1
          have t2' := hth 2
          have t3' := hth 3
          have l0' := hla 0
          have l1' := hla 1
          have l2' := hla 2
          have l3' := hla 3
          refine q_get (v := .int (nI (th 1))) (ci := 4) hx hb hts in_X4 hown hK hw 4 0 wd2 dX7_copy_34 rfl rfl (by decide) rfl ?_
          refine q_if_eq (tgt := 48) hx hb ((th 1 : Nat) : Int) (nI_toInt (by omega)) dX7_copy_37 (by decide) (fun c54 => ?_) (fun c54 => ?_)
          · --
            refine lv_bipush (v := (-11)) hx hb dX7_copy_48 (by decide) ?_
            exact q_iret (wout := _) hx hb hr hlocks hAe hK fs hw (⟨by unfold cyC; rw [if_neg (by omega), tnI ek]; (try rw [tnI em]); rw [if_pos (by omega)], Or.inl ⟨fun h => by unfold cyOk at h; rw [tnI ek] at h; (try rw [tnI em] at h); omega, rfl⟩⟩) dX7_copy_50
          · --
            refine lv_aload hx hb dX7_copy_40 (lv_at hl 0 rfl) ?_
            refine q_get (v := .int (nI (th 3))) (ci := 4) hx hb hts in_X4 hown hK hw 8 0 wd2 dX7_copy_42 rfl rfl (by decide) rfl ?_
            refine q_if_ne (tgt := 51) hx hb ((th 3 : Nat) : Int) (nI_toInt (by omega)) dX7_copy_45 (by decide) (fun c55 => ?_) (fun c55 => ?_)
            · --
              refine lv_aload hx hb dX7_copy_51 (lv_at hl 1 rfl) ?_
              refine q_get (v := .int (nI (la 1))) (ci := 4) hx hb hts in_X4 hown hK hw 4 1 wd3 dX7_copy_53 rfl rfl (by decide) rfl ?_
              refine lv_aload hx hb dX7_copy_56 (lv_at hl 0 rfl) ?_
              refine q_get (v := .int (nI (la 3))) (ci := 4) hx hb hts in_X4 hown hK hw 8 1 wd3 dX7_copy_58 rfl rfl (by decide) rfl ?_
              refine q_icmp_eq (tgt := 67) hx hb ((la 1 : Nat) : Int) ((la 3 : Nat) : Int) (nI_toInt (by omega)) (nI_toInt (by omega)) dX7_copy_61 (by decide) (fun c56 => ?_) (fun c56 => ?_)
              · --
                refine lv_aload hx hb dX7_copy_67 (lv_at hl 1 rfl) ?_
                refine lv_iload_n hx hb dX7_copy_69 rfl (lv_at hl 4 rfl) ?_
                refine lv_iload hx hb dX7_copy_70 (lv_at hl 7 rfl) ?_
                refine q_calli (S := Unit) (Z := Z) (D := D) (wc := [((sh 1), .inr (4, [.int (nI (th 1)), .int (nI (la 1)), .int (nI (le 1)), .ref (it 1)])), ((it 1), .inl (Z 1, 24, .inr (.inl (fs 1))))]) (wr := [(X, .inr (7, [.ref pa, .ref P, .ref ia, .ref iP, .int (nI kp), .ref T, .ref sa, .ref et, .ref Rn, .ref Ol])), (sa, .inl (Z 4, 4, .inr (.inr (.inr (.inr (rl [sh 0, sh 1, sh 2, sh 3])))))), (sh 0, .inr (4, [.int (nI (th 0)), .int (nI (la 0)), .int (nI (le 0)), .ref (it 0)])), (it 0, .inl (Z 1, 24, .inr (.inl (fs 0)))), (sh 2, .inr (4, [.int (nI (th 2)), .int (nI (la 2)), .int (nI (le 2)), .ref (it 2)])), (it 2, .inl (Z 1, 24, .inr (.inl (fs 2)))), (sh 3, .inr (4, [.int (nI (th 3)), .int (nI (la 3)), .int (nI (le 3)), .ref (it 3)])), (it 3, .inl (Z 1, 24, .inr (.inl (fs 3))))]) (rest := []) hw hA [4, 5] [0, 1, 2, 3, 6, 7, 8, 9] rfl rfl rfl rfl (by decide) (fun hPc hDc => va_runV (As := [.int i, .int n]) (rest := []) ⟨hx, hb, hml, hown, hts⟩ (c_X4_holds l D Z H.size (sh 1) (it 1) (th 1) (la 1) (le 1) (fs 1) i n (hle _)) (cwV 2 hts gX7_copy_X4_holds rfl rfl rfl (by decide +kernel) ⟨Nat.le_of_ble_eq_true rfl, Nat.le_of_ble_eq_true rfl⟩) ⟨fb_cPre, va_recv hK.1 hPc (ci := 4) (q0 := 0) rfl rfl, pre_of hPc hK hDc⟩ rfl rfl hl.1 rfl (lv_room (Nat.le_of_ble_eq_true rfl)) dX7_copy_72 ⟨Nat.le_of_ble_eq_true rfl, Nat.le_of_ble_eq_true rfl⟩) (fun r57 uu H locs hr57 hw => ?_)
                subst hr57
                have hw : WS D A s [(X, .inr (7, [.ref pa, .ref P, .ref ia, .ref iP, .int (nI kp), .ref T, .ref sa, .ref et, .ref Rn, .ref Ol])), (sa, .inl (Z 4, 4, .inr (.inr (.inr (.inr (rl [sh 0, sh 1, sh 2, sh 3])))))), (sh 0, .inr (4, [.int (nI (th 0)), .int (nI (la 0)), .int (nI (le 0)), .ref (it 0)])), (it 0, .inl (Z 1, 24, .inr (.inl (fs 0)))), (sh 2, .inr (4, [.int (nI (th 2)), .int (nI (la 2)), .int (nI (le 2)), .ref (it 2)])), (it 2, .inl (Z 1, 24, .inr (.inl (fs 2)))), (sh 3, .inr (4, [.int (nI (th 3)), .int (nI (la 3)), .int (nI (le 3)), .ref (it 3)])), (it 3, .inl (Z 1, 24, .inr (.inl (fs 3)))), ((sh 1), .inr (4, [.int (nI (th 1)), .int (nI (la 1)), .int (nI (le 1)), .ref (it 1)])), ((it 1), .inl (Z 1, 24, .inr (.inl (fs 1))))] H locs := hw
                refine q_if_eq (tgt := 90) hx hb ((bb (hol (le 1) i n) : Nat) : Int) (nI_toInt (Nat.lt_of_le_of_lt (bb_le _) (by decide))) dX7_copy_75 (by decide) (fun c58 => ?_) (fun c58 => ?_)
                · --
                  have c58 := bb_0 c58
                  have hq1 := c58
                  refine lv_bipush (v := (-13)) hx hb dX7_copy_90 (by decide) ?_
                  exact q_iret (wout := _) hx hb hr hlocks hAe hK fs (hw.sub [0, 1, 2, 3, 8, 9, 4, 5, 6, 7] (by decide) rfl) (⟨by unfold cyC; rw [if_neg (by omega), tnI ek]; (try rw [tnI em]); rw [if_neg (by omega), if_neg (by omega), if_neg (by first | exact fun h => hq1 h.1 | exact fun h => hq2 h.2)], Or.inl ⟨fun h => by unfold cyOk at h; rw [tnI ek] at h; (try rw [tnI em] at h); first | exact hq1 h.2.2.2.1 | exact hq2 h.2.2.2.2, rfl⟩⟩) dX7_copy_92
                · --
                  have c58 := bb_1 c58
                  have hq1 := c58
                  refine lv_aload hx hb dX7_copy_78 (lv_at hl 0 rfl) ?_
                  refine lv_iload hx hb dX7_copy_80 (lv_at hl 6 rfl) ?_
                  refine lv_iload hx hb dX7_copy_82 (lv_at hl 7 rfl) ?_
                  refine q_calli (S := Unit) (Z := Z) (D := D) (wc := [((sh 3), .inr (4, [.int (nI (th 3)), .int (nI (la 3)), .int (nI (le 3)), .ref (it 3)])), ((it 3), .inl (Z 1, 24, .inr (.inl (fs 3))))]) (wr := [(X, .inr (7, [.ref pa, .ref P, .ref ia, .ref iP, .int (nI kp), .ref T, .ref sa, .ref et, .ref Rn, .ref Ol])), (sa, .inl (Z 4, 4, .inr (.inr (.inr (.inr (rl [sh 0, sh 1, sh 2, sh 3])))))), (sh 0, .inr (4, [.int (nI (th 0)), .int (nI (la 0)), .int (nI (le 0)), .ref (it 0)])), (it 0, .inl (Z 1, 24, .inr (.inl (fs 0)))), (sh 2, .inr (4, [.int (nI (th 2)), .int (nI (la 2)), .int (nI (le 2)), .ref (it 2)])), (it 2, .inl (Z 1, 24, .inr (.inl (fs 2)))), ((sh 1), .inr (4, [.int (nI (th 1)), .int (nI (la 1)), .int (nI (le 1)), .ref (it 1)])), ((it 1), .inl (Z 1, 24, .inr (.inl (fs 1))))]) (rest := []) hw hA [6, 7] [0, 1, 2, 3, 4, 5, 8, 9] rfl rfl rfl rfl (by decide) (fun hPc hDc => va_runV (As := [.int j, .int n]) (rest := []) ⟨hx, hb, hml, hown, hts⟩ (c_X4_holds l D Z H.size (sh 3) (it 3) (th 3) (la 3) (le 3) (fs 3) j n (hle _)) (cwV 2 hts gX7_copy_X4_holds rfl rfl rfl (by decide +kernel) ⟨Nat.le_of_ble_eq_true rfl, Nat.le_of_ble_eq_true rfl⟩) ⟨fb_cPre, va_recv hK.1 hPc (ci := 4) (q0 := 0) rfl rfl, pre_of hPc hK hDc⟩ rfl rfl hl.1 rfl (lv_room (Nat.le_of_ble_eq_true rfl)) dX7_copy_84 ⟨Nat.le_of_ble_eq_true rfl, Nat.le_of_ble_eq_true rfl⟩) (fun r59 uu H locs hr59 hw => ?_)
                  subst hr59
                  have hw : WS D A s [(X, .inr (7, [.ref pa, .ref P, .ref ia, .ref iP, .int (nI kp), .ref T, .ref sa, .ref et, .ref Rn, .ref Ol])), (sa, .inl (Z 4, 4, .inr (.inr (.inr (.inr (rl [sh 0, sh 1, sh 2, sh 3])))))), (sh 0, .inr (4, [.int (nI (th 0)), .int (nI (la 0)), .int (nI (le 0)), .ref (it 0)])), (it 0, .inl (Z 1, 24, .inr (.inl (fs 0)))), (sh 2, .inr (4, [.int (nI (th 2)), .int (nI (la 2)), .int (nI (le 2)), .ref (it 2)])), (it 2, .inl (Z 1, 24, .inr (.inl (fs 2)))), ((sh 1), .inr (4, [.int (nI (th 1)), .int (nI (la 1)), .int (nI (le 1)), .ref (it 1)])), ((it 1), .inl (Z 1, 24, .inr (.inl (fs 1)))), ((sh 3), .inr (4, [.int (nI (th 3)), .int (nI (la 3)), .int (nI (le 3)), .ref (it 3)])), ((it 3), .inl (Z 1, 24, .inr (.inl (fs 3))))] H locs := hw
                  refine q_if_ne (tgt := 93) hx hb ((bb (hol (le 3) j n) : Nat) : Int) (nI_toInt (Nat.lt_of_le_of_lt (bb_le _) (by decide))) dX7_copy_87 (by decide) (fun c60 => ?_) (fun c60 => ?_)
                  · --
                    have c60 := bb_1 c60
                    have hq2 := c60
                    have e0 := hle 0
                    have e1 := hle 1
                    have e2 := hle 2
                    have e3 := hle 3
                    obtain ⟨x, rfl, ex⟩ := i32_nat (x := i) (by omega)
                    obtain ⟨y, rfl, ey⟩ := i32_nat (x := j) (by omega)
                    obtain ⟨v, rfl, ev⟩ := i32_nat (x := n) (by omega)
                    refine lv_aload hx hb dX7_copy_93 (lv_at hl 1 rfl) ?_
                    refine q_get (v := .ref (it 1)) (ci := 4) hx hb hts in_X4 hown hK hw 6 3 wd4 dX7_copy_95 rfl rfl (by decide) rfl ?_
                    refine lv_iload_n hx hb dX7_copy_98 rfl (lv_at hl 4 rfl) ?_
                    refine lv_aload hx hb dX7_copy_99 (lv_at hl 0 rfl) ?_
                    refine q_get (v := .ref (it 3)) (ci := 4) hx hb hts in_X4 hown hK hw 8 3 wd4 dX7_copy_101 rfl rfl (by decide) rfl ?_
                    refine lv_iload hx hb dX7_copy_104 (lv_at hl 6 rfl) ?_
                    refine lv_iload hx hb dX7_copy_106 (lv_at hl 7 rfl) ?_
                    refine q_copyl hx hb (by rw [hml]; exact hl.1.symm) hown wd5 wd6 wd7 wd8 hK hw 7 9 (by omega) (by omega) (by omega) (by omega) (by omega) (Nat.le_of_ble_eq_true rfl) (by decide +kernel) dX7_copy_108 rfl rfl (fun H locs hw => ?_)
                    have hw : WS D A s [(X, .inr (7, [.ref pa, .ref P, .ref ia, .ref iP, .int (nI kp), .ref T, .ref sa, .ref et, .ref Rn, .ref Ol])), (sa, .inl (Z 4, 4, .inr (.inr (.inr (.inr (rl [sh 0, sh 1, sh 2, sh 3])))))), (sh 0, .inr (4, [.int (nI (th 0)), .int (nI (la 0)), .int (nI (le 0)), .ref (it 0)])), (it 0, .inl (Z 1, 24, .inr (.inl (fs 0)))), (sh 2, .inr (4, [.int (nI (th 2)), .int (nI (la 2)), .int (nI (le 2)), .ref (it 2)])), (it 2, .inl (Z 1, 24, .inr (.inl (fs 2)))), ((sh 1), .inr (4, [.int (nI (th 1)), .int (nI (la 1)), .int (nI (le 1)), .ref (it 1)])), ((it 1), .inl (Z 1, 24, .inr (.inl (fs 1)))), ((sh 3), .inr (4, [.int (nI (th 3)), .int (nI (la 3)), .int (nI (le 3)), .ref (it 3)])), ((it 3), .inl (Z 1, 24, .inr (.inl (va_cpy (fs 1) (fs 3) x y v))))] H locs := hw
                    refine lv_iload hx hb dX7_copy_111 (lv_at hl 7 rfl) ?_
                    exact q_iret (wout := _) hx hb hr hlocks hAe hK (va_up fs 3 (va_cpy (fs 1) (fs 3) x y v)) (hw.sub [0, 1, 2, 3, 6, 7, 4, 5, 8, 9] (by decide) rfl) (⟨by unfold cyC; rw [if_neg (by omega), tnI ek]; (try rw [tnI em]); rw [if_neg (by omega), if_neg (by omega), if_pos ⟨hq1, hq2⟩], Or.inr ⟨by unfold cyOk; rw [tnI ek]; (try rw [tnI em]); exact ⟨by omega, by omega, by omega, hq1, hq2⟩, by rw [tnI ek]; (try rw [tnI em]); rw [tnI ex, tnI ey, tnI ev]⟩⟩) dX7_copy_113
                  · --
                    have c60 := bb_0 c60
                    have hq2 := c60
                    refine lv_bipush (v := (-13)) hx hb dX7_copy_90 (by decide) ?_
                    exact q_iret (wout := _) hx hb hr hlocks hAe hK fs (hw.sub [0, 1, 2, 3, 6, 7, 4, 5, 8, 9] (by decide) rfl) (⟨by unfold cyC; rw [if_neg (by omega), tnI ek]; (try rw [tnI em]); rw [if_neg (by omega), if_neg (by omega), if_neg (by first | exact fun h => hq1 h.1 | exact fun h => hq2 h.2)], Or.inl ⟨fun h => by unfold cyOk at h; rw [tnI ek] at h; (try rw [tnI em] at h); first | exact hq1 h.2.2.2.1 | exact hq2 h.2.2.2.2, rfl⟩⟩) dX7_copy_92
              · --
                refine lv_bipush (v := (-12)) hx hb dX7_copy_64 (by decide) ?_
                exact q_iret (wout := _) hx hb hr hlocks hAe hK fs hw (⟨by unfold cyC; rw [if_neg (by omega), tnI ek]; (try rw [tnI em]); rw [if_neg (by omega), if_pos (by omega)], Or.inl ⟨fun h => by unfold cyOk at h; rw [tnI ek] at h; (try rw [tnI em] at h); omega, rfl⟩⟩) dX7_copy_66
            · --
              refine lv_bipush (v := (-11)) hx hb dX7_copy_48 (by decide) ?_
              exact q_iret (wout := _) hx hb hr hlocks hAe hK fs hw (⟨by unfold cyC; rw [if_neg (by omega), tnI ek]; (try rw [tnI em]); rw [if_pos (by omega)], Or.inl ⟨fun h => by unfold cyOk at h; rw [tnI ek] at h; (try rw [tnI em] at h); omega, rfl⟩⟩) dX7_copy_50
      · --
        refine lv_iload_n hx hb dX7_copy_20 rfl (lv_at hl 1 rfl) ?_
        refine q_aald (b := sh 2) hx hb hK hw 1 4 (by omega) (by omega) rfl dX7_copy_21 rfl rfl ?_
        refine lv_astore (lv' := [(6, .ref (sh 2)), (0, .ref X), (1, .int (nI 2)), (2, .int i), (3, .int (nI m)), (4, .int j), (5, .int n)]) hx hb dX7_copy_22 hl (by decide) rfl (fun ls hl => ?_)
        refine lv_aload_n hx hb dX7_copy_24 rfl (lv_at hl 1 rfl) ?_
        refine q_get (v := .ref sa) (ci := 7) hx hb hts in_X7 hown hK hw 0 6 wd1 dX7_copy_25 rfl rfl (by decide) rfl ?_
        rcases (show m = 0 ∨ m = 1 ∨ m = 2 ∨ m = 3 by omega) with rfl | rfl | rfl | rfl
        · --
          refine lv_iload_n hx hb dX7_copy_28 rfl (lv_at hl 4 rfl) ?_
          refine q_aald (b := sh 0) hx hb hK hw 1 4 (by omega) (by omega) rfl dX7_copy_29 rfl rfl ?_
          refine lv_astore (lv' := [(7, .ref (sh 0)), (6, .ref (sh 2)), (0, .ref X), (1, .int (nI 2)), (2, .int i), (3, .int (nI 0)), (4, .int j), (5, .int n)]) hx hb dX7_copy_30 hl (by decide) rfl (fun ls hl => ?_)
          refine lv_aload hx hb dX7_copy_32 (lv_at hl 1 rfl) ?_
          have t0' := hth 0
          have t1' := hth 1
          have t2' := hth 2
          have t3' := hth 3
          have l0' := hla 0
          have l1' := hla 1
          have l2' := hla 2
          have l3' := hla 3
          refine q_get (v := .int (nI (th 2))) (ci := 4) hx hb hts in_X4 hown hK hw 6 0 wd2 dX7_copy_34 rfl rfl (by decide) rfl ?_
          refine q_if_eq (tgt := 48) hx hb ((th 2 : Nat) : Int) (nI_toInt (by omega)) dX7_copy_37 (by decide) (fun c61 => ?_) (fun c61 => ?_)
          · --
            refine lv_bipush (v := (-11)) hx hb dX7_copy_48 (by decide) ?_
            exact q_iret (wout := _) hx hb hr hlocks hAe hK fs hw (⟨by unfold cyC; rw [if_neg (by omega), tnI ek]; (try rw [tnI em]); rw [if_pos (by omega)], Or.inl ⟨fun h => by unfold cyOk at h; rw [tnI ek] at h; (try rw [tnI em] at h); omega, rfl⟩⟩) dX7_copy_50
          · --
            refine lv_aload hx hb dX7_copy_40 (lv_at hl 0 rfl) ?_
            refine q_get (v := .int (nI (th 0))) (ci := 4) hx hb hts in_X4 hown hK hw 2 0 wd2 dX7_copy_42 rfl rfl (by decide) rfl ?_
            refine q_if_ne (tgt := 51) hx hb ((th 0 : Nat) : Int) (nI_toInt (by omega)) dX7_copy_45 (by decide) (fun c62 => ?_) (fun c62 => ?_)
            · --
              refine lv_aload hx hb dX7_copy_51 (lv_at hl 1 rfl) ?_
              refine q_get (v := .int (nI (la 2))) (ci := 4) hx hb hts in_X4 hown hK hw 6 1 wd3 dX7_copy_53 rfl rfl (by decide) rfl ?_
              refine lv_aload hx hb dX7_copy_56 (lv_at hl 0 rfl) ?_
              refine q_get (v := .int (nI (la 0))) (ci := 4) hx hb hts in_X4 hown hK hw 2 1 wd3 dX7_copy_58 rfl rfl (by decide) rfl ?_
              refine q_icmp_eq (tgt := 67) hx hb ((la 2 : Nat) : Int) ((la 0 : Nat) : Int) (nI_toInt (by omega)) (nI_toInt (by omega)) dX7_copy_61 (by decide) (fun c63 => ?_) (fun c63 => ?_)
              · --
                refine lv_aload hx hb dX7_copy_67 (lv_at hl 1 rfl) ?_
                refine lv_iload_n hx hb dX7_copy_69 rfl (lv_at hl 4 rfl) ?_
                refine lv_iload hx hb dX7_copy_70 (lv_at hl 7 rfl) ?_
                refine q_calli (S := Unit) (Z := Z) (D := D) (wc := [((sh 2), .inr (4, [.int (nI (th 2)), .int (nI (la 2)), .int (nI (le 2)), .ref (it 2)])), ((it 2), .inl (Z 1, 24, .inr (.inl (fs 2))))]) (wr := [(X, .inr (7, [.ref pa, .ref P, .ref ia, .ref iP, .int (nI kp), .ref T, .ref sa, .ref et, .ref Rn, .ref Ol])), (sa, .inl (Z 4, 4, .inr (.inr (.inr (.inr (rl [sh 0, sh 1, sh 2, sh 3])))))), (sh 0, .inr (4, [.int (nI (th 0)), .int (nI (la 0)), .int (nI (le 0)), .ref (it 0)])), (it 0, .inl (Z 1, 24, .inr (.inl (fs 0)))), (sh 1, .inr (4, [.int (nI (th 1)), .int (nI (la 1)), .int (nI (le 1)), .ref (it 1)])), (it 1, .inl (Z 1, 24, .inr (.inl (fs 1)))), (sh 3, .inr (4, [.int (nI (th 3)), .int (nI (la 3)), .int (nI (le 3)), .ref (it 3)])), (it 3, .inl (Z 1, 24, .inr (.inl (fs 3))))]) (rest := []) hw hA [6, 7] [0, 1, 2, 3, 4, 5, 8, 9] rfl rfl rfl rfl (by decide) (fun hPc hDc => va_runV (As := [.int i, .int n]) (rest := []) ⟨hx, hb, hml, hown, hts⟩ (c_X4_holds l D Z H.size (sh 2) (it 2) (th 2) (la 2) (le 2) (fs 2) i n (hle _)) (cwV 2 hts gX7_copy_X4_holds rfl rfl rfl (by decide +kernel) ⟨Nat.le_of_ble_eq_true rfl, Nat.le_of_ble_eq_true rfl⟩) ⟨fb_cPre, va_recv hK.1 hPc (ci := 4) (q0 := 0) rfl rfl, pre_of hPc hK hDc⟩ rfl rfl hl.1 rfl (lv_room (Nat.le_of_ble_eq_true rfl)) dX7_copy_72 ⟨Nat.le_of_ble_eq_true rfl, Nat.le_of_ble_eq_true rfl⟩) (fun r64 uu H locs hr64 hw => ?_)
                subst hr64
                have hw : WS D A s [(X, .inr (7, [.ref pa, .ref P, .ref ia, .ref iP, .int (nI kp), .ref T, .ref sa, .ref et, .ref Rn, .ref Ol])), (sa, .inl (Z 4, 4, .inr (.inr (.inr (.inr (rl [sh 0, sh 1, sh 2, sh 3])))))), (sh 0, .inr (4, [.int (nI (th 0)), .int (nI (la 0)), .int (nI (le 0)), .ref (it 0)])), (it 0, .inl (Z 1, 24, .inr (.inl (fs 0)))), (sh 1, .inr (4, [.int (nI (th 1)), .int (nI (la 1)), .int (nI (le 1)), .ref (it 1)])), (it 1, .inl (Z 1, 24, .inr (.inl (fs 1)))), (sh 3, .inr (4, [.int (nI (th 3)), .int (nI (la 3)), .int (nI (le 3)), .ref (it 3)])), (it 3, .inl (Z 1, 24, .inr (.inl (fs 3)))), ((sh 2), .inr (4, [.int (nI (th 2)), .int (nI (la 2)), .int (nI (le 2)), .ref (it 2)])), ((it 2), .inl (Z 1, 24, .inr (.inl (fs 2))))] H locs := hw
                refine q_if_eq (tgt := 90) hx hb ((bb (hol (le 2) i n) : Nat) : Int) (nI_toInt (Nat.lt_of_le_of_lt (bb_le _) (by decide))) dX7_copy_75 (by decide) (fun c65 => ?_) (fun c65 => ?_)
                · --
                  have c65 := bb_0 c65
                  have hq1 := c65
                  refine lv_bipush (v := (-13)) hx hb dX7_copy_90 (by decide) ?_
                  exact q_iret (wout := _) hx hb hr hlocks hAe hK fs (hw.sub [0, 1, 2, 3, 4, 5, 8, 9, 6, 7] (by decide) rfl) (⟨by unfold cyC; rw [if_neg (by omega), tnI ek]; (try rw [tnI em]); rw [if_neg (by omega), if_neg (by omega), if_neg (by first | exact fun h => hq1 h.1 | exact fun h => hq2 h.2)], Or.inl ⟨fun h => by unfold cyOk at h; rw [tnI ek] at h; (try rw [tnI em] at h); first | exact hq1 h.2.2.2.1 | exact hq2 h.2.2.2.2, rfl⟩⟩) dX7_copy_92
                · --
                  have c65 := bb_1 c65
                  have hq1 := c65
                  refine lv_aload hx hb dX7_copy_78 (lv_at hl 0 rfl) ?_
                  refine lv_iload hx hb dX7_copy_80 (lv_at hl 6 rfl) ?_
                  refine lv_iload hx hb dX7_copy_82 (lv_at hl 7 rfl) ?_
                  refine q_calli (S := Unit) (Z := Z) (D := D) (wc := [((sh 0), .inr (4, [.int (nI (th 0)), .int (nI (la 0)), .int (nI (le 0)), .ref (it 0)])), ((it 0), .inl (Z 1, 24, .inr (.inl (fs 0))))]) (wr := [(X, .inr (7, [.ref pa, .ref P, .ref ia, .ref iP, .int (nI kp), .ref T, .ref sa, .ref et, .ref Rn, .ref Ol])), (sa, .inl (Z 4, 4, .inr (.inr (.inr (.inr (rl [sh 0, sh 1, sh 2, sh 3])))))), (sh 1, .inr (4, [.int (nI (th 1)), .int (nI (la 1)), .int (nI (le 1)), .ref (it 1)])), (it 1, .inl (Z 1, 24, .inr (.inl (fs 1)))), (sh 3, .inr (4, [.int (nI (th 3)), .int (nI (la 3)), .int (nI (le 3)), .ref (it 3)])), (it 3, .inl (Z 1, 24, .inr (.inl (fs 3)))), ((sh 2), .inr (4, [.int (nI (th 2)), .int (nI (la 2)), .int (nI (le 2)), .ref (it 2)])), ((it 2), .inl (Z 1, 24, .inr (.inl (fs 2))))]) (rest := []) hw hA [2, 3] [0, 1, 4, 5, 6, 7, 8, 9] rfl rfl rfl rfl (by decide) (fun hPc hDc => va_runV (As := [.int j, .int n]) (rest := []) ⟨hx, hb, hml, hown, hts⟩ (c_X4_holds l D Z H.size (sh 0) (it 0) (th 0) (la 0) (le 0) (fs 0) j n (hle _)) (cwV 2 hts gX7_copy_X4_holds rfl rfl rfl (by decide +kernel) ⟨Nat.le_of_ble_eq_true rfl, Nat.le_of_ble_eq_true rfl⟩) ⟨fb_cPre, va_recv hK.1 hPc (ci := 4) (q0 := 0) rfl rfl, pre_of hPc hK hDc⟩ rfl rfl hl.1 rfl (lv_room (Nat.le_of_ble_eq_true rfl)) dX7_copy_84 ⟨Nat.le_of_ble_eq_true rfl, Nat.le_of_ble_eq_true rfl⟩) (fun r66 uu H locs hr66 hw => ?_)
                  subst hr66
                  have hw : WS D A s [(X, .inr (7, [.ref pa, .ref P, .ref ia, .ref iP, .int (nI kp), .ref T, .ref sa, .ref et, .ref Rn, .ref Ol])), (sa, .inl (Z 4, 4, .inr (.inr (.inr (.inr (rl [sh 0, sh 1, sh 2, sh 3])))))), (sh 1, .inr (4, [.int (nI (th 1)), .int (nI (la 1)), .int (nI (le 1)), .ref (it 1)])), (it 1, .inl (Z 1, 24, .inr (.inl (fs 1)))), (sh 3, .inr (4, [.int (nI (th 3)), .int (nI (la 3)), .int (nI (le 3)), .ref (it 3)])), (it 3, .inl (Z 1, 24, .inr (.inl (fs 3)))), ((sh 2), .inr (4, [.int (nI (th 2)), .int (nI (la 2)), .int (nI (le 2)), .ref (it 2)])), ((it 2), .inl (Z 1, 24, .inr (.inl (fs 2)))), ((sh 0), .inr (4, [.int (nI (th 0)), .int (nI (la 0)), .int (nI (le 0)), .ref (it 0)])), ((it 0), .inl (Z 1, 24, .inr (.inl (fs 0))))] H locs := hw
                  refine q_if_ne (tgt := 93) hx hb ((bb (hol (le 0) j n) : Nat) : Int) (nI_toInt (Nat.lt_of_le_of_lt (bb_le _) (by decide))) dX7_copy_87 (by decide) (fun c67 => ?_) (fun c67 => ?_)
                  · --
                    have c67 := bb_1 c67
                    have hq2 := c67
                    have e0 := hle 0
                    have e1 := hle 1
                    have e2 := hle 2
                    have e3 := hle 3
                    obtain ⟨x, rfl, ex⟩ := i32_nat (x := i) (by omega)
                    obtain ⟨y, rfl, ey⟩ := i32_nat (x := j) (by omega)
                    obtain ⟨v, rfl, ev⟩ := i32_nat (x := n) (by omega)
                    refine lv_aload hx hb dX7_copy_93 (lv_at hl 1 rfl) ?_
                    refine q_get (v := .ref (it 2)) (ci := 4) hx hb hts in_X4 hown hK hw 6 3 wd4 dX7_copy_95 rfl rfl (by decide) rfl ?_
                    refine lv_iload_n hx hb dX7_copy_98 rfl (lv_at hl 4 rfl) ?_
                    refine lv_aload hx hb dX7_copy_99 (lv_at hl 0 rfl) ?_
                    refine q_get (v := .ref (it 0)) (ci := 4) hx hb hts in_X4 hown hK hw 8 3 wd4 dX7_copy_101 rfl rfl (by decide) rfl ?_
                    refine lv_iload hx hb dX7_copy_104 (lv_at hl 6 rfl) ?_
                    refine lv_iload hx hb dX7_copy_106 (lv_at hl 7 rfl) ?_
                    refine q_copyl hx hb (by rw [hml]; exact hl.1.symm) hown wd5 wd6 wd7 wd8 hK hw 7 9 (by omega) (by omega) (by omega) (by omega) (by omega) (Nat.le_of_ble_eq_true rfl) (by decide +kernel) dX7_copy_108 rfl rfl (fun H locs hw => ?_)
                    have hw : WS D A s [(X, .inr (7, [.ref pa, .ref P, .ref ia, .ref iP, .int (nI kp), .ref T, .ref sa, .ref et, .ref Rn, .ref Ol])), (sa, .inl (Z 4, 4, .inr (.inr (.inr (.inr (rl [sh 0, sh 1, sh 2, sh 3])))))), (sh 1, .inr (4, [.int (nI (th 1)), .int (nI (la 1)), .int (nI (le 1)), .ref (it 1)])), (it 1, .inl (Z 1, 24, .inr (.inl (fs 1)))), (sh 3, .inr (4, [.int (nI (th 3)), .int (nI (la 3)), .int (nI (le 3)), .ref (it 3)])), (it 3, .inl (Z 1, 24, .inr (.inl (fs 3)))), ((sh 2), .inr (4, [.int (nI (th 2)), .int (nI (la 2)), .int (nI (le 2)), .ref (it 2)])), ((it 2), .inl (Z 1, 24, .inr (.inl (fs 2)))), ((sh 0), .inr (4, [.int (nI (th 0)), .int (nI (la 0)), .int (nI (le 0)), .ref (it 0)])), ((it 0), .inl (Z 1, 24, .inr (.inl (va_cpy (fs 2) (fs 0) x y v))))] H locs := hw
                    refine lv_iload hx hb dX7_copy_111 (lv_at hl 7 rfl) ?_
                    exact q_iret (wout := _) hx hb hr hlocks hAe hK (va_up fs 0 (va_cpy (fs 2) (fs 0) x y v)) (hw.sub [0, 1, 8, 9, 2, 3, 6, 7, 4, 5] (by decide) rfl) (⟨by unfold cyC; rw [if_neg (by omega), tnI ek]; (try rw [tnI em]); rw [if_neg (by omega), if_neg (by omega), if_pos ⟨hq1, hq2⟩], Or.inr ⟨by unfold cyOk; rw [tnI ek]; (try rw [tnI em]); exact ⟨by omega, by omega, by omega, hq1, hq2⟩, by rw [tnI ek]; (try rw [tnI em]); rw [tnI ex, tnI ey, tnI ev]⟩⟩) dX7_copy_113
                  · --
                    have c67 := bb_0 c67
                    have hq2 := c67
                    refine lv_bipush (v := (-13)) hx hb dX7_copy_90 (by decide) ?_
                    exact q_iret (wout := _) hx hb hr hlocks hAe hK fs (hw.sub [0, 1, 8, 9, 2, 3, 6, 7, 4, 5] (by decide) rfl) (⟨by unfold cyC; rw [if_neg (by omega), tnI ek]; (try rw [tnI em]); rw [if_neg (by omega), if_neg (by omega), if_neg (by first | exact fun h => hq1 h.1 | exact fun h => hq2 h.2)], Or.inl ⟨fun h => by unfold cyOk at h; rw [tnI ek] at h; (try rw [tnI em] at h); first | exact hq1 h.2.2.2.1 | exact hq2 h.2.2.2.2, rfl⟩⟩) dX7_copy_92
              · --
                refine lv_bipush (v := (-12)) hx hb dX7_copy_64 (by decide) ?_
                exact q_iret (wout := _) hx hb hr hlocks hAe hK fs hw (⟨by unfold cyC; rw [if_neg (by omega), tnI ek]; (try rw [tnI em]); rw [if_neg (by omega), if_pos (by omega)], Or.inl ⟨fun h => by unfold cyOk at h; rw [tnI ek] at h; (try rw [tnI em] at h); omega, rfl⟩⟩) dX7_copy_66
            · --
              refine lv_bipush (v := (-11)) hx hb dX7_copy_48 (by decide) ?_
              exact q_iret (wout := _) hx hb hr hlocks hAe hK fs hw (⟨by unfold cyC; rw [if_neg (by omega), tnI ek]; (try rw [tnI em]); rw [if_pos (by omega)], Or.inl ⟨fun h => by unfold cyOk at h; rw [tnI ek] at h; (try rw [tnI em] at h); omega, rfl⟩⟩) dX7_copy_50
        · --
          refine lv_iload_n hx hb dX7_copy_28 rfl (lv_at hl 4 rfl) ?_
          refine q_aald (b := sh 1) hx hb hK hw 1 4 (by omega) (by omega) rfl dX7_copy_29 rfl rfl ?_
          refine lv_astore (lv' := [(7, .ref (sh 1)), (6, .ref (sh 2)), (0, .ref X), (1, .int (nI 2)), (2, .int i), (3, .int (nI 1)), (4, .int j), (5, .int n)]) hx hb dX7_copy_30 hl (by decide) rfl (fun ls hl => ?_)
          refine lv_aload hx hb dX7_copy_32 (lv_at hl 1 rfl) ?_
          have t0' := hth 0
          have t1' := hth 1
          have t2' := hth 2
          have t3' := hth 3
          have l0' := hla 0
          have l1' := hla 1
          have l2' := hla 2
          have l3' := hla 3
          refine q_get (v := .int (nI (th 2))) (ci := 4) hx hb hts in_X4 hown hK hw 6 0 wd2 dX7_copy_34 rfl rfl (by decide) rfl ?_
          refine q_if_eq (tgt := 48) hx hb ((th 2 : Nat) : Int) (nI_toInt (by omega)) dX7_copy_37 (by decide) (fun c68 => ?_) (fun c68 => ?_)
          · --
            refine lv_bipush (v := (-11)) hx hb dX7_copy_48 (by decide) ?_
            exact q_iret (wout := _) hx hb hr hlocks hAe hK fs hw (⟨by unfold cyC; rw [if_neg (by omega), tnI ek]; (try rw [tnI em]); rw [if_pos (by omega)], Or.inl ⟨fun h => by unfold cyOk at h; rw [tnI ek] at h; (try rw [tnI em] at h); omega, rfl⟩⟩) dX7_copy_50
          · --
            refine lv_aload hx hb dX7_copy_40 (lv_at hl 0 rfl) ?_
            refine q_get (v := .int (nI (th 1))) (ci := 4) hx hb hts in_X4 hown hK hw 4 0 wd2 dX7_copy_42 rfl rfl (by decide) rfl ?_
            refine q_if_ne (tgt := 51) hx hb ((th 1 : Nat) : Int) (nI_toInt (by omega)) dX7_copy_45 (by decide) (fun c69 => ?_) (fun c69 => ?_)
            · --
              refine lv_aload hx hb dX7_copy_51 (lv_at hl 1 rfl) ?_
              refine q_get (v := .int (nI (la 2))) (ci := 4) hx hb hts in_X4 hown hK hw 6 1 wd3 dX7_copy_53 rfl rfl (by decide) rfl ?_
              refine lv_aload hx hb dX7_copy_56 (lv_at hl 0 rfl) ?_
              refine q_get (v := .int (nI (la 1))) (ci := 4) hx hb hts in_X4 hown hK hw 4 1 wd3 dX7_copy_58 rfl rfl (by decide) rfl ?_
              refine q_icmp_eq (tgt := 67) hx hb ((la 2 : Nat) : Int) ((la 1 : Nat) : Int) (nI_toInt (by omega)) (nI_toInt (by omega)) dX7_copy_61 (by decide) (fun c70 => ?_) (fun c70 => ?_)
              · --
                refine lv_aload hx hb dX7_copy_67 (lv_at hl 1 rfl) ?_
                refine lv_iload_n hx hb dX7_copy_69 rfl (lv_at hl 4 rfl) ?_
                refine lv_iload hx hb dX7_copy_70 (lv_at hl 7 rfl) ?_
                refine q_calli (S := Unit) (Z := Z) (D := D) (wc := [((sh 2), .inr (4, [.int (nI (th 2)), .int (nI (la 2)), .int (nI (le 2)), .ref (it 2)])), ((it 2), .inl (Z 1, 24, .inr (.inl (fs 2))))]) (wr := [(X, .inr (7, [.ref pa, .ref P, .ref ia, .ref iP, .int (nI kp), .ref T, .ref sa, .ref et, .ref Rn, .ref Ol])), (sa, .inl (Z 4, 4, .inr (.inr (.inr (.inr (rl [sh 0, sh 1, sh 2, sh 3])))))), (sh 0, .inr (4, [.int (nI (th 0)), .int (nI (la 0)), .int (nI (le 0)), .ref (it 0)])), (it 0, .inl (Z 1, 24, .inr (.inl (fs 0)))), (sh 1, .inr (4, [.int (nI (th 1)), .int (nI (la 1)), .int (nI (le 1)), .ref (it 1)])), (it 1, .inl (Z 1, 24, .inr (.inl (fs 1)))), (sh 3, .inr (4, [.int (nI (th 3)), .int (nI (la 3)), .int (nI (le 3)), .ref (it 3)])), (it 3, .inl (Z 1, 24, .inr (.inl (fs 3))))]) (rest := []) hw hA [6, 7] [0, 1, 2, 3, 4, 5, 8, 9] rfl rfl rfl rfl (by decide) (fun hPc hDc => va_runV (As := [.int i, .int n]) (rest := []) ⟨hx, hb, hml, hown, hts⟩ (c_X4_holds l D Z H.size (sh 2) (it 2) (th 2) (la 2) (le 2) (fs 2) i n (hle _)) (cwV 2 hts gX7_copy_X4_holds rfl rfl rfl (by decide +kernel) ⟨Nat.le_of_ble_eq_true rfl, Nat.le_of_ble_eq_true rfl⟩) ⟨fb_cPre, va_recv hK.1 hPc (ci := 4) (q0 := 0) rfl rfl, pre_of hPc hK hDc⟩ rfl rfl hl.1 rfl (lv_room (Nat.le_of_ble_eq_true rfl)) dX7_copy_72 ⟨Nat.le_of_ble_eq_true rfl, Nat.le_of_ble_eq_true rfl⟩) (fun r71 uu H locs hr71 hw => ?_)
                subst hr71
                have hw : WS D A s [(X, .inr (7, [.ref pa, .ref P, .ref ia, .ref iP, .int (nI kp), .ref T, .ref sa, .ref et, .ref Rn, .ref Ol])), (sa, .inl (Z 4, 4, .inr (.inr (.inr (.inr (rl [sh 0, sh 1, sh 2, sh 3])))))), (sh 0, .inr (4, [.int (nI (th 0)), .int (nI (la 0)), .int (nI (le 0)), .ref (it 0)])), (it 0, .inl (Z 1, 24, .inr (.inl (fs 0)))), (sh 1, .inr (4, [.int (nI (th 1)), .int (nI (la 1)), .int (nI (le 1)), .ref (it 1)])), (it 1, .inl (Z 1, 24, .inr (.inl (fs 1)))), (sh 3, .inr (4, [.int (nI (th 3)), .int (nI (la 3)), .int (nI (le 3)), .ref (it 3)])), (it 3, .inl (Z 1, 24, .inr (.inl (fs 3)))), ((sh 2), .inr (4, [.int (nI (th 2)), .int (nI (la 2)), .int (nI (le 2)), .ref (it 2)])), ((it 2), .inl (Z 1, 24, .inr (.inl (fs 2))))] H locs := hw
                refine q_if_eq (tgt := 90) hx hb ((bb (hol (le 2) i n) : Nat) : Int) (nI_toInt (Nat.lt_of_le_of_lt (bb_le _) (by decide))) dX7_copy_75 (by decide) (fun c72 => ?_) (fun c72 => ?_)
                · --
                  have c72 := bb_0 c72
                  have hq1 := c72
                  refine lv_bipush (v := (-13)) hx hb dX7_copy_90 (by decide) ?_
                  exact q_iret (wout := _) hx hb hr hlocks hAe hK fs (hw.sub [0, 1, 2, 3, 4, 5, 8, 9, 6, 7] (by decide) rfl) (⟨by unfold cyC; rw [if_neg (by omega), tnI ek]; (try rw [tnI em]); rw [if_neg (by omega), if_neg (by omega), if_neg (by first | exact fun h => hq1 h.1 | exact fun h => hq2 h.2)], Or.inl ⟨fun h => by unfold cyOk at h; rw [tnI ek] at h; (try rw [tnI em] at h); first | exact hq1 h.2.2.2.1 | exact hq2 h.2.2.2.2, rfl⟩⟩) dX7_copy_92
                · --
                  have c72 := bb_1 c72
                  have hq1 := c72
                  refine lv_aload hx hb dX7_copy_78 (lv_at hl 0 rfl) ?_
                  refine lv_iload hx hb dX7_copy_80 (lv_at hl 6 rfl) ?_
                  refine lv_iload hx hb dX7_copy_82 (lv_at hl 7 rfl) ?_
                  refine q_calli (S := Unit) (Z := Z) (D := D) (wc := [((sh 1), .inr (4, [.int (nI (th 1)), .int (nI (la 1)), .int (nI (le 1)), .ref (it 1)])), ((it 1), .inl (Z 1, 24, .inr (.inl (fs 1))))]) (wr := [(X, .inr (7, [.ref pa, .ref P, .ref ia, .ref iP, .int (nI kp), .ref T, .ref sa, .ref et, .ref Rn, .ref Ol])), (sa, .inl (Z 4, 4, .inr (.inr (.inr (.inr (rl [sh 0, sh 1, sh 2, sh 3])))))), (sh 0, .inr (4, [.int (nI (th 0)), .int (nI (la 0)), .int (nI (le 0)), .ref (it 0)])), (it 0, .inl (Z 1, 24, .inr (.inl (fs 0)))), (sh 3, .inr (4, [.int (nI (th 3)), .int (nI (la 3)), .int (nI (le 3)), .ref (it 3)])), (it 3, .inl (Z 1, 24, .inr (.inl (fs 3)))), ((sh 2), .inr (4, [.int (nI (th 2)), .int (nI (la 2)), .int (nI (le 2)), .ref (it 2)])), ((it 2), .inl (Z 1, 24, .inr (.inl (fs 2))))]) (rest := []) hw hA [4, 5] [0, 1, 2, 3, 6, 7, 8, 9] rfl rfl rfl rfl (by decide) (fun hPc hDc => va_runV (As := [.int j, .int n]) (rest := []) ⟨hx, hb, hml, hown, hts⟩ (c_X4_holds l D Z H.size (sh 1) (it 1) (th 1) (la 1) (le 1) (fs 1) j n (hle _)) (cwV 2 hts gX7_copy_X4_holds rfl rfl rfl (by decide +kernel) ⟨Nat.le_of_ble_eq_true rfl, Nat.le_of_ble_eq_true rfl⟩) ⟨fb_cPre, va_recv hK.1 hPc (ci := 4) (q0 := 0) rfl rfl, pre_of hPc hK hDc⟩ rfl rfl hl.1 rfl (lv_room (Nat.le_of_ble_eq_true rfl)) dX7_copy_84 ⟨Nat.le_of_ble_eq_true rfl, Nat.le_of_ble_eq_true rfl⟩) (fun r73 uu H locs hr73 hw => ?_)
                  subst hr73
                  have hw : WS D A s [(X, .inr (7, [.ref pa, .ref P, .ref ia, .ref iP, .int (nI kp), .ref T, .ref sa, .ref et, .ref Rn, .ref Ol])), (sa, .inl (Z 4, 4, .inr (.inr (.inr (.inr (rl [sh 0, sh 1, sh 2, sh 3])))))), (sh 0, .inr (4, [.int (nI (th 0)), .int (nI (la 0)), .int (nI (le 0)), .ref (it 0)])), (it 0, .inl (Z 1, 24, .inr (.inl (fs 0)))), (sh 3, .inr (4, [.int (nI (th 3)), .int (nI (la 3)), .int (nI (le 3)), .ref (it 3)])), (it 3, .inl (Z 1, 24, .inr (.inl (fs 3)))), ((sh 2), .inr (4, [.int (nI (th 2)), .int (nI (la 2)), .int (nI (le 2)), .ref (it 2)])), ((it 2), .inl (Z 1, 24, .inr (.inl (fs 2)))), ((sh 1), .inr (4, [.int (nI (th 1)), .int (nI (la 1)), .int (nI (le 1)), .ref (it 1)])), ((it 1), .inl (Z 1, 24, .inr (.inl (fs 1))))] H locs := hw
                  refine q_if_ne (tgt := 93) hx hb ((bb (hol (le 1) j n) : Nat) : Int) (nI_toInt (Nat.lt_of_le_of_lt (bb_le _) (by decide))) dX7_copy_87 (by decide) (fun c74 => ?_) (fun c74 => ?_)
                  · --
                    have c74 := bb_1 c74
                    have hq2 := c74
                    have e0 := hle 0
                    have e1 := hle 1
                    have e2 := hle 2
                    have e3 := hle 3
                    obtain ⟨x, rfl, ex⟩ := i32_nat (x := i) (by omega)
                    obtain ⟨y, rfl, ey⟩ := i32_nat (x := j) (by omega)
                    obtain ⟨v, rfl, ev⟩ := i32_nat (x := n) (by omega)
                    refine lv_aload hx hb dX7_copy_93 (lv_at hl 1 rfl) ?_
                    refine q_get (v := .ref (it 2)) (ci := 4) hx hb hts in_X4 hown hK hw 6 3 wd4 dX7_copy_95 rfl rfl (by decide) rfl ?_
                    refine lv_iload_n hx hb dX7_copy_98 rfl (lv_at hl 4 rfl) ?_
                    refine lv_aload hx hb dX7_copy_99 (lv_at hl 0 rfl) ?_
                    refine q_get (v := .ref (it 1)) (ci := 4) hx hb hts in_X4 hown hK hw 8 3 wd4 dX7_copy_101 rfl rfl (by decide) rfl ?_
                    refine lv_iload hx hb dX7_copy_104 (lv_at hl 6 rfl) ?_
                    refine lv_iload hx hb dX7_copy_106 (lv_at hl 7 rfl) ?_
                    refine q_copyl hx hb (by rw [hml]; exact hl.1.symm) hown wd5 wd6 wd7 wd8 hK hw 7 9 (by omega) (by omega) (by omega) (by omega) (by omega) (Nat.le_of_ble_eq_true rfl) (by decide +kernel) dX7_copy_108 rfl rfl (fun H locs hw => ?_)
                    have hw : WS D A s [(X, .inr (7, [.ref pa, .ref P, .ref ia, .ref iP, .int (nI kp), .ref T, .ref sa, .ref et, .ref Rn, .ref Ol])), (sa, .inl (Z 4, 4, .inr (.inr (.inr (.inr (rl [sh 0, sh 1, sh 2, sh 3])))))), (sh 0, .inr (4, [.int (nI (th 0)), .int (nI (la 0)), .int (nI (le 0)), .ref (it 0)])), (it 0, .inl (Z 1, 24, .inr (.inl (fs 0)))), (sh 3, .inr (4, [.int (nI (th 3)), .int (nI (la 3)), .int (nI (le 3)), .ref (it 3)])), (it 3, .inl (Z 1, 24, .inr (.inl (fs 3)))), ((sh 2), .inr (4, [.int (nI (th 2)), .int (nI (la 2)), .int (nI (le 2)), .ref (it 2)])), ((it 2), .inl (Z 1, 24, .inr (.inl (fs 2)))), ((sh 1), .inr (4, [.int (nI (th 1)), .int (nI (la 1)), .int (nI (le 1)), .ref (it 1)])), ((it 1), .inl (Z 1, 24, .inr (.inl (va_cpy (fs 2) (fs 1) x y v))))] H locs := hw
                    refine lv_iload hx hb dX7_copy_111 (lv_at hl 7 rfl) ?_
                    exact q_iret (wout := _) hx hb hr hlocks hAe hK (va_up fs 1 (va_cpy (fs 2) (fs 1) x y v)) (hw.sub [0, 1, 2, 3, 8, 9, 6, 7, 4, 5] (by decide) rfl) (⟨by unfold cyC; rw [if_neg (by omega), tnI ek]; (try rw [tnI em]); rw [if_neg (by omega), if_neg (by omega), if_pos ⟨hq1, hq2⟩], Or.inr ⟨by unfold cyOk; rw [tnI ek]; (try rw [tnI em]); exact ⟨by omega, by omega, by omega, hq1, hq2⟩, by rw [tnI ek]; (try rw [tnI em]); rw [tnI ex, tnI ey, tnI ev]⟩⟩) dX7_copy_113
                  · --
                    have c74 := bb_0 c74
                    have hq2 := c74
                    refine lv_bipush (v := (-13)) hx hb dX7_copy_90 (by decide) ?_
                    exact q_iret (wout := _) hx hb hr hlocks hAe hK fs (hw.sub [0, 1, 2, 3, 8, 9, 6, 7, 4, 5] (by decide) rfl) (⟨by unfold cyC; rw [if_neg (by omega), tnI ek]; (try rw [tnI em]); rw [if_neg (by omega), if_neg (by omega), if_neg (by first | exact fun h => hq1 h.1 | exact fun h => hq2 h.2)], Or.inl ⟨fun h => by unfold cyOk at h; rw [tnI ek] at h; (try rw [tnI em] at h); first | exact hq1 h.2.2.2.1 | exact hq2 h.2.2.2.2, rfl⟩⟩) dX7_copy_92
              · --
                refine lv_bipush (v := (-12)) hx hb dX7_copy_64 (by decide) ?_
                exact q_iret (wout := _) hx hb hr hlocks hAe hK fs hw (⟨by unfold cyC; rw [if_neg (by omega), tnI ek]; (try rw [tnI em]); rw [if_neg (by omega), if_pos (by omega)], Or.inl ⟨fun h => by unfold cyOk at h; rw [tnI ek] at h; (try rw [tnI em] at h); omega, rfl⟩⟩) dX7_copy_66
            · --
              refine lv_bipush (v := (-11)) hx hb dX7_copy_48 (by decide) ?_
              exact q_iret (wout := _) hx hb hr hlocks hAe hK fs hw (⟨by unfold cyC; rw [if_neg (by omega), tnI ek]; (try rw [tnI em]); rw [if_pos (by omega)], Or.inl ⟨fun h => by unfold cyOk at h; rw [tnI ek] at h; (try rw [tnI em] at h); omega, rfl⟩⟩) dX7_copy_50
        · --
          refine lv_iload_n hx hb dX7_copy_28 rfl (lv_at hl 4 rfl) ?_
          refine q_aald (b := sh 2) hx hb hK hw 1 4 (by omega) (by omega) rfl dX7_copy_29 rfl rfl ?_
          refine lv_astore (lv' := [(7, .ref (sh 2)), (6, .ref (sh 2)), (0, .ref X), (1, .int (nI 2)), (2, .int i), (3, .int (nI 2)), (4, .int j), (5, .int n)]) hx hb dX7_copy_30 hl (by decide) rfl (fun ls hl => ?_)
          refine lv_aload hx hb dX7_copy_32 (lv_at hl 1 rfl) ?_
          have t0' := hth 0
          have t1' := hth 1
          have t2' := hth 2
          have t3' := hth 3
          have l0' := hla 0
          have l1' := hla 1
          have l2' := hla 2
          have l3' := hla 3
          refine q_get (v := .int (nI (th 2))) (ci := 4) hx hb hts in_X4 hown hK hw 6 0 wd2 dX7_copy_34 rfl rfl (by decide) rfl ?_
          refine q_if_eq (tgt := 48) hx hb ((th 2 : Nat) : Int) (nI_toInt (by omega)) dX7_copy_37 (by decide) (fun c75 => ?_) (fun c75 => ?_)
          · --
            refine lv_bipush (v := (-11)) hx hb dX7_copy_48 (by decide) ?_
            exact q_iret (wout := _) hx hb hr hlocks hAe hK fs hw (⟨by unfold cyC; rw [if_neg (by omega), tnI ek]; (try rw [tnI em]); rw [if_pos (by omega)], Or.inl ⟨fun h => by unfold cyOk at h; rw [tnI ek] at h; (try rw [tnI em] at h); omega, rfl⟩⟩) dX7_copy_50
          · --
            refine lv_aload hx hb dX7_copy_40 (lv_at hl 0 rfl) ?_
            refine q_get (v := .int (nI (th 2))) (ci := 4) hx hb hts in_X4 hown hK hw 6 0 wd2 dX7_copy_42 rfl rfl (by decide) rfl ?_
            refine q_if_ne (tgt := 51) hx hb ((th 2 : Nat) : Int) (nI_toInt (by omega)) dX7_copy_45 (by decide) (fun c76 => ?_) (fun c76 => ?_)
            · --
              refine lv_aload hx hb dX7_copy_51 (lv_at hl 1 rfl) ?_
              refine q_get (v := .int (nI (la 2))) (ci := 4) hx hb hts in_X4 hown hK hw 6 1 wd3 dX7_copy_53 rfl rfl (by decide) rfl ?_
              refine lv_aload hx hb dX7_copy_56 (lv_at hl 0 rfl) ?_
              refine q_get (v := .int (nI (la 2))) (ci := 4) hx hb hts in_X4 hown hK hw 6 1 wd3 dX7_copy_58 rfl rfl (by decide) rfl ?_
              refine q_icmp_eq (tgt := 67) hx hb ((la 2 : Nat) : Int) ((la 2 : Nat) : Int) (nI_toInt (by omega)) (nI_toInt (by omega)) dX7_copy_61 (by decide) (fun c77 => ?_) (fun c77 => ?_)
              · --
                refine lv_aload hx hb dX7_copy_67 (lv_at hl 1 rfl) ?_
                refine lv_iload_n hx hb dX7_copy_69 rfl (lv_at hl 4 rfl) ?_
                refine lv_iload hx hb dX7_copy_70 (lv_at hl 7 rfl) ?_
                refine q_calli (S := Unit) (Z := Z) (D := D) (wc := [((sh 2), .inr (4, [.int (nI (th 2)), .int (nI (la 2)), .int (nI (le 2)), .ref (it 2)])), ((it 2), .inl (Z 1, 24, .inr (.inl (fs 2))))]) (wr := [(X, .inr (7, [.ref pa, .ref P, .ref ia, .ref iP, .int (nI kp), .ref T, .ref sa, .ref et, .ref Rn, .ref Ol])), (sa, .inl (Z 4, 4, .inr (.inr (.inr (.inr (rl [sh 0, sh 1, sh 2, sh 3])))))), (sh 0, .inr (4, [.int (nI (th 0)), .int (nI (la 0)), .int (nI (le 0)), .ref (it 0)])), (it 0, .inl (Z 1, 24, .inr (.inl (fs 0)))), (sh 1, .inr (4, [.int (nI (th 1)), .int (nI (la 1)), .int (nI (le 1)), .ref (it 1)])), (it 1, .inl (Z 1, 24, .inr (.inl (fs 1)))), (sh 3, .inr (4, [.int (nI (th 3)), .int (nI (la 3)), .int (nI (le 3)), .ref (it 3)])), (it 3, .inl (Z 1, 24, .inr (.inl (fs 3))))]) (rest := []) hw hA [6, 7] [0, 1, 2, 3, 4, 5, 8, 9] rfl rfl rfl rfl (by decide) (fun hPc hDc => va_runV (As := [.int i, .int n]) (rest := []) ⟨hx, hb, hml, hown, hts⟩ (c_X4_holds l D Z H.size (sh 2) (it 2) (th 2) (la 2) (le 2) (fs 2) i n (hle _)) (cwV 2 hts gX7_copy_X4_holds rfl rfl rfl (by decide +kernel) ⟨Nat.le_of_ble_eq_true rfl, Nat.le_of_ble_eq_true rfl⟩) ⟨fb_cPre, va_recv hK.1 hPc (ci := 4) (q0 := 0) rfl rfl, pre_of hPc hK hDc⟩ rfl rfl hl.1 rfl (lv_room (Nat.le_of_ble_eq_true rfl)) dX7_copy_72 ⟨Nat.le_of_ble_eq_true rfl, Nat.le_of_ble_eq_true rfl⟩) (fun r78 uu H locs hr78 hw => ?_)
                subst hr78
                have hw : WS D A s [(X, .inr (7, [.ref pa, .ref P, .ref ia, .ref iP, .int (nI kp), .ref T, .ref sa, .ref et, .ref Rn, .ref Ol])), (sa, .inl (Z 4, 4, .inr (.inr (.inr (.inr (rl [sh 0, sh 1, sh 2, sh 3])))))), (sh 0, .inr (4, [.int (nI (th 0)), .int (nI (la 0)), .int (nI (le 0)), .ref (it 0)])), (it 0, .inl (Z 1, 24, .inr (.inl (fs 0)))), (sh 1, .inr (4, [.int (nI (th 1)), .int (nI (la 1)), .int (nI (le 1)), .ref (it 1)])), (it 1, .inl (Z 1, 24, .inr (.inl (fs 1)))), (sh 3, .inr (4, [.int (nI (th 3)), .int (nI (la 3)), .int (nI (le 3)), .ref (it 3)])), (it 3, .inl (Z 1, 24, .inr (.inl (fs 3)))), ((sh 2), .inr (4, [.int (nI (th 2)), .int (nI (la 2)), .int (nI (le 2)), .ref (it 2)])), ((it 2), .inl (Z 1, 24, .inr (.inl (fs 2))))] H locs := hw
                refine q_if_eq (tgt := 90) hx hb ((bb (hol (le 2) i n) : Nat) : Int) (nI_toInt (Nat.lt_of_le_of_lt (bb_le _) (by decide))) dX7_copy_75 (by decide) (fun c79 => ?_) (fun c79 => ?_)
                · --
                  have c79 := bb_0 c79
                  have hq1 := c79
                  refine lv_bipush (v := (-13)) hx hb dX7_copy_90 (by decide) ?_
                  exact q_iret (wout := _) hx hb hr hlocks hAe hK fs (hw.sub [0, 1, 2, 3, 4, 5, 8, 9, 6, 7] (by decide) rfl) (⟨by unfold cyC; rw [if_neg (by omega), tnI ek]; (try rw [tnI em]); rw [if_neg (by omega), if_neg (by omega), if_neg (by first | exact fun h => hq1 h.1 | exact fun h => hq2 h.2)], Or.inl ⟨fun h => by unfold cyOk at h; rw [tnI ek] at h; (try rw [tnI em] at h); first | exact hq1 h.2.2.2.1 | exact hq2 h.2.2.2.2, rfl⟩⟩) dX7_copy_92
                · --
                  have c79 := bb_1 c79
                  have hq1 := c79
                  refine lv_aload hx hb dX7_copy_78 (lv_at hl 0 rfl) ?_
                  refine lv_iload hx hb dX7_copy_80 (lv_at hl 6 rfl) ?_
                  refine lv_iload hx hb dX7_copy_82 (lv_at hl 7 rfl) ?_
                  refine q_calli (S := Unit) (Z := Z) (D := D) (wc := [((sh 2), .inr (4, [.int (nI (th 2)), .int (nI (la 2)), .int (nI (le 2)), .ref (it 2)])), ((it 2), .inl (Z 1, 24, .inr (.inl (fs 2))))]) (wr := [(X, .inr (7, [.ref pa, .ref P, .ref ia, .ref iP, .int (nI kp), .ref T, .ref sa, .ref et, .ref Rn, .ref Ol])), (sa, .inl (Z 4, 4, .inr (.inr (.inr (.inr (rl [sh 0, sh 1, sh 2, sh 3])))))), (sh 0, .inr (4, [.int (nI (th 0)), .int (nI (la 0)), .int (nI (le 0)), .ref (it 0)])), (it 0, .inl (Z 1, 24, .inr (.inl (fs 0)))), (sh 1, .inr (4, [.int (nI (th 1)), .int (nI (la 1)), .int (nI (le 1)), .ref (it 1)])), (it 1, .inl (Z 1, 24, .inr (.inl (fs 1)))), (sh 3, .inr (4, [.int (nI (th 3)), .int (nI (la 3)), .int (nI (le 3)), .ref (it 3)])), (it 3, .inl (Z 1, 24, .inr (.inl (fs 3))))]) (rest := []) hw hA [8, 9] [0, 1, 2, 3, 4, 5, 6, 7] rfl rfl rfl rfl (by decide) (fun hPc hDc => va_runV (As := [.int j, .int n]) (rest := []) ⟨hx, hb, hml, hown, hts⟩ (c_X4_holds l D Z H.size (sh 2) (it 2) (th 2) (la 2) (le 2) (fs 2) j n (hle _)) (cwV 2 hts gX7_copy_X4_holds rfl rfl rfl (by decide +kernel) ⟨Nat.le_of_ble_eq_true rfl, Nat.le_of_ble_eq_true rfl⟩) ⟨fb_cPre, va_recv hK.1 hPc (ci := 4) (q0 := 0) rfl rfl, pre_of hPc hK hDc⟩ rfl rfl hl.1 rfl (lv_room (Nat.le_of_ble_eq_true rfl)) dX7_copy_84 ⟨Nat.le_of_ble_eq_true rfl, Nat.le_of_ble_eq_true rfl⟩) (fun r80 uu H locs hr80 hw => ?_)
                  subst hr80
                  have hw : WS D A s [(X, .inr (7, [.ref pa, .ref P, .ref ia, .ref iP, .int (nI kp), .ref T, .ref sa, .ref et, .ref Rn, .ref Ol])), (sa, .inl (Z 4, 4, .inr (.inr (.inr (.inr (rl [sh 0, sh 1, sh 2, sh 3])))))), (sh 0, .inr (4, [.int (nI (th 0)), .int (nI (la 0)), .int (nI (le 0)), .ref (it 0)])), (it 0, .inl (Z 1, 24, .inr (.inl (fs 0)))), (sh 1, .inr (4, [.int (nI (th 1)), .int (nI (la 1)), .int (nI (le 1)), .ref (it 1)])), (it 1, .inl (Z 1, 24, .inr (.inl (fs 1)))), (sh 3, .inr (4, [.int (nI (th 3)), .int (nI (la 3)), .int (nI (le 3)), .ref (it 3)])), (it 3, .inl (Z 1, 24, .inr (.inl (fs 3)))), ((sh 2), .inr (4, [.int (nI (th 2)), .int (nI (la 2)), .int (nI (le 2)), .ref (it 2)])), ((it 2), .inl (Z 1, 24, .inr (.inl (fs 2))))] H locs := hw
                  refine q_if_ne (tgt := 93) hx hb ((bb (hol (le 2) j n) : Nat) : Int) (nI_toInt (Nat.lt_of_le_of_lt (bb_le _) (by decide))) dX7_copy_87 (by decide) (fun c81 => ?_) (fun c81 => ?_)
                  · --
                    have c81 := bb_1 c81
                    have hq2 := c81
                    have e0 := hle 0
                    have e1 := hle 1
                    have e2 := hle 2
                    have e3 := hle 3
                    obtain ⟨x, rfl, ex⟩ := i32_nat (x := i) (by omega)
                    obtain ⟨y, rfl, ey⟩ := i32_nat (x := j) (by omega)
                    obtain ⟨v, rfl, ev⟩ := i32_nat (x := n) (by omega)
                    refine lv_aload hx hb dX7_copy_93 (lv_at hl 1 rfl) ?_
                    refine q_get (v := .ref (it 2)) (ci := 4) hx hb hts in_X4 hown hK hw 8 3 wd4 dX7_copy_95 rfl rfl (by decide) rfl ?_
                    refine lv_iload_n hx hb dX7_copy_98 rfl (lv_at hl 4 rfl) ?_
                    refine lv_aload hx hb dX7_copy_99 (lv_at hl 0 rfl) ?_
                    refine q_get (v := .ref (it 2)) (ci := 4) hx hb hts in_X4 hown hK hw 8 3 wd4 dX7_copy_101 rfl rfl (by decide) rfl ?_
                    refine lv_iload hx hb dX7_copy_104 (lv_at hl 6 rfl) ?_
                    refine lv_iload hx hb dX7_copy_106 (lv_at hl 7 rfl) ?_
                    refine q_copyl hx hb (by rw [hml]; exact hl.1.symm) hown wd5 wd6 wd7 wd8 hK hw 9 9 (by omega) (by omega) (by omega) (by omega) (by omega) (Nat.le_of_ble_eq_true rfl) (by decide +kernel) dX7_copy_108 rfl rfl (fun H locs hw => ?_)
                    have hw : WS D A s [(X, .inr (7, [.ref pa, .ref P, .ref ia, .ref iP, .int (nI kp), .ref T, .ref sa, .ref et, .ref Rn, .ref Ol])), (sa, .inl (Z 4, 4, .inr (.inr (.inr (.inr (rl [sh 0, sh 1, sh 2, sh 3])))))), (sh 0, .inr (4, [.int (nI (th 0)), .int (nI (la 0)), .int (nI (le 0)), .ref (it 0)])), (it 0, .inl (Z 1, 24, .inr (.inl (fs 0)))), (sh 1, .inr (4, [.int (nI (th 1)), .int (nI (la 1)), .int (nI (le 1)), .ref (it 1)])), (it 1, .inl (Z 1, 24, .inr (.inl (fs 1)))), (sh 3, .inr (4, [.int (nI (th 3)), .int (nI (la 3)), .int (nI (le 3)), .ref (it 3)])), (it 3, .inl (Z 1, 24, .inr (.inl (fs 3)))), ((sh 2), .inr (4, [.int (nI (th 2)), .int (nI (la 2)), .int (nI (le 2)), .ref (it 2)])), ((it 2), .inl (Z 1, 24, .inr (.inl (va_cpy (fs 2) (fs 2) x y v))))] H locs := hw
                    refine lv_iload hx hb dX7_copy_111 (lv_at hl 7 rfl) ?_
                    exact q_iret (wout := _) hx hb hr hlocks hAe hK (va_up fs 2 (va_cpy (fs 2) (fs 2) x y v)) (hw.sub [0, 1, 2, 3, 4, 5, 8, 9, 6, 7] (by decide) rfl) (⟨by unfold cyC; rw [if_neg (by omega), tnI ek]; (try rw [tnI em]); rw [if_neg (by omega), if_neg (by omega), if_pos ⟨hq1, hq2⟩], Or.inr ⟨by unfold cyOk; rw [tnI ek]; (try rw [tnI em]); exact ⟨by omega, by omega, by omega, hq1, hq2⟩, by rw [tnI ek]; (try rw [tnI em]); rw [tnI ex, tnI ey, tnI ev]⟩⟩) dX7_copy_113
                  · --
                    have c81 := bb_0 c81
                    have hq2 := c81
                    refine lv_bipush (v := (-13)) hx hb dX7_copy_90 (by decide) ?_
                    exact q_iret (wout := _) hx hb hr hlocks hAe hK fs (hw.sub [0, 1, 2, 3, 4, 5, 8, 9, 6, 7] (by decide) rfl) (⟨by unfold cyC; rw [if_neg (by omega), tnI ek]; (try rw [tnI em]); rw [if_neg (by omega), if_neg (by omega), if_neg (by first | exact fun h => hq1 h.1 | exact fun h => hq2 h.2)], Or.inl ⟨fun h => by unfold cyOk at h; rw [tnI ek] at h; (try rw [tnI em] at h); first | exact hq1 h.2.2.2.1 | exact hq2 h.2.2.2.2, rfl⟩⟩) dX7_copy_92
              · --
                refine lv_bipush (v := (-12)) hx hb dX7_copy_64 (by decide) ?_
                exact q_iret (wout := _) hx hb hr hlocks hAe hK fs hw (⟨by unfold cyC; rw [if_neg (by omega), tnI ek]; (try rw [tnI em]); rw [if_neg (by omega), if_pos (by omega)], Or.inl ⟨fun h => by unfold cyOk at h; rw [tnI ek] at h; (try rw [tnI em] at h); omega, rfl⟩⟩) dX7_copy_66
            · --
              refine lv_bipush (v := (-11)) hx hb dX7_copy_48 (by decide) ?_
              exact q_iret (wout := _) hx hb hr hlocks hAe hK fs hw (⟨by unfold cyC; rw [if_neg (by omega), tnI ek]; (try rw [tnI em]); rw [if_pos (by omega)], Or.inl ⟨fun h => by unfold cyOk at h; rw [tnI ek] at h; (try rw [tnI em] at h); omega, rfl⟩⟩) dX7_copy_50
        · --
          refine lv_iload_n hx hb dX7_copy_28 rfl (lv_at hl 4 rfl) ?_
          refine q_aald (b := sh 3) hx hb hK hw 1 4 (by omega) (by omega) rfl dX7_copy_29 rfl rfl ?_
          refine lv_astore (lv' := [(7, .ref (sh 3)), (6, .ref (sh 2)), (0, .ref X), (1, .int (nI 2)), (2, .int i), (3, .int (nI 3)), (4, .int j), (5, .int n)]) hx hb dX7_copy_30 hl (by decide) rfl (fun ls hl => ?_)
          refine lv_aload hx hb dX7_copy_32 (lv_at hl 1 rfl) ?_
          have t0' := hth 0
          have t1' := hth 1
          have t2' := hth 2
          have t3' := hth 3
          have l0' := hla 0
          have l1' := hla 1
          have l2' := hla 2
          have l3' := hla 3
          refine q_get (v := .int (nI (th 2))) (ci := 4) hx hb hts in_X4 hown hK hw 6 0 wd2 dX7_copy_34 rfl rfl (by decide) rfl ?_
          refine q_if_eq (tgt := 48) hx hb ((th 2 : Nat) : Int) (nI_toInt (by omega)) dX7_copy_37 (by decide) (fun c82 => ?_) (fun c82 => ?_)
          · --
            refine lv_bipush (v := (-11)) hx hb dX7_copy_48 (by decide) ?_
            exact q_iret (wout := _) hx hb hr hlocks hAe hK fs hw (⟨by unfold cyC; rw [if_neg (by omega), tnI ek]; (try rw [tnI em]); rw [if_pos (by omega)], Or.inl ⟨fun h => by unfold cyOk at h; rw [tnI ek] at h; (try rw [tnI em] at h); omega, rfl⟩⟩) dX7_copy_50
          · --
            refine lv_aload hx hb dX7_copy_40 (lv_at hl 0 rfl) ?_
            refine q_get (v := .int (nI (th 3))) (ci := 4) hx hb hts in_X4 hown hK hw 8 0 wd2 dX7_copy_42 rfl rfl (by decide) rfl ?_
            refine q_if_ne (tgt := 51) hx hb ((th 3 : Nat) : Int) (nI_toInt (by omega)) dX7_copy_45 (by decide) (fun c83 => ?_) (fun c83 => ?_)
            · --
              refine lv_aload hx hb dX7_copy_51 (lv_at hl 1 rfl) ?_
              refine q_get (v := .int (nI (la 2))) (ci := 4) hx hb hts in_X4 hown hK hw 6 1 wd3 dX7_copy_53 rfl rfl (by decide) rfl ?_
              refine lv_aload hx hb dX7_copy_56 (lv_at hl 0 rfl) ?_
              refine q_get (v := .int (nI (la 3))) (ci := 4) hx hb hts in_X4 hown hK hw 8 1 wd3 dX7_copy_58 rfl rfl (by decide) rfl ?_
              refine q_icmp_eq (tgt := 67) hx hb ((la 2 : Nat) : Int) ((la 3 : Nat) : Int) (nI_toInt (by omega)) (nI_toInt (by omega)) dX7_copy_61 (by decide) (fun c84 => ?_) (fun c84 => ?_)
              · --
                refine lv_aload hx hb dX7_copy_67 (lv_at hl 1 rfl) ?_
                refine lv_iload_n hx hb dX7_copy_69 rfl (lv_at hl 4 rfl) ?_
                refine lv_iload hx hb dX7_copy_70 (lv_at hl 7 rfl) ?_
                refine q_calli (S := Unit) (Z := Z) (D := D) (wc := [((sh 2), .inr (4, [.int (nI (th 2)), .int (nI (la 2)), .int (nI (le 2)), .ref (it 2)])), ((it 2), .inl (Z 1, 24, .inr (.inl (fs 2))))]) (wr := [(X, .inr (7, [.ref pa, .ref P, .ref ia, .ref iP, .int (nI kp), .ref T, .ref sa, .ref et, .ref Rn, .ref Ol])), (sa, .inl (Z 4, 4, .inr (.inr (.inr (.inr (rl [sh 0, sh 1, sh 2, sh 3])))))), (sh 0, .inr (4, [.int (nI (th 0)), .int (nI (la 0)), .int (nI (le 0)), .ref (it 0)])), (it 0, .inl (Z 1, 24, .inr (.inl (fs 0)))), (sh 1, .inr (4, [.int (nI (th 1)), .int (nI (la 1)), .int (nI (le 1)), .ref (it 1)])), (it 1, .inl (Z 1, 24, .inr (.inl (fs 1)))), (sh 3, .inr (4, [.int (nI (th 3)), .int (nI (la 3)), .int (nI (le 3)), .ref (it 3)])), (it 3, .inl (Z 1, 24, .inr (.inl (fs 3))))]) (rest := []) hw hA [6, 7] [0, 1, 2, 3, 4, 5, 8, 9] rfl rfl rfl rfl (by decide) (fun hPc hDc => va_runV (As := [.int i, .int n]) (rest := []) ⟨hx, hb, hml, hown, hts⟩ (c_X4_holds l D Z H.size (sh 2) (it 2) (th 2) (la 2) (le 2) (fs 2) i n (hle _)) (cwV 2 hts gX7_copy_X4_holds rfl rfl rfl (by decide +kernel) ⟨Nat.le_of_ble_eq_true rfl, Nat.le_of_ble_eq_true rfl⟩) ⟨fb_cPre, va_recv hK.1 hPc (ci := 4) (q0 := 0) rfl rfl, pre_of hPc hK hDc⟩ rfl rfl hl.1 rfl (lv_room (Nat.le_of_ble_eq_true rfl)) dX7_copy_72 ⟨Nat.le_of_ble_eq_true rfl, Nat.le_of_ble_eq_true rfl⟩) (fun r85 uu H locs hr85 hw => ?_)
                subst hr85
                have hw : WS D A s [(X, .inr (7, [.ref pa, .ref P, .ref ia, .ref iP, .int (nI kp), .ref T, .ref sa, .ref et, .ref Rn, .ref Ol])), (sa, .inl (Z 4, 4, .inr (.inr (.inr (.inr (rl [sh 0, sh 1, sh 2, sh 3])))))), (sh 0, .inr (4, [.int (nI (th 0)), .int (nI (la 0)), .int (nI (le 0)), .ref (it 0)])), (it 0, .inl (Z 1, 24, .inr (.inl (fs 0)))), (sh 1, .inr (4, [.int (nI (th 1)), .int (nI (la 1)), .int (nI (le 1)), .ref (it 1)])), (it 1, .inl (Z 1, 24, .inr (.inl (fs 1)))), (sh 3, .inr (4, [.int (nI (th 3)), .int (nI (la 3)), .int (nI (le 3)), .ref (it 3)])), (it 3, .inl (Z 1, 24, .inr (.inl (fs 3)))), ((sh 2), .inr (4, [.int (nI (th 2)), .int (nI (la 2)), .int (nI (le 2)), .ref (it 2)])), ((it 2), .inl (Z 1, 24, .inr (.inl (fs 2))))] H locs := hw
                refine q_if_eq (tgt := 90) hx hb ((bb (hol (le 2) i n) : Nat) : Int) (nI_toInt (Nat.lt_of_le_of_lt (bb_le _) (by decide))) dX7_copy_75 (by decide) (fun c86 => ?_) (fun c86 => ?_)
                · --
                  have c86 := bb_0 c86
                  have hq1 := c86
                  refine lv_bipush (v := (-13)) hx hb dX7_copy_90 (by decide) ?_
                  exact q_iret (wout := _) hx hb hr hlocks hAe hK fs (hw.sub [0, 1, 2, 3, 4, 5, 8, 9, 6, 7] (by decide) rfl) (⟨by unfold cyC; rw [if_neg (by omega), tnI ek]; (try rw [tnI em]); rw [if_neg (by omega), if_neg (by omega), if_neg (by first | exact fun h => hq1 h.1 | exact fun h => hq2 h.2)], Or.inl ⟨fun h => by unfold cyOk at h; rw [tnI ek] at h; (try rw [tnI em] at h); first | exact hq1 h.2.2.2.1 | exact hq2 h.2.2.2.2, rfl⟩⟩) dX7_copy_92
                · --
                  have c86 := bb_1 c86
                  have hq1 := c86
                  refine lv_aload hx hb dX7_copy_78 (lv_at hl 0 rfl) ?_
                  refine lv_iload hx hb dX7_copy_80 (lv_at hl 6 rfl) ?_
                  refine lv_iload hx hb dX7_copy_82 (lv_at hl 7 rfl) ?_
                  refine q_calli (S := Unit) (Z := Z) (D := D) (wc := [((sh 3), .inr (4, [.int (nI (th 3)), .int (nI (la 3)), .int (nI (le 3)), .ref (it 3)])), ((it 3), .inl (Z 1, 24, .inr (.inl (fs 3))))]) (wr := [(X, .inr (7, [.ref pa, .ref P, .ref ia, .ref iP, .int (nI kp), .ref T, .ref sa, .ref et, .ref Rn, .ref Ol])), (sa, .inl (Z 4, 4, .inr (.inr (.inr (.inr (rl [sh 0, sh 1, sh 2, sh 3])))))), (sh 0, .inr (4, [.int (nI (th 0)), .int (nI (la 0)), .int (nI (le 0)), .ref (it 0)])), (it 0, .inl (Z 1, 24, .inr (.inl (fs 0)))), (sh 1, .inr (4, [.int (nI (th 1)), .int (nI (la 1)), .int (nI (le 1)), .ref (it 1)])), (it 1, .inl (Z 1, 24, .inr (.inl (fs 1)))), ((sh 2), .inr (4, [.int (nI (th 2)), .int (nI (la 2)), .int (nI (le 2)), .ref (it 2)])), ((it 2), .inl (Z 1, 24, .inr (.inl (fs 2))))]) (rest := []) hw hA [6, 7] [0, 1, 2, 3, 4, 5, 8, 9] rfl rfl rfl rfl (by decide) (fun hPc hDc => va_runV (As := [.int j, .int n]) (rest := []) ⟨hx, hb, hml, hown, hts⟩ (c_X4_holds l D Z H.size (sh 3) (it 3) (th 3) (la 3) (le 3) (fs 3) j n (hle _)) (cwV 2 hts gX7_copy_X4_holds rfl rfl rfl (by decide +kernel) ⟨Nat.le_of_ble_eq_true rfl, Nat.le_of_ble_eq_true rfl⟩) ⟨fb_cPre, va_recv hK.1 hPc (ci := 4) (q0 := 0) rfl rfl, pre_of hPc hK hDc⟩ rfl rfl hl.1 rfl (lv_room (Nat.le_of_ble_eq_true rfl)) dX7_copy_84 ⟨Nat.le_of_ble_eq_true rfl, Nat.le_of_ble_eq_true rfl⟩) (fun r87 uu H locs hr87 hw => ?_)
                  subst hr87
                  have hw : WS D A s [(X, .inr (7, [.ref pa, .ref P, .ref ia, .ref iP, .int (nI kp), .ref T, .ref sa, .ref et, .ref Rn, .ref Ol])), (sa, .inl (Z 4, 4, .inr (.inr (.inr (.inr (rl [sh 0, sh 1, sh 2, sh 3])))))), (sh 0, .inr (4, [.int (nI (th 0)), .int (nI (la 0)), .int (nI (le 0)), .ref (it 0)])), (it 0, .inl (Z 1, 24, .inr (.inl (fs 0)))), (sh 1, .inr (4, [.int (nI (th 1)), .int (nI (la 1)), .int (nI (le 1)), .ref (it 1)])), (it 1, .inl (Z 1, 24, .inr (.inl (fs 1)))), ((sh 2), .inr (4, [.int (nI (th 2)), .int (nI (la 2)), .int (nI (le 2)), .ref (it 2)])), ((it 2), .inl (Z 1, 24, .inr (.inl (fs 2)))), ((sh 3), .inr (4, [.int (nI (th 3)), .int (nI (la 3)), .int (nI (le 3)), .ref (it 3)])), ((it 3), .inl (Z 1, 24, .inr (.inl (fs 3))))] H locs := hw
                  refine q_if_ne (tgt := 93) hx hb ((bb (hol (le 3) j n) : Nat) : Int) (nI_toInt (Nat.lt_of_le_of_lt (bb_le _) (by decide))) dX7_copy_87 (by decide) (fun c88 => ?_) (fun c88 => ?_)
                  · --
                    have c88 := bb_1 c88
                    have hq2 := c88
                    have e0 := hle 0
                    have e1 := hle 1
                    have e2 := hle 2
                    have e3 := hle 3
                    obtain ⟨x, rfl, ex⟩ := i32_nat (x := i) (by omega)
                    obtain ⟨y, rfl, ey⟩ := i32_nat (x := j) (by omega)
                    obtain ⟨v, rfl, ev⟩ := i32_nat (x := n) (by omega)
                    refine lv_aload hx hb dX7_copy_93 (lv_at hl 1 rfl) ?_
                    refine q_get (v := .ref (it 2)) (ci := 4) hx hb hts in_X4 hown hK hw 6 3 wd4 dX7_copy_95 rfl rfl (by decide) rfl ?_
                    refine lv_iload_n hx hb dX7_copy_98 rfl (lv_at hl 4 rfl) ?_
                    refine lv_aload hx hb dX7_copy_99 (lv_at hl 0 rfl) ?_
                    refine q_get (v := .ref (it 3)) (ci := 4) hx hb hts in_X4 hown hK hw 8 3 wd4 dX7_copy_101 rfl rfl (by decide) rfl ?_
                    refine lv_iload hx hb dX7_copy_104 (lv_at hl 6 rfl) ?_
                    refine lv_iload hx hb dX7_copy_106 (lv_at hl 7 rfl) ?_
                    refine q_copyl hx hb (by rw [hml]; exact hl.1.symm) hown wd5 wd6 wd7 wd8 hK hw 7 9 (by omega) (by omega) (by omega) (by omega) (by omega) (Nat.le_of_ble_eq_true rfl) (by decide +kernel) dX7_copy_108 rfl rfl (fun H locs hw => ?_)
                    have hw : WS D A s [(X, .inr (7, [.ref pa, .ref P, .ref ia, .ref iP, .int (nI kp), .ref T, .ref sa, .ref et, .ref Rn, .ref Ol])), (sa, .inl (Z 4, 4, .inr (.inr (.inr (.inr (rl [sh 0, sh 1, sh 2, sh 3])))))), (sh 0, .inr (4, [.int (nI (th 0)), .int (nI (la 0)), .int (nI (le 0)), .ref (it 0)])), (it 0, .inl (Z 1, 24, .inr (.inl (fs 0)))), (sh 1, .inr (4, [.int (nI (th 1)), .int (nI (la 1)), .int (nI (le 1)), .ref (it 1)])), (it 1, .inl (Z 1, 24, .inr (.inl (fs 1)))), ((sh 2), .inr (4, [.int (nI (th 2)), .int (nI (la 2)), .int (nI (le 2)), .ref (it 2)])), ((it 2), .inl (Z 1, 24, .inr (.inl (fs 2)))), ((sh 3), .inr (4, [.int (nI (th 3)), .int (nI (la 3)), .int (nI (le 3)), .ref (it 3)])), ((it 3), .inl (Z 1, 24, .inr (.inl (va_cpy (fs 2) (fs 3) x y v))))] H locs := hw
                    refine lv_iload hx hb dX7_copy_111 (lv_at hl 7 rfl) ?_
                    exact q_iret (wout := _) hx hb hr hlocks hAe hK (va_up fs 3 (va_cpy (fs 2) (fs 3) x y v)) hw (⟨by unfold cyC; rw [if_neg (by omega), tnI ek]; (try rw [tnI em]); rw [if_neg (by omega), if_neg (by omega), if_pos ⟨hq1, hq2⟩], Or.inr ⟨by unfold cyOk; rw [tnI ek]; (try rw [tnI em]); exact ⟨by omega, by omega, by omega, hq1, hq2⟩, by rw [tnI ek]; (try rw [tnI em]); rw [tnI ex, tnI ey, tnI ev]⟩⟩) dX7_copy_113
                  · --
                    have c88 := bb_0 c88
                    have hq2 := c88
                    refine lv_bipush (v := (-13)) hx hb dX7_copy_90 (by decide) ?_
                    exact q_iret (wout := _) hx hb hr hlocks hAe hK fs hw (⟨by unfold cyC; rw [if_neg (by omega), tnI ek]; (try rw [tnI em]); rw [if_neg (by omega), if_neg (by omega), if_neg (by first | exact fun h => hq1 h.1 | exact fun h => hq2 h.2)], Or.inl ⟨fun h => by unfold cyOk at h; rw [tnI ek] at h; (try rw [tnI em] at h); first | exact hq1 h.2.2.2.1 | exact hq2 h.2.2.2.2, rfl⟩⟩) dX7_copy_92
              · --
                refine lv_bipush (v := (-12)) hx hb dX7_copy_64 (by decide) ?_
                exact q_iret (wout := _) hx hb hr hlocks hAe hK fs hw (⟨by unfold cyC; rw [if_neg (by omega), tnI ek]; (try rw [tnI em]); rw [if_neg (by omega), if_pos (by omega)], Or.inl ⟨fun h => by unfold cyOk at h; rw [tnI ek] at h; (try rw [tnI em] at h); omega, rfl⟩⟩) dX7_copy_66
            · --
              refine lv_bipush (v := (-11)) hx hb dX7_copy_48 (by decide) ?_
              exact q_iret (wout := _) hx hb hr hlocks hAe hK fs hw (⟨by unfold cyC; rw [if_neg (by omega), tnI ek]; (try rw [tnI em]); rw [if_pos (by omega)], Or.inl ⟨fun h => by unfold cyOk at h; rw [tnI ek] at h; (try rw [tnI em] at h); omega, rfl⟩⟩) dX7_copy_50
      · --
        refine lv_iload_n hx hb dX7_copy_20 rfl (lv_at hl 1 rfl) ?_
        refine q_aald (b := sh 3) hx hb hK hw 1 4 (by omega) (by omega) rfl dX7_copy_21 rfl rfl ?_
        refine lv_astore (lv' := [(6, .ref (sh 3)), (0, .ref X), (1, .int (nI 3)), (2, .int i), (3, .int (nI m)), (4, .int j), (5, .int n)]) hx hb dX7_copy_22 hl (by decide) rfl (fun ls hl => ?_)
        refine lv_aload_n hx hb dX7_copy_24 rfl (lv_at hl 1 rfl) ?_
        refine q_get (v := .ref sa) (ci := 7) hx hb hts in_X7 hown hK hw 0 6 wd1 dX7_copy_25 rfl rfl (by decide) rfl ?_
        rcases (show m = 0 ∨ m = 1 ∨ m = 2 ∨ m = 3 by omega) with rfl | rfl | rfl | rfl
        · --
          refine lv_iload_n hx hb dX7_copy_28 rfl (lv_at hl 4 rfl) ?_
          refine q_aald (b := sh 0) hx hb hK hw 1 4 (by omega) (by omega) rfl dX7_copy_29 rfl rfl ?_
          refine lv_astore (lv' := [(7, .ref (sh 0)), (6, .ref (sh 3)), (0, .ref X), (1, .int (nI 3)), (2, .int i), (3, .int (nI 0)), (4, .int j), (5, .int n)]) hx hb dX7_copy_30 hl (by decide) rfl (fun ls hl => ?_)
          refine lv_aload hx hb dX7_copy_32 (lv_at hl 1 rfl) ?_
          have t0' := hth 0
          have t1' := hth 1
          have t2' := hth 2
          have t3' := hth 3
          have l0' := hla 0
          have l1' := hla 1
          have l2' := hla 2
          have l3' := hla 3
          refine q_get (v := .int (nI (th 3))) (ci := 4) hx hb hts in_X4 hown hK hw 8 0 wd2 dX7_copy_34 rfl rfl (by decide) rfl ?_
          refine q_if_eq (tgt := 48) hx hb ((th 3 : Nat) : Int) (nI_toInt (by omega)) dX7_copy_37 (by decide) (fun c89 => ?_) (fun c89 => ?_)
          · --
            refine lv_bipush (v := (-11)) hx hb dX7_copy_48 (by decide) ?_
            exact q_iret (wout := _) hx hb hr hlocks hAe hK fs hw (⟨by unfold cyC; rw [if_neg (by omega), tnI ek]; (try rw [tnI em]); rw [if_pos (by omega)], Or.inl ⟨fun h => by unfold cyOk at h; rw [tnI ek] at h; (try rw [tnI em] at h); omega, rfl⟩⟩) dX7_copy_50
          · --
            refine lv_aload hx hb dX7_copy_40 (lv_at hl 0 rfl) ?_
            refine q_get (v := .int (nI (th 0))) (ci := 4) hx hb hts in_X4 hown hK hw 2 0 wd2 dX7_copy_42 rfl rfl (by decide) rfl ?_
            refine q_if_ne (tgt := 51) hx hb ((th 0 : Nat) : Int) (nI_toInt (by omega)) dX7_copy_45 (by decide) (fun c90 => ?_) (fun c90 => ?_)
            · --
              refine lv_aload hx hb dX7_copy_51 (lv_at hl 1 rfl) ?_
              refine q_get (v := .int (nI (la 3))) (ci := 4) hx hb hts in_X4 hown hK hw 8 1 wd3 dX7_copy_53 rfl rfl (by decide) rfl ?_
              refine lv_aload hx hb dX7_copy_56 (lv_at hl 0 rfl) ?_
              refine q_get (v := .int (nI (la 0))) (ci := 4) hx hb hts in_X4 hown hK hw 2 1 wd3 dX7_copy_58 rfl rfl (by decide) rfl ?_
              refine q_icmp_eq (tgt := 67) hx hb ((la 3 : Nat) : Int) ((la 0 : Nat) : Int) (nI_toInt (by omega)) (nI_toInt (by omega)) dX7_copy_61 (by decide) (fun c91 => ?_) (fun c91 => ?_)
              · --
                refine lv_aload hx hb dX7_copy_67 (lv_at hl 1 rfl) ?_
                refine lv_iload_n hx hb dX7_copy_69 rfl (lv_at hl 4 rfl) ?_
                refine lv_iload hx hb dX7_copy_70 (lv_at hl 7 rfl) ?_
                refine q_calli (S := Unit) (Z := Z) (D := D) (wc := [((sh 3), .inr (4, [.int (nI (th 3)), .int (nI (la 3)), .int (nI (le 3)), .ref (it 3)])), ((it 3), .inl (Z 1, 24, .inr (.inl (fs 3))))]) (wr := [(X, .inr (7, [.ref pa, .ref P, .ref ia, .ref iP, .int (nI kp), .ref T, .ref sa, .ref et, .ref Rn, .ref Ol])), (sa, .inl (Z 4, 4, .inr (.inr (.inr (.inr (rl [sh 0, sh 1, sh 2, sh 3])))))), (sh 0, .inr (4, [.int (nI (th 0)), .int (nI (la 0)), .int (nI (le 0)), .ref (it 0)])), (it 0, .inl (Z 1, 24, .inr (.inl (fs 0)))), (sh 1, .inr (4, [.int (nI (th 1)), .int (nI (la 1)), .int (nI (le 1)), .ref (it 1)])), (it 1, .inl (Z 1, 24, .inr (.inl (fs 1)))), (sh 2, .inr (4, [.int (nI (th 2)), .int (nI (la 2)), .int (nI (le 2)), .ref (it 2)])), (it 2, .inl (Z 1, 24, .inr (.inl (fs 2))))]) (rest := []) hw hA [8, 9] [0, 1, 2, 3, 4, 5, 6, 7] rfl rfl rfl rfl (by decide) (fun hPc hDc => va_runV (As := [.int i, .int n]) (rest := []) ⟨hx, hb, hml, hown, hts⟩ (c_X4_holds l D Z H.size (sh 3) (it 3) (th 3) (la 3) (le 3) (fs 3) i n (hle _)) (cwV 2 hts gX7_copy_X4_holds rfl rfl rfl (by decide +kernel) ⟨Nat.le_of_ble_eq_true rfl, Nat.le_of_ble_eq_true rfl⟩) ⟨fb_cPre, va_recv hK.1 hPc (ci := 4) (q0 := 0) rfl rfl, pre_of hPc hK hDc⟩ rfl rfl hl.1 rfl (lv_room (Nat.le_of_ble_eq_true rfl)) dX7_copy_72 ⟨Nat.le_of_ble_eq_true rfl, Nat.le_of_ble_eq_true rfl⟩) (fun r92 uu H locs hr92 hw => ?_)
                subst hr92
                have hw : WS D A s [(X, .inr (7, [.ref pa, .ref P, .ref ia, .ref iP, .int (nI kp), .ref T, .ref sa, .ref et, .ref Rn, .ref Ol])), (sa, .inl (Z 4, 4, .inr (.inr (.inr (.inr (rl [sh 0, sh 1, sh 2, sh 3])))))), (sh 0, .inr (4, [.int (nI (th 0)), .int (nI (la 0)), .int (nI (le 0)), .ref (it 0)])), (it 0, .inl (Z 1, 24, .inr (.inl (fs 0)))), (sh 1, .inr (4, [.int (nI (th 1)), .int (nI (la 1)), .int (nI (le 1)), .ref (it 1)])), (it 1, .inl (Z 1, 24, .inr (.inl (fs 1)))), (sh 2, .inr (4, [.int (nI (th 2)), .int (nI (la 2)), .int (nI (le 2)), .ref (it 2)])), (it 2, .inl (Z 1, 24, .inr (.inl (fs 2)))), ((sh 3), .inr (4, [.int (nI (th 3)), .int (nI (la 3)), .int (nI (le 3)), .ref (it 3)])), ((it 3), .inl (Z 1, 24, .inr (.inl (fs 3))))] H locs := hw
                refine q_if_eq (tgt := 90) hx hb ((bb (hol (le 3) i n) : Nat) : Int) (nI_toInt (Nat.lt_of_le_of_lt (bb_le _) (by decide))) dX7_copy_75 (by decide) (fun c93 => ?_) (fun c93 => ?_)
                · --
                  have c93 := bb_0 c93
                  have hq1 := c93
                  refine lv_bipush (v := (-13)) hx hb dX7_copy_90 (by decide) ?_
                  exact q_iret (wout := _) hx hb hr hlocks hAe hK fs hw (⟨by unfold cyC; rw [if_neg (by omega), tnI ek]; (try rw [tnI em]); rw [if_neg (by omega), if_neg (by omega), if_neg (by first | exact fun h => hq1 h.1 | exact fun h => hq2 h.2)], Or.inl ⟨fun h => by unfold cyOk at h; rw [tnI ek] at h; (try rw [tnI em] at h); first | exact hq1 h.2.2.2.1 | exact hq2 h.2.2.2.2, rfl⟩⟩) dX7_copy_92
                · --
                  have c93 := bb_1 c93
                  have hq1 := c93
                  refine lv_aload hx hb dX7_copy_78 (lv_at hl 0 rfl) ?_
                  refine lv_iload hx hb dX7_copy_80 (lv_at hl 6 rfl) ?_
                  refine lv_iload hx hb dX7_copy_82 (lv_at hl 7 rfl) ?_
                  refine q_calli (S := Unit) (Z := Z) (D := D) (wc := [((sh 0), .inr (4, [.int (nI (th 0)), .int (nI (la 0)), .int (nI (le 0)), .ref (it 0)])), ((it 0), .inl (Z 1, 24, .inr (.inl (fs 0))))]) (wr := [(X, .inr (7, [.ref pa, .ref P, .ref ia, .ref iP, .int (nI kp), .ref T, .ref sa, .ref et, .ref Rn, .ref Ol])), (sa, .inl (Z 4, 4, .inr (.inr (.inr (.inr (rl [sh 0, sh 1, sh 2, sh 3])))))), (sh 1, .inr (4, [.int (nI (th 1)), .int (nI (la 1)), .int (nI (le 1)), .ref (it 1)])), (it 1, .inl (Z 1, 24, .inr (.inl (fs 1)))), (sh 2, .inr (4, [.int (nI (th 2)), .int (nI (la 2)), .int (nI (le 2)), .ref (it 2)])), (it 2, .inl (Z 1, 24, .inr (.inl (fs 2)))), ((sh 3), .inr (4, [.int (nI (th 3)), .int (nI (la 3)), .int (nI (le 3)), .ref (it 3)])), ((it 3), .inl (Z 1, 24, .inr (.inl (fs 3))))]) (rest := []) hw hA [2, 3] [0, 1, 4, 5, 6, 7, 8, 9] rfl rfl rfl rfl (by decide) (fun hPc hDc => va_runV (As := [.int j, .int n]) (rest := []) ⟨hx, hb, hml, hown, hts⟩ (c_X4_holds l D Z H.size (sh 0) (it 0) (th 0) (la 0) (le 0) (fs 0) j n (hle _)) (cwV 2 hts gX7_copy_X4_holds rfl rfl rfl (by decide +kernel) ⟨Nat.le_of_ble_eq_true rfl, Nat.le_of_ble_eq_true rfl⟩) ⟨fb_cPre, va_recv hK.1 hPc (ci := 4) (q0 := 0) rfl rfl, pre_of hPc hK hDc⟩ rfl rfl hl.1 rfl (lv_room (Nat.le_of_ble_eq_true rfl)) dX7_copy_84 ⟨Nat.le_of_ble_eq_true rfl, Nat.le_of_ble_eq_true rfl⟩) (fun r94 uu H locs hr94 hw => ?_)
                  subst hr94
                  have hw : WS D A s [(X, .inr (7, [.ref pa, .ref P, .ref ia, .ref iP, .int (nI kp), .ref T, .ref sa, .ref et, .ref Rn, .ref Ol])), (sa, .inl (Z 4, 4, .inr (.inr (.inr (.inr (rl [sh 0, sh 1, sh 2, sh 3])))))), (sh 1, .inr (4, [.int (nI (th 1)), .int (nI (la 1)), .int (nI (le 1)), .ref (it 1)])), (it 1, .inl (Z 1, 24, .inr (.inl (fs 1)))), (sh 2, .inr (4, [.int (nI (th 2)), .int (nI (la 2)), .int (nI (le 2)), .ref (it 2)])), (it 2, .inl (Z 1, 24, .inr (.inl (fs 2)))), ((sh 3), .inr (4, [.int (nI (th 3)), .int (nI (la 3)), .int (nI (le 3)), .ref (it 3)])), ((it 3), .inl (Z 1, 24, .inr (.inl (fs 3)))), ((sh 0), .inr (4, [.int (nI (th 0)), .int (nI (la 0)), .int (nI (le 0)), .ref (it 0)])), ((it 0), .inl (Z 1, 24, .inr (.inl (fs 0))))] H locs := hw
                  refine q_if_ne (tgt := 93) hx hb ((bb (hol (le 0) j n) : Nat) : Int) (nI_toInt (Nat.lt_of_le_of_lt (bb_le _) (by decide))) dX7_copy_87 (by decide) (fun c95 => ?_) (fun c95 => ?_)
                  · --
                    have c95 := bb_1 c95
                    have hq2 := c95
                    have e0 := hle 0
                    have e1 := hle 1
                    have e2 := hle 2
                    have e3 := hle 3
                    obtain ⟨x, rfl, ex⟩ := i32_nat (x := i) (by omega)
                    obtain ⟨y, rfl, ey⟩ := i32_nat (x := j) (by omega)
                    obtain ⟨v, rfl, ev⟩ := i32_nat (x := n) (by omega)
                    refine lv_aload hx hb dX7_copy_93 (lv_at hl 1 rfl) ?_
                    refine q_get (v := .ref (it 3)) (ci := 4) hx hb hts in_X4 hown hK hw 6 3 wd4 dX7_copy_95 rfl rfl (by decide) rfl ?_
                    refine lv_iload_n hx hb dX7_copy_98 rfl (lv_at hl 4 rfl) ?_
                    refine lv_aload hx hb dX7_copy_99 (lv_at hl 0 rfl) ?_
                    refine q_get (v := .ref (it 0)) (ci := 4) hx hb hts in_X4 hown hK hw 8 3 wd4 dX7_copy_101 rfl rfl (by decide) rfl ?_
                    refine lv_iload hx hb dX7_copy_104 (lv_at hl 6 rfl) ?_
                    refine lv_iload hx hb dX7_copy_106 (lv_at hl 7 rfl) ?_
                    refine q_copyl hx hb (by rw [hml]; exact hl.1.symm) hown wd5 wd6 wd7 wd8 hK hw 7 9 (by omega) (by omega) (by omega) (by omega) (by omega) (Nat.le_of_ble_eq_true rfl) (by decide +kernel) dX7_copy_108 rfl rfl (fun H locs hw => ?_)
                    have hw : WS D A s [(X, .inr (7, [.ref pa, .ref P, .ref ia, .ref iP, .int (nI kp), .ref T, .ref sa, .ref et, .ref Rn, .ref Ol])), (sa, .inl (Z 4, 4, .inr (.inr (.inr (.inr (rl [sh 0, sh 1, sh 2, sh 3])))))), (sh 1, .inr (4, [.int (nI (th 1)), .int (nI (la 1)), .int (nI (le 1)), .ref (it 1)])), (it 1, .inl (Z 1, 24, .inr (.inl (fs 1)))), (sh 2, .inr (4, [.int (nI (th 2)), .int (nI (la 2)), .int (nI (le 2)), .ref (it 2)])), (it 2, .inl (Z 1, 24, .inr (.inl (fs 2)))), ((sh 3), .inr (4, [.int (nI (th 3)), .int (nI (la 3)), .int (nI (le 3)), .ref (it 3)])), ((it 3), .inl (Z 1, 24, .inr (.inl (fs 3)))), ((sh 0), .inr (4, [.int (nI (th 0)), .int (nI (la 0)), .int (nI (le 0)), .ref (it 0)])), ((it 0), .inl (Z 1, 24, .inr (.inl (va_cpy (fs 3) (fs 0) x y v))))] H locs := hw
                    refine lv_iload hx hb dX7_copy_111 (lv_at hl 7 rfl) ?_
                    exact q_iret (wout := _) hx hb hr hlocks hAe hK (va_up fs 0 (va_cpy (fs 3) (fs 0) x y v)) (hw.sub [0, 1, 8, 9, 2, 3, 4, 5, 6, 7] (by decide) rfl) (⟨by unfold cyC; rw [if_neg (by omega), tnI ek]; (try rw [tnI em]); rw [if_neg (by omega), if_neg (by omega), if_pos ⟨hq1, hq2⟩], Or.inr ⟨by unfold cyOk; rw [tnI ek]; (try rw [tnI em]); exact ⟨by omega, by omega, by omega, hq1, hq2⟩, by rw [tnI ek]; (try rw [tnI em]); rw [tnI ex, tnI ey, tnI ev]⟩⟩) dX7_copy_113
                  · --
                    have c95 := bb_0 c95
                    have hq2 := c95
                    refine lv_bipush (v := (-13)) hx hb dX7_copy_90 (by decide) ?_
                    exact q_iret (wout := _) hx hb hr hlocks hAe hK fs (hw.sub [0, 1, 8, 9, 2, 3, 4, 5, 6, 7] (by decide) rfl) (⟨by unfold cyC; rw [if_neg (by omega), tnI ek]; (try rw [tnI em]); rw [if_neg (by omega), if_neg (by omega), if_neg (by first | exact fun h => hq1 h.1 | exact fun h => hq2 h.2)], Or.inl ⟨fun h => by unfold cyOk at h; rw [tnI ek] at h; (try rw [tnI em] at h); first | exact hq1 h.2.2.2.1 | exact hq2 h.2.2.2.2, rfl⟩⟩) dX7_copy_92
              · --
                refine lv_bipush (v := (-12)) hx hb dX7_copy_64 (by decide) ?_
                exact q_iret (wout := _) hx hb hr hlocks hAe hK fs hw (⟨by unfold cyC; rw [if_neg (by omega), tnI ek]; (try rw [tnI em]); rw [if_neg (by omega), if_pos (by omega)], Or.inl ⟨fun h => by unfold cyOk at h; rw [tnI ek] at h; (try rw [tnI em] at h); omega, rfl⟩⟩) dX7_copy_66
            · --
              refine lv_bipush (v := (-11)) hx hb dX7_copy_48 (by decide) ?_
              exact q_iret (wout := _) hx hb hr hlocks hAe hK fs hw (⟨by unfold cyC; rw [if_neg (by omega), tnI ek]; (try rw [tnI em]); rw [if_pos (by omega)], Or.inl ⟨fun h => by unfold cyOk at h; rw [tnI ek] at h; (try rw [tnI em] at h); omega, rfl⟩⟩) dX7_copy_50
        · --
          refine lv_iload_n hx hb dX7_copy_28 rfl (lv_at hl 4 rfl) ?_
          refine q_aald (b := sh 1) hx hb hK hw 1 4 (by omega) (by omega) rfl dX7_copy_29 rfl rfl ?_
          refine lv_astore (lv' := [(7, .ref (sh 1)), (6, .ref (sh 3)), (0, .ref X), (1, .int (nI 3)), (2, .int i), (3, .int (nI 1)), (4, .int j), (5, .int n)]) hx hb dX7_copy_30 hl (by decide) rfl (fun ls hl => ?_)
          refine lv_aload hx hb dX7_copy_32 (lv_at hl 1 rfl) ?_
          have t0' := hth 0
          have t1' := hth 1
          have t2' := hth 2
          have t3' := hth 3
          have l0' := hla 0
          have l1' := hla 1
          have l2' := hla 2
          have l3' := hla 3
          refine q_get (v := .int (nI (th 3))) (ci := 4) hx hb hts in_X4 hown hK hw 8 0 wd2 dX7_copy_34 rfl rfl (by decide) rfl ?_
          refine q_if_eq (tgt := 48) hx hb ((th 3 : Nat) : Int) (nI_toInt (by omega)) dX7_copy_37 (by decide) (fun c96 => ?_) (fun c96 => ?_)
          · --
            refine lv_bipush (v := (-11)) hx hb dX7_copy_48 (by decide) ?_
            exact q_iret (wout := _) hx hb hr hlocks hAe hK fs hw (⟨by unfold cyC; rw [if_neg (by omega), tnI ek]; (try rw [tnI em]); rw [if_pos (by omega)], Or.inl ⟨fun h => by unfold cyOk at h; rw [tnI ek] at h; (try rw [tnI em] at h); omega, rfl⟩⟩) dX7_copy_50
          · --
            refine lv_aload hx hb dX7_copy_40 (lv_at hl 0 rfl) ?_
            refine q_get (v := .int (nI (th 1))) (ci := 4) hx hb hts in_X4 hown hK hw 4 0 wd2 dX7_copy_42 rfl rfl (by decide) rfl ?_
            refine q_if_ne (tgt := 51) hx hb ((th 1 : Nat) : Int) (nI_toInt (by omega)) dX7_copy_45 (by decide) (fun c97 => ?_) (fun c97 => ?_)
            · --
              refine lv_aload hx hb dX7_copy_51 (lv_at hl 1 rfl) ?_
              refine q_get (v := .int (nI (la 3))) (ci := 4) hx hb hts in_X4 hown hK hw 8 1 wd3 dX7_copy_53 rfl rfl (by decide) rfl ?_
              refine lv_aload hx hb dX7_copy_56 (lv_at hl 0 rfl) ?_
              refine q_get (v := .int (nI (la 1))) (ci := 4) hx hb hts in_X4 hown hK hw 4 1 wd3 dX7_copy_58 rfl rfl (by decide) rfl ?_
              refine q_icmp_eq (tgt := 67) hx hb ((la 3 : Nat) : Int) ((la 1 : Nat) : Int) (nI_toInt (by omega)) (nI_toInt (by omega)) dX7_copy_61 (by decide) (fun c98 => ?_) (fun c98 => ?_)
              · --
                refine lv_aload hx hb dX7_copy_67 (lv_at hl 1 rfl) ?_
                refine lv_iload_n hx hb dX7_copy_69 rfl (lv_at hl 4 rfl) ?_
                refine lv_iload hx hb dX7_copy_70 (lv_at hl 7 rfl) ?_
                refine q_calli (S := Unit) (Z := Z) (D := D) (wc := [((sh 3), .inr (4, [.int (nI (th 3)), .int (nI (la 3)), .int (nI (le 3)), .ref (it 3)])), ((it 3), .inl (Z 1, 24, .inr (.inl (fs 3))))]) (wr := [(X, .inr (7, [.ref pa, .ref P, .ref ia, .ref iP, .int (nI kp), .ref T, .ref sa, .ref et, .ref Rn, .ref Ol])), (sa, .inl (Z 4, 4, .inr (.inr (.inr (.inr (rl [sh 0, sh 1, sh 2, sh 3])))))), (sh 0, .inr (4, [.int (nI (th 0)), .int (nI (la 0)), .int (nI (le 0)), .ref (it 0)])), (it 0, .inl (Z 1, 24, .inr (.inl (fs 0)))), (sh 1, .inr (4, [.int (nI (th 1)), .int (nI (la 1)), .int (nI (le 1)), .ref (it 1)])), (it 1, .inl (Z 1, 24, .inr (.inl (fs 1)))), (sh 2, .inr (4, [.int (nI (th 2)), .int (nI (la 2)), .int (nI (le 2)), .ref (it 2)])), (it 2, .inl (Z 1, 24, .inr (.inl (fs 2))))]) (rest := []) hw hA [8, 9] [0, 1, 2, 3, 4, 5, 6, 7] rfl rfl rfl rfl (by decide) (fun hPc hDc => va_runV (As := [.int i, .int n]) (rest := []) ⟨hx, hb, hml, hown, hts⟩ (c_X4_holds l D Z H.size (sh 3) (it 3) (th 3) (la 3) (le 3) (fs 3) i n (hle _)) (cwV 2 hts gX7_copy_X4_holds rfl rfl rfl (by decide +kernel) ⟨Nat.le_of_ble_eq_true rfl, Nat.le_of_ble_eq_true rfl⟩) ⟨fb_cPre, va_recv hK.1 hPc (ci := 4) (q0 := 0) rfl rfl, pre_of hPc hK hDc⟩ rfl rfl hl.1 rfl (lv_room (Nat.le_of_ble_eq_true rfl)) dX7_copy_72 ⟨Nat.le_of_ble_eq_true rfl, Nat.le_of_ble_eq_true rfl⟩) (fun r99 uu H locs hr99 hw => ?_)
                subst hr99
                have hw : WS D A s [(X, .inr (7, [.ref pa, .ref P, .ref ia, .ref iP, .int (nI kp), .ref T, .ref sa, .ref et, .ref Rn, .ref Ol])), (sa, .inl (Z 4, 4, .inr (.inr (.inr (.inr (rl [sh 0, sh 1, sh 2, sh 3])))))), (sh 0, .inr (4, [.int (nI (th 0)), .int (nI (la 0)), .int (nI (le 0)), .ref (it 0)])), (it 0, .inl (Z 1, 24, .inr (.inl (fs 0)))), (sh 1, .inr (4, [.int (nI (th 1)), .int (nI (la 1)), .int (nI (le 1)), .ref (it 1)])), (it 1, .inl (Z 1, 24, .inr (.inl (fs 1)))), (sh 2, .inr (4, [.int (nI (th 2)), .int (nI (la 2)), .int (nI (le 2)), .ref (it 2)])), (it 2, .inl (Z 1, 24, .inr (.inl (fs 2)))), ((sh 3), .inr (4, [.int (nI (th 3)), .int (nI (la 3)), .int (nI (le 3)), .ref (it 3)])), ((it 3), .inl (Z 1, 24, .inr (.inl (fs 3))))] H locs := hw
                refine q_if_eq (tgt := 90) hx hb ((bb (hol (le 3) i n) : Nat) : Int) (nI_toInt (Nat.lt_of_le_of_lt (bb_le _) (by decide))) dX7_copy_75 (by decide) (fun c100 => ?_) (fun c100 => ?_)
                · --
                  have c100 := bb_0 c100
                  have hq1 := c100
                  refine lv_bipush (v := (-13)) hx hb dX7_copy_90 (by decide) ?_
                  exact q_iret (wout := _) hx hb hr hlocks hAe hK fs hw (⟨by unfold cyC; rw [if_neg (by omega), tnI ek]; (try rw [tnI em]); rw [if_neg (by omega), if_neg (by omega), if_neg (by first | exact fun h => hq1 h.1 | exact fun h => hq2 h.2)], Or.inl ⟨fun h => by unfold cyOk at h; rw [tnI ek] at h; (try rw [tnI em] at h); first | exact hq1 h.2.2.2.1 | exact hq2 h.2.2.2.2, rfl⟩⟩) dX7_copy_92
                · --
                  have c100 := bb_1 c100
                  have hq1 := c100
                  refine lv_aload hx hb dX7_copy_78 (lv_at hl 0 rfl) ?_
                  refine lv_iload hx hb dX7_copy_80 (lv_at hl 6 rfl) ?_
                  refine lv_iload hx hb dX7_copy_82 (lv_at hl 7 rfl) ?_
                  refine q_calli (S := Unit) (Z := Z) (D := D) (wc := [((sh 1), .inr (4, [.int (nI (th 1)), .int (nI (la 1)), .int (nI (le 1)), .ref (it 1)])), ((it 1), .inl (Z 1, 24, .inr (.inl (fs 1))))]) (wr := [(X, .inr (7, [.ref pa, .ref P, .ref ia, .ref iP, .int (nI kp), .ref T, .ref sa, .ref et, .ref Rn, .ref Ol])), (sa, .inl (Z 4, 4, .inr (.inr (.inr (.inr (rl [sh 0, sh 1, sh 2, sh 3])))))), (sh 0, .inr (4, [.int (nI (th 0)), .int (nI (la 0)), .int (nI (le 0)), .ref (it 0)])), (it 0, .inl (Z 1, 24, .inr (.inl (fs 0)))), (sh 2, .inr (4, [.int (nI (th 2)), .int (nI (la 2)), .int (nI (le 2)), .ref (it 2)])), (it 2, .inl (Z 1, 24, .inr (.inl (fs 2)))), ((sh 3), .inr (4, [.int (nI (th 3)), .int (nI (la 3)), .int (nI (le 3)), .ref (it 3)])), ((it 3), .inl (Z 1, 24, .inr (.inl (fs 3))))]) (rest := []) hw hA [4, 5] [0, 1, 2, 3, 6, 7, 8, 9] rfl rfl rfl rfl (by decide) (fun hPc hDc => va_runV (As := [.int j, .int n]) (rest := []) ⟨hx, hb, hml, hown, hts⟩ (c_X4_holds l D Z H.size (sh 1) (it 1) (th 1) (la 1) (le 1) (fs 1) j n (hle _)) (cwV 2 hts gX7_copy_X4_holds rfl rfl rfl (by decide +kernel) ⟨Nat.le_of_ble_eq_true rfl, Nat.le_of_ble_eq_true rfl⟩) ⟨fb_cPre, va_recv hK.1 hPc (ci := 4) (q0 := 0) rfl rfl, pre_of hPc hK hDc⟩ rfl rfl hl.1 rfl (lv_room (Nat.le_of_ble_eq_true rfl)) dX7_copy_84 ⟨Nat.le_of_ble_eq_true rfl, Nat.le_of_ble_eq_true rfl⟩) (fun r101 uu H locs hr101 hw => ?_)
                  subst hr101
                  have hw : WS D A s [(X, .inr (7, [.ref pa, .ref P, .ref ia, .ref iP, .int (nI kp), .ref T, .ref sa, .ref et, .ref Rn, .ref Ol])), (sa, .inl (Z 4, 4, .inr (.inr (.inr (.inr (rl [sh 0, sh 1, sh 2, sh 3])))))), (sh 0, .inr (4, [.int (nI (th 0)), .int (nI (la 0)), .int (nI (le 0)), .ref (it 0)])), (it 0, .inl (Z 1, 24, .inr (.inl (fs 0)))), (sh 2, .inr (4, [.int (nI (th 2)), .int (nI (la 2)), .int (nI (le 2)), .ref (it 2)])), (it 2, .inl (Z 1, 24, .inr (.inl (fs 2)))), ((sh 3), .inr (4, [.int (nI (th 3)), .int (nI (la 3)), .int (nI (le 3)), .ref (it 3)])), ((it 3), .inl (Z 1, 24, .inr (.inl (fs 3)))), ((sh 1), .inr (4, [.int (nI (th 1)), .int (nI (la 1)), .int (nI (le 1)), .ref (it 1)])), ((it 1), .inl (Z 1, 24, .inr (.inl (fs 1))))] H locs := hw
                  refine q_if_ne (tgt := 93) hx hb ((bb (hol (le 1) j n) : Nat) : Int) (nI_toInt (Nat.lt_of_le_of_lt (bb_le _) (by decide))) dX7_copy_87 (by decide) (fun c102 => ?_) (fun c102 => ?_)
                  · --
                    have c102 := bb_1 c102
                    have hq2 := c102
                    have e0 := hle 0
                    have e1 := hle 1
                    have e2 := hle 2
                    have e3 := hle 3
                    obtain ⟨x, rfl, ex⟩ := i32_nat (x := i) (by omega)
                    obtain ⟨y, rfl, ey⟩ := i32_nat (x := j) (by omega)
                    obtain ⟨v, rfl, ev⟩ := i32_nat (x := n) (by omega)
                    refine lv_aload hx hb dX7_copy_93 (lv_at hl 1 rfl) ?_
                    refine q_get (v := .ref (it 3)) (ci := 4) hx hb hts in_X4 hown hK hw 6 3 wd4 dX7_copy_95 rfl rfl (by decide) rfl ?_
                    refine lv_iload_n hx hb dX7_copy_98 rfl (lv_at hl 4 rfl) ?_
                    refine lv_aload hx hb dX7_copy_99 (lv_at hl 0 rfl) ?_
                    refine q_get (v := .ref (it 1)) (ci := 4) hx hb hts in_X4 hown hK hw 8 3 wd4 dX7_copy_101 rfl rfl (by decide) rfl ?_
                    refine lv_iload hx hb dX7_copy_104 (lv_at hl 6 rfl) ?_
                    refine lv_iload hx hb dX7_copy_106 (lv_at hl 7 rfl) ?_
                    refine q_copyl hx hb (by rw [hml]; exact hl.1.symm) hown wd5 wd6 wd7 wd8 hK hw 7 9 (by omega) (by omega) (by omega) (by omega) (by omega) (Nat.le_of_ble_eq_true rfl) (by decide +kernel) dX7_copy_108 rfl rfl (fun H locs hw => ?_)
                    have hw : WS D A s [(X, .inr (7, [.ref pa, .ref P, .ref ia, .ref iP, .int (nI kp), .ref T, .ref sa, .ref et, .ref Rn, .ref Ol])), (sa, .inl (Z 4, 4, .inr (.inr (.inr (.inr (rl [sh 0, sh 1, sh 2, sh 3])))))), (sh 0, .inr (4, [.int (nI (th 0)), .int (nI (la 0)), .int (nI (le 0)), .ref (it 0)])), (it 0, .inl (Z 1, 24, .inr (.inl (fs 0)))), (sh 2, .inr (4, [.int (nI (th 2)), .int (nI (la 2)), .int (nI (le 2)), .ref (it 2)])), (it 2, .inl (Z 1, 24, .inr (.inl (fs 2)))), ((sh 3), .inr (4, [.int (nI (th 3)), .int (nI (la 3)), .int (nI (le 3)), .ref (it 3)])), ((it 3), .inl (Z 1, 24, .inr (.inl (fs 3)))), ((sh 1), .inr (4, [.int (nI (th 1)), .int (nI (la 1)), .int (nI (le 1)), .ref (it 1)])), ((it 1), .inl (Z 1, 24, .inr (.inl (va_cpy (fs 3) (fs 1) x y v))))] H locs := hw
                    refine lv_iload hx hb dX7_copy_111 (lv_at hl 7 rfl) ?_
                    exact q_iret (wout := _) hx hb hr hlocks hAe hK (va_up fs 1 (va_cpy (fs 3) (fs 1) x y v)) (hw.sub [0, 1, 2, 3, 8, 9, 4, 5, 6, 7] (by decide) rfl) (⟨by unfold cyC; rw [if_neg (by omega), tnI ek]; (try rw [tnI em]); rw [if_neg (by omega), if_neg (by omega), if_pos ⟨hq1, hq2⟩], Or.inr ⟨by unfold cyOk; rw [tnI ek]; (try rw [tnI em]); exact ⟨by omega, by omega, by omega, hq1, hq2⟩, by rw [tnI ek]; (try rw [tnI em]); rw [tnI ex, tnI ey, tnI ev]⟩⟩) dX7_copy_113
                  · --
                    have c102 := bb_0 c102
                    have hq2 := c102
                    refine lv_bipush (v := (-13)) hx hb dX7_copy_90 (by decide) ?_
                    exact q_iret (wout := _) hx hb hr hlocks hAe hK fs (hw.sub [0, 1, 2, 3, 8, 9, 4, 5, 6, 7] (by decide) rfl) (⟨by unfold cyC; rw [if_neg (by omega), tnI ek]; (try rw [tnI em]); rw [if_neg (by omega), if_neg (by omega), if_neg (by first | exact fun h => hq1 h.1 | exact fun h => hq2 h.2)], Or.inl ⟨fun h => by unfold cyOk at h; rw [tnI ek] at h; (try rw [tnI em] at h); first | exact hq1 h.2.2.2.1 | exact hq2 h.2.2.2.2, rfl⟩⟩) dX7_copy_92
              · --
                refine lv_bipush (v := (-12)) hx hb dX7_copy_64 (by decide) ?_
                exact q_iret (wout := _) hx hb hr hlocks hAe hK fs hw (⟨by unfold cyC; rw [if_neg (by omega), tnI ek]; (try rw [tnI em]); rw [if_neg (by omega), if_pos (by omega)], Or.inl ⟨fun h => by unfold cyOk at h; rw [tnI ek] at h; (try rw [tnI em] at h); omega, rfl⟩⟩) dX7_copy_66
            · --
              refine lv_bipush (v := (-11)) hx hb dX7_copy_48 (by decide) ?_
              exact q_iret (wout := _) hx hb hr hlocks hAe hK fs hw (⟨by unfold cyC; rw [if_neg (by omega), tnI ek]; (try rw [tnI em]); rw [if_pos (by omega)], Or.inl ⟨fun h => by unfold cyOk at h; rw [tnI ek] at h; (try rw [tnI em] at h); omega, rfl⟩⟩) dX7_copy_50
        · --
          refine lv_iload_n hx hb dX7_copy_28 rfl (lv_at hl 4 rfl) ?_
          refine q_aald (b := sh 2) hx hb hK hw 1 4 (by omega) (by omega) rfl dX7_copy_29 rfl rfl ?_
          refine lv_astore (lv' := [(7, .ref (sh 2)), (6, .ref (sh 3)), (0, .ref X), (1, .int (nI 3)), (2, .int i), (3, .int (nI 2)), (4, .int j), (5, .int n)]) hx hb dX7_copy_30 hl (by decide) rfl (fun ls hl => ?_)
          refine lv_aload hx hb dX7_copy_32 (lv_at hl 1 rfl) ?_
          have t0' := hth 0
          have t1' := hth 1
          have t2' := hth 2
          have t3' := hth 3
          have l0' := hla 0
          have l1' := hla 1
          have l2' := hla 2
          have l3' := hla 3
          refine q_get (v := .int (nI (th 3))) (ci := 4) hx hb hts in_X4 hown hK hw 8 0 wd2 dX7_copy_34 rfl rfl (by decide) rfl ?_
          refine q_if_eq (tgt := 48) hx hb ((th 3 : Nat) : Int) (nI_toInt (by omega)) dX7_copy_37 (by decide) (fun c103 => ?_) (fun c103 => ?_)
          · --
            refine lv_bipush (v := (-11)) hx hb dX7_copy_48 (by decide) ?_
            exact q_iret (wout := _) hx hb hr hlocks hAe hK fs hw (⟨by unfold cyC; rw [if_neg (by omega), tnI ek]; (try rw [tnI em]); rw [if_pos (by omega)], Or.inl ⟨fun h => by unfold cyOk at h; rw [tnI ek] at h; (try rw [tnI em] at h); omega, rfl⟩⟩) dX7_copy_50
          · --
            refine lv_aload hx hb dX7_copy_40 (lv_at hl 0 rfl) ?_
            refine q_get (v := .int (nI (th 2))) (ci := 4) hx hb hts in_X4 hown hK hw 6 0 wd2 dX7_copy_42 rfl rfl (by decide) rfl ?_
            refine q_if_ne (tgt := 51) hx hb ((th 2 : Nat) : Int) (nI_toInt (by omega)) dX7_copy_45 (by decide) (fun c104 => ?_) (fun c104 => ?_)
            · --
              refine lv_aload hx hb dX7_copy_51 (lv_at hl 1 rfl) ?_
              refine q_get (v := .int (nI (la 3))) (ci := 4) hx hb hts in_X4 hown hK hw 8 1 wd3 dX7_copy_53 rfl rfl (by decide) rfl ?_
              refine lv_aload hx hb dX7_copy_56 (lv_at hl 0 rfl) ?_
              refine q_get (v := .int (nI (la 2))) (ci := 4) hx hb hts in_X4 hown hK hw 6 1 wd3 dX7_copy_58 rfl rfl (by decide) rfl ?_
              refine q_icmp_eq (tgt := 67) hx hb ((la 3 : Nat) : Int) ((la 2 : Nat) : Int) (nI_toInt (by omega)) (nI_toInt (by omega)) dX7_copy_61 (by decide) (fun c105 => ?_) (fun c105 => ?_)
              · --
                refine lv_aload hx hb dX7_copy_67 (lv_at hl 1 rfl) ?_
                refine lv_iload_n hx hb dX7_copy_69 rfl (lv_at hl 4 rfl) ?_
                refine lv_iload hx hb dX7_copy_70 (lv_at hl 7 rfl) ?_
                refine q_calli (S := Unit) (Z := Z) (D := D) (wc := [((sh 3), .inr (4, [.int (nI (th 3)), .int (nI (la 3)), .int (nI (le 3)), .ref (it 3)])), ((it 3), .inl (Z 1, 24, .inr (.inl (fs 3))))]) (wr := [(X, .inr (7, [.ref pa, .ref P, .ref ia, .ref iP, .int (nI kp), .ref T, .ref sa, .ref et, .ref Rn, .ref Ol])), (sa, .inl (Z 4, 4, .inr (.inr (.inr (.inr (rl [sh 0, sh 1, sh 2, sh 3])))))), (sh 0, .inr (4, [.int (nI (th 0)), .int (nI (la 0)), .int (nI (le 0)), .ref (it 0)])), (it 0, .inl (Z 1, 24, .inr (.inl (fs 0)))), (sh 1, .inr (4, [.int (nI (th 1)), .int (nI (la 1)), .int (nI (le 1)), .ref (it 1)])), (it 1, .inl (Z 1, 24, .inr (.inl (fs 1)))), (sh 2, .inr (4, [.int (nI (th 2)), .int (nI (la 2)), .int (nI (le 2)), .ref (it 2)])), (it 2, .inl (Z 1, 24, .inr (.inl (fs 2))))]) (rest := []) hw hA [8, 9] [0, 1, 2, 3, 4, 5, 6, 7] rfl rfl rfl rfl (by decide) (fun hPc hDc => va_runV (As := [.int i, .int n]) (rest := []) ⟨hx, hb, hml, hown, hts⟩ (c_X4_holds l D Z H.size (sh 3) (it 3) (th 3) (la 3) (le 3) (fs 3) i n (hle _)) (cwV 2 hts gX7_copy_X4_holds rfl rfl rfl (by decide +kernel) ⟨Nat.le_of_ble_eq_true rfl, Nat.le_of_ble_eq_true rfl⟩) ⟨fb_cPre, va_recv hK.1 hPc (ci := 4) (q0 := 0) rfl rfl, pre_of hPc hK hDc⟩ rfl rfl hl.1 rfl (lv_room (Nat.le_of_ble_eq_true rfl)) dX7_copy_72 ⟨Nat.le_of_ble_eq_true rfl, Nat.le_of_ble_eq_true rfl⟩) (fun r106 uu H locs hr106 hw => ?_)
                subst hr106
                have hw : WS D A s [(X, .inr (7, [.ref pa, .ref P, .ref ia, .ref iP, .int (nI kp), .ref T, .ref sa, .ref et, .ref Rn, .ref Ol])), (sa, .inl (Z 4, 4, .inr (.inr (.inr (.inr (rl [sh 0, sh 1, sh 2, sh 3])))))), (sh 0, .inr (4, [.int (nI (th 0)), .int (nI (la 0)), .int (nI (le 0)), .ref (it 0)])), (it 0, .inl (Z 1, 24, .inr (.inl (fs 0)))), (sh 1, .inr (4, [.int (nI (th 1)), .int (nI (la 1)), .int (nI (le 1)), .ref (it 1)])), (it 1, .inl (Z 1, 24, .inr (.inl (fs 1)))), (sh 2, .inr (4, [.int (nI (th 2)), .int (nI (la 2)), .int (nI (le 2)), .ref (it 2)])), (it 2, .inl (Z 1, 24, .inr (.inl (fs 2)))), ((sh 3), .inr (4, [.int (nI (th 3)), .int (nI (la 3)), .int (nI (le 3)), .ref (it 3)])), ((it 3), .inl (Z 1, 24, .inr (.inl (fs 3))))] H locs := hw
                refine q_if_eq (tgt := 90) hx hb ((bb (hol (le 3) i n) : Nat) : Int) (nI_toInt (Nat.lt_of_le_of_lt (bb_le _) (by decide))) dX7_copy_75 (by decide) (fun c107 => ?_) (fun c107 => ?_)
                · --
                  have c107 := bb_0 c107
                  have hq1 := c107
                  refine lv_bipush (v := (-13)) hx hb dX7_copy_90 (by decide) ?_
                  exact q_iret (wout := _) hx hb hr hlocks hAe hK fs hw (⟨by unfold cyC; rw [if_neg (by omega), tnI ek]; (try rw [tnI em]); rw [if_neg (by omega), if_neg (by omega), if_neg (by first | exact fun h => hq1 h.1 | exact fun h => hq2 h.2)], Or.inl ⟨fun h => by unfold cyOk at h; rw [tnI ek] at h; (try rw [tnI em] at h); first | exact hq1 h.2.2.2.1 | exact hq2 h.2.2.2.2, rfl⟩⟩) dX7_copy_92
                · --
                  have c107 := bb_1 c107
                  have hq1 := c107
                  refine lv_aload hx hb dX7_copy_78 (lv_at hl 0 rfl) ?_
                  refine lv_iload hx hb dX7_copy_80 (lv_at hl 6 rfl) ?_
                  refine lv_iload hx hb dX7_copy_82 (lv_at hl 7 rfl) ?_
                  refine q_calli (S := Unit) (Z := Z) (D := D) (wc := [((sh 2), .inr (4, [.int (nI (th 2)), .int (nI (la 2)), .int (nI (le 2)), .ref (it 2)])), ((it 2), .inl (Z 1, 24, .inr (.inl (fs 2))))]) (wr := [(X, .inr (7, [.ref pa, .ref P, .ref ia, .ref iP, .int (nI kp), .ref T, .ref sa, .ref et, .ref Rn, .ref Ol])), (sa, .inl (Z 4, 4, .inr (.inr (.inr (.inr (rl [sh 0, sh 1, sh 2, sh 3])))))), (sh 0, .inr (4, [.int (nI (th 0)), .int (nI (la 0)), .int (nI (le 0)), .ref (it 0)])), (it 0, .inl (Z 1, 24, .inr (.inl (fs 0)))), (sh 1, .inr (4, [.int (nI (th 1)), .int (nI (la 1)), .int (nI (le 1)), .ref (it 1)])), (it 1, .inl (Z 1, 24, .inr (.inl (fs 1)))), ((sh 3), .inr (4, [.int (nI (th 3)), .int (nI (la 3)), .int (nI (le 3)), .ref (it 3)])), ((it 3), .inl (Z 1, 24, .inr (.inl (fs 3))))]) (rest := []) hw hA [6, 7] [0, 1, 2, 3, 4, 5, 8, 9] rfl rfl rfl rfl (by decide) (fun hPc hDc => va_runV (As := [.int j, .int n]) (rest := []) ⟨hx, hb, hml, hown, hts⟩ (c_X4_holds l D Z H.size (sh 2) (it 2) (th 2) (la 2) (le 2) (fs 2) j n (hle _)) (cwV 2 hts gX7_copy_X4_holds rfl rfl rfl (by decide +kernel) ⟨Nat.le_of_ble_eq_true rfl, Nat.le_of_ble_eq_true rfl⟩) ⟨fb_cPre, va_recv hK.1 hPc (ci := 4) (q0 := 0) rfl rfl, pre_of hPc hK hDc⟩ rfl rfl hl.1 rfl (lv_room (Nat.le_of_ble_eq_true rfl)) dX7_copy_84 ⟨Nat.le_of_ble_eq_true rfl, Nat.le_of_ble_eq_true rfl⟩) (fun r108 uu H locs hr108 hw => ?_)
                  subst hr108
                  have hw : WS D A s [(X, .inr (7, [.ref pa, .ref P, .ref ia, .ref iP, .int (nI kp), .ref T, .ref sa, .ref et, .ref Rn, .ref Ol])), (sa, .inl (Z 4, 4, .inr (.inr (.inr (.inr (rl [sh 0, sh 1, sh 2, sh 3])))))), (sh 0, .inr (4, [.int (nI (th 0)), .int (nI (la 0)), .int (nI (le 0)), .ref (it 0)])), (it 0, .inl (Z 1, 24, .inr (.inl (fs 0)))), (sh 1, .inr (4, [.int (nI (th 1)), .int (nI (la 1)), .int (nI (le 1)), .ref (it 1)])), (it 1, .inl (Z 1, 24, .inr (.inl (fs 1)))), ((sh 3), .inr (4, [.int (nI (th 3)), .int (nI (la 3)), .int (nI (le 3)), .ref (it 3)])), ((it 3), .inl (Z 1, 24, .inr (.inl (fs 3)))), ((sh 2), .inr (4, [.int (nI (th 2)), .int (nI (la 2)), .int (nI (le 2)), .ref (it 2)])), ((it 2), .inl (Z 1, 24, .inr (.inl (fs 2))))] H locs := hw
                  refine q_if_ne (tgt := 93) hx hb ((bb (hol (le 2) j n) : Nat) : Int) (nI_toInt (Nat.lt_of_le_of_lt (bb_le _) (by decide))) dX7_copy_87 (by decide) (fun c109 => ?_) (fun c109 => ?_)
                  · --
                    have c109 := bb_1 c109
                    have hq2 := c109
                    have e0 := hle 0
                    have e1 := hle 1
                    have e2 := hle 2
                    have e3 := hle 3
                    obtain ⟨x, rfl, ex⟩ := i32_nat (x := i) (by omega)
                    obtain ⟨y, rfl, ey⟩ := i32_nat (x := j) (by omega)
                    obtain ⟨v, rfl, ev⟩ := i32_nat (x := n) (by omega)
                    refine lv_aload hx hb dX7_copy_93 (lv_at hl 1 rfl) ?_
                    refine q_get (v := .ref (it 3)) (ci := 4) hx hb hts in_X4 hown hK hw 6 3 wd4 dX7_copy_95 rfl rfl (by decide) rfl ?_
                    refine lv_iload_n hx hb dX7_copy_98 rfl (lv_at hl 4 rfl) ?_
                    refine lv_aload hx hb dX7_copy_99 (lv_at hl 0 rfl) ?_
                    refine q_get (v := .ref (it 2)) (ci := 4) hx hb hts in_X4 hown hK hw 8 3 wd4 dX7_copy_101 rfl rfl (by decide) rfl ?_
                    refine lv_iload hx hb dX7_copy_104 (lv_at hl 6 rfl) ?_
                    refine lv_iload hx hb dX7_copy_106 (lv_at hl 7 rfl) ?_
                    refine q_copyl hx hb (by rw [hml]; exact hl.1.symm) hown wd5 wd6 wd7 wd8 hK hw 7 9 (by omega) (by omega) (by omega) (by omega) (by omega) (Nat.le_of_ble_eq_true rfl) (by decide +kernel) dX7_copy_108 rfl rfl (fun H locs hw => ?_)
                    have hw : WS D A s [(X, .inr (7, [.ref pa, .ref P, .ref ia, .ref iP, .int (nI kp), .ref T, .ref sa, .ref et, .ref Rn, .ref Ol])), (sa, .inl (Z 4, 4, .inr (.inr (.inr (.inr (rl [sh 0, sh 1, sh 2, sh 3])))))), (sh 0, .inr (4, [.int (nI (th 0)), .int (nI (la 0)), .int (nI (le 0)), .ref (it 0)])), (it 0, .inl (Z 1, 24, .inr (.inl (fs 0)))), (sh 1, .inr (4, [.int (nI (th 1)), .int (nI (la 1)), .int (nI (le 1)), .ref (it 1)])), (it 1, .inl (Z 1, 24, .inr (.inl (fs 1)))), ((sh 3), .inr (4, [.int (nI (th 3)), .int (nI (la 3)), .int (nI (le 3)), .ref (it 3)])), ((it 3), .inl (Z 1, 24, .inr (.inl (fs 3)))), ((sh 2), .inr (4, [.int (nI (th 2)), .int (nI (la 2)), .int (nI (le 2)), .ref (it 2)])), ((it 2), .inl (Z 1, 24, .inr (.inl (va_cpy (fs 3) (fs 2) x y v))))] H locs := hw
                    refine lv_iload hx hb dX7_copy_111 (lv_at hl 7 rfl) ?_
                    exact q_iret (wout := _) hx hb hr hlocks hAe hK (va_up fs 2 (va_cpy (fs 3) (fs 2) x y v)) (hw.sub [0, 1, 2, 3, 4, 5, 8, 9, 6, 7] (by decide) rfl) (⟨by unfold cyC; rw [if_neg (by omega), tnI ek]; (try rw [tnI em]); rw [if_neg (by omega), if_neg (by omega), if_pos ⟨hq1, hq2⟩], Or.inr ⟨by unfold cyOk; rw [tnI ek]; (try rw [tnI em]); exact ⟨by omega, by omega, by omega, hq1, hq2⟩, by rw [tnI ek]; (try rw [tnI em]); rw [tnI ex, tnI ey, tnI ev]⟩⟩) dX7_copy_113
                  · --
                    have c109 := bb_0 c109
                    have hq2 := c109
                    refine lv_bipush (v := (-13)) hx hb dX7_copy_90 (by decide) ?_
                    exact q_iret (wout := _) hx hb hr hlocks hAe hK fs (hw.sub [0, 1, 2, 3, 4, 5, 8, 9, 6, 7] (by decide) rfl) (⟨by unfold cyC; rw [if_neg (by omega), tnI ek]; (try rw [tnI em]); rw [if_neg (by omega), if_neg (by omega), if_neg (by first | exact fun h => hq1 h.1 | exact fun h => hq2 h.2)], Or.inl ⟨fun h => by unfold cyOk at h; rw [tnI ek] at h; (try rw [tnI em] at h); first | exact hq1 h.2.2.2.1 | exact hq2 h.2.2.2.2, rfl⟩⟩) dX7_copy_92
              · --
                refine lv_bipush (v := (-12)) hx hb dX7_copy_64 (by decide) ?_
                exact q_iret (wout := _) hx hb hr hlocks hAe hK fs hw (⟨by unfold cyC; rw [if_neg (by omega), tnI ek]; (try rw [tnI em]); rw [if_neg (by omega), if_pos (by omega)], Or.inl ⟨fun h => by unfold cyOk at h; rw [tnI ek] at h; (try rw [tnI em] at h); omega, rfl⟩⟩) dX7_copy_66
            · --
              refine lv_bipush (v := (-11)) hx hb dX7_copy_48 (by decide) ?_
              exact q_iret (wout := _) hx hb hr hlocks hAe hK fs hw (⟨by unfold cyC; rw [if_neg (by omega), tnI ek]; (try rw [tnI em]); rw [if_pos (by omega)], Or.inl ⟨fun h => by unfold cyOk at h; rw [tnI ek] at h; (try rw [tnI em] at h); omega, rfl⟩⟩) dX7_copy_50
        · --
          refine lv_iload_n hx hb dX7_copy_28 rfl (lv_at hl 4 rfl) ?_
          refine q_aald (b := sh 3) hx hb hK hw 1 4 (by omega) (by omega) rfl dX7_copy_29 rfl rfl ?_
          refine lv_astore (lv' := [(7, .ref (sh 3)), (6, .ref (sh 3)), (0, .ref X), (1, .int (nI 3)), (2, .int i), (3, .int (nI 3)), (4, .int j), (5, .int n)]) hx hb dX7_copy_30 hl (by decide) rfl (fun ls hl => ?_)
          refine lv_aload hx hb dX7_copy_32 (lv_at hl 1 rfl) ?_
          have t0' := hth 0
          have t1' := hth 1
          have t2' := hth 2
          have t3' := hth 3
          have l0' := hla 0
          have l1' := hla 1
          have l2' := hla 2
          have l3' := hla 3
          refine q_get (v := .int (nI (th 3))) (ci := 4) hx hb hts in_X4 hown hK hw 8 0 wd2 dX7_copy_34 rfl rfl (by decide) rfl ?_
          refine q_if_eq (tgt := 48) hx hb ((th 3 : Nat) : Int) (nI_toInt (by omega)) dX7_copy_37 (by decide) (fun c110 => ?_) (fun c110 => ?_)
          · --
            refine lv_bipush (v := (-11)) hx hb dX7_copy_48 (by decide) ?_
            exact q_iret (wout := _) hx hb hr hlocks hAe hK fs hw (⟨by unfold cyC; rw [if_neg (by omega), tnI ek]; (try rw [tnI em]); rw [if_pos (by omega)], Or.inl ⟨fun h => by unfold cyOk at h; rw [tnI ek] at h; (try rw [tnI em] at h); omega, rfl⟩⟩) dX7_copy_50
          · --
            refine lv_aload hx hb dX7_copy_40 (lv_at hl 0 rfl) ?_
            refine q_get (v := .int (nI (th 3))) (ci := 4) hx hb hts in_X4 hown hK hw 8 0 wd2 dX7_copy_42 rfl rfl (by decide) rfl ?_
            refine q_if_ne (tgt := 51) hx hb ((th 3 : Nat) : Int) (nI_toInt (by omega)) dX7_copy_45 (by decide) (fun c111 => ?_) (fun c111 => ?_)
            · --
              refine lv_aload hx hb dX7_copy_51 (lv_at hl 1 rfl) ?_
              refine q_get (v := .int (nI (la 3))) (ci := 4) hx hb hts in_X4 hown hK hw 8 1 wd3 dX7_copy_53 rfl rfl (by decide) rfl ?_
              refine lv_aload hx hb dX7_copy_56 (lv_at hl 0 rfl) ?_
              refine q_get (v := .int (nI (la 3))) (ci := 4) hx hb hts in_X4 hown hK hw 8 1 wd3 dX7_copy_58 rfl rfl (by decide) rfl ?_
              refine q_icmp_eq (tgt := 67) hx hb ((la 3 : Nat) : Int) ((la 3 : Nat) : Int) (nI_toInt (by omega)) (nI_toInt (by omega)) dX7_copy_61 (by decide) (fun c112 => ?_) (fun c112 => ?_)
              · --
                refine lv_aload hx hb dX7_copy_67 (lv_at hl 1 rfl) ?_
                refine lv_iload_n hx hb dX7_copy_69 rfl (lv_at hl 4 rfl) ?_
                refine lv_iload hx hb dX7_copy_70 (lv_at hl 7 rfl) ?_
                refine q_calli (S := Unit) (Z := Z) (D := D) (wc := [((sh 3), .inr (4, [.int (nI (th 3)), .int (nI (la 3)), .int (nI (le 3)), .ref (it 3)])), ((it 3), .inl (Z 1, 24, .inr (.inl (fs 3))))]) (wr := [(X, .inr (7, [.ref pa, .ref P, .ref ia, .ref iP, .int (nI kp), .ref T, .ref sa, .ref et, .ref Rn, .ref Ol])), (sa, .inl (Z 4, 4, .inr (.inr (.inr (.inr (rl [sh 0, sh 1, sh 2, sh 3])))))), (sh 0, .inr (4, [.int (nI (th 0)), .int (nI (la 0)), .int (nI (le 0)), .ref (it 0)])), (it 0, .inl (Z 1, 24, .inr (.inl (fs 0)))), (sh 1, .inr (4, [.int (nI (th 1)), .int (nI (la 1)), .int (nI (le 1)), .ref (it 1)])), (it 1, .inl (Z 1, 24, .inr (.inl (fs 1)))), (sh 2, .inr (4, [.int (nI (th 2)), .int (nI (la 2)), .int (nI (le 2)), .ref (it 2)])), (it 2, .inl (Z 1, 24, .inr (.inl (fs 2))))]) (rest := []) hw hA [8, 9] [0, 1, 2, 3, 4, 5, 6, 7] rfl rfl rfl rfl (by decide) (fun hPc hDc => va_runV (As := [.int i, .int n]) (rest := []) ⟨hx, hb, hml, hown, hts⟩ (c_X4_holds l D Z H.size (sh 3) (it 3) (th 3) (la 3) (le 3) (fs 3) i n (hle _)) (cwV 2 hts gX7_copy_X4_holds rfl rfl rfl (by decide +kernel) ⟨Nat.le_of_ble_eq_true rfl, Nat.le_of_ble_eq_true rfl⟩) ⟨fb_cPre, va_recv hK.1 hPc (ci := 4) (q0 := 0) rfl rfl, pre_of hPc hK hDc⟩ rfl rfl hl.1 rfl (lv_room (Nat.le_of_ble_eq_true rfl)) dX7_copy_72 ⟨Nat.le_of_ble_eq_true rfl, Nat.le_of_ble_eq_true rfl⟩) (fun r113 uu H locs hr113 hw => ?_)
                subst hr113
                have hw : WS D A s [(X, .inr (7, [.ref pa, .ref P, .ref ia, .ref iP, .int (nI kp), .ref T, .ref sa, .ref et, .ref Rn, .ref Ol])), (sa, .inl (Z 4, 4, .inr (.inr (.inr (.inr (rl [sh 0, sh 1, sh 2, sh 3])))))), (sh 0, .inr (4, [.int (nI (th 0)), .int (nI (la 0)), .int (nI (le 0)), .ref (it 0)])), (it 0, .inl (Z 1, 24, .inr (.inl (fs 0)))), (sh 1, .inr (4, [.int (nI (th 1)), .int (nI (la 1)), .int (nI (le 1)), .ref (it 1)])), (it 1, .inl (Z 1, 24, .inr (.inl (fs 1)))), (sh 2, .inr (4, [.int (nI (th 2)), .int (nI (la 2)), .int (nI (le 2)), .ref (it 2)])), (it 2, .inl (Z 1, 24, .inr (.inl (fs 2)))), ((sh 3), .inr (4, [.int (nI (th 3)), .int (nI (la 3)), .int (nI (le 3)), .ref (it 3)])), ((it 3), .inl (Z 1, 24, .inr (.inl (fs 3))))] H locs := hw
                refine q_if_eq (tgt := 90) hx hb ((bb (hol (le 3) i n) : Nat) : Int) (nI_toInt (Nat.lt_of_le_of_lt (bb_le _) (by decide))) dX7_copy_75 (by decide) (fun c114 => ?_) (fun c114 => ?_)
                · --
                  have c114 := bb_0 c114
                  have hq1 := c114
                  refine lv_bipush (v := (-13)) hx hb dX7_copy_90 (by decide) ?_
                  exact q_iret (wout := _) hx hb hr hlocks hAe hK fs hw (⟨by unfold cyC; rw [if_neg (by omega), tnI ek]; (try rw [tnI em]); rw [if_neg (by omega), if_neg (by omega), if_neg (by first | exact fun h => hq1 h.1 | exact fun h => hq2 h.2)], Or.inl ⟨fun h => by unfold cyOk at h; rw [tnI ek] at h; (try rw [tnI em] at h); first | exact hq1 h.2.2.2.1 | exact hq2 h.2.2.2.2, rfl⟩⟩) dX7_copy_92
                · --
                  have c114 := bb_1 c114
                  have hq1 := c114
                  refine lv_aload hx hb dX7_copy_78 (lv_at hl 0 rfl) ?_
                  refine lv_iload hx hb dX7_copy_80 (lv_at hl 6 rfl) ?_
                  refine lv_iload hx hb dX7_copy_82 (lv_at hl 7 rfl) ?_
                  refine q_calli (S := Unit) (Z := Z) (D := D) (wc := [((sh 3), .inr (4, [.int (nI (th 3)), .int (nI (la 3)), .int (nI (le 3)), .ref (it 3)])), ((it 3), .inl (Z 1, 24, .inr (.inl (fs 3))))]) (wr := [(X, .inr (7, [.ref pa, .ref P, .ref ia, .ref iP, .int (nI kp), .ref T, .ref sa, .ref et, .ref Rn, .ref Ol])), (sa, .inl (Z 4, 4, .inr (.inr (.inr (.inr (rl [sh 0, sh 1, sh 2, sh 3])))))), (sh 0, .inr (4, [.int (nI (th 0)), .int (nI (la 0)), .int (nI (le 0)), .ref (it 0)])), (it 0, .inl (Z 1, 24, .inr (.inl (fs 0)))), (sh 1, .inr (4, [.int (nI (th 1)), .int (nI (la 1)), .int (nI (le 1)), .ref (it 1)])), (it 1, .inl (Z 1, 24, .inr (.inl (fs 1)))), (sh 2, .inr (4, [.int (nI (th 2)), .int (nI (la 2)), .int (nI (le 2)), .ref (it 2)])), (it 2, .inl (Z 1, 24, .inr (.inl (fs 2))))]) (rest := []) hw hA [8, 9] [0, 1, 2, 3, 4, 5, 6, 7] rfl rfl rfl rfl (by decide) (fun hPc hDc => va_runV (As := [.int j, .int n]) (rest := []) ⟨hx, hb, hml, hown, hts⟩ (c_X4_holds l D Z H.size (sh 3) (it 3) (th 3) (la 3) (le 3) (fs 3) j n (hle _)) (cwV 2 hts gX7_copy_X4_holds rfl rfl rfl (by decide +kernel) ⟨Nat.le_of_ble_eq_true rfl, Nat.le_of_ble_eq_true rfl⟩) ⟨fb_cPre, va_recv hK.1 hPc (ci := 4) (q0 := 0) rfl rfl, pre_of hPc hK hDc⟩ rfl rfl hl.1 rfl (lv_room (Nat.le_of_ble_eq_true rfl)) dX7_copy_84 ⟨Nat.le_of_ble_eq_true rfl, Nat.le_of_ble_eq_true rfl⟩) (fun r115 uu H locs hr115 hw => ?_)
                  subst hr115
                  have hw : WS D A s [(X, .inr (7, [.ref pa, .ref P, .ref ia, .ref iP, .int (nI kp), .ref T, .ref sa, .ref et, .ref Rn, .ref Ol])), (sa, .inl (Z 4, 4, .inr (.inr (.inr (.inr (rl [sh 0, sh 1, sh 2, sh 3])))))), (sh 0, .inr (4, [.int (nI (th 0)), .int (nI (la 0)), .int (nI (le 0)), .ref (it 0)])), (it 0, .inl (Z 1, 24, .inr (.inl (fs 0)))), (sh 1, .inr (4, [.int (nI (th 1)), .int (nI (la 1)), .int (nI (le 1)), .ref (it 1)])), (it 1, .inl (Z 1, 24, .inr (.inl (fs 1)))), (sh 2, .inr (4, [.int (nI (th 2)), .int (nI (la 2)), .int (nI (le 2)), .ref (it 2)])), (it 2, .inl (Z 1, 24, .inr (.inl (fs 2)))), ((sh 3), .inr (4, [.int (nI (th 3)), .int (nI (la 3)), .int (nI (le 3)), .ref (it 3)])), ((it 3), .inl (Z 1, 24, .inr (.inl (fs 3))))] H locs := hw
                  refine q_if_ne (tgt := 93) hx hb ((bb (hol (le 3) j n) : Nat) : Int) (nI_toInt (Nat.lt_of_le_of_lt (bb_le _) (by decide))) dX7_copy_87 (by decide) (fun c116 => ?_) (fun c116 => ?_)
                  · --
                    have c116 := bb_1 c116
                    have hq2 := c116
                    have e0 := hle 0
                    have e1 := hle 1
                    have e2 := hle 2
                    have e3 := hle 3
                    obtain ⟨x, rfl, ex⟩ := i32_nat (x := i) (by omega)
                    obtain ⟨y, rfl, ey⟩ := i32_nat (x := j) (by omega)
                    obtain ⟨v, rfl, ev⟩ := i32_nat (x := n) (by omega)
                    refine lv_aload hx hb dX7_copy_93 (lv_at hl 1 rfl) ?_
                    refine q_get (v := .ref (it 3)) (ci := 4) hx hb hts in_X4 hown hK hw 8 3 wd4 dX7_copy_95 rfl rfl (by decide) rfl ?_
                    refine lv_iload_n hx hb dX7_copy_98 rfl (lv_at hl 4 rfl) ?_
                    refine lv_aload hx hb dX7_copy_99 (lv_at hl 0 rfl) ?_
                    refine q_get (v := .ref (it 3)) (ci := 4) hx hb hts in_X4 hown hK hw 8 3 wd4 dX7_copy_101 rfl rfl (by decide) rfl ?_
                    refine lv_iload hx hb dX7_copy_104 (lv_at hl 6 rfl) ?_
                    refine lv_iload hx hb dX7_copy_106 (lv_at hl 7 rfl) ?_
                    refine q_copyl hx hb (by rw [hml]; exact hl.1.symm) hown wd5 wd6 wd7 wd8 hK hw 9 9 (by omega) (by omega) (by omega) (by omega) (by omega) (Nat.le_of_ble_eq_true rfl) (by decide +kernel) dX7_copy_108 rfl rfl (fun H locs hw => ?_)
                    have hw : WS D A s [(X, .inr (7, [.ref pa, .ref P, .ref ia, .ref iP, .int (nI kp), .ref T, .ref sa, .ref et, .ref Rn, .ref Ol])), (sa, .inl (Z 4, 4, .inr (.inr (.inr (.inr (rl [sh 0, sh 1, sh 2, sh 3])))))), (sh 0, .inr (4, [.int (nI (th 0)), .int (nI (la 0)), .int (nI (le 0)), .ref (it 0)])), (it 0, .inl (Z 1, 24, .inr (.inl (fs 0)))), (sh 1, .inr (4, [.int (nI (th 1)), .int (nI (la 1)), .int (nI (le 1)), .ref (it 1)])), (it 1, .inl (Z 1, 24, .inr (.inl (fs 1)))), (sh 2, .inr (4, [.int (nI (th 2)), .int (nI (la 2)), .int (nI (le 2)), .ref (it 2)])), (it 2, .inl (Z 1, 24, .inr (.inl (fs 2)))), ((sh 3), .inr (4, [.int (nI (th 3)), .int (nI (la 3)), .int (nI (le 3)), .ref (it 3)])), ((it 3), .inl (Z 1, 24, .inr (.inl (va_cpy (fs 3) (fs 3) x y v))))] H locs := hw
                    refine lv_iload hx hb dX7_copy_111 (lv_at hl 7 rfl) ?_
                    exact q_iret (wout := _) hx hb hr hlocks hAe hK (va_up fs 3 (va_cpy (fs 3) (fs 3) x y v)) hw (⟨by unfold cyC; rw [if_neg (by omega), tnI ek]; (try rw [tnI em]); rw [if_neg (by omega), if_neg (by omega), if_pos ⟨hq1, hq2⟩], Or.inr ⟨by unfold cyOk; rw [tnI ek]; (try rw [tnI em]); exact ⟨by omega, by omega, by omega, hq1, hq2⟩, by rw [tnI ek]; (try rw [tnI em]); rw [tnI ex, tnI ey, tnI ev]⟩⟩) dX7_copy_113
                  · --
                    have c116 := bb_0 c116
                    have hq2 := c116
                    refine lv_bipush (v := (-13)) hx hb dX7_copy_90 (by decide) ?_
                    exact q_iret (wout := _) hx hb hr hlocks hAe hK fs hw (⟨by unfold cyC; rw [if_neg (by omega), tnI ek]; (try rw [tnI em]); rw [if_neg (by omega), if_neg (by omega), if_neg (by first | exact fun h => hq1 h.1 | exact fun h => hq2 h.2)], Or.inl ⟨fun h => by unfold cyOk at h; rw [tnI ek] at h; (try rw [tnI em] at h); first | exact hq1 h.2.2.2.1 | exact hq2 h.2.2.2.2, rfl⟩⟩) dX7_copy_92
              · --
                refine lv_bipush (v := (-12)) hx hb dX7_copy_64 (by decide) ?_
                exact q_iret (wout := _) hx hb hr hlocks hAe hK fs hw (⟨by unfold cyC; rw [if_neg (by omega), tnI ek]; (try rw [tnI em]); rw [if_neg (by omega), if_pos (by omega)], Or.inl ⟨fun h => by unfold cyOk at h; rw [tnI ek] at h; (try rw [tnI em] at h); omega, rfl⟩⟩) dX7_copy_66
            · --
              refine lv_bipush (v := (-11)) hx hb dX7_copy_48 (by decide) ?_
              exact q_iret (wout := _) hx hb hr hlocks hAe hK fs hw (⟨by unfold cyC; rw [if_neg (by omega), tnI ek]; (try rw [tnI em]); rw [if_pos (by omega)], Or.inl ⟨fun h => by unfold cyOk at h; rw [tnI ek] at h; (try rw [tnI em] at h); omega, rfl⟩⟩) dX7_copy_50
    · --
      have c4 := bb_1 c4
      refine lv_iconst (v := (-1)) hx hb dX7_copy_14 (by decide) ?_
      exact q_iret (wout := _) hx hb hr hlocks hAe hK fs hw (⟨(if_pos (by omega)).symm, Or.inl ⟨fun h => by unfold cyOk at h; omega, rfl⟩⟩) dX7_copy_15
