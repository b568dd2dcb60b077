theorem cn_z {r : Int32} {x : Nat} (h : r = nI x) (h1 : r.toInt = 0) (h2 : x ≤ 1) : x = 0 := by
  rcases (show x = 0 ∨ x = 1 by omega) with rfl | rfl
  · rfl
  · subst h; exact absurd h1 (by decide)
theorem cn_o {r : Int32} {x : Nat} (h : r = nI x) (h1 : r.toInt ≠ 0) (h2 : x ≤ 1) : x = 1 := by
  rcases (show x = 0 ∨ x = 1 by omega) with rfl | rfl
  · subst h; exact absurd rfl h1
  · rfl
def cnW (p : Nat → Nat) (kn : Nat) (v : Nat → Nat) (k : Nat) : Nat := match k with
  | 0 => p 0
  | 1 => lf p (p 0) 0
  | 2 => p 9
  | 3 => p 10
  | 4 => p 11
  | 5 => p 13
  | 6 => p 14
  | 7 => p 15
  | 8 => p 16
  | 9 => p 17
  | 10 => rsn p (p 0) (p 0 - 1) + (if fl2 p (p 0) (p 0 - 2) = 0 then 0 else 2)
  | 11 => ba p (p 0) (p 9) (p 10)
  | 12 => bbd p (fT p (p 0) 10 v) 9
  | _ => kn
def cnD (p : Nat → Nat) (kn : Nat) (v : Nat → Nat) (wh : Int32) : Int32 := if 0 ≤ wh.toInt ∧ wh.toInt ≤ 13 then nI (cnW p kn v wh.toInt.toNat) else (-1)
set_option maxHeartbeats 4000000 in
set_option maxRecDepth 100000 in
theorem c_X8_count (l : Launch) (D : va_G) (Z : Nat → ClassId) (zs0 : Nat) (M : Nat) (mr mi : Nat → Nat) (ima : Int32) (p : Nat → Nat) (v : Nat → Nat) (wh : Int32) (hn : 1 ≤ p 0 ∧ p 0 ≤ 8) (hs : lf p (p 0) 0 ≤ 24) (hzn : 0 < p (p 0)) (h9 : p 9 ≤ 99) (h10 : p 10 ≤ 99) : cMi l yX8_count wsX8_count (rmd 5) D Z zs0 [.ref M, .int wh] [(M, .inr (8, [.ref (mr 0), .ref (mr 1), .int (nI (mi 2)), .ref (mr 3), .ref (mr 4), .int ima, .ref (mr 6), .int (nI (mi 7)), .ref (mr 8), .ref (mr 9), .ref (mr 10), .long (lN (mi 11)), .long (lN (mi 12)), .ref (mr 13), .ref (mr 14), .ref (mr 15), .ref (mr 16), .ref (mr 17), .ref (mr 18), .int (nI (mi 19)), .ref (mr 20), .ref (mr 21), .ref (mr 22), .ref (mr 23), .long (lN (mi 24)), .long (lN (mi 25)), .int (nI (mi 26)), .int (nI (mi 27)), .ref (mr 28), .int (nI (mi 29)), .int (nI (mi 30)), .int (nI (mi 31)), .int (nI (mi 32))])), (mr 0, .inl (Z 0, 18, .inl (aI p))), (mr 14, .inl (Z 1, 11, .inr (.inl (aL v))))] (S := Nat × Nat × (Nat → Nat)) (fun (r : Int32) (u : Nat × Nat × (Nat → Nat)) => match u with | (x', y', v') => r = cnD p (mi 2) v wh) (fun (u : Nat × Nat × (Nat → Nat)) => match u with | (x', y', v') => [(M, .inr (8, [.ref (mr 0), .ref (mr 1), .int (nI (mi 2)), .ref (mr 3), .ref (mr 4), .int ima, .ref (mr 6), .int (nI (mi 7)), .ref (mr 8), .ref (mr 9), .ref (mr 10), .long (lN x'), .long (lN y'), .ref (mr 13), .ref (mr 14), .ref (mr 15), .ref (mr 16), .ref (mr 17), .ref (mr 18), .int (nI (mi 19)), .ref (mr 20), .ref (mr 21), .ref (mr 22), .ref (mr 23), .long (lN (mi 24)), .long (lN (mi 25)), .int (nI (mi 26)), .int (nI (mi 27)), .ref (mr 28), .int (nI (mi 29)), .int (nI (mi 30)), .int (nI (mi 31)), .int (nI (mi 32))])), (mr 0, .inl (Z 0, 18, .inl (aI p))), (mr 14, .inl (Z 1, 11, .inr (.inl (aL v'))))]) 0 0 := by
  refine q_open (y := yX8_count) (ws := wsX8_count) (av := [.ref M, .int wh]) (win := [(M, .inr (8, [.ref (mr 0), .ref (mr 1), .int (nI (mi 2)), .ref (mr 3), .ref (mr 4), .int ima, .ref (mr 6), .int (nI (mi 7)), .ref (mr 8), .ref (mr 9), .ref (mr 10), .long (lN (mi 11)), .long (lN (mi 12)), .ref (mr 13), .ref (mr 14), .ref (mr 15), .ref (mr 16), .ref (mr 17), .ref (mr 18), .int (nI (mi 19)), .ref (mr 20), .ref (mr 21), .ref (mr 22), .ref (mr 23), .long (lN (mi 24)), .long (lN (mi 25)), .int (nI (mi 26)), .int (nI (mi 27)), .ref (mr 28), .int (nI (mi 29)), .int (nI (mi 30)), .int (nI (mi 31)), .int (nI (mi 32))])), (mr 0, .inl (Z 0, 18, .inl (aI p))), (mr 14, .inl (Z 1, 11, .inr (.inl (aL v))))]) (Qc := fun zs0 => cQi D Z zs0 [(M, .inr (8, [.ref (mr 0), .ref (mr 1), .int (nI (mi 2)), .ref (mr 3), .ref (mr 4), .int ima, .ref (mr 6), .int (nI (mi 7)), .ref (mr 8), .ref (mr 9), .ref (mr 10), .long (lN (mi 11)), .long (lN (mi 12)), .ref (mr 13), .ref (mr 14), .ref (mr 15), .ref (mr 16), .ref (mr 17), .ref (mr 18), .int (nI (mi 19)), .ref (mr 20), .ref (mr 21), .ref (mr 22), .ref (mr 23), .long (lN (mi 24)), .long (lN (mi 25)), .int (nI (mi 26)), .int (nI (mi 27)), .ref (mr 28), .int (nI (mi 29)), .int (nI (mi 30)), .int (nI (mi 31)), .int (nI (mi 32))])), (mr 0, .inl (Z 0, 18, .inl (aI p))), (mr 14, .inl (Z 1, 11, .inr (.inl (aL v))))] (S := Nat × Nat × (Nat → Nat)) (fun (r : Int32) (u : Nat × Nat × (Nat → Nat)) => match u with | (x', y', v') => r = cnD p (mi 2) v wh) (fun (u : Nat × Nat × (Nat → Nat)) => match u with | (x', y', v') => [(M, .inr (8, [.ref (mr 0), .ref (mr 1), .int (nI (mi 2)), .ref (mr 3), .ref (mr 4), .int ima, .ref (mr 6), .int (nI (mi 7)), .ref (mr 8), .ref (mr 9), .ref (mr 10), .long (lN x'), .long (lN y'), .ref (mr 13), .ref (mr 14), .ref (mr 15), .ref (mr 16), .ref (mr 17), .ref (mr 18), .int (nI (mi 19)), .ref (mr 20), .ref (mr 21), .ref (mr 22), .ref (mr 23), .long (lN (mi 24)), .long (lN (mi 25)), .int (nI (mi 26)), .int (nI (mi 27)), .ref (mr 28), .int (nI (mi 29)), .int (nI (mi 30)), .int (nI (mi 31)), .int (nI (mi 32))])), (mr 0, .inl (Z 0, 18, .inl (aI p))), (mr 14, .inl (Z 1, 11, .inr (.inl (aL v'))))])) (cc := cX8_count) (maxL := 2) (ret := (some .int)) (by decide) rfl (Nat.le_of_ble_eq_true rfl) ?_
  intro pp ee s mm bw mt cd ls A H locs hAe hx hb hr hml hown hmn hts hlocks hA hK hw hl
  have hown : s.vm.findClass RX8 = some mm.cls := hown
  have hl : lv_has ls 2 [(0, .ref M), (1, .int wh)] := hl
  have wd1 := hts (.fieldLink RX8 7 "ReplaceAgesModel" "st" "[I") (List.mem_of_getElem? (i := 1) rfl)
  have wd2 := hts (.fieldLink RX8 72 "ReplaceAgesModel" "acts" "I") (List.mem_of_getElem? (i := 2) rfl)
  have in_X8 : ∀ w ∈ wsX80, w ∈ wsX8_count := fun _ h => List.mem_cons_of_mem _ (List.mem_append_right _ h)
  have hal : 1 ≤ lf p (p 0) 0 ∧ lf p (p 0) 0 ≤ 24 := ⟨lf_pos hzn (by omega), hs⟩
  refine lv_iload_n hx hb dX8_count_0 rfl (lv_at hl 1 rfl) ?_
  by_cases hsw : 0 ≤ wh.toInt ∧ wh.toInt ≤ 13
  · --
    obtain ⟨jsw, rfl, ejsw⟩ := i32_nat (x := wh) (by omega)
    rcases (show jsw = 0 ∨ jsw = 1 ∨ jsw = 2 ∨ jsw = 3 ∨ jsw = 4 ∨ jsw = 5 ∨ jsw = 6 ∨ jsw = 7 ∨ jsw = 8 ∨ jsw = 9 ∨ jsw = 10 ∨ jsw = 11 ∨ jsw = 12 ∨ jsw = 13 by omega) with rfl | rfl | rfl | rfl | rfl | rfl | rfl | rfl | rfl | rfl | rfl | rfl | rfl | rfl
    · --
      refine lv_tableIn (x := nI 0) (off := 71) (tgt := 72) hx hb dX8_count_1 (by decide) (by decide) rfl (by decide) ?_
      refine lv_aload_n hx hb dX8_count_72 rfl (lv_at hl 0 rfl) ?_
      refine q_get (v := .ref (mr 0)) (ci := 8) hx hb hts in_X8 hown hK hw 0 0 wd1 dX8_count_73 rfl rfl (by decide) rfl ?_
      refine q_iconst (v := 0) hx hb dX8_count_76 (by decide) ?_
      refine q_iald hx hb hK hw 1 (by omega) (by omega) dX8_count_77 rfl ?_
      exact q_iret (wout := _) hx hb hr hlocks hAe hK (mi 11, mi 12, v) hw (by unfold cnD; rw [if_pos (by omega), tnI ejsw]; rfl) dX8_count_78
    · --
      refine lv_tableIn (x := nI 1) (off := 78) (tgt := 79) hx hb dX8_count_1 (by decide) (by decide) rfl (by decide) ?_
      refine lv_aload_n hx hb dX8_count_79 rfl (lv_at hl 0 rfl) ?_
      refine q_iconst (v := 0) hx hb dX8_count_80 (by decide) ?_
      refine q_calli (S := Unit) (Z := Z) (D := D) (wc := [(M, .inr (8, [.ref (mr 0), .ref (mr 1), .int (nI (mi 2)), .ref (mr 3), .ref (mr 4), .int ima, .ref (mr 6), .int (nI (mi 7)), .ref (mr 8), .ref (mr 9), .ref (mr 10), .long (lN (mi 11)), .long (lN (mi 12)), .ref (mr 13), .ref (mr 14), .ref (mr 15), .ref (mr 16), .ref (mr 17), .ref (mr 18), .int (nI (mi 19)), .ref (mr 20), .ref (mr 21), .ref (mr 22), .ref (mr 23), .long (lN (mi 24)), .long (lN (mi 25)), .int (nI (mi 26)), .int (nI (mi 27)), .ref (mr 28), .int (nI (mi 29)), .int (nI (mi 30)), .int (nI (mi 31)), .int (nI (mi 32))])), (mr 0, .inl (Z 0, 18, .inl (aI p)))]) (wr := [(mr 14, .inl (Z 1, 11, .inr (.inl (aL v))))]) (rest := []) hw hA [0, 1] [2] rfl rfl rfl rfl (by decide) (fun hPc hDc => va_runV (As := [.int (nI 0)]) (rest := []) ⟨hx, hb, hml, hown, hts⟩ (c_X8_leftOf l D Z H.size M mr mi ima p 0 hn.2 (by omega)) (cwV 1 hts gX8_count_X8_leftOf rfl rfl rfl (by decide +kernel) ⟨Nat.le_of_ble_eq_true rfl, Nat.le_of_ble_eq_true rfl⟩) ⟨fb_cPre, va_recv hK.1 hPc (ci := 8) (q0 := 0) rfl rfl, pre_of hPc hK hDc⟩ rfl rfl hl.1 rfl (lv_room (Nat.le_of_ble_eq_true rfl)) dX8_count_81 ⟨Nat.le_of_ble_eq_true rfl, Nat.le_of_ble_eq_true rfl⟩) (fun r1 uu H locs hr1 hw => ?_)
      subst hr1
      have hw : WS D A s [(mr 14, .inl (Z 1, 11, .inr (.inl (aL v)))), (M, .inr (8, [.ref (mr 0), .ref (mr 1), .int (nI (mi 2)), .ref (mr 3), .ref (mr 4), .int ima, .ref (mr 6), .int (nI (mi 7)), .ref (mr 8), .ref (mr 9), .ref (mr 10), .long (lN (mi 11)), .long (lN (mi 12)), .ref (mr 13), .ref (mr 14), .ref (mr 15), .ref (mr 16), .ref (mr 17), .ref (mr 18), .int (nI (mi 19)), .ref (mr 20), .ref (mr 21), .ref (mr 22), .ref (mr 23), .long (lN (mi 24)), .long (lN (mi 25)), .int (nI (mi 26)), .int (nI (mi 27)), .ref (mr 28), .int (nI (mi 29)), .int (nI (mi 30)), .int (nI (mi 31)), .int (nI (mi 32))])), (mr 0, .inl (Z 0, 18, .inl (aI p)))] H locs := hw
      exact q_iret (wout := _) hx hb hr hlocks hAe hK (mi 11, mi 12, v) (hw.sub [1, 2, 0] (by decide) rfl) (by unfold cnD; rw [if_pos (by omega), tnI ejsw]; rfl) dX8_count_84
    · --
      refine lv_tableIn (x := nI 2) (off := 84) (tgt := 85) hx hb dX8_count_1 (by decide) (by decide) rfl (by decide) ?_
      refine lv_aload_n hx hb dX8_count_85 rfl (lv_at hl 0 rfl) ?_
      refine q_get (v := .ref (mr 0)) (ci := 8) hx hb hts in_X8 hown hK hw 0 0 wd1 dX8_count_86 rfl rfl (by decide) rfl ?_
      refine q_bipush (v := 9) hx hb dX8_count_89 (by decide) ?_
      refine lv_iload_n hx hb dX8_count_91 rfl (lv_at hl 1 rfl) ?_
      refine q_iadd hx hb dX8_count_92 ?_
      refine q_iconst (v := 2) hx hb dX8_count_93 (by decide) ?_
      refine q_isub hx hb (by omega) dX8_count_94 ?_
      refine q_iald hx hb hK hw 1 (by omega) (by omega) dX8_count_95 rfl ?_
      exact q_iret (wout := _) hx hb hr hlocks hAe hK (mi 11, mi 12, v) hw (by unfold cnD; rw [if_pos (by omega), tnI ejsw]; rfl) dX8_count_96
    · --
      refine lv_tableIn (x := nI 3) (off := 84) (tgt := 85) hx hb dX8_count_1 (by decide) (by decide) rfl (by decide) ?_
      refine lv_aload_n hx hb dX8_count_85 rfl (lv_at hl 0 rfl) ?_
      refine q_get (v := .ref (mr 0)) (ci := 8) hx hb hts in_X8 hown hK hw 0 0 wd1 dX8_count_86 rfl rfl (by decide) rfl ?_
      refine q_bipush (v := 9) hx hb dX8_count_89 (by decide) ?_
      refine lv_iload_n hx hb dX8_count_91 rfl (lv_at hl 1 rfl) ?_
      refine q_iadd hx hb dX8_count_92 ?_
      refine q_iconst (v := 2) hx hb dX8_count_93 (by decide) ?_
      refine q_isub hx hb (by omega) dX8_count_94 ?_
      refine q_iald hx hb hK hw 1 (by omega) (by omega) dX8_count_95 rfl ?_
      exact q_iret (wout := _) hx hb hr hlocks hAe hK (mi 11, mi 12, v) hw (by unfold cnD; rw [if_pos (by omega), tnI ejsw]; rfl) dX8_count_96
    · --
      refine lv_tableIn (x := nI 4) (off := 84) (tgt := 85) hx hb dX8_count_1 (by decide) (by decide) rfl (by decide) ?_
      refine lv_aload_n hx hb dX8_count_85 rfl (lv_at hl 0 rfl) ?_
      refine q_get (v := .ref (mr 0)) (ci := 8) hx hb hts in_X8 hown hK hw 0 0 wd1 dX8_count_86 rfl rfl (by decide) rfl ?_
      refine q_bipush (v := 9) hx hb dX8_count_89 (by decide) ?_
      refine lv_iload_n hx hb dX8_count_91 rfl (lv_at hl 1 rfl) ?_
      refine q_iadd hx hb dX8_count_92 ?_
      refine q_iconst (v := 2) hx hb dX8_count_93 (by decide) ?_
      refine q_isub hx hb (by omega) dX8_count_94 ?_
      refine q_iald hx hb hK hw 1 (by omega) (by omega) dX8_count_95 rfl ?_
      exact q_iret (wout := _) hx hb hr hlocks hAe hK (mi 11, mi 12, v) hw (by unfold cnD; rw [if_pos (by omega), tnI ejsw]; rfl) dX8_count_96
    · --
      refine lv_tableIn (x := nI 5) (off := 96) (tgt := 97) hx hb dX8_count_1 (by decide) (by decide) rfl (by decide) ?_
      refine lv_aload_n hx hb dX8_count_97 rfl (lv_at hl 0 rfl) ?_
      refine q_get (v := .ref (mr 0)) (ci := 8) hx hb hts in_X8 hown hK hw 0 0 wd1 dX8_count_98 rfl rfl (by decide) rfl ?_
      refine q_bipush (v := 13) hx hb dX8_count_101 (by decide) ?_
      refine lv_iload_n hx hb dX8_count_103 rfl (lv_at hl 1 rfl) ?_
      refine q_iadd hx hb dX8_count_104 ?_
      refine q_iconst (v := 5) hx hb dX8_count_105 (by decide) ?_
      refine q_isub hx hb (by omega) dX8_count_106 ?_
      refine q_iald hx hb hK hw 1 (by omega) (by omega) dX8_count_107 rfl ?_
      exact q_iret (wout := _) hx hb hr hlocks hAe hK (mi 11, mi 12, v) hw (by unfold cnD; rw [if_pos (by omega), tnI ejsw]; rfl) dX8_count_108
    · --
      refine lv_tableIn (x := nI 6) (off := 96) (tgt := 97) hx hb dX8_count_1 (by decide) (by decide) rfl (by decide) ?_
      refine lv_aload_n hx hb dX8_count_97 rfl (lv_at hl 0 rfl) ?_
      refine q_get (v := .ref (mr 0)) (ci := 8) hx hb hts in_X8 hown hK hw 0 0 wd1 dX8_count_98 rfl rfl (by decide) rfl ?_
      refine q_bipush (v := 13) hx hb dX8_count_101 (by decide) ?_
      refine lv_iload_n hx hb dX8_count_103 rfl (lv_at hl 1 rfl) ?_
      refine q_iadd hx hb dX8_count_104 ?_
      refine q_iconst (v := 5) hx hb dX8_count_105 (by decide) ?_
      refine q_isub hx hb (by omega) dX8_count_106 ?_
      refine q_iald hx hb hK hw 1 (by omega) (by omega) dX8_count_107 rfl ?_
      exact q_iret (wout := _) hx hb hr hlocks hAe hK (mi 11, mi 12, v) hw (by unfold cnD; rw [if_pos (by omega), tnI ejsw]; rfl) dX8_count_108
    · --
      refine lv_tableIn (x := nI 7) (off := 96) (tgt := 97) hx hb dX8_count_1 (by decide) (by decide) rfl (by decide) ?_
      refine lv_aload_n hx hb dX8_count_97 rfl (lv_at hl 0 rfl) ?_
      refine q_get (v := .ref (mr 0)) (ci := 8) hx hb hts in_X8 hown hK hw 0 0 wd1 dX8_count_98 rfl rfl (by decide) rfl ?_
      refine q_bipush (v := 13) hx hb dX8_count_101 (by decide) ?_
      refine lv_iload_n hx hb dX8_count_103 rfl (lv_at hl 1 rfl) ?_
      refine q_iadd hx hb dX8_count_104 ?_
      refine q_iconst (v := 5) hx hb dX8_count_105 (by decide) ?_
      refine q_isub hx hb (by omega) dX8_count_106 ?_
      refine q_iald hx hb hK hw 1 (by omega) (by omega) dX8_count_107 rfl ?_
      exact q_iret (wout := _) hx hb hr hlocks hAe hK (mi 11, mi 12, v) hw (by unfold cnD; rw [if_pos (by omega), tnI ejsw]; rfl) dX8_count_108
    · --
      refine lv_tableIn (x := nI 8) (off := 96) (tgt := 97) hx hb dX8_count_1 (by decide) (by decide) rfl (by decide) ?_
      refine lv_aload_n hx hb dX8_count_97 rfl (lv_at hl 0 rfl) ?_
      refine q_get (v := .ref (mr 0)) (ci := 8) hx hb hts in_X8 hown hK hw 0 0 wd1 dX8_count_98 rfl rfl (by decide) rfl ?_
      refine q_bipush (v := 13) hx hb dX8_count_101 (by decide) ?_
      refine lv_iload_n hx hb dX8_count_103 rfl (lv_at hl 1 rfl) ?_
      refine q_iadd hx hb dX8_count_104 ?_
      refine q_iconst (v := 5) hx hb dX8_count_105 (by decide) ?_
      refine q_isub hx hb (by omega) dX8_count_106 ?_
      refine q_iald hx hb hK hw 1 (by omega) (by omega) dX8_count_107 rfl ?_
      exact q_iret (wout := _) hx hb hr hlocks hAe hK (mi 11, mi 12, v) hw (by unfold cnD; rw [if_pos (by omega), tnI ejsw]; rfl) dX8_count_108
    · --
      refine lv_tableIn (x := nI 9) (off := 96) (tgt := 97) hx hb dX8_count_1 (by decide) (by decide) rfl (by decide) ?_
      refine lv_aload_n hx hb dX8_count_97 rfl (lv_at hl 0 rfl) ?_
      refine q_get (v := .ref (mr 0)) (ci := 8) hx hb hts in_X8 hown hK hw 0 0 wd1 dX8_count_98 rfl rfl (by decide) rfl ?_
      refine q_bipush (v := 13) hx hb dX8_count_101 (by decide) ?_
      refine lv_iload_n hx hb dX8_count_103 rfl (lv_at hl 1 rfl) ?_
      refine q_iadd hx hb dX8_count_104 ?_
      refine q_iconst (v := 5) hx hb dX8_count_105 (by decide) ?_
      refine q_isub hx hb (by omega) dX8_count_106 ?_
      refine q_iald hx hb hK hw 1 (by omega) (by omega) dX8_count_107 rfl ?_
      exact q_iret (wout := _) hx hb hr hlocks hAe hK (mi 11, mi 12, v) hw (by unfold cnD; rw [if_pos (by omega), tnI ejsw]; rfl) dX8_count_108
    · --
      refine lv_tableIn (x := nI 10) (off := 108) (tgt := 109) hx hb dX8_count_1 (by decide) (by decide) rfl (by decide) ?_
      refine lv_aload_n hx hb dX8_count_109 rfl (lv_at hl 0 rfl) ?_
      refine q_iconst (v := 0) hx hb dX8_count_110 (by decide) ?_
      refine q_calli (S := Nat × Nat) (Z := Z) (D := D) (wc := [(M, .inr (8, [.ref (mr 0), .ref (mr 1), .int (nI (mi 2)), .ref (mr 3), .ref (mr 4), .int ima, .ref (mr 6), .int (nI (mi 7)), .ref (mr 8), .ref (mr 9), .ref (mr 10), .long (lN (mi 11)), .long (lN (mi 12)), .ref (mr 13), .ref (mr 14), .ref (mr 15), .ref (mr 16), .ref (mr 17), .ref (mr 18), .int (nI (mi 19)), .ref (mr 20), .ref (mr 21), .ref (mr 22), .ref (mr 23), .long (lN (mi 24)), .long (lN (mi 25)), .int (nI (mi 26)), .int (nI (mi 27)), .ref (mr 28), .int (nI (mi 29)), .int (nI (mi 30)), .int (nI (mi 31)), .int (nI (mi 32))])), (mr 0, .inl (Z 0, 18, .inl (aI p)))]) (wr := [(mr 14, .inl (Z 1, 11, .inr (.inl (aL v))))]) (rest := []) hw hA [0, 1] [2] rfl rfl rfl rfl (by decide) (fun hPc hDc => va_runV (As := [.int (nI 0)]) (rest := []) ⟨hx, hb, hml, hown, hts⟩ (c_steady0 l D Z H.size M mr mi ima p (by first | assumption | omega) (by first | assumption | omega) (by first | assumption | omega)) (cwV 1 hts gX8_count_X8_isSteady rfl rfl rfl (by decide +kernel) ⟨Nat.le_of_ble_eq_true rfl, Nat.le_of_ble_eq_true rfl⟩) ⟨fb_cPre, va_recv hK.1 hPc (ci := 8) (q0 := 0) rfl rfl, pre_of hPc hK hDc⟩ rfl rfl hl.1 rfl (lv_room (Nat.le_of_ble_eq_true rfl)) dX8_count_111 ⟨Nat.le_of_ble_eq_true rfl, Nat.le_of_ble_eq_true rfl⟩) (fun r2 uu H locs hr2 hw => ?_)
      obtain ⟨x'_2, y'_2⟩ := uu
      try dsimp only at hr2 hw
      have hw : WS D A s [(mr 14, .inl (Z 1, 11, .inr (.inl (aL v)))), (M, .inr (8, [.ref (mr 0), .ref (mr 1), .int (nI (mi 2)), .ref (mr 3), .ref (mr 4), .int ima, .ref (mr 6), .int (nI (mi 7)), .ref (mr 8), .ref (mr 9), .ref (mr 10), .long (lN x'_2), .long (lN y'_2), .ref (mr 13), .ref (mr 14), .ref (mr 15), .ref (mr 16), .ref (mr 17), .ref (mr 18), .int (nI (mi 19)), .ref (mr 20), .ref (mr 21), .ref (mr 22), .ref (mr 23), .long (lN (mi 24)), .long (lN (mi 25)), .int (nI (mi 26)), .int (nI (mi 27)), .ref (mr 28), .int (nI (mi 29)), .int (nI (mi 30)), .int (nI (mi 31)), .int (nI (mi 32))])), (mr 0, .inl (Z 0, 18, .inl (aI p)))] H locs := hw
      refine q_if_eq (tgt := 121) hx hb r2.toInt rfl dX8_count_114 (by decide) (fun c3 => ?_) (fun c3 => ?_)
      · --
        have s0 : rsn p (p 0) (p 0 - 1) = 0 := cn_z (by assumption) c3 (rsn_le _ _ _)
        refine q_iconst (v := 0) hx hb dX8_count_121 (by decide) ?_
        refine lv_aload_n hx hb dX8_count_122 rfl (lv_at hl 0 rfl) ?_
        refine q_iconst (v := 1) hx hb dX8_count_123 (by decide) ?_
        refine q_calli (S := Nat × Nat) (Z := Z) (D := D) (wc := [(M, .inr (8, [.ref (mr 0), .ref (mr 1), .int (nI (mi 2)), .ref (mr 3), .ref (mr 4), .int ima, .ref (mr 6), .int (nI (mi 7)), .ref (mr 8), .ref (mr 9), .ref (mr 10), .long (lN x'_2), .long (lN y'_2), .ref (mr 13), .ref (mr 14), .ref (mr 15), .ref (mr 16), .ref (mr 17), .ref (mr 18), .int (nI (mi 19)), .ref (mr 20), .ref (mr 21), .ref (mr 22), .ref (mr 23), .long (lN (mi 24)), .long (lN (mi 25)), .int (nI (mi 26)), .int (nI (mi 27)), .ref (mr 28), .int (nI (mi 29)), .int (nI (mi 30)), .int (nI (mi 31)), .int (nI (mi 32))])), (mr 0, .inl (Z 0, 18, .inl (aI p)))]) (wr := [(mr 14, .inl (Z 1, 11, .inr (.inl (aL v))))]) (rest := [.int (nI 0)]) hw hA [1, 2] [0] rfl rfl rfl rfl (by decide) (fun hPc hDc => va_runV (As := [.int (nI 1)]) (rest := [.int (nI 0)]) ⟨hx, hb, hml, hown, hts⟩ (c_steady1 l D Z H.size M mr (va_up (va_up mi 11 x'_2) 12 y'_2) ima p (by first | assumption | omega) (by first | assumption | omega) (by first | assumption | omega)) (cwV 1 hts gX8_count_X8_isSteady rfl rfl rfl (by decide +kernel) ⟨Nat.le_of_ble_eq_true rfl, Nat.le_of_ble_eq_true rfl⟩) ⟨fb_cPre, va_recv hK.1 hPc (ci := 8) (q0 := 0) rfl rfl, pre_of hPc hK hDc⟩ rfl rfl hl.1 rfl (lv_room (Nat.le_of_ble_eq_true rfl)) dX8_count_124 ⟨Nat.le_of_ble_eq_true rfl, Nat.le_of_ble_eq_true rfl⟩) (fun r4 uu H locs hr4 hw => ?_)
        obtain ⟨x'_4, y'_4⟩ := uu
        try dsimp only at hr4 hw
        have hw : WS D A s [(mr 14, .inl (Z 1, 11, .inr (.inl (aL v)))), (M, .inr (8, [.ref (mr 0), .ref (mr 1), .int (nI (mi 2)), .ref (mr 3), .ref (mr 4), .int ima, .ref (mr 6), .int (nI (mi 7)), .ref (mr 8), .ref (mr 9), .ref (mr 10), .long (lN x'_4), .long (lN y'_4), .ref (mr 13), .ref (mr 14), .ref (mr 15), .ref (mr 16), .ref (mr 17), .ref (mr 18), .int (nI (mi 19)), .ref (mr 20), .ref (mr 21), .ref (mr 22), .ref (mr 23), .long (lN (mi 24)), .long (lN (mi 25)), .int (nI (mi 26)), .int (nI (mi 27)), .ref (mr 28), .int (nI (mi 29)), .int (nI (mi 30)), .int (nI (mi 31)), .int (nI (mi 32))])), (mr 0, .inl (Z 0, 18, .inl (aI p)))] H locs := hw
        refine q_if_eq (tgt := 134) hx hb r4.toInt rfl dX8_count_127 (by decide) (fun c5 => ?_) (fun c5 => ?_)
        · --
          have s1 : fl2 p (p 0) (p 0 - 2) = 0 := cn_z (by assumption) c5 (fl2_le _ _ _)
          refine q_iconst (v := 0) hx hb dX8_count_134 (by decide) ?_
          refine q_iadd hx hb dX8_count_135 ?_
          exact q_iret (wout := _) hx hb hr hlocks hAe hK (x'_4, y'_4, v) (hw.sub [1, 2, 0] (by decide) rfl) (by unfold cnD; rw [if_pos (by omega), tnI ejsw]; show nI _ = nI (rsn p (p 0) (p 0 - 1) + (if fl2 p (p 0) (p 0 - 2) = 0 then 0 else 2)); rw [s0, s1]; rfl) dX8_count_136
        · --
          have s1 : fl2 p (p 0) (p 0 - 2) = 1 := cn_o (by assumption) c5 (fl2_le _ _ _)
          refine q_iconst (v := 2) hx hb dX8_count_130 (by decide) ?_
          refine lv_goto (tgt := 135) hx hb dX8_count_131 (by decide) ?_
          refine q_iadd hx hb dX8_count_135 ?_
          exact q_iret (wout := _) hx hb hr hlocks hAe hK (x'_4, y'_4, v) (hw.sub [1, 2, 0] (by decide) rfl) (by unfold cnD; rw [if_pos (by omega), tnI ejsw]; show nI _ = nI (rsn p (p 0) (p 0 - 1) + (if fl2 p (p 0) (p 0 - 2) = 0 then 0 else 2)); rw [s0, s1]; rfl) dX8_count_136
      · --
        have s0 : rsn p (p 0) (p 0 - 1) = 1 := cn_o (by assumption) c3 (rsn_le _ _ _)
        refine q_iconst (v := 1) hx hb dX8_count_117 (by decide) ?_
        refine lv_goto (tgt := 122) hx hb dX8_count_118 (by decide) ?_
        refine lv_aload_n hx hb dX8_count_122 rfl (lv_at hl 0 rfl) ?_
        refine q_iconst (v := 1) hx hb dX8_count_123 (by decide) ?_
        refine q_calli (S := Nat × Nat) (Z := Z) (D := D) (wc := [(M, .inr (8, [.ref (mr 0), .ref (mr 1), .int (nI (mi 2)), .ref (mr 3), .ref (mr 4), .int ima, .ref (mr 6), .int (nI (mi 7)), .ref (mr 8), .ref (mr 9), .ref (mr 10), .long (lN x'_2), .long (lN y'_2), .ref (mr 13), .ref (mr 14), .ref (mr 15), .ref (mr 16), .ref (mr 17), .ref (mr 18), .int (nI (mi 19)), .ref (mr 20), .ref (mr 21), .ref (mr 22), .ref (mr 23), .long (lN (mi 24)), .long (lN (mi 25)), .int (nI (mi 26)), .int (nI (mi 27)), .ref (mr 28), .int (nI (mi 29)), .int (nI (mi 30)), .int (nI (mi 31)), .int (nI (mi 32))])), (mr 0, .inl (Z 0, 18, .inl (aI p)))]) (wr := [(mr 14, .inl (Z 1, 11, .inr (.inl (aL v))))]) (rest := [.int (nI 1)]) hw hA [1, 2] [0] rfl rfl rfl rfl (by decide) (fun hPc hDc => va_runV (As := [.int (nI 1)]) (rest := [.int (nI 1)]) ⟨hx, hb, hml, hown, hts⟩ (c_steady1 l D Z H.size M mr (va_up (va_up mi 11 x'_2) 12 y'_2) ima p (by first | assumption | omega) (by first | assumption | omega) (by first | assumption | omega)) (cwV 1 hts gX8_count_X8_isSteady rfl rfl rfl (by decide +kernel) ⟨Nat.le_of_ble_eq_true rfl, Nat.le_of_ble_eq_true rfl⟩) ⟨fb_cPre, va_recv hK.1 hPc (ci := 8) (q0 := 0) rfl rfl, pre_of hPc hK hDc⟩ rfl rfl hl.1 rfl (lv_room (Nat.le_of_ble_eq_true rfl)) dX8_count_124 ⟨Nat.le_of_ble_eq_true rfl, Nat.le_of_ble_eq_true rfl⟩) (fun r6 uu H locs hr6 hw => ?_)
        obtain ⟨x'_6, y'_6⟩ := uu
        try dsimp only at hr6 hw
        have hw : WS D A s [(mr 14, .inl (Z 1, 11, .inr (.inl (aL v)))), (M, .inr (8, [.ref (mr 0), .ref (mr 1), .int (nI (mi 2)), .ref (mr 3), .ref (mr 4), .int ima, .ref (mr 6), .int (nI (mi 7)), .ref (mr 8), .ref (mr 9), .ref (mr 10), .long (lN x'_6), .long (lN y'_6), .ref (mr 13), .ref (mr 14), .ref (mr 15), .ref (mr 16), .ref (mr 17), .ref (mr 18), .int (nI (mi 19)), .ref (mr 20), .ref (mr 21), .ref (mr 22), .ref (mr 23), .long (lN (mi 24)), .long (lN (mi 25)), .int (nI (mi 26)), .int (nI (mi 27)), .ref (mr 28), .int (nI (mi 29)), .int (nI (mi 30)), .int (nI (mi 31)), .int (nI (mi 32))])), (mr 0, .inl (Z 0, 18, .inl (aI p)))] H locs := hw
        refine q_if_eq (tgt := 134) hx hb r6.toInt rfl dX8_count_127 (by decide) (fun c7 => ?_) (fun c7 => ?_)
        · --
          have s1 : fl2 p (p 0) (p 0 - 2) = 0 := cn_z (by assumption) c7 (fl2_le _ _ _)
          refine q_iconst (v := 0) hx hb dX8_count_134 (by decide) ?_
          refine q_iadd hx hb dX8_count_135 ?_
          exact q_iret (wout := _) hx hb hr hlocks hAe hK (x'_6, y'_6, v) (hw.sub [1, 2, 0] (by decide) rfl) (by unfold cnD; rw [if_pos (by omega), tnI ejsw]; show nI _ = nI (rsn p (p 0) (p 0 - 1) + (if fl2 p (p 0) (p 0 - 2) = 0 then 0 else 2)); rw [s0, s1]; rfl) dX8_count_136
        · --
          have s1 : fl2 p (p 0) (p 0 - 2) = 1 := cn_o (by assumption) c7 (fl2_le _ _ _)
          refine q_iconst (v := 2) hx hb dX8_count_130 (by decide) ?_
          refine lv_goto (tgt := 135) hx hb dX8_count_131 (by decide) ?_
          refine q_iadd hx hb dX8_count_135 ?_
          exact q_iret (wout := _) hx hb hr hlocks hAe hK (x'_6, y'_6, v) (hw.sub [1, 2, 0] (by decide) rfl) (by unfold cnD; rw [if_pos (by omega), tnI ejsw]; show nI _ = nI (rsn p (p 0) (p 0 - 1) + (if fl2 p (p 0) (p 0 - 2) = 0 then 0 else 2)); rw [s0, s1]; rfl) dX8_count_136
    · --
      refine lv_tableIn (x := nI 11) (off := 136) (tgt := 137) hx hb dX8_count_1 (by decide) (by decide) rfl (by decide) ?_
      refine lv_aload_n hx hb dX8_count_137 rfl (lv_at hl 0 rfl) ?_
      refine lv_aload_n hx hb dX8_count_138 rfl (lv_at hl 0 rfl) ?_
      refine q_get (v := .ref (mr 0)) (ci := 8) hx hb hts in_X8 hown hK hw 0 0 wd1 dX8_count_139 rfl rfl (by decide) rfl ?_
      refine lv_aload_n hx hb dX8_count_142 rfl (lv_at hl 0 rfl) ?_
      refine q_get (v := .ref (mr 0)) (ci := 8) hx hb hts in_X8 hown hK hw 0 0 wd1 dX8_count_143 rfl rfl (by decide) rfl ?_
      refine q_iconst (v := 0) hx hb dX8_count_146 (by decide) ?_
      refine q_iald hx hb hK hw 1 (by omega) (by omega) dX8_count_147 rfl ?_
      refine q_calli (S := Nat × Nat) (Z := Z) (D := D) (wc := [(M, .inr (8, [.ref (mr 0), .ref (mr 1), .int (nI (mi 2)), .ref (mr 3), .ref (mr 4), .int ima, .ref (mr 6), .int (nI (mi 7)), .ref (mr 8), .ref (mr 9), .ref (mr 10), .long (lN (mi 11)), .long (lN (mi 12)), .ref (mr 13), .ref (mr 14), .ref (mr 15), .ref (mr 16), .ref (mr 17), .ref (mr 18), .int (nI (mi 19)), .ref (mr 20), .ref (mr 21), .ref (mr 22), .ref (mr 23), .long (lN (mi 24)), .long (lN (mi 25)), .int (nI (mi 26)), .int (nI (mi 27)), .ref (mr 28), .int (nI (mi 29)), .int (nI (mi 30)), .int (nI (mi 31)), .int (nI (mi 32))])), (mr 0, .inl (Z 0, 18, .inl (aI p)))]) (wr := [(mr 14, .inl (Z 1, 11, .inr (.inl (aL v))))]) (rest := []) hw hA [0, 1] [2] rfl rfl rfl rfl (by decide) (fun hPc hDc => va_runV (As := [.ref (mr 0), .int (nI (p 0))]) (rest := []) ⟨hx, hb, hml, hown, hts⟩ (c_best1 l D Z H.size M mr mi ima p (p 0) hn.2 hal h9 h10) (cwV 2 hts gX8_count_X8_bestAge rfl rfl rfl (by decide +kernel) ⟨Nat.le_of_ble_eq_true rfl, Nat.le_of_ble_eq_true rfl⟩) ⟨fb_cPre, va_recv hK.1 hPc (ci := 8) (q0 := 0) rfl rfl, pre_of hPc hK hDc⟩ rfl rfl hl.1 rfl (lv_room (Nat.le_of_ble_eq_true rfl)) dX8_count_148 ⟨Nat.le_of_ble_eq_true rfl, Nat.le_of_ble_eq_true rfl⟩) (fun r8 uu H locs hr8 hw => ?_)
      obtain ⟨x'_8, y'_8⟩ := uu
      try dsimp only at hr8 hw
      have hw : WS D A s [(mr 14, .inl (Z 1, 11, .inr (.inl (aL v)))), (M, .inr (8, [.ref (mr 0), .ref (mr 1), .int (nI (mi 2)), .ref (mr 3), .ref (mr 4), .int ima, .ref (mr 6), .int (nI (mi 7)), .ref (mr 8), .ref (mr 9), .ref (mr 10), .long (lN x'_8), .long (lN y'_8), .ref (mr 13), .ref (mr 14), .ref (mr 15), .ref (mr 16), .ref (mr 17), .ref (mr 18), .int (nI (mi 19)), .ref (mr 20), .ref (mr 21), .ref (mr 22), .ref (mr 23), .long (lN (mi 24)), .long (lN (mi 25)), .int (nI (mi 26)), .int (nI (mi 27)), .ref (mr 28), .int (nI (mi 29)), .int (nI (mi 30)), .int (nI (mi 31)), .int (nI (mi 32))])), (mr 0, .inl (Z 0, 18, .inl (aI p)))] H locs := hw
      exact q_iret (wout := _) hx hb hr hlocks hAe hK (x'_8, y'_8, v) (hw.sub [1, 2, 0] (by decide) rfl) (by unfold cnD; rw [if_pos (by omega), tnI ejsw]; exact (show _ = nI (ba p (p 0) (p 9) (p 10)) by assumption)) dX8_count_151
    · --
      refine lv_tableIn (x := nI 12) (off := 151) (tgt := 152) hx hb dX8_count_1 (by decide) (by decide) rfl (by decide) ?_
      refine lv_aload_n hx hb dX8_count_152 rfl (lv_at hl 0 rfl) ?_
      refine q_calli (S := Nat × Nat × (Nat → Nat)) (Z := Z) (D := D) (wc := [(M, .inr (8, [.ref (mr 0), .ref (mr 1), .int (nI (mi 2)), .ref (mr 3), .ref (mr 4), .int ima, .ref (mr 6), .int (nI (mi 7)), .ref (mr 8), .ref (mr 9), .ref (mr 10), .long (lN (mi 11)), .long (lN (mi 12)), .ref (mr 13), .ref (mr 14), .ref (mr 15), .ref (mr 16), .ref (mr 17), .ref (mr 18), .int (nI (mi 19)), .ref (mr 20), .ref (mr 21), .ref (mr 22), .ref (mr 23), .long (lN (mi 24)), .long (lN (mi 25)), .int (nI (mi 26)), .int (nI (mi 27)), .ref (mr 28), .int (nI (mi 29)), .int (nI (mi 30)), .int (nI (mi 31)), .int (nI (mi 32))])), (mr 0, .inl (Z 0, 18, .inl (aI p))), (mr 14, .inl (Z 1, 11, .inr (.inl (aL v))))]) (wr := []) (rest := []) hw hA [0, 1, 2] [] rfl rfl rfl rfl (by decide) (fun hPc hDc => va_runV (As := []) (rest := []) ⟨hx, hb, hml, hown, hts⟩ (c_X8_bestBlock l D Z H.size M mr mi ima p v (by first | assumption | omega) (by first | assumption | omega) (by first | assumption | omega) (by first | assumption | omega) (by first | assumption | omega)) (cwV 0 hts gX8_count_X8_bestBlock rfl rfl rfl (by decide +kernel) ⟨Nat.le_of_ble_eq_true rfl, Nat.le_of_ble_eq_true rfl⟩) ⟨fb_cPre, va_recv hK.1 hPc (ci := 8) (q0 := 0) rfl rfl, pre_of hPc hK hDc⟩ rfl rfl hl.1 rfl (lv_room (Nat.le_of_ble_eq_true rfl)) dX8_count_153 ⟨Nat.le_of_ble_eq_true rfl, Nat.le_of_ble_eq_true rfl⟩) (fun r9 uu H locs hr9 hw => ?_)
      obtain ⟨x'_9, y'_9, v'_9⟩ := uu
      try dsimp only at hr9 hw
      have hw : WS D A s [(M, .inr (8, [.ref (mr 0), .ref (mr 1), .int (nI (mi 2)), .ref (mr 3), .ref (mr 4), .int ima, .ref (mr 6), .int (nI (mi 7)), .ref (mr 8), .ref (mr 9), .ref (mr 10), .long (lN x'_9), .long (lN y'_9), .ref (mr 13), .ref (mr 14), .ref (mr 15), .ref (mr 16), .ref (mr 17), .ref (mr 18), .int (nI (mi 19)), .ref (mr 20), .ref (mr 21), .ref (mr 22), .ref (mr 23), .long (lN (mi 24)), .long (lN (mi 25)), .int (nI (mi 26)), .int (nI (mi 27)), .ref (mr 28), .int (nI (mi 29)), .int (nI (mi 30)), .int (nI (mi 31)), .int (nI (mi 32))])), (mr 0, .inl (Z 0, 18, .inl (aI p))), (mr 14, .inl (Z 1, 11, .inr (.inl (aL v'_9))))] H locs := hw
      exact q_iret (wout := _) hx hb hr hlocks hAe hK (x'_9, y'_9, v'_9) hw (by unfold cnD; rw [if_pos (by omega), tnI ejsw]; exact (show _ = nI (bbd p (fT p (p 0) 10 v) 9) by assumption)) dX8_count_156
    · --
      refine lv_tableIn (x := nI 13) (off := 156) (tgt := 157) hx hb dX8_count_1 (by decide) (by decide) rfl (by decide) ?_
      refine lv_aload_n hx hb dX8_count_157 rfl (lv_at hl 0 rfl) ?_
      refine q_get (v := .int (nI (mi 2))) (ci := 8) hx hb hts in_X8 hown hK hw 0 2 wd2 dX8_count_158 rfl rfl (by decide) rfl ?_
      exact q_iret (wout := _) hx hb hr hlocks hAe hK (mi 11, mi 12, v) hw (by unfold cnD; rw [if_pos (by omega), tnI ejsw]; rfl) dX8_count_161
  · --
    refine lv_tableOut (x := wh) (tgt := 162) hx hb dX8_count_1 (by omega) (by decide) ?_
    refine lv_iconst (v := (-1)) hx hb dX8_count_162 (by decide) ?_
    exact q_iret (wout := _) hx hb hr hlocks hAe hK (mi 11, mi 12, v) hw ((if_neg (by omega)).symm) dX8_count_163
