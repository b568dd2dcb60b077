/-- WEIGHTS come to the items: c of them -/
def fmM (p : Nat → Nat) (f : Nat → Int64) (a : Nat) : Nat → Nat → Int64
  | 0 => f
  | c + 1 => vp_updL (fmM p f a c) (a + c) (lN (p (c + 1)))
def itF (it : Nat → Int64) (s k : Nat) : Int64 := it (24 * s + k)
theorem cpL_0 (f g : Nat → Int64) (i j : Nat) : va_cpy f g i j 0 = g := by funext k; simp only [va_cpy]; rw [if_neg (by omega)]
theorem cpL_up (f g : Nat → Int64) (i j c : Nat) : vp_updL (va_cpy f g i j c) (j + c) (f (i + c)) = va_cpy f g i j (c + 1) := by
  funext k; simp only [vp_updL, va_cpy]
  by_cases h : k = j + c
  · rw [if_pos h, if_pos (by omega), h]; congr 1; omega
  · rw [if_neg h]
    by_cases h2 : j ≤ k ∧ k < j + c
    · rw [if_pos h2, if_pos (by omega)]
    · rw [if_neg h2, if_neg (by omega)]
theorem cpL_dn {f g : Nat → Int64} {i j c n : Nat} (hc : c < n) : vp_updL (va_cpy f g (i + (n - c)) (j + (n - c)) c) (j + (n - 1 - c)) (f (i + (n - 1 - c))) = va_cpy f g (i + (n - (c + 1))) (j + (n - (c + 1))) (c + 1) := by
  funext k; simp only [vp_updL, va_cpy]
  by_cases h : k = j + (n - 1 - c)
  · rw [if_pos h, if_pos (by omega), h]; congr 1; omega
  · rw [if_neg h]
    by_cases h2 : j + (n - c) ≤ k ∧ k < j + (n - c) + c
    · rw [if_pos h2, if_pos (by omega)]; congr 1; omega
    · rw [if_neg h2, if_neg (by omega)]
set_option maxHeartbeats 4000000 in
set_option maxRecDepth 100000 in
theorem c_X8_item (l : Launch) (D : va_G) (Z : Nat → ClassId) (zs0 : Nat) (M : Nat) (mr mi : Nat → Nat) (ima : Int32) (th la le : Nat → Nat) (it : Nat → Int64) (q ln i : Int32) (v : Int64) (hla : ∀ k, k < 4 → la k ≤ 3) (hle : ∀ k, k < 4 → le k ≤ 24) : cMi l yX8_item wsX8_item (rmd 2) D Z zs0 [.ref M, .int q, .int ln, .int i, .long v] [(M, .inr (8, [.ref (mr 0), .ref (mr 1), .int (nI (mi 2)), .ref (mr 3), .ref (mr 4), .int ima, .ref (mr 6), .int (nI (mi 7)), .ref (mr 8), .ref (mr 9), .ref (mr 10), .long (lN (mi 11)), .long (lN (mi 12)), .ref (mr 13), .ref (mr 14), .ref (mr 15), .ref (mr 16), .ref (mr 17), .ref (mr 18), .int (nI (mi 19)), .ref (mr 20), .ref (mr 21), .ref (mr 22), .ref (mr 23), .long (lN (mi 24)), .long (lN (mi 25)), .int (nI (mi 26)), .int (nI (mi 27)), .ref (mr 28), .int (nI (mi 29)), .int (nI (mi 30)), .int (nI (mi 31)), .int (nI (mi 32))])), (mr 8, .inl (Z 0, 4, .inl (lnR th la))), (mr 9, .inl (Z 0, 4, .inl (aI le))), (mr 10, .inl (Z 1, 96, .inr (.inl it)))] (S := (Nat → Int64)) (fun (r : Int32) => fun (it' : Nat → Int64) => r = itC th la le q ln i ∧ ((¬ itOk th la le q ln i ∧ it' = it) ∨ (itOk th la le q ln i ∧ it' = vp_updL it (24 * q.toInt.toNat + i.toInt.toNat) (lob (la q.toInt.toNat) v)))) (fun (it' : Nat → Int64) => [(M, .inr (8, [.ref (mr 0), .ref (mr 1), .int (nI (mi 2)), .ref (mr 3), .ref (mr 4), .int ima, .ref (mr 6), .int (nI (mi 7)), .ref (mr 8), .ref (mr 9), .ref (mr 10), .long (lN (mi 11)), .long (lN (mi 12)), .ref (mr 13), .ref (mr 14), .ref (mr 15), .ref (mr 16), .ref (mr 17), .ref (mr 18), .int (nI (mi 19)), .ref (mr 20), .ref (mr 21), .ref (mr 22), .ref (mr 23), .long (lN (mi 24)), .long (lN (mi 25)), .int (nI (mi 26)), .int (nI (mi 27)), .ref (mr 28), .int (nI (mi 29)), .int (nI (mi 30)), .int (nI (mi 31)), .int (nI (mi 32))])), (mr 8, .inl (Z 0, 4, .inl (lnR th la))), (mr 9, .inl (Z 0, 4, .inl (aI le))), (mr 10, .inl (Z 1, 96, .inr (.inl it')))]) 0 0 := by
  refine q_open (y := yX8_item) (ws := wsX8_item) (av := [.ref M, .int q, .int ln, .int i, .long v]) (win := [(M, .inr (8, [.ref (mr 0), .ref (mr 1), .int (nI (mi 2)), .ref (mr 3), .ref (mr 4), .int ima, .ref (mr 6), .int (nI (mi 7)), .ref (mr 8), .ref (mr 9), .ref (mr 10), .long (lN (mi 11)), .long (lN (mi 12)), .ref (mr 13), .ref (mr 14), .ref (mr 15), .ref (mr 16), .ref (mr 17), .ref (mr 18), .int (nI (mi 19)), .ref (mr 20), .ref (mr 21), .ref (mr 22), .ref (mr 23), .long (lN (mi 24)), .long (lN (mi 25)), .int (nI (mi 26)), .int (nI (mi 27)), .ref (mr 28), .int (nI (mi 29)), .int (nI (mi 30)), .int (nI (mi 31)), .int (nI (mi 32))])), (mr 8, .inl (Z 0, 4, .inl (lnR th la))), (mr 9, .inl (Z 0, 4, .inl (aI le))), (mr 10, .inl (Z 1, 96, .inr (.inl it)))]) (Qc := fun zs0 => cQi D Z zs0 [(M, .inr (8, [.ref (mr 0), .ref (mr 1), .int (nI (mi 2)), .ref (mr 3), .ref (mr 4), .int ima, .ref (mr 6), .int (nI (mi 7)), .ref (mr 8), .ref (mr 9), .ref (mr 10), .long (lN (mi 11)), .long (lN (mi 12)), .ref (mr 13), .ref (mr 14), .ref (mr 15), .ref (mr 16), .ref (mr 17), .ref (mr 18), .int (nI (mi 19)), .ref (mr 20), .ref (mr 21), .ref (mr 22), .ref (mr 23), .long (lN (mi 24)), .long (lN (mi 25)), .int (nI (mi 26)), .int (nI (mi 27)), .ref (mr 28), .int (nI (mi 29)), .int (nI (mi 30)), .int (nI (mi 31)), .int (nI (mi 32))])), (mr 8, .inl (Z 0, 4, .inl (lnR th la))), (mr 9, .inl (Z 0, 4, .inl (aI le))), (mr 10, .inl (Z 1, 96, .inr (.inl it)))] (S := (Nat → Int64)) (fun (r : Int32) => fun (it' : Nat → Int64) => r = itC th la le q ln i ∧ ((¬ itOk th la le q ln i ∧ it' = it) ∨ (itOk th la le q ln i ∧ it' = vp_updL it (24 * q.toInt.toNat + i.toInt.toNat) (lob (la q.toInt.toNat) v)))) (fun (it' : Nat → Int64) => [(M, .inr (8, [.ref (mr 0), .ref (mr 1), .int (nI (mi 2)), .ref (mr 3), .ref (mr 4), .int ima, .ref (mr 6), .int (nI (mi 7)), .ref (mr 8), .ref (mr 9), .ref (mr 10), .long (lN (mi 11)), .long (lN (mi 12)), .ref (mr 13), .ref (mr 14), .ref (mr 15), .ref (mr 16), .ref (mr 17), .ref (mr 18), .int (nI (mi 19)), .ref (mr 20), .ref (mr 21), .ref (mr 22), .ref (mr 23), .long (lN (mi 24)), .long (lN (mi 25)), .int (nI (mi 26)), .int (nI (mi 27)), .ref (mr 28), .int (nI (mi 29)), .int (nI (mi 30)), .int (nI (mi 31)), .int (nI (mi 32))])), (mr 8, .inl (Z 0, 4, .inl (lnR th la))), (mr 9, .inl (Z 0, 4, .inl (aI le))), (mr 10, .inl (Z 1, 96, .inr (.inl it')))])) (cc := cX8_item) (maxL := 7) (ret := (some .int)) (by decide) rfl (Nat.le_of_ble_eq_true rfl) ?_
  intro pp ee s mm bw mt cd ls A H locs hAe hx hb hr hml hown hmn hts hlocks hA hK hw hl
  have hown : s.vm.findClass RX8 = some mm.cls := hown
  have hl : lv_has ls 7 [(0, .ref M), (1, .int q), (2, .int ln), (3, .int i), (4, .long v)] := hl
  have wd1 := hts (.fieldLink RX8 35 "ReplaceAgesModel" "items" "[J") (List.mem_of_getElem? (i := 1) rfl)
  have in_X8 : ∀ w ∈ wsX80, w ∈ wsX8_item := fun _ h => List.mem_cons_of_mem _ (List.mem_append_right _ h)
  refine lv_iload_n hx hb dX8_item_0 rfl (lv_at hl 1 rfl) ?_
  refine lv_iload_n hx hb dX8_item_1 rfl (lv_at hl 2 rfl) ?_
  refine q_calli (S := Unit) (Z := Z) (D := D) (wc := []) (wr := [(M, .inr (8, [.ref (mr 0), .ref (mr 1), .int (nI (mi 2)), .ref (mr 3), .ref (mr 4), .int ima, .ref (mr 6), .int (nI (mi 7)), .ref (mr 8), .ref (mr 9), .ref (mr 10), .long (lN (mi 11)), .long (lN (mi 12)), .ref (mr 13), .ref (mr 14), .ref (mr 15), .ref (mr 16), .ref (mr 17), .ref (mr 18), .int (nI (mi 19)), .ref (mr 20), .ref (mr 21), .ref (mr 22), .ref (mr 23), .long (lN (mi 24)), .long (lN (mi 25)), .int (nI (mi 26)), .int (nI (mi 27)), .ref (mr 28), .int (nI (mi 29)), .int (nI (mi 30)), .int (nI (mi 31)), .int (nI (mi 32))])), (mr 8, .inl (Z 0, 4, .inl (lnR th la))), (mr 9, .inl (Z 0, 4, .inl (aI le))), (mr 10, .inl (Z 1, 96, .inr (.inl it)))]) (rest := []) hw hA [] [0, 1, 2, 3] rfl rfl rfl rfl (by decide) (fun hPc hDc => va_runS (As := [.int q, .int ln]) (rest := []) ⟨hx, hb, hml, hown, hts⟩ (c_X8_isSheet l D Z H.size q ln ) (va_cwS 2 hts gX8_item_X8_isSheet rfl rfl rfl (by decide +kernel) ⟨Nat.le_of_ble_eq_true rfl, Nat.le_of_ble_eq_true rfl⟩) ⟨fb_cPre, pre_of hPc hK hDc⟩ rfl rfl hl.1 rfl (lv_room (Nat.le_of_ble_eq_true rfl)) dX8_item_2 ⟨Nat.le_of_ble_eq_true rfl, Nat.le_of_ble_eq_true rfl⟩) (fun r1 uu H locs hr1 hw => ?_)
  subst hr1
  have hw : WS D A s [(M, .inr (8, [.ref (mr 0), .ref (mr 1), .int (nI (mi 2)), .ref (mr 3), .ref (mr 4), .int ima, .ref (mr 6), .int (nI (mi 7)), .ref (mr 8), .ref (mr 9), .ref (mr 10), .long (lN (mi 11)), .long (lN (mi 12)), .ref (mr 13), .ref (mr 14), .ref (mr 15), .ref (mr 16), .ref (mr 17), .ref (mr 18), .int (nI (mi 19)), .ref (mr 20), .ref (mr 21), .ref (mr 22), .ref (mr 23), .long (lN (mi 24)), .long (lN (mi 25)), .int (nI (mi 26)), .int (nI (mi 27)), .ref (mr 28), .int (nI (mi 29)), .int (nI (mi 30)), .int (nI (mi 31)), .int (nI (mi 32))])), (mr 8, .inl (Z 0, 4, .inl (lnR th la))), (mr 9, .inl (Z 0, 4, .inl (aI le))), (mr 10, .inl (Z 1, 96, .inr (.inl it)))] H locs := hw
  refine q_if_ne (tgt := 10) hx hb ((bb (0 ≤ q.toInt ∧ q.toInt ≤ 3 ∧ 0 ≤ ln.toInt ∧ ln.toInt ≤ 3) : Nat) : Int) (nI_toInt (Nat.lt_of_le_of_lt (bb_le _) (by decide))) dX8_item_5 (by decide) (fun c2 => ?_) (fun c2 => ?_)
  · --
    have c2 := bb_1 c2
    obtain ⟨j, rfl, ej⟩ := i32_nat (x := q) (by omega)
    obtain ⟨x, rfl, ex⟩ := i32_nat (x := ln) (by omega)
    refine lv_aload_n hx hb dX8_item_10 rfl (lv_at hl 0 rfl) ?_
    refine lv_iload_n hx hb dX8_item_11 rfl (lv_at hl 1 rfl) ?_
    refine lv_iload_n hx hb dX8_item_12 rfl (lv_at hl 2 rfl) ?_
    refine lv_iload_n hx hb dX8_item_13 rfl (lv_at hl 3 rfl) ?_
    refine q_iconst (v := 1) hx hb dX8_item_14 (by decide) ?_
    refine q_calli (S := Unit) (Z := Z) (D := D) (wc := [(M, .inr (8, [.ref (mr 0), .ref (mr 1), .int (nI (mi 2)), .ref (mr 3), .ref (mr 4), .int ima, .ref (mr 6), .int (nI (mi 7)), .ref (mr 8), .ref (mr 9), .ref (mr 10), .long (lN (mi 11)), .long (lN (mi 12)), .ref (mr 13), .ref (mr 14), .ref (mr 15), .ref (mr 16), .ref (mr 17), .ref (mr 18), .int (nI (mi 19)), .ref (mr 20), .ref (mr 21), .ref (mr 22), .ref (mr 23), .long (lN (mi 24)), .long (lN (mi 25)), .int (nI (mi 26)), .int (nI (mi 27)), .ref (mr 28), .int (nI (mi 29)), .int (nI (mi 30)), .int (nI (mi 31)), .int (nI (mi 32))])), (mr 8, .inl (Z 0, 4, .inl (lnR th la))), (mr 9, .inl (Z 0, 4, .inl (aI le)))]) (wr := [(mr 10, .inl (Z 1, 96, .inr (.inl it)))]) (rest := []) hw hA [0, 1, 2] [3] rfl rfl rfl rfl (by decide) (fun hPc hDc => va_runV (As := [.int (nI j), .int (nI x), .int i, .int (nI 1)]) (rest := []) ⟨hx, hb, hml, hown, hts⟩ (c_X8_found l D Z H.size M mr mi ima th la le j x i 1 (by first | assumption | omega) (by first | assumption | omega) (by omega) (by omega) (by omega)) (cwV 4 hts gX8_item_X8_found rfl rfl rfl (by decide +kernel) ⟨Nat.le_of_ble_eq_true rfl, Nat.le_of_ble_eq_true rfl⟩) ⟨fb_cPre, va_recv hK.1 hPc (ci := 8) (q0 := 0) rfl rfl, pre_of hPc hK hDc⟩ rfl rfl hl.1 rfl (lv_room (Nat.le_of_ble_eq_true rfl)) dX8_item_15 ⟨Nat.le_of_ble_eq_true rfl, Nat.le_of_ble_eq_true rfl⟩) (fun r3 uu H locs hr3 hw => ?_)
    subst hr3
    have hw : WS D A s [(mr 10, .inl (Z 1, 96, .inr (.inl it))), (M, .inr (8, [.ref (mr 0), .ref (mr 1), .int (nI (mi 2)), .ref (mr 3), .ref (mr 4), .int ima, .ref (mr 6), .int (nI (mi 7)), .ref (mr 8), .ref (mr 9), .ref (mr 10), .long (lN (mi 11)), .long (lN (mi 12)), .ref (mr 13), .ref (mr 14), .ref (mr 15), .ref (mr 16), .ref (mr 17), .ref (mr 18), .int (nI (mi 19)), .ref (mr 20), .ref (mr 21), .ref (mr 22), .ref (mr 23), .long (lN (mi 24)), .long (lN (mi 25)), .int (nI (mi 26)), .int (nI (mi 27)), .ref (mr 28), .int (nI (mi 29)), .int (nI (mi 30)), .int (nI (mi 31)), .int (nI (mi 32))])), (mr 8, .inl (Z 0, 4, .inl (lnR th la))), (mr 9, .inl (Z 0, 4, .inl (aI le)))] H locs := hw
    refine lv_istore (lv' := [(6, .int (rfu (th j) (la j) (le j) x i (nI 1))), (0, .ref M), (1, .int (nI j)), (2, .int (nI x)), (3, .int i), (4, .long v)]) hx hb dX8_item_18 hl (by decide) rfl (fun ls hl => ?_)
    refine lv_iload hx hb dX8_item_20 (lv_at hl 0 rfl) ?_
    refine q_if_eq (tgt := 28) hx hb (rfu (th j) (la j) (le j) x i (nI 1)).toInt rfl dX8_item_22 (by decide) (fun c4 => ?_) (fun c4 => ?_)
    · --
      have hrf := rfu_0 c4
      have hrf3 := hrf.2.2
      obtain ⟨y, rfl, ey⟩ := i32_nat (x := i) (by omega)
      have l2 := hle j (by omega)
      have k1 : (nI 1).toInt = 1 := by decide
      refine lv_aload_n hx hb dX8_item_28 rfl (lv_at hl 1 rfl) ?_
      refine q_get (v := .ref (mr 10)) (ci := 8) hx hb hts in_X8 hown hK hw 1 10 wd1 dX8_item_29 rfl rfl (by decide) rfl ?_
      refine q_bipush (v := 24) hx hb dX8_item_32 (by decide) ?_
      refine lv_iload_n hx hb dX8_item_34 rfl (lv_at hl 2 rfl) ?_
      refine q_imul hx hb dX8_item_35 ?_
      refine lv_iload_n hx hb dX8_item_36 rfl (lv_at hl 4 rfl) ?_
      refine q_iadd hx hb dX8_item_37 ?_
      refine lv_lload hx hb dX8_item_38 (lv_at hl 5 rfl) ?_
      refine lv_iload_n hx hb dX8_item_40 rfl (lv_at hl 3 rfl) ?_
      refine q_calll (S := Unit) (Z := Z) (D := D) (wc := []) (wr := [(mr 10, .inl (Z 1, 96, .inr (.inl it))), (M, .inr (8, [.ref (mr 0), .ref (mr 1), .int (nI (mi 2)), .ref (mr 3), .ref (mr 4), .int ima, .ref (mr 6), .int (nI (mi 7)), .ref (mr 8), .ref (mr 9), .ref (mr 10), .long (lN (mi 11)), .long (lN (mi 12)), .ref (mr 13), .ref (mr 14), .ref (mr 15), .ref (mr 16), .ref (mr 17), .ref (mr 18), .int (nI (mi 19)), .ref (mr 20), .ref (mr 21), .ref (mr 22), .ref (mr 23), .long (lN (mi 24)), .long (lN (mi 25)), .int (nI (mi 26)), .int (nI (mi 27)), .ref (mr 28), .int (nI (mi 29)), .int (nI (mi 30)), .int (nI (mi 31)), .int (nI (mi 32))])), (mr 8, .inl (Z 0, 4, .inl (lnR th la))), (mr 9, .inl (Z 0, 4, .inl (aI le)))]) (rest := [.int (nI (24 * j + y)), .ref (mr 10)]) hw hA [] [0, 1, 2, 3] rfl rfl rfl rfl (by decide) (fun hPc hDc => va_runS (As := [.long v, .int (nI x)]) (rest := [.int (nI (24 * j + y)), .ref (mr 10)]) ⟨hx, hb, hml, hown, hts⟩ (c_X8_lowest l D Z H.size v x (by first | assumption | omega)) (va_cwS 2 hts gX8_item_X8_lowest rfl rfl rfl (by decide +kernel) ⟨Nat.le_of_ble_eq_true rfl, Nat.le_of_ble_eq_true rfl⟩) ⟨fb_cPre, pre_of hPc hK hDc⟩ rfl rfl hl.1 rfl (lv_room (Nat.le_of_ble_eq_true rfl)) dX8_item_41 ⟨Nat.le_of_ble_eq_true rfl, Nat.le_of_ble_eq_true rfl⟩) (fun r5 uu H locs hr5 hw => ?_)
      subst hr5
      have hw : WS D A s [(mr 10, .inl (Z 1, 96, .inr (.inl it))), (M, .inr (8, [.ref (mr 0), .ref (mr 1), .int (nI (mi 2)), .ref (mr 3), .ref (mr 4), .int ima, .ref (mr 6), .int (nI (mi 7)), .ref (mr 8), .ref (mr 9), .ref (mr 10), .long (lN (mi 11)), .long (lN (mi 12)), .ref (mr 13), .ref (mr 14), .ref (mr 15), .ref (mr 16), .ref (mr 17), .ref (mr 18), .int (nI (mi 19)), .ref (mr 20), .ref (mr 21), .ref (mr 22), .ref (mr 23), .long (lN (mi 24)), .long (lN (mi 25)), .int (nI (mi 26)), .int (nI (mi 27)), .ref (mr 28), .int (nI (mi 29)), .int (nI (mi 30)), .int (nI (mi 31)), .int (nI (mi 32))])), (mr 8, .inl (Z 0, 4, .inl (lnR th la))), (mr 9, .inl (Z 0, 4, .inl (aI le)))] H locs := hw
      refine q_lasR hx hb hK hw 0 (by omega) (by omega) dX8_item_44 rfl (fun H locs hw => ?_)
      have hw : WS D A s [(mr 10, .inl (Z 1, 96, .inr (.inl (vp_updL it (24 * j + y) (lob x v))))), (M, .inr (8, [.ref (mr 0), .ref (mr 1), .int (nI (mi 2)), .ref (mr 3), .ref (mr 4), .int ima, .ref (mr 6), .int (nI (mi 7)), .ref (mr 8), .ref (mr 9), .ref (mr 10), .long (lN (mi 11)), .long (lN (mi 12)), .ref (mr 13), .ref (mr 14), .ref (mr 15), .ref (mr 16), .ref (mr 17), .ref (mr 18), .int (nI (mi 19)), .ref (mr 20), .ref (mr 21), .ref (mr 22), .ref (mr 23), .long (lN (mi 24)), .long (lN (mi 25)), .int (nI (mi 26)), .int (nI (mi 27)), .ref (mr 28), .int (nI (mi 29)), .int (nI (mi 30)), .int (nI (mi 31)), .int (nI (mi 32))])), (mr 8, .inl (Z 0, 4, .inl (lnR th la))), (mr 9, .inl (Z 0, 4, .inl (aI le)))] H locs := hw
      refine q_iconst (v := 1) hx hb dX8_item_45 (by decide) ?_
      exact q_iret (wout := _) hx hb hr hlocks hAe hK (vp_updL it (24 * j + y) (lob x v)) (hw.sub [1, 2, 3, 0] (by decide) rfl) (⟨by unfold itC; rw [if_neg (by omega), tnI ej, tnI ex, if_pos (rfu_z hrf)], Or.inr ⟨⟨by omega, by rw [tnI ej, tnI ex]; exact rfu_z hrf⟩, by rw [tnI ej, tnI ey, hrf.2.1]⟩⟩) dX8_item_46
    · --
      have hrn := rfu_n c4
      refine lv_iload hx hb dX8_item_25 (lv_at hl 0 rfl) ?_
      exact q_iret (wout := _) hx hb hr hlocks hAe hK it (hw.sub [1, 2, 3, 0] (by decide) rfl) (⟨by unfold itC; rw [if_neg (by omega), tnI ej, tnI ex, if_neg hrn], Or.inl ⟨fun h => by unfold itOk at h; rw [tnI ej, tnI ex] at h; exact hrn h.2, rfl⟩⟩) dX8_item_27
  · --
    have c2 := bb_0 c2
    refine lv_iconst (v := (-1)) hx hb dX8_item_8 (by decide) ?_
    exact q_iret (wout := _) hx hb hr hlocks hAe hK it hw (⟨(if_pos (by omega)).symm, Or.inl ⟨fun h => by unfold itOk at h; omega, rfl⟩⟩) dX8_item_9
set_option maxHeartbeats 4000000 in
set_option maxRecDepth 100000 in
theorem c_X8_film (l : Launch) (D : va_G) (Z : Nat → ClassId) (zs0 : Nat) (M : Nat) (mr mi : Nat → Nat) (ima : Int32) (th la le : Nat → Nat) (it : Nat → Int64) (p : Nat → Nat) (q ln i : Int32) (hn : 1 ≤ p 0 ∧ p 0 ≤ 8) (hs : lf p (p 0) 0 ≤ 24) (hzn : 0 < p (p 0)) (hla : ∀ k, k < 4 → la k ≤ 3) (hle : ∀ k, k < 4 → le k ≤ 24) : cMi l yX8_film wsX8_film (rmd 2) D Z zs0 [.ref M, .int q, .int ln, .int i] [(M, .inr (8, [.ref (mr 0), .ref (mr 1), .int (nI (mi 2)), .ref (mr 3), .ref (mr 4), .int ima, .ref (mr 6), .int (nI (mi 7)), .ref (mr 8), .ref (mr 9), .ref (mr 10), .long (lN (mi 11)), .long (lN (mi 12)), .ref (mr 13), .ref (mr 14), .ref (mr 15), .ref (mr 16), .ref (mr 17), .ref (mr 18), .int (nI (mi 19)), .ref (mr 20), .ref (mr 21), .ref (mr 22), .ref (mr 23), .long (lN (mi 24)), .long (lN (mi 25)), .int (nI (mi 26)), .int (nI (mi 27)), .ref (mr 28), .int (nI (mi 29)), .int (nI (mi 30)), .int (nI (mi 31)), .int (nI (mi 32))])), (mr 0, .inl (Z 0, 18, .inl (aI p))), (mr 8, .inl (Z 0, 4, .inl (lnR th la))), (mr 9, .inl (Z 0, 4, .inl (aI le))), (mr 10, .inl (Z 1, 96, .inr (.inl it)))] (S := (Nat → Int64)) (fun (r : Int32) => fun (it' : Nat → Int64) => r = fmC (p 0) th la le q ln i ∧ ((¬ fmOk (p 0) th la le q ln i ∧ it' = it) ∨ (fmOk (p 0) th la le q ln i ∧ it' = fmM p it (24 * q.toInt.toNat + i.toInt.toNat) (p 0)))) (fun (it' : Nat → Int64) => [(M, .inr (8, [.ref (mr 0), .ref (mr 1), .int (nI (mi 2)), .ref (mr 3), .ref (mr 4), .int ima, .ref (mr 6), .int (nI (mi 7)), .ref (mr 8), .ref (mr 9), .ref (mr 10), .long (lN (mi 11)), .long (lN (mi 12)), .ref (mr 13), .ref (mr 14), .ref (mr 15), .ref (mr 16), .ref (mr 17), .ref (mr 18), .int (nI (mi 19)), .ref (mr 20), .ref (mr 21), .ref (mr 22), .ref (mr 23), .long (lN (mi 24)), .long (lN (mi 25)), .int (nI (mi 26)), .int (nI (mi 27)), .ref (mr 28), .int (nI (mi 29)), .int (nI (mi 30)), .int (nI (mi 31)), .int (nI (mi 32))])), (mr 0, .inl (Z 0, 18, .inl (aI p))), (mr 8, .inl (Z 0, 4, .inl (lnR th la))), (mr 9, .inl (Z 0, 4, .inl (aI le))), (mr 10, .inl (Z 1, 96, .inr (.inl it')))]) 0 0 := by
  refine q_open (y := yX8_film) (ws := wsX8_film) (av := [.ref M, .int q, .int ln, .int i]) (win := [(M, .inr (8, [.ref (mr 0), .ref (mr 1), .int (nI (mi 2)), .ref (mr 3), .ref (mr 4), .int ima, .ref (mr 6), .int (nI (mi 7)), .ref (mr 8), .ref (mr 9), .ref (mr 10), .long (lN (mi 11)), .long (lN (mi 12)), .ref (mr 13), .ref (mr 14), .ref (mr 15), .ref (mr 16), .ref (mr 17), .ref (mr 18), .int (nI (mi 19)), .ref (mr 20), .ref (mr 21), .ref (mr 22), .ref (mr 23), .long (lN (mi 24)), .long (lN (mi 25)), .int (nI (mi 26)), .int (nI (mi 27)), .ref (mr 28), .int (nI (mi 29)), .int (nI (mi 30)), .int (nI (mi 31)), .int (nI (mi 32))])), (mr 0, .inl (Z 0, 18, .inl (aI p))), (mr 8, .inl (Z 0, 4, .inl (lnR th la))), (mr 9, .inl (Z 0, 4, .inl (aI le))), (mr 10, .inl (Z 1, 96, .inr (.inl it)))]) (Qc := fun zs0 => cQi D Z zs0 [(M, .inr (8, [.ref (mr 0), .ref (mr 1), .int (nI (mi 2)), .ref (mr 3), .ref (mr 4), .int ima, .ref (mr 6), .int (nI (mi 7)), .ref (mr 8), .ref (mr 9), .ref (mr 10), .long (lN (mi 11)), .long (lN (mi 12)), .ref (mr 13), .ref (mr 14), .ref (mr 15), .ref (mr 16), .ref (mr 17), .ref (mr 18), .int (nI (mi 19)), .ref (mr 20), .ref (mr 21), .ref (mr 22), .ref (mr 23), .long (lN (mi 24)), .long (lN (mi 25)), .int (nI (mi 26)), .int (nI (mi 27)), .ref (mr 28), .int (nI (mi 29)), .int (nI (mi 30)), .int (nI (mi 31)), .int (nI (mi 32))])), (mr 0, .inl (Z 0, 18, .inl (aI p))), (mr 8, .inl (Z 0, 4, .inl (lnR th la))), (mr 9, .inl (Z 0, 4, .inl (aI le))), (mr 10, .inl (Z 1, 96, .inr (.inl it)))] (S := (Nat → Int64)) (fun (r : Int32) => fun (it' : Nat → Int64) => r = fmC (p 0) th la le q ln i ∧ ((¬ fmOk (p 0) th la le q ln i ∧ it' = it) ∨ (fmOk (p 0) th la le q ln i ∧ it' = fmM p it (24 * q.toInt.toNat + i.toInt.toNat) (p 0)))) (fun (it' : Nat → Int64) => [(M, .inr (8, [.ref (mr 0), .ref (mr 1), .int (nI (mi 2)), .ref (mr 3), .ref (mr 4), .int ima, .ref (mr 6), .int (nI (mi 7)), .ref (mr 8), .ref (mr 9), .ref (mr 10), .long (lN (mi 11)), .long (lN (mi 12)), .ref (mr 13), .ref (mr 14), .ref (mr 15), .ref (mr 16), .ref (mr 17), .ref (mr 18), .int (nI (mi 19)), .ref (mr 20), .ref (mr 21), .ref (mr 22), .ref (mr 23), .long (lN (mi 24)), .long (lN (mi 25)), .int (nI (mi 26)), .int (nI (mi 27)), .ref (mr 28), .int (nI (mi 29)), .int (nI (mi 30)), .int (nI (mi 31)), .int (nI (mi 32))])), (mr 0, .inl (Z 0, 18, .inl (aI p))), (mr 8, .inl (Z 0, 4, .inl (lnR th la))), (mr 9, .inl (Z 0, 4, .inl (aI le))), (mr 10, .inl (Z 1, 96, .inr (.inl it')))])) (cc := cX8_film) (maxL := 6) (ret := (some .int)) (by decide) rfl (Nat.le_of_ble_eq_true rfl) ?_
  intro pp ee s mm bw mt cd ls A H locs hAe hx hb hr hml hown hmn hts hlocks hA hK hw hl
  have hown : s.vm.findClass RX8 = some mm.cls := hown
  have hl : lv_has ls 6 [(0, .ref M), (1, .int q), (2, .int ln), (3, .int i)] := hl
  have wd1 := hts (.fieldLink RX8 7 "ReplaceAgesModel" "st" "[I") (List.mem_of_getElem? (i := 1) rfl)
  have wd2 := hts (.fieldLink RX8 35 "ReplaceAgesModel" "items" "[J") (List.mem_of_getElem? (i := 2) rfl)
  have in_X8 : ∀ w ∈ wsX80, w ∈ wsX8_film := fun _ h => List.mem_cons_of_mem _ (List.mem_append_right _ h)
  refine lv_iload_n hx hb dX8_film_0 rfl (lv_at hl 1 rfl) ?_
  refine lv_iload_n hx hb dX8_film_1 rfl (lv_at hl 2 rfl) ?_
  refine q_calli (S := Unit) (Z := Z) (D := D) (wc := []) (wr := [(M, .inr (8, [.ref (mr 0), .ref (mr 1), .int (nI (mi 2)), .ref (mr 3), .ref (mr 4), .int ima, .ref (mr 6), .int (nI (mi 7)), .ref (mr 8), .ref (mr 9), .ref (mr 10), .long (lN (mi 11)), .long (lN (mi 12)), .ref (mr 13), .ref (mr 14), .ref (mr 15), .ref (mr 16), .ref (mr 17), .ref (mr 18), .int (nI (mi 19)), .ref (mr 20), .ref (mr 21), .ref (mr 22), .ref (mr 23), .long (lN (mi 24)), .long (lN (mi 25)), .int (nI (mi 26)), .int (nI (mi 27)), .ref (mr 28), .int (nI (mi 29)), .int (nI (mi 30)), .int (nI (mi 31)), .int (nI (mi 32))])), (mr 0, .inl (Z 0, 18, .inl (aI p))), (mr 8, .inl (Z 0, 4, .inl (lnR th la))), (mr 9, .inl (Z 0, 4, .inl (aI le))), (mr 10, .inl (Z 1, 96, .inr (.inl it)))]) (rest := []) hw hA [] [0, 1, 2, 3, 4] rfl rfl rfl rfl (by decide) (fun hPc hDc => va_runS (As := [.int q, .int ln]) (rest := []) ⟨hx, hb, hml, hown, hts⟩ (c_X8_isSheet l D Z H.size q ln ) (va_cwS 2 hts gX8_film_X8_isSheet rfl rfl rfl (by decide +kernel) ⟨Nat.le_of_ble_eq_true rfl, Nat.le_of_ble_eq_true rfl⟩) ⟨fb_cPre, pre_of hPc hK hDc⟩ rfl rfl hl.1 rfl (lv_room (Nat.le_of_ble_eq_true rfl)) dX8_film_2 ⟨Nat.le_of_ble_eq_true rfl, Nat.le_of_ble_eq_true rfl⟩) (fun r1 uu H locs hr1 hw => ?_)
  subst hr1
  have hw : WS D A s [(M, .inr (8, [.ref (mr 0), .ref (mr 1), .int (nI (mi 2)), .ref (mr 3), .ref (mr 4), .int ima, .ref (mr 6), .int (nI (mi 7)), .ref (mr 8), .ref (mr 9), .ref (mr 10), .long (lN (mi 11)), .long (lN (mi 12)), .ref (mr 13), .ref (mr 14), .ref (mr 15), .ref (mr 16), .ref (mr 17), .ref (mr 18), .int (nI (mi 19)), .ref (mr 20), .ref (mr 21), .ref (mr 22), .ref (mr 23), .long (lN (mi 24)), .long (lN (mi 25)), .int (nI (mi 26)), .int (nI (mi 27)), .ref (mr 28), .int (nI (mi 29)), .int (nI (mi 30)), .int (nI (mi 31)), .int (nI (mi 32))])), (mr 0, .inl (Z 0, 18, .inl (aI p))), (mr 8, .inl (Z 0, 4, .inl (lnR th la))), (mr 9, .inl (Z 0, 4, .inl (aI le))), (mr 10, .inl (Z 1, 96, .inr (.inl it)))] H locs := hw
  refine q_if_ne (tgt := 10) hx hb ((bb (0 ≤ q.toInt ∧ q.toInt ≤ 3 ∧ 0 ≤ ln.toInt ∧ ln.toInt ≤ 3) : Nat) : Int) (nI_toInt (Nat.lt_of_le_of_lt (bb_le _) (by decide))) dX8_film_5 (by decide) (fun c2 => ?_) (fun c2 => ?_)
  · --
    have c2 := bb_1 c2
    obtain ⟨j, rfl, ej⟩ := i32_nat (x := q) (by omega)
    obtain ⟨x, rfl, ex⟩ := i32_nat (x := ln) (by omega)
    refine lv_aload_n hx hb dX8_film_10 rfl (lv_at hl 0 rfl) ?_
    refine lv_iload_n hx hb dX8_film_11 rfl (lv_at hl 1 rfl) ?_
    refine lv_iload_n hx hb dX8_film_12 rfl (lv_at hl 2 rfl) ?_
    refine lv_iload_n hx hb dX8_film_13 rfl (lv_at hl 3 rfl) ?_
    refine lv_aload_n hx hb dX8_film_14 rfl (lv_at hl 0 rfl) ?_
    refine q_get (v := .ref (mr 0)) (ci := 8) hx hb hts in_X8 hown hK hw 0 0 wd1 dX8_film_15 rfl rfl (by decide) rfl ?_
    refine q_iconst (v := 0) hx hb dX8_film_18 (by decide) ?_
    refine q_iald hx hb hK hw 1 (by omega) (by omega) dX8_film_19 rfl ?_
    refine q_calli (S := Unit) (Z := Z) (D := D) (wc := [(M, .inr (8, [.ref (mr 0), .ref (mr 1), .int (nI (mi 2)), .ref (mr 3), .ref (mr 4), .int ima, .ref (mr 6), .int (nI (mi 7)), .ref (mr 8), .ref (mr 9), .ref (mr 10), .long (lN (mi 11)), .long (lN (mi 12)), .ref (mr 13), .ref (mr 14), .ref (mr 15), .ref (mr 16), .ref (mr 17), .ref (mr 18), .int (nI (mi 19)), .ref (mr 20), .ref (mr 21), .ref (mr 22), .ref (mr 23), .long (lN (mi 24)), .long (lN (mi 25)), .int (nI (mi 26)), .int (nI (mi 27)), .ref (mr 28), .int (nI (mi 29)), .int (nI (mi 30)), .int (nI (mi 31)), .int (nI (mi 32))])), (mr 8, .inl (Z 0, 4, .inl (lnR th la))), (mr 9, .inl (Z 0, 4, .inl (aI le)))]) (wr := [(mr 0, .inl (Z 0, 18, .inl (aI p))), (mr 10, .inl (Z 1, 96, .inr (.inl it)))]) (rest := []) hw hA [0, 2, 3] [1, 4] rfl rfl rfl rfl (by decide) (fun hPc hDc => va_runV (As := [.int (nI j), .int (nI x), .int i, .int (nI (p 0))]) (rest := []) ⟨hx, hb, hml, hown, hts⟩ (c_X8_found l D Z H.size M mr mi ima th la le j x i (p 0) (by first | assumption | omega) (by first | assumption | omega) (by omega) (by omega) (by omega)) (cwV 4 hts gX8_film_X8_found rfl rfl rfl (by decide +kernel) ⟨Nat.le_of_ble_eq_true rfl, Nat.le_of_ble_eq_true rfl⟩) ⟨fb_cPre, va_recv hK.1 hPc (ci := 8) (q0 := 0) rfl rfl, pre_of hPc hK hDc⟩ rfl rfl hl.1 rfl (lv_room (Nat.le_of_ble_eq_true rfl)) dX8_film_20 ⟨Nat.le_of_ble_eq_true rfl, Nat.le_of_ble_eq_true rfl⟩) (fun r3 uu H locs hr3 hw => ?_)
    subst hr3
    have hw : WS D A s [(mr 0, .inl (Z 0, 18, .inl (aI p))), (mr 10, .inl (Z 1, 96, .inr (.inl it))), (M, .inr (8, [.ref (mr 0), .ref (mr 1), .int (nI (mi 2)), .ref (mr 3), .ref (mr 4), .int ima, .ref (mr 6), .int (nI (mi 7)), .ref (mr 8), .ref (mr 9), .ref (mr 10), .long (lN (mi 11)), .long (lN (mi 12)), .ref (mr 13), .ref (mr 14), .ref (mr 15), .ref (mr 16), .ref (mr 17), .ref (mr 18), .int (nI (mi 19)), .ref (mr 20), .ref (mr 21), .ref (mr 22), .ref (mr 23), .long (lN (mi 24)), .long (lN (mi 25)), .int (nI (mi 26)), .int (nI (mi 27)), .ref (mr 28), .int (nI (mi 29)), .int (nI (mi 30)), .int (nI (mi 31)), .int (nI (mi 32))])), (mr 8, .inl (Z 0, 4, .inl (lnR th la))), (mr 9, .inl (Z 0, 4, .inl (aI le)))] H locs := hw
    refine lv_istore (lv' := [(4, .int (rfu (th j) (la j) (le j) x i (nI (p 0)))), (0, .ref M), (1, .int (nI j)), (2, .int (nI x)), (3, .int i)]) hx hb dX8_film_23 hl (by decide) rfl (fun ls hl => ?_)
    refine lv_iload hx hb dX8_film_25 (lv_at hl 0 rfl) ?_
    refine q_if_eq (tgt := 33) hx hb (rfu (th j) (la j) (le j) x i (nI (p 0))).toInt rfl dX8_film_27 (by decide) (fun c4 => ?_) (fun c4 => ?_)
    · --
      have hrf := rfu_0 c4
      have hrf3 := hrf.2.2
      obtain ⟨y, rfl, ey⟩ := i32_nat (x := i) (by omega)
      have l2 := hle j (by omega)
      have k1 : (nI (p 0)).toInt = (p 0 : Nat) := nI_toInt (by omega)
      refine q_iconst (v := 1) hx hb dX8_film_33 (by decide) ?_
      refine lv_istore (lv' := [(5, .int (nI 1)), (4, .int (rfu (th j) (la j) (le j) x (nI y) (nI (p 0)))), (0, .ref M), (1, .int (nI j)), (2, .int (nI x)), (3, .int (nI y))]) hx hb dX8_film_34 hl (by decide) rfl (fun ls hl => ?_)
      have hw : WS D A s [(mr 0, .inl (Z 0, 18, .inl (aI p))), (mr 10, .inl (Z 1, 96, .inr (.inl (fmM p it (24 * j + y) 0)))), (M, .inr (8, [.ref (mr 0), .ref (mr 1), .int (nI (mi 2)), .ref (mr 3), .ref (mr 4), .int ima, .ref (mr 6), .int (nI (mi 7)), .ref (mr 8), .ref (mr 9), .ref (mr 10), .long (lN (mi 11)), .long (lN (mi 12)), .ref (mr 13), .ref (mr 14), .ref (mr 15), .ref (mr 16), .ref (mr 17), .ref (mr 18), .int (nI (mi 19)), .ref (mr 20), .ref (mr 21), .ref (mr 22), .ref (mr 23), .long (lN (mi 24)), .long (lN (mi 25)), .int (nI (mi 26)), .int (nI (mi 27)), .ref (mr 28), .int (nI (mi 29)), .int (nI (mi 30)), .int (nI (mi 31)), .int (nI (mi 32))])), (mr 8, .inl (Z 0, 4, .inl (lnR th la))), (mr 9, .inl (Z 0, 4, .inl (aI le)))] H locs := by rw [show (fmM p it (24 * j + y) 0) = it from rfl]; exact hw
      refine q_loop (σ := Nat) (fun (c : Nat) => p 0 - c) (fun (c : Nat) => c ≤ p 0) (fun (c : Nat) => [(M, .inr (8, [.ref (mr 0), .ref (mr 1), .int (nI (mi 2)), .ref (mr 3), .ref (mr 4), .int ima, .ref (mr 6), .int (nI (mi 7)), .ref (mr 8), .ref (mr 9), .ref (mr 10), .long (lN (mi 11)), .long (lN (mi 12)), .ref (mr 13), .ref (mr 14), .ref (mr 15), .ref (mr 16), .ref (mr 17), .ref (mr 18), .int (nI (mi 19)), .ref (mr 20), .ref (mr 21), .ref (mr 22), .ref (mr 23), .long (lN (mi 24)), .long (lN (mi 25)), .int (nI (mi 26)), .int (nI (mi 27)), .ref (mr 28), .int (nI (mi 29)), .int (nI (mi 30)), .int (nI (mi 31)), .int (nI (mi 32))])), (mr 0, .inl (Z 0, 18, .inl (aI p))), (mr 8, .inl (Z 0, 4, .inl (lnR th la))), (mr 9, .inl (Z 0, 4, .inl (aI le))), (mr 10, .inl (Z 1, 96, .inr (.inl (fmM p it (24 * j + y) c))))]) (fun (c : Nat) => [(5, .int (nI (c + 1))), (0, .ref M), (1, .int (nI j)), (2, .int (nI x)), (3, .int (nI y))]) 0 (Nat.zero_le _) (hw.sub [2, 0, 3, 4, 1] (by decide) rfl) (lv_sub hl [0, 2, 3, 4, 5] rfl) ?_
      intro c H locs ls hi36 hw hl ih36
      try dsimp only at hi36 hw hl ih36
      have hw : WS D A s [(M, .inr (8, [.ref (mr 0), .ref (mr 1), .int (nI (mi 2)), .ref (mr 3), .ref (mr 4), .int ima, .ref (mr 6), .int (nI (mi 7)), .ref (mr 8), .ref (mr 9), .ref (mr 10), .long (lN (mi 11)), .long (lN (mi 12)), .ref (mr 13), .ref (mr 14), .ref (mr 15), .ref (mr 16), .ref (mr 17), .ref (mr 18), .int (nI (mi 19)), .ref (mr 20), .ref (mr 21), .ref (mr 22), .ref (mr 23), .long (lN (mi 24)), .long (lN (mi 25)), .int (nI (mi 26)), .int (nI (mi 27)), .ref (mr 28), .int (nI (mi 29)), .int (nI (mi 30)), .int (nI (mi 31)), .int (nI (mi 32))])), (mr 0, .inl (Z 0, 18, .inl (aI p))), (mr 8, .inl (Z 0, 4, .inl (lnR th la))), (mr 9, .inl (Z 0, 4, .inl (aI le))), (mr 10, .inl (Z 1, 96, .inr (.inl (fmM p it (24 * j + y) c))))] H locs := hw
      have hl : lv_has ls 6 [(5, .int (nI (c + 1))), (0, .ref M), (1, .int (nI j)), (2, .int (nI x)), (3, .int (nI y))] := hl
      refine lv_iload hx hb dX8_film_36 (lv_at hl 0 rfl) ?_
      refine lv_aload_n hx hb dX8_film_38 rfl (lv_at hl 1 rfl) ?_
      refine q_get (v := .ref (mr 0)) (ci := 8) hx hb hts in_X8 hown hK hw 0 0 wd1 dX8_film_39 rfl rfl (by decide) rfl ?_
      refine q_iconst (v := 0) hx hb dX8_film_42 (by decide) ?_
      refine q_iald hx hb hK hw 1 (by omega) (by omega) dX8_film_43 rfl ?_
      refine q_icmp_gt (tgt := 77) hx hb ((c + 1 : Nat) : Int) ((p 0 : Nat) : Int) (nI_toInt (by omega)) (nI_toInt (by omega)) dX8_film_44 (by decide) (fun c5 => ?_) (fun c5 => ?_)
      · --
        obtain rfl : c = p 0 := by omega
        refine lv_aload_n hx hb dX8_film_77 rfl (lv_at hl 1 rfl) ?_
        refine q_get (v := .ref (mr 0)) (ci := 8) hx hb hts in_X8 hown hK hw 0 0 wd1 dX8_film_78 rfl rfl (by decide) rfl ?_
        refine q_iconst (v := 0) hx hb dX8_film_81 (by decide) ?_
        refine q_iald hx hb hK hw 1 (by omega) (by omega) dX8_film_82 rfl ?_
        exact q_iret (wout := _) hx hb hr hlocks hAe hK (fmM p it (24 * j + y) (p 0)) hw (⟨by unfold fmC; rw [if_neg (by omega), tnI ej, tnI ex, if_pos (rfu_z hrf)], Or.inr ⟨⟨by omega, by rw [tnI ej, tnI ex]; exact rfu_z hrf⟩, by rw [tnI ej, tnI ey]⟩⟩) dX8_film_83
      · --
        refine lv_aload_n hx hb dX8_film_47 rfl (lv_at hl 1 rfl) ?_
        refine q_get (v := .ref (mr 10)) (ci := 8) hx hb hts in_X8 hown hK hw 0 10 wd2 dX8_film_48 rfl rfl (by decide) rfl ?_
        refine q_bipush (v := 24) hx hb dX8_film_51 (by decide) ?_
        refine lv_iload_n hx hb dX8_film_53 rfl (lv_at hl 2 rfl) ?_
        refine q_imul hx hb dX8_film_54 ?_
        refine lv_iload_n hx hb dX8_film_55 rfl (lv_at hl 4 rfl) ?_
        refine q_iadd hx hb dX8_film_56 ?_
        refine lv_iload hx hb dX8_film_57 (lv_at hl 0 rfl) ?_
        refine q_iadd hx hb dX8_film_59 ?_
        refine q_iconst (v := 1) hx hb dX8_film_60 (by decide) ?_
        refine q_isub hx hb (by omega) dX8_film_61 ?_
        refine q_topi (x := nI (24 * j + y + (c + 1) - 1)) (y := nI (24 * j + y + c)) (congrArg nI (by omega)) ?_
        refine lv_aload_n hx hb dX8_film_62 rfl (lv_at hl 1 rfl) ?_
        refine q_get (v := .ref (mr 0)) (ci := 8) hx hb hts in_X8 hown hK hw 0 0 wd1 dX8_film_63 rfl rfl (by decide) rfl ?_
        refine lv_iload hx hb dX8_film_66 (lv_at hl 0 rfl) ?_
        refine q_iald hx hb hK hw 1 (by omega) (by omega) dX8_film_68 rfl ?_
        refine q_i2l hx hb (Nat.lt_of_le_of_lt (z_le (z := p) (n := p 0) (by omega)) (by omega)) dX8_film_69 ?_
        refine q_lasR hx hb hK hw 4 (by omega) (by omega) dX8_film_70 rfl (fun H locs hw => ?_)
        have hw : WS D A s [(M, .inr (8, [.ref (mr 0), .ref (mr 1), .int (nI (mi 2)), .ref (mr 3), .ref (mr 4), .int ima, .ref (mr 6), .int (nI (mi 7)), .ref (mr 8), .ref (mr 9), .ref (mr 10), .long (lN (mi 11)), .long (lN (mi 12)), .ref (mr 13), .ref (mr 14), .ref (mr 15), .ref (mr 16), .ref (mr 17), .ref (mr 18), .int (nI (mi 19)), .ref (mr 20), .ref (mr 21), .ref (mr 22), .ref (mr 23), .long (lN (mi 24)), .long (lN (mi 25)), .int (nI (mi 26)), .int (nI (mi 27)), .ref (mr 28), .int (nI (mi 29)), .int (nI (mi 30)), .int (nI (mi 31)), .int (nI (mi 32))])), (mr 0, .inl (Z 0, 18, .inl (aI p))), (mr 8, .inl (Z 0, 4, .inl (lnR th la))), (mr 9, .inl (Z 0, 4, .inl (aI le))), (mr 10, .inl (Z 1, 96, .inr (.inl (vp_updL (fmM p it (24 * j + y) c) (24 * j + y + c) (lN (p (c + 1)))))))] H locs := hw
        refine lv_iinc (v := nI (c + 1 + 1)) (lv' := [(5, .int (nI (c + 1 + 1))), (0, .ref M), (1, .int (nI j)), (2, .int (nI x)), (3, .int (nI y))]) hx hb dX8_film_71 hl (k := 0) rfl (nI_add _ _) (by decide) rfl (fun ls hl => ?_)
        refine lv_goto (tgt := 36) hx hb dX8_film_74 (by decide) ?_
        have hw : WS D A s [(M, .inr (8, [.ref (mr 0), .ref (mr 1), .int (nI (mi 2)), .ref (mr 3), .ref (mr 4), .int ima, .ref (mr 6), .int (nI (mi 7)), .ref (mr 8), .ref (mr 9), .ref (mr 10), .long (lN (mi 11)), .long (lN (mi 12)), .ref (mr 13), .ref (mr 14), .ref (mr 15), .ref (mr 16), .ref (mr 17), .ref (mr 18), .int (nI (mi 19)), .ref (mr 20), .ref (mr 21), .ref (mr 22), .ref (mr 23), .long (lN (mi 24)), .long (lN (mi 25)), .int (nI (mi 26)), .int (nI (mi 27)), .ref (mr 28), .int (nI (mi 29)), .int (nI (mi 30)), .int (nI (mi 31)), .int (nI (mi 32))])), (mr 0, .inl (Z 0, 18, .inl (aI p))), (mr 8, .inl (Z 0, 4, .inl (lnR th la))), (mr 9, .inl (Z 0, 4, .inl (aI le))), (mr 10, .inl (Z 1, 96, .inr (.inl (fmM p it (24 * j + y) (c + 1)))))] H locs := by rw [show (fmM p it (24 * j + y) (c + 1)) = (vp_updL (fmM p it (24 * j + y) c) (24 * j + y + c) (lN (p (c + 1)))) from rfl]; exact hw
        exact ih36 (c + 1) H locs ls (by omega) (by omega) hw (lv_sub hl [0, 1, 2, 3, 4] rfl)
    · --
      have hrn := rfu_n c4
      refine lv_iload hx hb dX8_film_30 (lv_at hl 0 rfl) ?_
      exact q_iret (wout := _) hx hb hr hlocks hAe hK it (hw.sub [2, 0, 3, 4, 1] (by decide) rfl) (⟨by unfold fmC; rw [if_neg (by omega), tnI ej, tnI ex, if_neg hrn], Or.inl ⟨fun h => by unfold fmOk at h; rw [tnI ej, tnI ex] at h; exact hrn h.2, rfl⟩⟩) dX8_film_32
  · --
    have c2 := bb_0 c2
    refine lv_iconst (v := (-1)) hx hb dX8_film_8 (by decide) ?_
    exact q_iret (wout := _) hx hb hr hlocks hAe hK it hw (⟨(if_pos (by omega)).symm, Or.inl ⟨fun h => by unfold fmOk at h; omega, rfl⟩⟩) dX8_film_9
set_option maxHeartbeats 4000000 in
set_option maxRecDepth 100000 in
theorem c_X8_seen (l : Launch) (D : va_G) (Z : Nat → ClassId) (zs0 : Nat) (M : Nat) (mr mi : Nat → Nat) (ima : Int32) (th la le : Nat → Nat) (it : Nat → Int64) (p : Nat → Nat) (sr : Nat → Nat) (q ln i n : Int32) (hn : 1 ≤ p 0 ∧ p 0 ≤ 8) (hs : lf p (p 0) 0 ≤ 24) (hzn : 0 < p (p 0)) (h9 : p 9 ≤ 99) (h10 : p 10 ≤ 99) (hla : ∀ k, k < 4 → la k ≤ 3) (hle : ∀ k, k < 4 → le k ≤ 24) : cMi l yX8_seen wsX8_seen (rmd 5) D Z zs0 [.ref M, .int q, .int ln, .int i, .int n] [(M, .inr (8, [.ref (mr 0), .ref (mr 1), .int (nI (mi 2)), .ref (mr 3), .ref (mr 4), .int ima, .ref (mr 6), .int (nI (mi 7)), .ref (mr 8), .ref (mr 9), .ref (mr 10), .long (lN (mi 11)), .long (lN (mi 12)), .ref (mr 13), .ref (mr 14), .ref (mr 15), .ref (mr 16), .ref (mr 17), .ref (mr 18), .int (nI (mi 19)), .ref (mr 20), .ref (mr 21), .ref (mr 22), .ref (mr 23), .long (lN (mi 24)), .long (lN (mi 25)), .int (nI (mi 26)), .int (nI (mi 27)), .ref (mr 28), .int (nI (mi 29)), .int (nI (mi 30)), .int (nI (mi 31)), .int (nI (mi 32))])), (mr 0, .inl (Z 0, 18, .inl (aI p))), (mr 13, .inl (Z 0, 9, .inl (aI sr))), (mr 8, .inl (Z 0, 4, .inl (lnR th la))), (mr 9, .inl (Z 0, 4, .inl (aI le))), (mr 10, .inl (Z 1, 96, .inr (.inl it)))] (S := Nat × Nat × (Nat → Nat)) (fun (r : Int32) (u : Nat × Nat × (Nat → Nat)) => match u with | (x', y', sr') => seR (p 9) (p 10) th la le (itF it) q ln i n r) (fun (u : Nat × Nat × (Nat → Nat)) => match u with | (x', y', sr') => [(M, .inr (8, [.ref (mr 0), .ref (mr 1), .int (nI (mi 2)), .ref (mr 3), .ref (mr 4), .int ima, .ref (mr 6), .int (nI (mi 7)), .ref (mr 8), .ref (mr 9), .ref (mr 10), .long (lN x'), .long (lN y'), .ref (mr 13), .ref (mr 14), .ref (mr 15), .ref (mr 16), .ref (mr 17), .ref (mr 18), .int (nI (mi 19)), .ref (mr 20), .ref (mr 21), .ref (mr 22), .ref (mr 23), .long (lN (mi 24)), .long (lN (mi 25)), .int (nI (mi 26)), .int (nI (mi 27)), .ref (mr 28), .int (nI (mi 29)), .int (nI (mi 30)), .int (nI (mi 31)), .int (nI (mi 32))])), (mr 0, .inl (Z 0, 18, .inl (aI p))), (mr 13, .inl (Z 0, 9, .inl (aI sr'))), (mr 8, .inl (Z 0, 4, .inl (lnR th la))), (mr 9, .inl (Z 0, 4, .inl (aI le))), (mr 10, .inl (Z 1, 96, .inr (.inl it)))]) 0 0 := by
  refine q_open (y := yX8_seen) (ws := wsX8_seen) (av := [.ref M, .int q, .int ln, .int i, .int n]) (win := [(M, .inr (8, [.ref (mr 0), .ref (mr 1), .int (nI (mi 2)), .ref (mr 3), .ref (mr 4), .int ima, .ref (mr 6), .int (nI (mi 7)), .ref (mr 8), .ref (mr 9), .ref (mr 10), .long (lN (mi 11)), .long (lN (mi 12)), .ref (mr 13), .ref (mr 14), .ref (mr 15), .ref (mr 16), .ref (mr 17), .ref (mr 18), .int (nI (mi 19)), .ref (mr 20), .ref (mr 21), .ref (mr 22), .ref (mr 23), .long (lN (mi 24)), .long (lN (mi 25)), .int (nI (mi 26)), .int (nI (mi 27)), .ref (mr 28), .int (nI (mi 29)), .int (nI (mi 30)), .int (nI (mi 31)), .int (nI (mi 32))])), (mr 0, .inl (Z 0, 18, .inl (aI p))), (mr 13, .inl (Z 0, 9, .inl (aI sr))), (mr 8, .inl (Z 0, 4, .inl (lnR th la))), (mr 9, .inl (Z 0, 4, .inl (aI le))), (mr 10, .inl (Z 1, 96, .inr (.inl it)))]) (Qc := fun zs0 => cQi D Z zs0 [(M, .inr (8, [.ref (mr 0), .ref (mr 1), .int (nI (mi 2)), .ref (mr 3), .ref (mr 4), .int ima, .ref (mr 6), .int (nI (mi 7)), .ref (mr 8), .ref (mr 9), .ref (mr 10), .long (lN (mi 11)), .long (lN (mi 12)), .ref (mr 13), .ref (mr 14), .ref (mr 15), .ref (mr 16), .ref (mr 17), .ref (mr 18), .int (nI (mi 19)), .ref (mr 20), .ref (mr 21), .ref (mr 22), .ref (mr 23), .long (lN (mi 24)), .long (lN (mi 25)), .int (nI (mi 26)), .int (nI (mi 27)), .ref (mr 28), .int (nI (mi 29)), .int (nI (mi 30)), .int (nI (mi 31)), .int (nI (mi 32))])), (mr 0, .inl (Z 0, 18, .inl (aI p))), (mr 13, .inl (Z 0, 9, .inl (aI sr))), (mr 8, .inl (Z 0, 4, .inl (lnR th la))), (mr 9, .inl (Z 0, 4, .inl (aI le))), (mr 10, .inl (Z 1, 96, .inr (.inl it)))] (S := Nat × Nat × (Nat → Nat)) (fun (r : Int32) (u : Nat × Nat × (Nat → Nat)) => match u with | (x', y', sr') => seR (p 9) (p 10) th la le (itF it) q ln i n r) (fun (u : Nat × Nat × (Nat → Nat)) => match u with | (x', y', sr') => [(M, .inr (8, [.ref (mr 0), .ref (mr 1), .int (nI (mi 2)), .ref (mr 3), .ref (mr 4), .int ima, .ref (mr 6), .int (nI (mi 7)), .ref (mr 8), .ref (mr 9), .ref (mr 10), .long (lN x'), .long (lN y'), .ref (mr 13), .ref (mr 14), .ref (mr 15), .ref (mr 16), .ref (mr 17), .ref (mr 18), .int (nI (mi 19)), .ref (mr 20), .ref (mr 21), .ref (mr 22), .ref (mr 23), .long (lN (mi 24)), .long (lN (mi 25)), .int (nI (mi 26)), .int (nI (mi 27)), .ref (mr 28), .int (nI (mi 29)), .int (nI (mi 30)), .int (nI (mi 31)), .int (nI (mi 32))])), (mr 0, .inl (Z 0, 18, .inl (aI p))), (mr 13, .inl (Z 0, 9, .inl (aI sr'))), (mr 8, .inl (Z 0, 4, .inl (lnR th la))), (mr 9, .inl (Z 0, 4, .inl (aI le))), (mr 10, .inl (Z 1, 96, .inr (.inl it)))])) (cc := cX8_seen) (maxL := 10) (ret := (some .int)) (by decide) rfl (Nat.le_of_ble_eq_true rfl) ?_
  intro pp ee s mm bw mt cd ls A H locs hAe hx hb hr hml hown hmn hts hlocks hA hK hw hl
  have hown : s.vm.findClass RX8 = some mm.cls := hown
  have hl : lv_has ls 10 [(0, .ref M), (1, .int q), (2, .int ln), (3, .int i), (4, .int n)] := hl
  have wd1 := hts (.constantLong RX8 271 (12)) (List.mem_of_getElem? (i := 1) rfl)
  have wd2 := hts (.fieldLink RX8 39 "ReplaceAgesModel" "seenRow" "[I") (List.mem_of_getElem? (i := 2) rfl)
  have wd3 := hts (.fieldLink RX8 35 "ReplaceAgesModel" "items" "[J") (List.mem_of_getElem? (i := 3) rfl)
  have wd4 := hts (.constantLong RX8 126 (8)) (List.mem_of_getElem? (i := 4) rfl)
  have in_X8 : ∀ w ∈ wsX80, w ∈ wsX8_seen := fun _ h => List.mem_cons_of_mem _ (List.mem_append_right _ h)
  refine lv_iload_n hx hb dX8_seen_0 rfl (lv_at hl 1 rfl) ?_
  refine lv_iload_n hx hb dX8_seen_1 rfl (lv_at hl 2 rfl) ?_
  refine q_calli (S := Unit) (Z := Z) (D := D) (wc := []) (wr := [(M, .inr (8, [.ref (mr 0), .ref (mr 1), .int (nI (mi 2)), .ref (mr 3), .ref (mr 4), .int ima, .ref (mr 6), .int (nI (mi 7)), .ref (mr 8), .ref (mr 9), .ref (mr 10), .long (lN (mi 11)), .long (lN (mi 12)), .ref (mr 13), .ref (mr 14), .ref (mr 15), .ref (mr 16), .ref (mr 17), .ref (mr 18), .int (nI (mi 19)), .ref (mr 20), .ref (mr 21), .ref (mr 22), .ref (mr 23), .long (lN (mi 24)), .long (lN (mi 25)), .int (nI (mi 26)), .int (nI (mi 27)), .ref (mr 28), .int (nI (mi 29)), .int (nI (mi 30)), .int (nI (mi 31)), .int (nI (mi 32))])), (mr 0, .inl (Z 0, 18, .inl (aI p))), (mr 13, .inl (Z 0, 9, .inl (aI sr))), (mr 8, .inl (Z 0, 4, .inl (lnR th la))), (mr 9, .inl (Z 0, 4, .inl (aI le))), (mr 10, .inl (Z 1, 96, .inr (.inl it)))]) (rest := []) hw hA [] [0, 1, 2, 3, 4, 5] rfl rfl rfl rfl (by decide) (fun hPc hDc => va_runS (As := [.int q, .int ln]) (rest := []) ⟨hx, hb, hml, hown, hts⟩ (c_X8_isSheet l D Z H.size q ln ) (va_cwS 2 hts gX8_seen_X8_isSheet rfl rfl rfl (by decide +kernel) ⟨Nat.le_of_ble_eq_true rfl, Nat.le_of_ble_eq_true rfl⟩) ⟨fb_cPre, pre_of hPc hK hDc⟩ rfl rfl hl.1 rfl (lv_room (Nat.le_of_ble_eq_true rfl)) dX8_seen_2 ⟨Nat.le_of_ble_eq_true rfl, Nat.le_of_ble_eq_true rfl⟩) (fun r1 uu H locs hr1 hw => ?_)
  subst hr1
  have hw : WS D A s [(M, .inr (8, [.ref (mr 0), .ref (mr 1), .int (nI (mi 2)), .ref (mr 3), .ref (mr 4), .int ima, .ref (mr 6), .int (nI (mi 7)), .ref (mr 8), .ref (mr 9), .ref (mr 10), .long (lN (mi 11)), .long (lN (mi 12)), .ref (mr 13), .ref (mr 14), .ref (mr 15), .ref (mr 16), .ref (mr 17), .ref (mr 18), .int (nI (mi 19)), .ref (mr 20), .ref (mr 21), .ref (mr 22), .ref (mr 23), .long (lN (mi 24)), .long (lN (mi 25)), .int (nI (mi 26)), .int (nI (mi 27)), .ref (mr 28), .int (nI (mi 29)), .int (nI (mi 30)), .int (nI (mi 31)), .int (nI (mi 32))])), (mr 0, .inl (Z 0, 18, .inl (aI p))), (mr 13, .inl (Z 0, 9, .inl (aI sr))), (mr 8, .inl (Z 0, 4, .inl (lnR th la))), (mr 9, .inl (Z 0, 4, .inl (aI le))), (mr 10, .inl (Z 1, 96, .inr (.inl it)))] H locs := hw
  refine q_if_eq (tgt := 21) hx hb ((bb (0 ≤ q.toInt ∧ q.toInt ≤ 3 ∧ 0 ≤ ln.toInt ∧ ln.toInt ≤ 3) : Nat) : Int) (nI_toInt (Nat.lt_of_le_of_lt (bb_le _) (by decide))) dX8_seen_5 (by decide) (fun c2 => ?_) (fun c2 => ?_)
  · --
    have c2 := bb_0 c2
    refine lv_iconst (v := (-1)) hx hb dX8_seen_21 (by decide) ?_
    exact q_iret (wout := _) hx hb hr hlocks hAe hK (mi 11, mi 12, sr) hw (Or.inl ⟨by omega, rfl⟩) dX8_seen_22
  · --
    have c2 := bb_1 c2
    refine lv_iload hx hb dX8_seen_8 (lv_at hl 4 rfl) ?_
    refine lv_i2l hx hb dX8_seen_10 rfl ?_
    refine q_lconst (v := 1) hx hb dX8_seen_11 (by decide) ?_
    refine lv_ldc2 hx hb hown wd1 dX8_seen_12 ?_
    refine q_topl (x := 12) (y := lN 12) (by decide) ?_
    refine q_calli (S := Unit) (Z := Z) (D := D) (wc := []) (wr := [(M, .inr (8, [.ref (mr 0), .ref (mr 1), .int (nI (mi 2)), .ref (mr 3), .ref (mr 4), .int ima, .ref (mr 6), .int (nI (mi 7)), .ref (mr 8), .ref (mr 9), .ref (mr 10), .long (lN (mi 11)), .long (lN (mi 12)), .ref (mr 13), .ref (mr 14), .ref (mr 15), .ref (mr 16), .ref (mr 17), .ref (mr 18), .int (nI (mi 19)), .ref (mr 20), .ref (mr 21), .ref (mr 22), .ref (mr 23), .long (lN (mi 24)), .long (lN (mi 25)), .int (nI (mi 26)), .int (nI (mi 27)), .ref (mr 28), .int (nI (mi 29)), .int (nI (mi 30)), .int (nI (mi 31)), .int (nI (mi 32))])), (mr 0, .inl (Z 0, 18, .inl (aI p))), (mr 13, .inl (Z 0, 9, .inl (aI sr))), (mr 8, .inl (Z 0, 4, .inl (lnR th la))), (mr 9, .inl (Z 0, 4, .inl (aI le))), (mr 10, .inl (Z 1, 96, .inr (.inl it)))]) (rest := []) hw hA [] [0, 1, 2, 3, 4, 5] rfl rfl rfl rfl (by decide) (fun hPc hDc => va_runS (As := [.long n.toInt64, .long (lN 1), .long (lN 12)]) (rest := []) ⟨hx, hb, hml, hown, hts⟩ (c_X8_in l D Z H.size n.toInt64 (lN 1) (lN 12) n.toInt ((1 : Nat) : Int) ((12 : Nat) : Int) (Int32.toInt_toInt64 _) (pk_lT (by first | omega | assumption)) (pk_lT (by first | omega | assumption))) (va_cwS 3 hts gX8_seen_X8_in rfl rfl rfl (by decide +kernel) ⟨Nat.le_of_ble_eq_true rfl, Nat.le_of_ble_eq_true rfl⟩) ⟨fb_cPre, pre_of hPc hK hDc⟩ rfl rfl hl.1 rfl (lv_room (Nat.le_of_ble_eq_true rfl)) dX8_seen_15 ⟨Nat.le_of_ble_eq_true rfl, Nat.le_of_ble_eq_true rfl⟩) (fun r3 uu H locs hr3 hw => ?_)
    subst hr3
    have hw : WS D A s [(M, .inr (8, [.ref (mr 0), .ref (mr 1), .int (nI (mi 2)), .ref (mr 3), .ref (mr 4), .int ima, .ref (mr 6), .int (nI (mi 7)), .ref (mr 8), .ref (mr 9), .ref (mr 10), .long (lN (mi 11)), .long (lN (mi 12)), .ref (mr 13), .ref (mr 14), .ref (mr 15), .ref (mr 16), .ref (mr 17), .ref (mr 18), .int (nI (mi 19)), .ref (mr 20), .ref (mr 21), .ref (mr 22), .ref (mr 23), .long (lN (mi 24)), .long (lN (mi 25)), .int (nI (mi 26)), .int (nI (mi 27)), .ref (mr 28), .int (nI (mi 29)), .int (nI (mi 30)), .int (nI (mi 31)), .int (nI (mi 32))])), (mr 0, .inl (Z 0, 18, .inl (aI p))), (mr 13, .inl (Z 0, 9, .inl (aI sr))), (mr 8, .inl (Z 0, 4, .inl (lnR th la))), (mr 9, .inl (Z 0, 4, .inl (aI le))), (mr 10, .inl (Z 1, 96, .inr (.inl it)))] H locs := hw
    refine q_if_ne (tgt := 23) hx hb ((bb (((1 : Nat) : Int) ≤ n.toInt ∧ n.toInt ≤ ((12 : Nat) : Int)) : Nat) : Int) (nI_toInt (Nat.lt_of_le_of_lt (bb_le _) (by decide))) dX8_seen_18 (by decide) (fun c4 => ?_) (fun c4 => ?_)
    · --
      have c4 := bb_1 c4
      obtain ⟨j, rfl, ej⟩ := i32_nat (x := q) (by omega)
      obtain ⟨x, rfl, ex⟩ := i32_nat (x := ln) (by omega)
      obtain ⟨u, rfl, eu⟩ := i32_nat (x := n) (by omega)
      refine lv_aload_n hx hb dX8_seen_23 rfl (lv_at hl 0 rfl) ?_
      refine lv_iload_n hx hb dX8_seen_24 rfl (lv_at hl 1 rfl) ?_
      refine lv_iload_n hx hb dX8_seen_25 rfl (lv_at hl 2 rfl) ?_
      refine lv_iload_n hx hb dX8_seen_26 rfl (lv_at hl 3 rfl) ?_
      refine lv_iload hx hb dX8_seen_27 (lv_at hl 4 rfl) ?_
      refine q_calli (S := Unit) (Z := Z) (D := D) (wc := [(M, .inr (8, [.ref (mr 0), .ref (mr 1), .int (nI (mi 2)), .ref (mr 3), .ref (mr 4), .int ima, .ref (mr 6), .int (nI (mi 7)), .ref (mr 8), .ref (mr 9), .ref (mr 10), .long (lN (mi 11)), .long (lN (mi 12)), .ref (mr 13), .ref (mr 14), .ref (mr 15), .ref (mr 16), .ref (mr 17), .ref (mr 18), .int (nI (mi 19)), .ref (mr 20), .ref (mr 21), .ref (mr 22), .ref (mr 23), .long (lN (mi 24)), .long (lN (mi 25)), .int (nI (mi 26)), .int (nI (mi 27)), .ref (mr 28), .int (nI (mi 29)), .int (nI (mi 30)), .int (nI (mi 31)), .int (nI (mi 32))])), (mr 8, .inl (Z 0, 4, .inl (lnR th la))), (mr 9, .inl (Z 0, 4, .inl (aI le)))]) (wr := [(mr 0, .inl (Z 0, 18, .inl (aI p))), (mr 13, .inl (Z 0, 9, .inl (aI sr))), (mr 10, .inl (Z 1, 96, .inr (.inl it)))]) (rest := []) hw hA [0, 3, 4] [1, 2, 5] rfl rfl rfl rfl (by decide) (fun hPc hDc => va_runV (As := [.int (nI j), .int (nI x), .int i, .int (nI u)]) (rest := []) ⟨hx, hb, hml, hown, hts⟩ (c_X8_found l D Z H.size M mr mi ima th la le j x i u (by first | assumption | omega) (by first | assumption | omega) (by omega) (by omega) (by omega)) (cwV 4 hts gX8_seen_X8_found rfl rfl rfl (by decide +kernel) ⟨Nat.le_of_ble_eq_true rfl, Nat.le_of_ble_eq_true rfl⟩) ⟨fb_cPre, va_recv hK.1 hPc (ci := 8) (q0 := 0) rfl rfl, pre_of hPc hK hDc⟩ rfl rfl hl.1 rfl (lv_room (Nat.le_of_ble_eq_true rfl)) dX8_seen_29 ⟨Nat.le_of_ble_eq_true rfl, Nat.le_of_ble_eq_true rfl⟩) (fun r5 uu H locs hr5 hw => ?_)
      subst hr5
      have hw : WS D A s [(mr 0, .inl (Z 0, 18, .inl (aI p))), (mr 13, .inl (Z 0, 9, .inl (aI sr))), (mr 10, .inl (Z 1, 96, .inr (.inl it))), (M, .inr (8, [.ref (mr 0), .ref (mr 1), .int (nI (mi 2)), .ref (mr 3), .ref (mr 4), .int ima, .ref (mr 6), .int (nI (mi 7)), .ref (mr 8), .ref (mr 9), .ref (mr 10), .long (lN (mi 11)), .long (lN (mi 12)), .ref (mr 13), .ref (mr 14), .ref (mr 15), .ref (mr 16), .ref (mr 17), .ref (mr 18), .int (nI (mi 19)), .ref (mr 20), .ref (mr 21), .ref (mr 22), .ref (mr 23), .long (lN (mi 24)), .long (lN (mi 25)), .int (nI (mi 26)), .int (nI (mi 27)), .ref (mr 28), .int (nI (mi 29)), .int (nI (mi 30)), .int (nI (mi 31)), .int (nI (mi 32))])), (mr 8, .inl (Z 0, 4, .inl (lnR th la))), (mr 9, .inl (Z 0, 4, .inl (aI le)))] H locs := hw
      refine lv_istore (lv' := [(5, .int (rfu (th j) (la j) (le j) x i (nI u))), (0, .ref M), (1, .int (nI j)), (2, .int (nI x)), (3, .int i), (4, .int (nI u))]) hx hb dX8_seen_32 hl (by decide) rfl (fun ls hl => ?_)
      refine lv_iload hx hb dX8_seen_34 (lv_at hl 0 rfl) ?_
      refine q_if_eq (tgt := 42) hx hb (rfu (th j) (la j) (le j) x i (nI u)).toInt rfl dX8_seen_36 (by decide) (fun c6 => ?_) (fun c6 => ?_)
      · --
        have hrf := rfu_0 c6
        have hrf3 := hrf.2.2
        obtain ⟨y, rfl, ey⟩ := i32_nat (x := i) (by omega)
        have l2 := hle j (by omega)
        have k1 : (nI u).toInt = (u : Nat) := nI_toInt (by omega)
        refine q_iconst (v := 0) hx hb dX8_seen_42 (by decide) ?_
        refine lv_istore (lv' := [(6, .int (nI 0)), (5, .int (rfu (th j) (la j) (le j) x (nI y) (nI u))), (0, .ref M), (1, .int (nI j)), (2, .int (nI x)), (3, .int (nI y)), (4, .int (nI u))]) hx hb dX8_seen_43 hl (by decide) rfl (fun ls hl => ?_)
        refine q_iconst (v := 0) hx hb dX8_seen_45 (by decide) ?_
        refine lv_istore (lv' := [(7, .int (nI 0)), (6, .int (nI 0)), (5, .int (rfu (th j) (la j) (le j) x (nI y) (nI u))), (0, .ref M), (1, .int (nI j)), (2, .int (nI x)), (3, .int (nI y)), (4, .int (nI u))]) hx hb dX8_seen_46 hl (by decide) rfl (fun ls hl => ?_)
        have hw : WS D A s [(mr 0, .inl (Z 0, 18, .inl (aI p))), (mr 13, .inl (Z 0, 9, .inl (aI (seg (fun _ => 0) 0 sr)))), (mr 10, .inl (Z 1, 96, .inr (.inl it))), (M, .inr (8, [.ref (mr 0), .ref (mr 1), .int (nI (mi 2)), .ref (mr 3), .ref (mr 4), .int ima, .ref (mr 6), .int (nI (mi 7)), .ref (mr 8), .ref (mr 9), .ref (mr 10), .long (lN (mi 11)), .long (lN (mi 12)), .ref (mr 13), .ref (mr 14), .ref (mr 15), .ref (mr 16), .ref (mr 17), .ref (mr 18), .int (nI (mi 19)), .ref (mr 20), .ref (mr 21), .ref (mr 22), .ref (mr 23), .long (lN (mi 24)), .long (lN (mi 25)), .int (nI (mi 26)), .int (nI (mi 27)), .ref (mr 28), .int (nI (mi 29)), .int (nI (mi 30)), .int (nI (mi 31)), .int (nI (mi 32))])), (mr 8, .inl (Z 0, 4, .inl (lnR th la))), (mr 9, .inl (Z 0, 4, .inl (aI le)))] H locs := by rw [show (seg (fun _ => 0) 0 sr) = sr from seg_0 _ _]; exact hw
        refine q_loop (σ := Nat) (fun (c : Nat) => 9 - c) (fun (c : Nat) => c ≤ 9) (fun (c : Nat) => [(M, .inr (8, [.ref (mr 0), .ref (mr 1), .int (nI (mi 2)), .ref (mr 3), .ref (mr 4), .int ima, .ref (mr 6), .int (nI (mi 7)), .ref (mr 8), .ref (mr 9), .ref (mr 10), .long (lN (mi 11)), .long (lN (mi 12)), .ref (mr 13), .ref (mr 14), .ref (mr 15), .ref (mr 16), .ref (mr 17), .ref (mr 18), .int (nI (mi 19)), .ref (mr 20), .ref (mr 21), .ref (mr 22), .ref (mr 23), .long (lN (mi 24)), .long (lN (mi 25)), .int (nI (mi 26)), .int (nI (mi 27)), .ref (mr 28), .int (nI (mi 29)), .int (nI (mi 30)), .int (nI (mi 31)), .int (nI (mi 32))])), (mr 0, .inl (Z 0, 18, .inl (aI p))), (mr 13, .inl (Z 0, 9, .inl (aI (seg (fun _ => 0) c sr)))), (mr 8, .inl (Z 0, 4, .inl (lnR th la))), (mr 9, .inl (Z 0, 4, .inl (aI le))), (mr 10, .inl (Z 1, 96, .inr (.inl it)))]) (fun (c : Nat) => [(7, .int (nI c)), (6, .int (nI 0)), (0, .ref M), (1, .int (nI j)), (2, .int (nI x)), (3, .int (nI y)), (4, .int (nI u))]) 0 (Nat.zero_le _) (hw.sub [3, 0, 1, 4, 5, 2] (by decide) rfl) (lv_sub hl [0, 1, 3, 4, 5, 6, 7] rfl) ?_
        intro c H locs ls hi48 hw hl ih48
        try dsimp only at hi48 hw hl ih48
        have hw : WS D A s [(M, .inr (8, [.ref (mr 0), .ref (mr 1), .int (nI (mi 2)), .ref (mr 3), .ref (mr 4), .int ima, .ref (mr 6), .int (nI (mi 7)), .ref (mr 8), .ref (mr 9), .ref (mr 10), .long (lN (mi 11)), .long (lN (mi 12)), .ref (mr 13), .ref (mr 14), .ref (mr 15), .ref (mr 16), .ref (mr 17), .ref (mr 18), .int (nI (mi 19)), .ref (mr 20), .ref (mr 21), .ref (mr 22), .ref (mr 23), .long (lN (mi 24)), .long (lN (mi 25)), .int (nI (mi 26)), .int (nI (mi 27)), .ref (mr 28), .int (nI (mi 29)), .int (nI (mi 30)), .int (nI (mi 31)), .int (nI (mi 32))])), (mr 0, .inl (Z 0, 18, .inl (aI p))), (mr 13, .inl (Z 0, 9, .inl (aI (seg (fun _ => 0) c sr)))), (mr 8, .inl (Z 0, 4, .inl (lnR th la))), (mr 9, .inl (Z 0, 4, .inl (aI le))), (mr 10, .inl (Z 1, 96, .inr (.inl it)))] H locs := hw
        have hl : lv_has ls 10 [(7, .int (nI c)), (6, .int (nI 0)), (0, .ref M), (1, .int (nI j)), (2, .int (nI x)), (3, .int (nI y)), (4, .int (nI u))] := hl
        refine lv_iload hx hb dX8_seen_48 (lv_at hl 0 rfl) ?_
        refine q_bipush (v := 9) hx hb dX8_seen_50 (by decide) ?_
        refine q_icmp_ge (tgt := 69) hx hb ((c : Nat) : Int) ((9 : Nat) : Int) (nI_toInt (by omega)) (nI_toInt (by omega)) dX8_seen_52 (by decide) (fun c7 => ?_) (fun c7 => ?_)
        · --
          obtain rfl : c = 9 := by omega
          refine q_iconst (v := 0) hx hb dX8_seen_69 (by decide) ?_
          refine lv_istore (lv' := [(7, .int (nI 0)), (6, .int (nI 0)), (0, .ref M), (1, .int (nI j)), (2, .int (nI x)), (3, .int (nI y)), (4, .int (nI u))]) hx hb dX8_seen_70 hl (by decide) rfl (fun ls hl => ?_)
          have hl : lv_has ls 10 [(7, .int (nI 0)), (6, .int (nI (snN (itF it j) y 0))), (0, .ref M), (1, .int (nI j)), (2, .int (nI x)), (3, .int (nI y)), (4, .int (nI u))] := by rw [show (snN (itF it j) y 0 : Nat) = 0 from rfl]; exact hl
          have hw : WS D A s [(M, .inr (8, [.ref (mr 0), .ref (mr 1), .int (nI (mi 2)), .ref (mr 3), .ref (mr 4), .int ima, .ref (mr 6), .int (nI (mi 7)), .ref (mr 8), .ref (mr 9), .ref (mr 10), .long (lN (mi 11)), .long (lN (mi 12)), .ref (mr 13), .ref (mr 14), .ref (mr 15), .ref (mr 16), .ref (mr 17), .ref (mr 18), .int (nI (mi 19)), .ref (mr 20), .ref (mr 21), .ref (mr 22), .ref (mr 23), .long (lN (mi 24)), .long (lN (mi 25)), .int (nI (mi 26)), .int (nI (mi 27)), .ref (mr 28), .int (nI (mi 29)), .int (nI (mi 30)), .int (nI (mi 31)), .int (nI (mi 32))])), (mr 0, .inl (Z 0, 18, .inl (aI p))), (mr 13, .inl (Z 0, 9, .inl (aI (snZ (itF it j) y 0)))), (mr 8, .inl (Z 0, 4, .inl (lnR th la))), (mr 9, .inl (Z 0, 4, .inl (aI le))), (mr 10, .inl (Z 1, 96, .inr (.inl it)))] H locs := WS.arrI hw 2 rfl (fun k hk => by rw [seg_in (by omega)]; rfl)
          refine q_loop (σ := Nat) (fun (c : Nat) => u - c) (fun (c : Nat) => c ≤ u ∧ snI (itF it j) y c) (fun (c : Nat) => [(M, .inr (8, [.ref (mr 0), .ref (mr 1), .int (nI (mi 2)), .ref (mr 3), .ref (mr 4), .int ima, .ref (mr 6), .int (nI (mi 7)), .ref (mr 8), .ref (mr 9), .ref (mr 10), .long (lN (mi 11)), .long (lN (mi 12)), .ref (mr 13), .ref (mr 14), .ref (mr 15), .ref (mr 16), .ref (mr 17), .ref (mr 18), .int (nI (mi 19)), .ref (mr 20), .ref (mr 21), .ref (mr 22), .ref (mr 23), .long (lN (mi 24)), .long (lN (mi 25)), .int (nI (mi 26)), .int (nI (mi 27)), .ref (mr 28), .int (nI (mi 29)), .int (nI (mi 30)), .int (nI (mi 31)), .int (nI (mi 32))])), (mr 0, .inl (Z 0, 18, .inl (aI p))), (mr 13, .inl (Z 0, 9, .inl (aI (snZ (itF it j) y c)))), (mr 8, .inl (Z 0, 4, .inl (lnR th la))), (mr 9, .inl (Z 0, 4, .inl (aI le))), (mr 10, .inl (Z 1, 96, .inr (.inl it)))]) (fun (c : Nat) => [(7, .int (nI c)), (6, .int (nI (snN (itF it j) y c))), (0, .ref M), (1, .int (nI j)), (2, .int (nI x)), (3, .int (nI y)), (4, .int (nI u))]) 0 ⟨Nat.zero_le _, snI_0 (itF it j) y⟩ hw (lv_sub hl [0, 1, 2, 3, 4, 5, 6] rfl) ?_
          intro c H locs ls hi72 hw hl ih72
          try dsimp only at hi72 hw hl ih72
          obtain ⟨q1, q2⟩ := hi72
          have hw : WS D A s [(M, .inr (8, [.ref (mr 0), .ref (mr 1), .int (nI (mi 2)), .ref (mr 3), .ref (mr 4), .int ima, .ref (mr 6), .int (nI (mi 7)), .ref (mr 8), .ref (mr 9), .ref (mr 10), .long (lN (mi 11)), .long (lN (mi 12)), .ref (mr 13), .ref (mr 14), .ref (mr 15), .ref (mr 16), .ref (mr 17), .ref (mr 18), .int (nI (mi 19)), .ref (mr 20), .ref (mr 21), .ref (mr 22), .ref (mr 23), .long (lN (mi 24)), .long (lN (mi 25)), .int (nI (mi 26)), .int (nI (mi 27)), .ref (mr 28), .int (nI (mi 29)), .int (nI (mi 30)), .int (nI (mi 31)), .int (nI (mi 32))])), (mr 0, .inl (Z 0, 18, .inl (aI p))), (mr 13, .inl (Z 0, 9, .inl (aI (snZ (itF it j) y c)))), (mr 8, .inl (Z 0, 4, .inl (lnR th la))), (mr 9, .inl (Z 0, 4, .inl (aI le))), (mr 10, .inl (Z 1, 96, .inr (.inl it)))] H locs := hw
          have hl : lv_has ls 10 [(7, .int (nI c)), (6, .int (nI (snN (itF it j) y c))), (0, .ref M), (1, .int (nI j)), (2, .int (nI x)), (3, .int (nI y)), (4, .int (nI u))] := hl
          have q3 := q2.2.1
          refine lv_iload hx hb dX8_seen_72 (lv_at hl 0 rfl) ?_
          refine lv_iload hx hb dX8_seen_74 (lv_at hl 6 rfl) ?_
          refine q_icmp_ge (tgt := 147) hx hb ((c : Nat) : Int) ((u : Nat) : Int) (nI_toInt (by omega)) (nI_toInt (by omega)) dX8_seen_76 (by decide) (fun c8 => ?_) (fun c8 => ?_)
          · --
            obtain rfl : u = c := by omega
            refine lv_aload_n hx hb dX8_seen_147 rfl (lv_at hl 2 rfl) ?_
            refine lv_aload_n hx hb dX8_seen_148 rfl (lv_at hl 2 rfl) ?_
            refine q_get (v := .ref (mr 13)) (ci := 8) hx hb hts in_X8 hown hK hw 0 13 wd2 dX8_seen_149 rfl rfl (by decide) rfl ?_
            refine lv_iload hx hb dX8_seen_152 (lv_at hl 1 rfl) ?_
            refine q_calli (S := Nat × Nat) (Z := Z) (D := D) (wc := [(M, .inr (8, [.ref (mr 0), .ref (mr 1), .int (nI (mi 2)), .ref (mr 3), .ref (mr 4), .int ima, .ref (mr 6), .int (nI (mi 7)), .ref (mr 8), .ref (mr 9), .ref (mr 10), .long (lN (mi 11)), .long (lN (mi 12)), .ref (mr 13), .ref (mr 14), .ref (mr 15), .ref (mr 16), .ref (mr 17), .ref (mr 18), .int (nI (mi 19)), .ref (mr 20), .ref (mr 21), .ref (mr 22), .ref (mr 23), .long (lN (mi 24)), .long (lN (mi 25)), .int (nI (mi 26)), .int (nI (mi 27)), .ref (mr 28), .int (nI (mi 29)), .int (nI (mi 30)), .int (nI (mi 31)), .int (nI (mi 32))])), (mr 0, .inl (Z 0, 18, .inl (aI p))), (mr 13, .inl (Z 0, 9, .inl (aI (snZ (itF it j) y u))))]) (wr := [(mr 8, .inl (Z 0, 4, .inl (lnR th la))), (mr 9, .inl (Z 0, 4, .inl (aI le))), (mr 10, .inl (Z 1, 96, .inr (.inl it)))]) (rest := []) hw hA [0, 1, 2] [3, 4, 5] rfl rfl rfl rfl (by decide) (fun hPc hDc => va_runV (As := [.ref (mr 13), .int (nI (snN (itF it j) y u))]) (rest := []) ⟨hx, hb, hml, hown, hts⟩ (c_best2 l D Z H.size M mr mi ima p (snZ (itF it j) y u) (snN (itF it j) y u) q2.2.1 (by rw [q2.2.2.1]; omega) h9 h10) (cwV 2 hts gX8_seen_X8_bestAge rfl rfl rfl (by decide +kernel) ⟨Nat.le_of_ble_eq_true rfl, Nat.le_of_ble_eq_true rfl⟩) ⟨fb_cPre, va_recv hK.1 hPc (ci := 8) (q0 := 0) rfl rfl, pre_of hPc hK hDc⟩ rfl rfl hl.1 rfl (lv_room (Nat.le_of_ble_eq_true rfl)) dX8_seen_154 ⟨Nat.le_of_ble_eq_true rfl, Nat.le_of_ble_eq_true rfl⟩) (fun r9 uu H locs hr9 hw => ?_)
            obtain ⟨x'_9, y'_9⟩ := uu
            try dsimp only at hr9 hw
            have hw : WS D A s [(mr 8, .inl (Z 0, 4, .inl (lnR th la))), (mr 9, .inl (Z 0, 4, .inl (aI le))), (mr 10, .inl (Z 1, 96, .inr (.inl it))), (M, .inr (8, [.ref (mr 0), .ref (mr 1), .int (nI (mi 2)), .ref (mr 3), .ref (mr 4), .int ima, .ref (mr 6), .int (nI (mi 7)), .ref (mr 8), .ref (mr 9), .ref (mr 10), .long (lN x'_9), .long (lN y'_9), .ref (mr 13), .ref (mr 14), .ref (mr 15), .ref (mr 16), .ref (mr 17), .ref (mr 18), .int (nI (mi 19)), .ref (mr 20), .ref (mr 21), .ref (mr 22), .ref (mr 23), .long (lN (mi 24)), .long (lN (mi 25)), .int (nI (mi 26)), .int (nI (mi 27)), .ref (mr 28), .int (nI (mi 29)), .int (nI (mi 30)), .int (nI (mi 31)), .int (nI (mi 32))])), (mr 0, .inl (Z 0, 18, .inl (aI p))), (mr 13, .inl (Z 0, 9, .inl (aI (snZ (itF it j) y u))))] H locs := hw
            have hbe := hr9
            exact q_iret (wout := _) hx hb hr hlocks hAe hK (x'_9, y'_9, (snZ (itF it j) y u)) (hw.sub [3, 4, 5, 0, 1, 2] (by decide) rfl) (Or.inr (Or.inr (Or.inr ⟨by omega, by rw [tnI ej, tnI ex]; exact rfu_z hrf, by rw [tnI ej, tnI ey, tnI eu]; exact q2.1, by rw [tnI ej, tnI ey, tnI eu]; exact hbe⟩))) dX8_seen_157
          · --
            refine lv_aload_n hx hb dX8_seen_79 rfl (lv_at hl 2 rfl) ?_
            refine q_get (v := .ref (mr 10)) (ci := 8) hx hb hts in_X8 hown hK hw 0 10 wd3 dX8_seen_80 rfl rfl (by decide) rfl ?_
            refine q_bipush (v := 24) hx hb dX8_seen_83 (by decide) ?_
            refine lv_iload_n hx hb dX8_seen_85 rfl (lv_at hl 3 rfl) ?_
            refine q_imul hx hb dX8_seen_86 ?_
            refine lv_iload_n hx hb dX8_seen_87 rfl (lv_at hl 5 rfl) ?_
            refine q_iadd hx hb dX8_seen_88 ?_
            refine lv_iload hx hb dX8_seen_89 (lv_at hl 0 rfl) ?_
            refine q_iadd hx hb dX8_seen_91 ?_
            refine q_laR hx hb hK hw 5 (by omega) (by omega) dX8_seen_92 rfl ?_
            refine q_topl (x := it (24 * j + y + c)) (y := itF it j (y + c)) (by unfold itF; rw [Nat.add_assoc]) ?_
            refine lv_lstore (lv' := [(8, .long (itF it j (y + c))), (7, .int (nI c)), (6, .int (nI (snN (itF it j) y c))), (0, .ref M), (1, .int (nI j)), (2, .int (nI x)), (3, .int (nI y)), (4, .int (nI u))]) hx hb dX8_seen_93 hl (by decide) rfl (fun ls hl => ?_)
            refine lv_lload hx hb dX8_seen_95 (lv_at hl 0 rfl) ?_
            refine q_lconst (v := 1) hx hb dX8_seen_97 (by decide) ?_
            refine lv_ldc2 hx hb hown wd4 dX8_seen_98 ?_
            refine q_topl (x := 8) (y := lN 8) (by decide) ?_
            refine q_calli (S := Unit) (Z := Z) (D := D) (wc := []) (wr := [(M, .inr (8, [.ref (mr 0), .ref (mr 1), .int (nI (mi 2)), .ref (mr 3), .ref (mr 4), .int ima, .ref (mr 6), .int (nI (mi 7)), .ref (mr 8), .ref (mr 9), .ref (mr 10), .long (lN (mi 11)), .long (lN (mi 12)), .ref (mr 13), .ref (mr 14), .ref (mr 15), .ref (mr 16), .ref (mr 17), .ref (mr 18), .int (nI (mi 19)), .ref (mr 20), .ref (mr 21), .ref (mr 22), .ref (mr 23), .long (lN (mi 24)), .long (lN (mi 25)), .int (nI (mi 26)), .int (nI (mi 27)), .ref (mr 28), .int (nI (mi 29)), .int (nI (mi 30)), .int (nI (mi 31)), .int (nI (mi 32))])), (mr 0, .inl (Z 0, 18, .inl (aI p))), (mr 13, .inl (Z 0, 9, .inl (aI (snZ (itF it j) y c)))), (mr 8, .inl (Z 0, 4, .inl (lnR th la))), (mr 9, .inl (Z 0, 4, .inl (aI le))), (mr 10, .inl (Z 1, 96, .inr (.inl it)))]) (rest := []) hw hA [] [0, 1, 2, 3, 4, 5] rfl rfl rfl rfl (by decide) (fun hPc hDc => va_runS (As := [.long (itF it j (y + c)), .long (lN 1), .long (lN 8)]) (rest := []) ⟨hx, hb, hml, hown, hts⟩ (c_X8_in l D Z H.size (itF it j (y + c)) (lN 1) (lN 8) ((itF it j (y + c)).toInt) ((1 : Nat) : Int) ((8 : Nat) : Int) rfl (pk_lT (by first | omega | assumption)) (pk_lT (by first | omega | assumption))) (va_cwS 3 hts gX8_seen_X8_in rfl rfl rfl (by decide +kernel) ⟨Nat.le_of_ble_eq_true rfl, Nat.le_of_ble_eq_true rfl⟩) ⟨fb_cPre, pre_of hPc hK hDc⟩ rfl rfl hl.1 rfl (lv_room (Nat.le_of_ble_eq_true rfl)) dX8_seen_101 ⟨Nat.le_of_ble_eq_true rfl, Nat.le_of_ble_eq_true rfl⟩) (fun r10 uu H locs hr10 hw => ?_)
            subst hr10
            have hw : WS D A s [(M, .inr (8, [.ref (mr 0), .ref (mr 1), .int (nI (mi 2)), .ref (mr 3), .ref (mr 4), .int ima, .ref (mr 6), .int (nI (mi 7)), .ref (mr 8), .ref (mr 9), .ref (mr 10), .long (lN (mi 11)), .long (lN (mi 12)), .ref (mr 13), .ref (mr 14), .ref (mr 15), .ref (mr 16), .ref (mr 17), .ref (mr 18), .int (nI (mi 19)), .ref (mr 20), .ref (mr 21), .ref (mr 22), .ref (mr 23), .long (lN (mi 24)), .long (lN (mi 25)), .int (nI (mi 26)), .int (nI (mi 27)), .ref (mr 28), .int (nI (mi 29)), .int (nI (mi 30)), .int (nI (mi 31)), .int (nI (mi 32))])), (mr 0, .inl (Z 0, 18, .inl (aI p))), (mr 13, .inl (Z 0, 9, .inl (aI (snZ (itF it j) y c)))), (mr 8, .inl (Z 0, 4, .inl (lnR th la))), (mr 9, .inl (Z 0, 4, .inl (aI le))), (mr 10, .inl (Z 1, 96, .inr (.inl it)))] H locs := hw
            refine q_if_ne (tgt := 110) hx hb ((bb (((1 : Nat) : Int) ≤ ((itF it j (y + c)).toInt) ∧ ((itF it j (y + c)).toInt) ≤ ((8 : Nat) : Int)) : Nat) : Int) (nI_toInt (Nat.lt_of_le_of_lt (bb_le _) (by decide))) dX8_seen_104 (by decide) (fun c11 => ?_) (fun c11 => ?_)
            · --
              have c11 := bb_1 c11
              refine lv_aload_n hx hb dX8_seen_110 rfl (lv_at hl 3 rfl) ?_
              refine q_get (v := .ref (mr 13)) (ci := 8) hx hb hts in_X8 hown hK hw 0 13 wd2 dX8_seen_111 rfl rfl (by decide) rfl ?_
              refine lv_lload hx hb dX8_seen_114 (lv_at hl 0 rfl) ?_
              refine lv_l2i hx hb dX8_seen_116 rfl ?_
              refine q_topi (x := (itF it j (y + c)).toInt32) (y := nI (itn (itF it j (y + c)))) (itn_i ⟨by omega, by omega⟩) ?_
              refine lv_dup2_11 hx hb dX8_seen_117 rfl rfl ?_
              have b1 : itn (itF it j (y + c)) < 9 := by unfold itn; omega
              refine q_iald hx hb hK hw 2 (by omega) (by omega) dX8_seen_118 rfl ?_
              refine q_iconst (v := 1) hx hb dX8_seen_119 (by decide) ?_
              refine q_iadd hx hb dX8_seen_120 ?_
              refine q_iast hx hb hK hw 2 (by omega) (by omega) dX8_seen_121 rfl (fun H locs hw => ?_)
              have hw : WS D A s [(M, .inr (8, [.ref (mr 0), .ref (mr 1), .int (nI (mi 2)), .ref (mr 3), .ref (mr 4), .int ima, .ref (mr 6), .int (nI (mi 7)), .ref (mr 8), .ref (mr 9), .ref (mr 10), .long (lN (mi 11)), .long (lN (mi 12)), .ref (mr 13), .ref (mr 14), .ref (mr 15), .ref (mr 16), .ref (mr 17), .ref (mr 18), .int (nI (mi 19)), .ref (mr 20), .ref (mr 21), .ref (mr 22), .ref (mr 23), .long (lN (mi 24)), .long (lN (mi 25)), .int (nI (mi 26)), .int (nI (mi 27)), .ref (mr 28), .int (nI (mi 29)), .int (nI (mi 30)), .int (nI (mi 31)), .int (nI (mi 32))])), (mr 0, .inl (Z 0, 18, .inl (aI p))), (mr 13, .inl (Z 0, 9, .inl (aI (va_up (snZ (itF it j) y c) (itn (itF it j (y + c))) ((snZ (itF it j) y c) (itn (itF it j (y + c))) + 1))))), (mr 8, .inl (Z 0, 4, .inl (lnR th la))), (mr 9, .inl (Z 0, 4, .inl (aI le))), (mr 10, .inl (Z 1, 96, .inr (.inl it)))] H locs := hw
              refine lv_lload hx hb dX8_seen_122 (lv_at hl 0 rfl) ?_
              refine lv_iload hx hb dX8_seen_124 (lv_at hl 2 rfl) ?_
              refine q_i2l hx hb (by omega) dX8_seen_126 ?_
              refine q_lc_le (tgt := 137) hx hb (itF it j (y + c)).toInt ((snN (itF it j) y c : Nat) : Int) rfl (pk_lT (by first | omega | assumption)) dX8_seen_127 dX8_seen_128 (by decide) (fun c12 => ?_) (fun c12 => ?_)
              · --
                refine lv_iload hx hb dX8_seen_137 (lv_at hl 2 rfl) ?_
                refine lv_istore (lv' := [(6, .int (nI (snN (itF it j) y c))), (8, .long (itF it j (y + c))), (7, .int (nI c)), (0, .ref M), (1, .int (nI j)), (2, .int (nI x)), (3, .int (nI y)), (4, .int (nI u))]) hx hb dX8_seen_139 hl (by decide) rfl (fun ls hl => ?_)
                refine lv_iinc (v := nI (c + 1)) (lv' := [(7, .int (nI (c + 1))), (6, .int (nI (snN (itF it j) y c))), (8, .long (itF it j (y + c))), (0, .ref M), (1, .int (nI j)), (2, .int (nI x)), (3, .int (nI y)), (4, .int (nI u))]) hx hb dX8_seen_141 hl (k := 2) rfl (nI_add _ _) (by decide) rfl (fun ls hl => ?_)
                refine lv_goto (tgt := 72) hx hb dX8_seen_144 (by decide) ?_
                have hl : lv_has ls 10 [(7, .int (nI (c + 1))), (6, .int (nI (snN (itF it j) y (c + 1)))), (8, .long (itF it j (y + c))), (0, .ref M), (1, .int (nI j)), (2, .int (nI x)), (3, .int (nI y)), (4, .int (nI u))] := by rw [show (snN (itF it j) y (c + 1) : Nat) = snN (itF it j) y c from by simp only [snN]; unfold itn; omega]; exact hl
                have hw : WS D A s [(M, .inr (8, [.ref (mr 0), .ref (mr 1), .int (nI (mi 2)), .ref (mr 3), .ref (mr 4), .int ima, .ref (mr 6), .int (nI (mi 7)), .ref (mr 8), .ref (mr 9), .ref (mr 10), .long (lN (mi 11)), .long (lN (mi 12)), .ref (mr 13), .ref (mr 14), .ref (mr 15), .ref (mr 16), .ref (mr 17), .ref (mr 18), .int (nI (mi 19)), .ref (mr 20), .ref (mr 21), .ref (mr 22), .ref (mr 23), .long (lN (mi 24)), .long (lN (mi 25)), .int (nI (mi 26)), .int (nI (mi 27)), .ref (mr 28), .int (nI (mi 29)), .int (nI (mi 30)), .int (nI (mi 31)), .int (nI (mi 32))])), (mr 0, .inl (Z 0, 18, .inl (aI p))), (mr 13, .inl (Z 0, 9, .inl (aI (snZ (itF it j) y (c + 1))))), (mr 8, .inl (Z 0, 4, .inl (lnR th la))), (mr 9, .inl (Z 0, 4, .inl (aI le))), (mr 10, .inl (Z 1, 96, .inr (.inl it)))] H locs := by rw [show (snZ (itF it j) y (c + 1)) = (va_up (snZ (itF it j) y c) (itn (itF it j (y + c))) ((snZ (itF it j) y c) (itn (itF it j (y + c))) + 1)) from rfl]; exact hw
                exact ih72 (c + 1) H locs ls (by omega) ⟨by omega, snI_s q2 ⟨by omega, by omega⟩⟩ hw (lv_sub hl [0, 1, 3, 4, 5, 6, 7] rfl)
              · --
                refine lv_lload hx hb dX8_seen_131 (lv_at hl 0 rfl) ?_
                refine lv_l2i hx hb dX8_seen_133 rfl ?_
                refine q_topi (x := (itF it j (y + c)).toInt32) (y := nI (itn (itF it j (y + c)))) (itn_i ⟨by omega, by omega⟩) ?_
                refine lv_goto (tgt := 139) hx hb dX8_seen_134 (by decide) ?_
                refine lv_istore (lv' := [(6, .int (nI (itn (itF it j (y + c))))), (8, .long (itF it j (y + c))), (7, .int (nI c)), (0, .ref M), (1, .int (nI j)), (2, .int (nI x)), (3, .int (nI y)), (4, .int (nI u))]) hx hb dX8_seen_139 hl (by decide) rfl (fun ls hl => ?_)
                refine lv_iinc (v := nI (c + 1)) (lv' := [(7, .int (nI (c + 1))), (6, .int (nI (itn (itF it j (y + c))))), (8, .long (itF it j (y + c))), (0, .ref M), (1, .int (nI j)), (2, .int (nI x)), (3, .int (nI y)), (4, .int (nI u))]) hx hb dX8_seen_141 hl (k := 2) rfl (nI_add _ _) (by decide) rfl (fun ls hl => ?_)
                refine lv_goto (tgt := 72) hx hb dX8_seen_144 (by decide) ?_
                have hl : lv_has ls 10 [(7, .int (nI (c + 1))), (6, .int (nI (snN (itF it j) y (c + 1)))), (8, .long (itF it j (y + c))), (0, .ref M), (1, .int (nI j)), (2, .int (nI x)), (3, .int (nI y)), (4, .int (nI u))] := by rw [show (snN (itF it j) y (c + 1) : Nat) = itn (itF it j (y + c)) from by simp only [snN]; unfold itn; omega]; exact hl
                have hw : WS D A s [(M, .inr (8, [.ref (mr 0), .ref (mr 1), .int (nI (mi 2)), .ref (mr 3), .ref (mr 4), .int ima, .ref (mr 6), .int (nI (mi 7)), .ref (mr 8), .ref (mr 9), .ref (mr 10), .long (lN (mi 11)), .long (lN (mi 12)), .ref (mr 13), .ref (mr 14), .ref (mr 15), .ref (mr 16), .ref (mr 17), .ref (mr 18), .int (nI (mi 19)), .ref (mr 20), .ref (mr 21), .ref (mr 22), .ref (mr 23), .long (lN (mi 24)), .long (lN (mi 25)), .int (nI (mi 26)), .int (nI (mi 27)), .ref (mr 28), .int (nI (mi 29)), .int (nI (mi 30)), .int (nI (mi 31)), .int (nI (mi 32))])), (mr 0, .inl (Z 0, 18, .inl (aI p))), (mr 13, .inl (Z 0, 9, .inl (aI (snZ (itF it j) y (c + 1))))), (mr 8, .inl (Z 0, 4, .inl (lnR th la))), (mr 9, .inl (Z 0, 4, .inl (aI le))), (mr 10, .inl (Z 1, 96, .inr (.inl it)))] H locs := by rw [show (snZ (itF it j) y (c + 1)) = (va_up (snZ (itF it j) y c) (itn (itF it j (y + c))) ((snZ (itF it j) y c) (itn (itF it j (y + c))) + 1)) from rfl]; exact hw
                exact ih72 (c + 1) H locs ls (by omega) ⟨by omega, snI_s q2 ⟨by omega, by omega⟩⟩ hw (lv_sub hl [0, 1, 3, 4, 5, 6, 7] rfl)
            · --
              have c11 := bb_0 c11
              refine lv_bipush (v := (-2)) hx hb dX8_seen_107 (by decide) ?_
              exact q_iret (wout := _) hx hb hr hlocks hAe hK (mi 11, mi 12, snZ (itF it j) y c) hw (Or.inr (Or.inr (Or.inl ⟨by omega, by rw [tnI ej, tnI ex]; exact rfu_z hrf, ⟨c, by omega, by rw [tnI ej, tnI ey]; omega⟩, rfl⟩))) dX8_seen_109
        · --
          refine lv_aload_n hx hb dX8_seen_55 rfl (lv_at hl 2 rfl) ?_
          refine q_get (v := .ref (mr 13)) (ci := 8) hx hb hts in_X8 hown hK hw 0 13 wd2 dX8_seen_56 rfl rfl (by decide) rfl ?_
          refine lv_iload hx hb dX8_seen_59 (lv_at hl 0 rfl) ?_
          refine q_iconst (v := 0) hx hb dX8_seen_61 (by decide) ?_
          refine q_iast hx hb hK hw 2 (by omega) (by omega) dX8_seen_62 rfl (fun H locs hw => ?_)
          have hw : WS D A s [(M, .inr (8, [.ref (mr 0), .ref (mr 1), .int (nI (mi 2)), .ref (mr 3), .ref (mr 4), .int ima, .ref (mr 6), .int (nI (mi 7)), .ref (mr 8), .ref (mr 9), .ref (mr 10), .long (lN (mi 11)), .long (lN (mi 12)), .ref (mr 13), .ref (mr 14), .ref (mr 15), .ref (mr 16), .ref (mr 17), .ref (mr 18), .int (nI (mi 19)), .ref (mr 20), .ref (mr 21), .ref (mr 22), .ref (mr 23), .long (lN (mi 24)), .long (lN (mi 25)), .int (nI (mi 26)), .int (nI (mi 27)), .ref (mr 28), .int (nI (mi 29)), .int (nI (mi 30)), .int (nI (mi 31)), .int (nI (mi 32))])), (mr 0, .inl (Z 0, 18, .inl (aI p))), (mr 13, .inl (Z 0, 9, .inl (aI (va_up (seg (fun _ => 0) c sr) c 0)))), (mr 8, .inl (Z 0, 4, .inl (lnR th la))), (mr 9, .inl (Z 0, 4, .inl (aI le))), (mr 10, .inl (Z 1, 96, .inr (.inl it)))] H locs := hw
          refine lv_iinc (v := nI (c + 1)) (lv' := [(7, .int (nI (c + 1))), (6, .int (nI 0)), (0, .ref M), (1, .int (nI j)), (2, .int (nI x)), (3, .int (nI y)), (4, .int (nI u))]) hx hb dX8_seen_63 hl (k := 0) rfl (nI_add _ _) (by decide) rfl (fun ls hl => ?_)
          refine lv_goto (tgt := 48) hx hb dX8_seen_66 (by decide) ?_
          have hw : WS D A s [(M, .inr (8, [.ref (mr 0), .ref (mr 1), .int (nI (mi 2)), .ref (mr 3), .ref (mr 4), .int ima, .ref (mr 6), .int (nI (mi 7)), .ref (mr 8), .ref (mr 9), .ref (mr 10), .long (lN (mi 11)), .long (lN (mi 12)), .ref (mr 13), .ref (mr 14), .ref (mr 15), .ref (mr 16), .ref (mr 17), .ref (mr 18), .int (nI (mi 19)), .ref (mr 20), .ref (mr 21), .ref (mr 22), .ref (mr 23), .long (lN (mi 24)), .long (lN (mi 25)), .int (nI (mi 26)), .int (nI (mi 27)), .ref (mr 28), .int (nI (mi 29)), .int (nI (mi 30)), .int (nI (mi 31)), .int (nI (mi 32))])), (mr 0, .inl (Z 0, 18, .inl (aI p))), (mr 13, .inl (Z 0, 9, .inl (aI (seg (fun _ => 0) (c + 1) sr)))), (mr 8, .inl (Z 0, 4, .inl (lnR th la))), (mr 9, .inl (Z 0, 4, .inl (aI le))), (mr 10, .inl (Z 1, 96, .inr (.inl it)))] H locs := by rw [show (seg (fun _ => 0) (c + 1) sr) = (va_up (seg (fun _ => 0) c sr) c 0) from (seg_up (fun _ => 0) c sr).symm]; exact hw
          exact ih48 (c + 1) H locs ls (by omega) (by omega) hw (lv_sub hl [0, 1, 2, 3, 4, 5, 6] rfl)
      · --
        have hrn := rfu_n c6
        refine lv_iload hx hb dX8_seen_39 (lv_at hl 0 rfl) ?_
        exact q_iret (wout := _) hx hb hr hlocks hAe hK (mi 11, mi 12, sr) (hw.sub [3, 0, 1, 4, 5, 2] (by decide) rfl) (Or.inr (Or.inl ⟨by omega, by rw [tnI ej, tnI ex]; exact hrn, by rw [tnI ej, tnI ex]⟩)) dX8_seen_41
    · --
      have c4 := bb_0 c4
      refine lv_iconst (v := (-1)) hx hb dX8_seen_21 (by decide) ?_
      exact q_iret (wout := _) hx hb hr hlocks hAe hK (mi 11, mi 12, sr) hw (Or.inl ⟨by omega, rfl⟩) dX8_seen_22
set_option maxHeartbeats 4000000 in
set_option maxRecDepth 100000 in
theorem c_X8_copy (l : Launch) (D : va_G) (Z : Nat → ClassId) (zs0 : Nat) (M : Nat) (mr mi : Nat → Nat) (ima : Int32) (th la le : Nat → Nat) (it : Nat → Int64) (q i o j n : Int32) (hla : ∀ k, k < 4 → la k ≤ 3) (hle : ∀ k, k < 4 → le k ≤ 24) : cMi l yX8_copy wsX8_copy (rmd 2) D Z zs0 [.ref M, .int q, .int i, .int o, .int j, .int n] [(M, .inr (8, [.ref (mr 0), .ref (mr 1), .int (nI (mi 2)), .ref (mr 3), .ref (mr 4), .int ima, .ref (mr 6), .int (nI (mi 7)), .ref (mr 8), .ref (mr 9), .ref (mr 10), .long (lN (mi 11)), .long (lN (mi 12)), .ref (mr 13), .ref (mr 14), .ref (mr 15), .ref (mr 16), .ref (mr 17), .ref (mr 18), .int (nI (mi 19)), .ref (mr 20), .ref (mr 21), .ref (mr 22), .ref (mr 23), .long (lN (mi 24)), .long (lN (mi 25)), .int (nI (mi 26)), .int (nI (mi 27)), .ref (mr 28), .int (nI (mi 29)), .int (nI (mi 30)), .int (nI (mi 31)), .int (nI (mi 32))])), (mr 8, .inl (Z 0, 4, .inl (lnR th la))), (mr 9, .inl (Z 0, 4, .inl (aI le))), (mr 10, .inl (Z 1, 96, .inr (.inl it)))] (S := (Nat → Int64)) (fun (r : Int32) => fun (it' : Nat → Int64) => r = cyC th la le q i o j n ∧ ((¬ cyOk th la le q i o j n ∧ it' = it) ∨ (cyOk th la le q i o j n ∧ it' = va_cpy it it (24 * q.toInt.toNat + i.toInt.toNat) (24 * o.toInt.toNat + j.toInt.toNat) n.toInt.toNat))) (fun (it' : Nat → Int64) => [(M, .inr (8, [.ref (mr 0), .ref (mr 1), .int (nI (mi 2)), .ref (mr 3), .ref (mr 4), .int ima, .ref (mr 6), .int (nI (mi 7)), .ref (mr 8), .ref (mr 9), .ref (mr 10), .long (lN (mi 11)), .long (lN (mi 12)), .ref (mr 13), .ref (mr 14), .ref (mr 15), .ref (mr 16), .ref (mr 17), .ref (mr 18), .int (nI (mi 19)), .ref (mr 20), .ref (mr 21), .ref (mr 22), .ref (mr 23), .long (lN (mi 24)), .long (lN (mi 25)), .int (nI (mi 26)), .int (nI (mi 27)), .ref (mr 28), .int (nI (mi 29)), .int (nI (mi 30)), .int (nI (mi 31)), .int (nI (mi 32))])), (mr 8, .inl (Z 0, 4, .inl (lnR th la))), (mr 9, .inl (Z 0, 4, .inl (aI le))), (mr 10, .inl (Z 1, 96, .inr (.inl it')))]) 0 0 := by
  refine q_open (y := yX8_copy) (ws := wsX8_copy) (av := [.ref M, .int q, .int i, .int o, .int j, .int n]) (win := [(M, .inr (8, [.ref (mr 0), .ref (mr 1), .int (nI (mi 2)), .ref (mr 3), .ref (mr 4), .int ima, .ref (mr 6), .int (nI (mi 7)), .ref (mr 8), .ref (mr 9), .ref (mr 10), .long (lN (mi 11)), .long (lN (mi 12)), .ref (mr 13), .ref (mr 14), .ref (mr 15), .ref (mr 16), .ref (mr 17), .ref (mr 18), .int (nI (mi 19)), .ref (mr 20), .ref (mr 21), .ref (mr 22), .ref (mr 23), .long (lN (mi 24)), .long (lN (mi 25)), .int (nI (mi 26)), .int (nI (mi 27)), .ref (mr 28), .int (nI (mi 29)), .int (nI (mi 30)), .int (nI (mi 31)), .int (nI (mi 32))])), (mr 8, .inl (Z 0, 4, .inl (lnR th la))), (mr 9, .inl (Z 0, 4, .inl (aI le))), (mr 10, .inl (Z 1, 96, .inr (.inl it)))]) (Qc := fun zs0 => cQi D Z zs0 [(M, .inr (8, [.ref (mr 0), .ref (mr 1), .int (nI (mi 2)), .ref (mr 3), .ref (mr 4), .int ima, .ref (mr 6), .int (nI (mi 7)), .ref (mr 8), .ref (mr 9), .ref (mr 10), .long (lN (mi 11)), .long (lN (mi 12)), .ref (mr 13), .ref (mr 14), .ref (mr 15), .ref (mr 16), .ref (mr 17), .ref (mr 18), .int (nI (mi 19)), .ref (mr 20), .ref (mr 21), .ref (mr 22), .ref (mr 23), .long (lN (mi 24)), .long (lN (mi 25)), .int (nI (mi 26)), .int (nI (mi 27)), .ref (mr 28), .int (nI (mi 29)), .int (nI (mi 30)), .int (nI (mi 31)), .int (nI (mi 32))])), (mr 8, .inl (Z 0, 4, .inl (lnR th la))), (mr 9, .inl (Z 0, 4, .inl (aI le))), (mr 10, .inl (Z 1, 96, .inr (.inl it)))] (S := (Nat → Int64)) (fun (r : Int32) => fun (it' : Nat → Int64) => r = cyC th la le q i o j n ∧ ((¬ cyOk th la le q i o j n ∧ it' = it) ∨ (cyOk th la le q i o j n ∧ it' = va_cpy it it (24 * q.toInt.toNat + i.toInt.toNat) (24 * o.toInt.toNat + j.toInt.toNat) n.toInt.toNat))) (fun (it' : Nat → Int64) => [(M, .inr (8, [.ref (mr 0), .ref (mr 1), .int (nI (mi 2)), .ref (mr 3), .ref (mr 4), .int ima, .ref (mr 6), .int (nI (mi 7)), .ref (mr 8), .ref (mr 9), .ref (mr 10), .long (lN (mi 11)), .long (lN (mi 12)), .ref (mr 13), .ref (mr 14), .ref (mr 15), .ref (mr 16), .ref (mr 17), .ref (mr 18), .int (nI (mi 19)), .ref (mr 20), .ref (mr 21), .ref (mr 22), .ref (mr 23), .long (lN (mi 24)), .long (lN (mi 25)), .int (nI (mi 26)), .int (nI (mi 27)), .ref (mr 28), .int (nI (mi 29)), .int (nI (mi 30)), .int (nI (mi 31)), .int (nI (mi 32))])), (mr 8, .inl (Z 0, 4, .inl (lnR th la))), (mr 9, .inl (Z 0, 4, .inl (aI le))), (mr 10, .inl (Z 1, 96, .inr (.inl it')))])) (cc := cX8_copy) (maxL := 9) (ret := (some .int)) (by decide) rfl (Nat.le_of_ble_eq_true rfl) ?_
  intro pp ee s mm bw mt cd ls A H locs hAe hx hb hr hml hown hmn hts hlocks hA hK hw hl
  have hown : s.vm.findClass RX8 = some mm.cls := hown
  have hl : lv_has ls 9 [(0, .ref M), (1, .int q), (2, .int i), (3, .int o), (4, .int j), (5, .int n)] := hl
  have wd1 := hts (.constantLong RX8 130 (3)) (List.mem_of_getElem? (i := 1) rfl)
  have wd2 := hts (.fieldLink RX8 29 "ReplaceAgesModel" "laneOf" "[I") (List.mem_of_getElem? (i := 2) rfl)
  have wd3 := hts (.fieldLink RX8 32 "ReplaceAgesModel" "sizeOf" "[I") (List.mem_of_getElem? (i := 3) rfl)
  have wd4 := hts (.fieldLink RX8 35 "ReplaceAgesModel" "items" "[J") (List.mem_of_getElem? (i := 4) rfl)
  have in_X8 : ∀ w ∈ wsX80, w ∈ wsX8_copy := fun _ h => List.mem_cons_of_mem _ (List.mem_append_right _ h)
  refine lv_iload_n hx hb dX8_copy_0 rfl (lv_at hl 1 rfl) ?_
  refine lv_i2l hx hb dX8_copy_1 rfl ?_
  refine q_lconst (v := 0) hx hb dX8_copy_2 (by decide) ?_
  refine lv_ldc2 hx hb hown wd1 dX8_copy_3 ?_
  refine q_topl (x := 3) (y := lN 3) (by decide) ?_
  refine q_calli (S := Unit) (Z := Z) (D := D) (wc := []) (wr := [(M, .inr (8, [.ref (mr 0), .ref (mr 1), .int (nI (mi 2)), .ref (mr 3), .ref (mr 4), .int ima, .ref (mr 6), .int (nI (mi 7)), .ref (mr 8), .ref (mr 9), .ref (mr 10), .long (lN (mi 11)), .long (lN (mi 12)), .ref (mr 13), .ref (mr 14), .ref (mr 15), .ref (mr 16), .ref (mr 17), .ref (mr 18), .int (nI (mi 19)), .ref (mr 20), .ref (mr 21), .ref (mr 22), .ref (mr 23), .long (lN (mi 24)), .long (lN (mi 25)), .int (nI (mi 26)), .int (nI (mi 27)), .ref (mr 28), .int (nI (mi 29)), .int (nI (mi 30)), .int (nI (mi 31)), .int (nI (mi 32))])), (mr 8, .inl (Z 0, 4, .inl (lnR th la))), (mr 9, .inl (Z 0, 4, .inl (aI le))), (mr 10, .inl (Z 1, 96, .inr (.inl it)))]) (rest := []) hw hA [] [0, 1, 2, 3] rfl rfl rfl rfl (by decide) (fun hPc hDc => va_runS (As := [.long q.toInt64, .long (lN 0), .long (lN 3)]) (rest := []) ⟨hx, hb, hml, hown, hts⟩ (c_X8_in l D Z H.size q.toInt64 (lN 0) (lN 3) q.toInt ((0 : Nat) : Int) ((3 : Nat) : Int) (Int32.toInt_toInt64 _) (pk_lT (by first | omega | assumption)) (pk_lT (by first | omega | assumption))) (va_cwS 3 hts gX8_copy_X8_in rfl rfl rfl (by decide +kernel) ⟨Nat.le_of_ble_eq_true rfl, Nat.le_of_ble_eq_true rfl⟩) ⟨fb_cPre, pre_of hPc hK hDc⟩ rfl rfl hl.1 rfl (lv_room (Nat.le_of_ble_eq_true rfl)) dX8_copy_6 ⟨Nat.le_of_ble_eq_true rfl, Nat.le_of_ble_eq_true rfl⟩) (fun r1 uu H locs hr1 hw => ?_)
  subst hr1
  have hw : WS D A s [(M, .inr (8, [.ref (mr 0), .ref (mr 1), .int (nI (mi 2)), .ref (mr 3), .ref (mr 4), .int ima, .ref (mr 6), .int (nI (mi 7)), .ref (mr 8), .ref (mr 9), .ref (mr 10), .long (lN (mi 11)), .long (lN (mi 12)), .ref (mr 13), .ref (mr 14), .ref (mr 15), .ref (mr 16), .ref (mr 17), .ref (mr 18), .int (nI (mi 19)), .ref (mr 20), .ref (mr 21), .ref (mr 22), .ref (mr 23), .long (lN (mi 24)), .long (lN (mi 25)), .int (nI (mi 26)), .int (nI (mi 27)), .ref (mr 28), .int (nI (mi 29)), .int (nI (mi 30)), .int (nI (mi 31)), .int (nI (mi 32))])), (mr 8, .inl (Z 0, 4, .inl (lnR th la))), (mr 9, .inl (Z 0, 4, .inl (aI le))), (mr 10, .inl (Z 1, 96, .inr (.inl it)))] H locs := hw
  refine q_if_eq (tgt := 24) hx hb ((bb (((0 : Nat) : Int) ≤ q.toInt ∧ q.toInt ≤ ((3 : Nat) : Int)) : Nat) : Int) (nI_toInt (Nat.lt_of_le_of_lt (bb_le _) (by decide))) dX8_copy_9 (by decide) (fun c2 => ?_) (fun c2 => ?_)
  · --
    have c2 := bb_0 c2
    refine lv_iconst (v := (-1)) hx hb dX8_copy_24 (by decide) ?_
    exact q_iret (wout := _) hx hb hr hlocks hAe hK it hw (⟨(if_pos (by omega)).symm, Or.inl ⟨fun h => by unfold cyOk at h; omega, rfl⟩⟩) dX8_copy_25
  · --
    have c2 := bb_1 c2
    refine lv_iload_n hx hb dX8_copy_12 rfl (lv_at hl 3 rfl) ?_
    refine lv_i2l hx hb dX8_copy_13 rfl ?_
    refine q_lconst (v := 0) hx hb dX8_copy_14 (by decide) ?_
    refine lv_ldc2 hx hb hown wd1 dX8_copy_15 ?_
    refine q_topl (x := 3) (y := lN 3) (by decide) ?_
    refine q_calli (S := Unit) (Z := Z) (D := D) (wc := []) (wr := [(M, .inr (8, [.ref (mr 0), .ref (mr 1), .int (nI (mi 2)), .ref (mr 3), .ref (mr 4), .int ima, .ref (mr 6), .int (nI (mi 7)), .ref (mr 8), .ref (mr 9), .ref (mr 10), .long (lN (mi 11)), .long (lN (mi 12)), .ref (mr 13), .ref (mr 14), .ref (mr 15), .ref (mr 16), .ref (mr 17), .ref (mr 18), .int (nI (mi 19)), .ref (mr 20), .ref (mr 21), .ref (mr 22), .ref (mr 23), .long (lN (mi 24)), .long (lN (mi 25)), .int (nI (mi 26)), .int (nI (mi 27)), .ref (mr 28), .int (nI (mi 29)), .int (nI (mi 30)), .int (nI (mi 31)), .int (nI (mi 32))])), (mr 8, .inl (Z 0, 4, .inl (lnR th la))), (mr 9, .inl (Z 0, 4, .inl (aI le))), (mr 10, .inl (Z 1, 96, .inr (.inl it)))]) (rest := []) hw hA [] [0, 1, 2, 3] rfl rfl rfl rfl (by decide) (fun hPc hDc => va_runS (As := [.long o.toInt64, .long (lN 0), .long (lN 3)]) (rest := []) ⟨hx, hb, hml, hown, hts⟩ (c_X8_in l D Z H.size o.toInt64 (lN 0) (lN 3) o.toInt ((0 : Nat) : Int) ((3 : Nat) : Int) (Int32.toInt_toInt64 _) (pk_lT (by first | omega | assumption)) (pk_lT (by first | omega | assumption))) (va_cwS 3 hts gX8_copy_X8_in rfl rfl rfl (by decide +kernel) ⟨Nat.le_of_ble_eq_true rfl, Nat.le_of_ble_eq_true rfl⟩) ⟨fb_cPre, pre_of hPc hK hDc⟩ rfl rfl hl.1 rfl (lv_room (Nat.le_of_ble_eq_true rfl)) dX8_copy_18 ⟨Nat.le_of_ble_eq_true rfl, Nat.le_of_ble_eq_true rfl⟩) (fun r3 uu H locs hr3 hw => ?_)
    subst hr3
    have hw : WS D A s [(M, .inr (8, [.ref (mr 0), .ref (mr 1), .int (nI (mi 2)), .ref (mr 3), .ref (mr 4), .int ima, .ref (mr 6), .int (nI (mi 7)), .ref (mr 8), .ref (mr 9), .ref (mr 10), .long (lN (mi 11)), .long (lN (mi 12)), .ref (mr 13), .ref (mr 14), .ref (mr 15), .ref (mr 16), .ref (mr 17), .ref (mr 18), .int (nI (mi 19)), .ref (mr 20), .ref (mr 21), .ref (mr 22), .ref (mr 23), .long (lN (mi 24)), .long (lN (mi 25)), .int (nI (mi 26)), .int (nI (mi 27)), .ref (mr 28), .int (nI (mi 29)), .int (nI (mi 30)), .int (nI (mi 31)), .int (nI (mi 32))])), (mr 8, .inl (Z 0, 4, .inl (lnR th la))), (mr 9, .inl (Z 0, 4, .inl (aI le))), (mr 10, .inl (Z 1, 96, .inr (.inl it)))] H locs := hw
    refine q_if_ne (tgt := 26) hx hb ((bb (((0 : Nat) : Int) ≤ o.toInt ∧ o.toInt ≤ ((3 : Nat) : Int)) : Nat) : Int) (nI_toInt (Nat.lt_of_le_of_lt (bb_le _) (by decide))) dX8_copy_21 (by decide) (fun c4 => ?_) (fun c4 => ?_)
    · --
      have c4 := bb_1 c4
      obtain ⟨k, rfl, ek⟩ := i32_nat (x := q) (by omega)
      obtain ⟨m, rfl, em⟩ := i32_nat (x := o) (by omega)
      have lvk := lnR_v th la k (hla k (by omega))
      have lvm := lnR_v th la m (hla m (by omega))
      have e1 := hle k (by omega)
      have e2 := hle m (by omega)
      refine lv_aload_n hx hb dX8_copy_26 rfl (lv_at hl 0 rfl) ?_
      refine q_get (v := .ref (mr 8)) (ci := 8) hx hb hts in_X8 hown hK hw 0 8 wd2 dX8_copy_27 rfl rfl (by decide) rfl ?_
      refine lv_iload_n hx hb dX8_copy_30 rfl (lv_at hl 1 rfl) ?_
      refine q_iaR hx hb hK hw 1 (by omega) (by omega) dX8_copy_31 rfl ?_
      refine q_if_lt (tgt := 44) hx hb ((lnR th la) k).toInt rfl dX8_copy_32 (by decide) (fun c5 => ?_) (fun c5 => ?_)
      · --
        refine lv_bipush (v := (-11)) hx hb dX8_copy_44 (by decide) ?_
        exact q_iret (wout := _) hx hb hr hlocks hAe hK it hw (⟨by unfold cyC; rw [if_neg (by omega), tnI ek, tnI em, if_pos (by omega)], Or.inl ⟨fun h => by unfold cyOk at h; (try rw [tnI ek] at h); (try rw [tnI em] at h); unfold hol at h; omega, rfl⟩⟩) dX8_copy_46
      · --
        refine lv_aload_n hx hb dX8_copy_35 rfl (lv_at hl 0 rfl) ?_
        refine q_get (v := .ref (mr 8)) (ci := 8) hx hb hts in_X8 hown hK hw 0 8 wd2 dX8_copy_36 rfl rfl (by decide) rfl ?_
        refine lv_iload_n hx hb dX8_copy_39 rfl (lv_at hl 3 rfl) ?_
        refine q_iaR hx hb hK hw 1 (by omega) (by omega) dX8_copy_40 rfl ?_
        refine q_if_ge (tgt := 47) hx hb ((lnR th la) m).toInt rfl dX8_copy_41 (by decide) (fun c6 => ?_) (fun c6 => ?_)
        · --
          refine lv_aload_n hx hb dX8_copy_47 rfl (lv_at hl 0 rfl) ?_
          refine q_get (v := .ref (mr 8)) (ci := 8) hx hb hts in_X8 hown hK hw 0 8 wd2 dX8_copy_48 rfl rfl (by decide) rfl ?_
          refine lv_iload_n hx hb dX8_copy_51 rfl (lv_at hl 1 rfl) ?_
          refine q_iaR hx hb hK hw 1 (by omega) (by omega) dX8_copy_52 rfl ?_
          refine lv_aload_n hx hb dX8_copy_53 rfl (lv_at hl 0 rfl) ?_
          refine q_get (v := .ref (mr 8)) (ci := 8) hx hb hts in_X8 hown hK hw 0 8 wd2 dX8_copy_54 rfl rfl (by decide) rfl ?_
          refine lv_iload_n hx hb dX8_copy_57 rfl (lv_at hl 3 rfl) ?_
          refine q_iaR hx hb hK hw 1 (by omega) (by omega) dX8_copy_58 rfl ?_
          refine q_icmp_eq (tgt := 65) hx hb ((lnR th la) k).toInt ((lnR th la) m).toInt rfl rfl dX8_copy_59 (by decide) (fun c7 => ?_) (fun c7 => ?_)
          · --
            refine lv_iload hx hb dX8_copy_65 (lv_at hl 5 rfl) ?_
            refine q_if_lt (tgt := 113) hx hb n.toInt rfl dX8_copy_67 (by decide) (fun c8 => ?_) (fun c8 => ?_)
            · --
              refine lv_bipush (v := (-13)) hx hb dX8_copy_113 (by decide) ?_
              exact q_iret (wout := _) hx hb hr hlocks hAe hK it hw (⟨by unfold cyC; rw [if_neg (by omega), tnI ek, tnI em, if_neg (by omega), if_neg (by omega), if_neg (by unfold hol; omega)], Or.inl ⟨fun h => by unfold cyOk at h; (try rw [tnI ek] at h); (try rw [tnI em] at h); unfold hol at h; omega, rfl⟩⟩) dX8_copy_115
            · --
              refine lv_iload hx hb dX8_copy_70 (lv_at hl 5 rfl) ?_
              refine q_bipush (v := 24) hx hb dX8_copy_72 (by decide) ?_
              refine q_icmp_gt (tgt := 113) hx hb n.toInt ((24 : Nat) : Int) rfl (nI_toInt (by omega)) dX8_copy_74 (by decide) (fun c9 => ?_) (fun c9 => ?_)
              · --
                refine lv_bipush (v := (-13)) hx hb dX8_copy_113 (by decide) ?_
                exact q_iret (wout := _) hx hb hr hlocks hAe hK it hw (⟨by unfold cyC; rw [if_neg (by omega), tnI ek, tnI em, if_neg (by omega), if_neg (by omega), if_neg (by unfold hol; omega)], Or.inl ⟨fun h => by unfold cyOk at h; (try rw [tnI ek] at h); (try rw [tnI em] at h); unfold hol at h; omega, rfl⟩⟩) dX8_copy_115
              · --
                obtain ⟨v, rfl, ev⟩ := i32_nat (x := n) (by omega)
                refine lv_iload_n hx hb dX8_copy_77 rfl (lv_at hl 2 rfl) ?_
                refine q_if_lt (tgt := 113) hx hb i.toInt rfl dX8_copy_78 (by decide) (fun c10 => ?_) (fun c10 => ?_)
                · --
                  refine lv_bipush (v := (-13)) hx hb dX8_copy_113 (by decide) ?_
                  exact q_iret (wout := _) hx hb hr hlocks hAe hK it hw (⟨by unfold cyC; rw [if_neg (by omega), tnI ek, tnI em, if_neg (by omega), if_neg (by omega), if_neg (by unfold hol; omega)], Or.inl ⟨fun h => by unfold cyOk at h; (try rw [tnI ek] at h); (try rw [tnI em] at h); unfold hol at h; omega, rfl⟩⟩) dX8_copy_115
                · --
                  obtain ⟨x, rfl, ex⟩ := i32_nat (x := i) (by omega)
                  refine lv_iload hx hb dX8_copy_81 (lv_at hl 4 rfl) ?_
                  refine q_if_lt (tgt := 113) hx hb j.toInt rfl dX8_copy_83 (by decide) (fun c11 => ?_) (fun c11 => ?_)
                  · --
                    refine lv_bipush (v := (-13)) hx hb dX8_copy_113 (by decide) ?_
                    exact q_iret (wout := _) hx hb hr hlocks hAe hK it hw (⟨by unfold cyC; rw [if_neg (by omega), tnI ek, tnI em, if_neg (by omega), if_neg (by omega), if_neg (by unfold hol; omega)], Or.inl ⟨fun h => by unfold cyOk at h; (try rw [tnI ek] at h); (try rw [tnI em] at h); unfold hol at h; omega, rfl⟩⟩) dX8_copy_115
                  · --
                    obtain ⟨y, rfl, ey⟩ := i32_nat (x := j) (by omega)
                    refine lv_iload_n hx hb dX8_copy_86 rfl (lv_at hl 2 rfl) ?_
                    refine lv_aload_n hx hb dX8_copy_87 rfl (lv_at hl 0 rfl) ?_
                    refine q_get (v := .ref (mr 9)) (ci := 8) hx hb hts in_X8 hown hK hw 0 9 wd3 dX8_copy_88 rfl rfl (by decide) rfl ?_
                    refine lv_iload_n hx hb dX8_copy_91 rfl (lv_at hl 1 rfl) ?_
                    refine q_iald hx hb hK hw 2 (by omega) (by omega) dX8_copy_92 rfl ?_
                    refine lv_iload hx hb dX8_copy_93 (lv_at hl 5 rfl) ?_
                    refine lv_isub hx hb dX8_copy_95 ?_
                    refine q_icmp_gt (tgt := 113) hx hb ((x : Nat) : Int) (((le k : Nat) : Int) - ((v : Nat) : Int)) ex (pk_sub_r (by omega) (by omega)) dX8_copy_96 (by decide) (fun c12 => ?_) (fun c12 => ?_)
                    · --
                      refine lv_bipush (v := (-13)) hx hb dX8_copy_113 (by decide) ?_
                      exact q_iret (wout := _) hx hb hr hlocks hAe hK it hw (⟨by unfold cyC; rw [if_neg (by omega), tnI ek, tnI em, if_neg (by omega), if_neg (by omega), if_neg (by unfold hol; omega)], Or.inl ⟨fun h => by unfold cyOk at h; (try rw [tnI ek] at h); (try rw [tnI em] at h); unfold hol at h; omega, rfl⟩⟩) dX8_copy_115
                    · --
                      refine lv_iload hx hb dX8_copy_99 (lv_at hl 4 rfl) ?_
                      refine lv_aload_n hx hb dX8_copy_101 rfl (lv_at hl 0 rfl) ?_
                      refine q_get (v := .ref (mr 9)) (ci := 8) hx hb hts in_X8 hown hK hw 0 9 wd3 dX8_copy_102 rfl rfl (by decide) rfl ?_
                      refine lv_iload_n hx hb dX8_copy_105 rfl (lv_at hl 3 rfl) ?_
                      refine q_iald hx hb hK hw 2 (by omega) (by omega) dX8_copy_106 rfl ?_
                      refine lv_iload hx hb dX8_copy_107 (lv_at hl 5 rfl) ?_
                      refine lv_isub hx hb dX8_copy_109 ?_
                      refine q_icmp_le (tgt := 116) hx hb ((y : Nat) : Int) (((le m : Nat) : Int) - ((v : Nat) : Int)) ey (pk_sub_r (by omega) (by omega)) dX8_copy_110 (by decide) (fun c13 => ?_) (fun c13 => ?_)
                      · --
                        refine lv_iload hx hb dX8_copy_116 (lv_at hl 4 rfl) ?_
                        refine lv_iload_n hx hb dX8_copy_118 rfl (lv_at hl 2 rfl) ?_
                        refine q_icmp_le (tgt := 126) hx hb ((y : Nat) : Int) ((x : Nat) : Int) (nI_toInt (by omega)) (nI_toInt (by omega)) dX8_copy_119 (by decide) (fun c14 => ?_) (fun c14 => ?_)
                        · --
                          refine q_iconst (v := 0) hx hb dX8_copy_126 (by decide) ?_
                          refine lv_istore (lv' := [(6, .int (nI 0)), (0, .ref M), (1, .int (nI k)), (2, .int (nI x)), (3, .int (nI m)), (4, .int (nI y)), (5, .int (nI v))]) hx hb dX8_copy_127 hl (by decide) rfl (fun ls hl => ?_)
                          refine q_iconst (v := 0) hx hb dX8_copy_129 (by decide) ?_
                          refine lv_istore (lv' := [(7, .int (nI 0)), (6, .int (nI 0)), (0, .ref M), (1, .int (nI k)), (2, .int (nI x)), (3, .int (nI m)), (4, .int (nI y)), (5, .int (nI v))]) hx hb dX8_copy_130 hl (by decide) rfl (fun ls hl => ?_)
                          have hw : WS D A s [(M, .inr (8, [.ref (mr 0), .ref (mr 1), .int (nI (mi 2)), .ref (mr 3), .ref (mr 4), .int ima, .ref (mr 6), .int (nI (mi 7)), .ref (mr 8), .ref (mr 9), .ref (mr 10), .long (lN (mi 11)), .long (lN (mi 12)), .ref (mr 13), .ref (mr 14), .ref (mr 15), .ref (mr 16), .ref (mr 17), .ref (mr 18), .int (nI (mi 19)), .ref (mr 20), .ref (mr 21), .ref (mr 22), .ref (mr 23), .long (lN (mi 24)), .long (lN (mi 25)), .int (nI (mi 26)), .int (nI (mi 27)), .ref (mr 28), .int (nI (mi 29)), .int (nI (mi 30)), .int (nI (mi 31)), .int (nI (mi 32))])), (mr 8, .inl (Z 0, 4, .inl (lnR th la))), (mr 9, .inl (Z 0, 4, .inl (aI le))), (mr 10, .inl (Z 1, 96, .inr (.inl (va_cpy it it (24 * k + x) (24 * m + y) 0))))] H locs := by rw [show (va_cpy it it (24 * k + x) (24 * m + y) 0) = it from cpL_0 _ _ _ _]; exact hw
                          refine q_loop (σ := Nat) (fun (c : Nat) => v - c) (fun (c : Nat) => c ≤ v) (fun (c : Nat) => [(M, .inr (8, [.ref (mr 0), .ref (mr 1), .int (nI (mi 2)), .ref (mr 3), .ref (mr 4), .int ima, .ref (mr 6), .int (nI (mi 7)), .ref (mr 8), .ref (mr 9), .ref (mr 10), .long (lN (mi 11)), .long (lN (mi 12)), .ref (mr 13), .ref (mr 14), .ref (mr 15), .ref (mr 16), .ref (mr 17), .ref (mr 18), .int (nI (mi 19)), .ref (mr 20), .ref (mr 21), .ref (mr 22), .ref (mr 23), .long (lN (mi 24)), .long (lN (mi 25)), .int (nI (mi 26)), .int (nI (mi 27)), .ref (mr 28), .int (nI (mi 29)), .int (nI (mi 30)), .int (nI (mi 31)), .int (nI (mi 32))])), (mr 8, .inl (Z 0, 4, .inl (lnR th la))), (mr 9, .inl (Z 0, 4, .inl (aI le))), (mr 10, .inl (Z 1, 96, .inr (.inl (va_cpy it it (24 * k + x) (24 * m + y) c))))]) (fun (c : Nat) => [(7, .int (nI c)), (6, .int (nI 0)), (0, .ref M), (1, .int (nI k)), (2, .int (nI x)), (3, .int (nI m)), (4, .int (nI y)), (5, .int (nI v))]) 0 (Nat.zero_le _) hw (lv_sub hl [0, 1, 2, 3, 4, 5, 6, 7] rfl) ?_
                          intro c H locs ls hi132 hw hl ih132
                          try dsimp only at hi132 hw hl ih132
                          have hw : WS D A s [(M, .inr (8, [.ref (mr 0), .ref (mr 1), .int (nI (mi 2)), .ref (mr 3), .ref (mr 4), .int ima, .ref (mr 6), .int (nI (mi 7)), .ref (mr 8), .ref (mr 9), .ref (mr 10), .long (lN (mi 11)), .long (lN (mi 12)), .ref (mr 13), .ref (mr 14), .ref (mr 15), .ref (mr 16), .ref (mr 17), .ref (mr 18), .int (nI (mi 19)), .ref (mr 20), .ref (mr 21), .ref (mr 22), .ref (mr 23), .long (lN (mi 24)), .long (lN (mi 25)), .int (nI (mi 26)), .int (nI (mi 27)), .ref (mr 28), .int (nI (mi 29)), .int (nI (mi 30)), .int (nI (mi 31)), .int (nI (mi 32))])), (mr 8, .inl (Z 0, 4, .inl (lnR th la))), (mr 9, .inl (Z 0, 4, .inl (aI le))), (mr 10, .inl (Z 1, 96, .inr (.inl (va_cpy it it (24 * k + x) (24 * m + y) c))))] H locs := hw
                          have hl : lv_has ls 9 [(7, .int (nI c)), (6, .int (nI 0)), (0, .ref M), (1, .int (nI k)), (2, .int (nI x)), (3, .int (nI m)), (4, .int (nI y)), (5, .int (nI v))] := hl
                          refine lv_iload hx hb dX8_copy_132 (lv_at hl 0 rfl) ?_
                          refine lv_iload hx hb dX8_copy_134 (lv_at hl 7 rfl) ?_
                          refine q_icmp_ge (tgt := 193) hx hb ((c : Nat) : Int) ((v : Nat) : Int) (nI_toInt (by omega)) (nI_toInt (by omega)) dX8_copy_136 (by decide) (fun c15 => ?_) (fun c15 => ?_)
                          · --
                            obtain rfl : v = c := by omega
                            refine lv_iload hx hb dX8_copy_193 (lv_at hl 7 rfl) ?_
                            exact q_iret (wout := _) hx hb hr hlocks hAe hK (va_cpy it it (24 * k + x) (24 * m + y) v) (by first | (rw [Nat.sub_self] at hw; exact hw.sub [0, 1, 2, 3] (by decide) rfl) | exact hw.sub [0, 1, 2, 3] (by decide) rfl) (⟨by unfold cyC; rw [if_neg (by omega), tnI ek, tnI em, if_neg (by omega), if_neg (by omega), if_pos (by unfold hol; omega)], Or.inr ⟨by unfold cyOk; rw [tnI ek, tnI em]; unfold hol; omega, by rw [tnI ek, tnI em, tnI ex, tnI ey, tnI ev]⟩⟩) dX8_copy_195
                          · --
                            refine lv_iload hx hb dX8_copy_139 (lv_at hl 1 rfl) ?_
                            refine q_if_eq (tgt := 154) hx hb ((0 : Nat) : Int) (nI_toInt (by omega)) dX8_copy_141 (by decide) (fun c16 => ?_) (fun c16 => ?_)
                            · --
                              refine lv_iload hx hb dX8_copy_154 (lv_at hl 0 rfl) ?_
                              refine lv_istore (lv' := [(8, .int (nI c)), (7, .int (nI c)), (6, .int (nI 0)), (0, .ref M), (1, .int (nI k)), (2, .int (nI x)), (3, .int (nI m)), (4, .int (nI y)), (5, .int (nI v))]) hx hb dX8_copy_156 hl (by decide) rfl (fun ls hl => ?_)
                              refine lv_aload_n hx hb dX8_copy_158 rfl (lv_at hl 3 rfl) ?_
                              refine q_get (v := .ref (mr 10)) (ci := 8) hx hb hts in_X8 hown hK hw 0 10 wd4 dX8_copy_159 rfl rfl (by decide) rfl ?_
                              refine q_bipush (v := 24) hx hb dX8_copy_162 (by decide) ?_
                              refine lv_iload_n hx hb dX8_copy_164 rfl (lv_at hl 6 rfl) ?_
                              refine q_imul hx hb dX8_copy_165 ?_
                              refine lv_iload hx hb dX8_copy_166 (lv_at hl 7 rfl) ?_
                              refine q_iadd hx hb dX8_copy_168 ?_
                              refine lv_iload hx hb dX8_copy_169 (lv_at hl 0 rfl) ?_
                              refine q_iadd hx hb dX8_copy_171 ?_
                              refine lv_aload_n hx hb dX8_copy_172 rfl (lv_at hl 3 rfl) ?_
                              refine q_get (v := .ref (mr 10)) (ci := 8) hx hb hts in_X8 hown hK hw 0 10 wd4 dX8_copy_173 rfl rfl (by decide) rfl ?_
                              refine q_bipush (v := 24) hx hb dX8_copy_176 (by decide) ?_
                              refine lv_iload_n hx hb dX8_copy_178 rfl (lv_at hl 4 rfl) ?_
                              refine q_imul hx hb dX8_copy_179 ?_
                              refine lv_iload_n hx hb dX8_copy_180 rfl (lv_at hl 5 rfl) ?_
                              refine q_iadd hx hb dX8_copy_181 ?_
                              refine lv_iload hx hb dX8_copy_182 (lv_at hl 0 rfl) ?_
                              refine q_iadd hx hb dX8_copy_184 ?_
                              refine q_laR hx hb hK hw 3 (by omega) (by omega) dX8_copy_185 rfl ?_
                              refine q_topl (x := (va_cpy it it (24 * k + x) (24 * m + y) c) (24 * k + x + c)) (y := it (24 * k + x + c)) (pk_cpy_out (by omega)) ?_
                              refine q_lasR hx hb hK hw 3 (by omega) (by omega) dX8_copy_186 rfl (fun H locs hw => ?_)
                              have hw : WS D A s [(M, .inr (8, [.ref (mr 0), .ref (mr 1), .int (nI (mi 2)), .ref (mr 3), .ref (mr 4), .int ima, .ref (mr 6), .int (nI (mi 7)), .ref (mr 8), .ref (mr 9), .ref (mr 10), .long (lN (mi 11)), .long (lN (mi 12)), .ref (mr 13), .ref (mr 14), .ref (mr 15), .ref (mr 16), .ref (mr 17), .ref (mr 18), .int (nI (mi 19)), .ref (mr 20), .ref (mr 21), .ref (mr 22), .ref (mr 23), .long (lN (mi 24)), .long (lN (mi 25)), .int (nI (mi 26)), .int (nI (mi 27)), .ref (mr 28), .int (nI (mi 29)), .int (nI (mi 30)), .int (nI (mi 31)), .int (nI (mi 32))])), (mr 8, .inl (Z 0, 4, .inl (lnR th la))), (mr 9, .inl (Z 0, 4, .inl (aI le))), (mr 10, .inl (Z 1, 96, .inr (.inl (vp_updL (va_cpy it it (24 * k + x) (24 * m + y) c) (24 * m + y + c) (it (24 * k + x + c))))))] H locs := hw
                              refine lv_iinc (v := nI (c + 1)) (lv' := [(7, .int (nI (c + 1))), (8, .int (nI c)), (6, .int (nI 0)), (0, .ref M), (1, .int (nI k)), (2, .int (nI x)), (3, .int (nI m)), (4, .int (nI y)), (5, .int (nI v))]) hx hb dX8_copy_187 hl (k := 1) rfl (nI_add _ _) (by decide) rfl (fun ls hl => ?_)
                              refine lv_goto (tgt := 132) hx hb dX8_copy_190 (by decide) ?_
                              have hw : WS D A s [(M, .inr (8, [.ref (mr 0), .ref (mr 1), .int (nI (mi 2)), .ref (mr 3), .ref (mr 4), .int ima, .ref (mr 6), .int (nI (mi 7)), .ref (mr 8), .ref (mr 9), .ref (mr 10), .long (lN (mi 11)), .long (lN (mi 12)), .ref (mr 13), .ref (mr 14), .ref (mr 15), .ref (mr 16), .ref (mr 17), .ref (mr 18), .int (nI (mi 19)), .ref (mr 20), .ref (mr 21), .ref (mr 22), .ref (mr 23), .long (lN (mi 24)), .long (lN (mi 25)), .int (nI (mi 26)), .int (nI (mi 27)), .ref (mr 28), .int (nI (mi 29)), .int (nI (mi 30)), .int (nI (mi 31)), .int (nI (mi 32))])), (mr 8, .inl (Z 0, 4, .inl (lnR th la))), (mr 9, .inl (Z 0, 4, .inl (aI le))), (mr 10, .inl (Z 1, 96, .inr (.inl (va_cpy it it (24 * k + x) (24 * m + y) (c + 1)))))] H locs := by rw [show (va_cpy it it (24 * k + x) (24 * m + y) (c + 1)) = (vp_updL (va_cpy it it (24 * k + x) (24 * m + y) c) (24 * m + y + c) (it (24 * k + x + c))) from by first | exact (cpL_up it it (24 * k + x) (24 * m + y) c).symm | exact (cpL_dn (f := it) (g := it) (i := 24 * k + x) (j := 24 * m + y) (c := c) (n := v) (by omega)).symm]; exact hw
                              exact ih132 (c + 1) H locs ls (by omega) (by omega) hw (lv_sub hl [0, 2, 3, 4, 5, 6, 7, 8] rfl)
                            · --
                              exfalso; omega
                        · --
                          refine q_iconst (v := 1) hx hb dX8_copy_122 (by decide) ?_
                          refine lv_goto (tgt := 127) hx hb dX8_copy_123 (by decide) ?_
                          refine lv_istore (lv' := [(6, .int (nI 1)), (0, .ref M), (1, .int (nI k)), (2, .int (nI x)), (3, .int (nI m)), (4, .int (nI y)), (5, .int (nI v))]) hx hb dX8_copy_127 hl (by decide) rfl (fun ls hl => ?_)
                          refine q_iconst (v := 0) hx hb dX8_copy_129 (by decide) ?_
                          refine lv_istore (lv' := [(7, .int (nI 0)), (6, .int (nI 1)), (0, .ref M), (1, .int (nI k)), (2, .int (nI x)), (3, .int (nI m)), (4, .int (nI y)), (5, .int (nI v))]) hx hb dX8_copy_130 hl (by decide) rfl (fun ls hl => ?_)
                          have hw : WS D A s [(M, .inr (8, [.ref (mr 0), .ref (mr 1), .int (nI (mi 2)), .ref (mr 3), .ref (mr 4), .int ima, .ref (mr 6), .int (nI (mi 7)), .ref (mr 8), .ref (mr 9), .ref (mr 10), .long (lN (mi 11)), .long (lN (mi 12)), .ref (mr 13), .ref (mr 14), .ref (mr 15), .ref (mr 16), .ref (mr 17), .ref (mr 18), .int (nI (mi 19)), .ref (mr 20), .ref (mr 21), .ref (mr 22), .ref (mr 23), .long (lN (mi 24)), .long (lN (mi 25)), .int (nI (mi 26)), .int (nI (mi 27)), .ref (mr 28), .int (nI (mi 29)), .int (nI (mi 30)), .int (nI (mi 31)), .int (nI (mi 32))])), (mr 8, .inl (Z 0, 4, .inl (lnR th la))), (mr 9, .inl (Z 0, 4, .inl (aI le))), (mr 10, .inl (Z 1, 96, .inr (.inl (va_cpy it it (24 * k + x + (v - 0)) (24 * m + y + (v - 0)) 0))))] H locs := by rw [show (va_cpy it it (24 * k + x + (v - 0)) (24 * m + y + (v - 0)) 0) = it from cpL_0 _ _ _ _]; exact hw
                          refine q_loop (σ := Nat) (fun (c : Nat) => v - c) (fun (c : Nat) => c ≤ v) (fun (c : Nat) => [(M, .inr (8, [.ref (mr 0), .ref (mr 1), .int (nI (mi 2)), .ref (mr 3), .ref (mr 4), .int ima, .ref (mr 6), .int (nI (mi 7)), .ref (mr 8), .ref (mr 9), .ref (mr 10), .long (lN (mi 11)), .long (lN (mi 12)), .ref (mr 13), .ref (mr 14), .ref (mr 15), .ref (mr 16), .ref (mr 17), .ref (mr 18), .int (nI (mi 19)), .ref (mr 20), .ref (mr 21), .ref (mr 22), .ref (mr 23), .long (lN (mi 24)), .long (lN (mi 25)), .int (nI (mi 26)), .int (nI (mi 27)), .ref (mr 28), .int (nI (mi 29)), .int (nI (mi 30)), .int (nI (mi 31)), .int (nI (mi 32))])), (mr 8, .inl (Z 0, 4, .inl (lnR th la))), (mr 9, .inl (Z 0, 4, .inl (aI le))), (mr 10, .inl (Z 1, 96, .inr (.inl (va_cpy it it (24 * k + x + (v - c)) (24 * m + y + (v - c)) c))))]) (fun (c : Nat) => [(7, .int (nI c)), (6, .int (nI 1)), (0, .ref M), (1, .int (nI k)), (2, .int (nI x)), (3, .int (nI m)), (4, .int (nI y)), (5, .int (nI v))]) 0 (Nat.zero_le _) hw (lv_sub hl [0, 1, 2, 3, 4, 5, 6, 7] rfl) ?_
                          intro c H locs ls hi132 hw hl ih132
                          try dsimp only at hi132 hw hl ih132
                          have hw : WS D A s [(M, .inr (8, [.ref (mr 0), .ref (mr 1), .int (nI (mi 2)), .ref (mr 3), .ref (mr 4), .int ima, .ref (mr 6), .int (nI (mi 7)), .ref (mr 8), .ref (mr 9), .ref (mr 10), .long (lN (mi 11)), .long (lN (mi 12)), .ref (mr 13), .ref (mr 14), .ref (mr 15), .ref (mr 16), .ref (mr 17), .ref (mr 18), .int (nI (mi 19)), .ref (mr 20), .ref (mr 21), .ref (mr 22), .ref (mr 23), .long (lN (mi 24)), .long (lN (mi 25)), .int (nI (mi 26)), .int (nI (mi 27)), .ref (mr 28), .int (nI (mi 29)), .int (nI (mi 30)), .int (nI (mi 31)), .int (nI (mi 32))])), (mr 8, .inl (Z 0, 4, .inl (lnR th la))), (mr 9, .inl (Z 0, 4, .inl (aI le))), (mr 10, .inl (Z 1, 96, .inr (.inl (va_cpy it it (24 * k + x + (v - c)) (24 * m + y + (v - c)) c))))] H locs := hw
                          have hl : lv_has ls 9 [(7, .int (nI c)), (6, .int (nI 1)), (0, .ref M), (1, .int (nI k)), (2, .int (nI x)), (3, .int (nI m)), (4, .int (nI y)), (5, .int (nI v))] := hl
                          refine lv_iload hx hb dX8_copy_132 (lv_at hl 0 rfl) ?_
                          refine lv_iload hx hb dX8_copy_134 (lv_at hl 7 rfl) ?_
                          refine q_icmp_ge (tgt := 193) hx hb ((c : Nat) : Int) ((v : Nat) : Int) (nI_toInt (by omega)) (nI_toInt (by omega)) dX8_copy_136 (by decide) (fun c17 => ?_) (fun c17 => ?_)
                          · --
                            obtain rfl : v = c := by omega
                            refine lv_iload hx hb dX8_copy_193 (lv_at hl 7 rfl) ?_
                            exact q_iret (wout := _) hx hb hr hlocks hAe hK (va_cpy it it (24 * k + x) (24 * m + y) v) (by first | (rw [Nat.sub_self] at hw; exact hw.sub [0, 1, 2, 3] (by decide) rfl) | exact hw.sub [0, 1, 2, 3] (by decide) rfl) (⟨by unfold cyC; rw [if_neg (by omega), tnI ek, tnI em, if_neg (by omega), if_neg (by omega), if_pos (by unfold hol; omega)], Or.inr ⟨by unfold cyOk; rw [tnI ek, tnI em]; unfold hol; omega, by rw [tnI ek, tnI em, tnI ex, tnI ey, tnI ev]⟩⟩) dX8_copy_195
                          · --
                            refine lv_iload hx hb dX8_copy_139 (lv_at hl 1 rfl) ?_
                            refine q_if_eq (tgt := 154) hx hb ((1 : Nat) : Int) (nI_toInt (by omega)) dX8_copy_141 (by decide) (fun c18 => ?_) (fun c18 => ?_)
                            · --
                              exfalso; omega
                            · --
                              refine lv_iload hx hb dX8_copy_144 (lv_at hl 7 rfl) ?_
                              refine q_iconst (v := 1) hx hb dX8_copy_146 (by decide) ?_
                              refine q_isub hx hb (by omega) dX8_copy_147 ?_
                              refine lv_iload hx hb dX8_copy_148 (lv_at hl 0 rfl) ?_
                              refine q_isub hx hb (by omega) dX8_copy_150 ?_
                              refine lv_goto (tgt := 156) hx hb dX8_copy_151 (by decide) ?_
                              refine lv_istore (lv' := [(8, .int (nI (v - 1 - c))), (7, .int (nI c)), (6, .int (nI 1)), (0, .ref M), (1, .int (nI k)), (2, .int (nI x)), (3, .int (nI m)), (4, .int (nI y)), (5, .int (nI v))]) hx hb dX8_copy_156 hl (by decide) rfl (fun ls hl => ?_)
                              refine lv_aload_n hx hb dX8_copy_158 rfl (lv_at hl 3 rfl) ?_
                              refine q_get (v := .ref (mr 10)) (ci := 8) hx hb hts in_X8 hown hK hw 0 10 wd4 dX8_copy_159 rfl rfl (by decide) rfl ?_
                              refine q_bipush (v := 24) hx hb dX8_copy_162 (by decide) ?_
                              refine lv_iload_n hx hb dX8_copy_164 rfl (lv_at hl 6 rfl) ?_
                              refine q_imul hx hb dX8_copy_165 ?_
                              refine lv_iload hx hb dX8_copy_166 (lv_at hl 7 rfl) ?_
                              refine q_iadd hx hb dX8_copy_168 ?_
                              refine lv_iload hx hb dX8_copy_169 (lv_at hl 0 rfl) ?_
                              refine q_iadd hx hb dX8_copy_171 ?_
                              refine lv_aload_n hx hb dX8_copy_172 rfl (lv_at hl 3 rfl) ?_
                              refine q_get (v := .ref (mr 10)) (ci := 8) hx hb hts in_X8 hown hK hw 0 10 wd4 dX8_copy_173 rfl rfl (by decide) rfl ?_
                              refine q_bipush (v := 24) hx hb dX8_copy_176 (by decide) ?_
                              refine lv_iload_n hx hb dX8_copy_178 rfl (lv_at hl 4 rfl) ?_
                              refine q_imul hx hb dX8_copy_179 ?_
                              refine lv_iload_n hx hb dX8_copy_180 rfl (lv_at hl 5 rfl) ?_
                              refine q_iadd hx hb dX8_copy_181 ?_
                              refine lv_iload hx hb dX8_copy_182 (lv_at hl 0 rfl) ?_
                              refine q_iadd hx hb dX8_copy_184 ?_
                              refine q_laR hx hb hK hw 3 (by omega) (by omega) dX8_copy_185 rfl ?_
                              refine q_topl (x := (va_cpy it it (24 * k + x + (v - c)) (24 * m + y + (v - c)) c) (24 * k + x + (v - 1 - c))) (y := it (24 * k + x + (v - 1 - c))) (pk_cpy_out (by omega)) ?_
                              refine q_lasR hx hb hK hw 3 (by omega) (by omega) dX8_copy_186 rfl (fun H locs hw => ?_)
                              have hw : WS D A s [(M, .inr (8, [.ref (mr 0), .ref (mr 1), .int (nI (mi 2)), .ref (mr 3), .ref (mr 4), .int ima, .ref (mr 6), .int (nI (mi 7)), .ref (mr 8), .ref (mr 9), .ref (mr 10), .long (lN (mi 11)), .long (lN (mi 12)), .ref (mr 13), .ref (mr 14), .ref (mr 15), .ref (mr 16), .ref (mr 17), .ref (mr 18), .int (nI (mi 19)), .ref (mr 20), .ref (mr 21), .ref (mr 22), .ref (mr 23), .long (lN (mi 24)), .long (lN (mi 25)), .int (nI (mi 26)), .int (nI (mi 27)), .ref (mr 28), .int (nI (mi 29)), .int (nI (mi 30)), .int (nI (mi 31)), .int (nI (mi 32))])), (mr 8, .inl (Z 0, 4, .inl (lnR th la))), (mr 9, .inl (Z 0, 4, .inl (aI le))), (mr 10, .inl (Z 1, 96, .inr (.inl (vp_updL (va_cpy it it (24 * k + x + (v - c)) (24 * m + y + (v - c)) c) (24 * m + y + (v - 1 - c)) (it (24 * k + x + (v - 1 - c)))))))] H locs := hw
                              refine lv_iinc (v := nI (c + 1)) (lv' := [(7, .int (nI (c + 1))), (8, .int (nI (v - 1 - c))), (6, .int (nI 1)), (0, .ref M), (1, .int (nI k)), (2, .int (nI x)), (3, .int (nI m)), (4, .int (nI y)), (5, .int (nI v))]) hx hb dX8_copy_187 hl (k := 1) rfl (nI_add _ _) (by decide) rfl (fun ls hl => ?_)
                              refine lv_goto (tgt := 132) hx hb dX8_copy_190 (by decide) ?_
                              have hw : WS D A s [(M, .inr (8, [.ref (mr 0), .ref (mr 1), .int (nI (mi 2)), .ref (mr 3), .ref (mr 4), .int ima, .ref (mr 6), .int (nI (mi 7)), .ref (mr 8), .ref (mr 9), .ref (mr 10), .long (lN (mi 11)), .long (lN (mi 12)), .ref (mr 13), .ref (mr 14), .ref (mr 15), .ref (mr 16), .ref (mr 17), .ref (mr 18), .int (nI (mi 19)), .ref (mr 20), .ref (mr 21), .ref (mr 22), .ref (mr 23), .long (lN (mi 24)), .long (lN (mi 25)), .int (nI (mi 26)), .int (nI (mi 27)), .ref (mr 28), .int (nI (mi 29)), .int (nI (mi 30)), .int (nI (mi 31)), .int (nI (mi 32))])), (mr 8, .inl (Z 0, 4, .inl (lnR th la))), (mr 9, .inl (Z 0, 4, .inl (aI le))), (mr 10, .inl (Z 1, 96, .inr (.inl (va_cpy it it (24 * k + x + (v - (c + 1))) (24 * m + y + (v - (c + 1))) (c + 1)))))] H locs := by rw [show (va_cpy it it (24 * k + x + (v - (c + 1))) (24 * m + y + (v - (c + 1))) (c + 1)) = (vp_updL (va_cpy it it (24 * k + x + (v - c)) (24 * m + y + (v - c)) c) (24 * m + y + (v - 1 - c)) (it (24 * k + x + (v - 1 - c)))) from by first | exact (cpL_up it it (24 * k + x) (24 * m + y) c).symm | exact (cpL_dn (f := it) (g := it) (i := 24 * k + x) (j := 24 * m + y) (c := c) (n := v) (by omega)).symm]; exact hw
                              exact ih132 (c + 1) H locs ls (by omega) (by omega) hw (lv_sub hl [0, 2, 3, 4, 5, 6, 7, 8] rfl)
                      · --
                        refine lv_bipush (v := (-13)) hx hb dX8_copy_113 (by decide) ?_
                        exact q_iret (wout := _) hx hb hr hlocks hAe hK it hw (⟨by unfold cyC; rw [if_neg (by omega), tnI ek, tnI em, if_neg (by omega), if_neg (by omega), if_neg (by unfold hol; omega)], Or.inl ⟨fun h => by unfold cyOk at h; (try rw [tnI ek] at h); (try rw [tnI em] at h); unfold hol at h; omega, rfl⟩⟩) dX8_copy_115
          · --
            refine lv_bipush (v := (-12)) hx hb dX8_copy_62 (by decide) ?_
            exact q_iret (wout := _) hx hb hr hlocks hAe hK it hw (⟨by unfold cyC; rw [if_neg (by omega), tnI ek, tnI em, if_neg (by omega), if_pos (by omega)], Or.inl ⟨fun h => by unfold cyOk at h; (try rw [tnI ek] at h); (try rw [tnI em] at h); unfold hol at h; omega, rfl⟩⟩) dX8_copy_64
        · --
          refine lv_bipush (v := (-11)) hx hb dX8_copy_44 (by decide) ?_
          exact q_iret (wout := _) hx hb hr hlocks hAe hK it hw (⟨by unfold cyC; rw [if_neg (by omega), tnI ek, tnI em, if_pos (by omega)], Or.inl ⟨fun h => by unfold cyOk at h; (try rw [tnI ek] at h); (try rw [tnI em] at h); unfold hol at h; omega, rfl⟩⟩) dX8_copy_46
    · --
      have c4 := bb_0 c4
      refine lv_iconst (v := (-1)) hx hb dX8_copy_24 (by decide) ?_
      exact q_iret (wout := _) hx hb hr hlocks hAe hK it hw (⟨(if_pos (by omega)).symm, Or.inl ⟨fun h => by unfold cyOk at h; omega, rfl⟩⟩) dX8_copy_25
