theorem scN_le {L : Nat → Nat} {sz a : Nat} (h : a ≤ sz) : (scN L sz a).2.2 ≤ sz ∧ (scN L sz a).2.1 ≤ 99 := by
  have hk := sk_le (L := L) h
  unfold scN
  split
  · exact ⟨hk.2, Nat.zero_le _⟩
  · rename_i h1
    have l1 := ltr_lt' (L := L) (sz := sz) (a := sk L sz a) (by omega)
    split
    · exact ⟨by dsimp only; omega, by dsimp only; omega⟩
    · rename_i h2
      have l2 := ltr_lt' (L := L) (sz := sz) (a := sk L sz a + 1) (by omega)
      split
      · exact ⟨by dsimp only; omega, by dsimp only; omega⟩
      · exact ⟨by dsimp only; omega, by dsimp only; omega⟩
theorem scN_ok {L : Nat → Nat} {sz a : Nat} (h : a ≤ sz) (ho : (scN L sz a).1 = 1) : (scN L sz a).2.2 ≤ sz ∧ (scN L sz a).2.1 ≤ 99 ∧ 1 ≤ (scN L sz a).2.2 := by
  refine ⟨(scN_le h).1, (scN_le h).2, ?_⟩
  unfold scN at ho ⊢
  split
  · rename_i h1; rw [if_pos h1] at ho; cases ho
  · split
    · dsimp only; omega
    · split <;> (dsimp only; omega)
/-- ; FAILURE , CHANGE of a TEXT: whether, which, the FAULT's place -/
def scC (L : Nat → Nat) (sz a : Nat) : Nat × Nat × Nat × Nat :=
  if (scN L sz a).1 = 0 then (0, 0, 0, (scN L sz a).2.2)
  else if (scN L sz a).2.1 = 0 then (0, 0, 0, (scN L sz a).2.2 - 1)
  else if ltr L sz (sk L sz (scN L sz a).2.2) ≠ 44 then (0, 0, 0, sk L sz (scN L sz a).2.2)
  else if (scN L sz (sk L sz (scN L sz a).2.2 + 1)).1 = 0 then (0, 0, 0, (scN L sz (sk L sz (scN L sz a).2.2 + 1)).2.2)
  else if sk L sz (scN L sz (sk L sz (scN L sz a).2.2 + 1)).2.2 = sz then (1, (scN L sz a).2.1, (scN L sz (sk L sz (scN L sz a).2.2 + 1)).2.1, sz)
  else (0, 0, 0, sk L sz (scN L sz (sk L sz (scN L sz a).2.2 + 1)).2.2)
section
variable {L : Nat → Nat} {sz a : Nat}
theorem scC_1 (h : (scN L sz a).1 = 0) : scC L sz a = (0, 0, 0, (scN L sz a).2.2) := if_pos h
theorem scC_2 (h : (scN L sz a).1 = 1) (h1 : (scN L sz a).2.1 = 0) : scC L sz a = (0, 0, 0, (scN L sz a).2.2 - 1) := by unfold scC; rw [if_neg (by omega), if_pos h1]
theorem scC_3 (h : (scN L sz a).1 = 1) (h1 : (scN L sz a).2.1 ≠ 0) (h2 : ltr L sz (sk L sz (scN L sz a).2.2) ≠ 44) : scC L sz a = (0, 0, 0, sk L sz (scN L sz a).2.2) := by unfold scC; rw [if_neg (by omega), if_neg h1, if_pos h2]
theorem scC_4 (h : (scN L sz a).1 = 1) (h1 : (scN L sz a).2.1 ≠ 0) (h2 : ltr L sz (sk L sz (scN L sz a).2.2) = 44) (h3 : (scN L sz (sk L sz (scN L sz a).2.2 + 1)).1 = 0) : scC L sz a = (0, 0, 0, (scN L sz (sk L sz (scN L sz a).2.2 + 1)).2.2) := by unfold scC; rw [if_neg (by omega), if_neg h1, if_neg (fun q => q h2), if_pos h3]
theorem scC_5 (h : (scN L sz a).1 = 1) (h1 : (scN L sz a).2.1 ≠ 0) (h2 : ltr L sz (sk L sz (scN L sz a).2.2) = 44) (h3 : (scN L sz (sk L sz (scN L sz a).2.2 + 1)).1 = 1) (h4 : sk L sz (scN L sz (sk L sz (scN L sz a).2.2 + 1)).2.2 = sz) : scC L sz a = (1, (scN L sz a).2.1, (scN L sz (sk L sz (scN L sz a).2.2 + 1)).2.1, sz) := by unfold scC; rw [if_neg (by omega), if_neg h1, if_neg (fun q => q h2), if_neg (by omega), if_pos h4]
theorem scC_6 (h : (scN L sz a).1 = 1) (h1 : (scN L sz a).2.1 ≠ 0) (h2 : ltr L sz (sk L sz (scN L sz a).2.2) = 44) (h3 : (scN L sz (sk L sz (scN L sz a).2.2 + 1)).1 = 1) (h4 : ¬ sk L sz (scN L sz (sk L sz (scN L sz a).2.2 + 1)).2.2 = sz) : scC L sz a = (0, 0, 0, sk L sz (scN L sz (sk L sz (scN L sz a).2.2 + 1)).2.2) := by unfold scC; rw [if_neg (by omega), if_neg h1, if_neg (fun q => q h2), if_neg (by omega), if_neg h4]
end
theorem scW_ok0 {L : Nat → Nat} {sz : Nat} : ∀ (r n a la : Nat) (z : Nat → Nat), a ≤ sz → lf z n 0 ≤ 24 → r + n ≤ 8 → 0 < r → (scW L sz r n z a la).1 = 1 → 1 ≤ (scW L sz r n z a la).2.1 ∧ (scW L sz r n z a la).2.1 ≤ 8 ∧ (scW L sz r n z a la).2.2.2.1 ≤ sz ∧ ltr L sz (scW L sz r n z a la).2.2.2.1 ≠ 32 ∧ lf (scW L sz r n z a la).2.2.1 (scW L sz r n z a la).2.1 0 ≤ 24 := by
  intro r
  induction r with
  | zero => intro n a la z _ _ _ h; omega
  | succ r ih =>
    intro n a la z ha hz hr _ hg
    by_cases h : fgr (ltr L sz (sk L sz a)) ∧ lf z n 0 + (ltr L sz (sk L sz a) - 48) ≤ 24
    · have l1 := ltr_lt' (L := L) (sz := sz) (a := sk L sz a) (by omega)
      have k1 := sk_le (L := L) (show sk L sz a + 1 ≤ sz by omega)
      by_cases h2 : ltr L sz (sk L sz (sk L sz a + 1)) = 44 ∧ r ≠ 0
      · have l2 := ltr_lt' (L := L) (sz := sz) (a := sk L sz (sk L sz a + 1)) (by omega)
        rw [scW_n rfl h.1 h.2 h2.1 h2.2] at hg ⊢
        exact ih _ _ _ _ (by omega) (by rw [lf_push]; omega) (by omega) (by omega) hg
      · rw [scW_e rfl h.1 h.2 h2]
        exact ⟨by dsimp only; omega, by dsimp only; omega, k1.2, sk_no _, by dsimp only; rw [lf_push]; omega⟩
    · rw [scW_f rfl h] at hg; cases hg
theorem scW_ok {L : Nat → Nat} {sz a la : Nat} {z : Nat → Nat} (ha : a ≤ sz) (hz : lf z 0 0 ≤ 24) (hg : (scW L sz 8 0 z a la).1 = 1) : 1 ≤ (scW L sz 8 0 z a la).2.1 ∧ (scW L sz 8 0 z a la).2.1 ≤ 8 ∧ (scW L sz 8 0 z a la).2.2.2.1 ≤ sz ∧ ltr L sz (scW L sz 8 0 z a la).2.2.2.1 ≠ 32 ∧ lf (scW L sz 8 0 z a la).2.2.1 (scW L sz 8 0 z a la).2.1 0 ≤ 24 := scW_ok0 (L := L) (sz := sz) 8 0 a la z ha hz (by omega) (by omega) hg
/-- whether letters are a TEXT -/
abbrev prsOk (L : Nat → Nat) (sz : Nat) (W : Nat × Nat × (Nat → Nat) × Nat × Nat) : Prop := W.1 = 1 ∧ (W.2.2.2.1 < sz → ltr L sz W.2.2.2.1 = 59 ∧ (scC L sz (W.2.2.2.1 + 1)).1 = 1) ∧ W.2.2.1 W.2.1 ≠ 0
/-- the FAULT's place -/
def prsPl (L : Nat → Nat) (sz : Nat) (W : Nat × Nat × (Nat → Nat) × Nat × Nat) : Nat :=
  if W.1 = 0 then W.2.2.2.1 else if W.2.2.2.1 < sz ∧ ltr L sz W.2.2.2.1 ≠ 59 then W.2.2.2.1 else if W.2.2.2.1 < sz ∧ (scC L sz (W.2.2.2.1 + 1)).1 = 0 then (scC L sz (W.2.2.2.1 + 1)).2.2.2 else W.2.2.2.2
theorem prsPl_1 {L : Nat → Nat} {sz : Nat} {W : Nat × Nat × (Nat → Nat) × Nat × Nat} (h : W.1 = 0) : prsPl L sz W = W.2.2.2.1 := if_pos h
theorem prsPl_2 {L : Nat → Nat} {sz : Nat} {W : Nat × Nat × (Nat → Nat) × Nat × Nat} (h : W.1 = 1) (h1 : W.2.2.2.1 < sz) (h2 : ltr L sz W.2.2.2.1 ≠ 59) : prsPl L sz W = W.2.2.2.1 := by unfold prsPl; rw [if_neg (by omega), if_pos ⟨h1, h2⟩]
theorem prsPl_3 {L : Nat → Nat} {sz : Nat} {W : Nat × Nat × (Nat → Nat) × Nat × Nat} (h : W.1 = 1) (h1 : W.2.2.2.1 < sz) (h2 : ltr L sz W.2.2.2.1 = 59) (h3 : (scC L sz (W.2.2.2.1 + 1)).1 = 0) : prsPl L sz W = (scC L sz (W.2.2.2.1 + 1)).2.2.2 := by unfold prsPl; rw [if_neg (by omega), if_neg (fun q => q.2 h2), if_pos ⟨h1, h3⟩]
theorem prsPl_4 {L : Nat → Nat} {sz : Nat} {W : Nat × Nat × (Nat → Nat) × Nat × Nat} (h : W.1 = 1) (h1 : W.2.2.2.1 < sz → ltr L sz W.2.2.2.1 = 59 ∧ (scC L sz (W.2.2.2.1 + 1)).1 = 1) : prsPl L sz W = W.2.2.2.2 := by unfold prsPl; rw [if_neg (by omega), if_neg (fun q => q.2 (h1 q.1).1), if_neg (fun q => by have := (h1 q.1).2; omega)]
set_option maxHeartbeats 4000000 in
set_option maxRecDepth 100000 in
theorem c_X6_scanCosts (l : Launch) (D : va_G) (Z : Nat → ClassId) (zs0 : Nat) (T le tt tw : Nat) (L : Nat → Nat) (sz n : Nat) (z : Nat → Nat) (told : Nat) (F G : Int32) (fl ap la : Nat) (hL : ∀ k, L k < 128) (hsz : sz ≤ 60) (hap : ap ≤ sz) : cMi l yX6_scanCosts wsX6_scanCosts (rmd 3) D Z zs0 [.ref T] [(T, .inr (6, [.ref le, .int (nI sz), .ref tt, .int (nI told), .int F, .int G, .int (nI fl), .int (nI ap), .int (nI la)])), (le, .inl (Z 2, 60, .inl (aI L))), (tt, .inr (5, [.int (nI n), .ref tw])), (tw, .inl (Z 0, 9, .inl (aI z)))] (S := Nat × Int32 × Int32 × Nat × Nat) (fun (r : Int32) (u : Nat × Int32 × Int32 × Nat × Nat) => match u with | (told', F', G', fl', ap') => (r = nI 1 ∧ (scC L sz ap).1 = 1 ∧ told' = 1 ∧ F' = nI (scC L sz ap).2.1 ∧ G' = nI (scC L sz ap).2.2.1 ∧ fl = fl') ∨ (r = nI 0 ∧ (scC L sz ap).1 = 0 ∧ fl' = (scC L sz ap).2.2.2)) (fun (u : Nat × Int32 × Int32 × Nat × Nat) => match u with | (told', F', G', fl', ap') => [(T, .inr (6, [.ref le, .int (nI sz), .ref tt, .int (nI told'), .int F', .int G', .int (nI fl'), .int (nI ap'), .int (nI la)])), (le, .inl (Z 2, 60, .inl (aI L))), (tt, .inr (5, [.int (nI n), .ref tw])), (tw, .inl (Z 0, 9, .inl (aI z)))]) 0 0 := by
  refine q_open (y := yX6_scanCosts) (ws := wsX6_scanCosts) (av := [.ref T]) (win := [(T, .inr (6, [.ref le, .int (nI sz), .ref tt, .int (nI told), .int F, .int G, .int (nI fl), .int (nI ap), .int (nI la)])), (le, .inl (Z 2, 60, .inl (aI L))), (tt, .inr (5, [.int (nI n), .ref tw])), (tw, .inl (Z 0, 9, .inl (aI z)))]) (Qc := fun zs0 => cQi D Z zs0 [(T, .inr (6, [.ref le, .int (nI sz), .ref tt, .int (nI told), .int F, .int G, .int (nI fl), .int (nI ap), .int (nI la)])), (le, .inl (Z 2, 60, .inl (aI L))), (tt, .inr (5, [.int (nI n), .ref tw])), (tw, .inl (Z 0, 9, .inl (aI z)))] (S := Nat × Int32 × Int32 × Nat × Nat) (fun (r : Int32) (u : Nat × Int32 × Int32 × Nat × Nat) => match u with | (told', F', G', fl', ap') => (r = nI 1 ∧ (scC L sz ap).1 = 1 ∧ told' = 1 ∧ F' = nI (scC L sz ap).2.1 ∧ G' = nI (scC L sz ap).2.2.1 ∧ fl = fl') ∨ (r = nI 0 ∧ (scC L sz ap).1 = 0 ∧ fl' = (scC L sz ap).2.2.2)) (fun (u : Nat × Int32 × Int32 × Nat × Nat) => match u with | (told', F', G', fl', ap') => [(T, .inr (6, [.ref le, .int (nI sz), .ref tt, .int (nI told'), .int F', .int G', .int (nI fl'), .int (nI ap'), .int (nI la)])), (le, .inl (Z 2, 60, .inl (aI L))), (tt, .inr (5, [.int (nI n), .ref tw])), (tw, .inl (Z 0, 9, .inl (aI z)))])) (cc := cX6_scanCosts) (maxL := 1) (ret := (some .boolean)) (by decide) rfl (Nat.le_of_ble_eq_true rfl) ?_
  intro pp ee s mm bw mt cd ls A H locs hAe hx hb hr hml hown hmn hts hlocks hA hK hw hl
  have hown : s.vm.findClass RX6 = some mm.cls := hown
  have hl : lv_has ls 1 [(0, .ref T)] := hl
  have wd1 := hts (.fieldLink RX6 82 "ReplaceAges$Text" "failure" "I") (List.mem_of_getElem? (i := 1) rfl)
  have wd3 := hts (.fieldLink RX6 85 "ReplaceAges$Text" "change" "I") (List.mem_of_getElem? (i := 3) rfl)
  have wd4 := hts (.fieldLink RX6 29 "ReplaceAges$Text" "costsTold" "Z") (List.mem_of_getElem? (i := 4) rfl)
  have wd2 := hts (.fieldLink RX6 26 "ReplaceAges$Text" "at" "I") (List.mem_of_getElem? (i := 2) rfl)
  have wd5 := hts (.fieldLink RX6 22 "ReplaceAges$Text" "size" "I") (List.mem_of_getElem? (i := 5) rfl)
  have in_X6 : ∀ w ∈ wsX60, w ∈ wsX6_scanCosts := fun _ h => List.mem_cons_of_mem _ (List.mem_append_right _ h)
  refine lv_aload_n hx hb dX6_scanCosts_0 rfl (lv_at hl 0 rfl) ?_
  refine lv_aload_n hx hb dX6_scanCosts_1 rfl (lv_at hl 0 rfl) ?_
  refine q_calli (S := Nat × Nat) (Z := Z) (D := D) (wc := [(T, .inr (6, [.ref le, .int (nI sz), .ref tt, .int (nI told), .int F, .int G, .int (nI fl), .int (nI ap), .int (nI la)])), (le, .inl (Z 2, 60, .inl (aI L))), (tt, .inr (5, [.int (nI n), .ref tw])), (tw, .inl (Z 0, 9, .inl (aI z)))]) (wr := []) (rest := [.ref T]) hw hA [0, 1, 2, 3] [] rfl rfl rfl rfl (by decide) (fun hPc hDc => va_runV (As := []) (rest := [.ref T]) ⟨hx, hb, hml, hown, hts⟩ (c_X6_scanNumber l D Z H.size T le tt tw L sz n z told F G fl ap la (by first | assumption | omega) (by first | assumption | omega) (by first | assumption | omega)) (cwV 0 hts gX6_scanCosts_X6_scanNumber rfl rfl rfl (by decide +kernel) ⟨Nat.le_of_ble_eq_true rfl, Nat.le_of_ble_eq_true rfl⟩) ⟨fb_cPre, va_recv hK.1 hPc (ci := 6) (q0 := 0) rfl rfl, pre_of hPc hK hDc⟩ rfl rfl hl.1 rfl (lv_room (Nat.le_of_ble_eq_true rfl)) dX6_scanCosts_2 ⟨Nat.le_of_ble_eq_true rfl, Nat.le_of_ble_eq_true rfl⟩) (fun r1 u H locs hr1 hw => ?_)
  obtain ⟨fl'_1, ap'_1⟩ := u
  try dsimp only at hr1 hw
  have hw : WS D A s [(T, .inr (6, [.ref le, .int (nI sz), .ref tt, .int (nI told), .int F, .int G, .int (nI fl'_1), .int (nI ap'_1), .int (nI la)])), (le, .inl (Z 2, 60, .inl (aI L))), (tt, .inr (5, [.int (nI n), .ref tw])), (tw, .inl (Z 0, 9, .inl (aI z)))] H locs := hw
  rcases hr1 with ⟨rfl, rfl, rfl, ho1⟩ | ⟨rfl, rfl, rfl, ho1⟩
  · --
    have hw : WS D A s [(T, .inr (6, [.ref le, .int (nI sz), .ref tt, .int (nI told), .int F, .int G, .int (nI fl), .int (nI ((scN L sz ap).2.2)), .int (nI la)])), (le, .inl (Z 2, 60, .inl (aI L))), (tt, .inr (5, [.int (nI n), .ref tw])), (tw, .inl (Z 0, 9, .inl (aI z)))] H locs := hw
    have hN1 := scN_ok (L := L) (sz := sz) (a := ap) (by omega) ho1
    refine q_put (v := .int (nI ((scN L sz ap).2.1))) (ci := 6) hx hb hts in_X6 tyX6 tyX6_ok nmX6 hown hK hw 0 4 wd1 dX6_scanCosts_5 rfl rfl (by decide) rfl rfl rfl (Nat.le_of_ble_eq_true rfl) (fun H locs hw => ?_)
    have hw : WS D A s [(T, .inr (6, [.ref le, .int (nI sz), .ref tt, .int (nI told), .int (nI ((scN L sz ap).2.1)), .int G, .int (nI fl), .int (nI ((scN L sz ap).2.2)), .int (nI la)])), (le, .inl (Z 2, 60, .inl (aI L))), (tt, .inr (5, [.int (nI n), .ref tw])), (tw, .inl (Z 0, 9, .inl (aI z)))] H locs := hw
    refine lv_aload_n hx hb dX6_scanCosts_8 rfl (lv_at hl 0 rfl) ?_
    refine q_get (v := .int (nI ((scN L sz ap).2.1))) (ci := 6) hx hb hts in_X6 hown hK hw 0 4 wd1 dX6_scanCosts_9 rfl rfl (by decide) rfl ?_
    refine q_if_ge (tgt := 17) hx hb (((scN L sz ap).2.1 : Nat) : Int) (nI_toInt (by omega)) dX6_scanCosts_12 (by decide) (fun c2 => ?_) (fun c2 => ?_)
    · --
      refine lv_aload_n hx hb dX6_scanCosts_17 rfl (lv_at hl 0 rfl) ?_
      refine q_get (v := .int (nI ((scN L sz ap).2.1))) (ci := 6) hx hb hts in_X6 hown hK hw 0 4 wd1 dX6_scanCosts_18 rfl rfl (by decide) rfl ?_
      refine q_if_ne (tgt := 35) hx hb (((scN L sz ap).2.1 : Nat) : Int) (nI_toInt (by omega)) dX6_scanCosts_21 (by decide) (fun c3 => ?_) (fun c3 => ?_)
      · --
        have hk1 := sk_le (L := L) (a := (scN L sz ap).2.2) (sz := sz) (by omega)
        refine lv_aload_n hx hb dX6_scanCosts_35 rfl (lv_at hl 0 rfl) ?_
        refine q_bipush (v := 44) hx hb dX6_scanCosts_36 (by decide) ?_
        refine q_calli (S := Nat × Nat) (Z := Z) (D := D) (wc := [(T, .inr (6, [.ref le, .int (nI sz), .ref tt, .int (nI told), .int (nI ((scN L sz ap).2.1)), .int G, .int (nI fl), .int (nI ((scN L sz ap).2.2)), .int (nI la)])), (le, .inl (Z 2, 60, .inl (aI L))), (tt, .inr (5, [.int (nI n), .ref tw])), (tw, .inl (Z 0, 9, .inl (aI z)))]) (wr := []) (rest := []) hw hA [0, 1, 2, 3] [] rfl rfl rfl rfl (by decide) (fun hPc hDc => va_runV (As := [.int (nI 44)]) (rest := []) ⟨hx, hb, hml, hown, hts⟩ (c_X6_scanSign l D Z H.size T le tt tw L sz n z told (nI ((scN L sz ap).2.1)) G fl ((scN L sz ap).2.2) la 44 (by first | assumption | omega) (by first | assumption | omega) (by first | assumption | omega) (by first | assumption | omega)) (cwV 1 hts gX6_scanCosts_X6_scanSign rfl rfl rfl (by decide +kernel) ⟨Nat.le_of_ble_eq_true rfl, Nat.le_of_ble_eq_true rfl⟩) ⟨fb_cPre, va_recv hK.1 hPc (ci := 6) (q0 := 0) rfl rfl, pre_of hPc hK hDc⟩ rfl rfl hl.1 rfl (lv_room (Nat.le_of_ble_eq_true rfl)) dX6_scanCosts_38 ⟨Nat.le_of_ble_eq_true rfl, Nat.le_of_ble_eq_true rfl⟩) (fun r4 u H locs hr4 hw => ?_)
        obtain ⟨fl'_4, ap'_4⟩ := u
        try dsimp only at hr4 hw
        have hw : WS D A s [(T, .inr (6, [.ref le, .int (nI sz), .ref tt, .int (nI told), .int (nI ((scN L sz ap).2.1)), .int G, .int (nI fl'_4), .int (nI ap'_4), .int (nI la)])), (le, .inl (Z 2, 60, .inl (aI L))), (tt, .inr (5, [.int (nI n), .ref tw])), (tw, .inl (Z 0, 9, .inl (aI z)))] H locs := hw
        rcases hr4 with ⟨rfl, rfl, rfl, hs2⟩ | ⟨rfl, rfl, rfl, hs2⟩
        · --
          have hw : WS D A s [(T, .inr (6, [.ref le, .int (nI sz), .ref tt, .int (nI told), .int (nI ((scN L sz ap).2.1)), .int G, .int (nI fl), .int (nI (sk L sz ((scN L sz ap).2.2) + 1)), .int (nI la)])), (le, .inl (Z 2, 60, .inl (aI L))), (tt, .inr (5, [.int (nI n), .ref tw])), (tw, .inl (Z 0, 9, .inl (aI z)))] H locs := hw
          have hS2 := ltr_lt' (L := L) (sz := sz) (a := sk L sz ((scN L sz ap).2.2)) (by omega)
          refine q_if_ne (tgt := 46) hx hb ((1 : Nat) : Int) (nI_toInt (by omega)) dX6_scanCosts_41 (by decide) (fun c5 => ?_) (fun c5 => ?_)
          · --
            refine lv_aload_n hx hb dX6_scanCosts_46 rfl (lv_at hl 0 rfl) ?_
            refine lv_aload_n hx hb dX6_scanCosts_47 rfl (lv_at hl 0 rfl) ?_
            refine q_calli (S := Nat × Nat) (Z := Z) (D := D) (wc := [(T, .inr (6, [.ref le, .int (nI sz), .ref tt, .int (nI told), .int (nI ((scN L sz ap).2.1)), .int G, .int (nI fl), .int (nI (sk L sz ((scN L sz ap).2.2) + 1)), .int (nI la)])), (le, .inl (Z 2, 60, .inl (aI L))), (tt, .inr (5, [.int (nI n), .ref tw])), (tw, .inl (Z 0, 9, .inl (aI z)))]) (wr := []) (rest := [.ref T]) hw hA [0, 1, 2, 3] [] rfl rfl rfl rfl (by decide) (fun hPc hDc => va_runV (As := []) (rest := [.ref T]) ⟨hx, hb, hml, hown, hts⟩ (c_X6_scanNumber l D Z H.size T le tt tw L sz n z told (nI ((scN L sz ap).2.1)) G fl (sk L sz ((scN L sz ap).2.2) + 1) la (by first | assumption | omega) (by first | assumption | omega) (by first | assumption | omega)) (cwV 0 hts gX6_scanCosts_X6_scanNumber rfl rfl rfl (by decide +kernel) ⟨Nat.le_of_ble_eq_true rfl, Nat.le_of_ble_eq_true rfl⟩) ⟨fb_cPre, va_recv hK.1 hPc (ci := 6) (q0 := 0) rfl rfl, pre_of hPc hK hDc⟩ rfl rfl hl.1 rfl (lv_room (Nat.le_of_ble_eq_true rfl)) dX6_scanCosts_48 ⟨Nat.le_of_ble_eq_true rfl, Nat.le_of_ble_eq_true rfl⟩) (fun r6 u H locs hr6 hw => ?_)
            obtain ⟨fl'_6, ap'_6⟩ := u
            try dsimp only at hr6 hw
            have hw : WS D A s [(T, .inr (6, [.ref le, .int (nI sz), .ref tt, .int (nI told), .int (nI ((scN L sz ap).2.1)), .int G, .int (nI fl'_6), .int (nI ap'_6), .int (nI la)])), (le, .inl (Z 2, 60, .inl (aI L))), (tt, .inr (5, [.int (nI n), .ref tw])), (tw, .inl (Z 0, 9, .inl (aI z)))] H locs := hw
            rcases hr6 with ⟨rfl, rfl, rfl, ho3⟩ | ⟨rfl, rfl, rfl, ho3⟩
            · --
              have hw : WS D A s [(T, .inr (6, [.ref le, .int (nI sz), .ref tt, .int (nI told), .int (nI ((scN L sz ap).2.1)), .int G, .int (nI fl), .int (nI ((scN L sz (sk L sz ((scN L sz ap).2.2) + 1)).2.2)), .int (nI la)])), (le, .inl (Z 2, 60, .inl (aI L))), (tt, .inr (5, [.int (nI n), .ref tw])), (tw, .inl (Z 0, 9, .inl (aI z)))] H locs := hw
              have hN3 := scN_ok (L := L) (sz := sz) (a := sk L sz (scN L sz ap).2.2 + 1) (by omega) ho3
              refine q_put (v := .int (nI ((scN L sz (sk L sz ((scN L sz ap).2.2) + 1)).2.1))) (ci := 6) hx hb hts in_X6 tyX6 tyX6_ok nmX6 hown hK hw 0 5 wd3 dX6_scanCosts_51 rfl rfl (by decide) rfl rfl rfl (Nat.le_of_ble_eq_true rfl) (fun H locs hw => ?_)
              have hw : WS D A s [(T, .inr (6, [.ref le, .int (nI sz), .ref tt, .int (nI told), .int (nI ((scN L sz ap).2.1)), .int (nI ((scN L sz (sk L sz ((scN L sz ap).2.2) + 1)).2.1)), .int (nI fl), .int (nI ((scN L sz (sk L sz ((scN L sz ap).2.2) + 1)).2.2)), .int (nI la)])), (le, .inl (Z 2, 60, .inl (aI L))), (tt, .inr (5, [.int (nI n), .ref tw])), (tw, .inl (Z 0, 9, .inl (aI z)))] H locs := hw
              refine lv_aload_n hx hb dX6_scanCosts_54 rfl (lv_at hl 0 rfl) ?_
              refine q_get (v := .int (nI ((scN L sz (sk L sz ((scN L sz ap).2.2) + 1)).2.1))) (ci := 6) hx hb hts in_X6 hown hK hw 0 5 wd3 dX6_scanCosts_55 rfl rfl (by decide) rfl ?_
              refine q_if_ge (tgt := 63) hx hb (((scN L sz (sk L sz ((scN L sz ap).2.2) + 1)).2.1 : Nat) : Int) (nI_toInt (by omega)) dX6_scanCosts_58 (by decide) (fun c7 => ?_) (fun c7 => ?_)
              · --
                have hk3 := sk_le (L := L) (a := (scN L sz (sk L sz (scN L sz ap).2.2 + 1)).2.2) (sz := sz) (by omega)
                refine lv_aload_n hx hb dX6_scanCosts_63 rfl (lv_at hl 0 rfl) ?_
                refine q_callv (S := Unit) (Z := Z) (D := D) (wc := [(T, .inr (6, [.ref le, .int (nI sz), .ref tt, .int (nI told), .int (nI ((scN L sz ap).2.1)), .int (nI ((scN L sz (sk L sz ((scN L sz ap).2.2) + 1)).2.1)), .int (nI fl), .int (nI ((scN L sz (sk L sz ((scN L sz ap).2.2) + 1)).2.2)), .int (nI la)])), (le, .inl (Z 2, 60, .inl (aI L))), (tt, .inr (5, [.int (nI n), .ref tw])), (tw, .inl (Z 0, 9, .inl (aI z)))]) (wr := []) (rest := []) hw hA [0, 1, 2, 3] [] rfl rfl rfl rfl (by decide) (fun hPc hDc => va_runV (As := []) (rest := []) ⟨hx, hb, hml, hown, hts⟩ (c_X6_skipBlanks l D Z H.size T le tt tw L sz n z told (nI ((scN L sz ap).2.1)) (nI ((scN L sz (sk L sz ((scN L sz ap).2.2) + 1)).2.1)) fl ((scN L sz (sk L sz ((scN L sz ap).2.2) + 1)).2.2) la (by first | assumption | omega) (by first | assumption | omega) (by first | assumption | omega)) (cwV 0 hts gX6_scanCosts_X6_skipBlanks rfl rfl rfl (by decide +kernel) ⟨Nat.le_of_ble_eq_true rfl, Nat.le_of_ble_eq_true rfl⟩) ⟨fb_cPre, va_recv hK.1 hPc (ci := 6) (q0 := 0) rfl rfl, pre_of hPc hK hDc⟩ rfl rfl hl.1 rfl (lv_room (Nat.le_of_ble_eq_true rfl)) dX6_scanCosts_64 ⟨Nat.le_of_ble_eq_true rfl, Nat.le_of_ble_eq_true rfl⟩) (fun u H locs hr8 hw => ?_)
                have hw : WS D A s [(T, .inr (6, [.ref le, .int (nI sz), .ref tt, .int (nI told), .int (nI ((scN L sz ap).2.1)), .int (nI ((scN L sz (sk L sz ((scN L sz ap).2.2) + 1)).2.1)), .int (nI fl), .int (nI (sk L sz ((scN L sz (sk L sz ((scN L sz ap).2.2) + 1)).2.2))), .int (nI la)])), (le, .inl (Z 2, 60, .inl (aI L))), (tt, .inr (5, [.int (nI n), .ref tw])), (tw, .inl (Z 0, 9, .inl (aI z)))] H locs := hw
                refine lv_aload_n hx hb dX6_scanCosts_67 rfl (lv_at hl 0 rfl) ?_
                refine q_iconst (v := 1) hx hb dX6_scanCosts_68 (by decide) ?_
                refine q_put (v := .int (nI 1)) (ci := 6) hx hb hts in_X6 tyX6 tyX6_ok nmX6 hown hK hw 0 3 wd4 dX6_scanCosts_69 rfl rfl (by decide) rfl rfl rfl (Nat.le_of_ble_eq_true rfl) (fun H locs hw => ?_)
                have hw : WS D A s [(T, .inr (6, [.ref le, .int (nI sz), .ref tt, .int (nI 1), .int (nI ((scN L sz ap).2.1)), .int (nI ((scN L sz (sk L sz ((scN L sz ap).2.2) + 1)).2.1)), .int (nI fl), .int (nI (sk L sz ((scN L sz (sk L sz ((scN L sz ap).2.2) + 1)).2.2))), .int (nI la)])), (le, .inl (Z 2, 60, .inl (aI L))), (tt, .inr (5, [.int (nI n), .ref tw])), (tw, .inl (Z 0, 9, .inl (aI z)))] H locs := hw
                refine lv_aload_n hx hb dX6_scanCosts_72 rfl (lv_at hl 0 rfl) ?_
                refine q_get (v := .int (nI (sk L sz ((scN L sz (sk L sz ((scN L sz ap).2.2) + 1)).2.2)))) (ci := 6) hx hb hts in_X6 hown hK hw 0 7 wd2 dX6_scanCosts_73 rfl rfl (by decide) rfl ?_
                refine lv_aload_n hx hb dX6_scanCosts_76 rfl (lv_at hl 0 rfl) ?_
                refine q_get (v := .int (nI sz)) (ci := 6) hx hb hts in_X6 hown hK hw 0 1 wd5 dX6_scanCosts_77 rfl rfl (by decide) rfl ?_
                refine q_icmp_eq (tgt := 94) hx hb ((sk L sz ((scN L sz (sk L sz ((scN L sz ap).2.2) + 1)).2.2) : Nat) : Int) ((sz : Nat) : Int) (nI_toInt (by omega)) (nI_toInt (by omega)) dX6_scanCosts_80 (by decide) (fun c9 => ?_) (fun c9 => ?_)
                · --
                  refine q_iconst (v := 1) hx hb dX6_scanCosts_94 (by decide) ?_
                  refine lv_goto (tgt := 99) hx hb dX6_scanCosts_95 (by decide) ?_
                  exact q_zret (wout := _) hx hb hr hlocks hAe hK (1, (nI ((scN L sz ap).2.1)), (nI ((scN L sz (sk L sz ((scN L sz ap).2.2) + 1)).2.1)), fl, sk L sz ((scN L sz (sk L sz ((scN L sz ap).2.2) + 1)).2.2)) hw rfl (by first | exact Or.inl (by rw [scC_5 ho1 (by omega) hs2 ho3 (by omega)]; exact ⟨rfl, rfl, rfl, rfl, rfl, rfl⟩) | exact Or.inr (by rw [scC_6 ho1 (by omega) hs2 ho3 (by omega)]; exact ⟨rfl, rfl, rfl⟩)) dX6_scanCosts_99
                · --
                  refine lv_aload_n hx hb dX6_scanCosts_83 rfl (lv_at hl 0 rfl) ?_
                  refine lv_aload_n hx hb dX6_scanCosts_84 rfl (lv_at hl 0 rfl) ?_
                  refine q_get (v := .int (nI (sk L sz ((scN L sz (sk L sz ((scN L sz ap).2.2) + 1)).2.2)))) (ci := 6) hx hb hts in_X6 hown hK hw 0 7 wd2 dX6_scanCosts_85 rfl rfl (by decide) rfl ?_
                  refine q_calli (S := Unit) (Z := Z) (D := D) (wc := [(T, .inr (6, [.ref le, .int (nI sz), .ref tt, .int (nI 1), .int (nI ((scN L sz ap).2.1)), .int (nI ((scN L sz (sk L sz ((scN L sz ap).2.2) + 1)).2.1)), .int (nI fl), .int (nI (sk L sz ((scN L sz (sk L sz ((scN L sz ap).2.2) + 1)).2.2))), .int (nI la)])), (le, .inl (Z 2, 60, .inl (aI L))), (tt, .inr (5, [.int (nI n), .ref tw])), (tw, .inl (Z 0, 9, .inl (aI z)))]) (wr := []) (rest := []) hw hA [0, 1, 2, 3] [] rfl rfl rfl rfl (by decide) (fun hPc hDc => va_runV (As := [.int (nI (sk L sz ((scN L sz (sk L sz ((scN L sz ap).2.2) + 1)).2.2)))]) (rest := []) ⟨hx, hb, hml, hown, hts⟩ (c_X6_faultAt l D Z H.size T le tt tw L sz n z 1 (nI ((scN L sz ap).2.1)) (nI ((scN L sz (sk L sz ((scN L sz ap).2.2) + 1)).2.1)) fl (sk L sz ((scN L sz (sk L sz ((scN L sz ap).2.2) + 1)).2.2)) la (sk L sz ((scN L sz (sk L sz ((scN L sz ap).2.2) + 1)).2.2)) ) (cwV 1 hts gX6_scanCosts_X6_faultAt rfl rfl rfl (by decide +kernel) ⟨Nat.le_of_ble_eq_true rfl, Nat.le_of_ble_eq_true rfl⟩) ⟨fb_cPre, va_recv hK.1 hPc (ci := 6) (q0 := 0) rfl rfl, pre_of hPc hK hDc⟩ rfl rfl hl.1 rfl (lv_room (Nat.le_of_ble_eq_true rfl)) dX6_scanCosts_88 ⟨Nat.le_of_ble_eq_true rfl, Nat.le_of_ble_eq_true rfl⟩) (fun r10 u H locs hr10 hw => ?_)
                  subst hr10
                  have hw : WS D A s [(T, .inr (6, [.ref le, .int (nI sz), .ref tt, .int (nI 1), .int (nI ((scN L sz ap).2.1)), .int (nI ((scN L sz (sk L sz ((scN L sz ap).2.2) + 1)).2.1)), .int (nI (sk L sz ((scN L sz (sk L sz ((scN L sz ap).2.2) + 1)).2.2))), .int (nI (sk L sz ((scN L sz (sk L sz ((scN L sz ap).2.2) + 1)).2.2))), .int (nI la)])), (le, .inl (Z 2, 60, .inl (aI L))), (tt, .inr (5, [.int (nI n), .ref tw])), (tw, .inl (Z 0, 9, .inl (aI z)))] H locs := hw
                  refine q_if_eq (tgt := 98) hx hb ((0 : Nat) : Int) (nI_toInt (by omega)) dX6_scanCosts_91 (by decide) (fun c11 => ?_) (fun c11 => ?_)
                  · --
                    refine q_iconst (v := 0) hx hb dX6_scanCosts_98 (by decide) ?_
                    exact q_zret (wout := _) hx hb hr hlocks hAe hK (1, (nI ((scN L sz ap).2.1)), (nI ((scN L sz (sk L sz ((scN L sz ap).2.2) + 1)).2.1)), (sk L sz ((scN L sz (sk L sz ((scN L sz ap).2.2) + 1)).2.2)), (sk L sz ((scN L sz (sk L sz ((scN L sz ap).2.2) + 1)).2.2))) hw rfl (by first | exact Or.inl (by rw [scC_5 ho1 (by omega) hs2 ho3 (by omega)]; exact ⟨rfl, rfl, rfl, rfl, rfl, rfl⟩) | exact Or.inr (by rw [scC_6 ho1 (by omega) hs2 ho3 (by omega)]; exact ⟨rfl, rfl, rfl⟩)) dX6_scanCosts_99
                  · --
                    exfalso; omega
              · --
                exfalso; omega
            · --
              have hw : WS D A s [(T, .inr (6, [.ref le, .int (nI sz), .ref tt, .int (nI told), .int (nI ((scN L sz ap).2.1)), .int G, .int (nI ((scN L sz (sk L sz ((scN L sz ap).2.2) + 1)).2.2)), .int (nI ((scN L sz (sk L sz ((scN L sz ap).2.2) + 1)).2.2)), .int (nI la)])), (le, .inl (Z 2, 60, .inl (aI L))), (tt, .inr (5, [.int (nI n), .ref tw])), (tw, .inl (Z 0, 9, .inl (aI z)))] H locs := hw
              have hN3 := scN_le (L := L) (sz := sz) (a := sk L sz (scN L sz ap).2.2 + 1) (by omega)
              refine q_put (v := .int (-1)) (ci := 6) hx hb hts in_X6 tyX6 tyX6_ok nmX6 hown hK hw 0 5 wd3 dX6_scanCosts_51 rfl rfl (by decide) rfl rfl rfl (Nat.le_of_ble_eq_true rfl) (fun H locs hw => ?_)
              have hw : WS D A s [(T, .inr (6, [.ref le, .int (nI sz), .ref tt, .int (nI told), .int (nI ((scN L sz ap).2.1)), .int (-1), .int (nI ((scN L sz (sk L sz ((scN L sz ap).2.2) + 1)).2.2)), .int (nI ((scN L sz (sk L sz ((scN L sz ap).2.2) + 1)).2.2)), .int (nI la)])), (le, .inl (Z 2, 60, .inl (aI L))), (tt, .inr (5, [.int (nI n), .ref tw])), (tw, .inl (Z 0, 9, .inl (aI z)))] H locs := hw
              refine lv_aload_n hx hb dX6_scanCosts_54 rfl (lv_at hl 0 rfl) ?_
              refine q_get (v := .int (-1)) (ci := 6) hx hb hts in_X6 hown hK hw 0 5 wd3 dX6_scanCosts_55 rfl rfl (by decide) rfl ?_
              refine q_if_ge (tgt := 63) hx hb (-1) (by decide) dX6_scanCosts_58 (by decide) (fun c12 => ?_) (fun c12 => ?_)
              · --
                exfalso; omega
              · --
                refine q_iconst (v := 0) hx hb dX6_scanCosts_61 (by decide) ?_
                exact q_zret (wout := _) hx hb hr hlocks hAe hK (told, (nI ((scN L sz ap).2.1)), (-1), ((scN L sz (sk L sz ((scN L sz ap).2.2) + 1)).2.2), ((scN L sz (sk L sz ((scN L sz ap).2.2) + 1)).2.2)) hw rfl (Or.inr ⟨rfl, by rw [scC_4 ho1 (by omega) hs2 ho3], by rw [scC_4 ho1 (by omega) hs2 ho3]⟩) dX6_scanCosts_62
          · --
            exfalso; omega
        · --
          have hw : WS D A s [(T, .inr (6, [.ref le, .int (nI sz), .ref tt, .int (nI told), .int (nI ((scN L sz ap).2.1)), .int G, .int (nI (sk L sz ((scN L sz ap).2.2))), .int (nI (sk L sz ((scN L sz ap).2.2))), .int (nI la)])), (le, .inl (Z 2, 60, .inl (aI L))), (tt, .inr (5, [.int (nI n), .ref tw])), (tw, .inl (Z 0, 9, .inl (aI z)))] H locs := hw
          refine q_if_ne (tgt := 46) hx hb ((0 : Nat) : Int) (nI_toInt (by omega)) dX6_scanCosts_41 (by decide) (fun c13 => ?_) (fun c13 => ?_)
          · --
            exfalso; omega
          · --
            refine q_iconst (v := 0) hx hb dX6_scanCosts_44 (by decide) ?_
            exact q_zret (wout := _) hx hb hr hlocks hAe hK (told, (nI ((scN L sz ap).2.1)), G, (sk L sz ((scN L sz ap).2.2)), (sk L sz ((scN L sz ap).2.2))) hw rfl (Or.inr ⟨rfl, by rw [scC_3 ho1 (by omega) hs2], by rw [scC_3 ho1 (by omega) hs2]⟩) dX6_scanCosts_45
      · --
        refine lv_aload_n hx hb dX6_scanCosts_24 rfl (lv_at hl 0 rfl) ?_
        refine lv_aload_n hx hb dX6_scanCosts_25 rfl (lv_at hl 0 rfl) ?_
        refine q_get (v := .int (nI ((scN L sz ap).2.2))) (ci := 6) hx hb hts in_X6 hown hK hw 0 7 wd2 dX6_scanCosts_26 rfl rfl (by decide) rfl ?_
        refine q_iconst (v := 1) hx hb dX6_scanCosts_29 (by decide) ?_
        refine q_isub hx hb (by omega) dX6_scanCosts_30 ?_
        refine q_calli (S := Unit) (Z := Z) (D := D) (wc := [(T, .inr (6, [.ref le, .int (nI sz), .ref tt, .int (nI told), .int (nI ((scN L sz ap).2.1)), .int G, .int (nI fl), .int (nI ((scN L sz ap).2.2)), .int (nI la)])), (le, .inl (Z 2, 60, .inl (aI L))), (tt, .inr (5, [.int (nI n), .ref tw])), (tw, .inl (Z 0, 9, .inl (aI z)))]) (wr := []) (rest := []) hw hA [0, 1, 2, 3] [] rfl rfl rfl rfl (by decide) (fun hPc hDc => va_runV (As := [.int (nI (((scN L sz ap).2.2) - 1))]) (rest := []) ⟨hx, hb, hml, hown, hts⟩ (c_X6_faultAt l D Z H.size T le tt tw L sz n z told (nI ((scN L sz ap).2.1)) G fl ((scN L sz ap).2.2) la (((scN L sz ap).2.2) - 1) ) (cwV 1 hts gX6_scanCosts_X6_faultAt rfl rfl rfl (by decide +kernel) ⟨Nat.le_of_ble_eq_true rfl, Nat.le_of_ble_eq_true rfl⟩) ⟨fb_cPre, va_recv hK.1 hPc (ci := 6) (q0 := 0) rfl rfl, pre_of hPc hK hDc⟩ rfl rfl hl.1 rfl (lv_room (Nat.le_of_ble_eq_true rfl)) dX6_scanCosts_31 ⟨Nat.le_of_ble_eq_true rfl, Nat.le_of_ble_eq_true rfl⟩) (fun r14 u H locs hr14 hw => ?_)
        subst hr14
        have hw : WS D A s [(T, .inr (6, [.ref le, .int (nI sz), .ref tt, .int (nI told), .int (nI ((scN L sz ap).2.1)), .int G, .int (nI (((scN L sz ap).2.2) - 1)), .int (nI ((scN L sz ap).2.2)), .int (nI la)])), (le, .inl (Z 2, 60, .inl (aI L))), (tt, .inr (5, [.int (nI n), .ref tw])), (tw, .inl (Z 0, 9, .inl (aI z)))] H locs := hw
        exact q_zret (wout := _) hx hb hr hlocks hAe hK (told, (nI ((scN L sz ap).2.1)), G, (((scN L sz ap).2.2) - 1), ((scN L sz ap).2.2)) hw rfl (Or.inr ⟨rfl, by rw [scC_2 ho1 (by omega)], by rw [scC_2 ho1 (by omega)]⟩) dX6_scanCosts_34
    · --
      exfalso; omega
  · --
    have hw : WS D A s [(T, .inr (6, [.ref le, .int (nI sz), .ref tt, .int (nI told), .int F, .int G, .int (nI ((scN L sz ap).2.2)), .int (nI ((scN L sz ap).2.2)), .int (nI la)])), (le, .inl (Z 2, 60, .inl (aI L))), (tt, .inr (5, [.int (nI n), .ref tw])), (tw, .inl (Z 0, 9, .inl (aI z)))] H locs := hw
    have hN1 := scN_le (L := L) (sz := sz) (a := ap) (by omega)
    refine q_put (v := .int (-1)) (ci := 6) hx hb hts in_X6 tyX6 tyX6_ok nmX6 hown hK hw 0 4 wd1 dX6_scanCosts_5 rfl rfl (by decide) rfl rfl rfl (Nat.le_of_ble_eq_true rfl) (fun H locs hw => ?_)
    have hw : WS D A s [(T, .inr (6, [.ref le, .int (nI sz), .ref tt, .int (nI told), .int (-1), .int G, .int (nI ((scN L sz ap).2.2)), .int (nI ((scN L sz ap).2.2)), .int (nI la)])), (le, .inl (Z 2, 60, .inl (aI L))), (tt, .inr (5, [.int (nI n), .ref tw])), (tw, .inl (Z 0, 9, .inl (aI z)))] H locs := hw
    refine lv_aload_n hx hb dX6_scanCosts_8 rfl (lv_at hl 0 rfl) ?_
    refine q_get (v := .int (-1)) (ci := 6) hx hb hts in_X6 hown hK hw 0 4 wd1 dX6_scanCosts_9 rfl rfl (by decide) rfl ?_
    refine q_if_ge (tgt := 17) hx hb (-1) (by decide) dX6_scanCosts_12 (by decide) (fun c15 => ?_) (fun c15 => ?_)
    · --
      exfalso; omega
    · --
      refine q_iconst (v := 0) hx hb dX6_scanCosts_15 (by decide) ?_
      exact q_zret (wout := _) hx hb hr hlocks hAe hK (told, (-1), G, ((scN L sz ap).2.2), ((scN L sz ap).2.2)) hw rfl (Or.inr ⟨rfl, by rw [scC_1 ho1], by rw [scC_1 ho1]⟩) dX6_scanCosts_16
set_option maxHeartbeats 4000000 in
set_option maxRecDepth 100000 in
theorem c_X6_scan (l : Launch) (D : va_G) (Z : Nat → ClassId) (zs0 : Nat) (T le tt tw : Nat) (L : Nat → Nat) (sz n : Nat) (z : Nat → Nat) (told : Nat) (F G : Int32) (fl ap la : Nat) (hL : ∀ k, L k < 128) (hsz : sz ≤ 60) : cMi l yX6_scan wsX6_scan (rmd 4) D Z zs0 [.ref T] [(T, .inr (6, [.ref le, .int (nI sz), .ref tt, .int (nI told), .int F, .int G, .int (nI fl), .int (nI ap), .int (nI la)])), (le, .inl (Z 2, 60, .inl (aI L))), (tt, .inr (5, [.int (nI n), .ref tw])), (tw, .inl (Z 0, 9, .inl (aI z)))] (S := Nat × (Nat → Nat) × Nat × Int32 × Int32 × Nat × Nat × Nat) (fun (r : Int32) (u : Nat × (Nat → Nat) × Nat × Int32 × Int32 × Nat × Nat × Nat) => match u with | (n', z', told', F', G', fl', ap', la') => (r = nI 1 ∧ prsOk L sz (scW L sz 8 0 (fil z 9 0) 0 la) ∧ n' = (scW L sz 8 0 (fil z 9 0) 0 la).2.1 ∧ z' = (scW L sz 8 0 (fil z 9 0) 0 la).2.2.1 ∧ (((scW L sz 8 0 (fil z 9 0) 0 la).2.2.2.1 < sz ∧ told' = 1 ∧ F' = nI (scC L sz ((scW L sz 8 0 (fil z 9 0) 0 la).2.2.2.1 + 1)).2.1 ∧ G' = nI (scC L sz ((scW L sz 8 0 (fil z 9 0) 0 la).2.2.2.1 + 1)).2.2.1) ∨ (sz ≤ (scW L sz 8 0 (fil z 9 0) 0 la).2.2.2.1 ∧ told' = 0))) ∨ (r = nI 0 ∧ ¬ prsOk L sz (scW L sz 8 0 (fil z 9 0) 0 la) ∧ fl' = prsPl L sz (scW L sz 8 0 (fil z 9 0) 0 la))) (fun (u : Nat × (Nat → Nat) × Nat × Int32 × Int32 × Nat × Nat × Nat) => match u with | (n', z', told', F', G', fl', ap', la') => [(T, .inr (6, [.ref le, .int (nI sz), .ref tt, .int (nI told'), .int F', .int G', .int (nI fl'), .int (nI ap'), .int (nI la')])), (le, .inl (Z 2, 60, .inl (aI L))), (tt, .inr (5, [.int (nI n'), .ref tw])), (tw, .inl (Z 0, 9, .inl (aI z')))]) 0 0 := by
  refine q_open (y := yX6_scan) (ws := wsX6_scan) (av := [.ref T]) (win := [(T, .inr (6, [.ref le, .int (nI sz), .ref tt, .int (nI told), .int F, .int G, .int (nI fl), .int (nI ap), .int (nI la)])), (le, .inl (Z 2, 60, .inl (aI L))), (tt, .inr (5, [.int (nI n), .ref tw])), (tw, .inl (Z 0, 9, .inl (aI z)))]) (Qc := fun zs0 => cQi D Z zs0 [(T, .inr (6, [.ref le, .int (nI sz), .ref tt, .int (nI told), .int F, .int G, .int (nI fl), .int (nI ap), .int (nI la)])), (le, .inl (Z 2, 60, .inl (aI L))), (tt, .inr (5, [.int (nI n), .ref tw])), (tw, .inl (Z 0, 9, .inl (aI z)))] (S := Nat × (Nat → Nat) × Nat × Int32 × Int32 × Nat × Nat × Nat) (fun (r : Int32) (u : Nat × (Nat → Nat) × Nat × Int32 × Int32 × Nat × Nat × Nat) => match u with | (n', z', told', F', G', fl', ap', la') => (r = nI 1 ∧ prsOk L sz (scW L sz 8 0 (fil z 9 0) 0 la) ∧ n' = (scW L sz 8 0 (fil z 9 0) 0 la).2.1 ∧ z' = (scW L sz 8 0 (fil z 9 0) 0 la).2.2.1 ∧ (((scW L sz 8 0 (fil z 9 0) 0 la).2.2.2.1 < sz ∧ told' = 1 ∧ F' = nI (scC L sz ((scW L sz 8 0 (fil z 9 0) 0 la).2.2.2.1 + 1)).2.1 ∧ G' = nI (scC L sz ((scW L sz 8 0 (fil z 9 0) 0 la).2.2.2.1 + 1)).2.2.1) ∨ (sz ≤ (scW L sz 8 0 (fil z 9 0) 0 la).2.2.2.1 ∧ told' = 0))) ∨ (r = nI 0 ∧ ¬ prsOk L sz (scW L sz 8 0 (fil z 9 0) 0 la) ∧ fl' = prsPl L sz (scW L sz 8 0 (fil z 9 0) 0 la))) (fun (u : Nat × (Nat → Nat) × Nat × Int32 × Int32 × Nat × Nat × Nat) => match u with | (n', z', told', F', G', fl', ap', la') => [(T, .inr (6, [.ref le, .int (nI sz), .ref tt, .int (nI told'), .int F', .int G', .int (nI fl'), .int (nI ap'), .int (nI la')])), (le, .inl (Z 2, 60, .inl (aI L))), (tt, .inr (5, [.int (nI n'), .ref tw])), (tw, .inl (Z 0, 9, .inl (aI z')))])) (cc := cX6_scan) (maxL := 1) (ret := (some .boolean)) (by decide) rfl (Nat.le_of_ble_eq_true rfl) ?_
  intro pp ee s mm bw mt cd ls A H locs hAe hx hb hr hml hown hmn hts hlocks hA hK hw hl
  have hown : s.vm.findClass RX6 = some mm.cls := hown
  have hl : lv_has ls 1 [(0, .ref T)] := hl
  have wd1 := hts (.fieldLink RX6 26 "ReplaceAges$Text" "at" "I") (List.mem_of_getElem? (i := 1) rfl)
  have wd2 := hts (.fieldLink RX6 29 "ReplaceAges$Text" "costsTold" "Z") (List.mem_of_getElem? (i := 2) rfl)
  have wd3 := hts (.fieldLink RX6 22 "ReplaceAges$Text" "size" "I") (List.mem_of_getElem? (i := 3) rfl)
  have wd4 := hts (.fieldLink RX6 18 "ReplaceAges$Text" "table" "LReplaceAges$Table;") (List.mem_of_getElem? (i := 4) rfl)
  have wd5 := hts (.fieldLink RX6 44 "ReplaceAges$Table" "n" "I") (List.mem_of_getElem? (i := 5) rfl)
  have wd6 := hts (.fieldLink RX6 51 "ReplaceAges$Text" "lastWeightAt" "I") (List.mem_of_getElem? (i := 6) rfl)
  have in_X6 : ∀ w ∈ wsX60, w ∈ wsX6_scan := fun _ h => List.mem_cons_of_mem _ (List.mem_append_left _ (List.mem_append_right _ h))
  have in_X5 : ∀ w ∈ wsX50, w ∈ wsX6_scan := fun _ h => List.mem_cons_of_mem _ (List.mem_append_right _ h)
  refine lv_aload_n hx hb dX6_scan_0 rfl (lv_at hl 0 rfl) ?_
  refine q_iconst (v := 0) hx hb dX6_scan_1 (by decide) ?_
  refine q_put (v := .int (nI 0)) (ci := 6) hx hb hts in_X6 tyX6 tyX6_ok nmX6 hown hK hw 0 7 wd1 dX6_scan_2 rfl rfl (by decide) rfl rfl rfl (Nat.le_of_ble_eq_true rfl) (fun H locs hw => ?_)
  have hw : WS D A s [(T, .inr (6, [.ref le, .int (nI sz), .ref tt, .int (nI told), .int F, .int G, .int (nI fl), .int (nI 0), .int (nI la)])), (le, .inl (Z 2, 60, .inl (aI L))), (tt, .inr (5, [.int (nI n), .ref tw])), (tw, .inl (Z 0, 9, .inl (aI z)))] H locs := hw
  refine lv_aload_n hx hb dX6_scan_5 rfl (lv_at hl 0 rfl) ?_
  refine q_iconst (v := 0) hx hb dX6_scan_6 (by decide) ?_
  refine q_put (v := .int (nI 0)) (ci := 6) hx hb hts in_X6 tyX6 tyX6_ok nmX6 hown hK hw 0 3 wd2 dX6_scan_7 rfl rfl (by decide) rfl rfl rfl (Nat.le_of_ble_eq_true rfl) (fun H locs hw => ?_)
  have hw : WS D A s [(T, .inr (6, [.ref le, .int (nI sz), .ref tt, .int (nI 0), .int F, .int G, .int (nI fl), .int (nI 0), .int (nI la)])), (le, .inl (Z 2, 60, .inl (aI L))), (tt, .inr (5, [.int (nI n), .ref tw])), (tw, .inl (Z 0, 9, .inl (aI z)))] H locs := hw
  refine lv_aload_n hx hb dX6_scan_10 rfl (lv_at hl 0 rfl) ?_
  refine q_calli (S := Nat × (Nat → Nat) × Nat × Nat × Nat) (Z := Z) (D := D) (wc := [(T, .inr (6, [.ref le, .int (nI sz), .ref tt, .int (nI 0), .int F, .int G, .int (nI fl), .int (nI 0), .int (nI la)])), (le, .inl (Z 2, 60, .inl (aI L))), (tt, .inr (5, [.int (nI n), .ref tw])), (tw, .inl (Z 0, 9, .inl (aI z)))]) (wr := []) (rest := []) hw hA [0, 1, 2, 3] [] rfl rfl rfl rfl (by decide) (fun hPc hDc => va_runV (As := []) (rest := []) ⟨hx, hb, hml, hown, hts⟩ (c_X6_scanWeights l D Z H.size T le tt tw L sz n z 0 F G fl 0 la (by first | assumption | omega) (by first | assumption | omega) (by first | assumption | omega)) (cwV 0 hts gX6_scan_X6_scanWeights rfl rfl rfl (by decide +kernel) ⟨Nat.le_of_ble_eq_true rfl, Nat.le_of_ble_eq_true rfl⟩) ⟨fb_cPre, va_recv hK.1 hPc (ci := 6) (q0 := 0) rfl rfl, pre_of hPc hK hDc⟩ rfl rfl hl.1 rfl (lv_room (Nat.le_of_ble_eq_true rfl)) dX6_scan_11 ⟨Nat.le_of_ble_eq_true rfl, Nat.le_of_ble_eq_true rfl⟩) (fun r1 u H locs hr1 hw => ?_)
  obtain ⟨n1, z1, fl1, ap1, la1⟩ := u
  try dsimp only at hr1 hw
  have hw : WS D A s [(T, .inr (6, [.ref le, .int (nI sz), .ref tt, .int (nI 0), .int F, .int G, .int (nI fl1), .int (nI ap1), .int (nI la1)])), (le, .inl (Z 2, 60, .inl (aI L))), (tt, .inr (5, [.int (nI n1), .ref tw])), (tw, .inl (Z 0, 9, .inl (aI z1)))] H locs := hw
  rcases hr1 with ⟨rfl, hg, hn1, hz1, ha1, hl1, rfl⟩ | ⟨rfl, hg, hf1⟩
  · --
    have hw : WS D A s [(T, .inr (6, [.ref le, .int (nI sz), .ref tt, .int (nI 0), .int F, .int G, .int (nI fl), .int (nI ap1), .int (nI la1)])), (le, .inl (Z 2, 60, .inl (aI L))), (tt, .inr (5, [.int (nI n1), .ref tw])), (tw, .inl (Z 0, 9, .inl (aI z1)))] H locs := hw
    have hW := scW_ok (L := L) (sz := sz) (z := fil z 9 0) (a := 0) (la := la) (by omega) (by rw [lf_end (Nat.le_refl _)]; omega) hg
    rw [← hn1, ← hz1, ← ha1] at hW
    obtain ⟨w1, w2, w3, w4, w5⟩ := hW
    refine q_if_ne (tgt := 19) hx hb ((1 : Nat) : Int) (nI_toInt (by omega)) dX6_scan_14 (by decide) (fun c2 => ?_) (fun c2 => ?_)
    · --
      refine lv_aload_n hx hb dX6_scan_19 rfl (lv_at hl 0 rfl) ?_
      refine q_get (v := .int (nI ap1)) (ci := 6) hx hb hts in_X6 hown hK hw 0 7 wd1 dX6_scan_20 rfl rfl (by decide) rfl ?_
      refine lv_aload_n hx hb dX6_scan_23 rfl (lv_at hl 0 rfl) ?_
      refine q_get (v := .int (nI sz)) (ci := 6) hx hb hts in_X6 hown hK hw 0 1 wd3 dX6_scan_24 rfl rfl (by decide) rfl ?_
      refine q_icmp_ge (tgt := 48) hx hb ((ap1 : Nat) : Int) ((sz : Nat) : Int) (nI_toInt (by omega)) (nI_toInt (by omega)) dX6_scan_27 (by decide) (fun c3 => ?_) (fun c3 => ?_)
      · --
        refine lv_aload_n hx hb dX6_scan_48 rfl (lv_at hl 0 rfl) ?_
        refine q_get (v := .ref tt) (ci := 6) hx hb hts in_X6 hown hK hw 0 2 wd4 dX6_scan_49 rfl rfl (by decide) rfl ?_
        refine lv_aload_n hx hb dX6_scan_52 rfl (lv_at hl 0 rfl) ?_
        refine q_get (v := .ref tt) (ci := 6) hx hb hts in_X6 hown hK hw 0 2 wd4 dX6_scan_53 rfl rfl (by decide) rfl ?_
        refine q_get (v := .int (nI n1)) (ci := 5) hx hb hts in_X5 hown hK hw 2 0 wd5 dX6_scan_56 rfl rfl (by decide) rfl ?_
        refine q_calli (S := Unit) (Z := Z) (D := D) (wc := [(tt, .inr (5, [.int (nI n1), .ref tw])), (tw, .inl (Z 0, 9, .inl (aI z1)))]) (wr := [(T, .inr (6, [.ref le, .int (nI sz), .ref tt, .int (nI 0), .int F, .int G, .int (nI fl), .int (nI ap1), .int (nI la1)])), (le, .inl (Z 2, 60, .inl (aI L)))]) (rest := []) hw hA [2, 3] [0, 1] rfl rfl rfl rfl (by decide) (fun hPc hDc => va_runV (As := [.int (nI n1)]) (rest := []) ⟨hx, hb, hml, hown, hts⟩ (c_X5_weightOf l D Z H.size tt tw n1 z1 n1 (by omega) (by omega)) (cwV 1 hts gX6_scan_X5_weightOf rfl rfl rfl (by decide +kernel) ⟨Nat.le_of_ble_eq_true rfl, Nat.le_of_ble_eq_true rfl⟩) ⟨fb_cPre, va_recv hK.1 hPc (ci := 5) (q0 := 0) rfl rfl, pre_of hPc hK hDc⟩ rfl rfl hl.1 rfl (lv_room (Nat.le_of_ble_eq_true rfl)) dX6_scan_59 ⟨Nat.le_of_ble_eq_true rfl, Nat.le_of_ble_eq_true rfl⟩) (fun r4 u H locs hr4 hw => ?_)
        subst hr4
        have hw : WS D A s [(T, .inr (6, [.ref le, .int (nI sz), .ref tt, .int (nI 0), .int F, .int G, .int (nI fl), .int (nI ap1), .int (nI la1)])), (le, .inl (Z 2, 60, .inl (aI L))), (tt, .inr (5, [.int (nI n1), .ref tw])), (tw, .inl (Z 0, 9, .inl (aI z1)))] H locs := hw
        refine q_topi (x := nI (wt z1 n1 n1)) (y := nI (z1 n1)) (congrArg nI (wt_in (by omega))) ?_
        refine q_if_gt (tgt := 76) hx hb ((z1 n1 : Nat) : Int) (nI_toInt (Nat.lt_of_le_of_lt (z_le (n := n1) (by omega)) (by omega))) dX6_scan_62 (by decide) (fun c5 => ?_) (fun c5 => ?_)
        · --
          have hz9 : z1 n1 ≠ 0 := by omega
          refine q_iconst (v := 1) hx hb dX6_scan_76 (by decide) ?_
          refine lv_goto (tgt := 81) hx hb dX6_scan_77 (by decide) ?_
          exact q_zret (wout := _) hx hb hr hlocks hAe hK (n1, z1, 0, F, G, fl, ap1, la1) hw rfl (by first | exact Or.inl ⟨rfl, ⟨hg, fun _ => ⟨by rw [← ha1]; exact hs2, by rw [← ha1]; exact hc1⟩, by rw [← hn1, ← hz1]; exact hz9⟩, hn1, hz1, Or.inl ⟨by rw [← ha1]; omega, rfl, by rw [← ha1]; exact hF2, by rw [← ha1]; exact hG2⟩⟩ | exact Or.inl ⟨rfl, ⟨hg, fun q => absurd q (by rw [← ha1]; omega), by rw [← hn1, ← hz1]; exact hz9⟩, hn1, hz1, Or.inr ⟨by rw [← ha1]; omega, rfl⟩⟩ | exact Or.inr ⟨rfl, fun q => q.2.2 (by rw [← hn1, ← hz1]; exact hz9), by rw [prsPl_4 hg (fun _ => ⟨by rw [← ha1]; exact hs2, by rw [← ha1]; exact hc1⟩), ← hl1]⟩ | exact Or.inr ⟨rfl, fun q => q.2.2 (by rw [← hn1, ← hz1]; exact hz9), by rw [prsPl_4 hg (fun q => absurd q (by rw [← ha1]; omega)), ← hl1]⟩) dX6_scan_81
        · --
          have hz9 : z1 n1 = 0 := by omega
          refine lv_aload_n hx hb dX6_scan_65 rfl (lv_at hl 0 rfl) ?_
          refine lv_aload_n hx hb dX6_scan_66 rfl (lv_at hl 0 rfl) ?_
          refine q_get (v := .int (nI la1)) (ci := 6) hx hb hts in_X6 hown hK hw 0 8 wd6 dX6_scan_67 rfl rfl (by decide) rfl ?_
          refine q_calli (S := Unit) (Z := Z) (D := D) (wc := [(T, .inr (6, [.ref le, .int (nI sz), .ref tt, .int (nI 0), .int F, .int G, .int (nI fl), .int (nI ap1), .int (nI la1)])), (le, .inl (Z 2, 60, .inl (aI L))), (tt, .inr (5, [.int (nI n1), .ref tw])), (tw, .inl (Z 0, 9, .inl (aI z1)))]) (wr := []) (rest := []) hw hA [0, 1, 2, 3] [] rfl rfl rfl rfl (by decide) (fun hPc hDc => va_runV (As := [.int (nI la1)]) (rest := []) ⟨hx, hb, hml, hown, hts⟩ (c_X6_faultAt l D Z H.size T le tt tw L sz n1 z1 0 F G fl ap1 la1 la1 ) (cwV 1 hts gX6_scan_X6_faultAt rfl rfl rfl (by decide +kernel) ⟨Nat.le_of_ble_eq_true rfl, Nat.le_of_ble_eq_true rfl⟩) ⟨fb_cPre, va_recv hK.1 hPc (ci := 6) (q0 := 0) rfl rfl, pre_of hPc hK hDc⟩ rfl rfl hl.1 rfl (lv_room (Nat.le_of_ble_eq_true rfl)) dX6_scan_70 ⟨Nat.le_of_ble_eq_true rfl, Nat.le_of_ble_eq_true rfl⟩) (fun r6 u H locs hr6 hw => ?_)
          subst hr6
          have hw : WS D A s [(T, .inr (6, [.ref le, .int (nI sz), .ref tt, .int (nI 0), .int F, .int G, .int (nI la1), .int (nI ap1), .int (nI la1)])), (le, .inl (Z 2, 60, .inl (aI L))), (tt, .inr (5, [.int (nI n1), .ref tw])), (tw, .inl (Z 0, 9, .inl (aI z1)))] H locs := hw
          refine q_if_eq (tgt := 80) hx hb ((0 : Nat) : Int) (nI_toInt (by omega)) dX6_scan_73 (by decide) (fun c7 => ?_) (fun c7 => ?_)
          · --
            refine q_iconst (v := 0) hx hb dX6_scan_80 (by decide) ?_
            exact q_zret (wout := _) hx hb hr hlocks hAe hK (n1, z1, 0, F, G, la1, ap1, la1) hw rfl (by first | exact Or.inl ⟨rfl, ⟨hg, fun _ => ⟨by rw [← ha1]; exact hs2, by rw [← ha1]; exact hc1⟩, by rw [← hn1, ← hz1]; exact hz9⟩, hn1, hz1, Or.inl ⟨by rw [← ha1]; omega, rfl, by rw [← ha1]; exact hF2, by rw [← ha1]; exact hG2⟩⟩ | exact Or.inl ⟨rfl, ⟨hg, fun q => absurd q (by rw [← ha1]; omega), by rw [← hn1, ← hz1]; exact hz9⟩, hn1, hz1, Or.inr ⟨by rw [← ha1]; omega, rfl⟩⟩ | exact Or.inr ⟨rfl, fun q => q.2.2 (by rw [← hn1, ← hz1]; exact hz9), by rw [prsPl_4 hg (fun _ => ⟨by rw [← ha1]; exact hs2, by rw [← ha1]; exact hc1⟩), ← hl1]⟩ | exact Or.inr ⟨rfl, fun q => q.2.2 (by rw [← hn1, ← hz1]; exact hz9), by rw [prsPl_4 hg (fun q => absurd q (by rw [← ha1]; omega)), ← hl1]⟩) dX6_scan_81
          · --
            exfalso; omega
      · --
        refine lv_aload_n hx hb dX6_scan_30 rfl (lv_at hl 0 rfl) ?_
        refine q_bipush (v := 59) hx hb dX6_scan_31 (by decide) ?_
        refine q_calli (S := Nat × Nat) (Z := Z) (D := D) (wc := [(T, .inr (6, [.ref le, .int (nI sz), .ref tt, .int (nI 0), .int F, .int G, .int (nI fl), .int (nI ap1), .int (nI la1)])), (le, .inl (Z 2, 60, .inl (aI L))), (tt, .inr (5, [.int (nI n1), .ref tw])), (tw, .inl (Z 0, 9, .inl (aI z1)))]) (wr := []) (rest := []) hw hA [0, 1, 2, 3] [] rfl rfl rfl rfl (by decide) (fun hPc hDc => va_runV (As := [.int (nI 59)]) (rest := []) ⟨hx, hb, hml, hown, hts⟩ (c_X6_scanSign l D Z H.size T le tt tw L sz n1 z1 0 F G fl ap1 la1 59 (by first | assumption | omega) (by first | assumption | omega) (by first | assumption | omega) (by first | assumption | omega)) (cwV 1 hts gX6_scan_X6_scanSign rfl rfl rfl (by decide +kernel) ⟨Nat.le_of_ble_eq_true rfl, Nat.le_of_ble_eq_true rfl⟩) ⟨fb_cPre, va_recv hK.1 hPc (ci := 6) (q0 := 0) rfl rfl, pre_of hPc hK hDc⟩ rfl rfl hl.1 rfl (lv_room (Nat.le_of_ble_eq_true rfl)) dX6_scan_33 ⟨Nat.le_of_ble_eq_true rfl, Nat.le_of_ble_eq_true rfl⟩) (fun r8 u H locs hr8 hw => ?_)
        obtain ⟨fl'_8, ap'_8⟩ := u
        try dsimp only at hr8 hw
        have hw : WS D A s [(T, .inr (6, [.ref le, .int (nI sz), .ref tt, .int (nI 0), .int F, .int G, .int (nI fl'_8), .int (nI ap'_8), .int (nI la1)])), (le, .inl (Z 2, 60, .inl (aI L))), (tt, .inr (5, [.int (nI n1), .ref tw])), (tw, .inl (Z 0, 9, .inl (aI z1)))] H locs := hw
        rcases hr8 with ⟨rfl, rfl, rfl, hs2⟩ | ⟨rfl, rfl, rfl, hs2⟩
        · --
          have hw : WS D A s [(T, .inr (6, [.ref le, .int (nI sz), .ref tt, .int (nI 0), .int F, .int G, .int (nI fl), .int (nI (sk L sz ap1 + 1)), .int (nI la1)])), (le, .inl (Z 2, 60, .inl (aI L))), (tt, .inr (5, [.int (nI n1), .ref tw])), (tw, .inl (Z 0, 9, .inl (aI z1)))] H locs := hw
          rw [sk_stop w4] at hs2
          have hS2 := ltr_lt' (L := L) (sz := sz) (a := ap1) (by omega)
          have hkk : sk L sz ap1 = ap1 := sk_stop w4
          refine q_if_eq (tgt := 46) hx hb ((1 : Nat) : Int) (nI_toInt (by omega)) dX6_scan_36 (by decide) (fun c9 => ?_) (fun c9 => ?_)
          · --
            exfalso; omega
          · --
            refine lv_aload_n hx hb dX6_scan_39 rfl (lv_at hl 0 rfl) ?_
            refine q_calli (S := Nat × Int32 × Int32 × Nat × Nat) (Z := Z) (D := D) (wc := [(T, .inr (6, [.ref le, .int (nI sz), .ref tt, .int (nI 0), .int F, .int G, .int (nI fl), .int (nI (sk L sz ap1 + 1)), .int (nI la1)])), (le, .inl (Z 2, 60, .inl (aI L))), (tt, .inr (5, [.int (nI n1), .ref tw])), (tw, .inl (Z 0, 9, .inl (aI z1)))]) (wr := []) (rest := []) hw hA [0, 1, 2, 3] [] rfl rfl rfl rfl (by decide) (fun hPc hDc => va_runV (As := []) (rest := []) ⟨hx, hb, hml, hown, hts⟩ (c_X6_scanCosts l D Z H.size T le tt tw L sz n1 z1 0 F G fl (sk L sz ap1 + 1) la1 (by first | assumption | omega) (by first | assumption | omega) (by first | assumption | omega)) (cwV 0 hts gX6_scan_X6_scanCosts rfl rfl rfl (by decide +kernel) ⟨Nat.le_of_ble_eq_true rfl, Nat.le_of_ble_eq_true rfl⟩) ⟨fb_cPre, va_recv hK.1 hPc (ci := 6) (q0 := 0) rfl rfl, pre_of hPc hK hDc⟩ rfl rfl hl.1 rfl (lv_room (Nat.le_of_ble_eq_true rfl)) dX6_scan_40 ⟨Nat.le_of_ble_eq_true rfl, Nat.le_of_ble_eq_true rfl⟩) (fun r10 u H locs hr10 hw => ?_)
            obtain ⟨to2, F2, G2, fl2, ap2⟩ := u
            try dsimp only at hr10 hw
            have hw : WS D A s [(T, .inr (6, [.ref le, .int (nI sz), .ref tt, .int (nI to2), .int F2, .int G2, .int (nI fl2), .int (nI ap2), .int (nI la1)])), (le, .inl (Z 2, 60, .inl (aI L))), (tt, .inr (5, [.int (nI n1), .ref tw])), (tw, .inl (Z 0, 9, .inl (aI z1)))] H locs := hw
            rcases hr10 with ⟨rfl, hc1, rfl, hF2, hG2, rfl⟩ | ⟨rfl, hc1, hf2⟩
            · --
              have hw : WS D A s [(T, .inr (6, [.ref le, .int (nI sz), .ref tt, .int (nI 1), .int F2, .int G2, .int (nI fl), .int (nI ap2), .int (nI la1)])), (le, .inl (Z 2, 60, .inl (aI L))), (tt, .inr (5, [.int (nI n1), .ref tw])), (tw, .inl (Z 0, 9, .inl (aI z1)))] H locs := hw
              rw [hkk] at hc1 hF2 hG2
              refine q_if_ne (tgt := 48) hx hb ((1 : Nat) : Int) (nI_toInt (by omega)) dX6_scan_43 (by decide) (fun c11 => ?_) (fun c11 => ?_)
              · --
                refine lv_aload_n hx hb dX6_scan_48 rfl (lv_at hl 0 rfl) ?_
                refine q_get (v := .ref tt) (ci := 6) hx hb hts in_X6 hown hK hw 0 2 wd4 dX6_scan_49 rfl rfl (by decide) rfl ?_
                refine lv_aload_n hx hb dX6_scan_52 rfl (lv_at hl 0 rfl) ?_
                refine q_get (v := .ref tt) (ci := 6) hx hb hts in_X6 hown hK hw 0 2 wd4 dX6_scan_53 rfl rfl (by decide) rfl ?_
                refine q_get (v := .int (nI n1)) (ci := 5) hx hb hts in_X5 hown hK hw 2 0 wd5 dX6_scan_56 rfl rfl (by decide) rfl ?_
                refine q_calli (S := Unit) (Z := Z) (D := D) (wc := [(tt, .inr (5, [.int (nI n1), .ref tw])), (tw, .inl (Z 0, 9, .inl (aI z1)))]) (wr := [(T, .inr (6, [.ref le, .int (nI sz), .ref tt, .int (nI 1), .int F2, .int G2, .int (nI fl), .int (nI ap2), .int (nI la1)])), (le, .inl (Z 2, 60, .inl (aI L)))]) (rest := []) hw hA [2, 3] [0, 1] rfl rfl rfl rfl (by decide) (fun hPc hDc => va_runV (As := [.int (nI n1)]) (rest := []) ⟨hx, hb, hml, hown, hts⟩ (c_X5_weightOf l D Z H.size tt tw n1 z1 n1 (by omega) (by omega)) (cwV 1 hts gX6_scan_X5_weightOf rfl rfl rfl (by decide +kernel) ⟨Nat.le_of_ble_eq_true rfl, Nat.le_of_ble_eq_true rfl⟩) ⟨fb_cPre, va_recv hK.1 hPc (ci := 5) (q0 := 0) rfl rfl, pre_of hPc hK hDc⟩ rfl rfl hl.1 rfl (lv_room (Nat.le_of_ble_eq_true rfl)) dX6_scan_59 ⟨Nat.le_of_ble_eq_true rfl, Nat.le_of_ble_eq_true rfl⟩) (fun r12 u H locs hr12 hw => ?_)
                subst hr12
                have hw : WS D A s [(T, .inr (6, [.ref le, .int (nI sz), .ref tt, .int (nI 1), .int F2, .int G2, .int (nI fl), .int (nI ap2), .int (nI la1)])), (le, .inl (Z 2, 60, .inl (aI L))), (tt, .inr (5, [.int (nI n1), .ref tw])), (tw, .inl (Z 0, 9, .inl (aI z1)))] H locs := hw
                refine q_topi (x := nI (wt z1 n1 n1)) (y := nI (z1 n1)) (congrArg nI (wt_in (by omega))) ?_
                refine q_if_gt (tgt := 76) hx hb ((z1 n1 : Nat) : Int) (nI_toInt (Nat.lt_of_le_of_lt (z_le (n := n1) (by omega)) (by omega))) dX6_scan_62 (by decide) (fun c13 => ?_) (fun c13 => ?_)
                · --
                  have hz9 : z1 n1 ≠ 0 := by omega
                  refine q_iconst (v := 1) hx hb dX6_scan_76 (by decide) ?_
                  refine lv_goto (tgt := 81) hx hb dX6_scan_77 (by decide) ?_
                  exact q_zret (wout := _) hx hb hr hlocks hAe hK (n1, z1, 1, F2, G2, fl, ap2, la1) hw rfl (by first | exact Or.inl ⟨rfl, ⟨hg, fun _ => ⟨by rw [← ha1]; exact hs2, by rw [← ha1]; exact hc1⟩, by rw [← hn1, ← hz1]; exact hz9⟩, hn1, hz1, Or.inl ⟨by rw [← ha1]; omega, rfl, by rw [← ha1]; exact hF2, by rw [← ha1]; exact hG2⟩⟩ | exact Or.inl ⟨rfl, ⟨hg, fun q => absurd q (by rw [← ha1]; omega), by rw [← hn1, ← hz1]; exact hz9⟩, hn1, hz1, Or.inr ⟨by rw [← ha1]; omega, rfl⟩⟩ | exact Or.inr ⟨rfl, fun q => q.2.2 (by rw [← hn1, ← hz1]; exact hz9), by rw [prsPl_4 hg (fun _ => ⟨by rw [← ha1]; exact hs2, by rw [← ha1]; exact hc1⟩), ← hl1]⟩ | exact Or.inr ⟨rfl, fun q => q.2.2 (by rw [← hn1, ← hz1]; exact hz9), by rw [prsPl_4 hg (fun q => absurd q (by rw [← ha1]; omega)), ← hl1]⟩) dX6_scan_81
                · --
                  have hz9 : z1 n1 = 0 := by omega
                  refine lv_aload_n hx hb dX6_scan_65 rfl (lv_at hl 0 rfl) ?_
                  refine lv_aload_n hx hb dX6_scan_66 rfl (lv_at hl 0 rfl) ?_
                  refine q_get (v := .int (nI la1)) (ci := 6) hx hb hts in_X6 hown hK hw 0 8 wd6 dX6_scan_67 rfl rfl (by decide) rfl ?_
                  refine q_calli (S := Unit) (Z := Z) (D := D) (wc := [(T, .inr (6, [.ref le, .int (nI sz), .ref tt, .int (nI 1), .int F2, .int G2, .int (nI fl), .int (nI ap2), .int (nI la1)])), (le, .inl (Z 2, 60, .inl (aI L))), (tt, .inr (5, [.int (nI n1), .ref tw])), (tw, .inl (Z 0, 9, .inl (aI z1)))]) (wr := []) (rest := []) hw hA [0, 1, 2, 3] [] rfl rfl rfl rfl (by decide) (fun hPc hDc => va_runV (As := [.int (nI la1)]) (rest := []) ⟨hx, hb, hml, hown, hts⟩ (c_X6_faultAt l D Z H.size T le tt tw L sz n1 z1 1 F2 G2 fl ap2 la1 la1 ) (cwV 1 hts gX6_scan_X6_faultAt rfl rfl rfl (by decide +kernel) ⟨Nat.le_of_ble_eq_true rfl, Nat.le_of_ble_eq_true rfl⟩) ⟨fb_cPre, va_recv hK.1 hPc (ci := 6) (q0 := 0) rfl rfl, pre_of hPc hK hDc⟩ rfl rfl hl.1 rfl (lv_room (Nat.le_of_ble_eq_true rfl)) dX6_scan_70 ⟨Nat.le_of_ble_eq_true rfl, Nat.le_of_ble_eq_true rfl⟩) (fun r14 u H locs hr14 hw => ?_)
                  subst hr14
                  have hw : WS D A s [(T, .inr (6, [.ref le, .int (nI sz), .ref tt, .int (nI 1), .int F2, .int G2, .int (nI la1), .int (nI ap2), .int (nI la1)])), (le, .inl (Z 2, 60, .inl (aI L))), (tt, .inr (5, [.int (nI n1), .ref tw])), (tw, .inl (Z 0, 9, .inl (aI z1)))] H locs := hw
                  refine q_if_eq (tgt := 80) hx hb ((0 : Nat) : Int) (nI_toInt (by omega)) dX6_scan_73 (by decide) (fun c15 => ?_) (fun c15 => ?_)
                  · --
                    refine q_iconst (v := 0) hx hb dX6_scan_80 (by decide) ?_
                    exact q_zret (wout := _) hx hb hr hlocks hAe hK (n1, z1, 1, F2, G2, la1, ap2, la1) hw rfl (by first | exact Or.inl ⟨rfl, ⟨hg, fun _ => ⟨by rw [← ha1]; exact hs2, by rw [← ha1]; exact hc1⟩, by rw [← hn1, ← hz1]; exact hz9⟩, hn1, hz1, Or.inl ⟨by rw [← ha1]; omega, rfl, by rw [← ha1]; exact hF2, by rw [← ha1]; exact hG2⟩⟩ | exact Or.inl ⟨rfl, ⟨hg, fun q => absurd q (by rw [← ha1]; omega), by rw [← hn1, ← hz1]; exact hz9⟩, hn1, hz1, Or.inr ⟨by rw [← ha1]; omega, rfl⟩⟩ | exact Or.inr ⟨rfl, fun q => q.2.2 (by rw [← hn1, ← hz1]; exact hz9), by rw [prsPl_4 hg (fun _ => ⟨by rw [← ha1]; exact hs2, by rw [← ha1]; exact hc1⟩), ← hl1]⟩ | exact Or.inr ⟨rfl, fun q => q.2.2 (by rw [← hn1, ← hz1]; exact hz9), by rw [prsPl_4 hg (fun q => absurd q (by rw [← ha1]; omega)), ← hl1]⟩) dX6_scan_81
                  · --
                    exfalso; omega
              · --
                exfalso; omega
            · --
              have hw : WS D A s [(T, .inr (6, [.ref le, .int (nI sz), .ref tt, .int (nI to2), .int F2, .int G2, .int (nI fl2), .int (nI ap2), .int (nI la1)])), (le, .inl (Z 2, 60, .inl (aI L))), (tt, .inr (5, [.int (nI n1), .ref tw])), (tw, .inl (Z 0, 9, .inl (aI z1)))] H locs := hw
              rw [hkk] at hc1 hf2
              refine q_if_ne (tgt := 48) hx hb ((0 : Nat) : Int) (nI_toInt (by omega)) dX6_scan_43 (by decide) (fun c16 => ?_) (fun c16 => ?_)
              · --
                exfalso; omega
              · --
                refine q_iconst (v := 0) hx hb dX6_scan_46 (by decide) ?_
                exact q_zret (wout := _) hx hb hr hlocks hAe hK (n1, z1, to2, F2, G2, fl2, ap2, la1) hw rfl (by first | exact Or.inr ⟨rfl, fun q => absurd (q.2.1 (by rw [← ha1]; omega)).1 (by rw [← ha1]; exact hs2), by rw [prsPl_2 hg (by rw [← ha1]; omega) (by rw [← ha1]; exact hs2), ← ha1, hkk]⟩ | exact Or.inr ⟨rfl, fun q => absurd (q.2.1 (by rw [← ha1]; omega)).2 (by rw [← ha1, hc1]; decide), by rw [prsPl_3 hg (by rw [← ha1]; omega) (by rw [← ha1]; exact hs2) (by rw [← ha1]; exact hc1), ← ha1]; exact hf2⟩) dX6_scan_47
        · --
          have hw : WS D A s [(T, .inr (6, [.ref le, .int (nI sz), .ref tt, .int (nI 0), .int F, .int G, .int (nI (sk L sz ap1)), .int (nI (sk L sz ap1)), .int (nI la1)])), (le, .inl (Z 2, 60, .inl (aI L))), (tt, .inr (5, [.int (nI n1), .ref tw])), (tw, .inl (Z 0, 9, .inl (aI z1)))] H locs := hw
          have hkk : sk L sz ap1 = ap1 := sk_stop w4
          rw [hkk] at hs2
          refine q_if_eq (tgt := 46) hx hb ((0 : Nat) : Int) (nI_toInt (by omega)) dX6_scan_36 (by decide) (fun c17 => ?_) (fun c17 => ?_)
          · --
            refine q_iconst (v := 0) hx hb dX6_scan_46 (by decide) ?_
            exact q_zret (wout := _) hx hb hr hlocks hAe hK (n1, z1, 0, F, G, (sk L sz ap1), (sk L sz ap1), la1) hw rfl (by first | exact Or.inr ⟨rfl, fun q => absurd (q.2.1 (by rw [← ha1]; omega)).1 (by rw [← ha1]; exact hs2), by rw [prsPl_2 hg (by rw [← ha1]; omega) (by rw [← ha1]; exact hs2), ← ha1, hkk]⟩ | exact Or.inr ⟨rfl, fun q => absurd (q.2.1 (by rw [← ha1]; omega)).2 (by rw [← ha1, hc1]; decide), by rw [prsPl_3 hg (by rw [← ha1]; omega) (by rw [← ha1]; exact hs2) (by rw [← ha1]; exact hc1), ← ha1]; exact hf2⟩) dX6_scan_47
          · --
            exfalso; omega
    · --
      exfalso; omega
  · --
    have hw : WS D A s [(T, .inr (6, [.ref le, .int (nI sz), .ref tt, .int (nI 0), .int F, .int G, .int (nI fl1), .int (nI ap1), .int (nI la1)])), (le, .inl (Z 2, 60, .inl (aI L))), (tt, .inr (5, [.int (nI n1), .ref tw])), (tw, .inl (Z 0, 9, .inl (aI z1)))] H locs := hw
    refine q_if_ne (tgt := 19) hx hb ((0 : Nat) : Int) (nI_toInt (by omega)) dX6_scan_14 (by decide) (fun c18 => ?_) (fun c18 => ?_)
    · --
      exfalso; omega
    · --
      refine q_iconst (v := 0) hx hb dX6_scan_17 (by decide) ?_
      exact q_zret (wout := _) hx hb hr hlocks hAe hK (n1, z1, 0, F, G, fl1, ap1, la1) hw rfl (Or.inr ⟨rfl, fun q => by have q1 := q.1; rw [hg] at q1; exact absurd q1 (by decide), by rw [prsPl_1 hg]; exact hf1⟩) dX6_scan_18
