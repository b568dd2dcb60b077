theorem va_comm {α : Type} (f : Nat → α) {i j : Nat} (x y : α) (h : i ≠ j) : va_up (va_up f i x) j y = va_up (va_up f j y) i x := by
  funext k; simp only [va_up]
  by_cases h1 : k = i
  · subst h1; rw [if_neg h, if_pos rfl, if_pos rfl]
  · by_cases h2 : k = j
    · subst h2; rw [if_pos rfl, if_neg h1, if_pos rfl]
    · rw [if_neg h2, if_neg h1, if_neg h1, if_neg h2]
theorem rpm_f (p : Nat → Nat) (a b c d : Nat) : va_up (va_up (va_up (va_up (va_up p 12 a) 16 b) 14 c) 17 d) 13 0 = va_up (va_up (va_up (va_up (va_up p 12 a) 16 b) 17 d) 14 c) 13 0 := by
  rw [va_comm _ c d (by decide)]
theorem rpm_c (p : Nat → Nat) (a b c d e : Nat) : va_up (va_up (va_up (va_up (va_up p 12 a) 16 b) 15 c) 17 d) 13 0 = va_up (va_up (va_up (va_up (va_up (va_up p 12 a) 16 b) 13 e) 17 d) 15 c) 13 0 := by
  rw [va_comm _ c d (by decide), va_comm _ e d (by decide), va_comm _ e c (by decide), va_uu]
/-- what stays as PERIODS run, in the reference's row -/
def rmI (p q : Nat → Nat) : Prop := q 0 = p 0 ∧ q 11 = p 11 ∧ q 13 < p 0 ∧ p 14 ≤ q 14 ∧ q 12 < 2 ^ 31 ∧ ∀ k, 1 ≤ k → k ≤ 8 → q k = p k
theorem rm_lf {p q : Nat → Nat} (hn : 1 ≤ p 0 ∧ p 0 ≤ 8) (h : rmI p q) {j : Nat} : lf q (p 0) j = lf p (p 0) j := lf_ext (fun k h1 h2 => h.2.2.2.2.2 k (by omega) (by omega))
theorem rp_row {z q : Nat → Nat} (h : ∀ k, 1 ≤ k → k ≤ q 0 → z k = q k) (hg : q 13 < q 0) : rp z q = rp q q := by
  unfold rp
  rw [lf_ext (w := z) (v := q) (fun k h1 h2 => h k (by omega) h2), h (q 13 + 1) (by omega) (by omega)]
theorem rm_s {p : Nat → Nat} {i : Nat} (hn : 1 ≤ p 0 ∧ p 0 ≤ 8) (h : rmI p (rpN p p i)) : rpN p p (i + 1) = rp (rpN p p i) (rpN p p i) :=
  rp_row (fun k h1 h2 => (h.2.2.2.2.2 k h1 (by have := h.1; omega)).symm) (by rw [h.1]; exact h.2.2.1)
theorem rp_k (z q : Nat → Nat) {k : Nat} (hk : k ≤ 11) : rp z q k = q k := by
  by_cases c1 : dw (q 12) / 65536 % lf z (q 0) (q 13) < z (q 13 + 1)
  · rw [rp_f z q c1]; simp only [va_up]; rw [if_neg (by omega), if_neg (by omega), if_neg (by omega), if_neg (by omega), if_neg (by omega)]
  · by_cases c2 : q 11 ≤ q 13 + 1
    · rw [rp_c z q c1 c2]; simp only [va_up]; rw [if_neg (by omega), if_neg (by omega), if_neg (by omega), if_neg (by omega), if_neg (by omega)]
    · rw [rp_o z q c1 c2]; simp only [va_up]; rw [if_neg (by omega), if_neg (by omega), if_neg (by omega)]
theorem rp_12 (z q : Nat → Nat) : rp z q 12 = dw (q 12) := by
  by_cases c1 : dw (q 12) / 65536 % lf z (q 0) (q 13) < z (q 13 + 1)
  · rw [rp_f z q c1]; rfl
  · by_cases c2 : q 11 ≤ q 13 + 1
    · rw [rp_c z q c1 c2]; rfl
    · rw [rp_o z q c1 c2]; rfl
theorem rp_14 (z q : Nat → Nat) : rp z q 14 = q 14 + bb (dw (q 12) / 65536 % lf z (q 0) (q 13) < z (q 13 + 1)) := by
  by_cases c1 : dw (q 12) / 65536 % lf z (q 0) (q 13) < z (q 13 + 1)
  · rw [rp_f z q c1, bb_t c1]; rfl
  · by_cases c2 : q 11 ≤ q 13 + 1
    · rw [rp_c z q c1 c2, bb_f c1]; rfl
    · rw [rp_o z q c1 c2, bb_f c1]; rfl
theorem rm_14 {p : Nat → Nat} {i : Nat} (hn : 1 ≤ p 0 ∧ p 0 ≤ 8) (h : rmI p (rpN p p i)) : rpN p p (i + 1) 14 - p 14 = rpN p p i 14 - p 14 + bb (dw (rpN p p i 12) / 65536 % lf (rpN p p i) (rpN p p i 0) (rpN p p i 13) < rpN p p i (rpN p p i 13 + 1)) := by
  have h3 := h.2.2.2.1
  rw [rm_s hn h, rp_14]; omega
theorem rm_inv {p : Nat → Nat} {i : Nat} (hn : 1 ≤ p 0 ∧ p 0 ≤ 8) (hs : lf p (p 0) 0 ≤ 24) (hz : 0 < p (p 0)) (h : rmI p (rpN p p i)) : rmI p (rpN p p (i + 1)) := by
  have h1 := rp_inv (z := p) hn hs hz (i := i) ⟨h.1, h.2.1, h.2.2.1, h.2.2.2.1⟩
  refine ⟨h1.1, h1.2.1, h1.2.2.1, h1.2.2.2, ?_, fun k h2 h3 => ?_⟩
  · show rp p (rpN p p i) 12 < 2 ^ 31
    rw [rp_12]; exact dw_lt31 _
  · show rp p (rpN p p i) k = p k
    rw [rp_k _ _ (by omega)]; exact h.2.2.2.2.2 k h2 h3
set_option maxHeartbeats 4000000 in
set_option maxRecDepth 100000 in
theorem c_X8_draws (l : Launch) (D : va_G) (Z : Nat → ClassId) (zs0 : Nat) (M : Nat) (mr mi : Nat → Nat) (ima : Int32) (p : Nat → Nat) (hd : p 12 < 2 ^ 31) : cMi l yX8_draws wsX8_draws (rmd 0) D Z zs0 [.ref M] [(M, .inr (8, [.ref (mr 0), .ref (mr 1), .int (nI (mi 2)), .ref (mr 3), .ref (mr 4), .int ima, .ref (mr 6), .int (nI (mi 7)), .ref (mr 8), .ref (mr 9), .ref (mr 10), .long (lN (mi 11)), .long (lN (mi 12)), .ref (mr 13), .ref (mr 14), .ref (mr 15), .ref (mr 16), .ref (mr 17), .ref (mr 18), .int (nI (mi 19)), .ref (mr 20), .ref (mr 21), .ref (mr 22), .ref (mr 23), .long (lN (mi 24)), .long (lN (mi 25)), .int (nI (mi 26)), .int (nI (mi 27)), .ref (mr 28), .int (nI (mi 29)), .int (nI (mi 30)), .int (nI (mi 31)), .int (nI (mi 32))])), (mr 0, .inl (Z 0, 18, .inl (aI p)))] (S := Unit) (fun (r : Int32) => fun (_ : Unit) => r = nI (dw (p 12) / 65536)) (fun (_ : Unit) => [(M, .inr (8, [.ref (mr 0), .ref (mr 1), .int (nI (mi 2)), .ref (mr 3), .ref (mr 4), .int ima, .ref (mr 6), .int (nI (mi 7)), .ref (mr 8), .ref (mr 9), .ref (mr 10), .long (lN (mi 11)), .long (lN (mi 12)), .ref (mr 13), .ref (mr 14), .ref (mr 15), .ref (mr 16), .ref (mr 17), .ref (mr 18), .int (nI (mi 19)), .ref (mr 20), .ref (mr 21), .ref (mr 22), .ref (mr 23), .long (lN (mi 24)), .long (lN (mi 25)), .int (nI (mi 26)), .int (nI (mi 27)), .ref (mr 28), .int (nI (mi 29)), .int (nI (mi 30)), .int (nI (mi 31)), .int (nI (mi 32))])), (mr 0, .inl (Z 0, 18, .inl (aI (va_up p 12 (dw (p 12))))))]) 0 0 := by
  refine q_open (y := yX8_draws) (ws := wsX8_draws) (av := [.ref M]) (win := [(M, .inr (8, [.ref (mr 0), .ref (mr 1), .int (nI (mi 2)), .ref (mr 3), .ref (mr 4), .int ima, .ref (mr 6), .int (nI (mi 7)), .ref (mr 8), .ref (mr 9), .ref (mr 10), .long (lN (mi 11)), .long (lN (mi 12)), .ref (mr 13), .ref (mr 14), .ref (mr 15), .ref (mr 16), .ref (mr 17), .ref (mr 18), .int (nI (mi 19)), .ref (mr 20), .ref (mr 21), .ref (mr 22), .ref (mr 23), .long (lN (mi 24)), .long (lN (mi 25)), .int (nI (mi 26)), .int (nI (mi 27)), .ref (mr 28), .int (nI (mi 29)), .int (nI (mi 30)), .int (nI (mi 31)), .int (nI (mi 32))])), (mr 0, .inl (Z 0, 18, .inl (aI p)))]) (Qc := fun zs0 => cQi D Z zs0 [(M, .inr (8, [.ref (mr 0), .ref (mr 1), .int (nI (mi 2)), .ref (mr 3), .ref (mr 4), .int ima, .ref (mr 6), .int (nI (mi 7)), .ref (mr 8), .ref (mr 9), .ref (mr 10), .long (lN (mi 11)), .long (lN (mi 12)), .ref (mr 13), .ref (mr 14), .ref (mr 15), .ref (mr 16), .ref (mr 17), .ref (mr 18), .int (nI (mi 19)), .ref (mr 20), .ref (mr 21), .ref (mr 22), .ref (mr 23), .long (lN (mi 24)), .long (lN (mi 25)), .int (nI (mi 26)), .int (nI (mi 27)), .ref (mr 28), .int (nI (mi 29)), .int (nI (mi 30)), .int (nI (mi 31)), .int (nI (mi 32))])), (mr 0, .inl (Z 0, 18, .inl (aI p)))] (S := Unit) (fun (r : Int32) => fun (_ : Unit) => r = nI (dw (p 12) / 65536)) (fun (_ : Unit) => [(M, .inr (8, [.ref (mr 0), .ref (mr 1), .int (nI (mi 2)), .ref (mr 3), .ref (mr 4), .int ima, .ref (mr 6), .int (nI (mi 7)), .ref (mr 8), .ref (mr 9), .ref (mr 10), .long (lN (mi 11)), .long (lN (mi 12)), .ref (mr 13), .ref (mr 14), .ref (mr 15), .ref (mr 16), .ref (mr 17), .ref (mr 18), .int (nI (mi 19)), .ref (mr 20), .ref (mr 21), .ref (mr 22), .ref (mr 23), .long (lN (mi 24)), .long (lN (mi 25)), .int (nI (mi 26)), .int (nI (mi 27)), .ref (mr 28), .int (nI (mi 29)), .int (nI (mi 30)), .int (nI (mi 31)), .int (nI (mi 32))])), (mr 0, .inl (Z 0, 18, .inl (aI (va_up p 12 (dw (p 12))))))])) (cc := cX8_draws) (maxL := 3) (ret := (some .int)) (by decide) rfl (Nat.le_of_ble_eq_true rfl) ?_
  intro pp ee s mm bw mt cd ls A H locs hAe hx hb hr hml hown hmn hts hlocks hA hK hw hl
  have hown : s.vm.findClass RX8 = some mm.cls := hown
  have hl : lv_has ls 3 [(0, .ref M)] := hl
  have wd1 := hts (.fieldLink RX8 7 "ReplaceAgesModel" "st" "[I") (List.mem_of_getElem? (i := 1) rfl)
  have wd2 := hts (.constantLong RX8 188 (1103515245)) (List.mem_of_getElem? (i := 2) rfl)
  have wd3 := hts (.constantLong RX8 190 (12345)) (List.mem_of_getElem? (i := 3) rfl)
  have wd4 := hts (.constantLong RX8 192 (2147483648)) (List.mem_of_getElem? (i := 4) rfl)
  have wd5 := hts (.constant RX8 194 (65536)) (List.mem_of_getElem? (i := 5) rfl)
  have in_X8 : ∀ w ∈ wsX80, w ∈ wsX8_draws := fun _ h => List.mem_cons_of_mem _ (List.mem_append_right _ h)
  have hdw := dw_lt31 (p 12)
  refine lv_aload_n hx hb dX8_draws_0 rfl (lv_at hl 0 rfl) ?_
  refine q_get (v := .ref (mr 0)) (ci := 8) hx hb hts in_X8 hown hK hw 0 0 wd1 dX8_draws_1 rfl rfl (by decide) rfl ?_
  refine q_bipush (v := 12) hx hb dX8_draws_4 (by decide) ?_
  refine q_iald hx hb hK hw 1 (by omega) (by omega) dX8_draws_6 rfl ?_
  refine q_i2l hx hb (by omega) dX8_draws_7 ?_
  refine lv_ldc2 hx hb hown wd2 dX8_draws_8 ?_
  refine q_topl (x := 1103515245) (y := lN 1103515245) (by decide) ?_
  refine q_lmul hx hb dX8_draws_11 ?_
  refine lv_ldc2 hx hb hown wd3 dX8_draws_12 ?_
  refine q_topl (x := 12345) (y := lN 12345) (by decide) ?_
  refine q_ladd hx hb dX8_draws_15 ?_
  refine lv_lstore_n (lv' := [(1, .long (lN ((p 12) * 1103515245 + 12345))), (0, .ref M)]) hx hb dX8_draws_16 rfl hl (by decide) rfl (fun ls hl => ?_)
  refine lv_aload_n hx hb dX8_draws_17 rfl (lv_at hl 1 rfl) ?_
  refine q_get (v := .ref (mr 0)) (ci := 8) hx hb hts in_X8 hown hK hw 0 0 wd1 dX8_draws_18 rfl rfl (by decide) rfl ?_
  refine q_bipush (v := 12) hx hb dX8_draws_21 (by decide) ?_
  refine lv_lload_n hx hb dX8_draws_23 rfl (lv_at hl 0 rfl) ?_
  refine lv_ldc2 hx hb hown wd4 dX8_draws_24 ?_
  refine q_topl (x := 2147483648) (y := lN 2147483648) (by decide) ?_
  refine q_lrem hx hb (by omega) (by omega) (by omega) dX8_draws_27 ?_
  refine q_l2i hx hb dX8_draws_28 ?_
  refine q_topi (x := nI (((p 12) * 1103515245 + 12345) % 2147483648)) (y := nI (dw (p 12))) (congrArg nI ((dw_eq _).symm)) ?_
  refine q_iast hx hb hK hw 1 (by omega) (by omega) dX8_draws_29 rfl (fun H locs hw => ?_)
  have hw : WS D A s [(M, .inr (8, [.ref (mr 0), .ref (mr 1), .int (nI (mi 2)), .ref (mr 3), .ref (mr 4), .int ima, .ref (mr 6), .int (nI (mi 7)), .ref (mr 8), .ref (mr 9), .ref (mr 10), .long (lN (mi 11)), .long (lN (mi 12)), .ref (mr 13), .ref (mr 14), .ref (mr 15), .ref (mr 16), .ref (mr 17), .ref (mr 18), .int (nI (mi 19)), .ref (mr 20), .ref (mr 21), .ref (mr 22), .ref (mr 23), .long (lN (mi 24)), .long (lN (mi 25)), .int (nI (mi 26)), .int (nI (mi 27)), .ref (mr 28), .int (nI (mi 29)), .int (nI (mi 30)), .int (nI (mi 31)), .int (nI (mi 32))])), (mr 0, .inl (Z 0, 18, .inl (aI (va_up p 12 (dw (p 12))))))] H locs := hw
  refine lv_aload_n hx hb dX8_draws_30 rfl (lv_at hl 1 rfl) ?_
  refine q_get (v := .ref (mr 0)) (ci := 8) hx hb hts in_X8 hown hK hw 0 0 wd1 dX8_draws_31 rfl rfl (by decide) rfl ?_
  refine q_bipush (v := 12) hx hb dX8_draws_34 (by decide) ?_
  refine q_iald hx hb hK hw 1 (by omega) (by omega) dX8_draws_36 rfl ?_
  refine q_topi (x := nI ((va_up p 12 (dw (p 12))) 12)) (y := nI (dw (p 12))) rfl ?_
  refine lv_ldc hx hb hown wd5 dX8_draws_37 ?_
  refine q_topi (x := 65536) (y := nI 65536) (by decide) ?_
  refine q_idiv hx hb (by omega) (by omega) (by omega) dX8_draws_39 ?_
  exact q_iret (wout := _) hx hb hr hlocks hAe hK () hw (rfl) dX8_draws_40
set_option maxHeartbeats 4000000 in
set_option maxRecDepth 100000 in
theorem c_X8_runsOnce (l : Launch) (D : va_G) (Z : Nat → ClassId) (zs0 : Nat) (M : Nat) (mr mi : Nat → Nat) (ima : Int32) (p : Nat → Nat) (hd : p 12 < 2 ^ 31) (hn : 1 ≤ p 0 ∧ p 0 ≤ 8) (hs : lf p (p 0) 0 ≤ 24) (hg : p 13 < p 0) (hl0 : 0 < lf p (p 0) (p 13)) (hru : p 11 ≤ 8) : cMi l yX8_runsOnce wsX8_runsOnce (rmd 2) D Z zs0 [.ref M] [(M, .inr (8, [.ref (mr 0), .ref (mr 1), .int (nI (mi 2)), .ref (mr 3), .ref (mr 4), .int ima, .ref (mr 6), .int (nI (mi 7)), .ref (mr 8), .ref (mr 9), .ref (mr 10), .long (lN (mi 11)), .long (lN (mi 12)), .ref (mr 13), .ref (mr 14), .ref (mr 15), .ref (mr 16), .ref (mr 17), .ref (mr 18), .int (nI (mi 19)), .ref (mr 20), .ref (mr 21), .ref (mr 22), .ref (mr 23), .long (lN (mi 24)), .long (lN (mi 25)), .int (nI (mi 26)), .int (nI (mi 27)), .ref (mr 28), .int (nI (mi 29)), .int (nI (mi 30)), .int (nI (mi 31)), .int (nI (mi 32))])), (mr 0, .inl (Z 0, 18, .inl (aI p)))] (S := Unit) (fun (r : Int32) => fun (_ : Unit) => r = nI (bb (dw (p 12) / 65536 % lf p (p 0) (p 13) < p (p 13 + 1)))) (fun (_ : Unit) => [(M, .inr (8, [.ref (mr 0), .ref (mr 1), .int (nI (mi 2)), .ref (mr 3), .ref (mr 4), .int ima, .ref (mr 6), .int (nI (mi 7)), .ref (mr 8), .ref (mr 9), .ref (mr 10), .long (lN (mi 11)), .long (lN (mi 12)), .ref (mr 13), .ref (mr 14), .ref (mr 15), .ref (mr 16), .ref (mr 17), .ref (mr 18), .int (nI (mi 19)), .ref (mr 20), .ref (mr 21), .ref (mr 22), .ref (mr 23), .long (lN (mi 24)), .long (lN (mi 25)), .int (nI (mi 26)), .int (nI (mi 27)), .ref (mr 28), .int (nI (mi 29)), .int (nI (mi 30)), .int (nI (mi 31)), .int (nI (mi 32))])), (mr 0, .inl (Z 0, 18, .inl (aI (rp p p))))]) 0 0 := by
  refine q_open (y := yX8_runsOnce) (ws := wsX8_runsOnce) (av := [.ref M]) (win := [(M, .inr (8, [.ref (mr 0), .ref (mr 1), .int (nI (mi 2)), .ref (mr 3), .ref (mr 4), .int ima, .ref (mr 6), .int (nI (mi 7)), .ref (mr 8), .ref (mr 9), .ref (mr 10), .long (lN (mi 11)), .long (lN (mi 12)), .ref (mr 13), .ref (mr 14), .ref (mr 15), .ref (mr 16), .ref (mr 17), .ref (mr 18), .int (nI (mi 19)), .ref (mr 20), .ref (mr 21), .ref (mr 22), .ref (mr 23), .long (lN (mi 24)), .long (lN (mi 25)), .int (nI (mi 26)), .int (nI (mi 27)), .ref (mr 28), .int (nI (mi 29)), .int (nI (mi 30)), .int (nI (mi 31)), .int (nI (mi 32))])), (mr 0, .inl (Z 0, 18, .inl (aI p)))]) (Qc := fun zs0 => cQi D Z zs0 [(M, .inr (8, [.ref (mr 0), .ref (mr 1), .int (nI (mi 2)), .ref (mr 3), .ref (mr 4), .int ima, .ref (mr 6), .int (nI (mi 7)), .ref (mr 8), .ref (mr 9), .ref (mr 10), .long (lN (mi 11)), .long (lN (mi 12)), .ref (mr 13), .ref (mr 14), .ref (mr 15), .ref (mr 16), .ref (mr 17), .ref (mr 18), .int (nI (mi 19)), .ref (mr 20), .ref (mr 21), .ref (mr 22), .ref (mr 23), .long (lN (mi 24)), .long (lN (mi 25)), .int (nI (mi 26)), .int (nI (mi 27)), .ref (mr 28), .int (nI (mi 29)), .int (nI (mi 30)), .int (nI (mi 31)), .int (nI (mi 32))])), (mr 0, .inl (Z 0, 18, .inl (aI p)))] (S := Unit) (fun (r : Int32) => fun (_ : Unit) => r = nI (bb (dw (p 12) / 65536 % lf p (p 0) (p 13) < p (p 13 + 1)))) (fun (_ : Unit) => [(M, .inr (8, [.ref (mr 0), .ref (mr 1), .int (nI (mi 2)), .ref (mr 3), .ref (mr 4), .int ima, .ref (mr 6), .int (nI (mi 7)), .ref (mr 8), .ref (mr 9), .ref (mr 10), .long (lN (mi 11)), .long (lN (mi 12)), .ref (mr 13), .ref (mr 14), .ref (mr 15), .ref (mr 16), .ref (mr 17), .ref (mr 18), .int (nI (mi 19)), .ref (mr 20), .ref (mr 21), .ref (mr 22), .ref (mr 23), .long (lN (mi 24)), .long (lN (mi 25)), .int (nI (mi 26)), .int (nI (mi 27)), .ref (mr 28), .int (nI (mi 29)), .int (nI (mi 30)), .int (nI (mi 31)), .int (nI (mi 32))])), (mr 0, .inl (Z 0, 18, .inl (aI (rp p p))))])) (cc := cX8_runsOnce) (maxL := 3) (ret := (some .int)) (by decide) rfl (Nat.le_of_ble_eq_true rfl) ?_
  intro pp ee s mm bw mt cd ls A H locs hAe hx hb hr hml hown hmn hts hlocks hA hK hw hl
  have hown : s.vm.findClass RX8 = some mm.cls := hown
  have hl : lv_has ls 3 [(0, .ref M)] := hl
  have wd1 := hts (.fieldLink RX8 7 "ReplaceAgesModel" "st" "[I") (List.mem_of_getElem? (i := 1) rfl)
  have in_X8 : ∀ w ∈ wsX80, w ∈ wsX8_runsOnce := fun _ h => List.mem_cons_of_mem _ (List.mem_append_right _ h)
  have hle := lf_anti (w := p) (n := p 0) (Nat.zero_le (p 13))
  have hdx := dw_x (p 12)
  have hzk := z_le (z := p) (n := p 0) (k := p 13 + 1) (by omega)
  refine lv_aload_n hx hb dX8_runsOnce_0 rfl (lv_at hl 0 rfl) ?_
  refine q_calli (S := Unit) (Z := Z) (D := D) (wc := [(M, .inr (8, [.ref (mr 0), .ref (mr 1), .int (nI (mi 2)), .ref (mr 3), .ref (mr 4), .int ima, .ref (mr 6), .int (nI (mi 7)), .ref (mr 8), .ref (mr 9), .ref (mr 10), .long (lN (mi 11)), .long (lN (mi 12)), .ref (mr 13), .ref (mr 14), .ref (mr 15), .ref (mr 16), .ref (mr 17), .ref (mr 18), .int (nI (mi 19)), .ref (mr 20), .ref (mr 21), .ref (mr 22), .ref (mr 23), .long (lN (mi 24)), .long (lN (mi 25)), .int (nI (mi 26)), .int (nI (mi 27)), .ref (mr 28), .int (nI (mi 29)), .int (nI (mi 30)), .int (nI (mi 31)), .int (nI (mi 32))])), (mr 0, .inl (Z 0, 18, .inl (aI p)))]) (wr := []) (rest := []) hw hA [0, 1] [] rfl rfl rfl rfl (by decide) (fun hPc hDc => va_runV (As := []) (rest := []) ⟨hx, hb, hml, hown, hts⟩ (c_X8_draws l D Z H.size M mr mi ima p (by first | assumption | omega)) (cwV 0 hts gX8_runsOnce_X8_draws rfl rfl rfl (by decide +kernel) ⟨Nat.le_of_ble_eq_true rfl, Nat.le_of_ble_eq_true rfl⟩) ⟨fb_cPre, va_recv hK.1 hPc (ci := 8) (q0 := 0) rfl rfl, pre_of hPc hK hDc⟩ rfl rfl hl.1 rfl (lv_room (Nat.le_of_ble_eq_true rfl)) dX8_runsOnce_1 ⟨Nat.le_of_ble_eq_true rfl, Nat.le_of_ble_eq_true rfl⟩) (fun r1 uu H locs hr1 hw => ?_)
  subst hr1
  have hw : WS D A s [(M, .inr (8, [.ref (mr 0), .ref (mr 1), .int (nI (mi 2)), .ref (mr 3), .ref (mr 4), .int ima, .ref (mr 6), .int (nI (mi 7)), .ref (mr 8), .ref (mr 9), .ref (mr 10), .long (lN (mi 11)), .long (lN (mi 12)), .ref (mr 13), .ref (mr 14), .ref (mr 15), .ref (mr 16), .ref (mr 17), .ref (mr 18), .int (nI (mi 19)), .ref (mr 20), .ref (mr 21), .ref (mr 22), .ref (mr 23), .long (lN (mi 24)), .long (lN (mi 25)), .int (nI (mi 26)), .int (nI (mi 27)), .ref (mr 28), .int (nI (mi 29)), .int (nI (mi 30)), .int (nI (mi 31)), .int (nI (mi 32))])), (mr 0, .inl (Z 0, 18, .inl (aI (va_up p 12 (dw (p 12))))))] H locs := hw
  refine lv_istore_n (lv' := [(1, .int (nI (dw (p 12) / 65536))), (0, .ref M)]) hx hb dX8_runsOnce_4 rfl hl (by decide) rfl (fun ls hl => ?_)
  refine lv_aload_n hx hb dX8_runsOnce_5 rfl (lv_at hl 1 rfl) ?_
  refine q_get (v := .ref (mr 0)) (ci := 8) hx hb hts in_X8 hown hK hw 0 0 wd1 dX8_runsOnce_6 rfl rfl (by decide) rfl ?_
  refine q_bipush (v := 13) hx hb dX8_runsOnce_9 (by decide) ?_
  refine q_iald hx hb hK hw 1 (by omega) (by omega) dX8_runsOnce_11 rfl ?_
  refine q_topi (x := nI ((va_up p 12 (dw (p 12))) 13)) (y := nI (p 13)) rfl ?_
  refine lv_istore_n (lv' := [(2, .int (nI (p 13))), (1, .int (nI (dw (p 12) / 65536))), (0, .ref M)]) hx hb dX8_runsOnce_12 rfl hl (by decide) rfl (fun ls hl => ?_)
  refine lv_aload_n hx hb dX8_runsOnce_13 rfl (lv_at hl 2 rfl) ?_
  refine q_get (v := .ref (mr 0)) (ci := 8) hx hb hts in_X8 hown hK hw 0 0 wd1 dX8_runsOnce_14 rfl rfl (by decide) rfl ?_
  refine q_bipush (v := 16) hx hb dX8_runsOnce_17 (by decide) ?_
  refine lv_dup2_11 hx hb dX8_runsOnce_19 rfl rfl ?_
  refine q_iald hx hb hK hw 1 (by omega) (by omega) dX8_runsOnce_20 rfl ?_
  refine q_topi (x := nI ((va_up p 12 (dw (p 12))) 16)) (y := nI (p 16)) rfl ?_
  refine q_iconst (v := 1) hx hb dX8_runsOnce_21 (by decide) ?_
  refine q_iadd hx hb dX8_runsOnce_22 ?_
  refine q_iast hx hb hK hw 1 (by omega) (by omega) dX8_runsOnce_23 rfl (fun H locs hw => ?_)
  have hw : WS D A s [(M, .inr (8, [.ref (mr 0), .ref (mr 1), .int (nI (mi 2)), .ref (mr 3), .ref (mr 4), .int ima, .ref (mr 6), .int (nI (mi 7)), .ref (mr 8), .ref (mr 9), .ref (mr 10), .long (lN (mi 11)), .long (lN (mi 12)), .ref (mr 13), .ref (mr 14), .ref (mr 15), .ref (mr 16), .ref (mr 17), .ref (mr 18), .int (nI (mi 19)), .ref (mr 20), .ref (mr 21), .ref (mr 22), .ref (mr 23), .long (lN (mi 24)), .long (lN (mi 25)), .int (nI (mi 26)), .int (nI (mi 27)), .ref (mr 28), .int (nI (mi 29)), .int (nI (mi 30)), .int (nI (mi 31)), .int (nI (mi 32))])), (mr 0, .inl (Z 0, 18, .inl (aI (va_up (va_up p 12 (dw (p 12))) 16 (p 16 + 1)))))] H locs := hw
  refine lv_iload_n hx hb dX8_runsOnce_24 rfl (lv_at hl 1 rfl) ?_
  refine lv_aload_n hx hb dX8_runsOnce_25 rfl (lv_at hl 2 rfl) ?_
  refine lv_iload_n hx hb dX8_runsOnce_26 rfl (lv_at hl 0 rfl) ?_
  refine q_calli (S := Unit) (Z := Z) (D := D) (wc := [(M, .inr (8, [.ref (mr 0), .ref (mr 1), .int (nI (mi 2)), .ref (mr 3), .ref (mr 4), .int ima, .ref (mr 6), .int (nI (mi 7)), .ref (mr 8), .ref (mr 9), .ref (mr 10), .long (lN (mi 11)), .long (lN (mi 12)), .ref (mr 13), .ref (mr 14), .ref (mr 15), .ref (mr 16), .ref (mr 17), .ref (mr 18), .int (nI (mi 19)), .ref (mr 20), .ref (mr 21), .ref (mr 22), .ref (mr 23), .long (lN (mi 24)), .long (lN (mi 25)), .int (nI (mi 26)), .int (nI (mi 27)), .ref (mr 28), .int (nI (mi 29)), .int (nI (mi 30)), .int (nI (mi 31)), .int (nI (mi 32))])), (mr 0, .inl (Z 0, 18, .inl (aI (va_up (va_up p 12 (dw (p 12))) 16 (p 16 + 1)))))]) (wr := []) (rest := [.int (nI (dw (p 12) / 65536))]) hw hA [0, 1] [] rfl rfl rfl rfl (by decide) (fun hPc hDc => va_runV (As := [.int (nI (p 13))]) (rest := [.int (nI (dw (p 12) / 65536))]) ⟨hx, hb, hml, hown, hts⟩ (c_X8_leftOf l D Z H.size M mr mi ima (va_up (va_up p 12 (dw (p 12))) 16 (p 16 + 1)) (p 13) hn.2 (by first | assumption | omega)) (cwV 1 hts gX8_runsOnce_X8_leftOf rfl rfl rfl (by decide +kernel) ⟨Nat.le_of_ble_eq_true rfl, Nat.le_of_ble_eq_true rfl⟩) ⟨fb_cPre, va_recv hK.1 hPc (ci := 8) (q0 := 0) rfl rfl, pre_of hPc hK hDc⟩ rfl rfl hl.1 rfl (lv_room (Nat.le_of_ble_eq_true rfl)) dX8_runsOnce_27 ⟨Nat.le_of_ble_eq_true rfl, Nat.le_of_ble_eq_true rfl⟩) (fun r2 uu H locs hr2 hw => ?_)
  subst hr2
  have hw : WS D A s [(M, .inr (8, [.ref (mr 0), .ref (mr 1), .int (nI (mi 2)), .ref (mr 3), .ref (mr 4), .int ima, .ref (mr 6), .int (nI (mi 7)), .ref (mr 8), .ref (mr 9), .ref (mr 10), .long (lN (mi 11)), .long (lN (mi 12)), .ref (mr 13), .ref (mr 14), .ref (mr 15), .ref (mr 16), .ref (mr 17), .ref (mr 18), .int (nI (mi 19)), .ref (mr 20), .ref (mr 21), .ref (mr 22), .ref (mr 23), .long (lN (mi 24)), .long (lN (mi 25)), .int (nI (mi 26)), .int (nI (mi 27)), .ref (mr 28), .int (nI (mi 29)), .int (nI (mi 30)), .int (nI (mi 31)), .int (nI (mi 32))])), (mr 0, .inl (Z 0, 18, .inl (aI (va_up (va_up p 12 (dw (p 12))) 16 (p 16 + 1)))))] H locs := hw
  refine q_topi (x := nI (lf (va_up (va_up p 12 (dw (p 12))) 16 (p 16 + 1)) (p 0) (p 13))) (y := nI (lf p (p 0) (p 13))) (congrArg nI (lf_ext (fun k h1 h2 => by rw [va_up_other _ _ (by omega), va_up_other _ _ (by omega)]))) ?_
  have hml : dw (p 12) / 65536 % lf p (p 0) (p 13) < lf p (p 0) (p 13) := Nat.mod_lt _ hl0
  refine q_irem hx hb (by omega) (by omega) (by omega) dX8_runsOnce_30 ?_
  refine lv_aload_n hx hb dX8_runsOnce_31 rfl (lv_at hl 2 rfl) ?_
  refine q_get (v := .ref (mr 0)) (ci := 8) hx hb hts in_X8 hown hK hw 0 0 wd1 dX8_runsOnce_32 rfl rfl (by decide) rfl ?_
  refine lv_iload_n hx hb dX8_runsOnce_35 rfl (lv_at hl 0 rfl) ?_
  refine q_iconst (v := 1) hx hb dX8_runsOnce_36 (by decide) ?_
  refine q_iadd hx hb dX8_runsOnce_37 ?_
  refine q_iald hx hb hK hw 1 (by omega) (by omega) dX8_runsOnce_38 rfl ?_
  refine q_topi (x := nI (va_up (va_up p 12 (dw (p 12))) 16 (p 16 + 1) (p 13 + 1))) (y := nI (p (p 13 + 1))) (congrArg nI (by rw [va_up_other _ _ (by omega), va_up_other _ _ (by omega)])) ?_
  refine q_icmp_ge (tgt := 80) hx hb (((dw (p 12) / 65536) % (lf p (p 0) (p 13)) : Nat) : Int) ((p (p 13 + 1) : Nat) : Int) (nI_toInt (by omega)) (nI_toInt (by omega)) dX8_runsOnce_39 (by decide) (fun c3 => ?_) (fun c3 => ?_)
  · --
    refine lv_aload_n hx hb dX8_runsOnce_80 rfl (lv_at hl 2 rfl) ?_
    refine q_get (v := .ref (mr 0)) (ci := 8) hx hb hts in_X8 hown hK hw 0 0 wd1 dX8_runsOnce_81 rfl rfl (by decide) rfl ?_
    refine q_bipush (v := 13) hx hb dX8_runsOnce_84 (by decide) ?_
    refine lv_iload_n hx hb dX8_runsOnce_86 rfl (lv_at hl 0 rfl) ?_
    refine q_iconst (v := 1) hx hb dX8_runsOnce_87 (by decide) ?_
    refine q_iadd hx hb dX8_runsOnce_88 ?_
    refine q_iast hx hb hK hw 1 (by omega) (by omega) dX8_runsOnce_89 rfl (fun H locs hw => ?_)
    have hw : WS D A s [(M, .inr (8, [.ref (mr 0), .ref (mr 1), .int (nI (mi 2)), .ref (mr 3), .ref (mr 4), .int ima, .ref (mr 6), .int (nI (mi 7)), .ref (mr 8), .ref (mr 9), .ref (mr 10), .long (lN (mi 11)), .long (lN (mi 12)), .ref (mr 13), .ref (mr 14), .ref (mr 15), .ref (mr 16), .ref (mr 17), .ref (mr 18), .int (nI (mi 19)), .ref (mr 20), .ref (mr 21), .ref (mr 22), .ref (mr 23), .long (lN (mi 24)), .long (lN (mi 25)), .int (nI (mi 26)), .int (nI (mi 27)), .ref (mr 28), .int (nI (mi 29)), .int (nI (mi 30)), .int (nI (mi 31)), .int (nI (mi 32))])), (mr 0, .inl (Z 0, 18, .inl (aI (va_up (va_up (va_up p 12 (dw (p 12))) 16 (p 16 + 1)) 13 (p 13 + 1)))))] H locs := hw
    refine lv_iload_n hx hb dX8_runsOnce_90 rfl (lv_at hl 0 rfl) ?_
    refine q_iconst (v := 1) hx hb dX8_runsOnce_91 (by decide) ?_
    refine q_iadd hx hb dX8_runsOnce_92 ?_
    refine lv_aload_n hx hb dX8_runsOnce_93 rfl (lv_at hl 2 rfl) ?_
    refine q_get (v := .ref (mr 0)) (ci := 8) hx hb hts in_X8 hown hK hw 0 0 wd1 dX8_runsOnce_94 rfl rfl (by decide) rfl ?_
    refine q_bipush (v := 11) hx hb dX8_runsOnce_97 (by decide) ?_
    refine q_iald hx hb hK hw 1 (by omega) (by omega) dX8_runsOnce_99 rfl ?_
    refine q_topi (x := nI ((va_up (va_up (va_up p 12 (dw (p 12))) 16 (p 16 + 1)) 13 (p 13 + 1)) 11)) (y := nI (p 11)) rfl ?_
    refine q_icmp_lt (tgt := 139) hx hb ((p 13 + 1 : Nat) : Int) ((p 11 : Nat) : Int) (nI_toInt (by omega)) (nI_toInt (by omega)) dX8_runsOnce_100 (by decide) (fun c4 => ?_) (fun c4 => ?_)
    · --
      refine q_iconst (v := 0) hx hb dX8_runsOnce_139 (by decide) ?_
      have hw : WS D A s [(M, .inr (8, [.ref (mr 0), .ref (mr 1), .int (nI (mi 2)), .ref (mr 3), .ref (mr 4), .int ima, .ref (mr 6), .int (nI (mi 7)), .ref (mr 8), .ref (mr 9), .ref (mr 10), .long (lN (mi 11)), .long (lN (mi 12)), .ref (mr 13), .ref (mr 14), .ref (mr 15), .ref (mr 16), .ref (mr 17), .ref (mr 18), .int (nI (mi 19)), .ref (mr 20), .ref (mr 21), .ref (mr 22), .ref (mr 23), .long (lN (mi 24)), .long (lN (mi 25)), .int (nI (mi 26)), .int (nI (mi 27)), .ref (mr 28), .int (nI (mi 29)), .int (nI (mi 30)), .int (nI (mi 31)), .int (nI (mi 32))])), (mr 0, .inl (Z 0, 18, .inl (aI (rp p p))))] H locs := by rw [show (rp p p) = (va_up (va_up (va_up p 12 (dw (p 12))) 16 (p 16 + 1)) 13 (p 13 + 1)) from by first | (rw [rp_c p p (by omega) (by omega)]; exact rpm_c p _ _ _ _ _) | (rw [rp_o p p (by omega) (by omega)])]; exact hw
      exact q_iret (wout := _) hx hb hr hlocks hAe hK () hw (congrArg nI (bb_f (by omega)).symm) dX8_runsOnce_140
    · --
      refine lv_aload_n hx hb dX8_runsOnce_103 rfl (lv_at hl 2 rfl) ?_
      refine q_get (v := .ref (mr 0)) (ci := 8) hx hb hts in_X8 hown hK hw 0 0 wd1 dX8_runsOnce_104 rfl rfl (by decide) rfl ?_
      refine q_bipush (v := 17) hx hb dX8_runsOnce_107 (by decide) ?_
      refine lv_dup2_11 hx hb dX8_runsOnce_109 rfl rfl ?_
      refine q_iald hx hb hK hw 1 (by omega) (by omega) dX8_runsOnce_110 rfl ?_
      refine q_topi (x := nI ((va_up (va_up (va_up p 12 (dw (p 12))) 16 (p 16 + 1)) 13 (p 13 + 1)) 17)) (y := nI (p 17)) rfl ?_
      refine lv_aload_n hx hb dX8_runsOnce_111 rfl (lv_at hl 2 rfl) ?_
      refine q_get (v := .ref (mr 0)) (ci := 8) hx hb hts in_X8 hown hK hw 0 0 wd1 dX8_runsOnce_112 rfl rfl (by decide) rfl ?_
      refine q_bipush (v := 10) hx hb dX8_runsOnce_115 (by decide) ?_
      refine q_iald hx hb hK hw 1 (by omega) (by omega) dX8_runsOnce_117 rfl ?_
      refine q_topi (x := nI ((va_up (va_up (va_up p 12 (dw (p 12))) 16 (p 16 + 1)) 13 (p 13 + 1)) 10)) (y := nI (p 10)) rfl ?_
      refine q_iadd hx hb dX8_runsOnce_118 ?_
      refine q_iast hx hb hK hw 1 (by omega) (by omega) dX8_runsOnce_119 rfl (fun H locs hw => ?_)
      have hw : WS D A s [(M, .inr (8, [.ref (mr 0), .ref (mr 1), .int (nI (mi 2)), .ref (mr 3), .ref (mr 4), .int ima, .ref (mr 6), .int (nI (mi 7)), .ref (mr 8), .ref (mr 9), .ref (mr 10), .long (lN (mi 11)), .long (lN (mi 12)), .ref (mr 13), .ref (mr 14), .ref (mr 15), .ref (mr 16), .ref (mr 17), .ref (mr 18), .int (nI (mi 19)), .ref (mr 20), .ref (mr 21), .ref (mr 22), .ref (mr 23), .long (lN (mi 24)), .long (lN (mi 25)), .int (nI (mi 26)), .int (nI (mi 27)), .ref (mr 28), .int (nI (mi 29)), .int (nI (mi 30)), .int (nI (mi 31)), .int (nI (mi 32))])), (mr 0, .inl (Z 0, 18, .inl (aI (va_up (va_up (va_up (va_up p 12 (dw (p 12))) 16 (p 16 + 1)) 13 (p 13 + 1)) 17 (p 17 + (p 10))))))] H locs := hw
      refine lv_aload_n hx hb dX8_runsOnce_120 rfl (lv_at hl 2 rfl) ?_
      refine q_get (v := .ref (mr 0)) (ci := 8) hx hb hts in_X8 hown hK hw 0 0 wd1 dX8_runsOnce_121 rfl rfl (by decide) rfl ?_
      refine q_bipush (v := 15) hx hb dX8_runsOnce_124 (by decide) ?_
      refine lv_dup2_11 hx hb dX8_runsOnce_126 rfl rfl ?_
      refine q_iald hx hb hK hw 1 (by omega) (by omega) dX8_runsOnce_127 rfl ?_
      refine q_topi (x := nI ((va_up (va_up (va_up (va_up p 12 (dw (p 12))) 16 (p 16 + 1)) 13 (p 13 + 1)) 17 (p 17 + (p 10))) 15)) (y := nI (p 15)) rfl ?_
      refine q_iconst (v := 1) hx hb dX8_runsOnce_128 (by decide) ?_
      refine q_iadd hx hb dX8_runsOnce_129 ?_
      refine q_iast hx hb hK hw 1 (by omega) (by omega) dX8_runsOnce_130 rfl (fun H locs hw => ?_)
      have hw : WS D A s [(M, .inr (8, [.ref (mr 0), .ref (mr 1), .int (nI (mi 2)), .ref (mr 3), .ref (mr 4), .int ima, .ref (mr 6), .int (nI (mi 7)), .ref (mr 8), .ref (mr 9), .ref (mr 10), .long (lN (mi 11)), .long (lN (mi 12)), .ref (mr 13), .ref (mr 14), .ref (mr 15), .ref (mr 16), .ref (mr 17), .ref (mr 18), .int (nI (mi 19)), .ref (mr 20), .ref (mr 21), .ref (mr 22), .ref (mr 23), .long (lN (mi 24)), .long (lN (mi 25)), .int (nI (mi 26)), .int (nI (mi 27)), .ref (mr 28), .int (nI (mi 29)), .int (nI (mi 30)), .int (nI (mi 31)), .int (nI (mi 32))])), (mr 0, .inl (Z 0, 18, .inl (aI (va_up (va_up (va_up (va_up (va_up p 12 (dw (p 12))) 16 (p 16 + 1)) 13 (p 13 + 1)) 17 (p 17 + (p 10))) 15 (p 15 + 1)))))] H locs := hw
      refine lv_aload_n hx hb dX8_runsOnce_131 rfl (lv_at hl 2 rfl) ?_
      refine q_get (v := .ref (mr 0)) (ci := 8) hx hb hts in_X8 hown hK hw 0 0 wd1 dX8_runsOnce_132 rfl rfl (by decide) rfl ?_
      refine q_bipush (v := 13) hx hb dX8_runsOnce_135 (by decide) ?_
      refine q_iconst (v := 0) hx hb dX8_runsOnce_137 (by decide) ?_
      refine q_iast hx hb hK hw 1 (by omega) (by omega) dX8_runsOnce_138 rfl (fun H locs hw => ?_)
      have hw : WS D A s [(M, .inr (8, [.ref (mr 0), .ref (mr 1), .int (nI (mi 2)), .ref (mr 3), .ref (mr 4), .int ima, .ref (mr 6), .int (nI (mi 7)), .ref (mr 8), .ref (mr 9), .ref (mr 10), .long (lN (mi 11)), .long (lN (mi 12)), .ref (mr 13), .ref (mr 14), .ref (mr 15), .ref (mr 16), .ref (mr 17), .ref (mr 18), .int (nI (mi 19)), .ref (mr 20), .ref (mr 21), .ref (mr 22), .ref (mr 23), .long (lN (mi 24)), .long (lN (mi 25)), .int (nI (mi 26)), .int (nI (mi 27)), .ref (mr 28), .int (nI (mi 29)), .int (nI (mi 30)), .int (nI (mi 31)), .int (nI (mi 32))])), (mr 0, .inl (Z 0, 18, .inl (aI (va_up (va_up (va_up (va_up (va_up (va_up p 12 (dw (p 12))) 16 (p 16 + 1)) 13 (p 13 + 1)) 17 (p 17 + (p 10))) 15 (p 15 + 1)) 13 0))))] H locs := hw
      refine q_iconst (v := 0) hx hb dX8_runsOnce_139 (by decide) ?_
      have hw : WS D A s [(M, .inr (8, [.ref (mr 0), .ref (mr 1), .int (nI (mi 2)), .ref (mr 3), .ref (mr 4), .int ima, .ref (mr 6), .int (nI (mi 7)), .ref (mr 8), .ref (mr 9), .ref (mr 10), .long (lN (mi 11)), .long (lN (mi 12)), .ref (mr 13), .ref (mr 14), .ref (mr 15), .ref (mr 16), .ref (mr 17), .ref (mr 18), .int (nI (mi 19)), .ref (mr 20), .ref (mr 21), .ref (mr 22), .ref (mr 23), .long (lN (mi 24)), .long (lN (mi 25)), .int (nI (mi 26)), .int (nI (mi 27)), .ref (mr 28), .int (nI (mi 29)), .int (nI (mi 30)), .int (nI (mi 31)), .int (nI (mi 32))])), (mr 0, .inl (Z 0, 18, .inl (aI (rp p p))))] H locs := by rw [show (rp p p) = (va_up (va_up (va_up (va_up (va_up (va_up p 12 (dw (p 12))) 16 (p 16 + 1)) 13 (p 13 + 1)) 17 (p 17 + (p 10))) 15 (p 15 + 1)) 13 0) from by first | (rw [rp_c p p (by omega) (by omega)]; exact rpm_c p _ _ _ _ _) | (rw [rp_o p p (by omega) (by omega)])]; exact hw
      exact q_iret (wout := _) hx hb hr hlocks hAe hK () hw (congrArg nI (bb_f (by omega)).symm) dX8_runsOnce_140
  · --
    refine lv_aload_n hx hb dX8_runsOnce_42 rfl (lv_at hl 2 rfl) ?_
    refine q_get (v := .ref (mr 0)) (ci := 8) hx hb hts in_X8 hown hK hw 0 0 wd1 dX8_runsOnce_43 rfl rfl (by decide) rfl ?_
    refine q_bipush (v := 17) hx hb dX8_runsOnce_46 (by decide) ?_
    refine lv_dup2_11 hx hb dX8_runsOnce_48 rfl rfl ?_
    refine q_iald hx hb hK hw 1 (by omega) (by omega) dX8_runsOnce_49 rfl ?_
    refine q_topi (x := nI ((va_up (va_up p 12 (dw (p 12))) 16 (p 16 + 1)) 17)) (y := nI (p 17)) rfl ?_
    refine lv_aload_n hx hb dX8_runsOnce_50 rfl (lv_at hl 2 rfl) ?_
    refine q_get (v := .ref (mr 0)) (ci := 8) hx hb hts in_X8 hown hK hw 0 0 wd1 dX8_runsOnce_51 rfl rfl (by decide) rfl ?_
    refine q_bipush (v := 9) hx hb dX8_runsOnce_54 (by decide) ?_
    refine q_iald hx hb hK hw 1 (by omega) (by omega) dX8_runsOnce_56 rfl ?_
    refine q_topi (x := nI ((va_up (va_up p 12 (dw (p 12))) 16 (p 16 + 1)) 9)) (y := nI (p 9)) rfl ?_
    refine q_iadd hx hb dX8_runsOnce_57 ?_
    refine q_iast hx hb hK hw 1 (by omega) (by omega) dX8_runsOnce_58 rfl (fun H locs hw => ?_)
    have hw : WS D A s [(M, .inr (8, [.ref (mr 0), .ref (mr 1), .int (nI (mi 2)), .ref (mr 3), .ref (mr 4), .int ima, .ref (mr 6), .int (nI (mi 7)), .ref (mr 8), .ref (mr 9), .ref (mr 10), .long (lN (mi 11)), .long (lN (mi 12)), .ref (mr 13), .ref (mr 14), .ref (mr 15), .ref (mr 16), .ref (mr 17), .ref (mr 18), .int (nI (mi 19)), .ref (mr 20), .ref (mr 21), .ref (mr 22), .ref (mr 23), .long (lN (mi 24)), .long (lN (mi 25)), .int (nI (mi 26)), .int (nI (mi 27)), .ref (mr 28), .int (nI (mi 29)), .int (nI (mi 30)), .int (nI (mi 31)), .int (nI (mi 32))])), (mr 0, .inl (Z 0, 18, .inl (aI (va_up (va_up (va_up p 12 (dw (p 12))) 16 (p 16 + 1)) 17 (p 17 + (p 9))))))] H locs := hw
    refine lv_aload_n hx hb dX8_runsOnce_59 rfl (lv_at hl 2 rfl) ?_
    refine q_get (v := .ref (mr 0)) (ci := 8) hx hb hts in_X8 hown hK hw 0 0 wd1 dX8_runsOnce_60 rfl rfl (by decide) rfl ?_
    refine q_bipush (v := 14) hx hb dX8_runsOnce_63 (by decide) ?_
    refine lv_dup2_11 hx hb dX8_runsOnce_65 rfl rfl ?_
    refine q_iald hx hb hK hw 1 (by omega) (by omega) dX8_runsOnce_66 rfl ?_
    refine q_topi (x := nI ((va_up (va_up (va_up p 12 (dw (p 12))) 16 (p 16 + 1)) 17 (p 17 + (p 9))) 14)) (y := nI (p 14)) rfl ?_
    refine q_iconst (v := 1) hx hb dX8_runsOnce_67 (by decide) ?_
    refine q_iadd hx hb dX8_runsOnce_68 ?_
    refine q_iast hx hb hK hw 1 (by omega) (by omega) dX8_runsOnce_69 rfl (fun H locs hw => ?_)
    have hw : WS D A s [(M, .inr (8, [.ref (mr 0), .ref (mr 1), .int (nI (mi 2)), .ref (mr 3), .ref (mr 4), .int ima, .ref (mr 6), .int (nI (mi 7)), .ref (mr 8), .ref (mr 9), .ref (mr 10), .long (lN (mi 11)), .long (lN (mi 12)), .ref (mr 13), .ref (mr 14), .ref (mr 15), .ref (mr 16), .ref (mr 17), .ref (mr 18), .int (nI (mi 19)), .ref (mr 20), .ref (mr 21), .ref (mr 22), .ref (mr 23), .long (lN (mi 24)), .long (lN (mi 25)), .int (nI (mi 26)), .int (nI (mi 27)), .ref (mr 28), .int (nI (mi 29)), .int (nI (mi 30)), .int (nI (mi 31)), .int (nI (mi 32))])), (mr 0, .inl (Z 0, 18, .inl (aI (va_up (va_up (va_up (va_up p 12 (dw (p 12))) 16 (p 16 + 1)) 17 (p 17 + (p 9))) 14 (p 14 + 1)))))] H locs := hw
    refine lv_aload_n hx hb dX8_runsOnce_70 rfl (lv_at hl 2 rfl) ?_
    refine q_get (v := .ref (mr 0)) (ci := 8) hx hb hts in_X8 hown hK hw 0 0 wd1 dX8_runsOnce_71 rfl rfl (by decide) rfl ?_
    refine q_bipush (v := 13) hx hb dX8_runsOnce_74 (by decide) ?_
    refine q_iconst (v := 0) hx hb dX8_runsOnce_76 (by decide) ?_
    refine q_iast hx hb hK hw 1 (by omega) (by omega) dX8_runsOnce_77 rfl (fun H locs hw => ?_)
    have hw : WS D A s [(M, .inr (8, [.ref (mr 0), .ref (mr 1), .int (nI (mi 2)), .ref (mr 3), .ref (mr 4), .int ima, .ref (mr 6), .int (nI (mi 7)), .ref (mr 8), .ref (mr 9), .ref (mr 10), .long (lN (mi 11)), .long (lN (mi 12)), .ref (mr 13), .ref (mr 14), .ref (mr 15), .ref (mr 16), .ref (mr 17), .ref (mr 18), .int (nI (mi 19)), .ref (mr 20), .ref (mr 21), .ref (mr 22), .ref (mr 23), .long (lN (mi 24)), .long (lN (mi 25)), .int (nI (mi 26)), .int (nI (mi 27)), .ref (mr 28), .int (nI (mi 29)), .int (nI (mi 30)), .int (nI (mi 31)), .int (nI (mi 32))])), (mr 0, .inl (Z 0, 18, .inl (aI (va_up (va_up (va_up (va_up (va_up p 12 (dw (p 12))) 16 (p 16 + 1)) 17 (p 17 + (p 9))) 14 (p 14 + 1)) 13 0))))] H locs := hw
    refine q_iconst (v := 1) hx hb dX8_runsOnce_78 (by decide) ?_
    have hw : WS D A s [(M, .inr (8, [.ref (mr 0), .ref (mr 1), .int (nI (mi 2)), .ref (mr 3), .ref (mr 4), .int ima, .ref (mr 6), .int (nI (mi 7)), .ref (mr 8), .ref (mr 9), .ref (mr 10), .long (lN (mi 11)), .long (lN (mi 12)), .ref (mr 13), .ref (mr 14), .ref (mr 15), .ref (mr 16), .ref (mr 17), .ref (mr 18), .int (nI (mi 19)), .ref (mr 20), .ref (mr 21), .ref (mr 22), .ref (mr 23), .long (lN (mi 24)), .long (lN (mi 25)), .int (nI (mi 26)), .int (nI (mi 27)), .ref (mr 28), .int (nI (mi 29)), .int (nI (mi 30)), .int (nI (mi 31)), .int (nI (mi 32))])), (mr 0, .inl (Z 0, 18, .inl (aI (rp p p))))] H locs := by rw [show (rp p p) = (va_up (va_up (va_up (va_up (va_up p 12 (dw (p 12))) 16 (p 16 + 1)) 17 (p 17 + (p 9))) 14 (p 14 + 1)) 13 0) from by rw [rp_f p p (by omega)]; exact rpm_f p _ _ _ _]; exact hw
    exact q_iret (wout := _) hx hb hr hlocks hAe hK () hw (congrArg nI (bb_t (by omega)).symm) dX8_runsOnce_79
set_option maxHeartbeats 4000000 in
set_option maxRecDepth 100000 in
theorem c_X8_run (l : Launch) (D : va_G) (Z : Nat → ClassId) (zs0 : Nat) (M : Nat) (mr mi : Nat → Nat) (ima : Int32) (p g : Nat → Nat) (n : Int32) (hd : p 12 < 2 ^ 31) (hn : 1 ≤ p 0 ∧ p 0 ≤ 8) (hs : lf p (p 0) 0 ≤ 24) (hg : p 13 < p 0) (hzn : 0 < p (p 0)) (hru : p 11 ≤ 8) (hac : mi 2 ≤ 6) : cMi l yX8_run wsX8_run (rmd 3) D Z zs0 [.ref M, .int n] [(M, .inr (8, [.ref (mr 0), .ref (mr 1), .int (nI (mi 2)), .ref (mr 3), .ref (mr 4), .int ima, .ref (mr 6), .int (nI (mi 7)), .ref (mr 8), .ref (mr 9), .ref (mr 10), .long (lN (mi 11)), .long (lN (mi 12)), .ref (mr 13), .ref (mr 14), .ref (mr 15), .ref (mr 16), .ref (mr 17), .ref (mr 18), .int (nI (mi 19)), .ref (mr 20), .ref (mr 21), .ref (mr 22), .ref (mr 23), .long (lN (mi 24)), .long (lN (mi 25)), .int (nI (mi 26)), .int (nI (mi 27)), .ref (mr 28), .int (nI (mi 29)), .int (nI (mi 30)), .int (nI (mi 31)), .int (nI (mi 32))])), (mr 0, .inl (Z 0, 18, .inl (aI p))), (mr 1, .inl (Z 0, 108, .inl (aI g)))] (S := Nat × (Nat → Nat) × (Nat → Nat)) (fun (r : Int32) (u : Nat × (Nat → Nat) × (Nat → Nat)) => match u with | (ac', p', g') => (¬ (1 ≤ n.toInt ∧ n.toInt ≤ 100) ∧ r = (-1) ∧ ac' = mi 2 ∧ p' = p ∧ g' = g) ∨ ((1 ≤ n.toInt ∧ n.toInt ≤ 100) ∧ r = nI (rpN p p n.toInt.toNat 14 - p 14) ∧ ac' = min (mi 2 + 1) 6 ∧ g' = ntG g p (mi 2) ∧ p' = rpN p p n.toInt.toNat)) (fun (u : Nat × (Nat → Nat) × (Nat → Nat)) => match u with | (ac', p', g') => [(M, .inr (8, [.ref (mr 0), .ref (mr 1), .int (nI ac'), .ref (mr 3), .ref (mr 4), .int ima, .ref (mr 6), .int (nI (mi 7)), .ref (mr 8), .ref (mr 9), .ref (mr 10), .long (lN (mi 11)), .long (lN (mi 12)), .ref (mr 13), .ref (mr 14), .ref (mr 15), .ref (mr 16), .ref (mr 17), .ref (mr 18), .int (nI (mi 19)), .ref (mr 20), .ref (mr 21), .ref (mr 22), .ref (mr 23), .long (lN (mi 24)), .long (lN (mi 25)), .int (nI (mi 26)), .int (nI (mi 27)), .ref (mr 28), .int (nI (mi 29)), .int (nI (mi 30)), .int (nI (mi 31)), .int (nI (mi 32))])), (mr 0, .inl (Z 0, 18, .inl (aI p'))), (mr 1, .inl (Z 0, 108, .inl (aI g')))]) 0 0 := by
  refine q_open (y := yX8_run) (ws := wsX8_run) (av := [.ref M, .int n]) (win := [(M, .inr (8, [.ref (mr 0), .ref (mr 1), .int (nI (mi 2)), .ref (mr 3), .ref (mr 4), .int ima, .ref (mr 6), .int (nI (mi 7)), .ref (mr 8), .ref (mr 9), .ref (mr 10), .long (lN (mi 11)), .long (lN (mi 12)), .ref (mr 13), .ref (mr 14), .ref (mr 15), .ref (mr 16), .ref (mr 17), .ref (mr 18), .int (nI (mi 19)), .ref (mr 20), .ref (mr 21), .ref (mr 22), .ref (mr 23), .long (lN (mi 24)), .long (lN (mi 25)), .int (nI (mi 26)), .int (nI (mi 27)), .ref (mr 28), .int (nI (mi 29)), .int (nI (mi 30)), .int (nI (mi 31)), .int (nI (mi 32))])), (mr 0, .inl (Z 0, 18, .inl (aI p))), (mr 1, .inl (Z 0, 108, .inl (aI g)))]) (Qc := fun zs0 => cQi D Z zs0 [(M, .inr (8, [.ref (mr 0), .ref (mr 1), .int (nI (mi 2)), .ref (mr 3), .ref (mr 4), .int ima, .ref (mr 6), .int (nI (mi 7)), .ref (mr 8), .ref (mr 9), .ref (mr 10), .long (lN (mi 11)), .long (lN (mi 12)), .ref (mr 13), .ref (mr 14), .ref (mr 15), .ref (mr 16), .ref (mr 17), .ref (mr 18), .int (nI (mi 19)), .ref (mr 20), .ref (mr 21), .ref (mr 22), .ref (mr 23), .long (lN (mi 24)), .long (lN (mi 25)), .int (nI (mi 26)), .int (nI (mi 27)), .ref (mr 28), .int (nI (mi 29)), .int (nI (mi 30)), .int (nI (mi 31)), .int (nI (mi 32))])), (mr 0, .inl (Z 0, 18, .inl (aI p))), (mr 1, .inl (Z 0, 108, .inl (aI g)))] (S := Nat × (Nat → Nat) × (Nat → Nat)) (fun (r : Int32) (u : Nat × (Nat → Nat) × (Nat → Nat)) => match u with | (ac', p', g') => (¬ (1 ≤ n.toInt ∧ n.toInt ≤ 100) ∧ r = (-1) ∧ ac' = mi 2 ∧ p' = p ∧ g' = g) ∨ ((1 ≤ n.toInt ∧ n.toInt ≤ 100) ∧ r = nI (rpN p p n.toInt.toNat 14 - p 14) ∧ ac' = min (mi 2 + 1) 6 ∧ g' = ntG g p (mi 2) ∧ p' = rpN p p n.toInt.toNat)) (fun (u : Nat × (Nat → Nat) × (Nat → Nat)) => match u with | (ac', p', g') => [(M, .inr (8, [.ref (mr 0), .ref (mr 1), .int (nI ac'), .ref (mr 3), .ref (mr 4), .int ima, .ref (mr 6), .int (nI (mi 7)), .ref (mr 8), .ref (mr 9), .ref (mr 10), .long (lN (mi 11)), .long (lN (mi 12)), .ref (mr 13), .ref (mr 14), .ref (mr 15), .ref (mr 16), .ref (mr 17), .ref (mr 18), .int (nI (mi 19)), .ref (mr 20), .ref (mr 21), .ref (mr 22), .ref (mr 23), .long (lN (mi 24)), .long (lN (mi 25)), .int (nI (mi 26)), .int (nI (mi 27)), .ref (mr 28), .int (nI (mi 29)), .int (nI (mi 30)), .int (nI (mi 31)), .int (nI (mi 32))])), (mr 0, .inl (Z 0, 18, .inl (aI p'))), (mr 1, .inl (Z 0, 108, .inl (aI g')))])) (cc := cX8_run) (maxL := 4) (ret := (some .int)) (by decide) rfl (Nat.le_of_ble_eq_true rfl) ?_
  intro pp ee s mm bw mt cd ls A H locs hAe hx hb hr hml hown hmn hts hlocks hA hK hw hl
  have hown : s.vm.findClass RX8 = some mm.cls := hown
  have hl : lv_has ls 4 [(0, .ref M), (1, .int n)] := hl
  have wd1 := hts (.constantLong RX8 199 (100)) (List.mem_of_getElem? (i := 1) rfl)
  refine lv_iload_n hx hb dX8_run_0 rfl (lv_at hl 1 rfl) ?_
  refine lv_i2l hx hb dX8_run_1 rfl ?_
  refine q_lconst (v := 1) hx hb dX8_run_2 (by decide) ?_
  refine lv_ldc2 hx hb hown wd1 dX8_run_3 ?_
  refine q_topl (x := 100) (y := lN 100) (by decide) ?_
  refine q_calli (S := Unit) (Z := Z) (D := D) (wc := []) (wr := [(M, .inr (8, [.ref (mr 0), .ref (mr 1), .int (nI (mi 2)), .ref (mr 3), .ref (mr 4), .int ima, .ref (mr 6), .int (nI (mi 7)), .ref (mr 8), .ref (mr 9), .ref (mr 10), .long (lN (mi 11)), .long (lN (mi 12)), .ref (mr 13), .ref (mr 14), .ref (mr 15), .ref (mr 16), .ref (mr 17), .ref (mr 18), .int (nI (mi 19)), .ref (mr 20), .ref (mr 21), .ref (mr 22), .ref (mr 23), .long (lN (mi 24)), .long (lN (mi 25)), .int (nI (mi 26)), .int (nI (mi 27)), .ref (mr 28), .int (nI (mi 29)), .int (nI (mi 30)), .int (nI (mi 31)), .int (nI (mi 32))])), (mr 0, .inl (Z 0, 18, .inl (aI p))), (mr 1, .inl (Z 0, 108, .inl (aI g)))]) (rest := []) hw hA [] [0, 1, 2] rfl rfl rfl rfl (by decide) (fun hPc hDc => va_runS (As := [.long n.toInt64, .long (lN 1), .long (lN 100)]) (rest := []) ⟨hx, hb, hml, hown, hts⟩ (c_X8_in l D Z H.size n.toInt64 (lN 1) (lN 100) n.toInt ((1 : Nat) : Int) ((100 : Nat) : Int) (Int32.toInt_toInt64 _) (pk_lT (by first | omega | assumption)) (pk_lT (by first | omega | assumption))) (va_cwS 3 hts gX8_run_X8_in rfl rfl rfl (by decide +kernel) ⟨Nat.le_of_ble_eq_true rfl, Nat.le_of_ble_eq_true rfl⟩) ⟨fb_cPre, pre_of hPc hK hDc⟩ rfl rfl hl.1 rfl (lv_room (Nat.le_of_ble_eq_true rfl)) dX8_run_6 ⟨Nat.le_of_ble_eq_true rfl, Nat.le_of_ble_eq_true rfl⟩) (fun r1 uu H locs hr1 hw => ?_)
  subst hr1
  have hw : WS D A s [(M, .inr (8, [.ref (mr 0), .ref (mr 1), .int (nI (mi 2)), .ref (mr 3), .ref (mr 4), .int ima, .ref (mr 6), .int (nI (mi 7)), .ref (mr 8), .ref (mr 9), .ref (mr 10), .long (lN (mi 11)), .long (lN (mi 12)), .ref (mr 13), .ref (mr 14), .ref (mr 15), .ref (mr 16), .ref (mr 17), .ref (mr 18), .int (nI (mi 19)), .ref (mr 20), .ref (mr 21), .ref (mr 22), .ref (mr 23), .long (lN (mi 24)), .long (lN (mi 25)), .int (nI (mi 26)), .int (nI (mi 27)), .ref (mr 28), .int (nI (mi 29)), .int (nI (mi 30)), .int (nI (mi 31)), .int (nI (mi 32))])), (mr 0, .inl (Z 0, 18, .inl (aI p))), (mr 1, .inl (Z 0, 108, .inl (aI g)))] H locs := hw
  refine q_if_ne (tgt := 14) hx hb ((bb (((1 : Nat) : Int) ≤ n.toInt ∧ n.toInt ≤ ((100 : Nat) : Int)) : Nat) : Int) (nI_toInt (Nat.lt_of_le_of_lt (bb_le _) (by decide))) dX8_run_9 (by decide) (fun c2 => ?_) (fun c2 => ?_)
  · --
    have c2 := bb_1 c2
    obtain ⟨y, rfl, ey⟩ := i32_nat (x := n) (by omega)
    refine lv_aload_n hx hb dX8_run_14 rfl (lv_at hl 0 rfl) ?_
    refine q_callv (S := Unit) (Z := Z) (D := D) (wc := [(M, .inr (8, [.ref (mr 0), .ref (mr 1), .int (nI (mi 2)), .ref (mr 3), .ref (mr 4), .int ima, .ref (mr 6), .int (nI (mi 7)), .ref (mr 8), .ref (mr 9), .ref (mr 10), .long (lN (mi 11)), .long (lN (mi 12)), .ref (mr 13), .ref (mr 14), .ref (mr 15), .ref (mr 16), .ref (mr 17), .ref (mr 18), .int (nI (mi 19)), .ref (mr 20), .ref (mr 21), .ref (mr 22), .ref (mr 23), .long (lN (mi 24)), .long (lN (mi 25)), .int (nI (mi 26)), .int (nI (mi 27)), .ref (mr 28), .int (nI (mi 29)), .int (nI (mi 30)), .int (nI (mi 31)), .int (nI (mi 32))])), (mr 0, .inl (Z 0, 18, .inl (aI p))), (mr 1, .inl (Z 0, 108, .inl (aI g)))]) (wr := []) (rest := []) hw hA [0, 1, 2] [] rfl rfl rfl rfl (by decide) (fun hPc hDc => va_runV (As := []) (rest := []) ⟨hx, hb, hml, hown, hts⟩ (c_X8_notes l D Z H.size M mr mi ima p g (by first | assumption | omega)) (cwV 0 hts gX8_run_X8_notes rfl rfl rfl (by decide +kernel) ⟨Nat.le_of_ble_eq_true rfl, Nat.le_of_ble_eq_true rfl⟩) ⟨fb_cPre, va_recv hK.1 hPc (ci := 8) (q0 := 0) rfl rfl, pre_of hPc hK hDc⟩ rfl rfl hl.1 rfl (lv_room (Nat.le_of_ble_eq_true rfl)) dX8_run_15 ⟨Nat.le_of_ble_eq_true rfl, Nat.le_of_ble_eq_true rfl⟩) (fun uu H locs hr3 hw => ?_)
    have hw : WS D A s [(M, .inr (8, [.ref (mr 0), .ref (mr 1), .int (nI (min (mi 2 + 1) 6)), .ref (mr 3), .ref (mr 4), .int ima, .ref (mr 6), .int (nI (mi 7)), .ref (mr 8), .ref (mr 9), .ref (mr 10), .long (lN (mi 11)), .long (lN (mi 12)), .ref (mr 13), .ref (mr 14), .ref (mr 15), .ref (mr 16), .ref (mr 17), .ref (mr 18), .int (nI (mi 19)), .ref (mr 20), .ref (mr 21), .ref (mr 22), .ref (mr 23), .long (lN (mi 24)), .long (lN (mi 25)), .int (nI (mi 26)), .int (nI (mi 27)), .ref (mr 28), .int (nI (mi 29)), .int (nI (mi 30)), .int (nI (mi 31)), .int (nI (mi 32))])), (mr 0, .inl (Z 0, 18, .inl (aI p))), (mr 1, .inl (Z 0, 108, .inl (aI (ntG g p (mi 2)))))] H locs := hw
    refine q_iconst (v := 0) hx hb dX8_run_18 (by decide) ?_
    refine lv_istore_n (lv' := [(2, .int (nI 0)), (0, .ref M), (1, .int (nI y))]) hx hb dX8_run_19 rfl hl (by decide) rfl (fun ls hl => ?_)
    refine q_iconst (v := 0) hx hb dX8_run_20 (by decide) ?_
    refine lv_istore_n (lv' := [(3, .int (nI 0)), (2, .int (nI 0)), (0, .ref M), (1, .int (nI y))]) hx hb dX8_run_21 rfl hl (by decide) rfl (fun ls hl => ?_)
    have hl : lv_has ls 4 [(3, .int (nI 0)), (2, .int (nI (rpN p p 0 14 - p 14))), (0, .ref M), (1, .int (nI y))] := by rw [show (rpN p p 0 14 - p 14 : Nat) = 0 from Nat.sub_self _]; exact hl
    refine q_loop (σ := Nat) (fun (i : Nat) => y - i) (fun (i : Nat) => i ≤ y ∧ rmI p (rpN p p i)) (fun (i : Nat) => [(M, .inr (8, [.ref (mr 0), .ref (mr 1), .int (nI (min (mi 2 + 1) 6)), .ref (mr 3), .ref (mr 4), .int ima, .ref (mr 6), .int (nI (mi 7)), .ref (mr 8), .ref (mr 9), .ref (mr 10), .long (lN (mi 11)), .long (lN (mi 12)), .ref (mr 13), .ref (mr 14), .ref (mr 15), .ref (mr 16), .ref (mr 17), .ref (mr 18), .int (nI (mi 19)), .ref (mr 20), .ref (mr 21), .ref (mr 22), .ref (mr 23), .long (lN (mi 24)), .long (lN (mi 25)), .int (nI (mi 26)), .int (nI (mi 27)), .ref (mr 28), .int (nI (mi 29)), .int (nI (mi 30)), .int (nI (mi 31)), .int (nI (mi 32))])), (mr 0, .inl (Z 0, 18, .inl (aI (rpN p p i)))), (mr 1, .inl (Z 0, 108, .inl (aI (ntG g p (mi 2)))))]) (fun (i : Nat) => [(3, .int (nI i)), (2, .int (nI (rpN p p i 14 - p 14))), (0, .ref M), (1, .int (nI y))]) 0 ⟨Nat.zero_le _, rfl, rfl, hg, Nat.le_refl _, hd, fun k _ _ => rfl⟩ hw (lv_sub hl [0, 1, 2, 3] rfl) ?_
    intro i H locs ls hi22 hw hl ih22
    try dsimp only at hi22 hw hl ih22
    obtain ⟨q1, q2⟩ := hi22
    have hw : WS D A s [(M, .inr (8, [.ref (mr 0), .ref (mr 1), .int (nI (min (mi 2 + 1) 6)), .ref (mr 3), .ref (mr 4), .int ima, .ref (mr 6), .int (nI (mi 7)), .ref (mr 8), .ref (mr 9), .ref (mr 10), .long (lN (mi 11)), .long (lN (mi 12)), .ref (mr 13), .ref (mr 14), .ref (mr 15), .ref (mr 16), .ref (mr 17), .ref (mr 18), .int (nI (mi 19)), .ref (mr 20), .ref (mr 21), .ref (mr 22), .ref (mr 23), .long (lN (mi 24)), .long (lN (mi 25)), .int (nI (mi 26)), .int (nI (mi 27)), .ref (mr 28), .int (nI (mi 29)), .int (nI (mi 30)), .int (nI (mi 31)), .int (nI (mi 32))])), (mr 0, .inl (Z 0, 18, .inl (aI (rpN p p i)))), (mr 1, .inl (Z 0, 108, .inl (aI (ntG g p (mi 2)))))] H locs := hw
    have hl : lv_has ls 4 [(3, .int (nI i)), (2, .int (nI (rpN p p i 14 - p 14))), (0, .ref M), (1, .int (nI y))] := hl
    refine lv_iload_n hx hb dX8_run_22 rfl (lv_at hl 0 rfl) ?_
    refine lv_iload_n hx hb dX8_run_23 rfl (lv_at hl 3 rfl) ?_
    refine q_icmp_ge (tgt := 40) hx hb ((i : Nat) : Int) ((y : Nat) : Int) (nI_toInt (by omega)) (nI_toInt (by omega)) dX8_run_24 (by decide) (fun c4 => ?_) (fun c4 => ?_)
    · --
      obtain rfl : y = i := by omega
      refine lv_iload_n hx hb dX8_run_40 rfl (lv_at hl 1 rfl) ?_
      exact q_iret (wout := _) hx hb hr hlocks hAe hK (min (mi 2 + 1) 6, rpN p p y, ntG g p (mi 2)) hw (Or.inr ⟨by omega, by rw [tnI ey], rfl, rfl, by rw [tnI ey]⟩) dX8_run_41
    · --
      refine lv_iload_n hx hb dX8_run_27 rfl (lv_at hl 1 rfl) ?_
      refine lv_aload_n hx hb dX8_run_28 rfl (lv_at hl 2 rfl) ?_
      refine q_calli (S := Unit) (Z := Z) (D := D) (wc := [(M, .inr (8, [.ref (mr 0), .ref (mr 1), .int (nI (min (mi 2 + 1) 6)), .ref (mr 3), .ref (mr 4), .int ima, .ref (mr 6), .int (nI (mi 7)), .ref (mr 8), .ref (mr 9), .ref (mr 10), .long (lN (mi 11)), .long (lN (mi 12)), .ref (mr 13), .ref (mr 14), .ref (mr 15), .ref (mr 16), .ref (mr 17), .ref (mr 18), .int (nI (mi 19)), .ref (mr 20), .ref (mr 21), .ref (mr 22), .ref (mr 23), .long (lN (mi 24)), .long (lN (mi 25)), .int (nI (mi 26)), .int (nI (mi 27)), .ref (mr 28), .int (nI (mi 29)), .int (nI (mi 30)), .int (nI (mi 31)), .int (nI (mi 32))])), (mr 0, .inl (Z 0, 18, .inl (aI (rpN p p i))))]) (wr := [(mr 1, .inl (Z 0, 108, .inl (aI (ntG g p (mi 2)))))]) (rest := [.int (nI (rpN p p i 14 - p 14))]) hw hA [0, 1] [2] rfl rfl rfl rfl (by decide) (fun hPc hDc => va_runV (As := []) (rest := [.int (nI (rpN p p i 14 - p 14))]) ⟨hx, hb, hml, hown, hts⟩ (c_X8_runsOnce l D Z H.size M mr (va_up mi 2 (min (mi 2 + 1) 6)) ima (rpN p p i) q2.2.2.2.2.1 (by rw [q2.1]; exact hn) (by rw [q2.1, rm_lf hn q2]; exact hs) (by rw [q2.1]; exact q2.2.2.1) (by rw [q2.1, rm_lf hn q2]; exact lf_pos hzn q2.2.2.1) (by rw [q2.2.1]; exact hru)) (cwV 0 hts gX8_run_X8_runsOnce rfl rfl rfl (by decide +kernel) ⟨Nat.le_of_ble_eq_true rfl, Nat.le_of_ble_eq_true rfl⟩) ⟨fb_cPre, va_recv hK.1 hPc (ci := 8) (q0 := 0) rfl rfl, pre_of hPc hK hDc⟩ rfl rfl hl.1 rfl (lv_room (Nat.le_of_ble_eq_true rfl)) dX8_run_29 ⟨Nat.le_of_ble_eq_true rfl, Nat.le_of_ble_eq_true rfl⟩) (fun r5 uu H locs hr5 hw => ?_)
      subst hr5
      have hw : WS D A s [(mr 1, .inl (Z 0, 108, .inl (aI (ntG g p (mi 2))))), (M, .inr (8, [.ref (mr 0), .ref (mr 1), .int (nI (min (mi 2 + 1) 6)), .ref (mr 3), .ref (mr 4), .int ima, .ref (mr 6), .int (nI (mi 7)), .ref (mr 8), .ref (mr 9), .ref (mr 10), .long (lN (mi 11)), .long (lN (mi 12)), .ref (mr 13), .ref (mr 14), .ref (mr 15), .ref (mr 16), .ref (mr 17), .ref (mr 18), .int (nI (mi 19)), .ref (mr 20), .ref (mr 21), .ref (mr 22), .ref (mr 23), .long (lN (mi 24)), .long (lN (mi 25)), .int (nI (mi 26)), .int (nI (mi 27)), .ref (mr 28), .int (nI (mi 29)), .int (nI (mi 30)), .int (nI (mi 31)), .int (nI (mi 32))])), (mr 0, .inl (Z 0, 18, .inl (aI (rp (rpN p p i) (rpN p p i)))))] H locs := hw
      refine q_iadd hx hb dX8_run_32 ?_
      refine lv_istore_n (lv' := [(2, .int (nI (rpN p p i 14 - p 14 + (bb (dw ((rpN p p i) 12) / 65536 % lf (rpN p p i) ((rpN p p i) 0) ((rpN p p i) 13) < (rpN p p i) ((rpN p p i) 13 + 1)))))), (3, .int (nI i)), (0, .ref M), (1, .int (nI y))]) hx hb dX8_run_33 rfl hl (by decide) rfl (fun ls hl => ?_)
      refine lv_iinc (v := nI (i + 1)) (lv' := [(3, .int (nI (i + 1))), (2, .int (nI (rpN p p i 14 - p 14 + (bb (dw ((rpN p p i) 12) / 65536 % lf (rpN p p i) ((rpN p p i) 0) ((rpN p p i) 13) < (rpN p p i) ((rpN p p i) 13 + 1)))))), (0, .ref M), (1, .int (nI y))]) hx hb dX8_run_34 hl (k := 1) rfl (nI_add _ _) (by decide) rfl (fun ls hl => ?_)
      refine lv_goto (tgt := 22) hx hb dX8_run_37 (by decide) ?_
      have hl : lv_has ls 4 [(3, .int (nI (i + 1))), (2, .int (nI (rpN p p (i + 1) 14 - p 14))), (0, .ref M), (1, .int (nI y))] := by rw [show (rpN p p (i + 1) 14 - p 14 : Nat) = rpN p p i 14 - p 14 + (bb (dw ((rpN p p i) 12) / 65536 % lf (rpN p p i) ((rpN p p i) 0) ((rpN p p i) 13) < (rpN p p i) ((rpN p p i) 13 + 1))) from rm_14 hn q2]; exact hl
      have hw : WS D A s [(mr 1, .inl (Z 0, 108, .inl (aI (ntG g p (mi 2))))), (M, .inr (8, [.ref (mr 0), .ref (mr 1), .int (nI (min (mi 2 + 1) 6)), .ref (mr 3), .ref (mr 4), .int ima, .ref (mr 6), .int (nI (mi 7)), .ref (mr 8), .ref (mr 9), .ref (mr 10), .long (lN (mi 11)), .long (lN (mi 12)), .ref (mr 13), .ref (mr 14), .ref (mr 15), .ref (mr 16), .ref (mr 17), .ref (mr 18), .int (nI (mi 19)), .ref (mr 20), .ref (mr 21), .ref (mr 22), .ref (mr 23), .long (lN (mi 24)), .long (lN (mi 25)), .int (nI (mi 26)), .int (nI (mi 27)), .ref (mr 28), .int (nI (mi 29)), .int (nI (mi 30)), .int (nI (mi 31)), .int (nI (mi 32))])), (mr 0, .inl (Z 0, 18, .inl (aI (rpN p p (i + 1)))))] H locs := by rw [show (rpN p p (i + 1)) = (rp (rpN p p i) (rpN p p i)) from (rm_s hn q2)]; exact hw
      exact ih22 (i + 1) H locs ls (by omega) ⟨by omega, rm_inv hn hs hzn q2⟩ (hw.sub [1, 2, 0] (by decide) rfl) (lv_sub hl [0, 1, 2, 3] rfl)
  · --
    have c2 := bb_0 c2
    refine lv_iconst (v := (-1)) hx hb dX8_run_12 (by decide) ?_
    exact q_iret (wout := _) hx hb hr hlocks hAe hK (mi 2, p, g) hw (Or.inl ⟨by omega, rfl, ⟨rfl, rfl, rfl⟩⟩) dX8_run_13
