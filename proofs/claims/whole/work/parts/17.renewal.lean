theorem va_up_eq {α : Type} (f : Nat → α) (k : Nat) (x : α) : va_up f k x k = x := if_pos rfl
theorem va_up_other {α : Type} (f : Nat → α) {k j : Nat} (x : α) (h : j ≠ k) : va_up f k x j = f j := if_neg h
theorem va_uu {α : Type} (f : Nat → α) (k : Nat) (x y : α) : va_up (va_up f k x) k y = va_up f k y := by
  funext j; simp only [va_up]; split <;> rfl
/-- FAILS up to t by the class: c terms of it -/
def eRow (z : Nat → Nat) (al : Nat) (G : Nat → Nat) (t : Nat) : Nat → Nat
  | 0 => 0
  | c + 1 => eRow z al G t c + z (c + 1) * ((al ^ 10 + G (t - (c + 1))) / al)
def eT (z : Nat → Nat) (n : Nat) : Nat → (Nat → Nat) → Nat → Nat
  | 0, w => w
  | T + 1, w => va_up (eT z n T w) (T + 1) (eRow z (lf z n 0) (eT z n T w) (T + 1) (min (T + 1) n))
theorem eRow_le {z : Nat → Nat} {al S t : Nat} {G : Nat → Nat} (ha : 1 ≤ al) (hS : S = al ^ 10) (hG : ∀ k, 1 ≤ k → k ≤ t → G (t - k) ≤ (t - 1) * S) : ∀ c, c ≤ t → eRow z al G t c ≤ sm z 1 c * (t * S / al) := by
  intro c
  induction c with
  | zero => intro _; simp [eRow]
  | succ c ih =>
    intro hc
    have h1 := ih (by omega)
    have h2 := hG (c + 1) (by omega) hc
    have h3 : (al ^ 10 + G (t - (c + 1))) / al ≤ t * S / al := by
      refine Nat.div_le_div_right ?_
      rw [← hS]
      have : t * S = S + (t - 1) * S := by
        have : t = 1 + (t - 1) := by omega
        rw [this, Nat.add_mul, Nat.one_mul, Nat.add_sub_cancel_left]
      omega
    have h4 : z (c + 1) * ((al ^ 10 + G (t - (c + 1))) / al) ≤ z (c + 1) * (t * S / al) := Nat.mul_le_mul_left _ h3
    simp only [eRow, sm]
    rw [Nat.add_mul, Nat.add_comm 1 c]
    omega
theorem eT_le0 {z : Nat → Nat} {n : Nat} {w : Nat → Nat} (ha : 1 ≤ lf z n 0) (hw : w 0 = 0) : ∀ (T j : Nat), j ≤ T → eT z n T w j ≤ j * lf z n 0 ^ 10 := by
  intro T
  induction T with
  | zero => intro j hj; rw [Nat.le_zero.mp hj]; simp [eT, hw]
  | succ T ih =>
    intro j hj
    by_cases h : j = T + 1
    · subst h
      simp only [eT]
      rw [va_up_eq]
      refine Nat.le_trans (eRow_le ha rfl (fun k h1 h2 => ?_) _ (Nat.min_le_left _ _)) ?_
      · refine Nat.le_trans (ih _ (by omega)) (Nat.mul_le_mul_right _ (by omega))
      · have h1 : sm z 1 (min (T + 1) n) ≤ lf z n 0 := sm_mono z 1 (Nat.min_le_right _ _)
        refine Nat.le_trans (Nat.mul_le_mul_right _ h1) ?_
        rw [Nat.mul_comm]; exact Nat.div_mul_le_self _ _
    · simp only [eT]
      rw [va_up_other _ _ h]
      exact ih j (by omega)
theorem eT_le {z : Nat → Nat} {n : Nat} {w : Nat → Nat} (ha : 1 ≤ lf z n 0) (hw : w 0 = 0) {T j : Nat} (h : j ≤ T) (h10 : j ≤ 10) : eT z n T w j ≤ 10 * lf z n 0 ^ 10 :=
  Nat.le_trans (eT_le0 ha hw T j h) (Nat.mul_le_mul_right _ h10)
def bkc (f c : Nat) (w : Nat → Nat) (sc j : Nat) : Nat := f * w j + c * sc
def bbs (f c : Nat) (w : Nat → Nat) (sc : Nat) : Nat → Nat
  | 0 => 1
  | i + 1 => if bkc f c w sc (i + 2) * bbs f c w sc i < bkc f c w sc (bbs f c w sc i) * (i + 2) then i + 2 else bbs f c w sc i
/-- THE BEST BLOCK -/
def bbk (f c : Nat) (w : Nat → Nat) (sc : Nat) : Nat := bbs f c w sc 9
theorem bbs_le (f c : Nat) (w : Nat → Nat) (sc i : Nat) : 1 ≤ bbs f c w sc i ∧ bbs f c w sc i ≤ i + 1 := by
  induction i with
  | zero => simp [bbs]
  | succ i ih => simp only [bbs]; split <;> omega
theorem bkc_le {z : Nat → Nat} {n f c : Nat} {w : Nat → Nat} (hal : 1 ≤ lf z n 0 ∧ lf z n 0 ≤ 24) (hw : w 0 = 0) (hf : f ≤ 99) (hc : c ≤ 99) {j x : Nat} (hj : j ≤ 10) (hx : x ≤ 11) : bkc f c (eT z n 10 w) (lf z n 0 ^ 10) j * x < 2 ^ 63 := by
  have h1 := eT_le hal.1 hw (T := 10) hj hj
  have h2 : lf z n 0 ^ 10 ≤ 24 ^ 10 := Nat.pow_le_pow_left hal.2 10
  have h3 : f * eT z n 10 w j ≤ 99 * (10 * 24 ^ 10) := Nat.mul_le_mul hf (by omega)
  have h4 : c * lf z n 0 ^ 10 ≤ 99 * 24 ^ 10 := Nat.mul_le_mul hc h2
  have h5 : bkc f c (eT z n 10 w) (lf z n 0 ^ 10) j ≤ 99 * (10 * 24 ^ 10) + 99 * 24 ^ 10 := by unfold bkc; omega
  exact Nat.lt_of_le_of_lt (Nat.mul_le_mul h5 hx) (by decide)
set_option maxHeartbeats 4000000 in
set_option maxRecDepth 100000 in
theorem c_X3_reckon (l : Launch) (D : va_G) (Z : Nat → ClassId) (sz : Nat) (Rn ex sc : Nat) (v : Nat → Nat) (t w n : Nat) (z : Nat → Nat) (hn : n ≤ 8) (hal : 1 ≤ lf z n 0 ∧ lf z n 0 ≤ 24) (hv0 : v 0 = 0) : cMv l yX3_reckon wsX3_reckon (rmd 3) D Z sz [.ref Rn, .ref t] [(Rn, .inr (3, [.long (lN sc), .ref ex])), (ex, .inl (Z 1, 11, .inr (.inl (aL v)))), (t, .inr (5, [.int (nI n), .ref w])), (w, .inl (Z 0, 9, .inl (aI z)))] (S := Unit) (fun (_ : Unit) => True) (fun (_ : Unit) => [(Rn, .inr (3, [.long (lN (lf z n 0 ^ 10)), .ref ex])), (ex, .inl (Z 1, 11, .inr (.inl (aL (eT z n 10 v))))), (t, .inr (5, [.int (nI n), .ref w])), (w, .inl (Z 0, 9, .inl (aI z)))]) 0 0 := by
  refine q_open (y := yX3_reckon) (ws := wsX3_reckon) (av := [.ref Rn, .ref t]) (win := [(Rn, .inr (3, [.long (lN sc), .ref ex])), (ex, .inl (Z 1, 11, .inr (.inl (aL v)))), (t, .inr (5, [.int (nI n), .ref w])), (w, .inl (Z 0, 9, .inl (aI z)))]) (Qc := fun sz => cQv D Z sz [(Rn, .inr (3, [.long (lN sc), .ref ex])), (ex, .inl (Z 1, 11, .inr (.inl (aL v)))), (t, .inr (5, [.int (nI n), .ref w])), (w, .inl (Z 0, 9, .inl (aI z)))] (S := Unit) (fun (_ : Unit) => True) (fun (_ : Unit) => [(Rn, .inr (3, [.long (lN (lf z n 0 ^ 10)), .ref ex])), (ex, .inl (Z 1, 11, .inr (.inl (aL (eT z n 10 v))))), (t, .inr (5, [.int (nI n), .ref w])), (w, .inl (Z 0, 9, .inl (aI z)))])) (cc := cX3_reckon) (maxL := 6) (ret := none) (by decide) rfl (Nat.le_of_ble_eq_true rfl) ?_
  intro pp ee s mm bw mt cd ls A H locs hAe hx hb hr hml hown hmn hts hlocks hA hK hw hl
  have hown : s.vm.findClass RX3 = some mm.cls := hown
  have hl : lv_has ls 6 [(0, .ref Rn), (1, .ref t)] := hl
  have wd20 := hts (.initialized RX7) (List.mem_of_getElem? (i := 20) rfl)
  have wd19 := hts (.static yX7_power) (List.mem_of_getElem? (i := 19) rfl)
  have wd1 := hts (.fieldLink RX3 9 "ReplaceAges$Renewal" "scale" "J") (List.mem_of_getElem? (i := 1) rfl)
  have wd2 := hts (.fieldLink RX3 15 "ReplaceAges$Renewal" "expected" "[J") (List.mem_of_getElem? (i := 2) rfl)
  have wd3 := hts (.fieldLink RX3 29 "ReplaceAges$Table" "n" "I") (List.mem_of_getElem? (i := 3) rfl)
  have in_X3 : ∀ w ∈ wsX30, w ∈ wsX3_reckon := fun _ h => List.mem_cons_of_mem _ (List.mem_append_left _ (List.mem_append_right _ h))
  have in_X5 : ∀ w ∈ wsX50, w ∈ wsX3_reckon := fun _ h => List.mem_cons_of_mem _ (List.mem_append_right _ h)
  have hp10 : lf z n 0 ^ 10 ≤ 24 ^ 10 := Nat.pow_le_pow_left hal.2 10
  refine lv_aload_n hx hb dX3_reckon_0 rfl (lv_at hl 1 rfl) ?_
  refine q_calli (S := Unit) (Z := Z) (D := D) (wc := [(t, .inr (5, [.int (nI n), .ref w])), (w, .inl (Z 0, 9, .inl (aI z)))]) (wr := [(Rn, .inr (3, [.long (lN sc), .ref ex])), (ex, .inl (Z 1, 11, .inr (.inl (aL v))))]) (rest := []) hw hA [2, 3] [0, 1] rfl rfl rfl rfl (by decide) (fun hPc hDc => va_runV (As := []) (rest := []) ⟨hx, hb, hml, hown, hts⟩ (c_X5_all l D Z H.size t w n z (by first | assumption | omega)) (cwV 0 hts gX3_reckon_X5_all rfl rfl rfl (by decide +kernel) ⟨Nat.le_of_ble_eq_true rfl, Nat.le_of_ble_eq_true rfl⟩) ⟨fb_cPre, va_recv hK.1 hPc (ci := 5) (q0 := 0) rfl rfl, pre_of hPc hK hDc⟩ rfl rfl hl.1 rfl (lv_room (Nat.le_of_ble_eq_true rfl)) dX3_reckon_1 ⟨Nat.le_of_ble_eq_true rfl, Nat.le_of_ble_eq_true rfl⟩) (fun r1 u H locs hr1 hw => ?_)
  subst hr1
  have hw : WS D A s [(Rn, .inr (3, [.long (lN sc), .ref ex])), (ex, .inl (Z 1, 11, .inr (.inl (aL v)))), (t, .inr (5, [.int (nI n), .ref w])), (w, .inl (Z 0, 9, .inl (aI z)))] H locs := hw
  refine q_i2l hx hb (by omega) dX3_reckon_4 ?_
  refine lv_lstore_n (lv' := [(2, .long (lN (lf z n 0))), (0, .ref Rn), (1, .ref t)]) hx hb dX3_reckon_5 rfl hl (by decide) rfl (fun ls hl => ?_)
  refine lv_aload_n hx hb dX3_reckon_6 rfl (lv_at hl 1 rfl) ?_
  refine lv_lload_n hx hb dX3_reckon_7 rfl (lv_at hl 0 rfl) ?_
  refine q_bipush (v := 10) hx hb dX3_reckon_8 (by decide) ?_
  refine q_calll (S := Unit) (Z := Z) (D := D) (wc := []) (wr := [(Rn, .inr (3, [.long (lN sc), .ref ex])), (ex, .inl (Z 1, 11, .inr (.inl (aL v)))), (t, .inr (5, [.int (nI n), .ref w])), (w, .inl (Z 0, 9, .inl (aI z)))]) (rest := [.ref Rn]) hw hA [] [0, 1, 2, 3] rfl rfl rfl rfl (by decide) (fun hPc hDc => va_runSN (As := [.long (lN (lf z n 0)), .int (nI 10)]) (rest := [.ref Rn]) ⟨hx, hb, hml, hown, hts⟩ (c_X7_power l D Z H.size (lf z n 0) 10 (by first | assumption | omega)) ⟨va_cnB 2 hts gX3_reckon_X7_power_n25 rfl rfl rfl (hK.2 (RX3, 25, yX7_power) (by decide +kernel)) wd20 (by decide +kernel) ⟨Nat.le_of_ble_eq_true rfl, Nat.le_of_ble_eq_true rfl⟩, wd19, trivial⟩ ⟨fb_cPre, pre_of hPc hK hDc⟩ rfl rfl hl.1 rfl (lv_room (Nat.le_of_ble_eq_true rfl)) dX3_reckon_10 ⟨Nat.le_of_ble_eq_true rfl, Nat.le_of_ble_eq_true rfl⟩) (fun r2 u H locs hr2 hw => ?_)
  subst hr2
  have hw : WS D A s [(Rn, .inr (3, [.long (lN sc), .ref ex])), (ex, .inl (Z 1, 11, .inr (.inl (aL v)))), (t, .inr (5, [.int (nI n), .ref w])), (w, .inl (Z 0, 9, .inl (aI z)))] H locs := hw
  refine q_put (v := .long (lN ((lf z n 0) ^ 10))) (ci := 3) hx hb hts in_X3 tyX3 tyX3_ok nmX3 hown hK hw 0 0 wd1 dX3_reckon_13 rfl rfl (by decide) rfl rfl rfl (Nat.le_of_ble_eq_true rfl) (fun H locs hw => ?_)
  have hw : WS D A s [(Rn, .inr (3, [.long (lN ((lf z n 0) ^ 10)), .ref ex])), (ex, .inl (Z 1, 11, .inr (.inl (aL v)))), (t, .inr (5, [.int (nI n), .ref w])), (w, .inl (Z 0, 9, .inl (aI z)))] H locs := hw
  refine q_iconst (v := 1) hx hb dX3_reckon_16 (by decide) ?_
  refine lv_istore (lv' := [(4, .int (nI 1)), (2, .long (lN (lf z n 0))), (0, .ref Rn), (1, .ref t)]) hx hb dX3_reckon_17 hl (by decide) rfl (fun ls hl => ?_)
  refine q_loop (σ := Nat) (fun (T : Nat) => 10 - T) (fun (T : Nat) => T ≤ 10) (fun (T : Nat) => [(Rn, .inr (3, [.long (lN (lf z n 0 ^ 10)), .ref ex])), (ex, .inl (Z 1, 11, .inr (.inl (aL (eT z n T v))))), (t, .inr (5, [.int (nI n), .ref w])), (w, .inl (Z 0, 9, .inl (aI z)))]) (fun (T : Nat) => [(4, .int (nI (T + 1))), (2, .long (lN (lf z n 0))), (0, .ref Rn), (1, .ref t)]) 0 (Nat.zero_le _) hw (lv_sub hl [0, 1, 2, 3] rfl) ?_
  intro T H locs ls hi19 hw hl ih19
  try dsimp only at hi19 hw hl ih19
  have hw : WS D A s [(Rn, .inr (3, [.long (lN (lf z n 0 ^ 10)), .ref ex])), (ex, .inl (Z 1, 11, .inr (.inl (aL (eT z n T v))))), (t, .inr (5, [.int (nI n), .ref w])), (w, .inl (Z 0, 9, .inl (aI z)))] H locs := hw
  have hl : lv_has ls 6 [(4, .int (nI (T + 1))), (2, .long (lN (lf z n 0))), (0, .ref Rn), (1, .ref t)] := hl
  refine lv_iload hx hb dX3_reckon_19 (lv_at hl 0 rfl) ?_
  refine q_bipush (v := 10) hx hb dX3_reckon_21 (by decide) ?_
  refine q_icmp_gt (tgt := 106) hx hb ((T + 1 : Nat) : Int) ((10 : Nat) : Int) (nI_toInt (by omega)) (nI_toInt (by omega)) dX3_reckon_23 (by decide) (fun c3 => ?_) (fun c3 => ?_)
  · --
    obtain rfl : T = 10 := by omega
    exact q_vret (wout := _) hx hb hr hlocks hAe hK () hw (trivial) dX3_reckon_106
  · --
    refine lv_aload_n hx hb dX3_reckon_26 rfl (lv_at hl 2 rfl) ?_
    refine q_get (v := .ref ex) (ci := 3) hx hb hts in_X3 hown hK hw 0 1 wd2 dX3_reckon_27 rfl rfl (by decide) rfl ?_
    refine lv_iload hx hb dX3_reckon_30 (lv_at hl 0 rfl) ?_
    refine q_lconst (v := 0) hx hb dX3_reckon_32 (by decide) ?_
    refine q_last hx hb hK hw 1 (by omega) (by omega) dX3_reckon_33 rfl (fun H locs hw => ?_)
    have hw : WS D A s [(Rn, .inr (3, [.long (lN (lf z n 0 ^ 10)), .ref ex])), (ex, .inl (Z 1, 11, .inr (.inl (aL (va_up (eT z n T v) (T + 1) 0))))), (t, .inr (5, [.int (nI n), .ref w])), (w, .inl (Z 0, 9, .inl (aI z)))] H locs := hw
    refine q_iconst (v := 1) hx hb dX3_reckon_34 (by decide) ?_
    refine lv_istore (lv' := [(5, .int (nI 1)), (4, .int (nI (T + 1))), (2, .long (lN (lf z n 0))), (0, .ref Rn), (1, .ref t)]) hx hb dX3_reckon_35 hl (by decide) rfl (fun ls hl => ?_)
    refine q_loop (σ := Nat) (fun (c : Nat) => n - c) (fun (c : Nat) => c ≤ T + 1 ∧ c ≤ n) (fun (c : Nat) => [(Rn, .inr (3, [.long (lN (lf z n 0 ^ 10)), .ref ex])), (ex, .inl (Z 1, 11, .inr (.inl (aL (va_up (eT z n T v) (T + 1) (eRow z (lf z n 0) (eT z n T v) (T + 1) c)))))), (t, .inr (5, [.int (nI n), .ref w])), (w, .inl (Z 0, 9, .inl (aI z)))]) (fun (c : Nat) => [(5, .int (nI (c + 1))), (4, .int (nI (T + 1))), (2, .long (lN (lf z n 0))), (0, .ref Rn), (1, .ref t)]) 0 ⟨Nat.zero_le _, Nat.zero_le _⟩ hw (lv_sub hl [0, 1, 2, 3, 4] rfl) ?_
    intro c H locs ls hi37 hw hl ih37
    try dsimp only at hi37 hw hl ih37
    have hw : WS D A s [(Rn, .inr (3, [.long (lN (lf z n 0 ^ 10)), .ref ex])), (ex, .inl (Z 1, 11, .inr (.inl (aL (va_up (eT z n T v) (T + 1) (eRow z (lf z n 0) (eT z n T v) (T + 1) c)))))), (t, .inr (5, [.int (nI n), .ref w])), (w, .inl (Z 0, 9, .inl (aI z)))] H locs := hw
    have hl : lv_has ls 6 [(5, .int (nI (c + 1))), (4, .int (nI (T + 1))), (2, .long (lN (lf z n 0))), (0, .ref Rn), (1, .ref t)] := hl
    refine lv_iload hx hb dX3_reckon_37 (lv_at hl 0 rfl) ?_
    refine lv_iload hx hb dX3_reckon_39 (lv_at hl 1 rfl) ?_
    refine q_icmp_gt (tgt := 100) hx hb ((c + 1 : Nat) : Int) ((T + 1 : Nat) : Int) (nI_toInt (by omega)) (nI_toInt (by omega)) dX3_reckon_41 (by decide) (fun c4 => ?_) (fun c4 => ?_)
    · --
      refine lv_iinc (v := nI (T + 1 + 1)) (lv' := [(4, .int (nI (T + 1 + 1))), (5, .int (nI (c + 1))), (2, .long (lN (lf z n 0))), (0, .ref Rn), (1, .ref t)]) hx hb dX3_reckon_100 hl (k := 1) rfl (nI_add _ _) (by decide) rfl (fun ls hl => ?_)
      refine lv_goto (tgt := 19) hx hb dX3_reckon_103 (by decide) ?_
      have hw : WS D A s [(Rn, .inr (3, [.long (lN (lf z n 0 ^ 10)), .ref ex])), (ex, .inl (Z 1, 11, .inr (.inl (aL (eT z n (T + 1) v))))), (t, .inr (5, [.int (nI n), .ref w])), (w, .inl (Z 0, 9, .inl (aI z)))] H locs := by rw [show (eT z n (T + 1) v) = (va_up (eT z n T v) (T + 1) (eRow z (lf z n 0) (eT z n T v) (T + 1) c)) from by simp only [eT]; rw [show min (T + 1) n = c by omega]]; exact hw
      exact ih19 (T + 1) H locs ls (by omega) (by omega) hw (lv_sub hl [0, 2, 3, 4] rfl)
    · --
      refine lv_iload hx hb dX3_reckon_44 (lv_at hl 0 rfl) ?_
      refine lv_aload_n hx hb dX3_reckon_46 rfl (lv_at hl 4 rfl) ?_
      refine q_get (v := .int (nI n)) (ci := 5) hx hb hts in_X5 hown hK hw 2 0 wd3 dX3_reckon_47 rfl rfl (by decide) rfl ?_
      refine q_icmp_gt (tgt := 100) hx hb ((c + 1 : Nat) : Int) ((n : Nat) : Int) (nI_toInt (by omega)) (nI_toInt (by omega)) dX3_reckon_50 (by decide) (fun c5 => ?_) (fun c5 => ?_)
      · --
        refine lv_iinc (v := nI (T + 1 + 1)) (lv' := [(4, .int (nI (T + 1 + 1))), (5, .int (nI (c + 1))), (2, .long (lN (lf z n 0))), (0, .ref Rn), (1, .ref t)]) hx hb dX3_reckon_100 hl (k := 1) rfl (nI_add _ _) (by decide) rfl (fun ls hl => ?_)
        refine lv_goto (tgt := 19) hx hb dX3_reckon_103 (by decide) ?_
        have hw : WS D A s [(Rn, .inr (3, [.long (lN (lf z n 0 ^ 10)), .ref ex])), (ex, .inl (Z 1, 11, .inr (.inl (aL (eT z n (T + 1) v))))), (t, .inr (5, [.int (nI n), .ref w])), (w, .inl (Z 0, 9, .inl (aI z)))] H locs := by rw [show (eT z n (T + 1) v) = (va_up (eT z n T v) (T + 1) (eRow z (lf z n 0) (eT z n T v) (T + 1) c)) from by simp only [eT]; rw [show min (T + 1) n = c by omega]]; exact hw
        exact ih19 (T + 1) H locs ls (by omega) (by omega) hw (lv_sub hl [0, 2, 3, 4] rfl)
      · --
        refine lv_lload_n hx hb dX3_reckon_53 rfl (lv_at hl 2 rfl) ?_
        refine q_lconst (v := 0) hx hb dX3_reckon_54 (by decide) ?_
        refine q_lc_le (tgt := 100) hx hb ((lf z n 0 : Nat) : Int) ((0 : Nat) : Int) (pk_lT (by first | omega | assumption)) (pk_lT (by first | omega | assumption)) dX3_reckon_55 dX3_reckon_56 (by decide) (fun c6 => ?_) (fun c6 => ?_)
        · --
          exfalso; omega
        · --
          refine lv_aload_n hx hb dX3_reckon_59 rfl (lv_at hl 3 rfl) ?_
          refine q_get (v := .ref ex) (ci := 3) hx hb hts in_X3 hown hK hw 0 1 wd2 dX3_reckon_60 rfl rfl (by decide) rfl ?_
          refine lv_iload hx hb dX3_reckon_63 (lv_at hl 1 rfl) ?_
          refine lv_dup2_11 hx hb dX3_reckon_65 rfl rfl ?_
          refine q_lald hx hb hK hw 1 (by omega) (by omega) dX3_reckon_66 rfl ?_
          refine q_topl (x := lN ((va_up (eT z n T v) (T + 1) (eRow z (lf z n 0) (eT z n T v) (T + 1) c)) (T + 1))) (y := lN (eRow z (lf z n 0) (eT z n T v) (T + 1) c)) (congrArg lN (va_up_eq _ _ _)) ?_
          refine lv_aload_n hx hb dX3_reckon_67 rfl (lv_at hl 4 rfl) ?_
          refine lv_iload hx hb dX3_reckon_68 (lv_at hl 0 rfl) ?_
          refine q_calli (S := Unit) (Z := Z) (D := D) (wc := [(t, .inr (5, [.int (nI n), .ref w])), (w, .inl (Z 0, 9, .inl (aI z)))]) (wr := [(Rn, .inr (3, [.long (lN (lf z n 0 ^ 10)), .ref ex])), (ex, .inl (Z 1, 11, .inr (.inl (aL (va_up (eT z n T v) (T + 1) (eRow z (lf z n 0) (eT z n T v) (T + 1) c))))))]) (rest := [.long (lN (eRow z (lf z n 0) (eT z n T v) (T + 1) c)), .int (nI (T + 1)), .ref ex]) hw hA [2, 3] [0, 1] rfl rfl rfl rfl (by decide) (fun hPc hDc => va_runV (As := [.int (nI (c + 1))]) (rest := [.long (lN (eRow z (lf z n 0) (eT z n T v) (T + 1) c)), .int (nI (T + 1)), .ref ex]) ⟨hx, hb, hml, hown, hts⟩ (c_X5_weightOf l D Z H.size t w n z (c + 1) (by first | assumption | omega) (by first | assumption | omega)) (cwV 1 hts gX3_reckon_X5_weightOf rfl rfl rfl (by decide +kernel) ⟨Nat.le_of_ble_eq_true rfl, Nat.le_of_ble_eq_true rfl⟩) ⟨fb_cPre, va_recv hK.1 hPc (ci := 5) (q0 := 0) rfl rfl, pre_of hPc hK hDc⟩ rfl rfl hl.1 rfl (lv_room (Nat.le_of_ble_eq_true rfl)) dX3_reckon_70 ⟨Nat.le_of_ble_eq_true rfl, Nat.le_of_ble_eq_true rfl⟩) (fun r7 u H locs hr7 hw => ?_)
          subst hr7
          have hw : WS D A s [(Rn, .inr (3, [.long (lN (lf z n 0 ^ 10)), .ref ex])), (ex, .inl (Z 1, 11, .inr (.inl (aL (va_up (eT z n T v) (T + 1) (eRow z (lf z n 0) (eT z n T v) (T + 1) c)))))), (t, .inr (5, [.int (nI n), .ref w])), (w, .inl (Z 0, 9, .inl (aI z)))] H locs := hw
          refine q_topi (x := nI (wt z n (c + 1))) (y := nI (z (c + 1))) (congrArg nI (wt_in (by omega))) ?_
          refine q_i2l hx hb (Nat.lt_of_le_of_lt (z_le (n := n) (by omega)) (by omega)) dX3_reckon_73 ?_
          refine lv_aload_n hx hb dX3_reckon_74 rfl (lv_at hl 3 rfl) ?_
          refine q_get (v := .long (lN (lf z n 0 ^ 10))) (ci := 3) hx hb hts in_X3 hown hK hw 0 0 wd1 dX3_reckon_75 rfl rfl (by decide) rfl ?_
          refine lv_aload_n hx hb dX3_reckon_78 rfl (lv_at hl 3 rfl) ?_
          refine q_get (v := .ref ex) (ci := 3) hx hb hts in_X3 hown hK hw 0 1 wd2 dX3_reckon_79 rfl rfl (by decide) rfl ?_
          refine lv_iload hx hb dX3_reckon_82 (lv_at hl 1 rfl) ?_
          refine lv_iload hx hb dX3_reckon_84 (lv_at hl 0 rfl) ?_
          refine q_isub hx hb (by omega) dX3_reckon_86 ?_
          refine q_lald hx hb hK hw 1 (by omega) (by omega) dX3_reckon_87 rfl ?_
          refine q_topl (x := lN ((va_up (eT z n T v) (T + 1) (eRow z (lf z n 0) (eT z n T v) (T + 1) c)) (T + 1 - (c + 1)))) (y := lN (eT z n T v (T + 1 - (c + 1)))) (congrArg lN (va_up_other _ _ (by omega))) ?_
          refine q_ladd hx hb dX3_reckon_88 ?_
          refine lv_lload_n hx hb dX3_reckon_89 rfl (lv_at hl 2 rfl) ?_
          have bd := eT_le hal.1 hv0 (T := T) (j := T + 1 - (c + 1)) (by omega) (by omega)
          refine q_ldiv hx hb (by omega) (by omega) (by omega) dX3_reckon_90 ?_
          refine q_lmul hx hb dX3_reckon_91 ?_
          refine q_ladd hx hb dX3_reckon_92 ?_
          refine q_last hx hb hK hw 1 (by omega) (by omega) dX3_reckon_93 rfl (fun H locs hw => ?_)
          have hw : WS D A s [(Rn, .inr (3, [.long (lN (lf z n 0 ^ 10)), .ref ex])), (ex, .inl (Z 1, 11, .inr (.inl (aL (va_up (va_up (eT z n T v) (T + 1) (eRow z (lf z n 0) (eT z n T v) (T + 1) c)) (T + 1) (eRow z (lf z n 0) (eT z n T v) (T + 1) c + ((z (c + 1)) * ((lf z n 0 ^ 10 + (eT z n T v (T + 1 - (c + 1)))) / (lf z n 0))))))))), (t, .inr (5, [.int (nI n), .ref w])), (w, .inl (Z 0, 9, .inl (aI z)))] H locs := hw
          refine lv_iinc (v := nI (c + 1 + 1)) (lv' := [(5, .int (nI (c + 1 + 1))), (4, .int (nI (T + 1))), (2, .long (lN (lf z n 0))), (0, .ref Rn), (1, .ref t)]) hx hb dX3_reckon_94 hl (k := 0) rfl (nI_add _ _) (by decide) rfl (fun ls hl => ?_)
          refine lv_goto (tgt := 37) hx hb dX3_reckon_97 (by decide) ?_
          have hw : WS D A s [(Rn, .inr (3, [.long (lN (lf z n 0 ^ 10)), .ref ex])), (ex, .inl (Z 1, 11, .inr (.inl (aL (va_up (eT z n T v) (T + 1) (eRow z (lf z n 0) (eT z n T v) (T + 1) (c + 1))))))), (t, .inr (5, [.int (nI n), .ref w])), (w, .inl (Z 0, 9, .inl (aI z)))] H locs := by rw [show (va_up (eT z n T v) (T + 1) (eRow z (lf z n 0) (eT z n T v) (T + 1) (c + 1))) = (va_up (va_up (eT z n T v) (T + 1) (eRow z (lf z n 0) (eT z n T v) (T + 1) c)) (T + 1) (eRow z (lf z n 0) (eT z n T v) (T + 1) c + ((z (c + 1)) * ((lf z n 0 ^ 10 + (eT z n T v (T + 1 - (c + 1)))) / (lf z n 0))))) from by rw [va_uu]; rfl]; exact hw
          exact ih37 (c + 1) H locs ls (by omega) (by omega) hw (lv_sub hl [0, 1, 2, 3, 4] rfl)
set_option maxHeartbeats 4000000 in
set_option maxRecDepth 100000 in
theorem c_X3_expectedUpTo (l : Launch) (D : va_G) (Z : Nat → ClassId) (sz : Nat) (Rn ex sc : Nat) (v : Nat → Nat) (j : Nat) (hj : j ≤ 10) : cMl l yX3_expectedUpTo wsX3_expectedUpTo (rmd 0) D Z sz [.ref Rn, .int (nI j)] [(Rn, .inr (3, [.long (lN sc), .ref ex])), (ex, .inl (Z 1, 11, .inr (.inl (aL v))))] (S := Unit) (fun (r : Int64) => fun (_ : Unit) => r = lN (v j)) (fun (_ : Unit) => [(Rn, .inr (3, [.long (lN sc), .ref ex])), (ex, .inl (Z 1, 11, .inr (.inl (aL v))))]) 0 0 := by
  refine q_open (y := yX3_expectedUpTo) (ws := wsX3_expectedUpTo) (av := [.ref Rn, .int (nI j)]) (win := [(Rn, .inr (3, [.long (lN sc), .ref ex])), (ex, .inl (Z 1, 11, .inr (.inl (aL v))))]) (Qc := fun sz => cQl D Z sz [(Rn, .inr (3, [.long (lN sc), .ref ex])), (ex, .inl (Z 1, 11, .inr (.inl (aL v))))] (S := Unit) (fun (r : Int64) => fun (_ : Unit) => r = lN (v j)) (fun (_ : Unit) => [(Rn, .inr (3, [.long (lN sc), .ref ex])), (ex, .inl (Z 1, 11, .inr (.inl (aL v))))])) (cc := cX3_expectedUpTo) (maxL := 2) (ret := (some .long)) (by decide) rfl (Nat.le_of_ble_eq_true rfl) ?_
  intro pp ee s mm bw mt cd ls A H locs hAe hx hb hr hml hown hmn hts hlocks hA hK hw hl
  have hown : s.vm.findClass RX3 = some mm.cls := hown
  have hl : lv_has ls 2 [(0, .ref Rn), (1, .int (nI j))] := hl
  have wd1 := hts (.fieldLink RX3 15 "ReplaceAges$Renewal" "expected" "[J") (List.mem_of_getElem? (i := 1) rfl)
  have in_X3 : ∀ w ∈ wsX30, w ∈ wsX3_expectedUpTo := fun _ h => List.mem_cons_of_mem _ (List.mem_append_right _ h)
  refine lv_iload_n hx hb dX3_expectedUpTo_0 rfl (lv_at hl 1 rfl) ?_
  refine q_if_lt (tgt := 22) hx hb ((j : Nat) : Int) (nI_toInt (by omega)) dX3_expectedUpTo_1 (by decide) (fun c1 => ?_) (fun c1 => ?_)
  · --
    exfalso; omega
  · --
    refine lv_iload_n hx hb dX3_expectedUpTo_4 rfl (lv_at hl 1 rfl) ?_
    refine lv_aload_n hx hb dX3_expectedUpTo_5 rfl (lv_at hl 0 rfl) ?_
    refine q_get (v := .ref ex) (ci := 3) hx hb hts in_X3 hown hK hw 0 1 wd1 dX3_expectedUpTo_6 rfl rfl (by decide) rfl ?_
    refine q_aleni hx hb hK hw 1 1 dX3_expectedUpTo_9 rfl rfl ?_
    refine q_icmp_ge (tgt := 22) hx hb ((j : Nat) : Int) ((11 : Nat) : Int) (nI_toInt (by omega)) (nI_toInt (by omega)) dX3_expectedUpTo_10 (by decide) (fun c2 => ?_) (fun c2 => ?_)
    · --
      exfalso; omega
    · --
      refine lv_aload_n hx hb dX3_expectedUpTo_13 rfl (lv_at hl 0 rfl) ?_
      refine q_get (v := .ref ex) (ci := 3) hx hb hts in_X3 hown hK hw 0 1 wd1 dX3_expectedUpTo_14 rfl rfl (by decide) rfl ?_
      refine lv_iload_n hx hb dX3_expectedUpTo_17 rfl (lv_at hl 1 rfl) ?_
      refine q_lald hx hb hK hw 1 (by omega) (by omega) dX3_expectedUpTo_18 rfl ?_
      refine lv_goto (tgt := 23) hx hb dX3_expectedUpTo_19 (by decide) ?_
      exact q_lret (wout := _) hx hb hr hlocks hAe hK () hw (rfl) dX3_expectedUpTo_23
set_option maxHeartbeats 4000000 in
set_option maxRecDepth 100000 in
theorem c_X3_blockCost (l : Launch) (D : va_G) (Z : Nat → ClassId) (sz : Nat) (Rn ex sc : Nat) (v : Nat → Nat) (a t w : Nat) (p z : Nat → Nat) (j : Nat) (hj : j ≤ 10) (h9 : p 9 ≤ 99) (h10 : p 10 ≤ 99) : cMl l yX3_blockCost wsX3_blockCost (rmd 1) D Z sz [.ref Rn, .int (nI j), .ref a] [(Rn, .inr (3, [.long (lN sc), .ref ex])), (ex, .inl (Z 1, 11, .inr (.inl (aL v)))), (a, .inr (2, [.ref t, .int (nI (p 9)), .int (nI (p 10)), .int (nI (p 11)), .int (nI (p 13)), .int (nI (p 14)), .int (nI (p 15)), .int (nI (p 16)), .int (nI (p 17)), .int (nI (p 12))])), (t, .inr (5, [.int (nI (p 0)), .ref w])), (w, .inl (Z 0, 9, .inl (aI z)))] (S := Unit) (fun (r : Int64) => fun (_ : Unit) => r = lN (bkc (p 9) (p 10) v sc j)) (fun (_ : Unit) => [(Rn, .inr (3, [.long (lN sc), .ref ex])), (ex, .inl (Z 1, 11, .inr (.inl (aL v)))), (a, .inr (2, [.ref t, .int (nI (p 9)), .int (nI (p 10)), .int (nI (p 11)), .int (nI (p 13)), .int (nI (p 14)), .int (nI (p 15)), .int (nI (p 16)), .int (nI (p 17)), .int (nI (p 12))])), (t, .inr (5, [.int (nI (p 0)), .ref w])), (w, .inl (Z 0, 9, .inl (aI z)))]) 0 0 := by
  refine q_open (y := yX3_blockCost) (ws := wsX3_blockCost) (av := [.ref Rn, .int (nI j), .ref a]) (win := [(Rn, .inr (3, [.long (lN sc), .ref ex])), (ex, .inl (Z 1, 11, .inr (.inl (aL v)))), (a, .inr (2, [.ref t, .int (nI (p 9)), .int (nI (p 10)), .int (nI (p 11)), .int (nI (p 13)), .int (nI (p 14)), .int (nI (p 15)), .int (nI (p 16)), .int (nI (p 17)), .int (nI (p 12))])), (t, .inr (5, [.int (nI (p 0)), .ref w])), (w, .inl (Z 0, 9, .inl (aI z)))]) (Qc := fun sz => cQl D Z sz [(Rn, .inr (3, [.long (lN sc), .ref ex])), (ex, .inl (Z 1, 11, .inr (.inl (aL v)))), (a, .inr (2, [.ref t, .int (nI (p 9)), .int (nI (p 10)), .int (nI (p 11)), .int (nI (p 13)), .int (nI (p 14)), .int (nI (p 15)), .int (nI (p 16)), .int (nI (p 17)), .int (nI (p 12))])), (t, .inr (5, [.int (nI (p 0)), .ref w])), (w, .inl (Z 0, 9, .inl (aI z)))] (S := Unit) (fun (r : Int64) => fun (_ : Unit) => r = lN (bkc (p 9) (p 10) v sc j)) (fun (_ : Unit) => [(Rn, .inr (3, [.long (lN sc), .ref ex])), (ex, .inl (Z 1, 11, .inr (.inl (aL v)))), (a, .inr (2, [.ref t, .int (nI (p 9)), .int (nI (p 10)), .int (nI (p 11)), .int (nI (p 13)), .int (nI (p 14)), .int (nI (p 15)), .int (nI (p 16)), .int (nI (p 17)), .int (nI (p 12))])), (t, .inr (5, [.int (nI (p 0)), .ref w])), (w, .inl (Z 0, 9, .inl (aI z)))])) (cc := cX3_blockCost) (maxL := 3) (ret := (some .long)) (by decide) rfl (Nat.le_of_ble_eq_true rfl) ?_
  intro pp ee s mm bw mt cd ls A H locs hAe hx hb hr hml hown hmn hts hlocks hA hK hw hl
  have hown : s.vm.findClass RX3 = some mm.cls := hown
  have hl : lv_has ls 3 [(0, .ref Rn), (1, .int (nI j)), (2, .ref a)] := hl
  have wd1 := hts (.fieldLink RX3 37 "ReplaceAges$Plan" "failure" "I") (List.mem_of_getElem? (i := 1) rfl)
  have wd2 := hts (.fieldLink RX3 46 "ReplaceAges$Plan" "change" "I") (List.mem_of_getElem? (i := 2) rfl)
  have wd3 := hts (.fieldLink RX3 9 "ReplaceAges$Renewal" "scale" "J") (List.mem_of_getElem? (i := 3) rfl)
  have in_X2 : ∀ w ∈ wsX20, w ∈ wsX3_blockCost := fun _ h => List.mem_cons_of_mem _ (List.mem_append_left _ (List.mem_append_right _ h))
  have in_X3 : ∀ w ∈ wsX30, w ∈ wsX3_blockCost := fun _ h => List.mem_cons_of_mem _ (List.mem_append_right _ h)
  refine lv_aload_n hx hb dX3_blockCost_0 rfl (lv_at hl 2 rfl) ?_
  refine q_get (v := .int (nI (p 9))) (ci := 2) hx hb hts in_X2 hown hK hw 2 1 wd1 dX3_blockCost_1 rfl rfl (by decide) rfl ?_
  refine q_i2l hx hb (by omega) dX3_blockCost_4 ?_
  refine lv_aload_n hx hb dX3_blockCost_5 rfl (lv_at hl 0 rfl) ?_
  refine lv_iload_n hx hb dX3_blockCost_6 rfl (lv_at hl 1 rfl) ?_
  refine q_calll (S := Unit) (Z := Z) (D := D) (wc := [(Rn, .inr (3, [.long (lN sc), .ref ex])), (ex, .inl (Z 1, 11, .inr (.inl (aL v))))]) (wr := [(a, .inr (2, [.ref t, .int (nI (p 9)), .int (nI (p 10)), .int (nI (p 11)), .int (nI (p 13)), .int (nI (p 14)), .int (nI (p 15)), .int (nI (p 16)), .int (nI (p 17)), .int (nI (p 12))])), (t, .inr (5, [.int (nI (p 0)), .ref w])), (w, .inl (Z 0, 9, .inl (aI z)))]) (rest := [.long (lN (p 9))]) hw hA [0, 1] [2, 3, 4] rfl rfl rfl rfl (by decide) (fun hPc hDc => va_runV (As := [.int (nI j)]) (rest := [.long (lN (p 9))]) ⟨hx, hb, hml, hown, hts⟩ (c_X3_expectedUpTo l D Z H.size Rn ex sc v j (by first | assumption | omega)) (cwV 1 hts gX3_blockCost_X3_expectedUpTo rfl rfl rfl (by decide +kernel) ⟨Nat.le_of_ble_eq_true rfl, Nat.le_of_ble_eq_true rfl⟩) ⟨fb_cPre, va_recv hK.1 hPc (ci := 3) (q0 := 0) rfl rfl, pre_of hPc hK hDc⟩ rfl rfl hl.1 rfl (lv_room (Nat.le_of_ble_eq_true rfl)) dX3_blockCost_7 ⟨Nat.le_of_ble_eq_true rfl, Nat.le_of_ble_eq_true rfl⟩) (fun r1 u H locs hr1 hw => ?_)
  subst hr1
  have hw : WS D A s [(a, .inr (2, [.ref t, .int (nI (p 9)), .int (nI (p 10)), .int (nI (p 11)), .int (nI (p 13)), .int (nI (p 14)), .int (nI (p 15)), .int (nI (p 16)), .int (nI (p 17)), .int (nI (p 12))])), (t, .inr (5, [.int (nI (p 0)), .ref w])), (w, .inl (Z 0, 9, .inl (aI z))), (Rn, .inr (3, [.long (lN sc), .ref ex])), (ex, .inl (Z 1, 11, .inr (.inl (aL v))))] H locs := hw
  refine q_lmul hx hb dX3_blockCost_10 ?_
  refine lv_aload_n hx hb dX3_blockCost_11 rfl (lv_at hl 2 rfl) ?_
  refine q_get (v := .int (nI (p 10))) (ci := 2) hx hb hts in_X2 hown hK hw 0 2 wd2 dX3_blockCost_12 rfl rfl (by decide) rfl ?_
  refine q_i2l hx hb (by omega) dX3_blockCost_15 ?_
  refine lv_aload_n hx hb dX3_blockCost_16 rfl (lv_at hl 0 rfl) ?_
  refine q_get (v := .long (lN sc)) (ci := 3) hx hb hts in_X3 hown hK hw 3 0 wd3 dX3_blockCost_17 rfl rfl (by decide) rfl ?_
  refine q_lmul hx hb dX3_blockCost_20 ?_
  refine q_ladd hx hb dX3_blockCost_21 ?_
  exact q_lret (wout := _) hx hb hr hlocks hAe hK () (hw.sub [3, 4, 0, 1, 2] (by decide) rfl) (rfl) dX3_blockCost_22
set_option maxHeartbeats 4000000 in
set_option maxRecDepth 100000 in
theorem c_X3_bestBlock (l : Launch) (D : va_G) (Z : Nat → ClassId) (sz : Nat) (Rn ex sc : Nat) (v : Nat → Nat) (a t w : Nat) (p z : Nat → Nat) (hn : 1 ≤ p 0 ∧ p 0 ≤ 8) (hal : 1 ≤ lf z (p 0) 0 ∧ lf z (p 0) 0 ≤ 24) (hv0 : v 0 = 0) (h9 : p 9 ≤ 99) (h10 : p 10 ≤ 99) : cMi l yX3_bestBlock wsX3_bestBlock (rmd 4) D Z sz [.ref Rn, .ref a] [(Rn, .inr (3, [.long (lN sc), .ref ex])), (ex, .inl (Z 1, 11, .inr (.inl (aL v)))), (a, .inr (2, [.ref t, .int (nI (p 9)), .int (nI (p 10)), .int (nI (p 11)), .int (nI (p 13)), .int (nI (p 14)), .int (nI (p 15)), .int (nI (p 16)), .int (nI (p 17)), .int (nI (p 12))])), (t, .inr (5, [.int (nI (p 0)), .ref w])), (w, .inl (Z 0, 9, .inl (aI z)))] (S := Unit) (fun (r : Int32) => fun (_ : Unit) => r = nI (bbk (p 9) (p 10) (eT z (p 0) 10 v) (lf z (p 0) 0 ^ 10))) (fun (_ : Unit) => [(Rn, .inr (3, [.long (lN (lf z (p 0) 0 ^ 10)), .ref ex])), (ex, .inl (Z 1, 11, .inr (.inl (aL (eT z (p 0) 10 v))))), (a, .inr (2, [.ref t, .int (nI (p 9)), .int (nI (p 10)), .int (nI (p 11)), .int (nI (p 13)), .int (nI (p 14)), .int (nI (p 15)), .int (nI (p 16)), .int (nI (p 17)), .int (nI (p 12))])), (t, .inr (5, [.int (nI (p 0)), .ref w])), (w, .inl (Z 0, 9, .inl (aI z)))]) 0 0 := by
  refine q_open (y := yX3_bestBlock) (ws := wsX3_bestBlock) (av := [.ref Rn, .ref a]) (win := [(Rn, .inr (3, [.long (lN sc), .ref ex])), (ex, .inl (Z 1, 11, .inr (.inl (aL v)))), (a, .inr (2, [.ref t, .int (nI (p 9)), .int (nI (p 10)), .int (nI (p 11)), .int (nI (p 13)), .int (nI (p 14)), .int (nI (p 15)), .int (nI (p 16)), .int (nI (p 17)), .int (nI (p 12))])), (t, .inr (5, [.int (nI (p 0)), .ref w])), (w, .inl (Z 0, 9, .inl (aI z)))]) (Qc := fun sz => cQi D Z sz [(Rn, .inr (3, [.long (lN sc), .ref ex])), (ex, .inl (Z 1, 11, .inr (.inl (aL v)))), (a, .inr (2, [.ref t, .int (nI (p 9)), .int (nI (p 10)), .int (nI (p 11)), .int (nI (p 13)), .int (nI (p 14)), .int (nI (p 15)), .int (nI (p 16)), .int (nI (p 17)), .int (nI (p 12))])), (t, .inr (5, [.int (nI (p 0)), .ref w])), (w, .inl (Z 0, 9, .inl (aI z)))] (S := Unit) (fun (r : Int32) => fun (_ : Unit) => r = nI (bbk (p 9) (p 10) (eT z (p 0) 10 v) (lf z (p 0) 0 ^ 10))) (fun (_ : Unit) => [(Rn, .inr (3, [.long (lN (lf z (p 0) 0 ^ 10)), .ref ex])), (ex, .inl (Z 1, 11, .inr (.inl (aL (eT z (p 0) 10 v))))), (a, .inr (2, [.ref t, .int (nI (p 9)), .int (nI (p 10)), .int (nI (p 11)), .int (nI (p 13)), .int (nI (p 14)), .int (nI (p 15)), .int (nI (p 16)), .int (nI (p 17)), .int (nI (p 12))])), (t, .inr (5, [.int (nI (p 0)), .ref w])), (w, .inl (Z 0, 9, .inl (aI z)))])) (cc := cX3_bestBlock) (maxL := 4) (ret := (some .int)) (by decide) rfl (Nat.le_of_ble_eq_true rfl) ?_
  intro pp ee s mm bw mt cd ls A H locs hAe hx hb hr hml hown hmn hts hlocks hA hK hw hl
  have hown : s.vm.findClass RX3 = some mm.cls := hown
  have hl : lv_has ls 4 [(0, .ref Rn), (1, .ref a)] := hl
  have wd1 := hts (.fieldLink RX3 49 "ReplaceAges$Plan" "table" "LReplaceAges$Table;") (List.mem_of_getElem? (i := 1) rfl)
  have in_X2 : ∀ w ∈ wsX20, w ∈ wsX3_bestBlock := fun _ h => List.mem_cons_of_mem _ (List.mem_append_left _ (List.mem_append_left _ (List.mem_append_right _ h)))
  refine lv_aload_n hx hb dX3_bestBlock_0 rfl (lv_at hl 0 rfl) ?_
  refine lv_aload_n hx hb dX3_bestBlock_1 rfl (lv_at hl 1 rfl) ?_
  refine q_get (v := .ref t) (ci := 2) hx hb hts in_X2 hown hK hw 2 0 wd1 dX3_bestBlock_2 rfl rfl (by decide) rfl ?_
  refine q_callv (S := Unit) (Z := Z) (D := D) (wc := [(Rn, .inr (3, [.long (lN sc), .ref ex])), (ex, .inl (Z 1, 11, .inr (.inl (aL v)))), (t, .inr (5, [.int (nI (p 0)), .ref w])), (w, .inl (Z 0, 9, .inl (aI z)))]) (wr := [(a, .inr (2, [.ref t, .int (nI (p 9)), .int (nI (p 10)), .int (nI (p 11)), .int (nI (p 13)), .int (nI (p 14)), .int (nI (p 15)), .int (nI (p 16)), .int (nI (p 17)), .int (nI (p 12))]))]) (rest := []) hw hA [0, 1, 3, 4] [2] rfl rfl rfl rfl (by decide) (fun hPc hDc => va_runV (As := [.ref t]) (rest := []) ⟨hx, hb, hml, hown, hts⟩ (c_X3_reckon l D Z H.size Rn ex sc v t w (p 0) z (by first | assumption | omega) (by first | assumption | omega) (by first | assumption | omega)) (cwV 1 hts gX3_bestBlock_X3_reckon rfl rfl rfl (by decide +kernel) ⟨Nat.le_of_ble_eq_true rfl, Nat.le_of_ble_eq_true rfl⟩) ⟨fb_cPre, va_recv hK.1 hPc (ci := 3) (q0 := 0) rfl rfl, pre_of hPc hK hDc⟩ rfl rfl hl.1 rfl (lv_room (Nat.le_of_ble_eq_true rfl)) dX3_bestBlock_5 ⟨Nat.le_of_ble_eq_true rfl, Nat.le_of_ble_eq_true rfl⟩) (fun u H locs hr1 hw => ?_)
  have hw : WS D A s [(a, .inr (2, [.ref t, .int (nI (p 9)), .int (nI (p 10)), .int (nI (p 11)), .int (nI (p 13)), .int (nI (p 14)), .int (nI (p 15)), .int (nI (p 16)), .int (nI (p 17)), .int (nI (p 12))])), (Rn, .inr (3, [.long (lN (lf z (p 0) 0 ^ 10)), .ref ex])), (ex, .inl (Z 1, 11, .inr (.inl (aL (eT z (p 0) 10 v))))), (t, .inr (5, [.int (nI (p 0)), .ref w])), (w, .inl (Z 0, 9, .inl (aI z)))] H locs := hw
  refine q_iconst (v := 1) hx hb dX3_bestBlock_8 (by decide) ?_
  refine lv_istore_n (lv' := [(2, .int (nI 1)), (0, .ref Rn), (1, .ref a)]) hx hb dX3_bestBlock_9 rfl hl (by decide) rfl (fun ls hl => ?_)
  refine q_iconst (v := 2) hx hb dX3_bestBlock_10 (by decide) ?_
  refine lv_istore_n (lv' := [(3, .int (nI 2)), (2, .int (nI 1)), (0, .ref Rn), (1, .ref a)]) hx hb dX3_bestBlock_11 rfl hl (by decide) rfl (fun ls hl => ?_)
  refine q_loop (σ := Nat) (fun (i : Nat) => 10 - i) (fun (i : Nat) => i ≤ 9) (fun (i : Nat) => [(a, .inr (2, [.ref t, .int (nI (p 9)), .int (nI (p 10)), .int (nI (p 11)), .int (nI (p 13)), .int (nI (p 14)), .int (nI (p 15)), .int (nI (p 16)), .int (nI (p 17)), .int (nI (p 12))])), (Rn, .inr (3, [.long (lN (lf z (p 0) 0 ^ 10)), .ref ex])), (ex, .inl (Z 1, 11, .inr (.inl (aL (eT z (p 0) 10 v))))), (t, .inr (5, [.int (nI (p 0)), .ref w])), (w, .inl (Z 0, 9, .inl (aI z)))]) (fun (i : Nat) => [(3, .int (nI (i + 2))), (2, .int (nI (bbs (p 9) (p 10) (eT z (p 0) 10 v) (lf z (p 0) 0 ^ 10) i))), (0, .ref Rn), (1, .ref a)]) 0 (Nat.zero_le _) hw (lv_sub hl [0, 1, 2, 3] rfl) ?_
  intro i H locs ls hi12 hw hl ih12
  try dsimp only at hi12 hw hl ih12
  have hw : WS D A s [(a, .inr (2, [.ref t, .int (nI (p 9)), .int (nI (p 10)), .int (nI (p 11)), .int (nI (p 13)), .int (nI (p 14)), .int (nI (p 15)), .int (nI (p 16)), .int (nI (p 17)), .int (nI (p 12))])), (Rn, .inr (3, [.long (lN (lf z (p 0) 0 ^ 10)), .ref ex])), (ex, .inl (Z 1, 11, .inr (.inl (aL (eT z (p 0) 10 v))))), (t, .inr (5, [.int (nI (p 0)), .ref w])), (w, .inl (Z 0, 9, .inl (aI z)))] H locs := hw
  have hl : lv_has ls 4 [(3, .int (nI (i + 2))), (2, .int (nI (bbs (p 9) (p 10) (eT z (p 0) 10 v) (lf z (p 0) 0 ^ 10) i))), (0, .ref Rn), (1, .ref a)] := hl
  have b0 := bbs_le (p 9) (p 10) (eT z (p 0) 10 v) (lf z (p 0) 0 ^ 10) i
  refine lv_iload_n hx hb dX3_bestBlock_12 rfl (lv_at hl 0 rfl) ?_
  refine q_bipush (v := 10) hx hb dX3_bestBlock_13 (by decide) ?_
  refine q_icmp_gt (tgt := 48) hx hb ((i + 2 : Nat) : Int) ((10 : Nat) : Int) (nI_toInt (by omega)) (nI_toInt (by omega)) dX3_bestBlock_15 (by decide) (fun c2 => ?_) (fun c2 => ?_)
  · --
    obtain rfl : i = 9 := by omega
    refine lv_iload_n hx hb dX3_bestBlock_48 rfl (lv_at hl 1 rfl) ?_
    exact q_iret (wout := _) hx hb hr hlocks hAe hK () (hw.sub [1, 2, 0, 3, 4] (by decide) rfl) (rfl) dX3_bestBlock_49
  · --
    have b1 := bkc_le hal hv0 h9 h10 (j := i + 2) (x := bbs (p 9) (p 10) (eT z (p 0) 10 v) (lf z (p 0) 0 ^ 10) i) (by omega) (by omega)
    have b2 := bkc_le hal hv0 h9 h10 (j := bbs (p 9) (p 10) (eT z (p 0) 10 v) (lf z (p 0) 0 ^ 10) i) (x := i + 2) (by omega) (by omega)
    refine lv_aload_n hx hb dX3_bestBlock_18 rfl (lv_at hl 2 rfl) ?_
    refine lv_iload_n hx hb dX3_bestBlock_19 rfl (lv_at hl 0 rfl) ?_
    refine lv_aload_n hx hb dX3_bestBlock_20 rfl (lv_at hl 3 rfl) ?_
    refine q_calll (S := Unit) (Z := Z) (D := D) (wc := [(Rn, .inr (3, [.long (lN (lf z (p 0) 0 ^ 10)), .ref ex])), (ex, .inl (Z 1, 11, .inr (.inl (aL (eT z (p 0) 10 v))))), (a, .inr (2, [.ref t, .int (nI (p 9)), .int (nI (p 10)), .int (nI (p 11)), .int (nI (p 13)), .int (nI (p 14)), .int (nI (p 15)), .int (nI (p 16)), .int (nI (p 17)), .int (nI (p 12))])), (t, .inr (5, [.int (nI (p 0)), .ref w])), (w, .inl (Z 0, 9, .inl (aI z)))]) (wr := []) (rest := []) hw hA [1, 2, 0, 3, 4] [] rfl rfl rfl rfl (by decide) (fun hPc hDc => va_runV (As := [.int (nI (i + 2)), .ref a]) (rest := []) ⟨hx, hb, hml, hown, hts⟩ (c_X3_blockCost l D Z H.size Rn ex (lf z (p 0) 0 ^ 10) (eT z (p 0) 10 v) a t w p z (i + 2) (by first | assumption | omega) (by first | assumption | omega) (by first | assumption | omega)) (cwV 2 hts gX3_bestBlock_X3_blockCost rfl rfl rfl (by decide +kernel) ⟨Nat.le_of_ble_eq_true rfl, Nat.le_of_ble_eq_true rfl⟩) ⟨fb_cPre, va_recv hK.1 hPc (ci := 3) (q0 := 0) rfl rfl, pre_of hPc hK hDc⟩ rfl rfl hl.1 rfl (lv_room (Nat.le_of_ble_eq_true rfl)) dX3_bestBlock_21 ⟨Nat.le_of_ble_eq_true rfl, Nat.le_of_ble_eq_true rfl⟩) (fun r3 u H locs hr3 hw => ?_)
    subst hr3
    have hw : WS D A s [(Rn, .inr (3, [.long (lN (lf z (p 0) 0 ^ 10)), .ref ex])), (ex, .inl (Z 1, 11, .inr (.inl (aL (eT z (p 0) 10 v))))), (a, .inr (2, [.ref t, .int (nI (p 9)), .int (nI (p 10)), .int (nI (p 11)), .int (nI (p 13)), .int (nI (p 14)), .int (nI (p 15)), .int (nI (p 16)), .int (nI (p 17)), .int (nI (p 12))])), (t, .inr (5, [.int (nI (p 0)), .ref w])), (w, .inl (Z 0, 9, .inl (aI z)))] H locs := hw
    refine lv_iload_n hx hb dX3_bestBlock_24 rfl (lv_at hl 1 rfl) ?_
    refine q_i2l hx hb (by omega) dX3_bestBlock_25 ?_
    refine q_lmul hx hb dX3_bestBlock_26 ?_
    refine lv_aload_n hx hb dX3_bestBlock_27 rfl (lv_at hl 2 rfl) ?_
    refine lv_iload_n hx hb dX3_bestBlock_28 rfl (lv_at hl 1 rfl) ?_
    refine lv_aload_n hx hb dX3_bestBlock_29 rfl (lv_at hl 3 rfl) ?_
    refine q_calll (S := Unit) (Z := Z) (D := D) (wc := [(Rn, .inr (3, [.long (lN (lf z (p 0) 0 ^ 10)), .ref ex])), (ex, .inl (Z 1, 11, .inr (.inl (aL (eT z (p 0) 10 v))))), (a, .inr (2, [.ref t, .int (nI (p 9)), .int (nI (p 10)), .int (nI (p 11)), .int (nI (p 13)), .int (nI (p 14)), .int (nI (p 15)), .int (nI (p 16)), .int (nI (p 17)), .int (nI (p 12))])), (t, .inr (5, [.int (nI (p 0)), .ref w])), (w, .inl (Z 0, 9, .inl (aI z)))]) (wr := []) (rest := [.long (lN ((bkc (p 9) (p 10) (eT z (p 0) 10 v) (lf z (p 0) 0 ^ 10) (i + 2)) * (bbs (p 9) (p 10) (eT z (p 0) 10 v) (lf z (p 0) 0 ^ 10) i)))]) hw hA [0, 1, 2, 3, 4] [] rfl rfl rfl rfl (by decide) (fun hPc hDc => va_runV (As := [.int (nI (bbs (p 9) (p 10) (eT z (p 0) 10 v) (lf z (p 0) 0 ^ 10) i)), .ref a]) (rest := [.long (lN ((bkc (p 9) (p 10) (eT z (p 0) 10 v) (lf z (p 0) 0 ^ 10) (i + 2)) * (bbs (p 9) (p 10) (eT z (p 0) 10 v) (lf z (p 0) 0 ^ 10) i)))]) ⟨hx, hb, hml, hown, hts⟩ (c_X3_blockCost l D Z H.size Rn ex (lf z (p 0) 0 ^ 10) (eT z (p 0) 10 v) a t w p z (bbs (p 9) (p 10) (eT z (p 0) 10 v) (lf z (p 0) 0 ^ 10) i) (by first | assumption | omega) (by first | assumption | omega) (by first | assumption | omega)) (cwV 2 hts gX3_bestBlock_X3_blockCost rfl rfl rfl (by decide +kernel) ⟨Nat.le_of_ble_eq_true rfl, Nat.le_of_ble_eq_true rfl⟩) ⟨fb_cPre, va_recv hK.1 hPc (ci := 3) (q0 := 0) rfl rfl, pre_of hPc hK hDc⟩ rfl rfl hl.1 rfl (lv_room (Nat.le_of_ble_eq_true rfl)) dX3_bestBlock_30 ⟨Nat.le_of_ble_eq_true rfl, Nat.le_of_ble_eq_true rfl⟩) (fun r4 u H locs hr4 hw => ?_)
    subst hr4
    have hw : WS D A s [(Rn, .inr (3, [.long (lN (lf z (p 0) 0 ^ 10)), .ref ex])), (ex, .inl (Z 1, 11, .inr (.inl (aL (eT z (p 0) 10 v))))), (a, .inr (2, [.ref t, .int (nI (p 9)), .int (nI (p 10)), .int (nI (p 11)), .int (nI (p 13)), .int (nI (p 14)), .int (nI (p 15)), .int (nI (p 16)), .int (nI (p 17)), .int (nI (p 12))])), (t, .inr (5, [.int (nI (p 0)), .ref w])), (w, .inl (Z 0, 9, .inl (aI z)))] H locs := hw
    refine lv_iload_n hx hb dX3_bestBlock_33 rfl (lv_at hl 0 rfl) ?_
    refine q_i2l hx hb (by omega) dX3_bestBlock_34 ?_
    refine q_lmul hx hb dX3_bestBlock_35 ?_
    refine q_lc_ge (tgt := 42) hx hb (((bkc (p 9) (p 10) (eT z (p 0) 10 v) (lf z (p 0) 0 ^ 10) (i + 2)) * (bbs (p 9) (p 10) (eT z (p 0) 10 v) (lf z (p 0) 0 ^ 10) i) : Nat) : Int) (((bkc (p 9) (p 10) (eT z (p 0) 10 v) (lf z (p 0) 0 ^ 10) (bbs (p 9) (p 10) (eT z (p 0) 10 v) (lf z (p 0) 0 ^ 10) i)) * (i + 2) : Nat) : Int) (pk_lT (by first | omega | assumption)) (pk_lT (by first | omega | assumption)) dX3_bestBlock_36 dX3_bestBlock_37 (by decide) (fun c5 => ?_) (fun c5 => ?_)
    · --
      refine lv_iinc (v := nI (i + 2 + 1)) (lv' := [(3, .int (nI (i + 2 + 1))), (2, .int (nI (bbs (p 9) (p 10) (eT z (p 0) 10 v) (lf z (p 0) 0 ^ 10) i))), (0, .ref Rn), (1, .ref a)]) hx hb dX3_bestBlock_42 hl (k := 0) rfl (nI_add _ _) (by decide) rfl (fun ls hl => ?_)
      refine lv_goto (tgt := 12) hx hb dX3_bestBlock_45 (by decide) ?_
      have hl : lv_has ls 4 [(3, .int (nI (i + 2 + 1))), (2, .int (nI (bbs (p 9) (p 10) (eT z (p 0) 10 v) (lf z (p 0) 0 ^ 10) (i + 1)))), (0, .ref Rn), (1, .ref a)] := by rw [show (bbs (p 9) (p 10) (eT z (p 0) 10 v) (lf z (p 0) 0 ^ 10) (i + 1) : Nat) = bbs (p 9) (p 10) (eT z (p 0) 10 v) (lf z (p 0) 0 ^ 10) i from by simp only [bbs]; first | rw [if_pos (by omega)] | rw [if_neg (by omega)]]; exact hl
      exact ih12 (i + 1) H locs ls (by omega) (by omega) (hw.sub [2, 0, 1, 3, 4] (by decide) rfl) (lv_sub hl [0, 1, 2, 3] rfl)
    · --
      refine lv_iload_n hx hb dX3_bestBlock_40 rfl (lv_at hl 0 rfl) ?_
      refine lv_istore_n (lv' := [(2, .int (nI (i + 2))), (3, .int (nI (i + 2))), (0, .ref Rn), (1, .ref a)]) hx hb dX3_bestBlock_41 rfl hl (by decide) rfl (fun ls hl => ?_)
      refine lv_iinc (v := nI (i + 2 + 1)) (lv' := [(3, .int (nI (i + 2 + 1))), (2, .int (nI (i + 2))), (0, .ref Rn), (1, .ref a)]) hx hb dX3_bestBlock_42 hl (k := 1) rfl (nI_add _ _) (by decide) rfl (fun ls hl => ?_)
      refine lv_goto (tgt := 12) hx hb dX3_bestBlock_45 (by decide) ?_
      have hl : lv_has ls 4 [(3, .int (nI (i + 2 + 1))), (2, .int (nI (bbs (p 9) (p 10) (eT z (p 0) 10 v) (lf z (p 0) 0 ^ 10) (i + 1)))), (0, .ref Rn), (1, .ref a)] := by rw [show (bbs (p 9) (p 10) (eT z (p 0) 10 v) (lf z (p 0) 0 ^ 10) (i + 1) : Nat) = i + 2 from by simp only [bbs]; first | rw [if_pos (by omega)] | rw [if_neg (by omega)]]; exact hl
      exact ih12 (i + 1) H locs ls (by omega) (by omega) (hw.sub [2, 0, 1, 3, 4] (by decide) rfl) (lv_sub hl [0, 1, 2, 3] rfl)
