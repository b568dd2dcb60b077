/-- a row whose first i places are told by g -/
def seg (g : Nat → Nat) (i : Nat) (K : Nat → Nat) : Nat → Nat := fun k => if k < i then g k else K k
theorem seg_0 (g K : Nat → Nat) : seg g 0 K = K := by funext k; simp [seg]
theorem seg_up (g : Nat → Nat) (i : Nat) (K : Nat → Nat) : va_up (seg g i K) i (g i) = seg g (i + 1) K := by
  funext k; simp only [va_up, seg]
  by_cases h : k = i
  · rw [if_pos h, if_pos (by omega), h]
  · rw [if_neg h]
    by_cases h2 : k < i
    · rw [if_pos h2, if_pos (by omega)]
    · rw [if_neg h2, if_neg (by omega)]
theorem seg_in {g K : Nat → Nat} {i k : Nat} (h : k < i) : seg g i K k = g k := if_pos h
theorem seg_out {g K : Nat → Nat} {i k : Nat} (h : i ≤ k) : seg g i K k = K k := if_neg (by omega)
/-- keeping, replacing, the least of both, one period more ahead -/
def kpf (z : Nat → Nat) (n f : Nat) (C : Nat → Nat) (sc k : Nat) : Nat := z (k + 1) * (f * sc + C 0) + lf z n 0 * C (k + 1)
def rpf (z : Nat → Nat) (n f c : Nat) (C : Nat → Nat) (sc : Nat) : Nat := c * sc + kpf z n f C sc 0 / lf z n 0
def cpf (z : Nat → Nat) (n f c : Nat) (C : Nat → Nat) (sc k : Nat) : Nat := min (kpf z n f C sc k) (lf z n k * rpf z n f c C sc)
theorem kpf_le0 {z C : Nat → Nat} {n f sc B : Nat} (hal : lf z n 0 ≤ 24) (hf : f ≤ 99) (hC : ∀ k, C k ≤ B) (k : Nat) (h : k < n) : kpf z n f C sc k ≤ 24 * (99 * sc + B) + 24 * B := by
  have h1 : z (k + 1) ≤ 24 := Nat.le_trans (z_le (n := n) (by omega)) hal
  have h2 : f * sc ≤ 99 * sc := Nat.mul_le_mul_right _ hf
  have h3 := hC 0
  exact Nat.add_le_add (Nat.mul_le_mul h1 (by omega)) (Nat.mul_le_mul hal (hC (k + 1)))
set_option maxRecDepth 100000 in
theorem kpf_le {z C : Nat → Nat} {n f sc : Nat} (_hn : n ≤ 8) (hal : lf z n 0 ≤ 24) (hf : f ≤ 99) (hsc : sc ≤ 331776) (hC : ∀ k, C k ≤ 20000000000) (k : Nat) (h : k < n) : kpf z n f C (sc * lf z n 0) k ≤ 1000000000000 := by
  have h1 : sc * lf z n 0 ≤ 331776 * 24 := Nat.mul_le_mul hsc hal
  refine Nat.le_trans (kpf_le0 (sc := sc * lf z n 0) hal hf hC k h) (Nat.le_trans (Nat.add_le_add_right (Nat.mul_le_mul_left 24 (Nat.add_le_add_right (Nat.mul_le_mul_left 99 h1) _)) _) (by decide))
set_option maxRecDepth 100000 in
theorem rpf_le {z C : Nat → Nat} {n f c sc : Nat} (hn : n ≤ 8) (hal : lf z n 0 ≤ 24) (hf : f ≤ 99) (hc : c ≤ 99) (hsc : sc ≤ 331776) (hC : ∀ k, C k ≤ 20000000000) : rpf z n f c C (sc * lf z n 0) ≤ 2000000000000 := by
  have h1 : sc * lf z n 0 ≤ 331776 * 24 := Nat.mul_le_mul hsc hal
  have h2 : c * (sc * lf z n 0) ≤ 99 * (331776 * 24) := Nat.mul_le_mul hc h1
  have h3 : kpf z n f C (sc * lf z n 0) 0 / lf z n 0 ≤ 1000000000000 := by
    rcases Nat.eq_zero_or_pos n with h | h
    · subst h; simp [lf, sm]
    · exact Nat.le_trans (Nat.div_le_self _ _) (kpf_le hn hal hf hsc hC 0 h)
  unfold rpf; omega
/-- LEAST's rows behind h periods -/
def cT (z : Nat → Nat) (n f c : Nat) : Nat → Nat → Nat
  | 0 => fun _ => 0
  | h + 1 => seg (cpf z n f c (cT z n f c h) (lf z n 0 ^ h * lf z n 0)) n (cT z n f c h)
def kT (z : Nat → Nat) (n f c : Nat) : Nat → Nat → Nat
  | 0 => fun _ => 0
  | h + 1 => seg (kpf z n f (cT z n f c h) (lf z n 0 ^ h * lf z n 0)) n (kT z n f c h)
def rT (z : Nat → Nat) (n f c : Nat) : Nat → Nat
  | 0 => 0
  | h + 1 => rpf z n f c (cT z n f c h) (lf z n 0 ^ h * lf z n 0)
def cB : Nat → Nat
  | 0 => 0
  | h + 1 => 24 * (99 * 24 ^ (h + 1) + cB h) + 24 * cB h
theorem cB_mono (h : Nat) : cB h ≤ cB (h + 1) := by simp only [cB]; omega
theorem cB_le {h k : Nat} (hk : h ≤ k) : cB h ≤ cB k := by
  induction k with
  | zero => rw [Nat.le_zero.mp hk]; exact Nat.le_refl _
  | succ k ih =>
    rcases Nat.lt_or_ge h (k + 1) with q | q
    · exact Nat.le_trans (ih (by omega)) (cB_mono k)
    · rw [show h = k + 1 by omega]; exact Nat.le_refl _
theorem cT_le0 {z : Nat → Nat} {n f c : Nat} (hal : lf z n 0 ≤ 24) (hf : f ≤ 99) : ∀ h k, cT z n f c h k ≤ cB h := by
  intro h
  induction h with
  | zero => intro k; simp [cT, cB]
  | succ h ih =>
    intro k
    simp only [cT]
    by_cases hk : k < n
    · rw [seg_in hk]
      refine Nat.le_trans (Nat.min_le_left _ _) (Nat.le_trans (kpf_le0 hal hf ih k hk) ?_)
      have : lf z n 0 ^ h * lf z n 0 ≤ 24 ^ (h + 1) := Nat.mul_le_mul (Nat.pow_le_pow_left hal h) hal
      simp only [cB]; omega
    · rw [seg_out (by omega)]; exact Nat.le_trans (ih k) (cB_mono h)
theorem cT_le {z : Nat → Nat} {n f c : Nat} (_hn : n ≤ 8) (hal : lf z n 0 ≤ 24) (hf : f ≤ 99) (_hc : c ≤ 99) {h : Nat} (hh : h ≤ 4) : ∀ k, cT z n f c h k ≤ 20000000000 := fun k => Nat.le_trans (cT_le0 hal hf h k) (Nat.le_trans (cB_le hh) (by decide))
set_option maxHeartbeats 4000000 in
set_option maxRecDepth 100000 in
theorem c_X0_addPeriodAhead (l : Launch) (D : va_G) (Z : Nat → ClassId) (sz : Nat) (Ol ke co sc re : Nat) (K C : Nat → Nat) (a t w : Nat) (p z : Nat → Nat) (hn : 1 ≤ p 0 ∧ p 0 ≤ 8) (hal : 1 ≤ lf z (p 0) 0 ∧ lf z (p 0) 0 ≤ 24) (h9 : p 9 ≤ 99) (h10 : p 10 ≤ 99) (hsc : sc ≤ 331776) (hC : ∀ k, C k ≤ 20000000000) : cMv l yX0_addPeriodAhead wsX0_addPeriodAhead (rmd 3) D Z sz [.ref Ol, .ref a] [(Ol, .inr (0, [.long (lN sc), .ref ke, .long (lN re), .ref co])), (ke, .inl (Z 1, 9, .inr (.inl (aL K)))), (co, .inl (Z 1, 9, .inr (.inl (aL C)))), (a, .inr (2, [.ref t, .int (nI (p 9)), .int (nI (p 10)), .int (nI (p 11)), .int (nI (p 13)), .int (nI (p 14)), .int (nI (p 15)), .int (nI (p 16)), .int (nI (p 17)), .int (nI (p 12))])), (t, .inr (5, [.int (nI (p 0)), .ref w])), (w, .inl (Z 0, 9, .inl (aI z)))] (S := Unit) (fun (_ : Unit) => True) (fun (_ : Unit) => [(Ol, .inr (0, [.long (lN (sc * lf z (p 0) 0)), .ref ke, .long (lN (rpf z (p 0) (p 9) (p 10) C (sc * lf z (p 0) 0))), .ref co])), (ke, .inl (Z 1, 9, .inr (.inl (aL (seg (kpf z (p 0) (p 9) C (sc * lf z (p 0) 0)) (p 0) K))))), (co, .inl (Z 1, 9, .inr (.inl (aL (seg (cpf z (p 0) (p 9) (p 10) C (sc * lf z (p 0) 0)) (p 0) C))))), (a, .inr (2, [.ref t, .int (nI (p 9)), .int (nI (p 10)), .int (nI (p 11)), .int (nI (p 13)), .int (nI (p 14)), .int (nI (p 15)), .int (nI (p 16)), .int (nI (p 17)), .int (nI (p 12))])), (t, .inr (5, [.int (nI (p 0)), .ref w])), (w, .inl (Z 0, 9, .inl (aI z)))]) 0 0 := by
  refine q_open (y := yX0_addPeriodAhead) (ws := wsX0_addPeriodAhead) (av := [.ref Ol, .ref a]) (win := [(Ol, .inr (0, [.long (lN sc), .ref ke, .long (lN re), .ref co])), (ke, .inl (Z 1, 9, .inr (.inl (aL K)))), (co, .inl (Z 1, 9, .inr (.inl (aL C)))), (a, .inr (2, [.ref t, .int (nI (p 9)), .int (nI (p 10)), .int (nI (p 11)), .int (nI (p 13)), .int (nI (p 14)), .int (nI (p 15)), .int (nI (p 16)), .int (nI (p 17)), .int (nI (p 12))])), (t, .inr (5, [.int (nI (p 0)), .ref w])), (w, .inl (Z 0, 9, .inl (aI z)))]) (Qc := fun sz => cQv D Z sz [(Ol, .inr (0, [.long (lN sc), .ref ke, .long (lN re), .ref co])), (ke, .inl (Z 1, 9, .inr (.inl (aL K)))), (co, .inl (Z 1, 9, .inr (.inl (aL C)))), (a, .inr (2, [.ref t, .int (nI (p 9)), .int (nI (p 10)), .int (nI (p 11)), .int (nI (p 13)), .int (nI (p 14)), .int (nI (p 15)), .int (nI (p 16)), .int (nI (p 17)), .int (nI (p 12))])), (t, .inr (5, [.int (nI (p 0)), .ref w])), (w, .inl (Z 0, 9, .inl (aI z)))] (S := Unit) (fun (_ : Unit) => True) (fun (_ : Unit) => [(Ol, .inr (0, [.long (lN (sc * lf z (p 0) 0)), .ref ke, .long (lN (rpf z (p 0) (p 9) (p 10) C (sc * lf z (p 0) 0))), .ref co])), (ke, .inl (Z 1, 9, .inr (.inl (aL (seg (kpf z (p 0) (p 9) C (sc * lf z (p 0) 0)) (p 0) K))))), (co, .inl (Z 1, 9, .inr (.inl (aL (seg (cpf z (p 0) (p 9) (p 10) C (sc * lf z (p 0) 0)) (p 0) C))))), (a, .inr (2, [.ref t, .int (nI (p 9)), .int (nI (p 10)), .int (nI (p 11)), .int (nI (p 13)), .int (nI (p 14)), .int (nI (p 15)), .int (nI (p 16)), .int (nI (p 17)), .int (nI (p 12))])), (t, .inr (5, [.int (nI (p 0)), .ref w])), (w, .inl (Z 0, 9, .inl (aI z)))])) (cc := cX0_addPeriodAhead) (maxL := 6) (ret := none) (by decide) rfl (Nat.le_of_ble_eq_true rfl) ?_
  intro pp ee s mm bw mt cd ls A H locs hAe hx hb hr hml hown hmn hts hlocks hA hK hw hl
  have hown : s.vm.findClass RX0 = some mm.cls := hown
  have hl : lv_has ls 6 [(0, .ref Ol), (1, .ref a)] := hl
  have wd1 := hts (.fieldLink RX0 35 "ReplaceAges$Plan" "table" "LReplaceAges$Table;") (List.mem_of_getElem? (i := 1) rfl)
  have wd2 := hts (.fieldLink RX0 9 "ReplaceAges$Outlook" "scale" "J") (List.mem_of_getElem? (i := 2) rfl)
  have wd3 := hts (.fieldLink RX0 47 "ReplaceAges$Table" "n" "I") (List.mem_of_getElem? (i := 3) rfl)
  have wd7 := hts (.fieldLink RX0 58 "ReplaceAges$Plan" "change" "I") (List.mem_of_getElem? (i := 7) rfl)
  have wd5 := hts (.fieldLink RX0 15 "ReplaceAges$Outlook" "keeping" "[J") (List.mem_of_getElem? (i := 5) rfl)
  have wd8 := hts (.fieldLink RX0 22 "ReplaceAges$Outlook" "replacing" "J") (List.mem_of_getElem? (i := 8) rfl)
  have wd4 := hts (.fieldLink RX0 19 "ReplaceAges$Outlook" "costs" "[J") (List.mem_of_getElem? (i := 4) rfl)
  have wd9 := hts (.methodLink RX0 64 Lib.MathLoose.min_long.x) (List.mem_of_getElem? (i := 9) rfl)
  have wd10 := hts (.static Lib.MathLoose.min_long.x) (List.mem_of_getElem? (i := 10) rfl)
  have wd11 := hts (.initialized "java/lang/Math") (List.mem_of_getElem? (i := 11) rfl)
  have wd12 := hts (.code Lib.MathLoose.min_long.x Lib.MathLoose.min_long.code 4 (some .long)) (List.mem_of_getElem? (i := 12) rfl)
  have wd6 := hts (.fieldLink RX0 55 "ReplaceAges$Plan" "failure" "I") (List.mem_of_getElem? (i := 6) rfl)
  have in_X2 : ∀ w ∈ wsX20, w ∈ wsX0_addPeriodAhead := fun _ h => List.mem_cons_of_mem _ (List.mem_append_left _ (List.mem_append_left _ (List.mem_append_right _ h)))
  have in_X0 : ∀ w ∈ wsX00, w ∈ wsX0_addPeriodAhead := fun _ h => List.mem_cons_of_mem _ (List.mem_append_left _ (List.mem_append_right _ h))
  have in_X5 : ∀ w ∈ wsX50, w ∈ wsX0_addPeriodAhead := fun _ h => List.mem_cons_of_mem _ (List.mem_append_right _ h)
  have hkb := kpf_le hn.2 hal.2 h9 hsc hC (z := z)
  have hrb := rpf_le hn.2 hal.2 h9 h10 hsc hC (z := z)
  refine lv_aload_n hx hb dX0_addPeriodAhead_0 rfl (lv_at hl 1 rfl) ?_
  refine q_get (v := .ref t) (ci := 2) hx hb hts in_X2 hown hK hw 3 0 wd1 dX0_addPeriodAhead_1 rfl rfl (by decide) rfl ?_
  refine lv_astore_n (lv' := [(2, .ref t), (0, .ref Ol), (1, .ref a)]) hx hb dX0_addPeriodAhead_4 rfl hl (by decide) rfl (fun ls hl => ?_)
  refine lv_aload_n hx hb dX0_addPeriodAhead_5 rfl (lv_at hl 0 rfl) ?_
  refine q_calli (S := Unit) (Z := Z) (D := D) (wc := [(t, .inr (5, [.int (nI (p 0)), .ref w])), (w, .inl (Z 0, 9, .inl (aI z)))]) (wr := [(Ol, .inr (0, [.long (lN sc), .ref ke, .long (lN re), .ref co])), (ke, .inl (Z 1, 9, .inr (.inl (aL K)))), (co, .inl (Z 1, 9, .inr (.inl (aL C)))), (a, .inr (2, [.ref t, .int (nI (p 9)), .int (nI (p 10)), .int (nI (p 11)), .int (nI (p 13)), .int (nI (p 14)), .int (nI (p 15)), .int (nI (p 16)), .int (nI (p 17)), .int (nI (p 12))]))]) (rest := []) hw hA [4, 5] [0, 1, 2, 3] rfl rfl rfl rfl (by decide) (fun hPc hDc => va_runV (As := []) (rest := []) ⟨hx, hb, hml, hown, hts⟩ (c_X5_all l D Z H.size t w (p 0) z (by first | assumption | omega)) (cwV 0 hts gX0_addPeriodAhead_X5_all rfl rfl rfl (by decide +kernel) ⟨Nat.le_of_ble_eq_true rfl, Nat.le_of_ble_eq_true rfl⟩) ⟨fb_cPre, va_recv hK.1 hPc (ci := 5) (q0 := 0) rfl rfl, pre_of hPc hK hDc⟩ rfl rfl hl.1 rfl (lv_room (Nat.le_of_ble_eq_true rfl)) dX0_addPeriodAhead_6 ⟨Nat.le_of_ble_eq_true rfl, Nat.le_of_ble_eq_true rfl⟩) (fun r1 u H locs hr1 hw => ?_)
  subst hr1
  have hw : WS D A s [(Ol, .inr (0, [.long (lN sc), .ref ke, .long (lN re), .ref co])), (ke, .inl (Z 1, 9, .inr (.inl (aL K)))), (co, .inl (Z 1, 9, .inr (.inl (aL C)))), (a, .inr (2, [.ref t, .int (nI (p 9)), .int (nI (p 10)), .int (nI (p 11)), .int (nI (p 13)), .int (nI (p 14)), .int (nI (p 15)), .int (nI (p 16)), .int (nI (p 17)), .int (nI (p 12))])), (t, .inr (5, [.int (nI (p 0)), .ref w])), (w, .inl (Z 0, 9, .inl (aI z)))] H locs := hw
  refine q_i2l hx hb (by omega) dX0_addPeriodAhead_9 ?_
  refine lv_lstore_n (lv' := [(3, .long (lN (lf z (p 0) 0))), (2, .ref t), (0, .ref Ol), (1, .ref a)]) hx hb dX0_addPeriodAhead_10 rfl hl (by decide) rfl (fun ls hl => ?_)
  refine lv_aload_n hx hb dX0_addPeriodAhead_11 rfl (lv_at hl 2 rfl) ?_
  refine lv_dup hx hb dX0_addPeriodAhead_12 rfl ?_
  refine q_get (v := .long (lN sc)) (ci := 0) hx hb hts in_X0 hown hK hw 0 0 wd2 dX0_addPeriodAhead_13 rfl rfl (by decide) rfl ?_
  refine lv_lload_n hx hb dX0_addPeriodAhead_16 rfl (lv_at hl 0 rfl) ?_
  refine q_lmul hx hb dX0_addPeriodAhead_17 ?_
  refine q_put (v := .long (lN (sc * (lf z (p 0) 0)))) (ci := 0) hx hb hts in_X0 tyX0 tyX0_ok nmX0 hown hK hw 0 0 wd2 dX0_addPeriodAhead_18 rfl rfl (by decide) rfl rfl rfl (Nat.le_of_ble_eq_true rfl) (fun H locs hw => ?_)
  have hw : WS D A s [(Ol, .inr (0, [.long (lN (sc * (lf z (p 0) 0))), .ref ke, .long (lN re), .ref co])), (ke, .inl (Z 1, 9, .inr (.inl (aL K)))), (co, .inl (Z 1, 9, .inr (.inl (aL C)))), (a, .inr (2, [.ref t, .int (nI (p 9)), .int (nI (p 10)), .int (nI (p 11)), .int (nI (p 13)), .int (nI (p 14)), .int (nI (p 15)), .int (nI (p 16)), .int (nI (p 17)), .int (nI (p 12))])), (t, .inr (5, [.int (nI (p 0)), .ref w])), (w, .inl (Z 0, 9, .inl (aI z)))] H locs := hw
  refine q_iconst (v := 0) hx hb dX0_addPeriodAhead_21 (by decide) ?_
  refine lv_istore (lv' := [(5, .int (nI 0)), (3, .long (lN (lf z (p 0) 0))), (2, .ref t), (0, .ref Ol), (1, .ref a)]) hx hb dX0_addPeriodAhead_22 hl (by decide) rfl (fun ls hl => ?_)
  have hw : WS D A s [(Ol, .inr (0, [.long (lN (sc * (lf z (p 0) 0))), .ref ke, .long (lN re), .ref co])), (ke, .inl (Z 1, 9, .inr (.inl (aL (seg (kpf z (p 0) (p 9) C (sc * lf z (p 0) 0)) 0 K))))), (co, .inl (Z 1, 9, .inr (.inl (aL C)))), (a, .inr (2, [.ref t, .int (nI (p 9)), .int (nI (p 10)), .int (nI (p 11)), .int (nI (p 13)), .int (nI (p 14)), .int (nI (p 15)), .int (nI (p 16)), .int (nI (p 17)), .int (nI (p 12))])), (t, .inr (5, [.int (nI (p 0)), .ref w])), (w, .inl (Z 0, 9, .inl (aI z)))] H locs := by rw [show (seg (kpf z (p 0) (p 9) C (sc * lf z (p 0) 0)) 0 K) = K from seg_0 _ _]; exact hw
  refine q_loop (σ := Nat) (fun (i : Nat) => p 0 - i) (fun (i : Nat) => i ≤ p 0) (fun (i : Nat) => [(Ol, .inr (0, [.long (lN (sc * lf z (p 0) 0)), .ref ke, .long (lN re), .ref co])), (ke, .inl (Z 1, 9, .inr (.inl (aL (seg (kpf z (p 0) (p 9) C (sc * lf z (p 0) 0)) i K))))), (co, .inl (Z 1, 9, .inr (.inl (aL C)))), (a, .inr (2, [.ref t, .int (nI (p 9)), .int (nI (p 10)), .int (nI (p 11)), .int (nI (p 13)), .int (nI (p 14)), .int (nI (p 15)), .int (nI (p 16)), .int (nI (p 17)), .int (nI (p 12))])), (t, .inr (5, [.int (nI (p 0)), .ref w])), (w, .inl (Z 0, 9, .inl (aI z)))]) (fun (i : Nat) => [(5, .int (nI i)), (3, .long (lN (lf z (p 0) 0))), (2, .ref t), (0, .ref Ol), (1, .ref a)]) 0 (Nat.zero_le _) hw (lv_sub hl [0, 1, 2, 3, 4] rfl) ?_
  intro i H locs ls hi24 hw hl ih24
  try dsimp only at hi24 hw hl ih24
  have hw : WS D A s [(Ol, .inr (0, [.long (lN (sc * lf z (p 0) 0)), .ref ke, .long (lN re), .ref co])), (ke, .inl (Z 1, 9, .inr (.inl (aL (seg (kpf z (p 0) (p 9) C (sc * lf z (p 0) 0)) i K))))), (co, .inl (Z 1, 9, .inr (.inl (aL C)))), (a, .inr (2, [.ref t, .int (nI (p 9)), .int (nI (p 10)), .int (nI (p 11)), .int (nI (p 13)), .int (nI (p 14)), .int (nI (p 15)), .int (nI (p 16)), .int (nI (p 17)), .int (nI (p 12))])), (t, .inr (5, [.int (nI (p 0)), .ref w])), (w, .inl (Z 0, 9, .inl (aI z)))] H locs := hw
  have hl : lv_has ls 6 [(5, .int (nI i)), (3, .long (lN (lf z (p 0) 0))), (2, .ref t), (0, .ref Ol), (1, .ref a)] := hl
  refine lv_iload hx hb dX0_addPeriodAhead_24 (lv_at hl 0 rfl) ?_
  refine lv_aload_n hx hb dX0_addPeriodAhead_26 rfl (lv_at hl 2 rfl) ?_
  refine q_get (v := .int (nI (p 0))) (ci := 5) hx hb hts in_X5 hown hK hw 4 0 wd3 dX0_addPeriodAhead_27 rfl rfl (by decide) rfl ?_
  refine q_icmp_ge (tgt := 97) hx hb ((i : Nat) : Int) ((p 0 : Nat) : Int) (nI_toInt (by omega)) (nI_toInt (by omega)) dX0_addPeriodAhead_30 (by decide) (fun c2 => ?_) (fun c2 => ?_)
  · --
    obtain rfl : i = p 0 := by omega
    refine lv_aload_n hx hb dX0_addPeriodAhead_97 rfl (lv_at hl 3 rfl) ?_
    refine lv_aload_n hx hb dX0_addPeriodAhead_98 rfl (lv_at hl 4 rfl) ?_
    refine q_get (v := .int (nI (p 10))) (ci := 2) hx hb hts in_X2 hown hK hw 3 2 wd7 dX0_addPeriodAhead_99 rfl rfl (by decide) rfl ?_
    refine q_i2l hx hb (by omega) dX0_addPeriodAhead_102 ?_
    refine lv_aload_n hx hb dX0_addPeriodAhead_103 rfl (lv_at hl 3 rfl) ?_
    refine q_get (v := .long (lN (sc * lf z (p 0) 0))) (ci := 0) hx hb hts in_X0 hown hK hw 0 0 wd2 dX0_addPeriodAhead_104 rfl rfl (by decide) rfl ?_
    refine q_lmul hx hb dX0_addPeriodAhead_107 ?_
    refine lv_lload_n hx hb dX0_addPeriodAhead_108 rfl (lv_at hl 1 rfl) ?_
    refine q_lconst (v := 0) hx hb dX0_addPeriodAhead_109 (by decide) ?_
    refine q_lc_le (tgt := 125) hx hb ((lf z (p 0) 0 : Nat) : Int) ((0 : Nat) : Int) (pk_lT (by first | omega | assumption)) (pk_lT (by first | omega | assumption)) dX0_addPeriodAhead_110 dX0_addPeriodAhead_111 (by decide) (fun c3 => ?_) (fun c3 => ?_)
    · --
      exfalso; omega
    · --
      refine lv_aload_n hx hb dX0_addPeriodAhead_114 rfl (lv_at hl 3 rfl) ?_
      refine q_get (v := .ref ke) (ci := 0) hx hb hts in_X0 hown hK hw 0 1 wd5 dX0_addPeriodAhead_115 rfl rfl (by decide) rfl ?_
      refine q_iconst (v := 0) hx hb dX0_addPeriodAhead_118 (by decide) ?_
      refine q_lald hx hb hK hw 1 (by omega) (by omega) dX0_addPeriodAhead_119 rfl ?_
      refine q_topl (x := lN ((seg (kpf z (p 0) (p 9) C (sc * lf z (p 0) 0)) (p 0) K) 0)) (y := lN (kpf z (p 0) (p 9) C (sc * lf z (p 0) 0) 0)) (congrArg lN (seg_in (by omega))) ?_
      refine lv_lload_n hx hb dX0_addPeriodAhead_120 rfl (lv_at hl 1 rfl) ?_
      have k0 := hkb 0 (by omega)
      refine q_ldiv hx hb (by omega) (by omega) (by omega) dX0_addPeriodAhead_121 ?_
      refine lv_goto (tgt := 126) hx hb dX0_addPeriodAhead_122 (by decide) ?_
      refine q_ladd hx hb dX0_addPeriodAhead_126 ?_
      refine q_put (v := .long (lN ((p 10) * (sc * lf z (p 0) 0) + ((kpf z (p 0) (p 9) C (sc * lf z (p 0) 0) 0) / (lf z (p 0) 0))))) (ci := 0) hx hb hts in_X0 tyX0 tyX0_ok nmX0 hown hK hw 0 2 wd8 dX0_addPeriodAhead_127 rfl rfl (by decide) rfl rfl rfl (Nat.le_of_ble_eq_true rfl) (fun H locs hw => ?_)
      have hw : WS D A s [(Ol, .inr (0, [.long (lN (sc * lf z (p 0) 0)), .ref ke, .long (lN ((p 10) * (sc * lf z (p 0) 0) + ((kpf z (p 0) (p 9) C (sc * lf z (p 0) 0) 0) / (lf z (p 0) 0)))), .ref co])), (ke, .inl (Z 1, 9, .inr (.inl (aL (seg (kpf z (p 0) (p 9) C (sc * lf z (p 0) 0)) (p 0) K))))), (co, .inl (Z 1, 9, .inr (.inl (aL C)))), (a, .inr (2, [.ref t, .int (nI (p 9)), .int (nI (p 10)), .int (nI (p 11)), .int (nI (p 13)), .int (nI (p 14)), .int (nI (p 15)), .int (nI (p 16)), .int (nI (p 17)), .int (nI (p 12))])), (t, .inr (5, [.int (nI (p 0)), .ref w])), (w, .inl (Z 0, 9, .inl (aI z)))] H locs := hw
      refine q_iconst (v := 0) hx hb dX0_addPeriodAhead_130 (by decide) ?_
      refine lv_istore (lv' := [(5, .int (nI 0)), (3, .long (lN (lf z (p 0) 0))), (2, .ref t), (0, .ref Ol), (1, .ref a)]) hx hb dX0_addPeriodAhead_131 hl (by decide) rfl (fun ls hl => ?_)
      have hw : WS D A s [(Ol, .inr (0, [.long (lN (sc * lf z (p 0) 0)), .ref ke, .long (lN ((p 10) * (sc * lf z (p 0) 0) + ((kpf z (p 0) (p 9) C (sc * lf z (p 0) 0) 0) / (lf z (p 0) 0)))), .ref co])), (ke, .inl (Z 1, 9, .inr (.inl (aL (seg (kpf z (p 0) (p 9) C (sc * lf z (p 0) 0)) (p 0) K))))), (co, .inl (Z 1, 9, .inr (.inl (aL (seg (cpf z (p 0) (p 9) (p 10) C (sc * lf z (p 0) 0)) 0 C))))), (a, .inr (2, [.ref t, .int (nI (p 9)), .int (nI (p 10)), .int (nI (p 11)), .int (nI (p 13)), .int (nI (p 14)), .int (nI (p 15)), .int (nI (p 16)), .int (nI (p 17)), .int (nI (p 12))])), (t, .inr (5, [.int (nI (p 0)), .ref w])), (w, .inl (Z 0, 9, .inl (aI z)))] H locs := by rw [show (seg (cpf z (p 0) (p 9) (p 10) C (sc * lf z (p 0) 0)) 0 C) = C from seg_0 _ _]; exact hw
      refine q_loop (σ := Nat) (fun (i : Nat) => p 0 - i) (fun (i : Nat) => i ≤ p 0) (fun (i : Nat) => [(Ol, .inr (0, [.long (lN (sc * lf z (p 0) 0)), .ref ke, .long (lN (rpf z (p 0) (p 9) (p 10) C (sc * lf z (p 0) 0))), .ref co])), (ke, .inl (Z 1, 9, .inr (.inl (aL (seg (kpf z (p 0) (p 9) C (sc * lf z (p 0) 0)) (p 0) K))))), (co, .inl (Z 1, 9, .inr (.inl (aL (seg (cpf z (p 0) (p 9) (p 10) C (sc * lf z (p 0) 0)) i C))))), (a, .inr (2, [.ref t, .int (nI (p 9)), .int (nI (p 10)), .int (nI (p 11)), .int (nI (p 13)), .int (nI (p 14)), .int (nI (p 15)), .int (nI (p 16)), .int (nI (p 17)), .int (nI (p 12))])), (t, .inr (5, [.int (nI (p 0)), .ref w])), (w, .inl (Z 0, 9, .inl (aI z)))]) (fun (i : Nat) => [(5, .int (nI i)), (3, .long (lN (lf z (p 0) 0))), (2, .ref t), (0, .ref Ol), (1, .ref a)]) 0 (Nat.zero_le _) hw (lv_sub hl [0, 1, 2, 3, 4] rfl) ?_
      intro i H locs ls hi133 hw hl ih133
      try dsimp only at hi133 hw hl ih133
      have hw : WS D A s [(Ol, .inr (0, [.long (lN (sc * lf z (p 0) 0)), .ref ke, .long (lN (rpf z (p 0) (p 9) (p 10) C (sc * lf z (p 0) 0))), .ref co])), (ke, .inl (Z 1, 9, .inr (.inl (aL (seg (kpf z (p 0) (p 9) C (sc * lf z (p 0) 0)) (p 0) K))))), (co, .inl (Z 1, 9, .inr (.inl (aL (seg (cpf z (p 0) (p 9) (p 10) C (sc * lf z (p 0) 0)) i C))))), (a, .inr (2, [.ref t, .int (nI (p 9)), .int (nI (p 10)), .int (nI (p 11)), .int (nI (p 13)), .int (nI (p 14)), .int (nI (p 15)), .int (nI (p 16)), .int (nI (p 17)), .int (nI (p 12))])), (t, .inr (5, [.int (nI (p 0)), .ref w])), (w, .inl (Z 0, 9, .inl (aI z)))] H locs := hw
      have hl : lv_has ls 6 [(5, .int (nI i)), (3, .long (lN (lf z (p 0) 0))), (2, .ref t), (0, .ref Ol), (1, .ref a)] := hl
      refine lv_iload hx hb dX0_addPeriodAhead_133 (lv_at hl 0 rfl) ?_
      refine lv_aload_n hx hb dX0_addPeriodAhead_135 rfl (lv_at hl 2 rfl) ?_
      refine q_get (v := .int (nI (p 0))) (ci := 5) hx hb hts in_X5 hown hK hw 4 0 wd3 dX0_addPeriodAhead_136 rfl rfl (by decide) rfl ?_
      refine q_icmp_ge (tgt := 187) hx hb ((i : Nat) : Int) ((p 0 : Nat) : Int) (nI_toInt (by omega)) (nI_toInt (by omega)) dX0_addPeriodAhead_139 (by decide) (fun c4 => ?_) (fun c4 => ?_)
      · --
        obtain rfl : i = p 0 := by omega
        exact q_vret (wout := _) hx hb hr hlocks hAe hK () hw (trivial) dX0_addPeriodAhead_187
      · --
        refine lv_iload hx hb dX0_addPeriodAhead_142 (lv_at hl 0 rfl) ?_
        refine lv_aload_n hx hb dX0_addPeriodAhead_144 rfl (lv_at hl 3 rfl) ?_
        refine q_get (v := .ref co) (ci := 0) hx hb hts in_X0 hown hK hw 0 3 wd4 dX0_addPeriodAhead_145 rfl rfl (by decide) rfl ?_
        refine q_aleni hx hb hK hw 2 1 dX0_addPeriodAhead_148 rfl rfl ?_
        refine q_icmp_ge (tgt := 187) hx hb ((i : Nat) : Int) ((9 : Nat) : Int) (nI_toInt (by omega)) (nI_toInt (by omega)) dX0_addPeriodAhead_149 (by decide) (fun c5 => ?_) (fun c5 => ?_)
        · --
          exfalso; omega
        · --
          refine lv_aload_n hx hb dX0_addPeriodAhead_152 rfl (lv_at hl 3 rfl) ?_
          refine q_get (v := .ref co) (ci := 0) hx hb hts in_X0 hown hK hw 0 3 wd4 dX0_addPeriodAhead_153 rfl rfl (by decide) rfl ?_
          refine lv_iload hx hb dX0_addPeriodAhead_156 (lv_at hl 0 rfl) ?_
          refine lv_aload_n hx hb dX0_addPeriodAhead_158 rfl (lv_at hl 3 rfl) ?_
          refine q_get (v := .ref ke) (ci := 0) hx hb hts in_X0 hown hK hw 0 1 wd5 dX0_addPeriodAhead_159 rfl rfl (by decide) rfl ?_
          refine lv_iload hx hb dX0_addPeriodAhead_162 (lv_at hl 0 rfl) ?_
          refine q_lald hx hb hK hw 1 (by omega) (by omega) dX0_addPeriodAhead_164 rfl ?_
          refine q_topl (x := lN ((seg (kpf z (p 0) (p 9) C (sc * lf z (p 0) 0)) (p 0) K) i)) (y := lN (kpf z (p 0) (p 9) C (sc * lf z (p 0) 0) i)) (congrArg lN (seg_in (by omega))) ?_
          refine lv_aload_n hx hb dX0_addPeriodAhead_165 rfl (lv_at hl 2 rfl) ?_
          refine lv_iload hx hb dX0_addPeriodAhead_166 (lv_at hl 0 rfl) ?_
          refine q_calli (S := Unit) (Z := Z) (D := D) (wc := [(t, .inr (5, [.int (nI (p 0)), .ref w])), (w, .inl (Z 0, 9, .inl (aI z)))]) (wr := [(Ol, .inr (0, [.long (lN (sc * lf z (p 0) 0)), .ref ke, .long (lN (rpf z (p 0) (p 9) (p 10) C (sc * lf z (p 0) 0))), .ref co])), (ke, .inl (Z 1, 9, .inr (.inl (aL (seg (kpf z (p 0) (p 9) C (sc * lf z (p 0) 0)) (p 0) K))))), (co, .inl (Z 1, 9, .inr (.inl (aL (seg (cpf z (p 0) (p 9) (p 10) C (sc * lf z (p 0) 0)) i C))))), (a, .inr (2, [.ref t, .int (nI (p 9)), .int (nI (p 10)), .int (nI (p 11)), .int (nI (p 13)), .int (nI (p 14)), .int (nI (p 15)), .int (nI (p 16)), .int (nI (p 17)), .int (nI (p 12))]))]) (rest := [.long (lN (kpf z (p 0) (p 9) C (sc * lf z (p 0) 0) i)), .int (nI i), .ref co]) hw hA [4, 5] [0, 1, 2, 3] rfl rfl rfl rfl (by decide) (fun hPc hDc => va_runV (As := [.int (nI i)]) (rest := [.long (lN (kpf z (p 0) (p 9) C (sc * lf z (p 0) 0) i)), .int (nI i), .ref co]) ⟨hx, hb, hml, hown, hts⟩ (c_X5_left l D Z H.size t w (p 0) z i (by first | assumption | omega) (by first | assumption | omega)) (cwV 1 hts gX0_addPeriodAhead_X5_left rfl rfl rfl (by decide +kernel) ⟨Nat.le_of_ble_eq_true rfl, Nat.le_of_ble_eq_true rfl⟩) ⟨fb_cPre, va_recv hK.1 hPc (ci := 5) (q0 := 0) rfl rfl, pre_of hPc hK hDc⟩ rfl rfl hl.1 rfl (lv_room (Nat.le_of_ble_eq_true rfl)) dX0_addPeriodAhead_168 ⟨Nat.le_of_ble_eq_true rfl, Nat.le_of_ble_eq_true rfl⟩) (fun r6 u H locs hr6 hw => ?_)
          subst hr6
          have hw : WS D A s [(Ol, .inr (0, [.long (lN (sc * lf z (p 0) 0)), .ref ke, .long (lN (rpf z (p 0) (p 9) (p 10) C (sc * lf z (p 0) 0))), .ref co])), (ke, .inl (Z 1, 9, .inr (.inl (aL (seg (kpf z (p 0) (p 9) C (sc * lf z (p 0) 0)) (p 0) K))))), (co, .inl (Z 1, 9, .inr (.inl (aL (seg (cpf z (p 0) (p 9) (p 10) C (sc * lf z (p 0) 0)) i C))))), (a, .inr (2, [.ref t, .int (nI (p 9)), .int (nI (p 10)), .int (nI (p 11)), .int (nI (p 13)), .int (nI (p 14)), .int (nI (p 15)), .int (nI (p 16)), .int (nI (p 17)), .int (nI (p 12))])), (t, .inr (5, [.int (nI (p 0)), .ref w])), (w, .inl (Z 0, 9, .inl (aI z)))] H locs := hw
          have hli := lf_anti (w := z) (n := p 0) (Nat.zero_le i)
          refine q_i2l hx hb (by omega) dX0_addPeriodAhead_171 ?_
          refine lv_aload_n hx hb dX0_addPeriodAhead_172 rfl (lv_at hl 3 rfl) ?_
          refine q_get (v := .long (lN (rpf z (p 0) (p 9) (p 10) C (sc * lf z (p 0) 0)))) (ci := 0) hx hb hts in_X0 hown hK hw 0 2 wd8 dX0_addPeriodAhead_173 rfl rfl (by decide) rfl ?_
          refine q_lmul hx hb dX0_addPeriodAhead_176 ?_
          have k1 := hkb i (by omega)
          have k2 : lf z (p 0) i * rpf z (p 0) (p 9) (p 10) C (sc * lf z (p 0) 0) ≤ 24 * 2000000000000 := Nat.mul_le_mul (by omega) hrb
          refine va_mmin_long hx hb (by rw [hml]; exact hl.1.symm) hown wd9 wd10 wd11 wd12 (Nat.le_of_ble_eq_true rfl) (Nat.le_of_ble_eq_true rfl) (Nat.le_of_ble_eq_true rfl) (Nat.le_of_ble_eq_true rfl) dX0_addPeriodAhead_177 ?_
          refine q_topl (x := (if lN ((lf z (p 0) i) * (rpf z (p 0) (p 9) (p 10) C (sc * lf z (p 0) 0))) < lN (kpf z (p 0) (p 9) C (sc * lf z (p 0) 0) i) then lN ((lf z (p 0) i) * (rpf z (p 0) (p 9) (p 10) C (sc * lf z (p 0) 0))) else lN (kpf z (p 0) (p 9) C (sc * lf z (p 0) 0) i))) (y := lN (cpf z (p 0) (p 9) (p 10) C (sc * lf z (p 0) 0) i)) (mn_lN (by omega) (by omega)) ?_
          refine q_last hx hb hK hw 2 (by omega) (by omega) dX0_addPeriodAhead_180 rfl (fun H locs hw => ?_)
          have hw : WS D A s [(Ol, .inr (0, [.long (lN (sc * lf z (p 0) 0)), .ref ke, .long (lN (rpf z (p 0) (p 9) (p 10) C (sc * lf z (p 0) 0))), .ref co])), (ke, .inl (Z 1, 9, .inr (.inl (aL (seg (kpf z (p 0) (p 9) C (sc * lf z (p 0) 0)) (p 0) K))))), (co, .inl (Z 1, 9, .inr (.inl (aL (va_up (seg (cpf z (p 0) (p 9) (p 10) C (sc * lf z (p 0) 0)) i C) i (cpf z (p 0) (p 9) (p 10) C (sc * lf z (p 0) 0) i)))))), (a, .inr (2, [.ref t, .int (nI (p 9)), .int (nI (p 10)), .int (nI (p 11)), .int (nI (p 13)), .int (nI (p 14)), .int (nI (p 15)), .int (nI (p 16)), .int (nI (p 17)), .int (nI (p 12))])), (t, .inr (5, [.int (nI (p 0)), .ref w])), (w, .inl (Z 0, 9, .inl (aI z)))] H locs := hw
          refine lv_iinc (v := nI (i + 1)) (lv' := [(5, .int (nI (i + 1))), (3, .long (lN (lf z (p 0) 0))), (2, .ref t), (0, .ref Ol), (1, .ref a)]) hx hb dX0_addPeriodAhead_181 hl (k := 0) rfl (nI_add _ _) (by decide) rfl (fun ls hl => ?_)
          refine lv_goto (tgt := 133) hx hb dX0_addPeriodAhead_184 (by decide) ?_
          have hw : WS D A s [(Ol, .inr (0, [.long (lN (sc * lf z (p 0) 0)), .ref ke, .long (lN (rpf z (p 0) (p 9) (p 10) C (sc * lf z (p 0) 0))), .ref co])), (ke, .inl (Z 1, 9, .inr (.inl (aL (seg (kpf z (p 0) (p 9) C (sc * lf z (p 0) 0)) (p 0) K))))), (co, .inl (Z 1, 9, .inr (.inl (aL (seg (cpf z (p 0) (p 9) (p 10) C (sc * lf z (p 0) 0)) (i + 1) C))))), (a, .inr (2, [.ref t, .int (nI (p 9)), .int (nI (p 10)), .int (nI (p 11)), .int (nI (p 13)), .int (nI (p 14)), .int (nI (p 15)), .int (nI (p 16)), .int (nI (p 17)), .int (nI (p 12))])), (t, .inr (5, [.int (nI (p 0)), .ref w])), (w, .inl (Z 0, 9, .inl (aI z)))] H locs := by rw [show (seg (cpf z (p 0) (p 9) (p 10) C (sc * lf z (p 0) 0)) (i + 1) C) = (va_up (seg (cpf z (p 0) (p 9) (p 10) C (sc * lf z (p 0) 0)) i C) i (cpf z (p 0) (p 9) (p 10) C (sc * lf z (p 0) 0) i)) from (seg_up (cpf z (p 0) (p 9) (p 10) C (sc * lf z (p 0) 0)) i C).symm]; exact hw
          exact ih133 (i + 1) H locs ls (by omega) (by omega) hw (lv_sub hl [0, 1, 2, 3, 4] rfl)
  · --
    refine lv_iload hx hb dX0_addPeriodAhead_33 (lv_at hl 0 rfl) ?_
    refine q_iconst (v := 1) hx hb dX0_addPeriodAhead_35 (by decide) ?_
    refine q_iadd hx hb dX0_addPeriodAhead_36 ?_
    refine lv_aload_n hx hb dX0_addPeriodAhead_37 rfl (lv_at hl 3 rfl) ?_
    refine q_get (v := .ref co) (ci := 0) hx hb hts in_X0 hown hK hw 0 3 wd4 dX0_addPeriodAhead_38 rfl rfl (by decide) rfl ?_
    refine q_aleni hx hb hK hw 2 1 dX0_addPeriodAhead_41 rfl rfl ?_
    refine q_icmp_ge (tgt := 97) hx hb ((i + 1 : Nat) : Int) ((9 : Nat) : Int) (nI_toInt (by omega)) (nI_toInt (by omega)) dX0_addPeriodAhead_42 (by decide) (fun c7 => ?_) (fun c7 => ?_)
    · --
      exfalso; omega
    · --
      refine lv_aload_n hx hb dX0_addPeriodAhead_45 rfl (lv_at hl 3 rfl) ?_
      refine q_get (v := .ref ke) (ci := 0) hx hb hts in_X0 hown hK hw 0 1 wd5 dX0_addPeriodAhead_46 rfl rfl (by decide) rfl ?_
      refine lv_iload hx hb dX0_addPeriodAhead_49 (lv_at hl 0 rfl) ?_
      refine lv_aload_n hx hb dX0_addPeriodAhead_51 rfl (lv_at hl 2 rfl) ?_
      refine lv_iload hx hb dX0_addPeriodAhead_52 (lv_at hl 0 rfl) ?_
      refine q_iconst (v := 1) hx hb dX0_addPeriodAhead_54 (by decide) ?_
      refine q_iadd hx hb dX0_addPeriodAhead_55 ?_
      refine q_calli (S := Unit) (Z := Z) (D := D) (wc := [(t, .inr (5, [.int (nI (p 0)), .ref w])), (w, .inl (Z 0, 9, .inl (aI z)))]) (wr := [(Ol, .inr (0, [.long (lN (sc * lf z (p 0) 0)), .ref ke, .long (lN re), .ref co])), (ke, .inl (Z 1, 9, .inr (.inl (aL (seg (kpf z (p 0) (p 9) C (sc * lf z (p 0) 0)) i K))))), (co, .inl (Z 1, 9, .inr (.inl (aL C)))), (a, .inr (2, [.ref t, .int (nI (p 9)), .int (nI (p 10)), .int (nI (p 11)), .int (nI (p 13)), .int (nI (p 14)), .int (nI (p 15)), .int (nI (p 16)), .int (nI (p 17)), .int (nI (p 12))]))]) (rest := [.int (nI i), .ref ke]) hw hA [4, 5] [0, 1, 2, 3] rfl rfl rfl rfl (by decide) (fun hPc hDc => va_runV (As := [.int (nI (i + 1))]) (rest := [.int (nI i), .ref ke]) ⟨hx, hb, hml, hown, hts⟩ (c_X5_weightOf l D Z H.size t w (p 0) z (i + 1) (by first | assumption | omega) (by first | assumption | omega)) (cwV 1 hts gX0_addPeriodAhead_X5_weightOf rfl rfl rfl (by decide +kernel) ⟨Nat.le_of_ble_eq_true rfl, Nat.le_of_ble_eq_true rfl⟩) ⟨fb_cPre, va_recv hK.1 hPc (ci := 5) (q0 := 0) rfl rfl, pre_of hPc hK hDc⟩ rfl rfl hl.1 rfl (lv_room (Nat.le_of_ble_eq_true rfl)) dX0_addPeriodAhead_56 ⟨Nat.le_of_ble_eq_true rfl, Nat.le_of_ble_eq_true rfl⟩) (fun r8 u H locs hr8 hw => ?_)
      subst hr8
      have hw : WS D A s [(Ol, .inr (0, [.long (lN (sc * lf z (p 0) 0)), .ref ke, .long (lN re), .ref co])), (ke, .inl (Z 1, 9, .inr (.inl (aL (seg (kpf z (p 0) (p 9) C (sc * lf z (p 0) 0)) i K))))), (co, .inl (Z 1, 9, .inr (.inl (aL C)))), (a, .inr (2, [.ref t, .int (nI (p 9)), .int (nI (p 10)), .int (nI (p 11)), .int (nI (p 13)), .int (nI (p 14)), .int (nI (p 15)), .int (nI (p 16)), .int (nI (p 17)), .int (nI (p 12))])), (t, .inr (5, [.int (nI (p 0)), .ref w])), (w, .inl (Z 0, 9, .inl (aI z)))] H locs := hw
      refine q_topi (x := nI (wt z (p 0) (i + 1))) (y := nI (z (i + 1))) (congrArg nI (wt_in (by omega))) ?_
      refine q_i2l hx hb (Nat.lt_of_le_of_lt (z_le (n := p 0) (by omega)) (by omega)) dX0_addPeriodAhead_59 ?_
      refine lv_aload_n hx hb dX0_addPeriodAhead_60 rfl (lv_at hl 4 rfl) ?_
      refine q_get (v := .int (nI (p 9))) (ci := 2) hx hb hts in_X2 hown hK hw 3 1 wd6 dX0_addPeriodAhead_61 rfl rfl (by decide) rfl ?_
      refine q_i2l hx hb (by omega) dX0_addPeriodAhead_64 ?_
      refine lv_aload_n hx hb dX0_addPeriodAhead_65 rfl (lv_at hl 3 rfl) ?_
      refine q_get (v := .long (lN (sc * lf z (p 0) 0))) (ci := 0) hx hb hts in_X0 hown hK hw 0 0 wd2 dX0_addPeriodAhead_66 rfl rfl (by decide) rfl ?_
      refine q_lmul hx hb dX0_addPeriodAhead_69 ?_
      refine lv_aload_n hx hb dX0_addPeriodAhead_70 rfl (lv_at hl 3 rfl) ?_
      refine q_get (v := .ref co) (ci := 0) hx hb hts in_X0 hown hK hw 0 3 wd4 dX0_addPeriodAhead_71 rfl rfl (by decide) rfl ?_
      refine q_iconst (v := 0) hx hb dX0_addPeriodAhead_74 (by decide) ?_
      refine q_lald hx hb hK hw 2 (by omega) (by omega) dX0_addPeriodAhead_75 rfl ?_
      refine q_ladd hx hb dX0_addPeriodAhead_76 ?_
      refine q_lmul hx hb dX0_addPeriodAhead_77 ?_
      refine lv_lload_n hx hb dX0_addPeriodAhead_78 rfl (lv_at hl 1 rfl) ?_
      refine lv_aload_n hx hb dX0_addPeriodAhead_79 rfl (lv_at hl 3 rfl) ?_
      refine q_get (v := .ref co) (ci := 0) hx hb hts in_X0 hown hK hw 0 3 wd4 dX0_addPeriodAhead_80 rfl rfl (by decide) rfl ?_
      refine lv_iload hx hb dX0_addPeriodAhead_83 (lv_at hl 0 rfl) ?_
      refine q_iconst (v := 1) hx hb dX0_addPeriodAhead_85 (by decide) ?_
      refine q_iadd hx hb dX0_addPeriodAhead_86 ?_
      refine q_lald hx hb hK hw 2 (by omega) (by omega) dX0_addPeriodAhead_87 rfl ?_
      refine q_lmul hx hb dX0_addPeriodAhead_88 ?_
      refine q_ladd hx hb dX0_addPeriodAhead_89 ?_
      refine q_last hx hb hK hw 1 (by omega) (by omega) dX0_addPeriodAhead_90 rfl (fun H locs hw => ?_)
      have hw : WS D A s [(Ol, .inr (0, [.long (lN (sc * lf z (p 0) 0)), .ref ke, .long (lN re), .ref co])), (ke, .inl (Z 1, 9, .inr (.inl (aL (va_up (seg (kpf z (p 0) (p 9) C (sc * lf z (p 0) 0)) i K) i ((z (i + 1)) * ((p 9) * (sc * lf z (p 0) 0) + (C 0)) + ((lf z (p 0) 0) * (C (i + 1))))))))), (co, .inl (Z 1, 9, .inr (.inl (aL C)))), (a, .inr (2, [.ref t, .int (nI (p 9)), .int (nI (p 10)), .int (nI (p 11)), .int (nI (p 13)), .int (nI (p 14)), .int (nI (p 15)), .int (nI (p 16)), .int (nI (p 17)), .int (nI (p 12))])), (t, .inr (5, [.int (nI (p 0)), .ref w])), (w, .inl (Z 0, 9, .inl (aI z)))] H locs := hw
      refine lv_iinc (v := nI (i + 1)) (lv' := [(5, .int (nI (i + 1))), (3, .long (lN (lf z (p 0) 0))), (2, .ref t), (0, .ref Ol), (1, .ref a)]) hx hb dX0_addPeriodAhead_91 hl (k := 0) rfl (nI_add _ _) (by decide) rfl (fun ls hl => ?_)
      refine lv_goto (tgt := 24) hx hb dX0_addPeriodAhead_94 (by decide) ?_
      have hw : WS D A s [(Ol, .inr (0, [.long (lN (sc * lf z (p 0) 0)), .ref ke, .long (lN re), .ref co])), (ke, .inl (Z 1, 9, .inr (.inl (aL (seg (kpf z (p 0) (p 9) C (sc * lf z (p 0) 0)) (i + 1) K))))), (co, .inl (Z 1, 9, .inr (.inl (aL C)))), (a, .inr (2, [.ref t, .int (nI (p 9)), .int (nI (p 10)), .int (nI (p 11)), .int (nI (p 13)), .int (nI (p 14)), .int (nI (p 15)), .int (nI (p 16)), .int (nI (p 17)), .int (nI (p 12))])), (t, .inr (5, [.int (nI (p 0)), .ref w])), (w, .inl (Z 0, 9, .inl (aI z)))] H locs := by rw [show (seg (kpf z (p 0) (p 9) C (sc * lf z (p 0) 0)) (i + 1) K) = (va_up (seg (kpf z (p 0) (p 9) C (sc * lf z (p 0) 0)) i K) i ((z (i + 1)) * ((p 9) * (sc * lf z (p 0) 0) + (C 0)) + ((lf z (p 0) 0) * (C (i + 1))))) from (seg_up (kpf z (p 0) (p 9) C (sc * lf z (p 0) 0)) i K).symm]; exact hw
      exact ih24 (i + 1) H locs ls (by omega) (by omega) hw (lv_sub hl [0, 1, 2, 3, 4] rfl)
set_option maxHeartbeats 4000000 in
set_option maxRecDepth 100000 in
theorem c_X0_reckon (l : Launch) (D : va_G) (Z : Nat → ClassId) (sz : Nat) (Ol ke co sc re : Nat) (K C : Nat → Nat) (a t w : Nat) (p z : Nat → Nat) (h : Nat) (hn : 1 ≤ p 0 ∧ p 0 ≤ 8) (hal : 1 ≤ lf z (p 0) 0 ∧ lf z (p 0) 0 ≤ 24) (h9 : p 9 ≤ 99) (h10 : p 10 ≤ 99) (hh : h ≤ 5) : cMv l yX0_reckon wsX0_reckon (rmd 4) D Z sz [.ref Ol, .ref a, .int (nI h)] [(Ol, .inr (0, [.long (lN sc), .ref ke, .long (lN re), .ref co])), (ke, .inl (Z 1, 9, .inr (.inl (aL K)))), (co, .inl (Z 1, 9, .inr (.inl (aL C)))), (a, .inr (2, [.ref t, .int (nI (p 9)), .int (nI (p 10)), .int (nI (p 11)), .int (nI (p 13)), .int (nI (p 14)), .int (nI (p 15)), .int (nI (p 16)), .int (nI (p 17)), .int (nI (p 12))])), (t, .inr (5, [.int (nI (p 0)), .ref w])), (w, .inl (Z 0, 9, .inl (aI z)))] (S := Unit) (fun (_ : Unit) => True) (fun (_ : Unit) => [(Ol, .inr (0, [.long (lN (lf z (p 0) 0 ^ h)), .ref ke, .long (lN (rT z (p 0) (p 9) (p 10) h)), .ref co])), (ke, .inl (Z 1, 9, .inr (.inl (aL (kT z (p 0) (p 9) (p 10) h))))), (co, .inl (Z 1, 9, .inr (.inl (aL (cT z (p 0) (p 9) (p 10) h))))), (a, .inr (2, [.ref t, .int (nI (p 9)), .int (nI (p 10)), .int (nI (p 11)), .int (nI (p 13)), .int (nI (p 14)), .int (nI (p 15)), .int (nI (p 16)), .int (nI (p 17)), .int (nI (p 12))])), (t, .inr (5, [.int (nI (p 0)), .ref w])), (w, .inl (Z 0, 9, .inl (aI z)))]) 0 0 := by
  refine q_open (y := yX0_reckon) (ws := wsX0_reckon) (av := [.ref Ol, .ref a, .int (nI h)]) (win := [(Ol, .inr (0, [.long (lN sc), .ref ke, .long (lN re), .ref co])), (ke, .inl (Z 1, 9, .inr (.inl (aL K)))), (co, .inl (Z 1, 9, .inr (.inl (aL C)))), (a, .inr (2, [.ref t, .int (nI (p 9)), .int (nI (p 10)), .int (nI (p 11)), .int (nI (p 13)), .int (nI (p 14)), .int (nI (p 15)), .int (nI (p 16)), .int (nI (p 17)), .int (nI (p 12))])), (t, .inr (5, [.int (nI (p 0)), .ref w])), (w, .inl (Z 0, 9, .inl (aI z)))]) (Qc := fun sz => cQv D Z sz [(Ol, .inr (0, [.long (lN sc), .ref ke, .long (lN re), .ref co])), (ke, .inl (Z 1, 9, .inr (.inl (aL K)))), (co, .inl (Z 1, 9, .inr (.inl (aL C)))), (a, .inr (2, [.ref t, .int (nI (p 9)), .int (nI (p 10)), .int (nI (p 11)), .int (nI (p 13)), .int (nI (p 14)), .int (nI (p 15)), .int (nI (p 16)), .int (nI (p 17)), .int (nI (p 12))])), (t, .inr (5, [.int (nI (p 0)), .ref w])), (w, .inl (Z 0, 9, .inl (aI z)))] (S := Unit) (fun (_ : Unit) => True) (fun (_ : Unit) => [(Ol, .inr (0, [.long (lN (lf z (p 0) 0 ^ h)), .ref ke, .long (lN (rT z (p 0) (p 9) (p 10) h)), .ref co])), (ke, .inl (Z 1, 9, .inr (.inl (aL (kT z (p 0) (p 9) (p 10) h))))), (co, .inl (Z 1, 9, .inr (.inl (aL (cT z (p 0) (p 9) (p 10) h))))), (a, .inr (2, [.ref t, .int (nI (p 9)), .int (nI (p 10)), .int (nI (p 11)), .int (nI (p 13)), .int (nI (p 14)), .int (nI (p 15)), .int (nI (p 16)), .int (nI (p 17)), .int (nI (p 12))])), (t, .inr (5, [.int (nI (p 0)), .ref w])), (w, .inl (Z 0, 9, .inl (aI z)))])) (cc := cX0_reckon) (maxL := 4) (ret := none) (by decide) rfl (Nat.le_of_ble_eq_true rfl) ?_
  intro pp ee s mm bw mt cd ls A H locs hAe hx hb hr hml hown hmn hts hlocks hA hK hw hl
  have hown : s.vm.findClass RX0 = some mm.cls := hown
  have hl : lv_has ls 4 [(0, .ref Ol), (1, .ref a), (2, .int (nI h))] := hl
  have wd1 := hts (.fieldLink RX0 9 "ReplaceAges$Outlook" "scale" "J") (List.mem_of_getElem? (i := 1) rfl)
  have wd2 := hts (.fieldLink RX0 22 "ReplaceAges$Outlook" "replacing" "J") (List.mem_of_getElem? (i := 2) rfl)
  have wd3 := hts (.fieldLink RX0 15 "ReplaceAges$Outlook" "keeping" "[J") (List.mem_of_getElem? (i := 3) rfl)
  have wd4 := hts (.fieldLink RX0 19 "ReplaceAges$Outlook" "costs" "[J") (List.mem_of_getElem? (i := 4) rfl)
  have in_X0 : ∀ w ∈ wsX00, w ∈ wsX0_reckon := fun _ h => List.mem_cons_of_mem _ (List.mem_append_left _ (List.mem_append_left _ (List.mem_append_right _ h)))
  refine lv_aload_n hx hb dX0_reckon_0 rfl (lv_at hl 0 rfl) ?_
  refine q_lconst (v := 1) hx hb dX0_reckon_1 (by decide) ?_
  refine q_put (v := .long (lN 1)) (ci := 0) hx hb hts in_X0 tyX0 tyX0_ok nmX0 hown hK hw 0 0 wd1 dX0_reckon_2 rfl rfl (by decide) rfl rfl rfl (Nat.le_of_ble_eq_true rfl) (fun H locs hw => ?_)
  have hw : WS D A s [(Ol, .inr (0, [.long (lN 1), .ref ke, .long (lN re), .ref co])), (ke, .inl (Z 1, 9, .inr (.inl (aL K)))), (co, .inl (Z 1, 9, .inr (.inl (aL C)))), (a, .inr (2, [.ref t, .int (nI (p 9)), .int (nI (p 10)), .int (nI (p 11)), .int (nI (p 13)), .int (nI (p 14)), .int (nI (p 15)), .int (nI (p 16)), .int (nI (p 17)), .int (nI (p 12))])), (t, .inr (5, [.int (nI (p 0)), .ref w])), (w, .inl (Z 0, 9, .inl (aI z)))] H locs := hw
  refine lv_aload_n hx hb dX0_reckon_5 rfl (lv_at hl 0 rfl) ?_
  refine q_lconst (v := 0) hx hb dX0_reckon_6 (by decide) ?_
  refine q_put (v := .long (lN 0)) (ci := 0) hx hb hts in_X0 tyX0 tyX0_ok nmX0 hown hK hw 0 2 wd2 dX0_reckon_7 rfl rfl (by decide) rfl rfl rfl (Nat.le_of_ble_eq_true rfl) (fun H locs hw => ?_)
  have hw : WS D A s [(Ol, .inr (0, [.long (lN 1), .ref ke, .long (lN 0), .ref co])), (ke, .inl (Z 1, 9, .inr (.inl (aL K)))), (co, .inl (Z 1, 9, .inr (.inl (aL C)))), (a, .inr (2, [.ref t, .int (nI (p 9)), .int (nI (p 10)), .int (nI (p 11)), .int (nI (p 13)), .int (nI (p 14)), .int (nI (p 15)), .int (nI (p 16)), .int (nI (p 17)), .int (nI (p 12))])), (t, .inr (5, [.int (nI (p 0)), .ref w])), (w, .inl (Z 0, 9, .inl (aI z)))] H locs := hw
  refine lv_aload_n hx hb dX0_reckon_10 rfl (lv_at hl 0 rfl) ?_
  refine q_get (v := .ref ke) (ci := 0) hx hb hts in_X0 hown hK hw 0 1 wd3 dX0_reckon_11 rfl rfl (by decide) rfl ?_
  refine q_lconst (v := 0) hx hb dX0_reckon_14 (by decide) ?_
  refine q_callv (S := Unit) (Z := Z) (D := D) (wc := [(ke, .inl (Z 1, 9, .inr (.inl (aL K))))]) (wr := [(Ol, .inr (0, [.long (lN 1), .ref ke, .long (lN 0), .ref co])), (co, .inl (Z 1, 9, .inr (.inl (aL C)))), (a, .inr (2, [.ref t, .int (nI (p 9)), .int (nI (p 10)), .int (nI (p 11)), .int (nI (p 13)), .int (nI (p 14)), .int (nI (p 15)), .int (nI (p 16)), .int (nI (p 17)), .int (nI (p 12))])), (t, .inr (5, [.int (nI (p 0)), .ref w])), (w, .inl (Z 0, 9, .inl (aI z)))]) (rest := []) hw hA [1] [0, 2, 3, 4, 5] rfl rfl rfl rfl (by decide) (fun hPc hDc => va_runS (As := [.ref ke, .long (lN 0)]) (rest := []) ⟨hx, hb, hml, hown, hts⟩ (c_J7_fill_d0a16 l D Z H.size ke 9 K 0 (by first | assumption | omega)) (va_cwS 2 hts gX0_reckon_J7_fill_d0a16 rfl rfl rfl (by decide +kernel) ⟨Nat.le_of_ble_eq_true rfl, Nat.le_of_ble_eq_true rfl⟩) ⟨fb_cPre, pre_of hPc hK hDc⟩ rfl rfl hl.1 rfl (lv_room (Nat.le_of_ble_eq_true rfl)) dX0_reckon_15 ⟨Nat.le_of_ble_eq_true rfl, Nat.le_of_ble_eq_true rfl⟩) (fun u H locs hr1 hw => ?_)
  have hw : WS D A s [(Ol, .inr (0, [.long (lN 1), .ref ke, .long (lN 0), .ref co])), (co, .inl (Z 1, 9, .inr (.inl (aL C)))), (a, .inr (2, [.ref t, .int (nI (p 9)), .int (nI (p 10)), .int (nI (p 11)), .int (nI (p 13)), .int (nI (p 14)), .int (nI (p 15)), .int (nI (p 16)), .int (nI (p 17)), .int (nI (p 12))])), (t, .inr (5, [.int (nI (p 0)), .ref w])), (w, .inl (Z 0, 9, .inl (aI z))), (ke, .inl (Z 1, 9, .inr (.inl (aL (fil K 9 0)))))] H locs := hw
  refine lv_aload_n hx hb dX0_reckon_18 rfl (lv_at hl 0 rfl) ?_
  refine q_get (v := .ref co) (ci := 0) hx hb hts in_X0 hown hK hw 0 3 wd4 dX0_reckon_19 rfl rfl (by decide) rfl ?_
  refine q_lconst (v := 0) hx hb dX0_reckon_22 (by decide) ?_
  refine q_callv (S := Unit) (Z := Z) (D := D) (wc := [(co, .inl (Z 1, 9, .inr (.inl (aL C))))]) (wr := [(Ol, .inr (0, [.long (lN 1), .ref ke, .long (lN 0), .ref co])), (a, .inr (2, [.ref t, .int (nI (p 9)), .int (nI (p 10)), .int (nI (p 11)), .int (nI (p 13)), .int (nI (p 14)), .int (nI (p 15)), .int (nI (p 16)), .int (nI (p 17)), .int (nI (p 12))])), (t, .inr (5, [.int (nI (p 0)), .ref w])), (w, .inl (Z 0, 9, .inl (aI z))), (ke, .inl (Z 1, 9, .inr (.inl (aL (fil K 9 0)))))]) (rest := []) hw hA [1] [0, 2, 3, 4, 5] rfl rfl rfl rfl (by decide) (fun hPc hDc => va_runS (As := [.ref co, .long (lN 0)]) (rest := []) ⟨hx, hb, hml, hown, hts⟩ (c_J7_fill_d0a16 l D Z H.size co 9 C 0 (by first | assumption | omega)) (va_cwS 2 hts gX0_reckon_J7_fill_d0a16 rfl rfl rfl (by decide +kernel) ⟨Nat.le_of_ble_eq_true rfl, Nat.le_of_ble_eq_true rfl⟩) ⟨fb_cPre, pre_of hPc hK hDc⟩ rfl rfl hl.1 rfl (lv_room (Nat.le_of_ble_eq_true rfl)) dX0_reckon_23 ⟨Nat.le_of_ble_eq_true rfl, Nat.le_of_ble_eq_true rfl⟩) (fun u H locs hr2 hw => ?_)
  have hw : WS D A s [(Ol, .inr (0, [.long (lN 1), .ref ke, .long (lN 0), .ref co])), (a, .inr (2, [.ref t, .int (nI (p 9)), .int (nI (p 10)), .int (nI (p 11)), .int (nI (p 13)), .int (nI (p 14)), .int (nI (p 15)), .int (nI (p 16)), .int (nI (p 17)), .int (nI (p 12))])), (t, .inr (5, [.int (nI (p 0)), .ref w])), (w, .inl (Z 0, 9, .inl (aI z))), (ke, .inl (Z 1, 9, .inr (.inl (aL (fil K 9 0))))), (co, .inl (Z 1, 9, .inr (.inl (aL (fil C 9 0)))))] H locs := hw
  refine q_iconst (v := 1) hx hb dX0_reckon_26 (by decide) ?_
  refine lv_istore_n (lv' := [(3, .int (nI 1)), (0, .ref Ol), (1, .ref a), (2, .int (nI h))]) hx hb dX0_reckon_27 rfl hl (by decide) rfl (fun ls hl => ?_)
  have hw : WS D A s [(Ol, .inr (0, [.long (lN 1), .ref ke, .long (lN 0), .ref co])), (a, .inr (2, [.ref t, .int (nI (p 9)), .int (nI (p 10)), .int (nI (p 11)), .int (nI (p 13)), .int (nI (p 14)), .int (nI (p 15)), .int (nI (p 16)), .int (nI (p 17)), .int (nI (p 12))])), (t, .inr (5, [.int (nI (p 0)), .ref w])), (w, .inl (Z 0, 9, .inl (aI z))), (ke, .inl (Z 1, 9, .inr (.inl (aL (kT z (p 0) (p 9) (p 10) 0))))), (co, .inl (Z 1, 9, .inr (.inl (aL (fil C 9 0)))))] H locs := WS.arrL hw 4 rfl (fun k hk => by simp only [fil, kT]; rw [if_pos hk])
  have hw : WS D A s [(Ol, .inr (0, [.long (lN 1), .ref ke, .long (lN 0), .ref co])), (a, .inr (2, [.ref t, .int (nI (p 9)), .int (nI (p 10)), .int (nI (p 11)), .int (nI (p 13)), .int (nI (p 14)), .int (nI (p 15)), .int (nI (p 16)), .int (nI (p 17)), .int (nI (p 12))])), (t, .inr (5, [.int (nI (p 0)), .ref w])), (w, .inl (Z 0, 9, .inl (aI z))), (ke, .inl (Z 1, 9, .inr (.inl (aL (kT z (p 0) (p 9) (p 10) 0))))), (co, .inl (Z 1, 9, .inr (.inl (aL (cT z (p 0) (p 9) (p 10) 0)))))] H locs := WS.arrL hw 5 rfl (fun k hk => by simp only [fil, cT]; rw [if_pos hk])
  refine q_loop (σ := Nat) (fun (i : Nat) => h - i) (fun (i : Nat) => i ≤ h) (fun (i : Nat) => [(Ol, .inr (0, [.long (lN (lf z (p 0) 0 ^ i)), .ref ke, .long (lN (rT z (p 0) (p 9) (p 10) i)), .ref co])), (ke, .inl (Z 1, 9, .inr (.inl (aL (kT z (p 0) (p 9) (p 10) i))))), (co, .inl (Z 1, 9, .inr (.inl (aL (cT z (p 0) (p 9) (p 10) i))))), (a, .inr (2, [.ref t, .int (nI (p 9)), .int (nI (p 10)), .int (nI (p 11)), .int (nI (p 13)), .int (nI (p 14)), .int (nI (p 15)), .int (nI (p 16)), .int (nI (p 17)), .int (nI (p 12))])), (t, .inr (5, [.int (nI (p 0)), .ref w])), (w, .inl (Z 0, 9, .inl (aI z)))]) (fun (i : Nat) => [(3, .int (nI (i + 1))), (0, .ref Ol), (1, .ref a), (2, .int (nI h))]) 0 (Nat.zero_le _) (hw.sub [0, 4, 5, 1, 2, 3] (by decide) rfl) (lv_sub hl [0, 1, 2, 3] rfl) ?_
  intro i H locs ls hi28 hw hl ih28
  try dsimp only at hi28 hw hl ih28
  have hw : WS D A s [(Ol, .inr (0, [.long (lN (lf z (p 0) 0 ^ i)), .ref ke, .long (lN (rT z (p 0) (p 9) (p 10) i)), .ref co])), (ke, .inl (Z 1, 9, .inr (.inl (aL (kT z (p 0) (p 9) (p 10) i))))), (co, .inl (Z 1, 9, .inr (.inl (aL (cT z (p 0) (p 9) (p 10) i))))), (a, .inr (2, [.ref t, .int (nI (p 9)), .int (nI (p 10)), .int (nI (p 11)), .int (nI (p 13)), .int (nI (p 14)), .int (nI (p 15)), .int (nI (p 16)), .int (nI (p 17)), .int (nI (p 12))])), (t, .inr (5, [.int (nI (p 0)), .ref w])), (w, .inl (Z 0, 9, .inl (aI z)))] H locs := hw
  have hl : lv_has ls 4 [(3, .int (nI (i + 1))), (0, .ref Ol), (1, .ref a), (2, .int (nI h))] := hl
  refine lv_iload_n hx hb dX0_reckon_28 rfl (lv_at hl 0 rfl) ?_
  refine lv_iload_n hx hb dX0_reckon_29 rfl (lv_at hl 3 rfl) ?_
  refine q_icmp_gt (tgt := 44) hx hb ((i + 1 : Nat) : Int) ((h : Nat) : Int) (nI_toInt (by omega)) (nI_toInt (by omega)) dX0_reckon_30 (by decide) (fun c3 => ?_) (fun c3 => ?_)
  · --
    obtain rfl : i = h := by omega
    exact q_vret (wout := _) hx hb hr hlocks hAe hK () hw (trivial) dX0_reckon_44
  · --
    refine lv_aload_n hx hb dX0_reckon_33 rfl (lv_at hl 1 rfl) ?_
    refine lv_aload_n hx hb dX0_reckon_34 rfl (lv_at hl 2 rfl) ?_
    refine q_callv (S := Unit) (Z := Z) (D := D) (wc := [(Ol, .inr (0, [.long (lN (lf z (p 0) 0 ^ i)), .ref ke, .long (lN (rT z (p 0) (p 9) (p 10) i)), .ref co])), (ke, .inl (Z 1, 9, .inr (.inl (aL (kT z (p 0) (p 9) (p 10) i))))), (co, .inl (Z 1, 9, .inr (.inl (aL (cT z (p 0) (p 9) (p 10) i))))), (a, .inr (2, [.ref t, .int (nI (p 9)), .int (nI (p 10)), .int (nI (p 11)), .int (nI (p 13)), .int (nI (p 14)), .int (nI (p 15)), .int (nI (p 16)), .int (nI (p 17)), .int (nI (p 12))])), (t, .inr (5, [.int (nI (p 0)), .ref w])), (w, .inl (Z 0, 9, .inl (aI z)))]) (wr := []) (rest := []) hw hA [0, 1, 2, 3, 4, 5] [] rfl rfl rfl rfl (by decide) (fun hPc hDc => va_runV (As := [.ref a]) (rest := []) ⟨hx, hb, hml, hown, hts⟩ (c_X0_addPeriodAhead l D Z H.size Ol ke co (lf z (p 0) 0 ^ i) (rT z (p 0) (p 9) (p 10) i) (kT z (p 0) (p 9) (p 10) i) (cT z (p 0) (p 9) (p 10) i) a t w p z (by first | assumption | omega) (by first | assumption | omega) (by first | assumption | omega) (by first | assumption | omega) (Nat.le_trans (Nat.pow_le_pow_left hal.2 i) (Nat.le_trans (Nat.pow_le_pow_right (j := 4) (by omega) (by omega)) (by decide))) (cT_le hn.2 hal.2 h9 h10 (by omega))) (cwV 1 hts gX0_reckon_X0_addPeriodAhead rfl rfl rfl (by decide +kernel) ⟨Nat.le_of_ble_eq_true rfl, Nat.le_of_ble_eq_true rfl⟩) ⟨fb_cPre, va_recv hK.1 hPc (ci := 0) (q0 := 0) rfl rfl, pre_of hPc hK hDc⟩ rfl rfl hl.1 rfl (lv_room (Nat.le_of_ble_eq_true rfl)) dX0_reckon_35 ⟨Nat.le_of_ble_eq_true rfl, Nat.le_of_ble_eq_true rfl⟩) (fun u H locs hr4 hw => ?_)
    have hw : WS D A s [(Ol, .inr (0, [.long (lN ((lf z (p 0) 0 ^ i) * lf z (p 0) 0)), .ref ke, .long (lN (rpf z (p 0) (p 9) (p 10) (cT z (p 0) (p 9) (p 10) i) ((lf z (p 0) 0 ^ i) * lf z (p 0) 0))), .ref co])), (ke, .inl (Z 1, 9, .inr (.inl (aL (seg (kpf z (p 0) (p 9) (cT z (p 0) (p 9) (p 10) i) ((lf z (p 0) 0 ^ i) * lf z (p 0) 0)) (p 0) (kT z (p 0) (p 9) (p 10) i)))))), (co, .inl (Z 1, 9, .inr (.inl (aL (seg (cpf z (p 0) (p 9) (p 10) (cT z (p 0) (p 9) (p 10) i) ((lf z (p 0) 0 ^ i) * lf z (p 0) 0)) (p 0) (cT z (p 0) (p 9) (p 10) i)))))), (a, .inr (2, [.ref t, .int (nI (p 9)), .int (nI (p 10)), .int (nI (p 11)), .int (nI (p 13)), .int (nI (p 14)), .int (nI (p 15)), .int (nI (p 16)), .int (nI (p 17)), .int (nI (p 12))])), (t, .inr (5, [.int (nI (p 0)), .ref w])), (w, .inl (Z 0, 9, .inl (aI z)))] H locs := hw
    refine lv_iinc (v := nI (i + 1 + 1)) (lv' := [(3, .int (nI (i + 1 + 1))), (0, .ref Ol), (1, .ref a), (2, .int (nI h))]) hx hb dX0_reckon_38 hl (k := 0) rfl (nI_add _ _) (by decide) rfl (fun ls hl => ?_)
    refine lv_goto (tgt := 28) hx hb dX0_reckon_41 (by decide) ?_
    have hw : WS D A s [(Ol, .inr (0, [.long (lN ((lf z (p 0) 0 ^ i) * lf z (p 0) 0)), .ref ke, .long (lN (rpf z (p 0) (p 9) (p 10) (cT z (p 0) (p 9) (p 10) i) ((lf z (p 0) 0 ^ i) * lf z (p 0) 0))), .ref co])), (ke, .inl (Z 1, 9, .inr (.inl (aL (kT z (p 0) (p 9) (p 10) (i + 1)))))), (co, .inl (Z 1, 9, .inr (.inl (aL (seg (cpf z (p 0) (p 9) (p 10) (cT z (p 0) (p 9) (p 10) i) ((lf z (p 0) 0 ^ i) * lf z (p 0) 0)) (p 0) (cT z (p 0) (p 9) (p 10) i)))))), (a, .inr (2, [.ref t, .int (nI (p 9)), .int (nI (p 10)), .int (nI (p 11)), .int (nI (p 13)), .int (nI (p 14)), .int (nI (p 15)), .int (nI (p 16)), .int (nI (p 17)), .int (nI (p 12))])), (t, .inr (5, [.int (nI (p 0)), .ref w])), (w, .inl (Z 0, 9, .inl (aI z)))] H locs := by rw [show (kT z (p 0) (p 9) (p 10) (i + 1)) = (seg (kpf z (p 0) (p 9) (cT z (p 0) (p 9) (p 10) i) ((lf z (p 0) 0 ^ i) * lf z (p 0) 0)) (p 0) (kT z (p 0) (p 9) (p 10) i)) from rfl]; exact hw
    have hw : WS D A s [(Ol, .inr (0, [.long (lN ((lf z (p 0) 0 ^ i) * lf z (p 0) 0)), .ref ke, .long (lN (rpf z (p 0) (p 9) (p 10) (cT z (p 0) (p 9) (p 10) i) ((lf z (p 0) 0 ^ i) * lf z (p 0) 0))), .ref co])), (ke, .inl (Z 1, 9, .inr (.inl (aL (kT z (p 0) (p 9) (p 10) (i + 1)))))), (co, .inl (Z 1, 9, .inr (.inl (aL (cT z (p 0) (p 9) (p 10) (i + 1)))))), (a, .inr (2, [.ref t, .int (nI (p 9)), .int (nI (p 10)), .int (nI (p 11)), .int (nI (p 13)), .int (nI (p 14)), .int (nI (p 15)), .int (nI (p 16)), .int (nI (p 17)), .int (nI (p 12))])), (t, .inr (5, [.int (nI (p 0)), .ref w])), (w, .inl (Z 0, 9, .inl (aI z)))] H locs := by rw [show (cT z (p 0) (p 9) (p 10) (i + 1)) = (seg (cpf z (p 0) (p 9) (p 10) (cT z (p 0) (p 9) (p 10) i) ((lf z (p 0) 0 ^ i) * lf z (p 0) 0)) (p 0) (cT z (p 0) (p 9) (p 10) i)) from rfl]; exact hw
    exact ih28 (i + 1) H locs ls (by omega) (by omega) hw (lv_sub hl [0, 1, 2, 3] rfl)
set_option maxHeartbeats 4000000 in
set_option maxRecDepth 100000 in
theorem c_X0_isBetter (l : Launch) (D : va_G) (Z : Nat → ClassId) (sz : Nat) (Ol ke co sc re : Nat) (K C : Nat → Nat) (t w n : Nat) (z : Nat → Nat) (i : Nat) (hn : n ≤ 8) (hs : lf z n 0 ≤ 24) (hi : i ≤ 8) (hre : re ≤ 2000000000000) (hKi : K i < 2 ^ 63) : cMi l yX0_isBetter wsX0_isBetter (rmd 2) D Z sz [.ref Ol, .int (nI i), .ref t] [(Ol, .inr (0, [.long (lN sc), .ref ke, .long (lN re), .ref co])), (ke, .inl (Z 1, 9, .inr (.inl (aL K)))), (co, .inl (Z 1, 9, .inr (.inl (aL C)))), (t, .inr (5, [.int (nI n), .ref w])), (w, .inl (Z 0, 9, .inl (aI z)))] (S := Unit) (fun (r : Int32) => fun (_ : Unit) => r = nI (bb (lf z n i * re < K i))) (fun (_ : Unit) => [(Ol, .inr (0, [.long (lN sc), .ref ke, .long (lN re), .ref co])), (ke, .inl (Z 1, 9, .inr (.inl (aL K)))), (co, .inl (Z 1, 9, .inr (.inl (aL C)))), (t, .inr (5, [.int (nI n), .ref w])), (w, .inl (Z 0, 9, .inl (aI z)))]) 0 0 := by
  refine q_open (y := yX0_isBetter) (ws := wsX0_isBetter) (av := [.ref Ol, .int (nI i), .ref t]) (win := [(Ol, .inr (0, [.long (lN sc), .ref ke, .long (lN re), .ref co])), (ke, .inl (Z 1, 9, .inr (.inl (aL K)))), (co, .inl (Z 1, 9, .inr (.inl (aL C)))), (t, .inr (5, [.int (nI n), .ref w])), (w, .inl (Z 0, 9, .inl (aI z)))]) (Qc := fun sz => cQi D Z sz [(Ol, .inr (0, [.long (lN sc), .ref ke, .long (lN re), .ref co])), (ke, .inl (Z 1, 9, .inr (.inl (aL K)))), (co, .inl (Z 1, 9, .inr (.inl (aL C)))), (t, .inr (5, [.int (nI n), .ref w])), (w, .inl (Z 0, 9, .inl (aI z)))] (S := Unit) (fun (r : Int32) => fun (_ : Unit) => r = nI (bb (lf z n i * re < K i))) (fun (_ : Unit) => [(Ol, .inr (0, [.long (lN sc), .ref ke, .long (lN re), .ref co])), (ke, .inl (Z 1, 9, .inr (.inl (aL K)))), (co, .inl (Z 1, 9, .inr (.inl (aL C)))), (t, .inr (5, [.int (nI n), .ref w])), (w, .inl (Z 0, 9, .inl (aI z)))])) (cc := cX0_isBetter) (maxL := 3) (ret := (some .boolean)) (by decide) rfl (Nat.le_of_ble_eq_true rfl) ?_
  intro pp ee s mm bw mt cd ls A H locs hAe hx hb hr hml hown hmn hts hlocks hA hK hw hl
  have hown : s.vm.findClass RX0 = some mm.cls := hown
  have hl : lv_has ls 3 [(0, .ref Ol), (1, .int (nI i)), (2, .ref t)] := hl
  have wd1 := hts (.fieldLink RX0 15 "ReplaceAges$Outlook" "keeping" "[J") (List.mem_of_getElem? (i := 1) rfl)
  have wd2 := hts (.fieldLink RX0 22 "ReplaceAges$Outlook" "replacing" "J") (List.mem_of_getElem? (i := 2) rfl)
  have in_X0 : ∀ w ∈ wsX00, w ∈ wsX0_isBetter := fun _ h => List.mem_cons_of_mem _ (List.mem_append_left _ (List.mem_append_right _ h))
  have hli := lf_anti (w := z) (n := n) (Nat.zero_le i)
  have k2 : lf z n i * re ≤ 24 * 2000000000000 := Nat.mul_le_mul (by omega) hre
  refine lv_iload_n hx hb dX0_isBetter_0 rfl (lv_at hl 1 rfl) ?_
  refine q_if_lt (tgt := 38) hx hb ((i : Nat) : Int) (nI_toInt (by omega)) dX0_isBetter_1 (by decide) (fun c1 => ?_) (fun c1 => ?_)
  · --
    exfalso; omega
  · --
    refine lv_iload_n hx hb dX0_isBetter_4 rfl (lv_at hl 1 rfl) ?_
    refine lv_aload_n hx hb dX0_isBetter_5 rfl (lv_at hl 0 rfl) ?_
    refine q_get (v := .ref ke) (ci := 0) hx hb hts in_X0 hown hK hw 0 1 wd1 dX0_isBetter_6 rfl rfl (by decide) rfl ?_
    refine q_aleni hx hb hK hw 1 1 dX0_isBetter_9 rfl rfl ?_
    refine q_icmp_ge (tgt := 38) hx hb ((i : Nat) : Int) ((9 : Nat) : Int) (nI_toInt (by omega)) (nI_toInt (by omega)) dX0_isBetter_10 (by decide) (fun c2 => ?_) (fun c2 => ?_)
    · --
      exfalso; omega
    · --
      refine lv_aload_n hx hb dX0_isBetter_13 rfl (lv_at hl 2 rfl) ?_
      refine lv_iload_n hx hb dX0_isBetter_14 rfl (lv_at hl 1 rfl) ?_
      refine q_calli (S := Unit) (Z := Z) (D := D) (wc := [(t, .inr (5, [.int (nI n), .ref w])), (w, .inl (Z 0, 9, .inl (aI z)))]) (wr := [(Ol, .inr (0, [.long (lN sc), .ref ke, .long (lN re), .ref co])), (ke, .inl (Z 1, 9, .inr (.inl (aL K)))), (co, .inl (Z 1, 9, .inr (.inl (aL C))))]) (rest := []) hw hA [3, 4] [0, 1, 2] rfl rfl rfl rfl (by decide) (fun hPc hDc => va_runV (As := [.int (nI i)]) (rest := []) ⟨hx, hb, hml, hown, hts⟩ (c_X5_left l D Z H.size t w n z i (by first | assumption | omega) (by first | assumption | omega)) (cwV 1 hts gX0_isBetter_X5_left rfl rfl rfl (by decide +kernel) ⟨Nat.le_of_ble_eq_true rfl, Nat.le_of_ble_eq_true rfl⟩) ⟨fb_cPre, va_recv hK.1 hPc (ci := 5) (q0 := 0) rfl rfl, pre_of hPc hK hDc⟩ rfl rfl hl.1 rfl (lv_room (Nat.le_of_ble_eq_true rfl)) dX0_isBetter_15 ⟨Nat.le_of_ble_eq_true rfl, Nat.le_of_ble_eq_true rfl⟩) (fun r3 u H locs hr3 hw => ?_)
      subst hr3
      have hw : WS D A s [(Ol, .inr (0, [.long (lN sc), .ref ke, .long (lN re), .ref co])), (ke, .inl (Z 1, 9, .inr (.inl (aL K)))), (co, .inl (Z 1, 9, .inr (.inl (aL C)))), (t, .inr (5, [.int (nI n), .ref w])), (w, .inl (Z 0, 9, .inl (aI z)))] H locs := hw
      refine q_i2l hx hb (by omega) dX0_isBetter_18 ?_
      refine lv_aload_n hx hb dX0_isBetter_19 rfl (lv_at hl 0 rfl) ?_
      refine q_get (v := .long (lN re)) (ci := 0) hx hb hts in_X0 hown hK hw 0 2 wd2 dX0_isBetter_20 rfl rfl (by decide) rfl ?_
      refine q_lmul hx hb dX0_isBetter_23 ?_
      refine lv_aload_n hx hb dX0_isBetter_24 rfl (lv_at hl 0 rfl) ?_
      refine q_get (v := .ref ke) (ci := 0) hx hb hts in_X0 hown hK hw 0 1 wd1 dX0_isBetter_25 rfl rfl (by decide) rfl ?_
      refine lv_iload_n hx hb dX0_isBetter_28 rfl (lv_at hl 1 rfl) ?_
      refine q_lald hx hb hK hw 1 (by omega) (by omega) dX0_isBetter_29 rfl ?_
      refine q_lc_ge (tgt := 38) hx hb (((lf z n i) * re : Nat) : Int) ((K i : Nat) : Int) (pk_lT (by first | omega | assumption)) (pk_lT (by first | omega | assumption)) dX0_isBetter_30 dX0_isBetter_31 (by decide) (fun c4 => ?_) (fun c4 => ?_)
      · --
        refine q_iconst (v := 0) hx hb dX0_isBetter_38 (by decide) ?_
        exact q_zret (wout := _) hx hb hr hlocks hAe hK () hw rfl (by first | exact (congrArg nI (bb_t (by omega))).symm | exact (congrArg nI (bb_f (by omega))).symm) dX0_isBetter_39
      · --
        refine q_iconst (v := 1) hx hb dX0_isBetter_34 (by decide) ?_
        refine lv_goto (tgt := 39) hx hb dX0_isBetter_35 (by decide) ?_
        exact q_zret (wout := _) hx hb hr hlocks hAe hK () hw rfl (by first | exact (congrArg nI (bb_t (by omega))).symm | exact (congrArg nI (bb_f (by omega))).symm) dX0_isBetter_39
set_option maxHeartbeats 4000000 in
set_option maxRecDepth 100000 in
theorem c_X0_costFrom (l : Launch) (D : va_G) (Z : Nat → ClassId) (sz : Nat) (Ol ke co sc re : Nat) (K C : Nat → Nat) (i : Nat) (hi : i ≤ 8) : cMl l yX0_costFrom wsX0_costFrom (rmd 0) D Z sz [.ref Ol, .int (nI i)] [(Ol, .inr (0, [.long (lN sc), .ref ke, .long (lN re), .ref co])), (ke, .inl (Z 1, 9, .inr (.inl (aL K)))), (co, .inl (Z 1, 9, .inr (.inl (aL C))))] (S := Unit) (fun (r : Int64) => fun (_ : Unit) => r = lN (C i)) (fun (_ : Unit) => [(Ol, .inr (0, [.long (lN sc), .ref ke, .long (lN re), .ref co])), (ke, .inl (Z 1, 9, .inr (.inl (aL K)))), (co, .inl (Z 1, 9, .inr (.inl (aL C))))]) 0 0 := by
  refine q_open (y := yX0_costFrom) (ws := wsX0_costFrom) (av := [.ref Ol, .int (nI i)]) (win := [(Ol, .inr (0, [.long (lN sc), .ref ke, .long (lN re), .ref co])), (ke, .inl (Z 1, 9, .inr (.inl (aL K)))), (co, .inl (Z 1, 9, .inr (.inl (aL C))))]) (Qc := fun sz => cQl D Z sz [(Ol, .inr (0, [.long (lN sc), .ref ke, .long (lN re), .ref co])), (ke, .inl (Z 1, 9, .inr (.inl (aL K)))), (co, .inl (Z 1, 9, .inr (.inl (aL C))))] (S := Unit) (fun (r : Int64) => fun (_ : Unit) => r = lN (C i)) (fun (_ : Unit) => [(Ol, .inr (0, [.long (lN sc), .ref ke, .long (lN re), .ref co])), (ke, .inl (Z 1, 9, .inr (.inl (aL K)))), (co, .inl (Z 1, 9, .inr (.inl (aL C))))])) (cc := cX0_costFrom) (maxL := 2) (ret := (some .long)) (by decide) rfl (Nat.le_of_ble_eq_true rfl) ?_
  intro pp ee s mm bw mt cd ls A H locs hAe hx hb hr hml hown hmn hts hlocks hA hK hw hl
  have hown : s.vm.findClass RX0 = some mm.cls := hown
  have hl : lv_has ls 2 [(0, .ref Ol), (1, .int (nI i))] := hl
  have wd1 := hts (.fieldLink RX0 19 "ReplaceAges$Outlook" "costs" "[J") (List.mem_of_getElem? (i := 1) rfl)
  have in_X0 : ∀ w ∈ wsX00, w ∈ wsX0_costFrom := fun _ h => List.mem_cons_of_mem _ (List.mem_append_right _ h)
  refine lv_iload_n hx hb dX0_costFrom_0 rfl (lv_at hl 1 rfl) ?_
  refine q_if_lt (tgt := 22) hx hb ((i : Nat) : Int) (nI_toInt (by omega)) dX0_costFrom_1 (by decide) (fun c1 => ?_) (fun c1 => ?_)
  · --
    exfalso; omega
  · --
    refine lv_iload_n hx hb dX0_costFrom_4 rfl (lv_at hl 1 rfl) ?_
    refine lv_aload_n hx hb dX0_costFrom_5 rfl (lv_at hl 0 rfl) ?_
    refine q_get (v := .ref co) (ci := 0) hx hb hts in_X0 hown hK hw 0 3 wd1 dX0_costFrom_6 rfl rfl (by decide) rfl ?_
    refine q_aleni hx hb hK hw 2 1 dX0_costFrom_9 rfl rfl ?_
    refine q_icmp_ge (tgt := 22) hx hb ((i : Nat) : Int) ((9 : Nat) : Int) (nI_toInt (by omega)) (nI_toInt (by omega)) dX0_costFrom_10 (by decide) (fun c2 => ?_) (fun c2 => ?_)
    · --
      exfalso; omega
    · --
      refine lv_aload_n hx hb dX0_costFrom_13 rfl (lv_at hl 0 rfl) ?_
      refine q_get (v := .ref co) (ci := 0) hx hb hts in_X0 hown hK hw 0 3 wd1 dX0_costFrom_14 rfl rfl (by decide) rfl ?_
      refine lv_iload_n hx hb dX0_costFrom_17 rfl (lv_at hl 1 rfl) ?_
      refine q_lald hx hb hK hw 2 (by omega) (by omega) dX0_costFrom_18 rfl ?_
      refine lv_goto (tgt := 23) hx hb dX0_costFrom_19 (by decide) ?_
      exact q_lret (wout := _) hx hb hr hlocks hAe hK () hw (rfl) dX0_costFrom_23
