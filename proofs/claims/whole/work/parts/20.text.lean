/-- the letter that stands at a place; 0 at the end -/
def ltr (L : Nat → Nat) (sz a : Nat) : Nat := if a < sz then L a else 0
def skb (L : Nat → Nat) (sz : Nat) : Nat → Nat → Nat
  | 0, a => a
  | f + 1, a => if ltr L sz a = 32 then skb L sz f (a + 1) else a
/-- the next place that is no blank -/
def sk (L : Nat → Nat) (sz a : Nat) : Nat := skb L sz (sz - a) a
theorem ltr_lt {L : Nat → Nat} {sz a : Nat} (h : ltr L sz a = 32) : a < sz := by
  unfold ltr at h; split at h
  · assumption
  · omega
theorem ltr_lt' {L : Nat → Nat} {sz a : Nat} (h : 0 < ltr L sz a) : a < sz := by
  unfold ltr at h; split at h
  · assumption
  · omega
theorem ltr_b {L : Nat → Nat} {sz a : Nat} (hL : ∀ k, L k < 128) : ltr L sz a < 128 := by
  unfold ltr; split
  · exact hL _
  · omega
theorem sk_stop {L : Nat → Nat} {sz a : Nat} (h : ltr L sz a ≠ 32) : sk L sz a = a := by
  unfold sk; cases hf : sz - a with
  | zero => rfl
  | succ f => simp only [skb]; rw [if_neg h]
theorem sk_end {L : Nat → Nat} {sz a : Nat} (h : sz ≤ a) : sk L sz a = a := by
  unfold sk; rw [show sz - a = 0 by omega]; rfl
theorem sk_step {L : Nat → Nat} {sz a : Nat} (h : ltr L sz a = 32) : sk L sz (a + 1) = sk L sz a := by
  have := ltr_lt h
  unfold sk; rw [show sz - a = (sz - (a + 1)) + 1 by omega]; simp only [skb]; rw [if_pos h]
theorem skb_ge (L : Nat → Nat) (sz : Nat) : ∀ f a, a ≤ skb L sz f a := by
  intro f; induction f with
  | zero => intro a; exact Nat.le_refl _
  | succ f ih => intro a; simp only [skb]; split
                 · exact Nat.le_trans (Nat.le_succ a) (ih (a + 1))
                 · exact Nat.le_refl _
theorem skb_le (L : Nat → Nat) (sz : Nat) : ∀ f a, skb L sz f a ≤ a + f := by
  intro f; induction f with
  | zero => intro a; exact Nat.le_refl _
  | succ f ih => intro a; simp only [skb]; split
                 · have := ih (a + 1); omega
                 · omega
theorem sk_le {L : Nat → Nat} {sz a : Nat} (h : a ≤ sz) : a ≤ sk L sz a ∧ sk L sz a ≤ sz := by
  have h1 := skb_ge L sz (sz - a) a
  have h2 := skb_le L sz (sz - a) a
  unfold sk; omega
theorem skb_no (L : Nat → Nat) (sz : Nat) : ∀ f a, sz ≤ a + f → ltr L sz (skb L sz f a) ≠ 32 := by
  intro f; induction f with
  | zero => intro a h q; have := ltr_lt q; simp only [skb] at this; omega
  | succ f ih => intro a h; simp only [skb]; split
                 · exact ih (a + 1) (by omega)
                 · assumption
theorem sk_no {L : Nat → Nat} {sz : Nat} (a : Nat) : ltr L sz (sk L sz a) ≠ 32 := skb_no L sz _ _ (by omega)
theorem sk_sk {L : Nat → Nat} {sz a : Nat} : sk L sz (sk L sz a) = sk L sz a := sk_stop (sk_no a)
abbrev fgr (c : Nat) : Prop := 48 ≤ c ∧ c ≤ 57
def fgv (c : Nat) : Int32 := if fgr c then nI (c - 48) else (-1)
theorem fgv_in {c : Nat} (h : fgr c) : fgv c = nI (c - 48) := if_pos h
theorem fgv_out {c : Nat} (h : ¬ fgr c) : fgv c = (-1) := if_neg h
set_option maxHeartbeats 4000000 in
set_option maxRecDepth 100000 in
theorem c_X6_letter (l : Launch) (D : va_G) (Z : Nat → ClassId) (zs0 : Nat) (T le tt tw : Nat) (L : Nat → Nat) (sz n : Nat) (z : Nat → Nat) (told : Nat) (F G : Int32) (fl ap la : Nat) (hL : ∀ k, L k < 128) (hsz : sz ≤ 60) (hap : ap ≤ sz) : cMi l yX6_letter wsX6_letter (rmd 0) D Z zs0 [.ref T] [(T, .inr (6, [.ref le, .int (nI sz), .ref tt, .int (nI told), .int F, .int G, .int (nI fl), .int (nI ap), .int (nI la)])), (le, .inl (Z 2, 60, .inl (aI L))), (tt, .inr (5, [.int (nI n), .ref tw])), (tw, .inl (Z 0, 9, .inl (aI z)))] (S := Unit) (fun (r : Int32) => fun (_ : Unit) => r = nI (ltr L sz ap)) (fun (_ : Unit) => [(T, .inr (6, [.ref le, .int (nI sz), .ref tt, .int (nI told), .int F, .int G, .int (nI fl), .int (nI ap), .int (nI la)])), (le, .inl (Z 2, 60, .inl (aI L))), (tt, .inr (5, [.int (nI n), .ref tw])), (tw, .inl (Z 0, 9, .inl (aI z)))]) 0 0 := by
  refine q_open (y := yX6_letter) (ws := wsX6_letter) (av := [.ref T]) (win := [(T, .inr (6, [.ref le, .int (nI sz), .ref tt, .int (nI told), .int F, .int G, .int (nI fl), .int (nI ap), .int (nI la)])), (le, .inl (Z 2, 60, .inl (aI L))), (tt, .inr (5, [.int (nI n), .ref tw])), (tw, .inl (Z 0, 9, .inl (aI z)))]) (Qc := fun zs0 => cQi D Z zs0 [(T, .inr (6, [.ref le, .int (nI sz), .ref tt, .int (nI told), .int F, .int G, .int (nI fl), .int (nI ap), .int (nI la)])), (le, .inl (Z 2, 60, .inl (aI L))), (tt, .inr (5, [.int (nI n), .ref tw])), (tw, .inl (Z 0, 9, .inl (aI z)))] (S := Unit) (fun (r : Int32) => fun (_ : Unit) => r = nI (ltr L sz ap)) (fun (_ : Unit) => [(T, .inr (6, [.ref le, .int (nI sz), .ref tt, .int (nI told), .int F, .int G, .int (nI fl), .int (nI ap), .int (nI la)])), (le, .inl (Z 2, 60, .inl (aI L))), (tt, .inr (5, [.int (nI n), .ref tw])), (tw, .inl (Z 0, 9, .inl (aI z)))])) (cc := cX6_letter) (maxL := 1) (ret := (some .char)) (by decide) rfl (Nat.le_of_ble_eq_true rfl) ?_
  intro pp ee s mm bw mt cd ls A H locs hAe hx hb hr hml hown hmn hts hlocks hA hK hw hl
  have hown : s.vm.findClass RX6 = some mm.cls := hown
  have hl : lv_has ls 1 [(0, .ref T)] := hl
  have wd1 := hts (.fieldLink RX6 26 "ReplaceAges$Text" "at" "I") (List.mem_of_getElem? (i := 1) rfl)
  have wd2 := hts (.fieldLink RX6 22 "ReplaceAges$Text" "size" "I") (List.mem_of_getElem? (i := 2) rfl)
  have wd3 := hts (.fieldLink RX6 9 "ReplaceAges$Text" "letters" "[C") (List.mem_of_getElem? (i := 3) rfl)
  have in_X6 : ∀ w ∈ wsX60, w ∈ wsX6_letter := fun _ h => List.mem_cons_of_mem _ (List.mem_append_right _ h)
  refine lv_aload_n hx hb dX6_letter_0 rfl (lv_at hl 0 rfl) ?_
  refine q_get (v := .int (nI ap)) (ci := 6) hx hb hts in_X6 hown hK hw 0 7 wd1 dX6_letter_1 rfl rfl (by decide) rfl ?_
  refine q_if_lt (tgt := 42) hx hb ((ap : Nat) : Int) (nI_toInt (by omega)) dX6_letter_4 (by decide) (fun c1 => ?_) (fun c1 => ?_)
  · --
    exfalso; omega
  · --
    refine lv_aload_n hx hb dX6_letter_7 rfl (lv_at hl 0 rfl) ?_
    refine q_get (v := .int (nI ap)) (ci := 6) hx hb hts in_X6 hown hK hw 0 7 wd1 dX6_letter_8 rfl rfl (by decide) rfl ?_
    refine lv_aload_n hx hb dX6_letter_11 rfl (lv_at hl 0 rfl) ?_
    refine q_get (v := .int (nI sz)) (ci := 6) hx hb hts in_X6 hown hK hw 0 1 wd2 dX6_letter_12 rfl rfl (by decide) rfl ?_
    refine q_icmp_ge (tgt := 42) hx hb ((ap : Nat) : Int) ((sz : Nat) : Int) (nI_toInt (by omega)) (nI_toInt (by omega)) dX6_letter_15 (by decide) (fun c2 => ?_) (fun c2 => ?_)
    · --
      refine q_iconst (v := 0) hx hb dX6_letter_42 (by decide) ?_
      exact q_zret (wout := _) hx hb hr hlocks hAe hK () hw (by first | rfl | exact (pk_charN (Nat.lt_trans (hL _) (by decide))).1) (by unfold ltr; first | rw [if_pos (by omega)] | rw [if_neg (by omega)]) dX6_letter_43
    · --
      refine lv_aload_n hx hb dX6_letter_18 rfl (lv_at hl 0 rfl) ?_
      refine q_get (v := .int (nI ap)) (ci := 6) hx hb hts in_X6 hown hK hw 0 7 wd1 dX6_letter_19 rfl rfl (by decide) rfl ?_
      refine lv_aload_n hx hb dX6_letter_22 rfl (lv_at hl 0 rfl) ?_
      refine q_get (v := .ref le) (ci := 6) hx hb hts in_X6 hown hK hw 0 0 wd3 dX6_letter_23 rfl rfl (by decide) rfl ?_
      refine q_aleni hx hb hK hw 1 2 dX6_letter_26 rfl rfl ?_
      refine q_icmp_ge (tgt := 42) hx hb ((ap : Nat) : Int) ((60 : Nat) : Int) (nI_toInt (by omega)) (nI_toInt (by omega)) dX6_letter_27 (by decide) (fun c3 => ?_) (fun c3 => ?_)
      · --
        exfalso; omega
      · --
        refine lv_aload_n hx hb dX6_letter_30 rfl (lv_at hl 0 rfl) ?_
        refine q_get (v := .ref le) (ci := 6) hx hb hts in_X6 hown hK hw 0 0 wd3 dX6_letter_31 rfl rfl (by decide) rfl ?_
        refine lv_aload_n hx hb dX6_letter_34 rfl (lv_at hl 0 rfl) ?_
        refine q_get (v := .int (nI ap)) (ci := 6) hx hb hts in_X6 hown hK hw 0 7 wd1 dX6_letter_35 rfl rfl (by decide) rfl ?_
        refine q_cald hx hb hK hw 1 (by omega) (by omega) dX6_letter_38 rfl ?_
        refine lv_goto (tgt := 43) hx hb dX6_letter_39 (by decide) ?_
        exact q_zret (wout := _) hx hb hr hlocks hAe hK () hw (by first | rfl | exact (pk_charN (Nat.lt_trans (hL _) (by decide))).1) (by unfold ltr; first | rw [if_pos (by omega)] | rw [if_neg (by omega)]) dX6_letter_43
set_option maxHeartbeats 4000000 in
set_option maxRecDepth 100000 in
theorem c_X6_skipBlanks (l : Launch) (D : va_G) (Z : Nat → ClassId) (zs0 : Nat) (T le tt tw : Nat) (L : Nat → Nat) (sz n : Nat) (z : Nat → Nat) (told : Nat) (F G : Int32) (fl ap la : Nat) (hL : ∀ k, L k < 128) (hsz : sz ≤ 60) (hap : ap ≤ sz) : cMv l yX6_skipBlanks wsX6_skipBlanks (rmd 1) D Z zs0 [.ref T] [(T, .inr (6, [.ref le, .int (nI sz), .ref tt, .int (nI told), .int F, .int G, .int (nI fl), .int (nI ap), .int (nI la)])), (le, .inl (Z 2, 60, .inl (aI L))), (tt, .inr (5, [.int (nI n), .ref tw])), (tw, .inl (Z 0, 9, .inl (aI z)))] (S := Unit) (fun (_ : Unit) => True) (fun (_ : Unit) => [(T, .inr (6, [.ref le, .int (nI sz), .ref tt, .int (nI told), .int F, .int G, .int (nI fl), .int (nI (sk L sz ap)), .int (nI la)])), (le, .inl (Z 2, 60, .inl (aI L))), (tt, .inr (5, [.int (nI n), .ref tw])), (tw, .inl (Z 0, 9, .inl (aI z)))]) 0 0 := by
  refine q_open (y := yX6_skipBlanks) (ws := wsX6_skipBlanks) (av := [.ref T]) (win := [(T, .inr (6, [.ref le, .int (nI sz), .ref tt, .int (nI told), .int F, .int G, .int (nI fl), .int (nI ap), .int (nI la)])), (le, .inl (Z 2, 60, .inl (aI L))), (tt, .inr (5, [.int (nI n), .ref tw])), (tw, .inl (Z 0, 9, .inl (aI z)))]) (Qc := fun zs0 => cQv D Z zs0 [(T, .inr (6, [.ref le, .int (nI sz), .ref tt, .int (nI told), .int F, .int G, .int (nI fl), .int (nI ap), .int (nI la)])), (le, .inl (Z 2, 60, .inl (aI L))), (tt, .inr (5, [.int (nI n), .ref tw])), (tw, .inl (Z 0, 9, .inl (aI z)))] (S := Unit) (fun (_ : Unit) => True) (fun (_ : Unit) => [(T, .inr (6, [.ref le, .int (nI sz), .ref tt, .int (nI told), .int F, .int G, .int (nI fl), .int (nI (sk L sz ap)), .int (nI la)])), (le, .inl (Z 2, 60, .inl (aI L))), (tt, .inr (5, [.int (nI n), .ref tw])), (tw, .inl (Z 0, 9, .inl (aI z)))])) (cc := cX6_skipBlanks) (maxL := 2) (ret := none) (by decide) rfl (Nat.le_of_ble_eq_true rfl) ?_
  intro pp ee s mm bw mt cd ls A H locs hAe hx hb hr hml hown hmn hts hlocks hA hK hw hl
  have hown : s.vm.findClass RX6 = some mm.cls := hown
  have hl : lv_has ls 2 [(0, .ref T)] := hl
  have wd1 := hts (.fieldLink RX6 26 "ReplaceAges$Text" "at" "I") (List.mem_of_getElem? (i := 1) rfl)
  have in_X6 : ∀ w ∈ wsX60, w ∈ wsX6_skipBlanks := fun _ h => List.mem_cons_of_mem _ (List.mem_append_right _ h)
  refine q_iconst (v := 0) hx hb dX6_skipBlanks_0 (by decide) ?_
  refine lv_istore_n (lv' := [(1, .int (nI 0)), (0, .ref T)]) hx hb dX6_skipBlanks_1 rfl hl (by decide) rfl (fun ls hl => ?_)
  refine q_loop (σ := Nat × Nat) (fun (x : Nat × Nat) => match x with | (i, b) => 60 - i) (fun (x : Nat × Nat) => match x with | (i, b) => i ≤ 60 ∧ b = ap + i ∧ b ≤ sz ∧ sk L sz b = sk L sz ap) (fun (x : Nat × Nat) => match x with | (i, b) => [(T, .inr (6, [.ref le, .int (nI sz), .ref tt, .int (nI told), .int F, .int G, .int (nI fl), .int (nI b), .int (nI la)])), (le, .inl (Z 2, 60, .inl (aI L))), (tt, .inr (5, [.int (nI n), .ref tw])), (tw, .inl (Z 0, 9, .inl (aI z)))]) (fun (x : Nat × Nat) => match x with | (i, b) => [(1, .int (nI i)), (0, .ref T)]) (0, ap) ⟨by omega, rfl, hap, rfl⟩ hw (lv_sub hl [0, 1] rfl) ?_
  intro ⟨i, b⟩ H locs ls hi2 hw hl ih2
  try dsimp only at hi2 hw hl ih2
  obtain ⟨q1, q2, q3, q4⟩ := hi2
  have hw : WS D A s [(T, .inr (6, [.ref le, .int (nI sz), .ref tt, .int (nI told), .int F, .int G, .int (nI fl), .int (nI b), .int (nI la)])), (le, .inl (Z 2, 60, .inl (aI L))), (tt, .inr (5, [.int (nI n), .ref tw])), (tw, .inl (Z 0, 9, .inl (aI z)))] H locs := hw
  have hl : lv_has ls 2 [(1, .int (nI i)), (0, .ref T)] := hl
  refine lv_iload_n hx hb dX6_skipBlanks_2 rfl (lv_at hl 0 rfl) ?_
  refine q_bipush (v := 60) hx hb dX6_skipBlanks_3 (by decide) ?_
  refine q_icmp_ge (tgt := 33) hx hb ((i : Nat) : Int) ((60 : Nat) : Int) (nI_toInt (by omega)) (nI_toInt (by omega)) dX6_skipBlanks_5 (by decide) (fun c1 => ?_) (fun c1 => ?_)
  · --
    have e1 : sk L sz b = b := sk_end (by omega)
    exact q_vret (wout := _) hx hb hr hlocks hAe hK () (by rw [← q4, e1]; exact hw) (trivial) dX6_skipBlanks_33
  · --
    refine lv_aload_n hx hb dX6_skipBlanks_8 rfl (lv_at hl 1 rfl) ?_
    refine q_calli (S := Unit) (Z := Z) (D := D) (wc := [(T, .inr (6, [.ref le, .int (nI sz), .ref tt, .int (nI told), .int F, .int G, .int (nI fl), .int (nI b), .int (nI la)])), (le, .inl (Z 2, 60, .inl (aI L))), (tt, .inr (5, [.int (nI n), .ref tw])), (tw, .inl (Z 0, 9, .inl (aI z)))]) (wr := []) (rest := []) hw hA [0, 1, 2, 3] [] rfl rfl rfl rfl (by decide) (fun hPc hDc => va_runV (As := []) (rest := []) ⟨hx, hb, hml, hown, hts⟩ (c_X6_letter l D Z H.size T le tt tw L sz n z told F G fl b la (by first | assumption | omega) (by first | assumption | omega) (by first | assumption | omega)) (cwV 0 hts gX6_skipBlanks_X6_letter rfl rfl rfl (by decide +kernel) ⟨Nat.le_of_ble_eq_true rfl, Nat.le_of_ble_eq_true rfl⟩) ⟨fb_cPre, va_recv hK.1 hPc (ci := 6) (q0 := 0) rfl rfl, pre_of hPc hK hDc⟩ rfl rfl hl.1 rfl (lv_room (Nat.le_of_ble_eq_true rfl)) dX6_skipBlanks_9 ⟨Nat.le_of_ble_eq_true rfl, Nat.le_of_ble_eq_true rfl⟩) (fun r2 u H locs hr2 hw => ?_)
    subst hr2
    have hw : WS D A s [(T, .inr (6, [.ref le, .int (nI sz), .ref tt, .int (nI told), .int F, .int G, .int (nI fl), .int (nI b), .int (nI la)])), (le, .inl (Z 2, 60, .inl (aI L))), (tt, .inr (5, [.int (nI n), .ref tw])), (tw, .inl (Z 0, 9, .inl (aI z)))] H locs := hw
    refine q_bipush (v := 32) hx hb dX6_skipBlanks_12 (by decide) ?_
    refine q_icmp_ne (tgt := 33) hx hb ((ltr L sz b : Nat) : Int) ((32 : Nat) : Int) (nI_toInt (Nat.lt_trans (ltr_b hL) (by decide))) (nI_toInt (by omega)) dX6_skipBlanks_14 (by decide) (fun c3 => ?_) (fun c3 => ?_)
    · --
      have e1 : sk L sz b = b := sk_stop (fun q => c3 (by rw [q]))
      exact q_vret (wout := _) hx hb hr hlocks hAe hK () (by rw [← q4, e1]; exact hw) (trivial) dX6_skipBlanks_33
    · --
      have c2 : ltr L sz b = 32 := by omega
      refine lv_aload_n hx hb dX6_skipBlanks_17 rfl (lv_at hl 1 rfl) ?_
      refine lv_dup hx hb dX6_skipBlanks_18 rfl ?_
      refine q_get (v := .int (nI b)) (ci := 6) hx hb hts in_X6 hown hK hw 0 7 wd1 dX6_skipBlanks_19 rfl rfl (by decide) rfl ?_
      refine q_iconst (v := 1) hx hb dX6_skipBlanks_22 (by decide) ?_
      refine q_iadd hx hb dX6_skipBlanks_23 ?_
      refine q_put (v := .int (nI (b + 1))) (ci := 6) hx hb hts in_X6 tyX6 tyX6_ok nmX6 hown hK hw 0 7 wd1 dX6_skipBlanks_24 rfl rfl (by decide) rfl rfl rfl (Nat.le_of_ble_eq_true rfl) (fun H locs hw => ?_)
      have hw : WS D A s [(T, .inr (6, [.ref le, .int (nI sz), .ref tt, .int (nI told), .int F, .int G, .int (nI fl), .int (nI (b + 1)), .int (nI la)])), (le, .inl (Z 2, 60, .inl (aI L))), (tt, .inr (5, [.int (nI n), .ref tw])), (tw, .inl (Z 0, 9, .inl (aI z)))] H locs := hw
      refine lv_iinc (v := nI (i + 1)) (lv' := [(1, .int (nI (i + 1))), (0, .ref T)]) hx hb dX6_skipBlanks_27 hl (k := 0) rfl (nI_add _ _) (by decide) rfl (fun ls hl => ?_)
      refine lv_goto (tgt := 2) hx hb dX6_skipBlanks_30 (by decide) ?_
      have hlt := ltr_lt c2
      exact ih2 (i + 1, b + 1) H locs ls (by dsimp only; omega) (by dsimp only; exact ⟨by omega, by omega, by omega, by rw [← q4, sk_step c2]⟩) hw (lv_sub hl [0, 1] rfl)
set_option maxHeartbeats 4000000 in
set_option maxRecDepth 100000 in
theorem c_X6_figure (l : Launch) (D : va_G) (Z : Nat → ClassId) (zs0 : Nat) (T le tt tw : Nat) (L : Nat → Nat) (sz n : Nat) (z : Nat → Nat) (told : Nat) (F G : Int32) (fl ap la : Nat) (hL : ∀ k, L k < 128) (hsz : sz ≤ 60) (hap : ap ≤ sz) : cMi l yX6_figure wsX6_figure (rmd 1) D Z zs0 [.ref T] [(T, .inr (6, [.ref le, .int (nI sz), .ref tt, .int (nI told), .int F, .int G, .int (nI fl), .int (nI ap), .int (nI la)])), (le, .inl (Z 2, 60, .inl (aI L))), (tt, .inr (5, [.int (nI n), .ref tw])), (tw, .inl (Z 0, 9, .inl (aI z)))] (S := Unit) (fun (r : Int32) => fun (_ : Unit) => r = fgv (ltr L sz ap)) (fun (_ : Unit) => [(T, .inr (6, [.ref le, .int (nI sz), .ref tt, .int (nI told), .int F, .int G, .int (nI fl), .int (nI ap), .int (nI la)])), (le, .inl (Z 2, 60, .inl (aI L))), (tt, .inr (5, [.int (nI n), .ref tw])), (tw, .inl (Z 0, 9, .inl (aI z)))]) 0 0 := by
  refine q_open (y := yX6_figure) (ws := wsX6_figure) (av := [.ref T]) (win := [(T, .inr (6, [.ref le, .int (nI sz), .ref tt, .int (nI told), .int F, .int G, .int (nI fl), .int (nI ap), .int (nI la)])), (le, .inl (Z 2, 60, .inl (aI L))), (tt, .inr (5, [.int (nI n), .ref tw])), (tw, .inl (Z 0, 9, .inl (aI z)))]) (Qc := fun zs0 => cQi D Z zs0 [(T, .inr (6, [.ref le, .int (nI sz), .ref tt, .int (nI told), .int F, .int G, .int (nI fl), .int (nI ap), .int (nI la)])), (le, .inl (Z 2, 60, .inl (aI L))), (tt, .inr (5, [.int (nI n), .ref tw])), (tw, .inl (Z 0, 9, .inl (aI z)))] (S := Unit) (fun (r : Int32) => fun (_ : Unit) => r = fgv (ltr L sz ap)) (fun (_ : Unit) => [(T, .inr (6, [.ref le, .int (nI sz), .ref tt, .int (nI told), .int F, .int G, .int (nI fl), .int (nI ap), .int (nI la)])), (le, .inl (Z 2, 60, .inl (aI L))), (tt, .inr (5, [.int (nI n), .ref tw])), (tw, .inl (Z 0, 9, .inl (aI z)))])) (cc := cX6_figure) (maxL := 2) (ret := (some .int)) (by decide) rfl (Nat.le_of_ble_eq_true rfl) ?_
  intro pp ee s mm bw mt cd ls A H locs hAe hx hb hr hml hown hmn hts hlocks hA hK hw hl
  have hown : s.vm.findClass RX6 = some mm.cls := hown
  have hl : lv_has ls 2 [(0, .ref T)] := hl
  have hb1 := ltr_b (sz := sz) (a := ap) hL
  refine lv_aload_n hx hb dX6_figure_0 rfl (lv_at hl 0 rfl) ?_
  refine q_calli (S := Unit) (Z := Z) (D := D) (wc := [(T, .inr (6, [.ref le, .int (nI sz), .ref tt, .int (nI told), .int F, .int G, .int (nI fl), .int (nI ap), .int (nI la)])), (le, .inl (Z 2, 60, .inl (aI L))), (tt, .inr (5, [.int (nI n), .ref tw])), (tw, .inl (Z 0, 9, .inl (aI z)))]) (wr := []) (rest := []) hw hA [0, 1, 2, 3] [] rfl rfl rfl rfl (by decide) (fun hPc hDc => va_runV (As := []) (rest := []) ⟨hx, hb, hml, hown, hts⟩ (c_X6_letter l D Z H.size T le tt tw L sz n z told F G fl ap la (by first | assumption | omega) (by first | assumption | omega) (by first | assumption | omega)) (cwV 0 hts gX6_figure_X6_letter rfl rfl rfl (by decide +kernel) ⟨Nat.le_of_ble_eq_true rfl, Nat.le_of_ble_eq_true rfl⟩) ⟨fb_cPre, va_recv hK.1 hPc (ci := 6) (q0 := 0) rfl rfl, pre_of hPc hK hDc⟩ rfl rfl hl.1 rfl (lv_room (Nat.le_of_ble_eq_true rfl)) dX6_figure_1 ⟨Nat.le_of_ble_eq_true rfl, Nat.le_of_ble_eq_true rfl⟩) (fun r1 u H locs hr1 hw => ?_)
  subst hr1
  have hw : WS D A s [(T, .inr (6, [.ref le, .int (nI sz), .ref tt, .int (nI told), .int F, .int G, .int (nI fl), .int (nI ap), .int (nI la)])), (le, .inl (Z 2, 60, .inl (aI L))), (tt, .inr (5, [.int (nI n), .ref tw])), (tw, .inl (Z 0, 9, .inl (aI z)))] H locs := hw
  refine lv_istore_n (lv' := [(1, .int (nI (ltr L sz ap))), (0, .ref T)]) hx hb dX6_figure_4 rfl hl (by decide) rfl (fun ls hl => ?_)
  refine lv_iload_n hx hb dX6_figure_5 rfl (lv_at hl 0 rfl) ?_
  refine q_bipush (v := 48) hx hb dX6_figure_6 (by decide) ?_
  refine q_icmp_lt (tgt := 24) hx hb ((ltr L sz ap : Nat) : Int) ((48 : Nat) : Int) (nI_toInt (by omega)) (nI_toInt (by omega)) dX6_figure_8 (by decide) (fun c2 => ?_) (fun c2 => ?_)
  · --
    refine lv_iconst (v := (-1)) hx hb dX6_figure_24 (by decide) ?_
    exact q_iret (wout := _) hx hb hr hlocks hAe hK () hw (by first | exact (fgv_in (by unfold fgr; omega)).symm | exact (fgv_out (by unfold fgr; omega)).symm) dX6_figure_25
  · --
    refine lv_iload_n hx hb dX6_figure_11 rfl (lv_at hl 0 rfl) ?_
    refine q_bipush (v := 57) hx hb dX6_figure_12 (by decide) ?_
    refine q_icmp_gt (tgt := 24) hx hb ((ltr L sz ap : Nat) : Int) ((57 : Nat) : Int) (nI_toInt (by omega)) (nI_toInt (by omega)) dX6_figure_14 (by decide) (fun c3 => ?_) (fun c3 => ?_)
    · --
      refine lv_iconst (v := (-1)) hx hb dX6_figure_24 (by decide) ?_
      exact q_iret (wout := _) hx hb hr hlocks hAe hK () hw (by first | exact (fgv_in (by unfold fgr; omega)).symm | exact (fgv_out (by unfold fgr; omega)).symm) dX6_figure_25
    · --
      refine lv_iload_n hx hb dX6_figure_17 rfl (lv_at hl 0 rfl) ?_
      refine q_bipush (v := 48) hx hb dX6_figure_18 (by decide) ?_
      refine q_isub hx hb (by omega) dX6_figure_20 ?_
      refine lv_goto (tgt := 25) hx hb dX6_figure_21 (by decide) ?_
      exact q_iret (wout := _) hx hb hr hlocks hAe hK () hw (by first | exact (fgv_in (by unfold fgr; omega)).symm | exact (fgv_out (by unfold fgr; omega)).symm) dX6_figure_25
set_option maxHeartbeats 4000000 in
set_option maxRecDepth 100000 in
theorem c_X6_faultAt (l : Launch) (D : va_G) (Z : Nat → ClassId) (zs0 : Nat) (T le tt tw : Nat) (L : Nat → Nat) (sz n : Nat) (z : Nat → Nat) (told : Nat) (F G : Int32) (fl ap la : Nat) (x : Nat)  : cMi l yX6_faultAt wsX6_faultAt (rmd 0) D Z zs0 [.ref T, .int (nI x)] [(T, .inr (6, [.ref le, .int (nI sz), .ref tt, .int (nI told), .int F, .int G, .int (nI fl), .int (nI ap), .int (nI la)])), (le, .inl (Z 2, 60, .inl (aI L))), (tt, .inr (5, [.int (nI n), .ref tw])), (tw, .inl (Z 0, 9, .inl (aI z)))] (S := Unit) (fun (r : Int32) => fun (_ : Unit) => r = nI 0) (fun (_ : Unit) => [(T, .inr (6, [.ref le, .int (nI sz), .ref tt, .int (nI told), .int F, .int G, .int (nI x), .int (nI ap), .int (nI la)])), (le, .inl (Z 2, 60, .inl (aI L))), (tt, .inr (5, [.int (nI n), .ref tw])), (tw, .inl (Z 0, 9, .inl (aI z)))]) 0 0 := by
  refine q_open (y := yX6_faultAt) (ws := wsX6_faultAt) (av := [.ref T, .int (nI x)]) (win := [(T, .inr (6, [.ref le, .int (nI sz), .ref tt, .int (nI told), .int F, .int G, .int (nI fl), .int (nI ap), .int (nI la)])), (le, .inl (Z 2, 60, .inl (aI L))), (tt, .inr (5, [.int (nI n), .ref tw])), (tw, .inl (Z 0, 9, .inl (aI z)))]) (Qc := fun zs0 => cQi D Z zs0 [(T, .inr (6, [.ref le, .int (nI sz), .ref tt, .int (nI told), .int F, .int G, .int (nI fl), .int (nI ap), .int (nI la)])), (le, .inl (Z 2, 60, .inl (aI L))), (tt, .inr (5, [.int (nI n), .ref tw])), (tw, .inl (Z 0, 9, .inl (aI z)))] (S := Unit) (fun (r : Int32) => fun (_ : Unit) => r = nI 0) (fun (_ : Unit) => [(T, .inr (6, [.ref le, .int (nI sz), .ref tt, .int (nI told), .int F, .int G, .int (nI x), .int (nI ap), .int (nI la)])), (le, .inl (Z 2, 60, .inl (aI L))), (tt, .inr (5, [.int (nI n), .ref tw])), (tw, .inl (Z 0, 9, .inl (aI z)))])) (cc := cX6_faultAt) (maxL := 2) (ret := (some .boolean)) (by decide) rfl (Nat.le_of_ble_eq_true rfl) ?_
  intro pp ee s mm bw mt cd ls A H locs hAe hx hb hr hml hown hmn hts hlocks hA hK hw hl
  have hown : s.vm.findClass RX6 = some mm.cls := hown
  have hl : lv_has ls 2 [(0, .ref T), (1, .int (nI x))] := hl
  have wd1 := hts (.fieldLink RX6 88 "ReplaceAges$Text" "fault" "I") (List.mem_of_getElem? (i := 1) rfl)
  have in_X6 : ∀ w ∈ wsX60, w ∈ wsX6_faultAt := fun _ h => List.mem_cons_of_mem _ (List.mem_append_right _ h)
  refine lv_aload_n hx hb dX6_faultAt_0 rfl (lv_at hl 0 rfl) ?_
  refine lv_iload_n hx hb dX6_faultAt_1 rfl (lv_at hl 1 rfl) ?_
  refine q_put (v := .int (nI x)) (ci := 6) hx hb hts in_X6 tyX6 tyX6_ok nmX6 hown hK hw 0 6 wd1 dX6_faultAt_2 rfl rfl (by decide) rfl rfl rfl (Nat.le_of_ble_eq_true rfl) (fun H locs hw => ?_)
  have hw : WS D A s [(T, .inr (6, [.ref le, .int (nI sz), .ref tt, .int (nI told), .int F, .int G, .int (nI x), .int (nI ap), .int (nI la)])), (le, .inl (Z 2, 60, .inl (aI L))), (tt, .inr (5, [.int (nI n), .ref tw])), (tw, .inl (Z 0, 9, .inl (aI z)))] H locs := hw
  refine q_iconst (v := 0) hx hb dX6_faultAt_5 (by decide) ?_
  exact q_zret (wout := _) hx hb hr hlocks hAe hK () hw rfl (by first | rfl | trivial) dX6_faultAt_6
set_option maxHeartbeats 4000000 in
set_option maxRecDepth 100000 in
theorem c_X6_scanSign (l : Launch) (D : va_G) (Z : Nat → ClassId) (zs0 : Nat) (T le tt tw : Nat) (L : Nat → Nat) (sz n : Nat) (z : Nat → Nat) (told : Nat) (F G : Int32) (fl ap la : Nat) (c : Nat) (hL : ∀ k, L k < 128) (hsz : sz ≤ 60) (hap : ap ≤ sz) (hc : c < 128 ∧ 0 < c) : cMi l yX6_scanSign wsX6_scanSign (rmd 2) D Z zs0 [.ref T, .int (nI c)] [(T, .inr (6, [.ref le, .int (nI sz), .ref tt, .int (nI told), .int F, .int G, .int (nI fl), .int (nI ap), .int (nI la)])), (le, .inl (Z 2, 60, .inl (aI L))), (tt, .inr (5, [.int (nI n), .ref tw])), (tw, .inl (Z 0, 9, .inl (aI z)))] (S := Nat × Nat) (fun (r : Int32) (u : Nat × Nat) => match u with | (fl', ap') => (r = nI 1 ∧ ap' = sk L sz ap + 1 ∧ fl = fl' ∧ ltr L sz (sk L sz ap) = c) ∨ (r = nI 0 ∧ ap' = sk L sz ap ∧ fl' = sk L sz ap ∧ ltr L sz (sk L sz ap) ≠ c)) (fun (u : Nat × Nat) => match u with | (fl', ap') => [(T, .inr (6, [.ref le, .int (nI sz), .ref tt, .int (nI told), .int F, .int G, .int (nI fl'), .int (nI ap'), .int (nI la)])), (le, .inl (Z 2, 60, .inl (aI L))), (tt, .inr (5, [.int (nI n), .ref tw])), (tw, .inl (Z 0, 9, .inl (aI z)))]) 0 0 := by
  refine q_open (y := yX6_scanSign) (ws := wsX6_scanSign) (av := [.ref T, .int (nI c)]) (win := [(T, .inr (6, [.ref le, .int (nI sz), .ref tt, .int (nI told), .int F, .int G, .int (nI fl), .int (nI ap), .int (nI la)])), (le, .inl (Z 2, 60, .inl (aI L))), (tt, .inr (5, [.int (nI n), .ref tw])), (tw, .inl (Z 0, 9, .inl (aI z)))]) (Qc := fun zs0 => cQi D Z zs0 [(T, .inr (6, [.ref le, .int (nI sz), .ref tt, .int (nI told), .int F, .int G, .int (nI fl), .int (nI ap), .int (nI la)])), (le, .inl (Z 2, 60, .inl (aI L))), (tt, .inr (5, [.int (nI n), .ref tw])), (tw, .inl (Z 0, 9, .inl (aI z)))] (S := Nat × Nat) (fun (r : Int32) (u : Nat × Nat) => match u with | (fl', ap') => (r = nI 1 ∧ ap' = sk L sz ap + 1 ∧ fl = fl' ∧ ltr L sz (sk L sz ap) = c) ∨ (r = nI 0 ∧ ap' = sk L sz ap ∧ fl' = sk L sz ap ∧ ltr L sz (sk L sz ap) ≠ c)) (fun (u : Nat × Nat) => match u with | (fl', ap') => [(T, .inr (6, [.ref le, .int (nI sz), .ref tt, .int (nI told), .int F, .int G, .int (nI fl'), .int (nI ap'), .int (nI la)])), (le, .inl (Z 2, 60, .inl (aI L))), (tt, .inr (5, [.int (nI n), .ref tw])), (tw, .inl (Z 0, 9, .inl (aI z)))])) (cc := cX6_scanSign) (maxL := 2) (ret := (some .boolean)) (by decide) rfl (Nat.le_of_ble_eq_true rfl) ?_
  intro pp ee s mm bw mt cd ls A H locs hAe hx hb hr hml hown hmn hts hlocks hA hK hw hl
  have hown : s.vm.findClass RX6 = some mm.cls := hown
  have hl : lv_has ls 2 [(0, .ref T), (1, .int (nI c))] := hl
  have wd1 := hts (.fieldLink RX6 26 "ReplaceAges$Text" "at" "I") (List.mem_of_getElem? (i := 1) rfl)
  have in_X6 : ∀ w ∈ wsX60, w ∈ wsX6_scanSign := fun _ h => List.mem_cons_of_mem _ (List.mem_append_right _ h)
  have hsk := sk_le (L := L) hap
  have hb1 := ltr_b (sz := sz) (a := sk L sz ap) hL
  refine lv_aload_n hx hb dX6_scanSign_0 rfl (lv_at hl 0 rfl) ?_
  refine q_callv (S := Unit) (Z := Z) (D := D) (wc := [(T, .inr (6, [.ref le, .int (nI sz), .ref tt, .int (nI told), .int F, .int G, .int (nI fl), .int (nI ap), .int (nI la)])), (le, .inl (Z 2, 60, .inl (aI L))), (tt, .inr (5, [.int (nI n), .ref tw])), (tw, .inl (Z 0, 9, .inl (aI z)))]) (wr := []) (rest := []) hw hA [0, 1, 2, 3] [] rfl rfl rfl rfl (by decide) (fun hPc hDc => va_runV (As := []) (rest := []) ⟨hx, hb, hml, hown, hts⟩ (c_X6_skipBlanks l D Z H.size T le tt tw L sz n z told F G fl ap la (by first | assumption | omega) (by first | assumption | omega) (by first | assumption | omega)) (cwV 0 hts gX6_scanSign_X6_skipBlanks rfl rfl rfl (by decide +kernel) ⟨Nat.le_of_ble_eq_true rfl, Nat.le_of_ble_eq_true rfl⟩) ⟨fb_cPre, va_recv hK.1 hPc (ci := 6) (q0 := 0) rfl rfl, pre_of hPc hK hDc⟩ rfl rfl hl.1 rfl (lv_room (Nat.le_of_ble_eq_true rfl)) dX6_scanSign_1 ⟨Nat.le_of_ble_eq_true rfl, Nat.le_of_ble_eq_true rfl⟩) (fun u H locs hr1 hw => ?_)
  have hw : WS D A s [(T, .inr (6, [.ref le, .int (nI sz), .ref tt, .int (nI told), .int F, .int G, .int (nI fl), .int (nI (sk L sz ap)), .int (nI la)])), (le, .inl (Z 2, 60, .inl (aI L))), (tt, .inr (5, [.int (nI n), .ref tw])), (tw, .inl (Z 0, 9, .inl (aI z)))] H locs := hw
  refine lv_aload_n hx hb dX6_scanSign_4 rfl (lv_at hl 0 rfl) ?_
  refine q_calli (S := Unit) (Z := Z) (D := D) (wc := [(T, .inr (6, [.ref le, .int (nI sz), .ref tt, .int (nI told), .int F, .int G, .int (nI fl), .int (nI (sk L sz ap)), .int (nI la)])), (le, .inl (Z 2, 60, .inl (aI L))), (tt, .inr (5, [.int (nI n), .ref tw])), (tw, .inl (Z 0, 9, .inl (aI z)))]) (wr := []) (rest := []) hw hA [0, 1, 2, 3] [] rfl rfl rfl rfl (by decide) (fun hPc hDc => va_runV (As := []) (rest := []) ⟨hx, hb, hml, hown, hts⟩ (c_X6_letter l D Z H.size T le tt tw L sz n z told F G fl (sk L sz ap) la (by first | assumption | omega) (by first | assumption | omega) (by first | assumption | omega)) (cwV 0 hts gX6_scanSign_X6_letter rfl rfl rfl (by decide +kernel) ⟨Nat.le_of_ble_eq_true rfl, Nat.le_of_ble_eq_true rfl⟩) ⟨fb_cPre, va_recv hK.1 hPc (ci := 6) (q0 := 0) rfl rfl, pre_of hPc hK hDc⟩ rfl rfl hl.1 rfl (lv_room (Nat.le_of_ble_eq_true rfl)) dX6_scanSign_5 ⟨Nat.le_of_ble_eq_true rfl, Nat.le_of_ble_eq_true rfl⟩) (fun r2 u H locs hr2 hw => ?_)
  subst hr2
  have hw : WS D A s [(T, .inr (6, [.ref le, .int (nI sz), .ref tt, .int (nI told), .int F, .int G, .int (nI fl), .int (nI (sk L sz ap)), .int (nI la)])), (le, .inl (Z 2, 60, .inl (aI L))), (tt, .inr (5, [.int (nI n), .ref tw])), (tw, .inl (Z 0, 9, .inl (aI z)))] H locs := hw
  refine lv_iload_n hx hb dX6_scanSign_8 rfl (lv_at hl 1 rfl) ?_
  refine q_icmp_eq (tgt := 21) hx hb ((ltr L sz (sk L sz ap) : Nat) : Int) ((c : Nat) : Int) (nI_toInt (by omega)) (nI_toInt (by omega)) dX6_scanSign_9 (by decide) (fun c3 => ?_) (fun c3 => ?_)
  · --
    refine lv_aload_n hx hb dX6_scanSign_21 rfl (lv_at hl 0 rfl) ?_
    refine lv_dup hx hb dX6_scanSign_22 rfl ?_
    refine q_get (v := .int (nI (sk L sz ap))) (ci := 6) hx hb hts in_X6 hown hK hw 0 7 wd1 dX6_scanSign_23 rfl rfl (by decide) rfl ?_
    refine q_iconst (v := 1) hx hb dX6_scanSign_26 (by decide) ?_
    refine q_iadd hx hb dX6_scanSign_27 ?_
    refine q_put (v := .int (nI ((sk L sz ap) + 1))) (ci := 6) hx hb hts in_X6 tyX6 tyX6_ok nmX6 hown hK hw 0 7 wd1 dX6_scanSign_28 rfl rfl (by decide) rfl rfl rfl (Nat.le_of_ble_eq_true rfl) (fun H locs hw => ?_)
    have hw : WS D A s [(T, .inr (6, [.ref le, .int (nI sz), .ref tt, .int (nI told), .int F, .int G, .int (nI fl), .int (nI ((sk L sz ap) + 1)), .int (nI la)])), (le, .inl (Z 2, 60, .inl (aI L))), (tt, .inr (5, [.int (nI n), .ref tw])), (tw, .inl (Z 0, 9, .inl (aI z)))] H locs := hw
    refine q_iconst (v := 1) hx hb dX6_scanSign_31 (by decide) ?_
    exact q_zret (wout := _) hx hb hr hlocks hAe hK (fl, sk L sz ap + 1) hw rfl (Or.inl ⟨rfl, rfl, rfl, by omega⟩) dX6_scanSign_32
  · --
    refine lv_aload_n hx hb dX6_scanSign_12 rfl (lv_at hl 0 rfl) ?_
    refine lv_aload_n hx hb dX6_scanSign_13 rfl (lv_at hl 0 rfl) ?_
    refine q_get (v := .int (nI (sk L sz ap))) (ci := 6) hx hb hts in_X6 hown hK hw 0 7 wd1 dX6_scanSign_14 rfl rfl (by decide) rfl ?_
    refine q_calli (S := Unit) (Z := Z) (D := D) (wc := [(T, .inr (6, [.ref le, .int (nI sz), .ref tt, .int (nI told), .int F, .int G, .int (nI fl), .int (nI (sk L sz ap)), .int (nI la)])), (le, .inl (Z 2, 60, .inl (aI L))), (tt, .inr (5, [.int (nI n), .ref tw])), (tw, .inl (Z 0, 9, .inl (aI z)))]) (wr := []) (rest := []) hw hA [0, 1, 2, 3] [] rfl rfl rfl rfl (by decide) (fun hPc hDc => va_runV (As := [.int (nI (sk L sz ap))]) (rest := []) ⟨hx, hb, hml, hown, hts⟩ (c_X6_faultAt l D Z H.size T le tt tw L sz n z told F G fl (sk L sz ap) la (sk L sz ap) ) (cwV 1 hts gX6_scanSign_X6_faultAt rfl rfl rfl (by decide +kernel) ⟨Nat.le_of_ble_eq_true rfl, Nat.le_of_ble_eq_true rfl⟩) ⟨fb_cPre, va_recv hK.1 hPc (ci := 6) (q0 := 0) rfl rfl, pre_of hPc hK hDc⟩ rfl rfl hl.1 rfl (lv_room (Nat.le_of_ble_eq_true rfl)) dX6_scanSign_17 ⟨Nat.le_of_ble_eq_true rfl, Nat.le_of_ble_eq_true rfl⟩) (fun r4 u H locs hr4 hw => ?_)
    subst hr4
    have hw : WS D A s [(T, .inr (6, [.ref le, .int (nI sz), .ref tt, .int (nI told), .int F, .int G, .int (nI (sk L sz ap)), .int (nI (sk L sz ap)), .int (nI la)])), (le, .inl (Z 2, 60, .inl (aI L))), (tt, .inr (5, [.int (nI n), .ref tw])), (tw, .inl (Z 0, 9, .inl (aI z)))] H locs := hw
    exact q_zret (wout := _) hx hb hr hlocks hAe hK (sk L sz ap, sk L sz ap) hw rfl (Or.inr ⟨rfl, rfl, rfl, by omega⟩) dX6_scanSign_20
