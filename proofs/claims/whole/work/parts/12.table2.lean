def fil (w : Nat → Nat) (c v : Nat) : Nat → Nat := fun k => if k < c then v else w k
theorem fil_up (w : Nat → Nat) (c v : Nat) : va_up (fil w c v) c v = fil w (c + 1) v := by
  funext k; simp only [va_up, fil]
  by_cases h : k = c
  · rw [if_pos h, if_pos (by omega)]
  · rw [if_neg h]
    by_cases h2 : k < c
    · rw [if_pos h2, if_pos (by omega)]
    · rw [if_neg h2, if_neg (by omega)]
def rz (z : Nat → Nat) (n v : Nat) : Nat → Nat := fun k => if n < k ∧ k ≤ v then 1 else z k
theorem rz_up (z : Nat → Nat) (n c : Nat) : va_up (rz z n (n + c)) (n + 1 + c) 1 = rz z n (n + (c + 1)) := by
  funext k; simp only [va_up, rz]
  by_cases h : k = n + 1 + c
  · rw [if_pos h, if_pos (by omega)]
  · rw [if_neg h]
    by_cases h2 : n < k ∧ k ≤ n + c
    · rw [if_pos h2, if_pos (by omega)]
    · rw [if_neg h2, if_neg (by omega)]
theorem rz_end (z : Nat → Nat) {n c v : Nat} (h : n + c = v ∨ (c = 0 ∧ v ≤ n)) : rz z n (n + c) = rz z n v := by
  rcases h with h | h
  · rw [h]
  · funext k; simp only [rz]; rw [if_neg (by omega), if_neg (by omega)]
/-- RATE's cost of AGE a, times ALL -/
def ct (z : Nat → Nat) (n f c a : Nat) : Nat := f * (lf z n 0 - lf z n a) + c * lf z n a
def bst (z : Nat → Nat) (n f c : Nat) : Nat → Nat
  | 0 => 1
  | i + 1 => if ct z n f c (i + 2) * sv z n (bst z n f c i) < ct z n f c (bst z n f c i) * sv z n (i + 2) then i + 2 else bst z n f c i
/-- THE BEST AGE -/
def ba (z : Nat → Nat) (n f c : Nat) : Nat := bst z n f c (n - 1)
theorem bst_le (z : Nat → Nat) (n f c i : Nat) : bst z n f c i ≤ i + 1 ∧ 1 ≤ bst z n f c i := by
  induction i with
  | zero => simp [bst]
  | succ i ih => simp only [bst]; split <;> omega
theorem sv_le {z : Nat → Nat} {n : Nat} (hs : lf z n 0 ≤ 24) (a : Nat) : sv z n a ≤ 24 * a := by
  induction a with
  | zero => simp [sv]
  | succ a ih => have := lf_anti (w := z) (n := n) (Nat.zero_le a); simp only [sv]; omega
theorem ct_le {z : Nat → Nat} {n f c : Nat} (hs : lf z n 0 ≤ 24) (hf : f ≤ 99) (hc : c ≤ 99) (a : Nat) : ct z n f c a ≤ 2376 := by
  have h := lf_anti (w := z) (n := n) (Nat.zero_le a)
  have h1 : f * (lf z n 0 - lf z n a) ≤ 99 * (lf z n 0 - lf z n a) := Nat.mul_le_mul_right _ hf
  have h2 : c * lf z n a ≤ 99 * lf z n a := Nat.mul_le_mul_right _ hc
  unfold ct; omega
theorem ct_sv_le {z : Nat → Nat} {n f c : Nat} (hs : lf z n 0 ≤ 24) (hf : f ≤ 99) (hc : c ≤ 99) (a b : Nat) (hb : b ≤ 20) : ct z n f c a * sv z n b ≤ 2376 * 480 :=
  Nat.mul_le_mul (ct_le hs hf hc a) (Nat.le_trans (sv_le hs b) (by omega))
def rsn (z : Nat → Nat) (n : Nat) : Nat → Nat
  | 0 => 1
  | i + 1 => bb (rsn z n i ≠ 0 ∧ z (i + 1) * lf z n (i + 1) ≤ z (i + 2) * lf z n i)
def fln (z : Nat → Nat) (n : Nat) : Nat → Nat
  | 0 => 1
  | i + 1 => bb (fln z n i ≠ 0 ∧ (z (i + 2) * lf z n i ≤ z (i + 1) * lf z n (i + 1) ∨ i + 2 = n))
/-- RISING and FALLING together -/
def tr (z : Nat → Nat) (n : Nat) : Nat := rsn z n (n - 1) + 2 * fln z n (n - 1)
theorem rsn_le (z : Nat → Nat) (n i : Nat) : rsn z n i ≤ 1 := by cases i <;> simp only [rsn] <;> first | omega | exact bb_le _
theorem fln_le (z : Nat → Nat) (n i : Nat) : fln z n i ≤ 1 := by cases i <;> simp only [fln] <;> first | omega | exact bb_le _
theorem hz_le {z : Nat → Nat} {n : Nat} (hs : lf z n 0 ≤ 24) (k j : Nat) (h : 1 ≤ k ∧ k ≤ n) : z k * lf z n j ≤ 24 * 24 := by
  have h1 := sm_at z 1 (c := k - 1) (d := n) (by omega)
  rw [show 1 + (k - 1) = k by omega] at h1
  exact Nat.mul_le_mul (Nat.le_trans h1 hs) (Nat.le_trans (lf_anti (Nat.zero_le j)) hs)
set_option maxHeartbeats 4000000 in
set_option maxRecDepth 100000 in
theorem c_J7_fill_53178 (l : Launch) (D : va_G) (Z : Nat → ClassId) (sz : Nat) (a n : Nat) (w : Nat → Nat) (v : Nat) (hn : n < 2 ^ 31) : cMv l yJ7_fill_53178 wsJ7_fill_53178 (rmd 0) D Z sz [.ref a, .int (nI v)] [(a, .inl (Z 0, n, .inl (aI w)))] (S := Unit) (fun (_ : Unit) => True) (fun (_ : Unit) => [(a, .inl (Z 0, n, .inl (aI (fil w n v))))]) 0 0 := by
  refine q_open (Qc := fun sz => cQv D Z sz [(a, .inl (Z 0, n, .inl (aI w)))] (S := Unit) _ _) (cc := cJ7_fill_53178) (maxL := 4) (ret := none) (by decide) rfl (Nat.le_of_ble_eq_true rfl) ?_
  intro pp ee s mm bw mt cd ls A H locs hAe hx hb hr hml hown hmn hts hlocks hA hK hw hl
  have hown : s.vm.findClass RJ7 = some mm.cls := hown
  have hl : lv_has ls 4 [(0, .ref a), (1, .int (nI v))] := hl
  refine q_iconst (v := 0) hx hb dJ7_fill_53178_0 (by decide) ?_
  refine lv_istore_n (lv' := [(2, .int (nI 0)), (0, .ref a), (1, .int (nI v))]) hx hb dJ7_fill_53178_1 rfl hl (by decide) rfl (fun ls hl => ?_)
  refine lv_aload_n hx hb dJ7_fill_53178_2 rfl (lv_at hl 1 rfl) ?_
  refine q_aleni hx hb hK hw 0 0 dJ7_fill_53178_3 rfl rfl ?_
  refine lv_istore_n (lv' := [(3, .int (nI n)), (2, .int (nI 0)), (0, .ref a), (1, .int (nI v))]) hx hb dJ7_fill_53178_4 rfl hl (by decide) rfl (fun ls hl => ?_)
  have hw : WS D A s [(a, .inl (Z 0, n, .inl (aI (fil w 0 v))))] H locs := by rw [show (fil w 0 v) = w from by funext k; simp [fil]]; exact hw
  refine q_loop (σ := Nat) (fun (c : Nat) => n - c) (fun (c : Nat) => c ≤ n) (fun (c : Nat) => [(a, .inl (Z 0, n, .inl (aI (fil w c v))))]) (fun (c : Nat) => [(3, .int (nI n)), (2, .int (nI c)), (0, .ref a), (1, .int (nI v))]) 0 (Nat.zero_le _) hw (lv_sub hl [0, 1, 2, 3] rfl) ?_
  intro c H locs ls hi5 hw hl ih5
  try dsimp only at hi5 hw hl ih5
  have hw : WS D A s [(a, .inl (Z 0, n, .inl (aI (fil w c v))))] H locs := hw
  have hl : lv_has ls 4 [(3, .int (nI n)), (2, .int (nI c)), (0, .ref a), (1, .int (nI v))] := hl
  refine lv_iload_n hx hb dJ7_fill_53178_5 rfl (lv_at hl 1 rfl) ?_
  refine lv_iload_n hx hb dJ7_fill_53178_6 rfl (lv_at hl 0 rfl) ?_
  refine q_icmp_ge (tgt := 20) hx hb ((c : Nat) : Int) ((n : Nat) : Int) (nI_toInt (by omega)) (nI_toInt (by omega)) dJ7_fill_53178_7 (by decide) (fun c1 => ?_) (fun c1 => ?_)
  · --
    obtain rfl : c = n := by omega
    exact q_vret (wout := _) hx hb hr hlocks hAe hK () hw (trivial) dJ7_fill_53178_20
  · --
    refine lv_aload_n hx hb dJ7_fill_53178_10 rfl (lv_at hl 2 rfl) ?_
    refine lv_iload_n hx hb dJ7_fill_53178_11 rfl (lv_at hl 1 rfl) ?_
    refine lv_iload_n hx hb dJ7_fill_53178_12 rfl (lv_at hl 3 rfl) ?_
    refine q_iast hx hb hK hw 0 (by omega) (by omega) dJ7_fill_53178_13 rfl (fun H locs hw => ?_)
    have hw : WS D A s [(a, .inl (Z 0, n, .inl (aI (va_up (fil w c v) c v))))] H locs := hw
    refine lv_iinc (v := nI (c + 1)) (lv' := [(2, .int (nI (c + 1))), (3, .int (nI n)), (0, .ref a), (1, .int (nI v))]) hx hb dJ7_fill_53178_14 hl (k := 1) rfl (nI_add _ _) (by decide) rfl (fun ls hl => ?_)
    refine lv_goto (tgt := 5) hx hb dJ7_fill_53178_17 (by decide) ?_
    have hw : WS D A s [(a, .inl (Z 0, n, .inl (aI (fil w (c + 1) v))))] H locs := by rw [show (fil w (c + 1) v) = (va_up (fil w c v) c v) from (fil_up w c v).symm]; exact hw
    exact ih5 (c + 1) H locs ls (by omega) (by omega) hw (lv_sub hl [1, 0, 2, 3] rfl)
set_option maxHeartbeats 4000000 in
set_option maxRecDepth 100000 in
theorem c_J7_fill_d0a16 (l : Launch) (D : va_G) (Z : Nat → ClassId) (sz : Nat) (a n : Nat) (w : Nat → Nat) (v : Nat) (hn : n < 2 ^ 31) : cMv l yJ7_fill_d0a16 wsJ7_fill_d0a16 (rmd 0) D Z sz [.ref a, .long (lN v)] [(a, .inl (Z 1, n, .inr (.inl (aL w))))] (S := Unit) (fun (_ : Unit) => True) (fun (_ : Unit) => [(a, .inl (Z 1, n, .inr (.inl (aL (fil w n v)))))]) 0 0 := by
  refine q_open (Qc := fun sz => cQv D Z sz [(a, .inl (Z 1, n, .inr (.inl (aL w))))] (S := Unit) _ _) (cc := cJ7_fill_d0a16) (maxL := 5) (ret := none) (by decide) rfl (Nat.le_of_ble_eq_true rfl) ?_
  intro pp ee s mm bw mt cd ls A H locs hAe hx hb hr hml hown hmn hts hlocks hA hK hw hl
  have hown : s.vm.findClass RJ7 = some mm.cls := hown
  have hl : lv_has ls 5 [(0, .ref a), (1, .long (lN v))] := hl
  refine q_iconst (v := 0) hx hb dJ7_fill_d0a16_0 (by decide) ?_
  refine lv_istore_n (lv' := [(3, .int (nI 0)), (0, .ref a), (1, .long (lN v))]) hx hb dJ7_fill_d0a16_1 rfl hl (by decide) rfl (fun ls hl => ?_)
  refine lv_aload_n hx hb dJ7_fill_d0a16_2 rfl (lv_at hl 1 rfl) ?_
  refine q_aleni hx hb hK hw 0 1 dJ7_fill_d0a16_3 rfl rfl ?_
  refine lv_istore (lv' := [(4, .int (nI n)), (3, .int (nI 0)), (0, .ref a), (1, .long (lN v))]) hx hb dJ7_fill_d0a16_4 hl (by decide) rfl (fun ls hl => ?_)
  have hw : WS D A s [(a, .inl (Z 1, n, .inr (.inl (aL (fil w 0 v)))))] H locs := by rw [show (fil w 0 v) = w from by funext k; simp [fil]]; exact hw
  refine q_loop (σ := Nat) (fun (c : Nat) => n - c) (fun (c : Nat) => c ≤ n) (fun (c : Nat) => [(a, .inl (Z 1, n, .inr (.inl (aL (fil w c v)))))]) (fun (c : Nat) => [(4, .int (nI n)), (3, .int (nI c)), (0, .ref a), (1, .long (lN v))]) 0 (Nat.zero_le _) hw (lv_sub hl [0, 1, 2, 3] rfl) ?_
  intro c H locs ls hi6 hw hl ih6
  try dsimp only at hi6 hw hl ih6
  have hw : WS D A s [(a, .inl (Z 1, n, .inr (.inl (aL (fil w c v)))))] H locs := hw
  have hl : lv_has ls 5 [(4, .int (nI n)), (3, .int (nI c)), (0, .ref a), (1, .long (lN v))] := hl
  refine lv_iload_n hx hb dJ7_fill_d0a16_6 rfl (lv_at hl 1 rfl) ?_
  refine lv_iload hx hb dJ7_fill_d0a16_7 (lv_at hl 0 rfl) ?_
  refine q_icmp_ge (tgt := 22) hx hb ((c : Nat) : Int) ((n : Nat) : Int) (nI_toInt (by omega)) (nI_toInt (by omega)) dJ7_fill_d0a16_9 (by decide) (fun c1 => ?_) (fun c1 => ?_)
  · --
    obtain rfl : c = n := by omega
    exact q_vret (wout := _) hx hb hr hlocks hAe hK () hw (trivial) dJ7_fill_d0a16_22
  · --
    refine lv_aload_n hx hb dJ7_fill_d0a16_12 rfl (lv_at hl 2 rfl) ?_
    refine lv_iload_n hx hb dJ7_fill_d0a16_13 rfl (lv_at hl 1 rfl) ?_
    refine lv_lload_n hx hb dJ7_fill_d0a16_14 rfl (lv_at hl 3 rfl) ?_
    refine q_last hx hb hK hw 0 (by omega) (by omega) dJ7_fill_d0a16_15 rfl (fun H locs hw => ?_)
    have hw : WS D A s [(a, .inl (Z 1, n, .inr (.inl (aL (va_up (fil w c v) c v)))))] H locs := hw
    refine lv_iinc (v := nI (c + 1)) (lv' := [(3, .int (nI (c + 1))), (4, .int (nI n)), (0, .ref a), (1, .long (lN v))]) hx hb dJ7_fill_d0a16_16 hl (k := 1) rfl (nI_add _ _) (by decide) rfl (fun ls hl => ?_)
    refine lv_goto (tgt := 6) hx hb dJ7_fill_d0a16_19 (by decide) ?_
    have hw : WS D A s [(a, .inl (Z 1, n, .inr (.inl (aL (fil w (c + 1) v)))))] H locs := by rw [show (fil w (c + 1) v) = (va_up (fil w c v) c v) from (fil_up w c v).symm]; exact hw
    exact ih6 (c + 1) H locs ls (by omega) (by omega) hw (lv_sub hl [1, 0, 2, 3] rfl)
set_option maxHeartbeats 4000000 in
set_option maxRecDepth 100000 in
theorem c_X5_resize (l : Launch) (D : va_G) (Z : Nat → ClassId) (sz : Nat) (t w n : Nat) (z : Nat → Nat) (v : Nat) (hn : n ≤ 8) (hv : v ≤ 8) : cMv l yX5_resize wsX5_resize (rmd 1) D Z sz [.ref t, .int (nI v)] [(t, .inr (5, [.int (nI n), .ref w])), (w, .inl (Z 0, 9, .inl (aI z)))] (S := Unit) (fun (_ : Unit) => True) (fun (_ : Unit) => [(t, .inr (5, [.int (nI v), .ref w])), (w, .inl (Z 0, 9, .inl (aI (rz z n v))))]) 0 0 := by
  refine q_open (Qc := fun sz => cQv D Z sz [(t, .inr (5, [.int (nI n), .ref w])), (w, .inl (Z 0, 9, .inl (aI z)))] (S := Unit) _ _) (cc := cX5_resize) (maxL := 3) (ret := none) (by decide) rfl (Nat.le_of_ble_eq_true rfl) ?_
  intro pp ee s mm bw mt cd ls A H locs hAe hx hb hr hml hown hmn hts hlocks hA hK hw hl
  have hown : s.vm.findClass RX5 = some mm.cls := hown
  have hl : lv_has ls 3 [(0, .ref t), (1, .int (nI v))] := hl
  have wd1 := hts (.fieldLink RX5 9 "ReplaceAges$Table" "n" "I") (List.mem_of_getElem? (i := 1) rfl)
  have in_X5 : ∀ w ∈ wsX50, w ∈ wsX5_resize := fun _ h => List.mem_cons_of_mem _ (List.mem_append_right _ h)
  refine lv_aload_n hx hb dX5_resize_0 rfl (lv_at hl 0 rfl) ?_
  refine q_get (v := .int (nI n)) (ci := 5) hx hb hts in_X5 hown hK hw 0 0 wd1 dX5_resize_1 rfl rfl (by decide) rfl ?_
  refine q_iconst (v := 1) hx hb dX5_resize_4 (by decide) ?_
  refine q_iadd hx hb dX5_resize_5 ?_
  refine lv_istore_n (lv' := [(2, .int (nI (n + 1))), (0, .ref t), (1, .int (nI v))]) hx hb dX5_resize_6 rfl hl (by decide) rfl (fun ls hl => ?_)
  have hw : WS D A s [(t, .inr (5, [.int (nI n), .ref w])), (w, .inl (Z 0, 9, .inl (aI (rz z n (n + 0)))))] H locs := by rw [show (rz z n (n + 0)) = z from by funext k; simp only [rz]; rw [if_neg (by omega)]]; exact hw
  refine q_loop (σ := Nat) (fun (c : Nat) => v - n - c) (fun (c : Nat) => c ≤ v - n) (fun (c : Nat) => [(t, .inr (5, [.int (nI n), .ref w])), (w, .inl (Z 0, 9, .inl (aI (rz z n (n + c)))))]) (fun (c : Nat) => [(2, .int (nI (n + 1 + c))), (0, .ref t), (1, .int (nI v))]) 0 (Nat.zero_le _) hw (lv_sub hl [0, 1, 2] rfl) ?_
  intro c H locs ls hi7 hw hl ih7
  try dsimp only at hi7 hw hl ih7
  have hw : WS D A s [(t, .inr (5, [.int (nI n), .ref w])), (w, .inl (Z 0, 9, .inl (aI (rz z n (n + c)))))] H locs := hw
  have hl : lv_has ls 3 [(2, .int (nI (n + 1 + c))), (0, .ref t), (1, .int (nI v))] := hl
  refine lv_iload_n hx hb dX5_resize_7 rfl (lv_at hl 0 rfl) ?_
  refine lv_iload_n hx hb dX5_resize_8 rfl (lv_at hl 2 rfl) ?_
  refine q_icmp_gt (tgt := 24) hx hb ((n + 1 + c : Nat) : Int) ((v : Nat) : Int) (nI_toInt (by omega)) (nI_toInt (by omega)) dX5_resize_9 (by decide) (fun c1 => ?_) (fun c1 => ?_)
  · --
    refine lv_aload_n hx hb dX5_resize_24 rfl (lv_at hl 1 rfl) ?_
    refine lv_iload_n hx hb dX5_resize_25 rfl (lv_at hl 2 rfl) ?_
    refine q_put (v := .int (nI v)) (ci := 5) hx hb hts in_X5 tyX5 tyX5_ok nmX5 hown hK hw 0 0 wd1 dX5_resize_26 rfl rfl (by decide) rfl rfl rfl (Nat.le_of_ble_eq_true rfl) (fun H locs hw => ?_)
    have hw : WS D A s [(t, .inr (5, [.int (nI v), .ref w])), (w, .inl (Z 0, 9, .inl (aI (rz z n (n + c)))))] H locs := hw
    have hw : WS D A s [(t, .inr (5, [.int (nI v), .ref w])), (w, .inl (Z 0, 9, .inl (aI (rz z n v))))] H locs := by rw [show (rz z n v) = (rz z n (n + c)) from (rz_end z (by omega)).symm]; exact hw
    exact q_vret (wout := _) hx hb hr hlocks hAe hK () hw (trivial) dX5_resize_29
  · --
    refine lv_aload_n hx hb dX5_resize_12 rfl (lv_at hl 1 rfl) ?_
    refine lv_iload_n hx hb dX5_resize_13 rfl (lv_at hl 0 rfl) ?_
    refine q_iconst (v := 1) hx hb dX5_resize_14 (by decide) ?_
    refine q_callv (S := Unit) (Z := Z) (D := D) (wc := [(t, .inr (5, [.int (nI n), .ref w])), (w, .inl (Z 0, 9, .inl (aI (rz z n (n + c)))))]) (wr := []) (rest := []) hw hA [0, 1] [] rfl rfl rfl rfl (by decide) (fun hPc hDc => va_runV (As := [.int (nI (n + 1 + c)), .int (nI 1)]) (rest := []) ⟨hx, hb, hml, hown, hts⟩ (c_X5_put l D Z H.size t w n (rz z n (n + c)) (n + 1 + c) 1 (by first | assumption | omega)) (cwV 2 hts gX5_resize_X5_put rfl rfl rfl (by decide +kernel) ⟨Nat.le_of_ble_eq_true rfl, Nat.le_of_ble_eq_true rfl⟩) ⟨fb_cPre, va_recv hK.1 hPc (ci := 5) (q0 := 0) rfl rfl, pre_of hPc hK hDc⟩ rfl rfl hl.1 rfl (lv_room (Nat.le_of_ble_eq_true rfl)) dX5_resize_15 ⟨Nat.le_of_ble_eq_true rfl, Nat.le_of_ble_eq_true rfl⟩) (fun u H locs hr2 hw => ?_)
    have hw : WS D A s [(t, .inr (5, [.int (nI n), .ref w])), (w, .inl (Z 0, 9, .inl (aI (va_up (rz z n (n + c)) (n + 1 + c) 1))))] H locs := hw
    refine lv_iinc (v := nI (n + 1 + c + 1)) (lv' := [(2, .int (nI (n + 1 + c + 1))), (0, .ref t), (1, .int (nI v))]) hx hb dX5_resize_18 hl (k := 0) rfl (nI_add _ _) (by decide) rfl (fun ls hl => ?_)
    refine lv_goto (tgt := 7) hx hb dX5_resize_21 (by decide) ?_
    have hw : WS D A s [(t, .inr (5, [.int (nI n), .ref w])), (w, .inl (Z 0, 9, .inl (aI (rz z n (n + (c + 1))))))] H locs := by rw [show (rz z n (n + (c + 1))) = (va_up (rz z n (n + c)) (n + 1 + c) 1) from (rz_up z n c).symm]; exact hw
    exact ih7 (c + 1) H locs ls (by omega) (by omega) hw (lv_sub hl [0, 1, 2] rfl)
set_option maxHeartbeats 4000000 in
set_option maxRecDepth 100000 in
theorem c_X5_empty (l : Launch) (D : va_G) (Z : Nat → ClassId) (sz : Nat) (t w n : Nat) (z : Nat → Nat)  : cMv l yX5_empty wsX5_empty (rmd 1) D Z sz [.ref t] [(t, .inr (5, [.int (nI n), .ref w])), (w, .inl (Z 0, 9, .inl (aI z)))] (S := Unit) (fun (_ : Unit) => True) (fun (_ : Unit) => [(t, .inr (5, [.int (nI 0), .ref w])), (w, .inl (Z 0, 9, .inl (aI (fil z 9 0))))]) 0 0 := by
  refine q_open (Qc := fun sz => cQv D Z sz [(t, .inr (5, [.int (nI n), .ref w])), (w, .inl (Z 0, 9, .inl (aI z)))] (S := Unit) _ _) (cc := cX5_empty) (maxL := 1) (ret := none) (by decide) rfl (Nat.le_of_ble_eq_true rfl) ?_
  intro pp ee s mm bw mt cd ls A H locs hAe hx hb hr hml hown hmn hts hlocks hA hK hw hl
  have hown : s.vm.findClass RX5 = some mm.cls := hown
  have hl : lv_has ls 1 [(0, .ref t)] := hl
  have wd1 := hts (.fieldLink RX5 9 "ReplaceAges$Table" "n" "I") (List.mem_of_getElem? (i := 1) rfl)
  have wd2 := hts (.fieldLink RX5 15 "ReplaceAges$Table" "weights" "[I") (List.mem_of_getElem? (i := 2) rfl)
  have in_X5 : ∀ w ∈ wsX50, w ∈ wsX5_empty := fun _ h => List.mem_cons_of_mem _ (List.mem_append_right _ h)
  refine lv_aload_n hx hb dX5_empty_0 rfl (lv_at hl 0 rfl) ?_
  refine q_iconst (v := 0) hx hb dX5_empty_1 (by decide) ?_
  refine q_put (v := .int (nI 0)) (ci := 5) hx hb hts in_X5 tyX5 tyX5_ok nmX5 hown hK hw 0 0 wd1 dX5_empty_2 rfl rfl (by decide) rfl rfl rfl (Nat.le_of_ble_eq_true rfl) (fun H locs hw => ?_)
  have hw : WS D A s [(t, .inr (5, [.int (nI 0), .ref w])), (w, .inl (Z 0, 9, .inl (aI z)))] H locs := hw
  refine lv_aload_n hx hb dX5_empty_5 rfl (lv_at hl 0 rfl) ?_
  refine q_get (v := .ref w) (ci := 5) hx hb hts in_X5 hown hK hw 0 1 wd2 dX5_empty_6 rfl rfl (by decide) rfl ?_
  refine q_iconst (v := 0) hx hb dX5_empty_9 (by decide) ?_
  refine q_callv (S := Unit) (Z := Z) (D := D) (wc := [(w, .inl (Z 0, 9, .inl (aI z)))]) (wr := [(t, .inr (5, [.int (nI 0), .ref w]))]) (rest := []) hw hA [1] [0] rfl rfl rfl rfl (by decide) (fun hPc hDc => va_runS (As := [.ref w, .int (nI 0)]) (rest := []) ⟨hx, hb, hml, hown, hts⟩ (c_J7_fill_53178 l D Z H.size w 9 z 0 (by first | assumption | omega)) (va_cwS 2 hts gX5_empty_J7_fill_53178 rfl rfl rfl (by decide +kernel) ⟨Nat.le_of_ble_eq_true rfl, Nat.le_of_ble_eq_true rfl⟩) ⟨fb_cPre, pre_of hPc hK hDc⟩ rfl rfl hl.1 rfl (lv_room (Nat.le_of_ble_eq_true rfl)) dX5_empty_10 ⟨Nat.le_of_ble_eq_true rfl, Nat.le_of_ble_eq_true rfl⟩) (fun u H locs hr1 hw => ?_)
  have hw : WS D A s [(t, .inr (5, [.int (nI 0), .ref w])), (w, .inl (Z 0, 9, .inl (aI (fil z 9 0))))] H locs := hw
  exact q_vret (wout := _) hx hb hr hlocks hAe hK () hw (trivial) dX5_empty_13
set_option maxHeartbeats 4000000 in
set_option maxRecDepth 100000 in
theorem c_X5_addOne (l : Launch) (D : va_G) (Z : Nat → ClassId) (sz : Nat) (t w n : Nat) (z : Nat → Nat) (j : Nat) (hn : n ≤ 8) (hj : 1 ≤ j ∧ j ≤ 8) : cMv l yX5_addOne wsX5_addOne (rmd 1) D Z sz [.ref t, .int (nI j)] [(t, .inr (5, [.int (nI n), .ref w])), (w, .inl (Z 0, 9, .inl (aI z)))] (S := Unit) (fun (_ : Unit) => True) (fun (_ : Unit) => [(t, .inr (5, [.int (nI (max n j)), .ref w])), (w, .inl (Z 0, 9, .inl (aI (va_up z j (z j + 1)))))]) 0 0 := by
  refine q_open (Qc := fun sz => cQv D Z sz [(t, .inr (5, [.int (nI n), .ref w])), (w, .inl (Z 0, 9, .inl (aI z)))] (S := Unit) _ _) (cc := cX5_addOne) (maxL := 2) (ret := none) (by decide) rfl (Nat.le_of_ble_eq_true rfl) ?_
  intro pp ee s mm bw mt cd ls A H locs hAe hx hb hr hml hown hmn hts hlocks hA hK hw hl
  have hown : s.vm.findClass RX5 = some mm.cls := hown
  have hl : lv_has ls 2 [(0, .ref t), (1, .int (nI j))] := hl
  have wd1 := hts (.fieldLink RX5 9 "ReplaceAges$Table" "n" "I") (List.mem_of_getElem? (i := 1) rfl)
  have wd2 := hts (.methodLink RX5 40 Lib.Math.max.name) (List.mem_of_getElem? (i := 2) rfl)
  have wd3 := hts (.static Lib.Math.max.name) (List.mem_of_getElem? (i := 3) rfl)
  have wd4 := hts (.initialized "java/lang/Math") (List.mem_of_getElem? (i := 4) rfl)
  have wd5 := hts (.code Lib.Math.max.name Lib.Math.max.code 2 (some .int)) (List.mem_of_getElem? (i := 5) rfl)
  have in_X5 : ∀ w ∈ wsX50, w ∈ wsX5_addOne := fun _ h => List.mem_cons_of_mem _ (List.mem_append_right _ h)
  refine lv_aload_n hx hb dX5_addOne_0 rfl (lv_at hl 0 rfl) ?_
  refine lv_aload_n hx hb dX5_addOne_1 rfl (lv_at hl 0 rfl) ?_
  refine q_get (v := .int (nI n)) (ci := 5) hx hb hts in_X5 hown hK hw 0 0 wd1 dX5_addOne_2 rfl rfl (by decide) rfl ?_
  refine lv_iload_n hx hb dX5_addOne_5 rfl (lv_at hl 1 rfl) ?_
  refine va_mmax hx hb (by rw [hml]; exact hl.1.symm) hown wd2 wd3 wd4 wd5 (Nat.le_of_ble_eq_true rfl) (Nat.le_of_ble_eq_true rfl) (Nat.le_of_ble_eq_true rfl) (Nat.le_of_ble_eq_true rfl) dX5_addOne_6 ?_
  refine q_topi (x := (if nI n < nI j then nI j else nI n)) (y := nI (max n j)) (mx_nI (by omega) (by omega)) ?_
  refine q_put (v := .int (nI (max n j))) (ci := 5) hx hb hts in_X5 tyX5 tyX5_ok nmX5 hown hK hw 0 0 wd1 dX5_addOne_9 rfl rfl (by decide) rfl rfl rfl (Nat.le_of_ble_eq_true rfl) (fun H locs hw => ?_)
  have hw : WS D A s [(t, .inr (5, [.int (nI (max n j)), .ref w])), (w, .inl (Z 0, 9, .inl (aI z)))] H locs := hw
  refine lv_aload_n hx hb dX5_addOne_12 rfl (lv_at hl 0 rfl) ?_
  refine lv_iload_n hx hb dX5_addOne_13 rfl (lv_at hl 1 rfl) ?_
  refine lv_aload_n hx hb dX5_addOne_14 rfl (lv_at hl 0 rfl) ?_
  refine lv_iload_n hx hb dX5_addOne_15 rfl (lv_at hl 1 rfl) ?_
  refine q_calli (S := Unit) (Z := Z) (D := D) (wc := [(t, .inr (5, [.int (nI (max n j)), .ref w])), (w, .inl (Z 0, 9, .inl (aI z)))]) (wr := []) (rest := [.int (nI j), .ref t]) hw hA [0, 1] [] rfl rfl rfl rfl (by decide) (fun hPc hDc => va_runV (As := [.int (nI j)]) (rest := [.int (nI j), .ref t]) ⟨hx, hb, hml, hown, hts⟩ (c_X5_weightOf l D Z H.size t w (max n j) z j (by first | assumption | omega) (by first | assumption | omega)) (cwV 1 hts gX5_addOne_X5_weightOf rfl rfl rfl (by decide +kernel) ⟨Nat.le_of_ble_eq_true rfl, Nat.le_of_ble_eq_true rfl⟩) ⟨fb_cPre, va_recv hK.1 hPc (ci := 5) (q0 := 0) rfl rfl, pre_of hPc hK hDc⟩ rfl rfl hl.1 rfl (lv_room (Nat.le_of_ble_eq_true rfl)) dX5_addOne_16 ⟨Nat.le_of_ble_eq_true rfl, Nat.le_of_ble_eq_true rfl⟩) (fun r1 u H locs hr1 hw => ?_)
  subst hr1
  have hw : WS D A s [(t, .inr (5, [.int (nI (max n j)), .ref w])), (w, .inl (Z 0, 9, .inl (aI z)))] H locs := hw
  refine q_topi (x := nI (wt z (max n j) j)) (y := nI (z j)) (congrArg nI (by rw [wt_in (by omega)])) ?_
  refine q_iconst (v := 1) hx hb dX5_addOne_19 (by decide) ?_
  refine q_iadd hx hb dX5_addOne_20 ?_
  refine q_callv (S := Unit) (Z := Z) (D := D) (wc := [(t, .inr (5, [.int (nI (max n j)), .ref w])), (w, .inl (Z 0, 9, .inl (aI z)))]) (wr := []) (rest := []) hw hA [0, 1] [] rfl rfl rfl rfl (by decide) (fun hPc hDc => va_runV (As := [.int (nI j), .int (nI (z j + 1))]) (rest := []) ⟨hx, hb, hml, hown, hts⟩ (c_X5_put l D Z H.size t w (max n j) z j (z j + 1) (by first | assumption | omega)) (cwV 2 hts gX5_addOne_X5_put rfl rfl rfl (by decide +kernel) ⟨Nat.le_of_ble_eq_true rfl, Nat.le_of_ble_eq_true rfl⟩) ⟨fb_cPre, va_recv hK.1 hPc (ci := 5) (q0 := 0) rfl rfl, pre_of hPc hK hDc⟩ rfl rfl hl.1 rfl (lv_room (Nat.le_of_ble_eq_true rfl)) dX5_addOne_21 ⟨Nat.le_of_ble_eq_true rfl, Nat.le_of_ble_eq_true rfl⟩) (fun u H locs hr2 hw => ?_)
  have hw : WS D A s [(t, .inr (5, [.int (nI (max n j)), .ref w])), (w, .inl (Z 0, 9, .inl (aI (va_up z j (z j + 1)))))] H locs := hw
  exact q_vret (wout := _) hx hb hr hlocks hAe hK () hw (trivial) dX5_addOne_24
set_option maxHeartbeats 4000000 in
set_option maxRecDepth 100000 in
theorem c_X5_takeFrom (l : Launch) (D : va_G) (Z : Nat → ClassId) (sz : Nat) (t w n : Nat) (z : Nat → Nat) (t2 w2 n2 : Nat) (z2 : Nat → Nat)  : cMv l yX5_takeFrom wsX5_takeFrom (rmd 1) D Z sz [.ref t, .ref t2] [(t, .inr (5, [.int (nI n), .ref w])), (w, .inl (Z 0, 9, .inl (aI z))), (t2, .inr (5, [.int (nI n2), .ref w2])), (w2, .inl (Z 0, 9, .inl (aI z2)))] (S := Unit) (fun (_ : Unit) => True) (fun (_ : Unit) => [(t, .inr (5, [.int (nI n2), .ref w])), (w, .inl (Z 0, 9, .inl (aI z2))), (t2, .inr (5, [.int (nI n2), .ref w2])), (w2, .inl (Z 0, 9, .inl (aI z2)))]) 0 0 := by
  refine q_open (Qc := fun sz => cQv D Z sz [(t, .inr (5, [.int (nI n), .ref w])), (w, .inl (Z 0, 9, .inl (aI z))), (t2, .inr (5, [.int (nI n2), .ref w2])), (w2, .inl (Z 0, 9, .inl (aI z2)))] (S := Unit) _ _) (cc := cX5_takeFrom) (maxL := 2) (ret := none) (by decide) rfl (Nat.le_of_ble_eq_true rfl) ?_
  intro pp ee s mm bw mt cd ls A H locs hAe hx hb hr hml hown hmn hts hlocks hA hK hw hl
  have hown : s.vm.findClass RX5 = some mm.cls := hown
  have hl : lv_has ls 2 [(0, .ref t), (1, .ref t2)] := hl
  have wd1 := hts (.fieldLink RX5 9 "ReplaceAges$Table" "n" "I") (List.mem_of_getElem? (i := 1) rfl)
  have wd2 := hts (.fieldLink RX5 15 "ReplaceAges$Table" "weights" "[I") (List.mem_of_getElem? (i := 2) rfl)
  have wd3 := hts (.methodLink RX5 46 arraycopyName) (List.mem_of_getElem? (i := 3) rfl)
  have wd4 := hts (.native arraycopyName) (List.mem_of_getElem? (i := 4) rfl)
  have wd5 := hts (.static arraycopyName) (List.mem_of_getElem? (i := 5) rfl)
  have wd6 := hts (.initialized "java/lang/System") (List.mem_of_getElem? (i := 6) rfl)
  have in_X5 : ∀ w ∈ wsX50, w ∈ wsX5_takeFrom := fun _ h => List.mem_cons_of_mem _ (List.mem_append_right _ h)
  refine lv_aload_n hx hb dX5_takeFrom_0 rfl (lv_at hl 0 rfl) ?_
  refine lv_aload_n hx hb dX5_takeFrom_1 rfl (lv_at hl 1 rfl) ?_
  refine q_get (v := .int (nI n2)) (ci := 5) hx hb hts in_X5 hown hK hw 2 0 wd1 dX5_takeFrom_2 rfl rfl (by decide) rfl ?_
  refine q_put (v := .int (nI n2)) (ci := 5) hx hb hts in_X5 tyX5 tyX5_ok nmX5 hown hK hw 0 0 wd1 dX5_takeFrom_5 rfl rfl (by decide) rfl rfl rfl (Nat.le_of_ble_eq_true rfl) (fun H locs hw => ?_)
  have hw : WS D A s [(t, .inr (5, [.int (nI n2), .ref w])), (w, .inl (Z 0, 9, .inl (aI z))), (t2, .inr (5, [.int (nI n2), .ref w2])), (w2, .inl (Z 0, 9, .inl (aI z2)))] H locs := hw
  refine lv_aload_n hx hb dX5_takeFrom_8 rfl (lv_at hl 1 rfl) ?_
  refine q_get (v := .ref w2) (ci := 5) hx hb hts in_X5 hown hK hw 2 1 wd2 dX5_takeFrom_9 rfl rfl (by decide) rfl ?_
  refine q_iconst (v := 0) hx hb dX5_takeFrom_12 (by decide) ?_
  refine lv_aload_n hx hb dX5_takeFrom_13 rfl (lv_at hl 0 rfl) ?_
  refine q_get (v := .ref w) (ci := 5) hx hb hts in_X5 hown hK hw 0 1 wd2 dX5_takeFrom_14 rfl rfl (by decide) rfl ?_
  refine q_iconst (v := 0) hx hb dX5_takeFrom_17 (by decide) ?_
  refine lv_aload_n hx hb dX5_takeFrom_18 rfl (lv_at hl 0 rfl) ?_
  refine q_get (v := .ref w) (ci := 5) hx hb hts in_X5 hown hK hw 0 1 wd2 dX5_takeFrom_19 rfl rfl (by decide) rfl ?_
  refine q_aleni hx hb hK hw 1 0 dX5_takeFrom_22 rfl rfl ?_
  refine q_copyi hx hb (by rw [hml]; exact hl.1.symm) hown wd3 wd4 wd5 wd6 hK hw 3 1 (by omega) (by omega) (by omega) (by omega) (by omega) (Nat.le_of_ble_eq_true rfl) (by decide +kernel) dX5_takeFrom_23 rfl rfl (fun H locs hw => ?_)
  have hw : WS D A s [(t, .inr (5, [.int (nI n2), .ref w])), (w, .inl (Z 0, 9, .inl (aI (va_cpy z2 z 0 0 9)))), (t2, .inr (5, [.int (nI n2), .ref w2])), (w2, .inl (Z 0, 9, .inl (aI z2)))] H locs := hw
  have hw : WS D A s [(t, .inr (5, [.int (nI n2), .ref w])), (w, .inl (Z 0, 9, .inl (aI z2))), (t2, .inr (5, [.int (nI n2), .ref w2])), (w2, .inl (Z 0, 9, .inl (aI z2)))] H locs := WS.arrI hw 1 rfl (fun k hk => by rw [pk_cpy_in (Nat.zero_le _) (by omega)]; congr 1; omega)
  exact q_vret (wout := _) hx hb hr hlocks hAe hK () hw (trivial) dX5_takeFrom_26
set_option maxHeartbeats 4000000 in
set_option maxRecDepth 100000 in
theorem c_X5_cost (l : Launch) (D : va_G) (Z : Nat → ClassId) (sz : Nat) (t w n : Nat) (z : Nat → Nat) (a f c : Nat) (hn : n ≤ 8) (ha : a ≤ 8) : cMi l yX5_cost wsX5_cost (rmd 3) D Z sz [.ref t, .int (nI a), .int (nI f), .int (nI c)] [(t, .inr (5, [.int (nI n), .ref w])), (w, .inl (Z 0, 9, .inl (aI z)))] (S := Unit) (fun (r : Int32) => fun (_ : Unit) => r = nI (ct z n f c a)) (fun (_ : Unit) => [(t, .inr (5, [.int (nI n), .ref w])), (w, .inl (Z 0, 9, .inl (aI z)))]) 0 0 := by
  refine q_open (Qc := fun sz => cQi D Z sz [(t, .inr (5, [.int (nI n), .ref w])), (w, .inl (Z 0, 9, .inl (aI z)))] (S := Unit) _ _) (cc := cX5_cost) (maxL := 4) (ret := (some .int)) (by decide) rfl (Nat.le_of_ble_eq_true rfl) ?_
  intro pp ee s mm bw mt cd ls A H locs hAe hx hb hr hml hown hmn hts hlocks hA hK hw hl
  have hown : s.vm.findClass RX5 = some mm.cls := hown
  have hl : lv_has ls 4 [(0, .ref t), (1, .int (nI a)), (2, .int (nI f)), (3, .int (nI c))] := hl
  have h1 := lf_anti (w := z) (n := n) (Nat.zero_le a)
  refine lv_iload_n hx hb dX5_cost_0 rfl (lv_at hl 2 rfl) ?_
  refine lv_aload_n hx hb dX5_cost_1 rfl (lv_at hl 0 rfl) ?_
  refine q_calli (S := Unit) (Z := Z) (D := D) (wc := [(t, .inr (5, [.int (nI n), .ref w])), (w, .inl (Z 0, 9, .inl (aI z)))]) (wr := []) (rest := [.int (nI f)]) hw hA [0, 1] [] rfl rfl rfl rfl (by decide) (fun hPc hDc => va_runV (As := []) (rest := [.int (nI f)]) ⟨hx, hb, hml, hown, hts⟩ (c_X5_all l D Z H.size t w n z (by first | assumption | omega)) (cwV 0 hts gX5_cost_X5_all rfl rfl rfl (by decide +kernel) ⟨Nat.le_of_ble_eq_true rfl, Nat.le_of_ble_eq_true rfl⟩) ⟨fb_cPre, va_recv hK.1 hPc (ci := 5) (q0 := 0) rfl rfl, pre_of hPc hK hDc⟩ rfl rfl hl.1 rfl (lv_room (Nat.le_of_ble_eq_true rfl)) dX5_cost_2 ⟨Nat.le_of_ble_eq_true rfl, Nat.le_of_ble_eq_true rfl⟩) (fun r1 u H locs hr1 hw => ?_)
  subst hr1
  have hw : WS D A s [(t, .inr (5, [.int (nI n), .ref w])), (w, .inl (Z 0, 9, .inl (aI z)))] H locs := hw
  refine lv_aload_n hx hb dX5_cost_5 rfl (lv_at hl 0 rfl) ?_
  refine lv_iload_n hx hb dX5_cost_6 rfl (lv_at hl 1 rfl) ?_
  refine q_calli (S := Unit) (Z := Z) (D := D) (wc := [(t, .inr (5, [.int (nI n), .ref w])), (w, .inl (Z 0, 9, .inl (aI z)))]) (wr := []) (rest := [.int (nI (lf z n 0)), .int (nI f)]) hw hA [0, 1] [] rfl rfl rfl rfl (by decide) (fun hPc hDc => va_runV (As := [.int (nI a)]) (rest := [.int (nI (lf z n 0)), .int (nI f)]) ⟨hx, hb, hml, hown, hts⟩ (c_X5_left l D Z H.size t w n z a (by first | assumption | omega) (by first | assumption | omega)) (cwV 1 hts gX5_cost_X5_left rfl rfl rfl (by decide +kernel) ⟨Nat.le_of_ble_eq_true rfl, Nat.le_of_ble_eq_true rfl⟩) ⟨fb_cPre, va_recv hK.1 hPc (ci := 5) (q0 := 0) rfl rfl, pre_of hPc hK hDc⟩ rfl rfl hl.1 rfl (lv_room (Nat.le_of_ble_eq_true rfl)) dX5_cost_7 ⟨Nat.le_of_ble_eq_true rfl, Nat.le_of_ble_eq_true rfl⟩) (fun r2 u H locs hr2 hw => ?_)
  subst hr2
  have hw : WS D A s [(t, .inr (5, [.int (nI n), .ref w])), (w, .inl (Z 0, 9, .inl (aI z)))] H locs := hw
  refine q_isub hx hb (by omega) dX5_cost_10 ?_
  refine q_imul hx hb dX5_cost_11 ?_
  refine lv_iload_n hx hb dX5_cost_12 rfl (lv_at hl 3 rfl) ?_
  refine lv_aload_n hx hb dX5_cost_13 rfl (lv_at hl 0 rfl) ?_
  refine lv_iload_n hx hb dX5_cost_14 rfl (lv_at hl 1 rfl) ?_
  refine q_calli (S := Unit) (Z := Z) (D := D) (wc := [(t, .inr (5, [.int (nI n), .ref w])), (w, .inl (Z 0, 9, .inl (aI z)))]) (wr := []) (rest := [.int (nI c), .int (nI (f * (lf z n 0 - (lf z n a))))]) hw hA [0, 1] [] rfl rfl rfl rfl (by decide) (fun hPc hDc => va_runV (As := [.int (nI a)]) (rest := [.int (nI c), .int (nI (f * (lf z n 0 - (lf z n a))))]) ⟨hx, hb, hml, hown, hts⟩ (c_X5_left l D Z H.size t w n z a (by first | assumption | omega) (by first | assumption | omega)) (cwV 1 hts gX5_cost_X5_left rfl rfl rfl (by decide +kernel) ⟨Nat.le_of_ble_eq_true rfl, Nat.le_of_ble_eq_true rfl⟩) ⟨fb_cPre, va_recv hK.1 hPc (ci := 5) (q0 := 0) rfl rfl, pre_of hPc hK hDc⟩ rfl rfl hl.1 rfl (lv_room (Nat.le_of_ble_eq_true rfl)) dX5_cost_15 ⟨Nat.le_of_ble_eq_true rfl, Nat.le_of_ble_eq_true rfl⟩) (fun r3 u H locs hr3 hw => ?_)
  subst hr3
  have hw : WS D A s [(t, .inr (5, [.int (nI n), .ref w])), (w, .inl (Z 0, 9, .inl (aI z)))] H locs := hw
  refine q_imul hx hb dX5_cost_18 ?_
  refine q_iadd hx hb dX5_cost_19 ?_
  exact q_iret (wout := _) hx hb hr hlocks hAe hK () hw (rfl) dX5_cost_20
set_option maxHeartbeats 4000000 in
set_option maxRecDepth 100000 in
theorem c_X5_served (l : Launch) (D : va_G) (Z : Nat → ClassId) (sz : Nat) (t w n : Nat) (z : Nat → Nat) (a : Nat) (hn : n ≤ 8) (ha : a ≤ 8) : cMi l yX5_served wsX5_served (rmd 2) D Z sz [.ref t, .int (nI a)] [(t, .inr (5, [.int (nI n), .ref w])), (w, .inl (Z 0, 9, .inl (aI z)))] (S := Unit) (fun (r : Int32) => fun (_ : Unit) => r = nI (sv z n a)) (fun (_ : Unit) => [(t, .inr (5, [.int (nI n), .ref w])), (w, .inl (Z 0, 9, .inl (aI z)))]) 0 0 := by
  refine q_open (Qc := fun sz => cQi D Z sz [(t, .inr (5, [.int (nI n), .ref w])), (w, .inl (Z 0, 9, .inl (aI z)))] (S := Unit) _ _) (cc := cX5_served) (maxL := 4) (ret := (some .int)) (by decide) rfl (Nat.le_of_ble_eq_true rfl) ?_
  intro pp ee s mm bw mt cd ls A H locs hAe hx hb hr hml hown hmn hts hlocks hA hK hw hl
  have hown : s.vm.findClass RX5 = some mm.cls := hown
  have hl : lv_has ls 4 [(0, .ref t), (1, .int (nI a))] := hl
  refine q_iconst (v := 0) hx hb dX5_served_0 (by decide) ?_
  refine lv_istore_n (lv' := [(2, .int (nI 0)), (0, .ref t), (1, .int (nI a))]) hx hb dX5_served_1 rfl hl (by decide) rfl (fun ls hl => ?_)
  refine q_iconst (v := 0) hx hb dX5_served_2 (by decide) ?_
  refine lv_istore_n (lv' := [(3, .int (nI 0)), (2, .int (nI 0)), (0, .ref t), (1, .int (nI a))]) hx hb dX5_served_3 rfl hl (by decide) rfl (fun ls hl => ?_)
  refine q_loop (σ := Nat) (fun (c : Nat) => a - c) (fun (c : Nat) => c ≤ a) (fun (c : Nat) => [(t, .inr (5, [.int (nI n), .ref w])), (w, .inl (Z 0, 9, .inl (aI z)))]) (fun (c : Nat) => [(3, .int (nI c)), (2, .int (nI (sv z n c))), (0, .ref t), (1, .int (nI a))]) 0 (Nat.zero_le _) hw (lv_sub hl [0, 1, 2, 3] rfl) ?_
  intro c H locs ls hi4 hw hl ih4
  try dsimp only at hi4 hw hl ih4
  have hw : WS D A s [(t, .inr (5, [.int (nI n), .ref w])), (w, .inl (Z 0, 9, .inl (aI z)))] H locs := hw
  have hl : lv_has ls 4 [(3, .int (nI c)), (2, .int (nI (sv z n c))), (0, .ref t), (1, .int (nI a))] := hl
  refine lv_iload_n hx hb dX5_served_4 rfl (lv_at hl 0 rfl) ?_
  refine lv_iload_n hx hb dX5_served_5 rfl (lv_at hl 3 rfl) ?_
  refine q_icmp_ge (tgt := 23) hx hb ((c : Nat) : Int) ((a : Nat) : Int) (nI_toInt (by omega)) (nI_toInt (by omega)) dX5_served_6 (by decide) (fun c1 => ?_) (fun c1 => ?_)
  · --
    refine lv_iload_n hx hb dX5_served_23 rfl (lv_at hl 1 rfl) ?_
    exact q_iret (wout := _) hx hb hr hlocks hAe hK () hw (by rw [show c = a by omega]) dX5_served_24
  · --
    refine lv_iload_n hx hb dX5_served_9 rfl (lv_at hl 1 rfl) ?_
    refine lv_aload_n hx hb dX5_served_10 rfl (lv_at hl 2 rfl) ?_
    refine lv_iload_n hx hb dX5_served_11 rfl (lv_at hl 0 rfl) ?_
    refine q_calli (S := Unit) (Z := Z) (D := D) (wc := [(t, .inr (5, [.int (nI n), .ref w])), (w, .inl (Z 0, 9, .inl (aI z)))]) (wr := []) (rest := [.int (nI (sv z n c))]) hw hA [0, 1] [] rfl rfl rfl rfl (by decide) (fun hPc hDc => va_runV (As := [.int (nI c)]) (rest := [.int (nI (sv z n c))]) ⟨hx, hb, hml, hown, hts⟩ (c_X5_left l D Z H.size t w n z c (by first | assumption | omega) (by first | assumption | omega)) (cwV 1 hts gX5_served_X5_left rfl rfl rfl (by decide +kernel) ⟨Nat.le_of_ble_eq_true rfl, Nat.le_of_ble_eq_true rfl⟩) ⟨fb_cPre, va_recv hK.1 hPc (ci := 5) (q0 := 0) rfl rfl, pre_of hPc hK hDc⟩ rfl rfl hl.1 rfl (lv_room (Nat.le_of_ble_eq_true rfl)) dX5_served_12 ⟨Nat.le_of_ble_eq_true rfl, Nat.le_of_ble_eq_true rfl⟩) (fun r2 u H locs hr2 hw => ?_)
    subst hr2
    have hw : WS D A s [(t, .inr (5, [.int (nI n), .ref w])), (w, .inl (Z 0, 9, .inl (aI z)))] H locs := hw
    refine q_iadd hx hb dX5_served_15 ?_
    refine lv_istore_n (lv' := [(2, .int (nI (sv z n c + (lf z n c)))), (3, .int (nI c)), (0, .ref t), (1, .int (nI a))]) hx hb dX5_served_16 rfl hl (by decide) rfl (fun ls hl => ?_)
    refine lv_iinc (v := nI (c + 1)) (lv' := [(3, .int (nI (c + 1))), (2, .int (nI (sv z n c + (lf z n c)))), (0, .ref t), (1, .int (nI a))]) hx hb dX5_served_17 hl (k := 1) rfl (nI_add _ _) (by decide) rfl (fun ls hl => ?_)
    refine lv_goto (tgt := 4) hx hb dX5_served_20 (by decide) ?_
    exact ih4 (c + 1) H locs ls (by omega) (by omega) hw (lv_sub hl [0, 1, 2, 3] rfl)
set_option maxHeartbeats 4000000 in
set_option maxRecDepth 100000 in
theorem c_X5_bestAge (l : Launch) (D : va_G) (Z : Nat → ClassId) (sz : Nat) (t w n : Nat) (z : Nat → Nat) (f c : Nat) (hn : n ≤ 8) (hs : lf z n 0 ≤ 24) (hf : f ≤ 99) (hc : c ≤ 99) : cMi l yX5_bestAge wsX5_bestAge (rmd 4) D Z sz [.ref t, .int (nI f), .int (nI c)] [(t, .inr (5, [.int (nI n), .ref w])), (w, .inl (Z 0, 9, .inl (aI z)))] (S := Unit) (fun (r : Int32) => fun (_ : Unit) => r = nI (ba z n f c)) (fun (_ : Unit) => [(t, .inr (5, [.int (nI n), .ref w])), (w, .inl (Z 0, 9, .inl (aI z)))]) 0 0 := by
  refine q_open (Qc := fun sz => cQi D Z sz [(t, .inr (5, [.int (nI n), .ref w])), (w, .inl (Z 0, 9, .inl (aI z)))] (S := Unit) _ _) (cc := cX5_bestAge) (maxL := 5) (ret := (some .int)) (by decide) rfl (Nat.le_of_ble_eq_true rfl) ?_
  intro pp ee s mm bw mt cd ls A H locs hAe hx hb hr hml hown hmn hts hlocks hA hK hw hl
  have hown : s.vm.findClass RX5 = some mm.cls := hown
  have hl : lv_has ls 5 [(0, .ref t), (1, .int (nI f)), (2, .int (nI c))] := hl
  have wd1 := hts (.fieldLink RX5 9 "ReplaceAges$Table" "n" "I") (List.mem_of_getElem? (i := 1) rfl)
  have in_X5 : ∀ w ∈ wsX50, w ∈ wsX5_bestAge := fun _ h => List.mem_cons_of_mem _ (List.mem_append_right _ h)
  refine q_iconst (v := 1) hx hb dX5_bestAge_0 (by decide) ?_
  refine lv_istore_n (lv' := [(3, .int (nI 1)), (0, .ref t), (1, .int (nI f)), (2, .int (nI c))]) hx hb dX5_bestAge_1 rfl hl (by decide) rfl (fun ls hl => ?_)
  refine q_iconst (v := 2) hx hb dX5_bestAge_2 (by decide) ?_
  refine lv_istore (lv' := [(4, .int (nI 2)), (3, .int (nI 1)), (0, .ref t), (1, .int (nI f)), (2, .int (nI c))]) hx hb dX5_bestAge_3 hl (by decide) rfl (fun ls hl => ?_)
  refine q_loop (σ := Nat) (fun (i : Nat) => n - i) (fun (i : Nat) => i ≤ n - 1) (fun (i : Nat) => [(t, .inr (5, [.int (nI n), .ref w])), (w, .inl (Z 0, 9, .inl (aI z)))]) (fun (i : Nat) => [(4, .int (nI (i + 2))), (3, .int (nI (bst z n f c i))), (0, .ref t), (1, .int (nI f)), (2, .int (nI c))]) 0 (Nat.zero_le _) hw (lv_sub hl [0, 1, 2, 3, 4] rfl) ?_
  intro i H locs ls hi5 hw hl ih5
  try dsimp only at hi5 hw hl ih5
  have hw : WS D A s [(t, .inr (5, [.int (nI n), .ref w])), (w, .inl (Z 0, 9, .inl (aI z)))] H locs := hw
  have hl : lv_has ls 5 [(4, .int (nI (i + 2))), (3, .int (nI (bst z n f c i))), (0, .ref t), (1, .int (nI f)), (2, .int (nI c))] := hl
  have b0 := bst_le z n f c i
  have b1 := ct_sv_le hs hf hc (i + 2) (bst z n f c i) (by omega)
  have b2 := ct_sv_le hs hf hc (bst z n f c i) (i + 2)
  refine lv_iload hx hb dX5_bestAge_5 (lv_at hl 0 rfl) ?_
  refine lv_aload_n hx hb dX5_bestAge_7 rfl (lv_at hl 2 rfl) ?_
  refine q_get (v := .int (nI n)) (ci := 5) hx hb hts in_X5 hown hK hw 0 0 wd1 dX5_bestAge_8 rfl rfl (by decide) rfl ?_
  refine q_icmp_gt (tgt := 54) hx hb ((i + 2 : Nat) : Int) ((n : Nat) : Int) (nI_toInt (by omega)) (nI_toInt (by omega)) dX5_bestAge_11 (by decide) (fun c1 => ?_) (fun c1 => ?_)
  · --
    have e : i = n - 1 := by omega
    refine lv_iload_n hx hb dX5_bestAge_54 rfl (lv_at hl 1 rfl) ?_
    exact q_iret (wout := _) hx hb hr hlocks hAe hK () hw (by rw [e]; rfl) dX5_bestAge_55
  · --
    have b2 := b2 (by omega)
    refine lv_aload_n hx hb dX5_bestAge_14 rfl (lv_at hl 2 rfl) ?_
    refine lv_iload hx hb dX5_bestAge_15 (lv_at hl 0 rfl) ?_
    refine lv_iload_n hx hb dX5_bestAge_17 rfl (lv_at hl 3 rfl) ?_
    refine lv_iload_n hx hb dX5_bestAge_18 rfl (lv_at hl 4 rfl) ?_
    refine q_calli (S := Unit) (Z := Z) (D := D) (wc := [(t, .inr (5, [.int (nI n), .ref w])), (w, .inl (Z 0, 9, .inl (aI z)))]) (wr := []) (rest := []) hw hA [0, 1] [] rfl rfl rfl rfl (by decide) (fun hPc hDc => va_runV (As := [.int (nI (i + 2)), .int (nI f), .int (nI c)]) (rest := []) ⟨hx, hb, hml, hown, hts⟩ (c_X5_cost l D Z H.size t w n z (i + 2) f c (by first | assumption | omega) (by first | assumption | omega)) (cwV 3 hts gX5_bestAge_X5_cost rfl rfl rfl (by decide +kernel) ⟨Nat.le_of_ble_eq_true rfl, Nat.le_of_ble_eq_true rfl⟩) ⟨fb_cPre, va_recv hK.1 hPc (ci := 5) (q0 := 0) rfl rfl, pre_of hPc hK hDc⟩ rfl rfl hl.1 rfl (lv_room (Nat.le_of_ble_eq_true rfl)) dX5_bestAge_19 ⟨Nat.le_of_ble_eq_true rfl, Nat.le_of_ble_eq_true rfl⟩) (fun r2 u H locs hr2 hw => ?_)
    subst hr2
    have hw : WS D A s [(t, .inr (5, [.int (nI n), .ref w])), (w, .inl (Z 0, 9, .inl (aI z)))] H locs := hw
    refine lv_aload_n hx hb dX5_bestAge_22 rfl (lv_at hl 2 rfl) ?_
    refine lv_iload_n hx hb dX5_bestAge_23 rfl (lv_at hl 1 rfl) ?_
    refine q_calli (S := Unit) (Z := Z) (D := D) (wc := [(t, .inr (5, [.int (nI n), .ref w])), (w, .inl (Z 0, 9, .inl (aI z)))]) (wr := []) (rest := [.int (nI (ct z n f c (i + 2)))]) hw hA [0, 1] [] rfl rfl rfl rfl (by decide) (fun hPc hDc => va_runV (As := [.int (nI (bst z n f c i))]) (rest := [.int (nI (ct z n f c (i + 2)))]) ⟨hx, hb, hml, hown, hts⟩ (c_X5_served l D Z H.size t w n z (bst z n f c i) (by first | assumption | omega) (by first | assumption | omega)) (cwV 1 hts gX5_bestAge_X5_served rfl rfl rfl (by decide +kernel) ⟨Nat.le_of_ble_eq_true rfl, Nat.le_of_ble_eq_true rfl⟩) ⟨fb_cPre, va_recv hK.1 hPc (ci := 5) (q0 := 0) rfl rfl, pre_of hPc hK hDc⟩ rfl rfl hl.1 rfl (lv_room (Nat.le_of_ble_eq_true rfl)) dX5_bestAge_24 ⟨Nat.le_of_ble_eq_true rfl, Nat.le_of_ble_eq_true rfl⟩) (fun r3 u H locs hr3 hw => ?_)
    subst hr3
    have hw : WS D A s [(t, .inr (5, [.int (nI n), .ref w])), (w, .inl (Z 0, 9, .inl (aI z)))] H locs := hw
    refine q_imul hx hb dX5_bestAge_27 ?_
    refine lv_aload_n hx hb dX5_bestAge_28 rfl (lv_at hl 2 rfl) ?_
    refine lv_iload_n hx hb dX5_bestAge_29 rfl (lv_at hl 1 rfl) ?_
    refine lv_iload_n hx hb dX5_bestAge_30 rfl (lv_at hl 3 rfl) ?_
    refine lv_iload_n hx hb dX5_bestAge_31 rfl (lv_at hl 4 rfl) ?_
    refine q_calli (S := Unit) (Z := Z) (D := D) (wc := [(t, .inr (5, [.int (nI n), .ref w])), (w, .inl (Z 0, 9, .inl (aI z)))]) (wr := []) (rest := [.int (nI ((ct z n f c (i + 2)) * (sv z n (bst z n f c i))))]) hw hA [0, 1] [] rfl rfl rfl rfl (by decide) (fun hPc hDc => va_runV (As := [.int (nI (bst z n f c i)), .int (nI f), .int (nI c)]) (rest := [.int (nI ((ct z n f c (i + 2)) * (sv z n (bst z n f c i))))]) ⟨hx, hb, hml, hown, hts⟩ (c_X5_cost l D Z H.size t w n z (bst z n f c i) f c (by first | assumption | omega) (by first | assumption | omega)) (cwV 3 hts gX5_bestAge_X5_cost rfl rfl rfl (by decide +kernel) ⟨Nat.le_of_ble_eq_true rfl, Nat.le_of_ble_eq_true rfl⟩) ⟨fb_cPre, va_recv hK.1 hPc (ci := 5) (q0 := 0) rfl rfl, pre_of hPc hK hDc⟩ rfl rfl hl.1 rfl (lv_room (Nat.le_of_ble_eq_true rfl)) dX5_bestAge_32 ⟨Nat.le_of_ble_eq_true rfl, Nat.le_of_ble_eq_true rfl⟩) (fun r4 u H locs hr4 hw => ?_)
    subst hr4
    have hw : WS D A s [(t, .inr (5, [.int (nI n), .ref w])), (w, .inl (Z 0, 9, .inl (aI z)))] H locs := hw
    refine lv_aload_n hx hb dX5_bestAge_35 rfl (lv_at hl 2 rfl) ?_
    refine lv_iload hx hb dX5_bestAge_36 (lv_at hl 0 rfl) ?_
    refine q_calli (S := Unit) (Z := Z) (D := D) (wc := [(t, .inr (5, [.int (nI n), .ref w])), (w, .inl (Z 0, 9, .inl (aI z)))]) (wr := []) (rest := [.int (nI (ct z n f c (bst z n f c i))), .int (nI ((ct z n f c (i + 2)) * (sv z n (bst z n f c i))))]) hw hA [0, 1] [] rfl rfl rfl rfl (by decide) (fun hPc hDc => va_runV (As := [.int (nI (i + 2))]) (rest := [.int (nI (ct z n f c (bst z n f c i))), .int (nI ((ct z n f c (i + 2)) * (sv z n (bst z n f c i))))]) ⟨hx, hb, hml, hown, hts⟩ (c_X5_served l D Z H.size t w n z (i + 2) (by first | assumption | omega) (by first | assumption | omega)) (cwV 1 hts gX5_bestAge_X5_served rfl rfl rfl (by decide +kernel) ⟨Nat.le_of_ble_eq_true rfl, Nat.le_of_ble_eq_true rfl⟩) ⟨fb_cPre, va_recv hK.1 hPc (ci := 5) (q0 := 0) rfl rfl, pre_of hPc hK hDc⟩ rfl rfl hl.1 rfl (lv_room (Nat.le_of_ble_eq_true rfl)) dX5_bestAge_38 ⟨Nat.le_of_ble_eq_true rfl, Nat.le_of_ble_eq_true rfl⟩) (fun r5 u H locs hr5 hw => ?_)
    subst hr5
    have hw : WS D A s [(t, .inr (5, [.int (nI n), .ref w])), (w, .inl (Z 0, 9, .inl (aI z)))] H locs := hw
    refine q_imul hx hb dX5_bestAge_41 ?_
    refine q_icmp_ge (tgt := 48) hx hb (((ct z n f c (i + 2)) * (sv z n (bst z n f c i)) : Nat) : Int) (((ct z n f c (bst z n f c i)) * (sv z n (i + 2)) : Nat) : Int) (nI_toInt (by omega)) (nI_toInt (by omega)) dX5_bestAge_42 (by decide) (fun c6 => ?_) (fun c6 => ?_)
    · --
      refine lv_iinc (v := nI (i + 2 + 1)) (lv' := [(4, .int (nI (i + 2 + 1))), (3, .int (nI (bst z n f c i))), (0, .ref t), (1, .int (nI f)), (2, .int (nI c))]) hx hb dX5_bestAge_48 hl (k := 0) rfl (nI_add _ _) (by decide) rfl (fun ls hl => ?_)
      refine lv_goto (tgt := 5) hx hb dX5_bestAge_51 (by decide) ?_
      have hl : lv_has ls 5 [(4, .int (nI (i + 2 + 1))), (3, .int (nI (bst z n f c (i + 1)))), (0, .ref t), (1, .int (nI f)), (2, .int (nI c))] := by rw [show (bst z n f c (i + 1) : Nat) = bst z n f c i from by simp only [bst]; first | rw [if_pos (by omega)] | rw [if_neg (by omega)]]; exact hl
      exact ih5 (i + 1) H locs ls (by omega) (by omega) hw (lv_sub hl [0, 1, 2, 3, 4] rfl)
    · --
      refine lv_iload hx hb dX5_bestAge_45 (lv_at hl 0 rfl) ?_
      refine lv_istore_n (lv' := [(3, .int (nI (i + 2))), (4, .int (nI (i + 2))), (0, .ref t), (1, .int (nI f)), (2, .int (nI c))]) hx hb dX5_bestAge_47 rfl hl (by decide) rfl (fun ls hl => ?_)
      refine lv_iinc (v := nI (i + 2 + 1)) (lv' := [(4, .int (nI (i + 2 + 1))), (3, .int (nI (i + 2))), (0, .ref t), (1, .int (nI f)), (2, .int (nI c))]) hx hb dX5_bestAge_48 hl (k := 1) rfl (nI_add _ _) (by decide) rfl (fun ls hl => ?_)
      refine lv_goto (tgt := 5) hx hb dX5_bestAge_51 (by decide) ?_
      have hl : lv_has ls 5 [(4, .int (nI (i + 2 + 1))), (3, .int (nI (bst z n f c (i + 1)))), (0, .ref t), (1, .int (nI f)), (2, .int (nI c))] := by rw [show (bst z n f c (i + 1) : Nat) = i + 2 from by simp only [bst]; first | rw [if_pos (by omega)] | rw [if_neg (by omega)]]; exact hl
      exact ih5 (i + 1) H locs ls (by omega) (by omega) hw (lv_sub hl [0, 1, 2, 3, 4] rfl)
set_option maxHeartbeats 4000000 in
set_option maxRecDepth 100000 in
theorem c_X5_trend (l : Launch) (D : va_G) (Z : Nat → ClassId) (sz : Nat) (t w n : Nat) (z : Nat → Nat) (hn : n ≤ 8) (hs : lf z n 0 ≤ 24) : cMi l yX5_trend wsX5_trend (rmd 2) D Z sz [.ref t] [(t, .inr (5, [.int (nI n), .ref w])), (w, .inl (Z 0, 9, .inl (aI z)))] (S := Unit) (fun (r : Int32) => fun (_ : Unit) => r = nI (tr z n)) (fun (_ : Unit) => [(t, .inr (5, [.int (nI n), .ref w])), (w, .inl (Z 0, 9, .inl (aI z)))]) 0 0 := by
  refine q_open (Qc := fun sz => cQi D Z sz [(t, .inr (5, [.int (nI n), .ref w])), (w, .inl (Z 0, 9, .inl (aI z)))] (S := Unit) _ _) (cc := cX5_trend) (maxL := 6) (ret := (some .int)) (by decide) rfl (Nat.le_of_ble_eq_true rfl) ?_
  intro pp ee s mm bw mt cd ls A H locs hAe hx hb hr hml hown hmn hts hlocks hA hK hw hl
  have hown : s.vm.findClass RX5 = some mm.cls := hown
  have hl : lv_has ls 6 [(0, .ref t)] := hl
  have wd1 := hts (.fieldLink RX5 9 "ReplaceAges$Table" "n" "I") (List.mem_of_getElem? (i := 1) rfl)
  have in_X5 : ∀ w ∈ wsX50, w ∈ wsX5_trend := fun _ h => List.mem_cons_of_mem _ (List.mem_append_right _ h)
  refine q_iconst (v := 1) hx hb dX5_trend_0 (by decide) ?_
  refine lv_istore_n (lv' := [(1, .int (nI 1)), (0, .ref t)]) hx hb dX5_trend_1 rfl hl (by decide) rfl (fun ls hl => ?_)
  refine q_iconst (v := 1) hx hb dX5_trend_2 (by decide) ?_
  refine lv_istore_n (lv' := [(2, .int (nI 1)), (1, .int (nI 1)), (0, .ref t)]) hx hb dX5_trend_3 rfl hl (by decide) rfl (fun ls hl => ?_)
  refine q_iconst (v := 2) hx hb dX5_trend_4 (by decide) ?_
  refine lv_istore_n (lv' := [(3, .int (nI 2)), (2, .int (nI 1)), (1, .int (nI 1)), (0, .ref t)]) hx hb dX5_trend_5 rfl hl (by decide) rfl (fun ls hl => ?_)
  refine q_loop (σ := Nat) (fun (i : Nat) => n - i) (fun (i : Nat) => i ≤ n - 1) (fun (i : Nat) => [(t, .inr (5, [.int (nI n), .ref w])), (w, .inl (Z 0, 9, .inl (aI z)))]) (fun (i : Nat) => [(3, .int (nI (i + 2))), (2, .int (nI (fln z n i))), (1, .int (nI (rsn z n i))), (0, .ref t)]) 0 (Nat.zero_le _) hw (lv_sub hl [0, 1, 2, 3] rfl) ?_
  intro i H locs ls hi6 hw hl ih6
  try dsimp only at hi6 hw hl ih6
  have hw : WS D A s [(t, .inr (5, [.int (nI n), .ref w])), (w, .inl (Z 0, 9, .inl (aI z)))] H locs := hw
  have hl : lv_has ls 6 [(3, .int (nI (i + 2))), (2, .int (nI (fln z n i))), (1, .int (nI (rsn z n i))), (0, .ref t)] := hl
  have b0 := rsn_le z n i
  have b1 := fln_le z n i
  refine lv_iload_n hx hb dX5_trend_6 rfl (lv_at hl 0 rfl) ?_
  refine lv_aload_n hx hb dX5_trend_7 rfl (lv_at hl 3 rfl) ?_
  refine q_get (v := .int (nI n)) (ci := 5) hx hb hts in_X5 hown hK hw 0 0 wd1 dX5_trend_8 rfl rfl (by decide) rfl ?_
  refine q_icmp_gt (tgt := 94) hx hb ((i + 2 : Nat) : Int) ((n : Nat) : Int) (nI_toInt (by omega)) (nI_toInt (by omega)) dX5_trend_11 (by decide) (fun c1 => ?_) (fun c1 => ?_)
  · --
    have e : i = n - 1 := by omega
    refine lv_iload_n hx hb dX5_trend_94 rfl (lv_at hl 2 rfl) ?_
    refine q_if_eq (tgt := 102) hx hb ((rsn z n i : Nat) : Int) (nI_toInt (by omega)) dX5_trend_95 (by decide) (fun c2 => ?_) (fun c2 => ?_)
    · --
      refine q_iconst (v := 0) hx hb dX5_trend_102 (by decide) ?_
      refine lv_iload_n hx hb dX5_trend_103 rfl (lv_at hl 1 rfl) ?_
      refine q_if_eq (tgt := 111) hx hb ((fln z n i : Nat) : Int) (nI_toInt (by omega)) dX5_trend_104 (by decide) (fun c3 => ?_) (fun c3 => ?_)
      · --
        refine q_iconst (v := 0) hx hb dX5_trend_111 (by decide) ?_
        refine q_iadd hx hb dX5_trend_112 ?_
        exact q_iret (wout := _) hx hb hr hlocks hAe hK () hw (by simp only [tr]; rw [← e]; exact congrArg nI (by omega)) dX5_trend_113
      · --
        refine q_iconst (v := 2) hx hb dX5_trend_107 (by decide) ?_
        refine lv_goto (tgt := 112) hx hb dX5_trend_108 (by decide) ?_
        refine q_iadd hx hb dX5_trend_112 ?_
        exact q_iret (wout := _) hx hb hr hlocks hAe hK () hw (by simp only [tr]; rw [← e]; exact congrArg nI (by omega)) dX5_trend_113
    · --
      refine q_iconst (v := 1) hx hb dX5_trend_98 (by decide) ?_
      refine lv_goto (tgt := 103) hx hb dX5_trend_99 (by decide) ?_
      refine lv_iload_n hx hb dX5_trend_103 rfl (lv_at hl 1 rfl) ?_
      refine q_if_eq (tgt := 111) hx hb ((fln z n i : Nat) : Int) (nI_toInt (by omega)) dX5_trend_104 (by decide) (fun c4 => ?_) (fun c4 => ?_)
      · --
        refine q_iconst (v := 0) hx hb dX5_trend_111 (by decide) ?_
        refine q_iadd hx hb dX5_trend_112 ?_
        exact q_iret (wout := _) hx hb hr hlocks hAe hK () hw (by simp only [tr]; rw [← e]; exact congrArg nI (by omega)) dX5_trend_113
      · --
        refine q_iconst (v := 2) hx hb dX5_trend_107 (by decide) ?_
        refine lv_goto (tgt := 112) hx hb dX5_trend_108 (by decide) ?_
        refine q_iadd hx hb dX5_trend_112 ?_
        exact q_iret (wout := _) hx hb hr hlocks hAe hK () hw (by simp only [tr]; rw [← e]; exact congrArg nI (by omega)) dX5_trend_113
  · --
    have b2 := hz_le hs (i + 2) i
    have b3 := hz_le hs (i + 1) (i + 1)
    refine lv_aload_n hx hb dX5_trend_14 rfl (lv_at hl 3 rfl) ?_
    refine lv_iload_n hx hb dX5_trend_15 rfl (lv_at hl 0 rfl) ?_
    refine q_calli (S := Unit) (Z := Z) (D := D) (wc := [(t, .inr (5, [.int (nI n), .ref w])), (w, .inl (Z 0, 9, .inl (aI z)))]) (wr := []) (rest := []) hw hA [0, 1] [] rfl rfl rfl rfl (by decide) (fun hPc hDc => va_runV (As := [.int (nI (i + 2))]) (rest := []) ⟨hx, hb, hml, hown, hts⟩ (c_X5_weightOf l D Z H.size t w n z (i + 2) (by first | assumption | omega) (by first | assumption | omega)) (cwV 1 hts gX5_trend_X5_weightOf rfl rfl rfl (by decide +kernel) ⟨Nat.le_of_ble_eq_true rfl, Nat.le_of_ble_eq_true rfl⟩) ⟨fb_cPre, va_recv hK.1 hPc (ci := 5) (q0 := 0) rfl rfl, pre_of hPc hK hDc⟩ rfl rfl hl.1 rfl (lv_room (Nat.le_of_ble_eq_true rfl)) dX5_trend_16 ⟨Nat.le_of_ble_eq_true rfl, Nat.le_of_ble_eq_true rfl⟩) (fun r5 u H locs hr5 hw => ?_)
    subst hr5
    have hw : WS D A s [(t, .inr (5, [.int (nI n), .ref w])), (w, .inl (Z 0, 9, .inl (aI z)))] H locs := hw
    refine q_topi (x := nI (wt z n (i + 2))) (y := nI (z (i + 2))) (congrArg nI (wt_in (by omega))) ?_
    refine lv_aload_n hx hb dX5_trend_19 rfl (lv_at hl 3 rfl) ?_
    refine lv_iload_n hx hb dX5_trend_20 rfl (lv_at hl 0 rfl) ?_
    refine q_iconst (v := 2) hx hb dX5_trend_21 (by decide) ?_
    refine q_isub hx hb (by omega) dX5_trend_22 ?_
    refine q_topi (x := nI (i + 2 - 2)) (y := nI i) (congrArg nI (by omega)) ?_
    refine q_calli (S := Unit) (Z := Z) (D := D) (wc := [(t, .inr (5, [.int (nI n), .ref w])), (w, .inl (Z 0, 9, .inl (aI z)))]) (wr := []) (rest := [.int (nI (z (i + 2)))]) hw hA [0, 1] [] rfl rfl rfl rfl (by decide) (fun hPc hDc => va_runV (As := [.int (nI i)]) (rest := [.int (nI (z (i + 2)))]) ⟨hx, hb, hml, hown, hts⟩ (c_X5_left l D Z H.size t w n z i (by first | assumption | omega) (by first | assumption | omega)) (cwV 1 hts gX5_trend_X5_left rfl rfl rfl (by decide +kernel) ⟨Nat.le_of_ble_eq_true rfl, Nat.le_of_ble_eq_true rfl⟩) ⟨fb_cPre, va_recv hK.1 hPc (ci := 5) (q0 := 0) rfl rfl, pre_of hPc hK hDc⟩ rfl rfl hl.1 rfl (lv_room (Nat.le_of_ble_eq_true rfl)) dX5_trend_23 ⟨Nat.le_of_ble_eq_true rfl, Nat.le_of_ble_eq_true rfl⟩) (fun r6 u H locs hr6 hw => ?_)
    subst hr6
    have hw : WS D A s [(t, .inr (5, [.int (nI n), .ref w])), (w, .inl (Z 0, 9, .inl (aI z)))] H locs := hw
    refine q_imul hx hb dX5_trend_26 ?_
    refine lv_istore (lv' := [(4, .int (nI ((z (i + 2)) * (lf z n i)))), (3, .int (nI (i + 2))), (2, .int (nI (fln z n i))), (1, .int (nI (rsn z n i))), (0, .ref t)]) hx hb dX5_trend_27 hl (by decide) rfl (fun ls hl => ?_)
    refine lv_aload_n hx hb dX5_trend_29 rfl (lv_at hl 4 rfl) ?_
    refine lv_iload_n hx hb dX5_trend_30 rfl (lv_at hl 1 rfl) ?_
    refine q_iconst (v := 1) hx hb dX5_trend_31 (by decide) ?_
    refine q_isub hx hb (by omega) dX5_trend_32 ?_
    refine q_topi (x := nI (i + 2 - 1)) (y := nI (i + 1)) (congrArg nI (by omega)) ?_
    refine q_calli (S := Unit) (Z := Z) (D := D) (wc := [(t, .inr (5, [.int (nI n), .ref w])), (w, .inl (Z 0, 9, .inl (aI z)))]) (wr := []) (rest := []) hw hA [0, 1] [] rfl rfl rfl rfl (by decide) (fun hPc hDc => va_runV (As := [.int (nI (i + 1))]) (rest := []) ⟨hx, hb, hml, hown, hts⟩ (c_X5_weightOf l D Z H.size t w n z (i + 1) (by first | assumption | omega) (by first | assumption | omega)) (cwV 1 hts gX5_trend_X5_weightOf rfl rfl rfl (by decide +kernel) ⟨Nat.le_of_ble_eq_true rfl, Nat.le_of_ble_eq_true rfl⟩) ⟨fb_cPre, va_recv hK.1 hPc (ci := 5) (q0 := 0) rfl rfl, pre_of hPc hK hDc⟩ rfl rfl hl.1 rfl (lv_room (Nat.le_of_ble_eq_true rfl)) dX5_trend_33 ⟨Nat.le_of_ble_eq_true rfl, Nat.le_of_ble_eq_true rfl⟩) (fun r7 u H locs hr7 hw => ?_)
    subst hr7
    have hw : WS D A s [(t, .inr (5, [.int (nI n), .ref w])), (w, .inl (Z 0, 9, .inl (aI z)))] H locs := hw
    refine q_topi (x := nI (wt z n (i + 1))) (y := nI (z (i + 1))) (congrArg nI (wt_in (by omega))) ?_
    refine lv_aload_n hx hb dX5_trend_36 rfl (lv_at hl 4 rfl) ?_
    refine lv_iload_n hx hb dX5_trend_37 rfl (lv_at hl 1 rfl) ?_
    refine q_iconst (v := 1) hx hb dX5_trend_38 (by decide) ?_
    refine q_isub hx hb (by omega) dX5_trend_39 ?_
    refine q_topi (x := nI (i + 2 - 1)) (y := nI (i + 1)) (congrArg nI (by omega)) ?_
    refine q_calli (S := Unit) (Z := Z) (D := D) (wc := [(t, .inr (5, [.int (nI n), .ref w])), (w, .inl (Z 0, 9, .inl (aI z)))]) (wr := []) (rest := [.int (nI (z (i + 1)))]) hw hA [0, 1] [] rfl rfl rfl rfl (by decide) (fun hPc hDc => va_runV (As := [.int (nI (i + 1))]) (rest := [.int (nI (z (i + 1)))]) ⟨hx, hb, hml, hown, hts⟩ (c_X5_left l D Z H.size t w n z (i + 1) (by first | assumption | omega) (by first | assumption | omega)) (cwV 1 hts gX5_trend_X5_left rfl rfl rfl (by decide +kernel) ⟨Nat.le_of_ble_eq_true rfl, Nat.le_of_ble_eq_true rfl⟩) ⟨fb_cPre, va_recv hK.1 hPc (ci := 5) (q0 := 0) rfl rfl, pre_of hPc hK hDc⟩ rfl rfl hl.1 rfl (lv_room (Nat.le_of_ble_eq_true rfl)) dX5_trend_40 ⟨Nat.le_of_ble_eq_true rfl, Nat.le_of_ble_eq_true rfl⟩) (fun r8 u H locs hr8 hw => ?_)
    subst hr8
    have hw : WS D A s [(t, .inr (5, [.int (nI n), .ref w])), (w, .inl (Z 0, 9, .inl (aI z)))] H locs := hw
    refine q_imul hx hb dX5_trend_43 ?_
    refine lv_istore (lv' := [(5, .int (nI ((z (i + 1)) * (lf z n (i + 1))))), (4, .int (nI ((z (i + 2)) * (lf z n i)))), (3, .int (nI (i + 2))), (2, .int (nI (fln z n i))), (1, .int (nI (rsn z n i))), (0, .ref t)]) hx hb dX5_trend_44 hl (by decide) rfl (fun ls hl => ?_)
    refine q_join (D := D) (A := A) (σ := Unit) (nL := 6) 62 (fun (x : Unit) => True) (fun (x : Unit) => [(t, .inr (5, [.int (nI n), .ref w])), (w, .inl (Z 0, 9, .inl (aI z)))]) (fun (x : Unit) => [(0, .ref t), (2, .int (nI (fln z n i))), (3, .int (nI (i + 2))), (4, .int (nI ((z (i + 2)) * (lf z n i)))), (5, .int (nI ((z (i + 1)) * (lf z n (i + 1)))))]) (fun (x : Unit) => [.int (nI (rsn z n (i + 1)))]) ?_ ?_
    · --
      intro x H locs ls hj62 hw hl
      try dsimp only at hj62 hw hl ⊢
      have hw : WS D A s [(t, .inr (5, [.int (nI n), .ref w])), (w, .inl (Z 0, 9, .inl (aI z)))] H locs := hw
      have hl : lv_has ls 6 [(0, .ref t), (2, .int (nI (fln z n i))), (3, .int (nI (i + 2))), (4, .int (nI ((z (i + 2)) * (lf z n i)))), (5, .int (nI ((z (i + 1)) * (lf z n (i + 1)))))] := hl
      refine lv_istore_n (lv' := [(1, .int (nI (rsn z n (i + 1)))), (0, .ref t), (2, .int (nI (fln z n i))), (3, .int (nI (i + 2))), (4, .int (nI ((z (i + 2)) * (lf z n i)))), (5, .int (nI ((z (i + 1)) * (lf z n (i + 1)))))]) hx hb dX5_trend_62 rfl hl (by decide) rfl (fun ls hl => ?_)
      refine q_join (D := D) (A := A) (σ := Unit) (nL := 6) 87 (fun (x : Unit) => True) (fun (x : Unit) => [(t, .inr (5, [.int (nI n), .ref w])), (w, .inl (Z 0, 9, .inl (aI z)))]) (fun (x : Unit) => [(0, .ref t), (1, .int (nI (rsn z n (i + 1)))), (3, .int (nI (i + 2)))]) (fun (x : Unit) => [.int (nI (fln z n (i + 1)))]) ?_ ?_
      · --
        intro x H locs ls hj87 hw hl
        try dsimp only at hj87 hw hl ⊢
        have hw : WS D A s [(t, .inr (5, [.int (nI n), .ref w])), (w, .inl (Z 0, 9, .inl (aI z)))] H locs := hw
        have hl : lv_has ls 6 [(0, .ref t), (1, .int (nI (rsn z n (i + 1)))), (3, .int (nI (i + 2)))] := hl
        refine lv_istore_n (lv' := [(2, .int (nI (fln z n (i + 1)))), (0, .ref t), (1, .int (nI (rsn z n (i + 1)))), (3, .int (nI (i + 2)))]) hx hb dX5_trend_87 rfl hl (by decide) rfl (fun ls hl => ?_)
        refine lv_iinc (v := nI (i + 2 + 1)) (lv' := [(3, .int (nI (i + 2 + 1))), (2, .int (nI (fln z n (i + 1)))), (0, .ref t), (1, .int (nI (rsn z n (i + 1))))]) hx hb dX5_trend_88 hl (k := 3) rfl (nI_add _ _) (by decide) rfl (fun ls hl => ?_)
        refine lv_goto (tgt := 6) hx hb dX5_trend_91 (by decide) ?_
        exact ih6 (i + 1) H locs ls (by omega) (by omega) hw (lv_sub hl [0, 1, 3, 2] rfl)
      · --
        intro jn87
        refine lv_iload_n hx hb dX5_trend_63 rfl (lv_at hl 2 rfl) ?_
        refine q_if_eq (tgt := 86) hx hb ((fln z n i : Nat) : Int) (nI_toInt (by omega)) dX5_trend_64 (by decide) (fun c9 => ?_) (fun c9 => ?_)
        · --
          refine q_iconst (v := 0) hx hb dX5_trend_86 (by decide) ?_
          refine q_topi (x := nI 0) (y := nI (fln z n (i + 1))) (congrArg nI (by simp only [fln]; first | rw [bb_t (by omega)] | rw [bb_f (by omega)])) ?_
          exact jn87 () H locs ls trivial hw (lv_sub hl [1, 0, 3] rfl)
        · --
          refine lv_iload hx hb dX5_trend_67 (lv_at hl 4 rfl) ?_
          refine lv_iload hx hb dX5_trend_69 (lv_at hl 5 rfl) ?_
          refine q_icmp_le (tgt := 82) hx hb (((z (i + 2)) * (lf z n i) : Nat) : Int) (((z (i + 1)) * (lf z n (i + 1)) : Nat) : Int) (nI_toInt (by omega)) (nI_toInt (by omega)) dX5_trend_71 (by decide) (fun c10 => ?_) (fun c10 => ?_)
          · --
            refine q_iconst (v := 1) hx hb dX5_trend_82 (by decide) ?_
            refine lv_goto (tgt := 87) hx hb dX5_trend_83 (by decide) ?_
            refine q_topi (x := nI 1) (y := nI (fln z n (i + 1))) (congrArg nI (by simp only [fln]; first | rw [bb_t (by omega)] | rw [bb_f (by omega)])) ?_
            exact jn87 () H locs ls trivial hw (lv_sub hl [1, 0, 3] rfl)
          · --
            refine lv_iload_n hx hb dX5_trend_74 rfl (lv_at hl 3 rfl) ?_
            refine lv_aload_n hx hb dX5_trend_75 rfl (lv_at hl 1 rfl) ?_
            refine q_get (v := .int (nI n)) (ci := 5) hx hb hts in_X5 hown hK hw 0 0 wd1 dX5_trend_76 rfl rfl (by decide) rfl ?_
            refine q_icmp_ne (tgt := 86) hx hb ((i + 2 : Nat) : Int) ((n : Nat) : Int) (nI_toInt (by omega)) (nI_toInt (by omega)) dX5_trend_79 (by decide) (fun c11 => ?_) (fun c11 => ?_)
            · --
              refine q_iconst (v := 0) hx hb dX5_trend_86 (by decide) ?_
              refine q_topi (x := nI 0) (y := nI (fln z n (i + 1))) (congrArg nI (by simp only [fln]; first | rw [bb_t (by omega)] | rw [bb_f (by omega)])) ?_
              exact jn87 () H locs ls trivial hw (lv_sub hl [1, 0, 3] rfl)
            · --
              refine q_iconst (v := 1) hx hb dX5_trend_82 (by decide) ?_
              refine lv_goto (tgt := 87) hx hb dX5_trend_83 (by decide) ?_
              refine q_topi (x := nI 1) (y := nI (fln z n (i + 1))) (congrArg nI (by simp only [fln]; first | rw [bb_t (by omega)] | rw [bb_f (by omega)])) ?_
              exact jn87 () H locs ls trivial hw (lv_sub hl [1, 0, 3] rfl)
    · --
      intro jn62
      have b2 := b2 (by omega)
      have b3 := b3 (by omega)
      refine lv_iload_n hx hb dX5_trend_46 rfl (lv_at hl 4 rfl) ?_
      refine q_if_eq (tgt := 61) hx hb ((rsn z n i : Nat) : Int) (nI_toInt (by omega)) dX5_trend_47 (by decide) (fun c12 => ?_) (fun c12 => ?_)
      · --
        refine q_iconst (v := 0) hx hb dX5_trend_61 (by decide) ?_
        refine q_topi (x := nI 0) (y := nI (rsn z n (i + 1))) (congrArg nI (by simp only [rsn]; first | rw [bb_t (by omega)] | rw [bb_f (by omega)])) ?_
        exact jn62 () H locs ls trivial hw (lv_sub hl [5, 3, 2, 1, 0] rfl)
      · --
        refine lv_iload hx hb dX5_trend_50 (lv_at hl 1 rfl) ?_
        refine lv_iload hx hb dX5_trend_52 (lv_at hl 0 rfl) ?_
        refine q_icmp_lt (tgt := 61) hx hb (((z (i + 2)) * (lf z n i) : Nat) : Int) (((z (i + 1)) * (lf z n (i + 1)) : Nat) : Int) (nI_toInt (by omega)) (nI_toInt (by omega)) dX5_trend_54 (by decide) (fun c13 => ?_) (fun c13 => ?_)
        · --
          refine q_iconst (v := 0) hx hb dX5_trend_61 (by decide) ?_
          refine q_topi (x := nI 0) (y := nI (rsn z n (i + 1))) (congrArg nI (by simp only [rsn]; first | rw [bb_t (by omega)] | rw [bb_f (by omega)])) ?_
          exact jn62 () H locs ls trivial hw (lv_sub hl [5, 3, 2, 1, 0] rfl)
        · --
          refine q_iconst (v := 1) hx hb dX5_trend_57 (by decide) ?_
          refine lv_goto (tgt := 62) hx hb dX5_trend_58 (by decide) ?_
          refine q_topi (x := nI 1) (y := nI (rsn z n (i + 1))) (congrArg nI (by simp only [rsn]; first | rw [bb_t (by omega)] | rw [bb_f (by omega)])) ?_
          exact jn62 () H locs ls trivial hw (lv_sub hl [5, 3, 2, 1, 0] rfl)
