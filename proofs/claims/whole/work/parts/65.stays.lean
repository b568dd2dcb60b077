/-! what stays from call to call: the plan, and what may be UNDONE -/
theorem rw8_v (p z : Nat → Nat) (k : Nat) : rw8 p z k = if 1 ≤ k ∧ k ≤ 8 then (if k ≤ p 0 then z k else 0) else p k := rfl
theorem rw8_upp {p z : Nat → Nat} {j v : Nat} (hj : 9 ≤ j) : rw8 (va_up p j v) z = va_up (rw8 p z) j v := by
  funext k
  rw [rw8_v, va_up_other p v (show 0 ≠ j by omega)]
  by_cases h : k = j
  · subst h; rw [if_neg (by omega), va_up_eq, va_up_eq]
  · rw [va_up_other p v h, va_up_other _ _ h, rw8_v]
theorem rw8_upz {p z : Nat → Nat} {k v : Nat} (h1 : 1 ≤ k ∧ k ≤ p 0) (hn : p 0 ≤ 8) : rw8 p (va_up z k v) = va_up (rw8 p z) k v := by
  funext j
  rw [rw8_v]
  by_cases e : j = k
  · subst e; rw [if_pos (by omega), if_pos h1.2, va_up_eq, va_up_eq]
  · rw [va_up_other z v e, va_up_other _ _ e, rw8_v]
def PI (p z : Nat → Nat) : Prop := (1 ≤ p 0 ∧ p 0 ≤ 8) ∧ lf z (p 0) 0 ≤ 24 ∧ 0 < z (p 0) ∧ p 9 ≤ 99 ∧ p 10 ≤ 99 ∧ p 11 ≤ 8 ∧ p 12 < 2 ^ 31 ∧ p 13 < p 0
theorem PI_rw {p z : Nat → Nat} (h : PI p z) : PI (rw8 p z) (rw8 p z) := by
  obtain ⟨h0, h1, h2, h3⟩ := h
  refine ⟨h0, ?_, ?_, h3⟩
  · show lf (rw8 p z) (p 0) 0 ≤ 24; rw [← lf_ag (ag_rw h0.2)]; exact h1
  · show 0 < rw8 p z (p 0); rw [rw8_z ⟨h0.1, Nat.le_refl _⟩ h0.2]; exact h2
theorem PI_al {p z : Nat → Nat} (h : PI p z) : 0 < lf (rw8 p z) (rw8 p z 0) 0 := lf_pos (PI_rw h).2.2.1 h.1.1
theorem PI_weigh {p z : Nat → Nat} {k v : Int32} (h : PI p z) (q : wgOk (p 0) z k v) : PI (va_up p 13 0) (va_up z k.toInt.toNat v.toInt.toNat) := by
  obtain ⟨h0, h1, h2, h3, h4, h5, h6, h7⟩ := h
  obtain ⟨q1, q2, q3, q4⟩ := q
  have hk : 1 ≤ k.toInt.toNat ∧ k.toInt.toNat ≤ p 0 := ⟨by omega, by omega⟩
  have e := lf_upd (z := z) (n := p 0) (k := k.toInt.toNat) (v := v.toInt.toNat) hk
  have e2 := z_le (z := z) (n := p 0) hk
  refine ⟨h0, ?_, ?_, h3, h4, h5, h6, ?_⟩
  · show lf (va_up z k.toInt.toNat v.toInt.toNat) (p 0) 0 ≤ 24; omega
  · show 0 < va_up z k.toInt.toNat v.toInt.toNat (p 0)
    by_cases c : p 0 = k.toInt.toNat
    · rw [c, va_up_eq]; omega
    · rw [va_up_other _ _ c]; exact h2
  · show 0 < p 0; omega
theorem lf_rz (z : Nat → Nat) (n V : Nat) : ∀ m, n ≤ m → m ≤ V → lf (rz z n V) m 0 = lf z n 0 + (m - n) := by
  intro m; induction m with
  | zero => intro h _; rw [Nat.le_zero.mp h]; rfl
  | succ m ih =>
    intro h hV
    rcases Nat.lt_or_ge m n with q | q
    · obtain rfl : n = m + 1 := by omega
      rw [Nat.sub_self, Nat.add_zero]
      exact lf_ext (fun k _ h2 => by unfold rz; rw [if_neg (by omega)])
    · have e : lf (rz z n V) (m + 1) 0 = lf (rz z n V) m 0 + rz z n V (1 + m) := rfl
      rw [e, ih q (by omega)]
      have e2 : rz z n V (1 + m) = 1 := if_pos (by omega)
      rw [e2]; omega
theorem PI_ages {p z : Nat → Nat} {v : Int32} (h : PI p z) (q : agOk (p 0) z v) : PI (va_up (va_up p 0 v.toInt.toNat) 13 0) (rz z (p 0) v.toInt.toNat) := by
  obtain ⟨h0, h1, h2, h3, h4, h5, h6, h7⟩ := h
  obtain ⟨q1, q2, q3, q4⟩ := q
  refine ⟨⟨?_, ?_⟩, ?_, ?_, h3, h4, h5, h6, ?_⟩
  · show 1 ≤ v.toInt.toNat; omega
  · show v.toInt.toNat ≤ 8; omega
  · show lf (rz z (p 0) v.toInt.toNat) v.toInt.toNat 0 ≤ 24
    rcases Nat.lt_or_ge v.toInt.toNat (p 0) with c | c
    · have e : lf (rz z (p 0) v.toInt.toNat) v.toInt.toNat 0 = lf z v.toInt.toNat 0 := lf_ext (fun k _ h2 => by unfold rz; rw [if_neg (by omega)])
      rw [e]
      exact Nat.le_trans (sm_mono z 1 (Nat.le_of_lt c)) h1
    · rw [lf_rz z (p 0) v.toInt.toNat _ c (Nat.le_refl _)]; omega
  · show 0 < rz z (p 0) v.toInt.toNat v.toInt.toNat
    unfold rz
    by_cases c : p 0 < v.toInt.toNat ∧ v.toInt.toNat ≤ v.toInt.toNat
    · rw [if_pos c]; decide
    · rw [if_neg c]; omega
  · show 0 < v.toInt.toNat; omega
theorem PI_tell {p z : Nat → Nat} {wh v : Int32} (h : PI p z) (q : tlOk p wh v) : PI (va_up p (9 + wh.toInt.toNat) v.toInt.toNat) z := by
  obtain ⟨h0, h1, h2, h3, h4, h5, h6, h7⟩ := h
  obtain ⟨q1, -⟩ := q
  generalize hw : wh.toInt.toNat = j
  generalize hv : v.toInt.toNat = y
  rcases (show j = 0 ∨ j = 1 ∨ j = 2 by omega) with rfl | rfl | rfl
  · exact ⟨h0, h1, h2, show y ≤ 99 by omega, h4, h5, h6, h7⟩
  · exact ⟨h0, h1, h2, h3, show y ≤ 99 by omega, h5, h6, h7⟩
  · exact ⟨h0, h1, h2, h3, h4, show y ≤ 8 by omega, h6, h7⟩
theorem rp_rw {q z y : Nat → Nat} (hag : Ag (q 0) z y) (hg : q 13 < q 0) : rw8 (rp z q) z = rp y (rw8 q z) := by
  have c0 : (dw (q 12) / 65536 % lf z (q 0) (q 13) < z (q 13 + 1)) ↔ (dw (rw8 q z 12) / 65536 % lf y (rw8 q z 0) (rw8 q z 13) < y (rw8 q z 13 + 1)) := by
    show _ ↔ (dw (q 12) / 65536 % lf y (q 0) (q 13) < y (q 13 + 1))
    rw [lf_ag hag, hag (q 13 + 1) (by omega) (by omega)]
  by_cases c1 : dw (q 12) / 65536 % lf z (q 0) (q 13) < z (q 13 + 1)
  · rw [rp_f z q c1, rp_f y _ (c0.mp c1)]
    rw [rw8_upp (by decide), rw8_upp (by decide), rw8_upp (by decide), rw8_upp (by decide), rw8_upp (by decide)]; rfl
  · by_cases c2 : q 11 ≤ q 13 + 1
    · rw [rp_c z q c1 c2, rp_c y _ (fun f => c1 (c0.mpr f)) c2]
      rw [rw8_upp (by decide), rw8_upp (by decide), rw8_upp (by decide), rw8_upp (by decide), rw8_upp (by decide)]; rfl
    · rw [rp_o z q c1 c2, rp_o y _ (fun f => c1 (c0.mpr f)) c2]
      rw [rw8_upp (by decide), rw8_upp (by decide), rw8_upp (by decide)]; rfl
theorem rpN_PI {p z : Nat → Nat} (h : PI p z) : ∀ i, rpI z p (rpN z p i) ∧ (∀ k, k ≤ 11 → rpN z p i k = p k) ∧ rpN z p i 12 < 2 ^ 31 ∧ rw8 (rpN z p i) z = rpN (rw8 p z) (rw8 p z) i := by
  intro i; induction i with
  | zero => exact ⟨⟨rfl, rfl, h.2.2.2.2.2.2.2, Nat.le_refl _⟩, fun _ _ => rfl, h.2.2.2.2.2.2.1, rfl⟩
  | succ i ih =>
    obtain ⟨i1, i2, i3, i4⟩ := ih
    refine ⟨rp_inv h.1 h.2.1 h.2.2.1 i1, fun k hk => ?_, ?_, ?_⟩
    · show rp z (rpN z p i) k = p k; rw [rp_k _ _ hk]; exact i2 k hk
    · show rp z (rpN z p i) 12 < 2 ^ 31; rw [rp_12]; exact dw_lt31 _
    · show rw8 (rp z (rpN z p i)) z = rp (rw8 p z) (rpN (rw8 p z) (rw8 p z) i)
      rw [← i4]
      refine rp_rw ?_ (by rw [i1.1]; exact i1.2.2.1)
      rw [i1.1]; exact ag_rw h.1.2
theorem PI_run {p z : Nat → Nat} (h : PI p z) (i : Nat) : PI (rpN z p i) z := by
  obtain ⟨i1, i2, i3, -⟩ := rpN_PI h i
  obtain ⟨h0, h1, h2, h3, h4, h5, h6, h7⟩ := h
  unfold PI
  rw [i1.1, i2 9 (by decide), i2 10 (by decide), i1.2.1]
  exact ⟨h0, h1, h2, h3, h4, h5, i3, i1.2.2.1⟩
theorem tok_rw {p z : Nat → Nat} (h : PI p z) : tok z p ↔ tok (rw8 p z) (rw8 p z) := by
  have hn := h.1
  have hb : 1 ≤ dw (p 12) / 65536 % p 0 + 1 ∧ dw (p 12) / 65536 % p 0 + 1 ≤ p 0 := ⟨by omega, Nat.mod_lt _ (by omega)⟩
  show _ ↔ (lf (rw8 p z) (p 0) 0 - wt (rw8 p z) (p 0) (dw (p 12) / 65536 % p 0 + 1) + dw (p 12) / 65536 / 8 % 10 ≤ 24 ∧ (dw (p 12) / 65536 % p 0 + 1 ≠ p 0 ∨ dw (p 12) / 65536 / 8 % 10 ≠ 0))
  rw [← lf_ag (ag_rw hn.2), wt_in hb, rw8_z hb hn.2]
  unfold tok
  rw [wt_in hb]
theorem turn_rw {p z : Nat → Nat} (h : PI p z) : PI (tnp z p) (tnz z p) ∧ rw8 (tnp z p) (tnz z p) = tmP (rw8 p z) := by
  have hn := h.1
  have hb : 1 ≤ dw (p 12) / 65536 % p 0 + 1 ∧ dw (p 12) / 65536 % p 0 + 1 ≤ p 0 := ⟨by omega, Nat.mod_lt _ (by omega)⟩
  have hd := dw_lt31 (p 12)
  have hl := tnz_le hn h.2.1
  have hr := tok_rw h
  by_cases c : tok z p
  · rw [tnp_t c, tnz_t c, tmP_t (hr.mp c)]
    rw [tnz_t c] at hl
    obtain ⟨h0, h1, h2, h3, h4, h5, h6, h7⟩ := h
    refine ⟨⟨h0, hl, ?_, h3, h4, h5, hd, by show 0 < p 0; omega⟩, ?_⟩
    · show 0 < va_up z (dw (p 12) / 65536 % p 0 + 1) (dw (p 12) / 65536 / 8 % 10) (p 0)
      by_cases e : p 0 = dw (p 12) / 65536 % p 0 + 1
      · have c2 := c.2
        generalize hK : dw (p 12) / 65536 % p 0 + 1 = K at *
        rw [e, va_up_eq]; omega
      · rw [va_up_other _ _ e]; exact h2
    · rw [rw8_upp (by decide), rw8_upp (by decide), rw8_upz hb hn.2]
      show _ = va_up (va_up (va_up (rw8 p z) 12 (dw (p 12))) (dw (p 12) / 65536 % p 0 + 1) (dw (p 12) / 65536 / 8 % 10)) 13 0
      rw [va_comm (rw8 p z) (i := 12) _ _ (by omega)]
  · rw [tnp_f c, tnz_f c, tmP_f (fun f => c (hr.mpr f))]
    obtain ⟨h0, h1, h2, h3, h4, h5, h6, h7⟩ := h
    exact ⟨⟨h0, h1, h2, h3, h4, h5, hd, h7⟩, rw8_upp (by decide)⟩
def tieG (kn : Nat) (ps zs : Nat → Nat → Nat) (g : Nat → Nat) : Prop := ∀ i, i < kn → ∀ j, j < 18 → g (18 * i + j) = rw8 (ps i) (zs i) j
theorem tieG_push {kn : Nat} {ps zs : Nat → Nat → Nat} {g p z : Nat → Nat} (hk : kn ≤ 6) (h : tieG kn ps zs g) : tieG (min (kn + 1) 6) (pushv ps kn p) (pushv zs kn z) (ntG g (rw8 p z) kn) := by
  intro i hi j hj
  rcases Nat.lt_or_ge kn 6 with q | q
  · have e1 : pushv ps kn p = va_up ps kn p := if_pos q
    have e2 : pushv zs kn z = va_up zs kn z := if_pos q
    rw [ntG_1 q, e1, e2]
    by_cases e : i = kn
    · subst e; rw [va_up_eq, va_up_eq]
      simp only [va_cpy]; rw [if_pos (by omega)]; congr 1; omega
    · rw [va_up_other _ _ e, va_up_other _ _ e, pk_cpy_out (by omega)]; exact h i (by omega) j hj
  · obtain rfl : kn = 6 := by omega
    have e1 : pushv ps 6 p = fun i => if i < 5 then ps (i + 1) else p := if_neg (by omega)
    have e2 : pushv zs 6 z = fun i => if i < 5 then zs (i + 1) else z := if_neg (by omega)
    rw [ntG_2 rfl, e1, e2]
    show _ = rw8 (if i < 5 then ps (i + 1) else p) (if i < 5 then zs (i + 1) else z) j
    by_cases e : i < 5
    · rw [if_pos e, if_pos e, pk_cpy_out (by omega), ← h (i + 1) (by omega) j hj]
      simp only [va_cpy]; rw [if_pos (by omega)]; congr 1; omega
    · rw [if_neg e, if_neg e]
      obtain rfl : i = 5 := by omega
      simp only [va_cpy]; rw [if_pos (by omega)]; congr 1; omega
def IA (kn : Nat) (ps zs : Nat → Nat → Nat) (p z g : Nat → Nat) : Prop := PI p z ∧ kn ≤ 6 ∧ tieG kn ps zs g ∧ ∀ i, i < kn → PI (ps i) (zs i)
theorem IA_push {kn : Nat} {ps zs : Nat → Nat → Nat} {p z g p' z' : Nat → Nat} (h : IA kn ps zs p z g) (h' : PI p' z') : IA (min (kn + 1) 6) (pushv ps kn p) (pushv zs kn z) p' z' (ntG g (rw8 p z) kn) := by
  obtain ⟨h1, h2, h3, h4⟩ := h
  refine ⟨h', Nat.min_le_right _ _, tieG_push h2 h3, fun i hi => ?_⟩
  rcases Nat.lt_or_ge kn 6 with q | q
  · have e1 : pushv ps kn p = va_up ps kn p := if_pos q
    have e2 : pushv zs kn z = va_up zs kn z := if_pos q
    rw [e1, e2]
    by_cases e : i = kn
    · subst e; rw [va_up_eq, va_up_eq]; exact h1
    · rw [va_up_other _ _ e, va_up_other _ _ e]; exact h4 i (by omega)
  · obtain rfl : kn = 6 := by omega
    have e1 : pushv ps 6 p = fun i => if i < 5 then ps (i + 1) else p := if_neg (by omega)
    have e2 : pushv zs 6 z = fun i => if i < 5 then zs (i + 1) else z := if_neg (by omega)
    rw [e1, e2]
    show PI (if i < 5 then ps (i + 1) else p) (if i < 5 then zs (i + 1) else z)
    by_cases e : i < 5
    · rw [if_pos e, if_pos e]; exact h4 (i + 1) (by omega)
    · rw [if_neg e, if_neg e]; exact h1
/-- an act on both sides: refused by both, or done by both -/
theorem sl_two {kn kn' ac' : Nat} {ps zs ps' zs' : Nat → Nat → Nat} {p z g p' z' p8' g8' a a' t t' w w' : Nat → Nat} (h : IA kn ps zs p z g) {Okx Okm : Prop} (h1 : Okx → Okm) (h2 : Okm → Okx) {px zx pm : Nat → Nat} (hPI : Okx → PI px zx) (hrow : Okx → ∀ q, q < 18 → rw8 px zx q = pm q)
    (hx : (¬ Okx ∧ kn' = kn ∧ a' = a ∧ t' = t ∧ w' = w ∧ ps' = ps ∧ zs' = zs ∧ p' = p ∧ z' = z) ∨ (Okx ∧ kn' = min (kn + 1) 6 ∧ a' = rotA a kn ∧ t' = rotA t kn ∧ w' = rotA w kn ∧ ps' = pushv ps kn p ∧ zs' = pushv zs kn z ∧ p' = px ∧ z' = zx))
    (hm : (¬ Okm ∧ ac' = kn ∧ p8' = rw8 p z ∧ g8' = g) ∨ (Okm ∧ ac' = min (kn + 1) 6 ∧ g8' = ntG g (rw8 p z) kn ∧ p8' = pm)) :
    ac' = kn' ∧ IA kn' ps' zs' p' z' g8' ∧ ∀ q, q < 18 → rw8 p' z' q = p8' q := by
  rcases hx with ⟨o, rfl, -, -, -, rfl, rfl, rfl, rfl⟩ | ⟨o, rfl, -, -, -, rfl, rfl, rfl, rfl⟩
  · rcases hm with ⟨-, rfl, rfl, rfl⟩ | ⟨o2, -⟩
    · exact ⟨rfl, h, fun _ _ => rfl⟩
    · exact absurd (h2 o2) o
  · rcases hm with ⟨o2, -⟩ | ⟨-, rfl, rfl, rfl⟩
    · exact absurd (h1 o) o2
    · exact ⟨rfl, IA_push h (hPI o), hrow o⟩
