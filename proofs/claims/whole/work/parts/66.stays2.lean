/-! texts: the row that stood there before doesn't matter -/
theorem va_ag {n x : Nat} {z y : Nat → Nat} (h : Ag n z y) : Ag (n + 1) (va_up z (n + 1) x) (va_up y (n + 1) x) := by
  intro k h1 h2
  by_cases e : k = n + 1
  · subst e; rw [va_up_eq, va_up_eq]
  · rw [va_up_other _ _ e, va_up_other _ _ e]; exact h k h1 (by omega)
theorem scW_base (L : Nat → Nat) (sz : Nat) : ∀ (r n : Nat) (z y : Nat → Nat) (a la lb : Nat), Ag n z y → 0 < r →
    (scW L sz r n z a la).1 = (scW L sz r n y a lb).1 ∧ (scW L sz r n z a la).2.1 = (scW L sz r n y a lb).2.1 ∧ Ag (scW L sz r n z a la).2.1 (scW L sz r n z a la).2.2.1 (scW L sz r n y a lb).2.2.1 ∧ (scW L sz r n z a la).2.2.2.1 = (scW L sz r n y a lb).2.2.2.1 ∧ ((scW L sz r n z a la).1 = 1 → (scW L sz r n z a la).2.2.2.2 = (scW L sz r n y a lb).2.2.2.2) := by
  intro r; induction r with
  | zero => intro n z y a la lb _ h; omega
  | succ r ih =>
    intro n z y a la lb hag _
    by_cases h : fgr (ltr L sz (sk L sz a)) ∧ lf z n 0 + (ltr L sz (sk L sz a) - 48) ≤ 24
    · have h' : fgr (ltr L sz (sk L sz a)) ∧ lf y n 0 + (ltr L sz (sk L sz a) - 48) ≤ 24 := by rw [← lf_ag hag]; exact h
      by_cases h2 : ltr L sz (sk L sz (sk L sz a + 1)) = 44 ∧ r ≠ 0
      · rw [scW_n rfl h.1 h.2 h2.1 h2.2, scW_n rfl h'.1 h'.2 h2.1 h2.2]
        exact ih _ _ _ _ _ _ (va_ag hag) (by omega)
      · rw [scW_e rfl h.1 h.2 h2, scW_e rfl h'.1 h'.2 h2]
        exact ⟨rfl, rfl, va_ag hag, rfl, fun _ => rfl⟩
    · have h' : ¬ (fgr (ltr L sz (sk L sz a)) ∧ lf y n 0 + (ltr L sz (sk L sz a) - 48) ≤ 24) := by rw [← lf_ag hag]; exact h
      rw [scW_f rfl h, scW_f rfl h']
      exact ⟨rfl, rfl, hag, rfl, fun q => by cases q⟩
abbrev WT := Nat × Nat × (Nat → Nat) × Nat × Nat
def wSame (A B : WT) : Prop := A.1 = B.1 ∧ A.2.1 = B.2.1 ∧ Ag A.2.1 A.2.2.1 B.2.2.1 ∧ A.2.2.2.1 = B.2.2.2.1 ∧ (A.1 = 1 → A.2.2.2.2 = B.2.2.2.2)
theorem wSame.symm {A B : WT} (h : wSame A B) : wSame B A := by
  obtain ⟨h1, h2, h3, h4, h5⟩ := h
  exact ⟨h1.symm, h2.symm, by rw [← h2]; exact h3.symm, h4.symm, fun q => (h5 (h1.trans q)).symm⟩
theorem prs_same {L : Nat → Nat} {sz : Nat} {A B : WT} (h : wSame A B) (hn : A.1 = 1 → 1 ≤ A.2.1) (q : prsOk L sz A) : prsOk L sz B := by
  obtain ⟨h1, h2, h3, h4, h5⟩ := h
  obtain ⟨q1, q2, q3⟩ := q
  refine ⟨by rw [← h1]; exact q1, by rw [← h4]; exact q2, ?_⟩
  rw [← h2, ← h3 _ (hn q1) (Nat.le_refl _)]; exact q3
theorem pl_same {L : Nat → Nat} {sz : Nat} {A B : WT} (h : wSame A B) (hA : A.1 = 0 ∨ A.1 = 1) : prsPl L sz A = prsPl L sz B := by
  obtain ⟨h1, h2, h3, h4, h5⟩ := h
  unfold prsPl
  rw [← h1, ← h4]
  rcases hA with q | q
  · rw [if_pos q, if_pos q]
  · rw [h5 q]
theorem scW_01 (L : Nat → Nat) (sz : Nat) : ∀ (r n : Nat) (z : Nat → Nat) (a la : Nat), (scW L sz r n z a la).1 = 0 ∨ (scW L sz r n z a la).1 = 1 := by
  intro r; induction r with
  | zero => intro n z a la; exact Or.inr rfl
  | succ r ih =>
    intro n z a la
    by_cases h : fgr (ltr L sz (sk L sz a)) ∧ lf z n 0 + (ltr L sz (sk L sz a) - 48) ≤ 24
    · by_cases h2 : ltr L sz (sk L sz (sk L sz a + 1)) = 44 ∧ r ≠ 0
      · rw [scW_n rfl h.1 h.2 h2.1 h2.2]; exact ih _ _ _ _
      · rw [scW_e rfl h.1 h.2 h2]; exact Or.inr rfl
    · rw [scW_f rfl h]; exact Or.inl rfl
theorem scC_le {L : Nat → Nat} {sz a : Nat} (ha : a ≤ sz) : (scC L sz a).2.1 ≤ 99 ∧ (scC L sz a).2.2.1 ≤ 99 := by
  have n1 := scN_le (L := L) ha
  have k1 := sk_le (L := L) n1.1
  unfold scC
  by_cases c1 : (scN L sz a).1 = 0
  · rw [if_pos c1]; exact ⟨Nat.zero_le _, Nat.zero_le _⟩
  · rw [if_neg c1]
    by_cases c2 : (scN L sz a).2.1 = 0
    · rw [if_pos c2]; exact ⟨Nat.zero_le _, Nat.zero_le _⟩
    · rw [if_neg c2]
      by_cases c3 : ltr L sz (sk L sz (scN L sz a).2.2) ≠ 44
      · rw [if_pos c3]; exact ⟨Nat.zero_le _, Nat.zero_le _⟩
      · rw [if_neg c3]
        have l3 := ltr_lt' (L := L) (sz := sz) (a := sk L sz (scN L sz a).2.2) (by omega)
        have n2 := scN_le (L := L) (sz := sz) (a := sk L sz (scN L sz a).2.2 + 1) (by omega)
        by_cases c4 : (scN L sz (sk L sz (scN L sz a).2.2 + 1)).1 = 0
        · rw [if_pos c4]; exact ⟨Nat.zero_le _, Nat.zero_le _⟩
        · rw [if_neg c4]
          by_cases c5 : sk L sz (scN L sz (sk L sz (scN L sz a).2.2 + 1)).2.2 = sz
          · rw [if_pos c5]; exact ⟨n1.2, n2.2⟩
          · rw [if_neg c5]; exact ⟨Nat.zero_le _, Nat.zero_le _⟩
theorem rw8_lay {p z y : Nat → Nat} {n : Nat} (hn : n ≤ 8) (h : Ag n z y) {q : Nat} (w : Nat → Nat) (hw : ∀ k, 9 ≤ k → w k = p k) : (if 1 ≤ q ∧ q ≤ 8 then (if q ≤ n then z q else 0) else if q = 0 then n else p q) = (if q = 0 then n else lay y n 8 w q) := by
  by_cases c : 1 ≤ q ∧ q ≤ 8
  · rw [if_pos c, if_neg (show ¬ q = 0 by omega)]; unfold lay; rw [if_pos c]
    by_cases d : q ≤ n
    · rw [if_pos d, if_pos d, h q c.1 d]
    · rw [if_neg d, if_neg d]
  · rw [if_neg c]
    by_cases e : q = 0
    · rw [if_pos e, if_pos e]
    · rw [if_neg e, if_neg e]; unfold lay; rw [if_neg c, hw q (by omega)]
theorem up4 (w : Nat → Nat) (n F G q : Nat) : va_up (va_up (va_up (va_up w 0 n) 9 F) 10 G) 13 0 q = if q = 13 then 0 else if q = 10 then G else if q = 9 then F else if q = 0 then n else w q := rfl
theorem up2 (w : Nat → Nat) (n q : Nat) : va_up (va_up w 0 n) 13 0 q = if q = 13 then 0 else if q = 0 then n else w q := rfl
theorem read_row {L : Nat → Nat} {sz : Nat} {A B : WT} {p z : Nat → Nat} (h : wSame A B) (hn : 1 ≤ A.2.1 ∧ A.2.1 ≤ 8) (q : Nat) : rw8 (rdP L sz A p) A.2.2.1 q = rdM L sz B (rw8 p z) q := by
  obtain ⟨h1, h2, h3, h4, h5⟩ := h
  unfold rdP rdM
  rw [← h4, ← h2]
  have hw : ∀ k, 9 ≤ k → rw8 p z k = p k := fun k hk => rw8_p (Or.inr hk)
  have e := rw8_lay (p := p) hn.2 h3 (q := q) (rw8 p z) hw
  by_cases c : A.2.2.2.1 < sz
  · rw [if_pos c, if_pos c, rw8_v, up4, up4, up4]
    show (if 1 ≤ q ∧ q ≤ 8 then (if q ≤ A.2.1 then A.2.2.1 q else 0) else _) = _
    by_cases d : 9 ≤ q
    · rw [if_neg (show ¬ (1 ≤ q ∧ q ≤ 8) by omega), if_neg (show ¬ q = 0 by omega), if_neg (show ¬ q = 0 by omega)]
      rw [if_neg (show ¬ (1 ≤ q ∧ q ≤ 8) by omega), if_neg (show ¬ q = 0 by omega), if_neg (show ¬ q = 0 by omega)] at e
      rw [e]
    · rw [if_neg (show ¬ q = 13 by omega), if_neg (show ¬ q = 10 by omega), if_neg (show ¬ q = 9 by omega), if_neg (show ¬ q = 13 by omega), if_neg (show ¬ q = 10 by omega), if_neg (show ¬ q = 9 by omega)]
      exact e
  · rw [if_neg c, if_neg c, rw8_v, up2, up2, up4]
    show (if 1 ≤ q ∧ q ≤ 8 then (if q ≤ A.2.1 then A.2.2.1 q else 0) else _) = _
    by_cases d : 9 ≤ q
    · rw [if_neg (show ¬ (1 ≤ q ∧ q ≤ 8) by omega), if_neg (show ¬ q = 0 by omega), if_neg (show ¬ q = 0 by omega)]
      rw [if_neg (show ¬ (1 ≤ q ∧ q ≤ 8) by omega), if_neg (show ¬ q = 0 by omega), if_neg (show ¬ q = 0 by omega)] at e
      rw [← e]
      by_cases d1 : q = 13
      · rw [if_pos d1, if_pos d1]
      · rw [if_neg d1, if_neg d1]
        by_cases d2 : q = 10
        · rw [if_pos d2, d2]; rfl
        · rw [if_neg d2]
          by_cases d3 : q = 9
          · rw [if_pos d3, d3]; rfl
          · rw [if_neg d3]
    · rw [if_neg (show ¬ q = 13 by omega), if_neg (show ¬ q = 13 by omega), if_neg (show ¬ q = 10 by omega), if_neg (show ¬ q = 9 by omega)]
      exact e
theorem PI_read {L : Nat → Nat} {sz la : Nat} {y p z : Nat → Nat} (h : PI p z) (q : prsOk L sz (scW L sz 8 0 y 0 la)) : PI (rdP L sz (scW L sz 8 0 y 0 la) p) (scW L sz 8 0 y 0 la).2.2.1 := by
  obtain ⟨w1, w2, w3, w4, w5⟩ := scW_ok (L := L) (sz := sz) (z := y) (a := 0) (la := la) (Nat.zero_le _) (by rw [lf_end (Nat.le_refl _)]; omega) q.1
  obtain ⟨h0, h1, h2, h3, h4, h5, h6, h7⟩ := h
  have q3 := q.2.2
  generalize scW L sz 8 0 y 0 la = W at *
  by_cases c : W.2.2.2.1 < sz
  · have k := scC_le (L := L) (sz := sz) (a := W.2.2.2.1 + 1) (by omega)
    rw [rdP_t c]
    exact ⟨⟨w1, w2⟩, w5, Nat.pos_of_ne_zero q3, k.1, k.2, h5, h6, w1⟩
  · rw [rdP_f c]
    exact ⟨⟨w1, w2⟩, w5, Nat.pos_of_ne_zero q3, h3, h4, h5, h6, w1⟩
/-- DRIFT, step by step -/
theorem drift_two {kn : Nat} {ps zs : Nat → Nat → Nat} {p z g : Nat → Nat} (h : IA kn ps zs p z g) : ∀ i, (dsm kn (rw8 p z) g i).1 = (dst kn ps zs p z i).1 ∧ (dsm kn (rw8 p z) g i).2.1 = rw8 (dst kn ps zs p z i).2.2.2.1 (dst kn ps zs p z i).2.2.2.2 ∧ IA (dst kn ps zs p z i).1 (dst kn ps zs p z i).2.1 (dst kn ps zs p z i).2.2.1 (dst kn ps zs p z i).2.2.2.1 (dst kn ps zs p z i).2.2.2.2 (dsm kn (rw8 p z) g i).2.2 := by
  intro i; induction i with
  | zero => exact ⟨rfl, rfl, h⟩
  | succ i ih =>
    obtain ⟨i1, i2, i3⟩ := ih
    have tr := turn_rw i3.1
    refine ⟨?_, ?_, ?_⟩
    · show min ((dsm kn (rw8 p z) g i).1 + 1) 6 = min ((dst kn ps zs p z i).1 + 1) 6; rw [i1]
    · show tmP (dsm kn (rw8 p z) g i).2.1 = rw8 (tnp _ _) (tnz _ _); rw [i2, tr.2]
    · have k := IA_push i3 tr.1
      rw [← i2, ← i1] at k
      show IA (min ((dst kn ps zs p z i).1 + 1) 6) (pushv (dst kn ps zs p z i).2.1 (dst kn ps zs p z i).1 (dst kn ps zs p z i).2.2.2.1) (pushv (dst kn ps zs p z i).2.2.1 (dst kn ps zs p z i).1 (dst kn ps zs p z i).2.2.2.2) (tnp (dst kn ps zs p z i).2.2.2.2 (dst kn ps zs p z i).2.2.2.1) (tnz (dst kn ps zs p z i).2.2.2.2 (dst kn ps zs p z i).2.2.2.1) (ntG (dsm kn (rw8 p z) g i).2.2 (dsm kn (rw8 p z) g i).2.1 (dsm kn (rw8 p z) g i).1)
      rw [i2, i1]; rw [i2, i1] at k; exact k
/-- the image -/
def IB (kp ikn : Nat) (ips izs : Nat → Nat → Nat) (ip iz im ig : Nat → Nat) (ima : Int32) : Prop := (kp = 0 ∧ ima = (-1)) ∨ (kp = 1 ∧ ima = nI ikn ∧ IA ikn ips izs ip iz ig ∧ ∀ k, k < 18 → im k = rw8 ip iz k)
theorem IA_ext {kn : Nat} {ps zs : Nat → Nat → Nat} {p z g g' : Nat → Nat} (h : IA kn ps zs p z g) (hg : ∀ k, k < 108 → g' k = g k) : IA kn ps zs p z g' := by
  obtain ⟨h1, h2, h3, h4⟩ := h
  exact ⟨h1, h2, fun i hi j hj => by rw [hg _ (by omega)]; exact h3 i hi j hj, h4⟩
theorem cpy_all (f g : Nat → Nat) {n k : Nat} (hk : k < n) : va_cpy f g 0 0 n k = f k := by
  simp only [va_cpy]; rw [if_pos (by omega)]; congr 1; omega
/-- SHEETS: those that both sides hold -/
def ID (th la le : Nat → Nat) (fs : Nat → Nat → Int64) (it : Nat → Int64) : Prop := (∀ s, th s ≤ 1) ∧ (∀ s, la s ≤ 3) ∧ (∀ s, le s ≤ 24) ∧ ∀ s, s < 4 → ∀ k, k < le s → fs s k = it (24 * s + k)
theorem lob_s {la v : Nat} (hl : la ≤ 3) (hv : v ≤ 24) : lob la (lN v) = lN v := by
  rcases (show la = 0 ∨ la = 1 ∨ la = 2 ∨ la = 3 by omega) with rfl | rfl | rfl | rfl
  · have : ∀ v, v ≤ 24 → lob 0 (lN v) = lN v := by decide
    exact this v hv
  · have : ∀ v, v ≤ 24 → lob 1 (lN v) = lN v := by decide
    exact this v hv
  · have : ∀ v, v ≤ 24 → lob 2 (lN v) = lN v := by decide
    exact this v hv
  · rfl
theorem fmF_v {la : Nat} {z : Nat → Nat} {f : Nat → Int64} {y : Nat} (hl : la ≤ 3) : ∀ c, (∀ k, 1 ≤ k → k ≤ c → z k ≤ 24) → ∀ k, fmF la z f y c k = if y ≤ k ∧ k < y + c then lN (z (k - y + 1)) else f k := by
  intro c; induction c with
  | zero => intro _ k; rw [if_neg (by omega)]; rfl
  | succ c ih =>
    intro hz k
    show (if k = y + c then lob la (lN (z (c + 1))) else fmF la z f y c k) = _
    by_cases e : k = y + c
    · rw [if_pos e, if_pos (by omega), lob_s hl (hz (c + 1) (by omega) (by omega)), show k - y + 1 = c + 1 by omega]
    · rw [if_neg e, ih (fun j h1 h2 => hz j h1 (by omega)) k]
      by_cases q : y ≤ k ∧ k < y + c
      · rw [if_pos q, if_pos (by omega)]
      · rw [if_neg q, if_neg (by omega)]
theorem fmM_v {p : Nat → Nat} {f : Nat → Int64} {y : Nat} : ∀ c k, fmM p f y c k = if y ≤ k ∧ k < y + c then lN (p (k - y + 1)) else f k := by
  intro c; induction c with
  | zero => intro k; rw [if_neg (by omega)]; rfl
  | succ c ih =>
    intro k
    show (if k = y + c then lN (p (c + 1)) else fmM p f y c k) = _
    by_cases e : k = y + c
    · rw [if_pos e, if_pos (by omega), show k - y + 1 = c + 1 by omega]
    · rw [if_neg e, ih k]
      by_cases q : y ≤ k ∧ k < y + c
      · rw [if_pos q, if_pos (by omega)]
      · rw [if_neg q, if_neg (by omega)]
