/-! the two rows: what both sides make of WEIGHTS that are the same up to n -/
def rw8 (p z : Nat → Nat) : Nat → Nat := lay z (p 0) 8 p
theorem rw8_p {p z : Nat → Nat} {k : Nat} (h : k = 0 ∨ 9 ≤ k) : rw8 p z k = p k := if_neg (by omega)
theorem rw8_z {p z : Nat → Nat} {k : Nat} (h : 1 ≤ k ∧ k ≤ p 0) (hn : p 0 ≤ 8) : rw8 p z k = z k := by unfold rw8 lay; rw [if_pos (by omega), if_pos h.2]
theorem rw8_o {p z : Nat → Nat} {k : Nat} (h : p 0 < k ∧ k ≤ 8) : rw8 p z k = 0 := by unfold rw8 lay; rw [if_pos (by omega), if_neg (by omega)]
def Ag (n : Nat) (z y : Nat → Nat) : Prop := ∀ k, 1 ≤ k → k ≤ n → z k = y k
theorem Ag.symm {n : Nat} {z y : Nat → Nat} (h : Ag n z y) : Ag n y z := fun k h1 h2 => (h k h1 h2).symm
theorem ag_rw {p z : Nat → Nat} (hn : p 0 ≤ 8) : Ag (p 0) z (rw8 p z) := fun _ h1 h2 => (rw8_z ⟨h1, h2⟩ hn).symm
theorem lf_ag {n : Nat} {z y : Nat → Nat} (h : Ag n z y) (j : Nat) : lf z n j = lf y n j := lf_ext (fun k h1 h2 => h k (by omega) h2)
theorem sv_ag {n : Nat} {z y : Nat → Nat} (h : Ag n z y) (a : Nat) : sv z n a = sv y n a := by
  induction a with
  | zero => rfl
  | succ a ih => simp only [sv]; rw [ih, lf_ag h]
theorem ct_ag {n : Nat} {z y : Nat → Nat} (h : Ag n z y) (f c a : Nat) : ct z n f c a = ct y n f c a := by unfold ct; rw [lf_ag h, lf_ag h]
theorem bst_ag {n : Nat} {z y : Nat → Nat} (h : Ag n z y) (f c i : Nat) : bst z n f c i = bst y n f c i := by
  induction i with
  | zero => rfl
  | succ i ih => rw [bst_s, bst_s, ih, ct_ag h, ct_ag h, sv_ag h, sv_ag h]
theorem ba_ag {n : Nat} {z y : Nat → Nat} (h : Ag n z y) (f c : Nat) : ba z n f c = ba y n f c := bst_ag h f c _
theorem rsn_ag {n : Nat} {z y : Nat → Nat} (h : Ag n z y) : ∀ i, i + 1 ≤ n → rsn z n i = rsn y n i := by
  intro i; induction i with
  | zero => intro _; rfl
  | succ i ih => intro hi; simp only [rsn]; rw [ih (by omega), h (i + 1) (by omega) (by omega), h (i + 2) (by omega) (by omega), lf_ag h, lf_ag h]
theorem fln_ag {n : Nat} {z y : Nat → Nat} (h : Ag n z y) : ∀ i, i + 1 ≤ n → fln z n i = fln y n i := by
  intro i; induction i with
  | zero => intro _; rfl
  | succ i ih => intro hi; simp only [fln]; rw [ih (by omega), h (i + 1) (by omega) (by omega), h (i + 2) (by omega) (by omega), lf_ag h, lf_ag h]
theorem eRow_ag {n : Nat} {z y : Nat → Nat} (h : Ag n z y) (al : Nat) (G : Nat → Nat) (t : Nat) : ∀ c, c ≤ n → eRow z al G t c = eRow y al G t c := by
  intro c; induction c with
  | zero => intro _; rfl
  | succ c ih => intro hc; simp only [eRow]; rw [ih (by omega), h (c + 1) (by omega) hc]
theorem eT_ag {n : Nat} {z y : Nat → Nat} (h : Ag n z y) (v : Nat → Nat) : ∀ T, eT z n T v = eT y n T v := by
  intro T; induction T with
  | zero => rfl
  | succ T ih => simp only [eT]; rw [ih, lf_ag h, eRow_ag h _ _ _ _ (Nat.min_le_right _ _)]
theorem kpf_ag {n : Nat} {z y : Nat → Nat} (h : Ag n z y) (f : Nat) (C : Nat → Nat) (sc : Nat) {k : Nat} (hk : k < n) : kpf z n f C sc k = kpf y n f C sc k := by unfold kpf; rw [h (k + 1) (by omega) (by omega), lf_ag h]
theorem rpf_ag {n : Nat} {z y : Nat → Nat} (h : Ag n z y) (hn : 1 ≤ n) (f c : Nat) (C : Nat → Nat) (sc : Nat) : rpf z n f c C sc = rpf y n f c C sc := by unfold rpf; rw [kpf_ag h f C sc hn, lf_ag h]
theorem cpf_ag {n : Nat} {z y : Nat → Nat} (h : Ag n z y) (hn : 1 ≤ n) (f c : Nat) (C : Nat → Nat) (sc : Nat) {k : Nat} (hk : k < n) : cpf z n f c C sc k = cpf y n f c C sc k := by unfold cpf; rw [kpf_ag h f C sc hk, rpf_ag h hn, lf_ag h]
theorem seg_c {g g' K : Nat → Nat} {n : Nat} (h : ∀ k, k < n → g k = g' k) : seg g n K = seg g' n K := by
  funext k; unfold seg; by_cases q : k < n
  · rw [if_pos q, if_pos q, h k q]
  · rw [if_neg q, if_neg q]
theorem cT_ag {n : Nat} {z y : Nat → Nat} (h : Ag n z y) (hn : 1 ≤ n) (f c : Nat) : ∀ t, cT z n f c t = cT y n f c t := by
  intro t; induction t with
  | zero => rfl
  | succ t ih => simp only [cT]; rw [ih, lf_ag h]; exact seg_c (fun k hk => cpf_ag h hn f c _ _ hk)
theorem kT_ag {n : Nat} {z y : Nat → Nat} (h : Ag n z y) (hn : 1 ≤ n) (f c : Nat) : ∀ t, kT z n f c t = kT y n f c t := by
  intro t; induction t with
  | zero => rfl
  | succ t ih => simp only [kT]; rw [ih, cT_ag h hn, lf_ag h]; exact seg_c (fun k hk => kpf_ag h f _ _ hk)
theorem rT_ag {n : Nat} {z y : Nat → Nat} (h : Ag n z y) (hn : 1 ≤ n) (f c t : Nat) : rT z n f c t = rT y n f c t := by
  cases t with
  | zero => rfl
  | succ t => simp only [rT]; rw [cT_ag h hn, lf_ag h, rpf_ag h hn]
theorem ols_ag {n : Nat} {z y : Nat → Nat} (h : Ag n z y) (f c g : Nat) (P : Nat → Nat → Nat) (t i bn : Nat) : ols z n f c g P t i bn = ols y n f c g P t i bn := by unfold ols; rw [lf_ag h, lf_ag h]
theorem pcs_ag {n : Nat} {z y : Nat → Nat} (h : Ag n z y) (f c g : Nat) : ∀ t, pcs z n f c g t = pcs y n f c g t := by
  intro t; induction t with
  | zero => rfl
  | succ t ih =>
    funext i j
    by_cases q : n ≤ i ∨ n ≤ j
    · rw [pcs_o q, pcs_o q]
    · rw [pcs_i (by omega) (by omega), pcs_i (by omega) (by omega), ih, ols_ag h, ols_ag h, lf_ag h, h (i + 1) (by omega) (by omega), h (j + 1) (by omega) (by omega)]
theorem wgC_ag {n : Nat} {z y : Nat → Nat} (h : Ag n z y) (k v : Int32) : wgC n z k v = wgC n y k v := by
  unfold wgC
  by_cases q : 1 ≤ k.toInt ∧ k.toInt ≤ (n : Int) ∧ 0 ≤ v.toInt ∧ v.toInt ≤ 9
  · rw [h k.toInt.toNat (by omega) (by omega), lf_ag h]
  · rw [if_pos q, if_pos q]
theorem wgOk_ag {n : Nat} {z y : Nat → Nat} (h : Ag n z y) {k v : Int32} (q : wgOk n z k v) : wgOk n y k v := by
  obtain ⟨q, r⟩ := q; refine ⟨q, ?_⟩; rw [← h _ (by omega) (by omega), ← lf_ag h]; exact r
theorem agC_ag {n : Nat} {z y : Nat → Nat} (h : Ag n z y) (v : Int32) : agC n z v = agC n y v := by
  unfold agC
  by_cases q : 1 ≤ v.toInt ∧ v.toInt ≤ 8
  · rw [lf_ag h]
    by_cases r : v.toInt < (n : Int)
    · rw [h v.toInt.toNat (by omega) (by omega)]
    · rw [if_neg (c := v.toInt < (n : Int) ∧ z v.toInt.toNat = 0) (fun f => r f.1), if_neg (c := v.toInt < (n : Int) ∧ y v.toInt.toNat = 0) (fun f => r f.1)]
  · rw [if_pos q, if_pos q]
theorem agOk_ag {n : Nat} {z y : Nat → Nat} (h : Ag n z y) {v : Int32} (q : agOk n z v) : agOk n y v := by
  obtain ⟨q, r1, r2, r3⟩ := q; refine ⟨q, r1, ?_, ?_⟩
  · rw [← lf_ag h]; exact r2
  · intro f; exact r3 ⟨f.1, by rw [h _ (by omega) (by omega)]; exact f.2⟩
theorem aqC_ag {n : Nat} {z y : Nat → Nat} (h : Ag n z y) (k wh : Int32) : aqC n z k wh = aqC n y k wh := by
  unfold aqC
  by_cases q : 1 ≤ k.toInt ∧ k.toInt ≤ (n : Int) ∧ 0 ≤ wh.toInt ∧ wh.toInt ≤ 3
  · rw [h k.toInt.toNat (by omega) (by omega), lf_ag h, lf_ag h]
  · rw [if_pos q, if_pos q]
theorem mnC_ag {n : Nat} {z y : Nat → Nat} (h : Ag n z y) (wh : Int32) : mnC n z wh = mnC n y wh := by unfold mnC; rw [sv_ag h, lf_ag h]
theorem rtC_ag {n : Nat} {z y : Nat → Nat} (h : Ag n z y) (f c : Nat) (k wh : Int32) : rtC n z f c k wh = rtC n y f c k wh := by unfold rtC; rw [sv_ag h, ct_ag h]
theorem lsC_ag {n : Nat} {z y : Nat → Nat} (h : Ag n z y) (hn : 1 ≤ n) (f c : Nat) (t i wh : Int32) : lsC n z f c t i wh = lsC n y f c t i wh := by unfold lsC; rw [lf_ag h, lf_ag h, rT_ag h hn, kT_ag h hn, cT_ag h hn]
theorem prC_ag {n : Nat} {z y : Nat → Nat} (h : Ag n z y) (f c : Nat) (g t wh : Int32) : prC n z f c g t wh = prC n y f c g t wh := by unfold prC; rw [pcs_ag h, lf_ag h]
/-- FAILS, scaled once and scaled each time -/
theorem fr_scale (a b q : Nat) {c : Nat} (hc : 0 < c) : fr (a * c) (b * c) q = fr a b q := by
  rw [fr_told, fr_told, (red_scale a b hc).1, (red_scale a b hc).2]
theorem eRow_fRow {y : Nat → Nat} {al t : Nat} {G F : Nat → Nat} (ha : 0 < al) (ht : 1 ≤ t ∧ t ≤ 10) (hG : ∀ k, k < t → G k = F k * al ^ (10 - k)) : ∀ c, c ≤ t → eRow y al G t c = fRow y al F t c * al ^ (10 - t) := by
  intro c; induction c with
  | zero => intro _; simp only [eRow, fRow, Nat.zero_mul]
  | succ c ih =>
    intro hc
    simp only [eRow, fRow]
    rw [ih (by omega), hG (t - (c + 1)) (by omega), Nat.add_mul]
    congr 1
    have e1 : al ^ 10 = al ^ (t - 1) * al ^ (10 - t) * al := by rw [← Nat.pow_add, ← Nat.pow_succ]; congr 1; omega
    have e2 : al ^ (10 - (t - (c + 1))) = al ^ c * al ^ (10 - t) * al := by rw [← Nat.pow_add, ← Nat.pow_succ]; congr 1; omega
    rw [e1, e2, ← Nat.mul_assoc (F (t - (c + 1))), ← Nat.add_mul, Nat.mul_div_cancel _ ha, Nat.mul_assoc (y (c + 1)), Nat.add_mul, Nat.mul_assoc (F (t - (c + 1)))]
theorem eT_fT {y v v8 : Nat → Nat} {n : Nat} (ha : 0 < lf y n 0) (hv : v 0 = 0) : ∀ T, T ≤ 10 → ∀ k, k ≤ T → eT y n T v k = fT y n T v8 k * lf y n 0 ^ (10 - k) := by
  intro T; induction T with
  | zero =>
    intro _ k hk
    rw [Nat.le_zero.mp hk]
    show v 0 = va_up v8 0 0 0 * _
    rw [hv, va_up_eq, Nat.zero_mul]
  | succ T ih =>
    intro hT k hk
    simp only [eT, fT]
    by_cases q : k = T + 1
    · rw [q, va_up_eq, va_up_eq]
      exact eRow_fRow ha ⟨by omega, hT⟩ (fun j hj => ih (by omega) j (by omega)) _ (Nat.min_le_left _ _)
    · rw [va_up_other _ _ q, va_up_other _ _ q]
      exact ih (by omega) k (by omega)
theorem flC_flD {z y v v8 : Nat → Nat} {n : Nat} (h : Ag n z y) (ha : 0 < lf y n 0) (hv : v 0 = 0) (k wh : Int32) : flC n z v k wh = flD n y v8 k wh := by
  unfold flC flD
  by_cases q : 0 ≤ k.toInt ∧ k.toInt ≤ 10 ∧ ¬ sid wh
  · rw [eT_ag h, lf_ag h, eT_fT (v8 := v8) ha hv 10 (by decide) _ (by omega), show lf y n 0 ^ 10 = lf y n 0 ^ k.toInt.toNat * lf y n 0 ^ (10 - k.toInt.toNat) from by rw [← Nat.pow_add]; congr 1; omega, fr_scale _ _ _ (Nat.pow_pos ha)]
  · rw [if_pos q, if_pos q]
theorem bkc_bkd {y v v8 : Nat → Nat} {j : Nat} (ha : 0 < lf y (y 0) 0) (hv : v 0 = 0) (hj : j ≤ 10) : bkc (y 9) (y 10) (eT y (y 0) 10 v) (lf y (y 0) 0 ^ 10) j = bkd y (fT y (y 0) 10 v8) j * lf y (y 0) 0 ^ (10 - j) := by
  unfold bkc bkd
  rw [eT_fT (v8 := v8) ha hv 10 (by decide) _ hj, Nat.add_mul, Nat.mul_assoc, Nat.mul_assoc, ← Nat.pow_add, show j + (10 - j) = 10 by omega]
theorem blC_blD {z y v v8 : Nat → Nat} (h : Ag (y 0) z y) (ha : 0 < lf y (y 0) 0) (hv : v 0 = 0) (k wh : Int32) : blC (y 0) z (y 9) (y 10) v k wh = blD y v8 k wh := by
  unfold blC blD
  by_cases q : 1 ≤ k.toInt ∧ k.toInt ≤ 10 ∧ ¬ sid wh
  · rw [eT_ag h, lf_ag h, bkc_bkd (v8 := v8) ha hv (by omega), show k.toInt.toNat * lf y (y 0) 0 ^ 10 = k.toInt.toNat * lf y (y 0) 0 ^ k.toInt.toNat * lf y (y 0) 0 ^ (10 - k.toInt.toNat) from by rw [Nat.mul_assoc, ← Nat.pow_add]; congr 2; omega, fr_scale _ _ _ (Nat.pow_pos ha)]
  · rw [if_pos q, if_pos q]
theorem bbs_bbd {y v v8 : Nat → Nat} (ha : 0 < lf y (y 0) 0) (hv : v 0 = 0) : ∀ i, i ≤ 9 → bbs (y 9) (y 10) (eT y (y 0) 10 v) (lf y (y 0) 0 ^ 10) i = bbd y (fT y (y 0) 10 v8) i := by
  intro i; induction i with
  | zero => intro _; rfl
  | succ i ih =>
    intro hi
    rw [bbd_s]
    simp only [bbs]
    rw [ih (by omega)]
    have b0 := bbd_le y (fT y (y 0) 10 v8) i
    generalize bbd y (fT y (y 0) 10 v8) i = b at b0 ⊢
    rw [bkc_bkd (v8 := v8) ha hv (show i + 2 ≤ 10 by omega), bkc_bkd (v8 := v8) (j := b) ha hv (by omega)]
    generalize bkd y (fT y (y 0) 10 v8) (i + 2) = P
    generalize bkd y (fT y (y 0) 10 v8) b = Q
    generalize hal : lf y (y 0) 0 = al at ha ⊢
    have e : P * al ^ (10 - (i + 2)) * b < Q * al ^ (10 - b) * (i + 2) ↔ P * (b * al ^ b) < Q * ((i + 2) * al ^ (i + 2)) := by
      have k1 : P * al ^ (10 - (i + 2)) * b * (al ^ b * al ^ (i + 2)) = P * (b * al ^ b) * al ^ 10 := by
        rw [show al ^ 10 = al ^ (10 - (i + 2)) * al ^ (i + 2) from by rw [← Nat.pow_add]; congr 1; omega]
        simp only [Nat.mul_assoc, Nat.mul_left_comm, Nat.mul_comm]
      have k2 : Q * al ^ (10 - b) * (i + 2) * (al ^ b * al ^ (i + 2)) = Q * ((i + 2) * al ^ (i + 2)) * al ^ 10 := by
        rw [show al ^ 10 = al ^ (10 - b) * al ^ b from by rw [← Nat.pow_add]; congr 1; omega]
        simp only [Nat.mul_assoc, Nat.mul_left_comm, Nat.mul_comm]
      have g1 : 0 < al ^ b * al ^ (i + 2) := Nat.mul_pos (Nat.pow_pos ha) (Nat.pow_pos ha)
      have g2 : 0 < al ^ 10 := Nat.pow_pos ha
      constructor
      · intro q
        have q1 := Nat.mul_lt_mul_of_pos_right q g1
        rw [k1, k2] at q1
        exact Nat.lt_of_mul_lt_mul_right q1
      · intro q
        have q1 := Nat.mul_lt_mul_of_pos_right q g2
        rw [← k1, ← k2] at q1
        exact Nat.lt_of_mul_lt_mul_right q1
    by_cases q : P * (b * al ^ b) < Q * ((i + 2) * al ^ (i + 2))
    · rw [if_pos q, if_pos (e.mpr q)]
    · rw [if_neg q, if_neg (fun f => q (e.mp f))]
theorem fln_fl2 (y : Nat → Nat) (n : Nat) : ∀ i, i + 2 ≤ n → fln y n i = fl2 y n i := by
  intro i; induction i with
  | zero => intro _; rfl
  | succ i ih =>
    intro hi; simp only [fln, fl2]; rw [ih (by omega)]
    exact bb_iff ⟨fun q => ⟨q.1, q.2.resolve_right (by omega)⟩, fun q => ⟨q.1, Or.inl q.2⟩⟩
theorem tr_e (y : Nat → Nat) {n : Nat} (hn : 1 ≤ n) : tr y n = rsn y n (n - 1) + (if fl2 y n (n - 2) = 0 then 0 else 2) := by
  unfold tr
  have e : fln y n (n - 1) = fl2 y n (n - 2) := by
    rcases (show n = 1 ∨ 2 ≤ n by omega) with rfl | h
    · rfl
    · have e1 : n - 1 = (n - 2) + 1 := by omega
      rw [e1]; simp only [fln]; rw [fln_fl2 y n (n - 2) (by omega)]
      have b1 := fl2_le y n (n - 2)
      by_cases q : fl2 y n (n - 2) = 0
      · rw [bb_f (fun f => f.1 q), q]
      · rw [bb_t ⟨q, Or.inr (by omega)⟩]; omega
  rw [e]
  have b1 := fl2_le y n (n - 2)
  by_cases q : fl2 y n (n - 2) = 0
  · rw [if_pos q, q]
  · rw [if_neg q]; omega
