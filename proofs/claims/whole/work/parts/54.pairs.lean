/-- PAIR by the reference: state 9i+j; what stands below its number -/
def pE (p : Nat → Nat) (h k : Nat) : Nat := if k / 9 < p 0 ∧ k % 9 < p 0 ∧ k / 9 < 3 ∧ k % 9 < 3 then lf p (p 0) 0 ^ (2 * h) * (lf p (p 0) (k / 9) * lf p (p 0) (k % 9)) else 1
def pm1 (p P : Nat → Nat) (T i j : Nat) : Nat := (2 * p 9 * T + P 0) * (p (i + 1) * p (j + 1))
def pm2 (p P : Nat → Nat) (T g i j : Nat) : Nat := if g ≤ j + 1 then ((p 9 + p 10) * T + P 0) * (p (i + 1) * lf p (p 0) (j + 1)) else p 9 * T * (p (i + 1) * lf p (p 0) (j + 1)) + P (j + 1) * p (i + 1) * lf p (p 0) 0
def pm3 (p P : Nat → Nat) (T g i j : Nat) : Nat := if g ≤ i + 1 then ((p 9 + p 10) * T + P 0) * (lf p (p 0) (i + 1) * p (j + 1)) else p 9 * T * (lf p (p 0) (i + 1) * p (j + 1)) + P (9 * (i + 1)) * p (j + 1) * lf p (p 0) 0
def pm4 (p P : Nat → Nat) (i j : Nat) : Nat := P (9 * (i + 1) + j + 1) * (lf p (p 0) 0 * lf p (p 0) 0)
def pmS (p P : Nat → Nat) (T g i j : Nat) : Nat := pm4 p P i j + (pm3 p P T g i j + (pm2 p P T g i j + (pm1 p P T i j + 0)))
def pcm (p : Nat → Nat) (g : Nat) : Nat → Nat → Nat
  | 0 => fun _ => 0
  | h + 1 => fun k => if k / 9 < p 0 ∧ k % 9 < p 0 ∧ k / 9 < 3 ∧ k % 9 < 3 then pmS p (pcm p g h) (lf p (p 0) 0 ^ (2 * (h + 1))) g (k / 9) (k % 9) else 0
theorem pcm_in {p : Nat → Nat} {g h k : Nat} (q : k / 9 < p 0 ∧ k % 9 < p 0 ∧ k / 9 < 3 ∧ k % 9 < 3) : pcm p g (h + 1) k = pmS p (pcm p g h) (lf p (p 0) 0 ^ (2 * (h + 1))) g (k / 9) (k % 9) := if_pos q
theorem pcm_out {p : Nat → Nat} {g h k : Nat} (q : ¬ (k / 9 < p 0 ∧ k % 9 < p 0 ∧ k / 9 < 3 ∧ k % 9 < 3)) : pcm p g h k = 0 := by
  cases h with
  | zero => rfl
  | succ h => exact if_neg q
theorem pE_in {p : Nat → Nat} {h k : Nat} (q : k / 9 < p 0 ∧ k % 9 < p 0 ∧ k / 9 < 3 ∧ k % 9 < 3) : pE p h k = lf p (p 0) 0 ^ (2 * h) * (lf p (p 0) (k / 9) * lf p (p 0) (k % 9)) := if_pos q
theorem pT_e (a h : Nat) : a ^ (2 * (h + 1)) = a ^ (2 * h) * (a * a) := by rw [Nat.mul_add, Nat.pow_add]; show _ * a ^ 2 = _; rw [Nat.pow_two]
theorem pE_0 {p : Nat → Nat} {h : Nat} (hn : 1 ≤ p 0) : pE p h 0 = lf p (p 0) 0 ^ (2 * (h + 1)) := by rw [pT_e]; exact pE_in ⟨hn, hn, by decide, by decide⟩
theorem pE_pos {p : Nat → Nat} (hzn : 0 < p (p 0)) (h k : Nat) : 0 < pE p h k := by
  unfold pE
  by_cases q : k / 9 < p 0 ∧ k % 9 < p 0 ∧ k / 9 < 3 ∧ k % 9 < 3
  · rw [if_pos q]
    exact Nat.mul_pos (Nat.pow_pos (lf_pos hzn (by omega))) (Nat.mul_pos (lf_pos hzn q.1) (lf_pos hzn q.2.1))
  · rw [if_neg q]; decide
theorem pP_le {a h : Nat} (ha : a ≤ 24) (hh : h ≤ 2) : a ^ (2 * h) ≤ 331776 := Nat.le_trans (Nat.pow_le_pow_left ha _) (by rcases (show h = 0 ∨ h = 1 ∨ h = 2 by omega) with rfl | rfl | rfl <;> decide)
theorem pT_le {a h : Nat} (ha : a ≤ 24) (hh : h ≤ 2) : a ^ (2 * (h + 1)) ≤ 191102976 := Nat.le_trans (Nat.pow_le_pow_left ha _) (by rcases (show h = 0 ∨ h = 1 ∨ h = 2 by omega) with rfl | rfl | rfl <;> decide)
theorem pE_le {p : Nat → Nat} {h : Nat} (hal : lf p (p 0) 0 ≤ 24) (hh : h ≤ 2) (k : Nat) : pE p h k ≤ 191102976 := by
  unfold pE
  split
  · exact Nat.mul_le_mul (pP_le hal hh) (Nat.mul_le_mul (Nat.le_trans (lf_anti (Nat.zero_le _)) hal) (Nat.le_trans (lf_anti (Nat.zero_le _)) hal))
  · decide
theorem pf_X {co E V : Nat} (h1 : co ≤ 198) (h2 : E ≤ 191102976) (h3 : V ≤ 1000000000000) : co * E + V < 2 ^ 63 := Nat.lt_of_le_of_lt (Nat.add_le_add (Nat.mul_le_mul h1 h2) h3) (by decide)
theorem pf_Y {co E V ch : Nat} (h1 : co ≤ 198) (h2 : E ≤ 191102976) (h3 : V ≤ 1000000000000) (h4 : ch ≤ 576) : (co * E + V) * ch < 2 ^ 63 := Nat.lt_of_le_of_lt (Nat.mul_le_mul (Nat.add_le_add (Nat.mul_le_mul h1 h2) h3) h4) (by decide)
theorem pf_E {E o : Nat} (h2 : E ≤ 191102976) (h4 : o ≤ 576) : E * o < 2 ^ 63 := Nat.lt_of_le_of_lt (Nat.mul_le_mul h2 h4) (by decide)
theorem rA_0 (b : Nat) : rA 0 b = 0 := Nat.zero_div _
theorem rB_0 {b : Nat} (h : 0 < b) : rB 0 b = 1 := by unfold rB; rw [Nat.gcd_zero_left]; exact Nat.div_self h
/-- the bounds -/
theorem pm1_le {p P : Nat → Nat} {T y B i j : Nat} (hal : lf p (p 0) 0 ≤ 24) (hf : p 9 ≤ 99) (hT : T ≤ y) (hP : ∀ k, P k ≤ B) (hi : i < p 0) (hj : j < p 0) : pm1 p P T i j ≤ 24 * 24 * (198 * y + B) := by
  have z1 : p (i + 1) ≤ 24 := Nat.le_trans (z_le (n := p 0) (by omega)) hal
  have z2 : p (j + 1) ≤ 24 := Nat.le_trans (z_le (n := p 0) (by omega)) hal
  unfold pm1; rw [Nat.mul_comm]
  exact Nat.mul_le_mul (Nat.mul_le_mul z1 z2) (Nat.add_le_add (Nat.mul_le_mul (by omega) hT) (hP 0))
theorem pmx_le {f c T y B V U a b d : Nat} (hf : f ≤ 99) (hc : c ≤ 99) (hT : T ≤ y) (hV : V ≤ B) (hU : U ≤ B) (ha : a ≤ 24) (hb : b ≤ 24) (hd : d ≤ 24) {q : Prop} [Decidable q] : (if q then ((f + c) * T + V) * (a * b) else f * T * (a * b) + U * a * d) ≤ 24 * (24 * (198 * y + B)) := by
  split
  · rw [Nat.mul_comm, ← Nat.mul_assoc]; exact Nat.mul_le_mul (Nat.mul_le_mul ha hb) (Nat.add_le_add (Nat.mul_le_mul (by omega) hT) hV)
  · have h1 : f * T * (a * b) ≤ 99 * y * (24 * 24) := Nat.mul_le_mul (Nat.mul_le_mul hf hT) (Nat.mul_le_mul ha hb)
    have h2 : U * a * d ≤ B * 24 * 24 := Nat.mul_le_mul (Nat.mul_le_mul hU ha) hd
    omega
theorem pm2_le {p P : Nat → Nat} {T y B g i j : Nat} (hal : lf p (p 0) 0 ≤ 24) (hf : p 9 ≤ 99) (hc : p 10 ≤ 99) (hT : T ≤ y) (hP : ∀ k, P k ≤ B) (hi : i < p 0) : pm2 p P T g i j ≤ 24 * (24 * (198 * y + B)) :=
  pmx_le hf hc hT (hP 0) (hP _) (Nat.le_trans (z_le (n := p 0) (by omega)) hal) (Nat.le_trans (lf_anti (Nat.zero_le _)) hal) hal
theorem pm3_le {p P : Nat → Nat} {T y B g i j : Nat} (hal : lf p (p 0) 0 ≤ 24) (hf : p 9 ≤ 99) (hc : p 10 ≤ 99) (hT : T ≤ y) (hP : ∀ k, P k ≤ B) (hj : j < p 0) : pm3 p P T g i j ≤ 24 * (24 * (198 * y + B)) := by
  unfold pm3; rw [Nat.mul_comm (lf p (p 0) (i + 1))]
  exact pmx_le hf hc hT (hP 0) (hP _) (Nat.le_trans (z_le (n := p 0) (by omega)) hal) (Nat.le_trans (lf_anti (Nat.zero_le _)) hal) hal
theorem pm4_le {p P : Nat → Nat} {B i j : Nat} (hal : lf p (p 0) 0 ≤ 24) (hP : ∀ k, P k ≤ B) : pm4 p P i j ≤ 24 * 24 * B := by
  unfold pm4; rw [Nat.mul_comm]; exact Nat.mul_le_mul (Nat.mul_le_mul hal hal) (hP _)
theorem pcm_le {p : Nat → Nat} {g : Nat} (hal : lf p (p 0) 0 ≤ 24) (hf : p 9 ≤ 99) (hc : p 10 ≤ 99) : ∀ h k, pcm p g h k ≤ pB h := by
  intro h
  induction h with
  | zero => intro k; exact Nat.le_refl _
  | succ h ih =>
    intro k
    by_cases q : k / 9 < p 0 ∧ k % 9 < p 0 ∧ k / 9 < 3 ∧ k % 9 < 3
    · rw [pcm_in q]
      have hx : lf p (p 0) 0 ^ (2 * (h + 1)) ≤ 24 ^ (2 * (h + 1)) := Nat.pow_le_pow_left hal _
      have a1 := pm1_le hal hf hx ih q.1 q.2.1
      have a2 := pm2_le (g := g) (j := k % 9) hal hf hc hx ih q.1
      have a3 := pm3_le (g := g) (i := k / 9) hal hf hc hx ih q.2.1
      have a4 := pm4_le (i := k / 9) (j := k % 9) hal ih
      unfold pmS pB
      omega
    · rw [pcm_out q]; exact Nat.zero_le _
theorem pv_le {p : Nat → Nat} {g h : Nat} (hal : lf p (p 0) 0 ≤ 24) (hf : p 9 ≤ 99) (hc : p 10 ≤ 99) (hh : h ≤ 2) (k : Nat) : pcm p g h k ≤ 1000000000000 :=
  Nat.le_trans (pcm_le hal hf hc h k) (by rcases (show h = 0 ∨ h = 1 ∨ h = 2 by omega) with rfl | rfl | rfl <;> decide)
theorem pm1_lt {p : Nat → Nat} {g h i j : Nat} (hal : lf p (p 0) 0 ≤ 24) (hf : p 9 ≤ 99) (hc : p 10 ≤ 99) (hh : h ≤ 2) (hi : i < p 0) (hj : j < p 0) : pm1 p (pcm p g h) (lf p (p 0) 0 ^ (2 * (h + 1))) i j ≤ 1000000000000000 :=
  Nat.le_trans (pm1_le hal hf (pT_le hal hh) (pv_le hal hf hc hh) hi hj) (by decide)
theorem pm2_lt {p : Nat → Nat} {g h i j : Nat} (hal : lf p (p 0) 0 ≤ 24) (hf : p 9 ≤ 99) (hc : p 10 ≤ 99) (hh : h ≤ 2) (hi : i < p 0) (hj : j < p 0) : pm2 p (pcm p g h) (lf p (p 0) 0 ^ (2 * (h + 1))) g i j ≤ 1000000000000000 :=
  Nat.le_trans (pm2_le hal hf hc (pT_le hal hh) (pv_le hal hf hc hh) hi) (by decide)
theorem pm3_lt {p : Nat → Nat} {g h i j : Nat} (hal : lf p (p 0) 0 ≤ 24) (hf : p 9 ≤ 99) (hc : p 10 ≤ 99) (hh : h ≤ 2) (hi : i < p 0) (hj : j < p 0) : pm3 p (pcm p g h) (lf p (p 0) 0 ^ (2 * (h + 1))) g i j ≤ 1000000000000000 :=
  Nat.le_trans (pm3_le hal hf hc (pT_le hal hh) (pv_le hal hf hc hh) hj) (by decide)
theorem pm4_lt {p : Nat → Nat} {g h i j : Nat} (hal : lf p (p 0) 0 ≤ 24) (hf : p 9 ≤ 99) (hc : p 10 ≤ 99) (hh : h ≤ 2) : pm4 p (pcm p g h) i j ≤ 1000000000000000 :=
  Nat.le_trans (pm4_le hal (pv_le hal hf hc hh)) (by decide)
/-- the four terms over one bottom -/
theorem pmq {f A a L V z E : Nat} (h : V = 0 ∨ E = A * (a * L)) : (f * E + V) * (z * L) * (A * (a * a)) = (f * (A * (a * a)) * (z * L) + V * z * a) * E := by
  rcases h with rfl | rfl
  · simp only [Nat.add_zero, Nat.zero_mul, Nat.mul_zero, Nat.mul_add, Nat.mul_assoc, Nat.mul_left_comm, Nat.mul_comm]
  · simp only [Nat.add_mul, Nat.mul_add, Nat.mul_assoc, Nat.mul_left_comm, Nat.mul_comm]
theorem pm1_w {p : Nat → Nat} {g h i j : Nat} (hn : 1 ≤ p 0) : (2 * p 9 * pE p h 0 + pcm p g h 0) * (p (i + 1) * p (j + 1)) * lf p (p 0) 0 ^ (2 * (h + 1)) = pm1 p (pcm p g h) (lf p (p 0) 0 ^ (2 * (h + 1))) i j * pE p h 0 := by rw [pE_0 hn]; rfl
theorem pm2_t {p : Nat → Nat} {g h i j : Nat} (hn : 1 ≤ p 0) (q : g ≤ j + 1) : ((p 9 + p 10) * pE p h 0 + pcm p g h 0) * (p (i + 1) * lf p (p 0) (j + 1)) * lf p (p 0) 0 ^ (2 * (h + 1)) = pm2 p (pcm p g h) (lf p (p 0) 0 ^ (2 * (h + 1))) g i j * pE p h 0 := by
  rw [pE_0 hn]; unfold pm2; rw [if_pos q]
theorem pm3_t {p : Nat → Nat} {g h i j : Nat} (hn : 1 ≤ p 0) (q : g ≤ i + 1) : ((p 9 + p 10) * pE p h 0 + pcm p g h 0) * (lf p (p 0) (i + 1) * p (j + 1)) * lf p (p 0) 0 ^ (2 * (h + 1)) = pm3 p (pcm p g h) (lf p (p 0) 0 ^ (2 * (h + 1))) g i j * pE p h 0 := by
  rw [pE_0 hn]; unfold pm3; rw [if_pos q]
theorem pm2_f {p : Nat → Nat} {g h i j : Nat} (q : ¬ g ≤ j + 1) (h1 : j + 1 < p 0) (h2 : j < 3) : ((p 9 + 0) * pE p h (j + 1) + pcm p g h (j + 1)) * (p (i + 1) * lf p (p 0) (j + 1)) * lf p (p 0) 0 ^ (2 * (h + 1)) = pm2 p (pcm p g h) (lf p (p 0) 0 ^ (2 * (h + 1))) g i j * pE p h (j + 1) := by
  unfold pm2; rw [if_neg q, pT_e]
  refine pmq ?_
  by_cases c : j + 1 < 3
  · refine Or.inr ?_
    rw [pE_in (by omega), show (j + 1) / 9 = 0 by omega, show (j + 1) % 9 = j + 1 by omega]
  · exact Or.inl (pcm_out (by omega))
theorem pm3_f {p : Nat → Nat} {g h i j : Nat} (q : ¬ g ≤ i + 1) (h1 : i + 1 < p 0) (h2 : i < 3) : ((p 9 + 0) * pE p h (9 * (i + 1)) + pcm p g h (9 * (i + 1))) * (lf p (p 0) (i + 1) * p (j + 1)) * lf p (p 0) 0 ^ (2 * (h + 1)) = pm3 p (pcm p g h) (lf p (p 0) 0 ^ (2 * (h + 1))) g i j * pE p h (9 * (i + 1)) := by
  unfold pm3; rw [if_neg q, pT_e, Nat.mul_comm (lf p (p 0) (i + 1)) (p (j + 1))]
  refine pmq ?_
  by_cases c : i + 1 < 3
  · refine Or.inr ?_
    rw [pE_in (by omega), show 9 * (i + 1) / 9 = i + 1 by omega, show 9 * (i + 1) % 9 = 0 by omega, Nat.mul_comm (lf p (p 0) (i + 1))]
  · exact Or.inl (pcm_out (by omega))
theorem pm4_w {p : Nat → Nat} {g h i j : Nat} (hj : j < 8) : (0 * pE p h (9 * (i + 1) + j + 1) + pcm p g h (9 * (i + 1) + j + 1)) * (lf p (p 0) (i + 1) * lf p (p 0) (j + 1)) * lf p (p 0) 0 ^ (2 * (h + 1)) = pm4 p (pcm p g h) i j * pE p h (9 * (i + 1) + j + 1) := by
  unfold pm4
  by_cases c : i + 1 < p 0 ∧ j + 1 < p 0 ∧ i + 1 < 3 ∧ j + 1 < 3
  · rw [pE_in (by omega), show (9 * (i + 1) + j + 1) / 9 = i + 1 by omega, show (9 * (i + 1) + j + 1) % 9 = j + 1 by omega, pT_e]
    simp only [Nat.zero_mul, Nat.zero_add, Nat.mul_assoc, Nat.mul_left_comm, Nat.mul_comm]
  · rw [pcm_out (by omega)]; simp only [Nat.zero_mul, Nat.mul_zero, Nat.zero_add]
set_option maxHeartbeats 4000000 in
set_option maxRecDepth 100000 in
theorem c_X8_pairs (l : Launch) (D : va_G) (Z : Nat → ClassId) (zs0 : Nat) (M : Nat) (mr mi : Nat → Nat) (ima : Int32) (p : Nat → Nat) (pa pb : Nat → Nat) (g h i j : Nat) (hn : 1 ≤ p 0 ∧ p 0 ≤ 8) (hs : lf p (p 0) 0 ≤ 24) (hzn : 0 < p (p 0)) (h9 : p 9 ≤ 99) (h10 : p 10 ≤ 99) (hg : 1 ≤ g ∧ g ≤ p 0) (hh : h ≤ 2) (hij : i < p 0 ∧ j < p 0 ∧ i < 3 ∧ j < 3) (hpa : ∀ k, k < 81 → pa k = rA (pcm p g h k) (pE p h k)) (hpb : ∀ k, k < 81 → pb k = rB (pcm p g h k) (pE p h k)) : cMv l yX8_pairs wsX8_pairs (rmd 4) D Z zs0 [.ref M, .int (nI g), .int (nI i), .int (nI j)] [(M, .inr (8, [.ref (mr 0), .ref (mr 1), .int (nI (mi 2)), .ref (mr 3), .ref (mr 4), .int ima, .ref (mr 6), .int (nI (mi 7)), .ref (mr 8), .ref (mr 9), .ref (mr 10), .long (lN (mi 11)), .long (lN (mi 12)), .ref (mr 13), .ref (mr 14), .ref (mr 15), .ref (mr 16), .ref (mr 17), .ref (mr 18), .int (nI (mi 19)), .ref (mr 20), .ref (mr 21), .ref (mr 22), .ref (mr 23), .long (lN (mi 24)), .long (lN (mi 25)), .int (nI (mi 26)), .int (nI (mi 27)), .ref (mr 28), .int (nI (mi 29)), .int (nI (mi 30)), .int (nI (mi 31)), .int (nI (mi 32))])), (mr 0, .inl (Z 0, 18, .inl (aI p))), (mr 20, .inl (Z 1, 81, .inr (.inl (aL pa)))), (mr 21, .inl (Z 1, 81, .inr (.inl (aL pb))))] (S := Unit) (fun (_ : Unit) => True) (fun (_ : Unit) => [(M, .inr (8, [.ref (mr 0), .ref (mr 1), .int (nI (mi 2)), .ref (mr 3), .ref (mr 4), .int ima, .ref (mr 6), .int (nI (mi 7)), .ref (mr 8), .ref (mr 9), .ref (mr 10), .long (lN (rA (pmS p (pcm p g h) (lf p (p 0) 0 ^ (2 * (h + 1))) g i j) (lf p (p 0) 0 ^ (2 * (h + 1)) * (lf p (p 0) i * lf p (p 0) j)))), .long (lN (rB (pmS p (pcm p g h) (lf p (p 0) 0 ^ (2 * (h + 1))) g i j) (lf p (p 0) 0 ^ (2 * (h + 1)) * (lf p (p 0) i * lf p (p 0) j)))), .ref (mr 13), .ref (mr 14), .ref (mr 15), .ref (mr 16), .ref (mr 17), .ref (mr 18), .int (nI (mi 19)), .ref (mr 20), .ref (mr 21), .ref (mr 22), .ref (mr 23), .long (lN (rA (pmS p (pcm p g h) (lf p (p 0) 0 ^ (2 * (h + 1))) g i j) (lf p (p 0) 0 ^ (2 * (h + 1)) * (lf p (p 0) i * lf p (p 0) j)))), .long (lN (rB (pmS p (pcm p g h) (lf p (p 0) 0 ^ (2 * (h + 1))) g i j) (lf p (p 0) 0 ^ (2 * (h + 1)) * (lf p (p 0) i * lf p (p 0) j)))), .int (nI (mi 26)), .int (nI (mi 27)), .ref (mr 28), .int (nI (mi 29)), .int (nI (mi 30)), .int (nI (mi 31)), .int (nI (mi 32))])), (mr 0, .inl (Z 0, 18, .inl (aI p))), (mr 20, .inl (Z 1, 81, .inr (.inl (aL pa)))), (mr 21, .inl (Z 1, 81, .inr (.inl (aL pb))))]) 0 0 := by
  refine q_open (y := yX8_pairs) (ws := wsX8_pairs) (av := [.ref M, .int (nI g), .int (nI i), .int (nI j)]) (win := [(M, .inr (8, [.ref (mr 0), .ref (mr 1), .int (nI (mi 2)), .ref (mr 3), .ref (mr 4), .int ima, .ref (mr 6), .int (nI (mi 7)), .ref (mr 8), .ref (mr 9), .ref (mr 10), .long (lN (mi 11)), .long (lN (mi 12)), .ref (mr 13), .ref (mr 14), .ref (mr 15), .ref (mr 16), .ref (mr 17), .ref (mr 18), .int (nI (mi 19)), .ref (mr 20), .ref (mr 21), .ref (mr 22), .ref (mr 23), .long (lN (mi 24)), .long (lN (mi 25)), .int (nI (mi 26)), .int (nI (mi 27)), .ref (mr 28), .int (nI (mi 29)), .int (nI (mi 30)), .int (nI (mi 31)), .int (nI (mi 32))])), (mr 0, .inl (Z 0, 18, .inl (aI p))), (mr 20, .inl (Z 1, 81, .inr (.inl (aL pa)))), (mr 21, .inl (Z 1, 81, .inr (.inl (aL pb))))]) (Qc := fun zs0 => cQv D Z zs0 [(M, .inr (8, [.ref (mr 0), .ref (mr 1), .int (nI (mi 2)), .ref (mr 3), .ref (mr 4), .int ima, .ref (mr 6), .int (nI (mi 7)), .ref (mr 8), .ref (mr 9), .ref (mr 10), .long (lN (mi 11)), .long (lN (mi 12)), .ref (mr 13), .ref (mr 14), .ref (mr 15), .ref (mr 16), .ref (mr 17), .ref (mr 18), .int (nI (mi 19)), .ref (mr 20), .ref (mr 21), .ref (mr 22), .ref (mr 23), .long (lN (mi 24)), .long (lN (mi 25)), .int (nI (mi 26)), .int (nI (mi 27)), .ref (mr 28), .int (nI (mi 29)), .int (nI (mi 30)), .int (nI (mi 31)), .int (nI (mi 32))])), (mr 0, .inl (Z 0, 18, .inl (aI p))), (mr 20, .inl (Z 1, 81, .inr (.inl (aL pa)))), (mr 21, .inl (Z 1, 81, .inr (.inl (aL pb))))] (S := Unit) (fun (_ : Unit) => True) (fun (_ : Unit) => [(M, .inr (8, [.ref (mr 0), .ref (mr 1), .int (nI (mi 2)), .ref (mr 3), .ref (mr 4), .int ima, .ref (mr 6), .int (nI (mi 7)), .ref (mr 8), .ref (mr 9), .ref (mr 10), .long (lN (rA (pmS p (pcm p g h) (lf p (p 0) 0 ^ (2 * (h + 1))) g i j) (lf p (p 0) 0 ^ (2 * (h + 1)) * (lf p (p 0) i * lf p (p 0) j)))), .long (lN (rB (pmS p (pcm p g h) (lf p (p 0) 0 ^ (2 * (h + 1))) g i j) (lf p (p 0) 0 ^ (2 * (h + 1)) * (lf p (p 0) i * lf p (p 0) j)))), .ref (mr 13), .ref (mr 14), .ref (mr 15), .ref (mr 16), .ref (mr 17), .ref (mr 18), .int (nI (mi 19)), .ref (mr 20), .ref (mr 21), .ref (mr 22), .ref (mr 23), .long (lN (rA (pmS p (pcm p g h) (lf p (p 0) 0 ^ (2 * (h + 1))) g i j) (lf p (p 0) 0 ^ (2 * (h + 1)) * (lf p (p 0) i * lf p (p 0) j)))), .long (lN (rB (pmS p (pcm p g h) (lf p (p 0) 0 ^ (2 * (h + 1))) g i j) (lf p (p 0) 0 ^ (2 * (h + 1)) * (lf p (p 0) i * lf p (p 0) j)))), .int (nI (mi 26)), .int (nI (mi 27)), .ref (mr 28), .int (nI (mi 29)), .int (nI (mi 30)), .int (nI (mi 31)), .int (nI (mi 32))])), (mr 0, .inl (Z 0, 18, .inl (aI p))), (mr 20, .inl (Z 1, 81, .inr (.inl (aL pa)))), (mr 21, .inl (Z 1, 81, .inr (.inl (aL pb))))])) (cc := cX8_pairs) (maxL := 9) (ret := none) (by decide) rfl (Nat.le_of_ble_eq_true rfl) ?_
  intro pp ee s mm bw mt cd ls A H locs hAe hx hb hr hml hown hmn hts hlocks hA hK hw hl
  have hown : s.vm.findClass RX8 = some mm.cls := hown
  have hl : lv_has ls 9 [(0, .ref M), (1, .int (nI g)), (2, .int (nI i)), (3, .int (nI j))] := hl
  have wd1 := hts (.fieldLink RX8 7 "ReplaceAgesModel" "st" "[I") (List.mem_of_getElem? (i := 1) rfl)
  have wd2 := hts (.fieldLink RX8 174 "ReplaceAgesModel" "sumAbove" "J") (List.mem_of_getElem? (i := 2) rfl)
  have wd3 := hts (.fieldLink RX8 177 "ReplaceAgesModel" "sumBelow" "J") (List.mem_of_getElem? (i := 3) rfl)
  have in_X8 : ∀ w ∈ wsX80, w ∈ wsX8_pairs := fun _ h => List.mem_cons_of_mem _ (List.mem_append_right _ h)
  have hal : 1 ≤ lf p (p 0) 0 ∧ lf p (p 0) 0 ≤ 24 := ⟨lf_pos hzn (by omega), hs⟩
  have l1 := lf_anti (w := p) (n := p 0) (Nat.zero_le i)
  have l2 := lf_anti (w := p) (n := p 0) (Nat.zero_le j)
  have l3 := lf_anti (w := p) (n := p 0) (Nat.zero_le (i + 1))
  have l4 := lf_anti (w := p) (n := p 0) (Nat.zero_le (j + 1))
  have z1 := z_le (z := p) (n := p 0) (k := i + 1) (by omega)
  have z2 := z_le (z := p) (n := p 0) (k := j + 1) (by omega)
  have ho : 0 < lf p (p 0) i * lf p (p 0) j ∧ lf p (p 0) i * lf p (p 0) j < 2 ^ 31 := ⟨Nat.mul_pos (lf_pos hzn (by omega)) (lf_pos hzn (by omega)), Nat.lt_of_le_of_lt (Nat.mul_le_mul (Nat.le_trans l1 hal.2) (Nat.le_trans l2 hal.2)) (by decide)⟩
  have ho2 : lf p (p 0) i * lf p (p 0) j ≤ 576 := Nat.mul_le_mul (Nat.le_trans l1 hal.2) (Nat.le_trans l2 hal.2)
  have hc1 : p (i + 1) * p (j + 1) ≤ 576 := Nat.mul_le_mul (Nat.le_trans z1 hal.2) (Nat.le_trans z2 hal.2)
  have hc2 : p (i + 1) * lf p (p 0) (j + 1) ≤ 576 := Nat.mul_le_mul (Nat.le_trans z1 hal.2) (Nat.le_trans l4 hal.2)
  have hc3 : lf p (p 0) (i + 1) * p (j + 1) ≤ 576 := Nat.mul_le_mul (Nat.le_trans l3 hal.2) (Nat.le_trans z2 hal.2)
  have hc4 : lf p (p 0) (i + 1) * lf p (p 0) (j + 1) ≤ 576 := Nat.mul_le_mul (Nat.le_trans l3 hal.2) (Nat.le_trans l4 hal.2)
  have hT0 : 0 < lf p (p 0) 0 ^ (2 * (h + 1)) := Nat.pow_pos hal.1
  have hT1 : lf p (p 0) 0 ^ (2 * (h + 1)) ≤ 191102976 := pT_le hal.2 hh
  have w1 := pm1_lt (g := g) hal.2 h9 h10 hh hij.1 hij.2.1
  have w2 := pm2_lt (g := g) hal.2 h9 h10 hh hij.1 hij.2.1
  have w3 := pm3_lt (g := g) hal.2 h9 h10 hh hij.1 hij.2.1
  have w4 := pm4_lt (g := g) (i := i) (j := j) hal.2 h9 h10 hh
  refine lv_aload_n hx hb dX8_pairs_0 rfl (lv_at hl 0 rfl) ?_
  refine lv_iload_n hx hb dX8_pairs_1 rfl (lv_at hl 2 rfl) ?_
  refine q_calli (S := Unit) (Z := Z) (D := D) (wc := [(M, .inr (8, [.ref (mr 0), .ref (mr 1), .int (nI (mi 2)), .ref (mr 3), .ref (mr 4), .int ima, .ref (mr 6), .int (nI (mi 7)), .ref (mr 8), .ref (mr 9), .ref (mr 10), .long (lN (mi 11)), .long (lN (mi 12)), .ref (mr 13), .ref (mr 14), .ref (mr 15), .ref (mr 16), .ref (mr 17), .ref (mr 18), .int (nI (mi 19)), .ref (mr 20), .ref (mr 21), .ref (mr 22), .ref (mr 23), .long (lN (mi 24)), .long (lN (mi 25)), .int (nI (mi 26)), .int (nI (mi 27)), .ref (mr 28), .int (nI (mi 29)), .int (nI (mi 30)), .int (nI (mi 31)), .int (nI (mi 32))])), (mr 0, .inl (Z 0, 18, .inl (aI p)))]) (wr := [(mr 20, .inl (Z 1, 81, .inr (.inl (aL pa)))), (mr 21, .inl (Z 1, 81, .inr (.inl (aL pb))))]) (rest := []) hw hA [0, 1] [2, 3] rfl rfl rfl rfl (by decide) (fun hPc hDc => va_runV (As := [.int (nI i)]) (rest := []) ⟨hx, hb, hml, hown, hts⟩ (c_X8_leftOf l D Z H.size M mr mi ima p i hn.2 (by omega)) (cwV 1 hts gX8_pairs_X8_leftOf rfl rfl rfl (by decide +kernel) ⟨Nat.le_of_ble_eq_true rfl, Nat.le_of_ble_eq_true rfl⟩) ⟨fb_cPre, va_recv hK.1 hPc (ci := 8) (q0 := 0) rfl rfl, pre_of hPc hK hDc⟩ rfl rfl hl.1 rfl (lv_room (Nat.le_of_ble_eq_true rfl)) dX8_pairs_2 ⟨Nat.le_of_ble_eq_true rfl, Nat.le_of_ble_eq_true rfl⟩) (fun r1 uu H locs hr1 hw => ?_)
  subst hr1
  have hw : WS D A s [(mr 20, .inl (Z 1, 81, .inr (.inl (aL pa)))), (mr 21, .inl (Z 1, 81, .inr (.inl (aL pb)))), (M, .inr (8, [.ref (mr 0), .ref (mr 1), .int (nI (mi 2)), .ref (mr 3), .ref (mr 4), .int ima, .ref (mr 6), .int (nI (mi 7)), .ref (mr 8), .ref (mr 9), .ref (mr 10), .long (lN (mi 11)), .long (lN (mi 12)), .ref (mr 13), .ref (mr 14), .ref (mr 15), .ref (mr 16), .ref (mr 17), .ref (mr 18), .int (nI (mi 19)), .ref (mr 20), .ref (mr 21), .ref (mr 22), .ref (mr 23), .long (lN (mi 24)), .long (lN (mi 25)), .int (nI (mi 26)), .int (nI (mi 27)), .ref (mr 28), .int (nI (mi 29)), .int (nI (mi 30)), .int (nI (mi 31)), .int (nI (mi 32))])), (mr 0, .inl (Z 0, 18, .inl (aI p)))] H locs := hw
  refine lv_aload_n hx hb dX8_pairs_5 rfl (lv_at hl 0 rfl) ?_
  refine lv_iload_n hx hb dX8_pairs_6 rfl (lv_at hl 3 rfl) ?_
  refine q_calli (S := Unit) (Z := Z) (D := D) (wc := [(M, .inr (8, [.ref (mr 0), .ref (mr 1), .int (nI (mi 2)), .ref (mr 3), .ref (mr 4), .int ima, .ref (mr 6), .int (nI (mi 7)), .ref (mr 8), .ref (mr 9), .ref (mr 10), .long (lN (mi 11)), .long (lN (mi 12)), .ref (mr 13), .ref (mr 14), .ref (mr 15), .ref (mr 16), .ref (mr 17), .ref (mr 18), .int (nI (mi 19)), .ref (mr 20), .ref (mr 21), .ref (mr 22), .ref (mr 23), .long (lN (mi 24)), .long (lN (mi 25)), .int (nI (mi 26)), .int (nI (mi 27)), .ref (mr 28), .int (nI (mi 29)), .int (nI (mi 30)), .int (nI (mi 31)), .int (nI (mi 32))])), (mr 0, .inl (Z 0, 18, .inl (aI p)))]) (wr := [(mr 20, .inl (Z 1, 81, .inr (.inl (aL pa)))), (mr 21, .inl (Z 1, 81, .inr (.inl (aL pb))))]) (rest := [.int (nI (lf p (p 0) i))]) hw hA [2, 3] [0, 1] rfl rfl rfl rfl (by decide) (fun hPc hDc => va_runV (As := [.int (nI j)]) (rest := [.int (nI (lf p (p 0) i))]) ⟨hx, hb, hml, hown, hts⟩ (c_X8_leftOf l D Z H.size M mr mi ima p j hn.2 (by omega)) (cwV 1 hts gX8_pairs_X8_leftOf rfl rfl rfl (by decide +kernel) ⟨Nat.le_of_ble_eq_true rfl, Nat.le_of_ble_eq_true rfl⟩) ⟨fb_cPre, va_recv hK.1 hPc (ci := 8) (q0 := 0) rfl rfl, pre_of hPc hK hDc⟩ rfl rfl hl.1 rfl (lv_room (Nat.le_of_ble_eq_true rfl)) dX8_pairs_7 ⟨Nat.le_of_ble_eq_true rfl, Nat.le_of_ble_eq_true rfl⟩) (fun r2 uu H locs hr2 hw => ?_)
  subst hr2
  have hw : WS D A s [(mr 20, .inl (Z 1, 81, .inr (.inl (aL pa)))), (mr 21, .inl (Z 1, 81, .inr (.inl (aL pb)))), (M, .inr (8, [.ref (mr 0), .ref (mr 1), .int (nI (mi 2)), .ref (mr 3), .ref (mr 4), .int ima, .ref (mr 6), .int (nI (mi 7)), .ref (mr 8), .ref (mr 9), .ref (mr 10), .long (lN (mi 11)), .long (lN (mi 12)), .ref (mr 13), .ref (mr 14), .ref (mr 15), .ref (mr 16), .ref (mr 17), .ref (mr 18), .int (nI (mi 19)), .ref (mr 20), .ref (mr 21), .ref (mr 22), .ref (mr 23), .long (lN (mi 24)), .long (lN (mi 25)), .int (nI (mi 26)), .int (nI (mi 27)), .ref (mr 28), .int (nI (mi 29)), .int (nI (mi 30)), .int (nI (mi 31)), .int (nI (mi 32))])), (mr 0, .inl (Z 0, 18, .inl (aI p)))] H locs := hw
  refine q_imul hx hb dX8_pairs_10 ?_
  refine lv_istore (lv' := [(4, .int (nI ((lf p (p 0) i) * (lf p (p 0) j)))), (0, .ref M), (1, .int (nI g)), (2, .int (nI i)), (3, .int (nI j))]) hx hb dX8_pairs_11 hl (by decide) rfl (fun ls hl => ?_)
  refine lv_aload_n hx hb dX8_pairs_13 rfl (lv_at hl 1 rfl) ?_
  refine q_get (v := .ref (mr 0)) (ci := 8) hx hb hts in_X8 hown hK hw 2 0 wd1 dX8_pairs_14 rfl rfl (by decide) rfl ?_
  refine lv_iload_n hx hb dX8_pairs_17 rfl (lv_at hl 3 rfl) ?_
  refine q_iconst (v := 1) hx hb dX8_pairs_18 (by decide) ?_
  refine q_iadd hx hb dX8_pairs_19 ?_
  refine q_iald hx hb hK hw 3 (by omega) (by omega) dX8_pairs_20 rfl ?_
  refine lv_istore (lv' := [(5, .int (nI (p (i + 1)))), (4, .int (nI ((lf p (p 0) i) * (lf p (p 0) j)))), (0, .ref M), (1, .int (nI g)), (2, .int (nI i)), (3, .int (nI j))]) hx hb dX8_pairs_21 hl (by decide) rfl (fun ls hl => ?_)
  refine lv_aload_n hx hb dX8_pairs_23 rfl (lv_at hl 2 rfl) ?_
  refine q_get (v := .ref (mr 0)) (ci := 8) hx hb hts in_X8 hown hK hw 2 0 wd1 dX8_pairs_24 rfl rfl (by decide) rfl ?_
  refine lv_iload_n hx hb dX8_pairs_27 rfl (lv_at hl 5 rfl) ?_
  refine q_iconst (v := 1) hx hb dX8_pairs_28 (by decide) ?_
  refine q_iadd hx hb dX8_pairs_29 ?_
  refine q_iald hx hb hK hw 3 (by omega) (by omega) dX8_pairs_30 rfl ?_
  refine lv_istore (lv' := [(6, .int (nI (p (j + 1)))), (5, .int (nI (p (i + 1)))), (4, .int (nI ((lf p (p 0) i) * (lf p (p 0) j)))), (0, .ref M), (1, .int (nI g)), (2, .int (nI i)), (3, .int (nI j))]) hx hb dX8_pairs_31 hl (by decide) rfl (fun ls hl => ?_)
  refine lv_aload_n hx hb dX8_pairs_33 rfl (lv_at hl 3 rfl) ?_
  refine lv_iload_n hx hb dX8_pairs_34 rfl (lv_at hl 5 rfl) ?_
  refine q_iconst (v := 1) hx hb dX8_pairs_35 (by decide) ?_
  refine q_iadd hx hb dX8_pairs_36 ?_
  refine q_calli (S := Unit) (Z := Z) (D := D) (wc := [(M, .inr (8, [.ref (mr 0), .ref (mr 1), .int (nI (mi 2)), .ref (mr 3), .ref (mr 4), .int ima, .ref (mr 6), .int (nI (mi 7)), .ref (mr 8), .ref (mr 9), .ref (mr 10), .long (lN (mi 11)), .long (lN (mi 12)), .ref (mr 13), .ref (mr 14), .ref (mr 15), .ref (mr 16), .ref (mr 17), .ref (mr 18), .int (nI (mi 19)), .ref (mr 20), .ref (mr 21), .ref (mr 22), .ref (mr 23), .long (lN (mi 24)), .long (lN (mi 25)), .int (nI (mi 26)), .int (nI (mi 27)), .ref (mr 28), .int (nI (mi 29)), .int (nI (mi 30)), .int (nI (mi 31)), .int (nI (mi 32))])), (mr 0, .inl (Z 0, 18, .inl (aI p)))]) (wr := [(mr 20, .inl (Z 1, 81, .inr (.inl (aL pa)))), (mr 21, .inl (Z 1, 81, .inr (.inl (aL pb))))]) (rest := []) hw hA [2, 3] [0, 1] rfl rfl rfl rfl (by decide) (fun hPc hDc => va_runV (As := [.int (nI (i + 1))]) (rest := []) ⟨hx, hb, hml, hown, hts⟩ (c_X8_leftOf l D Z H.size M mr mi ima p (i + 1) hn.2 (by omega)) (cwV 1 hts gX8_pairs_X8_leftOf rfl rfl rfl (by decide +kernel) ⟨Nat.le_of_ble_eq_true rfl, Nat.le_of_ble_eq_true rfl⟩) ⟨fb_cPre, va_recv hK.1 hPc (ci := 8) (q0 := 0) rfl rfl, pre_of hPc hK hDc⟩ rfl rfl hl.1 rfl (lv_room (Nat.le_of_ble_eq_true rfl)) dX8_pairs_37 ⟨Nat.le_of_ble_eq_true rfl, Nat.le_of_ble_eq_true rfl⟩) (fun r3 uu H locs hr3 hw => ?_)
  subst hr3
  have hw : WS D A s [(mr 20, .inl (Z 1, 81, .inr (.inl (aL pa)))), (mr 21, .inl (Z 1, 81, .inr (.inl (aL pb)))), (M, .inr (8, [.ref (mr 0), .ref (mr 1), .int (nI (mi 2)), .ref (mr 3), .ref (mr 4), .int ima, .ref (mr 6), .int (nI (mi 7)), .ref (mr 8), .ref (mr 9), .ref (mr 10), .long (lN (mi 11)), .long (lN (mi 12)), .ref (mr 13), .ref (mr 14), .ref (mr 15), .ref (mr 16), .ref (mr 17), .ref (mr 18), .int (nI (mi 19)), .ref (mr 20), .ref (mr 21), .ref (mr 22), .ref (mr 23), .long (lN (mi 24)), .long (lN (mi 25)), .int (nI (mi 26)), .int (nI (mi 27)), .ref (mr 28), .int (nI (mi 29)), .int (nI (mi 30)), .int (nI (mi 31)), .int (nI (mi 32))])), (mr 0, .inl (Z 0, 18, .inl (aI p)))] H locs := hw
  refine lv_istore (lv' := [(7, .int (nI (lf p (p 0) (i + 1)))), (6, .int (nI (p (j + 1)))), (5, .int (nI (p (i + 1)))), (4, .int (nI ((lf p (p 0) i) * (lf p (p 0) j)))), (0, .ref M), (1, .int (nI g)), (2, .int (nI i)), (3, .int (nI j))]) hx hb dX8_pairs_40 hl (by decide) rfl (fun ls hl => ?_)
  refine lv_aload_n hx hb dX8_pairs_42 rfl (lv_at hl 4 rfl) ?_
  refine lv_iload_n hx hb dX8_pairs_43 rfl (lv_at hl 7 rfl) ?_
  refine q_iconst (v := 1) hx hb dX8_pairs_44 (by decide) ?_
  refine q_iadd hx hb dX8_pairs_45 ?_
  refine q_calli (S := Unit) (Z := Z) (D := D) (wc := [(M, .inr (8, [.ref (mr 0), .ref (mr 1), .int (nI (mi 2)), .ref (mr 3), .ref (mr 4), .int ima, .ref (mr 6), .int (nI (mi 7)), .ref (mr 8), .ref (mr 9), .ref (mr 10), .long (lN (mi 11)), .long (lN (mi 12)), .ref (mr 13), .ref (mr 14), .ref (mr 15), .ref (mr 16), .ref (mr 17), .ref (mr 18), .int (nI (mi 19)), .ref (mr 20), .ref (mr 21), .ref (mr 22), .ref (mr 23), .long (lN (mi 24)), .long (lN (mi 25)), .int (nI (mi 26)), .int (nI (mi 27)), .ref (mr 28), .int (nI (mi 29)), .int (nI (mi 30)), .int (nI (mi 31)), .int (nI (mi 32))])), (mr 0, .inl (Z 0, 18, .inl (aI p)))]) (wr := [(mr 20, .inl (Z 1, 81, .inr (.inl (aL pa)))), (mr 21, .inl (Z 1, 81, .inr (.inl (aL pb))))]) (rest := []) hw hA [2, 3] [0, 1] rfl rfl rfl rfl (by decide) (fun hPc hDc => va_runV (As := [.int (nI (j + 1))]) (rest := []) ⟨hx, hb, hml, hown, hts⟩ (c_X8_leftOf l D Z H.size M mr mi ima p (j + 1) hn.2 (by omega)) (cwV 1 hts gX8_pairs_X8_leftOf rfl rfl rfl (by decide +kernel) ⟨Nat.le_of_ble_eq_true rfl, Nat.le_of_ble_eq_true rfl⟩) ⟨fb_cPre, va_recv hK.1 hPc (ci := 8) (q0 := 0) rfl rfl, pre_of hPc hK hDc⟩ rfl rfl hl.1 rfl (lv_room (Nat.le_of_ble_eq_true rfl)) dX8_pairs_46 ⟨Nat.le_of_ble_eq_true rfl, Nat.le_of_ble_eq_true rfl⟩) (fun r4 uu H locs hr4 hw => ?_)
  subst hr4
  have hw : WS D A s [(mr 20, .inl (Z 1, 81, .inr (.inl (aL pa)))), (mr 21, .inl (Z 1, 81, .inr (.inl (aL pb)))), (M, .inr (8, [.ref (mr 0), .ref (mr 1), .int (nI (mi 2)), .ref (mr 3), .ref (mr 4), .int ima, .ref (mr 6), .int (nI (mi 7)), .ref (mr 8), .ref (mr 9), .ref (mr 10), .long (lN (mi 11)), .long (lN (mi 12)), .ref (mr 13), .ref (mr 14), .ref (mr 15), .ref (mr 16), .ref (mr 17), .ref (mr 18), .int (nI (mi 19)), .ref (mr 20), .ref (mr 21), .ref (mr 22), .ref (mr 23), .long (lN (mi 24)), .long (lN (mi 25)), .int (nI (mi 26)), .int (nI (mi 27)), .ref (mr 28), .int (nI (mi 29)), .int (nI (mi 30)), .int (nI (mi 31)), .int (nI (mi 32))])), (mr 0, .inl (Z 0, 18, .inl (aI p)))] H locs := hw
  refine lv_istore (lv' := [(8, .int (nI (lf p (p 0) (j + 1)))), (7, .int (nI (lf p (p 0) (i + 1)))), (6, .int (nI (p (j + 1)))), (5, .int (nI (p (i + 1)))), (4, .int (nI ((lf p (p 0) i) * (lf p (p 0) j)))), (0, .ref M), (1, .int (nI g)), (2, .int (nI i)), (3, .int (nI j))]) hx hb dX8_pairs_49 hl (by decide) rfl (fun ls hl => ?_)
  refine lv_aload_n hx hb dX8_pairs_51 rfl (lv_at hl 5 rfl) ?_
  refine q_lconst (v := 0) hx hb dX8_pairs_52 (by decide) ?_
  refine q_topl (x := lN 0) (y := lN (rA 0 (lf p (p 0) 0 ^ (2 * (h + 1)) * (lf p (p 0) i * lf p (p 0) j)))) (congrArg lN ((rA_0 _).symm)) ?_
  refine q_put (v := .long (lN (rA 0 (lf p (p 0) 0 ^ (2 * (h + 1)) * (lf p (p 0) i * lf p (p 0) j))))) (ci := 8) hx hb hts in_X8 tyX8 tyX8_ok nmX8 hown hK hw 2 24 wd2 dX8_pairs_53 rfl rfl (by decide) rfl rfl rfl (Nat.le_of_ble_eq_true rfl) (fun H locs hw => ?_)
  have hw : WS D A s [(mr 20, .inl (Z 1, 81, .inr (.inl (aL pa)))), (mr 21, .inl (Z 1, 81, .inr (.inl (aL pb)))), (M, .inr (8, [.ref (mr 0), .ref (mr 1), .int (nI (mi 2)), .ref (mr 3), .ref (mr 4), .int ima, .ref (mr 6), .int (nI (mi 7)), .ref (mr 8), .ref (mr 9), .ref (mr 10), .long (lN (mi 11)), .long (lN (mi 12)), .ref (mr 13), .ref (mr 14), .ref (mr 15), .ref (mr 16), .ref (mr 17), .ref (mr 18), .int (nI (mi 19)), .ref (mr 20), .ref (mr 21), .ref (mr 22), .ref (mr 23), .long (lN (rA 0 (lf p (p 0) 0 ^ (2 * (h + 1)) * (lf p (p 0) i * lf p (p 0) j)))), .long (lN (mi 25)), .int (nI (mi 26)), .int (nI (mi 27)), .ref (mr 28), .int (nI (mi 29)), .int (nI (mi 30)), .int (nI (mi 31)), .int (nI (mi 32))])), (mr 0, .inl (Z 0, 18, .inl (aI p)))] H locs := hw
  refine lv_aload_n hx hb dX8_pairs_56 rfl (lv_at hl 5 rfl) ?_
  refine q_lconst (v := 1) hx hb dX8_pairs_57 (by decide) ?_
  refine q_topl (x := lN 1) (y := lN (rB 0 (lf p (p 0) 0 ^ (2 * (h + 1)) * (lf p (p 0) i * lf p (p 0) j)))) (congrArg lN ((rB_0 (Nat.mul_pos hT0 ho.1)).symm)) ?_
  refine q_put (v := .long (lN (rB 0 (lf p (p 0) 0 ^ (2 * (h + 1)) * (lf p (p 0) i * lf p (p 0) j))))) (ci := 8) hx hb hts in_X8 tyX8 tyX8_ok nmX8 hown hK hw 2 25 wd3 dX8_pairs_58 rfl rfl (by decide) rfl rfl rfl (Nat.le_of_ble_eq_true rfl) (fun H locs hw => ?_)
  have hw : WS D A s [(mr 20, .inl (Z 1, 81, .inr (.inl (aL pa)))), (mr 21, .inl (Z 1, 81, .inr (.inl (aL pb)))), (M, .inr (8, [.ref (mr 0), .ref (mr 1), .int (nI (mi 2)), .ref (mr 3), .ref (mr 4), .int ima, .ref (mr 6), .int (nI (mi 7)), .ref (mr 8), .ref (mr 9), .ref (mr 10), .long (lN (mi 11)), .long (lN (mi 12)), .ref (mr 13), .ref (mr 14), .ref (mr 15), .ref (mr 16), .ref (mr 17), .ref (mr 18), .int (nI (mi 19)), .ref (mr 20), .ref (mr 21), .ref (mr 22), .ref (mr 23), .long (lN (rA 0 (lf p (p 0) 0 ^ (2 * (h + 1)) * (lf p (p 0) i * lf p (p 0) j)))), .long (lN (rB 0 (lf p (p 0) 0 ^ (2 * (h + 1)) * (lf p (p 0) i * lf p (p 0) j)))), .int (nI (mi 26)), .int (nI (mi 27)), .ref (mr 28), .int (nI (mi 29)), .int (nI (mi 30)), .int (nI (mi 31)), .int (nI (mi 32))])), (mr 0, .inl (Z 0, 18, .inl (aI p)))] H locs := hw
  refine lv_aload_n hx hb dX8_pairs_61 rfl (lv_at hl 5 rfl) ?_
  refine q_iconst (v := 2) hx hb dX8_pairs_62 (by decide) ?_
  refine lv_aload_n hx hb dX8_pairs_63 rfl (lv_at hl 5 rfl) ?_
  refine q_get (v := .ref (mr 0)) (ci := 8) hx hb hts in_X8 hown hK hw 2 0 wd1 dX8_pairs_64 rfl rfl (by decide) rfl ?_
  refine q_bipush (v := 9) hx hb dX8_pairs_67 (by decide) ?_
  refine q_iald hx hb hK hw 3 (by omega) (by omega) dX8_pairs_69 rfl ?_
  refine q_imul hx hb dX8_pairs_70 ?_
  refine q_iconst (v := 0) hx hb dX8_pairs_71 (by decide) ?_
  refine lv_iload hx hb dX8_pairs_72 (lv_at hl 3 rfl) ?_
  refine lv_iload hx hb dX8_pairs_74 (lv_at hl 2 rfl) ?_
  refine q_imul hx hb dX8_pairs_76 ?_
  refine lv_iload hx hb dX8_pairs_77 (lv_at hl 4 rfl) ?_
  refine q_callv (S := Unit) (Z := Z) (D := D) (wc := [(M, .inr (8, [.ref (mr 0), .ref (mr 1), .int (nI (mi 2)), .ref (mr 3), .ref (mr 4), .int ima, .ref (mr 6), .int (nI (mi 7)), .ref (mr 8), .ref (mr 9), .ref (mr 10), .long (lN (mi 11)), .long (lN (mi 12)), .ref (mr 13), .ref (mr 14), .ref (mr 15), .ref (mr 16), .ref (mr 17), .ref (mr 18), .int (nI (mi 19)), .ref (mr 20), .ref (mr 21), .ref (mr 22), .ref (mr 23), .long (lN (rA 0 (lf p (p 0) 0 ^ (2 * (h + 1)) * (lf p (p 0) i * lf p (p 0) j)))), .long (lN (rB 0 (lf p (p 0) 0 ^ (2 * (h + 1)) * (lf p (p 0) i * lf p (p 0) j)))), .int (nI (mi 26)), .int (nI (mi 27)), .ref (mr 28), .int (nI (mi 29)), .int (nI (mi 30)), .int (nI (mi 31)), .int (nI (mi 32))])), (mr 20, .inl (Z 1, 81, .inr (.inl (aL pa)))), (mr 21, .inl (Z 1, 81, .inr (.inl (aL pb))))]) (wr := [(mr 0, .inl (Z 0, 18, .inl (aI p)))]) (rest := []) hw hA [2, 0, 1] [3] rfl rfl rfl rfl (by decide) (fun hPc hDc => va_runV (As := [.int (nI (2 * (p 9))), .int (nI 0), .int (nI ((p (i + 1)) * (p (j + 1)))), .int (nI ((lf p (p 0) i) * (lf p (p 0) j)))]) (rest := []) ⟨hx, hb, hml, hown, hts⟩ (c_X8_adding l D Z H.size M mr (va_up (va_up mi 24 (rA 0 (lf p (p 0) 0 ^ (2 * (h + 1)) * (lf p (p 0) i * lf p (p 0) j)))) 25 (rB 0 (lf p (p 0) 0 ^ (2 * (h + 1)) * (lf p (p 0) i * lf p (p 0) j)))) ima pa pb (2 * (p 9)) 0 ((p (i + 1)) * (p (j + 1))) ((lf p (p 0) i) * (lf p (p 0) j)) (pcm p g h 0) (pE p h 0) (lf p (p 0) 0 ^ (2 * (h + 1))) (pm1 p (pcm p g h) (lf p (p 0) 0 ^ (2 * (h + 1))) i j) 0 (by omega) (by omega) (by omega) ho (pE_pos hzn _ _) hT0 (hpa _ (by omega)) (hpb _ (by omega)) rfl rfl (pm1_w hn.1) (pf_X (by omega) (pE_le hal.2 hh _) (pv_le hal.2 h9 h10 hh _)) (pf_Y (by omega) (pE_le hal.2 hh _) (pv_le hal.2 h9 h10 hh _) (by assumption)) (pf_E (pE_le hal.2 hh _) ho2) (pf_E hT1 ho2) (by omega) (Nat.lt_of_le_of_lt (pE_le hal.2 hh _) (by decide))) (cwV 4 hts gX8_pairs_X8_adding rfl rfl rfl (by decide +kernel) ⟨Nat.le_of_ble_eq_true rfl, Nat.le_of_ble_eq_true rfl⟩) ⟨fb_cPre, va_recv hK.1 hPc (ci := 8) (q0 := 0) rfl rfl, pre_of hPc hK hDc⟩ rfl rfl hl.1 rfl (lv_room (Nat.le_of_ble_eq_true rfl)) dX8_pairs_79 ⟨Nat.le_of_ble_eq_true rfl, Nat.le_of_ble_eq_true rfl⟩) (fun uu H locs hr5 hw => ?_)
  have hw : WS D A s [(mr 0, .inl (Z 0, 18, .inl (aI p))), (M, .inr (8, [.ref (mr 0), .ref (mr 1), .int (nI (mi 2)), .ref (mr 3), .ref (mr 4), .int ima, .ref (mr 6), .int (nI (mi 7)), .ref (mr 8), .ref (mr 9), .ref (mr 10), .long (lN (rA ((pm1 p (pcm p g h) (lf p (p 0) 0 ^ (2 * (h + 1))) i j) + 0) ((lf p (p 0) 0 ^ (2 * (h + 1))) * ((lf p (p 0) i) * (lf p (p 0) j))))), .long (lN (rB ((pm1 p (pcm p g h) (lf p (p 0) 0 ^ (2 * (h + 1))) i j) + 0) ((lf p (p 0) 0 ^ (2 * (h + 1))) * ((lf p (p 0) i) * (lf p (p 0) j))))), .ref (mr 13), .ref (mr 14), .ref (mr 15), .ref (mr 16), .ref (mr 17), .ref (mr 18), .int (nI (mi 19)), .ref (mr 20), .ref (mr 21), .ref (mr 22), .ref (mr 23), .long (lN (rA ((pm1 p (pcm p g h) (lf p (p 0) 0 ^ (2 * (h + 1))) i j) + 0) ((lf p (p 0) 0 ^ (2 * (h + 1))) * ((lf p (p 0) i) * (lf p (p 0) j))))), .long (lN (rB ((pm1 p (pcm p g h) (lf p (p 0) 0 ^ (2 * (h + 1))) i j) + 0) ((lf p (p 0) 0 ^ (2 * (h + 1))) * ((lf p (p 0) i) * (lf p (p 0) j))))), .int (nI (mi 26)), .int (nI (mi 27)), .ref (mr 28), .int (nI (mi 29)), .int (nI (mi 30)), .int (nI (mi 31)), .int (nI (mi 32))])), (mr 20, .inl (Z 1, 81, .inr (.inl (aL pa)))), (mr 21, .inl (Z 1, 81, .inr (.inl (aL pb))))] H locs := hw
  refine q_join (D := D) (A := A) (σ := Nat × Nat) (nL := 9) 123 (fun (x : Nat × Nat) => match x with | (co, sx) => co ≤ 198 ∧ sx < 81 ∧ (co * pE p h sx + pcm p g h sx) * (p (i + 1) * lf p (p 0) (j + 1)) * (lf p (p 0) 0 ^ (2 * (h + 1))) = pm2 p (pcm p g h) (lf p (p 0) 0 ^ (2 * (h + 1))) g i j * pE p h sx) (fun (x : Nat × Nat) => match x with | (co, sx) => [(mr 0, .inl (Z 0, 18, .inl (aI p))), (M, .inr (8, [.ref (mr 0), .ref (mr 1), .int (nI (mi 2)), .ref (mr 3), .ref (mr 4), .int ima, .ref (mr 6), .int (nI (mi 7)), .ref (mr 8), .ref (mr 9), .ref (mr 10), .long (lN (rA ((pm1 p (pcm p g h) (lf p (p 0) 0 ^ (2 * (h + 1))) i j) + 0) ((lf p (p 0) 0 ^ (2 * (h + 1))) * ((lf p (p 0) i) * (lf p (p 0) j))))), .long (lN (rB ((pm1 p (pcm p g h) (lf p (p 0) 0 ^ (2 * (h + 1))) i j) + 0) ((lf p (p 0) 0 ^ (2 * (h + 1))) * ((lf p (p 0) i) * (lf p (p 0) j))))), .ref (mr 13), .ref (mr 14), .ref (mr 15), .ref (mr 16), .ref (mr 17), .ref (mr 18), .int (nI (mi 19)), .ref (mr 20), .ref (mr 21), .ref (mr 22), .ref (mr 23), .long (lN (rA ((pm1 p (pcm p g h) (lf p (p 0) 0 ^ (2 * (h + 1))) i j) + 0) ((lf p (p 0) 0 ^ (2 * (h + 1))) * ((lf p (p 0) i) * (lf p (p 0) j))))), .long (lN (rB ((pm1 p (pcm p g h) (lf p (p 0) 0 ^ (2 * (h + 1))) i j) + 0) ((lf p (p 0) 0 ^ (2 * (h + 1))) * ((lf p (p 0) i) * (lf p (p 0) j))))), .int (nI (mi 26)), .int (nI (mi 27)), .ref (mr 28), .int (nI (mi 29)), .int (nI (mi 30)), .int (nI (mi 31)), .int (nI (mi 32))])), (mr 20, .inl (Z 1, 81, .inr (.inl (aL pa)))), (mr 21, .inl (Z 1, 81, .inr (.inl (aL pb))))]) (fun (x : Nat × Nat) => match x with | (co, sx) => [(0, .ref M), (1, .int (nI g)), (2, .int (nI i)), (3, .int (nI j)), (4, .int (nI ((lf p (p 0) i) * (lf p (p 0) j)))), (5, .int (nI (p (i + 1)))), (6, .int (nI (p (j + 1)))), (7, .int (nI (lf p (p 0) (i + 1)))), (8, .int (nI (lf p (p 0) (j + 1))))]) (fun (x : Nat × Nat) => match x with | (co, sx) => [.int (nI sx), .int (nI co), .ref M]) ?_ ?_
  · --
    intro ⟨co, sx⟩ H locs ls hj123 hw hl
    try dsimp only at hj123 hw hl ⊢
    obtain ⟨j1, j2, j3⟩ := hj123
    have hw : WS D A s [(mr 0, .inl (Z 0, 18, .inl (aI p))), (M, .inr (8, [.ref (mr 0), .ref (mr 1), .int (nI (mi 2)), .ref (mr 3), .ref (mr 4), .int ima, .ref (mr 6), .int (nI (mi 7)), .ref (mr 8), .ref (mr 9), .ref (mr 10), .long (lN (rA ((pm1 p (pcm p g h) (lf p (p 0) 0 ^ (2 * (h + 1))) i j) + 0) ((lf p (p 0) 0 ^ (2 * (h + 1))) * ((lf p (p 0) i) * (lf p (p 0) j))))), .long (lN (rB ((pm1 p (pcm p g h) (lf p (p 0) 0 ^ (2 * (h + 1))) i j) + 0) ((lf p (p 0) 0 ^ (2 * (h + 1))) * ((lf p (p 0) i) * (lf p (p 0) j))))), .ref (mr 13), .ref (mr 14), .ref (mr 15), .ref (mr 16), .ref (mr 17), .ref (mr 18), .int (nI (mi 19)), .ref (mr 20), .ref (mr 21), .ref (mr 22), .ref (mr 23), .long (lN (rA ((pm1 p (pcm p g h) (lf p (p 0) 0 ^ (2 * (h + 1))) i j) + 0) ((lf p (p 0) 0 ^ (2 * (h + 1))) * ((lf p (p 0) i) * (lf p (p 0) j))))), .long (lN (rB ((pm1 p (pcm p g h) (lf p (p 0) 0 ^ (2 * (h + 1))) i j) + 0) ((lf p (p 0) 0 ^ (2 * (h + 1))) * ((lf p (p 0) i) * (lf p (p 0) j))))), .int (nI (mi 26)), .int (nI (mi 27)), .ref (mr 28), .int (nI (mi 29)), .int (nI (mi 30)), .int (nI (mi 31)), .int (nI (mi 32))])), (mr 20, .inl (Z 1, 81, .inr (.inl (aL pa)))), (mr 21, .inl (Z 1, 81, .inr (.inl (aL pb))))] H locs := hw
    have hl : lv_has ls 9 [(0, .ref M), (1, .int (nI g)), (2, .int (nI i)), (3, .int (nI j)), (4, .int (nI ((lf p (p 0) i) * (lf p (p 0) j)))), (5, .int (nI (p (i + 1)))), (6, .int (nI (p (j + 1)))), (7, .int (nI (lf p (p 0) (i + 1)))), (8, .int (nI (lf p (p 0) (j + 1))))] := hl
    refine lv_iload hx hb dX8_pairs_123 (lv_at hl 5 rfl) ?_
    refine lv_iload hx hb dX8_pairs_125 (lv_at hl 8 rfl) ?_
    refine q_imul hx hb dX8_pairs_127 ?_
    refine lv_iload hx hb dX8_pairs_128 (lv_at hl 4 rfl) ?_
    refine q_callv (S := Unit) (Z := Z) (D := D) (wc := [(M, .inr (8, [.ref (mr 0), .ref (mr 1), .int (nI (mi 2)), .ref (mr 3), .ref (mr 4), .int ima, .ref (mr 6), .int (nI (mi 7)), .ref (mr 8), .ref (mr 9), .ref (mr 10), .long (lN (rA ((pm1 p (pcm p g h) (lf p (p 0) 0 ^ (2 * (h + 1))) i j) + 0) ((lf p (p 0) 0 ^ (2 * (h + 1))) * ((lf p (p 0) i) * (lf p (p 0) j))))), .long (lN (rB ((pm1 p (pcm p g h) (lf p (p 0) 0 ^ (2 * (h + 1))) i j) + 0) ((lf p (p 0) 0 ^ (2 * (h + 1))) * ((lf p (p 0) i) * (lf p (p 0) j))))), .ref (mr 13), .ref (mr 14), .ref (mr 15), .ref (mr 16), .ref (mr 17), .ref (mr 18), .int (nI (mi 19)), .ref (mr 20), .ref (mr 21), .ref (mr 22), .ref (mr 23), .long (lN (rA ((pm1 p (pcm p g h) (lf p (p 0) 0 ^ (2 * (h + 1))) i j) + 0) ((lf p (p 0) 0 ^ (2 * (h + 1))) * ((lf p (p 0) i) * (lf p (p 0) j))))), .long (lN (rB ((pm1 p (pcm p g h) (lf p (p 0) 0 ^ (2 * (h + 1))) i j) + 0) ((lf p (p 0) 0 ^ (2 * (h + 1))) * ((lf p (p 0) i) * (lf p (p 0) j))))), .int (nI (mi 26)), .int (nI (mi 27)), .ref (mr 28), .int (nI (mi 29)), .int (nI (mi 30)), .int (nI (mi 31)), .int (nI (mi 32))])), (mr 20, .inl (Z 1, 81, .inr (.inl (aL pa)))), (mr 21, .inl (Z 1, 81, .inr (.inl (aL pb))))]) (wr := [(mr 0, .inl (Z 0, 18, .inl (aI p)))]) (rest := []) hw hA [1, 2, 3] [0] rfl rfl rfl rfl (by decide) (fun hPc hDc => va_runV (As := [.int (nI co), .int (nI sx), .int (nI ((p (i + 1)) * (lf p (p 0) (j + 1)))), .int (nI ((lf p (p 0) i) * (lf p (p 0) j)))]) (rest := []) ⟨hx, hb, hml, hown, hts⟩ (c_X8_adding l D Z H.size M mr (va_up (va_up (va_up (va_up mi 11 (rA ((pm1 p (pcm p g h) (lf p (p 0) 0 ^ (2 * (h + 1))) i j) + 0) ((lf p (p 0) 0 ^ (2 * (h + 1))) * ((lf p (p 0) i) * (lf p (p 0) j))))) 12 (rB ((pm1 p (pcm p g h) (lf p (p 0) 0 ^ (2 * (h + 1))) i j) + 0) ((lf p (p 0) 0 ^ (2 * (h + 1))) * ((lf p (p 0) i) * (lf p (p 0) j))))) 24 (rA ((pm1 p (pcm p g h) (lf p (p 0) 0 ^ (2 * (h + 1))) i j) + 0) ((lf p (p 0) 0 ^ (2 * (h + 1))) * ((lf p (p 0) i) * (lf p (p 0) j))))) 25 (rB ((pm1 p (pcm p g h) (lf p (p 0) 0 ^ (2 * (h + 1))) i j) + 0) ((lf p (p 0) 0 ^ (2 * (h + 1))) * ((lf p (p 0) i) * (lf p (p 0) j))))) ima pa pb co sx ((p (i + 1)) * (lf p (p 0) (j + 1))) ((lf p (p 0) i) * (lf p (p 0) j)) (pcm p g h sx) (pE p h sx) (lf p (p 0) 0 ^ (2 * (h + 1))) (pm2 p (pcm p g h) (lf p (p 0) 0 ^ (2 * (h + 1))) g i j) (pm1 p (pcm p g h) (lf p (p 0) 0 ^ (2 * (h + 1))) i j + 0) (by omega) (by omega) (by omega) ho (pE_pos hzn _ _) hT0 (hpa _ (by omega)) (hpb _ (by omega)) rfl rfl j3 (pf_X (by omega) (pE_le hal.2 hh _) (pv_le hal.2 h9 h10 hh _)) (pf_Y (by omega) (pE_le hal.2 hh _) (pv_le hal.2 h9 h10 hh _) (by assumption)) (pf_E (pE_le hal.2 hh _) ho2) (pf_E hT1 ho2) (by omega) (Nat.lt_of_le_of_lt (pE_le hal.2 hh _) (by decide))) (cwV 4 hts gX8_pairs_X8_adding rfl rfl rfl (by decide +kernel) ⟨Nat.le_of_ble_eq_true rfl, Nat.le_of_ble_eq_true rfl⟩) ⟨fb_cPre, va_recv hK.1 hPc (ci := 8) (q0 := 0) rfl rfl, pre_of hPc hK hDc⟩ rfl rfl hl.1 rfl (lv_room (Nat.le_of_ble_eq_true rfl)) dX8_pairs_130 ⟨Nat.le_of_ble_eq_true rfl, Nat.le_of_ble_eq_true rfl⟩) (fun uu H locs hr6 hw => ?_)
    have hw : WS D A s [(mr 0, .inl (Z 0, 18, .inl (aI p))), (M, .inr (8, [.ref (mr 0), .ref (mr 1), .int (nI (mi 2)), .ref (mr 3), .ref (mr 4), .int ima, .ref (mr 6), .int (nI (mi 7)), .ref (mr 8), .ref (mr 9), .ref (mr 10), .long (lN (rA ((pm2 p (pcm p g h) (lf p (p 0) 0 ^ (2 * (h + 1))) g i j) + (pm1 p (pcm p g h) (lf p (p 0) 0 ^ (2 * (h + 1))) i j + 0)) ((lf p (p 0) 0 ^ (2 * (h + 1))) * ((lf p (p 0) i) * (lf p (p 0) j))))), .long (lN (rB ((pm2 p (pcm p g h) (lf p (p 0) 0 ^ (2 * (h + 1))) g i j) + (pm1 p (pcm p g h) (lf p (p 0) 0 ^ (2 * (h + 1))) i j + 0)) ((lf p (p 0) 0 ^ (2 * (h + 1))) * ((lf p (p 0) i) * (lf p (p 0) j))))), .ref (mr 13), .ref (mr 14), .ref (mr 15), .ref (mr 16), .ref (mr 17), .ref (mr 18), .int (nI (mi 19)), .ref (mr 20), .ref (mr 21), .ref (mr 22), .ref (mr 23), .long (lN (rA ((pm2 p (pcm p g h) (lf p (p 0) 0 ^ (2 * (h + 1))) g i j) + (pm1 p (pcm p g h) (lf p (p 0) 0 ^ (2 * (h + 1))) i j + 0)) ((lf p (p 0) 0 ^ (2 * (h + 1))) * ((lf p (p 0) i) * (lf p (p 0) j))))), .long (lN (rB ((pm2 p (pcm p g h) (lf p (p 0) 0 ^ (2 * (h + 1))) g i j) + (pm1 p (pcm p g h) (lf p (p 0) 0 ^ (2 * (h + 1))) i j + 0)) ((lf p (p 0) 0 ^ (2 * (h + 1))) * ((lf p (p 0) i) * (lf p (p 0) j))))), .int (nI (mi 26)), .int (nI (mi 27)), .ref (mr 28), .int (nI (mi 29)), .int (nI (mi 30)), .int (nI (mi 31)), .int (nI (mi 32))])), (mr 20, .inl (Z 1, 81, .inr (.inl (aL pa)))), (mr 21, .inl (Z 1, 81, .inr (.inl (aL pb))))] H locs := hw
    refine q_join (D := D) (A := A) (σ := Nat × Nat) (nL := 9) 177 (fun (x : Nat × Nat) => match x with | (co, sx) => co ≤ 198 ∧ sx < 81 ∧ (co * pE p h sx + pcm p g h sx) * (lf p (p 0) (i + 1) * p (j + 1)) * (lf p (p 0) 0 ^ (2 * (h + 1))) = pm3 p (pcm p g h) (lf p (p 0) 0 ^ (2 * (h + 1))) g i j * pE p h sx) (fun (x : Nat × Nat) => match x with | (co, sx) => [(mr 0, .inl (Z 0, 18, .inl (aI p))), (M, .inr (8, [.ref (mr 0), .ref (mr 1), .int (nI (mi 2)), .ref (mr 3), .ref (mr 4), .int ima, .ref (mr 6), .int (nI (mi 7)), .ref (mr 8), .ref (mr 9), .ref (mr 10), .long (lN (rA ((pm2 p (pcm p g h) (lf p (p 0) 0 ^ (2 * (h + 1))) g i j) + (pm1 p (pcm p g h) (lf p (p 0) 0 ^ (2 * (h + 1))) i j + 0)) ((lf p (p 0) 0 ^ (2 * (h + 1))) * ((lf p (p 0) i) * (lf p (p 0) j))))), .long (lN (rB ((pm2 p (pcm p g h) (lf p (p 0) 0 ^ (2 * (h + 1))) g i j) + (pm1 p (pcm p g h) (lf p (p 0) 0 ^ (2 * (h + 1))) i j + 0)) ((lf p (p 0) 0 ^ (2 * (h + 1))) * ((lf p (p 0) i) * (lf p (p 0) j))))), .ref (mr 13), .ref (mr 14), .ref (mr 15), .ref (mr 16), .ref (mr 17), .ref (mr 18), .int (nI (mi 19)), .ref (mr 20), .ref (mr 21), .ref (mr 22), .ref (mr 23), .long (lN (rA ((pm2 p (pcm p g h) (lf p (p 0) 0 ^ (2 * (h + 1))) g i j) + (pm1 p (pcm p g h) (lf p (p 0) 0 ^ (2 * (h + 1))) i j + 0)) ((lf p (p 0) 0 ^ (2 * (h + 1))) * ((lf p (p 0) i) * (lf p (p 0) j))))), .long (lN (rB ((pm2 p (pcm p g h) (lf p (p 0) 0 ^ (2 * (h + 1))) g i j) + (pm1 p (pcm p g h) (lf p (p 0) 0 ^ (2 * (h + 1))) i j + 0)) ((lf p (p 0) 0 ^ (2 * (h + 1))) * ((lf p (p 0) i) * (lf p (p 0) j))))), .int (nI (mi 26)), .int (nI (mi 27)), .ref (mr 28), .int (nI (mi 29)), .int (nI (mi 30)), .int (nI (mi 31)), .int (nI (mi 32))])), (mr 20, .inl (Z 1, 81, .inr (.inl (aL pa)))), (mr 21, .inl (Z 1, 81, .inr (.inl (aL pb))))]) (fun (x : Nat × Nat) => match x with | (co, sx) => [(0, .ref M), (1, .int (nI g)), (2, .int (nI i)), (3, .int (nI j)), (4, .int (nI ((lf p (p 0) i) * (lf p (p 0) j)))), (5, .int (nI (p (i + 1)))), (6, .int (nI (p (j + 1)))), (7, .int (nI (lf p (p 0) (i + 1)))), (8, .int (nI (lf p (p 0) (j + 1))))]) (fun (x : Nat × Nat) => match x with | (co, sx) => [.int (nI sx), .int (nI co), .ref M]) ?_ ?_
    · --
      intro ⟨co, sx⟩ H locs ls hj177 hw hl
      try dsimp only at hj177 hw hl ⊢
      obtain ⟨j1, j2, j3⟩ := hj177
      have hw : WS D A s [(mr 0, .inl (Z 0, 18, .inl (aI p))), (M, .inr (8, [.ref (mr 0), .ref (mr 1), .int (nI (mi 2)), .ref (mr 3), .ref (mr 4), .int ima, .ref (mr 6), .int (nI (mi 7)), .ref (mr 8), .ref (mr 9), .ref (mr 10), .long (lN (rA ((pm2 p (pcm p g h) (lf p (p 0) 0 ^ (2 * (h + 1))) g i j) + (pm1 p (pcm p g h) (lf p (p 0) 0 ^ (2 * (h + 1))) i j + 0)) ((lf p (p 0) 0 ^ (2 * (h + 1))) * ((lf p (p 0) i) * (lf p (p 0) j))))), .long (lN (rB ((pm2 p (pcm p g h) (lf p (p 0) 0 ^ (2 * (h + 1))) g i j) + (pm1 p (pcm p g h) (lf p (p 0) 0 ^ (2 * (h + 1))) i j + 0)) ((lf p (p 0) 0 ^ (2 * (h + 1))) * ((lf p (p 0) i) * (lf p (p 0) j))))), .ref (mr 13), .ref (mr 14), .ref (mr 15), .ref (mr 16), .ref (mr 17), .ref (mr 18), .int (nI (mi 19)), .ref (mr 20), .ref (mr 21), .ref (mr 22), .ref (mr 23), .long (lN (rA ((pm2 p (pcm p g h) (lf p (p 0) 0 ^ (2 * (h + 1))) g i j) + (pm1 p (pcm p g h) (lf p (p 0) 0 ^ (2 * (h + 1))) i j + 0)) ((lf p (p 0) 0 ^ (2 * (h + 1))) * ((lf p (p 0) i) * (lf p (p 0) j))))), .long (lN (rB ((pm2 p (pcm p g h) (lf p (p 0) 0 ^ (2 * (h + 1))) g i j) + (pm1 p (pcm p g h) (lf p (p 0) 0 ^ (2 * (h + 1))) i j + 0)) ((lf p (p 0) 0 ^ (2 * (h + 1))) * ((lf p (p 0) i) * (lf p (p 0) j))))), .int (nI (mi 26)), .int (nI (mi 27)), .ref (mr 28), .int (nI (mi 29)), .int (nI (mi 30)), .int (nI (mi 31)), .int (nI (mi 32))])), (mr 20, .inl (Z 1, 81, .inr (.inl (aL pa)))), (mr 21, .inl (Z 1, 81, .inr (.inl (aL pb))))] H locs := hw
      have hl : lv_has ls 9 [(0, .ref M), (1, .int (nI g)), (2, .int (nI i)), (3, .int (nI j)), (4, .int (nI ((lf p (p 0) i) * (lf p (p 0) j)))), (5, .int (nI (p (i + 1)))), (6, .int (nI (p (j + 1)))), (7, .int (nI (lf p (p 0) (i + 1)))), (8, .int (nI (lf p (p 0) (j + 1))))] := hl
      refine lv_iload hx hb dX8_pairs_177 (lv_at hl 7 rfl) ?_
      refine lv_iload hx hb dX8_pairs_179 (lv_at hl 6 rfl) ?_
      refine q_imul hx hb dX8_pairs_181 ?_
      refine lv_iload hx hb dX8_pairs_182 (lv_at hl 4 rfl) ?_
      refine q_callv (S := Unit) (Z := Z) (D := D) (wc := [(M, .inr (8, [.ref (mr 0), .ref (mr 1), .int (nI (mi 2)), .ref (mr 3), .ref (mr 4), .int ima, .ref (mr 6), .int (nI (mi 7)), .ref (mr 8), .ref (mr 9), .ref (mr 10), .long (lN (rA ((pm2 p (pcm p g h) (lf p (p 0) 0 ^ (2 * (h + 1))) g i j) + (pm1 p (pcm p g h) (lf p (p 0) 0 ^ (2 * (h + 1))) i j + 0)) ((lf p (p 0) 0 ^ (2 * (h + 1))) * ((lf p (p 0) i) * (lf p (p 0) j))))), .long (lN (rB ((pm2 p (pcm p g h) (lf p (p 0) 0 ^ (2 * (h + 1))) g i j) + (pm1 p (pcm p g h) (lf p (p 0) 0 ^ (2 * (h + 1))) i j + 0)) ((lf p (p 0) 0 ^ (2 * (h + 1))) * ((lf p (p 0) i) * (lf p (p 0) j))))), .ref (mr 13), .ref (mr 14), .ref (mr 15), .ref (mr 16), .ref (mr 17), .ref (mr 18), .int (nI (mi 19)), .ref (mr 20), .ref (mr 21), .ref (mr 22), .ref (mr 23), .long (lN (rA ((pm2 p (pcm p g h) (lf p (p 0) 0 ^ (2 * (h + 1))) g i j) + (pm1 p (pcm p g h) (lf p (p 0) 0 ^ (2 * (h + 1))) i j + 0)) ((lf p (p 0) 0 ^ (2 * (h + 1))) * ((lf p (p 0) i) * (lf p (p 0) j))))), .long (lN (rB ((pm2 p (pcm p g h) (lf p (p 0) 0 ^ (2 * (h + 1))) g i j) + (pm1 p (pcm p g h) (lf p (p 0) 0 ^ (2 * (h + 1))) i j + 0)) ((lf p (p 0) 0 ^ (2 * (h + 1))) * ((lf p (p 0) i) * (lf p (p 0) j))))), .int (nI (mi 26)), .int (nI (mi 27)), .ref (mr 28), .int (nI (mi 29)), .int (nI (mi 30)), .int (nI (mi 31)), .int (nI (mi 32))])), (mr 20, .inl (Z 1, 81, .inr (.inl (aL pa)))), (mr 21, .inl (Z 1, 81, .inr (.inl (aL pb))))]) (wr := [(mr 0, .inl (Z 0, 18, .inl (aI p)))]) (rest := []) hw hA [1, 2, 3] [0] rfl rfl rfl rfl (by decide) (fun hPc hDc => va_runV (As := [.int (nI co), .int (nI sx), .int (nI ((lf p (p 0) (i + 1)) * (p (j + 1)))), .int (nI ((lf p (p 0) i) * (lf p (p 0) j)))]) (rest := []) ⟨hx, hb, hml, hown, hts⟩ (c_X8_adding l D Z H.size M mr (va_up (va_up (va_up (va_up mi 11 (rA ((pm2 p (pcm p g h) (lf p (p 0) 0 ^ (2 * (h + 1))) g i j) + (pm1 p (pcm p g h) (lf p (p 0) 0 ^ (2 * (h + 1))) i j + 0)) ((lf p (p 0) 0 ^ (2 * (h + 1))) * ((lf p (p 0) i) * (lf p (p 0) j))))) 12 (rB ((pm2 p (pcm p g h) (lf p (p 0) 0 ^ (2 * (h + 1))) g i j) + (pm1 p (pcm p g h) (lf p (p 0) 0 ^ (2 * (h + 1))) i j + 0)) ((lf p (p 0) 0 ^ (2 * (h + 1))) * ((lf p (p 0) i) * (lf p (p 0) j))))) 24 (rA ((pm2 p (pcm p g h) (lf p (p 0) 0 ^ (2 * (h + 1))) g i j) + (pm1 p (pcm p g h) (lf p (p 0) 0 ^ (2 * (h + 1))) i j + 0)) ((lf p (p 0) 0 ^ (2 * (h + 1))) * ((lf p (p 0) i) * (lf p (p 0) j))))) 25 (rB ((pm2 p (pcm p g h) (lf p (p 0) 0 ^ (2 * (h + 1))) g i j) + (pm1 p (pcm p g h) (lf p (p 0) 0 ^ (2 * (h + 1))) i j + 0)) ((lf p (p 0) 0 ^ (2 * (h + 1))) * ((lf p (p 0) i) * (lf p (p 0) j))))) ima pa pb co sx ((lf p (p 0) (i + 1)) * (p (j + 1))) ((lf p (p 0) i) * (lf p (p 0) j)) (pcm p g h sx) (pE p h sx) (lf p (p 0) 0 ^ (2 * (h + 1))) (pm3 p (pcm p g h) (lf p (p 0) 0 ^ (2 * (h + 1))) g i j) (pm2 p (pcm p g h) (lf p (p 0) 0 ^ (2 * (h + 1))) g i j + (pm1 p (pcm p g h) (lf p (p 0) 0 ^ (2 * (h + 1))) i j + 0)) (by omega) (by omega) (by omega) ho (pE_pos hzn _ _) hT0 (hpa _ (by omega)) (hpb _ (by omega)) rfl rfl j3 (pf_X (by omega) (pE_le hal.2 hh _) (pv_le hal.2 h9 h10 hh _)) (pf_Y (by omega) (pE_le hal.2 hh _) (pv_le hal.2 h9 h10 hh _) (by assumption)) (pf_E (pE_le hal.2 hh _) ho2) (pf_E hT1 ho2) (by omega) (Nat.lt_of_le_of_lt (pE_le hal.2 hh _) (by decide))) (cwV 4 hts gX8_pairs_X8_adding rfl rfl rfl (by decide +kernel) ⟨Nat.le_of_ble_eq_true rfl, Nat.le_of_ble_eq_true rfl⟩) ⟨fb_cPre, va_recv hK.1 hPc (ci := 8) (q0 := 0) rfl rfl, pre_of hPc hK hDc⟩ rfl rfl hl.1 rfl (lv_room (Nat.le_of_ble_eq_true rfl)) dX8_pairs_184 ⟨Nat.le_of_ble_eq_true rfl, Nat.le_of_ble_eq_true rfl⟩) (fun uu H locs hr7 hw => ?_)
      have hw : WS D A s [(mr 0, .inl (Z 0, 18, .inl (aI p))), (M, .inr (8, [.ref (mr 0), .ref (mr 1), .int (nI (mi 2)), .ref (mr 3), .ref (mr 4), .int ima, .ref (mr 6), .int (nI (mi 7)), .ref (mr 8), .ref (mr 9), .ref (mr 10), .long (lN (rA ((pm3 p (pcm p g h) (lf p (p 0) 0 ^ (2 * (h + 1))) g i j) + (pm2 p (pcm p g h) (lf p (p 0) 0 ^ (2 * (h + 1))) g i j + (pm1 p (pcm p g h) (lf p (p 0) 0 ^ (2 * (h + 1))) i j + 0))) ((lf p (p 0) 0 ^ (2 * (h + 1))) * ((lf p (p 0) i) * (lf p (p 0) j))))), .long (lN (rB ((pm3 p (pcm p g h) (lf p (p 0) 0 ^ (2 * (h + 1))) g i j) + (pm2 p (pcm p g h) (lf p (p 0) 0 ^ (2 * (h + 1))) g i j + (pm1 p (pcm p g h) (lf p (p 0) 0 ^ (2 * (h + 1))) i j + 0))) ((lf p (p 0) 0 ^ (2 * (h + 1))) * ((lf p (p 0) i) * (lf p (p 0) j))))), .ref (mr 13), .ref (mr 14), .ref (mr 15), .ref (mr 16), .ref (mr 17), .ref (mr 18), .int (nI (mi 19)), .ref (mr 20), .ref (mr 21), .ref (mr 22), .ref (mr 23), .long (lN (rA ((pm3 p (pcm p g h) (lf p (p 0) 0 ^ (2 * (h + 1))) g i j) + (pm2 p (pcm p g h) (lf p (p 0) 0 ^ (2 * (h + 1))) g i j + (pm1 p (pcm p g h) (lf p (p 0) 0 ^ (2 * (h + 1))) i j + 0))) ((lf p (p 0) 0 ^ (2 * (h + 1))) * ((lf p (p 0) i) * (lf p (p 0) j))))), .long (lN (rB ((pm3 p (pcm p g h) (lf p (p 0) 0 ^ (2 * (h + 1))) g i j) + (pm2 p (pcm p g h) (lf p (p 0) 0 ^ (2 * (h + 1))) g i j + (pm1 p (pcm p g h) (lf p (p 0) 0 ^ (2 * (h + 1))) i j + 0))) ((lf p (p 0) 0 ^ (2 * (h + 1))) * ((lf p (p 0) i) * (lf p (p 0) j))))), .int (nI (mi 26)), .int (nI (mi 27)), .ref (mr 28), .int (nI (mi 29)), .int (nI (mi 30)), .int (nI (mi 31)), .int (nI (mi 32))])), (mr 20, .inl (Z 1, 81, .inr (.inl (aL pa)))), (mr 21, .inl (Z 1, 81, .inr (.inl (aL pb))))] H locs := hw
      refine lv_aload_n hx hb dX8_pairs_187 rfl (lv_at hl 0 rfl) ?_
      refine q_iconst (v := 0) hx hb dX8_pairs_188 (by decide) ?_
      refine q_bipush (v := 9) hx hb dX8_pairs_189 (by decide) ?_
      refine lv_iload_n hx hb dX8_pairs_191 rfl (lv_at hl 2 rfl) ?_
      refine q_iconst (v := 1) hx hb dX8_pairs_192 (by decide) ?_
      refine q_iadd hx hb dX8_pairs_193 ?_
      refine q_imul hx hb dX8_pairs_194 ?_
      refine lv_iload_n hx hb dX8_pairs_195 rfl (lv_at hl 3 rfl) ?_
      refine q_iadd hx hb dX8_pairs_196 ?_
      refine q_iconst (v := 1) hx hb dX8_pairs_197 (by decide) ?_
      refine q_iadd hx hb dX8_pairs_198 ?_
      refine lv_iload hx hb dX8_pairs_199 (lv_at hl 7 rfl) ?_
      refine lv_iload hx hb dX8_pairs_201 (lv_at hl 8 rfl) ?_
      refine q_imul hx hb dX8_pairs_203 ?_
      refine lv_iload hx hb dX8_pairs_204 (lv_at hl 4 rfl) ?_
      refine q_callv (S := Unit) (Z := Z) (D := D) (wc := [(M, .inr (8, [.ref (mr 0), .ref (mr 1), .int (nI (mi 2)), .ref (mr 3), .ref (mr 4), .int ima, .ref (mr 6), .int (nI (mi 7)), .ref (mr 8), .ref (mr 9), .ref (mr 10), .long (lN (rA ((pm3 p (pcm p g h) (lf p (p 0) 0 ^ (2 * (h + 1))) g i j) + (pm2 p (pcm p g h) (lf p (p 0) 0 ^ (2 * (h + 1))) g i j + (pm1 p (pcm p g h) (lf p (p 0) 0 ^ (2 * (h + 1))) i j + 0))) ((lf p (p 0) 0 ^ (2 * (h + 1))) * ((lf p (p 0) i) * (lf p (p 0) j))))), .long (lN (rB ((pm3 p (pcm p g h) (lf p (p 0) 0 ^ (2 * (h + 1))) g i j) + (pm2 p (pcm p g h) (lf p (p 0) 0 ^ (2 * (h + 1))) g i j + (pm1 p (pcm p g h) (lf p (p 0) 0 ^ (2 * (h + 1))) i j + 0))) ((lf p (p 0) 0 ^ (2 * (h + 1))) * ((lf p (p 0) i) * (lf p (p 0) j))))), .ref (mr 13), .ref (mr 14), .ref (mr 15), .ref (mr 16), .ref (mr 17), .ref (mr 18), .int (nI (mi 19)), .ref (mr 20), .ref (mr 21), .ref (mr 22), .ref (mr 23), .long (lN (rA ((pm3 p (pcm p g h) (lf p (p 0) 0 ^ (2 * (h + 1))) g i j) + (pm2 p (pcm p g h) (lf p (p 0) 0 ^ (2 * (h + 1))) g i j + (pm1 p (pcm p g h) (lf p (p 0) 0 ^ (2 * (h + 1))) i j + 0))) ((lf p (p 0) 0 ^ (2 * (h + 1))) * ((lf p (p 0) i) * (lf p (p 0) j))))), .long (lN (rB ((pm3 p (pcm p g h) (lf p (p 0) 0 ^ (2 * (h + 1))) g i j) + (pm2 p (pcm p g h) (lf p (p 0) 0 ^ (2 * (h + 1))) g i j + (pm1 p (pcm p g h) (lf p (p 0) 0 ^ (2 * (h + 1))) i j + 0))) ((lf p (p 0) 0 ^ (2 * (h + 1))) * ((lf p (p 0) i) * (lf p (p 0) j))))), .int (nI (mi 26)), .int (nI (mi 27)), .ref (mr 28), .int (nI (mi 29)), .int (nI (mi 30)), .int (nI (mi 31)), .int (nI (mi 32))])), (mr 20, .inl (Z 1, 81, .inr (.inl (aL pa)))), (mr 21, .inl (Z 1, 81, .inr (.inl (aL pb))))]) (wr := [(mr 0, .inl (Z 0, 18, .inl (aI p)))]) (rest := []) hw hA [1, 2, 3] [0] rfl rfl rfl rfl (by decide) (fun hPc hDc => va_runV (As := [.int (nI 0), .int (nI (9 * (i + 1) + j + 1)), .int (nI ((lf p (p 0) (i + 1)) * (lf p (p 0) (j + 1)))), .int (nI ((lf p (p 0) i) * (lf p (p 0) j)))]) (rest := []) ⟨hx, hb, hml, hown, hts⟩ (c_X8_adding l D Z H.size M mr (va_up (va_up (va_up (va_up mi 11 (rA ((pm3 p (pcm p g h) (lf p (p 0) 0 ^ (2 * (h + 1))) g i j) + (pm2 p (pcm p g h) (lf p (p 0) 0 ^ (2 * (h + 1))) g i j + (pm1 p (pcm p g h) (lf p (p 0) 0 ^ (2 * (h + 1))) i j + 0))) ((lf p (p 0) 0 ^ (2 * (h + 1))) * ((lf p (p 0) i) * (lf p (p 0) j))))) 12 (rB ((pm3 p (pcm p g h) (lf p (p 0) 0 ^ (2 * (h + 1))) g i j) + (pm2 p (pcm p g h) (lf p (p 0) 0 ^ (2 * (h + 1))) g i j + (pm1 p (pcm p g h) (lf p (p 0) 0 ^ (2 * (h + 1))) i j + 0))) ((lf p (p 0) 0 ^ (2 * (h + 1))) * ((lf p (p 0) i) * (lf p (p 0) j))))) 24 (rA ((pm3 p (pcm p g h) (lf p (p 0) 0 ^ (2 * (h + 1))) g i j) + (pm2 p (pcm p g h) (lf p (p 0) 0 ^ (2 * (h + 1))) g i j + (pm1 p (pcm p g h) (lf p (p 0) 0 ^ (2 * (h + 1))) i j + 0))) ((lf p (p 0) 0 ^ (2 * (h + 1))) * ((lf p (p 0) i) * (lf p (p 0) j))))) 25 (rB ((pm3 p (pcm p g h) (lf p (p 0) 0 ^ (2 * (h + 1))) g i j) + (pm2 p (pcm p g h) (lf p (p 0) 0 ^ (2 * (h + 1))) g i j + (pm1 p (pcm p g h) (lf p (p 0) 0 ^ (2 * (h + 1))) i j + 0))) ((lf p (p 0) 0 ^ (2 * (h + 1))) * ((lf p (p 0) i) * (lf p (p 0) j))))) ima pa pb 0 (9 * (i + 1) + j + 1) ((lf p (p 0) (i + 1)) * (lf p (p 0) (j + 1))) ((lf p (p 0) i) * (lf p (p 0) j)) (pcm p g h (9 * (i + 1) + j + 1)) (pE p h (9 * (i + 1) + j + 1)) (lf p (p 0) 0 ^ (2 * (h + 1))) (pm4 p (pcm p g h) i j) (pm3 p (pcm p g h) (lf p (p 0) 0 ^ (2 * (h + 1))) g i j + (pm2 p (pcm p g h) (lf p (p 0) 0 ^ (2 * (h + 1))) g i j + (pm1 p (pcm p g h) (lf p (p 0) 0 ^ (2 * (h + 1))) i j + 0))) (by omega) (by omega) (by omega) ho (pE_pos hzn _ _) hT0 (hpa _ (by omega)) (hpb _ (by omega)) rfl rfl (pm4_w (by omega)) (pf_X (by omega) (pE_le hal.2 hh _) (pv_le hal.2 h9 h10 hh _)) (pf_Y (by omega) (pE_le hal.2 hh _) (pv_le hal.2 h9 h10 hh _) (by assumption)) (pf_E (pE_le hal.2 hh _) ho2) (pf_E hT1 ho2) (by omega) (Nat.lt_of_le_of_lt (pE_le hal.2 hh _) (by decide))) (cwV 4 hts gX8_pairs_X8_adding rfl rfl rfl (by decide +kernel) ⟨Nat.le_of_ble_eq_true rfl, Nat.le_of_ble_eq_true rfl⟩) ⟨fb_cPre, va_recv hK.1 hPc (ci := 8) (q0 := 0) rfl rfl, pre_of hPc hK hDc⟩ rfl rfl hl.1 rfl (lv_room (Nat.le_of_ble_eq_true rfl)) dX8_pairs_206 ⟨Nat.le_of_ble_eq_true rfl, Nat.le_of_ble_eq_true rfl⟩) (fun uu H locs hr8 hw => ?_)
      have hw : WS D A s [(mr 0, .inl (Z 0, 18, .inl (aI p))), (M, .inr (8, [.ref (mr 0), .ref (mr 1), .int (nI (mi 2)), .ref (mr 3), .ref (mr 4), .int ima, .ref (mr 6), .int (nI (mi 7)), .ref (mr 8), .ref (mr 9), .ref (mr 10), .long (lN (rA ((pm4 p (pcm p g h) i j) + (pm3 p (pcm p g h) (lf p (p 0) 0 ^ (2 * (h + 1))) g i j + (pm2 p (pcm p g h) (lf p (p 0) 0 ^ (2 * (h + 1))) g i j + (pm1 p (pcm p g h) (lf p (p 0) 0 ^ (2 * (h + 1))) i j + 0)))) ((lf p (p 0) 0 ^ (2 * (h + 1))) * ((lf p (p 0) i) * (lf p (p 0) j))))), .long (lN (rB ((pm4 p (pcm p g h) i j) + (pm3 p (pcm p g h) (lf p (p 0) 0 ^ (2 * (h + 1))) g i j + (pm2 p (pcm p g h) (lf p (p 0) 0 ^ (2 * (h + 1))) g i j + (pm1 p (pcm p g h) (lf p (p 0) 0 ^ (2 * (h + 1))) i j + 0)))) ((lf p (p 0) 0 ^ (2 * (h + 1))) * ((lf p (p 0) i) * (lf p (p 0) j))))), .ref (mr 13), .ref (mr 14), .ref (mr 15), .ref (mr 16), .ref (mr 17), .ref (mr 18), .int (nI (mi 19)), .ref (mr 20), .ref (mr 21), .ref (mr 22), .ref (mr 23), .long (lN (rA ((pm4 p (pcm p g h) i j) + (pm3 p (pcm p g h) (lf p (p 0) 0 ^ (2 * (h + 1))) g i j + (pm2 p (pcm p g h) (lf p (p 0) 0 ^ (2 * (h + 1))) g i j + (pm1 p (pcm p g h) (lf p (p 0) 0 ^ (2 * (h + 1))) i j + 0)))) ((lf p (p 0) 0 ^ (2 * (h + 1))) * ((lf p (p 0) i) * (lf p (p 0) j))))), .long (lN (rB ((pm4 p (pcm p g h) i j) + (pm3 p (pcm p g h) (lf p (p 0) 0 ^ (2 * (h + 1))) g i j + (pm2 p (pcm p g h) (lf p (p 0) 0 ^ (2 * (h + 1))) g i j + (pm1 p (pcm p g h) (lf p (p 0) 0 ^ (2 * (h + 1))) i j + 0)))) ((lf p (p 0) 0 ^ (2 * (h + 1))) * ((lf p (p 0) i) * (lf p (p 0) j))))), .int (nI (mi 26)), .int (nI (mi 27)), .ref (mr 28), .int (nI (mi 29)), .int (nI (mi 30)), .int (nI (mi 31)), .int (nI (mi 32))])), (mr 20, .inl (Z 1, 81, .inr (.inl (aL pa)))), (mr 21, .inl (Z 1, 81, .inr (.inl (aL pb))))] H locs := hw
      exact q_vret (wout := _) hx hb hr hlocks hAe hK () (hw.sub [1, 0, 2, 3] (by decide) rfl) (trivial) dX8_pairs_209
    · --
      intro jn177
      refine lv_aload_n hx hb dX8_pairs_133 rfl (lv_at hl 0 rfl) ?_
      refine lv_aload_n hx hb dX8_pairs_134 rfl (lv_at hl 0 rfl) ?_
      refine q_get (v := .ref (mr 0)) (ci := 8) hx hb hts in_X8 hown hK hw 1 0 wd1 dX8_pairs_135 rfl rfl (by decide) rfl ?_
      refine q_bipush (v := 9) hx hb dX8_pairs_138 (by decide) ?_
      refine q_iald hx hb hK hw 0 (by omega) (by omega) dX8_pairs_140 rfl ?_
      refine lv_iload_n hx hb dX8_pairs_141 rfl (lv_at hl 2 rfl) ?_
      refine q_iconst (v := 1) hx hb dX8_pairs_142 (by decide) ?_
      refine q_iadd hx hb dX8_pairs_143 ?_
      refine lv_iload_n hx hb dX8_pairs_144 rfl (lv_at hl 1 rfl) ?_
      refine q_icmp_lt (tgt := 158) hx hb ((i + 1 : Nat) : Int) ((g : Nat) : Int) (nI_toInt (by omega)) (nI_toInt (by omega)) dX8_pairs_145 (by decide) (fun c9 => ?_) (fun c9 => ?_)
      · --
        refine q_iconst (v := 0) hx hb dX8_pairs_158 (by decide) ?_
        refine q_iadd hx hb dX8_pairs_159 ?_
        refine lv_iload_n hx hb dX8_pairs_160 rfl (lv_at hl 2 rfl) ?_
        refine q_iconst (v := 1) hx hb dX8_pairs_161 (by decide) ?_
        refine q_iadd hx hb dX8_pairs_162 ?_
        refine lv_iload_n hx hb dX8_pairs_163 rfl (lv_at hl 1 rfl) ?_
        refine q_icmp_lt (tgt := 171) hx hb ((i + 1 : Nat) : Int) ((g : Nat) : Int) (nI_toInt (by omega)) (nI_toInt (by omega)) dX8_pairs_164 (by decide) (fun c10 => ?_) (fun c10 => ?_)
        · --
          refine q_bipush (v := 9) hx hb dX8_pairs_171 (by decide) ?_
          refine lv_iload_n hx hb dX8_pairs_173 rfl (lv_at hl 2 rfl) ?_
          refine q_iconst (v := 1) hx hb dX8_pairs_174 (by decide) ?_
          refine q_iadd hx hb dX8_pairs_175 ?_
          refine q_imul hx hb dX8_pairs_176 ?_
          exact jn177 (p 9 + 0, 9 * (i + 1)) H locs ls (by dsimp only; first | (exfalso; omega) | (have hq : g ≤ i + 1 := (by omega); exact ⟨by omega, by omega, pm3_t hn.1 hq⟩) | (have hq : ¬ g ≤ i + 1 := (by omega); exact ⟨by omega, by omega, pm3_f hq (by omega) (by omega)⟩)) hw (lv_sub hl [0, 1, 2, 3, 4, 5, 6, 7, 8] rfl)
        · --
          refine q_iconst (v := 0) hx hb dX8_pairs_167 (by decide) ?_
          refine lv_goto (tgt := 177) hx hb dX8_pairs_168 (by decide) ?_
          exact jn177 (p 9 + 0, 0) H locs ls (by dsimp only; first | (exfalso; omega) | (have hq : g ≤ i + 1 := (by omega); exact ⟨by omega, by omega, pm3_t hn.1 hq⟩) | (have hq : ¬ g ≤ i + 1 := (by omega); exact ⟨by omega, by omega, pm3_f hq (by omega) (by omega)⟩)) hw (lv_sub hl [0, 1, 2, 3, 4, 5, 6, 7, 8] rfl)
      · --
        refine lv_aload_n hx hb dX8_pairs_148 rfl (lv_at hl 0 rfl) ?_
        refine q_get (v := .ref (mr 0)) (ci := 8) hx hb hts in_X8 hown hK hw 1 0 wd1 dX8_pairs_149 rfl rfl (by decide) rfl ?_
        refine q_bipush (v := 10) hx hb dX8_pairs_152 (by decide) ?_
        refine q_iald hx hb hK hw 0 (by omega) (by omega) dX8_pairs_154 rfl ?_
        refine lv_goto (tgt := 159) hx hb dX8_pairs_155 (by decide) ?_
        refine q_iadd hx hb dX8_pairs_159 ?_
        refine lv_iload_n hx hb dX8_pairs_160 rfl (lv_at hl 2 rfl) ?_
        refine q_iconst (v := 1) hx hb dX8_pairs_161 (by decide) ?_
        refine q_iadd hx hb dX8_pairs_162 ?_
        refine lv_iload_n hx hb dX8_pairs_163 rfl (lv_at hl 1 rfl) ?_
        refine q_icmp_lt (tgt := 171) hx hb ((i + 1 : Nat) : Int) ((g : Nat) : Int) (nI_toInt (by omega)) (nI_toInt (by omega)) dX8_pairs_164 (by decide) (fun c11 => ?_) (fun c11 => ?_)
        · --
          refine q_bipush (v := 9) hx hb dX8_pairs_171 (by decide) ?_
          refine lv_iload_n hx hb dX8_pairs_173 rfl (lv_at hl 2 rfl) ?_
          refine q_iconst (v := 1) hx hb dX8_pairs_174 (by decide) ?_
          refine q_iadd hx hb dX8_pairs_175 ?_
          refine q_imul hx hb dX8_pairs_176 ?_
          exact jn177 (p 9 + (p 10), 9 * (i + 1)) H locs ls (by dsimp only; first | (exfalso; omega) | (have hq : g ≤ i + 1 := (by omega); exact ⟨by omega, by omega, pm3_t hn.1 hq⟩) | (have hq : ¬ g ≤ i + 1 := (by omega); exact ⟨by omega, by omega, pm3_f hq (by omega) (by omega)⟩)) hw (lv_sub hl [0, 1, 2, 3, 4, 5, 6, 7, 8] rfl)
        · --
          refine q_iconst (v := 0) hx hb dX8_pairs_167 (by decide) ?_
          refine lv_goto (tgt := 177) hx hb dX8_pairs_168 (by decide) ?_
          exact jn177 (p 9 + (p 10), 0) H locs ls (by dsimp only; first | (exfalso; omega) | (have hq : g ≤ i + 1 := (by omega); exact ⟨by omega, by omega, pm3_t hn.1 hq⟩) | (have hq : ¬ g ≤ i + 1 := (by omega); exact ⟨by omega, by omega, pm3_f hq (by omega) (by omega)⟩)) hw (lv_sub hl [0, 1, 2, 3, 4, 5, 6, 7, 8] rfl)
  · --
    intro jn123
    refine lv_aload_n hx hb dX8_pairs_82 rfl (lv_at hl 5 rfl) ?_
    refine lv_aload_n hx hb dX8_pairs_83 rfl (lv_at hl 5 rfl) ?_
    refine q_get (v := .ref (mr 0)) (ci := 8) hx hb hts in_X8 hown hK hw 1 0 wd1 dX8_pairs_84 rfl rfl (by decide) rfl ?_
    refine q_bipush (v := 9) hx hb dX8_pairs_87 (by decide) ?_
    refine q_iald hx hb hK hw 0 (by omega) (by omega) dX8_pairs_89 rfl ?_
    refine lv_iload_n hx hb dX8_pairs_90 rfl (lv_at hl 8 rfl) ?_
    refine q_iconst (v := 1) hx hb dX8_pairs_91 (by decide) ?_
    refine q_iadd hx hb dX8_pairs_92 ?_
    refine lv_iload_n hx hb dX8_pairs_93 rfl (lv_at hl 6 rfl) ?_
    refine q_icmp_lt (tgt := 107) hx hb ((j + 1 : Nat) : Int) ((g : Nat) : Int) (nI_toInt (by omega)) (nI_toInt (by omega)) dX8_pairs_94 (by decide) (fun c12 => ?_) (fun c12 => ?_)
    · --
      refine q_iconst (v := 0) hx hb dX8_pairs_107 (by decide) ?_
      refine q_iadd hx hb dX8_pairs_108 ?_
      refine lv_iload_n hx hb dX8_pairs_109 rfl (lv_at hl 8 rfl) ?_
      refine q_iconst (v := 1) hx hb dX8_pairs_110 (by decide) ?_
      refine q_iadd hx hb dX8_pairs_111 ?_
      refine lv_iload_n hx hb dX8_pairs_112 rfl (lv_at hl 6 rfl) ?_
      refine q_icmp_lt (tgt := 120) hx hb ((j + 1 : Nat) : Int) ((g : Nat) : Int) (nI_toInt (by omega)) (nI_toInt (by omega)) dX8_pairs_113 (by decide) (fun c13 => ?_) (fun c13 => ?_)
      · --
        refine lv_iload_n hx hb dX8_pairs_120 rfl (lv_at hl 8 rfl) ?_
        refine q_iconst (v := 1) hx hb dX8_pairs_121 (by decide) ?_
        refine q_iadd hx hb dX8_pairs_122 ?_
        exact jn123 (p 9 + 0, j + 1) H locs ls (by dsimp only; first | (exfalso; omega) | (have hq : g ≤ j + 1 := (by omega); exact ⟨by omega, by omega, pm2_t hn.1 hq⟩) | (have hq : ¬ g ≤ j + 1 := (by omega); exact ⟨by omega, by omega, pm2_f hq (by omega) (by omega)⟩)) hw (lv_sub hl [5, 6, 7, 8, 4, 3, 2, 1, 0] rfl)
      · --
        refine q_iconst (v := 0) hx hb dX8_pairs_116 (by decide) ?_
        refine lv_goto (tgt := 123) hx hb dX8_pairs_117 (by decide) ?_
        exact jn123 (p 9 + 0, 0) H locs ls (by dsimp only; first | (exfalso; omega) | (have hq : g ≤ j + 1 := (by omega); exact ⟨by omega, by omega, pm2_t hn.1 hq⟩) | (have hq : ¬ g ≤ j + 1 := (by omega); exact ⟨by omega, by omega, pm2_f hq (by omega) (by omega)⟩)) hw (lv_sub hl [5, 6, 7, 8, 4, 3, 2, 1, 0] rfl)
    · --
      refine lv_aload_n hx hb dX8_pairs_97 rfl (lv_at hl 5 rfl) ?_
      refine q_get (v := .ref (mr 0)) (ci := 8) hx hb hts in_X8 hown hK hw 1 0 wd1 dX8_pairs_98 rfl rfl (by decide) rfl ?_
      refine q_bipush (v := 10) hx hb dX8_pairs_101 (by decide) ?_
      refine q_iald hx hb hK hw 0 (by omega) (by omega) dX8_pairs_103 rfl ?_
      refine lv_goto (tgt := 108) hx hb dX8_pairs_104 (by decide) ?_
      refine q_iadd hx hb dX8_pairs_108 ?_
      refine lv_iload_n hx hb dX8_pairs_109 rfl (lv_at hl 8 rfl) ?_
      refine q_iconst (v := 1) hx hb dX8_pairs_110 (by decide) ?_
      refine q_iadd hx hb dX8_pairs_111 ?_
      refine lv_iload_n hx hb dX8_pairs_112 rfl (lv_at hl 6 rfl) ?_
      refine q_icmp_lt (tgt := 120) hx hb ((j + 1 : Nat) : Int) ((g : Nat) : Int) (nI_toInt (by omega)) (nI_toInt (by omega)) dX8_pairs_113 (by decide) (fun c14 => ?_) (fun c14 => ?_)
      · --
        refine lv_iload_n hx hb dX8_pairs_120 rfl (lv_at hl 8 rfl) ?_
        refine q_iconst (v := 1) hx hb dX8_pairs_121 (by decide) ?_
        refine q_iadd hx hb dX8_pairs_122 ?_
        exact jn123 (p 9 + (p 10), j + 1) H locs ls (by dsimp only; first | (exfalso; omega) | (have hq : g ≤ j + 1 := (by omega); exact ⟨by omega, by omega, pm2_t hn.1 hq⟩) | (have hq : ¬ g ≤ j + 1 := (by omega); exact ⟨by omega, by omega, pm2_f hq (by omega) (by omega)⟩)) hw (lv_sub hl [5, 6, 7, 8, 4, 3, 2, 1, 0] rfl)
      · --
        refine q_iconst (v := 0) hx hb dX8_pairs_116 (by decide) ?_
        refine lv_goto (tgt := 123) hx hb dX8_pairs_117 (by decide) ?_
        exact jn123 (p 9 + (p 10), 0) H locs ls (by dsimp only; first | (exfalso; omega) | (have hq : g ≤ j + 1 := (by omega); exact ⟨by omega, by omega, pm2_t hn.1 hq⟩) | (have hq : ¬ g ≤ j + 1 := (by omega); exact ⟨by omega, by omega, pm2_f hq (by omega) (by omega)⟩)) hw (lv_sub hl [5, 6, 7, 8, 4, 3, 2, 1, 0] rfl)
