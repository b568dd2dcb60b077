theorem ages_row {p z : Nat → Nat} {V : Nat} (hn : 1 ≤ p 0 ∧ p 0 ≤ 8) (hV : 1 ≤ V ∧ V ≤ 8) (q : Nat) : rw8 (va_up (va_up p 0 V) 13 0) (rz z (p 0) V) q = va_up (va_up (zr (rz (rw8 p z) (rw8 p z 0) V) V (8 - V)) 0 V) 13 0 q := by
  rw [rw8_v, up2 p V q, up2 (zr (rz (rw8 p z) (rw8 p z 0) V) V (8 - V)) V q]
  show (if 1 ≤ q ∧ q ≤ 8 then (if q ≤ V then rz z (p 0) V q else 0) else _) = _
  by_cases c : 1 ≤ q ∧ q ≤ 8
  · rw [if_pos c, if_neg (show ¬ q = 13 by omega), if_neg (show ¬ q = 0 by omega)]
    unfold zr
    by_cases d : q ≤ V
    · rw [if_pos d, if_neg (show ¬ (V < q ∧ q ≤ V + (8 - V)) by omega)]
      show _ = if p 0 < q ∧ q ≤ V then 1 else rw8 p z q
      unfold rz
      by_cases e : p 0 < q ∧ q ≤ V
      · rw [if_pos e, if_pos e]
      · rw [if_neg e, if_neg e, rw8_z ⟨c.1, by omega⟩ hn.2]
    · rw [if_neg d, if_pos (show V < q ∧ q ≤ V + (8 - V) by omega)]
  · rw [if_neg c]
    by_cases d : q = 13
    · rw [if_pos d, if_pos d]
    · rw [if_neg d, if_neg d]
      by_cases e : q = 0
      · rw [if_pos e, if_pos e]
      · rw [if_neg e, if_neg e]
        unfold zr
        rw [if_neg (show ¬ (V < q ∧ q ≤ V + (8 - V)) by omega)]
        show p q = if p 0 < q ∧ q ≤ V then 1 else rw8 p z q
        rw [if_neg (by omega), rw8_p (by omega)]
def IC (L : Nat → Nat) (sz : Nat) : Prop := sz ≤ 60 ∧ (∀ k, L k < 128) ∧ ∀ k, k < sz → 0 < L k
theorem up_le {f : Nat → Nat} {j v b s : Nat} (h : f s ≤ b) (hv : v ≤ b) : va_up f j v s ≤ b := by
  by_cases e : s = j
  · subst e; rw [va_up_eq]; exact hv
  · rw [va_up_other _ _ e]; exact h
theorem cnC_cnD {p z v : Nat → Nat} (h : PI p z) (hv : v 0 = 0) (kn : Nat) (v8 : Nat → Nat) (wh : Int32) : cnC p z kn v wh = cnD (rw8 p z) kn v8 wh := by
  unfold cnC cnD
  have ha := ag_rw (z := z) h.1.2
  by_cases c : 0 ≤ wh.toInt ∧ wh.toInt ≤ 13
  · rw [if_pos c, if_pos c]
    congr 1
    generalize hk : wh.toInt.toNat = k
    rcases (show k = 0 ∨ k = 1 ∨ k = 2 ∨ k = 3 ∨ k = 4 ∨ k = 5 ∨ k = 6 ∨ k = 7 ∨ k = 8 ∨ k = 9 ∨ k = 10 ∨ k = 11 ∨ k = 12 ∨ k = 13 by omega) with rfl | rfl | rfl | rfl | rfl | rfl | rfl | rfl | rfl | rfl | rfl | rfl | rfl | rfl
    · rfl
    · exact lf_ag ha 0
    · rfl
    · rfl
    · rfl
    · rfl
    · rfl
    · rfl
    · rfl
    · rfl
    · show tr z (p 0) = rsn (rw8 p z) (p 0) (p 0 - 1) + (if fl2 (rw8 p z) (p 0) (p 0 - 2) = 0 then 0 else 2)
      rw [← tr_e (rw8 p z) h.1.1]
      unfold tr; rw [rsn_ag ha _ (by have := h.1; omega), fln_ag ha _ (by have := h.1; omega)]
    · exact ba_ag ha _ _
    · show bbs (p 9) (p 10) (eT z (p 0) 10 v) (lf z (p 0) 0 ^ 10) 9 = bbd (rw8 p z) (fT (rw8 p z) (p 0) 10 v8) 9
      rw [eT_ag ha, lf_ag ha]; exact bbs_bbd (y := rw8 p z) (PI_al h) hv 9 (by decide)
    · rfl
  · rw [if_neg c, if_neg c]
theorem snN_c {f f' : Nat → Int64} {y : Nat} : ∀ c, (∀ k, k < c → f (y + k) = f' (y + k)) → snN f y c = snN f' y c ∧ snZ f y c = snZ f' y c := by
  intro c; induction c with
  | zero => intro _; exact ⟨rfl, rfl⟩
  | succ c ih =>
    intro h
    obtain ⟨i1, i2⟩ := ih (fun k hk => h k (by omega))
    simp only [snN, snZ]; rw [i1, i2, h c (by omega)]; exact ⟨rfl, rfl⟩
theorem seR_two {fa ch : Nat} {th la le : Nat → Nat} {fs : Nat → Nat → Int64} {it : Nat → Int64} {q ln i n r r8 : Int32} (h : ID th la le fs it) (hx : seR fa ch th la le fs q ln i n r) (hm : seR fa ch th la le (itF it) q ln i n r8) : r = r8 := by
  obtain ⟨h1, h2, h3, h4⟩ := h
  have hf : rfu (th q.toInt.toNat) (la q.toInt.toNat) (le q.toInt.toNat) ln.toInt.toNat i n = nI 0 → (0 ≤ q.toInt ∧ q.toInt ≤ 3 ∧ 0 ≤ ln.toInt ∧ ln.toInt ≤ 3 ∧ 1 ≤ n.toInt ∧ n.toInt ≤ 12) → ∀ c : Nat, (c : Int) < n.toInt → fs q.toInt.toNat (i.toInt.toNat + c) = itF it q.toInt.toNat (i.toInt.toNat + c) := by
    intro o b c hc
    have o3 := (rfu_0 (by rw [o]; rfl)).2.2
    exact h4 _ (by omega) _ (by omega)
  rcases hx with ⟨a1, rfl⟩ | ⟨a1, a2, rfl⟩ | ⟨a1, a2, ⟨c, a3, a4⟩, rfl⟩ | ⟨a1, a2, a3, rfl⟩ <;> rcases hm with ⟨b1, rfl⟩ | ⟨b1, b2, rfl⟩ | ⟨b1, b2, ⟨c', b3, b4⟩, rfl⟩ | ⟨b1, b2, b3, rfl⟩
  · rfl
  · exact absurd b1 a1
  · exact absurd b1 a1
  · exact absurd b1 a1
  · exact absurd a1 b1
  · rfl
  · exact absurd b2 a2
  · exact absurd b2 a2
  · exact absurd a1 b1
  · exact absurd a2 b2
  · rfl
  · exact absurd (by rw [hf a2 a1 c a3]; exact b3 c (by omega)) a4
  · exact absurd a1 b1
  · exact absurd a2 b2
  · exact absurd (by rw [← hf a2 a1 c' b3]; exact a3 c' (by omega)) b4
  · have k := snN_c (f := fs q.toInt.toNat) (f' := itF it q.toInt.toNat) (y := i.toInt.toNat) n.toInt.toNat (fun k hk => hf a2 a1 k (by omega))
    rw [k.1, k.2]
theorem sl_weigh {kn kn' ac' : Nat} {p z g p' z' p8' g8' a a' t t' w w' : Nat → Nat} {ps zs ps' zs' : Nat → Nat → Nat} {i_k i_v r r8 : Int32} (h : IA kn ps zs p z g) (hx : r = wgC (p 0) z i_k i_v ∧ ((¬ wgOk (p 0) z i_k i_v ∧ kn' = kn ∧ a' = a ∧ t' = t ∧ w' = w ∧ ps' = ps ∧ zs' = zs ∧ p' = p ∧ z' = z) ∨ (wgOk (p 0) z i_k i_v ∧ kn' = min (kn + 1) 6 ∧ a' = rotA a kn ∧ t' = rotA t kn ∧ w' = rotA w kn ∧ ps' = pushv ps kn p ∧ zs' = pushv zs kn z ∧ p' = va_up p 13 0 ∧ z' = va_up z (i_k.toInt.toNat) (i_v.toInt.toNat)))) (hm : r8 = wgC ((rw8 p z) 0) (rw8 p z) i_k i_v ∧ ((¬ wgOk ((rw8 p z) 0) (rw8 p z) i_k i_v ∧ ac' = kn ∧ p8' = (rw8 p z) ∧ g8' = g) ∨ (wgOk ((rw8 p z) 0) (rw8 p z) i_k i_v ∧ ac' = min (kn + 1) 6 ∧ g8' = ntG g (rw8 p z) kn ∧ p8' = va_up (va_up (rw8 p z) i_k.toInt.toNat i_v.toInt.toNat) 13 0))) : r = r8 ∧ ac' = kn' ∧ IA kn' ps' zs' p' z' g8' ∧ ∀ q, q < 18 → rw8 p' z' q = p8' q := by
  obtain ⟨rfl, hx⟩ := hx
  obtain ⟨rfl, hm⟩ := hm
  have hn := h.1.1
  refine ⟨wgC_ag (ag_rw hn.2) i_k i_v, ?_⟩
  exact sl_two h (wgOk_ag (ag_rw hn.2)) (wgOk_ag (ag_rw hn.2).symm) (PI_weigh h.1) (fun o q _ => by rw [rw8_upp (by decide), rw8_upz ⟨by have := o.1; omega, by have := o.1; omega⟩ hn.2]) hx hm
theorem sl_ages {kn kn' ac' : Nat} {p z g p' z' p8' g8' a a' t t' w w' : Nat → Nat} {ps zs ps' zs' : Nat → Nat → Nat} {i_v r r8 : Int32} (h : IA kn ps zs p z g) (hx : r = agC (p 0) z i_v ∧ ((¬ agOk (p 0) z i_v ∧ kn' = kn ∧ a' = a ∧ t' = t ∧ w' = w ∧ ps' = ps ∧ zs' = zs ∧ p' = p ∧ z' = z) ∨ (agOk (p 0) z i_v ∧ kn' = min (kn + 1) 6 ∧ a' = rotA a kn ∧ t' = rotA t kn ∧ w' = rotA w kn ∧ ps' = pushv ps kn p ∧ zs' = pushv zs kn z ∧ p' = va_up (va_up p 0 (i_v.toInt.toNat)) 13 0 ∧ z' = rz z (p 0) (i_v.toInt.toNat)))) (hm : r8 = agC ((rw8 p z) 0) (rw8 p z) i_v ∧ ((¬ agOk ((rw8 p z) 0) (rw8 p z) i_v ∧ ac' = kn ∧ p8' = (rw8 p z) ∧ g8' = g) ∨ (agOk ((rw8 p z) 0) (rw8 p z) i_v ∧ ac' = min (kn + 1) 6 ∧ g8' = ntG g (rw8 p z) kn ∧ p8' = va_up (va_up (zr (rz (rw8 p z) ((rw8 p z) 0) i_v.toInt.toNat) i_v.toInt.toNat (8 - i_v.toInt.toNat)) 0 i_v.toInt.toNat) 13 0))) : r = r8 ∧ ac' = kn' ∧ IA kn' ps' zs' p' z' g8' ∧ ∀ q, q < 18 → rw8 p' z' q = p8' q := by
  obtain ⟨rfl, hx⟩ := hx
  obtain ⟨rfl, hm⟩ := hm
  have hn := h.1.1
  refine ⟨agC_ag (ag_rw hn.2) i_v, ?_⟩
  exact sl_two h (agOk_ag (ag_rw hn.2)) (agOk_ag (ag_rw hn.2).symm) (PI_ages h.1) (fun o q _ => ages_row hn ⟨by have := o.1; omega, by have := o.1; omega⟩ q) hx hm
theorem sl_tell {kn kn' ac' : Nat} {p z g p' z' p8' g8' a a' t t' w w' : Nat → Nat} {ps zs ps' zs' : Nat → Nat → Nat} {i_v i_w r r8 : Int32} (h : IA kn ps zs p z g) (hx : r = tlC p i_w i_v ∧ ((¬ tlOk p i_w i_v ∧ kn' = kn ∧ a' = a ∧ t' = t ∧ w' = w ∧ ps' = ps ∧ zs' = zs ∧ p' = p ∧ z' = z) ∨ (tlOk p i_w i_v ∧ kn' = min (kn + 1) 6 ∧ a' = rotA a kn ∧ t' = rotA t kn ∧ w' = rotA w kn ∧ ps' = pushv ps kn p ∧ zs' = pushv zs kn z ∧ p' = va_up p (9 + i_w.toInt.toNat) (i_v.toInt.toNat) ∧ z' = z))) (hm : r8 = tlC (rw8 p z) i_w i_v ∧ ((¬ tlOk (rw8 p z) i_w i_v ∧ ac' = kn ∧ p8' = (rw8 p z) ∧ g8' = g) ∨ (tlOk (rw8 p z) i_w i_v ∧ ac' = min (kn + 1) 6 ∧ g8' = ntG g (rw8 p z) kn ∧ p8' = va_up (rw8 p z) (9 + i_w.toInt.toNat) i_v.toInt.toNat))) : r = r8 ∧ ac' = kn' ∧ IA kn' ps' zs' p' z' g8' ∧ ∀ q, q < 18 → rw8 p' z' q = p8' q := by
  obtain ⟨rfl, hx⟩ := hx
  obtain ⟨rfl, hm⟩ := hm
  have e : rw8 p z (9 + i_w.toInt.toNat) = p (9 + i_w.toInt.toNat) := rw8_p (Or.inr (by omega))
  refine ⟨by unfold tlC; rw [e], ?_⟩
  exact sl_two h (fun o => ⟨o.1, by rw [e]; exact o.2⟩) (fun o => ⟨o.1, by rw [← e]; exact o.2⟩) (PI_tell h.1) (fun o q _ => by rw [rw8_upp (by omega)]) hx hm
theorem sl_run {kn kn' ac' : Nat} {p z g p' p8' g8' a a' t t' w w' : Nat → Nat} {ps zs ps' zs' : Nat → Nat → Nat} {n_ r r8 : Int32} (h : IA kn ps zs p z g) (hx : (¬ (1 ≤ n_.toInt ∧ n_.toInt ≤ 100) ∧ r = (-1) ∧ kn' = kn ∧ a' = a ∧ t' = t ∧ w' = w ∧ ps' = ps ∧ zs' = zs ∧ p' = p) ∨ ((1 ≤ n_.toInt ∧ n_.toInt ≤ 100) ∧ r = nI (rpN z p n_.toInt.toNat 14 - p 14) ∧ kn' = min (kn + 1) 6 ∧ a' = rotA a kn ∧ t' = rotA t kn ∧ w' = rotA w kn ∧ ps' = pushv ps kn p ∧ zs' = pushv zs kn z ∧ p' = rpN z p n_.toInt.toNat)) (hm : (¬ (1 ≤ n_.toInt ∧ n_.toInt ≤ 100) ∧ r8 = (-1) ∧ ac' = kn ∧ p8' = (rw8 p z) ∧ g8' = g) ∨ ((1 ≤ n_.toInt ∧ n_.toInt ≤ 100) ∧ r8 = nI (rpN (rw8 p z) (rw8 p z) n_.toInt.toNat 14 - (rw8 p z) 14) ∧ ac' = min (kn + 1) 6 ∧ g8' = ntG g (rw8 p z) kn ∧ p8' = rpN (rw8 p z) (rw8 p z) n_.toInt.toNat)) : r = r8 ∧ ac' = kn' ∧ IA kn' ps' zs' p' z g8' ∧ ∀ q, q < 18 → rw8 p' z q = p8' q := by
  rcases hx with ⟨o, rfl, rfl, -, -, -, rfl, rfl, rfl⟩ | ⟨o, rfl, rfl, -, -, -, rfl, rfl, rfl⟩
  · rcases hm with ⟨-, rfl, rfl, rfl, rfl⟩ | ⟨o2, -⟩
    · exact ⟨rfl, rfl, h, fun _ _ => rfl⟩
    · exact absurd o2 o
  · rcases hm with ⟨o2, -⟩ | ⟨-, rfl, rfl, rfl, rfl⟩
    · exact absurd o o2
    · have e := (rpN_PI h.1 n_.toInt.toNat).2.2.2
      refine ⟨by rw [← e]; rfl, rfl, IA_push h (PI_run h.1 _), fun q _ => by rw [e]⟩
theorem sl_read {kn kn' ac' sz la0 : Nat} {p z g p' z' p8' g8' a a' t t' w w' L rd y mi : Nat → Nat} {ps zs ps' zs' : Nat → Nat → Nat} {r r8 : Int32} (h : IA kn ps zs p z g) (hx : (¬ prsOk L sz (scW L sz 8 0 (fil y 9 0) 0 la0) ∧ r = (-20) - nI (prsPl L sz (scW L sz 8 0 (fil y 9 0) 0 la0)) ∧ kn' = kn ∧ a' = a ∧ t' = t ∧ w' = w ∧ ps' = ps ∧ zs' = zs ∧ p' = p ∧ z' = z) ∨ (prsOk L sz (scW L sz 8 0 (fil y 9 0) 0 la0) ∧ r = nI (scW L sz 8 0 (fil y 9 0) 0 la0).2.1 ∧ kn' = min (kn + 1) 6 ∧ a' = rotA a kn ∧ t' = rotA t kn ∧ w' = rotA w kn ∧ ps' = pushv ps kn p ∧ zs' = pushv zs kn z ∧ p' = rdP L sz (scW L sz 8 0 (fil y 9 0) 0 la0) p ∧ z' = (scW L sz 8 0 (fil y 9 0) 0 la0).2.2.1)) (hm : (¬ prsOk L sz (scW L sz 8 0 rd 0 (mi 32)) ∧ r8 = (-20) - nI (prsPl L sz (scW L sz 8 0 rd 0 (mi 32))) ∧ ac' = kn ∧ p8' = (rw8 p z) ∧ g8' = g) ∨ (prsOk L sz (scW L sz 8 0 rd 0 (mi 32)) ∧ r8 = nI (scW L sz 8 0 rd 0 (mi 32)).2.1 ∧ ac' = min (kn + 1) 6 ∧ g8' = ntG g (rw8 p z) kn ∧ p8' = rdM L sz (scW L sz 8 0 rd 0 (mi 32)) (rw8 p z))) : r = r8 ∧ ac' = kn' ∧ IA kn' ps' zs' p' z' g8' ∧ ∀ q, q < 18 → rw8 p' z' q = p8' q := by
  have hs : wSame (scW L sz 8 0 (fil y 9 0) 0 la0) (scW L sz 8 0 rd 0 (mi 32)) := scW_base L sz 8 0 _ _ 0 _ _ (fun k h1 h2 => by omega) (by decide)
  have hk : ∀ (y : Nat → Nat) (la : Nat), (scW L sz 8 0 y 0 la).1 = 1 → 1 ≤ (scW L sz 8 0 y 0 la).2.1 ∧ (scW L sz 8 0 y 0 la).2.1 ≤ 8 := fun y la q => by
    have w := scW_ok (L := L) (sz := sz) (z := y) (a := 0) (la := la) (Nat.zero_le _) (by rw [lf_end (Nat.le_refl _)]; omega) q
    exact ⟨w.1, w.2.1⟩
  rcases hx with ⟨o, rfl, hx⟩ | ⟨o, rfl, hx⟩
  · rcases hm with ⟨-, rfl, hm⟩ | ⟨o2, -⟩
    · obtain ⟨rfl, -, -, -, rfl, rfl, rfl, rfl⟩ := hx
      obtain ⟨rfl, rfl, rfl⟩ := hm
      exact ⟨by rw [pl_same hs (scW_01 L sz _ _ _ _ _)], rfl, h, fun _ _ => rfl⟩
    · exact absurd (prs_same hs.symm (fun q => (hk _ _ q).1) o2) o
  · rcases hm with ⟨o2, -⟩ | ⟨-, rfl, hm⟩
    · exact absurd (prs_same hs (fun q => (hk _ _ q).1) o) o2
    · obtain ⟨rfl, -, -, -, rfl, rfl, rfl, rfl⟩ := hx
      obtain ⟨rfl, rfl, rfl⟩ := hm
      exact ⟨by rw [hs.2.1], rfl, IA_push h (PI_read h.1 o), fun q _ => read_row hs (hk _ _ o.1) q⟩
theorem sl_drift {kn kn' ac' : Nat} {p z g p' z' p8' g8' a a' t t' w w' : Nat → Nat} {ps zs ps' zs' : Nat → Nat → Nat} {n_ r r8 : Int32} (h : IA kn ps zs p z g) (hx : (¬ (1 ≤ n_.toInt ∧ n_.toInt ≤ 40) ∧ r = (-1) ∧ kn' = kn ∧ a' = a ∧ t' = t ∧ w' = w ∧ ps' = ps ∧ zs' = zs ∧ p' = p ∧ z' = z) ∨ ((1 ≤ n_.toInt ∧ n_.toInt ≤ 40) ∧ r = nI (lf z' (p' 0) 0) ∧ dst kn ps zs p z n_.toInt.toNat = (kn', ps', zs', p', z'))) (hm : (¬ (1 ≤ n_.toInt ∧ n_.toInt ≤ 40) ∧ r8 = (-1) ∧ ac' = kn ∧ p8' = (rw8 p z) ∧ g8' = g) ∨ ((1 ≤ n_.toInt ∧ n_.toInt ≤ 40) ∧ r8 = nI (lf p8' (p8' 0) 0) ∧ dsm kn (rw8 p z) g n_.toInt.toNat = (ac', p8', g8'))) : r = r8 ∧ ac' = kn' ∧ IA kn' ps' zs' p' z' g8' ∧ ∀ q, q < 18 → rw8 p' z' q = p8' q := by
  rcases hx with ⟨o, rfl, hx⟩ | ⟨o, rfl, hx⟩
  · rcases hm with ⟨-, rfl, hm⟩ | ⟨o2, -⟩
    · obtain ⟨rfl, -, -, -, rfl, rfl, rfl, rfl⟩ := hx
      obtain ⟨rfl, rfl, rfl⟩ := hm
      exact ⟨rfl, rfl, h, fun _ _ => rfl⟩
    · exact absurd o2 o
  · rcases hm with ⟨o2, -⟩ | ⟨-, rfl, hm⟩
    · exact absurd o o2
    · have d := drift_two h n_.toInt.toNat
      rw [hx, hm] at d
      obtain ⟨d1, d2, d3⟩ := d
      dsimp only at d1 d2 d3
      subst d2
      exact ⟨congrArg nI (lf_ag (ag_rw d3.1.1.2) 0), d1, d3, fun _ _ => rfl⟩
theorem sl_undo {kn ac' : Nat} {p z g p8' : Nat → Nat} {ps zs : Nat → Nat → Nat} {r8 : Int32} (h : IA kn ps zs p z g) (hm : r8 = undC kn ∧ ((kn = 0 ∧ ac' = kn ∧ p8' = (rw8 p z)) ∨ (1 ≤ kn ∧ ac' = kn - 1 ∧ p8' = va_cpy g (rw8 p z) (18 * (kn - 1)) 0 18))) : undC kn = r8 ∧ ac' = kn - 1 ∧ IA (kn - 1) ps zs (gbk ps kn p) (gbk zs kn z) g ∧ ∀ q, q < 18 → rw8 (gbk ps kn p) (gbk zs kn z) q = p8' q := by
  obtain ⟨rfl, hm⟩ := hm
  rcases hm with ⟨rfl, rfl, rfl⟩ | ⟨h1, rfl, rfl⟩
  · exact ⟨rfl, rfl, h, fun _ _ => rfl⟩
  · obtain ⟨a1, a2, a3, a4⟩ := h
    have e1 : gbk ps kn p = ps (kn - 1) := if_neg (by omega)
    have e2 : gbk zs kn z = zs (kn - 1) := if_neg (by omega)
    rw [e1, e2]
    refine ⟨rfl, rfl, ⟨a4 _ (by omega), by omega, fun i hi j hj => a3 i (by omega) j hj, fun i hi => a4 i (by omega)⟩, fun q hq => ?_⟩
    simp only [va_cpy]; rw [if_pos (by omega), Nat.sub_zero]; exact (a3 (kn - 1) (by omega) q hq).symm
theorem sl_seed {kn : Nat} {p z g p' p8' : Nat → Nat} {ps zs : Nat → Nat → Nat} {i_v r r8 : Int32} (h : IA kn ps zs p z g) (hx : (i_v.toInt < 0 ∧ r = (-1) ∧ p' = p) ∨ (0 ≤ i_v.toInt ∧ r = nI (p 12) ∧ p' = va_up p 12 i_v.toInt.toNat)) (hm : (i_v.toInt < 0 ∧ r8 = (-1) ∧ p8' = (rw8 p z)) ∨ (0 ≤ i_v.toInt ∧ r8 = nI ((rw8 p z) 12) ∧ p8' = va_up (rw8 p z) 12 i_v.toInt.toNat)) : r = r8 ∧ IA kn ps zs p' z g ∧ ∀ q, q < 18 → rw8 p' z q = p8' q := by
  have hb := i_v.toInt_lt
  rcases hx with ⟨o, rfl, rfl⟩ | ⟨o, rfl, rfl⟩
  · rcases hm with ⟨-, rfl, rfl⟩ | ⟨o2, -⟩
    · exact ⟨rfl, h, fun _ _ => rfl⟩
    · omega
  · rcases hm with ⟨o2, -⟩ | ⟨-, rfl, rfl⟩
    · omega
    · obtain ⟨⟨h0, h1, h2, h3, h4, h5, h6, h7⟩, a2, a3, a4⟩ := h
      exact ⟨rfl, ⟨⟨h0, h1, h2, h3, h4, h5, show i_v.toInt.toNat < 2 ^ 31 by omega, h7⟩, a2, a3, a4⟩, fun q _ => by rw [rw8_upp (by decide)]⟩
theorem sl_image {kn : Nat} {p z g im ig : Nat → Nat} {ps zs : Nat → Nat → Nat} (h : IA kn ps zs p z g) : IB 1 kn ps zs p z (va_cpy (rw8 p z) im 0 0 18) (va_cpy g ig 0 0 108) (nI kn) := by
  exact Or.inr ⟨rfl, rfl, IA_ext h (fun k hk => cpy_all _ _ hk), fun k hk => cpy_all _ _ hk⟩
theorem sl_restore {kn kn' ac' kp ikn : Nat} {p z g p' z' p8' g8' ip iz im ig : Nat → Nat} {ps zs ps' zs' ips izs : Nat → Nat → Nat} {r r8 ima : Int32} (h : IA kn ps zs p z g) (hb : IB kp ikn ips izs ip iz im ig ima) (hx : (kp = 0 ∧ r = (-4) ∧ kn' = kn ∧ ps' = ps ∧ zs' = zs ∧ p' = p ∧ z' = z) ∨ (kp = 1 ∧ r = nI 1 ∧ kn' = ikn ∧ ps' = ips ∧ zs' = izs ∧ p' = ip ∧ z' = iz)) (hm : (ima.toInt < 0 ∧ r8 = (-4) ∧ ac' = kn ∧ p8' = (rw8 p z) ∧ g8' = g) ∨ (0 ≤ ima.toInt ∧ r8 = nI 1 ∧ ac' = ima.toInt.toNat ∧ p8' = va_cpy im (rw8 p z) 0 0 18 ∧ g8' = va_cpy ig g 0 0 108)) : r = r8 ∧ ac' = kn' ∧ IA kn' ps' zs' p' z' g8' ∧ ∀ q, q < 18 → rw8 p' z' q = p8' q := by
  have em : ((-1) : Int32).toInt = -1 := by decide
  rcases hb with ⟨rfl, rfl⟩ | ⟨rfl, rfl, hI, hr⟩
  · rcases hx with ⟨-, rfl, rfl, rfl, rfl, rfl, rfl⟩ | ⟨o, -⟩
    · rcases hm with ⟨-, rfl, rfl, rfl, rfl⟩ | ⟨o, -⟩
      · exact ⟨rfl, rfl, h, fun _ _ => rfl⟩
      · omega
    · omega
  · have ek : (nI ikn).toInt = (ikn : Int) := nI_toInt (by have := hI.2.1; omega)
    rcases hx with ⟨o, -⟩ | ⟨-, rfl, rfl, rfl, rfl, rfl, rfl⟩
    · omega
    · rcases hm with ⟨o, -⟩ | ⟨-, rfl, rfl, rfl, rfl⟩
      · omega
      · refine ⟨rfl, by rw [ek]; rfl, IA_ext hI (fun k hk => cpy_all _ _ hk), fun q hq => ?_⟩
        rw [cpy_all _ _ hq]; exact (hr q hq).symm
theorem sl_type {sz sz' sz8' : Nat} {L L' L8' : Nat → Nat} {i_k r r8 : Int32} (h : IC L sz) (hx : (¬ (32 ≤ i_k.toInt ∧ i_k.toInt ≤ 126) ∧ r = (-1) ∧ L' = L ∧ sz' = sz) ∨ ((32 ≤ i_k.toInt ∧ i_k.toInt ≤ 126) ∧ ((sz < 60 ∧ r = nI (sz + 1) ∧ L' = va_up L sz i_k.toInt.toNat ∧ sz' = sz + 1) ∨ (60 ≤ sz ∧ r = (-3) ∧ L' = L ∧ sz' = sz)))) (hm : (¬ (32 ≤ i_k.toInt ∧ i_k.toInt ≤ 126) ∧ r8 = (-1) ∧ L8' = L ∧ sz8' = sz) ∨ ((32 ≤ i_k.toInt ∧ i_k.toInt ≤ 126) ∧ ((sz < 60 ∧ r8 = nI (sz + 1) ∧ L8' = va_up L sz i_k.toInt.toNat ∧ sz8' = sz + 1) ∨ (60 ≤ sz ∧ r8 = (-3) ∧ L8' = L ∧ sz8' = sz)))) : r = r8 ∧ L8' = L' ∧ sz8' = sz' ∧ IC L' sz' := by
  obtain ⟨h1, h2, h3⟩ := h
  rcases hx with ⟨o, rfl, rfl, rfl⟩ | ⟨o, ⟨o3, rfl, rfl, rfl⟩ | ⟨o3, rfl, rfl, rfl⟩⟩
  · rcases hm with ⟨-, rfl, rfl, rfl⟩ | ⟨o2, -⟩
    · exact ⟨rfl, rfl, rfl, h1, h2, h3⟩
    · exact absurd o2 o
  · rcases hm with ⟨o2, -⟩ | ⟨-, ⟨-, rfl, rfl, rfl⟩ | ⟨o4, -⟩⟩
    · exact absurd o o2
    · refine ⟨rfl, rfl, rfl, by omega, fun k => ?_, fun k hk => ?_⟩
      · by_cases e : k = sz
        · subst e; rw [va_up_eq]; omega
        · rw [va_up_other _ _ e]; exact h2 k
      · by_cases e : k = sz
        · subst e; rw [va_up_eq]; omega
        · rw [va_up_other _ _ e]; exact h3 k (by omega)
    · omega
  · rcases hm with ⟨o2, -⟩ | ⟨-, ⟨o4, -⟩ | ⟨-, rfl, rfl, rfl⟩⟩
    · exact absurd o o2
    · omega
    · exact ⟨rfl, rfl, rfl, h1, h2, h3⟩
theorem sl_age {p z : Nat → Nat} {i_k i_w r r8 : Int32} (h : PI p z) (hx : r = aqC (p 0) z i_k i_w) (hm : r8 = aqC ((rw8 p z) 0) (rw8 p z) i_k i_w) : r = r8 := by
  subst hx; subst hm; exact aqC_ag (ag_rw h.1.2) _ _
theorem sl_mean {p z : Nat → Nat} {i_w r r8 : Int32} (h : PI p z) (hx : r = mnC (p 0) z i_w) (hm : r8 = mnC ((rw8 p z) 0) (rw8 p z) i_w) : r = r8 := by
  subst hx; subst hm; exact mnC_ag (ag_rw h.1.2) _
theorem sl_rate {p z : Nat → Nat} {i_k i_w r r8 : Int32} (h : PI p z) (hx : r = rtC (p 0) z (p 9) (p 10) i_k i_w) (hm : r8 = rtC ((rw8 p z) 0) (rw8 p z) ((rw8 p z) 9) ((rw8 p z) 10) i_k i_w) : r = r8 := by
  subst hx; subst hm; exact rtC_ag (ag_rw h.1.2) _ _ _ _
theorem sl_fails {p z v v' v8 : Nat → Nat} {i_k i_w : Int32} {rl rl8 : Int64} (h : PI p z) (hv : v 0 = 0) (hx : rl = flC (p 0) z v i_k i_w ∧ v' 0 = 0) (hm : rl8 = flD ((rw8 p z) 0) (rw8 p z) v8 i_k i_w) : rl = rl8 := by
  obtain ⟨rfl, -⟩ := hx; subst hm; exact flC_flD (ag_rw h.1.2) (PI_al h) hv _ _
theorem sl_block {p z v v' v8 : Nat → Nat} {i_k i_w : Int32} {rl rl8 : Int64} (h : PI p z) (hv : v 0 = 0) (hx : rl = blC (p 0) z (p 9) (p 10) v i_k i_w ∧ v' 0 = 0) (hm : rl8 = blD (rw8 p z) v8 i_k i_w) : rl = rl8 := by
  obtain ⟨rfl, -⟩ := hx; subst hm; exact blC_blD (y := rw8 p z) (ag_rw h.1.2) (PI_al h) hv _ _
theorem sl_count {kn : Nat} {p z v v' v8 : Nat → Nat} {i_w r r8 : Int32} (h : PI p z) (hv : v 0 = 0) (hx : r = cnC p z kn v i_w ∧ v' 0 = 0) (hm : r8 = cnD (rw8 p z) kn v8 i_w) : r = r8 := by
  obtain ⟨rfl, -⟩ := hx; subst hm; exact cnC_cnD h hv _ _ _
theorem sl_least {b8' : Nat} {p z : Nat → Nat} {i_k i_v i_w : Int32} {rl rl8 : Int64} (h : PI p z) (hx : rl = lsC (p 0) z (p 9) (p 10) i_k i_v i_w) (hm : rl8 = lsC ((rw8 p z) 0) (rw8 p z) ((rw8 p z) 9) ((rw8 p z) 10) i_k i_v i_w ∧ b8' ≤ 1) : rl = rl8 := by
  subst hx; obtain ⟨rfl, -⟩ := hm; exact lsC_ag (ag_rw h.1.2) h.1.1 _ _ _ _ _
theorem sl_pair {p z : Nat → Nat} {i_k i_v i_w : Int32} {rl rl8 : Int64} (h : PI p z) (hx : rl = prC (p 0) z (p 9) (p 10) i_v i_k i_w) (hm : rl8 = prC ((rw8 p z) 0) (rw8 p z) ((rw8 p z) 9) ((rw8 p z) 10) i_v i_k i_w) : rl = rl8 := by
  subst hx; subst hm; exact prC_ag (ag_rw h.1.2) _ _ _ _ _
theorem sl_seen {p z th la le : Nat → Nat} {fs : Nat → Nat → Int64} {it : Nat → Int64} {q_ ln_ i_ n_ r r8 : Int32} (h : ID th la le fs it) (hx : seR (p 9) (p 10) th la le fs q_ ln_ i_ n_ r) (hm : seR ((rw8 p z) 9) ((rw8 p z) 10) th la le (itF it) q_ ln_ i_ n_ r8) : r = r8 := by
  exact seR_two h hx hm
theorem sl_sheet {th la le th' la' le' th8' la8' le8' : Nat → Nat} {fs fs' : Nat → Nat → Int64} {it it8' : Nat → Int64} {q_ ln_ n_ r r8 : Int32} (h : ID th la le fs it) (hx : r = stC q_ ln_ n_ ∧ ((¬ stOk q_ ln_ n_ ∧ th' = th ∧ la' = la ∧ le' = le ∧ fs' = fs) ∨ (stOk q_ ln_ n_ ∧ th' = va_up th q_.toInt.toNat 1 ∧ la' = va_up la q_.toInt.toNat ln_.toInt.toNat ∧ le' = va_up le q_.toInt.toNat n_.toInt.toNat ∧ fs' = va_up fs q_.toInt.toNat (fun _ => lN 0)))) (hm : r8 = stC q_ ln_ n_ ∧ ((¬ stOk q_ ln_ n_ ∧ th8' = th ∧ la8' = la ∧ le8' = le ∧ it8' = it) ∨ (stOk q_ ln_ n_ ∧ th8' = va_up th q_.toInt.toNat 1 ∧ la8' = va_up la q_.toInt.toNat ln_.toInt.toNat ∧ le8' = va_up le q_.toInt.toNat n_.toInt.toNat ∧ it8' = zlR it (24 * q_.toInt.toNat) n_.toInt.toNat))) : r = r8 ∧ th8' = th' ∧ la8' = la' ∧ le8' = le' ∧ ID th' la' le' fs' it8' := by
  obtain ⟨rfl, hx⟩ := hx
  obtain ⟨rfl, hm⟩ := hm
  rcases hx with ⟨o, rfl, rfl, rfl, rfl⟩ | ⟨o, rfl, rfl, rfl, rfl⟩
  · rcases hm with ⟨-, rfl, rfl, rfl, rfl⟩ | ⟨o2, -⟩
    · exact ⟨rfl, rfl, rfl, rfl, h⟩
    · exact absurd o2 o
  · rcases hm with ⟨o2, -⟩ | ⟨-, rfl, rfl, rfl, rfl⟩
    · exact absurd o o2
    · obtain ⟨h1, h2, h3, h4⟩ := h
      have b1 := o.1
      generalize hq : q_.toInt.toNat = s0 at *
      refine ⟨rfl, rfl, rfl, rfl, fun s => up_le (h1 s) (Nat.le_refl _), fun s => up_le (h2 s) (by omega), fun s => up_le (h3 s) (by omega), fun s hs k hk => ?_⟩
      by_cases e : s = s0
      · subst e; rw [va_up_eq] at hk ⊢
        unfold zlR; rw [if_pos (by omega)]
      · rw [va_up_other _ _ e] at hk ⊢
        have b3 := h3 s
        unfold zlR; rw [if_neg (by omega)]; exact h4 s hs k hk
theorem sl_drop {th la le th' th8' : Nat → Nat} {fs : Nat → Nat → Int64} {it : Nat → Int64} {q_ r r8 : Int32} (h : ID th la le fs it) (hx : r = dpC th le q_ ∧ ((¬ (0 ≤ q_.toInt ∧ q_.toInt ≤ 3 ∧ th q_.toInt.toNat ≠ 0) ∧ th' = th) ∨ ((0 ≤ q_.toInt ∧ q_.toInt ≤ 3 ∧ th q_.toInt.toNat ≠ 0) ∧ th' = va_up th q_.toInt.toNat 0))) (hm : r8 = dpC th le q_ ∧ ((¬ (0 ≤ q_.toInt ∧ q_.toInt ≤ 3 ∧ th q_.toInt.toNat ≠ 0) ∧ th8' = th) ∨ ((0 ≤ q_.toInt ∧ q_.toInt ≤ 3 ∧ th q_.toInt.toNat ≠ 0) ∧ th8' = va_up th q_.toInt.toNat 0))) : r = r8 ∧ th8' = th' ∧ ID th' la le fs it := by
  obtain ⟨rfl, hx⟩ := hx
  obtain ⟨rfl, hm⟩ := hm
  obtain ⟨h1, h2, h3, h4⟩ := h
  rcases hx with ⟨o, rfl⟩ | ⟨o, rfl⟩
  · rcases hm with ⟨-, rfl⟩ | ⟨o2, -⟩
    · exact ⟨rfl, rfl, h1, h2, h3, h4⟩
    · exact absurd o2 o
  · rcases hm with ⟨o2, -⟩ | ⟨-, rfl⟩
    · exact absurd o o2
    · exact ⟨rfl, rfl, fun s => up_le (h1 s) (by omega), h2, h3, h4⟩
theorem sl_item {th la le : Nat → Nat} {fs fs' : Nat → Nat → Int64} {it it8' : Nat → Int64} {q_ ln_ i_ r r8 : Int32} {v_ : Int64} (h : ID th la le fs it) (hx : r = itC th la le q_ ln_ i_ ∧ ((¬ itOk th la le q_ ln_ i_ ∧ fs' = fs) ∨ (itOk th la le q_ ln_ i_ ∧ fs' = va_up fs q_.toInt.toNat (vp_updL (fs q_.toInt.toNat) i_.toInt.toNat (lob (la q_.toInt.toNat) v_))))) (hm : r8 = itC th la le q_ ln_ i_ ∧ ((¬ itOk th la le q_ ln_ i_ ∧ it8' = it) ∨ (itOk th la le q_ ln_ i_ ∧ it8' = vp_updL it (24 * q_.toInt.toNat + i_.toInt.toNat) (lob (la q_.toInt.toNat) v_)))) : r = r8 ∧ ID th la le fs' it8' := by
  obtain ⟨rfl, hx⟩ := hx
  obtain ⟨rfl, hm⟩ := hm
  obtain ⟨h1, h2, h3, h4⟩ := h
  rcases hx with ⟨o, rfl⟩ | ⟨o, rfl⟩
  · rcases hm with ⟨-, rfl⟩ | ⟨o2, -⟩
    · exact ⟨rfl, h1, h2, h3, h4⟩
    · exact absurd o2 o
  · rcases hm with ⟨o2, -⟩ | ⟨-, rfl⟩
    · exact absurd o o2
    · have o3 := rfu_0 (by rw [o.2]; rfl)
      have o4 := o3.2.2
      have k1 : (nI 1).toInt = 1 := by decide
      have b1 := o.1
      have b3 := h3 q_.toInt.toNat
      generalize hq : q_.toInt.toNat = s0 at *
      refine ⟨rfl, h1, h2, h3, fun s hs k hk => ?_⟩
      by_cases e : s = s0
      · subst e; rw [va_up_eq]; unfold vp_updL
        by_cases e2 : k = i_.toInt.toNat
        · rw [if_pos e2, if_pos (by omega)]
        · rw [if_neg e2, if_neg (by omega)]; exact h4 _ hs k hk
      · rw [va_up_other _ _ e]; unfold vp_updL
        have b4 := h3 s
        rw [if_neg (by omega)]; exact h4 s hs k hk
theorem sl_film {p z th la le : Nat → Nat} {fs fs' : Nat → Nat → Int64} {it it8' : Nat → Int64} {q_ ln_ i_ r r8 : Int32} (hp : PI p z) (h : ID th la le fs it) (hx : r = fmC (p 0) th la le q_ ln_ i_ ∧ ((¬ fmOk (p 0) th la le q_ ln_ i_ ∧ fs' = fs) ∨ (fmOk (p 0) th la le q_ ln_ i_ ∧ fs' = va_up fs q_.toInt.toNat (fmF (la q_.toInt.toNat) z (fs q_.toInt.toNat) i_.toInt.toNat (p 0))))) (hm : r8 = fmC ((rw8 p z) 0) th la le q_ ln_ i_ ∧ ((¬ fmOk ((rw8 p z) 0) th la le q_ ln_ i_ ∧ it8' = it) ∨ (fmOk ((rw8 p z) 0) th la le q_ ln_ i_ ∧ it8' = fmM (rw8 p z) it (24 * q_.toInt.toNat + i_.toInt.toNat) ((rw8 p z) 0)))) : r = r8 ∧ ID th la le fs' it8' := by
  obtain ⟨rfl, hx⟩ := hx
  obtain ⟨rfl, hm⟩ := hm
  obtain ⟨h1, h2, h3, h4⟩ := h
  refine ⟨rfl, ?_⟩
  rcases hx with ⟨o, rfl⟩ | ⟨o, rfl⟩
  · rcases hm with ⟨-, rfl⟩ | ⟨o2, -⟩
    · exact ⟨h1, h2, h3, h4⟩
    · exact absurd o2 o
  · rcases hm with ⟨o2, -⟩ | ⟨-, rfl⟩
    · exact absurd o o2
    · have o3 := rfu_0 (by rw [o.2]; rfl)
      have o4 := o3.2.2
      have hn := hp.1
      have k1 : (nI (p 0)).toInt = (p 0 : Nat) := nI_toInt (by omega)
      have b1 := o.1
      have b3 := h3 q_.toInt.toNat
      have b5 := h2 q_.toInt.toNat
      generalize hq : q_.toInt.toNat = s0 at *
      have fv := fmF_v (la := la s0) (z := z) (f := fs s0) (y := i_.toInt.toNat) b5 (p 0) (fun k q1 q2 => Nat.le_trans (z_le (n := p 0) ⟨q1, q2⟩) hp.2.1)
      refine ⟨h1, h2, h3, fun s hs k hk => ?_⟩
      rw [fmM_v]
      by_cases e : s = s0
      · subst e; rw [va_up_eq, fv k]
        show _ = if 24 * s + i_.toInt.toNat ≤ 24 * s + k ∧ 24 * s + k < 24 * s + i_.toInt.toNat + p 0 then lN (rw8 p z (24 * s + k - (24 * s + i_.toInt.toNat) + 1)) else it (24 * s + k)
        by_cases e2 : i_.toInt.toNat ≤ k ∧ k < i_.toInt.toNat + p 0
        · rw [if_pos e2, if_pos (by omega), show 24 * s + k - (24 * s + i_.toInt.toNat) + 1 = k - i_.toInt.toNat + 1 by omega, rw8_z ⟨by omega, by omega⟩ hn.2]
        · rw [if_neg e2, if_neg (by omega)]; exact h4 _ hs k hk
      · rw [va_up_other _ _ e]
        have b4 := h3 s
        show _ = if 24 * s0 + i_.toInt.toNat ≤ 24 * s + k ∧ 24 * s + k < 24 * s0 + i_.toInt.toNat + p 0 then _ else it (24 * s + k)
        rw [if_neg (by omega)]; exact h4 s hs k hk
theorem sl_copy {th la le : Nat → Nat} {fs fs' : Nat → Nat → Int64} {it it8' : Nat → Int64} {q_ i_ j_ o_ n_ r r8 : Int32} (h : ID th la le fs it) (hx : r = cyC th la le q_ i_ o_ j_ n_ ∧ ((¬ cyOk th la le q_ i_ o_ j_ n_ ∧ fs' = fs) ∨ (cyOk th la le q_ i_ o_ j_ n_ ∧ fs' = va_up fs o_.toInt.toNat (va_cpy (fs q_.toInt.toNat) (fs o_.toInt.toNat) i_.toInt.toNat j_.toInt.toNat n_.toInt.toNat)))) (hm : r8 = cyC th la le q_ i_ o_ j_ n_ ∧ ((¬ cyOk th la le q_ i_ o_ j_ n_ ∧ it8' = it) ∨ (cyOk th la le q_ i_ o_ j_ n_ ∧ it8' = va_cpy it it (24 * q_.toInt.toNat + i_.toInt.toNat) (24 * o_.toInt.toNat + j_.toInt.toNat) n_.toInt.toNat))) : r = r8 ∧ ID th la le fs' it8' := by
  obtain ⟨rfl, hx⟩ := hx
  obtain ⟨rfl, hm⟩ := hm
  obtain ⟨h1, h2, h3, h4⟩ := h
  rcases hx with ⟨o, rfl⟩ | ⟨o, rfl⟩
  · rcases hm with ⟨-, rfl⟩ | ⟨o2, -⟩
    · exact ⟨rfl, h1, h2, h3, h4⟩
    · exact absurd o2 o
  · rcases hm with ⟨o2, -⟩ | ⟨-, rfl⟩
    · exact absurd o o2
    · obtain ⟨o1, -, -, o4, o5⟩ := o
      have b3 := h3 q_.toInt.toNat
      have b4 := h3 o_.toInt.toNat
      generalize hq : q_.toInt.toNat = s0 at *
      generalize hq1 : o_.toInt.toNat = s1 at *
      refine ⟨rfl, h1, h2, h3, fun s hs k hk => ?_⟩
      by_cases e : s = s1
      · subst e; rw [va_up_eq]; simp only [va_cpy]
        by_cases e2 : j_.toInt.toNat ≤ k ∧ k < j_.toInt.toNat + n_.toInt.toNat
        · rw [if_pos e2, if_pos (by omega), h4 s0 (by omega) _ (by omega)]; congr 1; omega
        · rw [if_neg e2, if_neg (by omega)]; exact h4 _ hs k hk
      · rw [va_up_other _ _ e]
        have b6 := h3 s
        simp only [va_cpy]
        rw [if_neg (by omega)]; exact h4 s hs k hk
