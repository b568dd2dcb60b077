set_option maxHeartbeats 8000000 in
set_option maxRecDepth 100000 in
theorem KK_start {s : State} {b : Nat} (hts : ∀ w ∈ wsL_law, w.before #[Value.ref b] s = true) (hg : ∀ w ∈ lw_tbl, w.before #[Value.ref b] s = true) : AO2 s ∧ ∃ (D : va_G) (Z : Nat → ClassId), KK D Z s := by
  obtain ⟨c0, i0, k0⟩ := u_known (C := RX0) (T := TX0) (N := 4) (n := 4) hts inlX0 (hts (Cond.instantiable RX0 4) (by decide +kernel))
  obtain ⟨c1, i1, k1⟩ := u_known (C := RX1) (T := TX1) (N := 2) (n := 2) hts inlX1 (hts (Cond.instantiable RX1 2) (by decide +kernel))
  obtain ⟨c2, i2, k2⟩ := u_known (C := RX2) (T := TX2) (N := 10) (n := 10) hts inlX2 (hts (Cond.instantiable RX2 10) (by decide +kernel))
  obtain ⟨c3, i3, k3⟩ := u_known (C := RX3) (T := TX3) (N := 2) (n := 2) hts inlX3 (hts (Cond.instantiable RX3 2) (by decide +kernel))
  obtain ⟨c4, i4, k4⟩ := u_known (C := RX4) (T := TX4) (N := 4) (n := 4) hts inlX4 (hts (Cond.instantiable RX4 4) (by decide +kernel))
  obtain ⟨c5, i5, k5⟩ := u_known (C := RX5) (T := TX5) (N := 2) (n := 2) hts inlX5 (hts (Cond.instantiable RX5 2) (by decide +kernel))
  obtain ⟨c6, i6, k6⟩ := u_known (C := RX6) (T := TX6) (N := 9) (n := 9) hts inlX6 (hts (Cond.instantiable RX6 9) (by decide +kernel))
  obtain ⟨c7, i7, k7⟩ := u_known (C := RX7) (T := TX7) (N := 10) (n := 10) hts inlX7 (hts (Cond.instantiable RX7 10) (by decide +kernel))
  obtain ⟨c8, i8, k8⟩ := u_known (C := RX8) (T := TX8) (N := 33) (n := 33) hts inlX8 (hts (Cond.instantiable RX8 33) (by decide +kernel))
  obtain ⟨a0, kA0, cm0, f0, g0, e0⟩ := Cond.arrayClass_spec (hts (Cond.arrayClass .int) (by decide +kernel))
  obtain ⟨a1, kA1, cm1, f1, g1, e1⟩ := Cond.arrayClass_spec (hts (Cond.arrayClass .long) (by decide +kernel))
  obtain ⟨a2, kA2, cm2, f2, g2, e2⟩ := Cond.arrayClass_spec (hts (Cond.arrayClass .char) (by decide +kernel))
  have ho3 : va_AO "ReplaceAges$Plan" s := va_AO.of (hg (Cond.arrayOver (.object "ReplaceAges$Plan")) (by decide +kernel))
  obtain ⟨cm3, a3, kA3, p3, -, g3, e3, f3⟩ := Cond.arrayOver_spec ho3
  have ho4 : va_AO "ReplaceAges$Sheet" s := va_AO.of (hg (Cond.arrayOver (.object "ReplaceAges$Sheet")) (by decide +kernel))
  obtain ⟨cm4, a4, kA4, p4, -, g4, e4, f4⟩ := Cond.arrayOver_spec ho4
  have hnw : ∀ q ∈ NW, Cond.methodLinkNest q.1 q.2.1 q.2.2 "ReplaceAges" ∈ lw_tbl := by decide +kernel
  refine ⟨⟨ho3, ho4⟩, (fun k => match k with | 0 => c0 | 1 => c1 | 2 => c2 | 3 => c3 | 4 => c4 | 5 => c5 | 6 => c6 | 7 => c7 | _ => c8, fun k => match k with | 0 => i0 | 1 => i1 | 2 => i2 | 3 => i3 | 4 => i4 | 5 => i5 | 6 => i6 | 7 => i7 | _ => i8), fun k => match k with | 0 => a0 | 1 => a1 | 2 => a2 | 3 => a3 | _ => a4, ⟨?_, ?_⟩, fun q hq => va_Nw.of rfl (hg _ (hnw q hq))⟩
  · intro k q hq
    match k, hq with
    | 0, hq => cases hq; exact k0
    | 1, hq => cases hq; exact k1
    | 2, hq => cases hq; exact k2
    | 3, hq => cases hq; exact k3
    | 4, hq => cases hq; exact k4
    | 5, hq => cases hq; exact k5
    | 6, hq => cases hq; exact k6
    | 7, hq => cases hq; exact k7
    | 8, hq => cases hq; exact k8
    | k + 9, hq => simp at hq
  · intro k q hq
    match k, hq with
    | 0, hq => cases hq; exact ⟨fun n z => ⟨fun k h => (by cases h), kA0, g0, cm0, e0⟩, f0⟩
    | 1, hq => cases hq; exact ⟨fun n z => ⟨fun k h => (by cases h), kA1, g1, cm1, e1⟩, f1⟩
    | 2, hq => cases hq; exact ⟨fun n z => ⟨fun k h => (by cases h), kA2, g2, cm2, e2⟩, f2⟩
    | 3, hq => cases hq; exact ⟨fun n z => ⟨fun k h => (by cases h), kA3, g3, cm3, e3⟩, kA3, cm3, g3, e3, p3, f3⟩
    | 4, hq => cases hq; exact ⟨fun n z => ⟨fun k h => (by cases h), kA4, g4, cm4, e4⟩, kA4, cm4, g4, e4, p4, f4⟩
    | k + 5, hq => simp at hq
