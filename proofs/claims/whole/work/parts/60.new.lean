/-! new cells -/
theorem rl_nil : (fun _ => none : Nat → Option Nat) = rl [] := by funext k; simp [rl]
theorem rl_push (L : List Nat) (k v : Nat) (h : L.length = k) : va_up (rl L) k (some v) = rl (L ++ [v]) := by
  subst h; funext j; simp only [va_up, rl]
  by_cases hj : j = L.length
  · subst hj; rw [if_pos rfl, List.getElem?_append_right (Nat.le_refl _), Nat.sub_self]; rfl
  · rw [if_neg hj]
    rcases Nat.lt_or_ge j L.length with q | q
    · rw [List.getElem?_append_left q]
    · rw [List.getElem?_eq_none q, List.getElem?_eq_none (by rw [List.length_append]; show L.length + 1 ≤ j; omega)]
section QN
variable {p : Program} {l : Launch} {e : Env} {R : Room} {s : State} {m : MethodId} {args : Array Value} {below : List Frame} {meth : Method} {c : Code} {H : Heap} {locs : List Loc} {cells slots : Nat} {Q : State → Prop} {cc : ByteArray} {pc : Nat} {ls : Array Slot} {rest : List Value} {D : va_G} {Z : Nat → ClassId} {A : Nat → Prop} {ws : va_W} {a : Nat}
theorem q_newi (hx : p.tables.exec = Jvm.exec) (hb : c.code = cc) (harr : (Cond.arrayClass .int).before args s = true) (hK : KK D Z s) (hw : WS D A s ws H locs) (hA : ∀ q : Nat, s.heap.size ≤ q → A q) {N' : Nat} (hN : N' ≤ 1000) (hcells : cells + 1 ≤ R.cells) (hslots : slots + N' ≤ R.slots) (hdg : decode cc pc = .ok (.newarray .int, 2))
    (kk : ∀ (q : Nat) (H1 : Heap), WS D A s (ws ++ [(q, .inl (Z 0, N', .inl (aI (fun _ => 0))))]) H1 locs → W p l e R s m args below meth c H1 locs (cells + 1) (slots + N') Q (F0 m (pc + 2) ls (.ref q :: rest))) : W p l e R s m args below meth c H locs cells slots Q (F0 m pc ls (.int (nI N') :: rest)) := by
  refine va_newa (atype := .int) (ty := .int) (a0 := (N', .inl (aI (fun _ => 0)))) hx hb harr rfl hK.1 hw.1 hw.2.1 hw.2.2 hA (fun cA => rfl) (nI_pos (by omega)) (nI_clamp (by omega)) (show N' * 4 ≤ 536870912 by omega) hcells hslots hdg (fun q cA H1 hK1 hP1 hD1 hS1 => ?_)
  have h1 : s.vm.findClass ("[" ++ FieldType.int.toString) = some cA := (hK1.2 5 (cA, .int) rfl).2
  have h2 : s.vm.findClass ("[" ++ FieldType.int.toString) = some (Z 0) := (hK.1.2 0 (Z 0, .int) rfl).2
  obtain rfl : cA = Z 0 := Option.some.inj (h1.symm.trans h2)
  exact kk q H1 ⟨hP1, hD1, hS1⟩
theorem q_newl (hx : p.tables.exec = Jvm.exec) (hb : c.code = cc) (harr : (Cond.arrayClass .long).before args s = true) (hK : KK D Z s) (hw : WS D A s ws H locs) (hA : ∀ q : Nat, s.heap.size ≤ q → A q) {N' : Nat} (hN : N' ≤ 1000) (hcells : cells + 1 ≤ R.cells) (hslots : slots + N' ≤ R.slots) (hdg : decode cc pc = .ok (.newarray .long, 2))
    (kk : ∀ (q : Nat) (H1 : Heap), WS D A s (ws ++ [(q, .inl (Z 1, N', .inr (.inl (aL (fun _ => 0)))))]) H1 locs → W p l e R s m args below meth c H1 locs (cells + 1) (slots + N') Q (F0 m (pc + 2) ls (.ref q :: rest))) : W p l e R s m args below meth c H locs cells slots Q (F0 m pc ls (.int (nI N') :: rest)) := by
  refine va_newa (atype := .long) (ty := .long) (a0 := (N', .inr (.inl (aL (fun _ => 0))))) hx hb harr rfl hK.1 hw.1 hw.2.1 hw.2.2 hA (fun cA => rfl) (nI_pos (by omega)) (nI_clamp (by omega)) (show N' * 8 ≤ 536870912 by omega) hcells hslots hdg (fun q cA H1 hK1 hP1 hD1 hS1 => ?_)
  have h1 : s.vm.findClass ("[" ++ FieldType.long.toString) = some cA := (hK1.2 5 (cA, .long) rfl).2
  have h2 : s.vm.findClass ("[" ++ FieldType.long.toString) = some (Z 1) := (hK.1.2 1 (Z 1, .long) rfl).2
  obtain rfl : cA = Z 1 := Option.some.inj (h1.symm.trans h2)
  exact kk q H1 ⟨hP1, hD1, hS1⟩
theorem q_newch (hx : p.tables.exec = Jvm.exec) (hb : c.code = cc) (harr : (Cond.arrayClass .char).before args s = true) (hK : KK D Z s) (hw : WS D A s ws H locs) (hA : ∀ q : Nat, s.heap.size ≤ q → A q) {N' : Nat} (hN : N' ≤ 1000) (hcells : cells + 1 ≤ R.cells) (hslots : slots + N' ≤ R.slots) (hdg : decode cc pc = .ok (.newarray .char, 2))
    (kk : ∀ (q : Nat) (H1 : Heap), WS D A s (ws ++ [(q, .inl (Z 2, N', .inl (aI (fun _ => 0))))]) H1 locs → W p l e R s m args below meth c H1 locs (cells + 1) (slots + N') Q (F0 m (pc + 2) ls (.ref q :: rest))) : W p l e R s m args below meth c H locs cells slots Q (F0 m pc ls (.int (nI N') :: rest)) := by
  refine va_newa (atype := .char) (ty := .char) (a0 := (N', .inl (aI (fun _ => 0)))) hx hb harr rfl hK.1 hw.1 hw.2.1 hw.2.2 hA (fun cA => rfl) (nI_pos (by omega)) (nI_clamp (by omega)) (show N' * 2 ≤ 536870912 by omega) hcells hslots hdg (fun q cA H1 hK1 hP1 hD1 hS1 => ?_)
  have h1 : s.vm.findClass ("[" ++ FieldType.char.toString) = some cA := (hK1.2 5 (cA, .char) rfl).2
  have h2 : s.vm.findClass ("[" ++ FieldType.char.toString) = some (Z 2) := (hK.1.2 2 (Z 2, .char) rfl).2
  obtain rfl : cA = Z 2 := Option.some.inj (h1.symm.trans h2)
  exact kk q H1 ⟨hP1, hD1, hS1⟩
theorem q_newq {t0 : Nat} {C own : String} {index : Nat} (ht : ([(Z 0, FieldType.int), (Z 1, .long), (Z 2, .char), (Z 3, .object "ReplaceAges$Plan"), (Z 4, .object "ReplaceAges$Sheet")] : List (ClassId × FieldType))[t0]? = some (Z t0, .object C)) (hx : p.tables.exec = Jvm.exec) (hb : c.code = cc) (hown : s.vm.findClass own = some m.cls) (hcl : (Cond.classLink own index C).before args s = true) (hover : va_AO C s) (hK : KK D Z s) (hw : WS D A s ws H locs) (hA : ∀ q : Nat, s.heap.size ≤ q → A q) {N' : Nat} (hN : N' ≤ 1000) (hcells : cells + 1 ≤ R.cells) (hslots : slots + N' ≤ R.slots) (hdg : decode cc pc = .ok (.anewarray index, 3))
    (kk : ∀ (q : Nat) (H1 : Heap), WS D A s (ws ++ [(q, .inl (Z t0, N', .inr (.inr (.inr (.inr (rl []))))))]) H1 locs → W p l e R s m args below meth c H1 locs (cells + 1) (slots + N') Q (F0 m (pc + 3) ls (.ref q :: rest))) : W p l e R s m args below meth c H locs cells slots Q (F0 m pc ls (.int (nI N') :: rest)) := by
  refine va_newq hx hb hown hcl hover hK.1 hw.1 hw.2.1 hw.2.2 hA (nI_pos (by omega)) (nI_clamp (by omega)) (show N' * 4 ≤ 536870912 by omega) hcells hslots hdg (fun q cA H1 hK1 hP1 hD1 hS1 => ?_)
  obtain ⟨-, -, -, -, -, h1⟩ := (hK1.2 5 (cA, .object C) rfl).2
  obtain ⟨-, -, -, -, -, h2⟩ := (hK.1.2 t0 _ ht).2
  obtain rfl : cA = Z t0 := Option.some.inj (h1.symm.trans h2)
  rw [rl_nil] at hP1 hD1
  exact kk q H1 ⟨hP1, hD1, hS1⟩
theorem q_new (hx : p.tables.exec = Jvm.exec) (hb : c.code = cc) {own C : String} {T : u_T} {N ci index : Nat} {Ts : List Cond} (hts : ∀ w ∈ Ts, w.before args s = true) (hin : ∀ w ∈ u_ws C T N, w ∈ Ts) (ty0 : Nat → FieldType) (hty : ∀ k, k < N → parseFieldDescriptor (T k).2.2.1 = some (ty0 k)) (hown : s.vm.findClass own = some m.cls) (hcl : (Cond.classLink own index C).before args s = true) (hinst : (Cond.instantiable C N).before args s = true) (hini : (Cond.initialized C).before args s = true) (hK : KK D Z s) (hw : WS D A s ws H locs) (hA : ∀ q : Nat, s.heap.size ≤ q → A q) (hc : vwCl[ci]? = some (C, T, N)) {fs : List Value} (hfs : ∀ j, j < N → defaultValue (ty0 j) = vp_V fs j) (hcells : cells + 1 ≤ R.cells) (hslots : slots + N ≤ R.slots) (hdg : decode cc pc = .ok (.new index, 3))
    (kk : ∀ (q : Nat) (H1 : Heap), WS D A s (ws ++ [(q, .inr (ci, fs))]) H1 locs → W p l e R s m args below meth c H1 locs (cells + 1) (slots + N) Q (F0 m (pc + 3) ls (.ref q :: rest))) : W p l e R s m args below meth c H locs cells slots Q (F0 m pc ls rest) :=
  va_new hx hb hts hin ty0 hty hown hcl hinst hini hK.1 hw.1 hw.2.1 hw.2.2 hA hc hfs hcells hslots hdg (fun q H1 h1 h2 h3 => kk q H1 ⟨h1, h2, h3⟩)
end QN
/-- arrays over the two classes can be made -/
def AO2 (U : State) : Prop := va_AO "ReplaceAges$Plan" U ∧ va_AO "ReplaceAges$Sheet" U
theorem AO2.warm {s U : State} (h : AO2 s) (hW : s.WarmedH U.vm) : AO2 U := ⟨va_AO.moved hW.alike h.1, va_AO.moved hW.alike h.2⟩
abbrev cPre2 (D : va_G) (Z : Nat → ClassId) (sz : Nat) (av : List Value) (ws : va_W) : Array Value → State → Prop := va_Pc av (fun U => U.heap.size = sz ∧ va_P D vwCl ws U.heap ∧ KK D Z U ∧ va_D (fun _ => True) ws ∧ AO2 U)
abbrev cMv2 (l : Launch) (y : MethodName) (ws : List Cond) (rm : Room) (D : va_G) (Z : Nat → ClassId) (sz : Nat) (av : List Value) (win : va_W) {S : Type} (post : S → Prop) (wout : S → va_W) (mc ms : Nat) : Prop := Met l y ws rm (cPre2 D Z sz av win) (cQv D Z sz win post wout) mc ms (va_A win sz)
theorem fb_cPre2 {D : va_G} {Z : Nat → ClassId} {sz : Nat} {av : List Value} {ws : va_W} : FrameBlind (cPre2 D Z sz av ws) := fun a U g mk q => by
  obtain ⟨q0, q1, qP, qK, qD, qA⟩ := q
  exact ⟨q0, q1, qP, ⟨va_K.moved (u := U) (U := U.calling g mk a) (Vm.Alike.refl U.vm) qK.1, fun w hw => va_Nw.same rfl rfl (qK.2 w hw)⟩, qD, ⟨va_AO.moved (u := U) (U := U.calling g mk a) (Vm.Alike.refl U.vm) qA.1, va_AO.moved (u := U) (U := U.calling g mk a) (Vm.Alike.refl U.vm) qA.2⟩⟩
theorem pre_of2 {D : va_G} {Z : Nat → ClassId} {A : Nat → Prop} {s : State} {H : Heap} {av : List Value} {ws : va_W} (hP : va_P D vwCl ws H) (hK : KK D Z s) (hD : va_D A ws) (hAO : AO2 s) : ∀ U : State, U.heap = H → s.WarmedH U.vm → cPre2 D Z H.size av ws av.toArray U := fun U hU hW => ⟨rfl, by rw [hU], by rw [hU]; exact hP, hK.warm hW, hD.weaken (fun _ _ _ _ => trivial), hAO.warm hW⟩
theorem q_open2 {l : Launch} {y : MethodName} {cc : ByteArray} {maxL : Nat} {ret : Option FieldType} {ws ws' : List Cond} {rm : Room} {D : va_G} {Z : Nat → ClassId} {sz : Nat} {av : List Value} {win : va_W} {mc ms : Nat} {Qc : (sz : Nat) → Array Value → State → Outcome → State → Prop} (hy : plainName y.cls = true) (hw : ws = Cond.code y cc maxL ret :: ws') (hn : (lg_sl av).length ≤ maxL)
    (body : ∀ (p : Program) (e : Env) (s : State) (m : MethodId) (below : List Frame) (meth : Method) (c : Code) (ls : Array Slot) (A : Nat → Prop) (H : Heap) (locs : List Loc), A = va_A win s.heap.size → p.tables.exec = Jvm.exec → c.code = cc → meth.sig.returnType = ret → c.maxLocals = maxL → s.vm.findClass y.cls = some m.cls → meth.name = y.name → (∀ w ∈ ws, w.before av.toArray s = true) → meth.locks = false → (∀ q : Nat, s.heap.size ≤ q → A q) → KK D Z s → WS D A s win H locs → lv_has ls maxL (lv_args 0 av) → AO2 s →
      W p l e rm s m av.toArray below meth c H locs 0 0 (MQ below (Qc s.heap.size) av.toArray s mc ms A) (F0 m 0 ls [])) : Met l y ws rm (cPre2 D Z sz av win) (Qc sz) mc ms (va_A win sz) := by
  refine Met.ofW (cc := cc) (maxL := maxL) (ret := ret) hy hw ?_
  intro p e s m args below meth c s₁ B hml hv
  obtain ⟨rfl, hsz, hP, hK, hD0, hAO⟩ := hv
  subst hsz
  have hts := atoms_spec (ws := ws) B.pre
  rw [lg_entry_eq]
  exact body p e s m below meth c _ _ s.heap [] rfl B.exec B.bytes B.returns hml (findClass_of_methodNamed B.named) (name_of_methodNamed B.named B.method).1 hts B.notSynchronized (fun q h => Or.inr h) hK ⟨hP, hD0.self, va_S.rf⟩ (lv_entry av hn) hAO
