def bb (P : Prop) [Decidable P] : Nat := if P then 1 else 0
theorem bb_t {P : Prop} [Decidable P] (h : P) : bb P = 1 := if_pos h
theorem bb_f {P : Prop} [Decidable P] (h : ¬ P) : bb P = 0 := if_neg h
theorem bb_0 {P : Prop} [Decidable P] (h : ((bb P : Nat) : Int) = 0) : ¬ P := fun q => by rw [bb_t q] at h; cases h
theorem bb_1 {P : Prop} [Decidable P] (h : ¬ ((bb P : Nat) : Int) = 0) : P := Classical.byContradiction fun q => h (by rw [bb_f q]; rfl)
theorem bb_le (P : Prop) [Decidable P] : bb P ≤ 1 := by unfold bb; split <;> omega
theorem bb_c {P Q : Prop} [Decidable P] [Decidable Q] (h : P ↔ Q) : bb P = bb Q := by unfold bb; by_cases hp : P <;> simp [hp, ← h]
theorem bb_n (P : Prop) [Decidable P] : narrow .boolean (.int (nI (bb P))) = .int (nI (bb P)) := by unfold bb; split <;> rfl
theorem aI_cpy (f g : Nat → Nat) (sp dp n : Nat) : va_cpy (aI f) (aI g) sp dp n = aI (va_cpy f g sp dp n) := by
  funext k; simp only [va_cpy, aI]; split <;> rfl
section QM
variable {p : Program} {l : Launch} {e : Env} {R : Room} {s : State} {m : MethodId} {args : Array Value} {below : List Frame} {meth : Method} {c : Code} {H : Heap} {locs : List Loc} {cells slots : Nat} {Q : State → Prop} {cc : ByteArray} {pc : Nat} {ls : Array Slot} {rest : List Value} {D : va_G} {Z : Nat → ClassId} {A : Nat → Prop} {ws : va_W} {a : Nat}
theorem q_topi {x y : Int32} (h : x = y) (k : W p l e R s m args below meth c H locs cells slots Q (F0 m pc ls (.int y :: rest))) : W p l e R s m args below meth c H locs cells slots Q (F0 m pc ls (.int x :: rest)) := by rw [h]; exact k
theorem q_topl {x y : Int64} (h : x = y) (k : W p l e R s m args below meth c H locs cells slots Q (F0 m pc ls (.long y :: rest))) : W p l e R s m args below meth c H locs cells slots Q (F0 m pc ls (.long x :: rest)) := by rw [h]; exact k
theorem q_copyi (hx : p.tables.exec = Jvm.exec) (hb : c.code = cc) (hml : c.maxLocals = ls.size) {own : String} {index : Nat} (hown : s.vm.findClass own = some m.cls) (hlink : (Cond.methodLink own index arraycopyName).before args s = true) (hnat : (Cond.native arraycopyName).before args s = true) (hstat : (Cond.static arraycopyName).before args s = true) (hini : (Cond.initialized "java/lang/System").before args s = true) (hK : KK D Z s) (hw : WS D A s ws H locs) (q0 q1 : Nat) {a0 n0 n1 : Nat} {f g : Nat → Nat} {sp dp n : Nat} (h1 : sp < 2 ^ 31) (h2 : dp < 2 ^ 31) (h3 : n < 2 ^ 31) (h4 : sp + n ≤ n0) (h5 : dp + n ≤ n1) (hframes : 1 ≤ R.frames) (hlocals : (rest.map fun v => v.category).sum + (nativeFrameWords "java/lang/System" "arraycopy" 5 + 11) ≤ R.locals) (hdg : decode cc pc = .ok (.invokestatic index, 3)) (ha0 : ws[q0]? = some (a0, .inl (Z 0, n0, .inl (aI f)))) (ha1 : ws[q1]? = some (a, .inl (Z 0, n1, .inl (aI g))))
    (kk : ∀ (H1 : Heap) (locs1 : List Loc), WS D A s (ws.set q1 (a, .inl (Z 0, n1, .inl (aI (va_cpy f g sp dp n))))) H1 locs1 → W p l e R s m args below meth c H1 locs1 cells slots Q (F0 m (pc + 3) ls rest)) : W p l e R s m args below meth c H locs cells slots Q (F0 m pc ls (.int (nI n) :: .int (nI dp) :: .ref a :: .int (nI sp) :: .ref a0 :: rest)) :=
  va_copyi (ty := .int) hx hb hml hown hlink hnat hstat hini hK.1 hw.1 hw.2.1 hw.2.2 q0 q1 0 0 ha0 ha1 rfl rfl rfl (nI_pos h1) (nI_pos h2) (nI_pos h3) (by rw [nI_clamp h1, nI_clamp h3]; exact h4) (by rw [nI_clamp h2, nI_clamp h3]; exact h5) (fun _ _ => rfl) hframes hlocals hdg (fun H1 l1 h6 h7 h8 => kk H1 l1 (by rw [nI_clamp h1, nI_clamp h2, nI_clamp h3, aI_cpy] at h6 h7; exact ⟨h6, h7, h8⟩))
theorem q_copyl (hx : p.tables.exec = Jvm.exec) (hb : c.code = cc) (hml : c.maxLocals = ls.size) {own : String} {index : Nat} (hown : s.vm.findClass own = some m.cls) (hlink : (Cond.methodLink own index arraycopyName).before args s = true) (hnat : (Cond.native arraycopyName).before args s = true) (hstat : (Cond.static arraycopyName).before args s = true) (hini : (Cond.initialized "java/lang/System").before args s = true) (hK : KK D Z s) (hw : WS D A s ws H locs) (q0 q1 : Nat) {a0 n0 n1 : Nat} {f g : Nat → Int64} {sp dp n : Nat} (h1 : sp < 2 ^ 31) (h2 : dp < 2 ^ 31) (h3 : n < 2 ^ 31) (h4 : sp + n ≤ n0) (h5 : dp + n ≤ n1) (hframes : 1 ≤ R.frames) (hlocals : (rest.map fun v => v.category).sum + (nativeFrameWords "java/lang/System" "arraycopy" 5 + 11) ≤ R.locals) (hdg : decode cc pc = .ok (.invokestatic index, 3)) (ha0 : ws[q0]? = some (a0, .inl (Z 1, n0, .inr (.inl f)))) (ha1 : ws[q1]? = some (a, .inl (Z 1, n1, .inr (.inl g))))
    (kk : ∀ (H1 : Heap) (locs1 : List Loc), WS D A s (ws.set q1 (a, .inl (Z 1, n1, .inr (.inl (va_cpy f g sp dp n))))) H1 locs1 → W p l e R s m args below meth c H1 locs1 cells slots Q (F0 m (pc + 3) ls rest)) : W p l e R s m args below meth c H locs cells slots Q (F0 m pc ls (.int (nI n) :: .int (nI dp) :: .ref a :: .int (nI sp) :: .ref a0 :: rest)) :=
  va_copyl (ty := .long) hx hb hml hown hlink hnat hstat hini hK.1 hw.1 hw.2.1 hw.2.2 q0 q1 1 1 ha0 ha1 rfl rfl rfl (nI_pos h1) (nI_pos h2) (nI_pos h3) (by rw [nI_clamp h1, nI_clamp h3]; exact h4) (by rw [nI_clamp h2, nI_clamp h3]; exact h5) (fun _ _ => rfl) hframes hlocals hdg (fun H1 l1 h6 h7 h8 => kk H1 l1 (by rw [nI_clamp h1, nI_clamp h2, nI_clamp h3] at h6 h7; exact ⟨h6, h7, h8⟩))
theorem q_cald (hx : p.tables.exec = Jvm.exec) (hb : c.code = cc) (hK : KK D Z s) (hw : WS D A s ws H locs) (q0 : Nat) {n i : Nat} {w : Nat → Nat} (hin : i < n) (hn : n < 2 ^ 31) (hdg : decode cc pc = .ok (.caload, 1)) (ha : ws[q0]? = some (a, .inl (Z 2, n, .inl (aI w)))) (kk : W p l e R s m args below meth c H locs cells slots Q (F0 m (pc + 1) ls (.int (nI (w i)) :: rest))) : W p l e R s m args below meth c H locs cells slots Q (F0 m pc ls (.int (nI i) :: .ref a :: rest)) := va_cald hx hb hK.1 hw.1 q0 2 ha rfl (vp_in_nI hin hn) hdg (by rw [nI_clamp (by omega)]; exact kk)
theorem q_cast (hx : p.tables.exec = Jvm.exec) (hb : c.code = cc) (hK : KK D Z s) (hw : WS D A s ws H locs) (q0 : Nat) {n i v : Nat} {w : Nat → Nat} (hin : i < n) (hn : n < 2 ^ 31) (hv : v < 65536) (hdg : decode cc pc = .ok (.castore, 1)) (ha : ws[q0]? = some (a, .inl (Z 2, n, .inl (aI w)))) (kk : ∀ (H1 : Heap) (locs1 : List Loc), WS D A s (ws.set q0 (a, .inl (Z 2, n, .inl (aI (va_up w i v))))) H1 locs1 → W p l e R s m args below meth c H1 locs1 cells slots Q (F0 m (pc + 1) ls rest)) : W p l e R s m args below meth c H locs cells slots Q (F0 m pc ls (.int (nI v) :: .int (nI i) :: .ref a :: rest)) := va_cast hx hb hK.1 hw.1 hw.2.1 hw.2.2 q0 2 ha rfl (vp_in_nI hin hn) hdg (fun H1 l1 h1 h2 h3 => kk H1 l1 (by
  have e : vp_nar .char (nI v) = nI v := by unfold vp_nar; rw [(pk_charN hv).1]
  rw [nI_clamp (by omega), e, aI_upd] at h1 h2; exact ⟨h1, h2, h3⟩))
end QM
/-- sums of a row: c places from a on -/
def sm (w : Nat → Nat) (a : Nat) : Nat → Nat
  | 0 => 0
  | c + 1 => sm w a c + w (a + c)
/-- LEFT of j -/
def lf (w : Nat → Nat) (n j : Nat) : Nat := sm w (j + 1) (n - j)
/-- WEIGHT j, 0 outside -/
def wt (w : Nat → Nat) (n j : Nat) : Nat := if 1 ≤ j ∧ j ≤ n then w j else 0
/-- LEFT of 0 .. a less 1 together -/
def sv (w : Nat → Nat) (n : Nat) : Nat → Nat
  | 0 => 0
  | a + 1 => sv w n a + lf w n a
theorem arrV_ext {cA : ClassId} {n : Nat} {f g : Nat → Value} (h : ∀ k, k < n → g k = f k) : arrV cA n g = arrV cA n f := by
  have e : (fun j : Fin n => g j.val) = fun j : Fin n => f j.val := by funext j; exact h j.val j.isLt
  unfold arrV; rw [e]
section QX
variable {D : va_G} {A : Nat → Prop} {s : State} {ws : va_W} {H : Heap} {locs : List Loc} {a n : Nat} {cA : ClassId}
theorem WS.arr {x y : vp_A} (hw : WS D A s ws H locs) (q : Nat) (he : ws[q]? = some (a, .inl (cA, x))) (h : vp_cell cA y = vp_cell cA x) : WS D A s (ws.set q (a, .inl (cA, y))) H locs :=
  ⟨hw.1.set hw.2.1 he (by show H[a]? = some (vp_cell cA y); rw [h]; exact hw.1 q _ he) (fun _ _ => rfl), hw.2.1.set he, hw.2.2⟩
theorem WS.arrIR {f g : Nat → Int32} (hw : WS D A s ws H locs) (q : Nat) (he : ws[q]? = some (a, .inl (cA, n, .inl f))) (h : ∀ k, k < n → g k = f k) : WS D A s (ws.set q (a, .inl (cA, n, .inl g))) H locs :=
  WS.arr hw q he (by rw [vp_cell_i, vp_cell_i]; exact arrV_ext (fun k hk => by rw [h k hk]))
theorem WS.arrI {f g : Nat → Nat} (hw : WS D A s ws H locs) (q : Nat) (he : ws[q]? = some (a, .inl (cA, n, .inl (aI f)))) (h : ∀ k, k < n → g k = f k) : WS D A s (ws.set q (a, .inl (cA, n, .inl (aI g)))) H locs :=
  WS.arrIR hw q he (fun k hk => by unfold aI; rw [h k hk])
theorem WS.arrC {f g : Nat → Nat} (hw : WS D A s ws H locs) (q : Nat) (he : ws[q]? = some (a, .inl (cA, n, .inl (aI f)))) (h : ∀ k, k < n → g k = f k) : WS D A s (ws.set q (a, .inl (cA, n, .inl (aI g)))) H locs := WS.arrI hw q he h
theorem WS.arrLR {f g : Nat → Int64} (hw : WS D A s ws H locs) (q : Nat) (he : ws[q]? = some (a, .inl (cA, n, .inr (.inl f)))) (h : ∀ k, k < n → g k = f k) : WS D A s (ws.set q (a, .inl (cA, n, .inr (.inl g)))) H locs :=
  WS.arr hw q he (by rw [vp_cell_l, vp_cell_l]; exact arrV_ext (fun k hk => by rw [h k hk]))
theorem WS.arrL {f g : Nat → Nat} (hw : WS D A s ws H locs) (q : Nat) (he : ws[q]? = some (a, .inl (cA, n, .inr (.inl (aL f))))) (h : ∀ k, k < n → g k = f k) : WS D A s (ws.set q (a, .inl (cA, n, .inr (.inl (aL g))))) H locs :=
  WS.arrLR hw q he (fun k hk => by unfold aL; rw [h k hk])
end QX
/-- a row of references by a list -/
def rl (L : List Nat) : Nat → Option Nat := fun k => L[k]?
theorem rl_set (L : List Nat) (k v : Nat) (h : k < L.length) : va_up (rl L) k (some v) = rl (L.set k v) := by
  funext j; simp only [va_up, rl]
  by_cases hj : j = k
  · subst hj; rw [if_pos rfl, List.getElem?_set_self h]
  · rw [if_neg hj, List.getElem?_set_ne (fun q => hj q.symm)]
theorem mx_nI {x y : Nat} (hx : x < 2 ^ 31) (hy : y < 2 ^ 31) : (if nI x < nI y then nI y else nI x) = nI (max x y) := by
  by_cases h : x < y
  · rw [if_pos (nI_lt h hy), Nat.max_eq_right (by omega)]
  · rw [if_neg (nI_nlt (by omega) hx), Nat.max_eq_left (by omega)]
theorem mn_lN {x y : Nat} (hx : x < 2 ^ 63) (hy : y < 2 ^ 63) : (if lN y < lN x then lN y else lN x) = lN (min x y) := by
  by_cases h : y < x
  · rw [if_pos ((pk_lLT hy hx).mpr h), Nat.min_eq_right (by omega)]
  · rw [if_neg (fun q => h ((pk_lLT hy hx).mp q)), Nat.min_eq_left (by omega)]
theorem msk31 (n : Nat) : nI n &&& nI 2147483647 = nI (n % 2147483648) := by
  have e : (nI n).toBitVec.toNat = n % 2 ^ 32 := by simp [nI]
  rw [pk_and (nI n) (m := nI 2147483647) 31 (by decide), e]
  congr 1
  omega
