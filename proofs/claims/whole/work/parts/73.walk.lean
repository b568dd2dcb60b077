/-! THE CLAIM OUT OF ONE WALK OF THE LAW'S BODY. Your part is whole_start (and what it stands on); all else here is the same for every law, but numbers. -/
def R_law : String := "ReplaceAgesLaw"
def lw_P (b : Addr) (xs : List Int32) (args : Array Value) (s : State) : Prop := args = #[.ref b] ∧ s.IntsAt b xs ∧ xs.length ≤ 3072 ∧ (Jvm.Cond.and given_1 narrow_1).before args s = true
def lw_Q (_ : Array Value) (s : State) (o : Outcome) (t : State) : Prop := o = .returned (some (.int 1)) ∧ Framed s o t [] 600000 7302250
def lw_Z (below : List Frame) (a : Array Value) (s : State) : State → Prop := fun t => ∃ o, t.status = .running ∧ Ended t below o ∧ lw_Q a s o t
/-- the law's own end, with 1 on the stack, nothing written that was there before, its room as the claim has it -/
theorem lw_ret {p : Program} {l : Launch} {e : Env} {s : State} {m : MethodId} {below : List Frame} {meth : Method} {c : Code} {b : Nat} (hx : p.tables.exec = Jvm.exec) (hb : c.code = code) (hr : meth.sig.returnType = ret) (hlocks : meth.locks = false) {pc : Nat} {H : Heap} {ls : Array Slot} (hdg : decode code pc = .ok (.ireturn, 1)) : W p l e room_1 s m #[Value.ref b] below meth c H [] 600000 7302250 (lw_Z below #[Value.ref b] s) (F0 m pc ls [.int 1]) := by
  intro T hT X
  obtain ⟨fs, hret, hrun, hended, hW, hframe⟩ := X.leave (v := some (.int 1)) (hlocks := hlocks) (fun h => by rw [hr] at h; cases h)
  have hmeth' : T.vm.method? m = some meth := X.method'
  refine ⟨T.setFrames fs, ?_, .returned (some (.int 1)), hrun, hended, rfl, ⟨_, rfl⟩, hW, hframe⟩
  jvm_step X.here [X.here.top, hx, hb, hdg, hmeth', hr, ret, narrow_b1]
  (try refine ⟨rfl, ?_⟩); (try refine ⟨rfl, ?_⟩)
  first | (intro acts; rw [hret _ acts rfl rfl rfl]) | rw [hret _ _ rfl rfl rfl]
  exact Steps.refl _
/-- what holds at the law's entry: the machine, the code, the tables' words (any of lw_tbl by 'hts w (by decide +kernel)'), the script of L ints xs at the cell b, what the Statement gives of the start (any of its parts by flat_of_before) -/
def lw_At (p : Program) (s : State) (m : MethodId) (meth : Method) (c : Code) (b L : Nat) (xs : Nat → Int32) : Prop :=
  p.tables.exec = Jvm.exec ∧ c.code = code ∧ meth.sig.returnType = ret ∧ c.maxLocals = 4 ∧ s.vm.findClass R_law = some m.cls ∧ (∀ w ∈ lw_tbl, w.before #[Value.ref b] s = true) ∧ va_X b L xs s s.heap ∧ b < s.heap.size ∧ meth.locks = false ∧ (Jvm.Cond.and given_1 narrow_1).before #[Value.ref b] s = true
theorem sub6 {a : Nat} (h : a ≤ 3072) : (nI a - nI 6).toInt = (a : Int) - 6 := by
  rw [Int32.toInt_sub, nI_toInt (by omega), nI_toInt (by omega)]
  rw [Int.bmod_eq_of_le (by omega) (by omega)]; rfl
set_option maxHeartbeats 8000000 in
set_option maxRecDepth 100000 in
theorem law_loop {pp : Program} {l : Launch} {ee : Env} {s : State} {mm : MethodId} {bw : List Frame} {mt : Method} {cd : Code} {Q : State → Prop} {A : Nat → Prop} {D : va_G} {Z : Nat → ClassId} {b LL : Nat} {xs : Nat → Int32} {X M : Nat} {f mr i_a i_t i_w sh sit : Nat → Nat} (hc : CX pp s mm cd A D Z b LL xs) (kx : ∀ (ws : va_W) (H : Heap) (locs : List Loc) (ls : Array Slot), WS D A s ws H locs → W pp l ee room_1 s mm #[Value.ref b] bw mt cd H locs 87 1400 Q (F0 mm 963 ls [])) : ∀ n i, LL - i < n → i ≤ LL → LK pp l ee s mm bw mt cd Q A D Z b X M f mr i_a i_t i_w sh sit 18 i := by
  intro n
  induction n with
  | zero => intro i h; omega
  | succ n ih =>
    intro i hn hi
    obtain ⟨hx, hb, hml, hown, hts, hA, hK, hX, hbl, hbA, hLL⟩ := id hc
    have k957 : i + 6 ≤ LL → LK pp l ee s mm bw mt cd Q A D Z b X M f mr i_a i_t i_w sh sit 957 i := by
      intro h6 kp kn a t w ps zs p z ikn ips izs ip iz L sz n0 y0 told F G fl ap la0 th la le fs n2 z2 sc v sc2 re K C mi ima g im ig it sr v8 ca cb ta tb qa qb na nb rd H locs ls jA jB jC jD jv jb hw hl
      refine lv_iinc (v := nI (i + 6)) (lv' := [(3, .int (nI (i + 6))), (0, .ref b), (1, .ref X), (2, .ref M)]) hx hb dL_law_957 hl (k := 3) rfl (nI_add _ _) (by decide) rfl (fun ls hl => ?_)
      refine lv_goto (tgt := 18) hx hb dL_law_960 (by decide) ?_
      exact ih (i + 6) (by omega) (by omega) kp kn a t w ps zs p z ikn ips izs ip iz L sz n0 y0 told F G fl ap la0 th la le fs n2 z2 sc v sc2 re K C mi ima g im ig it sr v8 ca cb ta tb qa qb na nb rd H locs ls jA jB jC jD jv jb hw (lv_sub hl [1, 2, 3, 0] rfl)
    intro kp kn a t w ps zs p z ikn ips izs ip iz L sz n0 y0 told F G fl ap la0 th la le fs n2 z2 sc v sc2 re K C mi ima g im ig it sr v8 ca cb ta tb qa qb na nb rd H locs ls jA jB jC jD jv jb hw hl
    refine lv_iload_n hx hb dL_law_18 rfl (lv_at hl 3 rfl) ?_
    refine lv_aload_n hx hb dL_law_19 rfl (lv_at hl 0 rfl) ?_
    refine q_slen hx hb hX hbl hbA hw dL_law_20 ?_
    refine q_bipush (v := 6) hx hb dL_law_21 (by decide) ?_
    refine lv_isub hx hb dL_law_23 ?_
    refine q_icmp_gt (tgt := 963) hx hb ((i : Nat) : Int) (((LL : Nat) : Int) - 6) (nI_toInt (by omega)) (sub6 hLL) dL_law_24 (by decide) (fun c1 => ?_) (fun c1 => ?_)
    · exact kx _ H locs ls hw
    · have h6 : i + 6 ≤ LL := by omega
      refine lv_aload_n hx hb dL_law_27 rfl (lv_at hl 0 rfl) ?_
      refine lv_iload_n hx hb dL_law_28 rfl (lv_at hl 3 rfl) ?_
      refine q_scr hx hb hX hbl hbA hw (by omega) hLL dL_law_29 ?_
      refine q_bipush (v := 31) hx hb dL_law_30 (by decide) ?_
      refine lv_iand hx hb dL_law_32 ?_
      generalize xs i &&& nI 31 = sv
      by_cases hsw : 0 ≤ sv.toInt ∧ sv.toInt ≤ 24
      · obtain ⟨jsw, rfl, ejsw⟩ := i32_nat (x := sv) (by omega)
        rcases (show jsw = 0 ∨ jsw = 1 ∨ jsw = 2 ∨ jsw = 3 ∨ jsw = 4 ∨ jsw = 5 ∨ jsw = 6 ∨ jsw = 7 ∨ jsw = 8 ∨ jsw = 9 ∨ jsw = 10 ∨ jsw = 11 ∨ jsw = 12 ∨ jsw = 13 ∨ jsw = 14 ∨ jsw = 15 ∨ jsw = 16 ∨ jsw = 17 ∨ jsw = 18 ∨ jsw = 19 ∨ jsw = 20 ∨ jsw = 21 ∨ jsw = 22 ∨ jsw = 23 ∨ jsw = 24 by omega) with rfl | rfl | rfl | rfl | rfl | rfl | rfl | rfl | rfl | rfl | rfl | rfl | rfl | rfl | rfl | rfl | rfl | rfl | rfl | rfl | rfl | rfl | rfl | rfl | rfl
        · refine lv_tableIn (x := nI 0) (off := 115) (tgt := 148) hx hb dL_law_33 (by decide) (by decide) rfl (by decide) ?_
          exact lc_weigh hc h6 (k957 h6) kp kn a t w ps zs p z ikn ips izs ip iz L sz n0 y0 told F G fl ap la0 th la le fs n2 z2 sc v sc2 re K C mi ima g im ig it sr v8 ca cb ta tb qa qb na nb rd H locs ls jA jB jC jD jv jb hw hl
        · refine lv_tableIn (x := nI 1) (off := 148) (tgt := 181) hx hb dL_law_33 (by decide) (by decide) rfl (by decide) ?_
          exact lc_ages hc h6 (k957 h6) kp kn a t w ps zs p z ikn ips izs ip iz L sz n0 y0 told F G fl ap la0 th la le fs n2 z2 sc v sc2 re K C mi ima g im ig it sr v8 ca cb ta tb qa qb na nb rd H locs ls jA jB jC jD jv jb hw hl
        · refine lv_tableIn (x := nI 2) (off := 171) (tgt := 204) hx hb dL_law_33 (by decide) (by decide) rfl (by decide) ?_
          exact lc_tell hc h6 (k957 h6) kp kn a t w ps zs p z ikn ips izs ip iz L sz n0 y0 told F G fl ap la0 th la le fs n2 z2 sc v sc2 re K C mi ima g im ig it sr v8 ca cb ta tb qa qb na nb rd H locs ls jA jB jC jD jv jb hw hl
        · refine lv_tableIn (x := nI 3) (off := 204) (tgt := 237) hx hb dL_law_33 (by decide) (by decide) rfl (by decide) ?_
          exact lc_age hc h6 (k957 h6) kp kn a t w ps zs p z ikn ips izs ip iz L sz n0 y0 told F G fl ap la0 th la le fs n2 z2 sc v sc2 re K C mi ima g im ig it sr v8 ca cb ta tb qa qb na nb rd H locs ls jA jB jC jD jv jb hw hl
        · refine lv_tableIn (x := nI 4) (off := 237) (tgt := 270) hx hb dL_law_33 (by decide) (by decide) rfl (by decide) ?_
          exact lc_count hc h6 (k957 h6) kp kn a t w ps zs p z ikn ips izs ip iz L sz n0 y0 told F G fl ap la0 th la le fs n2 z2 sc v sc2 re K C mi ima g im ig it sr v8 ca cb ta tb qa qb na nb rd H locs ls jA jB jC jD jv jb hw hl
        · refine lv_tableIn (x := nI 5) (off := 260) (tgt := 293) hx hb dL_law_33 (by decide) (by decide) rfl (by decide) ?_
          exact lc_mean hc h6 (k957 h6) kp kn a t w ps zs p z ikn ips izs ip iz L sz n0 y0 told F G fl ap la0 th la le fs n2 z2 sc v sc2 re K C mi ima g im ig it sr v8 ca cb ta tb qa qb na nb rd H locs ls jA jB jC jD jv jb hw hl
        · refine lv_tableIn (x := nI 6) (off := 283) (tgt := 316) hx hb dL_law_33 (by decide) (by decide) rfl (by decide) ?_
          exact lc_rate hc h6 (k957 h6) kp kn a t w ps zs p z ikn ips izs ip iz L sz n0 y0 told F G fl ap la0 th la le fs n2 z2 sc v sc2 re K C mi ima g im ig it sr v8 ca cb ta tb qa qb na nb rd H locs ls jA jB jC jD jv jb hw hl
        · refine lv_tableIn (x := nI 7) (off := 316) (tgt := 349) hx hb dL_law_33 (by decide) (by decide) rfl (by decide) ?_
          exact lc_fails hc h6 (k957 h6) kp kn a t w ps zs p z ikn ips izs ip iz L sz n0 y0 told F G fl ap la0 th la le fs n2 z2 sc v sc2 re K C mi ima g im ig it sr v8 ca cb ta tb qa qb na nb rd H locs ls jA jB jC jD jv jb hw hl
        · refine lv_tableIn (x := nI 8) (off := 350) (tgt := 383) hx hb dL_law_33 (by decide) (by decide) rfl (by decide) ?_
          exact lc_block hc h6 (k957 h6) kp kn a t w ps zs p z ikn ips izs ip iz L sz n0 y0 told F G fl ap la0 th la le fs n2 z2 sc v sc2 re K C mi ima g im ig it sr v8 ca cb ta tb qa qb na nb rd H locs ls jA jB jC jD jv jb hw hl
        · refine lv_tableIn (x := nI 9) (off := 384) (tgt := 417) hx hb dL_law_33 (by decide) (by decide) rfl (by decide) ?_
          exact lc_least hc h6 (k957 h6) kp kn a t w ps zs p z ikn ips izs ip iz L sz n0 y0 told F G fl ap la0 th la le fs n2 z2 sc v sc2 re K C mi ima g im ig it sr v8 ca cb ta tb qa qb na nb rd H locs ls jA jB jC jD jv jb hw hl
        · refine lv_tableIn (x := nI 10) (off := 428) (tgt := 461) hx hb dL_law_33 (by decide) (by decide) rfl (by decide) ?_
          exact lc_pair hc h6 (k957 h6) kp kn a t w ps zs p z ikn ips izs ip iz L sz n0 y0 told F G fl ap la0 th la le fs n2 z2 sc v sc2 re K C mi ima g im ig it sr v8 ca cb ta tb qa qb na nb rd H locs ls jA jB jC jD jv jb hw hl
        · refine lv_tableIn (x := nI 11) (off := 472) (tgt := 505) hx hb dL_law_33 (by decide) (by decide) rfl (by decide) ?_
          exact lc_run hc h6 (k957 h6) kp kn a t w ps zs p z ikn ips izs ip iz L sz n0 y0 told F G fl ap la0 th la le fs n2 z2 sc v sc2 re K C mi ima g im ig it sr v8 ca cb ta tb qa qb na nb rd H locs ls jA jB jC jD jv jb hw hl
        · refine lv_tableIn (x := nI 12) (off := 495) (tgt := 528) hx hb dL_law_33 (by decide) (by decide) rfl (by decide) ?_
          exact lc_type hc h6 (k957 h6) kp kn a t w ps zs p z ikn ips izs ip iz L sz n0 y0 told F G fl ap la0 th la le fs n2 z2 sc v sc2 re K C mi ima g im ig it sr v8 ca cb ta tb qa qb na nb rd H locs ls jA jB jC jD jv jb hw hl
        · refine lv_tableIn (x := nI 13) (off := 518) (tgt := 551) hx hb dL_law_33 (by decide) (by decide) rfl (by decide) ?_
          exact lc_read hc h6 (k957 h6) kp kn a t w ps zs p z ikn ips izs ip iz L sz n0 y0 told F G fl ap la0 th la le fs n2 z2 sc v sc2 re K C mi ima g im ig it sr v8 ca cb ta tb qa qb na nb rd H locs ls jA jB jC jD jv jb hw hl
        · refine lv_tableIn (x := nI 14) (off := 531) (tgt := 564) hx hb dL_law_33 (by decide) (by decide) rfl (by decide) ?_
          exact lc_drift hc h6 (k957 h6) kp kn a t w ps zs p z ikn ips izs ip iz L sz n0 y0 told F G fl ap la0 th la le fs n2 z2 sc v sc2 re K C mi ima g im ig it sr v8 ca cb ta tb qa qb na nb rd H locs ls jA jB jC jD jv jb hw hl
        · refine lv_tableIn (x := nI 15) (off := 554) (tgt := 587) hx hb dL_law_33 (by decide) (by decide) rfl (by decide) ?_
          exact lc_undo hc h6 (k957 h6) kp kn a t w ps zs p z ikn ips izs ip iz L sz n0 y0 told F G fl ap la0 th la le fs n2 z2 sc v sc2 re K C mi ima g im ig it sr v8 ca cb ta tb qa qb na nb rd H locs ls jA jB jC jD jv jb hw hl
        · refine lv_tableIn (x := nI 16) (off := 567) (tgt := 600) hx hb dL_law_33 (by decide) (by decide) rfl (by decide) ?_
          exact lc_seed hc h6 (k957 h6) kp kn a t w ps zs p z ikn ips izs ip iz L sz n0 y0 told F G fl ap la0 th la le fs n2 z2 sc v sc2 re K C mi ima g im ig it sr v8 ca cb ta tb qa qb na nb rd H locs ls jA jB jC jD jv jb hw hl
        · refine lv_tableIn (x := nI 17) (off := 590) (tgt := 623) hx hb dL_law_33 (by decide) (by decide) rfl (by decide) ?_
          exact lc_image hc h6 (k957 h6) kp kn a t w ps zs p z ikn ips izs ip iz L sz n0 y0 told F G fl ap la0 th la le fs n2 z2 sc v sc2 re K C mi ima g im ig it sr v8 ca cb ta tb qa qb na nb rd H locs ls jA jB jC jD jv jb hw hl
        · refine lv_tableIn (x := nI 18) (off := 603) (tgt := 636) hx hb dL_law_33 (by decide) (by decide) rfl (by decide) ?_
          exact lc_restore hc h6 (k957 h6) kp kn a t w ps zs p z ikn ips izs ip iz L sz n0 y0 told F G fl ap la0 th la le fs n2 z2 sc v sc2 re K C mi ima g im ig it sr v8 ca cb ta tb qa qb na nb rd H locs ls jA jB jC jD jv jb hw hl
        · refine lv_tableIn (x := nI 19) (off := 616) (tgt := 649) hx hb dL_law_33 (by decide) (by decide) rfl (by decide) ?_
          exact lc_seen hc h6 (k957 h6) kp kn a t w ps zs p z ikn ips izs ip iz L sz n0 y0 told F G fl ap la0 th la le fs n2 z2 sc v sc2 re K C mi ima g im ig it sr v8 ca cb ta tb qa qb na nb rd H locs ls jA jB jC jD jv jb hw hl
        · refine lv_tableIn (x := nI 20) (off := 669) (tgt := 702) hx hb dL_law_33 (by decide) (by decide) rfl (by decide) ?_
          exact lc_film hc h6 (k957 h6) kp kn a t w ps zs p z ikn ips izs ip iz L sz n0 y0 told F G fl ap la0 th la le fs n2 z2 sc v sc2 re K C mi ima g im ig it sr v8 ca cb ta tb qa qb na nb rd H locs ls jA jB jC jD jv jb hw hl
        · refine lv_tableIn (x := nI 21) (off := 712) (tgt := 745) hx hb dL_law_33 (by decide) (by decide) rfl (by decide) ?_
          exact lc_sheet hc h6 (k957 h6) kp kn a t w ps zs p z ikn ips izs ip iz L sz n0 y0 told F G fl ap la0 th la le fs n2 z2 sc v sc2 re K C mi ima g im ig it sr v8 ca cb ta tb qa qb na nb rd H locs ls jA jB jC jD jv jb hw hl
        · refine lv_tableIn (x := nI 22) (off := 755) (tgt := 788) hx hb dL_law_33 (by decide) (by decide) rfl (by decide) ?_
          exact lc_drop hc h6 (k957 h6) kp kn a t w ps zs p z ikn ips izs ip iz L sz n0 y0 told F G fl ap la0 th la le fs n2 z2 sc v sc2 re K C mi ima g im ig it sr v8 ca cb ta tb qa qb na nb rd H locs ls jA jB jC jD jv jb hw hl
        · refine lv_tableIn (x := nI 23) (off := 778) (tgt := 811) hx hb dL_law_33 (by decide) (by decide) rfl (by decide) ?_
          exact lc_item hc h6 (k957 h6) kp kn a t w ps zs p z ikn ips izs ip iz L sz n0 y0 told F G fl ap la0 th la le fs n2 z2 sc v sc2 re K C mi ima g im ig it sr v8 ca cb ta tb qa qb na nb rd H locs ls jA jB jC jD jv jb hw hl
        · refine lv_tableIn (x := nI 24) (off := 861) (tgt := 894) hx hb dL_law_33 (by decide) (by decide) rfl (by decide) ?_
          exact lc_copy hc h6 (k957 h6) kp kn a t w ps zs p z ikn ips izs ip iz L sz n0 y0 told F G fl ap la0 th la le fs n2 z2 sc v sc2 re K C mi ima g im ig it sr v8 ca cb ta tb qa qb na nb rd H locs ls jA jB jC jD jv jb hw hl
      · refine lv_tableOut (x := sv) (tgt := 957) hx hb dL_law_33 (by omega) (by decide) ?_
        exact k957 h6 kp kn a t w ps zs p z ikn ips izs ip iz L sz n0 y0 told F G fl ap la0 th la le fs n2 z2 sc v sc2 re K C mi ima g im ig it sr v8 ca cb ta tb qa qb na nb rd H locs ls jA jB jC jD jv jb hw hl
