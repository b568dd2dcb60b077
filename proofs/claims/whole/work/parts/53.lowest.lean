theorem sh_56 : ((nI 56).toInt64 &&& 63) = (56 : Int64) := by decide
theorem sh_48 : ((nI 48).toInt64 &&& 63) = (48 : Int64) := by decide
theorem sh_32 : ((nI 32).toInt64 &&& 63) = (32 : Int64) := by decide
theorem lob_3 (v : Int64) : lob 3 v = v := rfl
set_option maxHeartbeats 4000000 in
set_option maxRecDepth 100000 in
theorem c_X8_lowest (l : Launch) (D : va_G) (Z : Nat → ClassId) (zs0 : Nat) (v : Int64) (q : Nat) (hq : q ≤ 3) : cMl l yX8_lowest wsX8_lowest (rmd 0) D Z zs0 [.long v, .int (nI q)] [] (S := Unit) (fun (r : Int64) => fun (_ : Unit) => r = lob q v) (fun (_ : Unit) => []) 0 0 := by
  refine q_open (y := yX8_lowest) (ws := wsX8_lowest) (av := [.long v, .int (nI q)]) (win := []) (Qc := fun zs0 => cQl D Z zs0 [] (S := Unit) (fun (r : Int64) => fun (_ : Unit) => r = lob q v) (fun (_ : Unit) => [])) (cc := cX8_lowest) (maxL := 3) (ret := (some .long)) (by decide) rfl (Nat.le_of_ble_eq_true rfl) ?_
  intro pp ee s mm bw mt cd ls A H locs hAe hx hb hr hml hown hmn hts hlocks hA hK hw hl
  have hown : s.vm.findClass RX8 = some mm.cls := hown
  have hl : lv_has ls 3 [(0, .long v), (2, .int (nI q))] := hl
  refine lv_iload_n hx hb dX8_lowest_0 rfl (lv_at hl 1 rfl) ?_
  refine q_if_ne (tgt := 14) hx hb ((q : Nat) : Int) (nI_toInt (by omega)) dX8_lowest_1 (by decide) (fun c1 => ?_) (fun c1 => ?_)
  · --
    refine lv_iload_n hx hb dX8_lowest_14 rfl (lv_at hl 1 rfl) ?_
    refine q_iconst (v := 1) hx hb dX8_lowest_15 (by decide) ?_
    refine q_icmp_ne (tgt := 29) hx hb ((q : Nat) : Int) ((1 : Nat) : Int) (nI_toInt (by omega)) (nI_toInt (by omega)) dX8_lowest_16 (by decide) (fun c2 => ?_) (fun c2 => ?_)
    · --
      refine lv_iload_n hx hb dX8_lowest_29 rfl (lv_at hl 1 rfl) ?_
      refine q_iconst (v := 2) hx hb dX8_lowest_30 (by decide) ?_
      refine q_icmp_ne (tgt := 44) hx hb ((q : Nat) : Int) ((2 : Nat) : Int) (nI_toInt (by omega)) (nI_toInt (by omega)) dX8_lowest_31 (by decide) (fun c3 => ?_) (fun c3 => ?_)
      · --
        obtain rfl : q = 3 := by omega
        refine lv_lload_n hx hb dX8_lowest_44 rfl (lv_at hl 0 rfl) ?_
        exact q_lret (wout := _) hx hb hr hlocks hAe hK () hw (by first | (rw [sh_56]; exact lw_56 v) | (rw [sh_48]; exact lw_48 v) | (rw [sh_32]; exact lw_32 v) | exact (lob_3 v).symm) dX8_lowest_45
      · --
        obtain rfl : q = 2 := by omega
        refine lv_lload_n hx hb dX8_lowest_34 rfl (lv_at hl 0 rfl) ?_
        refine q_bipush (v := 32) hx hb dX8_lowest_35 (by decide) ?_
        refine lv_lshl hx hb dX8_lowest_37 rfl ?_
        refine q_bipush (v := 32) hx hb dX8_lowest_38 (by decide) ?_
        refine lv_lshr hx hb dX8_lowest_40 rfl ?_
        refine lv_goto (tgt := 45) hx hb dX8_lowest_41 (by decide) ?_
        exact q_lret (wout := _) hx hb hr hlocks hAe hK () hw (by first | (rw [sh_56]; exact lw_56 v) | (rw [sh_48]; exact lw_48 v) | (rw [sh_32]; exact lw_32 v) | exact (lob_3 v).symm) dX8_lowest_45
    · --
      obtain rfl : q = 1 := by omega
      refine lv_lload_n hx hb dX8_lowest_19 rfl (lv_at hl 0 rfl) ?_
      refine q_bipush (v := 48) hx hb dX8_lowest_20 (by decide) ?_
      refine lv_lshl hx hb dX8_lowest_22 rfl ?_
      refine q_bipush (v := 48) hx hb dX8_lowest_23 (by decide) ?_
      refine lv_lshr hx hb dX8_lowest_25 rfl ?_
      refine lv_goto (tgt := 45) hx hb dX8_lowest_26 (by decide) ?_
      exact q_lret (wout := _) hx hb hr hlocks hAe hK () hw (by first | (rw [sh_56]; exact lw_56 v) | (rw [sh_48]; exact lw_48 v) | (rw [sh_32]; exact lw_32 v) | exact (lob_3 v).symm) dX8_lowest_45
  · --
    obtain rfl : q = 0 := by omega
    refine lv_lload_n hx hb dX8_lowest_4 rfl (lv_at hl 0 rfl) ?_
    refine q_bipush (v := 56) hx hb dX8_lowest_5 (by decide) ?_
    refine lv_lshl hx hb dX8_lowest_7 rfl ?_
    refine q_bipush (v := 56) hx hb dX8_lowest_8 (by decide) ?_
    refine lv_lshr hx hb dX8_lowest_10 rfl ?_
    refine lv_goto (tgt := 45) hx hb dX8_lowest_11 (by decide) ?_
    exact q_lret (wout := _) hx hb hr hlocks hAe hK () hw (by first | (rw [sh_56]; exact lw_56 v) | (rw [sh_48]; exact lw_48 v) | (rw [sh_32]; exact lw_32 v) | exact (lob_3 v).symm) dX8_lowest_45
