theorem lw_b56 (b : BitVec 64) : ((b <<< 56).sshiftRight 56) = (((b.signExtend 32).signExtend 8).signExtend 32).signExtend 64 := by
  ext i hi
  simp only [BitVec.getElem_sshiftRight, BitVec.getElem_signExtend, BitVec.getElem_shiftLeft, BitVec.msb_eq_getLsbD_last, BitVec.getLsbD_shiftLeft, BitVec.getLsbD_signExtend, BitVec.getLsbD_setWidth, BitVec.getElem_setWidth]
  by_cases h : i < 8
  · simp [show 56 + i < 64 by omega, show i < 32 by omega, h, show ¬ (56 + i < 56) by omega]
    try (intro q; omega)
  · simp [show ¬ 56 + i < 64 by omega, h]
theorem lw_56 (v : Int64) : (v <<< (56 : Int64)) >>> (56 : Int64) = v.toInt32.toInt8.toInt32.toInt64 := by
  apply Int64.toBitVec_inj.mp
  rw [Int64.toBitVec_shiftRight, Int64.toBitVec_shiftLeft]
  have e : (56 : Int64).toBitVec.smod 64 = 56#64 := by decide
  rw [e, Int32.toBitVec_toInt64, Int8.toBitVec_toInt32, Int32.toBitVec_toInt8, Int64.toBitVec_toInt32, BitVec.sshiftRight_eq', BitVec.shiftLeft_eq', show (56#64).toNat = 56 from rfl]
  exact lw_b56 v.toBitVec
theorem lw_b48 (b : BitVec 64) : ((b <<< 48).sshiftRight 48) = (((b.signExtend 32).signExtend 16).signExtend 32).signExtend 64 := by
  ext i hi
  simp only [BitVec.getElem_sshiftRight, BitVec.getElem_signExtend, BitVec.getElem_shiftLeft, BitVec.msb_eq_getLsbD_last, BitVec.getLsbD_shiftLeft, BitVec.getLsbD_signExtend, BitVec.getLsbD_setWidth, BitVec.getElem_setWidth]
  by_cases h : i < 16
  · simp [show 48 + i < 64 by omega, show i < 32 by omega, h, show ¬ (48 + i < 48) by omega]
    try (intro q; omega)
  · simp [show ¬ 48 + i < 64 by omega, h]
theorem lw_48 (v : Int64) : (v <<< (48 : Int64)) >>> (48 : Int64) = v.toInt32.toInt16.toInt32.toInt64 := by
  apply Int64.toBitVec_inj.mp
  rw [Int64.toBitVec_shiftRight, Int64.toBitVec_shiftLeft]
  have e : (48 : Int64).toBitVec.smod 64 = 48#64 := by decide
  rw [e, Int32.toBitVec_toInt64, Int16.toBitVec_toInt32, Int32.toBitVec_toInt16, Int64.toBitVec_toInt32, BitVec.sshiftRight_eq', BitVec.shiftLeft_eq', show (48#64).toNat = 48 from rfl]
  exact lw_b48 v.toBitVec
theorem lw_b32 (b : BitVec 64) : ((b <<< 32).sshiftRight 32) = (b.signExtend 32).signExtend 64 := by
  ext i hi
  simp only [BitVec.getElem_sshiftRight, BitVec.getElem_signExtend, BitVec.getElem_shiftLeft, BitVec.msb_eq_getLsbD_last, BitVec.getLsbD_shiftLeft, BitVec.getLsbD_signExtend, BitVec.getLsbD_setWidth, BitVec.getElem_setWidth]
  by_cases h : i < 32
  · simp [show 32 + i < 64 by omega, show i < 32 by omega, h, show ¬ (32 + i < 32) by omega]
    try (intro q; omega)
  · simp [show ¬ 32 + i < 64 by omega, h]
theorem lw_32 (v : Int64) : (v <<< (32 : Int64)) >>> (32 : Int64) = v.toInt32.toInt64 := by
  apply Int64.toBitVec_inj.mp
  rw [Int64.toBitVec_shiftRight, Int64.toBitVec_shiftLeft]
  have e : (32 : Int64).toBitVec.smod 64 = 32#64 := by decide
  rw [e, Int32.toBitVec_toInt64, Int64.toBitVec_toInt32, BitVec.sshiftRight_eq', BitVec.shiftLeft_eq', show (32#64).toNat = 32 from rfl]
  exact lw_b32 v.toBitVec
