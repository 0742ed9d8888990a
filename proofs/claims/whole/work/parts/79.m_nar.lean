/-! Numbers of 8 and 16 bits. -/
theorem ms_nar (y : Int64) (k : Nat) (hk : k < 64) (s : Int64) (hs : (s.toBitVec.smod 64).toNat = k) : ((y <<< s) >>> s).toInt = (y.toInt * 2 ^ k).bmod (2 ^ 64) / 2 ^ k := by
  show (((y.toBitVec <<< (s.toBitVec.smod 64)).sshiftRight' (s.toBitVec.smod 64))).toInt = _
  rw [BitVec.sshiftRight', BitVec.toInt_sshiftRight, BitVec.shiftLeft_eq', hs, BitVec.toInt_shiftLeft, Nat.shiftLeft_eq, Int.shiftRight_eq_div_pow]
  have e : ((y.toBitVec.toNat * 2 ^ k : Nat) : Int).bmod (2 ^ 64) = (y.toInt * 2 ^ k).bmod (2 ^ 64) := by
    have h : y.toInt = (y.toBitVec.toNat : Int).bmod (2 ^ 64) := BitVec.toInt_eq_toNat_bmod _
    rw [h, Int.bmod_mul_bmod]
    push_cast
    rfl
  rw [e]
  push_cast
  rfl
theorem ms_nar8 (y : Int64) : ((y.toInt32).toInt8.toInt32).toInt64 = (y <<< ((56 : Int32).toInt64 &&& (63 : Int64))) >>> ((56 : Int32).toInt64 &&& (63 : Int64)) := by
  apply Int64.toInt_inj.mp
  rw [ms_nar y 56 (by decide) _ (by decide), Int32.toInt_toInt64, Int8.toInt_toInt32, Int32.toInt_toInt8, Int64.toInt_toInt32]
  generalize y.toInt = x
  simp only [Int.bmod]
  omega
theorem ms_nar16 (y : Int64) : ((y.toInt32).toInt16.toInt32).toInt64 = (y <<< ((48 : Int32).toInt64 &&& (63 : Int64))) >>> ((48 : Int32).toInt64 &&& (63 : Int64)) := by
  apply Int64.toInt_inj.mp
  rw [ms_nar y 48 (by decide) _ (by decide), Int32.toInt_toInt64, Int16.toInt_toInt32, Int32.toInt_toInt16, Int64.toInt_toInt32]
  generalize y.toInt = x
  simp only [Int.bmod]
  omega
