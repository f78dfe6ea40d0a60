/-! shorts -/
theorem short_toInt (x : Int32) : x.toInt16.toInt32.toInt = x.toInt.bmod 65536 := by
  rw [Int16.toInt_toInt32, Int32.toInt_toInt16]
theorem short_eq (x : Int32) : (x <<< (16 &&& 31)) >>> (16 &&& 31) = x.toInt16.toInt32 := by
  have h1 := pk_shl x (16 &&& 31) 16 (by decide)
  have h2 := pk_shr (x <<< (16 &&& 31)) (16 &&& 31) 16 (by decide)
  have h3 : x.toInt = x.toBitVec.toInt := rfl
  have h4 : (x <<< (16 &&& 31)).toInt = (x <<< (16 &&& 31)).toBitVec.toInt := rfl
  apply Int32.toInt_inj.mp
  rw [h2, short_toInt, h3, h4, Int.shiftRight_eq_div_pow, BitVec.toInt_eq_toNat_cond, BitVec.toInt_eq_toNat_cond, h1, Int.bmod_def]
  generalize x.toBitVec.toNat = n
  omega
theorem short_ne (x : Int32) : ¬ x.toInt16.toInt32 = -1000000005 := fun q => by
  have h := congrArg Int32.toInt q
  have e : (-1000000005 : Int32).toInt = -1000000005 := rfl
  rw [short_toInt, e, Int.bmod_def] at h
  omega
