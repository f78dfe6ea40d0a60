/-! bytes of a number: shifts with and without sign give the same byte -/
theorem and255 (a : Int32) : (a &&& 255).toBitVec.toNat = a.toBitVec.toNat % 256 := by
  have h : (a &&& 255).toBitVec = a.toBitVec &&& 255#32 := rfl
  rw [h, BitVec.toNat_and]
  exact Nat.and_two_pow_sub_one_eq_mod a.toBitVec.toNat 8
theorem byte_nat (x s : Int32) (k : Nat) (hs : ((s.toUInt32 &&& Int32.toUInt32 31).toBitVec % 32).toNat = k) : ((x.toUInt32 >>> (s.toUInt32 &&& Int32.toUInt32 31)).toInt32 &&& 255).toBitVec.toNat = x.toBitVec.toNat / 2 ^ k % 256 := by
  rw [and255, pk_ushr x s k hs]
theorem byte_nat2 (x s : Int32) (k : Nat) (hk : k = 0 ∨ k = 8 ∨ k = 16 ∨ k = 24) (hs : (s.toBitVec.smod 32).toNat = k) : ((x >>> s) &&& 255).toBitVec.toNat = x.toBitVec.toNat / 2 ^ k % 256 := by
  rw [and255]
  have h2 := pk_shr x s k hs
  have h3 : x.toInt = x.toBitVec.toInt := rfl
  have h4 : (x >>> s).toInt = (x >>> s).toBitVec.toInt := rfl
  have b1 : x.toBitVec.toNat < 2 ^ 32 := x.toBitVec.isLt
  have b2 : (x >>> s).toBitVec.toNat < 2 ^ 32 := (x >>> s).toBitVec.isLt
  rw [h3, h4, Int.shiftRight_eq_div_pow, BitVec.toInt_eq_toNat_cond, BitVec.toInt_eq_toNat_cond] at h2
  generalize (x >>> s).toBitVec.toNat = p at h2 b2 ⊢
  generalize x.toBitVec.toNat = n at h2 b1 ⊢
  rcases hk with rfl | rfl | rfl | rfl <;> (split at h2 <;> split at h2 <;> omega)
theorem i32_nat {a b : Int32} (h : a.toBitVec.toNat = b.toBitVec.toNat) : a = b := Int32.toBitVec_inj.mp (BitVec.eq_of_toNat_eq h)
theorem byte_le {a : Int32} {n : Nat} (h : a.toBitVec.toNat = n % 256) : ∃ c : Nat, c ≤ 255 ∧ a = nI c := by
  refine ⟨n % 256, by omega, i32_nat ?_⟩
  rw [h]
  have e : (nI (n % 256)).toBitVec.toNat = (n % 256) % 2 ^ 32 := by
    show (BitVec.ofNat 32 (n % 256)).toNat = _
    exact BitVec.toNat_ofNat _ _
  rw [e]
  omega
