theorem bt_xorI (a b : Nat) : Int32.ofNat a ^^^ Int32.ofNat b = Int32.ofNat (a ^^^ b) := by
  apply Int32.toBitVec_inj.1
  show BitVec.ofNat 32 a ^^^ BitVec.ofNat 32 b = BitVec.ofNat 32 (a ^^^ b)
  apply BitVec.eq_of_getLsbD_eq
  intro i hi
  simp [hi]
theorem zxor_nat {a b : Nat} (ha : a < 2 ^ 31) (hb : b < 2 ^ 31) : zxor a b = ((a ^^^ b : Nat) : Int) := by
  have hc := Nat.xor_lt_two_pow ha hb
  unfold zxor
  rw [zi_ofNat, zi_ofNat, bt_xorI, ← zi_ofNat, zi_of ⟨by omega, by omega⟩]
theorem zandL_255 {x : Int} (hx : zIL x) : zandL x 255 = x % 256 := by
  unfold zandL
  have e1 : (Int64.ofInt x &&& Int64.ofInt 255).toInt = (BitVec.ofInt 64 x &&& 255#64).toInt := rfl
  rw [e1]
  have e2 : (BitVec.ofInt 64 x &&& 255#64).toNat = (x % 256).toNat := by
    rw [BitVec.toNat_and, BitVec.toNat_ofInt, show (255#64).toNat = 2 ^ 8 - 1 from rfl, Nat.and_two_pow_sub_one_eq_mod]
    omega
  rw [BitVec.toInt_eq_toNat_of_lt (by rw [e2]; omega), e2]
  omega
theorem zshr64 (a s : Int64) (k : Nat) (hs : (s.toBitVec.smod 64).toNat = k) : (a >>> s).toInt = a.toInt >>> k := by
  show (a.toBitVec.sshiftRight (s.toBitVec.smod 64).toNat).toInt = _
  rw [hs, BitVec.toInt_sshiftRight]
  rfl
theorem zshr_0 {x : Int} (hx : zIL x) : zshr x 0 = x := by
  unfold zshr
  rw [zshr64 _ _ 0 (by decide), zl_of hx]
  exact Int.shiftRight_zero x
theorem zshr_8 {x : Int} (hx : zIL x) : zshr x 8 = x / 256 := by
  unfold zshr
  rw [zshr64 _ _ 8 (by decide), zl_of hx, Int.shiftRight_eq_div_pow]
  rfl
theorem zshr_16 {x : Int} (hx : zIL x) : zshr x 16 = x / 65536 := by
  unfold zshr
  rw [zshr64 _ _ 16 (by decide), zl_of hx, Int.shiftRight_eq_div_pow]
  rfl
theorem zshr_24 {x : Int} (hx : zIL x) : zshr x 24 = x / 16777216 := by
  unfold zshr
  rw [zshr64 _ _ 24 (by decide), zl_of hx, Int.shiftRight_eq_div_pow]
  rfl
theorem zshl_7 : zshl 1 7 = 128 := by decide +kernel
theorem zshl_15 : zshl 1 15 = 32768 := by decide +kernel
theorem zshl_31 : zshl 1 31 = 2147483648 := by decide +kernel
theorem zshl_8 : zshl 1 8 = 256 := by decide +kernel
theorem zshl_16 : zshl 1 16 = 65536 := by decide +kernel
theorem zshl_32 : zshl 1 32 = 4294967296 := by decide +kernel
theorem zl_ofNat (k : Nat) : Int64.ofInt (k : Int) = Int64.ofNat k := by
  show (⟨⟨BitVec.ofInt 64 (k : Int)⟩⟩ : Int64) = ⟨⟨BitVec.ofNat 64 k⟩⟩
  rw [BitVec.ofInt_natCast]
theorem bt_orL (a b : Nat) : Int64.ofNat a ||| Int64.ofNat b = Int64.ofNat (a ||| b) := by
  apply Int64.toBitVec_inj.1
  show BitVec.ofNat 64 a ||| BitVec.ofNat 64 b = BitVec.ofNat 64 (a ||| b)
  apply BitVec.eq_of_getLsbD_eq
  intro i hi
  simp [hi]
theorem zorL_b {v b : Nat} (hv : v < 2 ^ 40) (hb : b < 256) : zorL (256 * v : Nat) b = ((256 * v + b : Nat) : Int) := by
  unfold zorL
  rw [zl_ofNat, zl_ofNat, bt_orL, show 256 * v ||| b = 256 * v + b from (Nat.two_pow_add_eq_or_of_lt (i := 8) hb v).symm, ← zl_ofNat, zl_of ⟨by omega, by omega⟩]
theorem zshl_v8 {v : Nat} (hv : v < 2 ^ 40) : zshl v 8 = ((256 * v : Nat) : Int) := by
  have e : Int64.ofInt (v : Int) <<< ((Int32.ofInt 8).toInt64 &&& 63) = Int64.ofInt ((256 * v : Nat) : Int) := by
    rw [zl_ofNat, zl_ofNat]
    apply Int64.toBitVec_inj.1
    show BitVec.ofNat 64 v <<< ((((Int32.ofInt 8).toInt64 &&& 63).toBitVec.smod 64)) = BitVec.ofNat 64 (256 * v)
    rw [show ((Int32.ofInt 8).toInt64 &&& 63).toBitVec.smod 64 = 8#64 from by decide +kernel]
    apply BitVec.eq_of_toNat_eq
    rw [BitVec.shiftLeft_eq', BitVec.toNat_shiftLeft, BitVec.toNat_ofNat, BitVec.toNat_ofNat, BitVec.toNat_ofNat, show 8 % 2 ^ 64 = 8 from rfl, Nat.shiftLeft_eq]
    omega
  unfold zshl
  rw [e, zl_of ⟨by omega, by omega⟩]
