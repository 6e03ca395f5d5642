/-! BITS: what the int operations are, as whole numbers -/
theorem w32_of {x : Int} (h1 : -2147483648 ≤ x) (h2 : x < 2147483648) : w32 x = x := Int.bmod_eq_of_le (by omega) (by omega)
theorem w64_of {x : Int} (h1 : -9223372036854775808 ≤ x) (h2 : x < 9223372036854775808) : w64 x = x := Int.bmod_eq_of_le (by omega) (by omega)
theorem toInt_bv (b : BitVec 32) (h : b.toNat < 2147483648) : b.toInt = (b.toNat : Int) := by
  rw [BitVec.toInt_eq_toNat_cond, if_pos (by omega)]
theorem iand_bv (x y : Int) : iand x y = (BitVec.ofInt 32 x &&& BitVec.ofInt 32 y).toInt := rfl
theorem ior_bv (x y : Int) : ior x y = (BitVec.ofInt 32 x ||| BitVec.ofInt 32 y).toInt := rfl
theorem ixor_bv (x y : Int) : ixor x y = (BitVec.ofInt 32 x ^^^ BitVec.ofInt 32 y).toInt := rfl
theorem ofInt_nat (n : Nat) : BitVec.ofInt 32 (n : Int) = BitVec.ofNat 32 n := by
  apply BitVec.eq_of_toNat_eq
  simp
theorem bv_nat (x : Int) : (BitVec.ofInt 32 x).toNat = (x % 4294967296).toNat := by simp
theorem iand_m (k : Nat) (hk : k ≤ 31) (x : Int) : iand x ((2 ^ k - 1 : Nat) : Int) = x % ((2 ^ k : Nat) : Int) := by
  have hp : 2 ^ k ≤ 2 ^ 31 := Nat.pow_le_pow_right (by decide) hk
  have hp0 : 0 < 2 ^ k := Nat.two_pow_pos k
  have e2 : (2 : Nat) ^ 31 = 2147483648 := by decide
  have hdv : 2 ^ k ∣ 4294967296 := by
    have : (4294967296 : Nat) = 2 ^ 32 := by decide
    rw [this]
    exact Nat.pow_dvd_pow 2 (by omega)
  have hn : (BitVec.ofInt 32 x &&& BitVec.ofInt 32 ((2 ^ k - 1 : Nat) : Int)).toNat = (x % 4294967296).toNat % 2 ^ k := by
    rw [BitVec.toNat_and, bv_nat, bv_nat]
    rw [show (((2 ^ k - 1 : Nat) : Int) % 4294967296).toNat = 2 ^ k - 1 by omega]
    exact Nat.and_two_pow_sub_one_eq_mod _ _
  have hlt : (x % 4294967296).toNat % 2 ^ k < 2 ^ k := Nat.mod_lt _ hp0
  rw [iand_bv, toInt_bv _ (by omega), hn]
  have h3 : ((x % 4294967296).toNat : Int) = x % 4294967296 := Int.toNat_of_nonneg (Int.emod_nonneg _ (by decide))
  rw [Int.natCast_emod, h3]
  exact Int.emod_emod_of_dvd x (show ((2 ^ k : Nat) : Int) ∣ ((4294967296 : Nat) : Int) from Int.natCast_dvd_natCast.mpr hdv)
theorem iand_1 (x : Int) : iand x 1 = x % 2 := iand_m 1 (by decide) x
theorem iand_7 (x : Int) : iand x 7 = x % 8 := iand_m 3 (by decide) x
theorem iand_31 (x : Int) : iand x 31 = x % 32 := iand_m 5 (by decide) x
theorem iand_63 (x : Int) : iand x 63 = x % 64 := iand_m 6 (by decide) x
theorem iand_255 (x : Int) : iand x 255 = x % 256 := iand_m 8 (by decide) x
theorem iand_511 (x : Int) : iand x 511 = x % 512 := iand_m 9 (by decide) x
theorem iand_4095 (x : Int) : iand x 4095 = x % 4096 := iand_m 12 (by decide) x
theorem iand_8191 (x : Int) : iand x 8191 = x % 8192 := iand_m 13 (by decide) x
theorem iand_65535 (x : Int) : iand x 65535 = x % 65536 := iand_m 16 (by decide) x
theorem iand_3 (x : Int) : iand x 3 = x % 4 := iand_m 2 (by decide) x
theorem sh_amt : ∀ k : Nat, k < 32 → ((Int32.ofInt (k : Int) &&& 31).toBitVec.smod 32).toNat = k := by decide +kernel
theorem ishr_k (k : Nat) (hk : k < 32) {x : Int} (h1 : -2147483648 ≤ x) (h2 : x < 2147483648) : ishr x (k : Int) = x / ((2 ^ k : Nat) : Int) := by
  have e : ishr x (k : Int) = ((BitVec.ofInt 32 x).sshiftRight' ((Int32.ofInt (k : Int) &&& 31).toBitVec.smod 32)).toInt := rfl
  rw [e, BitVec.toInt_sshiftRight', sh_amt k hk, Int.shiftRight_eq_div_pow]
  rw [show (BitVec.ofInt 32 x).toInt = x from by rw [BitVec.toInt_ofInt]; exact Int.bmod_eq_of_le (by omega) (by omega)]
theorem ishl_k (k : Nat) (hk : k < 32) (x : Int) : ishl x (k : Int) = w32 (x * ((2 ^ k : Nat) : Int)) := by
  have e : ishl x (k : Int) = ((BitVec.ofInt 32 x) <<< ((Int32.ofInt (k : Int) &&& 31).toBitVec.smod 32)).toInt := rfl
  rw [e, BitVec.shiftLeft_eq', sh_amt k hk, BitVec.toInt_shiftLeft, bv_nat]
  unfold w32
  have hx : ((x % 4294967296).toNat : Int) = x % 4294967296 := Int.toNat_of_nonneg (Int.emod_nonneg _ (by decide))
  rw [Nat.shiftLeft_eq, Int.natCast_mul, hx]
  exact Int.emod_mul_bmod x 4294967296
theorem ixor_b {x y : Int} (hx : 0 ≤ x ∧ x < 65536) (hy : 0 ≤ y ∧ y < 65536) : 0 ≤ ixor x y ∧ ixor x y < 65536 := by
  have hn : (BitVec.ofInt 32 x ^^^ BitVec.ofInt 32 y).toNat < 2 ^ 16 := by
    rw [BitVec.toNat_xor, bv_nat, bv_nat]
    exact Nat.xor_lt_two_pow (by omega) (by omega)
  have e : (2 : Nat) ^ 16 = 65536 := by decide
  rw [ixor_bv, toInt_bv _ (by omega)]
  omega
theorem iand_b {x y : Int} (hx : 0 ≤ x ∧ x < 65536) (hy : 0 ≤ y ∧ y < 65536) : 0 ≤ iand x y ∧ iand x y < 65536 := by
  have hn : (BitVec.ofInt 32 x &&& BitVec.ofInt 32 y).toNat < 2 ^ 16 := by
    rw [BitVec.toNat_and, bv_nat, bv_nat]
    exact Nat.and_lt_two_pow _ (by omega)
  have e : (2 : Nat) ^ 16 = 65536 := by decide
  rw [iand_bv, toInt_bv _ (by omega)]
  omega
theorem ior_b {x y : Int} (hx : 0 ≤ x ∧ x < 65536) (hy : 0 ≤ y ∧ y < 65536) : 0 ≤ ior x y ∧ ior x y < 65536 := by
  have hn : (BitVec.ofInt 32 x ||| BitVec.ofInt 32 y).toNat < 2 ^ 16 := by
    rw [BitVec.toNat_or, bv_nat, bv_nat]
    exact Nat.or_lt_two_pow (by omega) (by omega)
  have e : (2 : Nat) ^ 16 = 65536 := by decide
  rw [ior_bv, toInt_bv _ (by omega)]
  omega
/-- a 16 bit word with its sign -/
def sg (x : Int) : Int := Int.bmod x 65536
theorem sg_r (x : Int) : -32768 ≤ sg x ∧ sg x ≤ 32767 := by unfold sg; rw [Int.bmod_def]; split <;> omega
