/-! bits and shifts of whole numbers in the pure layer -/
theorem zs_l : ∀ n : Nat, n < 32 → ((Int32.ofInt (n : Int) &&& 31).toBitVec.smod 32).toNat = n := by decide +kernel
theorem z_shr {x : Int} {j : Nat} (hx : in32 x) (hj : j < 32) : z_ishr x (j : Int) = x / 2 ^ j := by
  unfold z_ishr
  rw [pk_shr _ _ j (zs_l j hj), i32_t hx, Int.shiftRight_eq_div_pow]
  simp
theorem bv_int (x : Int32) : x.toInt = x.toBitVec.toNat ∨ x.toInt = (x.toBitVec.toNat : Int) - 4294967296 := by
  have h := BitVec.toInt_eq_toNat_cond x.toBitVec
  have e : x.toInt = x.toBitVec.toInt := rfl
  rw [e, h]
  split
  · exact Or.inl rfl
  · exact Or.inr rfl
theorem z_and_mask {x m : Int} (k : Nat) (hk : k ≤ 30) (hx : in32 x) (hm : m = 2 ^ k - 1) : z_iand x m = x % 2 ^ k := by
  unfold z_iand
  have hp : (2 : Nat) ^ k ≤ 2 ^ 30 := Nat.pow_le_pow_right (by decide) hk
  have hp0 : 0 < (2 : Nat) ^ k := Nat.pow_pos (by decide)
  have hpi : ((2 : Nat) ^ k : Nat) = ((2 : Int) ^ k) := by simp
  have hmI : in32 m := by
    subst hm
    constructor <;> omega
  have hmn : (Int32.ofInt m).toBitVec.toNat = 2 ^ k - 1 := by
    have h1 := i32_t hmI
    have h2 := (Int32.ofInt m).toBitVec.isLt
    rcases bv_int (Int32.ofInt m) with h | h <;> omega
  rw [pk_and (Int32.ofInt x) k hmn, nI_toInt (by have := Nat.mod_lt (Int32.ofInt x).toBitVec.toNat hp0; omega)]
  have h1 := i32_t hx
  have e : ((2 : Int) ^ k) ∣ 4294967296 := ⟨2 ^ (32 - k), by rw [← Int.pow_add, show k + (32 - k) = 32 by omega]; rfl⟩
  have h2 := bv_int (Int32.ofInt x)
  rw [h1] at h2
  generalize (Int32.ofInt x).toBitVec.toNat = t at h2 ⊢
  rcases h2 with h | h
  · rw [h, Int.natCast_emod, hpi]
  · rw [h, Int.natCast_emod, hpi, Int.sub_emod, Int.emod_eq_zero_of_dvd e]
    simp
theorem z_and1 {x : Int} (hx : in32 x) : z_iand x 1 = x % 2 := z_and_mask 1 (by decide) hx (by decide)
theorem i32_nat (n : Nat) : Int32.ofInt (n : Int) = nI n := Int32.ofInt_eq_ofNat
theorem nI_or (a b : Nat) : nI a ||| nI b = nI (a ||| b) := by
  apply Int32.toBitVec.inj
  show BitVec.ofNat 32 a ||| BitVec.ofNat 32 b = BitVec.ofNat 32 (a ||| b)
  exact BitVec.ofNat_or.symm
theorem z_or_nat {a b : Nat} (k : Nat) (hk : k ≤ 31) (ha : a < 2 ^ k) (hb : b < 2 ^ k) : z_ior (a : Int) (b : Int) = ((a ||| b : Nat) : Int) := by
  unfold z_ior
  have hp : (2 : Nat) ^ k ≤ 2 ^ 31 := Nat.pow_le_pow_right (by decide) hk
  have := Nat.or_lt_two_pow ha hb
  rw [i32_nat, i32_nat, nI_or, nI_toInt (by omega)]
theorem z_shl1 : ∀ j : Nat, j < 31 → z_ishl 1 (j : Int) = 2 ^ j := by decide +kernel
/-- bit j of a number -/
def bitI (c : Int) (j : Nat) : Int := c / 2 ^ j % 2
theorem bitI_nat (c j : Nat) : bitI (c : Int) j = if c.testBit j then 1 else 0 := by
  unfold bitI
  rw [Nat.testBit_eq_decide_div_mod_eq]
  have e : ((c : Int) / 2 ^ j % 2) = ((c / 2 ^ j % 2 : Nat) : Int) := by simp
  rw [e]
  have := Nat.mod_lt (c / 2 ^ j) (show 0 < 2 by decide)
  by_cases h : c / 2 ^ j % 2 = 1
  · simp [h]
  · have : c / 2 ^ j % 2 = 0 := by omega
    simp [this]
