/-! BITS of small whole numbers -/
theorem shl1 {y : Nat} (hy : y < 20) : ((iI 1) <<< ((iI (y : Int)) &&& 31)).toInt = ((2 ^ y : Nat) : Int) := by
  have k : ∀ y : Nat, y < 20 → ((iI 1) <<< ((iI (y : Int)) &&& 31)).toInt = ((2 ^ y : Nat) : Int) := by decide
  exact k y hy
theorem bvN {x : Nat} : (iI (x : Int)).toBitVec = BitVec.ofNat 32 x := by
  unfold iI
  rw [Int32.ofInt_eq_ofNat]; rfl
theorem ofbv {b : BitVec 32} {x : Nat} (h : b.toNat = x) (hx : x < 2147483648) : b.toInt = (x : Int) := by
  rw [BitVec.toInt_eq_toNat_cond, h, if_pos (by omega)]
theorem orN {x y : Nat} (hx : x < 1048576) (hy : y < 1048576) : ((iI (x : Int)) ||| (iI (y : Int))).toInt = ((x ||| y : Nat) : Int) := by
  have h : x ||| y < 2 ^ 20 := Nat.or_lt_two_pow hx hy
  refine ofbv ?_ (by omega)
  show ((iI (x : Int)).toBitVec ||| (iI (y : Int)).toBitVec).toNat = _
  rw [BitVec.toNat_or, bvN, bvN, BitVec.toNat_ofNat, BitVec.toNat_ofNat, Nat.mod_eq_of_lt (by omega), Nat.mod_eq_of_lt (by omega)]
theorem hasN {s k : Nat} (hs : s < 4096) (hk : k < 12) : ((iI ((iI (s : Int)) >>> ((iI (k : Int)) &&& 31)).toInt) &&& (iI 1)).toInt = if s.testBit k = true then 1 else 0 := by
  rw [iI_of]
  have hc : ((iI (k : Int)) &&& 31) = iI (k : Int) := by
    have q : ∀ k : Nat, k < 12 → ((iI (k : Int)) &&& 31) = iI (k : Int) := by decide
    exact q k hk
  have h1 : ((iI (s : Int)) >>> ((iI (k : Int)) &&& 31)) = iI ((s / 2 ^ k : Nat) : Int) := by
    have q : ∀ k : Nat, k < 12 → vp_sh31 k := by sorry
    sorry
  sorry
