/-! BITS of small whole numbers -/
theorem shl1 {y : Nat} (hy : y < 20) : ((iI 1) <<< ((iI (y : Int)) &&& 31)).toInt = ((2 ^ y : Nat) : Int) := by
  have k : ∀ y : Nat, y < 20 → ((iI 1) <<< ((iI (y : Int)) &&& 31)).toInt = ((2 ^ y : Nat) : Int) := by decide
  exact k y hy
theorem bvN {x : Nat} : (iI (x : Int)).toBitVec = BitVec.ofNat 32 x := by
  unfold iI
  rw [Int32.ofInt_eq_ofNat]; rfl
theorem ofbv {b : BitVec 32} {x : Nat} (h : b.toNat = x) (hx : x < 2147483648) : b.toInt = (x : Int) := by
  rw [BitVec.toInt_eq_toNat_cond, h, if_pos (by omega)]
theorem orN {x y : Nat} (hx : x < 1048576) (hy : y < 1048576) : ((iI (x : Int)) ||| (iI (y : Int))).toInt = ((x ||| y : Nat) : Int) := by
  have h : x ||| y < 2 ^ 20 := Nat.or_lt_two_pow hx hy
  refine ofbv ?_ (by omega)
  show ((iI (x : Int)).toBitVec ||| (iI (y : Int)).toBitVec).toNat = _
  rw [BitVec.toNat_or, bvN, bvN, BitVec.toNat_ofNat, BitVec.toNat_ofNat, Nat.mod_eq_of_lt (by omega), Nat.mod_eq_of_lt (by omega)]
theorem shrN {s k : Nat} (hs : s < 4096) (hk : k < 12) : ((iI (s : Int)) >>> ((iI (k : Int)) &&& 31)).toInt = ((s / 2 ^ k : Nat) : Int) := by
  have hq : s / 2 ^ k ≤ s := Nat.div_le_self _ _
  have hc : ((iI (k : Int)) &&& 31).toBitVec.smod 32 = BitVec.ofNat 32 k := by
    have q : ∀ k : Nat, k < 12 → ((iI (k : Int)) &&& 31).toBitVec.smod 32 = BitVec.ofNat 32 k := by decide
    exact q k hk
  refine ofbv ?_ (by omega)
  show (BitVec.sshiftRight' (iI (s : Int)).toBitVec (((iI (k : Int)) &&& 31).toBitVec.smod 32)).toNat = _
  rw [hc, bvN]
  show (BitVec.sshiftRight (BitVec.ofNat 32 s) (BitVec.ofNat 32 k).toNat).toNat = _
  have hm : (BitVec.ofNat 32 s).msb = false := by
    rw [BitVec.msb_eq_decide, BitVec.toNat_ofNat, Nat.mod_eq_of_lt (by omega), decide_eq_false_iff_not]; omega
  rw [BitVec.sshiftRight_eq_of_msb_false hm, BitVec.toNat_ushiftRight, BitVec.toNat_ofNat, BitVec.toNat_ofNat, Nat.mod_eq_of_lt (by omega), Nat.mod_eq_of_lt (by omega), Nat.shiftRight_eq_div_pow]
theorem andone {x : Nat} (hx : x < 4096) : ((iI (x : Int)) &&& (iI 1)).toInt = ((x % 2 : Nat) : Int) := by
  refine ofbv ?_ (by omega)
  show ((iI (x : Int)).toBitVec &&& (iI ((1 : Nat) : Int)).toBitVec).toNat = _
  rw [BitVec.toNat_and, bvN, bvN, BitVec.toNat_ofNat, BitVec.toNat_ofNat, Nat.mod_eq_of_lt (by omega), Nat.mod_eq_of_lt (show 1 < 2 ^ 32 by omega), Nat.and_one_is_mod]
theorem hasN {s k : Nat} (hs : s < 4096) (hk : k < 12) : ((iI ((iI (s : Int)) >>> ((iI (k : Int)) &&& 31)).toInt) &&& (iI 1)).toInt = if s.testBit k = true then 1 else 0 := by
  have hq : s / 2 ^ k ≤ s := Nat.div_le_self _ _
  rw [shrN hs hk, andone (by omega), Nat.testBit_eq_decide_div_mod_eq]
  by_cases e : s / 2 ^ k % 2 = 1
  · rw [if_pos (decide_eq_true e), e]; rfl
  · rw [if_neg (fun q => e (of_decide_eq_true q)), show s / 2 ^ k % 2 = 0 by omega]; rfl
/-- a bit taken away -/
theorem clrB {s k : Nat} (hs : s < 4096) (hk : k < 12) (hb : s.testBit k = true) : (BitVec.ofNat 32 s &&& ~~~ BitVec.ofNat 32 (2 ^ k)).toNat = s - 2 ^ k ∧ ∀ j, (s - 2 ^ k).testBit j = (s.testBit j && decide (j ≠ k)) := by
  have h2 : 2 ^ k < 2 ^ 12 := Nat.pow_lt_pow_right (by omega) hk
  have hle : 2 ^ k ≤ s := Nat.ge_two_pow_of_testBit hb
  have e : (BitVec.ofNat 32 s &&& ~~~ BitVec.ofNat 32 (2 ^ k)) + BitVec.ofNat 32 (2 ^ k) = BitVec.ofNat 32 s := by
    rw [BitVec.add_eq_or_of_and_eq_zero]
    · apply BitVec.eq_of_getLsbD_eq
      intro i hi
      rw [BitVec.getLsbD_or, BitVec.getLsbD_and, BitVec.getLsbD_not, BitVec.getLsbD_ofNat, BitVec.getLsbD_ofNat, Nat.testBit_two_pow]
      by_cases q : k = i
      · subst q; rw [hb]; simp [hi]
      · simp [hi, q]
    · apply BitVec.eq_of_getLsbD_eq
      intro i hi
      rw [BitVec.getLsbD_and, BitVec.getLsbD_and, BitVec.getLsbD_not]
      simp
  have e2 : (BitVec.ofNat 32 s &&& ~~~ BitVec.ofNat 32 (2 ^ k)).toNat = s - 2 ^ k := by
    have h3 := congrArg BitVec.toNat e
    have h4 : (BitVec.ofNat 32 s &&& ~~~ BitVec.ofNat 32 (2 ^ k)).toNat ≤ (BitVec.ofNat 32 s).toNat := by rw [BitVec.toNat_and]; exact Nat.and_le_left
    rw [BitVec.toNat_add, BitVec.toNat_ofNat, BitVec.toNat_ofNat, Nat.mod_eq_of_lt (show 2 ^ k < 2 ^ 32 by omega), Nat.mod_eq_of_lt (show s < 2 ^ 32 by omega)] at h3
    rw [BitVec.toNat_ofNat, Nat.mod_eq_of_lt (show s < 2 ^ 32 by omega)] at h4
    rw [Nat.mod_eq_of_lt (by omega)] at h3
    omega
  refine ⟨e2, fun j => ?_⟩
  rw [← e2, BitVec.testBit_toNat, BitVec.getLsbD_and, BitVec.getLsbD_not, BitVec.getLsbD_ofNat, BitVec.getLsbD_ofNat, Nat.testBit_two_pow]
  by_cases q : j < 32
  · by_cases q2 : k = j
    · subst q2; simp
    · have : j ≠ k := fun z => q2 z.symm
      simp [q, q2, this]
  · have : s.testBit j = false := Nat.testBit_lt_two_pow (Nat.lt_of_lt_of_le (show s < 2 ^ 32 by omega) (Nat.pow_le_pow_right (by omega) (by omega)))
    simp [q, this]
theorem clrN {s k : Nat} (hs : s < 4096) (hk : k < 12) (hb : s.testBit k = true) : ((iI (s : Int)) &&& (iI ((iI ((2 ^ k : Nat) : Int)) ^^^ (iI (-1))).toInt)).toInt = ((s - 2 ^ k : Nat) : Int) := by
  rw [iI_of]
  refine ofbv ?_ (Nat.lt_of_le_of_lt (Nat.sub_le _ _) (by omega))
  show ((iI (s : Int)).toBitVec &&& ((iI ((2 ^ k : Nat) : Int)).toBitVec ^^^ (iI (-1)).toBitVec)).toNat = _
  have h1 : (iI (-1)).toBitVec = BitVec.allOnes 32 := by decide
  rw [h1, BitVec.xor_allOnes, bvN, bvN]
  exact (clrB hs hk hb).1
/-- the set of a number's bits -/
def tb (s k : Nat) : Bool := s.testBit k
theorem tb_dl {s k : Nat} (hs : s < 4096) (hk : k < 12) (hb : tb s k = true) : tb (s - 2 ^ k) = dl (tb s) k := funext (fun j => (clrB hs hk hb).2 j)
theorem tb_lt {s k : Nat} (hs : s < 4096) (hk : k < 12) (hb : tb s k = true) : s - 2 ^ k < s := by
  have h2 : 0 < 2 ^ k := Nat.pow_pos (by omega)
  have hle : 2 ^ k ≤ s := Nat.ge_two_pow_of_testBit hb
  omega
theorem tb_0 : tb 0 = fun _ => false := funext (fun j => Nat.zero_testBit j)
theorem tb_all {m : Nat} : tb (2 ^ m - 1) = ivl 0 m := bext (fun j => by
  rw [ivl_iff]; unfold tb; rw [Nat.testBit_two_pow_sub_one, decide_eq_true_iff]; omega)
theorem tb_out {s m k : Nat} (hs : s < 2 ^ m) (h : tb s k = true) : k < m := by
  rcases Nat.lt_or_ge k m with r | r
  · exact r
  · have : s.testBit k = false := Nat.testBit_lt_two_pow (Nat.lt_of_lt_of_le hs (Nat.pow_le_pow_right (by omega) r))
    unfold tb at h; rw [this] at h; exact absurd h (by decide)
theorem cd_0 : ∀ m, cd (fun _ => false) m = 0
  | 0 => rfl
  | m + 1 => by rw [cd_s, cd_0 m]; rfl
theorem cd_le (s : Nat → Bool) : ∀ m, cd s m ≤ m
  | 0 => Nat.le_refl 0
  | m + 1 => by rw [cd_s]; have := cd_le s m; split <;> omega
theorem sN_le {f : Nat → Nat} {b : Nat} : ∀ n, (∀ i, i < n → f i ≤ b) → sN f n ≤ n * b
  | 0, _ => by rw [Nat.zero_mul]; exact Nat.le_refl 0
  | n + 1, h => by
    rw [sN_s, Nat.succ_mul]
    exact Nat.add_le_add (sN_le n (fun i hi => h i (by omega))) (h n (by omega))
theorem wy_b {lw rw tc : Nat → Bool} {m : Nat} : ∀ f s, wy lw rw tc m f s ≤ m ^ f
  | 0, _ => by rw [Nat.pow_zero]; exact Nat.le_refl 1
  | f + 1, s => by
    rw [wy_s, Nat.pow_succ, Nat.mul_comm]
    refine sN_le m (fun k _ => ?_)
    by_cases q : s k = true ∧ cc lw rw tc k (dl s k) = true
    · rw [if_pos q]; exact wy_b f _
    · rw [if_neg q]; exact Nat.zero_le _
theorem wy_b12 {lw rw tc : Nat → Bool} {m f : Nat} {s : Nat → Bool} (hm : m ≤ 12) (hf : f ≤ m) : wy lw rw tc m f s ≤ 8916100448256 := by
  refine Nat.le_trans (wy_b f s) (Nat.le_trans (Nat.pow_le_pow_left hm f) (Nat.le_trans (Nat.pow_le_pow_right (show 0 < 12 by omega) (show f ≤ 12 by omega)) (by decide)))
theorem orB {x y j : Nat} : (x ||| y).testBit j = (x.testBit j || y.testBit j) := Nat.testBit_or x y j
