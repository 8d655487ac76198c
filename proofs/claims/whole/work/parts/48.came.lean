/-! ORDERS of the class: chains weighed -/
def acx (h : ab_H) (g bg : Nat → Bool) (ln : Nat → Nat) (n : Nat) : Prop := hcx h g bg ln n ∧ ∀ y, y < 20 → (¬ zv h 37 y = -1 ↔ oc bg ln y)
theorem hcx_sm8 {h h' : ab_H} {g bg : Nat → Bool} {ln : Nat → Nat} {n : Nat} (s : sm [198] h h') (x : hcx h g bg ln n) : hcx h' g bg ln n := by
  obtain ⟨a, b, c, e, f, i⟩ := x
  have o : ∀ b j, b ≠ 198 → zv h' b j = zv h b j := fun b j hb => s.1 b j (by simp [hb])
  refine ⟨(o _ _ (by decide)).trans a, b, by rw [o _ _ (by decide)]; exact c, fun y hy => by rw [o _ _ (by decide)]; exact e y hy, fun y hy => by rw [o _ _ (by decide)]; exact f y hy, fun c hc hb => ?_⟩
  obtain ⟨t, t1, t2, t3, t4⟩ := i c hc hb
  exact ⟨t, by rw [o _ _ (by decide)]; exact t1, by rw [o _ _ (by decide)]; exact t2, by rw [o _ _ (by decide)]; exact t3, t4⟩
theorem acx_sm {h h' : ab_H} {g bg : Nat → Bool} {ln : Nat → Nat} {n : Nat} (s : sm [198] h h') (x : acx h g bg ln n) : acx h' g bg ln n := ⟨hcx_sm8 s x.1, fun y hy => by rw [s.1 37 y (by decide)]; exact x.2 y hy⟩
theorem ch_b : ∀ n k, ch n k ≤ 2 ^ n
  | 0, 0 => Nat.le_refl 1
  | 0, k + 1 => by rw [ch_big 0 (k + 1) (by omega)]; exact Nat.zero_le _
  | n + 1, 0 => by rw [ch_0]; exact Nat.pow_pos (by omega)
  | n + 1, k + 1 => by rw [ch_s, Nat.pow_succ]; have := ch_b n k; have := ch_b n (k + 1); omega
theorem ch_b12 {n k : Nat} (h : n ≤ 12) : ch n k ≤ 4096 := Nat.le_trans (ch_b n k) (Nat.le_trans (Nat.pow_le_pow_right (by omega) h) (by decide))
theorem mix_div {O c i : Nat} (hi : 1 ≤ i) : Int.tdiv ((O * ch (c + (i - 1)) (i - 1) * (c + i) : Nat) : Int) (i : Int) = ((O * ch (c + i) i : Nat) : Int) := by
  have h := ch_mul (c + (i - 1)) (i - 1)
  rw [show i - 1 + 1 = i by omega, show c + (i - 1) + 1 = c + i by omega] at h
  rw [Nat.mul_assoc, Nat.mul_comm (ch _ _) (c + i), ← h, Nat.mul_comm i (ch (c + i) i), ← Nat.mul_assoc, ← Int.ofNat_tdiv, Nat.mul_div_cancel _ (by omega)]
theorem mixB {O a b : Nat} (hO : O ≤ 8916100448256) (ha : a ≤ 4096) (hb : b ≤ 12) : O * a * b ≤ 438244169232678912 ∧ O * a ≤ 36520347436056576 :=
  ⟨Nat.le_trans (Nat.mul_le_mul (Nat.mul_le_mul hO ha) hb) (by decide), Nat.le_trans (Nat.mul_le_mul hO ha) (by decide)⟩
theorem shlL {x k : Nat} (hk : k < 12) (hx : x * 2 ^ k < 9223372036854775808) : ((lL (x : Int)) <<< ((iI (k : Int)).toInt64 &&& 63)).toInt = ((x * 2 ^ k : Nat) : Int) := by
  have hc : ((iI (k : Int)).toInt64 &&& 63).toBitVec.smod 64 = BitVec.ofNat 64 k := by
    have q : ∀ k : Nat, k < 12 → ((iI (k : Int)).toInt64 &&& 63).toBitVec.smod 64 = BitVec.ofNat 64 k := by decide
    exact q k hk
  have hx2 : x ≤ x * 2 ^ k := Nat.le_mul_of_pos_right x (Nat.pow_pos (by omega))
  have hb : (lL (x : Int)).toBitVec = BitVec.ofNat 64 x := by
    unfold lL; rw [Int64.ofInt_eq_ofNat]; rfl
  show (BitVec.toInt ((lL (x : Int)).toBitVec <<< (((iI (k : Int)).toInt64 &&& 63).toBitVec.smod 64))) = _
  rw [hc, hb]
  have h2 : (BitVec.ofNat 64 x <<< BitVec.ofNat 64 k).toNat = x * 2 ^ k := by
    rw [BitVec.shiftLeft_eq', BitVec.toNat_shiftLeft, BitVec.toNat_ofNat, BitVec.toNat_ofNat, Nat.mod_eq_of_lt (show x < 2 ^ 64 by omega), Nat.mod_eq_of_lt (show k < 2 ^ 64 by omega), Nat.shiftLeft_eq, Nat.mod_eq_of_lt (by omega)]
  rw [BitVec.toInt_eq_toNat_cond, h2, if_pos (by omega)]
theorem lp_mix {d : Nat} {Q : ab_Q} {h0 : ab_H} {O c0 c : Nat} (hO : O ≤ 8916100448256) (hc : c0 + c ≤ 12) (K : ∀ h', sm [198] h0 h' → zv h' 198 3 = zv h0 198 3 → zv h' 198 4 = ((c0 + c : Nat) : Int) → wv h' 198 2 = ((O * ch (c0 + c) c : Nat) : Int) → Q none h') : ∀ (nn : Nat) (i : Nat) (h : ab_H), c + 1 - i = nn → (1 ≤ i) → (i ≤ c + 1) → (sm [198] h0 h) → (zv h 198 3 = zv h0 198 3) → (zv h 198 4 = ((c0 + (i - 1) : Nat) : Int)) → (wv h 198 2 = ((O * ch (c0 + (i - 1)) (i - 1) : Nat) : Int)) → ab_X d mX1_mix 2 [(0, .ref 198), (1, .int (iI (c : Int))), (2, .int (iI (i : Int)))] [] h Q := by
  intro nn
  induction nn using Nat.strongRecOn with
  | ind nn ih =>
  intro i h hnn h1 h2 hS hL hA hW
  have hmb := fun (b : Nat) (hb : b ≤ 12) => mixB hO (ch_b12 (n := c0 + (i - 1)) (k := i - 1) (by omega)) hb
  refine ab_iload_n (k := 2) dX1_mix_2 rfl rfl ?_
  refine ab_iload_n (k := 1) dX1_mix_3 rfl rfl ?_
  refine z_icmp_gt (tgt := 40) dX1_mix_4 (by decide) (by omega) (by omega) (fun c4 => ?_) (fun c4 => ?_)
  · skip
    refine z_vret dX1_mix_40 rfl ?_
    have e : i = c + 1 := by omega
    subst e
    rw [show c + 1 - 1 = c by omega] at hA hW
    exact K h hS hL hA hW
  · skip
    refine ab_aload_n (k := 0) dX1_mix_7 rfl rfl ?_
    refine ab_dup dX1_mix_8 rfl ?_
    refine z_getI dX1_mix_9 fX1_27 rfl (Or.inl rfl) ?_
    refine z_is (y := ((c0 + (i - 1) : Nat) : Int)) hA ?_
    refine z_iconst dX1_mix_12 ?_
    refine z_iadd dX1_mix_13 ?_
    refine z_putI dX1_mix_14 fX1_27 rfl rfl ?_
    refine ab_aload_n (k := 0) dX1_mix_17 rfl rfl ?_
    refine ab_aload_n (k := 0) dX1_mix_18 rfl rfl ?_
    refine z_getL dX1_mix_19 fX1_19 rfl rfl ?_
    refine z_isl (y := wv h 198 2) rfl ?_
    refine z_isl (y := ((O * ch (c0 + (i - 1)) (i - 1) : Nat) : Int)) hW ?_
    refine ab_aload_n (k := 0) dX1_mix_22 rfl rfl ?_
    refine z_getI dX1_mix_23 fX1_27 rfl (Or.inl rfl) ?_
    refine z_is (y := ((c0 + (i - 1) : Nat) : Int) + 1) (zv_zp_s (by omega)) ?_
    refine z_i2l dX1_mix_26 (by omega) ?_
    refine z_lmul dX1_mix_27 ?_
    refine z_isl (y := ((O * ch (c0 + (i - 1)) (i - 1) * (c0 + i) : Nat) : Int)) (by rw [show (((c0 + (i - 1) : Nat) : Int) : Int) + 1 = ((c0 + i : Nat) : Int) by omega]; exact (Int.natCast_mul _ _).symm) ?_
    refine ab_iload_n (k := 2) dX1_mix_28 rfl rfl ?_
    refine z_i2l dX1_mix_29 (by omega) ?_
    refine z_ldiv dX1_mix_30 ⟨by omega, by have := (hmb (c0 + i) (by omega)).1; omega⟩ (by omega) (by omega) ?_
    refine z_isl (y := ((O * ch (c0 + i) i : Nat) : Int)) (mix_div h1) ?_
    refine z_putL dX1_mix_31 fX1_19 rfl rfl ?_
    refine z_iinc (k := 2) (v := (i : Int) + 1) (ls' := [(2, .int (iI ((i : Int) + 1))), (0, .ref 198), (1, .int (iI (c : Int)))]) dX1_mix_34 rfl rfl (by decide) rfl ?_
    refine ab_goto (tgt := 2) dX1_mix_37 (by decide) ?_
    refine ab_sub (ls' := [(0, .ref 198), (1, .int (iI (c : Int))), (2, .int (iI ((i : Int) + 1)))]) (ks := [1, 2, 0]) rfl ?_
    have hmc := (mixB hO (ch_b12 (n := c0 + i) (k := i) (by omega)) (b := 1) (by omega)).2
    refine ih _ (by omega) (i + 1) _ rfl (by omega) (by omega) ((hS.trans (sm_zp (by decide))).trans (sm_wp (by decide))) ?_ ?_ ?_
    · rw [zv_wp, zv_zp_ne (by decide)]; exact hL
    · rw [zv_wp, zv_zp_s (by omega)]; omega
    · rw [wv_wp_s (by omega)]; rfl
theorem c_mix {d : Nat} {h : ab_H} {Q : ab_Q} {O c0 c : Nat} (hO : O ≤ 8916100448256) (hc : c0 + c ≤ 12) (hA : zv h 198 4 = (c0 : Int)) (hW : wv h 198 2 = (O : Int)) (K : ∀ h', sm [198] h h' → zv h' 198 3 = zv h 198 3 → zv h' 198 4 = ((c0 + c : Nat) : Int) → wv h' 198 2 = ((O * ch (c0 + c) c : Nat) : Int) → Q none h') : ab_X d mX1_mix 0 (lv_args 0 [.ref 198, .int (iI (c : Int))]) [] h Q := by
  show ab_X d mX1_mix 0 [(0, .ref 198), (1, .int (iI (c : Int)))] [] h Q
  refine z_iconst dX1_mix_0 ?_
  refine ab_istore_n (ls' := [(2, .int (iI 1)), (0, .ref 198), (1, .int (iI (c : Int)))]) dX1_mix_1 rfl (by decide) rfl ?_
  refine ab_sub (ls' := [(0, .ref 198), (1, .int (iI (c : Int))), (2, .int (iI 1))]) (ks := [1, 2, 0]) rfl ?_
  exact lp_mix hO hc K _ 1 h rfl (by omega) (by omega) sm.refl rfl (by rw [hA]; omega) (by rw [hW, show 1 - 1 = 0 by omega, ch_0, Nat.mul_one])
/-- who of the chain from a to b counts among the last -/
def LA (g bg : Nat → Bool) (n a b z : Nat) : Prop := bg z = true ∧ a ≤ z ∧ z < b ∧ (((a = 0 ∨ g (a - 1) = true) ∧ (n ≤ b ∨ g b = true)) ∨ ((a = 0 ∨ g (a - 1) = true) ∧ ¬ (n ≤ b ∨ g b = true) ∧ cd bg z + 1 = cd bg b) ∨ (¬ (a = 0 ∨ g (a - 1) = true) ∧ (n ≤ b ∨ g b = true) ∧ z = a))
def LO (g bg : Nat → Bool) (n a b : Nat) : Nat := if (a = 0 ∨ g (a - 1) = true) ∧ (n ≤ b ∨ g b = true) then 2 ^ (cd bg b - cd bg a - 1) else if (a = 0 ∨ g (a - 1) = true) ∨ (n ≤ b ∨ g b = true) then 1 else 0
theorem cd_eq {s : Nat → Bool} {a b : Nat} (ha : s a = true) (hb : s b = true) (h : cd s a = cd s b) : a = b := by
  rcases Nat.lt_or_ge a b with q | q
  · have := cd_in q ha; omega
  · rcases Nat.lt_or_ge b a with q2 | q2
    · have := cd_in q2 hb; omega
    · omega
theorem bit1 {y z : Nat} : (2 ^ y).testBit z = true ↔ z = y := by rw [Nat.testBit_two_pow, decide_eq_true_iff]; omega
theorem or20 {x y : Nat} (hx : x < 1048576) (hy : y < 1048576) : x ||| y < 1048576 := Nat.or_lt_two_pow (n := 20) hx hy
theorem p20 {y : Nat} (hy : y < 20) : 2 ^ y < 1048576 := Nat.pow_lt_pow_right (n := 20) (by omega) hy
theorem lp_addChain {d : Nat} {Q : ab_Q} {h0 : ab_H} {g bg : Nat → Bool} {ln : Nat → Nat} {n : Nat} {a O B0 : Nat} (hx : acx h0 g bg ln n) (cx : CX g bg ln n) (hm12 : cd bg n ≤ 12) (hba : bg a = true) (han : a < n) (hfi : 0 < a → ¬ oc bg ln (a - 1)) (hO : O ≤ 8916100448256) (hOb : ∀ c, cd bg a + c ≤ 12 → O * ch (cd bg a + c) c ≤ 4000000000000000) (hA : zv h0 198 4 = (cd bg a : Int)) (hW : wv h0 198 2 = (O : Int)) (hB0 : zv h0 198 3 = (B0 : Int)) (hB0b : B0 < 1048576) (K : ∀ b h', CHA bg ln n a b → sm [198] h0 h' → zv h' 198 4 = (cd bg b : Int) → wv h' 198 2 = ((O * ch (cd bg b) (cd bg b - cd bg a) * LO g bg n a b : Nat) : Int) → (∃ B' : Nat, zv h' 198 3 = (B' : Int) ∧ B' < 1048576 ∧ ∀ z, B'.testBit z = true ↔ B0.testBit z = true ∨ LA g bg n a b z) → Q none h') : ∀ (nn : Nat) (y : Nat) (c : Nat) (B : Nat) (q : Nat) (h : ab_H), n - y = nn → (h = h0) → (a ≤ y) → (y ≤ n) → (∀ z, a ≤ z → z < y → oc bg ln z) → (cd bg a + c = cd bg y) → (B < 1048576) → (∀ z, B.testBit z = true ↔ a ≤ z ∧ z < y ∧ bg z = true) → ((y = a ∧ q = a) ∨ (q < y ∧ bg q = true ∧ cd bg q + 1 = cd bg y)) → ab_X (d + 2) mX1_addChain 13 [(0, .ref 198), (1, .int (iI (a : Int))), (2, .int (iI (c : Int))), (3, .int (iI (B : Int))), (4, .int (iI (q : Int))), (5, .int (iI (y : Int))), (6, .int (iI (y : Int)))] [] h Q := by
  intro nn
  induction nn using Nat.strongRecOn with
  | ind nn ih =>
  intro y c B q h hnn hh h1 h2 hoc hcc hBb hBt hq
  subst hh
  have hn2 := hx.1.2.1
  have hn1 := hx.1.1
  refine ab_iload (k := 6) dX1_addChain_13 rfl ?_
  refine ab_aload_n (k := 0) dX1_addChain_15 rfl rfl ?_
  refine z_getP (b := 15) dX1_addChain_16 fX1_9 rfl rfl rfl ?_
  refine z_getI dX1_addChain_19 fX1_30 rfl (Or.inl rfl) ?_
  have b1 := zv_R h 15 0
  refine z_icmp_ge (tgt := 76) dX1_addChain_22 (by decide) (by omega) (by omega) (fun c22 => ?_) (fun c22 => ?_)
  · skip
    refine ab_sub (ls' := [(0, .ref 198), (1, .int (iI (a : Int))), (2, .int (iI (c : Int))), (3, .int (iI (B : Int))), (4, .int (iI (q : Int))), (5, .int (iI (y : Int)))]) (ks := [0, 1, 2, 3, 4, 5]) rfl ?_
    have hex : n ≤ y ∨ ¬ oc bg ln y := Or.inl (by omega)
    have hay : a < y := by
      rcases Nat.lt_or_ge a y with r | r
      · exact r
      · exfalso
        have e : y = a := by omega
        rw [e] at hex
        rcases hex with r | r
        · omega
        · exact absurd ⟨a, Nat.le_refl a, by have := (cx a (by omega) hba).1; omega, by omega, hba⟩ r
    have hCH : CHA bg ln n a y := ⟨hay, h2, hba, hoc, by
      rcases hex with r | r
      · rintro ⟨z, z1, z2, z3, z4⟩
        have := (cx z z3 z4).2.2.1; omega
      · exact r, hfi⟩
    have hq2 : bg q = true ∧ cd bg q + 1 = cd bg y := by rcases hq with r | r; exact absurd r.1 (by omega); exact r.2
    have hqy : q < y := by rcases hq with r | r; exact absurd r.1 (by omega); exact r.1
    have hqa : a ≤ q := by
      rcases Nat.lt_or_ge q a with r | r
      · have := cd_in r hq2.1; have := cd_in hay hba; omega
      · exact r
    have hc1 := cd_in hay hba
    have hcm := cd_mono (s := bg) h2
    have hmbb := mixB hO (ch_b12 (n := cd bg a + c) (k := c) (by omega)) (b := 1) (by omega)
    have hp2 : 2 ^ (c - 1) ≤ 2048 := Nat.le_trans (Nat.pow_le_pow_right (by omega) (show c - 1 ≤ 11 by omega)) (by decide)
    have hbig : O * ch (cd bg a + c) c * 2 ^ (c - 1) < 9223372036854775808 := Nat.lt_of_le_of_lt (Nat.mul_le_mul (hOb c (by omega)) hp2) (by decide)
    refine ab_aload_n (k := 0) dX1_addChain_76 rfl rfl ?_
    refine z_getP (b := 15) dX1_addChain_77 fX1_9 rfl rfl rfl ?_
    refine ab_iload_n (k := 1) dX1_addChain_80 rfl rfl ?_
    refine z_iconst dX1_addChain_81 ?_
    refine z_isub dX1_addChain_82 ?_
    refine ab_callV (As := [.int (iI ((a : Int) - 1))]) (rest := []) dX1_addChain_83 lX1_49 rfl (Nat.le_of_ble_eq_true rfl) (Nat.le_of_ble_eq_true rfl) rfl ?_
    refine c_isWall (by omega) (by omega) (fun gw => ?_) (fun gw => ?_)
    · skip
      have gA : a = 0 ∨ g (a - 1) = true := by
        by_cases e : a = 0
        · exact Or.inl e
        · rcases gw with r | r
          · exact absurd (show 0 ≤ (a : Int) - 1 ∧ (a : Int) - 1 < zv h 15 0 by omega) r
          · rw [show ((a : Int) - 1).toNat = a - 1 by omega] at r
            exact Or.inr ((hx.1.2.2.2.1 (a - 1) (by omega)).mpr r)
      show ab_X (d + 2) mX1_addChain 86 [(0, .ref 198), (1, .int (iI (a : Int))), (2, .int (iI (c : Int))), (3, .int (iI (B : Int))), (4, .int (iI (q : Int))), (5, .int (iI (y : Int)))] [.int (iI 1)] h _
      refine ab_istore (ls' := [(6, .int (iI 1)), (0, .ref 198), (1, .int (iI (a : Int))), (2, .int (iI (c : Int))), (3, .int (iI (B : Int))), (4, .int (iI (q : Int))), (5, .int (iI (y : Int)))]) dX1_addChain_86 (by decide) rfl ?_
      refine ab_aload_n (k := 1) dX1_addChain_88 rfl rfl ?_
      refine z_getP (b := 15) dX1_addChain_89 fX1_9 rfl rfl rfl ?_
      refine ab_iload (k := 6) dX1_addChain_92 rfl ?_
      refine ab_callV (As := [.int (iI (y : Int))]) (rest := []) dX1_addChain_94 lX1_49 rfl (Nat.le_of_ble_eq_true rfl) (Nat.le_of_ble_eq_true rfl) rfl ?_
      refine c_isWall (by omega) (by omega) (fun gw => ?_) (fun gw => ?_)
      · skip
        have gB : n ≤ y ∨ g y = true := by
          rcases Nat.lt_or_ge y n with e | e
          · rcases gw with r | r
            · exact absurd (show 0 ≤ (y : Int) ∧ (y : Int) < zv h 15 0 by omega) r
            · rw [Int.toNat_natCast] at r
              exact Or.inr ((hx.1.2.2.2.1 y (by omega)).mpr r)
          · exact Or.inl e
        show ab_X (d + 2) mX1_addChain 97 [(6, .int (iI 1)), (0, .ref 198), (1, .int (iI (a : Int))), (2, .int (iI (c : Int))), (3, .int (iI (B : Int))), (4, .int (iI (q : Int))), (5, .int (iI (y : Int)))] [.int (iI 1)] h _
        refine ab_istore (ls' := [(7, .int (iI 1)), (6, .int (iI 1)), (0, .ref 198), (1, .int (iI (a : Int))), (2, .int (iI (c : Int))), (3, .int (iI (B : Int))), (4, .int (iI (q : Int))), (5, .int (iI (y : Int)))]) dX1_addChain_97 (by decide) rfl ?_
        refine ab_aload_n (k := 2) dX1_addChain_99 rfl rfl ?_
        refine ab_iload_n (k := 4) dX1_addChain_100 rfl rfl ?_
        refine ab_callV (As := [.int (iI (c : Int))]) (rest := []) dX1_addChain_101 lX1_52 rfl (Nat.le_of_ble_eq_true rfl) (Nat.le_of_ble_eq_true rfl) rfl ?_
        refine c_mix (O := O) (c0 := cd bg a) (c := c) hO (by omega) hA hW (fun h1 hs1 hm3 hm4 hm2 => ?_)
        have hB1 : zv h1 198 3 = (B0 : Int) := hm3.trans hB0
        show ab_X (d + 2) mX1_addChain 104 [(7, .int (iI 1)), (6, .int (iI 1)), (0, .ref 198), (1, .int (iI (a : Int))), (2, .int (iI (c : Int))), (3, .int (iI (B : Int))), (4, .int (iI (q : Int))), (5, .int (iI (y : Int)))] [] h1 _
        refine ab_iload (k := 1) dX1_addChain_104 rfl ?_
        refine z_if_eq (tgt := 139) dX1_addChain_106 (by decide) (by decide) (fun c106 => absurd c106 (by decide)) (fun _ => ?_)
        refine ab_iload (k := 0) dX1_addChain_109 rfl ?_
        refine z_if_eq (tgt := 139) dX1_addChain_111 (by decide) (by decide) (fun c111 => absurd c111 (by decide)) (fun _ => ?_)
        refine ab_aload_n (k := 2) dX1_addChain_114 rfl rfl ?_
        refine ab_dup dX1_addChain_115 rfl ?_
        refine z_getL dX1_addChain_116 fX1_19 rfl rfl ?_
        refine z_isl (y := ((O * ch (cd bg a + c) c : Nat) : Int)) hm2 ?_
        refine ab_iload_n (k := 4) dX1_addChain_119 rfl rfl ?_
        refine z_iconst dX1_addChain_120 ?_
        refine z_isub dX1_addChain_121 ?_
        refine z_is (y := ((c - 1 : Nat) : Int)) (by omega) ?_
        refine ab_lshl dX1_addChain_122 ?_
        refine z_topl ?_
        refine z_isl (y := ((O * ch (cd bg a + c) c * 2 ^ (c - 1) : Nat) : Int)) (shlL (by omega) (by omega)) ?_
        refine z_putL dX1_addChain_123 fX1_19 rfl rfl ?_
        refine ab_aload_n (k := 2) dX1_addChain_126 rfl rfl ?_
        refine ab_dup dX1_addChain_127 rfl ?_
        refine z_getI dX1_addChain_128 fX1_23 rfl (Or.inl rfl) ?_
        refine z_is (y := zv h1 198 3) rfl ?_
        refine z_is (y := (B0 : Int)) hB1 ?_
        refine ab_iload_n (k := 5) dX1_addChain_131 rfl rfl ?_
        refine ab_ior dX1_addChain_132 ?_
        refine z_top ?_
        refine z_is (y := ((B0 ||| B : Nat) : Int)) (orN hB0b hBb) ?_
        refine z_putI dX1_addChain_133 fX1_23 rfl rfl ?_
        refine ab_goto (tgt := 185) dX1_addChain_136 (by decide) ?_
        refine z_vret dX1_addChain_185 rfl ?_
        have ec : cd bg y - cd bg a = c := by omega
        have eb : cd bg a + c = cd bg y := by omega
        first
        | (refine K y _ hCH ((hs1.trans (sm_wp (by decide))).trans (sm_zp (by decide))) ?_ ?_ ⟨B0 ||| B, ?_, or20 hB0b hBb, fun z => ?_⟩
           · rw [zv_zp_ne (by decide), zv_wp, hm4, eb]
           · rw [wv_zp, wv_wp_s (by omega)]
             unfold LO; rw [if_pos ⟨gA, gB⟩, ec, eb]
           · have := or20 hB0b hBb
             rw [zv_zp_s (by omega)]
           · rw [orB, Bool.or_eq_true, hBt z]
             unfold LA
             exact ⟨fun r => r.elim Or.inl (fun r => Or.inr ⟨r.2.2, r.1, r.2.1, Or.inl ⟨gA, gB⟩⟩), fun r => r.elim Or.inl (fun r => Or.inr ⟨r.2.1, r.2.2.1, r.1⟩)⟩)
        | (refine K y _ hCH (hs1.trans (sm_zp (by decide))) ?_ ?_ ⟨B0 ||| 2 ^ q, ?_, or20 hB0b (p20 (by omega)), fun z => ?_⟩
           · rw [zv_zp_ne (by decide), hm4, eb]
           · rw [wv_zp, hm2]
             unfold LO; rw [if_neg (fun z => gB z.2), if_pos (Or.inl gA), ec, eb, Nat.mul_one]
           · have := or20 hB0b (p20 (y := q) (by omega))
             rw [zv_zp_s (by omega)]
           · rw [orB, Bool.or_eq_true, bit1]
             unfold LA
             exact ⟨fun r => r.elim Or.inl (fun r => Or.inr ⟨by rw [r]; exact hq2.1, by rw [r]; exact hqa, by omega, Or.inr (Or.inl ⟨gA, gB, by rw [r]; exact hq2.2⟩)⟩), fun r => r.elim Or.inl (fun r => Or.inr (r.2.2.2.elim (fun t => absurd t.2 gB) (fun t => t.elim (fun t => cd_eq r.1 hq2.1 (by omega)) (fun t => absurd t.2.1 gB))))⟩)
        | (refine K y _ hCH (hs1.trans (sm_zp (by decide))) ?_ ?_ ⟨B0 ||| 2 ^ a, ?_, or20 hB0b (p20 (by omega)), fun z => ?_⟩
           · rw [zv_zp_ne (by decide), hm4, eb]
           · rw [wv_zp, hm2]
             unfold LO; rw [if_neg (fun z => gA z.1), if_pos (Or.inr gB), ec, eb, Nat.mul_one]
           · have := or20 hB0b (p20 (y := a) (by omega))
             rw [zv_zp_s (by omega)]
           · rw [orB, Bool.or_eq_true, bit1]
             unfold LA
             exact ⟨fun r => r.elim Or.inl (fun r => Or.inr ⟨by rw [r]; exact hba, by omega, by omega, Or.inr (Or.inr ⟨gA, gB, r⟩)⟩), fun r => r.elim Or.inl (fun r => Or.inr (r.2.2.2.elim (fun t => absurd t.1 gA) (fun t => t.elim (fun t => absurd t.1 gA) (fun t => t.2.2))))⟩)
        | (refine K y _ hCH (hs1.trans (sm_wp (by decide))) ?_ ?_ ⟨B0, ?_, hB0b, fun z => ?_⟩
           · rw [zv_wp, hm4, eb]
           · rw [wv_wp_s (by decide)]
             unfold LO; rw [if_neg (fun z => gA z.1), if_neg (fun z => z.elim gA gB), Nat.mul_zero]; rfl
           · rw [zv_wp, hB1]
           · unfold LA
             exact ⟨Or.inl, fun r => r.elim id (fun r => r.2.2.2.elim (fun t => absurd t.1 gA) (fun t => t.elim (fun t => absurd t.1 gA) (fun t => absurd t.2.1 gB)))⟩)
      · skip
        have gB : ¬ (n ≤ y ∨ g y = true) := by
          have gv : 0 ≤ (y : Int) ∧ (y : Int) < zv h 15 0 := Decidable.byContradiction (fun q => gw (Or.inl q))
          rintro (e | e)
          · omega
          · refine gw (Or.inr ?_)
            rw [Int.toNat_natCast]
            exact (hx.1.2.2.2.1 y (by omega)).mp e
        show ab_X (d + 2) mX1_addChain 97 [(6, .int (iI 1)), (0, .ref 198), (1, .int (iI (a : Int))), (2, .int (iI (c : Int))), (3, .int (iI (B : Int))), (4, .int (iI (q : Int))), (5, .int (iI (y : Int)))] [.int (iI 0)] h _
        refine ab_istore (ls' := [(7, .int (iI 0)), (6, .int (iI 1)), (0, .ref 198), (1, .int (iI (a : Int))), (2, .int (iI (c : Int))), (3, .int (iI (B : Int))), (4, .int (iI (q : Int))), (5, .int (iI (y : Int)))]) dX1_addChain_97 (by decide) rfl ?_
        refine ab_aload_n (k := 2) dX1_addChain_99 rfl rfl ?_
        refine ab_iload_n (k := 4) dX1_addChain_100 rfl rfl ?_
        refine ab_callV (As := [.int (iI (c : Int))]) (rest := []) dX1_addChain_101 lX1_52 rfl (Nat.le_of_ble_eq_true rfl) (Nat.le_of_ble_eq_true rfl) rfl ?_
        refine c_mix (O := O) (c0 := cd bg a) (c := c) hO (by omega) hA hW (fun h1 hs1 hm3 hm4 hm2 => ?_)
        have hB1 : zv h1 198 3 = (B0 : Int) := hm3.trans hB0
        show ab_X (d + 2) mX1_addChain 104 [(7, .int (iI 0)), (6, .int (iI 1)), (0, .ref 198), (1, .int (iI (a : Int))), (2, .int (iI (c : Int))), (3, .int (iI (B : Int))), (4, .int (iI (q : Int))), (5, .int (iI (y : Int)))] [] h1 _
        refine ab_iload (k := 1) dX1_addChain_104 rfl ?_
        refine z_if_eq (tgt := 139) dX1_addChain_106 (by decide) (by decide) (fun c106 => absurd c106 (by decide)) (fun _ => ?_)
        refine ab_iload (k := 0) dX1_addChain_109 rfl ?_
        refine z_if_eq (tgt := 139) dX1_addChain_111 (by decide) (by decide) (fun _ => ?_) (fun c111 => absurd c111 (by decide))
        refine ab_iload (k := 1) dX1_addChain_139 rfl ?_
        refine z_if_eq (tgt := 160) dX1_addChain_141 (by decide) (by decide) (fun c141 => absurd c141 (by decide)) (fun _ => ?_)
        refine ab_aload_n (k := 2) dX1_addChain_144 rfl rfl ?_
        refine ab_dup dX1_addChain_145 rfl ?_
        refine z_getI dX1_addChain_146 fX1_23 rfl (Or.inl rfl) ?_
        refine z_is (y := (B0 : Int)) hB1 ?_
        refine z_iconst dX1_addChain_149 ?_
        refine ab_iload (k := 6) dX1_addChain_150 rfl ?_
        refine ab_ishl dX1_addChain_152 ?_
        refine z_top ?_
        refine z_is (y := ((2 ^ q : Nat) : Int)) (shl1 (by omega)) ?_
        refine ab_ior dX1_addChain_153 ?_
        refine z_top ?_
        refine z_is (y := ((B0 ||| 2 ^ q : Nat) : Int)) (orN hB0b (p20 (by omega))) ?_
        refine z_putI dX1_addChain_154 fX1_23 rfl rfl ?_
        refine ab_goto (tgt := 185) dX1_addChain_157 (by decide) ?_
        refine z_vret dX1_addChain_185 rfl ?_
        have ec : cd bg y - cd bg a = c := by omega
        have eb : cd bg a + c = cd bg y := by omega
        first
        | (refine K y _ hCH ((hs1.trans (sm_wp (by decide))).trans (sm_zp (by decide))) ?_ ?_ ⟨B0 ||| B, ?_, or20 hB0b hBb, fun z => ?_⟩
           · rw [zv_zp_ne (by decide), zv_wp, hm4, eb]
           · rw [wv_zp, wv_wp_s (by omega)]
             unfold LO; rw [if_pos ⟨gA, gB⟩, ec, eb]
           · have := or20 hB0b hBb
             rw [zv_zp_s (by omega)]
           · rw [orB, Bool.or_eq_true, hBt z]
             unfold LA
             exact ⟨fun r => r.elim Or.inl (fun r => Or.inr ⟨r.2.2, r.1, r.2.1, Or.inl ⟨gA, gB⟩⟩), fun r => r.elim Or.inl (fun r => Or.inr ⟨r.2.1, r.2.2.1, r.1⟩)⟩)
        | (refine K y _ hCH (hs1.trans (sm_zp (by decide))) ?_ ?_ ⟨B0 ||| 2 ^ q, ?_, or20 hB0b (p20 (by omega)), fun z => ?_⟩
           · rw [zv_zp_ne (by decide), hm4, eb]
           · rw [wv_zp, hm2]
             unfold LO; rw [if_neg (fun z => gB z.2), if_pos (Or.inl gA), ec, eb, Nat.mul_one]
           · have := or20 hB0b (p20 (y := q) (by omega))
             rw [zv_zp_s (by omega)]
           · rw [orB, Bool.or_eq_true, bit1]
             unfold LA
             exact ⟨fun r => r.elim Or.inl (fun r => Or.inr ⟨by rw [r]; exact hq2.1, by rw [r]; exact hqa, by omega, Or.inr (Or.inl ⟨gA, gB, by rw [r]; exact hq2.2⟩)⟩), fun r => r.elim Or.inl (fun r => Or.inr (r.2.2.2.elim (fun t => absurd t.2 gB) (fun t => t.elim (fun t => cd_eq r.1 hq2.1 (by omega)) (fun t => absurd t.2.1 gB))))⟩)
        | (refine K y _ hCH (hs1.trans (sm_zp (by decide))) ?_ ?_ ⟨B0 ||| 2 ^ a, ?_, or20 hB0b (p20 (by omega)), fun z => ?_⟩
           · rw [zv_zp_ne (by decide), hm4, eb]
           · rw [wv_zp, hm2]
             unfold LO; rw [if_neg (fun z => gA z.1), if_pos (Or.inr gB), ec, eb, Nat.mul_one]
           · have := or20 hB0b (p20 (y := a) (by omega))
             rw [zv_zp_s (by omega)]
           · rw [orB, Bool.or_eq_true, bit1]
             unfold LA
             exact ⟨fun r => r.elim Or.inl (fun r => Or.inr ⟨by rw [r]; exact hba, by omega, by omega, Or.inr (Or.inr ⟨gA, gB, r⟩)⟩), fun r => r.elim Or.inl (fun r => Or.inr (r.2.2.2.elim (fun t => absurd t.1 gA) (fun t => t.elim (fun t => absurd t.1 gA) (fun t => t.2.2))))⟩)
        | (refine K y _ hCH (hs1.trans (sm_wp (by decide))) ?_ ?_ ⟨B0, ?_, hB0b, fun z => ?_⟩
           · rw [zv_wp, hm4, eb]
           · rw [wv_wp_s (by decide)]
             unfold LO; rw [if_neg (fun z => gA z.1), if_neg (fun z => z.elim gA gB), Nat.mul_zero]; rfl
           · rw [zv_wp, hB1]
           · unfold LA
             exact ⟨Or.inl, fun r => r.elim id (fun r => r.2.2.2.elim (fun t => absurd t.1 gA) (fun t => t.elim (fun t => absurd t.1 gA) (fun t => absurd t.2.1 gB)))⟩)
    · skip
      have gA : ¬ (a = 0 ∨ g (a - 1) = true) := by
        rintro (e | e)
        · exact gw (Or.inl (by omega))
        · refine gw (Or.inr ?_)
          rw [show ((a : Int) - 1).toNat = a - 1 by omega]
          exact (hx.1.2.2.2.1 (a - 1) (by omega)).mp e
      show ab_X (d + 2) mX1_addChain 86 [(0, .ref 198), (1, .int (iI (a : Int))), (2, .int (iI (c : Int))), (3, .int (iI (B : Int))), (4, .int (iI (q : Int))), (5, .int (iI (y : Int)))] [.int (iI 0)] h _
      refine ab_istore (ls' := [(6, .int (iI 0)), (0, .ref 198), (1, .int (iI (a : Int))), (2, .int (iI (c : Int))), (3, .int (iI (B : Int))), (4, .int (iI (q : Int))), (5, .int (iI (y : Int)))]) dX1_addChain_86 (by decide) rfl ?_
      refine ab_aload_n (k := 1) dX1_addChain_88 rfl rfl ?_
      refine z_getP (b := 15) dX1_addChain_89 fX1_9 rfl rfl rfl ?_
      refine ab_iload (k := 6) dX1_addChain_92 rfl ?_
      refine ab_callV (As := [.int (iI (y : Int))]) (rest := []) dX1_addChain_94 lX1_49 rfl (Nat.le_of_ble_eq_true rfl) (Nat.le_of_ble_eq_true rfl) rfl ?_
      refine c_isWall (by omega) (by omega) (fun gw => ?_) (fun gw => ?_)
      · skip
        have gB : n ≤ y ∨ g y = true := by
          rcases Nat.lt_or_ge y n with e | e
          · rcases gw with r | r
            · exact absurd (show 0 ≤ (y : Int) ∧ (y : Int) < zv h 15 0 by omega) r
            · rw [Int.toNat_natCast] at r
              exact Or.inr ((hx.1.2.2.2.1 y (by omega)).mpr r)
          · exact Or.inl e
        show ab_X (d + 2) mX1_addChain 97 [(6, .int (iI 0)), (0, .ref 198), (1, .int (iI (a : Int))), (2, .int (iI (c : Int))), (3, .int (iI (B : Int))), (4, .int (iI (q : Int))), (5, .int (iI (y : Int)))] [.int (iI 1)] h _
        refine ab_istore (ls' := [(7, .int (iI 1)), (6, .int (iI 0)), (0, .ref 198), (1, .int (iI (a : Int))), (2, .int (iI (c : Int))), (3, .int (iI (B : Int))), (4, .int (iI (q : Int))), (5, .int (iI (y : Int)))]) dX1_addChain_97 (by decide) rfl ?_
        refine ab_aload_n (k := 2) dX1_addChain_99 rfl rfl ?_
        refine ab_iload_n (k := 4) dX1_addChain_100 rfl rfl ?_
        refine ab_callV (As := [.int (iI (c : Int))]) (rest := []) dX1_addChain_101 lX1_52 rfl (Nat.le_of_ble_eq_true rfl) (Nat.le_of_ble_eq_true rfl) rfl ?_
        refine c_mix (O := O) (c0 := cd bg a) (c := c) hO (by omega) hA hW (fun h1 hs1 hm3 hm4 hm2 => ?_)
        have hB1 : zv h1 198 3 = (B0 : Int) := hm3.trans hB0
        show ab_X (d + 2) mX1_addChain 104 [(7, .int (iI 1)), (6, .int (iI 0)), (0, .ref 198), (1, .int (iI (a : Int))), (2, .int (iI (c : Int))), (3, .int (iI (B : Int))), (4, .int (iI (q : Int))), (5, .int (iI (y : Int)))] [] h1 _
        refine ab_iload (k := 1) dX1_addChain_104 rfl ?_
        refine z_if_eq (tgt := 139) dX1_addChain_106 (by decide) (by decide) (fun _ => ?_) (fun c106 => absurd c106 (by decide))
        refine ab_iload (k := 1) dX1_addChain_139 rfl ?_
        refine z_if_eq (tgt := 160) dX1_addChain_141 (by decide) (by decide) (fun _ => ?_) (fun c141 => absurd c141 (by decide))
        refine ab_iload (k := 0) dX1_addChain_160 rfl ?_
        refine z_if_eq (tgt := 180) dX1_addChain_162 (by decide) (by decide) (fun c162 => absurd c162 (by decide)) (fun _ => ?_)
        refine ab_aload_n (k := 2) dX1_addChain_165 rfl rfl ?_
        refine ab_dup dX1_addChain_166 rfl ?_
        refine z_getI dX1_addChain_167 fX1_23 rfl (Or.inl rfl) ?_
        refine z_is (y := (B0 : Int)) hB1 ?_
        refine z_iconst dX1_addChain_170 ?_
        refine ab_iload_n (k := 3) dX1_addChain_171 rfl rfl ?_
        refine ab_ishl dX1_addChain_172 ?_
        refine z_top ?_
        refine z_is (y := ((2 ^ a : Nat) : Int)) (shl1 (by omega)) ?_
        refine ab_ior dX1_addChain_173 ?_
        refine z_top ?_
        refine z_is (y := ((B0 ||| 2 ^ a : Nat) : Int)) (orN hB0b (p20 (by omega))) ?_
        refine z_putI dX1_addChain_174 fX1_23 rfl rfl ?_
        refine ab_goto (tgt := 185) dX1_addChain_177 (by decide) ?_
        refine z_vret dX1_addChain_185 rfl ?_
        have ec : cd bg y - cd bg a = c := by omega
        have eb : cd bg a + c = cd bg y := by omega
        first
        | (refine K y _ hCH ((hs1.trans (sm_wp (by decide))).trans (sm_zp (by decide))) ?_ ?_ ⟨B0 ||| B, ?_, or20 hB0b hBb, fun z => ?_⟩
           · rw [zv_zp_ne (by decide), zv_wp, hm4, eb]
           · rw [wv_zp, wv_wp_s (by omega)]
             unfold LO; rw [if_pos ⟨gA, gB⟩, ec, eb]
           · have := or20 hB0b hBb
             rw [zv_zp_s (by omega)]
           · rw [orB, Bool.or_eq_true, hBt z]
             unfold LA
             exact ⟨fun r => r.elim Or.inl (fun r => Or.inr ⟨r.2.2, r.1, r.2.1, Or.inl ⟨gA, gB⟩⟩), fun r => r.elim Or.inl (fun r => Or.inr ⟨r.2.1, r.2.2.1, r.1⟩)⟩)
        | (refine K y _ hCH (hs1.trans (sm_zp (by decide))) ?_ ?_ ⟨B0 ||| 2 ^ q, ?_, or20 hB0b (p20 (by omega)), fun z => ?_⟩
           · rw [zv_zp_ne (by decide), hm4, eb]
           · rw [wv_zp, hm2]
             unfold LO; rw [if_neg (fun z => gB z.2), if_pos (Or.inl gA), ec, eb, Nat.mul_one]
           · have := or20 hB0b (p20 (y := q) (by omega))
             rw [zv_zp_s (by omega)]
           · rw [orB, Bool.or_eq_true, bit1]
             unfold LA
             exact ⟨fun r => r.elim Or.inl (fun r => Or.inr ⟨by rw [r]; exact hq2.1, by rw [r]; exact hqa, by omega, Or.inr (Or.inl ⟨gA, gB, by rw [r]; exact hq2.2⟩)⟩), fun r => r.elim Or.inl (fun r => Or.inr (r.2.2.2.elim (fun t => absurd t.2 gB) (fun t => t.elim (fun t => cd_eq r.1 hq2.1 (by omega)) (fun t => absurd t.2.1 gB))))⟩)
        | (refine K y _ hCH (hs1.trans (sm_zp (by decide))) ?_ ?_ ⟨B0 ||| 2 ^ a, ?_, or20 hB0b (p20 (by omega)), fun z => ?_⟩
           · rw [zv_zp_ne (by decide), hm4, eb]
           · rw [wv_zp, hm2]
             unfold LO; rw [if_neg (fun z => gA z.1), if_pos (Or.inr gB), ec, eb, Nat.mul_one]
           · have := or20 hB0b (p20 (y := a) (by omega))
             rw [zv_zp_s (by omega)]
           · rw [orB, Bool.or_eq_true, bit1]
             unfold LA
             exact ⟨fun r => r.elim Or.inl (fun r => Or.inr ⟨by rw [r]; exact hba, by omega, by omega, Or.inr (Or.inr ⟨gA, gB, r⟩)⟩), fun r => r.elim Or.inl (fun r => Or.inr (r.2.2.2.elim (fun t => absurd t.1 gA) (fun t => t.elim (fun t => absurd t.1 gA) (fun t => t.2.2))))⟩)
        | (refine K y _ hCH (hs1.trans (sm_wp (by decide))) ?_ ?_ ⟨B0, ?_, hB0b, fun z => ?_⟩
           · rw [zv_wp, hm4, eb]
           · rw [wv_wp_s (by decide)]
             unfold LO; rw [if_neg (fun z => gA z.1), if_neg (fun z => z.elim gA gB), Nat.mul_zero]; rfl
           · rw [zv_wp, hB1]
           · unfold LA
             exact ⟨Or.inl, fun r => r.elim id (fun r => r.2.2.2.elim (fun t => absurd t.1 gA) (fun t => t.elim (fun t => absurd t.1 gA) (fun t => absurd t.2.1 gB)))⟩)
      · skip
        have gB : ¬ (n ≤ y ∨ g y = true) := by
          have gv : 0 ≤ (y : Int) ∧ (y : Int) < zv h 15 0 := Decidable.byContradiction (fun q => gw (Or.inl q))
          rintro (e | e)
          · omega
          · refine gw (Or.inr ?_)
            rw [Int.toNat_natCast]
            exact (hx.1.2.2.2.1 y (by omega)).mp e
        show ab_X (d + 2) mX1_addChain 97 [(6, .int (iI 0)), (0, .ref 198), (1, .int (iI (a : Int))), (2, .int (iI (c : Int))), (3, .int (iI (B : Int))), (4, .int (iI (q : Int))), (5, .int (iI (y : Int)))] [.int (iI 0)] h _
        refine ab_istore (ls' := [(7, .int (iI 0)), (6, .int (iI 0)), (0, .ref 198), (1, .int (iI (a : Int))), (2, .int (iI (c : Int))), (3, .int (iI (B : Int))), (4, .int (iI (q : Int))), (5, .int (iI (y : Int)))]) dX1_addChain_97 (by decide) rfl ?_
        refine ab_aload_n (k := 2) dX1_addChain_99 rfl rfl ?_
        refine ab_iload_n (k := 4) dX1_addChain_100 rfl rfl ?_
        refine ab_callV (As := [.int (iI (c : Int))]) (rest := []) dX1_addChain_101 lX1_52 rfl (Nat.le_of_ble_eq_true rfl) (Nat.le_of_ble_eq_true rfl) rfl ?_
        refine c_mix (O := O) (c0 := cd bg a) (c := c) hO (by omega) hA hW (fun h1 hs1 hm3 hm4 hm2 => ?_)
        have hB1 : zv h1 198 3 = (B0 : Int) := hm3.trans hB0
        show ab_X (d + 2) mX1_addChain 104 [(7, .int (iI 0)), (6, .int (iI 0)), (0, .ref 198), (1, .int (iI (a : Int))), (2, .int (iI (c : Int))), (3, .int (iI (B : Int))), (4, .int (iI (q : Int))), (5, .int (iI (y : Int)))] [] h1 _
        refine ab_iload (k := 1) dX1_addChain_104 rfl ?_
        refine z_if_eq (tgt := 139) dX1_addChain_106 (by decide) (by decide) (fun _ => ?_) (fun c106 => absurd c106 (by decide))
        refine ab_iload (k := 1) dX1_addChain_139 rfl ?_
        refine z_if_eq (tgt := 160) dX1_addChain_141 (by decide) (by decide) (fun _ => ?_) (fun c141 => absurd c141 (by decide))
        refine ab_iload (k := 0) dX1_addChain_160 rfl ?_
        refine z_if_eq (tgt := 180) dX1_addChain_162 (by decide) (by decide) (fun _ => ?_) (fun c162 => absurd c162 (by decide))
        refine ab_aload_n (k := 2) dX1_addChain_180 rfl rfl ?_
        refine z_lconst (v := 0) dX1_addChain_181 (by decide) ?_
        refine z_putL dX1_addChain_182 fX1_19 rfl rfl ?_
        refine z_vret dX1_addChain_185 rfl ?_
        have ec : cd bg y - cd bg a = c := by omega
        have eb : cd bg a + c = cd bg y := by omega
        first
        | (refine K y _ hCH ((hs1.trans (sm_wp (by decide))).trans (sm_zp (by decide))) ?_ ?_ ⟨B0 ||| B, ?_, or20 hB0b hBb, fun z => ?_⟩
           · rw [zv_zp_ne (by decide), zv_wp, hm4, eb]
           · rw [wv_zp, wv_wp_s (by omega)]
             unfold LO; rw [if_pos ⟨gA, gB⟩, ec, eb]
           · have := or20 hB0b hBb
             rw [zv_zp_s (by omega)]
           · rw [orB, Bool.or_eq_true, hBt z]
             unfold LA
             exact ⟨fun r => r.elim Or.inl (fun r => Or.inr ⟨r.2.2, r.1, r.2.1, Or.inl ⟨gA, gB⟩⟩), fun r => r.elim Or.inl (fun r => Or.inr ⟨r.2.1, r.2.2.1, r.1⟩)⟩)
        | (refine K y _ hCH (hs1.trans (sm_zp (by decide))) ?_ ?_ ⟨B0 ||| 2 ^ q, ?_, or20 hB0b (p20 (by omega)), fun z => ?_⟩
           · rw [zv_zp_ne (by decide), hm4, eb]
           · rw [wv_zp, hm2]
             unfold LO; rw [if_neg (fun z => gB z.2), if_pos (Or.inl gA), ec, eb, Nat.mul_one]
           · have := or20 hB0b (p20 (y := q) (by omega))
             rw [zv_zp_s (by omega)]
           · rw [orB, Bool.or_eq_true, bit1]
             unfold LA
             exact ⟨fun r => r.elim Or.inl (fun r => Or.inr ⟨by rw [r]; exact hq2.1, by rw [r]; exact hqa, by omega, Or.inr (Or.inl ⟨gA, gB, by rw [r]; exact hq2.2⟩)⟩), fun r => r.elim Or.inl (fun r => Or.inr (r.2.2.2.elim (fun t => absurd t.2 gB) (fun t => t.elim (fun t => cd_eq r.1 hq2.1 (by omega)) (fun t => absurd t.2.1 gB))))⟩)
        | (refine K y _ hCH (hs1.trans (sm_zp (by decide))) ?_ ?_ ⟨B0 ||| 2 ^ a, ?_, or20 hB0b (p20 (by omega)), fun z => ?_⟩
           · rw [zv_zp_ne (by decide), hm4, eb]
           · rw [wv_zp, hm2]
             unfold LO; rw [if_neg (fun z => gA z.1), if_pos (Or.inr gB), ec, eb, Nat.mul_one]
           · have := or20 hB0b (p20 (y := a) (by omega))
             rw [zv_zp_s (by omega)]
           · rw [orB, Bool.or_eq_true, bit1]
             unfold LA
             exact ⟨fun r => r.elim Or.inl (fun r => Or.inr ⟨by rw [r]; exact hba, by omega, by omega, Or.inr (Or.inr ⟨gA, gB, r⟩)⟩), fun r => r.elim Or.inl (fun r => Or.inr (r.2.2.2.elim (fun t => absurd t.1 gA) (fun t => t.elim (fun t => absurd t.1 gA) (fun t => t.2.2))))⟩)
        | (refine K y _ hCH (hs1.trans (sm_wp (by decide))) ?_ ?_ ⟨B0, ?_, hB0b, fun z => ?_⟩
           · rw [zv_wp, hm4, eb]
           · rw [wv_wp_s (by decide)]
             unfold LO; rw [if_neg (fun z => gA z.1), if_neg (fun z => z.elim gA gB), Nat.mul_zero]; rfl
           · rw [zv_wp, hB1]
           · unfold LA
             exact ⟨Or.inl, fun r => r.elim id (fun r => r.2.2.2.elim (fun t => absurd t.1 gA) (fun t => t.elim (fun t => absurd t.1 gA) (fun t => absurd t.2.1 gB)))⟩)
  · skip
    refine ab_aload_n (k := 0) dX1_addChain_25 rfl rfl ?_
    refine z_getP (b := 36) dX1_addChain_26 fX1_15 rfl rfl rfl ?_
    refine ab_iload (k := 6) dX1_addChain_29 rfl ?_
    refine ab_callV (As := [.int (iI (y : Int))]) (rest := []) dX1_addChain_31 lX1_41 rfl (Nat.le_of_ble_eq_true rfl) (Nat.le_of_ble_eq_true rfl) rfl ?_
    refine c_placeAt (r := 36) rfl rfl rfl (by omega) (fun gP => ?_) (fun q => absurd (show _ from ⟨by omega, by omega⟩) q)
    simp only [Int.toNat_natCast]
    have bP := zv_R h 37 y
    show ab_X (d + 2) mX1_addChain 34 [(0, .ref 198), (1, .int (iI (a : Int))), (2, .int (iI (c : Int))), (3, .int (iI (B : Int))), (4, .int (iI (q : Int))), (5, .int (iI (y : Int))), (6, .int (iI (y : Int)))] [.int (iI (zv h 37 y))] h _
    refine z_iconst dX1_addChain_34 ?_
    refine z_icmp_eq (tgt := 76) dX1_addChain_35 (by decide) (by omega) (by decide) (fun c35 => ?_) (fun c35 => ?_)
    · skip
      refine ab_sub (ls' := [(0, .ref 198), (1, .int (iI (a : Int))), (2, .int (iI (c : Int))), (3, .int (iI (B : Int))), (4, .int (iI (q : Int))), (5, .int (iI (y : Int)))]) (ks := [0, 1, 2, 3, 4, 5]) rfl ?_
      have hex : n ≤ y ∨ ¬ oc bg ln y := Or.inr (fun r => (hx.2 y (by omega)).mpr r (by omega))
      have hay : a < y := by
        rcases Nat.lt_or_ge a y with r | r
        · exact r
        · exfalso
          have e : y = a := by omega
          rw [e] at hex
          rcases hex with r | r
          · omega
          · exact absurd ⟨a, Nat.le_refl a, by have := (cx a (by omega) hba).1; omega, by omega, hba⟩ r
      have hCH : CHA bg ln n a y := ⟨hay, h2, hba, hoc, by
        rcases hex with r | r
        · rintro ⟨z, z1, z2, z3, z4⟩
          have := (cx z z3 z4).2.2.1; omega
        · exact r, hfi⟩
      have hq2 : bg q = true ∧ cd bg q + 1 = cd bg y := by rcases hq with r | r; exact absurd r.1 (by omega); exact r.2
      have hqy : q < y := by rcases hq with r | r; exact absurd r.1 (by omega); exact r.1
      have hqa : a ≤ q := by
        rcases Nat.lt_or_ge q a with r | r
        · have := cd_in r hq2.1; have := cd_in hay hba; omega
        · exact r
      have hc1 := cd_in hay hba
      have hcm := cd_mono (s := bg) h2
      have hmbb := mixB hO (ch_b12 (n := cd bg a + c) (k := c) (by omega)) (b := 1) (by omega)
      have hp2 : 2 ^ (c - 1) ≤ 2048 := Nat.le_trans (Nat.pow_le_pow_right (by omega) (show c - 1 ≤ 11 by omega)) (by decide)
      have hbig : O * ch (cd bg a + c) c * 2 ^ (c - 1) < 9223372036854775808 := Nat.lt_of_le_of_lt (Nat.mul_le_mul (hOb c (by omega)) hp2) (by decide)
      refine ab_aload_n (k := 0) dX1_addChain_76 rfl rfl ?_
      refine z_getP (b := 15) dX1_addChain_77 fX1_9 rfl rfl rfl ?_
      refine ab_iload_n (k := 1) dX1_addChain_80 rfl rfl ?_
      refine z_iconst dX1_addChain_81 ?_
      refine z_isub dX1_addChain_82 ?_
      refine ab_callV (As := [.int (iI ((a : Int) - 1))]) (rest := []) dX1_addChain_83 lX1_49 rfl (Nat.le_of_ble_eq_true rfl) (Nat.le_of_ble_eq_true rfl) rfl ?_
      refine c_isWall (by omega) (by omega) (fun gw => ?_) (fun gw => ?_)
      · skip
        have gA : a = 0 ∨ g (a - 1) = true := by
          by_cases e : a = 0
          · exact Or.inl e
          · rcases gw with r | r
            · exact absurd (show 0 ≤ (a : Int) - 1 ∧ (a : Int) - 1 < zv h 15 0 by omega) r
            · rw [show ((a : Int) - 1).toNat = a - 1 by omega] at r
              exact Or.inr ((hx.1.2.2.2.1 (a - 1) (by omega)).mpr r)
        show ab_X (d + 2) mX1_addChain 86 [(0, .ref 198), (1, .int (iI (a : Int))), (2, .int (iI (c : Int))), (3, .int (iI (B : Int))), (4, .int (iI (q : Int))), (5, .int (iI (y : Int)))] [.int (iI 1)] h _
        refine ab_istore (ls' := [(6, .int (iI 1)), (0, .ref 198), (1, .int (iI (a : Int))), (2, .int (iI (c : Int))), (3, .int (iI (B : Int))), (4, .int (iI (q : Int))), (5, .int (iI (y : Int)))]) dX1_addChain_86 (by decide) rfl ?_
        refine ab_aload_n (k := 1) dX1_addChain_88 rfl rfl ?_
        refine z_getP (b := 15) dX1_addChain_89 fX1_9 rfl rfl rfl ?_
        refine ab_iload (k := 6) dX1_addChain_92 rfl ?_
        refine ab_callV (As := [.int (iI (y : Int))]) (rest := []) dX1_addChain_94 lX1_49 rfl (Nat.le_of_ble_eq_true rfl) (Nat.le_of_ble_eq_true rfl) rfl ?_
        refine c_isWall (by omega) (by omega) (fun gw => ?_) (fun gw => ?_)
        · skip
          have gB : n ≤ y ∨ g y = true := by
            rcases Nat.lt_or_ge y n with e | e
            · rcases gw with r | r
              · exact absurd (show 0 ≤ (y : Int) ∧ (y : Int) < zv h 15 0 by omega) r
              · rw [Int.toNat_natCast] at r
                exact Or.inr ((hx.1.2.2.2.1 y (by omega)).mpr r)
            · exact Or.inl e
          show ab_X (d + 2) mX1_addChain 97 [(6, .int (iI 1)), (0, .ref 198), (1, .int (iI (a : Int))), (2, .int (iI (c : Int))), (3, .int (iI (B : Int))), (4, .int (iI (q : Int))), (5, .int (iI (y : Int)))] [.int (iI 1)] h _
          refine ab_istore (ls' := [(7, .int (iI 1)), (6, .int (iI 1)), (0, .ref 198), (1, .int (iI (a : Int))), (2, .int (iI (c : Int))), (3, .int (iI (B : Int))), (4, .int (iI (q : Int))), (5, .int (iI (y : Int)))]) dX1_addChain_97 (by decide) rfl ?_
          refine ab_aload_n (k := 2) dX1_addChain_99 rfl rfl ?_
          refine ab_iload_n (k := 4) dX1_addChain_100 rfl rfl ?_
          refine ab_callV (As := [.int (iI (c : Int))]) (rest := []) dX1_addChain_101 lX1_52 rfl (Nat.le_of_ble_eq_true rfl) (Nat.le_of_ble_eq_true rfl) rfl ?_
          refine c_mix (O := O) (c0 := cd bg a) (c := c) hO (by omega) hA hW (fun h1 hs1 hm3 hm4 hm2 => ?_)
          have hB1 : zv h1 198 3 = (B0 : Int) := hm3.trans hB0
          show ab_X (d + 2) mX1_addChain 104 [(7, .int (iI 1)), (6, .int (iI 1)), (0, .ref 198), (1, .int (iI (a : Int))), (2, .int (iI (c : Int))), (3, .int (iI (B : Int))), (4, .int (iI (q : Int))), (5, .int (iI (y : Int)))] [] h1 _
          refine ab_iload (k := 1) dX1_addChain_104 rfl ?_
          refine z_if_eq (tgt := 139) dX1_addChain_106 (by decide) (by decide) (fun c106 => absurd c106 (by decide)) (fun _ => ?_)
          refine ab_iload (k := 0) dX1_addChain_109 rfl ?_
          refine z_if_eq (tgt := 139) dX1_addChain_111 (by decide) (by decide) (fun c111 => absurd c111 (by decide)) (fun _ => ?_)
          refine ab_aload_n (k := 2) dX1_addChain_114 rfl rfl ?_
          refine ab_dup dX1_addChain_115 rfl ?_
          refine z_getL dX1_addChain_116 fX1_19 rfl rfl ?_
          refine z_isl (y := ((O * ch (cd bg a + c) c : Nat) : Int)) hm2 ?_
          refine ab_iload_n (k := 4) dX1_addChain_119 rfl rfl ?_
          refine z_iconst dX1_addChain_120 ?_
          refine z_isub dX1_addChain_121 ?_
          refine z_is (y := ((c - 1 : Nat) : Int)) (by omega) ?_
          refine ab_lshl dX1_addChain_122 ?_
          refine z_topl ?_
          refine z_isl (y := ((O * ch (cd bg a + c) c * 2 ^ (c - 1) : Nat) : Int)) (shlL (by omega) (by omega)) ?_
          refine z_putL dX1_addChain_123 fX1_19 rfl rfl ?_
          refine ab_aload_n (k := 2) dX1_addChain_126 rfl rfl ?_
          refine ab_dup dX1_addChain_127 rfl ?_
          refine z_getI dX1_addChain_128 fX1_23 rfl (Or.inl rfl) ?_
          refine z_is (y := zv h1 198 3) rfl ?_
          refine z_is (y := (B0 : Int)) hB1 ?_
          refine ab_iload_n (k := 5) dX1_addChain_131 rfl rfl ?_
          refine ab_ior dX1_addChain_132 ?_
          refine z_top ?_
          refine z_is (y := ((B0 ||| B : Nat) : Int)) (orN hB0b hBb) ?_
          refine z_putI dX1_addChain_133 fX1_23 rfl rfl ?_
          refine ab_goto (tgt := 185) dX1_addChain_136 (by decide) ?_
          refine z_vret dX1_addChain_185 rfl ?_
          have ec : cd bg y - cd bg a = c := by omega
          have eb : cd bg a + c = cd bg y := by omega
          first
          | (refine K y _ hCH ((hs1.trans (sm_wp (by decide))).trans (sm_zp (by decide))) ?_ ?_ ⟨B0 ||| B, ?_, or20 hB0b hBb, fun z => ?_⟩
             · rw [zv_zp_ne (by decide), zv_wp, hm4, eb]
             · rw [wv_zp, wv_wp_s (by omega)]
               unfold LO; rw [if_pos ⟨gA, gB⟩, ec, eb]
             · have := or20 hB0b hBb
               rw [zv_zp_s (by omega)]
             · rw [orB, Bool.or_eq_true, hBt z]
               unfold LA
               exact ⟨fun r => r.elim Or.inl (fun r => Or.inr ⟨r.2.2, r.1, r.2.1, Or.inl ⟨gA, gB⟩⟩), fun r => r.elim Or.inl (fun r => Or.inr ⟨r.2.1, r.2.2.1, r.1⟩)⟩)
          | (refine K y _ hCH (hs1.trans (sm_zp (by decide))) ?_ ?_ ⟨B0 ||| 2 ^ q, ?_, or20 hB0b (p20 (by omega)), fun z => ?_⟩
             · rw [zv_zp_ne (by decide), hm4, eb]
             · rw [wv_zp, hm2]
               unfold LO; rw [if_neg (fun z => gB z.2), if_pos (Or.inl gA), ec, eb, Nat.mul_one]
             · have := or20 hB0b (p20 (y := q) (by omega))
               rw [zv_zp_s (by omega)]
             · rw [orB, Bool.or_eq_true, bit1]
               unfold LA
               exact ⟨fun r => r.elim Or.inl (fun r => Or.inr ⟨by rw [r]; exact hq2.1, by rw [r]; exact hqa, by omega, Or.inr (Or.inl ⟨gA, gB, by rw [r]; exact hq2.2⟩)⟩), fun r => r.elim Or.inl (fun r => Or.inr (r.2.2.2.elim (fun t => absurd t.2 gB) (fun t => t.elim (fun t => cd_eq r.1 hq2.1 (by omega)) (fun t => absurd t.2.1 gB))))⟩)
          | (refine K y _ hCH (hs1.trans (sm_zp (by decide))) ?_ ?_ ⟨B0 ||| 2 ^ a, ?_, or20 hB0b (p20 (by omega)), fun z => ?_⟩
             · rw [zv_zp_ne (by decide), hm4, eb]
             · rw [wv_zp, hm2]
               unfold LO; rw [if_neg (fun z => gA z.1), if_pos (Or.inr gB), ec, eb, Nat.mul_one]
             · have := or20 hB0b (p20 (y := a) (by omega))
               rw [zv_zp_s (by omega)]
             · rw [orB, Bool.or_eq_true, bit1]
               unfold LA
               exact ⟨fun r => r.elim Or.inl (fun r => Or.inr ⟨by rw [r]; exact hba, by omega, by omega, Or.inr (Or.inr ⟨gA, gB, r⟩)⟩), fun r => r.elim Or.inl (fun r => Or.inr (r.2.2.2.elim (fun t => absurd t.1 gA) (fun t => t.elim (fun t => absurd t.1 gA) (fun t => t.2.2))))⟩)
          | (refine K y _ hCH (hs1.trans (sm_wp (by decide))) ?_ ?_ ⟨B0, ?_, hB0b, fun z => ?_⟩
             · rw [zv_wp, hm4, eb]
             · rw [wv_wp_s (by decide)]
               unfold LO; rw [if_neg (fun z => gA z.1), if_neg (fun z => z.elim gA gB), Nat.mul_zero]; rfl
             · rw [zv_wp, hB1]
             · unfold LA
               exact ⟨Or.inl, fun r => r.elim id (fun r => r.2.2.2.elim (fun t => absurd t.1 gA) (fun t => t.elim (fun t => absurd t.1 gA) (fun t => absurd t.2.1 gB)))⟩)
        · skip
          have gB : ¬ (n ≤ y ∨ g y = true) := by
            have gv : 0 ≤ (y : Int) ∧ (y : Int) < zv h 15 0 := Decidable.byContradiction (fun q => gw (Or.inl q))
            rintro (e | e)
            · omega
            · refine gw (Or.inr ?_)
              rw [Int.toNat_natCast]
              exact (hx.1.2.2.2.1 y (by omega)).mp e
          show ab_X (d + 2) mX1_addChain 97 [(6, .int (iI 1)), (0, .ref 198), (1, .int (iI (a : Int))), (2, .int (iI (c : Int))), (3, .int (iI (B : Int))), (4, .int (iI (q : Int))), (5, .int (iI (y : Int)))] [.int (iI 0)] h _
          refine ab_istore (ls' := [(7, .int (iI 0)), (6, .int (iI 1)), (0, .ref 198), (1, .int (iI (a : Int))), (2, .int (iI (c : Int))), (3, .int (iI (B : Int))), (4, .int (iI (q : Int))), (5, .int (iI (y : Int)))]) dX1_addChain_97 (by decide) rfl ?_
          refine ab_aload_n (k := 2) dX1_addChain_99 rfl rfl ?_
          refine ab_iload_n (k := 4) dX1_addChain_100 rfl rfl ?_
          refine ab_callV (As := [.int (iI (c : Int))]) (rest := []) dX1_addChain_101 lX1_52 rfl (Nat.le_of_ble_eq_true rfl) (Nat.le_of_ble_eq_true rfl) rfl ?_
          refine c_mix (O := O) (c0 := cd bg a) (c := c) hO (by omega) hA hW (fun h1 hs1 hm3 hm4 hm2 => ?_)
          have hB1 : zv h1 198 3 = (B0 : Int) := hm3.trans hB0
          show ab_X (d + 2) mX1_addChain 104 [(7, .int (iI 0)), (6, .int (iI 1)), (0, .ref 198), (1, .int (iI (a : Int))), (2, .int (iI (c : Int))), (3, .int (iI (B : Int))), (4, .int (iI (q : Int))), (5, .int (iI (y : Int)))] [] h1 _
          refine ab_iload (k := 1) dX1_addChain_104 rfl ?_
          refine z_if_eq (tgt := 139) dX1_addChain_106 (by decide) (by decide) (fun c106 => absurd c106 (by decide)) (fun _ => ?_)
          refine ab_iload (k := 0) dX1_addChain_109 rfl ?_
          refine z_if_eq (tgt := 139) dX1_addChain_111 (by decide) (by decide) (fun _ => ?_) (fun c111 => absurd c111 (by decide))
          refine ab_iload (k := 1) dX1_addChain_139 rfl ?_
          refine z_if_eq (tgt := 160) dX1_addChain_141 (by decide) (by decide) (fun c141 => absurd c141 (by decide)) (fun _ => ?_)
          refine ab_aload_n (k := 2) dX1_addChain_144 rfl rfl ?_
          refine ab_dup dX1_addChain_145 rfl ?_
          refine z_getI dX1_addChain_146 fX1_23 rfl (Or.inl rfl) ?_
          refine z_is (y := (B0 : Int)) hB1 ?_
          refine z_iconst dX1_addChain_149 ?_
          refine ab_iload (k := 6) dX1_addChain_150 rfl ?_
          refine ab_ishl dX1_addChain_152 ?_
          refine z_top ?_
          refine z_is (y := ((2 ^ q : Nat) : Int)) (shl1 (by omega)) ?_
          refine ab_ior dX1_addChain_153 ?_
          refine z_top ?_
          refine z_is (y := ((B0 ||| 2 ^ q : Nat) : Int)) (orN hB0b (p20 (by omega))) ?_
          refine z_putI dX1_addChain_154 fX1_23 rfl rfl ?_
          refine ab_goto (tgt := 185) dX1_addChain_157 (by decide) ?_
          refine z_vret dX1_addChain_185 rfl ?_
          have ec : cd bg y - cd bg a = c := by omega
          have eb : cd bg a + c = cd bg y := by omega
          first
          | (refine K y _ hCH ((hs1.trans (sm_wp (by decide))).trans (sm_zp (by decide))) ?_ ?_ ⟨B0 ||| B, ?_, or20 hB0b hBb, fun z => ?_⟩
             · rw [zv_zp_ne (by decide), zv_wp, hm4, eb]
             · rw [wv_zp, wv_wp_s (by omega)]
               unfold LO; rw [if_pos ⟨gA, gB⟩, ec, eb]
             · have := or20 hB0b hBb
               rw [zv_zp_s (by omega)]
             · rw [orB, Bool.or_eq_true, hBt z]
               unfold LA
               exact ⟨fun r => r.elim Or.inl (fun r => Or.inr ⟨r.2.2, r.1, r.2.1, Or.inl ⟨gA, gB⟩⟩), fun r => r.elim Or.inl (fun r => Or.inr ⟨r.2.1, r.2.2.1, r.1⟩)⟩)
          | (refine K y _ hCH (hs1.trans (sm_zp (by decide))) ?_ ?_ ⟨B0 ||| 2 ^ q, ?_, or20 hB0b (p20 (by omega)), fun z => ?_⟩
             · rw [zv_zp_ne (by decide), hm4, eb]
             · rw [wv_zp, hm2]
               unfold LO; rw [if_neg (fun z => gB z.2), if_pos (Or.inl gA), ec, eb, Nat.mul_one]
             · have := or20 hB0b (p20 (y := q) (by omega))
               rw [zv_zp_s (by omega)]
             · rw [orB, Bool.or_eq_true, bit1]
               unfold LA
               exact ⟨fun r => r.elim Or.inl (fun r => Or.inr ⟨by rw [r]; exact hq2.1, by rw [r]; exact hqa, by omega, Or.inr (Or.inl ⟨gA, gB, by rw [r]; exact hq2.2⟩)⟩), fun r => r.elim Or.inl (fun r => Or.inr (r.2.2.2.elim (fun t => absurd t.2 gB) (fun t => t.elim (fun t => cd_eq r.1 hq2.1 (by omega)) (fun t => absurd t.2.1 gB))))⟩)
          | (refine K y _ hCH (hs1.trans (sm_zp (by decide))) ?_ ?_ ⟨B0 ||| 2 ^ a, ?_, or20 hB0b (p20 (by omega)), fun z => ?_⟩
             · rw [zv_zp_ne (by decide), hm4, eb]
             · rw [wv_zp, hm2]
               unfold LO; rw [if_neg (fun z => gA z.1), if_pos (Or.inr gB), ec, eb, Nat.mul_one]
             · have := or20 hB0b (p20 (y := a) (by omega))
               rw [zv_zp_s (by omega)]
             · rw [orB, Bool.or_eq_true, bit1]
               unfold LA
               exact ⟨fun r => r.elim Or.inl (fun r => Or.inr ⟨by rw [r]; exact hba, by omega, by omega, Or.inr (Or.inr ⟨gA, gB, r⟩)⟩), fun r => r.elim Or.inl (fun r => Or.inr (r.2.2.2.elim (fun t => absurd t.1 gA) (fun t => t.elim (fun t => absurd t.1 gA) (fun t => t.2.2))))⟩)
          | (refine K y _ hCH (hs1.trans (sm_wp (by decide))) ?_ ?_ ⟨B0, ?_, hB0b, fun z => ?_⟩
             · rw [zv_wp, hm4, eb]
             · rw [wv_wp_s (by decide)]
               unfold LO; rw [if_neg (fun z => gA z.1), if_neg (fun z => z.elim gA gB), Nat.mul_zero]; rfl
             · rw [zv_wp, hB1]
             · unfold LA
               exact ⟨Or.inl, fun r => r.elim id (fun r => r.2.2.2.elim (fun t => absurd t.1 gA) (fun t => t.elim (fun t => absurd t.1 gA) (fun t => absurd t.2.1 gB)))⟩)
      · skip
        have gA : ¬ (a = 0 ∨ g (a - 1) = true) := by
          rintro (e | e)
          · exact gw (Or.inl (by omega))
          · refine gw (Or.inr ?_)
            rw [show ((a : Int) - 1).toNat = a - 1 by omega]
            exact (hx.1.2.2.2.1 (a - 1) (by omega)).mp e
        show ab_X (d + 2) mX1_addChain 86 [(0, .ref 198), (1, .int (iI (a : Int))), (2, .int (iI (c : Int))), (3, .int (iI (B : Int))), (4, .int (iI (q : Int))), (5, .int (iI (y : Int)))] [.int (iI 0)] h _
        refine ab_istore (ls' := [(6, .int (iI 0)), (0, .ref 198), (1, .int (iI (a : Int))), (2, .int (iI (c : Int))), (3, .int (iI (B : Int))), (4, .int (iI (q : Int))), (5, .int (iI (y : Int)))]) dX1_addChain_86 (by decide) rfl ?_
        refine ab_aload_n (k := 1) dX1_addChain_88 rfl rfl ?_
        refine z_getP (b := 15) dX1_addChain_89 fX1_9 rfl rfl rfl ?_
        refine ab_iload (k := 6) dX1_addChain_92 rfl ?_
        refine ab_callV (As := [.int (iI (y : Int))]) (rest := []) dX1_addChain_94 lX1_49 rfl (Nat.le_of_ble_eq_true rfl) (Nat.le_of_ble_eq_true rfl) rfl ?_
        refine c_isWall (by omega) (by omega) (fun gw => ?_) (fun gw => ?_)
        · skip
          have gB : n ≤ y ∨ g y = true := by
            rcases Nat.lt_or_ge y n with e | e
            · rcases gw with r | r
              · exact absurd (show 0 ≤ (y : Int) ∧ (y : Int) < zv h 15 0 by omega) r
              · rw [Int.toNat_natCast] at r
                exact Or.inr ((hx.1.2.2.2.1 y (by omega)).mpr r)
            · exact Or.inl e
          show ab_X (d + 2) mX1_addChain 97 [(6, .int (iI 0)), (0, .ref 198), (1, .int (iI (a : Int))), (2, .int (iI (c : Int))), (3, .int (iI (B : Int))), (4, .int (iI (q : Int))), (5, .int (iI (y : Int)))] [.int (iI 1)] h _
          refine ab_istore (ls' := [(7, .int (iI 1)), (6, .int (iI 0)), (0, .ref 198), (1, .int (iI (a : Int))), (2, .int (iI (c : Int))), (3, .int (iI (B : Int))), (4, .int (iI (q : Int))), (5, .int (iI (y : Int)))]) dX1_addChain_97 (by decide) rfl ?_
          refine ab_aload_n (k := 2) dX1_addChain_99 rfl rfl ?_
          refine ab_iload_n (k := 4) dX1_addChain_100 rfl rfl ?_
          refine ab_callV (As := [.int (iI (c : Int))]) (rest := []) dX1_addChain_101 lX1_52 rfl (Nat.le_of_ble_eq_true rfl) (Nat.le_of_ble_eq_true rfl) rfl ?_
          refine c_mix (O := O) (c0 := cd bg a) (c := c) hO (by omega) hA hW (fun h1 hs1 hm3 hm4 hm2 => ?_)
          have hB1 : zv h1 198 3 = (B0 : Int) := hm3.trans hB0
          show ab_X (d + 2) mX1_addChain 104 [(7, .int (iI 1)), (6, .int (iI 0)), (0, .ref 198), (1, .int (iI (a : Int))), (2, .int (iI (c : Int))), (3, .int (iI (B : Int))), (4, .int (iI (q : Int))), (5, .int (iI (y : Int)))] [] h1 _
          refine ab_iload (k := 1) dX1_addChain_104 rfl ?_
          refine z_if_eq (tgt := 139) dX1_addChain_106 (by decide) (by decide) (fun _ => ?_) (fun c106 => absurd c106 (by decide))
          refine ab_iload (k := 1) dX1_addChain_139 rfl ?_
          refine z_if_eq (tgt := 160) dX1_addChain_141 (by decide) (by decide) (fun _ => ?_) (fun c141 => absurd c141 (by decide))
          refine ab_iload (k := 0) dX1_addChain_160 rfl ?_
          refine z_if_eq (tgt := 180) dX1_addChain_162 (by decide) (by decide) (fun c162 => absurd c162 (by decide)) (fun _ => ?_)
          refine ab_aload_n (k := 2) dX1_addChain_165 rfl rfl ?_
          refine ab_dup dX1_addChain_166 rfl ?_
          refine z_getI dX1_addChain_167 fX1_23 rfl (Or.inl rfl) ?_
          refine z_is (y := (B0 : Int)) hB1 ?_
          refine z_iconst dX1_addChain_170 ?_
          refine ab_iload_n (k := 3) dX1_addChain_171 rfl rfl ?_
          refine ab_ishl dX1_addChain_172 ?_
          refine z_top ?_
          refine z_is (y := ((2 ^ a : Nat) : Int)) (shl1 (by omega)) ?_
          refine ab_ior dX1_addChain_173 ?_
          refine z_top ?_
          refine z_is (y := ((B0 ||| 2 ^ a : Nat) : Int)) (orN hB0b (p20 (by omega))) ?_
          refine z_putI dX1_addChain_174 fX1_23 rfl rfl ?_
          refine ab_goto (tgt := 185) dX1_addChain_177 (by decide) ?_
          refine z_vret dX1_addChain_185 rfl ?_
          have ec : cd bg y - cd bg a = c := by omega
          have eb : cd bg a + c = cd bg y := by omega
          first
          | (refine K y _ hCH ((hs1.trans (sm_wp (by decide))).trans (sm_zp (by decide))) ?_ ?_ ⟨B0 ||| B, ?_, or20 hB0b hBb, fun z => ?_⟩
             · rw [zv_zp_ne (by decide), zv_wp, hm4, eb]
             · rw [wv_zp, wv_wp_s (by omega)]
               unfold LO; rw [if_pos ⟨gA, gB⟩, ec, eb]
             · have := or20 hB0b hBb
               rw [zv_zp_s (by omega)]
             · rw [orB, Bool.or_eq_true, hBt z]
               unfold LA
               exact ⟨fun r => r.elim Or.inl (fun r => Or.inr ⟨r.2.2, r.1, r.2.1, Or.inl ⟨gA, gB⟩⟩), fun r => r.elim Or.inl (fun r => Or.inr ⟨r.2.1, r.2.2.1, r.1⟩)⟩)
          | (refine K y _ hCH (hs1.trans (sm_zp (by decide))) ?_ ?_ ⟨B0 ||| 2 ^ q, ?_, or20 hB0b (p20 (by omega)), fun z => ?_⟩
             · rw [zv_zp_ne (by decide), hm4, eb]
             · rw [wv_zp, hm2]
               unfold LO; rw [if_neg (fun z => gB z.2), if_pos (Or.inl gA), ec, eb, Nat.mul_one]
             · have := or20 hB0b (p20 (y := q) (by omega))
               rw [zv_zp_s (by omega)]
             · rw [orB, Bool.or_eq_true, bit1]
               unfold LA
               exact ⟨fun r => r.elim Or.inl (fun r => Or.inr ⟨by rw [r]; exact hq2.1, by rw [r]; exact hqa, by omega, Or.inr (Or.inl ⟨gA, gB, by rw [r]; exact hq2.2⟩)⟩), fun r => r.elim Or.inl (fun r => Or.inr (r.2.2.2.elim (fun t => absurd t.2 gB) (fun t => t.elim (fun t => cd_eq r.1 hq2.1 (by omega)) (fun t => absurd t.2.1 gB))))⟩)
          | (refine K y _ hCH (hs1.trans (sm_zp (by decide))) ?_ ?_ ⟨B0 ||| 2 ^ a, ?_, or20 hB0b (p20 (by omega)), fun z => ?_⟩
             · rw [zv_zp_ne (by decide), hm4, eb]
             · rw [wv_zp, hm2]
               unfold LO; rw [if_neg (fun z => gA z.1), if_pos (Or.inr gB), ec, eb, Nat.mul_one]
             · have := or20 hB0b (p20 (y := a) (by omega))
               rw [zv_zp_s (by omega)]
             · rw [orB, Bool.or_eq_true, bit1]
               unfold LA
               exact ⟨fun r => r.elim Or.inl (fun r => Or.inr ⟨by rw [r]; exact hba, by omega, by omega, Or.inr (Or.inr ⟨gA, gB, r⟩)⟩), fun r => r.elim Or.inl (fun r => Or.inr (r.2.2.2.elim (fun t => absurd t.1 gA) (fun t => t.elim (fun t => absurd t.1 gA) (fun t => t.2.2))))⟩)
          | (refine K y _ hCH (hs1.trans (sm_wp (by decide))) ?_ ?_ ⟨B0, ?_, hB0b, fun z => ?_⟩
             · rw [zv_wp, hm4, eb]
             · rw [wv_wp_s (by decide)]
               unfold LO; rw [if_neg (fun z => gA z.1), if_neg (fun z => z.elim gA gB), Nat.mul_zero]; rfl
             · rw [zv_wp, hB1]
             · unfold LA
               exact ⟨Or.inl, fun r => r.elim id (fun r => r.2.2.2.elim (fun t => absurd t.1 gA) (fun t => t.elim (fun t => absurd t.1 gA) (fun t => absurd t.2.1 gB)))⟩)
        · skip
          have gB : ¬ (n ≤ y ∨ g y = true) := by
            have gv : 0 ≤ (y : Int) ∧ (y : Int) < zv h 15 0 := Decidable.byContradiction (fun q => gw (Or.inl q))
            rintro (e | e)
            · omega
            · refine gw (Or.inr ?_)
              rw [Int.toNat_natCast]
              exact (hx.1.2.2.2.1 y (by omega)).mp e
          show ab_X (d + 2) mX1_addChain 97 [(6, .int (iI 0)), (0, .ref 198), (1, .int (iI (a : Int))), (2, .int (iI (c : Int))), (3, .int (iI (B : Int))), (4, .int (iI (q : Int))), (5, .int (iI (y : Int)))] [.int (iI 0)] h _
          refine ab_istore (ls' := [(7, .int (iI 0)), (6, .int (iI 0)), (0, .ref 198), (1, .int (iI (a : Int))), (2, .int (iI (c : Int))), (3, .int (iI (B : Int))), (4, .int (iI (q : Int))), (5, .int (iI (y : Int)))]) dX1_addChain_97 (by decide) rfl ?_
          refine ab_aload_n (k := 2) dX1_addChain_99 rfl rfl ?_
          refine ab_iload_n (k := 4) dX1_addChain_100 rfl rfl ?_
          refine ab_callV (As := [.int (iI (c : Int))]) (rest := []) dX1_addChain_101 lX1_52 rfl (Nat.le_of_ble_eq_true rfl) (Nat.le_of_ble_eq_true rfl) rfl ?_
          refine c_mix (O := O) (c0 := cd bg a) (c := c) hO (by omega) hA hW (fun h1 hs1 hm3 hm4 hm2 => ?_)
          have hB1 : zv h1 198 3 = (B0 : Int) := hm3.trans hB0
          show ab_X (d + 2) mX1_addChain 104 [(7, .int (iI 0)), (6, .int (iI 0)), (0, .ref 198), (1, .int (iI (a : Int))), (2, .int (iI (c : Int))), (3, .int (iI (B : Int))), (4, .int (iI (q : Int))), (5, .int (iI (y : Int)))] [] h1 _
          refine ab_iload (k := 1) dX1_addChain_104 rfl ?_
          refine z_if_eq (tgt := 139) dX1_addChain_106 (by decide) (by decide) (fun _ => ?_) (fun c106 => absurd c106 (by decide))
          refine ab_iload (k := 1) dX1_addChain_139 rfl ?_
          refine z_if_eq (tgt := 160) dX1_addChain_141 (by decide) (by decide) (fun _ => ?_) (fun c141 => absurd c141 (by decide))
          refine ab_iload (k := 0) dX1_addChain_160 rfl ?_
          refine z_if_eq (tgt := 180) dX1_addChain_162 (by decide) (by decide) (fun _ => ?_) (fun c162 => absurd c162 (by decide))
          refine ab_aload_n (k := 2) dX1_addChain_180 rfl rfl ?_
          refine z_lconst (v := 0) dX1_addChain_181 (by decide) ?_
          refine z_putL dX1_addChain_182 fX1_19 rfl rfl ?_
          refine z_vret dX1_addChain_185 rfl ?_
          have ec : cd bg y - cd bg a = c := by omega
          have eb : cd bg a + c = cd bg y := by omega
          first
          | (refine K y _ hCH ((hs1.trans (sm_wp (by decide))).trans (sm_zp (by decide))) ?_ ?_ ⟨B0 ||| B, ?_, or20 hB0b hBb, fun z => ?_⟩
             · rw [zv_zp_ne (by decide), zv_wp, hm4, eb]
             · rw [wv_zp, wv_wp_s (by omega)]
               unfold LO; rw [if_pos ⟨gA, gB⟩, ec, eb]
             · have := or20 hB0b hBb
               rw [zv_zp_s (by omega)]
             · rw [orB, Bool.or_eq_true, hBt z]
               unfold LA
               exact ⟨fun r => r.elim Or.inl (fun r => Or.inr ⟨r.2.2, r.1, r.2.1, Or.inl ⟨gA, gB⟩⟩), fun r => r.elim Or.inl (fun r => Or.inr ⟨r.2.1, r.2.2.1, r.1⟩)⟩)
          | (refine K y _ hCH (hs1.trans (sm_zp (by decide))) ?_ ?_ ⟨B0 ||| 2 ^ q, ?_, or20 hB0b (p20 (by omega)), fun z => ?_⟩
             · rw [zv_zp_ne (by decide), hm4, eb]
             · rw [wv_zp, hm2]
               unfold LO; rw [if_neg (fun z => gB z.2), if_pos (Or.inl gA), ec, eb, Nat.mul_one]
             · have := or20 hB0b (p20 (y := q) (by omega))
               rw [zv_zp_s (by omega)]
             · rw [orB, Bool.or_eq_true, bit1]
               unfold LA
               exact ⟨fun r => r.elim Or.inl (fun r => Or.inr ⟨by rw [r]; exact hq2.1, by rw [r]; exact hqa, by omega, Or.inr (Or.inl ⟨gA, gB, by rw [r]; exact hq2.2⟩)⟩), fun r => r.elim Or.inl (fun r => Or.inr (r.2.2.2.elim (fun t => absurd t.2 gB) (fun t => t.elim (fun t => cd_eq r.1 hq2.1 (by omega)) (fun t => absurd t.2.1 gB))))⟩)
          | (refine K y _ hCH (hs1.trans (sm_zp (by decide))) ?_ ?_ ⟨B0 ||| 2 ^ a, ?_, or20 hB0b (p20 (by omega)), fun z => ?_⟩
             · rw [zv_zp_ne (by decide), hm4, eb]
             · rw [wv_zp, hm2]
               unfold LO; rw [if_neg (fun z => gA z.1), if_pos (Or.inr gB), ec, eb, Nat.mul_one]
             · have := or20 hB0b (p20 (y := a) (by omega))
               rw [zv_zp_s (by omega)]
             · rw [orB, Bool.or_eq_true, bit1]
               unfold LA
               exact ⟨fun r => r.elim Or.inl (fun r => Or.inr ⟨by rw [r]; exact hba, by omega, by omega, Or.inr (Or.inr ⟨gA, gB, r⟩)⟩), fun r => r.elim Or.inl (fun r => Or.inr (r.2.2.2.elim (fun t => absurd t.1 gA) (fun t => t.elim (fun t => absurd t.1 gA) (fun t => t.2.2))))⟩)
          | (refine K y _ hCH (hs1.trans (sm_wp (by decide))) ?_ ?_ ⟨B0, ?_, hB0b, fun z => ?_⟩
             · rw [zv_wp, hm4, eb]
             · rw [wv_wp_s (by decide)]
               unfold LO; rw [if_neg (fun z => gA z.1), if_neg (fun z => z.elim gA gB), Nat.mul_zero]; rfl
             · rw [zv_wp, hB1]
             · unfold LA
               exact ⟨Or.inl, fun r => r.elim id (fun r => r.2.2.2.elim (fun t => absurd t.1 gA) (fun t => t.elim (fun t => absurd t.1 gA) (fun t => absurd t.2.1 gB)))⟩)
    · skip
      refine ab_aload_n (k := 0) dX1_addChain_38 rfl rfl ?_
      refine z_getP (b := 36) dX1_addChain_39 fX1_15 rfl rfl rfl ?_
      refine ab_iload (k := 6) dX1_addChain_42 rfl ?_
      refine ab_callV (As := [.int (iI (y : Int))]) (rest := []) dX1_addChain_44 lX1_35 rfl (Nat.le_of_ble_eq_true rfl) (Nat.le_of_ble_eq_true rfl) rfl ?_
      refine c_beginsAt (by omega) (fun gb => ?_) (fun gb => ?_)
      · skip
        simp only [Int.toNat_natCast] at gb
        have hb : bg y = true := (hx.1.2.2.2.2.1 y (by omega)).mpr gb.2.2
        show ab_X (d + 2) mX1_addChain 47 [(0, .ref 198), (1, .int (iI (a : Int))), (2, .int (iI (c : Int))), (3, .int (iI (B : Int))), (4, .int (iI (q : Int))), (5, .int (iI (y : Int))), (6, .int (iI (y : Int)))] [.int (iI 1)] h _
        refine z_if_eq (tgt := 64) dX1_addChain_47 (by decide) (by decide) (fun c47 => absurd c47 (by decide)) (fun _ => ?_)
        refine z_iinc (k := 2) (v := (c : Int) + 1) (ls' := [(2, .int (iI ((c : Int) + 1))), (0, .ref 198), (1, .int (iI (a : Int))), (3, .int (iI (B : Int))), (4, .int (iI (q : Int))), (5, .int (iI (y : Int))), (6, .int (iI (y : Int)))]) dX1_addChain_50 rfl rfl (by decide) rfl ?_
        refine ab_iload_n (k := 3) dX1_addChain_53 rfl rfl ?_
        refine z_iconst dX1_addChain_54 ?_
        refine ab_iload (k := 6) dX1_addChain_55 rfl ?_
        refine ab_ishl dX1_addChain_57 ?_
        refine z_top ?_
        refine z_is (y := ((2 ^ y : Nat) : Int)) (shl1 (by omega)) ?_
        refine ab_ior dX1_addChain_58 ?_
        refine z_top ?_
        refine z_is (y := ((B ||| 2 ^ y : Nat) : Int)) (orN hBb (p20 (by omega))) ?_
        refine ab_istore_n (ls' := [(3, .int (iI ((B ||| 2 ^ y : Nat) : Int))), (2, .int (iI ((c : Int) + 1))), (0, .ref 198), (1, .int (iI (a : Int))), (4, .int (iI (q : Int))), (5, .int (iI (y : Int))), (6, .int (iI (y : Int)))]) dX1_addChain_59 rfl (by decide) rfl ?_
        refine ab_iload (k := 6) dX1_addChain_60 rfl ?_
        refine ab_istore (ls' := [(4, .int (iI (y : Int))), (3, .int (iI ((B ||| 2 ^ y : Nat) : Int))), (2, .int (iI ((c : Int) + 1))), (0, .ref 198), (1, .int (iI (a : Int))), (5, .int (iI (y : Int))), (6, .int (iI (y : Int)))]) dX1_addChain_62 (by decide) rfl ?_
        refine ab_iload (k := 6) dX1_addChain_64 rfl ?_
        refine z_iconst dX1_addChain_66 ?_
        refine z_iadd dX1_addChain_67 ?_
        refine ab_istore (ls' := [(5, .int (iI ((y : Int) + 1))), (4, .int (iI (y : Int))), (3, .int (iI ((B ||| 2 ^ y : Nat) : Int))), (2, .int (iI ((c : Int) + 1))), (0, .ref 198), (1, .int (iI (a : Int))), (6, .int (iI (y : Int)))]) dX1_addChain_68 (by decide) rfl ?_
        refine z_iinc (k := 6) (v := (y : Int) + 1) (ls' := [(6, .int (iI ((y : Int) + 1))), (5, .int (iI ((y : Int) + 1))), (4, .int (iI (y : Int))), (3, .int (iI ((B ||| 2 ^ y : Nat) : Int))), (2, .int (iI ((c : Int) + 1))), (0, .ref 198), (1, .int (iI (a : Int)))]) dX1_addChain_70 rfl rfl (by decide) rfl ?_
        refine ab_goto (tgt := 13) dX1_addChain_73 (by decide) ?_
        refine ab_sub (ls' := [(0, .ref 198), (1, .int (iI (a : Int))), (2, .int (iI ((c : Int) + 1))), (3, .int (iI ((B ||| 2 ^ y : Nat) : Int))), (4, .int (iI (y : Int))), (5, .int (iI ((y : Int) + 1))), (6, .int (iI ((y : Int) + 1)))]) (ks := [5, 6, 4, 3, 2, 1, 0]) rfl ?_
        have hoy : oc bg ln y := (hx.2 y (by omega)).mp (by omega)
        refine ih _ (by omega) (y + 1) (c + 1) (B ||| 2 ^ y) y h rfl rfl (by omega) (by omega) (fun z z1 z2 => ?_) ?_ (or20 hBb (p20 (by omega))) (fun z => ?_) (Or.inr ⟨by omega, hb, by rw [cd_s, if_pos hb]⟩)
        · by_cases e : z = y
          · rw [e]; exact hoy
          · exact hoc z z1 (by omega)
        · rw [cd_s, if_pos hb]; omega
        · rw [orB, Bool.or_eq_true, hBt z, bit1]
          constructor
          · rintro (r | r)
            · exact ⟨r.1, by omega, r.2.2⟩
            · rw [r]; exact ⟨by omega, by omega, hb⟩
          · intro r
            by_cases e : z = y
            · exact Or.inr e
            · exact Or.inl ⟨r.1, by omega, r.2.2⟩
      · skip
        simp only [Int.toNat_natCast] at gb
        have hb : ¬ bg y = true := fun q => gb ⟨by omega, by omega, (hx.1.2.2.2.2.1 y (by omega)).mp q⟩
        show ab_X (d + 2) mX1_addChain 47 [(0, .ref 198), (1, .int (iI (a : Int))), (2, .int (iI (c : Int))), (3, .int (iI (B : Int))), (4, .int (iI (q : Int))), (5, .int (iI (y : Int))), (6, .int (iI (y : Int)))] [.int (iI 0)] h _
        refine z_if_eq (tgt := 64) dX1_addChain_47 (by decide) (by decide) (fun _ => ?_) (fun c47 => absurd c47 (by decide))
        refine ab_iload (k := 6) dX1_addChain_64 rfl ?_
        refine z_iconst dX1_addChain_66 ?_
        refine z_iadd dX1_addChain_67 ?_
        refine ab_istore (ls' := [(5, .int (iI ((y : Int) + 1))), (0, .ref 198), (1, .int (iI (a : Int))), (2, .int (iI (c : Int))), (3, .int (iI (B : Int))), (4, .int (iI (q : Int))), (6, .int (iI (y : Int)))]) dX1_addChain_68 (by decide) rfl ?_
        refine z_iinc (k := 6) (v := (y : Int) + 1) (ls' := [(6, .int (iI ((y : Int) + 1))), (5, .int (iI ((y : Int) + 1))), (0, .ref 198), (1, .int (iI (a : Int))), (2, .int (iI (c : Int))), (3, .int (iI (B : Int))), (4, .int (iI (q : Int)))]) dX1_addChain_70 rfl rfl (by decide) rfl ?_
        refine ab_goto (tgt := 13) dX1_addChain_73 (by decide) ?_
        refine ab_sub (ls' := [(0, .ref 198), (1, .int (iI (a : Int))), (2, .int (iI (c : Int))), (3, .int (iI (B : Int))), (4, .int (iI (q : Int))), (5, .int (iI ((y : Int) + 1))), (6, .int (iI ((y : Int) + 1)))]) (ks := [2, 3, 4, 5, 6, 1, 0]) rfl ?_
        have hoy : oc bg ln y := (hx.2 y (by omega)).mp (by omega)
        refine ih _ (by omega) (y + 1) c B q h rfl rfl (by omega) (by omega) (fun z z1 z2 => ?_) ?_ hBb (fun z => ?_) ?_
        · by_cases e : z = y
          · rw [e]; exact hoy
          · exact hoc z z1 (by omega)
        · rw [cd_s, if_neg hb]; omega
        · rw [hBt z]
          constructor
          · intro r; exact ⟨r.1, by omega, r.2.2⟩
          · intro r
            refine ⟨r.1, ?_, r.2.2⟩
            rcases Nat.lt_or_ge z y with e | e
            · exact e
            · rw [show z = y by omega] at r; exact absurd r.2.2 hb
        · rcases hq with r | r
          · rw [r.1] at hb; exact absurd hba hb
          · exact Or.inr ⟨by omega, r.2.1, by rw [cd_s, if_neg hb]; exact r.2.2⟩
theorem c_addChain {d : Nat} {h : ab_H} {Q : ab_Q} {g bg : Nat → Bool} {ln : Nat → Nat} {n : Nat} {a O B0 : Nat} (hx : acx h g bg ln n) (cx : CX g bg ln n) (hm12 : cd bg n ≤ 12) (hba : bg a = true) (han : a < n) (hfi : 0 < a → ¬ oc bg ln (a - 1)) (hO : O ≤ 8916100448256) (hOb : ∀ c, cd bg a + c ≤ 12 → O * ch (cd bg a + c) c ≤ 4000000000000000) (hA : zv h 198 4 = (cd bg a : Int)) (hW : wv h 198 2 = (O : Int)) (hB0 : zv h 198 3 = (B0 : Int)) (hB0b : B0 < 1048576) (K : ∀ b h', CHA bg ln n a b → sm [198] h h' → zv h' 198 4 = (cd bg b : Int) → wv h' 198 2 = ((O * ch (cd bg b) (cd bg b - cd bg a) * LO g bg n a b : Nat) : Int) → (∃ B' : Nat, zv h' 198 3 = (B' : Int) ∧ B' < 1048576 ∧ ∀ z, B'.testBit z = true ↔ B0.testBit z = true ∨ LA g bg n a b z) → Q none h') : ab_X (d + 2) mX1_addChain 0 (lv_args 0 [.ref 198, .int (iI (a : Int))]) [] h Q := by
  show ab_X (d + 2) mX1_addChain 0 [(0, .ref 198), (1, .int (iI (a : Int)))] [] h Q
  refine z_iconst dX1_addChain_0 ?_
  refine ab_istore_n (ls' := [(2, .int (iI 0)), (0, .ref 198), (1, .int (iI (a : Int)))]) dX1_addChain_1 rfl (by decide) rfl ?_
  refine z_iconst dX1_addChain_2 ?_
  refine ab_istore_n (ls' := [(3, .int (iI 0)), (2, .int (iI 0)), (0, .ref 198), (1, .int (iI (a : Int)))]) dX1_addChain_3 rfl (by decide) rfl ?_
  refine ab_iload_n (k := 3) dX1_addChain_4 rfl rfl ?_
  refine ab_istore (ls' := [(4, .int (iI (a : Int))), (3, .int (iI 0)), (2, .int (iI 0)), (0, .ref 198), (1, .int (iI (a : Int)))]) dX1_addChain_5 (by decide) rfl ?_
  refine ab_iload_n (k := 4) dX1_addChain_7 rfl rfl ?_
  refine ab_istore (ls' := [(5, .int (iI (a : Int))), (4, .int (iI (a : Int))), (3, .int (iI 0)), (2, .int (iI 0)), (0, .ref 198), (1, .int (iI (a : Int)))]) dX1_addChain_8 (by decide) rfl ?_
  refine ab_iload_n (k := 5) dX1_addChain_10 rfl rfl ?_
  refine ab_istore (ls' := [(6, .int (iI (a : Int))), (5, .int (iI (a : Int))), (4, .int (iI (a : Int))), (3, .int (iI 0)), (2, .int (iI 0)), (0, .ref 198), (1, .int (iI (a : Int)))]) dX1_addChain_11 (by decide) rfl ?_
  refine ab_sub (ls' := [(0, .ref 198), (1, .int (iI (a : Int))), (2, .int (iI 0)), (3, .int (iI 0)), (4, .int (iI (a : Int))), (5, .int (iI (a : Int))), (6, .int (iI (a : Int)))]) (ks := [5, 6, 4, 3, 2, 1, 0]) rfl ?_
  exact lp_addChain hx cx hm12 hba han hfi hO hOb hA hW hB0 hB0b K _ a 0 0 a h rfl rfl (by omega) (by omega) (fun z z1 z2 => absurd z1 (by omega)) (by omega) (by decide) (fun z => ⟨fun q => absurd q (by rw [Nat.zero_testBit]; decide), fun q => absurd q.1 (by omega)⟩) (Or.inl ⟨rfl, rfl⟩)
theorem WW_b {g bg : Nat → Bool} {ln cr : Nat → Nat} {n m i : Nat} (hm : m ≤ 12) (hi : i ≤ m) : WW g ln cr n m 0 i ≤ 8916100448256 := by
  unfold WW Wv; exact wy_b12 hm (by omega)
/-- a product that stays small: so many cars in all -/
theorem mixb2 {i c : Nat} (hc : i + c ≤ 12) : 12 ^ i * ch (i + c) c ≤ 4000000000000000 := by
  rcases Nat.lt_or_ge i 12 with r | r
  · have h1 : 12 ^ i ≤ 12 ^ 11 := Nat.pow_le_pow_right (by omega) (by omega)
    have h2 : ch (i + c) c ≤ 4096 := ch_b12 hc
    exact Nat.le_trans (Nat.mul_le_mul h1 h2) (by decide)
  · have e : i = 12 := by omega
    have e2 : c = 0 := by omega
    subst e; subst e2
    rw [ch_0]; decide
theorem WW_c {g bg : Nat → Bool} {ln cr : Nat → Nat} {n m i c : Nat} (hm : m ≤ 12) (hc : i + c ≤ 12) : WW g ln cr n m 0 i * ch (i + c) c ≤ 4000000000000000 := by
  refine Nat.le_trans (Nat.mul_le_mul_right _ ?_) (mixb2 hc)
  unfold WW Wv
  rw [Nat.sub_zero]
  exact Nat.le_trans (wy_b i _) (Nat.pow_le_pow_left hm i)
theorem lp_weigh {d : Nat} {Q : ab_Q} {h0 : ab_H} {g bg : Nat → Bool} {ln : Nat → Nat} {n : Nat} {m : Nat} {cr : Nat → Nat} (hx0 : acx h0 g bg ln n) (cx : CX g bg ln n) (hm12 : m ≤ 12) (r : CR bg n m cr) (K : ∀ h', sm [198] h0 h' → wv h' 198 2 = ((WW g ln cr n m 0 m : Nat) : Int) → (∃ B : Nat, zv h' 198 3 = (B : Int) ∧ B < 1048576 ∧ (0 < WW g ln cr n m 0 m → ∀ z, B.testBit z = true ↔ bg z = true ∧ z < n ∧ QL g bg ln cr n m (cd bg z))) → Q none h') : ∀ (nn : Nat) (y : Nat) (e : Nat) (B : Nat) (h : ab_H), n - y = nn → (y ≤ n) → (sm [198] h0 h) → (y ≤ e ∧ e ≤ n) → (∀ z, y ≤ z → z < e → oc bg ln z) → (e = y ∨ (0 < y ∧ oc bg ln (y - 1))) → (0 < y → oc bg ln (y - 1) → ¬ oc bg ln e) → (zv h 198 4 = (cd bg e : Int)) → (wv h 198 2 = ((WW g ln cr n m 0 (cd bg e) : Nat) : Int)) → (zv h 198 3 = (B : Int)) → (B < 1048576) → (0 < WW g ln cr n m 0 m → ∀ z, B.testBit z = true ↔ bg z = true ∧ z < e ∧ QL g bg ln cr n m (cd bg z)) → ab_X (d + 3) mX1_weigh 17 [(0, .ref 198), (1, .int (iI (y : Int)))] [] h Q := by
  intro nn
  induction nn using Nat.strongRecOn with
  | ind nn ih =>
  intro y e B h hnn h2 hS he1 he2 he3 he4 hA hW hB hBb hBt
  have hx := acx_sm hS hx0
  have hn2 := hx.1.2.1
  refine ab_iload_n (k := 1) dX1_weigh_17 rfl rfl ?_
  refine ab_aload_n (k := 0) dX1_weigh_18 rfl rfl ?_
  refine z_getP (b := 15) dX1_weigh_19 fX1_9 rfl rfl rfl ?_
  refine z_getI dX1_weigh_22 fX1_30 rfl (Or.inl rfl) ?_
  refine z_is (y := (n : Int)) hx.1.1 ?_
  refine z_icmp_ge (tgt := 64) dX1_weigh_25 (by decide) (by omega) (by omega) (fun c25 => ?_) (fun c25 => ?_)
  · skip
    refine z_vret dX1_weigh_64 rfl ?_
    have ey : y = n := by omega
    have ee : e = n := by omega
    subst ee
    rw [r.1] at hW
    exact K h hS hW ⟨B, hB, hBb, hBt⟩
  · skip
    refine ab_aload_n (k := 0) dX1_weigh_28 rfl rfl ?_
    refine z_getP (b := 36) dX1_weigh_29 fX1_15 rfl rfl rfl ?_
    refine ab_iload_n (k := 1) dX1_weigh_32 rfl rfl ?_
    refine ab_callV (As := [.int (iI (y : Int))]) (rest := []) dX1_weigh_33 lX1_35 rfl (Nat.le_of_ble_eq_true rfl) (Nat.le_of_ble_eq_true rfl) rfl ?_
    refine c_beginsAt (by omega) (fun gb => ?_) (fun gb => ?_)
    · skip
      simp only [Int.toNat_natCast] at gb
      have hb : bg y = true := (hx.1.2.2.2.2.1 y (by omega)).mpr gb.2.2
      show ab_X (d + 3) mX1_weigh 36 [(0, .ref 198), (1, .int (iI (y : Int)))] [.int (iI 1)] h _
      refine z_if_eq (tgt := 58) dX1_weigh_36 (by decide) (by decide) (fun c36 => absurd c36 (by decide)) (fun _ => ?_)
      refine ab_aload_n (k := 0) dX1_weigh_39 rfl rfl ?_
      refine z_getP (b := 36) dX1_weigh_40 fX1_15 rfl rfl rfl ?_
      refine ab_iload_n (k := 1) dX1_weigh_43 rfl rfl ?_
      refine z_iconst dX1_weigh_44 ?_
      refine z_isub dX1_weigh_45 ?_
      refine ab_callV (As := [.int (iI ((y : Int) - 1))]) (rest := []) dX1_weigh_46 lX1_41 rfl (Nat.le_of_ble_eq_true rfl) (Nat.le_of_ble_eq_true rfl) rfl ?_
      refine c_placeAt (r := 36) rfl rfl rfl (by omega) (fun gP => ?_) (fun gP => ?_)
      · skip
        rw [show ((y : Int) - 1).toNat = y - 1 by omega]
        have bP := zv_R h 37 (y - 1)
        have h0y : 0 < y := by omega
        show ab_X (d + 3) mX1_weigh 49 [(0, .ref 198), (1, .int (iI (y : Int)))] [.int (iI (zv h 37 (y - 1)))] h _
        refine z_iconst dX1_weigh_49 ?_
        refine z_icmp_ne (tgt := 58) dX1_weigh_50 (by decide) (by omega) (by decide) (fun c50 => ?_) (fun c50 => ?_)
        · skip
          refine z_iinc (k := 1) (v := (y : Int) + 1) (ls' := [(1, .int (iI ((y : Int) + 1))), (0, .ref 198)]) dX1_weigh_58 rfl rfl (by decide) rfl ?_
          refine ab_goto (tgt := 17) dX1_weigh_61 (by decide) ?_
          refine ab_sub (ls' := [(0, .ref 198), (1, .int (iI ((y : Int) + 1)))]) (ks := [1, 0]) rfl ?_
          first
          | (obtain ⟨B1, hB1a, hB1b, hB1c⟩ := hB1
             refine ih _ (by omega) (y + 1) b B1 h1 rfl (by omega) (hS.trans hs1) ⟨hCH.1, hCH.2.1⟩ (fun z z1 z2 => hCH.2.2.2.1 z (by omega) z2) (Or.inr ⟨by omega, hCH.2.2.2.1 y (Nat.le_refl y) hCH.1⟩) (fun _ _ => hCH.2.2.2.2.1) hA1 (hW1.trans (congrArg _ (cha_orders cx hn2 r hCH).symm)) hB1a hB1b (fun hp z => ?_)
             rw [hB1c z, hBt hp z]
             constructor
             · rintro (q | q)
               · exact ⟨q.1, by have := hCH.1; omega, q.2.2⟩
               · refine ⟨q.1, q.2.2.1, (cha_last cx hn2 r hCH hp ⟨cd_mono q.2.1, by have := cd_in q.2.2.1 q.1; omega⟩).mpr ?_⟩
                 rcases q.2.2.2 with t | t | t
                 · exact Or.inl t
                 · exact Or.inr (Or.inl ⟨t.1, t.2.1, by omega⟩)
                 · exact Or.inr (Or.inr ⟨t.1, t.2.1, by rw [t.2.2]⟩)
             · intro q
               rcases Nat.lt_or_ge z y with t | t
               · exact Or.inl ⟨q.1, t, q.2.2⟩
               · have hlt := cd_in q.2.1 q.1
                 refine Or.inr ⟨q.1, t, q.2.1, ?_⟩
                 rcases (cha_last cx hn2 r hCH hp ⟨cd_mono t, by omega⟩).mp q.2.2 with u | u | u
                 · exact Or.inl u
                 · exact Or.inr (Or.inl ⟨u.1, u.2.1, by omega⟩)
                 · exact Or.inr (Or.inr ⟨u.1, u.2.1, cd_eq q.1 hb u.2.2⟩))
          | (-- a car goes on, or nothing stands here
             have ho1 : oc bg ln (y - 1) := (hx.2 (y - 1) (by omega)).mp (by omega)
             have q : 0 < y ∧ oc bg ln (y - 1) := ⟨h0y, ho1⟩
             have hoy : oc bg ln y := ⟨y, Nat.le_refl y, by have := (cx y (by omega) hb).1; omega, by omega, hb⟩
             have hey : e ≠ y := fun z => he4 q.1 q.2 (z ▸ hoy)
             exact ih _ (by omega) (y + 1) e B h rfl (by omega) hS ⟨by omega, by omega⟩ (fun z z1 z2 => he2 z (by omega) z2) (Or.inr ⟨by omega, he2 y (by omega) (by omega)⟩) (fun _ _ => he4 q.1 q.2) hA hW hB hBb hBt)
          | (by_cases hey : e = y
             · subst hey
               have hno : ¬ oc bg ln e := by
                 rintro ⟨c, c1, c2, c3, c4⟩
                 rcases Nat.lt_or_ge c e with t | t
                 · exact he4 (by omega) ⟨c, by omega, by omega, c3, c4⟩ ⟨c, c1, c2, c3, c4⟩
                 · rw [show c = e by omega] at c4; exact hb c4
               have hcd : cd bg (e + 1) = cd bg e := by rw [cd_s, if_neg hb]; rfl
               refine ih _ (by omega) (e + 1) (e + 1) B h rfl (by omega) hS ⟨by omega, by omega⟩ (fun z z1 z2 => absurd z1 (by omega)) (Or.inl rfl) (fun _ q => absurd q hno) (by rw [hcd]; exact hA) (by rw [hcd]; exact hW) hB hBb (fun hp z => ?_)
               rw [hBt hp z]
               constructor
               · intro q; exact ⟨q.1, by omega, q.2.2⟩
               · intro q
                 refine ⟨q.1, ?_, q.2.2⟩
                 rcases Nat.lt_or_ge z e with t | t
                 · exact t
                 · rw [show z = e by omega] at q; exact absurd q.1 hb
             · have q : 0 < y ∧ oc bg ln (y - 1) := he3.resolve_left hey
               exact ih _ (by omega) (y + 1) e B h rfl (by omega) hS ⟨by omega, by omega⟩ (fun z z1 z2 => he2 z (by omega) z2) (Or.inr ⟨by omega, he2 y (by omega) (by omega)⟩) (fun _ _ => he4 q.1 q.2) hA hW hB hBb hBt)
        · skip
          refine ab_aload_n (k := 0) dX1_weigh_53 rfl rfl ?_
          refine ab_iload_n (k := 1) dX1_weigh_54 rfl rfl ?_
          refine ab_callV (As := [.int (iI (y : Int))]) (rest := []) dX1_weigh_55 lX1_45 rfl (Nat.le_of_ble_eq_true rfl) (Nat.le_of_ble_eq_true rfl) rfl ?_
          have hfi : 0 < y → ¬ oc bg ln (y - 1) := fun q o => by
            have h37 := (hx.2 (y - 1) (by omega)).mpr o
            first | exact h37 (by omega) | exact absurd q (by omega)
          have ee : y = e := by
            rcases he3 with q | q
            · exact q.symm
            · exact absurd q.2 (hfi q.1)
          subst ee
          refine c_addChain (O := WW g ln cr n m 0 (cd bg y)) (B0 := B) hx cx (by rw [r.1]; exact hm12) hb (by omega) hfi (WW_b (bg := bg) hm12 (by rw [← r.1]; exact cd_mono (by omega))) (fun c hc => WW_c (bg := bg) hm12 hc) hA hW hB hBb (fun b h1 hCH hs1 hA1 hW1 hB1 => ?_)
          show ab_X (d + 3) mX1_weigh 58 [(0, .ref 198), (1, .int (iI (y : Int)))] [] h1 _
          refine z_iinc (k := 1) (v := (y : Int) + 1) (ls' := [(1, .int (iI ((y : Int) + 1))), (0, .ref 198)]) dX1_weigh_58 rfl rfl (by decide) rfl ?_
          refine ab_goto (tgt := 17) dX1_weigh_61 (by decide) ?_
          refine ab_sub (ls' := [(0, .ref 198), (1, .int (iI ((y : Int) + 1)))]) (ks := [1, 0]) rfl ?_
          first
          | (obtain ⟨B1, hB1a, hB1b, hB1c⟩ := hB1
             refine ih _ (by omega) (y + 1) b B1 h1 rfl (by omega) (hS.trans hs1) ⟨hCH.1, hCH.2.1⟩ (fun z z1 z2 => hCH.2.2.2.1 z (by omega) z2) (Or.inr ⟨by omega, hCH.2.2.2.1 y (Nat.le_refl y) hCH.1⟩) (fun _ _ => hCH.2.2.2.2.1) hA1 (hW1.trans (congrArg _ (cha_orders cx hn2 r hCH).symm)) hB1a hB1b (fun hp z => ?_)
             rw [hB1c z, hBt hp z]
             constructor
             · rintro (q | q)
               · exact ⟨q.1, by have := hCH.1; omega, q.2.2⟩
               · refine ⟨q.1, q.2.2.1, (cha_last cx hn2 r hCH hp ⟨cd_mono q.2.1, by have := cd_in q.2.2.1 q.1; omega⟩).mpr ?_⟩
                 rcases q.2.2.2 with t | t | t
                 · exact Or.inl t
                 · exact Or.inr (Or.inl ⟨t.1, t.2.1, by omega⟩)
                 · exact Or.inr (Or.inr ⟨t.1, t.2.1, by rw [t.2.2]⟩)
             · intro q
               rcases Nat.lt_or_ge z y with t | t
               · exact Or.inl ⟨q.1, t, q.2.2⟩
               · have hlt := cd_in q.2.1 q.1
                 refine Or.inr ⟨q.1, t, q.2.1, ?_⟩
                 rcases (cha_last cx hn2 r hCH hp ⟨cd_mono t, by omega⟩).mp q.2.2 with u | u | u
                 · exact Or.inl u
                 · exact Or.inr (Or.inl ⟨u.1, u.2.1, by omega⟩)
                 · exact Or.inr (Or.inr ⟨u.1, u.2.1, cd_eq q.1 hb u.2.2⟩))
          | (-- a car goes on, or nothing stands here
             have ho1 : oc bg ln (y - 1) := (hx.2 (y - 1) (by omega)).mp (by omega)
             have q : 0 < y ∧ oc bg ln (y - 1) := ⟨h0y, ho1⟩
             have hoy : oc bg ln y := ⟨y, Nat.le_refl y, by have := (cx y (by omega) hb).1; omega, by omega, hb⟩
             have hey : e ≠ y := fun z => he4 q.1 q.2 (z ▸ hoy)
             exact ih _ (by omega) (y + 1) e B h rfl (by omega) hS ⟨by omega, by omega⟩ (fun z z1 z2 => he2 z (by omega) z2) (Or.inr ⟨by omega, he2 y (by omega) (by omega)⟩) (fun _ _ => he4 q.1 q.2) hA hW hB hBb hBt)
          | (by_cases hey : e = y
             · subst hey
               have hno : ¬ oc bg ln e := by
                 rintro ⟨c, c1, c2, c3, c4⟩
                 rcases Nat.lt_or_ge c e with t | t
                 · exact he4 (by omega) ⟨c, by omega, by omega, c3, c4⟩ ⟨c, c1, c2, c3, c4⟩
                 · rw [show c = e by omega] at c4; exact hb c4
               have hcd : cd bg (e + 1) = cd bg e := by rw [cd_s, if_neg hb]; rfl
               refine ih _ (by omega) (e + 1) (e + 1) B h rfl (by omega) hS ⟨by omega, by omega⟩ (fun z z1 z2 => absurd z1 (by omega)) (Or.inl rfl) (fun _ q => absurd q hno) (by rw [hcd]; exact hA) (by rw [hcd]; exact hW) hB hBb (fun hp z => ?_)
               rw [hBt hp z]
               constructor
               · intro q; exact ⟨q.1, by omega, q.2.2⟩
               · intro q
                 refine ⟨q.1, ?_, q.2.2⟩
                 rcases Nat.lt_or_ge z e with t | t
                 · exact t
                 · rw [show z = e by omega] at q; exact absurd q.1 hb
             · have q : 0 < y ∧ oc bg ln (y - 1) := he3.resolve_left hey
               exact ih _ (by omega) (y + 1) e B h rfl (by omega) hS ⟨by omega, by omega⟩ (fun z z1 z2 => he2 z (by omega) z2) (Or.inr ⟨by omega, he2 y (by omega) (by omega)⟩) (fun _ _ => he4 q.1 q.2) hA hW hB hBb hBt)
      · skip
        have h0y : y = 0 := by omega
        show ab_X (d + 3) mX1_weigh 49 [(0, .ref 198), (1, .int (iI (y : Int)))] [.int (iI (-1))] h _
        refine z_iconst dX1_weigh_49 ?_
        refine z_icmp_ne (tgt := 58) dX1_weigh_50 (by decide) (by decide) (by decide) (fun c50 => absurd c50 (by decide)) (fun _ => ?_)
        refine ab_aload_n (k := 0) dX1_weigh_53 rfl rfl ?_
        refine ab_iload_n (k := 1) dX1_weigh_54 rfl rfl ?_
        refine ab_callV (As := [.int (iI (y : Int))]) (rest := []) dX1_weigh_55 lX1_45 rfl (Nat.le_of_ble_eq_true rfl) (Nat.le_of_ble_eq_true rfl) rfl ?_
        have hfi : 0 < y → ¬ oc bg ln (y - 1) := fun q o => by
          have h37 := (hx.2 (y - 1) (by omega)).mpr o
          first | exact h37 (by omega) | exact absurd q (by omega)
        have ee : y = e := by
          rcases he3 with q | q
          · exact q.symm
          · exact absurd q.2 (hfi q.1)
        subst ee
        refine c_addChain (O := WW g ln cr n m 0 (cd bg y)) (B0 := B) hx cx (by rw [r.1]; exact hm12) hb (by omega) hfi (WW_b (bg := bg) hm12 (by rw [← r.1]; exact cd_mono (by omega))) (fun c hc => WW_c (bg := bg) hm12 hc) hA hW hB hBb (fun b h1 hCH hs1 hA1 hW1 hB1 => ?_)
        show ab_X (d + 3) mX1_weigh 58 [(0, .ref 198), (1, .int (iI (y : Int)))] [] h1 _
        refine z_iinc (k := 1) (v := (y : Int) + 1) (ls' := [(1, .int (iI ((y : Int) + 1))), (0, .ref 198)]) dX1_weigh_58 rfl rfl (by decide) rfl ?_
        refine ab_goto (tgt := 17) dX1_weigh_61 (by decide) ?_
        refine ab_sub (ls' := [(0, .ref 198), (1, .int (iI ((y : Int) + 1)))]) (ks := [1, 0]) rfl ?_
        first
        | (obtain ⟨B1, hB1a, hB1b, hB1c⟩ := hB1
           refine ih _ (by omega) (y + 1) b B1 h1 rfl (by omega) (hS.trans hs1) ⟨hCH.1, hCH.2.1⟩ (fun z z1 z2 => hCH.2.2.2.1 z (by omega) z2) (Or.inr ⟨by omega, hCH.2.2.2.1 y (Nat.le_refl y) hCH.1⟩) (fun _ _ => hCH.2.2.2.2.1) hA1 (hW1.trans (congrArg _ (cha_orders cx hn2 r hCH).symm)) hB1a hB1b (fun hp z => ?_)
           rw [hB1c z, hBt hp z]
           constructor
           · rintro (q | q)
             · exact ⟨q.1, by have := hCH.1; omega, q.2.2⟩
             · refine ⟨q.1, q.2.2.1, (cha_last cx hn2 r hCH hp ⟨cd_mono q.2.1, by have := cd_in q.2.2.1 q.1; omega⟩).mpr ?_⟩
               rcases q.2.2.2 with t | t | t
               · exact Or.inl t
               · exact Or.inr (Or.inl ⟨t.1, t.2.1, by omega⟩)
               · exact Or.inr (Or.inr ⟨t.1, t.2.1, by rw [t.2.2]⟩)
           · intro q
             rcases Nat.lt_or_ge z y with t | t
             · exact Or.inl ⟨q.1, t, q.2.2⟩
             · have hlt := cd_in q.2.1 q.1
               refine Or.inr ⟨q.1, t, q.2.1, ?_⟩
               rcases (cha_last cx hn2 r hCH hp ⟨cd_mono t, by omega⟩).mp q.2.2 with u | u | u
               · exact Or.inl u
               · exact Or.inr (Or.inl ⟨u.1, u.2.1, by omega⟩)
               · exact Or.inr (Or.inr ⟨u.1, u.2.1, cd_eq q.1 hb u.2.2⟩))
        | (-- a car goes on, or nothing stands here
           have ho1 : oc bg ln (y - 1) := (hx.2 (y - 1) (by omega)).mp (by omega)
           have q : 0 < y ∧ oc bg ln (y - 1) := ⟨h0y, ho1⟩
           have hoy : oc bg ln y := ⟨y, Nat.le_refl y, by have := (cx y (by omega) hb).1; omega, by omega, hb⟩
           have hey : e ≠ y := fun z => he4 q.1 q.2 (z ▸ hoy)
           exact ih _ (by omega) (y + 1) e B h rfl (by omega) hS ⟨by omega, by omega⟩ (fun z z1 z2 => he2 z (by omega) z2) (Or.inr ⟨by omega, he2 y (by omega) (by omega)⟩) (fun _ _ => he4 q.1 q.2) hA hW hB hBb hBt)
        | (by_cases hey : e = y
           · subst hey
             have hno : ¬ oc bg ln e := by
               rintro ⟨c, c1, c2, c3, c4⟩
               rcases Nat.lt_or_ge c e with t | t
               · exact he4 (by omega) ⟨c, by omega, by omega, c3, c4⟩ ⟨c, c1, c2, c3, c4⟩
               · rw [show c = e by omega] at c4; exact hb c4
             have hcd : cd bg (e + 1) = cd bg e := by rw [cd_s, if_neg hb]; rfl
             refine ih _ (by omega) (e + 1) (e + 1) B h rfl (by omega) hS ⟨by omega, by omega⟩ (fun z z1 z2 => absurd z1 (by omega)) (Or.inl rfl) (fun _ q => absurd q hno) (by rw [hcd]; exact hA) (by rw [hcd]; exact hW) hB hBb (fun hp z => ?_)
             rw [hBt hp z]
             constructor
             · intro q; exact ⟨q.1, by omega, q.2.2⟩
             · intro q
               refine ⟨q.1, ?_, q.2.2⟩
               rcases Nat.lt_or_ge z e with t | t
               · exact t
               · rw [show z = e by omega] at q; exact absurd q.1 hb
           · have q : 0 < y ∧ oc bg ln (y - 1) := he3.resolve_left hey
             exact ih _ (by omega) (y + 1) e B h rfl (by omega) hS ⟨by omega, by omega⟩ (fun z z1 z2 => he2 z (by omega) z2) (Or.inr ⟨by omega, he2 y (by omega) (by omega)⟩) (fun _ _ => he4 q.1 q.2) hA hW hB hBb hBt)
    · skip
      simp only [Int.toNat_natCast] at gb
      have hb : ¬ bg y = true := fun q => gb ⟨by omega, by omega, (hx.1.2.2.2.2.1 y (by omega)).mp q⟩
      show ab_X (d + 3) mX1_weigh 36 [(0, .ref 198), (1, .int (iI (y : Int)))] [.int (iI 0)] h _
      refine z_if_eq (tgt := 58) dX1_weigh_36 (by decide) (by decide) (fun _ => ?_) (fun c36 => absurd c36 (by decide))
      refine z_iinc (k := 1) (v := (y : Int) + 1) (ls' := [(1, .int (iI ((y : Int) + 1))), (0, .ref 198)]) dX1_weigh_58 rfl rfl (by decide) rfl ?_
      refine ab_goto (tgt := 17) dX1_weigh_61 (by decide) ?_
      refine ab_sub (ls' := [(0, .ref 198), (1, .int (iI ((y : Int) + 1)))]) (ks := [1, 0]) rfl ?_
      first
      | (obtain ⟨B1, hB1a, hB1b, hB1c⟩ := hB1
         refine ih _ (by omega) (y + 1) b B1 h1 rfl (by omega) (hS.trans hs1) ⟨hCH.1, hCH.2.1⟩ (fun z z1 z2 => hCH.2.2.2.1 z (by omega) z2) (Or.inr ⟨by omega, hCH.2.2.2.1 y (Nat.le_refl y) hCH.1⟩) (fun _ _ => hCH.2.2.2.2.1) hA1 (hW1.trans (congrArg _ (cha_orders cx hn2 r hCH).symm)) hB1a hB1b (fun hp z => ?_)
         rw [hB1c z, hBt hp z]
         constructor
         · rintro (q | q)
           · exact ⟨q.1, by have := hCH.1; omega, q.2.2⟩
           · refine ⟨q.1, q.2.2.1, (cha_last cx hn2 r hCH hp ⟨cd_mono q.2.1, by have := cd_in q.2.2.1 q.1; omega⟩).mpr ?_⟩
             rcases q.2.2.2 with t | t | t
             · exact Or.inl t
             · exact Or.inr (Or.inl ⟨t.1, t.2.1, by omega⟩)
             · exact Or.inr (Or.inr ⟨t.1, t.2.1, by rw [t.2.2]⟩)
         · intro q
           rcases Nat.lt_or_ge z y with t | t
           · exact Or.inl ⟨q.1, t, q.2.2⟩
           · have hlt := cd_in q.2.1 q.1
             refine Or.inr ⟨q.1, t, q.2.1, ?_⟩
             rcases (cha_last cx hn2 r hCH hp ⟨cd_mono t, by omega⟩).mp q.2.2 with u | u | u
             · exact Or.inl u
             · exact Or.inr (Or.inl ⟨u.1, u.2.1, by omega⟩)
             · exact Or.inr (Or.inr ⟨u.1, u.2.1, cd_eq q.1 hb u.2.2⟩))
      | (-- a car goes on, or nothing stands here
         have ho1 : oc bg ln (y - 1) := (hx.2 (y - 1) (by omega)).mp (by omega)
         have q : 0 < y ∧ oc bg ln (y - 1) := ⟨h0y, ho1⟩
         have hoy : oc bg ln y := ⟨y, Nat.le_refl y, by have := (cx y (by omega) hb).1; omega, by omega, hb⟩
         have hey : e ≠ y := fun z => he4 q.1 q.2 (z ▸ hoy)
         exact ih _ (by omega) (y + 1) e B h rfl (by omega) hS ⟨by omega, by omega⟩ (fun z z1 z2 => he2 z (by omega) z2) (Or.inr ⟨by omega, he2 y (by omega) (by omega)⟩) (fun _ _ => he4 q.1 q.2) hA hW hB hBb hBt)
      | (by_cases hey : e = y
         · subst hey
           have hno : ¬ oc bg ln e := by
             rintro ⟨c, c1, c2, c3, c4⟩
             rcases Nat.lt_or_ge c e with t | t
             · exact he4 (by omega) ⟨c, by omega, by omega, c3, c4⟩ ⟨c, c1, c2, c3, c4⟩
             · rw [show c = e by omega] at c4; exact hb c4
           have hcd : cd bg (e + 1) = cd bg e := by rw [cd_s, if_neg hb]; rfl
           refine ih _ (by omega) (e + 1) (e + 1) B h rfl (by omega) hS ⟨by omega, by omega⟩ (fun z z1 z2 => absurd z1 (by omega)) (Or.inl rfl) (fun _ q => absurd q hno) (by rw [hcd]; exact hA) (by rw [hcd]; exact hW) hB hBb (fun hp z => ?_)
           rw [hBt hp z]
           constructor
           · intro q; exact ⟨q.1, by omega, q.2.2⟩
           · intro q
             refine ⟨q.1, ?_, q.2.2⟩
             rcases Nat.lt_or_ge z e with t | t
             · exact t
             · rw [show z = e by omega] at q; exact absurd q.1 hb
         · have q : 0 < y ∧ oc bg ln (y - 1) := he3.resolve_left hey
           exact ih _ (by omega) (y + 1) e B h rfl (by omega) hS ⟨by omega, by omega⟩ (fun z z1 z2 => he2 z (by omega) z2) (Or.inr ⟨by omega, he2 y (by omega) (by omega)⟩) (fun _ _ => he4 q.1 q.2) hA hW hB hBb hBt)
theorem c_weigh {d : Nat} {h : ab_H} {Q : ab_Q} {g bg : Nat → Bool} {ln : Nat → Nat} {n : Nat} {m : Nat} {cr : Nat → Nat} (hx : acx h g bg ln n) (cx : CX g bg ln n) (hm12 : m ≤ 12) (r : CR bg n m cr) (K : ∀ h', sm [198] h h' → wv h' 198 2 = ((WW g ln cr n m 0 m : Nat) : Int) → (∃ B : Nat, zv h' 198 3 = (B : Int) ∧ B < 1048576 ∧ (0 < WW g ln cr n m 0 m → ∀ z, B.testBit z = true ↔ bg z = true ∧ z < n ∧ QL g bg ln cr n m (cd bg z))) → Q none h') : ab_X (d + 3) mX1_weigh 0 (lv_args 0 [.ref 198]) [] h Q := by
  show ab_X (d + 3) mX1_weigh 0 [(0, .ref 198)] [] h Q
  refine ab_aload_n (k := 0) dX1_weigh_0 rfl rfl ?_
  refine z_lconst (v := 1) dX1_weigh_1 (by decide) ?_
  refine z_putL dX1_weigh_2 fX1_19 rfl rfl ?_
  refine ab_aload_n (k := 0) dX1_weigh_5 rfl rfl ?_
  refine z_iconst dX1_weigh_6 ?_
  refine z_putI dX1_weigh_7 fX1_23 rfl rfl ?_
  refine ab_aload_n (k := 0) dX1_weigh_10 rfl rfl ?_
  refine z_iconst dX1_weigh_11 ?_
  refine z_putI dX1_weigh_12 fX1_27 rfl rfl ?_
  refine z_iconst dX1_weigh_15 ?_
  refine ab_istore_n (ls' := [(1, .int (iI 0)), (0, .ref 198)]) dX1_weigh_16 rfl (by decide) rfl ?_
  refine ab_sub (ls' := [(0, .ref 198), (1, .int (iI 0))]) (ks := [1, 0]) rfl ?_
  have hs1 : sm [198] h (zp (zp (wp h 198 2 1) 198 3 0) 198 4 0) := ((sm_wp (by decide)).trans (sm_zp (by decide))).trans (sm_zp (by decide))
  refine lp_weigh (acx_sm hs1 hx) cx hm12 r (fun h' a b c => K h' (hs1.trans a) b c) _ 0 0 0 _ rfl (by omega) sm.refl ⟨by omega, by omega⟩ (fun z z1 z2 => absurd z2 (by omega)) (Or.inl rfl) (fun q => absurd q (by omega)) ?_ ?_ ?_ (by decide) (fun _ z => ⟨fun q => absurd q (by rw [Nat.zero_testBit]; decide), fun q => absurd q.2.1 (by omega)⟩)
  · rw [zv_zp_s (by decide)]; rfl
  · rw [wv_zp, wv_zp, wv_wp_s (by decide)]
    show (1 : Int) = ((WW g ln cr n m 0 0 : Nat) : Int)
    unfold WW; rw [Wv_0]; rfl
  · rw [zv_zp_ne (by decide), zv_zp_s (by decide)]; rfl
theorem c_came {d : Nat} {h : ab_H} {Q : ab_Q} {g bg : Nat → Bool} {ln : Nat → Nat} {n : Nat} {m : Nat} {cr : Nat → Nat} (hx : acx h g bg ln n) (cx : CX g bg ln n) (r : CR bg n m cr) (hc : zv h 36 2 = (m : Int)) (k0 : ¬ (0 < n ∧ m ≤ 12) → Q (some (.long (lL (-1)))) h) (k1 : 0 < n → m ≤ 12 → ∀ h', sm [198] h h' → Q (some (.long (lL ((WW g ln cr n m 0 m : Nat) : Int)))) h') : ab_X (d + 4) mX11_came 0 (lv_args 0 [.ref 0]) [] h Q := by
  show ab_X (d + 4) mX11_came 0 [(0, .ref 0)] [] h Q
  have hn1 := hx.1.1
  refine ab_aload_n (k := 0) dX11_came_0 rfl rfl ?_
  refine ab_callV (As := []) (rest := []) dX11_came_1 lX11_180 rfl (Nat.le_of_ble_eq_true rfl) (Nat.le_of_ble_eq_true rfl) rfl ?_
  refine c_hasKerb (fun g1 => ?_) (fun g1 => ?_)
  · skip
    try simp only [Int.toNat_natCast] at g1
    have gL := g1
    show ab_X (d + 4) mX11_came 4 [(0, .ref 0)] [.int (iI 1)] h _
    refine z_if_eq (tgt := 19) dX11_came_4 (by decide) (by decide) (fun c4 => absurd c4 (by decide)) (fun _ => ?_)
    refine ab_aload_n (k := 0) dX11_came_7 rfl rfl ?_
    refine z_getP (b := 36) dX11_came_8 fX11_53 rfl rfl rfl ?_
    refine z_getI dX11_came_11 fX11_224 rfl (Or.inl rfl) ?_
    have b1 := zv_R h 36 2
    refine z_bipush dX11_came_14 (by decide) ?_
    refine z_icmp_le (tgt := 23) dX11_came_16 (by decide) (by omega) (by decide) (fun c16 => ?_) (fun c16 => ?_)
    · skip
      refine ab_aload_n (k := 0) dX11_came_23 rfl rfl ?_
      refine z_getP (b := 198) dX11_came_24 fX11_96 rfl rfl rfl ?_
      refine ab_callV (As := []) (rest := []) dX11_came_27 lX11_305 rfl (Nat.le_of_ble_eq_true rfl) (Nat.le_of_ble_eq_true rfl) rfl ?_
      refine c_weigh hx cx (by omega) r (fun h1 hs1 hW1 hB1 => ?_)
      show ab_X (d + 4) mX11_came 30 [(0, .ref 0)] [] h1 _
      refine ab_aload_n (k := 0) dX11_came_30 rfl rfl ?_
      refine z_getP (b := 198) dX11_came_31 fX11_96 rfl rfl rfl ?_
      refine z_getL dX11_came_34 fX11_308 rfl rfl ?_
      refine z_isl (y := ((WW g ln cr n m 0 m : Nat) : Int)) hW1 ?_
      refine z_lret dX11_came_37 rfl ?_
      first | exact k0 (by omega) | exact k1 (by omega) (by omega) h1 hs1
    · skip
      refine z_ldc2 (v := (-1)) dX11_came_19 qX11_259 (by decide) ?_
      refine z_lret dX11_came_22 rfl ?_
      first | exact k0 (by omega) | exact k1 (by omega) (by omega) h1 hs1
  · skip
    try simp only [Int.toNat_natCast] at g1
    have gL := g1
    show ab_X (d + 4) mX11_came 4 [(0, .ref 0)] [.int (iI 0)] h _
    refine z_if_eq (tgt := 19) dX11_came_4 (by decide) (by decide) (fun _ => ?_) (fun c4 => absurd c4 (by decide))
    refine z_ldc2 (v := (-1)) dX11_came_19 qX11_259 (by decide) ?_
    refine z_lret dX11_came_22 rfl ?_
    first | exact k0 (by omega) | exact k1 (by omega) (by omega) h1 hs1
theorem c_last {d : Nat} {h : ab_H} {Q : ab_Q} {g bg : Nat → Bool} {ln : Nat → Nat} {n : Nat} {m : Nat} {cr : Nat → Nat} (hx : acx h g bg ln n) (cx : CX g bg ln n) (r : CR bg n m cr) (hc : zv h 36 2 = (m : Int)) (k0 : ¬ (0 < n ∧ m ≤ 12) → Q (some (.int (iI (-1)))) h) (k1 : 0 < n → m ≤ 12 → ∀ h' (B : Nat), sm [198] h h' → (∀ z, B.testBit z = true ↔ bg z = true ∧ z < n ∧ QL g bg ln cr n m (cd bg z)) → Q (some (.int (iI (B : Int)))) h') : ab_X (d + 4) mX11_last 0 (lv_args 0 [.ref 0]) [] h Q := by
  show ab_X (d + 4) mX11_last 0 [(0, .ref 0)] [] h Q
  have hn1 := hx.1.1
  refine ab_aload_n (k := 0) dX11_last_0 rfl rfl ?_
  refine ab_callV (As := []) (rest := []) dX11_last_1 lX11_180 rfl (Nat.le_of_ble_eq_true rfl) (Nat.le_of_ble_eq_true rfl) rfl ?_
  refine c_hasKerb (fun g1 => ?_) (fun g1 => ?_)
  · skip
    try simp only [Int.toNat_natCast] at g1
    have gL := g1
    show ab_X (d + 4) mX11_last 4 [(0, .ref 0)] [.int (iI 1)] h _
    refine z_if_eq (tgt := 19) dX11_last_4 (by decide) (by decide) (fun c4 => absurd c4 (by decide)) (fun _ => ?_)
    refine ab_aload_n (k := 0) dX11_last_7 rfl rfl ?_
    refine z_getP (b := 36) dX11_last_8 fX11_53 rfl rfl rfl ?_
    refine z_getI dX11_last_11 fX11_224 rfl (Or.inl rfl) ?_
    have b1 := zv_R h 36 2
    refine z_bipush dX11_last_14 (by decide) ?_
    refine z_icmp_le (tgt := 21) dX11_last_16 (by decide) (by omega) (by decide) (fun c16 => ?_) (fun c16 => ?_)
    · skip
      refine ab_aload_n (k := 0) dX11_last_21 rfl rfl ?_
      refine z_getP (b := 198) dX11_last_22 fX11_96 rfl rfl rfl ?_
      refine ab_callV (As := []) (rest := []) dX11_last_25 lX11_305 rfl (Nat.le_of_ble_eq_true rfl) (Nat.le_of_ble_eq_true rfl) rfl ?_
      refine c_weigh hx cx (by omega) r (fun h1 hs1 hW1 hB1 => ?_)
      show ab_X (d + 4) mX11_last 28 [(0, .ref 0)] [] h1 _
      obtain ⟨B, hB1a, hB1b, hB1c⟩ := hB1
      refine ab_aload_n (k := 0) dX11_last_28 rfl rfl ?_
      refine z_getP (b := 198) dX11_last_29 fX11_96 rfl rfl rfl ?_
      refine z_getL dX11_last_32 fX11_308 rfl rfl ?_
      refine z_isl (y := ((WW g ln cr n m 0 m : Nat) : Int)) hW1 ?_
      refine z_lconst (v := 0) dX11_last_35 (by decide) ?_
      refine z_lcmp dX11_last_36 ⟨by omega, by have := WW_b (g := g) (bg := bg) (ln := ln) (cr := cr) (n := n) (m := m) (i := m) (by omega) (Nat.le_refl m); omega⟩ (by decide) (fun c36 => ?_) (fun c36 => ?_) (fun c36 => ?_)
      · skip
        refine z_if_ne (tgt := 44) dX11_last_37 (by decide) (by decide) (fun _ => ?_) (fun c37 => absurd c37 (by decide))
        refine ab_aload_n (k := 0) dX11_last_44 rfl rfl ?_
        refine z_getP (b := 198) dX11_last_45 fX11_96 rfl rfl rfl ?_
        refine z_getI dX11_last_48 fX11_311 rfl (Or.inl rfl) ?_
        refine z_is (y := (B : Int)) hB1a ?_
        refine z_iret dX11_last_51 rfl ?_
        first
        | exact k0 (by omega)
        | exact k1 (by omega) (by omega) h1 B hs1 (hB1c (by omega))
        | (refine k1 (by omega) (by omega) h1 0 hs1 (fun z => ⟨fun q => absurd q (by rw [Nat.zero_testBit]; decide), fun q => ?_⟩)
           have := QL_pos (CR_at r q.2.1 q.1).1 q.2.2
           omega)
      · skip
        refine z_if_ne (tgt := 44) dX11_last_37 (by decide) (by decide) (fun c37 => absurd c37 (by decide)) (fun _ => ?_)
        refine z_iconst dX11_last_40 ?_
        refine ab_goto (tgt := 51) dX11_last_41 (by decide) ?_
        refine z_iret dX11_last_51 rfl ?_
        first
        | exact k0 (by omega)
        | exact k1 (by omega) (by omega) h1 B hs1 (hB1c (by omega))
        | (refine k1 (by omega) (by omega) h1 0 hs1 (fun z => ⟨fun q => absurd q (by rw [Nat.zero_testBit]; decide), fun q => ?_⟩)
           have := QL_pos (CR_at r q.2.1 q.1).1 q.2.2
           omega)
      · skip
        refine z_if_ne (tgt := 44) dX11_last_37 (by decide) (by decide) (fun _ => ?_) (fun c37 => absurd c37 (by decide))
        refine ab_aload_n (k := 0) dX11_last_44 rfl rfl ?_
        refine z_getP (b := 198) dX11_last_45 fX11_96 rfl rfl rfl ?_
        refine z_getI dX11_last_48 fX11_311 rfl (Or.inl rfl) ?_
        refine z_is (y := (B : Int)) hB1a ?_
        refine z_iret dX11_last_51 rfl ?_
        first
        | exact k0 (by omega)
        | exact k1 (by omega) (by omega) h1 B hs1 (hB1c (by omega))
        | (refine k1 (by omega) (by omega) h1 0 hs1 (fun z => ⟨fun q => absurd q (by rw [Nat.zero_testBit]; decide), fun q => ?_⟩)
           have := QL_pos (CR_at r q.2.1 q.1).1 q.2.2
           omega)
    · skip
      refine z_iconst dX11_last_19 ?_
      refine z_iret dX11_last_20 rfl ?_
      first
      | exact k0 (by omega)
      | exact k1 (by omega) (by omega) h1 B hs1 (hB1c (by omega))
      | (refine k1 (by omega) (by omega) h1 0 hs1 (fun z => ⟨fun q => absurd q (by rw [Nat.zero_testBit]; decide), fun q => ?_⟩)
         have := QL_pos (CR_at r q.2.1 q.1).1 q.2.2
         omega)
  · skip
    try simp only [Int.toNat_natCast] at g1
    have gL := g1
    show ab_X (d + 4) mX11_last 4 [(0, .ref 0)] [.int (iI 0)] h _
    refine z_if_eq (tgt := 19) dX11_last_4 (by decide) (by decide) (fun _ => ?_) (fun c4 => absurd c4 (by decide))
    refine z_iconst dX11_last_19 ?_
    refine z_iret dX11_last_20 rfl ?_
    first
    | exact k0 (by omega)
    | exact k1 (by omega) (by omega) h1 B hs1 (hB1c (by omega))
    | (refine k1 (by omega) (by omega) h1 0 hs1 (fun z => ⟨fun q => absurd q (by rw [Nat.zero_testBit]; decide), fun q => ?_⟩)
       have := QL_pos (CR_at r q.2.1 q.1).1 q.2.2
       omega)
