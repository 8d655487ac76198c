/-! DRAWS, comings and goings -/
def dN (x : Int) : Int := (lL (x * 6364136223846793005 + 1442695040888963407)).toInt
def uS (x : Int) : Int := (((lL x).toUInt64 >>> ((iI 33).toInt64.toUInt64 &&& Int64.toUInt64 63)).toInt64).toInt
theorem dN_L (x : Int) : inL (dN x) := inL_of _
theorem wp_dN (h : ab_H) (a k : Nat) (x : Int) : wp h a k (x * 6364136223846793005 + 1442695040888963407) = wp h a k (dN x) := by unfold wp dN; rw [lL_of]
theorem uS_b (x : Int) : 0 ≤ uS x ∧ uS x < 2147483648 := by
  unfold uS
  have e : ((lL x).toUInt64 >>> ((iI 33).toInt64.toUInt64 &&& Int64.toUInt64 63)).toInt64.toInt = ((((lL x).toUInt64 >>> ((iI 33).toInt64.toUInt64 &&& Int64.toUInt64 63)).toBitVec).toInt) := rfl
  rw [e, BitVec.toInt_eq_toNat_cond]
  have hn : ((lL x).toUInt64 >>> ((iI 33).toInt64.toUInt64 &&& Int64.toUInt64 63)).toBitVec.toNat = (lL x).toUInt64.toNat / 2 ^ 33 := by
    have e2 : ((iI 33).toInt64.toUInt64 &&& Int64.toUInt64 63) = 33 := by decide
    rw [e2]
    show ((lL x).toUInt64 >>> 33).toNat = _
    rw [UInt64.toNat_shiftRight, Nat.shiftRight_eq_div_pow]; rfl
  rw [hn]
  have hl : (lL x).toUInt64.toNat < 2 ^ 64 := (lL x).toUInt64.toNat_lt
  have : (lL x).toUInt64.toNat / 2 ^ 33 < 2 ^ 31 := by omega
  split <;> omega
def drw (x m : Int) : Int := Int.tmod (uS (dN x)) m
theorem drw_b {x m : Int} (hm : 0 < m) : 0 ≤ drw x m ∧ drw x m < m := by
  have := uS_b (dN x)
  unfold drw
  rw [Int.tmod_eq_emod_of_nonneg this.1]
  exact ⟨Int.emod_nonneg _ (by omega), Int.emod_lt_of_pos _ hm⟩
theorem c_draw {d : Nat} {h : ab_H} {Q : ab_Q} {m : Int} (hm : 0 < m ∧ m ≤ 2147483647) (K : Q (some (.int (iI (drw (wv h 0 17) m)))) (wp h 0 17 (dN (wv h 0 17)))) : ab_X d mX11_draw 0 (lv_args 0 [.ref 0, .int (iI m)]) [] h Q := by
  show ab_X d mX11_draw 0 [(0, .ref 0), (1, .int (iI m))] [] h Q
  refine ab_aload_n (k := 0) dX11_draw_0 rfl rfl ?_
  refine ab_aload_n (k := 0) dX11_draw_1 rfl rfl ?_
  refine z_getL dX11_draw_2 fX11_214 rfl rfl ?_
  have b1 := wv_L h 0 17
  refine z_ldc2 (v := 6364136223846793005) dX11_draw_5 qX11_251 (by decide) ?_
  refine z_lmul dX11_draw_8 ?_
  refine z_ldc2 (v := 1442695040888963407) dX11_draw_9 qX11_253 (by decide) ?_
  refine z_ladd dX11_draw_12 ?_
  refine z_putL dX11_draw_13 fX11_214 rfl rfl ?_
  rw [wp_dN]
  refine ab_iload_n (k := 1) dX11_draw_16 rfl rfl ?_
  refine z_if_gt (tgt := 22) dX11_draw_17 (by decide) (by omega) (fun c17 => ?_) (fun c17 => ?_)
  · skip
    refine ab_aload_n (k := 0) dX11_draw_22 rfl rfl ?_
    refine z_getL dX11_draw_23 fX11_214 rfl rfl ?_
    refine z_isl (y := dN (wv h 0 17)) (wv_wp_s (dN_L _)) ?_
    refine z_bipush dX11_draw_26 (by decide) ?_
    refine ab_lushr dX11_draw_28 ?_
    refine z_topl ?_
    refine z_isl (y := uS (dN (wv h 0 17))) rfl ?_
    refine ab_iload_n (k := 1) dX11_draw_29 rfl rfl ?_
    refine z_i2l dX11_draw_30 (by omega) ?_
    have hub := uS_b (dN (wv h 0 17))
    refine z_lrem dX11_draw_31 (by omega) (by omega) (by omega) ?_
    refine z_isl (y := drw (wv h 0 17) m) rfl ?_
    refine z_l2i dX11_draw_32 ?_
    refine z_iret dX11_draw_33 rfl ?_
    first | exact K | exact absurd c17 (by omega)
  · skip
    refine z_iconst dX11_draw_20 ?_
    refine z_iret dX11_draw_21 rfl ?_
    first | exact K | exact absurd c17 (by omega)
theorem c_mdraw {d : Nat} {h : ab_H} {Q : ab_Q} {m : Int} (hm : 0 < m ∧ m ≤ 2147483647) (K : Q (some (.int (iI (drw (wv h 200 38) m)))) (wp h 200 38 (dN (wv h 200 38)))) : ab_X d mX12_draw 0 (lv_args 0 [.ref 200, .int (iI m)]) [] h Q := by
  show ab_X d mX12_draw 0 [(0, .ref 200), (1, .int (iI m))] [] h Q
  refine ab_aload_n (k := 0) dX12_draw_0 rfl rfl ?_
  refine ab_aload_n (k := 0) dX12_draw_1 rfl rfl ?_
  refine z_getL dX12_draw_2 fX12_357 rfl rfl ?_
  have b1 := wv_L h 200 38
  refine z_ldc2 (v := 6364136223846793005) dX12_draw_5 qX12_361 (by decide) ?_
  refine z_lmul dX12_draw_8 ?_
  refine z_ldc2 (v := 1442695040888963407) dX12_draw_9 qX12_363 (by decide) ?_
  refine z_ladd dX12_draw_12 ?_
  refine z_putL dX12_draw_13 fX12_357 rfl rfl ?_
  rw [wp_dN]
  refine ab_aload_n (k := 0) dX12_draw_16 rfl rfl ?_
  refine z_getL dX12_draw_17 fX12_357 rfl rfl ?_
  refine z_isl (y := dN (wv h 200 38)) (wv_wp_s (dN_L _)) ?_
  refine z_bipush dX12_draw_20 (by decide) ?_
  refine ab_lushr dX12_draw_22 ?_
  refine z_topl ?_
  refine z_isl (y := uS (dN (wv h 200 38))) rfl ?_
  refine ab_iload_n (k := 1) dX12_draw_23 rfl rfl ?_
  refine z_i2l dX12_draw_24 (by omega) ?_
  have hub := uS_b (dN (wv h 200 38))
  refine z_lrem dX12_draw_25 (by omega) (by omega) (by omega) ?_
  refine z_isl (y := drw (wv h 200 38) m) rfl ?_
  refine z_l2i dX12_draw_26 ?_
  refine z_iret dX12_draw_27 rfl ?_
  exact K
