/-! THE TAPE: bytes fed, both sides -/
def by8 (v s : Int) : Int := (v / (2 : Int) ^ s.toNat) % 256
theorem by8_b (v s : Int) : 0 ≤ by8 v s ∧ by8 v s ≤ 255 := by unfold by8; omega
def sby (b : Int) : Int := if b < 128 then b else b - 256
def sOK (s : Int) : Prop := s = 0 ∨ s = 8 ∨ s = 16 ∨ s = 24
theorem toNat_mod (x : Int32) : ((x.toBitVec.toNat % 256 : Nat) : Int) = x.toInt % 256 := by
  have h := BitVec.toInt_eq_toNat_cond x.toBitVec
  have e : x.toInt = x.toBitVec.toInt := rfl
  rw [e, h]
  have hb : x.toBitVec.toNat < 2 ^ 32 := x.toBitVec.isLt
  split <;> omega
theorem and255 (x : Int32) : (x &&& iI 255).toInt = x.toInt % 256 := by
  have h := pk_and x (m := iI 255) 8 (by decide)
  rw [h, nI_toInt (by omega)]
  exact toNat_mod x
theorem toNat_32 {v : Int} (hv : inR v) : ((iI v).toBitVec.toNat : Int) = v % 4294967296 := by
  have h := BitVec.toInt_eq_toNat_cond (iI v).toBitVec
  have e : (iI v).toBitVec.toInt = v := iI_toInt hv
  rw [e] at h
  have hb : (iI v).toBitVec.toNat < 2 ^ 32 := (iI v).toBitVec.isLt
  split at h <;> omega
theorem bM_eq {v s : Int} (hv : inR v) (hs : sOK s) : ((iI ((iI v) >>> ((iI s) &&& 31)).toInt) &&& (iI 255)).toInt = by8 v s := by
  rw [iI_of, and255]
  unfold by8
  rcases hs with rfl | rfl | rfl | rfl
  · rw [pk_shr (iI v) (iI 0 &&& 31) 0 (by decide), iI_toInt hv, Int.shiftRight_eq_div_pow]; rfl
  · rw [pk_shr (iI v) (iI 8 &&& 31) 8 (by decide), iI_toInt hv, Int.shiftRight_eq_div_pow]; rfl
  · rw [pk_shr (iI v) (iI 16 &&& 31) 16 (by decide), iI_toInt hv, Int.shiftRight_eq_div_pow]; rfl
  · rw [pk_shr (iI v) (iI 24 &&& 31) 24 (by decide), iI_toInt hv, Int.shiftRight_eq_div_pow]; rfl
theorem bC_eq {v s : Int} (hv : inR v) (hs : sOK s) : ((iI (((iI v).toUInt32 >>> ((iI s).toUInt32 &&& Int32.toUInt32 31)).toInt32).toInt) &&& (iI 255)).toInt = by8 v s := by
  rw [iI_of]
  have h := pk_and (((iI v).toUInt32 >>> ((iI s).toUInt32 &&& Int32.toUInt32 31)).toInt32) (m := iI 255) 8 (by decide)
  rw [h, nI_toInt (by omega)]
  have h3 := toNat_32 hv
  unfold by8
  rcases hs with rfl | rfl | rfl | rfl
  · rw [pk_ushr (iI v) (iI 0) 0 (by decide)]; show _ = (v / 1) % 256; omega
  · rw [pk_ushr (iI v) (iI 8) 8 (by decide)]; show _ = (v / 256) % 256; omega
  · rw [pk_ushr (iI v) (iI 16) 16 (by decide)]; show _ = (v / 65536) % 256; omega
  · rw [pk_ushr (iI v) (iI 24) 24 (by decide)]; show _ = (v / 16777216) % 256; omega
theorem bB_eq {v s : Int} (hv : inR v) (hs : sOK s) : vp_nar .byte (iI (((iI ((iI v) >>> ((iI s) &&& 31)).toInt).toInt8.toInt32).toInt)) = iI (sby (by8 v s)) := by
  rw [iI_of, vp_nar_byte]
  have e := bM_eq hv hs
  rw [iI_of, and255] at e
  rw [iI_of]
  apply Int32.toInt.inj
  have hb := by8_b v s
  rw [iI_toInt (by unfold sby; split <;> omega)]
  generalize ((iI v) >>> ((iI s) &&& 31)) = x at e
  have e1 : (x.toInt8.toInt32.toInt8.toInt32).toInt = x.toInt.bmod 256 := by simp
  rw [e1, Int.bmod_def]
  unfold sby
  omega
def nzb (v : Int) : Int := (if by8 v 24 = 0 then 0 else 1) + (if by8 v 16 = 0 then 0 else 1) + (if by8 v 8 = 0 then 0 else 1) + (if by8 v 0 = 0 then 0 else 1)
theorem nzb_b (v : Int) : 0 ≤ nzb v ∧ nzb v ≤ 4 := by unfold nzb; (repeat' split) <;> omega
theorem c_bytesIn {d : Nat} {h : ab_H} {Q : ab_Q} {v : Int} (hv : inR v) (K : Q (some (.int (iI (nzb v)))) h) : ab_X d mX12_bytesIn 0 (lv_args 0 [.int (iI v)]) [] h Q := by
  show ab_X d mX12_bytesIn 0 [(0, .int (iI v))] [] h Q
  have y24 := by8_b v 24
  have y16 := by8_b v 16
  have y8 := by8_b v 8
  have y0 := by8_b v 0
  refine z_iconst dX12_bytesIn_0 ?_
  refine ab_istore_n (ls' := [(1, .int (iI 0)), (0, .int (iI v))]) dX12_bytesIn_1 rfl (by decide) rfl ?_
  refine z_bipush dX12_bytesIn_2 (by decide) ?_
  refine ab_istore_n (ls' := [(2, .int (iI 24)), (1, .int (iI 0)), (0, .int (iI v))]) dX12_bytesIn_4 rfl (by decide) rfl ?_
  refine ab_iload_n (k := 0) dX12_bytesIn_5 rfl rfl ?_
  refine z_if_lt (tgt := 33) dX12_bytesIn_6 (by decide) (by decide) (fun c6 => absurd c6 (by decide)) (fun _ => ?_)
  refine ab_iload_n (k := 1) dX12_bytesIn_9 rfl rfl ?_
  refine ab_iload_n (k := 2) dX12_bytesIn_10 rfl rfl ?_
  refine ab_iload_n (k := 0) dX12_bytesIn_11 rfl rfl ?_
  refine ab_ishr dX12_bytesIn_12 ?_
  refine z_top ?_
  have b1 := inR_of ((iI v) >>> ((iI 24) &&& 31))
  refine z_sipush dX12_bytesIn_13 (by decide) ?_
  refine ab_iand dX12_bytesIn_16 ?_
  refine z_top ?_
  refine z_is (y := by8 v 24) (bM_eq hv (by unfold sOK; omega)) ?_
  refine z_if_eq (tgt := 24) dX12_bytesIn_17 (by decide) (by omega) (fun c17 => ?_) (fun c17 => ?_)
  · skip
    refine z_iconst dX12_bytesIn_24 ?_
    refine z_iadd dX12_bytesIn_25 ?_
    refine ab_istore_n (ls' := [(1, .int (iI (0 + 0))), (2, .int (iI 24)), (0, .int (iI v))]) dX12_bytesIn_26 rfl (by decide) rfl ?_
    refine z_iinc (k := 1) (v := 16) (ls' := [(2, .int (iI 16)), (1, .int (iI (0 + 0))), (0, .int (iI v))]) dX12_bytesIn_27 rfl rfl (by decide) rfl ?_
    refine ab_goto (tgt := 5) dX12_bytesIn_30 (by decide) ?_
    refine ab_iload_n (k := 0) dX12_bytesIn_5 rfl rfl ?_
    refine z_if_lt (tgt := 33) dX12_bytesIn_6 (by decide) (by decide) (fun c6 => absurd c6 (by decide)) (fun _ => ?_)
    refine ab_iload_n (k := 1) dX12_bytesIn_9 rfl rfl ?_
    refine ab_iload_n (k := 2) dX12_bytesIn_10 rfl rfl ?_
    refine ab_iload_n (k := 0) dX12_bytesIn_11 rfl rfl ?_
    refine ab_ishr dX12_bytesIn_12 ?_
    refine z_top ?_
    have b2 := inR_of ((iI v) >>> ((iI 16) &&& 31))
    refine z_sipush dX12_bytesIn_13 (by decide) ?_
    refine ab_iand dX12_bytesIn_16 ?_
    refine z_top ?_
    refine z_is (y := by8 v 16) (bM_eq hv (by unfold sOK; omega)) ?_
    refine z_if_eq (tgt := 24) dX12_bytesIn_17 (by decide) (by omega) (fun c17 => ?_) (fun c17 => ?_)
    · skip
      refine z_iconst dX12_bytesIn_24 ?_
      refine z_iadd dX12_bytesIn_25 ?_
      refine ab_istore_n (ls' := [(1, .int (iI ((0 + 0) + 0))), (2, .int (iI 16)), (0, .int (iI v))]) dX12_bytesIn_26 rfl (by decide) rfl ?_
      refine z_iinc (k := 1) (v := 8) (ls' := [(2, .int (iI 8)), (1, .int (iI ((0 + 0) + 0))), (0, .int (iI v))]) dX12_bytesIn_27 rfl rfl (by decide) rfl ?_
      refine ab_goto (tgt := 5) dX12_bytesIn_30 (by decide) ?_
      refine ab_iload_n (k := 0) dX12_bytesIn_5 rfl rfl ?_
      refine z_if_lt (tgt := 33) dX12_bytesIn_6 (by decide) (by decide) (fun c6 => absurd c6 (by decide)) (fun _ => ?_)
      refine ab_iload_n (k := 1) dX12_bytesIn_9 rfl rfl ?_
      refine ab_iload_n (k := 2) dX12_bytesIn_10 rfl rfl ?_
      refine ab_iload_n (k := 0) dX12_bytesIn_11 rfl rfl ?_
      refine ab_ishr dX12_bytesIn_12 ?_
      refine z_top ?_
      have b3 := inR_of ((iI v) >>> ((iI 8) &&& 31))
      refine z_sipush dX12_bytesIn_13 (by decide) ?_
      refine ab_iand dX12_bytesIn_16 ?_
      refine z_top ?_
      refine z_is (y := by8 v 8) (bM_eq hv (by unfold sOK; omega)) ?_
      refine z_if_eq (tgt := 24) dX12_bytesIn_17 (by decide) (by omega) (fun c17 => ?_) (fun c17 => ?_)
      · skip
        refine z_iconst dX12_bytesIn_24 ?_
        refine z_iadd dX12_bytesIn_25 ?_
        refine ab_istore_n (ls' := [(1, .int (iI (((0 + 0) + 0) + 0))), (2, .int (iI 8)), (0, .int (iI v))]) dX12_bytesIn_26 rfl (by decide) rfl ?_
        refine z_iinc (k := 1) (v := 0) (ls' := [(2, .int (iI 0)), (1, .int (iI (((0 + 0) + 0) + 0))), (0, .int (iI v))]) dX12_bytesIn_27 rfl rfl (by decide) rfl ?_
        refine ab_goto (tgt := 5) dX12_bytesIn_30 (by decide) ?_
        refine ab_iload_n (k := 0) dX12_bytesIn_5 rfl rfl ?_
        refine z_if_lt (tgt := 33) dX12_bytesIn_6 (by decide) (by decide) (fun c6 => absurd c6 (by decide)) (fun _ => ?_)
        refine ab_iload_n (k := 1) dX12_bytesIn_9 rfl rfl ?_
        refine ab_iload_n (k := 2) dX12_bytesIn_10 rfl rfl ?_
        refine ab_iload_n (k := 0) dX12_bytesIn_11 rfl rfl ?_
        refine ab_ishr dX12_bytesIn_12 ?_
        refine z_top ?_
        have b4 := inR_of ((iI v) >>> ((iI 0) &&& 31))
        refine z_sipush dX12_bytesIn_13 (by decide) ?_
        refine ab_iand dX12_bytesIn_16 ?_
        refine z_top ?_
        refine z_is (y := by8 v 0) (bM_eq hv (by unfold sOK; omega)) ?_
        refine z_if_eq (tgt := 24) dX12_bytesIn_17 (by decide) (by omega) (fun c17 => ?_) (fun c17 => ?_)
        · skip
          refine z_iconst dX12_bytesIn_24 ?_
          refine z_iadd dX12_bytesIn_25 ?_
          refine ab_istore_n (ls' := [(1, .int (iI ((((0 + 0) + 0) + 0) + 0))), (2, .int (iI 0)), (0, .int (iI v))]) dX12_bytesIn_26 rfl (by decide) rfl ?_
          refine z_iinc (k := 1) (v := (-8)) (ls' := [(2, .int (iI (-8))), (1, .int (iI ((((0 + 0) + 0) + 0) + 0))), (0, .int (iI v))]) dX12_bytesIn_27 rfl rfl (by decide) rfl ?_
          refine ab_goto (tgt := 5) dX12_bytesIn_30 (by decide) ?_
          refine ab_iload_n (k := 0) dX12_bytesIn_5 rfl rfl ?_
          refine z_if_lt (tgt := 33) dX12_bytesIn_6 (by decide) (by decide) (fun _ => ?_) (fun c6 => absurd c6 (by decide))
          refine ab_iload_n (k := 1) dX12_bytesIn_33 rfl rfl ?_
          refine z_iret dX12_bytesIn_34 rfl ?_
          have e : nzb v = (((0 + 0) + 0) + 0) + 0 := by unfold nzb; (repeat' split) <;> omega
          rw [e] at K
          exact K
        · skip
          refine z_iconst dX12_bytesIn_20 ?_
          refine ab_goto (tgt := 25) dX12_bytesIn_21 (by decide) ?_
          refine z_iadd dX12_bytesIn_25 ?_
          refine ab_istore_n (ls' := [(1, .int (iI ((((0 + 0) + 0) + 0) + 1))), (2, .int (iI 0)), (0, .int (iI v))]) dX12_bytesIn_26 rfl (by decide) rfl ?_
          refine z_iinc (k := 1) (v := (-8)) (ls' := [(2, .int (iI (-8))), (1, .int (iI ((((0 + 0) + 0) + 0) + 1))), (0, .int (iI v))]) dX12_bytesIn_27 rfl rfl (by decide) rfl ?_
          refine ab_goto (tgt := 5) dX12_bytesIn_30 (by decide) ?_
          refine ab_iload_n (k := 0) dX12_bytesIn_5 rfl rfl ?_
          refine z_if_lt (tgt := 33) dX12_bytesIn_6 (by decide) (by decide) (fun _ => ?_) (fun c6 => absurd c6 (by decide))
          refine ab_iload_n (k := 1) dX12_bytesIn_33 rfl rfl ?_
          refine z_iret dX12_bytesIn_34 rfl ?_
          have e : nzb v = (((0 + 0) + 0) + 0) + 1 := by unfold nzb; (repeat' split) <;> omega
          rw [e] at K
          exact K
      · skip
        refine z_iconst dX12_bytesIn_20 ?_
        refine ab_goto (tgt := 25) dX12_bytesIn_21 (by decide) ?_
        refine z_iadd dX12_bytesIn_25 ?_
        refine ab_istore_n (ls' := [(1, .int (iI (((0 + 0) + 0) + 1))), (2, .int (iI 8)), (0, .int (iI v))]) dX12_bytesIn_26 rfl (by decide) rfl ?_
        refine z_iinc (k := 1) (v := 0) (ls' := [(2, .int (iI 0)), (1, .int (iI (((0 + 0) + 0) + 1))), (0, .int (iI v))]) dX12_bytesIn_27 rfl rfl (by decide) rfl ?_
        refine ab_goto (tgt := 5) dX12_bytesIn_30 (by decide) ?_
        refine ab_iload_n (k := 0) dX12_bytesIn_5 rfl rfl ?_
        refine z_if_lt (tgt := 33) dX12_bytesIn_6 (by decide) (by decide) (fun c6 => absurd c6 (by decide)) (fun _ => ?_)
        refine ab_iload_n (k := 1) dX12_bytesIn_9 rfl rfl ?_
        refine ab_iload_n (k := 2) dX12_bytesIn_10 rfl rfl ?_
        refine ab_iload_n (k := 0) dX12_bytesIn_11 rfl rfl ?_
        refine ab_ishr dX12_bytesIn_12 ?_
        refine z_top ?_
        have b5 := inR_of ((iI v) >>> ((iI 0) &&& 31))
        refine z_sipush dX12_bytesIn_13 (by decide) ?_
        refine ab_iand dX12_bytesIn_16 ?_
        refine z_top ?_
        refine z_is (y := by8 v 0) (bM_eq hv (by unfold sOK; omega)) ?_
        refine z_if_eq (tgt := 24) dX12_bytesIn_17 (by decide) (by omega) (fun c17 => ?_) (fun c17 => ?_)
        · skip
          refine z_iconst dX12_bytesIn_24 ?_
          refine z_iadd dX12_bytesIn_25 ?_
          refine ab_istore_n (ls' := [(1, .int (iI ((((0 + 0) + 0) + 1) + 0))), (2, .int (iI 0)), (0, .int (iI v))]) dX12_bytesIn_26 rfl (by decide) rfl ?_
          refine z_iinc (k := 1) (v := (-8)) (ls' := [(2, .int (iI (-8))), (1, .int (iI ((((0 + 0) + 0) + 1) + 0))), (0, .int (iI v))]) dX12_bytesIn_27 rfl rfl (by decide) rfl ?_
          refine ab_goto (tgt := 5) dX12_bytesIn_30 (by decide) ?_
          refine ab_iload_n (k := 0) dX12_bytesIn_5 rfl rfl ?_
          refine z_if_lt (tgt := 33) dX12_bytesIn_6 (by decide) (by decide) (fun _ => ?_) (fun c6 => absurd c6 (by decide))
          refine ab_iload_n (k := 1) dX12_bytesIn_33 rfl rfl ?_
          refine z_iret dX12_bytesIn_34 rfl ?_
          have e : nzb v = (((0 + 0) + 0) + 1) + 0 := by unfold nzb; (repeat' split) <;> omega
          rw [e] at K
          exact K
        · skip
          refine z_iconst dX12_bytesIn_20 ?_
          refine ab_goto (tgt := 25) dX12_bytesIn_21 (by decide) ?_
          refine z_iadd dX12_bytesIn_25 ?_
          refine ab_istore_n (ls' := [(1, .int (iI ((((0 + 0) + 0) + 1) + 1))), (2, .int (iI 0)), (0, .int (iI v))]) dX12_bytesIn_26 rfl (by decide) rfl ?_
          refine z_iinc (k := 1) (v := (-8)) (ls' := [(2, .int (iI (-8))), (1, .int (iI ((((0 + 0) + 0) + 1) + 1))), (0, .int (iI v))]) dX12_bytesIn_27 rfl rfl (by decide) rfl ?_
          refine ab_goto (tgt := 5) dX12_bytesIn_30 (by decide) ?_
          refine ab_iload_n (k := 0) dX12_bytesIn_5 rfl rfl ?_
          refine z_if_lt (tgt := 33) dX12_bytesIn_6 (by decide) (by decide) (fun _ => ?_) (fun c6 => absurd c6 (by decide))
          refine ab_iload_n (k := 1) dX12_bytesIn_33 rfl rfl ?_
          refine z_iret dX12_bytesIn_34 rfl ?_
          have e : nzb v = (((0 + 0) + 0) + 1) + 1 := by unfold nzb; (repeat' split) <;> omega
          rw [e] at K
          exact K
    · skip
      refine z_iconst dX12_bytesIn_20 ?_
      refine ab_goto (tgt := 25) dX12_bytesIn_21 (by decide) ?_
      refine z_iadd dX12_bytesIn_25 ?_
      refine ab_istore_n (ls' := [(1, .int (iI ((0 + 0) + 1))), (2, .int (iI 16)), (0, .int (iI v))]) dX12_bytesIn_26 rfl (by decide) rfl ?_
      refine z_iinc (k := 1) (v := 8) (ls' := [(2, .int (iI 8)), (1, .int (iI ((0 + 0) + 1))), (0, .int (iI v))]) dX12_bytesIn_27 rfl rfl (by decide) rfl ?_
      refine ab_goto (tgt := 5) dX12_bytesIn_30 (by decide) ?_
      refine ab_iload_n (k := 0) dX12_bytesIn_5 rfl rfl ?_
      refine z_if_lt (tgt := 33) dX12_bytesIn_6 (by decide) (by decide) (fun c6 => absurd c6 (by decide)) (fun _ => ?_)
      refine ab_iload_n (k := 1) dX12_bytesIn_9 rfl rfl ?_
      refine ab_iload_n (k := 2) dX12_bytesIn_10 rfl rfl ?_
      refine ab_iload_n (k := 0) dX12_bytesIn_11 rfl rfl ?_
      refine ab_ishr dX12_bytesIn_12 ?_
      refine z_top ?_
      have b6 := inR_of ((iI v) >>> ((iI 8) &&& 31))
      refine z_sipush dX12_bytesIn_13 (by decide) ?_
      refine ab_iand dX12_bytesIn_16 ?_
      refine z_top ?_
      refine z_is (y := by8 v 8) (bM_eq hv (by unfold sOK; omega)) ?_
      refine z_if_eq (tgt := 24) dX12_bytesIn_17 (by decide) (by omega) (fun c17 => ?_) (fun c17 => ?_)
      · skip
        refine z_iconst dX12_bytesIn_24 ?_
        refine z_iadd dX12_bytesIn_25 ?_
        refine ab_istore_n (ls' := [(1, .int (iI (((0 + 0) + 1) + 0))), (2, .int (iI 8)), (0, .int (iI v))]) dX12_bytesIn_26 rfl (by decide) rfl ?_
        refine z_iinc (k := 1) (v := 0) (ls' := [(2, .int (iI 0)), (1, .int (iI (((0 + 0) + 1) + 0))), (0, .int (iI v))]) dX12_bytesIn_27 rfl rfl (by decide) rfl ?_
        refine ab_goto (tgt := 5) dX12_bytesIn_30 (by decide) ?_
        refine ab_iload_n (k := 0) dX12_bytesIn_5 rfl rfl ?_
        refine z_if_lt (tgt := 33) dX12_bytesIn_6 (by decide) (by decide) (fun c6 => absurd c6 (by decide)) (fun _ => ?_)
        refine ab_iload_n (k := 1) dX12_bytesIn_9 rfl rfl ?_
        refine ab_iload_n (k := 2) dX12_bytesIn_10 rfl rfl ?_
        refine ab_iload_n (k := 0) dX12_bytesIn_11 rfl rfl ?_
        refine ab_ishr dX12_bytesIn_12 ?_
        refine z_top ?_
        have b7 := inR_of ((iI v) >>> ((iI 0) &&& 31))
        refine z_sipush dX12_bytesIn_13 (by decide) ?_
        refine ab_iand dX12_bytesIn_16 ?_
        refine z_top ?_
        refine z_is (y := by8 v 0) (bM_eq hv (by unfold sOK; omega)) ?_
        refine z_if_eq (tgt := 24) dX12_bytesIn_17 (by decide) (by omega) (fun c17 => ?_) (fun c17 => ?_)
        · skip
          refine z_iconst dX12_bytesIn_24 ?_
          refine z_iadd dX12_bytesIn_25 ?_
          refine ab_istore_n (ls' := [(1, .int (iI ((((0 + 0) + 1) + 0) + 0))), (2, .int (iI 0)), (0, .int (iI v))]) dX12_bytesIn_26 rfl (by decide) rfl ?_
          refine z_iinc (k := 1) (v := (-8)) (ls' := [(2, .int (iI (-8))), (1, .int (iI ((((0 + 0) + 1) + 0) + 0))), (0, .int (iI v))]) dX12_bytesIn_27 rfl rfl (by decide) rfl ?_
          refine ab_goto (tgt := 5) dX12_bytesIn_30 (by decide) ?_
          refine ab_iload_n (k := 0) dX12_bytesIn_5 rfl rfl ?_
          refine z_if_lt (tgt := 33) dX12_bytesIn_6 (by decide) (by decide) (fun _ => ?_) (fun c6 => absurd c6 (by decide))
          refine ab_iload_n (k := 1) dX12_bytesIn_33 rfl rfl ?_
          refine z_iret dX12_bytesIn_34 rfl ?_
          have e : nzb v = (((0 + 0) + 1) + 0) + 0 := by unfold nzb; (repeat' split) <;> omega
          rw [e] at K
          exact K
        · skip
          refine z_iconst dX12_bytesIn_20 ?_
          refine ab_goto (tgt := 25) dX12_bytesIn_21 (by decide) ?_
          refine z_iadd dX12_bytesIn_25 ?_
          refine ab_istore_n (ls' := [(1, .int (iI ((((0 + 0) + 1) + 0) + 1))), (2, .int (iI 0)), (0, .int (iI v))]) dX12_bytesIn_26 rfl (by decide) rfl ?_
          refine z_iinc (k := 1) (v := (-8)) (ls' := [(2, .int (iI (-8))), (1, .int (iI ((((0 + 0) + 1) + 0) + 1))), (0, .int (iI v))]) dX12_bytesIn_27 rfl rfl (by decide) rfl ?_
          refine ab_goto (tgt := 5) dX12_bytesIn_30 (by decide) ?_
          refine ab_iload_n (k := 0) dX12_bytesIn_5 rfl rfl ?_
          refine z_if_lt (tgt := 33) dX12_bytesIn_6 (by decide) (by decide) (fun _ => ?_) (fun c6 => absurd c6 (by decide))
          refine ab_iload_n (k := 1) dX12_bytesIn_33 rfl rfl ?_
          refine z_iret dX12_bytesIn_34 rfl ?_
          have e : nzb v = (((0 + 0) + 1) + 0) + 1 := by unfold nzb; (repeat' split) <;> omega
          rw [e] at K
          exact K
      · skip
        refine z_iconst dX12_bytesIn_20 ?_
        refine ab_goto (tgt := 25) dX12_bytesIn_21 (by decide) ?_
        refine z_iadd dX12_bytesIn_25 ?_
        refine ab_istore_n (ls' := [(1, .int (iI (((0 + 0) + 1) + 1))), (2, .int (iI 8)), (0, .int (iI v))]) dX12_bytesIn_26 rfl (by decide) rfl ?_
        refine z_iinc (k := 1) (v := 0) (ls' := [(2, .int (iI 0)), (1, .int (iI (((0 + 0) + 1) + 1))), (0, .int (iI v))]) dX12_bytesIn_27 rfl rfl (by decide) rfl ?_
        refine ab_goto (tgt := 5) dX12_bytesIn_30 (by decide) ?_
        refine ab_iload_n (k := 0) dX12_bytesIn_5 rfl rfl ?_
        refine z_if_lt (tgt := 33) dX12_bytesIn_6 (by decide) (by decide) (fun c6 => absurd c6 (by decide)) (fun _ => ?_)
        refine ab_iload_n (k := 1) dX12_bytesIn_9 rfl rfl ?_
        refine ab_iload_n (k := 2) dX12_bytesIn_10 rfl rfl ?_
        refine ab_iload_n (k := 0) dX12_bytesIn_11 rfl rfl ?_
        refine ab_ishr dX12_bytesIn_12 ?_
        refine z_top ?_
        have b8 := inR_of ((iI v) >>> ((iI 0) &&& 31))
        refine z_sipush dX12_bytesIn_13 (by decide) ?_
        refine ab_iand dX12_bytesIn_16 ?_
        refine z_top ?_
        refine z_is (y := by8 v 0) (bM_eq hv (by unfold sOK; omega)) ?_
        refine z_if_eq (tgt := 24) dX12_bytesIn_17 (by decide) (by omega) (fun c17 => ?_) (fun c17 => ?_)
        · skip
          refine z_iconst dX12_bytesIn_24 ?_
          refine z_iadd dX12_bytesIn_25 ?_
          refine ab_istore_n (ls' := [(1, .int (iI ((((0 + 0) + 1) + 1) + 0))), (2, .int (iI 0)), (0, .int (iI v))]) dX12_bytesIn_26 rfl (by decide) rfl ?_
          refine z_iinc (k := 1) (v := (-8)) (ls' := [(2, .int (iI (-8))), (1, .int (iI ((((0 + 0) + 1) + 1) + 0))), (0, .int (iI v))]) dX12_bytesIn_27 rfl rfl (by decide) rfl ?_
          refine ab_goto (tgt := 5) dX12_bytesIn_30 (by decide) ?_
          refine ab_iload_n (k := 0) dX12_bytesIn_5 rfl rfl ?_
          refine z_if_lt (tgt := 33) dX12_bytesIn_6 (by decide) (by decide) (fun _ => ?_) (fun c6 => absurd c6 (by decide))
          refine ab_iload_n (k := 1) dX12_bytesIn_33 rfl rfl ?_
          refine z_iret dX12_bytesIn_34 rfl ?_
          have e : nzb v = (((0 + 0) + 1) + 1) + 0 := by unfold nzb; (repeat' split) <;> omega
          rw [e] at K
          exact K
        · skip
          refine z_iconst dX12_bytesIn_20 ?_
          refine ab_goto (tgt := 25) dX12_bytesIn_21 (by decide) ?_
          refine z_iadd dX12_bytesIn_25 ?_
          refine ab_istore_n (ls' := [(1, .int (iI ((((0 + 0) + 1) + 1) + 1))), (2, .int (iI 0)), (0, .int (iI v))]) dX12_bytesIn_26 rfl (by decide) rfl ?_
          refine z_iinc (k := 1) (v := (-8)) (ls' := [(2, .int (iI (-8))), (1, .int (iI ((((0 + 0) + 1) + 1) + 1))), (0, .int (iI v))]) dX12_bytesIn_27 rfl rfl (by decide) rfl ?_
          refine ab_goto (tgt := 5) dX12_bytesIn_30 (by decide) ?_
          refine ab_iload_n (k := 0) dX12_bytesIn_5 rfl rfl ?_
          refine z_if_lt (tgt := 33) dX12_bytesIn_6 (by decide) (by decide) (fun _ => ?_) (fun c6 => absurd c6 (by decide))
          refine ab_iload_n (k := 1) dX12_bytesIn_33 rfl rfl ?_
          refine z_iret dX12_bytesIn_34 rfl ?_
          have e : nzb v = (((0 + 0) + 1) + 1) + 1 := by unfold nzb; (repeat' split) <;> omega
          rw [e] at K
          exact K
  · skip
    refine z_iconst dX12_bytesIn_20 ?_
    refine ab_goto (tgt := 25) dX12_bytesIn_21 (by decide) ?_
    refine z_iadd dX12_bytesIn_25 ?_
    refine ab_istore_n (ls' := [(1, .int (iI (0 + 1))), (2, .int (iI 24)), (0, .int (iI v))]) dX12_bytesIn_26 rfl (by decide) rfl ?_
    refine z_iinc (k := 1) (v := 16) (ls' := [(2, .int (iI 16)), (1, .int (iI (0 + 1))), (0, .int (iI v))]) dX12_bytesIn_27 rfl rfl (by decide) rfl ?_
    refine ab_goto (tgt := 5) dX12_bytesIn_30 (by decide) ?_
    refine ab_iload_n (k := 0) dX12_bytesIn_5 rfl rfl ?_
    refine z_if_lt (tgt := 33) dX12_bytesIn_6 (by decide) (by decide) (fun c6 => absurd c6 (by decide)) (fun _ => ?_)
    refine ab_iload_n (k := 1) dX12_bytesIn_9 rfl rfl ?_
    refine ab_iload_n (k := 2) dX12_bytesIn_10 rfl rfl ?_
    refine ab_iload_n (k := 0) dX12_bytesIn_11 rfl rfl ?_
    refine ab_ishr dX12_bytesIn_12 ?_
    refine z_top ?_
    have b9 := inR_of ((iI v) >>> ((iI 16) &&& 31))
    refine z_sipush dX12_bytesIn_13 (by decide) ?_
    refine ab_iand dX12_bytesIn_16 ?_
    refine z_top ?_
    refine z_is (y := by8 v 16) (bM_eq hv (by unfold sOK; omega)) ?_
    refine z_if_eq (tgt := 24) dX12_bytesIn_17 (by decide) (by omega) (fun c17 => ?_) (fun c17 => ?_)
    · skip
      refine z_iconst dX12_bytesIn_24 ?_
      refine z_iadd dX12_bytesIn_25 ?_
      refine ab_istore_n (ls' := [(1, .int (iI ((0 + 1) + 0))), (2, .int (iI 16)), (0, .int (iI v))]) dX12_bytesIn_26 rfl (by decide) rfl ?_
      refine z_iinc (k := 1) (v := 8) (ls' := [(2, .int (iI 8)), (1, .int (iI ((0 + 1) + 0))), (0, .int (iI v))]) dX12_bytesIn_27 rfl rfl (by decide) rfl ?_
      refine ab_goto (tgt := 5) dX12_bytesIn_30 (by decide) ?_
      refine ab_iload_n (k := 0) dX12_bytesIn_5 rfl rfl ?_
      refine z_if_lt (tgt := 33) dX12_bytesIn_6 (by decide) (by decide) (fun c6 => absurd c6 (by decide)) (fun _ => ?_)
      refine ab_iload_n (k := 1) dX12_bytesIn_9 rfl rfl ?_
      refine ab_iload_n (k := 2) dX12_bytesIn_10 rfl rfl ?_
      refine ab_iload_n (k := 0) dX12_bytesIn_11 rfl rfl ?_
      refine ab_ishr dX12_bytesIn_12 ?_
      refine z_top ?_
      have b10 := inR_of ((iI v) >>> ((iI 8) &&& 31))
      refine z_sipush dX12_bytesIn_13 (by decide) ?_
      refine ab_iand dX12_bytesIn_16 ?_
      refine z_top ?_
      refine z_is (y := by8 v 8) (bM_eq hv (by unfold sOK; omega)) ?_
      refine z_if_eq (tgt := 24) dX12_bytesIn_17 (by decide) (by omega) (fun c17 => ?_) (fun c17 => ?_)
      · skip
        refine z_iconst dX12_bytesIn_24 ?_
        refine z_iadd dX12_bytesIn_25 ?_
        refine ab_istore_n (ls' := [(1, .int (iI (((0 + 1) + 0) + 0))), (2, .int (iI 8)), (0, .int (iI v))]) dX12_bytesIn_26 rfl (by decide) rfl ?_
        refine z_iinc (k := 1) (v := 0) (ls' := [(2, .int (iI 0)), (1, .int (iI (((0 + 1) + 0) + 0))), (0, .int (iI v))]) dX12_bytesIn_27 rfl rfl (by decide) rfl ?_
        refine ab_goto (tgt := 5) dX12_bytesIn_30 (by decide) ?_
        refine ab_iload_n (k := 0) dX12_bytesIn_5 rfl rfl ?_
        refine z_if_lt (tgt := 33) dX12_bytesIn_6 (by decide) (by decide) (fun c6 => absurd c6 (by decide)) (fun _ => ?_)
        refine ab_iload_n (k := 1) dX12_bytesIn_9 rfl rfl ?_
        refine ab_iload_n (k := 2) dX12_bytesIn_10 rfl rfl ?_
        refine ab_iload_n (k := 0) dX12_bytesIn_11 rfl rfl ?_
        refine ab_ishr dX12_bytesIn_12 ?_
        refine z_top ?_
        have b11 := inR_of ((iI v) >>> ((iI 0) &&& 31))
        refine z_sipush dX12_bytesIn_13 (by decide) ?_
        refine ab_iand dX12_bytesIn_16 ?_
        refine z_top ?_
        refine z_is (y := by8 v 0) (bM_eq hv (by unfold sOK; omega)) ?_
        refine z_if_eq (tgt := 24) dX12_bytesIn_17 (by decide) (by omega) (fun c17 => ?_) (fun c17 => ?_)
        · skip
          refine z_iconst dX12_bytesIn_24 ?_
          refine z_iadd dX12_bytesIn_25 ?_
          refine ab_istore_n (ls' := [(1, .int (iI ((((0 + 1) + 0) + 0) + 0))), (2, .int (iI 0)), (0, .int (iI v))]) dX12_bytesIn_26 rfl (by decide) rfl ?_
          refine z_iinc (k := 1) (v := (-8)) (ls' := [(2, .int (iI (-8))), (1, .int (iI ((((0 + 1) + 0) + 0) + 0))), (0, .int (iI v))]) dX12_bytesIn_27 rfl rfl (by decide) rfl ?_
          refine ab_goto (tgt := 5) dX12_bytesIn_30 (by decide) ?_
          refine ab_iload_n (k := 0) dX12_bytesIn_5 rfl rfl ?_
          refine z_if_lt (tgt := 33) dX12_bytesIn_6 (by decide) (by decide) (fun _ => ?_) (fun c6 => absurd c6 (by decide))
          refine ab_iload_n (k := 1) dX12_bytesIn_33 rfl rfl ?_
          refine z_iret dX12_bytesIn_34 rfl ?_
          have e : nzb v = (((0 + 1) + 0) + 0) + 0 := by unfold nzb; (repeat' split) <;> omega
          rw [e] at K
          exact K
        · skip
          refine z_iconst dX12_bytesIn_20 ?_
          refine ab_goto (tgt := 25) dX12_bytesIn_21 (by decide) ?_
          refine z_iadd dX12_bytesIn_25 ?_
          refine ab_istore_n (ls' := [(1, .int (iI ((((0 + 1) + 0) + 0) + 1))), (2, .int (iI 0)), (0, .int (iI v))]) dX12_bytesIn_26 rfl (by decide) rfl ?_
          refine z_iinc (k := 1) (v := (-8)) (ls' := [(2, .int (iI (-8))), (1, .int (iI ((((0 + 1) + 0) + 0) + 1))), (0, .int (iI v))]) dX12_bytesIn_27 rfl rfl (by decide) rfl ?_
          refine ab_goto (tgt := 5) dX12_bytesIn_30 (by decide) ?_
          refine ab_iload_n (k := 0) dX12_bytesIn_5 rfl rfl ?_
          refine z_if_lt (tgt := 33) dX12_bytesIn_6 (by decide) (by decide) (fun _ => ?_) (fun c6 => absurd c6 (by decide))
          refine ab_iload_n (k := 1) dX12_bytesIn_33 rfl rfl ?_
          refine z_iret dX12_bytesIn_34 rfl ?_
          have e : nzb v = (((0 + 1) + 0) + 0) + 1 := by unfold nzb; (repeat' split) <;> omega
          rw [e] at K
          exact K
      · skip
        refine z_iconst dX12_bytesIn_20 ?_
        refine ab_goto (tgt := 25) dX12_bytesIn_21 (by decide) ?_
        refine z_iadd dX12_bytesIn_25 ?_
        refine ab_istore_n (ls' := [(1, .int (iI (((0 + 1) + 0) + 1))), (2, .int (iI 8)), (0, .int (iI v))]) dX12_bytesIn_26 rfl (by decide) rfl ?_
        refine z_iinc (k := 1) (v := 0) (ls' := [(2, .int (iI 0)), (1, .int (iI (((0 + 1) + 0) + 1))), (0, .int (iI v))]) dX12_bytesIn_27 rfl rfl (by decide) rfl ?_
        refine ab_goto (tgt := 5) dX12_bytesIn_30 (by decide) ?_
        refine ab_iload_n (k := 0) dX12_bytesIn_5 rfl rfl ?_
        refine z_if_lt (tgt := 33) dX12_bytesIn_6 (by decide) (by decide) (fun c6 => absurd c6 (by decide)) (fun _ => ?_)
        refine ab_iload_n (k := 1) dX12_bytesIn_9 rfl rfl ?_
        refine ab_iload_n (k := 2) dX12_bytesIn_10 rfl rfl ?_
        refine ab_iload_n (k := 0) dX12_bytesIn_11 rfl rfl ?_
        refine ab_ishr dX12_bytesIn_12 ?_
        refine z_top ?_
        have b12 := inR_of ((iI v) >>> ((iI 0) &&& 31))
        refine z_sipush dX12_bytesIn_13 (by decide) ?_
        refine ab_iand dX12_bytesIn_16 ?_
        refine z_top ?_
        refine z_is (y := by8 v 0) (bM_eq hv (by unfold sOK; omega)) ?_
        refine z_if_eq (tgt := 24) dX12_bytesIn_17 (by decide) (by omega) (fun c17 => ?_) (fun c17 => ?_)
        · skip
          refine z_iconst dX12_bytesIn_24 ?_
          refine z_iadd dX12_bytesIn_25 ?_
          refine ab_istore_n (ls' := [(1, .int (iI ((((0 + 1) + 0) + 1) + 0))), (2, .int (iI 0)), (0, .int (iI v))]) dX12_bytesIn_26 rfl (by decide) rfl ?_
          refine z_iinc (k := 1) (v := (-8)) (ls' := [(2, .int (iI (-8))), (1, .int (iI ((((0 + 1) + 0) + 1) + 0))), (0, .int (iI v))]) dX12_bytesIn_27 rfl rfl (by decide) rfl ?_
          refine ab_goto (tgt := 5) dX12_bytesIn_30 (by decide) ?_
          refine ab_iload_n (k := 0) dX12_bytesIn_5 rfl rfl ?_
          refine z_if_lt (tgt := 33) dX12_bytesIn_6 (by decide) (by decide) (fun _ => ?_) (fun c6 => absurd c6 (by decide))
          refine ab_iload_n (k := 1) dX12_bytesIn_33 rfl rfl ?_
          refine z_iret dX12_bytesIn_34 rfl ?_
          have e : nzb v = (((0 + 1) + 0) + 1) + 0 := by unfold nzb; (repeat' split) <;> omega
          rw [e] at K
          exact K
        · skip
          refine z_iconst dX12_bytesIn_20 ?_
          refine ab_goto (tgt := 25) dX12_bytesIn_21 (by decide) ?_
          refine z_iadd dX12_bytesIn_25 ?_
          refine ab_istore_n (ls' := [(1, .int (iI ((((0 + 1) + 0) + 1) + 1))), (2, .int (iI 0)), (0, .int (iI v))]) dX12_bytesIn_26 rfl (by decide) rfl ?_
          refine z_iinc (k := 1) (v := (-8)) (ls' := [(2, .int (iI (-8))), (1, .int (iI ((((0 + 1) + 0) + 1) + 1))), (0, .int (iI v))]) dX12_bytesIn_27 rfl rfl (by decide) rfl ?_
          refine ab_goto (tgt := 5) dX12_bytesIn_30 (by decide) ?_
          refine ab_iload_n (k := 0) dX12_bytesIn_5 rfl rfl ?_
          refine z_if_lt (tgt := 33) dX12_bytesIn_6 (by decide) (by decide) (fun _ => ?_) (fun c6 => absurd c6 (by decide))
          refine ab_iload_n (k := 1) dX12_bytesIn_33 rfl rfl ?_
          refine z_iret dX12_bytesIn_34 rfl ?_
          have e : nzb v = (((0 + 1) + 0) + 1) + 1 := by unfold nzb; (repeat' split) <;> omega
          rw [e] at K
          exact K
    · skip
      refine z_iconst dX12_bytesIn_20 ?_
      refine ab_goto (tgt := 25) dX12_bytesIn_21 (by decide) ?_
      refine z_iadd dX12_bytesIn_25 ?_
      refine ab_istore_n (ls' := [(1, .int (iI ((0 + 1) + 1))), (2, .int (iI 16)), (0, .int (iI v))]) dX12_bytesIn_26 rfl (by decide) rfl ?_
      refine z_iinc (k := 1) (v := 8) (ls' := [(2, .int (iI 8)), (1, .int (iI ((0 + 1) + 1))), (0, .int (iI v))]) dX12_bytesIn_27 rfl rfl (by decide) rfl ?_
      refine ab_goto (tgt := 5) dX12_bytesIn_30 (by decide) ?_
      refine ab_iload_n (k := 0) dX12_bytesIn_5 rfl rfl ?_
      refine z_if_lt (tgt := 33) dX12_bytesIn_6 (by decide) (by decide) (fun c6 => absurd c6 (by decide)) (fun _ => ?_)
      refine ab_iload_n (k := 1) dX12_bytesIn_9 rfl rfl ?_
      refine ab_iload_n (k := 2) dX12_bytesIn_10 rfl rfl ?_
      refine ab_iload_n (k := 0) dX12_bytesIn_11 rfl rfl ?_
      refine ab_ishr dX12_bytesIn_12 ?_
      refine z_top ?_
      have b13 := inR_of ((iI v) >>> ((iI 8) &&& 31))
      refine z_sipush dX12_bytesIn_13 (by decide) ?_
      refine ab_iand dX12_bytesIn_16 ?_
      refine z_top ?_
      refine z_is (y := by8 v 8) (bM_eq hv (by unfold sOK; omega)) ?_
      refine z_if_eq (tgt := 24) dX12_bytesIn_17 (by decide) (by omega) (fun c17 => ?_) (fun c17 => ?_)
      · skip
        refine z_iconst dX12_bytesIn_24 ?_
        refine z_iadd dX12_bytesIn_25 ?_
        refine ab_istore_n (ls' := [(1, .int (iI (((0 + 1) + 1) + 0))), (2, .int (iI 8)), (0, .int (iI v))]) dX12_bytesIn_26 rfl (by decide) rfl ?_
        refine z_iinc (k := 1) (v := 0) (ls' := [(2, .int (iI 0)), (1, .int (iI (((0 + 1) + 1) + 0))), (0, .int (iI v))]) dX12_bytesIn_27 rfl rfl (by decide) rfl ?_
        refine ab_goto (tgt := 5) dX12_bytesIn_30 (by decide) ?_
        refine ab_iload_n (k := 0) dX12_bytesIn_5 rfl rfl ?_
        refine z_if_lt (tgt := 33) dX12_bytesIn_6 (by decide) (by decide) (fun c6 => absurd c6 (by decide)) (fun _ => ?_)
        refine ab_iload_n (k := 1) dX12_bytesIn_9 rfl rfl ?_
        refine ab_iload_n (k := 2) dX12_bytesIn_10 rfl rfl ?_
        refine ab_iload_n (k := 0) dX12_bytesIn_11 rfl rfl ?_
        refine ab_ishr dX12_bytesIn_12 ?_
        refine z_top ?_
        have b14 := inR_of ((iI v) >>> ((iI 0) &&& 31))
        refine z_sipush dX12_bytesIn_13 (by decide) ?_
        refine ab_iand dX12_bytesIn_16 ?_
        refine z_top ?_
        refine z_is (y := by8 v 0) (bM_eq hv (by unfold sOK; omega)) ?_
        refine z_if_eq (tgt := 24) dX12_bytesIn_17 (by decide) (by omega) (fun c17 => ?_) (fun c17 => ?_)
        · skip
          refine z_iconst dX12_bytesIn_24 ?_
          refine z_iadd dX12_bytesIn_25 ?_
          refine ab_istore_n (ls' := [(1, .int (iI ((((0 + 1) + 1) + 0) + 0))), (2, .int (iI 0)), (0, .int (iI v))]) dX12_bytesIn_26 rfl (by decide) rfl ?_
          refine z_iinc (k := 1) (v := (-8)) (ls' := [(2, .int (iI (-8))), (1, .int (iI ((((0 + 1) + 1) + 0) + 0))), (0, .int (iI v))]) dX12_bytesIn_27 rfl rfl (by decide) rfl ?_
          refine ab_goto (tgt := 5) dX12_bytesIn_30 (by decide) ?_
          refine ab_iload_n (k := 0) dX12_bytesIn_5 rfl rfl ?_
          refine z_if_lt (tgt := 33) dX12_bytesIn_6 (by decide) (by decide) (fun _ => ?_) (fun c6 => absurd c6 (by decide))
          refine ab_iload_n (k := 1) dX12_bytesIn_33 rfl rfl ?_
          refine z_iret dX12_bytesIn_34 rfl ?_
          have e : nzb v = (((0 + 1) + 1) + 0) + 0 := by unfold nzb; (repeat' split) <;> omega
          rw [e] at K
          exact K
        · skip
          refine z_iconst dX12_bytesIn_20 ?_
          refine ab_goto (tgt := 25) dX12_bytesIn_21 (by decide) ?_
          refine z_iadd dX12_bytesIn_25 ?_
          refine ab_istore_n (ls' := [(1, .int (iI ((((0 + 1) + 1) + 0) + 1))), (2, .int (iI 0)), (0, .int (iI v))]) dX12_bytesIn_26 rfl (by decide) rfl ?_
          refine z_iinc (k := 1) (v := (-8)) (ls' := [(2, .int (iI (-8))), (1, .int (iI ((((0 + 1) + 1) + 0) + 1))), (0, .int (iI v))]) dX12_bytesIn_27 rfl rfl (by decide) rfl ?_
          refine ab_goto (tgt := 5) dX12_bytesIn_30 (by decide) ?_
          refine ab_iload_n (k := 0) dX12_bytesIn_5 rfl rfl ?_
          refine z_if_lt (tgt := 33) dX12_bytesIn_6 (by decide) (by decide) (fun _ => ?_) (fun c6 => absurd c6 (by decide))
          refine ab_iload_n (k := 1) dX12_bytesIn_33 rfl rfl ?_
          refine z_iret dX12_bytesIn_34 rfl ?_
          have e : nzb v = (((0 + 1) + 1) + 0) + 1 := by unfold nzb; (repeat' split) <;> omega
          rw [e] at K
          exact K
      · skip
        refine z_iconst dX12_bytesIn_20 ?_
        refine ab_goto (tgt := 25) dX12_bytesIn_21 (by decide) ?_
        refine z_iadd dX12_bytesIn_25 ?_
        refine ab_istore_n (ls' := [(1, .int (iI (((0 + 1) + 1) + 1))), (2, .int (iI 8)), (0, .int (iI v))]) dX12_bytesIn_26 rfl (by decide) rfl ?_
        refine z_iinc (k := 1) (v := 0) (ls' := [(2, .int (iI 0)), (1, .int (iI (((0 + 1) + 1) + 1))), (0, .int (iI v))]) dX12_bytesIn_27 rfl rfl (by decide) rfl ?_
        refine ab_goto (tgt := 5) dX12_bytesIn_30 (by decide) ?_
        refine ab_iload_n (k := 0) dX12_bytesIn_5 rfl rfl ?_
        refine z_if_lt (tgt := 33) dX12_bytesIn_6 (by decide) (by decide) (fun c6 => absurd c6 (by decide)) (fun _ => ?_)
        refine ab_iload_n (k := 1) dX12_bytesIn_9 rfl rfl ?_
        refine ab_iload_n (k := 2) dX12_bytesIn_10 rfl rfl ?_
        refine ab_iload_n (k := 0) dX12_bytesIn_11 rfl rfl ?_
        refine ab_ishr dX12_bytesIn_12 ?_
        refine z_top ?_
        have b15 := inR_of ((iI v) >>> ((iI 0) &&& 31))
        refine z_sipush dX12_bytesIn_13 (by decide) ?_
        refine ab_iand dX12_bytesIn_16 ?_
        refine z_top ?_
        refine z_is (y := by8 v 0) (bM_eq hv (by unfold sOK; omega)) ?_
        refine z_if_eq (tgt := 24) dX12_bytesIn_17 (by decide) (by omega) (fun c17 => ?_) (fun c17 => ?_)
        · skip
          refine z_iconst dX12_bytesIn_24 ?_
          refine z_iadd dX12_bytesIn_25 ?_
          refine ab_istore_n (ls' := [(1, .int (iI ((((0 + 1) + 1) + 1) + 0))), (2, .int (iI 0)), (0, .int (iI v))]) dX12_bytesIn_26 rfl (by decide) rfl ?_
          refine z_iinc (k := 1) (v := (-8)) (ls' := [(2, .int (iI (-8))), (1, .int (iI ((((0 + 1) + 1) + 1) + 0))), (0, .int (iI v))]) dX12_bytesIn_27 rfl rfl (by decide) rfl ?_
          refine ab_goto (tgt := 5) dX12_bytesIn_30 (by decide) ?_
          refine ab_iload_n (k := 0) dX12_bytesIn_5 rfl rfl ?_
          refine z_if_lt (tgt := 33) dX12_bytesIn_6 (by decide) (by decide) (fun _ => ?_) (fun c6 => absurd c6 (by decide))
          refine ab_iload_n (k := 1) dX12_bytesIn_33 rfl rfl ?_
          refine z_iret dX12_bytesIn_34 rfl ?_
          have e : nzb v = (((0 + 1) + 1) + 1) + 0 := by unfold nzb; (repeat' split) <;> omega
          rw [e] at K
          exact K
        · skip
          refine z_iconst dX12_bytesIn_20 ?_
          refine ab_goto (tgt := 25) dX12_bytesIn_21 (by decide) ?_
          refine z_iadd dX12_bytesIn_25 ?_
          refine ab_istore_n (ls' := [(1, .int (iI ((((0 + 1) + 1) + 1) + 1))), (2, .int (iI 0)), (0, .int (iI v))]) dX12_bytesIn_26 rfl (by decide) rfl ?_
          refine z_iinc (k := 1) (v := (-8)) (ls' := [(2, .int (iI (-8))), (1, .int (iI ((((0 + 1) + 1) + 1) + 1))), (0, .int (iI v))]) dX12_bytesIn_27 rfl rfl (by decide) rfl ?_
          refine ab_goto (tgt := 5) dX12_bytesIn_30 (by decide) ?_
          refine ab_iload_n (k := 0) dX12_bytesIn_5 rfl rfl ?_
          refine z_if_lt (tgt := 33) dX12_bytesIn_6 (by decide) (by decide) (fun _ => ?_) (fun c6 => absurd c6 (by decide))
          refine ab_iload_n (k := 1) dX12_bytesIn_33 rfl rfl ?_
          refine z_iret dX12_bytesIn_34 rfl ?_
          have e : nzb v = (((0 + 1) + 1) + 1) + 1 := by unfold nzb; (repeat' split) <;> omega
          rw [e] at K
          exact K
theorem c_signsIn {d : Nat} {h : ab_H} {Q : ab_Q} {v : Int} (hv : inR v) (K : Q (some (.int (iI (nzb v)))) h) : ab_X d mX10_signsIn 0 (lv_args 0 [.int (iI v)]) [] h Q := by
  show ab_X d mX10_signsIn 0 [(0, .int (iI v))] [] h Q
  have y24 := by8_b v 24
  have y16 := by8_b v 16
  have y8 := by8_b v 8
  have y0 := by8_b v 0
  refine z_iconst dX10_signsIn_0 ?_
  refine ab_istore_n (ls' := [(1, .int (iI 0)), (0, .int (iI v))]) dX10_signsIn_1 rfl (by decide) rfl ?_
  refine z_bipush dX10_signsIn_2 (by decide) ?_
  refine ab_istore_n (ls' := [(2, .int (iI 24)), (1, .int (iI 0)), (0, .int (iI v))]) dX10_signsIn_4 rfl (by decide) rfl ?_
  refine ab_iload_n (k := 0) dX10_signsIn_5 rfl rfl ?_
  refine z_if_lt (tgt := 28) dX10_signsIn_6 (by decide) (by decide) (fun c6 => absurd c6 (by decide)) (fun _ => ?_)
  refine ab_iload_n (k := 2) dX10_signsIn_9 rfl rfl ?_
  refine ab_iload_n (k := 0) dX10_signsIn_10 rfl rfl ?_
  refine ab_iushr dX10_signsIn_11 ?_
  refine z_top ?_
  have b1 := inR_of (((iI v).toUInt32 >>> ((iI 24).toUInt32 &&& Int32.toUInt32 31)).toInt32)
  refine z_sipush dX10_signsIn_12 (by decide) ?_
  refine ab_iand dX10_signsIn_15 ?_
  refine z_top ?_
  refine z_is (y := by8 v 24) (bC_eq hv (by unfold sOK; omega)) ?_
  refine z_if_eq (tgt := 22) dX10_signsIn_16 (by decide) (by omega) (fun c16 => ?_) (fun c16 => ?_)
  · skip
    refine z_iinc (k := 0) (v := 16) (ls' := [(2, .int (iI 16)), (1, .int (iI 0)), (0, .int (iI v))]) dX10_signsIn_22 rfl rfl (by decide) rfl ?_
    refine ab_goto (tgt := 5) dX10_signsIn_25 (by decide) ?_
    refine ab_iload_n (k := 0) dX10_signsIn_5 rfl rfl ?_
    refine z_if_lt (tgt := 28) dX10_signsIn_6 (by decide) (by decide) (fun c6 => absurd c6 (by decide)) (fun _ => ?_)
    refine ab_iload_n (k := 2) dX10_signsIn_9 rfl rfl ?_
    refine ab_iload_n (k := 0) dX10_signsIn_10 rfl rfl ?_
    refine ab_iushr dX10_signsIn_11 ?_
    refine z_top ?_
    have b2 := inR_of (((iI v).toUInt32 >>> ((iI 16).toUInt32 &&& Int32.toUInt32 31)).toInt32)
    refine z_sipush dX10_signsIn_12 (by decide) ?_
    refine ab_iand dX10_signsIn_15 ?_
    refine z_top ?_
    refine z_is (y := by8 v 16) (bC_eq hv (by unfold sOK; omega)) ?_
    refine z_if_eq (tgt := 22) dX10_signsIn_16 (by decide) (by omega) (fun c16 => ?_) (fun c16 => ?_)
    · skip
      refine z_iinc (k := 0) (v := 8) (ls' := [(2, .int (iI 8)), (1, .int (iI 0)), (0, .int (iI v))]) dX10_signsIn_22 rfl rfl (by decide) rfl ?_
      refine ab_goto (tgt := 5) dX10_signsIn_25 (by decide) ?_
      refine ab_iload_n (k := 0) dX10_signsIn_5 rfl rfl ?_
      refine z_if_lt (tgt := 28) dX10_signsIn_6 (by decide) (by decide) (fun c6 => absurd c6 (by decide)) (fun _ => ?_)
      refine ab_iload_n (k := 2) dX10_signsIn_9 rfl rfl ?_
      refine ab_iload_n (k := 0) dX10_signsIn_10 rfl rfl ?_
      refine ab_iushr dX10_signsIn_11 ?_
      refine z_top ?_
      have b3 := inR_of (((iI v).toUInt32 >>> ((iI 8).toUInt32 &&& Int32.toUInt32 31)).toInt32)
      refine z_sipush dX10_signsIn_12 (by decide) ?_
      refine ab_iand dX10_signsIn_15 ?_
      refine z_top ?_
      refine z_is (y := by8 v 8) (bC_eq hv (by unfold sOK; omega)) ?_
      refine z_if_eq (tgt := 22) dX10_signsIn_16 (by decide) (by omega) (fun c16 => ?_) (fun c16 => ?_)
      · skip
        refine z_iinc (k := 0) (v := 0) (ls' := [(2, .int (iI 0)), (1, .int (iI 0)), (0, .int (iI v))]) dX10_signsIn_22 rfl rfl (by decide) rfl ?_
        refine ab_goto (tgt := 5) dX10_signsIn_25 (by decide) ?_
        refine ab_iload_n (k := 0) dX10_signsIn_5 rfl rfl ?_
        refine z_if_lt (tgt := 28) dX10_signsIn_6 (by decide) (by decide) (fun c6 => absurd c6 (by decide)) (fun _ => ?_)
        refine ab_iload_n (k := 2) dX10_signsIn_9 rfl rfl ?_
        refine ab_iload_n (k := 0) dX10_signsIn_10 rfl rfl ?_
        refine ab_iushr dX10_signsIn_11 ?_
        refine z_top ?_
        have b4 := inR_of (((iI v).toUInt32 >>> ((iI 0).toUInt32 &&& Int32.toUInt32 31)).toInt32)
        refine z_sipush dX10_signsIn_12 (by decide) ?_
        refine ab_iand dX10_signsIn_15 ?_
        refine z_top ?_
        refine z_is (y := by8 v 0) (bC_eq hv (by unfold sOK; omega)) ?_
        refine z_if_eq (tgt := 22) dX10_signsIn_16 (by decide) (by omega) (fun c16 => ?_) (fun c16 => ?_)
        · skip
          refine z_iinc (k := 0) (v := (-8)) (ls' := [(2, .int (iI (-8))), (1, .int (iI 0)), (0, .int (iI v))]) dX10_signsIn_22 rfl rfl (by decide) rfl ?_
          refine ab_goto (tgt := 5) dX10_signsIn_25 (by decide) ?_
          refine ab_iload_n (k := 0) dX10_signsIn_5 rfl rfl ?_
          refine z_if_lt (tgt := 28) dX10_signsIn_6 (by decide) (by decide) (fun _ => ?_) (fun c6 => absurd c6 (by decide))
          refine ab_iload_n (k := 1) dX10_signsIn_28 rfl rfl ?_
          refine z_iret dX10_signsIn_29 rfl ?_
          have e : nzb v = 0 := by unfold nzb; (repeat' split) <;> omega
          rw [e] at K
          exact K
        · skip
          refine z_iinc (k := 1) (v := 1) (ls' := [(1, .int (iI 1)), (2, .int (iI 0)), (0, .int (iI v))]) dX10_signsIn_19 rfl rfl (by decide) rfl ?_
          refine z_iinc (k := 1) (v := (-8)) (ls' := [(2, .int (iI (-8))), (1, .int (iI 1)), (0, .int (iI v))]) dX10_signsIn_22 rfl rfl (by decide) rfl ?_
          refine ab_goto (tgt := 5) dX10_signsIn_25 (by decide) ?_
          refine ab_iload_n (k := 0) dX10_signsIn_5 rfl rfl ?_
          refine z_if_lt (tgt := 28) dX10_signsIn_6 (by decide) (by decide) (fun _ => ?_) (fun c6 => absurd c6 (by decide))
          refine ab_iload_n (k := 1) dX10_signsIn_28 rfl rfl ?_
          refine z_iret dX10_signsIn_29 rfl ?_
          have e : nzb v = 1 := by unfold nzb; (repeat' split) <;> omega
          rw [e] at K
          exact K
      · skip
        refine z_iinc (k := 1) (v := 1) (ls' := [(1, .int (iI 1)), (2, .int (iI 8)), (0, .int (iI v))]) dX10_signsIn_19 rfl rfl (by decide) rfl ?_
        refine z_iinc (k := 1) (v := 0) (ls' := [(2, .int (iI 0)), (1, .int (iI 1)), (0, .int (iI v))]) dX10_signsIn_22 rfl rfl (by decide) rfl ?_
        refine ab_goto (tgt := 5) dX10_signsIn_25 (by decide) ?_
        refine ab_iload_n (k := 0) dX10_signsIn_5 rfl rfl ?_
        refine z_if_lt (tgt := 28) dX10_signsIn_6 (by decide) (by decide) (fun c6 => absurd c6 (by decide)) (fun _ => ?_)
        refine ab_iload_n (k := 2) dX10_signsIn_9 rfl rfl ?_
        refine ab_iload_n (k := 0) dX10_signsIn_10 rfl rfl ?_
        refine ab_iushr dX10_signsIn_11 ?_
        refine z_top ?_
        have b5 := inR_of (((iI v).toUInt32 >>> ((iI 0).toUInt32 &&& Int32.toUInt32 31)).toInt32)
        refine z_sipush dX10_signsIn_12 (by decide) ?_
        refine ab_iand dX10_signsIn_15 ?_
        refine z_top ?_
        refine z_is (y := by8 v 0) (bC_eq hv (by unfold sOK; omega)) ?_
        refine z_if_eq (tgt := 22) dX10_signsIn_16 (by decide) (by omega) (fun c16 => ?_) (fun c16 => ?_)
        · skip
          refine z_iinc (k := 0) (v := (-8)) (ls' := [(2, .int (iI (-8))), (1, .int (iI 1)), (0, .int (iI v))]) dX10_signsIn_22 rfl rfl (by decide) rfl ?_
          refine ab_goto (tgt := 5) dX10_signsIn_25 (by decide) ?_
          refine ab_iload_n (k := 0) dX10_signsIn_5 rfl rfl ?_
          refine z_if_lt (tgt := 28) dX10_signsIn_6 (by decide) (by decide) (fun _ => ?_) (fun c6 => absurd c6 (by decide))
          refine ab_iload_n (k := 1) dX10_signsIn_28 rfl rfl ?_
          refine z_iret dX10_signsIn_29 rfl ?_
          have e : nzb v = 1 := by unfold nzb; (repeat' split) <;> omega
          rw [e] at K
          exact K
        · skip
          refine z_iinc (k := 1) (v := 2) (ls' := [(1, .int (iI 2)), (2, .int (iI 0)), (0, .int (iI v))]) dX10_signsIn_19 rfl rfl (by decide) rfl ?_
          refine z_iinc (k := 1) (v := (-8)) (ls' := [(2, .int (iI (-8))), (1, .int (iI 2)), (0, .int (iI v))]) dX10_signsIn_22 rfl rfl (by decide) rfl ?_
          refine ab_goto (tgt := 5) dX10_signsIn_25 (by decide) ?_
          refine ab_iload_n (k := 0) dX10_signsIn_5 rfl rfl ?_
          refine z_if_lt (tgt := 28) dX10_signsIn_6 (by decide) (by decide) (fun _ => ?_) (fun c6 => absurd c6 (by decide))
          refine ab_iload_n (k := 1) dX10_signsIn_28 rfl rfl ?_
          refine z_iret dX10_signsIn_29 rfl ?_
          have e : nzb v = 2 := by unfold nzb; (repeat' split) <;> omega
          rw [e] at K
          exact K
    · skip
      refine z_iinc (k := 1) (v := 1) (ls' := [(1, .int (iI 1)), (2, .int (iI 16)), (0, .int (iI v))]) dX10_signsIn_19 rfl rfl (by decide) rfl ?_
      refine z_iinc (k := 1) (v := 8) (ls' := [(2, .int (iI 8)), (1, .int (iI 1)), (0, .int (iI v))]) dX10_signsIn_22 rfl rfl (by decide) rfl ?_
      refine ab_goto (tgt := 5) dX10_signsIn_25 (by decide) ?_
      refine ab_iload_n (k := 0) dX10_signsIn_5 rfl rfl ?_
      refine z_if_lt (tgt := 28) dX10_signsIn_6 (by decide) (by decide) (fun c6 => absurd c6 (by decide)) (fun _ => ?_)
      refine ab_iload_n (k := 2) dX10_signsIn_9 rfl rfl ?_
      refine ab_iload_n (k := 0) dX10_signsIn_10 rfl rfl ?_
      refine ab_iushr dX10_signsIn_11 ?_
      refine z_top ?_
      have b6 := inR_of (((iI v).toUInt32 >>> ((iI 8).toUInt32 &&& Int32.toUInt32 31)).toInt32)
      refine z_sipush dX10_signsIn_12 (by decide) ?_
      refine ab_iand dX10_signsIn_15 ?_
      refine z_top ?_
      refine z_is (y := by8 v 8) (bC_eq hv (by unfold sOK; omega)) ?_
      refine z_if_eq (tgt := 22) dX10_signsIn_16 (by decide) (by omega) (fun c16 => ?_) (fun c16 => ?_)
      · skip
        refine z_iinc (k := 0) (v := 0) (ls' := [(2, .int (iI 0)), (1, .int (iI 1)), (0, .int (iI v))]) dX10_signsIn_22 rfl rfl (by decide) rfl ?_
        refine ab_goto (tgt := 5) dX10_signsIn_25 (by decide) ?_
        refine ab_iload_n (k := 0) dX10_signsIn_5 rfl rfl ?_
        refine z_if_lt (tgt := 28) dX10_signsIn_6 (by decide) (by decide) (fun c6 => absurd c6 (by decide)) (fun _ => ?_)
        refine ab_iload_n (k := 2) dX10_signsIn_9 rfl rfl ?_
        refine ab_iload_n (k := 0) dX10_signsIn_10 rfl rfl ?_
        refine ab_iushr dX10_signsIn_11 ?_
        refine z_top ?_
        have b7 := inR_of (((iI v).toUInt32 >>> ((iI 0).toUInt32 &&& Int32.toUInt32 31)).toInt32)
        refine z_sipush dX10_signsIn_12 (by decide) ?_
        refine ab_iand dX10_signsIn_15 ?_
        refine z_top ?_
        refine z_is (y := by8 v 0) (bC_eq hv (by unfold sOK; omega)) ?_
        refine z_if_eq (tgt := 22) dX10_signsIn_16 (by decide) (by omega) (fun c16 => ?_) (fun c16 => ?_)
        · skip
          refine z_iinc (k := 0) (v := (-8)) (ls' := [(2, .int (iI (-8))), (1, .int (iI 1)), (0, .int (iI v))]) dX10_signsIn_22 rfl rfl (by decide) rfl ?_
          refine ab_goto (tgt := 5) dX10_signsIn_25 (by decide) ?_
          refine ab_iload_n (k := 0) dX10_signsIn_5 rfl rfl ?_
          refine z_if_lt (tgt := 28) dX10_signsIn_6 (by decide) (by decide) (fun _ => ?_) (fun c6 => absurd c6 (by decide))
          refine ab_iload_n (k := 1) dX10_signsIn_28 rfl rfl ?_
          refine z_iret dX10_signsIn_29 rfl ?_
          have e : nzb v = 1 := by unfold nzb; (repeat' split) <;> omega
          rw [e] at K
          exact K
        · skip
          refine z_iinc (k := 1) (v := 2) (ls' := [(1, .int (iI 2)), (2, .int (iI 0)), (0, .int (iI v))]) dX10_signsIn_19 rfl rfl (by decide) rfl ?_
          refine z_iinc (k := 1) (v := (-8)) (ls' := [(2, .int (iI (-8))), (1, .int (iI 2)), (0, .int (iI v))]) dX10_signsIn_22 rfl rfl (by decide) rfl ?_
          refine ab_goto (tgt := 5) dX10_signsIn_25 (by decide) ?_
          refine ab_iload_n (k := 0) dX10_signsIn_5 rfl rfl ?_
          refine z_if_lt (tgt := 28) dX10_signsIn_6 (by decide) (by decide) (fun _ => ?_) (fun c6 => absurd c6 (by decide))
          refine ab_iload_n (k := 1) dX10_signsIn_28 rfl rfl ?_
          refine z_iret dX10_signsIn_29 rfl ?_
          have e : nzb v = 2 := by unfold nzb; (repeat' split) <;> omega
          rw [e] at K
          exact K
      · skip
        refine z_iinc (k := 1) (v := 2) (ls' := [(1, .int (iI 2)), (2, .int (iI 8)), (0, .int (iI v))]) dX10_signsIn_19 rfl rfl (by decide) rfl ?_
        refine z_iinc (k := 1) (v := 0) (ls' := [(2, .int (iI 0)), (1, .int (iI 2)), (0, .int (iI v))]) dX10_signsIn_22 rfl rfl (by decide) rfl ?_
        refine ab_goto (tgt := 5) dX10_signsIn_25 (by decide) ?_
        refine ab_iload_n (k := 0) dX10_signsIn_5 rfl rfl ?_
        refine z_if_lt (tgt := 28) dX10_signsIn_6 (by decide) (by decide) (fun c6 => absurd c6 (by decide)) (fun _ => ?_)
        refine ab_iload_n (k := 2) dX10_signsIn_9 rfl rfl ?_
        refine ab_iload_n (k := 0) dX10_signsIn_10 rfl rfl ?_
        refine ab_iushr dX10_signsIn_11 ?_
        refine z_top ?_
        have b8 := inR_of (((iI v).toUInt32 >>> ((iI 0).toUInt32 &&& Int32.toUInt32 31)).toInt32)
        refine z_sipush dX10_signsIn_12 (by decide) ?_
        refine ab_iand dX10_signsIn_15 ?_
        refine z_top ?_
        refine z_is (y := by8 v 0) (bC_eq hv (by unfold sOK; omega)) ?_
        refine z_if_eq (tgt := 22) dX10_signsIn_16 (by decide) (by omega) (fun c16 => ?_) (fun c16 => ?_)
        · skip
          refine z_iinc (k := 0) (v := (-8)) (ls' := [(2, .int (iI (-8))), (1, .int (iI 2)), (0, .int (iI v))]) dX10_signsIn_22 rfl rfl (by decide) rfl ?_
          refine ab_goto (tgt := 5) dX10_signsIn_25 (by decide) ?_
          refine ab_iload_n (k := 0) dX10_signsIn_5 rfl rfl ?_
          refine z_if_lt (tgt := 28) dX10_signsIn_6 (by decide) (by decide) (fun _ => ?_) (fun c6 => absurd c6 (by decide))
          refine ab_iload_n (k := 1) dX10_signsIn_28 rfl rfl ?_
          refine z_iret dX10_signsIn_29 rfl ?_
          have e : nzb v = 2 := by unfold nzb; (repeat' split) <;> omega
          rw [e] at K
          exact K
        · skip
          refine z_iinc (k := 1) (v := 3) (ls' := [(1, .int (iI 3)), (2, .int (iI 0)), (0, .int (iI v))]) dX10_signsIn_19 rfl rfl (by decide) rfl ?_
          refine z_iinc (k := 1) (v := (-8)) (ls' := [(2, .int (iI (-8))), (1, .int (iI 3)), (0, .int (iI v))]) dX10_signsIn_22 rfl rfl (by decide) rfl ?_
          refine ab_goto (tgt := 5) dX10_signsIn_25 (by decide) ?_
          refine ab_iload_n (k := 0) dX10_signsIn_5 rfl rfl ?_
          refine z_if_lt (tgt := 28) dX10_signsIn_6 (by decide) (by decide) (fun _ => ?_) (fun c6 => absurd c6 (by decide))
          refine ab_iload_n (k := 1) dX10_signsIn_28 rfl rfl ?_
          refine z_iret dX10_signsIn_29 rfl ?_
          have e : nzb v = 3 := by unfold nzb; (repeat' split) <;> omega
          rw [e] at K
          exact K
  · skip
    refine z_iinc (k := 1) (v := 1) (ls' := [(1, .int (iI 1)), (2, .int (iI 24)), (0, .int (iI v))]) dX10_signsIn_19 rfl rfl (by decide) rfl ?_
    refine z_iinc (k := 1) (v := 16) (ls' := [(2, .int (iI 16)), (1, .int (iI 1)), (0, .int (iI v))]) dX10_signsIn_22 rfl rfl (by decide) rfl ?_
    refine ab_goto (tgt := 5) dX10_signsIn_25 (by decide) ?_
    refine ab_iload_n (k := 0) dX10_signsIn_5 rfl rfl ?_
    refine z_if_lt (tgt := 28) dX10_signsIn_6 (by decide) (by decide) (fun c6 => absurd c6 (by decide)) (fun _ => ?_)
    refine ab_iload_n (k := 2) dX10_signsIn_9 rfl rfl ?_
    refine ab_iload_n (k := 0) dX10_signsIn_10 rfl rfl ?_
    refine ab_iushr dX10_signsIn_11 ?_
    refine z_top ?_
    have b9 := inR_of (((iI v).toUInt32 >>> ((iI 16).toUInt32 &&& Int32.toUInt32 31)).toInt32)
    refine z_sipush dX10_signsIn_12 (by decide) ?_
    refine ab_iand dX10_signsIn_15 ?_
    refine z_top ?_
    refine z_is (y := by8 v 16) (bC_eq hv (by unfold sOK; omega)) ?_
    refine z_if_eq (tgt := 22) dX10_signsIn_16 (by decide) (by omega) (fun c16 => ?_) (fun c16 => ?_)
    · skip
      refine z_iinc (k := 0) (v := 8) (ls' := [(2, .int (iI 8)), (1, .int (iI 1)), (0, .int (iI v))]) dX10_signsIn_22 rfl rfl (by decide) rfl ?_
      refine ab_goto (tgt := 5) dX10_signsIn_25 (by decide) ?_
      refine ab_iload_n (k := 0) dX10_signsIn_5 rfl rfl ?_
      refine z_if_lt (tgt := 28) dX10_signsIn_6 (by decide) (by decide) (fun c6 => absurd c6 (by decide)) (fun _ => ?_)
      refine ab_iload_n (k := 2) dX10_signsIn_9 rfl rfl ?_
      refine ab_iload_n (k := 0) dX10_signsIn_10 rfl rfl ?_
      refine ab_iushr dX10_signsIn_11 ?_
      refine z_top ?_
      have b10 := inR_of (((iI v).toUInt32 >>> ((iI 8).toUInt32 &&& Int32.toUInt32 31)).toInt32)
      refine z_sipush dX10_signsIn_12 (by decide) ?_
      refine ab_iand dX10_signsIn_15 ?_
      refine z_top ?_
      refine z_is (y := by8 v 8) (bC_eq hv (by unfold sOK; omega)) ?_
      refine z_if_eq (tgt := 22) dX10_signsIn_16 (by decide) (by omega) (fun c16 => ?_) (fun c16 => ?_)
      · skip
        refine z_iinc (k := 0) (v := 0) (ls' := [(2, .int (iI 0)), (1, .int (iI 1)), (0, .int (iI v))]) dX10_signsIn_22 rfl rfl (by decide) rfl ?_
        refine ab_goto (tgt := 5) dX10_signsIn_25 (by decide) ?_
        refine ab_iload_n (k := 0) dX10_signsIn_5 rfl rfl ?_
        refine z_if_lt (tgt := 28) dX10_signsIn_6 (by decide) (by decide) (fun c6 => absurd c6 (by decide)) (fun _ => ?_)
        refine ab_iload_n (k := 2) dX10_signsIn_9 rfl rfl ?_
        refine ab_iload_n (k := 0) dX10_signsIn_10 rfl rfl ?_
        refine ab_iushr dX10_signsIn_11 ?_
        refine z_top ?_
        have b11 := inR_of (((iI v).toUInt32 >>> ((iI 0).toUInt32 &&& Int32.toUInt32 31)).toInt32)
        refine z_sipush dX10_signsIn_12 (by decide) ?_
        refine ab_iand dX10_signsIn_15 ?_
        refine z_top ?_
        refine z_is (y := by8 v 0) (bC_eq hv (by unfold sOK; omega)) ?_
        refine z_if_eq (tgt := 22) dX10_signsIn_16 (by decide) (by omega) (fun c16 => ?_) (fun c16 => ?_)
        · skip
          refine z_iinc (k := 0) (v := (-8)) (ls' := [(2, .int (iI (-8))), (1, .int (iI 1)), (0, .int (iI v))]) dX10_signsIn_22 rfl rfl (by decide) rfl ?_
          refine ab_goto (tgt := 5) dX10_signsIn_25 (by decide) ?_
          refine ab_iload_n (k := 0) dX10_signsIn_5 rfl rfl ?_
          refine z_if_lt (tgt := 28) dX10_signsIn_6 (by decide) (by decide) (fun _ => ?_) (fun c6 => absurd c6 (by decide))
          refine ab_iload_n (k := 1) dX10_signsIn_28 rfl rfl ?_
          refine z_iret dX10_signsIn_29 rfl ?_
          have e : nzb v = 1 := by unfold nzb; (repeat' split) <;> omega
          rw [e] at K
          exact K
        · skip
          refine z_iinc (k := 1) (v := 2) (ls' := [(1, .int (iI 2)), (2, .int (iI 0)), (0, .int (iI v))]) dX10_signsIn_19 rfl rfl (by decide) rfl ?_
          refine z_iinc (k := 1) (v := (-8)) (ls' := [(2, .int (iI (-8))), (1, .int (iI 2)), (0, .int (iI v))]) dX10_signsIn_22 rfl rfl (by decide) rfl ?_
          refine ab_goto (tgt := 5) dX10_signsIn_25 (by decide) ?_
          refine ab_iload_n (k := 0) dX10_signsIn_5 rfl rfl ?_
          refine z_if_lt (tgt := 28) dX10_signsIn_6 (by decide) (by decide) (fun _ => ?_) (fun c6 => absurd c6 (by decide))
          refine ab_iload_n (k := 1) dX10_signsIn_28 rfl rfl ?_
          refine z_iret dX10_signsIn_29 rfl ?_
          have e : nzb v = 2 := by unfold nzb; (repeat' split) <;> omega
          rw [e] at K
          exact K
      · skip
        refine z_iinc (k := 1) (v := 2) (ls' := [(1, .int (iI 2)), (2, .int (iI 8)), (0, .int (iI v))]) dX10_signsIn_19 rfl rfl (by decide) rfl ?_
        refine z_iinc (k := 1) (v := 0) (ls' := [(2, .int (iI 0)), (1, .int (iI 2)), (0, .int (iI v))]) dX10_signsIn_22 rfl rfl (by decide) rfl ?_
        refine ab_goto (tgt := 5) dX10_signsIn_25 (by decide) ?_
        refine ab_iload_n (k := 0) dX10_signsIn_5 rfl rfl ?_
        refine z_if_lt (tgt := 28) dX10_signsIn_6 (by decide) (by decide) (fun c6 => absurd c6 (by decide)) (fun _ => ?_)
        refine ab_iload_n (k := 2) dX10_signsIn_9 rfl rfl ?_
        refine ab_iload_n (k := 0) dX10_signsIn_10 rfl rfl ?_
        refine ab_iushr dX10_signsIn_11 ?_
        refine z_top ?_
        have b12 := inR_of (((iI v).toUInt32 >>> ((iI 0).toUInt32 &&& Int32.toUInt32 31)).toInt32)
        refine z_sipush dX10_signsIn_12 (by decide) ?_
        refine ab_iand dX10_signsIn_15 ?_
        refine z_top ?_
        refine z_is (y := by8 v 0) (bC_eq hv (by unfold sOK; omega)) ?_
        refine z_if_eq (tgt := 22) dX10_signsIn_16 (by decide) (by omega) (fun c16 => ?_) (fun c16 => ?_)
        · skip
          refine z_iinc (k := 0) (v := (-8)) (ls' := [(2, .int (iI (-8))), (1, .int (iI 2)), (0, .int (iI v))]) dX10_signsIn_22 rfl rfl (by decide) rfl ?_
          refine ab_goto (tgt := 5) dX10_signsIn_25 (by decide) ?_
          refine ab_iload_n (k := 0) dX10_signsIn_5 rfl rfl ?_
          refine z_if_lt (tgt := 28) dX10_signsIn_6 (by decide) (by decide) (fun _ => ?_) (fun c6 => absurd c6 (by decide))
          refine ab_iload_n (k := 1) dX10_signsIn_28 rfl rfl ?_
          refine z_iret dX10_signsIn_29 rfl ?_
          have e : nzb v = 2 := by unfold nzb; (repeat' split) <;> omega
          rw [e] at K
          exact K
        · skip
          refine z_iinc (k := 1) (v := 3) (ls' := [(1, .int (iI 3)), (2, .int (iI 0)), (0, .int (iI v))]) dX10_signsIn_19 rfl rfl (by decide) rfl ?_
          refine z_iinc (k := 1) (v := (-8)) (ls' := [(2, .int (iI (-8))), (1, .int (iI 3)), (0, .int (iI v))]) dX10_signsIn_22 rfl rfl (by decide) rfl ?_
          refine ab_goto (tgt := 5) dX10_signsIn_25 (by decide) ?_
          refine ab_iload_n (k := 0) dX10_signsIn_5 rfl rfl ?_
          refine z_if_lt (tgt := 28) dX10_signsIn_6 (by decide) (by decide) (fun _ => ?_) (fun c6 => absurd c6 (by decide))
          refine ab_iload_n (k := 1) dX10_signsIn_28 rfl rfl ?_
          refine z_iret dX10_signsIn_29 rfl ?_
          have e : nzb v = 3 := by unfold nzb; (repeat' split) <;> omega
          rw [e] at K
          exact K
    · skip
      refine z_iinc (k := 1) (v := 2) (ls' := [(1, .int (iI 2)), (2, .int (iI 16)), (0, .int (iI v))]) dX10_signsIn_19 rfl rfl (by decide) rfl ?_
      refine z_iinc (k := 1) (v := 8) (ls' := [(2, .int (iI 8)), (1, .int (iI 2)), (0, .int (iI v))]) dX10_signsIn_22 rfl rfl (by decide) rfl ?_
      refine ab_goto (tgt := 5) dX10_signsIn_25 (by decide) ?_
      refine ab_iload_n (k := 0) dX10_signsIn_5 rfl rfl ?_
      refine z_if_lt (tgt := 28) dX10_signsIn_6 (by decide) (by decide) (fun c6 => absurd c6 (by decide)) (fun _ => ?_)
      refine ab_iload_n (k := 2) dX10_signsIn_9 rfl rfl ?_
      refine ab_iload_n (k := 0) dX10_signsIn_10 rfl rfl ?_
      refine ab_iushr dX10_signsIn_11 ?_
      refine z_top ?_
      have b13 := inR_of (((iI v).toUInt32 >>> ((iI 8).toUInt32 &&& Int32.toUInt32 31)).toInt32)
      refine z_sipush dX10_signsIn_12 (by decide) ?_
      refine ab_iand dX10_signsIn_15 ?_
      refine z_top ?_
      refine z_is (y := by8 v 8) (bC_eq hv (by unfold sOK; omega)) ?_
      refine z_if_eq (tgt := 22) dX10_signsIn_16 (by decide) (by omega) (fun c16 => ?_) (fun c16 => ?_)
      · skip
        refine z_iinc (k := 0) (v := 0) (ls' := [(2, .int (iI 0)), (1, .int (iI 2)), (0, .int (iI v))]) dX10_signsIn_22 rfl rfl (by decide) rfl ?_
        refine ab_goto (tgt := 5) dX10_signsIn_25 (by decide) ?_
        refine ab_iload_n (k := 0) dX10_signsIn_5 rfl rfl ?_
        refine z_if_lt (tgt := 28) dX10_signsIn_6 (by decide) (by decide) (fun c6 => absurd c6 (by decide)) (fun _ => ?_)
        refine ab_iload_n (k := 2) dX10_signsIn_9 rfl rfl ?_
        refine ab_iload_n (k := 0) dX10_signsIn_10 rfl rfl ?_
        refine ab_iushr dX10_signsIn_11 ?_
        refine z_top ?_
        have b14 := inR_of (((iI v).toUInt32 >>> ((iI 0).toUInt32 &&& Int32.toUInt32 31)).toInt32)
        refine z_sipush dX10_signsIn_12 (by decide) ?_
        refine ab_iand dX10_signsIn_15 ?_
        refine z_top ?_
        refine z_is (y := by8 v 0) (bC_eq hv (by unfold sOK; omega)) ?_
        refine z_if_eq (tgt := 22) dX10_signsIn_16 (by decide) (by omega) (fun c16 => ?_) (fun c16 => ?_)
        · skip
          refine z_iinc (k := 0) (v := (-8)) (ls' := [(2, .int (iI (-8))), (1, .int (iI 2)), (0, .int (iI v))]) dX10_signsIn_22 rfl rfl (by decide) rfl ?_
          refine ab_goto (tgt := 5) dX10_signsIn_25 (by decide) ?_
          refine ab_iload_n (k := 0) dX10_signsIn_5 rfl rfl ?_
          refine z_if_lt (tgt := 28) dX10_signsIn_6 (by decide) (by decide) (fun _ => ?_) (fun c6 => absurd c6 (by decide))
          refine ab_iload_n (k := 1) dX10_signsIn_28 rfl rfl ?_
          refine z_iret dX10_signsIn_29 rfl ?_
          have e : nzb v = 2 := by unfold nzb; (repeat' split) <;> omega
          rw [e] at K
          exact K
        · skip
          refine z_iinc (k := 1) (v := 3) (ls' := [(1, .int (iI 3)), (2, .int (iI 0)), (0, .int (iI v))]) dX10_signsIn_19 rfl rfl (by decide) rfl ?_
          refine z_iinc (k := 1) (v := (-8)) (ls' := [(2, .int (iI (-8))), (1, .int (iI 3)), (0, .int (iI v))]) dX10_signsIn_22 rfl rfl (by decide) rfl ?_
          refine ab_goto (tgt := 5) dX10_signsIn_25 (by decide) ?_
          refine ab_iload_n (k := 0) dX10_signsIn_5 rfl rfl ?_
          refine z_if_lt (tgt := 28) dX10_signsIn_6 (by decide) (by decide) (fun _ => ?_) (fun c6 => absurd c6 (by decide))
          refine ab_iload_n (k := 1) dX10_signsIn_28 rfl rfl ?_
          refine z_iret dX10_signsIn_29 rfl ?_
          have e : nzb v = 3 := by unfold nzb; (repeat' split) <;> omega
          rw [e] at K
          exact K
      · skip
        refine z_iinc (k := 1) (v := 3) (ls' := [(1, .int (iI 3)), (2, .int (iI 8)), (0, .int (iI v))]) dX10_signsIn_19 rfl rfl (by decide) rfl ?_
        refine z_iinc (k := 1) (v := 0) (ls' := [(2, .int (iI 0)), (1, .int (iI 3)), (0, .int (iI v))]) dX10_signsIn_22 rfl rfl (by decide) rfl ?_
        refine ab_goto (tgt := 5) dX10_signsIn_25 (by decide) ?_
        refine ab_iload_n (k := 0) dX10_signsIn_5 rfl rfl ?_
        refine z_if_lt (tgt := 28) dX10_signsIn_6 (by decide) (by decide) (fun c6 => absurd c6 (by decide)) (fun _ => ?_)
        refine ab_iload_n (k := 2) dX10_signsIn_9 rfl rfl ?_
        refine ab_iload_n (k := 0) dX10_signsIn_10 rfl rfl ?_
        refine ab_iushr dX10_signsIn_11 ?_
        refine z_top ?_
        have b15 := inR_of (((iI v).toUInt32 >>> ((iI 0).toUInt32 &&& Int32.toUInt32 31)).toInt32)
        refine z_sipush dX10_signsIn_12 (by decide) ?_
        refine ab_iand dX10_signsIn_15 ?_
        refine z_top ?_
        refine z_is (y := by8 v 0) (bC_eq hv (by unfold sOK; omega)) ?_
        refine z_if_eq (tgt := 22) dX10_signsIn_16 (by decide) (by omega) (fun c16 => ?_) (fun c16 => ?_)
        · skip
          refine z_iinc (k := 0) (v := (-8)) (ls' := [(2, .int (iI (-8))), (1, .int (iI 3)), (0, .int (iI v))]) dX10_signsIn_22 rfl rfl (by decide) rfl ?_
          refine ab_goto (tgt := 5) dX10_signsIn_25 (by decide) ?_
          refine ab_iload_n (k := 0) dX10_signsIn_5 rfl rfl ?_
          refine z_if_lt (tgt := 28) dX10_signsIn_6 (by decide) (by decide) (fun _ => ?_) (fun c6 => absurd c6 (by decide))
          refine ab_iload_n (k := 1) dX10_signsIn_28 rfl rfl ?_
          refine z_iret dX10_signsIn_29 rfl ?_
          have e : nzb v = 3 := by unfold nzb; (repeat' split) <;> omega
          rw [e] at K
          exact K
        · skip
          refine z_iinc (k := 1) (v := 4) (ls' := [(1, .int (iI 4)), (2, .int (iI 0)), (0, .int (iI v))]) dX10_signsIn_19 rfl rfl (by decide) rfl ?_
          refine z_iinc (k := 1) (v := (-8)) (ls' := [(2, .int (iI (-8))), (1, .int (iI 4)), (0, .int (iI v))]) dX10_signsIn_22 rfl rfl (by decide) rfl ?_
          refine ab_goto (tgt := 5) dX10_signsIn_25 (by decide) ?_
          refine ab_iload_n (k := 0) dX10_signsIn_5 rfl rfl ?_
          refine z_if_lt (tgt := 28) dX10_signsIn_6 (by decide) (by decide) (fun _ => ?_) (fun c6 => absurd c6 (by decide))
          refine ab_iload_n (k := 1) dX10_signsIn_28 rfl rfl ?_
          refine z_iret dX10_signsIn_29 rfl ?_
          have e : nzb v = 4 := by unfold nzb; (repeat' split) <;> omega
          rw [e] at K
          exact K
/-- a byte comes to the model's tape, to the class's -/
def pbM (h : ab_H) (b : Int) : ab_H := if b = 0 then h else zp (zp h 201 (zv h 200 6).toNat (sby b)) 200 6 (zv h 200 6 + 1)
def pbC (h : ab_H) (b : Int) : ab_H := if b = 0 then h else zp (zp h 2 (zv h 1 1).toNat b) 1 1 (zv h 1 1 + 1)
def putM (h : ab_H) (v : Int) : ab_H := pbM (pbM (pbM (pbM h (by8 v 24)) (by8 v 16)) (by8 v 8)) (by8 v 0)
def addC (h : ab_H) (v : Int) : ab_H := pbC (pbC (pbC (pbC h (by8 v 24)) (by8 v 16)) (by8 v 8)) (by8 v 0)
def tM (h : ab_H) : Int := zv h 200 6
def tC (h : ab_H) : Int := zv h 1 1
theorem pbM_t {h : ab_H} {b : Int} (ht : 0 ≤ tM h ∧ tM h ≤ 1000) : tM (pbM h b) = tM h + (if b = 0 then 0 else 1) := by
  unfold pbM tM at *
  by_cases e : b = 0
  · rw [if_pos e, if_pos e]; omega
  · rw [if_neg e, if_neg e, zv_zp_s (by omega)]
theorem pbC_t {h : ab_H} {b : Int} (ht : 0 ≤ tC h ∧ tC h ≤ 1000) : tC (pbC h b) = tC h + (if b = 0 then 0 else 1) := by
  unfold pbC tC at *
  by_cases e : b = 0
  · rw [if_pos e, if_pos e]; omega
  · rw [if_neg e, if_neg e, zv_zp_s (by omega)]
theorem st_put {d : Nat} {h : ab_H} {Q : ab_Q} {v s : Int} (hv : inR v) (hs : sOK s) (ht : ¬ by8 v s = 0 → 0 ≤ tM h ∧ tM h < 160) (K : ab_X d mX12_put 3 [(0, .ref 200), (1, .int (iI v)), (2, .int (iI (s - 8)))] [] (pbM h (by8 v s)) Q) : ab_X d mX12_put 3 [(0, .ref 200), (1, .int (iI v)), (2, .int (iI s))] [] h Q := by
  have hsb : 0 ≤ s ∧ s ≤ 24 := by unfold sOK at hs; omega
  have yb := by8_b v s
  have es : s + (-8) = s - 8 := by omega
  unfold tM at ht
  refine ab_iload_n (k := 2) dX12_put_3 rfl rfl ?_
  refine z_if_lt (tgt := 49) dX12_put_4 (by decide) (by omega) (fun c4 => ?_) (fun c4 => ?_)
  · skip
    refine z_vret dX12_put_49 rfl ?_
    exact absurd c4 (by omega)
  · skip
    refine ab_iload_n (k := 1) dX12_put_7 rfl rfl ?_
    refine ab_iload_n (k := 2) dX12_put_8 rfl rfl ?_
    refine ab_ishr dX12_put_9 ?_
    refine z_top ?_
    have b1 := inR_of ((iI v) >>> ((iI s) &&& 31))
    refine z_sipush dX12_put_10 (by decide) ?_
    refine ab_iand dX12_put_13 ?_
    refine z_top ?_
    refine z_is (y := by8 v s) (bM_eq hv hs) ?_
    refine z_if_ne (tgt := 20) dX12_put_14 (by decide) (by omega) (fun c14 => ?_) (fun c14 => ?_)
    · skip
      refine ab_aload_n (k := 0) dX12_put_20 rfl rfl ?_
      refine z_getP (b := 201) dX12_put_21 fX12_9 rfl rfl rfl ?_
      refine ab_aload_n (k := 0) dX12_put_24 rfl rfl ?_
      refine z_getI dX12_put_25 fX12_124 rfl (Or.inl rfl) ?_
      have b2 := zv_R h 200 6
      refine ab_iload_n (k := 1) dX12_put_28 rfl rfl ?_
      refine ab_iload_n (k := 2) dX12_put_29 rfl rfl ?_
      refine ab_ishr dX12_put_30 ?_
      refine z_top ?_
      have b3 := inR_of ((iI v) >>> ((iI s) &&& 31))
      refine ab_i2b dX12_put_31 ?_
      refine z_top ?_
      have b4 := inR_of ((iI (((iI v) >>> ((iI s) &&& 31)).toInt)).toInt8.toInt32)
      refine z_bast (y := sby (by8 v s)) dX12_put_32 rfl (by omega) (by omega) (bB_eq hv hs) ?_
      refine ab_aload_n (k := 0) dX12_put_33 rfl rfl ?_
      refine ab_dup dX12_put_34 rfl ?_
      refine z_getI dX12_put_35 fX12_124 rfl (Or.inl rfl) ?_
      refine z_is (y := zv h 200 6) (zv_zp_a (by decide)) ?_
      have b5 := zv_R h 200 6
      refine z_iconst dX12_put_38 ?_
      refine z_iadd dX12_put_39 ?_
      refine z_putI dX12_put_40 fX12_124 rfl rfl ?_
      refine z_iinc (k := 2) (v := s + (-8)) (ls' := [(2, .int (iI (s + (-8)))), (0, .ref 200), (1, .int (iI v))]) dX12_put_43 rfl rfl (by decide) rfl ?_
      refine ab_goto (tgt := 3) dX12_put_46 (by decide) ?_
      refine ab_sub (ls' := [(0, .ref 200), (1, .int (iI v)), (2, .int (iI (s + (-8))))]) (ks := [1, 2, 0]) rfl ?_
      rw [es]
      unfold pbM at K
      rw [if_neg (by assumption)] at K
      exact K
    · skip
      refine ab_goto (tgt := 43) dX12_put_17 (by decide) ?_
      refine z_iinc (k := 2) (v := s + (-8)) (ls' := [(2, .int (iI (s + (-8)))), (0, .ref 200), (1, .int (iI v))]) dX12_put_43 rfl rfl (by decide) rfl ?_
      refine ab_goto (tgt := 3) dX12_put_46 (by decide) ?_
      refine ab_sub (ls' := [(0, .ref 200), (1, .int (iI v)), (2, .int (iI (s + (-8))))]) (ks := [1, 2, 0]) rfl ?_
      rw [es]
      unfold pbM at K
      rw [if_pos (by assumption)] at K
      exact K
theorem st_add {d : Nat} {h : ab_H} {Q : ab_Q} {v s : Int} (hv : inR v) (hs : sOK s) (ht : ¬ by8 v s = 0 → 0 ≤ tC h ∧ tC h < 160) (K : ab_X d mX10_add 3 [(0, .ref 1), (1, .int (iI v)), (2, .int (iI (s - 8)))] [] (pbC h (by8 v s)) Q) : ab_X d mX10_add 3 [(0, .ref 1), (1, .int (iI v)), (2, .int (iI s))] [] h Q := by
  have hsb : 0 ≤ s ∧ s ≤ 24 := by unfold sOK at hs; omega
  have yb := by8_b v s
  have es : s + (-8) = s - 8 := by omega
  unfold tC at ht
  refine ab_iload_n (k := 2) dX10_add_3 rfl rfl ?_
  refine z_if_lt (tgt := 55) dX10_add_4 (by decide) (by omega) (fun c4 => ?_) (fun c4 => ?_)
  · skip
    refine z_vret dX10_add_55 rfl ?_
    exact absurd c4 (by omega)
  · skip
    refine ab_iload_n (k := 1) dX10_add_7 rfl rfl ?_
    refine ab_iload_n (k := 2) dX10_add_8 rfl rfl ?_
    refine ab_iushr dX10_add_9 ?_
    refine z_top ?_
    have b1 := inR_of (((iI v).toUInt32 >>> ((iI s).toUInt32 &&& Int32.toUInt32 31)).toInt32)
    refine z_sipush dX10_add_10 (by decide) ?_
    refine ab_iand dX10_add_13 ?_
    refine z_top ?_
    refine z_is (y := by8 v s) (bC_eq hv hs) ?_
    refine ab_istore_n (ls' := [(3, .int (iI (by8 v s))), (0, .ref 1), (1, .int (iI v)), (2, .int (iI s))]) dX10_add_14 rfl (by decide) rfl ?_
    refine ab_iload_n (k := 0) dX10_add_15 rfl rfl ?_
    refine z_if_eq (tgt := 49) dX10_add_16 (by decide) (by omega) (fun c16 => ?_) (fun c16 => ?_)
    · skip
      refine z_iinc (k := 3) (v := s + (-8)) (ls' := [(2, .int (iI (s + (-8)))), (3, .int (iI (by8 v s))), (0, .ref 1), (1, .int (iI v))]) dX10_add_49 rfl rfl (by decide) rfl ?_
      refine ab_goto (tgt := 3) dX10_add_52 (by decide) ?_
      refine ab_sub (ls' := [(0, .ref 1), (1, .int (iI v)), (2, .int (iI (s + (-8))))]) (ks := [2, 3, 0]) rfl ?_
      first | (exact absurd c26 (by omega)) | (rw [es]; unfold pbC at K; rw [if_neg (by assumption)] at K; exact K) | (rw [es]; unfold pbC at K; rw [if_pos (by assumption)] at K; exact K)
    · skip
      refine ab_aload_n (k := 1) dX10_add_19 rfl rfl ?_
      refine z_getI dX10_add_20 fX10_15 rfl (Or.inl rfl) ?_
      have b2 := zv_R h 1 1
      refine z_sipush dX10_add_23 (by decide) ?_
      refine z_icmp_ge (tgt := 49) dX10_add_26 (by decide) (by omega) (by decide) (fun c26 => ?_) (fun c26 => ?_)
      · skip
        refine z_iinc (k := 3) (v := s + (-8)) (ls' := [(2, .int (iI (s + (-8)))), (3, .int (iI (by8 v s))), (0, .ref 1), (1, .int (iI v))]) dX10_add_49 rfl rfl (by decide) rfl ?_
        refine ab_goto (tgt := 3) dX10_add_52 (by decide) ?_
        refine ab_sub (ls' := [(0, .ref 1), (1, .int (iI v)), (2, .int (iI (s + (-8))))]) (ks := [2, 3, 0]) rfl ?_
        first | (exact absurd c26 (by omega)) | (rw [es]; unfold pbC at K; rw [if_neg (by assumption)] at K; exact K) | (rw [es]; unfold pbC at K; rw [if_pos (by assumption)] at K; exact K)
      · skip
        refine ab_aload_n (k := 1) dX10_add_29 rfl rfl ?_
        refine z_getP (b := 2) dX10_add_30 fX10_9 rfl rfl rfl ?_
        refine ab_aload_n (k := 1) dX10_add_33 rfl rfl ?_
        refine z_getI dX10_add_34 fX10_15 rfl (Or.inl rfl) ?_
        have b3 := zv_R h 1 1
        refine ab_iload_n (k := 0) dX10_add_37 rfl rfl ?_
        refine z_iast dX10_add_38 rfl (by omega) (by omega) ?_
        refine ab_aload_n (k := 1) dX10_add_39 rfl rfl ?_
        refine ab_dup dX10_add_40 rfl ?_
        refine z_getI dX10_add_41 fX10_15 rfl (Or.inl rfl) ?_
        refine z_is (y := zv h 1 1) (zv_zp_a (by decide)) ?_
        have b4 := zv_R h 1 1
        refine z_iconst dX10_add_44 ?_
        refine z_iadd dX10_add_45 ?_
        refine z_putI dX10_add_46 fX10_15 rfl rfl ?_
        refine z_iinc (k := 3) (v := s + (-8)) (ls' := [(2, .int (iI (s + (-8)))), (3, .int (iI (by8 v s))), (0, .ref 1), (1, .int (iI v))]) dX10_add_49 rfl rfl (by decide) rfl ?_
        refine ab_goto (tgt := 3) dX10_add_52 (by decide) ?_
        refine ab_sub (ls' := [(0, .ref 1), (1, .int (iI v)), (2, .int (iI (s + (-8))))]) (ks := [2, 3, 0]) rfl ?_
        first | (exact absurd c26 (by omega)) | (rw [es]; unfold pbC at K; rw [if_neg (by assumption)] at K; exact K) | (rw [es]; unfold pbC at K; rw [if_pos (by assumption)] at K; exact K)
theorem c_put {d : Nat} {h : ab_H} {Q : ab_Q} {v : Int} (hv : inR v) (ht : 0 ≤ tM h ∧ tM h + nzb v ≤ 160) (K : Q none (putM h v)) : ab_X d mX12_put 0 (lv_args 0 [.ref 200, .int (iI v)]) [] h Q := by
  have q1 := pbM_t (h := h) (b := by8 v 24) (by have := nzb_b v; omega)
  have q2 := pbM_t (h := pbM h (by8 v 24)) (b := by8 v 16) (by have := nzb_b v; split at q1 <;> omega)
  have q3 := pbM_t (h := pbM (pbM h (by8 v 24)) (by8 v 16)) (b := by8 v 8) (by have := nzb_b v; split at q1 <;> split at q2 <;> omega)
  unfold nzb at ht
  show ab_X d mX12_put 0 [(0, .ref 200), (1, .int (iI v))] [] h Q
  refine z_bipush dX12_put_0 (by decide) ?_
  refine ab_istore_n (ls' := [(2, .int (iI 24)), (0, .ref 200), (1, .int (iI v))]) dX12_put_2 rfl (by decide) rfl ?_
  refine ab_sub (ls' := [(0, .ref 200), (1, .int (iI v)), (2, .int (iI 24))]) (ks := [1, 2, 0]) rfl ?_
  refine st_put (s := 24) hv (Or.inr (Or.inr (Or.inr rfl))) (fun q => by rw [if_neg q] at ht; (repeat' split at ht) <;> omega) ?_
  show ab_X d mX12_put 3 [(0, .ref 200), (1, .int (iI v)), (2, .int (iI 16))] [] (pbM h (by8 v 24)) Q
  refine st_put (s := 16) hv (Or.inr (Or.inr (Or.inl rfl))) (fun q => by rw [if_neg q] at ht; (repeat' split at q1) <;> (repeat' split at ht) <;> omega) ?_
  show ab_X d mX12_put 3 [(0, .ref 200), (1, .int (iI v)), (2, .int (iI 8))] [] (pbM (pbM h (by8 v 24)) (by8 v 16)) Q
  refine st_put (s := 8) hv (Or.inr (Or.inl rfl)) (fun q => by rw [if_neg q] at ht; (repeat' split at q1) <;> (repeat' split at q2) <;> (repeat' split at ht) <;> omega) ?_
  show ab_X d mX12_put 3 [(0, .ref 200), (1, .int (iI v)), (2, .int (iI 0))] [] (pbM (pbM (pbM h (by8 v 24)) (by8 v 16)) (by8 v 8)) Q
  refine st_put (s := 0) hv (Or.inl rfl) (fun q => by rw [if_neg q] at ht; (repeat' split at q1) <;> (repeat' split at q2) <;> (repeat' split at q3) <;> (repeat' split at ht) <;> omega) ?_
  show ab_X d mX12_put 3 [(0, .ref 200), (1, .int (iI v)), (2, .int (iI (-8)))] [] (putM h v) Q
  refine ab_iload_n (k := 2) dX12_put_3 rfl rfl ?_
  refine z_if_lt (tgt := 49) dX12_put_4 (by decide) (by decide) (fun _ => ?_) (fun c4 => absurd c4 (by decide))
  refine z_vret dX12_put_49 rfl ?_
  exact K
theorem c_add {d : Nat} {h : ab_H} {Q : ab_Q} {v : Int} (hv : inR v) (ht : 0 ≤ tC h ∧ tC h + nzb v ≤ 160) (K : Q none (addC h v)) : ab_X d mX10_add 0 (lv_args 0 [.ref 1, .int (iI v)]) [] h Q := by
  have q1 := pbC_t (h := h) (b := by8 v 24) (by have := nzb_b v; omega)
  have q2 := pbC_t (h := pbC h (by8 v 24)) (b := by8 v 16) (by have := nzb_b v; split at q1 <;> omega)
  have q3 := pbC_t (h := pbC (pbC h (by8 v 24)) (by8 v 16)) (b := by8 v 8) (by have := nzb_b v; split at q1 <;> split at q2 <;> omega)
  unfold nzb at ht
  show ab_X d mX10_add 0 [(0, .ref 1), (1, .int (iI v))] [] h Q
  refine z_bipush dX10_add_0 (by decide) ?_
  refine ab_istore_n (ls' := [(2, .int (iI 24)), (0, .ref 1), (1, .int (iI v))]) dX10_add_2 rfl (by decide) rfl ?_
  refine ab_sub (ls' := [(0, .ref 1), (1, .int (iI v)), (2, .int (iI 24))]) (ks := [1, 2, 0]) rfl ?_
  refine st_add (s := 24) hv (Or.inr (Or.inr (Or.inr rfl))) (fun q => by rw [if_neg q] at ht; (repeat' split at ht) <;> omega) ?_
  show ab_X d mX10_add 3 [(0, .ref 1), (1, .int (iI v)), (2, .int (iI 16))] [] (pbC h (by8 v 24)) Q
  refine st_add (s := 16) hv (Or.inr (Or.inr (Or.inl rfl))) (fun q => by rw [if_neg q] at ht; (repeat' split at q1) <;> (repeat' split at ht) <;> omega) ?_
  show ab_X d mX10_add 3 [(0, .ref 1), (1, .int (iI v)), (2, .int (iI 8))] [] (pbC (pbC h (by8 v 24)) (by8 v 16)) Q
  refine st_add (s := 8) hv (Or.inr (Or.inl rfl)) (fun q => by rw [if_neg q] at ht; (repeat' split at q1) <;> (repeat' split at q2) <;> (repeat' split at ht) <;> omega) ?_
  show ab_X d mX10_add 3 [(0, .ref 1), (1, .int (iI v)), (2, .int (iI 0))] [] (pbC (pbC (pbC h (by8 v 24)) (by8 v 16)) (by8 v 8)) Q
  refine st_add (s := 0) hv (Or.inl rfl) (fun q => by rw [if_neg q] at ht; (repeat' split at q1) <;> (repeat' split at q2) <;> (repeat' split at q3) <;> (repeat' split at ht) <;> omega) ?_
  show ab_X d mX10_add 3 [(0, .ref 1), (1, .int (iI v)), (2, .int (iI (-8)))] [] (addC h v) Q
  refine ab_iload_n (k := 2) dX10_add_3 rfl rfl ?_
  refine z_if_lt (tgt := 55) dX10_add_4 (by decide) (by decide) (fun _ => ?_) (fun c4 => absurd c4 (by decide))
  refine z_vret dX10_add_55 rfl ?_
  exact K
