/-! STRINGS: length and charAt of the JDK, what is among a few signs -/
def schL : List (List Int) := [[108, 113, 111], [108, 119], [97, 108], [112, 108, 98, 97, 110], [121]]
def sch (j i : Nat) : Int := (schL.getD j []).getD i 0
theorem c_coder {d : Nat} {h : ab_H} {Q : ab_Q} {j : Nat} (hj : j < 5) (K : Q (some (.int 0)) h) : ab_X d mJ0_coder_7d493 0 (lv_args 0 [.ref (2000 + j)]) [] h Q := by
  show ab_X d mJ0_coder_7d493 0 [(0, .ref (2000 + j))] [] h Q
  refine ab_sgets dJ0_coder_7d493_0 fJ0_38 ?_
  refine ab_if_eq (tgt := 13) dJ0_coder_7d493_3 (by decide) (fun c => absurd c (by decide)) (fun _ => ?_)
  refine ab_aload_n (k := 0) dJ0_coder_7d493_6 rfl rfl ?_
  refine ab_sgetc dJ0_coder_7d493_7 hj fJ0_15 ?_
  refine ab_goto (tgt := 14) dJ0_coder_7d493_10 (by decide) ?_
  exact ab_tret (st := []) dJ0_coder_7d493_14 rfl (by decide) K
theorem c_isLatin1 {d : Nat} {h : ab_H} {Q : ab_Q} {j : Nat} (hj : j < 5) (K : Q (some (.int 1)) h) : ab_X d mJ0_isLatin1_aae02 0 (lv_args 0 [.ref (2000 + j)]) [] h Q := by
  show ab_X d mJ0_isLatin1_aae02 0 [(0, .ref (2000 + j))] [] h Q
  refine ab_sgets dJ0_isLatin1_aae02_0 fJ0_38 ?_
  refine ab_if_eq (tgt := 17) dJ0_isLatin1_aae02_3 (by decide) (fun c => absurd c (by decide)) (fun _ => ?_)
  refine ab_aload_n (k := 0) dJ0_isLatin1_aae02_6 rfl rfl ?_
  refine ab_sgetc dJ0_isLatin1_aae02_7 hj fJ0_15 ?_
  refine ab_if_ne (tgt := 17) dJ0_isLatin1_aae02_10 (by decide) (fun c => absurd rfl c) (fun _ => ?_)
  refine ab_iconst dJ0_isLatin1_aae02_13 rfl ?_
  refine ab_goto (tgt := 18) dJ0_isLatin1_aae02_14 (by decide) ?_
  exact ab_zret (st := []) dJ0_isLatin1_aae02_18 rfl (Or.inr rfl) K
theorem c_slen {d : Nat} {h : ab_H} {Q : ab_Q} {j : Nat} (hj : j < 5) (K : Q (some (.int (iI ((ab_stl.getD j 0 : Nat) : Int)))) h) : ab_X (d + 1) mJ0_length_8abf5 0 (lv_args 0 [.ref (2000 + j)]) [] h Q := by
  show ab_X (d + 1) mJ0_length_8abf5 0 [(0, .ref (2000 + j))] [] h Q
  have e : ∀ j : Nat, j < 5 → (Int32.ofNat (ab_stl.getD j 0)) >>> ((0 : Int32) &&& 31) = iI ((ab_stl.getD j 0 : Nat) : Int) := by decide
  refine ab_aload_n (k := 0) dJ0_length_8abf5_0 rfl rfl ?_
  refine ab_sgetv dJ0_length_8abf5_1 hj fJ0_9 ?_
  refine ab_sblen dJ0_length_8abf5_4 hj rfl ?_
  refine ab_aload_n (k := 0) dJ0_length_8abf5_5 rfl rfl ?_
  refine ab_callT (As := []) (rest := [.int (Int32.ofNat (ab_stl.getD j 0))]) dJ0_length_8abf5_6 lJ0_335 hj (Nat.le_of_ble_eq_true rfl) (Nat.le_of_ble_eq_true rfl) rfl ?_
  refine c_coder hj ?_
  show ab_X (d + 1) mJ0_length_8abf5 9 [(0, .ref (2000 + j))] [.int 0, .int (Int32.ofNat (ab_stl.getD j 0))] h _
  refine ab_ishr dJ0_length_8abf5_9 ?_
  rw [e j hj]
  exact ab_iret (st := []) dJ0_length_8abf5_10 rfl K
theorem c_chk3 {d : Nat} {h : ab_H} {Q : ab_Q} {i n : Int} {v : Value} (hv : v = .null ∨ v = .ref 4000) (hi : 0 ≤ i ∧ i < n) (hn : n ≤ 100) (K : Q (some (.int (iI i))) h) : ab_X d mJ3_checkIndex_8e157 0 (lv_args 0 [.int (iI i), .int (iI n), v]) [] h Q := by
  have e : lv_args 0 [.int (iI i), .int (iI n), v] = [(0, .int (iI i)), (1, .int (iI n)), (2, v)] := rfl
  rw [e]
  refine ab_iload_n (k := 0) dJ3_checkIndex_8e157_0 rfl rfl ?_
  refine z_if_lt (tgt := 9) dJ3_checkIndex_8e157_1 (by decide) (by omega) (fun c => absurd c (by omega)) (fun _ => ?_)
  refine ab_iload_n (k := 0) dJ3_checkIndex_8e157_4 rfl rfl ?_
  refine ab_iload_n (k := 1) dJ3_checkIndex_8e157_5 rfl rfl ?_
  refine z_icmp_lt (tgt := 16) dJ3_checkIndex_8e157_6 (by decide) (by omega) (by omega) (fun _ => ?_) (fun c => absurd hi.2 c)
  refine ab_iload_n (k := 0) dJ3_checkIndex_8e157_16 rfl rfl ?_
  exact z_iret dJ3_checkIndex_8e157_17 rfl K
theorem c_chk0 {d : Nat} {h : ab_H} {Q : ab_Q} {i n : Int} (hi : 0 ≤ i ∧ i < n) (hn : n ≤ 100) (K : Q none h) : ab_X (d + 1) mJ0_checkIndex_df160 0 (lv_args 0 [.int (iI i), .int (iI n)]) [] h Q := by
  show ab_X (d + 1) mJ0_checkIndex_df160 0 [(0, .int (iI i)), (1, .int (iI n))] [] h Q
  refine ab_iload_n (k := 0) dJ0_checkIndex_df160_0 rfl rfl ?_
  refine ab_iload_n (k := 1) dJ0_checkIndex_df160_1 rfl rfl ?_
  refine ab_sfmt dJ0_checkIndex_df160_2 fJ0_1053 (fun v hv => ?_)
  refine ab_callS (As := [.int (iI i), .int (iI n), v]) (rest := []) dJ0_checkIndex_df160_5 lJ0_1059 (Nat.le_of_ble_eq_true rfl) (by rcases hv with rfl | rfl <;> exact Nat.le_of_ble_eq_true rfl) rfl ?_
  refine c_chk3 hv hi hn ?_
  show ab_X (d + 1) mJ0_checkIndex_df160 8 [(0, .int (iI i)), (1, .int (iI n))] [.int (iI i)] h _
  refine ab_pop dJ0_checkIndex_df160_8 rfl ?_
  exact z_vret dJ0_checkIndex_df160_9 rfl K
theorem c_char1 {d : Nat} {h : ab_H} {Q : ab_Q} {j i : Nat} (hj : j < 5) (hi : i < ab_stl.getD j 0) (K : Q (some (.int (iI (sch j i)))) h) : ab_X (d + 2) mJ1_charAt_3b067 0 (lv_args 0 [.ref (3000 + j), .int (iI (i : Int))]) [] h Q := by
  show ab_X (d + 2) mJ1_charAt_3b067 0 [(0, .ref (3000 + j)), (1, .int (iI (i : Int)))] [] h Q
  have hl : ∀ j : Nat, j < 5 → ab_stl.getD j 0 ≤ 5 := by decide
  have hl5 := hl j hj
  have e : ∀ j : Nat, j < 5 → ∀ i : Nat, i < 5 → i < ab_stl.getD j 0 → ((((ab_sbyt.getD j []).getD (iI (i : Int)).toNatClampNeg 0) &&& iI 255).toUInt32 % 65536).toInt32 = iI (sch j i) ∧ narrow .char (.int (iI (sch j i))) = .int (iI (sch j i)) := by decide
  have e1 := e j hj i (by omega) hi
  refine ab_iload_n (k := 1) dJ1_charAt_3b067_0 rfl rfl ?_
  refine ab_aload_n (k := 0) dJ1_charAt_3b067_1 rfl rfl ?_
  refine ab_sblen dJ1_charAt_3b067_2 hj rfl ?_
  rw [iI_nat]
  refine ab_callS (As := [.int (iI (i : Int)), .int (iI ((ab_stl.getD j 0 : Nat) : Int))]) (rest := []) dJ1_charAt_3b067_3 lJ1_9 (Nat.le_of_ble_eq_true rfl) (Nat.le_of_ble_eq_true rfl) rfl ?_
  refine c_chk0 (by omega) (by omega) ?_
  show ab_X (d + 2) mJ1_charAt_3b067 6 [(0, .ref (3000 + j)), (1, .int (iI (i : Int)))] [] h _
  refine ab_aload_n (k := 0) dJ1_charAt_3b067_6 rfl rfl ?_
  refine ab_iload_n (k := 1) dJ1_charAt_3b067_7 rfl rfl ?_
  refine ab_sbald dJ1_charAt_3b067_8 hj (iI_in (by omega) (by omega) (by omega)) ?_
  refine z_sipush dJ1_charAt_3b067_9 (by decide) ?_
  refine ab_iand dJ1_charAt_3b067_12 ?_
  refine ab_i2c dJ1_charAt_3b067_13 e1.1 ?_
  exact ab_tret (st := []) dJ1_charAt_3b067_14 rfl e1.2 K
theorem c_charAt {d : Nat} {h : ab_H} {Q : ab_Q} {j i : Nat} (hj : j < 5) (hi : i < ab_stl.getD j 0) (K : Q (some (.int (iI (sch j i)))) h) : ab_X (d + 3) mJ0_charAt_5068e 0 (lv_args 0 [.ref (2000 + j), .int (iI (i : Int))]) [] h Q := by
  show ab_X (d + 3) mJ0_charAt_5068e 0 [(0, .ref (2000 + j)), (1, .int (iI (i : Int)))] [] h Q
  have hl : ∀ j : Nat, j < 5 → ab_stl.getD j 0 ≤ 5 := by decide
  have hl5 := hl j hj
  have e : ∀ j : Nat, j < 5 → ∀ i : Nat, i < 5 → i < ab_stl.getD j 0 → narrow .char (.int (iI (sch j i))) = .int (iI (sch j i)) := by decide
  refine ab_aload_n (k := 0) dJ0_charAt_5068e_0 rfl rfl ?_
  refine ab_callT (As := []) (rest := []) dJ0_charAt_5068e_1 lJ0_492 hj (Nat.le_of_ble_eq_true rfl) (Nat.le_of_ble_eq_true rfl) rfl ?_
  refine c_isLatin1 hj ?_
  show ab_X (d + 3) mJ0_charAt_5068e 4 [(0, .ref (2000 + j)), (1, .int (iI (i : Int)))] [.int 1] h _
  refine ab_if_eq (tgt := 16) dJ0_charAt_5068e_4 (by decide) (fun c => absurd c (by decide)) (fun _ => ?_)
  refine ab_aload_n (k := 0) dJ0_charAt_5068e_7 rfl rfl ?_
  refine ab_sgetv dJ0_charAt_5068e_8 hj fJ0_9 ?_
  refine ab_iload_n (k := 1) dJ0_charAt_5068e_11 rfl rfl ?_
  refine ab_callS (As := [.ref (3000 + j), .int (iI (i : Int))]) (rest := []) dJ0_charAt_5068e_12 lJ0_495 (Nat.le_of_ble_eq_true rfl) (Nat.le_of_ble_eq_true rfl) rfl ?_
  refine c_char1 hj hi ?_
  show ab_X (d + 3) mJ0_charAt_5068e 15 [(0, .ref (2000 + j)), (1, .int (iI (i : Int)))] [.int (iI (sch j i))] h _
  exact ab_tret (st := []) dJ0_charAt_5068e_15 rfl (e j hj i (by omega) hi) K
theorem c_isAmong3 {d : Nat} {h : ab_H} {Q : ab_Q} {s : Int} (hs : inR s) (k1 : ¬ li s = -1 → Q (some (.int (iI 1))) h) (k0 : li s = -1 → Q (some (.int (iI 0))) h) : ab_X (d + 4) mX12_isAmong 0 (lv_args 0 [.ref (2000 + 3), .int (iI s)]) [] h Q := by
  show ab_X (d + 4) mX12_isAmong 0 [(0, .ref (2000 + 3)), (1, .int (iI s))] [] h Q
  refine z_iconst dX12_isAmong_0 ?_
  refine ab_istore_n (ls' := [(2, .int (iI 0)), (0, .ref (2000 + 3)), (1, .int (iI s))]) dX12_isAmong_1 rfl (by decide) rfl ?_
  refine ab_iload_n (k := 0) dX12_isAmong_2 rfl rfl ?_
  refine ab_aload_n (k := 1) dX12_isAmong_3 rfl rfl ?_
  refine ab_callT (As := []) (rest := [.int (iI 0)]) dX12_isAmong_4 lX12_114 (by decide) (Nat.le_of_ble_eq_true rfl) (Nat.le_of_ble_eq_true rfl) rfl ?_
  refine c_slen (j := 3) (by decide) ?_
  show ab_X (d + 4) mX12_isAmong 7 [(2, .int (iI 0)), (0, .ref (2000 + 3)), (1, .int (iI s))] [.int (iI 5), .int (iI 0)] h _
  refine z_icmp_ge (tgt := 27) dX12_isAmong_7 (by decide) (by decide) (by decide) (fun c7 => absurd c7 (by decide)) (fun _ => ?_)
  refine ab_aload_n (k := 1) dX12_isAmong_10 rfl rfl ?_
  refine ab_iload_n (k := 0) dX12_isAmong_11 rfl rfl ?_
  refine ab_callT (As := [.int (iI 0)]) (rest := []) dX12_isAmong_12 lX12_120 (by decide) (Nat.le_of_ble_eq_true rfl) (Nat.le_of_ble_eq_true rfl) rfl ?_
  refine c_charAt (j := 3) (i := 0) (by decide) (by decide) ?_
  show ab_X (d + 4) mX12_isAmong 15 [(2, .int (iI 0)), (0, .ref (2000 + 3)), (1, .int (iI s))] [.int (iI 112)] h _
  refine ab_iload_n (k := 2) dX12_isAmong_15 rfl rfl ?_
  refine z_icmp_ne (tgt := 21) dX12_isAmong_16 (by decide) (by decide) (by omega) (fun c16 => ?_) (fun c16 => ?_)
  · skip
    refine z_iinc (k := 0) (v := 1) (ls' := [(2, .int (iI 1)), (0, .ref (2000 + 3)), (1, .int (iI s))]) dX12_isAmong_21 rfl rfl (by decide) rfl ?_
    refine ab_goto (tgt := 2) dX12_isAmong_24 (by decide) ?_
    refine ab_iload_n (k := 0) dX12_isAmong_2 rfl rfl ?_
    refine ab_aload_n (k := 1) dX12_isAmong_3 rfl rfl ?_
    refine ab_callT (As := []) (rest := [.int (iI 1)]) dX12_isAmong_4 lX12_114 (by decide) (Nat.le_of_ble_eq_true rfl) (Nat.le_of_ble_eq_true rfl) rfl ?_
    refine c_slen (j := 3) (by decide) ?_
    show ab_X (d + 4) mX12_isAmong 7 [(2, .int (iI 1)), (0, .ref (2000 + 3)), (1, .int (iI s))] [.int (iI 5), .int (iI 1)] h _
    refine z_icmp_ge (tgt := 27) dX12_isAmong_7 (by decide) (by decide) (by decide) (fun c7 => absurd c7 (by decide)) (fun _ => ?_)
    refine ab_aload_n (k := 1) dX12_isAmong_10 rfl rfl ?_
    refine ab_iload_n (k := 0) dX12_isAmong_11 rfl rfl ?_
    refine ab_callT (As := [.int (iI 1)]) (rest := []) dX12_isAmong_12 lX12_120 (by decide) (Nat.le_of_ble_eq_true rfl) (Nat.le_of_ble_eq_true rfl) rfl ?_
    refine c_charAt (j := 3) (i := 1) (by decide) (by decide) ?_
    show ab_X (d + 4) mX12_isAmong 15 [(2, .int (iI 1)), (0, .ref (2000 + 3)), (1, .int (iI s))] [.int (iI 108)] h _
    refine ab_iload_n (k := 2) dX12_isAmong_15 rfl rfl ?_
    refine z_icmp_ne (tgt := 21) dX12_isAmong_16 (by decide) (by decide) (by omega) (fun c16 => ?_) (fun c16 => ?_)
    · skip
      refine z_iinc (k := 0) (v := 2) (ls' := [(2, .int (iI 2)), (0, .ref (2000 + 3)), (1, .int (iI s))]) dX12_isAmong_21 rfl rfl (by decide) rfl ?_
      refine ab_goto (tgt := 2) dX12_isAmong_24 (by decide) ?_
      refine ab_iload_n (k := 0) dX12_isAmong_2 rfl rfl ?_
      refine ab_aload_n (k := 1) dX12_isAmong_3 rfl rfl ?_
      refine ab_callT (As := []) (rest := [.int (iI 2)]) dX12_isAmong_4 lX12_114 (by decide) (Nat.le_of_ble_eq_true rfl) (Nat.le_of_ble_eq_true rfl) rfl ?_
      refine c_slen (j := 3) (by decide) ?_
      show ab_X (d + 4) mX12_isAmong 7 [(2, .int (iI 2)), (0, .ref (2000 + 3)), (1, .int (iI s))] [.int (iI 5), .int (iI 2)] h _
      refine z_icmp_ge (tgt := 27) dX12_isAmong_7 (by decide) (by decide) (by decide) (fun c7 => absurd c7 (by decide)) (fun _ => ?_)
      refine ab_aload_n (k := 1) dX12_isAmong_10 rfl rfl ?_
      refine ab_iload_n (k := 0) dX12_isAmong_11 rfl rfl ?_
      refine ab_callT (As := [.int (iI 2)]) (rest := []) dX12_isAmong_12 lX12_120 (by decide) (Nat.le_of_ble_eq_true rfl) (Nat.le_of_ble_eq_true rfl) rfl ?_
      refine c_charAt (j := 3) (i := 2) (by decide) (by decide) ?_
      show ab_X (d + 4) mX12_isAmong 15 [(2, .int (iI 2)), (0, .ref (2000 + 3)), (1, .int (iI s))] [.int (iI 98)] h _
      refine ab_iload_n (k := 2) dX12_isAmong_15 rfl rfl ?_
      refine z_icmp_ne (tgt := 21) dX12_isAmong_16 (by decide) (by decide) (by omega) (fun c16 => ?_) (fun c16 => ?_)
      · skip
        refine z_iinc (k := 0) (v := 3) (ls' := [(2, .int (iI 3)), (0, .ref (2000 + 3)), (1, .int (iI s))]) dX12_isAmong_21 rfl rfl (by decide) rfl ?_
        refine ab_goto (tgt := 2) dX12_isAmong_24 (by decide) ?_
        refine ab_iload_n (k := 0) dX12_isAmong_2 rfl rfl ?_
        refine ab_aload_n (k := 1) dX12_isAmong_3 rfl rfl ?_
        refine ab_callT (As := []) (rest := [.int (iI 3)]) dX12_isAmong_4 lX12_114 (by decide) (Nat.le_of_ble_eq_true rfl) (Nat.le_of_ble_eq_true rfl) rfl ?_
        refine c_slen (j := 3) (by decide) ?_
        show ab_X (d + 4) mX12_isAmong 7 [(2, .int (iI 3)), (0, .ref (2000 + 3)), (1, .int (iI s))] [.int (iI 5), .int (iI 3)] h _
        refine z_icmp_ge (tgt := 27) dX12_isAmong_7 (by decide) (by decide) (by decide) (fun c7 => absurd c7 (by decide)) (fun _ => ?_)
        refine ab_aload_n (k := 1) dX12_isAmong_10 rfl rfl ?_
        refine ab_iload_n (k := 0) dX12_isAmong_11 rfl rfl ?_
        refine ab_callT (As := [.int (iI 3)]) (rest := []) dX12_isAmong_12 lX12_120 (by decide) (Nat.le_of_ble_eq_true rfl) (Nat.le_of_ble_eq_true rfl) rfl ?_
        refine c_charAt (j := 3) (i := 3) (by decide) (by decide) ?_
        show ab_X (d + 4) mX12_isAmong 15 [(2, .int (iI 3)), (0, .ref (2000 + 3)), (1, .int (iI s))] [.int (iI 97)] h _
        refine ab_iload_n (k := 2) dX12_isAmong_15 rfl rfl ?_
        refine z_icmp_ne (tgt := 21) dX12_isAmong_16 (by decide) (by decide) (by omega) (fun c16 => ?_) (fun c16 => ?_)
        · skip
          refine z_iinc (k := 0) (v := 4) (ls' := [(2, .int (iI 4)), (0, .ref (2000 + 3)), (1, .int (iI s))]) dX12_isAmong_21 rfl rfl (by decide) rfl ?_
          refine ab_goto (tgt := 2) dX12_isAmong_24 (by decide) ?_
          refine ab_iload_n (k := 0) dX12_isAmong_2 rfl rfl ?_
          refine ab_aload_n (k := 1) dX12_isAmong_3 rfl rfl ?_
          refine ab_callT (As := []) (rest := [.int (iI 4)]) dX12_isAmong_4 lX12_114 (by decide) (Nat.le_of_ble_eq_true rfl) (Nat.le_of_ble_eq_true rfl) rfl ?_
          refine c_slen (j := 3) (by decide) ?_
          show ab_X (d + 4) mX12_isAmong 7 [(2, .int (iI 4)), (0, .ref (2000 + 3)), (1, .int (iI s))] [.int (iI 5), .int (iI 4)] h _
          refine z_icmp_ge (tgt := 27) dX12_isAmong_7 (by decide) (by decide) (by decide) (fun c7 => absurd c7 (by decide)) (fun _ => ?_)
          refine ab_aload_n (k := 1) dX12_isAmong_10 rfl rfl ?_
          refine ab_iload_n (k := 0) dX12_isAmong_11 rfl rfl ?_
          refine ab_callT (As := [.int (iI 4)]) (rest := []) dX12_isAmong_12 lX12_120 (by decide) (Nat.le_of_ble_eq_true rfl) (Nat.le_of_ble_eq_true rfl) rfl ?_
          refine c_charAt (j := 3) (i := 4) (by decide) (by decide) ?_
          show ab_X (d + 4) mX12_isAmong 15 [(2, .int (iI 4)), (0, .ref (2000 + 3)), (1, .int (iI s))] [.int (iI 110)] h _
          refine ab_iload_n (k := 2) dX12_isAmong_15 rfl rfl ?_
          refine z_icmp_ne (tgt := 21) dX12_isAmong_16 (by decide) (by decide) (by omega) (fun c16 => ?_) (fun c16 => ?_)
          · skip
            refine z_iinc (k := 0) (v := 5) (ls' := [(2, .int (iI 5)), (0, .ref (2000 + 3)), (1, .int (iI s))]) dX12_isAmong_21 rfl rfl (by decide) rfl ?_
            refine ab_goto (tgt := 2) dX12_isAmong_24 (by decide) ?_
            refine ab_iload_n (k := 0) dX12_isAmong_2 rfl rfl ?_
            refine ab_aload_n (k := 1) dX12_isAmong_3 rfl rfl ?_
            refine ab_callT (As := []) (rest := [.int (iI 5)]) dX12_isAmong_4 lX12_114 (by decide) (Nat.le_of_ble_eq_true rfl) (Nat.le_of_ble_eq_true rfl) rfl ?_
            refine c_slen (j := 3) (by decide) ?_
            show ab_X (d + 4) mX12_isAmong 7 [(2, .int (iI 5)), (0, .ref (2000 + 3)), (1, .int (iI s))] [.int (iI 5), .int (iI 5)] h _
            refine z_icmp_ge (tgt := 27) dX12_isAmong_7 (by decide) (by decide) (by decide) (fun _ => ?_) (fun c7 => absurd c7 (by decide))
            refine z_iconst dX12_isAmong_27 ?_
            refine z_zret dX12_isAmong_28 rfl (Or.inl rfl) ?_
            first | exact k1 (by unfold li; (repeat' split) <;> omega) | exact k0 (by unfold li; (repeat' split) <;> omega)
          · skip
            refine z_iconst dX12_isAmong_19 ?_
            refine z_zret dX12_isAmong_20 rfl (Or.inr rfl) ?_
            first | exact k1 (by unfold li; (repeat' split) <;> omega) | exact k0 (by unfold li; (repeat' split) <;> omega)
        · skip
          refine z_iconst dX12_isAmong_19 ?_
          refine z_zret dX12_isAmong_20 rfl (Or.inr rfl) ?_
          first | exact k1 (by unfold li; (repeat' split) <;> omega) | exact k0 (by unfold li; (repeat' split) <;> omega)
      · skip
        refine z_iconst dX12_isAmong_19 ?_
        refine z_zret dX12_isAmong_20 rfl (Or.inr rfl) ?_
        first | exact k1 (by unfold li; (repeat' split) <;> omega) | exact k0 (by unfold li; (repeat' split) <;> omega)
    · skip
      refine z_iconst dX12_isAmong_19 ?_
      refine z_zret dX12_isAmong_20 rfl (Or.inr rfl) ?_
      first | exact k1 (by unfold li; (repeat' split) <;> omega) | exact k0 (by unfold li; (repeat' split) <;> omega)
  · skip
    refine z_iconst dX12_isAmong_19 ?_
    refine z_zret dX12_isAmong_20 rfl (Or.inr rfl) ?_
    first | exact k1 (by unfold li; (repeat' split) <;> omega) | exact k0 (by unfold li; (repeat' split) <;> omega)
theorem c_isAmong4 {d : Nat} {h : ab_H} {Q : ab_Q} {s : Int} (hs : inR s) (k1 : s = 121 → Q (some (.int (iI 1))) h) (k0 : ¬ s = 121 → Q (some (.int (iI 0))) h) : ab_X (d + 4) mX12_isAmong 0 (lv_args 0 [.ref (2000 + 4), .int (iI s)]) [] h Q := by
  show ab_X (d + 4) mX12_isAmong 0 [(0, .ref (2000 + 4)), (1, .int (iI s))] [] h Q
  refine z_iconst dX12_isAmong_0 ?_
  refine ab_istore_n (ls' := [(2, .int (iI 0)), (0, .ref (2000 + 4)), (1, .int (iI s))]) dX12_isAmong_1 rfl (by decide) rfl ?_
  refine ab_iload_n (k := 0) dX12_isAmong_2 rfl rfl ?_
  refine ab_aload_n (k := 1) dX12_isAmong_3 rfl rfl ?_
  refine ab_callT (As := []) (rest := [.int (iI 0)]) dX12_isAmong_4 lX12_114 (by decide) (Nat.le_of_ble_eq_true rfl) (Nat.le_of_ble_eq_true rfl) rfl ?_
  refine c_slen (j := 4) (by decide) ?_
  show ab_X (d + 4) mX12_isAmong 7 [(2, .int (iI 0)), (0, .ref (2000 + 4)), (1, .int (iI s))] [.int (iI 1), .int (iI 0)] h _
  refine z_icmp_ge (tgt := 27) dX12_isAmong_7 (by decide) (by decide) (by decide) (fun c7 => absurd c7 (by decide)) (fun _ => ?_)
  refine ab_aload_n (k := 1) dX12_isAmong_10 rfl rfl ?_
  refine ab_iload_n (k := 0) dX12_isAmong_11 rfl rfl ?_
  refine ab_callT (As := [.int (iI 0)]) (rest := []) dX12_isAmong_12 lX12_120 (by decide) (Nat.le_of_ble_eq_true rfl) (Nat.le_of_ble_eq_true rfl) rfl ?_
  refine c_charAt (j := 4) (i := 0) (by decide) (by decide) ?_
  show ab_X (d + 4) mX12_isAmong 15 [(2, .int (iI 0)), (0, .ref (2000 + 4)), (1, .int (iI s))] [.int (iI 121)] h _
  refine ab_iload_n (k := 2) dX12_isAmong_15 rfl rfl ?_
  refine z_icmp_ne (tgt := 21) dX12_isAmong_16 (by decide) (by decide) (by omega) (fun c16 => ?_) (fun c16 => ?_)
  · skip
    refine z_iinc (k := 0) (v := 1) (ls' := [(2, .int (iI 1)), (0, .ref (2000 + 4)), (1, .int (iI s))]) dX12_isAmong_21 rfl rfl (by decide) rfl ?_
    refine ab_goto (tgt := 2) dX12_isAmong_24 (by decide) ?_
    refine ab_iload_n (k := 0) dX12_isAmong_2 rfl rfl ?_
    refine ab_aload_n (k := 1) dX12_isAmong_3 rfl rfl ?_
    refine ab_callT (As := []) (rest := [.int (iI 1)]) dX12_isAmong_4 lX12_114 (by decide) (Nat.le_of_ble_eq_true rfl) (Nat.le_of_ble_eq_true rfl) rfl ?_
    refine c_slen (j := 4) (by decide) ?_
    show ab_X (d + 4) mX12_isAmong 7 [(2, .int (iI 1)), (0, .ref (2000 + 4)), (1, .int (iI s))] [.int (iI 1), .int (iI 1)] h _
    refine z_icmp_ge (tgt := 27) dX12_isAmong_7 (by decide) (by decide) (by decide) (fun _ => ?_) (fun c7 => absurd c7 (by decide))
    refine z_iconst dX12_isAmong_27 ?_
    refine z_zret dX12_isAmong_28 rfl (Or.inl rfl) ?_
    first | exact k1 (by omega) | exact k0 (by omega)
  · skip
    refine z_iconst dX12_isAmong_19 ?_
    refine z_zret dX12_isAmong_20 rfl (Or.inr rfl) ?_
    first | exact k1 (by omega) | exact k0 (by omega)
/-- which of a clause's items a sign is -/
def pof (j : Nat) (s : Int) : Int := if s = sch j 0 then 0 else if s = sch j 1 then 1 else if j = 0 ∧ s = sch j 2 then 2 else -1
theorem pof_b (j : Nat) (s : Int) : -1 ≤ pof j s ∧ pof j s ≤ 2 := by unfold pof; (repeat' split) <;> omega
theorem c_placeOf0 {d : Nat} {h : ab_H} {Q : ab_Q} {s : Int} (hs : inR s) (K : Q (some (.int (iI (pof 0 s)))) h) : ab_X (d + 4) mX12_placeOf 0 (lv_args 0 [.ref (2000 + 0), .int (iI s)]) [] h Q := by
  show ab_X (d + 4) mX12_placeOf 0 [(0, .ref (2000 + 0)), (1, .int (iI s))] [] h Q
  have e0 : sch 0 0 = 108 := rfl
  have e1 : sch 0 1 = 113 := rfl
  have e2 : sch 0 2 = 111 := rfl
  have K2 := K
  unfold pof at K2
  rw [e0, e1, e2] at K2
  refine z_iconst dX12_placeOf_0 ?_
  refine ab_istore_n (ls' := [(2, .int (iI 0)), (0, .ref (2000 + 0)), (1, .int (iI s))]) dX12_placeOf_1 rfl (by decide) rfl ?_
  refine ab_iload_n (k := 0) dX12_placeOf_2 rfl rfl ?_
  refine ab_aload_n (k := 1) dX12_placeOf_3 rfl rfl ?_
  refine ab_callT (As := []) (rest := [.int (iI 0)]) dX12_placeOf_4 lX12_114 (by decide) (Nat.le_of_ble_eq_true rfl) (Nat.le_of_ble_eq_true rfl) rfl ?_
  refine c_slen (j := 0) (by decide) ?_
  show ab_X (d + 4) mX12_placeOf 7 [(2, .int (iI 0)), (0, .ref (2000 + 0)), (1, .int (iI s))] [.int (iI 3), .int (iI 0)] h _
  refine z_icmp_ge (tgt := 27) dX12_placeOf_7 (by decide) (by decide) (by decide) (fun c7 => absurd c7 (by decide)) (fun _ => ?_)
  refine ab_aload_n (k := 1) dX12_placeOf_10 rfl rfl ?_
  refine ab_iload_n (k := 0) dX12_placeOf_11 rfl rfl ?_
  refine ab_callT (As := [.int (iI 0)]) (rest := []) dX12_placeOf_12 lX12_120 (by decide) (Nat.le_of_ble_eq_true rfl) (Nat.le_of_ble_eq_true rfl) rfl ?_
  refine c_charAt (j := 0) (i := 0) (by decide) (by decide) ?_
  show ab_X (d + 4) mX12_placeOf 15 [(2, .int (iI 0)), (0, .ref (2000 + 0)), (1, .int (iI s))] [.int (iI 108)] h _
  refine ab_iload_n (k := 2) dX12_placeOf_15 rfl rfl ?_
  refine z_icmp_ne (tgt := 21) dX12_placeOf_16 (by decide) (by decide) (by omega) (fun c16 => ?_) (fun c16 => ?_)
  · skip
    refine z_iinc (k := 0) (v := 1) (ls' := [(2, .int (iI 1)), (0, .ref (2000 + 0)), (1, .int (iI s))]) dX12_placeOf_21 rfl rfl (by decide) rfl ?_
    refine ab_goto (tgt := 2) dX12_placeOf_24 (by decide) ?_
    refine ab_iload_n (k := 0) dX12_placeOf_2 rfl rfl ?_
    refine ab_aload_n (k := 1) dX12_placeOf_3 rfl rfl ?_
    refine ab_callT (As := []) (rest := [.int (iI 1)]) dX12_placeOf_4 lX12_114 (by decide) (Nat.le_of_ble_eq_true rfl) (Nat.le_of_ble_eq_true rfl) rfl ?_
    refine c_slen (j := 0) (by decide) ?_
    show ab_X (d + 4) mX12_placeOf 7 [(2, .int (iI 1)), (0, .ref (2000 + 0)), (1, .int (iI s))] [.int (iI 3), .int (iI 1)] h _
    refine z_icmp_ge (tgt := 27) dX12_placeOf_7 (by decide) (by decide) (by decide) (fun c7 => absurd c7 (by decide)) (fun _ => ?_)
    refine ab_aload_n (k := 1) dX12_placeOf_10 rfl rfl ?_
    refine ab_iload_n (k := 0) dX12_placeOf_11 rfl rfl ?_
    refine ab_callT (As := [.int (iI 1)]) (rest := []) dX12_placeOf_12 lX12_120 (by decide) (Nat.le_of_ble_eq_true rfl) (Nat.le_of_ble_eq_true rfl) rfl ?_
    refine c_charAt (j := 0) (i := 1) (by decide) (by decide) ?_
    show ab_X (d + 4) mX12_placeOf 15 [(2, .int (iI 1)), (0, .ref (2000 + 0)), (1, .int (iI s))] [.int (iI 113)] h _
    refine ab_iload_n (k := 2) dX12_placeOf_15 rfl rfl ?_
    refine z_icmp_ne (tgt := 21) dX12_placeOf_16 (by decide) (by decide) (by omega) (fun c16 => ?_) (fun c16 => ?_)
    · skip
      refine z_iinc (k := 0) (v := 2) (ls' := [(2, .int (iI 2)), (0, .ref (2000 + 0)), (1, .int (iI s))]) dX12_placeOf_21 rfl rfl (by decide) rfl ?_
      refine ab_goto (tgt := 2) dX12_placeOf_24 (by decide) ?_
      refine ab_iload_n (k := 0) dX12_placeOf_2 rfl rfl ?_
      refine ab_aload_n (k := 1) dX12_placeOf_3 rfl rfl ?_
      refine ab_callT (As := []) (rest := [.int (iI 2)]) dX12_placeOf_4 lX12_114 (by decide) (Nat.le_of_ble_eq_true rfl) (Nat.le_of_ble_eq_true rfl) rfl ?_
      refine c_slen (j := 0) (by decide) ?_
      show ab_X (d + 4) mX12_placeOf 7 [(2, .int (iI 2)), (0, .ref (2000 + 0)), (1, .int (iI s))] [.int (iI 3), .int (iI 2)] h _
      refine z_icmp_ge (tgt := 27) dX12_placeOf_7 (by decide) (by decide) (by decide) (fun c7 => absurd c7 (by decide)) (fun _ => ?_)
      refine ab_aload_n (k := 1) dX12_placeOf_10 rfl rfl ?_
      refine ab_iload_n (k := 0) dX12_placeOf_11 rfl rfl ?_
      refine ab_callT (As := [.int (iI 2)]) (rest := []) dX12_placeOf_12 lX12_120 (by decide) (Nat.le_of_ble_eq_true rfl) (Nat.le_of_ble_eq_true rfl) rfl ?_
      refine c_charAt (j := 0) (i := 2) (by decide) (by decide) ?_
      show ab_X (d + 4) mX12_placeOf 15 [(2, .int (iI 2)), (0, .ref (2000 + 0)), (1, .int (iI s))] [.int (iI 111)] h _
      refine ab_iload_n (k := 2) dX12_placeOf_15 rfl rfl ?_
      refine z_icmp_ne (tgt := 21) dX12_placeOf_16 (by decide) (by decide) (by omega) (fun c16 => ?_) (fun c16 => ?_)
      · skip
        refine z_iinc (k := 0) (v := 3) (ls' := [(2, .int (iI 3)), (0, .ref (2000 + 0)), (1, .int (iI s))]) dX12_placeOf_21 rfl rfl (by decide) rfl ?_
        refine ab_goto (tgt := 2) dX12_placeOf_24 (by decide) ?_
        refine ab_iload_n (k := 0) dX12_placeOf_2 rfl rfl ?_
        refine ab_aload_n (k := 1) dX12_placeOf_3 rfl rfl ?_
        refine ab_callT (As := []) (rest := [.int (iI 3)]) dX12_placeOf_4 lX12_114 (by decide) (Nat.le_of_ble_eq_true rfl) (Nat.le_of_ble_eq_true rfl) rfl ?_
        refine c_slen (j := 0) (by decide) ?_
        show ab_X (d + 4) mX12_placeOf 7 [(2, .int (iI 3)), (0, .ref (2000 + 0)), (1, .int (iI s))] [.int (iI 3), .int (iI 3)] h _
        refine z_icmp_ge (tgt := 27) dX12_placeOf_7 (by decide) (by decide) (by decide) (fun _ => ?_) (fun c7 => absurd c7 (by decide))
        refine z_iconst dX12_placeOf_27 ?_
        refine z_iret dX12_placeOf_28 rfl ?_
        revert K2
        (repeat' split) <;> intro K2 <;> first | exact K2 | (exfalso; omega)
      · skip
        refine ab_iload_n (k := 0) dX12_placeOf_19 rfl rfl ?_
        refine z_iret dX12_placeOf_20 rfl ?_
        revert K2
        (repeat' split) <;> intro K2 <;> first | exact K2 | (exfalso; omega)
    · skip
      refine ab_iload_n (k := 0) dX12_placeOf_19 rfl rfl ?_
      refine z_iret dX12_placeOf_20 rfl ?_
      revert K2
      (repeat' split) <;> intro K2 <;> first | exact K2 | (exfalso; omega)
  · skip
    refine ab_iload_n (k := 0) dX12_placeOf_19 rfl rfl ?_
    refine z_iret dX12_placeOf_20 rfl ?_
    revert K2
    (repeat' split) <;> intro K2 <;> first | exact K2 | (exfalso; omega)
theorem c_itemBy0 {d : Nat} {h : ab_H} {Q : ab_Q} {s : Int} (hs : inR s) (K : Q (some (.int (iI (pof 0 s)))) h) : ab_X (d + 4) mX3_itemBy 0 (lv_args 0 [.ref (2000 + 0), .int (iI s)]) [] h Q := by
  show ab_X (d + 4) mX3_itemBy 0 [(0, .ref (2000 + 0)), (1, .int (iI s))] [] h Q
  have e0 : sch 0 0 = 108 := rfl
  have e1 : sch 0 1 = 113 := rfl
  have e2 : sch 0 2 = 111 := rfl
  have K2 := K
  unfold pof at K2
  rw [e0, e1, e2] at K2
  refine z_iconst dX3_itemBy_0 ?_
  refine ab_istore_n (ls' := [(2, .int (iI 0)), (0, .ref (2000 + 0)), (1, .int (iI s))]) dX3_itemBy_1 rfl (by decide) rfl ?_
  refine ab_iload_n (k := 0) dX3_itemBy_2 rfl rfl ?_
  refine ab_aload_n (k := 1) dX3_itemBy_3 rfl rfl ?_
  refine ab_callT (As := []) (rest := [.int (iI 0)]) dX3_itemBy_4 lX3_122 (by decide) (Nat.le_of_ble_eq_true rfl) (Nat.le_of_ble_eq_true rfl) rfl ?_
  refine c_slen (j := 0) (by decide) ?_
  show ab_X (d + 4) mX3_itemBy 7 [(2, .int (iI 0)), (0, .ref (2000 + 0)), (1, .int (iI s))] [.int (iI 3), .int (iI 0)] h _
  refine z_icmp_ge (tgt := 32) dX3_itemBy_7 (by decide) (by decide) (by decide) (fun c7 => absurd c7 (by decide)) (fun _ => ?_)
  refine ab_iload_n (k := 0) dX3_itemBy_10 rfl rfl ?_
  refine z_iconst dX3_itemBy_11 ?_
  refine z_icmp_ge (tgt := 32) dX3_itemBy_12 (by decide) (by decide) (by decide) (fun c12 => absurd c12 (by decide)) (fun _ => ?_)
  refine ab_aload_n (k := 1) dX3_itemBy_15 rfl rfl ?_
  refine ab_iload_n (k := 0) dX3_itemBy_16 rfl rfl ?_
  refine ab_callT (As := [.int (iI 0)]) (rest := []) dX3_itemBy_17 lX3_135 (by decide) (Nat.le_of_ble_eq_true rfl) (Nat.le_of_ble_eq_true rfl) rfl ?_
  refine c_charAt (j := 0) (i := 0) (by decide) (by decide) ?_
  show ab_X (d + 4) mX3_itemBy 20 [(2, .int (iI 0)), (0, .ref (2000 + 0)), (1, .int (iI s))] [.int (iI 108)] h _
  refine ab_iload_n (k := 2) dX3_itemBy_20 rfl rfl ?_
  refine z_icmp_ne (tgt := 26) dX3_itemBy_21 (by decide) (by decide) (by omega) (fun c21 => ?_) (fun c21 => ?_)
  · skip
    refine z_iinc (k := 0) (v := 1) (ls' := [(2, .int (iI 1)), (0, .ref (2000 + 0)), (1, .int (iI s))]) dX3_itemBy_26 rfl rfl (by decide) rfl ?_
    refine ab_goto (tgt := 2) dX3_itemBy_29 (by decide) ?_
    refine ab_iload_n (k := 0) dX3_itemBy_2 rfl rfl ?_
    refine ab_aload_n (k := 1) dX3_itemBy_3 rfl rfl ?_
    refine ab_callT (As := []) (rest := [.int (iI 1)]) dX3_itemBy_4 lX3_122 (by decide) (Nat.le_of_ble_eq_true rfl) (Nat.le_of_ble_eq_true rfl) rfl ?_
    refine c_slen (j := 0) (by decide) ?_
    show ab_X (d + 4) mX3_itemBy 7 [(2, .int (iI 1)), (0, .ref (2000 + 0)), (1, .int (iI s))] [.int (iI 3), .int (iI 1)] h _
    refine z_icmp_ge (tgt := 32) dX3_itemBy_7 (by decide) (by decide) (by decide) (fun c7 => absurd c7 (by decide)) (fun _ => ?_)
    refine ab_iload_n (k := 0) dX3_itemBy_10 rfl rfl ?_
    refine z_iconst dX3_itemBy_11 ?_
    refine z_icmp_ge (tgt := 32) dX3_itemBy_12 (by decide) (by decide) (by decide) (fun c12 => absurd c12 (by decide)) (fun _ => ?_)
    refine ab_aload_n (k := 1) dX3_itemBy_15 rfl rfl ?_
    refine ab_iload_n (k := 0) dX3_itemBy_16 rfl rfl ?_
    refine ab_callT (As := [.int (iI 1)]) (rest := []) dX3_itemBy_17 lX3_135 (by decide) (Nat.le_of_ble_eq_true rfl) (Nat.le_of_ble_eq_true rfl) rfl ?_
    refine c_charAt (j := 0) (i := 1) (by decide) (by decide) ?_
    show ab_X (d + 4) mX3_itemBy 20 [(2, .int (iI 1)), (0, .ref (2000 + 0)), (1, .int (iI s))] [.int (iI 113)] h _
    refine ab_iload_n (k := 2) dX3_itemBy_20 rfl rfl ?_
    refine z_icmp_ne (tgt := 26) dX3_itemBy_21 (by decide) (by decide) (by omega) (fun c21 => ?_) (fun c21 => ?_)
    · skip
      refine z_iinc (k := 0) (v := 2) (ls' := [(2, .int (iI 2)), (0, .ref (2000 + 0)), (1, .int (iI s))]) dX3_itemBy_26 rfl rfl (by decide) rfl ?_
      refine ab_goto (tgt := 2) dX3_itemBy_29 (by decide) ?_
      refine ab_iload_n (k := 0) dX3_itemBy_2 rfl rfl ?_
      refine ab_aload_n (k := 1) dX3_itemBy_3 rfl rfl ?_
      refine ab_callT (As := []) (rest := [.int (iI 2)]) dX3_itemBy_4 lX3_122 (by decide) (Nat.le_of_ble_eq_true rfl) (Nat.le_of_ble_eq_true rfl) rfl ?_
      refine c_slen (j := 0) (by decide) ?_
      show ab_X (d + 4) mX3_itemBy 7 [(2, .int (iI 2)), (0, .ref (2000 + 0)), (1, .int (iI s))] [.int (iI 3), .int (iI 2)] h _
      refine z_icmp_ge (tgt := 32) dX3_itemBy_7 (by decide) (by decide) (by decide) (fun c7 => absurd c7 (by decide)) (fun _ => ?_)
      refine ab_iload_n (k := 0) dX3_itemBy_10 rfl rfl ?_
      refine z_iconst dX3_itemBy_11 ?_
      refine z_icmp_ge (tgt := 32) dX3_itemBy_12 (by decide) (by decide) (by decide) (fun c12 => absurd c12 (by decide)) (fun _ => ?_)
      refine ab_aload_n (k := 1) dX3_itemBy_15 rfl rfl ?_
      refine ab_iload_n (k := 0) dX3_itemBy_16 rfl rfl ?_
      refine ab_callT (As := [.int (iI 2)]) (rest := []) dX3_itemBy_17 lX3_135 (by decide) (Nat.le_of_ble_eq_true rfl) (Nat.le_of_ble_eq_true rfl) rfl ?_
      refine c_charAt (j := 0) (i := 2) (by decide) (by decide) ?_
      show ab_X (d + 4) mX3_itemBy 20 [(2, .int (iI 2)), (0, .ref (2000 + 0)), (1, .int (iI s))] [.int (iI 111)] h _
      refine ab_iload_n (k := 2) dX3_itemBy_20 rfl rfl ?_
      refine z_icmp_ne (tgt := 26) dX3_itemBy_21 (by decide) (by decide) (by omega) (fun c21 => ?_) (fun c21 => ?_)
      · skip
        refine z_iinc (k := 0) (v := 3) (ls' := [(2, .int (iI 3)), (0, .ref (2000 + 0)), (1, .int (iI s))]) dX3_itemBy_26 rfl rfl (by decide) rfl ?_
        refine ab_goto (tgt := 2) dX3_itemBy_29 (by decide) ?_
        refine ab_iload_n (k := 0) dX3_itemBy_2 rfl rfl ?_
        refine ab_aload_n (k := 1) dX3_itemBy_3 rfl rfl ?_
        refine ab_callT (As := []) (rest := [.int (iI 3)]) dX3_itemBy_4 lX3_122 (by decide) (Nat.le_of_ble_eq_true rfl) (Nat.le_of_ble_eq_true rfl) rfl ?_
        refine c_slen (j := 0) (by decide) ?_
        show ab_X (d + 4) mX3_itemBy 7 [(2, .int (iI 3)), (0, .ref (2000 + 0)), (1, .int (iI s))] [.int (iI 3), .int (iI 3)] h _
        refine z_icmp_ge (tgt := 32) dX3_itemBy_7 (by decide) (by decide) (by decide) (fun _ => ?_) (fun c7 => absurd c7 (by decide))
        refine z_iconst dX3_itemBy_32 ?_
        refine z_iret dX3_itemBy_33 rfl ?_
        revert K2
        (repeat' split) <;> intro K2 <;> first | exact K2 | (exfalso; omega)
      · skip
        refine ab_iload_n (k := 0) dX3_itemBy_24 rfl rfl ?_
        refine z_iret dX3_itemBy_25 rfl ?_
        revert K2
        (repeat' split) <;> intro K2 <;> first | exact K2 | (exfalso; omega)
    · skip
      refine ab_iload_n (k := 0) dX3_itemBy_24 rfl rfl ?_
      refine z_iret dX3_itemBy_25 rfl ?_
      revert K2
      (repeat' split) <;> intro K2 <;> first | exact K2 | (exfalso; omega)
  · skip
    refine ab_iload_n (k := 0) dX3_itemBy_24 rfl rfl ?_
    refine z_iret dX3_itemBy_25 rfl ?_
    revert K2
    (repeat' split) <;> intro K2 <;> first | exact K2 | (exfalso; omega)
theorem c_placeOf1 {d : Nat} {h : ab_H} {Q : ab_Q} {s : Int} (hs : inR s) (K : Q (some (.int (iI (pof 1 s)))) h) : ab_X (d + 4) mX12_placeOf 0 (lv_args 0 [.ref (2000 + 1), .int (iI s)]) [] h Q := by
  show ab_X (d + 4) mX12_placeOf 0 [(0, .ref (2000 + 1)), (1, .int (iI s))] [] h Q
  have e0 : sch 1 0 = 108 := rfl
  have e1 : sch 1 1 = 119 := rfl
  have K2 := K
  unfold pof at K2
  rw [e0, e1] at K2
  refine z_iconst dX12_placeOf_0 ?_
  refine ab_istore_n (ls' := [(2, .int (iI 0)), (0, .ref (2000 + 1)), (1, .int (iI s))]) dX12_placeOf_1 rfl (by decide) rfl ?_
  refine ab_iload_n (k := 0) dX12_placeOf_2 rfl rfl ?_
  refine ab_aload_n (k := 1) dX12_placeOf_3 rfl rfl ?_
  refine ab_callT (As := []) (rest := [.int (iI 0)]) dX12_placeOf_4 lX12_114 (by decide) (Nat.le_of_ble_eq_true rfl) (Nat.le_of_ble_eq_true rfl) rfl ?_
  refine c_slen (j := 1) (by decide) ?_
  show ab_X (d + 4) mX12_placeOf 7 [(2, .int (iI 0)), (0, .ref (2000 + 1)), (1, .int (iI s))] [.int (iI 2), .int (iI 0)] h _
  refine z_icmp_ge (tgt := 27) dX12_placeOf_7 (by decide) (by decide) (by decide) (fun c7 => absurd c7 (by decide)) (fun _ => ?_)
  refine ab_aload_n (k := 1) dX12_placeOf_10 rfl rfl ?_
  refine ab_iload_n (k := 0) dX12_placeOf_11 rfl rfl ?_
  refine ab_callT (As := [.int (iI 0)]) (rest := []) dX12_placeOf_12 lX12_120 (by decide) (Nat.le_of_ble_eq_true rfl) (Nat.le_of_ble_eq_true rfl) rfl ?_
  refine c_charAt (j := 1) (i := 0) (by decide) (by decide) ?_
  show ab_X (d + 4) mX12_placeOf 15 [(2, .int (iI 0)), (0, .ref (2000 + 1)), (1, .int (iI s))] [.int (iI 108)] h _
  refine ab_iload_n (k := 2) dX12_placeOf_15 rfl rfl ?_
  refine z_icmp_ne (tgt := 21) dX12_placeOf_16 (by decide) (by decide) (by omega) (fun c16 => ?_) (fun c16 => ?_)
  · skip
    refine z_iinc (k := 0) (v := 1) (ls' := [(2, .int (iI 1)), (0, .ref (2000 + 1)), (1, .int (iI s))]) dX12_placeOf_21 rfl rfl (by decide) rfl ?_
    refine ab_goto (tgt := 2) dX12_placeOf_24 (by decide) ?_
    refine ab_iload_n (k := 0) dX12_placeOf_2 rfl rfl ?_
    refine ab_aload_n (k := 1) dX12_placeOf_3 rfl rfl ?_
    refine ab_callT (As := []) (rest := [.int (iI 1)]) dX12_placeOf_4 lX12_114 (by decide) (Nat.le_of_ble_eq_true rfl) (Nat.le_of_ble_eq_true rfl) rfl ?_
    refine c_slen (j := 1) (by decide) ?_
    show ab_X (d + 4) mX12_placeOf 7 [(2, .int (iI 1)), (0, .ref (2000 + 1)), (1, .int (iI s))] [.int (iI 2), .int (iI 1)] h _
    refine z_icmp_ge (tgt := 27) dX12_placeOf_7 (by decide) (by decide) (by decide) (fun c7 => absurd c7 (by decide)) (fun _ => ?_)
    refine ab_aload_n (k := 1) dX12_placeOf_10 rfl rfl ?_
    refine ab_iload_n (k := 0) dX12_placeOf_11 rfl rfl ?_
    refine ab_callT (As := [.int (iI 1)]) (rest := []) dX12_placeOf_12 lX12_120 (by decide) (Nat.le_of_ble_eq_true rfl) (Nat.le_of_ble_eq_true rfl) rfl ?_
    refine c_charAt (j := 1) (i := 1) (by decide) (by decide) ?_
    show ab_X (d + 4) mX12_placeOf 15 [(2, .int (iI 1)), (0, .ref (2000 + 1)), (1, .int (iI s))] [.int (iI 119)] h _
    refine ab_iload_n (k := 2) dX12_placeOf_15 rfl rfl ?_
    refine z_icmp_ne (tgt := 21) dX12_placeOf_16 (by decide) (by decide) (by omega) (fun c16 => ?_) (fun c16 => ?_)
    · skip
      refine z_iinc (k := 0) (v := 2) (ls' := [(2, .int (iI 2)), (0, .ref (2000 + 1)), (1, .int (iI s))]) dX12_placeOf_21 rfl rfl (by decide) rfl ?_
      refine ab_goto (tgt := 2) dX12_placeOf_24 (by decide) ?_
      refine ab_iload_n (k := 0) dX12_placeOf_2 rfl rfl ?_
      refine ab_aload_n (k := 1) dX12_placeOf_3 rfl rfl ?_
      refine ab_callT (As := []) (rest := [.int (iI 2)]) dX12_placeOf_4 lX12_114 (by decide) (Nat.le_of_ble_eq_true rfl) (Nat.le_of_ble_eq_true rfl) rfl ?_
      refine c_slen (j := 1) (by decide) ?_
      show ab_X (d + 4) mX12_placeOf 7 [(2, .int (iI 2)), (0, .ref (2000 + 1)), (1, .int (iI s))] [.int (iI 2), .int (iI 2)] h _
      refine z_icmp_ge (tgt := 27) dX12_placeOf_7 (by decide) (by decide) (by decide) (fun _ => ?_) (fun c7 => absurd c7 (by decide))
      refine z_iconst dX12_placeOf_27 ?_
      refine z_iret dX12_placeOf_28 rfl ?_
      revert K2
      (repeat' split) <;> intro K2 <;> first | exact K2 | (exfalso; omega)
    · skip
      refine ab_iload_n (k := 0) dX12_placeOf_19 rfl rfl ?_
      refine z_iret dX12_placeOf_20 rfl ?_
      revert K2
      (repeat' split) <;> intro K2 <;> first | exact K2 | (exfalso; omega)
  · skip
    refine ab_iload_n (k := 0) dX12_placeOf_19 rfl rfl ?_
    refine z_iret dX12_placeOf_20 rfl ?_
    revert K2
    (repeat' split) <;> intro K2 <;> first | exact K2 | (exfalso; omega)
theorem c_itemBy1 {d : Nat} {h : ab_H} {Q : ab_Q} {s : Int} (hs : inR s) (K : Q (some (.int (iI (pof 1 s)))) h) : ab_X (d + 4) mX3_itemBy 0 (lv_args 0 [.ref (2000 + 1), .int (iI s)]) [] h Q := by
  show ab_X (d + 4) mX3_itemBy 0 [(0, .ref (2000 + 1)), (1, .int (iI s))] [] h Q
  have e0 : sch 1 0 = 108 := rfl
  have e1 : sch 1 1 = 119 := rfl
  have K2 := K
  unfold pof at K2
  rw [e0, e1] at K2
  refine z_iconst dX3_itemBy_0 ?_
  refine ab_istore_n (ls' := [(2, .int (iI 0)), (0, .ref (2000 + 1)), (1, .int (iI s))]) dX3_itemBy_1 rfl (by decide) rfl ?_
  refine ab_iload_n (k := 0) dX3_itemBy_2 rfl rfl ?_
  refine ab_aload_n (k := 1) dX3_itemBy_3 rfl rfl ?_
  refine ab_callT (As := []) (rest := [.int (iI 0)]) dX3_itemBy_4 lX3_122 (by decide) (Nat.le_of_ble_eq_true rfl) (Nat.le_of_ble_eq_true rfl) rfl ?_
  refine c_slen (j := 1) (by decide) ?_
  show ab_X (d + 4) mX3_itemBy 7 [(2, .int (iI 0)), (0, .ref (2000 + 1)), (1, .int (iI s))] [.int (iI 2), .int (iI 0)] h _
  refine z_icmp_ge (tgt := 32) dX3_itemBy_7 (by decide) (by decide) (by decide) (fun c7 => absurd c7 (by decide)) (fun _ => ?_)
  refine ab_iload_n (k := 0) dX3_itemBy_10 rfl rfl ?_
  refine z_iconst dX3_itemBy_11 ?_
  refine z_icmp_ge (tgt := 32) dX3_itemBy_12 (by decide) (by decide) (by decide) (fun c12 => absurd c12 (by decide)) (fun _ => ?_)
  refine ab_aload_n (k := 1) dX3_itemBy_15 rfl rfl ?_
  refine ab_iload_n (k := 0) dX3_itemBy_16 rfl rfl ?_
  refine ab_callT (As := [.int (iI 0)]) (rest := []) dX3_itemBy_17 lX3_135 (by decide) (Nat.le_of_ble_eq_true rfl) (Nat.le_of_ble_eq_true rfl) rfl ?_
  refine c_charAt (j := 1) (i := 0) (by decide) (by decide) ?_
  show ab_X (d + 4) mX3_itemBy 20 [(2, .int (iI 0)), (0, .ref (2000 + 1)), (1, .int (iI s))] [.int (iI 108)] h _
  refine ab_iload_n (k := 2) dX3_itemBy_20 rfl rfl ?_
  refine z_icmp_ne (tgt := 26) dX3_itemBy_21 (by decide) (by decide) (by omega) (fun c21 => ?_) (fun c21 => ?_)
  · skip
    refine z_iinc (k := 0) (v := 1) (ls' := [(2, .int (iI 1)), (0, .ref (2000 + 1)), (1, .int (iI s))]) dX3_itemBy_26 rfl rfl (by decide) rfl ?_
    refine ab_goto (tgt := 2) dX3_itemBy_29 (by decide) ?_
    refine ab_iload_n (k := 0) dX3_itemBy_2 rfl rfl ?_
    refine ab_aload_n (k := 1) dX3_itemBy_3 rfl rfl ?_
    refine ab_callT (As := []) (rest := [.int (iI 1)]) dX3_itemBy_4 lX3_122 (by decide) (Nat.le_of_ble_eq_true rfl) (Nat.le_of_ble_eq_true rfl) rfl ?_
    refine c_slen (j := 1) (by decide) ?_
    show ab_X (d + 4) mX3_itemBy 7 [(2, .int (iI 1)), (0, .ref (2000 + 1)), (1, .int (iI s))] [.int (iI 2), .int (iI 1)] h _
    refine z_icmp_ge (tgt := 32) dX3_itemBy_7 (by decide) (by decide) (by decide) (fun c7 => absurd c7 (by decide)) (fun _ => ?_)
    refine ab_iload_n (k := 0) dX3_itemBy_10 rfl rfl ?_
    refine z_iconst dX3_itemBy_11 ?_
    refine z_icmp_ge (tgt := 32) dX3_itemBy_12 (by decide) (by decide) (by decide) (fun c12 => absurd c12 (by decide)) (fun _ => ?_)
    refine ab_aload_n (k := 1) dX3_itemBy_15 rfl rfl ?_
    refine ab_iload_n (k := 0) dX3_itemBy_16 rfl rfl ?_
    refine ab_callT (As := [.int (iI 1)]) (rest := []) dX3_itemBy_17 lX3_135 (by decide) (Nat.le_of_ble_eq_true rfl) (Nat.le_of_ble_eq_true rfl) rfl ?_
    refine c_charAt (j := 1) (i := 1) (by decide) (by decide) ?_
    show ab_X (d + 4) mX3_itemBy 20 [(2, .int (iI 1)), (0, .ref (2000 + 1)), (1, .int (iI s))] [.int (iI 119)] h _
    refine ab_iload_n (k := 2) dX3_itemBy_20 rfl rfl ?_
    refine z_icmp_ne (tgt := 26) dX3_itemBy_21 (by decide) (by decide) (by omega) (fun c21 => ?_) (fun c21 => ?_)
    · skip
      refine z_iinc (k := 0) (v := 2) (ls' := [(2, .int (iI 2)), (0, .ref (2000 + 1)), (1, .int (iI s))]) dX3_itemBy_26 rfl rfl (by decide) rfl ?_
      refine ab_goto (tgt := 2) dX3_itemBy_29 (by decide) ?_
      refine ab_iload_n (k := 0) dX3_itemBy_2 rfl rfl ?_
      refine ab_aload_n (k := 1) dX3_itemBy_3 rfl rfl ?_
      refine ab_callT (As := []) (rest := [.int (iI 2)]) dX3_itemBy_4 lX3_122 (by decide) (Nat.le_of_ble_eq_true rfl) (Nat.le_of_ble_eq_true rfl) rfl ?_
      refine c_slen (j := 1) (by decide) ?_
      show ab_X (d + 4) mX3_itemBy 7 [(2, .int (iI 2)), (0, .ref (2000 + 1)), (1, .int (iI s))] [.int (iI 2), .int (iI 2)] h _
      refine z_icmp_ge (tgt := 32) dX3_itemBy_7 (by decide) (by decide) (by decide) (fun _ => ?_) (fun c7 => absurd c7 (by decide))
      refine z_iconst dX3_itemBy_32 ?_
      refine z_iret dX3_itemBy_33 rfl ?_
      revert K2
      (repeat' split) <;> intro K2 <;> first | exact K2 | (exfalso; omega)
    · skip
      refine ab_iload_n (k := 0) dX3_itemBy_24 rfl rfl ?_
      refine z_iret dX3_itemBy_25 rfl ?_
      revert K2
      (repeat' split) <;> intro K2 <;> first | exact K2 | (exfalso; omega)
  · skip
    refine ab_iload_n (k := 0) dX3_itemBy_24 rfl rfl ?_
    refine z_iret dX3_itemBy_25 rfl ?_
    revert K2
    (repeat' split) <;> intro K2 <;> first | exact K2 | (exfalso; omega)
theorem c_placeOf2 {d : Nat} {h : ab_H} {Q : ab_Q} {s : Int} (hs : inR s) (K : Q (some (.int (iI (pof 2 s)))) h) : ab_X (d + 4) mX12_placeOf 0 (lv_args 0 [.ref (2000 + 2), .int (iI s)]) [] h Q := by
  show ab_X (d + 4) mX12_placeOf 0 [(0, .ref (2000 + 2)), (1, .int (iI s))] [] h Q
  have e0 : sch 2 0 = 97 := rfl
  have e1 : sch 2 1 = 108 := rfl
  have K2 := K
  unfold pof at K2
  rw [e0, e1] at K2
  refine z_iconst dX12_placeOf_0 ?_
  refine ab_istore_n (ls' := [(2, .int (iI 0)), (0, .ref (2000 + 2)), (1, .int (iI s))]) dX12_placeOf_1 rfl (by decide) rfl ?_
  refine ab_iload_n (k := 0) dX12_placeOf_2 rfl rfl ?_
  refine ab_aload_n (k := 1) dX12_placeOf_3 rfl rfl ?_
  refine ab_callT (As := []) (rest := [.int (iI 0)]) dX12_placeOf_4 lX12_114 (by decide) (Nat.le_of_ble_eq_true rfl) (Nat.le_of_ble_eq_true rfl) rfl ?_
  refine c_slen (j := 2) (by decide) ?_
  show ab_X (d + 4) mX12_placeOf 7 [(2, .int (iI 0)), (0, .ref (2000 + 2)), (1, .int (iI s))] [.int (iI 2), .int (iI 0)] h _
  refine z_icmp_ge (tgt := 27) dX12_placeOf_7 (by decide) (by decide) (by decide) (fun c7 => absurd c7 (by decide)) (fun _ => ?_)
  refine ab_aload_n (k := 1) dX12_placeOf_10 rfl rfl ?_
  refine ab_iload_n (k := 0) dX12_placeOf_11 rfl rfl ?_
  refine ab_callT (As := [.int (iI 0)]) (rest := []) dX12_placeOf_12 lX12_120 (by decide) (Nat.le_of_ble_eq_true rfl) (Nat.le_of_ble_eq_true rfl) rfl ?_
  refine c_charAt (j := 2) (i := 0) (by decide) (by decide) ?_
  show ab_X (d + 4) mX12_placeOf 15 [(2, .int (iI 0)), (0, .ref (2000 + 2)), (1, .int (iI s))] [.int (iI 97)] h _
  refine ab_iload_n (k := 2) dX12_placeOf_15 rfl rfl ?_
  refine z_icmp_ne (tgt := 21) dX12_placeOf_16 (by decide) (by decide) (by omega) (fun c16 => ?_) (fun c16 => ?_)
  · skip
    refine z_iinc (k := 0) (v := 1) (ls' := [(2, .int (iI 1)), (0, .ref (2000 + 2)), (1, .int (iI s))]) dX12_placeOf_21 rfl rfl (by decide) rfl ?_
    refine ab_goto (tgt := 2) dX12_placeOf_24 (by decide) ?_
    refine ab_iload_n (k := 0) dX12_placeOf_2 rfl rfl ?_
    refine ab_aload_n (k := 1) dX12_placeOf_3 rfl rfl ?_
    refine ab_callT (As := []) (rest := [.int (iI 1)]) dX12_placeOf_4 lX12_114 (by decide) (Nat.le_of_ble_eq_true rfl) (Nat.le_of_ble_eq_true rfl) rfl ?_
    refine c_slen (j := 2) (by decide) ?_
    show ab_X (d + 4) mX12_placeOf 7 [(2, .int (iI 1)), (0, .ref (2000 + 2)), (1, .int (iI s))] [.int (iI 2), .int (iI 1)] h _
    refine z_icmp_ge (tgt := 27) dX12_placeOf_7 (by decide) (by decide) (by decide) (fun c7 => absurd c7 (by decide)) (fun _ => ?_)
    refine ab_aload_n (k := 1) dX12_placeOf_10 rfl rfl ?_
    refine ab_iload_n (k := 0) dX12_placeOf_11 rfl rfl ?_
    refine ab_callT (As := [.int (iI 1)]) (rest := []) dX12_placeOf_12 lX12_120 (by decide) (Nat.le_of_ble_eq_true rfl) (Nat.le_of_ble_eq_true rfl) rfl ?_
    refine c_charAt (j := 2) (i := 1) (by decide) (by decide) ?_
    show ab_X (d + 4) mX12_placeOf 15 [(2, .int (iI 1)), (0, .ref (2000 + 2)), (1, .int (iI s))] [.int (iI 108)] h _
    refine ab_iload_n (k := 2) dX12_placeOf_15 rfl rfl ?_
    refine z_icmp_ne (tgt := 21) dX12_placeOf_16 (by decide) (by decide) (by omega) (fun c16 => ?_) (fun c16 => ?_)
    · skip
      refine z_iinc (k := 0) (v := 2) (ls' := [(2, .int (iI 2)), (0, .ref (2000 + 2)), (1, .int (iI s))]) dX12_placeOf_21 rfl rfl (by decide) rfl ?_
      refine ab_goto (tgt := 2) dX12_placeOf_24 (by decide) ?_
      refine ab_iload_n (k := 0) dX12_placeOf_2 rfl rfl ?_
      refine ab_aload_n (k := 1) dX12_placeOf_3 rfl rfl ?_
      refine ab_callT (As := []) (rest := [.int (iI 2)]) dX12_placeOf_4 lX12_114 (by decide) (Nat.le_of_ble_eq_true rfl) (Nat.le_of_ble_eq_true rfl) rfl ?_
      refine c_slen (j := 2) (by decide) ?_
      show ab_X (d + 4) mX12_placeOf 7 [(2, .int (iI 2)), (0, .ref (2000 + 2)), (1, .int (iI s))] [.int (iI 2), .int (iI 2)] h _
      refine z_icmp_ge (tgt := 27) dX12_placeOf_7 (by decide) (by decide) (by decide) (fun _ => ?_) (fun c7 => absurd c7 (by decide))
      refine z_iconst dX12_placeOf_27 ?_
      refine z_iret dX12_placeOf_28 rfl ?_
      revert K2
      (repeat' split) <;> intro K2 <;> first | exact K2 | (exfalso; omega)
    · skip
      refine ab_iload_n (k := 0) dX12_placeOf_19 rfl rfl ?_
      refine z_iret dX12_placeOf_20 rfl ?_
      revert K2
      (repeat' split) <;> intro K2 <;> first | exact K2 | (exfalso; omega)
  · skip
    refine ab_iload_n (k := 0) dX12_placeOf_19 rfl rfl ?_
    refine z_iret dX12_placeOf_20 rfl ?_
    revert K2
    (repeat' split) <;> intro K2 <;> first | exact K2 | (exfalso; omega)
theorem c_itemBy2 {d : Nat} {h : ab_H} {Q : ab_Q} {s : Int} (hs : inR s) (K : Q (some (.int (iI (pof 2 s)))) h) : ab_X (d + 4) mX3_itemBy 0 (lv_args 0 [.ref (2000 + 2), .int (iI s)]) [] h Q := by
  show ab_X (d + 4) mX3_itemBy 0 [(0, .ref (2000 + 2)), (1, .int (iI s))] [] h Q
  have e0 : sch 2 0 = 97 := rfl
  have e1 : sch 2 1 = 108 := rfl
  have K2 := K
  unfold pof at K2
  rw [e0, e1] at K2
  refine z_iconst dX3_itemBy_0 ?_
  refine ab_istore_n (ls' := [(2, .int (iI 0)), (0, .ref (2000 + 2)), (1, .int (iI s))]) dX3_itemBy_1 rfl (by decide) rfl ?_
  refine ab_iload_n (k := 0) dX3_itemBy_2 rfl rfl ?_
  refine ab_aload_n (k := 1) dX3_itemBy_3 rfl rfl ?_
  refine ab_callT (As := []) (rest := [.int (iI 0)]) dX3_itemBy_4 lX3_122 (by decide) (Nat.le_of_ble_eq_true rfl) (Nat.le_of_ble_eq_true rfl) rfl ?_
  refine c_slen (j := 2) (by decide) ?_
  show ab_X (d + 4) mX3_itemBy 7 [(2, .int (iI 0)), (0, .ref (2000 + 2)), (1, .int (iI s))] [.int (iI 2), .int (iI 0)] h _
  refine z_icmp_ge (tgt := 32) dX3_itemBy_7 (by decide) (by decide) (by decide) (fun c7 => absurd c7 (by decide)) (fun _ => ?_)
  refine ab_iload_n (k := 0) dX3_itemBy_10 rfl rfl ?_
  refine z_iconst dX3_itemBy_11 ?_
  refine z_icmp_ge (tgt := 32) dX3_itemBy_12 (by decide) (by decide) (by decide) (fun c12 => absurd c12 (by decide)) (fun _ => ?_)
  refine ab_aload_n (k := 1) dX3_itemBy_15 rfl rfl ?_
  refine ab_iload_n (k := 0) dX3_itemBy_16 rfl rfl ?_
  refine ab_callT (As := [.int (iI 0)]) (rest := []) dX3_itemBy_17 lX3_135 (by decide) (Nat.le_of_ble_eq_true rfl) (Nat.le_of_ble_eq_true rfl) rfl ?_
  refine c_charAt (j := 2) (i := 0) (by decide) (by decide) ?_
  show ab_X (d + 4) mX3_itemBy 20 [(2, .int (iI 0)), (0, .ref (2000 + 2)), (1, .int (iI s))] [.int (iI 97)] h _
  refine ab_iload_n (k := 2) dX3_itemBy_20 rfl rfl ?_
  refine z_icmp_ne (tgt := 26) dX3_itemBy_21 (by decide) (by decide) (by omega) (fun c21 => ?_) (fun c21 => ?_)
  · skip
    refine z_iinc (k := 0) (v := 1) (ls' := [(2, .int (iI 1)), (0, .ref (2000 + 2)), (1, .int (iI s))]) dX3_itemBy_26 rfl rfl (by decide) rfl ?_
    refine ab_goto (tgt := 2) dX3_itemBy_29 (by decide) ?_
    refine ab_iload_n (k := 0) dX3_itemBy_2 rfl rfl ?_
    refine ab_aload_n (k := 1) dX3_itemBy_3 rfl rfl ?_
    refine ab_callT (As := []) (rest := [.int (iI 1)]) dX3_itemBy_4 lX3_122 (by decide) (Nat.le_of_ble_eq_true rfl) (Nat.le_of_ble_eq_true rfl) rfl ?_
    refine c_slen (j := 2) (by decide) ?_
    show ab_X (d + 4) mX3_itemBy 7 [(2, .int (iI 1)), (0, .ref (2000 + 2)), (1, .int (iI s))] [.int (iI 2), .int (iI 1)] h _
    refine z_icmp_ge (tgt := 32) dX3_itemBy_7 (by decide) (by decide) (by decide) (fun c7 => absurd c7 (by decide)) (fun _ => ?_)
    refine ab_iload_n (k := 0) dX3_itemBy_10 rfl rfl ?_
    refine z_iconst dX3_itemBy_11 ?_
    refine z_icmp_ge (tgt := 32) dX3_itemBy_12 (by decide) (by decide) (by decide) (fun c12 => absurd c12 (by decide)) (fun _ => ?_)
    refine ab_aload_n (k := 1) dX3_itemBy_15 rfl rfl ?_
    refine ab_iload_n (k := 0) dX3_itemBy_16 rfl rfl ?_
    refine ab_callT (As := [.int (iI 1)]) (rest := []) dX3_itemBy_17 lX3_135 (by decide) (Nat.le_of_ble_eq_true rfl) (Nat.le_of_ble_eq_true rfl) rfl ?_
    refine c_charAt (j := 2) (i := 1) (by decide) (by decide) ?_
    show ab_X (d + 4) mX3_itemBy 20 [(2, .int (iI 1)), (0, .ref (2000 + 2)), (1, .int (iI s))] [.int (iI 108)] h _
    refine ab_iload_n (k := 2) dX3_itemBy_20 rfl rfl ?_
    refine z_icmp_ne (tgt := 26) dX3_itemBy_21 (by decide) (by decide) (by omega) (fun c21 => ?_) (fun c21 => ?_)
    · skip
      refine z_iinc (k := 0) (v := 2) (ls' := [(2, .int (iI 2)), (0, .ref (2000 + 2)), (1, .int (iI s))]) dX3_itemBy_26 rfl rfl (by decide) rfl ?_
      refine ab_goto (tgt := 2) dX3_itemBy_29 (by decide) ?_
      refine ab_iload_n (k := 0) dX3_itemBy_2 rfl rfl ?_
      refine ab_aload_n (k := 1) dX3_itemBy_3 rfl rfl ?_
      refine ab_callT (As := []) (rest := [.int (iI 2)]) dX3_itemBy_4 lX3_122 (by decide) (Nat.le_of_ble_eq_true rfl) (Nat.le_of_ble_eq_true rfl) rfl ?_
      refine c_slen (j := 2) (by decide) ?_
      show ab_X (d + 4) mX3_itemBy 7 [(2, .int (iI 2)), (0, .ref (2000 + 2)), (1, .int (iI s))] [.int (iI 2), .int (iI 2)] h _
      refine z_icmp_ge (tgt := 32) dX3_itemBy_7 (by decide) (by decide) (by decide) (fun _ => ?_) (fun c7 => absurd c7 (by decide))
      refine z_iconst dX3_itemBy_32 ?_
      refine z_iret dX3_itemBy_33 rfl ?_
      revert K2
      (repeat' split) <;> intro K2 <;> first | exact K2 | (exfalso; omega)
    · skip
      refine ab_iload_n (k := 0) dX3_itemBy_24 rfl rfl ?_
      refine z_iret dX3_itemBy_25 rfl ?_
      revert K2
      (repeat' split) <;> intro K2 <;> first | exact K2 | (exfalso; omega)
  · skip
    refine ab_iload_n (k := 0) dX3_itemBy_24 rfl rfl ?_
    refine z_iret dX3_itemBy_25 rfl ?_
    revert K2
    (repeat' split) <;> intro K2 <;> first | exact K2 | (exfalso; omega)
