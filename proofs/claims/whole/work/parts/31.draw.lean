/-! DRAWS, comings and goings -/
def dN (x : Int) : Int := (lL (x * 6364136223846793005 + 1442695040888963407)).toInt
def uS (x : Int) : Int := (((lL x).toUInt64 >>> ((iI 33).toInt64.toUInt64 &&& Int64.toUInt64 63)).toInt64).toInt
theorem dN_L (x : Int) : inL (dN x) := inL_of _
theorem wp_dN (h : ab_H) (a k : Nat) (x : Int) : wp h a k (x * 6364136223846793005 + 1442695040888963407) = wp h a k (dN x) := by unfold wp dN; rw [lL_of]
theorem uS_b (x : Int) : 0 ≤ uS x ∧ uS x < 2147483648 := by
  unfold uS
  have e : ((lL x).toUInt64 >>> ((iI 33).toInt64.toUInt64 &&& Int64.toUInt64 63)).toInt64.toInt = ((((lL x).toUInt64 >>> ((iI 33).toInt64.toUInt64 &&& Int64.toUInt64 63)).toBitVec).toInt) := rfl
  rw [e, BitVec.toInt_eq_toNat_cond]
  have hn : ((lL x).toUInt64 >>> ((iI 33).toInt64.toUInt64 &&& Int64.toUInt64 63)).toBitVec.toNat = (lL x).toUInt64.toNat / 2 ^ 33 := by
    have e2 : ((iI 33).toInt64.toUInt64 &&& Int64.toUInt64 63) = 33 := by decide
    rw [e2]
    show ((lL x).toUInt64 >>> 33).toNat = _
    rw [UInt64.toNat_shiftRight, Nat.shiftRight_eq_div_pow]; rfl
  rw [hn]
  have hl : (lL x).toUInt64.toNat < 2 ^ 64 := (lL x).toUInt64.toNat_lt
  have : (lL x).toUInt64.toNat / 2 ^ 33 < 2 ^ 31 := by omega
  split <;> omega
def drw (x m : Int) : Int := Int.tmod (uS (dN x)) m
theorem drw_b {x m : Int} (hm : 0 < m) : 0 ≤ drw x m ∧ drw x m < m := by
  have := uS_b (dN x)
  unfold drw
  rw [Int.tmod_eq_emod_of_nonneg this.1]
  exact ⟨Int.emod_nonneg _ (by omega), Int.emod_lt_of_pos _ hm⟩
theorem c_draw {d : Nat} {h : ab_H} {Q : ab_Q} {m : Int} (hm : 0 < m ∧ m ≤ 2147483647) (K : Q (some (.int (iI (drw (wv h 0 17) m)))) (wp h 0 17 (dN (wv h 0 17)))) : ab_X d mX11_draw 0 (lv_args 0 [.ref 0, .int (iI m)]) [] h Q := by
  show ab_X d mX11_draw 0 [(0, .ref 0), (1, .int (iI m))] [] h Q
  refine ab_aload_n (k := 0) dX11_draw_0 rfl rfl ?_
  refine ab_aload_n (k := 0) dX11_draw_1 rfl rfl ?_
  refine z_getL dX11_draw_2 fX11_214 rfl rfl ?_
  have b1 := wv_L h 0 17
  refine z_ldc2 (v := 6364136223846793005) dX11_draw_5 qX11_251 (by decide) ?_
  refine z_lmul dX11_draw_8 ?_
  refine z_ldc2 (v := 1442695040888963407) dX11_draw_9 qX11_253 (by decide) ?_
  refine z_ladd dX11_draw_12 ?_
  refine z_putL dX11_draw_13 fX11_214 rfl rfl ?_
  rw [wp_dN]
  refine ab_iload_n (k := 1) dX11_draw_16 rfl rfl ?_
  refine z_if_gt (tgt := 22) dX11_draw_17 (by decide) (by omega) (fun c17 => ?_) (fun c17 => ?_)
  · skip
    refine ab_aload_n (k := 0) dX11_draw_22 rfl rfl ?_
    refine z_getL dX11_draw_23 fX11_214 rfl rfl ?_
    refine z_isl (y := dN (wv h 0 17)) (wv_wp_s (dN_L _)) ?_
    refine z_bipush dX11_draw_26 (by decide) ?_
    refine ab_lushr dX11_draw_28 ?_
    refine z_topl ?_
    refine z_isl (y := uS (dN (wv h 0 17))) rfl ?_
    refine ab_iload_n (k := 1) dX11_draw_29 rfl rfl ?_
    refine z_i2l dX11_draw_30 (by omega) ?_
    have hub := uS_b (dN (wv h 0 17))
    refine z_lrem dX11_draw_31 (by omega) (by omega) (by omega) ?_
    refine z_isl (y := drw (wv h 0 17) m) rfl ?_
    refine z_l2i dX11_draw_32 ?_
    refine z_iret dX11_draw_33 rfl ?_
    first | exact K | exact absurd c17 (by omega)
  · skip
    refine z_iconst dX11_draw_20 ?_
    refine z_iret dX11_draw_21 rfl ?_
    first | exact K | exact absurd c17 (by omega)
theorem c_mdraw {d : Nat} {h : ab_H} {Q : ab_Q} {m : Int} (hm : 0 < m ∧ m ≤ 2147483647) (K : Q (some (.int (iI (drw (wv h 200 38) m)))) (wp h 200 38 (dN (wv h 200 38)))) : ab_X d mX12_draw 0 (lv_args 0 [.ref 200, .int (iI m)]) [] h Q := by
  show ab_X d mX12_draw 0 [(0, .ref 200), (1, .int (iI m))] [] h Q
  refine ab_aload_n (k := 0) dX12_draw_0 rfl rfl ?_
  refine ab_aload_n (k := 0) dX12_draw_1 rfl rfl ?_
  refine z_getL dX12_draw_2 fX12_357 rfl rfl ?_
  have b1 := wv_L h 200 38
  refine z_ldc2 (v := 6364136223846793005) dX12_draw_5 qX12_361 (by decide) ?_
  refine z_lmul dX12_draw_8 ?_
  refine z_ldc2 (v := 1442695040888963407) dX12_draw_9 qX12_363 (by decide) ?_
  refine z_ladd dX12_draw_12 ?_
  refine z_putL dX12_draw_13 fX12_357 rfl rfl ?_
  rw [wp_dN]
  refine ab_aload_n (k := 0) dX12_draw_16 rfl rfl ?_
  refine z_getL dX12_draw_17 fX12_357 rfl rfl ?_
  refine z_isl (y := dN (wv h 200 38)) (wv_wp_s (dN_L _)) ?_
  refine z_bipush dX12_draw_20 (by decide) ?_
  refine ab_lushr dX12_draw_22 ?_
  refine z_topl ?_
  refine z_isl (y := uS (dN (wv h 200 38))) rfl ?_
  refine ab_iload_n (k := 1) dX12_draw_23 rfl rfl ?_
  refine z_i2l dX12_draw_24 (by omega) ?_
  have hub := uS_b (dN (wv h 200 38))
  refine z_lrem dX12_draw_25 (by omega) (by omega) (by omega) ?_
  refine z_isl (y := drw (wv h 200 38) m) rfl ?_
  refine z_l2i dX12_draw_26 ?_
  refine z_iret dX12_draw_27 rfl ?_
  exact K
theorem cB_ex {f : Nat → Int} {r : Nat} : ∀ n, r < cB f n → ∃ y, y < n ∧ f y = (y : Int) ∧ cB f y = r
  | 0, h => absurd h (by simp [cB])
  | n + 1, h => by
    rw [cB_s] at h
    by_cases q : r < cB f n
    · obtain ⟨y, a, b, c⟩ := cB_ex n q
      exact ⟨y, by omega, b, c⟩
    · by_cases e : f n = (n : Int)
      · rw [if_pos e] at h
        exact ⟨n, by omega, e, by omega⟩
      · rw [if_neg e] at h; omega
theorem c_letOneGo {d : Nat} {h : ab_H} {Q : ab_Q}  (hc : zv h 36 2 = (cB (zv h 37) 20 : Int)) (hc0 : 0 < zv h 36 2) (K : ∀ (p : Nat) h1, p < 20 → zv h 37 p = p → (cB (zv h 37) p : Int) = drw (wv h 0 17) (zv h 36 2) → exiR (wp h 0 17 (dN (wv h 0 17))) h1 p → Q none (zp h1 36 4 (zv h1 36 4 + 1))) : ab_X (d + 2) mX11_letOneGo 0 (lv_args 0 [.ref 0]) [] h Q := by
  show ab_X (d + 2) mX11_letOneGo 0 [(0, .ref 0)] [] h Q
  have hcl := cB_le (zv h 37) 20
  refine ab_aload_n (k := 0) dX11_letOneGo_0 rfl rfl ?_
  refine z_getP (b := 36) dX11_letOneGo_1 fX11_53 rfl rfl rfl ?_
  refine ab_aload_n (k := 0) dX11_letOneGo_4 rfl rfl ?_
  refine z_getP (b := 36) dX11_letOneGo_5 fX11_53 rfl rfl rfl ?_
  refine ab_aload_n (k := 0) dX11_letOneGo_8 rfl rfl ?_
  refine ab_aload_n (k := 0) dX11_letOneGo_9 rfl rfl ?_
  refine z_getP (b := 36) dX11_letOneGo_10 fX11_53 rfl rfl rfl ?_
  refine z_getI dX11_letOneGo_13 fX11_224 rfl (Or.inl rfl) ?_
  have b1 := zv_R h 36 2
  refine ab_callV (As := [.int (iI (zv h 36 2))]) (rest := [.ref 36, .ref 36]) dX11_letOneGo_16 lX11_218 rfl (Nat.le_of_ble_eq_true rfl) (Nat.le_of_ble_eq_true rfl) rfl ?_
  refine c_draw (by omega) ?_
  have bd16 := drw_b (x := wv h 0 17) (m := zv h 36 2) (by omega)
  show ab_X (d + 2) mX11_letOneGo 19 [(0, .ref 0)] [.int (iI (drw (wv h 0 17) (zv h 36 2))), .ref 36, .ref 36] (wp h 0 17 (dN (wv h 0 17))) _
  refine ab_callV (As := [.int (iI (drw (wv h 0 17) (zv h 36 2)))]) (rest := [.ref 36]) dX11_letOneGo_19 lX11_233 rfl (Nat.le_of_ble_eq_true rfl) (Nat.le_of_ble_eq_true rfl) rfl ?_
  refine c_carBy (by omega) (fun y hy hb hc => ?_) (fun hno => ?_)
  · skip
    show ab_X (d + 2) mX11_letOneGo 22 [(0, .ref 0)] [.int (iI (y : Int)), .ref 36] (wp h 0 17 (dN (wv h 0 17))) _
    refine ab_callV (As := [.int (iI (y : Int))]) (rest := []) dX11_letOneGo_22 lX11_211 rfl (Nat.le_of_ble_eq_true rfl) (Nat.le_of_ble_eq_true rfl) rfl ?_
    refine ct_exit hy hb (by show 0 ≤ zv h 36 2; omega) (fun h1 hx1 => ?_)
    show ab_X (d + 2) mX11_letOneGo 25 [(0, .ref 0)] [] h1 _
    refine ab_aload_n (k := 0) dX11_letOneGo_25 rfl rfl ?_
    refine z_getP (b := 36) dX11_letOneGo_26 fX11_53 rfl rfl rfl ?_
    refine ab_dup dX11_letOneGo_29 rfl ?_
    refine z_getI dX11_letOneGo_30 fX11_236 rfl (Or.inl rfl) ?_
    have b2 := zv_R h1 36 4
    refine z_iconst dX11_letOneGo_33 ?_
    refine z_iadd dX11_letOneGo_34 ?_
    refine z_putI dX11_letOneGo_35 fX11_236 rfl rfl ?_
    refine z_vret dX11_letOneGo_38 rfl ?_
    exact K y h1 hy hb hc hx1
  · skip
    exfalso
    obtain ⟨y, a, b, c⟩ := cB_ex (f := zv h 37) (r := (drw (wv h 0 17) (zv h 36 2)).toNat) 20 (by omega)
    have hno2 : ∀ y : Nat, y < 20 → zv h 37 y = y → ¬ (cB (zv h 37) y : Int) = drw (wv h 0 17) (zv h 36 2) := hno
    exact hno2 y a b (by omega)
theorem pls_cap {fr : Nat → Bool} {L n : Nat} : (pls fr L n).length ≤ n + 1 := by
  unfold pls
  exact Nat.le_trans (List.length_filter_le _ _) (by rw [List.length_range]; omega)
theorem c_letOneCome {d : Nat} {h : ab_H} {Q : ab_Q} {n k : Nat} (hn : zv h 15 0 = n) (hn2 : n ≤ 20) (hp : pOK h k) (hk : 1 ≤ k) (hc : zv h 36 2 ≤ 1000) (kL : ∀ (s L : Nat) h1, s < k → drw (wv h 0 17) (sT (zv h 17) k) - sT (zv h 17) s < zv h 17 s → 0 ≤ drw (wv h 0 17) (sT (zv h 17) k) - sT (zv h 17) s → zv h 16 s = L → pls (cfr h n) L n = [] → sm [167, 168, 169] (wp h 0 17 (dN (wv h 0 17))) h1 → Q none (zp h1 36 5 (zv h1 36 5 + 1))) (kE : ∀ (s L p : Nat) h1 h2, s < k → drw (wv h 0 17) (sT (zv h 17) k) - sT (zv h 17) s < zv h 17 s → 0 ≤ drw (wv h 0 17) (sT (zv h 17) k) - sT (zv h 17) s → zv h 16 s = L → (pls (cfr h n) L n)[(drw (dN (wv h 0 17)) ((pls (cfr h n) L n).length : Int)).toNat]? = some p → sm [167, 168, 169] (wp h 0 17 (dN (wv h 0 17))) h1 → entR (wp h1 0 17 (dN (dN (wv h 0 17)))) h2 p L s → Q none (zp h2 36 3 (zv h2 36 3 + 1))) : ab_X (d + 4) mX11_letOneCome 0 (lv_args 0 [.ref 0]) [] h Q := by
  show ab_X (d + 4) mX11_letOneCome 0 [(0, .ref 0)] [] h Q
  have hW := sT_b (f := zv h 17) (b := 9) (n := k) (fun i hi => by have := (hp.2.2 i hi).2; omega)
  have hW1 : 1 ≤ sT (zv h 17) k := by
    obtain ⟨q, rfl⟩ : ∃ q, k = q + 1 := ⟨k - 1, by omega⟩
    have h1 := sT_b (f := zv h 17) (b := 9) (n := q) (fun i hi => by have := (hp.2.2 i (by omega)).2; omega)
    have h2 := (hp.2.2 q (by omega)).2
    rw [sT_s]; omega
  have hk4 := hp.2.1
  refine ab_aload_n (k := 0) dX11_letOneCome_0 rfl rfl ?_
  refine z_getP (b := 15) dX11_letOneCome_1 fX11_35 rfl rfl rfl ?_
  refine ab_aload_n (k := 0) dX11_letOneCome_4 rfl rfl ?_
  refine ab_aload_n (k := 0) dX11_letOneCome_5 rfl rfl ?_
  refine z_getP (b := 15) dX11_letOneCome_6 fX11_35 rfl rfl rfl ?_
  refine ab_callV (As := []) (rest := [.ref 0, .ref 15]) dX11_letOneCome_9 lX11_239 rfl (Nat.le_of_ble_eq_true rfl) (Nat.le_of_ble_eq_true rfl) rfl ?_
  refine c_allWeights hp ?_
  show ab_X (d + 4) mX11_letOneCome 12 [(0, .ref 0)] [.int (iI (sT (zv h 17) k)), .ref 0, .ref 15] h _
  refine ab_callV (As := [.int (iI (sT (zv h 17) k))]) (rest := [.ref 15]) dX11_letOneCome_12 lX11_218 rfl (Nat.le_of_ble_eq_true rfl) (Nat.le_of_ble_eq_true rfl) rfl ?_
  refine c_draw (by omega) ?_
  have bd12 := drw_b (x := wv h 0 17) (m := sT (zv h 17) k) (by omega)
  show ab_X (d + 4) mX11_letOneCome 15 [(0, .ref 0)] [.int (iI (drw (wv h 0 17) (sT (zv h 17) k))), .ref 15] (wp h 0 17 (dN (wv h 0 17))) _
  refine ab_callV (As := [.int (iI (drw (wv h 0 17) (sT (zv h 17) k)))]) (rest := []) dX11_letOneCome_15 lX11_242 rfl (Nat.le_of_ble_eq_true rfl) (Nat.le_of_ble_eq_true rfl) rfl ?_
  refine c_sortBy (g := k) (show pOK _ k from hp) (by omega) (fun s hs hsa hsb => ?_) (fun hno => ?_)
  · skip
    obtain ⟨L, hL⟩ : ∃ L : Nat, zv h 16 s = L := ⟨(zv h 16 s).toNat, by have := (hp.2.2 s hs).1; omega⟩
    have hLb := (hp.2.2 s hs).1
    have hk3 : zv h 15 3 = k := hp.1
    show ab_X (d + 4) mX11_letOneCome 18 [(0, .ref 0)] [.int (iI (s : Int))] (wp h 0 17 (dN (wv h 0 17))) _
    refine ab_istore_n (ls' := [(1, .int (iI (s : Int))), (0, .ref 0)]) dX11_letOneCome_18 rfl (by decide) rfl ?_
    refine ab_aload_n (k := 1) dX11_letOneCome_19 rfl rfl ?_
    refine z_getP (b := 15) dX11_letOneCome_20 fX11_35 rfl rfl rfl ?_
    refine ab_iload_n (k := 0) dX11_letOneCome_23 rfl rfl ?_
    refine ab_callV (As := [.int (iI (s : Int))]) (rest := []) dX11_letOneCome_24 lX11_174 rfl (Nat.le_of_ble_eq_true rfl) (Nat.le_of_ble_eq_true rfl) rfl ?_
    refine c_lengthOf (by omega) (show zv h 15 3 ≤ 4 by omega) (fun _ => ?_) (fun q => absurd (show _ from ⟨by omega, by show (s : Int) < zv h 15 3; omega⟩) q)
    show ab_X (d + 4) mX11_letOneCome 27 [(1, .int (iI (s : Int))), (0, .ref 0)] [.int (iI (zv h 16 s))] (wp h 0 17 (dN (wv h 0 17))) _
    refine z_is (y := (L : Int)) hL ?_
    refine ab_istore_n (ls' := [(2, .int (iI (L : Int))), (1, .int (iI (s : Int))), (0, .ref 0)]) dX11_letOneCome_27 rfl (by decide) rfl ?_
    refine ab_aload_n (k := 2) dX11_letOneCome_28 rfl rfl ?_
    refine ab_callV (As := []) (rest := []) dX11_letOneCome_29 lX11_187 rfl (Nat.le_of_ble_eq_true rfl) (Nat.le_of_ble_eq_true rfl) rfl ?_
    refine c_lookC (n := n) (show zv h 15 0 = n from hn) hn2 (fun h1 hs1 hG1 => ?_)
    have hpl := pls_cap (fr := cfr h n) (L := L) (n := n)
    show ab_X (d + 4) mX11_letOneCome 32 [(2, .int (iI (L : Int))), (1, .int (iI (s : Int))), (0, .ref 0)] [] h1 _
    refine ab_aload_n (k := 2) dX11_letOneCome_32 rfl rfl ?_
    refine z_getP (b := 167) dX11_letOneCome_33 fX11_73 rfl rfl rfl ?_
    refine ab_iload_n (k := 0) dX11_letOneCome_36 rfl rfl ?_
    refine ab_callV (As := [.int (iI (L : Int))]) (rest := []) dX11_letOneCome_37 lX11_190 rfl (Nat.le_of_ble_eq_true rfl) (Nat.le_of_ble_eq_true rfl) rfl ?_
    refine c_placesG hn2 (by omega) (show GR h1 (scan (cfr h n) n) from hG1) ?_
    show ab_X (d + 4) mX11_letOneCome 40 [(2, .int (iI (L : Int))), (1, .int (iI (s : Int))), (0, .ref 0)] [.int (iI ((pls (cfr h n) L n).length : Int))] h1 _
    refine ab_istore_n (ls' := [(3, .int (iI ((pls (cfr h n) L n).length : Int))), (2, .int (iI (L : Int))), (1, .int (iI (s : Int))), (0, .ref 0)]) dX11_letOneCome_40 rfl (by decide) rfl ?_
    refine ab_iload_n (k := 0) dX11_letOneCome_41 rfl rfl ?_
    refine z_if_ne (tgt := 59) dX11_letOneCome_42 (by decide) (by omega) (fun c42 => ?_) (fun c42 => ?_)
    · skip
      refine ab_aload_n (k := 3) dX11_letOneCome_59 rfl rfl ?_
      refine z_getP (b := 36) dX11_letOneCome_60 fX11_53 rfl rfl rfl ?_
      refine ab_aload_n (k := 3) dX11_letOneCome_63 rfl rfl ?_
      refine z_getP (b := 167) dX11_letOneCome_64 fX11_73 rfl rfl rfl ?_
      refine ab_iload_n (k := 1) dX11_letOneCome_67 rfl rfl ?_
      refine ab_aload_n (k := 3) dX11_letOneCome_68 rfl rfl ?_
      refine ab_iload_n (k := 0) dX11_letOneCome_69 rfl rfl ?_
      refine ab_callV (As := [.int (iI ((pls (cfr h n) L n).length : Int))]) (rest := [.int (iI (L : Int)), .ref 167, .ref 36]) dX11_letOneCome_70 lX11_218 rfl (Nat.le_of_ble_eq_true rfl) (Nat.le_of_ble_eq_true rfl) rfl ?_
      refine c_draw (by omega) ?_
      have bd70 := drw_b (x := wv h1 0 17) (m := ((pls (cfr h n) L n).length : Int)) (by omega)
      show ab_X (d + 4) mX11_letOneCome 73 [(3, .int (iI ((pls (cfr h n) L n).length : Int))), (2, .int (iI (L : Int))), (1, .int (iI (s : Int))), (0, .ref 0)] [.int (iI (drw (wv h1 0 17) ((pls (cfr h n) L n).length : Int))), .int (iI (L : Int)), .ref 167, .ref 36] (wp h1 0 17 (dN (wv h1 0 17))) _
      refine ab_callV (As := [.int (iI (L : Int)), .int (iI (drw (wv h1 0 17) ((pls (cfr h n) L n).length : Int)))]) (rest := [.ref 36]) dX11_letOneCome_73 lX11_193 rfl (Nat.le_of_ble_eq_true rfl) (Nat.le_of_ble_eq_true rfl) rfl ?_
      refine c_placeZ hn2 (by omega) (by omega) (show GR _ (scan (cfr h n) n) from hG1) (fun p hp2 => ?_) (fun hno => ?_)
      · skip
        show ab_X (d + 4) mX11_letOneCome 76 [(3, .int (iI ((pls (cfr h n) L n).length : Int))), (2, .int (iI (L : Int))), (1, .int (iI (s : Int))), (0, .ref 0)] [.int (iI (p : Int)), .ref 36] (wp h1 0 17 (dN (wv h1 0 17))) _
        refine ab_iload_n (k := 1) dX11_letOneCome_76 rfl rfl ?_
        refine ab_iload_n (k := 2) dX11_letOneCome_77 rfl rfl ?_
        refine ab_callV (As := [.int (iI (p : Int)), .int (iI (L : Int)), .int (iI (s : Int))]) (rest := []) dX11_letOneCome_78 lX11_203 rfl (Nat.le_of_ble_eq_true rfl) (Nat.le_of_ble_eq_true rfl) rfl ?_
        have hpi := pls_in (List.mem_of_getElem? hp2)
        refine ct_enter (by omega) (by omega) (by omega) (by rw [show zv (wp h1 0 17 (dN (wv h1 0 17))) 36 2 = zv h1 36 2 from rfl, hs1.1 36 2 (by decide)]; exact hc) (fun h2 he2 => ?_)
        show ab_X (d + 4) mX11_letOneCome 81 [(3, .int (iI ((pls (cfr h n) L n).length : Int))), (2, .int (iI (L : Int))), (1, .int (iI (s : Int))), (0, .ref 0)] [] h2 _
        refine ab_aload_n (k := 3) dX11_letOneCome_81 rfl rfl ?_
        refine z_getP (b := 36) dX11_letOneCome_82 fX11_53 rfl rfl rfl ?_
        refine ab_dup dX11_letOneCome_85 rfl ?_
        refine z_getI dX11_letOneCome_86 fX11_248 rfl (Or.inl rfl) ?_
        have b1 := zv_R h2 36 3
        refine z_iconst dX11_letOneCome_89 ?_
        refine z_iadd dX11_letOneCome_90 ?_
        refine z_putI dX11_letOneCome_91 fX11_248 rfl rfl ?_
        refine z_vret dX11_letOneCome_94 rfl ?_
        have ew : wv h1 0 17 = dN (wv h 0 17) := (hs1.2.1 0 17 (by decide)).trans (wv_wp_s (dN_L _))
        rw [ew] at hp2 he2
        exact kE s L p h1 h2 hs hsa hsb hL hp2 hs1 he2
      · skip
        exact absurd (List.getElem?_eq_none_iff.mp hno) (by omega)
    · skip
      refine ab_aload_n (k := 3) dX11_letOneCome_45 rfl rfl ?_
      refine z_getP (b := 36) dX11_letOneCome_46 fX11_53 rfl rfl rfl ?_
      refine ab_dup dX11_letOneCome_49 rfl ?_
      refine z_getI dX11_letOneCome_50 fX11_245 rfl (Or.inl rfl) ?_
      have b2 := zv_R h1 36 5
      refine z_iconst dX11_letOneCome_53 ?_
      refine z_iadd dX11_letOneCome_54 ?_
      refine z_putI dX11_letOneCome_55 fX11_245 rfl rfl ?_
      refine z_vret dX11_letOneCome_58 rfl ?_
      exact kL s L h1 hs hsa hsb hL (List.length_eq_zero_iff.mp (by omega)) hs1
  · skip
    exfalso
    have hno2 : sT (zv h 17) k ≤ drw (wv h 0 17) (sT (zv h 17) k) := hno
    omega
