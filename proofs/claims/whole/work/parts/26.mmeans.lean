/-! CONTRACTS OF THE MODEL: means, seeking, counting -/
theorem wp_wp (h : ab_H) (a k : Nat) (x y : Int) : wp (wp h a k x) a k y = wp h a k y := by
  show ((h.1, ab_up (ab_up h.2.1 a k (lL x)) a k (lL y), h.2.2) : ab_H) = (h.1, ab_up h.2.1 a k (lL y), h.2.2)
  congr 2
  funext b j
  unfold ab_up
  by_cases e : b = a <;> by_cases f : j = k <;> simp [e, f]
theorem lp_layMeans2 {d : Nat} {Q : ab_Q} {h0 : ab_H} {l n : Nat} {ob tot : Int} {t : Nat → Int} (hl : 1 ≤ l) (hl2 : l ≤ n) (hn : n ≤ 20) (hT : ∀ j, j ≤ n - l → wv h0 217 j = t j) (hB : tB (n - l) t) (et : tot = sT (fun p => t p + t (n - l - p)) (n - l + 1)) (K : ab_X d mX12_layMeans 67 [(0, .ref 200), (1, .int (iI (l : Int))), (2, .int (iI ob)), (3, .int (iI (n : Int))), (4, .long (lL tot))] [] h0 Q) : ∀ (nn : Nat) (p : Nat) (a : Int) (h : ab_H), n - l + 1 - p = nn → (h = h0) → (p ≤ n - l + 1) → (a = sT (fun p => t p + t (n - l - p)) p) → ab_X d mX12_layMeans 29 [(0, .ref 200), (1, .int (iI (l : Int))), (2, .int (iI ob)), (3, .int (iI (n : Int))), (4, .long (lL a)), (6, .int (iI (p : Int)))] [] h Q := by
  intro nn
  induction nn using Nat.strongRecOn with
  | ind nn ih =>
  intro p a h hnn hh h2 ha
  subst hh
  refine ab_iload (k := 5) dX12_layMeans_29 rfl ?_
  refine ab_iload_n (k := 1) dX12_layMeans_31 rfl rfl ?_
  refine z_iadd dX12_layMeans_32 ?_
  refine ab_iload_n (k := 3) dX12_layMeans_33 rfl rfl ?_
  refine z_icmp_gt (tgt := 67) dX12_layMeans_34 (by decide) (by omega) (by omega) (fun c34 => ?_) (fun c34 => ?_)
  · skip
    refine ab_sub (ls' := [(0, .ref 200), (1, .int (iI (l : Int))), (2, .int (iI ob)), (3, .int (iI (n : Int))), (4, .long (lL a))]) (ks := [0, 1, 2, 3, 4]) rfl ?_
    have e : p = n - l + 1 := by omega
    have e2 : a = tot := by rw [ha, et, e]
    rw [e2]
    exact K
  · skip
    refine ab_lload (k := 4) dX12_layMeans_37 rfl ?_
    refine ab_aload_n (k := 0) dX12_layMeans_39 rfl rfl ?_
    refine z_getP (b := 217) dX12_layMeans_40 fX12_77 rfl rfl rfl ?_
    refine ab_iload (k := 5) dX12_layMeans_43 rfl ?_
    refine z_lald dX12_layMeans_45 rfl (by omega) (by omega) ?_
    simp only [Int.toNat_natCast]
    refine z_isl (y := t p) (hT p (by omega)) ?_
    refine ab_aload_n (k := 0) dX12_layMeans_46 rfl rfl ?_
    refine z_getP (b := 217) dX12_layMeans_47 fX12_77 rfl rfl rfl ?_
    refine ab_iload_n (k := 3) dX12_layMeans_50 rfl rfl ?_
    refine ab_iload_n (k := 1) dX12_layMeans_51 rfl rfl ?_
    refine z_isub dX12_layMeans_52 ?_
    refine ab_iload (k := 5) dX12_layMeans_53 rfl ?_
    refine z_isub dX12_layMeans_55 ?_
    refine z_is (y := ((n - l - p : Nat) : Int)) (by omega) ?_
    refine z_lald dX12_layMeans_56 rfl (by omega) (by omega) ?_
    simp only [Int.toNat_natCast]
    refine z_isl (y := t (n - l - p)) (hT (n - l - p) (by omega)) ?_
    refine z_ladd dX12_layMeans_57 ?_
    refine z_ladd dX12_layMeans_58 ?_
    refine ab_lstore (ls' := [(4, .long (lL (a + ((t p) + (t (n - l - p)))))), (0, .ref 200), (1, .int (iI (l : Int))), (2, .int (iI ob)), (3, .int (iI (n : Int))), (6, .int (iI (p : Int)))]) dX12_layMeans_59 (by decide) rfl ?_
    refine z_iinc (k := 5) (v := (p : Int) + 1) (ls' := [(6, .int (iI ((p : Int) + 1))), (4, .long (lL (a + ((t p) + (t (n - l - p)))))), (0, .ref 200), (1, .int (iI (l : Int))), (2, .int (iI ob)), (3, .int (iI (n : Int)))]) dX12_layMeans_61 rfl rfl (by decide) rfl ?_
    refine ab_goto (tgt := 29) dX12_layMeans_64 (by decide) ?_
    refine ab_sub (ls' := [(0, .ref 200), (1, .int (iI (l : Int))), (2, .int (iI ob)), (3, .int (iI (n : Int))), (4, .long (lL (a + ((t p) + (t (n - l - p)))))), (6, .int (iI ((p : Int) + 1)))]) (ks := [2, 3, 4, 5, 1, 0]) rfl ?_
    exact ih _ (by omega) (p + 1) _ h rfl rfl (by omega) (by rw [ha, sT_s])
theorem lp_layMeans {d : Nat} {Q : ab_Q} {h0 : ab_H} {l : Nat} {ob : Int} (hl : 1 ≤ l) (hl2 : l ≤ 9) (ho : 0 ≤ ob ∧ ob ≤ 100) (K : ∀ h', wmI h0 h' 217 l ob 21 → Q none h') : ∀ (nn : Nat) (n : Nat) (h : ab_H), 21 - n = nn → (n ≤ 21) → (wmI h0 h 217 l ob n) → ab_X d mX12_layMeans 2 [(0, .ref 200), (1, .int (iI (l : Int))), (2, .int (iI ob)), (3, .int (iI (n : Int)))] [] h Q := by
  intro nn
  induction nn using Nat.strongRecOn with
  | ind nn ih =>
  intro n h hnn h2 hI
  refine ab_iload_n (k := 3) dX12_layMeans_2 rfl rfl ?_
  refine z_bipush dX12_layMeans_3 (by decide) ?_
  refine z_icmp_gt (tgt := 118) dX12_layMeans_5 (by decide) (by omega) (by decide) (fun c5 => ?_) (fun c5 => ?_)
  · skip
    refine z_vret dX12_layMeans_118 rfl ?_
    have e : n = 21 := by omega
    subst e
    exact K h hI
  · skip
    refine ab_aload_n (k := 0) dX12_layMeans_8 rfl rfl ?_
    refine z_getP (b := 217) dX12_layMeans_9 fX12_77 rfl rfl rfl ?_
    refine ab_iload_n (k := 3) dX12_layMeans_12 rfl rfl ?_
    refine z_lconst (v := 0) dX12_layMeans_13 (by decide) ?_
    refine z_last dX12_layMeans_14 rfl (by omega) (by omega) ?_
    simp only [Int.toNat_natCast]
    refine ab_iload_n (k := 3) dX12_layMeans_15 rfl rfl ?_
    refine ab_iload_n (k := 1) dX12_layMeans_16 rfl rfl ?_
    refine z_icmp_ge (tgt := 23) dX12_layMeans_17 (by decide) (by omega) (by omega) (fun c17 => ?_) (fun c17 => ?_)
    · skip
      refine z_lconst (v := 0) dX12_layMeans_23 (by decide) ?_
      refine ab_lstore (ls' := [(4, .long (lL 0)), (0, .ref 200), (1, .int (iI (l : Int))), (2, .int (iI ob)), (3, .int (iI (n : Int)))]) dX12_layMeans_24 (by decide) rfl ?_
      refine z_iconst dX12_layMeans_26 ?_
      refine ab_istore (ls' := [(6, .int (iI 0)), (4, .long (lL 0)), (0, .ref 200), (1, .int (iI (l : Int))), (2, .int (iI ob)), (3, .int (iI (n : Int)))]) dX12_layMeans_27 (by decide) rfl ?_
      refine ab_sub (ls' := [(0, .ref 200), (1, .int (iI (l : Int))), (2, .int (iI ob)), (3, .int (iI (n : Int))), (4, .long (lL 0)), (6, .int (iI 0))]) (ks := [2, 3, 4, 5, 1, 0]) rfl ?_
      obtain ⟨tot, et⟩ : ∃ z : Int, z = sT (fun p => mTb l ob n p + mTb l ob n (n - l - p)) (n - l + 1) := ⟨_, rfl⟩
      have hB : tB (n - l) (mTb l ob n) := fun j hj => mTb_b hl ho n j (by omega)
      have hsb := mSum_b hB (k := n - l + 1) (Nat.le_refl _)
      rw [← et] at hsb
      have h20 : (1000000 * ((n - l : Nat) : Int)) * ((n - l + 1 : Nat) : Int) ≤ 20000000 * 21 := Int.le_trans (Int.mul_le_mul_of_nonneg_right (by omega) (by omega)) (Int.mul_le_mul_of_nonneg_left (by omega) (by decide))
      have hab := mAny_b hB
      have hrr := hB (n - l) (Nat.le_refl _)
      have hmx := mix_b ho hrr hab
      have hbb := mBeh_b ho hB
      refine lp_layMeans2 (h0 := wp h 217 n 0) (t := mTb l ob n) (tot := tot) hl (by omega) (by omega) (fun j hj => (wv_wp_ne (by omega)).trans (hI.2 j (by omega))) hB et ?_ _ 0 0 _ rfl rfl (by omega) rfl
      refine ab_lload (k := 4) dX12_layMeans_67 rfl ?_
      refine ab_iload_n (k := 3) dX12_layMeans_69 rfl rfl ?_
      refine ab_iload_n (k := 1) dX12_layMeans_70 rfl rfl ?_
      refine z_isub dX12_layMeans_71 ?_
      refine z_is (y := ((n - l : Nat) : Int)) (by omega) ?_
      refine z_iconst dX12_layMeans_72 ?_
      refine z_iadd dX12_layMeans_73 ?_
      refine z_i2l dX12_layMeans_74 (by omega) ?_
      refine z_ldiv dX12_layMeans_75 (by omega) (by omega) (by omega) ?_
      refine z_isl (y := mAny (n - l) (mTb l ob n)) (by rw [et]; rfl) ?_
      refine ab_lstore (ls' := [(6, .long (lL (mAny (n - l) (mTb l ob n)))), (0, .ref 200), (1, .int (iI (l : Int))), (2, .int (iI ob)), (3, .int (iI (n : Int))), (4, .long (lL tot))]) dX12_layMeans_76 (by decide) rfl ?_
      refine ab_aload_n (k := 1) dX12_layMeans_78 rfl rfl ?_
      refine z_getP (b := 217) dX12_layMeans_79 fX12_77 rfl rfl rfl ?_
      refine ab_iload_n (k := 4) dX12_layMeans_82 rfl rfl ?_
      refine z_ldc2 (v := 1000000) dX12_layMeans_83 qX12_158 (by decide) ?_
      refine ab_iload_n (k := 3) dX12_layMeans_86 rfl rfl ?_
      refine z_i2l dX12_layMeans_87 (by omega) ?_
      refine ab_aload_n (k := 1) dX12_layMeans_88 rfl rfl ?_
      refine z_getP (b := 217) dX12_layMeans_89 fX12_77 rfl rfl rfl ?_
      refine ab_iload_n (k := 4) dX12_layMeans_92 rfl rfl ?_
      refine ab_iload_n (k := 2) dX12_layMeans_93 rfl rfl ?_
      refine z_isub dX12_layMeans_94 ?_
      refine z_is (y := ((n - l : Nat) : Int)) (by omega) ?_
      refine z_lald dX12_layMeans_95 rfl (by omega) (by omega) ?_
      simp only [Int.toNat_natCast]
      refine z_isl (y := mTb l ob n (n - l)) ((wv_wp_ne (by omega)).trans (hI.2 _ (by omega))) ?_
      refine z_lmul dX12_layMeans_96 ?_
      refine z_bipush dX12_layMeans_97 (by decide) ?_
      refine ab_iload_n (k := 3) dX12_layMeans_99 rfl rfl ?_
      refine z_isub dX12_layMeans_100 ?_
      refine z_i2l dX12_layMeans_101 (by omega) ?_
      refine ab_lload (k := 0) dX12_layMeans_102 rfl ?_
      refine z_lmul dX12_layMeans_104 ?_
      refine z_ladd dX12_layMeans_105 ?_
      refine z_ldc2 (v := 100) dX12_layMeans_106 qX12_310 (by decide) ?_
      refine z_ldiv dX12_layMeans_109 (by omega) (by omega) (by omega) ?_
      refine z_isl (y := mBeh ob (n - l) (mTb l ob n)) rfl ?_
      refine z_ladd dX12_layMeans_110 ?_
      refine z_last dX12_layMeans_111 rfl (by omega) (by omega) ?_
      simp only [Int.toNat_natCast]
      refine z_iinc (k := 4) (v := (n : Int) + 1) (ls' := [(3, .int (iI ((n : Int) + 1))), (6, .long (lL (mAny (n - l) (mTb l ob n)))), (0, .ref 200), (1, .int (iI (l : Int))), (2, .int (iI ob)), (4, .long (lL tot))]) dX12_layMeans_112 rfl rfl (by decide) rfl ?_
      refine ab_goto (tgt := 2) dX12_layMeans_115 (by decide) ?_
      refine ab_sub (ls' := [(0, .ref 200), (1, .int (iI (l : Int))), (2, .int (iI ob)), (3, .int (iI ((n : Int) + 1)))]) (ks := [2, 3, 4, 0]) rfl ?_
      rw [wp_wp]
      exact ih _ (by omega) (n + 1) _ rfl (by omega) (wmI_step hl ho (by omega) hI (by unfold mNext; rw [if_neg (by omega)]))
    · skip
      refine ab_goto (tgt := 112) dX12_layMeans_20 (by decide) ?_
      refine z_iinc (k := 3) (v := (n : Int) + 1) (ls' := [(3, .int (iI ((n : Int) + 1))), (0, .ref 200), (1, .int (iI (l : Int))), (2, .int (iI ob))]) dX12_layMeans_112 rfl rfl (by decide) rfl ?_
      refine ab_goto (tgt := 2) dX12_layMeans_115 (by decide) ?_
      refine ab_sub (ls' := [(0, .ref 200), (1, .int (iI (l : Int))), (2, .int (iI ob)), (3, .int (iI ((n : Int) + 1)))]) (ks := [1, 2, 3, 0]) rfl ?_
      exact ih _ (by omega) (n + 1) _ rfl (by omega) (wmI_step hl ho (by omega) hI (by unfold mNext; rw [if_pos (by omega)]))
theorem c_layMeans {d : Nat} {h : ab_H} {Q : ab_Q} {l : Nat} {ob : Int} (hl : 1 ≤ l) (hl2 : l ≤ 9) (ho : 0 ≤ ob ∧ ob ≤ 100) (K : ∀ h', wmI h h' 217 l ob 21 → Q none h') : ab_X d mX12_layMeans 0 (lv_args 0 [.ref 200, .int (iI (l : Int)), .int (iI ob)]) [] h Q := by
  show ab_X d mX12_layMeans 0 [(0, .ref 200), (1, .int (iI (l : Int))), (2, .int (iI ob))] [] h Q
  refine z_iconst dX12_layMeans_0 ?_
  refine ab_istore_n (ls' := [(3, .int (iI 0)), (0, .ref 200), (1, .int (iI (l : Int))), (2, .int (iI ob))]) dX12_layMeans_1 rfl (by decide) rfl ?_
  refine ab_sub (ls' := [(0, .ref 200), (1, .int (iI (l : Int))), (2, .int (iI ob)), (3, .int (iI 0))]) (ks := [1, 2, 3, 0]) rfl ?_
  exact lp_layMeans hl hl2 ho K _ 0 h rfl (by omega) ⟨sm.refl, fun j hj => by omega⟩
theorem gAt_le {fr : Nat → Bool} {y : Nat} : gAt fr y ≤ 40 := by unfold gAt; split; exact rr_le fr 40 y; omega
theorem gAt_n {h : ab_H} {n y : Nat} (hn : n ≤ 20) : gAt (mfr h n) y ≤ 20 := by
  rcases Nat.lt_or_ge 20 (gAt (mfr h n) y) with q | q
  · unfold gAt at q
    split at q
    · exact absurd (rr_in (mfr h n) 40 y 20 q) (mfr_end (by omega))
    · omega
  · exact q
theorem lp_meanNow {d : Nat} {Q : ab_Q} {h0 : ab_H} {n s : Nat} {ob : Int} {t : Nat → Int} (hn : zv h0 200 32 = n) (hn2 : n ≤ 20) (hT : ∀ j, j ≤ 20 → wv h0 217 j = t j) (K : Q (some (.long (lL (sT (fun y => t (gAt (mfr h0 n) y)) n)))) h0) : ∀ (nn : Nat) (y : Nat) (a : Int) (h : ab_H), n - y = nn → (h = h0) → (y ≤ n) → (a = sT (fun y => t (gAt (mfr h0 n) y)) y) → ab_X (d + 4) mX12_meanNow 15 [(0, .ref 200), (1, .int (iI (s : Int))), (2, .int (iI ob)), (3, .long (lL a)), (5, .int (iI (y : Int)))] [] h Q := by
  intro nn
  induction nn using Nat.strongRecOn with
  | ind nn ih =>
  intro y a h hnn hh h2 ha
  subst hh
  have hgn := gAt_n (h := h) (n := n) (y := y) hn2
  refine ab_iload (k := 4) dX12_meanNow_15 rfl ?_
  refine ab_aload_n (k := 0) dX12_meanNow_17 rfl rfl ?_
  refine z_getI dX12_meanNow_18 fX12_290 rfl (Or.inl rfl) ?_
  refine z_is (y := (n : Int)) hn ?_
  refine z_icmp_ge (tgt := 44) dX12_meanNow_21 (by decide) (by omega) (by omega) (fun c21 => ?_) (fun c21 => ?_)
  · skip
    refine ab_lload_n (k := 3) dX12_meanNow_44 rfl rfl ?_
    refine z_lret dX12_meanNow_45 rfl ?_
    have e : y = n := by omega
    subst e
    rw [ha]
    exact K
  · skip
    refine ab_lload_n (k := 3) dX12_meanNow_24 rfl rfl ?_
    refine ab_aload_n (k := 0) dX12_meanNow_25 rfl rfl ?_
    refine z_getP (b := 217) dX12_meanNow_26 fX12_77 rfl rfl rfl ?_
    refine ab_aload_n (k := 0) dX12_meanNow_29 rfl rfl ?_
    refine ab_iload (k := 4) dX12_meanNow_30 rfl ?_
    refine ab_callV (As := [.int (iI (y : Int))]) (rest := [.ref 217, .long (lL a)]) dX12_meanNow_32 lX12_379 rfl (Nat.le_of_ble_eq_true rfl) (Nat.le_of_ble_eq_true rfl) rfl ?_
    refine c_gapAt hn hn2 (by omega) ?_
    have bg := gAt_le (fr := mfr h n) (y := y)
    show ab_X (d + 4) mX12_meanNow 35 [(0, .ref 200), (1, .int (iI (s : Int))), (2, .int (iI ob)), (3, .long (lL a)), (5, .int (iI (y : Int)))] [.int (iI ((gAt (mfr h n) y : Nat) : Int)), .ref 217, .long (lL a)] h _
    refine z_lald dX12_meanNow_35 rfl (by omega) (by omega) ?_
    simp only [Int.toNat_natCast]
    refine z_isl (y := t (gAt (mfr h n) y)) (hT _ hgn) ?_
    refine z_ladd dX12_meanNow_36 ?_
    refine ab_lstore_n (ls' := [(3, .long (lL (a + (t (gAt (mfr h n) y))))), (0, .ref 200), (1, .int (iI (s : Int))), (2, .int (iI ob)), (5, .int (iI (y : Int)))]) dX12_meanNow_37 rfl (by decide) rfl ?_
    refine z_iinc (k := 4) (v := (y : Int) + 1) (ls' := [(5, .int (iI ((y : Int) + 1))), (3, .long (lL (a + (t (gAt (mfr h n) y))))), (0, .ref 200), (1, .int (iI (s : Int))), (2, .int (iI ob))]) dX12_meanNow_38 rfl rfl (by decide) rfl ?_
    refine ab_goto (tgt := 15) dX12_meanNow_41 (by decide) ?_
    refine ab_sub (ls' := [(0, .ref 200), (1, .int (iI (s : Int))), (2, .int (iI ob)), (3, .long (lL (a + (t (gAt (mfr h n) y))))), (5, .int (iI ((y : Int) + 1)))]) (ks := [2, 3, 4, 1, 0]) rfl ?_
    exact ih _ (by omega) (y + 1) _ h rfl rfl (by omega) (by rw [ha, sT_s])
theorem c_meanNow {d : Nat} {h : ab_H} {Q : ab_Q} {n s L : Nat} {ob : Int} (hn : zv h 200 32 = n) (hn2 : n ≤ 20) (hs : s < 4) (hL : zv h 207 (2 * s) = L) (hL2 : 1 ≤ L ∧ L ≤ 9) (ho : 0 ≤ ob ∧ ob ≤ 100) (K : ∀ h1, wmI h h1 217 L ob 21 → Q (some (.long (lL (sT (fun y => mTb L ob 21 (gAt (mfr h1 n) y)) n)))) h1) : ab_X (d + 4) mX12_meanNow 0 (lv_args 0 [.ref 200, .int (iI (s : Int)), .int (iI ob)]) [] h Q := by
  show ab_X (d + 4) mX12_meanNow 0 [(0, .ref 200), (1, .int (iI (s : Int))), (2, .int (iI ob))] [] h Q
  refine ab_aload_n (k := 0) dX12_meanNow_0 rfl rfl ?_
  refine ab_aload_n (k := 0) dX12_meanNow_1 rfl rfl ?_
  refine ab_iload_n (k := 1) dX12_meanNow_2 rfl rfl ?_
  refine ab_callV (As := [.int (iI (s : Int))]) (rest := [.ref 200]) dX12_meanNow_3 lX12_312 rfl (Nat.le_of_ble_eq_true rfl) (Nat.le_of_ble_eq_true rfl) rfl ?_
  refine c_mlengthOf (by omega) ?_
  have bl3 := zv_R h 207 (2 * s)
  show ab_X (d + 4) mX12_meanNow 6 [(0, .ref 200), (1, .int (iI (s : Int))), (2, .int (iI ob))] [.int (iI (zv h 207 (2 * s))), .ref 200] h _
  refine z_is (y := (L : Int)) hL ?_
  refine ab_iload_n (k := 2) dX12_meanNow_6 rfl rfl ?_
  refine ab_callV (As := [.int (iI (L : Int)), .int (iI ob)]) (rest := []) dX12_meanNow_7 lX12_376 rfl (Nat.le_of_ble_eq_true rfl) (Nat.le_of_ble_eq_true rfl) rfl ?_
  refine c_layMeans (l := L) (by omega) (by omega) ho (fun h1 hw1 => ?_)
  show ab_X (d + 4) mX12_meanNow 10 [(0, .ref 200), (1, .int (iI (s : Int))), (2, .int (iI ob))] [] h1 _
  refine z_lconst (v := 0) dX12_meanNow_10 (by decide) ?_
  refine ab_lstore_n (ls' := [(3, .long (lL 0)), (0, .ref 200), (1, .int (iI (s : Int))), (2, .int (iI ob))]) dX12_meanNow_11 rfl (by decide) rfl ?_
  refine z_iconst dX12_meanNow_12 ?_
  refine ab_istore (ls' := [(5, .int (iI 0)), (3, .long (lL 0)), (0, .ref 200), (1, .int (iI (s : Int))), (2, .int (iI ob))]) dX12_meanNow_13 (by decide) rfl ?_
  refine ab_sub (ls' := [(0, .ref 200), (1, .int (iI (s : Int))), (2, .int (iI ob)), (3, .long (lL 0)), (5, .int (iI 0))]) (ks := [2, 3, 4, 1, 0]) rfl ?_
  exact lp_meanNow (t := mTb L ob 21) ((hw1.1.1 200 32 (by decide)).trans hn) hn2 (fun j hj => hw1.2 j (by omega)) (K h1 hw1) _ 0 0 h1 rfl rfl (by omega) rfl
theorem c_isSeek {d : Nat} {h : ab_H} {Q : ab_Q} {n c e w r : Int} (h1 : inR n) (h2 : inR c) (h3 : inR e) (h4 : inR w) (h5 : inR r) (k1 : 1 ≤ n ∧ n ≤ 50 ∧ 0 ≤ c ∧ c ≤ 100 ∧ 0 ≤ e ∧ e ≤ 50 ∧ 0 ≤ w ∧ w ≤ 99 ∧ 0 ≤ r ∧ r ≤ 9999 → Q (some (.int (iI 1))) h) (k0 : ¬ (1 ≤ n ∧ n ≤ 50 ∧ 0 ≤ c ∧ c ≤ 100 ∧ 0 ≤ e ∧ e ≤ 50 ∧ 0 ≤ w ∧ w ≤ 99 ∧ 0 ≤ r ∧ r ≤ 9999) → Q (some (.int (iI 0))) h) : ab_X (d + 1) mX12_isSeek 0 (lv_args 0 [.ref 200, .int (iI n), .int (iI c), .int (iI e), .int (iI w), .int (iI r)]) [] h Q := by
  show ab_X (d + 1) mX12_isSeek 0 [(0, .ref 200), (1, .int (iI n)), (2, .int (iI c)), (3, .int (iI e)), (4, .int (iI w)), (5, .int (iI r))] [] h Q
  refine ab_iload_n (k := 1) dX12_isSeek_0 rfl rfl ?_
  refine z_i2l dX12_isSeek_1 (by omega) ?_
  refine z_lconst (v := 1) dX12_isSeek_2 (by decide) ?_
  refine z_ldc2 (v := 50) dX12_isSeek_3 qX12_434 (by decide) ?_
  refine ab_callS (As := [.long (lL n), .long (lL 1), .long (lL 50)]) (rest := []) dX12_isSeek_6 lX12_232 (Nat.le_of_ble_eq_true rfl) (Nat.le_of_ble_eq_true rfl) rfl ?_
  refine c_isIn (by omega) (by omega) (by omega) (fun g6 => ?_) (fun g6 => ?_)
  · skip
    try simp only [Int.toNat_natCast] at g6
    have gL := g6
    show ab_X (d + 1) mX12_isSeek 9 [(0, .ref 200), (1, .int (iI n)), (2, .int (iI c)), (3, .int (iI e)), (4, .int (iI w)), (5, .int (iI r))] [.int (iI 1)] h _
    refine z_if_eq (tgt := 66) dX12_isSeek_9 (by decide) (by decide) (fun c9 => absurd c9 (by decide)) (fun _ => ?_)
    refine ab_iload_n (k := 2) dX12_isSeek_12 rfl rfl ?_
    refine z_i2l dX12_isSeek_13 (by omega) ?_
    refine z_lconst (v := 0) dX12_isSeek_14 (by decide) ?_
    refine z_ldc2 (v := 100) dX12_isSeek_15 qX12_310 (by decide) ?_
    refine ab_callS (As := [.long (lL c), .long (lL 0), .long (lL 100)]) (rest := []) dX12_isSeek_18 lX12_232 (Nat.le_of_ble_eq_true rfl) (Nat.le_of_ble_eq_true rfl) rfl ?_
    refine c_isIn (by omega) (by omega) (by omega) (fun g18 => ?_) (fun g18 => ?_)
    · skip
      try simp only [Int.toNat_natCast] at g18
      have gL := g18
      show ab_X (d + 1) mX12_isSeek 21 [(0, .ref 200), (1, .int (iI n)), (2, .int (iI c)), (3, .int (iI e)), (4, .int (iI w)), (5, .int (iI r))] [.int (iI 1)] h _
      refine z_if_eq (tgt := 66) dX12_isSeek_21 (by decide) (by decide) (fun c21 => absurd c21 (by decide)) (fun _ => ?_)
      refine ab_iload_n (k := 3) dX12_isSeek_24 rfl rfl ?_
      refine z_i2l dX12_isSeek_25 (by omega) ?_
      refine z_lconst (v := 0) dX12_isSeek_26 (by decide) ?_
      refine z_ldc2 (v := 50) dX12_isSeek_27 qX12_434 (by decide) ?_
      refine ab_callS (As := [.long (lL e), .long (lL 0), .long (lL 50)]) (rest := []) dX12_isSeek_30 lX12_232 (Nat.le_of_ble_eq_true rfl) (Nat.le_of_ble_eq_true rfl) rfl ?_
      refine c_isIn (by omega) (by omega) (by omega) (fun g30 => ?_) (fun g30 => ?_)
      · skip
        try simp only [Int.toNat_natCast] at g30
        have gL := g30
        show ab_X (d + 1) mX12_isSeek 33 [(0, .ref 200), (1, .int (iI n)), (2, .int (iI c)), (3, .int (iI e)), (4, .int (iI w)), (5, .int (iI r))] [.int (iI 1)] h _
        refine z_if_eq (tgt := 66) dX12_isSeek_33 (by decide) (by decide) (fun c33 => absurd c33 (by decide)) (fun _ => ?_)
        refine ab_iload (k := 4) dX12_isSeek_36 rfl ?_
        refine z_i2l dX12_isSeek_38 (by omega) ?_
        refine z_lconst (v := 0) dX12_isSeek_39 (by decide) ?_
        refine z_ldc2 (v := 99) dX12_isSeek_40 qX12_436 (by decide) ?_
        refine ab_callS (As := [.long (lL w), .long (lL 0), .long (lL 99)]) (rest := []) dX12_isSeek_43 lX12_232 (Nat.le_of_ble_eq_true rfl) (Nat.le_of_ble_eq_true rfl) rfl ?_
        refine c_isIn (by omega) (by omega) (by omega) (fun g43 => ?_) (fun g43 => ?_)
        · skip
          try simp only [Int.toNat_natCast] at g43
          have gL := g43
          show ab_X (d + 1) mX12_isSeek 46 [(0, .ref 200), (1, .int (iI n)), (2, .int (iI c)), (3, .int (iI e)), (4, .int (iI w)), (5, .int (iI r))] [.int (iI 1)] h _
          refine z_if_eq (tgt := 66) dX12_isSeek_46 (by decide) (by decide) (fun c46 => absurd c46 (by decide)) (fun _ => ?_)
          refine ab_iload (k := 5) dX12_isSeek_49 rfl ?_
          refine z_i2l dX12_isSeek_51 (by omega) ?_
          refine z_lconst (v := 0) dX12_isSeek_52 (by decide) ?_
          refine z_ldc2 (v := 9999) dX12_isSeek_53 qX12_438 (by decide) ?_
          refine ab_callS (As := [.long (lL r), .long (lL 0), .long (lL 9999)]) (rest := []) dX12_isSeek_56 lX12_232 (Nat.le_of_ble_eq_true rfl) (Nat.le_of_ble_eq_true rfl) rfl ?_
          refine c_isIn (by omega) (by omega) (by omega) (fun g56 => ?_) (fun g56 => ?_)
          · skip
            try simp only [Int.toNat_natCast] at g56
            have gL := g56
            show ab_X (d + 1) mX12_isSeek 59 [(0, .ref 200), (1, .int (iI n)), (2, .int (iI c)), (3, .int (iI e)), (4, .int (iI w)), (5, .int (iI r))] [.int (iI 1)] h _
            refine z_if_eq (tgt := 66) dX12_isSeek_59 (by decide) (by decide) (fun c59 => absurd c59 (by decide)) (fun _ => ?_)
            refine z_iconst dX12_isSeek_62 ?_
            refine ab_goto (tgt := 67) dX12_isSeek_63 (by decide) ?_
            refine z_zret dX12_isSeek_67 rfl (Or.inr rfl) ?_
            first | exact k1 (by omega) | exact k0 (by omega)
          · skip
            try simp only [Int.toNat_natCast] at g56
            have gL := g56
            show ab_X (d + 1) mX12_isSeek 59 [(0, .ref 200), (1, .int (iI n)), (2, .int (iI c)), (3, .int (iI e)), (4, .int (iI w)), (5, .int (iI r))] [.int (iI 0)] h _
            refine z_if_eq (tgt := 66) dX12_isSeek_59 (by decide) (by decide) (fun _ => ?_) (fun c59 => absurd c59 (by decide))
            refine z_iconst dX12_isSeek_66 ?_
            refine z_zret dX12_isSeek_67 rfl (Or.inl rfl) ?_
            first | exact k1 (by omega) | exact k0 (by omega)
        · skip
          try simp only [Int.toNat_natCast] at g43
          have gL := g43
          show ab_X (d + 1) mX12_isSeek 46 [(0, .ref 200), (1, .int (iI n)), (2, .int (iI c)), (3, .int (iI e)), (4, .int (iI w)), (5, .int (iI r))] [.int (iI 0)] h _
          refine z_if_eq (tgt := 66) dX12_isSeek_46 (by decide) (by decide) (fun _ => ?_) (fun c46 => absurd c46 (by decide))
          refine z_iconst dX12_isSeek_66 ?_
          refine z_zret dX12_isSeek_67 rfl (Or.inl rfl) ?_
          first | exact k1 (by omega) | exact k0 (by omega)
      · skip
        try simp only [Int.toNat_natCast] at g30
        have gL := g30
        show ab_X (d + 1) mX12_isSeek 33 [(0, .ref 200), (1, .int (iI n)), (2, .int (iI c)), (3, .int (iI e)), (4, .int (iI w)), (5, .int (iI r))] [.int (iI 0)] h _
        refine z_if_eq (tgt := 66) dX12_isSeek_33 (by decide) (by decide) (fun _ => ?_) (fun c33 => absurd c33 (by decide))
        refine z_iconst dX12_isSeek_66 ?_
        refine z_zret dX12_isSeek_67 rfl (Or.inl rfl) ?_
        first | exact k1 (by omega) | exact k0 (by omega)
    · skip
      try simp only [Int.toNat_natCast] at g18
      have gL := g18
      show ab_X (d + 1) mX12_isSeek 21 [(0, .ref 200), (1, .int (iI n)), (2, .int (iI c)), (3, .int (iI e)), (4, .int (iI w)), (5, .int (iI r))] [.int (iI 0)] h _
      refine z_if_eq (tgt := 66) dX12_isSeek_21 (by decide) (by decide) (fun _ => ?_) (fun c21 => absurd c21 (by decide))
      refine z_iconst dX12_isSeek_66 ?_
      refine z_zret dX12_isSeek_67 rfl (Or.inl rfl) ?_
      first | exact k1 (by omega) | exact k0 (by omega)
  · skip
    try simp only [Int.toNat_natCast] at g6
    have gL := g6
    show ab_X (d + 1) mX12_isSeek 9 [(0, .ref 200), (1, .int (iI n)), (2, .int (iI c)), (3, .int (iI e)), (4, .int (iI w)), (5, .int (iI r))] [.int (iI 0)] h _
    refine z_if_eq (tgt := 66) dX12_isSeek_9 (by decide) (by decide) (fun _ => ?_) (fun c9 => absurd c9 (by decide))
    refine z_iconst dX12_isSeek_66 ?_
    refine z_zret dX12_isSeek_67 rfl (Or.inl rfl) ?_
    first | exact k1 (by omega) | exact k0 (by omega)
theorem lp_costOf {d : Nat} {Q : ab_Q} {h0 : ab_H} {n : Nat} {c e w r : Int} (hk : 1 ≤ (n : Int) ∧ (n : Int) ≤ 50 ∧ 0 ≤ c ∧ c ≤ 100 ∧ 0 ≤ e ∧ e ≤ 50 ∧ 0 ≤ w ∧ w ≤ 99 ∧ 0 ≤ r ∧ r ≤ 9999) (K : ∀ h', sm [200] h0 h' → (∀ j, j ≠ 50 → zv h' 200 j = zv h0 200 j) → zv h' 200 50 = (skF c e w n (1000 * r) (-1)).2 → Q (some (.int (iI (skF c e w n (1000 * r) (-1)).1))) h') : ∀ (nn : Nat) (p : Nat) (b : Int) (f : Int) (h : ab_H), p = nn → (sm [200] h0 h ∧ (∀ j, j ≠ 50 → zv h 200 j = zv h0 200 j) ∧ zv h 200 50 = f) → (p ≤ n) → (0 ≤ b ∧ b ≤ 9999000) → (-1 ≤ f ∧ f ≤ 50) → (skF c e w p b f = (skF c e w n (1000 * r) (-1))) → ab_X (d + 1) mX12_costOf 16 [(0, .ref 200), (1, .int (iI (n : Int))), (2, .int (iI c)), (3, .int (iI e)), (4, .int (iI w)), (5, .int (iI r)), (6, .int (iI b)), (7, .int (iI (p : Int)))] [] h Q := by
  intro nn
  induction nn using Nat.strongRecOn with
  | ind nn ih =>
  intro p b f h hnn hh hp hb hf he
  refine ab_iload (k := 7) dX12_costOf_16 rfl ?_
  refine z_if_le (tgt := 85) dX12_costOf_18 (by decide) (by omega) (fun c18 => ?_) (fun c18 => ?_)
  · skip
    refine ab_iload (k := 6) dX12_costOf_85 rfl ?_
    refine z_iret dX12_costOf_87 rfl ?_
    have e9 : p = 0 := by omega
    subst e9
    have hs := hh.2.2
    exact K h hh.1 hh.2.1 (by rw [hs, ← he]; rfl) |> fun z => by rw [← he] at z; exact z
  · skip
    refine z_sipush dX12_costOf_21 (by decide) ?_
    refine ab_iload (k := 4) dX12_costOf_24 rfl ?_
    refine z_imul dX12_costOf_26 ?_
    refine ab_iload (k := 7) dX12_costOf_27 rfl ?_
    refine ab_iload_n (k := 3) dX12_costOf_29 rfl rfl ?_
    refine z_isub dX12_costOf_30 ?_
    refine z_mabs dX12_costOf_31 lX12_416 (Nat.le_of_ble_eq_true rfl) (by omega) ?_
    refine z_imul dX12_costOf_34 ?_
    refine z_is (y := sk1 w e (p : Int)) rfl ?_
    refine ab_istore (ls' := [(8, .int (iI (sk1 w e (p : Int)))), (0, .ref 200), (1, .int (iI (n : Int))), (2, .int (iI c)), (3, .int (iI e)), (4, .int (iI w)), (5, .int (iI r)), (6, .int (iI b)), (7, .int (iI (p : Int)))]) dX12_costOf_35 (by decide) rfl ?_
    have hs1 := sk1_b (w := w) (e := e) (p := (p : Int)) (by omega) (by omega) (by omega)
    refine ab_iload (k := 0) dX12_costOf_37 rfl ?_
    refine ab_iload (k := 7) dX12_costOf_39 rfl ?_
    refine z_icmp_gt (tgt := 50) dX12_costOf_41 (by decide) (by omega) (by omega) (fun c41 => ?_) (fun c41 => ?_)
    · skip
      have hs2 := skm_b (c := c) (x := min (sk1 w e (p : Int)) b) (b := b) (by omega) (by omega) hb (by omega)
      refine ab_iload_n (k := 3) dX12_costOf_50 rfl rfl ?_
      refine z_i2l dX12_costOf_51 (by omega) ?_
      refine ab_iload (k := 0) dX12_costOf_52 rfl ?_
      refine ab_iload (k := 7) dX12_costOf_54 rfl ?_
      refine z_mmin dX12_costOf_56 lX12_327 (Nat.le_of_ble_eq_true rfl) (by omega) (by omega) ?_
      refine z_i2l dX12_costOf_59 (by omega) ?_
      refine z_lmul dX12_costOf_60 ?_
      refine z_ldc2 (v := 100) dX12_costOf_61 qX12_310 (by decide) ?_
      refine ab_iload_n (k := 3) dX12_costOf_64 rfl rfl ?_
      refine z_i2l dX12_costOf_65 (by omega) ?_
      refine z_lsub dX12_costOf_66 ?_
      refine ab_iload (k := 7) dX12_costOf_67 rfl ?_
      refine z_i2l dX12_costOf_69 (by omega) ?_
      refine z_lmul dX12_costOf_70 ?_
      refine z_ladd dX12_costOf_71 ?_
      refine z_ldc2 (v := 100) dX12_costOf_72 qX12_310 (by decide) ?_
      refine z_ldiv dX12_costOf_75 (by omega) (by decide) (by decide) ?_
      refine z_l2i dX12_costOf_76 ?_
      refine ab_istore (ls' := [(6, .int (iI (Int.tdiv ((c * (min (sk1 w e (p : Int)) b)) + ((100 - c) * b)) 100))), (8, .int (iI (sk1 w e (p : Int)))), (0, .ref 200), (1, .int (iI (n : Int))), (2, .int (iI c)), (3, .int (iI e)), (4, .int (iI w)), (5, .int (iI r)), (7, .int (iI (p : Int)))]) dX12_costOf_77 (by decide) rfl ?_
      refine z_iinc (k := 8) (v := (p : Int) + (-1)) (ls' := [(7, .int (iI ((p : Int) + (-1)))), (6, .int (iI (Int.tdiv ((c * (min (sk1 w e (p : Int)) b)) + ((100 - c) * b)) 100))), (8, .int (iI (sk1 w e (p : Int)))), (0, .ref 200), (1, .int (iI (n : Int))), (2, .int (iI c)), (3, .int (iI e)), (4, .int (iI w)), (5, .int (iI r))]) dX12_costOf_79 rfl rfl (by decide) rfl ?_
      refine ab_goto (tgt := 16) dX12_costOf_82 (by decide) ?_
      refine ab_sub (ls' := [(0, .ref 200), (1, .int (iI (n : Int))), (2, .int (iI c)), (3, .int (iI e)), (4, .int (iI w)), (5, .int (iI r)), (6, .int (iI (Int.tdiv ((c * (min (sk1 w e (p : Int)) b)) + ((100 - c) * b)) 100))), (7, .int (iI ((p : Int) + (-1))))]) (ks := [3, 4, 5, 6, 7, 8, 1, 0]) rfl ?_
      obtain ⟨q, rfl⟩ : ∃ z : Nat, p = z + 1 := ⟨p - 1, by omega⟩
      have e9 : (((q + 1 : Nat) : Int) + (-1)) = (q : Int) := by omega
      rw [e9]
      exact ih _ (by omega) q _ f _ rfl hh (by omega) (tdiv100 ⟨hs2.1, hs2.2.1⟩) hf (by rw [← he, skF_s, if_neg (by omega)])
    · skip
      refine ab_aload_n (k := 1) dX12_costOf_44 rfl rfl ?_
      refine ab_iload (k := 8) dX12_costOf_45 rfl ?_
      refine z_putI dX12_costOf_47 fX12_440 rfl rfl ?_
      have hs2 := skm_b (c := c) (x := min (sk1 w e (p : Int)) b) (b := b) (by omega) (by omega) hb (by omega)
      refine ab_iload_n (k := 3) dX12_costOf_50 rfl rfl ?_
      refine z_i2l dX12_costOf_51 (by omega) ?_
      refine ab_iload (k := 0) dX12_costOf_52 rfl ?_
      refine ab_iload (k := 7) dX12_costOf_54 rfl ?_
      refine z_mmin dX12_costOf_56 lX12_327 (Nat.le_of_ble_eq_true rfl) (by omega) (by omega) ?_
      refine z_i2l dX12_costOf_59 (by omega) ?_
      refine z_lmul dX12_costOf_60 ?_
      refine z_ldc2 (v := 100) dX12_costOf_61 qX12_310 (by decide) ?_
      refine ab_iload_n (k := 3) dX12_costOf_64 rfl rfl ?_
      refine z_i2l dX12_costOf_65 (by omega) ?_
      refine z_lsub dX12_costOf_66 ?_
      refine ab_iload (k := 7) dX12_costOf_67 rfl ?_
      refine z_i2l dX12_costOf_69 (by omega) ?_
      refine z_lmul dX12_costOf_70 ?_
      refine z_ladd dX12_costOf_71 ?_
      refine z_ldc2 (v := 100) dX12_costOf_72 qX12_310 (by decide) ?_
      refine z_ldiv dX12_costOf_75 (by omega) (by decide) (by decide) ?_
      refine z_l2i dX12_costOf_76 ?_
      refine ab_istore (ls' := [(6, .int (iI (Int.tdiv ((c * (min (sk1 w e (p : Int)) b)) + ((100 - c) * b)) 100))), (8, .int (iI (sk1 w e (p : Int)))), (0, .ref 200), (1, .int (iI (n : Int))), (2, .int (iI c)), (3, .int (iI e)), (4, .int (iI w)), (5, .int (iI r)), (7, .int (iI (p : Int)))]) dX12_costOf_77 (by decide) rfl ?_
      refine z_iinc (k := 8) (v := (p : Int) + (-1)) (ls' := [(7, .int (iI ((p : Int) + (-1)))), (6, .int (iI (Int.tdiv ((c * (min (sk1 w e (p : Int)) b)) + ((100 - c) * b)) 100))), (8, .int (iI (sk1 w e (p : Int)))), (0, .ref 200), (1, .int (iI (n : Int))), (2, .int (iI c)), (3, .int (iI e)), (4, .int (iI w)), (5, .int (iI r))]) dX12_costOf_79 rfl rfl (by decide) rfl ?_
      refine ab_goto (tgt := 16) dX12_costOf_82 (by decide) ?_
      refine ab_sub (ls' := [(0, .ref 200), (1, .int (iI (n : Int))), (2, .int (iI c)), (3, .int (iI e)), (4, .int (iI w)), (5, .int (iI r)), (6, .int (iI (Int.tdiv ((c * (min (sk1 w e (p : Int)) b)) + ((100 - c) * b)) 100))), (7, .int (iI ((p : Int) + (-1))))]) (ks := [3, 4, 5, 6, 7, 8, 1, 0]) rfl ?_
      obtain ⟨q, rfl⟩ : ∃ z : Nat, p = z + 1 := ⟨p - 1, by omega⟩
      have e9 : (((q + 1 : Nat) : Int) + (-1)) = (q : Int) := by omega
      rw [e9]
      exact ih _ (by omega) q _ ((q + 1 : Nat) : Int) _ rfl ⟨hh.1.trans (sm_zp (by decide)), fun j hj => (zv_zp_ne (fun z => hj z.2)).trans (hh.2.1 j hj), zv_zp_s (by omega)⟩ (by omega) (tdiv100 ⟨hs2.1, hs2.2.1⟩) (by omega) (by rw [← he, skF_s, if_pos (by omega)])
