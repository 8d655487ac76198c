/-! FAULT AND TEXT of the class -/
theorem sm_zc {l : List Nat} {h : ab_H} {a b n : Nat} (hb : b ∈ l) : sm l h (zc h a b n) := ⟨fun c j hc => zv_zc_a (fun e => hc (e ▸ hb)), fun _ _ _ => rfl, rfl⟩
theorem c_rcopy0 {d : Nat} {h : ab_H} {Q : ab_Q}  (K : ∀ h', sm [20, 21, 22] h h' → zv h' 20 3 = zv h 11 3 → (∀ j, j < 160 → zv h' 21 j = zv h 12 j ∧ zv h' 22 j = zv h 13 j) → Q none h') : ab_X (d + 1) mX7_copy 0 (lv_args 0 [.ref 20, .ref 11]) [] h Q := by
  show ab_X (d + 1) mX7_copy 0 [(0, .ref 20), (1, .ref 11)] [] h Q
  refine ab_aload_n (k := 0) dX7_copy_0 rfl rfl ?_
  refine ab_aload_n (k := 1) dX7_copy_1 rfl rfl ?_
  refine z_getI dX7_copy_2 fX7_21 rfl (Or.inl rfl) ?_
  have b1 := zv_R h 11 3
  refine z_putI dX7_copy_5 fX7_21 rfl rfl ?_
  refine ab_aload_n (k := 1) dX7_copy_8 rfl rfl ?_
  refine z_getP (b := 12) dX7_copy_9 fX7_9 rfl rfl rfl ?_
  refine z_iconst dX7_copy_12 ?_
  refine ab_aload_n (k := 0) dX7_copy_13 rfl rfl ?_
  refine z_getP (b := 21) dX7_copy_14 fX7_9 rfl rfl rfl ?_
  refine z_iconst dX7_copy_17 ?_
  refine z_sipush dX7_copy_18 (by decide) ?_
  refine ab_acpi dX7_copy_21 lX7_25 (Nat.le_of_ble_eq_true rfl) rfl rfl (by decide) (by decide) (by decide) (Nat.le_of_ble_eq_true rfl) (Nat.le_of_ble_eq_true rfl) ?_
  show ab_X (d + 1) mX7_copy 24 [(0, .ref 20), (1, .ref 11)] [] (zc (zp h 20 3 (zv h 11 3)) 12 21 160) _
  refine ab_aload_n (k := 1) dX7_copy_24 rfl rfl ?_
  refine z_getP (b := 13) dX7_copy_25 fX7_15 rfl rfl rfl ?_
  refine z_iconst dX7_copy_28 ?_
  refine ab_aload_n (k := 0) dX7_copy_29 rfl rfl ?_
  refine z_getP (b := 22) dX7_copy_30 fX7_15 rfl rfl rfl ?_
  refine z_iconst dX7_copy_33 ?_
  refine z_sipush dX7_copy_34 (by decide) ?_
  refine ab_acpi dX7_copy_37 lX7_25 (Nat.le_of_ble_eq_true rfl) rfl rfl (by decide) (by decide) (by decide) (Nat.le_of_ble_eq_true rfl) (Nat.le_of_ble_eq_true rfl) ?_
  show ab_X (d + 1) mX7_copy 40 [(0, .ref 20), (1, .ref 11)] [] (zc (zc (zp h 20 3 (zv h 11 3)) 12 21 160) 13 22 160) _
  refine z_vret dX7_copy_40 rfl ?_
  refine K _ (((sm_zp (by decide)).trans (sm_zc (by decide))).trans (sm_zc (by decide))) ?_ (fun j hj => ⟨?_, ?_⟩)
  · rw [zv_zc_a (by decide), zv_zc_a (by decide), zv_zp_s (zv_R _ _ _)]
  · rw [zv_zc_a (by decide), zv_zc, if_pos rfl, if_pos hj, zv_zp_a (by decide)]
  · rw [zv_zc, if_pos rfl, if_pos hj, zv_zc_a (by decide), zv_zp_a (by decide)]
theorem c_rcopy1 {d : Nat} {h : ab_H} {Q : ab_Q}  (K : ∀ h', sm [24, 25, 26] h h' → zv h' 24 3 = zv h 11 3 → (∀ j, j < 160 → zv h' 25 j = zv h 12 j ∧ zv h' 26 j = zv h 13 j) → Q none h') : ab_X (d + 1) mX7_copy 0 (lv_args 0 [.ref 24, .ref 11]) [] h Q := by
  show ab_X (d + 1) mX7_copy 0 [(0, .ref 24), (1, .ref 11)] [] h Q
  refine ab_aload_n (k := 0) dX7_copy_0 rfl rfl ?_
  refine ab_aload_n (k := 1) dX7_copy_1 rfl rfl ?_
  refine z_getI dX7_copy_2 fX7_21 rfl (Or.inl rfl) ?_
  have b1 := zv_R h 11 3
  refine z_putI dX7_copy_5 fX7_21 rfl rfl ?_
  refine ab_aload_n (k := 1) dX7_copy_8 rfl rfl ?_
  refine z_getP (b := 12) dX7_copy_9 fX7_9 rfl rfl rfl ?_
  refine z_iconst dX7_copy_12 ?_
  refine ab_aload_n (k := 0) dX7_copy_13 rfl rfl ?_
  refine z_getP (b := 25) dX7_copy_14 fX7_9 rfl rfl rfl ?_
  refine z_iconst dX7_copy_17 ?_
  refine z_sipush dX7_copy_18 (by decide) ?_
  refine ab_acpi dX7_copy_21 lX7_25 (Nat.le_of_ble_eq_true rfl) rfl rfl (by decide) (by decide) (by decide) (Nat.le_of_ble_eq_true rfl) (Nat.le_of_ble_eq_true rfl) ?_
  show ab_X (d + 1) mX7_copy 24 [(0, .ref 24), (1, .ref 11)] [] (zc (zp h 24 3 (zv h 11 3)) 12 25 160) _
  refine ab_aload_n (k := 1) dX7_copy_24 rfl rfl ?_
  refine z_getP (b := 13) dX7_copy_25 fX7_15 rfl rfl rfl ?_
  refine z_iconst dX7_copy_28 ?_
  refine ab_aload_n (k := 0) dX7_copy_29 rfl rfl ?_
  refine z_getP (b := 26) dX7_copy_30 fX7_15 rfl rfl rfl ?_
  refine z_iconst dX7_copy_33 ?_
  refine z_sipush dX7_copy_34 (by decide) ?_
  refine ab_acpi dX7_copy_37 lX7_25 (Nat.le_of_ble_eq_true rfl) rfl rfl (by decide) (by decide) (by decide) (Nat.le_of_ble_eq_true rfl) (Nat.le_of_ble_eq_true rfl) ?_
  show ab_X (d + 1) mX7_copy 40 [(0, .ref 24), (1, .ref 11)] [] (zc (zc (zp h 24 3 (zv h 11 3)) 12 25 160) 13 26 160) _
  refine z_vret dX7_copy_40 rfl ?_
  refine K _ (((sm_zp (by decide)).trans (sm_zc (by decide))).trans (sm_zc (by decide))) ?_ (fun j hj => ⟨?_, ?_⟩)
  · rw [zv_zc_a (by decide), zv_zc_a (by decide), zv_zp_s (zv_R _ _ _)]
  · rw [zv_zc_a (by decide), zv_zc, if_pos rfl, if_pos hj, zv_zp_a (by decide)]
  · rw [zv_zc, if_pos rfl, if_pos hj, zv_zc_a (by decide), zv_zp_a (by decide)]
theorem c_rcopy2 {d : Nat} {h : ab_H} {Q : ab_Q}  (K : ∀ h', sm [28, 29, 30] h h' → zv h' 28 3 = zv h 11 3 → (∀ j, j < 160 → zv h' 29 j = zv h 12 j ∧ zv h' 30 j = zv h 13 j) → Q none h') : ab_X (d + 1) mX7_copy 0 (lv_args 0 [.ref 28, .ref 11]) [] h Q := by
  show ab_X (d + 1) mX7_copy 0 [(0, .ref 28), (1, .ref 11)] [] h Q
  refine ab_aload_n (k := 0) dX7_copy_0 rfl rfl ?_
  refine ab_aload_n (k := 1) dX7_copy_1 rfl rfl ?_
  refine z_getI dX7_copy_2 fX7_21 rfl (Or.inl rfl) ?_
  have b1 := zv_R h 11 3
  refine z_putI dX7_copy_5 fX7_21 rfl rfl ?_
  refine ab_aload_n (k := 1) dX7_copy_8 rfl rfl ?_
  refine z_getP (b := 12) dX7_copy_9 fX7_9 rfl rfl rfl ?_
  refine z_iconst dX7_copy_12 ?_
  refine ab_aload_n (k := 0) dX7_copy_13 rfl rfl ?_
  refine z_getP (b := 29) dX7_copy_14 fX7_9 rfl rfl rfl ?_
  refine z_iconst dX7_copy_17 ?_
  refine z_sipush dX7_copy_18 (by decide) ?_
  refine ab_acpi dX7_copy_21 lX7_25 (Nat.le_of_ble_eq_true rfl) rfl rfl (by decide) (by decide) (by decide) (Nat.le_of_ble_eq_true rfl) (Nat.le_of_ble_eq_true rfl) ?_
  show ab_X (d + 1) mX7_copy 24 [(0, .ref 28), (1, .ref 11)] [] (zc (zp h 28 3 (zv h 11 3)) 12 29 160) _
  refine ab_aload_n (k := 1) dX7_copy_24 rfl rfl ?_
  refine z_getP (b := 13) dX7_copy_25 fX7_15 rfl rfl rfl ?_
  refine z_iconst dX7_copy_28 ?_
  refine ab_aload_n (k := 0) dX7_copy_29 rfl rfl ?_
  refine z_getP (b := 30) dX7_copy_30 fX7_15 rfl rfl rfl ?_
  refine z_iconst dX7_copy_33 ?_
  refine z_sipush dX7_copy_34 (by decide) ?_
  refine ab_acpi dX7_copy_37 lX7_25 (Nat.le_of_ble_eq_true rfl) rfl rfl (by decide) (by decide) (by decide) (Nat.le_of_ble_eq_true rfl) (Nat.le_of_ble_eq_true rfl) ?_
  show ab_X (d + 1) mX7_copy 40 [(0, .ref 28), (1, .ref 11)] [] (zc (zc (zp h 28 3 (zv h 11 3)) 12 29 160) 13 30 160) _
  refine z_vret dX7_copy_40 rfl ?_
  refine K _ (((sm_zp (by decide)).trans (sm_zc (by decide))).trans (sm_zc (by decide))) ?_ (fun j hj => ⟨?_, ?_⟩)
  · rw [zv_zc_a (by decide), zv_zc_a (by decide), zv_zp_s (zv_R _ _ _)]
  · rw [zv_zc_a (by decide), zv_zc, if_pos rfl, if_pos hj, zv_zp_a (by decide)]
  · rw [zv_zc, if_pos rfl, if_pos hj, zv_zc_a (by decide), zv_zp_a (by decide)]
theorem c_rcopy3 {d : Nat} {h : ab_H} {Q : ab_Q}  (K : ∀ h', sm [32, 33, 34] h h' → zv h' 32 3 = zv h 11 3 → (∀ j, j < 160 → zv h' 33 j = zv h 12 j ∧ zv h' 34 j = zv h 13 j) → Q none h') : ab_X (d + 1) mX7_copy 0 (lv_args 0 [.ref 32, .ref 11]) [] h Q := by
  show ab_X (d + 1) mX7_copy 0 [(0, .ref 32), (1, .ref 11)] [] h Q
  refine ab_aload_n (k := 0) dX7_copy_0 rfl rfl ?_
  refine ab_aload_n (k := 1) dX7_copy_1 rfl rfl ?_
  refine z_getI dX7_copy_2 fX7_21 rfl (Or.inl rfl) ?_
  have b1 := zv_R h 11 3
  refine z_putI dX7_copy_5 fX7_21 rfl rfl ?_
  refine ab_aload_n (k := 1) dX7_copy_8 rfl rfl ?_
  refine z_getP (b := 12) dX7_copy_9 fX7_9 rfl rfl rfl ?_
  refine z_iconst dX7_copy_12 ?_
  refine ab_aload_n (k := 0) dX7_copy_13 rfl rfl ?_
  refine z_getP (b := 33) dX7_copy_14 fX7_9 rfl rfl rfl ?_
  refine z_iconst dX7_copy_17 ?_
  refine z_sipush dX7_copy_18 (by decide) ?_
  refine ab_acpi dX7_copy_21 lX7_25 (Nat.le_of_ble_eq_true rfl) rfl rfl (by decide) (by decide) (by decide) (Nat.le_of_ble_eq_true rfl) (Nat.le_of_ble_eq_true rfl) ?_
  show ab_X (d + 1) mX7_copy 24 [(0, .ref 32), (1, .ref 11)] [] (zc (zp h 32 3 (zv h 11 3)) 12 33 160) _
  refine ab_aload_n (k := 1) dX7_copy_24 rfl rfl ?_
  refine z_getP (b := 13) dX7_copy_25 fX7_15 rfl rfl rfl ?_
  refine z_iconst dX7_copy_28 ?_
  refine ab_aload_n (k := 0) dX7_copy_29 rfl rfl ?_
  refine z_getP (b := 34) dX7_copy_30 fX7_15 rfl rfl rfl ?_
  refine z_iconst dX7_copy_33 ?_
  refine z_sipush dX7_copy_34 (by decide) ?_
  refine ab_acpi dX7_copy_37 lX7_25 (Nat.le_of_ble_eq_true rfl) rfl rfl (by decide) (by decide) (by decide) (Nat.le_of_ble_eq_true rfl) (Nat.le_of_ble_eq_true rfl) ?_
  show ab_X (d + 1) mX7_copy 40 [(0, .ref 32), (1, .ref 11)] [] (zc (zc (zp h 32 3 (zv h 11 3)) 12 33 160) 13 34 160) _
  refine z_vret dX7_copy_40 rfl ?_
  refine K _ (((sm_zp (by decide)).trans (sm_zc (by decide))).trans (sm_zc (by decide))) ?_ (fun j hj => ⟨?_, ?_⟩)
  · rw [zv_zc_a (by decide), zv_zc_a (by decide), zv_zp_s (zv_R _ _ _)]
  · rw [zv_zc_a (by decide), zv_zc, if_pos rfl, if_pos hj, zv_zp_a (by decide)]
  · rw [zv_zc, if_pos rfl, if_pos hj, zv_zc_a (by decide), zv_zp_a (by decide)]
theorem c_fault0 {d : Nat} {h : ab_H} {Q : ab_Q} {T : Nat → Int} {z : Nat}  (ht : tx T z) (hz1 : zv h 1 1 = (z : Int)) (hT : ∀ i, i < z → zv h 2 i = T i) (K : ∀ h', sm KP h h' → zv h' 1 1 = (z : Int) → Q (some (.int (iI ((kRu T z).1)))) h') : ab_X (d + 34) mX11_fault 0 (lv_args 0 [.ref 0, .int (iI 0)]) [] h Q := by
  show ab_X (d + 34) mX11_fault 0 [(0, .ref 0), (1, .int (iI 0))] [] h Q
  refine ab_iload_n (k := 1) dX11_fault_0 rfl rfl ?_
  refine z_if_ne (tgt := 12) dX11_fault_1 (by decide) (by decide) (fun c1 => absurd c1 (by decide)) (fun _ => ?_)
  refine ab_aload_n (k := 0) dX11_fault_4 rfl rfl ?_
  refine z_getP (b := 3) dX11_fault_5 fX11_21 rfl rfl rfl ?_
  refine ab_callV (As := []) (rest := []) dX11_fault_8 lX11_115 rfl (Nat.le_of_ble_eq_true rfl) (Nat.le_of_ble_eq_true rfl) rfl ?_
  refine c_kread ht hz1 hT (fun l8 p8 S8 j8 Q8 => ?_) (fun e8 w8 j8 n8 Q8 => ?_)
  · skip
    show ab_X (d + 34) mX11_fault 11 [(0, .ref 0), (1, .int (iI 0))] [.int (iI (-1))] l8 _
    refine z_iret dX11_fault_11 rfl ?_
    have q := K _ Q8.1 Q8.2.1.1
    rw [j8] at q
    exact q
  · skip
    have wR8 := zv_R e8 1 3
    rw [Q8.2.2.2.1] at wR8
    show ab_X (d + 34) mX11_fault 11 [(0, .ref 0), (1, .int (iI 0))] [.int (iI w8)] e8 _
    refine z_iret dX11_fault_11 rfl ?_
    have q := K _ Q8.1 Q8.2.1
    rw [j8] at q
    exact q
theorem c_fault1 {d : Nat} {h : ab_H} {Q : ab_Q} {T : Nat → Int} {z : Nat}  (ht : tx T z) (hz1 : zv h 1 1 = (z : Int)) (hT : ∀ i, i < z → zv h 2 i = T i) (K : ∀ h', sm [1, 11, 12, 13] h h' → zv h' 1 1 = (z : Int) → Q (some (.int (iI ((pRu T z).1)))) h') : ab_X (d + 34) mX11_fault 0 (lv_args 0 [.ref 0, .int (iI 1)]) [] h Q := by
  show ab_X (d + 34) mX11_fault 0 [(0, .ref 0), (1, .int (iI 1))] [] h Q
  refine ab_iload_n (k := 1) dX11_fault_0 rfl rfl ?_
  refine z_if_ne (tgt := 12) dX11_fault_1 (by decide) (by decide) (fun _ => ?_) (fun c1 => absurd c1 (by decide))
  refine ab_iload_n (k := 1) dX11_fault_12 rfl rfl ?_
  refine z_iconst dX11_fault_13 ?_
  refine z_icmp_ne (tgt := 25) dX11_fault_14 (by decide) (by decide) (by decide) (fun c14 => absurd c14 (by decide)) (fun _ => ?_)
  refine ab_aload_n (k := 0) dX11_fault_17 rfl rfl ?_
  refine z_getP (b := 10) dX11_fault_18 fX11_28 rfl rfl rfl ?_
  refine ab_callV (As := []) (rest := []) dX11_fault_21 lX11_119 rfl (Nat.le_of_ble_eq_true rfl) (Nat.le_of_ble_eq_true rfl) rfl ?_
  refine c_rread ht hz1 hT (fun l21 p21 c21 j21 S21 => ?_) (fun e21 w21 j21 n21 S21 => ?_)
  · skip
    show ab_X (d + 34) mX11_fault 24 [(0, .ref 0), (1, .int (iI 1))] [.int (iI (-1))] l21 _
    refine z_iret dX11_fault_24 rfl ?_
    have q := K _ S21.1 S21.2.1.1
    rw [j21] at q
    exact q
  · skip
    have wR21 := zv_R e21 1 3
    rw [S21.2.1.2.2.1] at wR21
    show ab_X (d + 34) mX11_fault 24 [(0, .ref 0), (1, .int (iI 1))] [.int (iI w21)] e21 _
    refine z_iret dX11_fault_24 rfl ?_
    have q := K _ S21.1 S21.2.1.1
    rw [j21] at q
    exact q
theorem c_fault_ {d : Nat} {h : ab_H} {Q : ab_Q} {s : Int}  (hs : inR s) (hn : ¬ (s = 0 ∨ s = 1)) (K : Q (some (.int (iI (-2)))) h) : ab_X (d + 34) mX11_fault 0 (lv_args 0 [.ref 0, .int (iI s)]) [] h Q := by
  show ab_X (d + 34) mX11_fault 0 [(0, .ref 0), (1, .int (iI s))] [] h Q
  refine ab_iload_n (k := 1) dX11_fault_0 rfl rfl ?_
  refine z_if_ne (tgt := 12) dX11_fault_1 (by decide) (by omega) (fun c1 => ?_) (fun c1 => ?_)
  · skip
    refine ab_iload_n (k := 1) dX11_fault_12 rfl rfl ?_
    refine z_iconst dX11_fault_13 ?_
    refine z_icmp_ne (tgt := 25) dX11_fault_14 (by decide) (by omega) (by decide) (fun c14 => ?_) (fun c14 => ?_)
    · skip
      refine z_bipush dX11_fault_25 (by decide) ?_
      refine z_iret dX11_fault_27 rfl ?_
      exact K
    · skip
      refine ab_sub (ls' := [(0, .ref 0)]) (ks := [0]) rfl ?_
      exfalso; omega
  · skip
    refine ab_sub (ls' := [(0, .ref 0)]) (ks := [0]) rfl ?_
    exfalso; omega
theorem c_beginKerb {d : Nat} {h : ab_H} {Q : ab_Q} {T : Nat → Int} {z : Nat}  (ht : tx T z) (hz1 : zv h 1 1 = (z : Int)) (hT : ∀ i, i < z → zv h 2 i = T i) (k0 : ∀ h' w, (kRu T z).1 = w → ¬ w = -1 → sm KP h h' → zv h' 1 1 = (z : Int) → Q (some (.int (iI (-1)))) h') (k1 : ∀ h1 h2 h3 p S, kRu T z = (-1, S) → KQ T z h h1 p S → pcR h1 h2 → cpR h2 h3 36 39 → Q (some (.int (iI ((S.2.2.1.length : Nat) : Int)))) (zp (zp (zp (zp h3 165 2 0) 0 10 0) 0 6 (-1)) 1 1 0)) : ab_X (d + 34) mX11_beginKerb 0 (lv_args 0 [.ref 0]) [] h Q := by
  show ab_X (d + 34) mX11_beginKerb 0 [(0, .ref 0)] [] h Q
  refine ab_aload_n (k := 0) dX11_beginKerb_0 rfl rfl ?_
  refine z_getP (b := 3) dX11_beginKerb_1 fX11_21 rfl rfl rfl ?_
  refine ab_callV (As := []) (rest := []) dX11_beginKerb_4 lX11_115 rfl (Nat.le_of_ble_eq_true rfl) (Nat.le_of_ble_eq_true rfl) rfl ?_
  refine c_kread ht hz1 hT (fun l4 p4 S4 j4 Q4 => ?_) (fun e4 w4 j4 n4 Q4 => ?_)
  · skip
    show ab_X (d + 34) mX11_beginKerb 7 [(0, .ref 0)] [.int (iI (-1))] l4 _
    refine z_iconst dX11_beginKerb_7 ?_
    refine z_icmp_eq (tgt := 13) dX11_beginKerb_8 (by decide) (by decide) (by decide) (fun _ => ?_) (fun c8 => absurd c8 (by decide))
    refine ab_aload_n (k := 0) dX11_beginKerb_13 rfl rfl ?_
    refine z_getP (b := 15) dX11_beginKerb_14 fX11_35 rfl rfl rfl ?_
    refine ab_aload_n (k := 0) dX11_beginKerb_17 rfl rfl ?_
    refine z_getP (b := 3) dX11_beginKerb_18 fX11_21 rfl rfl rfl ?_
    refine z_getP (b := 4) dX11_beginKerb_21 fX11_126 rfl rfl rfl ?_
    refine ab_callV (As := [.ref 4]) (rest := []) dX11_beginKerb_24 lX11_129 rfl (Nat.le_of_ble_eq_true rfl) (Nat.le_of_ble_eq_true rfl) rfl ?_
    refine c_pcopy (fun j hj => (Q4.2.2.1.2.2.2.2.2 j hj).1) (fun h24 s24 => ?_)
    show ab_X (d + 34) mX11_beginKerb 27 [(0, .ref 0)] [] h24 _
    refine ab_aload_n (k := 0) dX11_beginKerb_27 rfl rfl ?_
    refine z_getP (b := 36) dX11_beginKerb_28 fX11_53 rfl rfl rfl ?_
    refine ab_aload_n (k := 0) dX11_beginKerb_31 rfl rfl ?_
    refine z_getP (b := 39) dX11_beginKerb_32 fX11_57 rfl rfl rfl ?_
    refine ab_callV (As := [.ref 39]) (rest := []) dX11_beginKerb_35 lX11_133 rfl (Nat.le_of_ble_eq_true rfl) (Nat.le_of_ble_eq_true rfl) rfl ?_
    refine c_scopy (r := 36) (o := 39) ⟨0, by decide, rfl⟩ ⟨1, by decide, rfl⟩ (by decide) (fun h35 s35 => ?_)
    show ab_X (d + 34) mX11_beginKerb 38 [(0, .ref 0)] [] h35 _
    refine ab_aload_n (k := 0) dX11_beginKerb_38 rfl rfl ?_
    refine z_getP (b := 165) dX11_beginKerb_39 fX11_66 rfl rfl rfl ?_
    refine ab_callV (As := []) (rest := []) dX11_beginKerb_42 lX11_136 rfl (Nat.le_of_ble_eq_true rfl) (Nat.le_of_ble_eq_true rfl) rfl ?_
    refine c_forget ?_
    show ab_X (d + 34) mX11_beginKerb 45 [(0, .ref 0)] [] (zp h35 165 2 0) _
    refine ab_aload_n (k := 0) dX11_beginKerb_45 rfl rfl ?_
    refine z_iconst dX11_beginKerb_46 ?_
    refine z_putZ dX11_beginKerb_47 fX11_139 rfl rfl (Or.inl rfl) ?_
    refine ab_aload_n (k := 0) dX11_beginKerb_50 rfl rfl ?_
    refine z_iconst dX11_beginKerb_51 ?_
    refine z_putI dX11_beginKerb_52 fX11_46 rfl rfl ?_
    refine ab_aload_n (k := 0) dX11_beginKerb_55 rfl rfl ?_
    refine z_getP (b := 1) dX11_beginKerb_56 fX11_10 rfl rfl rfl ?_
    refine z_iconst dX11_beginKerb_59 ?_
    refine z_putI dX11_beginKerb_60 fX11_108 rfl rfl ?_
    refine ab_aload_n (k := 0) dX11_beginKerb_63 rfl rfl ?_
    refine z_getP (b := 15) dX11_beginKerb_64 fX11_35 rfl rfl rfl ?_
    refine z_getI dX11_beginKerb_67 fX11_143 rfl (Or.inl rfl) ?_
    refine z_is (y := zv h35 15 3) ((((zv_zp_a (by decide)).trans (zv_zp_a (by decide))).trans (zv_zp_a (by decide))).trans (zv_zp_a (by decide))) ?_
    refine z_is (y := ((S4.2.2.1.length : Nat) : Int)) ((s35.1.1 15 3 (by decide)).trans ((s24.2.1 3 (by omega)).trans Q4.2.2.1.2.1)) ?_
    refine z_iret dX11_beginKerb_70 rfl ?_
    exact k1 _ _ _ _ _ j4 Q4 s24 s35
  · skip
    have wR4 := zv_R e4 1 3
    rw [Q4.2.2.2.1] at wR4
    show ab_X (d + 34) mX11_beginKerb 7 [(0, .ref 0)] [.int (iI w4)] e4 _
    refine z_iconst dX11_beginKerb_7 ?_
    refine z_icmp_eq (tgt := 13) dX11_beginKerb_8 (by decide) (by omega) (by decide) (fun c8 => absurd c8 (by omega)) (fun c8 => ?_)
    refine z_iconst dX11_beginKerb_11 ?_
    refine z_iret dX11_beginKerb_12 rfl ?_
    exact k0 _ _ j4 n4 Q4.1 Q4.2.1
theorem c_addRule0 {d : Nat} {h : ab_H} {Q : ab_Q} {T : Nat → Int} {z : Nat}  (ht : tx T z) (hz1 : zv h 1 1 = (z : Int)) (hT : ∀ i, i < z → zv h 2 i = T i) (hk : zv h 0 5 = 0) (k0 : ∀ h' w, (pRu T z).1 = w → ¬ w = -1 → inR w → sm [1, 11, 12, 13] h h' → zv h' 1 1 = (z : Int) → Q (some (.int (iI (-1)))) h') (k1 : ∀ h1 h2 p c, pRu T z = (-1, p, c) → CL T z h h1 (lk T z p) c → sm [20, 21, 22] h1 h2 → zv h2 20 3 = zv h1 11 3 → (∀ j, j < 160 → zv h2 21 j = zv h1 12 j ∧ zv h2 22 j = zv h1 13 j) → Q (some (.int (iI (0 + 1 - 1)))) (zp (zp h2 0 5 (0 + 1)) 1 1 0)) : ab_X (d + 34) mX11_addRule 0 (lv_args 0 [.ref 0]) [] h Q := by
  show ab_X (d + 34) mX11_addRule 0 [(0, .ref 0)] [] h Q
  refine ab_aload_n (k := 0) dX11_addRule_0 rfl rfl ?_
  refine z_getI dX11_addRule_1 fX11_146 rfl (Or.inl rfl) ?_
  refine z_is (y := 0) hk ?_
  refine z_iconst dX11_addRule_4 ?_
  refine z_icmp_ge (tgt := 19) dX11_addRule_5 (by decide) (by decide) (by decide) (fun c5 => absurd c5 (by decide)) (fun _ => ?_)
  refine ab_aload_n (k := 0) dX11_addRule_8 rfl rfl ?_
  refine z_getP (b := 10) dX11_addRule_9 fX11_28 rfl rfl rfl ?_
  refine ab_callV (As := []) (rest := []) dX11_addRule_12 lX11_119 rfl (Nat.le_of_ble_eq_true rfl) (Nat.le_of_ble_eq_true rfl) rfl ?_
  refine c_rread ht hz1 hT (fun l12 p12 c12 j12 S12 => ?_) (fun e12 w12 j12 n12 S12 => ?_)
  · skip
    show ab_X (d + 34) mX11_addRule 15 [(0, .ref 0)] [.int (iI (-1))] l12 _
    refine z_iconst dX11_addRule_15 ?_
    refine z_icmp_eq (tgt := 21) dX11_addRule_16 (by decide) (by decide) (by decide) (fun _ => ?_) (fun c16 => absurd c16 (by decide))
    refine ab_aload_n (k := 0) dX11_addRule_21 rfl rfl ?_
    refine z_getP (b := 19) dX11_addRule_22 fX11_41 rfl rfl rfl ?_
    refine ab_aload_n (k := 0) dX11_addRule_25 rfl rfl ?_
    refine z_getI dX11_addRule_26 fX11_146 rfl (Or.inl rfl) ?_
    refine z_is (y := 0) ((S12.1.1 0 5 (by decide)).trans hk) ?_
    refine z_aald (b := 20) dX11_addRule_29 (Or.inl rfl) (by omega) (by omega) rfl ?_
    refine ab_aload_n (k := 0) dX11_addRule_30 rfl rfl ?_
    refine z_getP (b := 10) dX11_addRule_31 fX11_28 rfl rfl rfl ?_
    refine z_getP (b := 11) dX11_addRule_34 fX11_149 rfl rfl rfl ?_
    refine ab_callV (As := [.ref 11]) (rest := []) dX11_addRule_37 lX11_152 rfl (Nat.le_of_ble_eq_true rfl) (Nat.le_of_ble_eq_true rfl) rfl ?_
    refine c_rcopy0 (fun h37 s37 t37 u37 => ?_)
    show ab_X (d + 34) mX11_addRule 40 [(0, .ref 0)] [] h37 _
    refine ab_aload_n (k := 0) dX11_addRule_40 rfl rfl ?_
    refine ab_dup dX11_addRule_41 rfl ?_
    refine z_getI dX11_addRule_42 fX11_146 rfl (Or.inl rfl) ?_
    refine z_is (y := 0) ((s37.1 0 5 (by decide)).trans ((S12.1.1 0 5 (by decide)).trans hk)) ?_
    refine z_iconst dX11_addRule_45 ?_
    refine z_iadd dX11_addRule_46 ?_
    refine z_putI dX11_addRule_47 fX11_146 rfl rfl ?_
    refine ab_aload_n (k := 0) dX11_addRule_50 rfl rfl ?_
    refine z_getP (b := 1) dX11_addRule_51 fX11_10 rfl rfl rfl ?_
    refine z_iconst dX11_addRule_54 ?_
    refine z_putI dX11_addRule_55 fX11_108 rfl rfl ?_
    refine ab_aload_n (k := 0) dX11_addRule_58 rfl rfl ?_
    refine z_getI dX11_addRule_59 fX11_146 rfl (Or.inl rfl) ?_
    refine z_is (y := 0 + 1) ((zv_zp_a (by decide)).trans (zv_zp_s (by omega))) ?_
    refine z_iconst dX11_addRule_62 ?_
    refine z_isub dX11_addRule_63 ?_
    refine z_iret dX11_addRule_64 rfl ?_
    exact k1 _ _ _ _ j12 S12 s37 t37 u37
  · skip
    have wR12 := zv_R e12 1 3
    rw [S12.2.1.2.2.1] at wR12
    show ab_X (d + 34) mX11_addRule 15 [(0, .ref 0)] [.int (iI w12)] e12 _
    refine z_iconst dX11_addRule_15 ?_
    refine z_icmp_eq (tgt := 21) dX11_addRule_16 (by decide) (by omega) (by decide) (fun c16 => absurd c16 (by omega)) (fun c16 => ?_)
    refine z_iconst dX11_addRule_19 ?_
    refine z_iret dX11_addRule_20 rfl ?_
    exact k0 _ _ j12 n12 wR12 S12.1 S12.2.1.1
theorem c_addRule1 {d : Nat} {h : ab_H} {Q : ab_Q} {T : Nat → Int} {z : Nat}  (ht : tx T z) (hz1 : zv h 1 1 = (z : Int)) (hT : ∀ i, i < z → zv h 2 i = T i) (hk : zv h 0 5 = 1) (k0 : ∀ h' w, (pRu T z).1 = w → ¬ w = -1 → inR w → sm [1, 11, 12, 13] h h' → zv h' 1 1 = (z : Int) → Q (some (.int (iI (-1)))) h') (k1 : ∀ h1 h2 p c, pRu T z = (-1, p, c) → CL T z h h1 (lk T z p) c → sm [24, 25, 26] h1 h2 → zv h2 24 3 = zv h1 11 3 → (∀ j, j < 160 → zv h2 25 j = zv h1 12 j ∧ zv h2 26 j = zv h1 13 j) → Q (some (.int (iI (1 + 1 - 1)))) (zp (zp h2 0 5 (1 + 1)) 1 1 0)) : ab_X (d + 34) mX11_addRule 0 (lv_args 0 [.ref 0]) [] h Q := by
  show ab_X (d + 34) mX11_addRule 0 [(0, .ref 0)] [] h Q
  refine ab_aload_n (k := 0) dX11_addRule_0 rfl rfl ?_
  refine z_getI dX11_addRule_1 fX11_146 rfl (Or.inl rfl) ?_
  refine z_is (y := 1) hk ?_
  refine z_iconst dX11_addRule_4 ?_
  refine z_icmp_ge (tgt := 19) dX11_addRule_5 (by decide) (by decide) (by decide) (fun c5 => absurd c5 (by decide)) (fun _ => ?_)
  refine ab_aload_n (k := 0) dX11_addRule_8 rfl rfl ?_
  refine z_getP (b := 10) dX11_addRule_9 fX11_28 rfl rfl rfl ?_
  refine ab_callV (As := []) (rest := []) dX11_addRule_12 lX11_119 rfl (Nat.le_of_ble_eq_true rfl) (Nat.le_of_ble_eq_true rfl) rfl ?_
  refine c_rread ht hz1 hT (fun l12 p12 c12 j12 S12 => ?_) (fun e12 w12 j12 n12 S12 => ?_)
  · skip
    show ab_X (d + 34) mX11_addRule 15 [(0, .ref 0)] [.int (iI (-1))] l12 _
    refine z_iconst dX11_addRule_15 ?_
    refine z_icmp_eq (tgt := 21) dX11_addRule_16 (by decide) (by decide) (by decide) (fun _ => ?_) (fun c16 => absurd c16 (by decide))
    refine ab_aload_n (k := 0) dX11_addRule_21 rfl rfl ?_
    refine z_getP (b := 19) dX11_addRule_22 fX11_41 rfl rfl rfl ?_
    refine ab_aload_n (k := 0) dX11_addRule_25 rfl rfl ?_
    refine z_getI dX11_addRule_26 fX11_146 rfl (Or.inl rfl) ?_
    refine z_is (y := 1) ((S12.1.1 0 5 (by decide)).trans hk) ?_
    refine z_aald (b := 24) dX11_addRule_29 (Or.inl rfl) (by omega) (by omega) rfl ?_
    refine ab_aload_n (k := 0) dX11_addRule_30 rfl rfl ?_
    refine z_getP (b := 10) dX11_addRule_31 fX11_28 rfl rfl rfl ?_
    refine z_getP (b := 11) dX11_addRule_34 fX11_149 rfl rfl rfl ?_
    refine ab_callV (As := [.ref 11]) (rest := []) dX11_addRule_37 lX11_152 rfl (Nat.le_of_ble_eq_true rfl) (Nat.le_of_ble_eq_true rfl) rfl ?_
    refine c_rcopy1 (fun h37 s37 t37 u37 => ?_)
    show ab_X (d + 34) mX11_addRule 40 [(0, .ref 0)] [] h37 _
    refine ab_aload_n (k := 0) dX11_addRule_40 rfl rfl ?_
    refine ab_dup dX11_addRule_41 rfl ?_
    refine z_getI dX11_addRule_42 fX11_146 rfl (Or.inl rfl) ?_
    refine z_is (y := 1) ((s37.1 0 5 (by decide)).trans ((S12.1.1 0 5 (by decide)).trans hk)) ?_
    refine z_iconst dX11_addRule_45 ?_
    refine z_iadd dX11_addRule_46 ?_
    refine z_putI dX11_addRule_47 fX11_146 rfl rfl ?_
    refine ab_aload_n (k := 0) dX11_addRule_50 rfl rfl ?_
    refine z_getP (b := 1) dX11_addRule_51 fX11_10 rfl rfl rfl ?_
    refine z_iconst dX11_addRule_54 ?_
    refine z_putI dX11_addRule_55 fX11_108 rfl rfl ?_
    refine ab_aload_n (k := 0) dX11_addRule_58 rfl rfl ?_
    refine z_getI dX11_addRule_59 fX11_146 rfl (Or.inl rfl) ?_
    refine z_is (y := 1 + 1) ((zv_zp_a (by decide)).trans (zv_zp_s (by omega))) ?_
    refine z_iconst dX11_addRule_62 ?_
    refine z_isub dX11_addRule_63 ?_
    refine z_iret dX11_addRule_64 rfl ?_
    exact k1 _ _ _ _ j12 S12 s37 t37 u37
  · skip
    have wR12 := zv_R e12 1 3
    rw [S12.2.1.2.2.1] at wR12
    show ab_X (d + 34) mX11_addRule 15 [(0, .ref 0)] [.int (iI w12)] e12 _
    refine z_iconst dX11_addRule_15 ?_
    refine z_icmp_eq (tgt := 21) dX11_addRule_16 (by decide) (by omega) (by decide) (fun c16 => absurd c16 (by omega)) (fun c16 => ?_)
    refine z_iconst dX11_addRule_19 ?_
    refine z_iret dX11_addRule_20 rfl ?_
    exact k0 _ _ j12 n12 wR12 S12.1 S12.2.1.1
theorem c_addRule2 {d : Nat} {h : ab_H} {Q : ab_Q} {T : Nat → Int} {z : Nat}  (ht : tx T z) (hz1 : zv h 1 1 = (z : Int)) (hT : ∀ i, i < z → zv h 2 i = T i) (hk : zv h 0 5 = 2) (k0 : ∀ h' w, (pRu T z).1 = w → ¬ w = -1 → inR w → sm [1, 11, 12, 13] h h' → zv h' 1 1 = (z : Int) → Q (some (.int (iI (-1)))) h') (k1 : ∀ h1 h2 p c, pRu T z = (-1, p, c) → CL T z h h1 (lk T z p) c → sm [28, 29, 30] h1 h2 → zv h2 28 3 = zv h1 11 3 → (∀ j, j < 160 → zv h2 29 j = zv h1 12 j ∧ zv h2 30 j = zv h1 13 j) → Q (some (.int (iI (2 + 1 - 1)))) (zp (zp h2 0 5 (2 + 1)) 1 1 0)) : ab_X (d + 34) mX11_addRule 0 (lv_args 0 [.ref 0]) [] h Q := by
  show ab_X (d + 34) mX11_addRule 0 [(0, .ref 0)] [] h Q
  refine ab_aload_n (k := 0) dX11_addRule_0 rfl rfl ?_
  refine z_getI dX11_addRule_1 fX11_146 rfl (Or.inl rfl) ?_
  refine z_is (y := 2) hk ?_
  refine z_iconst dX11_addRule_4 ?_
  refine z_icmp_ge (tgt := 19) dX11_addRule_5 (by decide) (by decide) (by decide) (fun c5 => absurd c5 (by decide)) (fun _ => ?_)
  refine ab_aload_n (k := 0) dX11_addRule_8 rfl rfl ?_
  refine z_getP (b := 10) dX11_addRule_9 fX11_28 rfl rfl rfl ?_
  refine ab_callV (As := []) (rest := []) dX11_addRule_12 lX11_119 rfl (Nat.le_of_ble_eq_true rfl) (Nat.le_of_ble_eq_true rfl) rfl ?_
  refine c_rread ht hz1 hT (fun l12 p12 c12 j12 S12 => ?_) (fun e12 w12 j12 n12 S12 => ?_)
  · skip
    show ab_X (d + 34) mX11_addRule 15 [(0, .ref 0)] [.int (iI (-1))] l12 _
    refine z_iconst dX11_addRule_15 ?_
    refine z_icmp_eq (tgt := 21) dX11_addRule_16 (by decide) (by decide) (by decide) (fun _ => ?_) (fun c16 => absurd c16 (by decide))
    refine ab_aload_n (k := 0) dX11_addRule_21 rfl rfl ?_
    refine z_getP (b := 19) dX11_addRule_22 fX11_41 rfl rfl rfl ?_
    refine ab_aload_n (k := 0) dX11_addRule_25 rfl rfl ?_
    refine z_getI dX11_addRule_26 fX11_146 rfl (Or.inl rfl) ?_
    refine z_is (y := 2) ((S12.1.1 0 5 (by decide)).trans hk) ?_
    refine z_aald (b := 28) dX11_addRule_29 (Or.inl rfl) (by omega) (by omega) rfl ?_
    refine ab_aload_n (k := 0) dX11_addRule_30 rfl rfl ?_
    refine z_getP (b := 10) dX11_addRule_31 fX11_28 rfl rfl rfl ?_
    refine z_getP (b := 11) dX11_addRule_34 fX11_149 rfl rfl rfl ?_
    refine ab_callV (As := [.ref 11]) (rest := []) dX11_addRule_37 lX11_152 rfl (Nat.le_of_ble_eq_true rfl) (Nat.le_of_ble_eq_true rfl) rfl ?_
    refine c_rcopy2 (fun h37 s37 t37 u37 => ?_)
    show ab_X (d + 34) mX11_addRule 40 [(0, .ref 0)] [] h37 _
    refine ab_aload_n (k := 0) dX11_addRule_40 rfl rfl ?_
    refine ab_dup dX11_addRule_41 rfl ?_
    refine z_getI dX11_addRule_42 fX11_146 rfl (Or.inl rfl) ?_
    refine z_is (y := 2) ((s37.1 0 5 (by decide)).trans ((S12.1.1 0 5 (by decide)).trans hk)) ?_
    refine z_iconst dX11_addRule_45 ?_
    refine z_iadd dX11_addRule_46 ?_
    refine z_putI dX11_addRule_47 fX11_146 rfl rfl ?_
    refine ab_aload_n (k := 0) dX11_addRule_50 rfl rfl ?_
    refine z_getP (b := 1) dX11_addRule_51 fX11_10 rfl rfl rfl ?_
    refine z_iconst dX11_addRule_54 ?_
    refine z_putI dX11_addRule_55 fX11_108 rfl rfl ?_
    refine ab_aload_n (k := 0) dX11_addRule_58 rfl rfl ?_
    refine z_getI dX11_addRule_59 fX11_146 rfl (Or.inl rfl) ?_
    refine z_is (y := 2 + 1) ((zv_zp_a (by decide)).trans (zv_zp_s (by omega))) ?_
    refine z_iconst dX11_addRule_62 ?_
    refine z_isub dX11_addRule_63 ?_
    refine z_iret dX11_addRule_64 rfl ?_
    exact k1 _ _ _ _ j12 S12 s37 t37 u37
  · skip
    have wR12 := zv_R e12 1 3
    rw [S12.2.1.2.2.1] at wR12
    show ab_X (d + 34) mX11_addRule 15 [(0, .ref 0)] [.int (iI w12)] e12 _
    refine z_iconst dX11_addRule_15 ?_
    refine z_icmp_eq (tgt := 21) dX11_addRule_16 (by decide) (by omega) (by decide) (fun c16 => absurd c16 (by omega)) (fun c16 => ?_)
    refine z_iconst dX11_addRule_19 ?_
    refine z_iret dX11_addRule_20 rfl ?_
    exact k0 _ _ j12 n12 wR12 S12.1 S12.2.1.1
theorem c_addRule3 {d : Nat} {h : ab_H} {Q : ab_Q} {T : Nat → Int} {z : Nat}  (ht : tx T z) (hz1 : zv h 1 1 = (z : Int)) (hT : ∀ i, i < z → zv h 2 i = T i) (hk : zv h 0 5 = 3) (k0 : ∀ h' w, (pRu T z).1 = w → ¬ w = -1 → inR w → sm [1, 11, 12, 13] h h' → zv h' 1 1 = (z : Int) → Q (some (.int (iI (-1)))) h') (k1 : ∀ h1 h2 p c, pRu T z = (-1, p, c) → CL T z h h1 (lk T z p) c → sm [32, 33, 34] h1 h2 → zv h2 32 3 = zv h1 11 3 → (∀ j, j < 160 → zv h2 33 j = zv h1 12 j ∧ zv h2 34 j = zv h1 13 j) → Q (some (.int (iI (3 + 1 - 1)))) (zp (zp h2 0 5 (3 + 1)) 1 1 0)) : ab_X (d + 34) mX11_addRule 0 (lv_args 0 [.ref 0]) [] h Q := by
  show ab_X (d + 34) mX11_addRule 0 [(0, .ref 0)] [] h Q
  refine ab_aload_n (k := 0) dX11_addRule_0 rfl rfl ?_
  refine z_getI dX11_addRule_1 fX11_146 rfl (Or.inl rfl) ?_
  refine z_is (y := 3) hk ?_
  refine z_iconst dX11_addRule_4 ?_
  refine z_icmp_ge (tgt := 19) dX11_addRule_5 (by decide) (by decide) (by decide) (fun c5 => absurd c5 (by decide)) (fun _ => ?_)
  refine ab_aload_n (k := 0) dX11_addRule_8 rfl rfl ?_
  refine z_getP (b := 10) dX11_addRule_9 fX11_28 rfl rfl rfl ?_
  refine ab_callV (As := []) (rest := []) dX11_addRule_12 lX11_119 rfl (Nat.le_of_ble_eq_true rfl) (Nat.le_of_ble_eq_true rfl) rfl ?_
  refine c_rread ht hz1 hT (fun l12 p12 c12 j12 S12 => ?_) (fun e12 w12 j12 n12 S12 => ?_)
  · skip
    show ab_X (d + 34) mX11_addRule 15 [(0, .ref 0)] [.int (iI (-1))] l12 _
    refine z_iconst dX11_addRule_15 ?_
    refine z_icmp_eq (tgt := 21) dX11_addRule_16 (by decide) (by decide) (by decide) (fun _ => ?_) (fun c16 => absurd c16 (by decide))
    refine ab_aload_n (k := 0) dX11_addRule_21 rfl rfl ?_
    refine z_getP (b := 19) dX11_addRule_22 fX11_41 rfl rfl rfl ?_
    refine ab_aload_n (k := 0) dX11_addRule_25 rfl rfl ?_
    refine z_getI dX11_addRule_26 fX11_146 rfl (Or.inl rfl) ?_
    refine z_is (y := 3) ((S12.1.1 0 5 (by decide)).trans hk) ?_
    refine z_aald (b := 32) dX11_addRule_29 (Or.inl rfl) (by omega) (by omega) rfl ?_
    refine ab_aload_n (k := 0) dX11_addRule_30 rfl rfl ?_
    refine z_getP (b := 10) dX11_addRule_31 fX11_28 rfl rfl rfl ?_
    refine z_getP (b := 11) dX11_addRule_34 fX11_149 rfl rfl rfl ?_
    refine ab_callV (As := [.ref 11]) (rest := []) dX11_addRule_37 lX11_152 rfl (Nat.le_of_ble_eq_true rfl) (Nat.le_of_ble_eq_true rfl) rfl ?_
    refine c_rcopy3 (fun h37 s37 t37 u37 => ?_)
    show ab_X (d + 34) mX11_addRule 40 [(0, .ref 0)] [] h37 _
    refine ab_aload_n (k := 0) dX11_addRule_40 rfl rfl ?_
    refine ab_dup dX11_addRule_41 rfl ?_
    refine z_getI dX11_addRule_42 fX11_146 rfl (Or.inl rfl) ?_
    refine z_is (y := 3) ((s37.1 0 5 (by decide)).trans ((S12.1.1 0 5 (by decide)).trans hk)) ?_
    refine z_iconst dX11_addRule_45 ?_
    refine z_iadd dX11_addRule_46 ?_
    refine z_putI dX11_addRule_47 fX11_146 rfl rfl ?_
    refine ab_aload_n (k := 0) dX11_addRule_50 rfl rfl ?_
    refine z_getP (b := 1) dX11_addRule_51 fX11_10 rfl rfl rfl ?_
    refine z_iconst dX11_addRule_54 ?_
    refine z_putI dX11_addRule_55 fX11_108 rfl rfl ?_
    refine ab_aload_n (k := 0) dX11_addRule_58 rfl rfl ?_
    refine z_getI dX11_addRule_59 fX11_146 rfl (Or.inl rfl) ?_
    refine z_is (y := 3 + 1) ((zv_zp_a (by decide)).trans (zv_zp_s (by omega))) ?_
    refine z_iconst dX11_addRule_62 ?_
    refine z_isub dX11_addRule_63 ?_
    refine z_iret dX11_addRule_64 rfl ?_
    exact k1 _ _ _ _ j12 S12 s37 t37 u37
  · skip
    have wR12 := zv_R e12 1 3
    rw [S12.2.1.2.2.1] at wR12
    show ab_X (d + 34) mX11_addRule 15 [(0, .ref 0)] [.int (iI w12)] e12 _
    refine z_iconst dX11_addRule_15 ?_
    refine z_icmp_eq (tgt := 21) dX11_addRule_16 (by decide) (by omega) (by decide) (fun c16 => absurd c16 (by omega)) (fun c16 => ?_)
    refine z_iconst dX11_addRule_19 ?_
    refine z_iret dX11_addRule_20 rfl ?_
    exact k0 _ _ j12 n12 wR12 S12.1 S12.2.1.1
theorem c_addRule4 {d : Nat} {h : ab_H} {Q : ab_Q}  (hk : zv h 0 5 = 4) (K : Q (some (.int (iI (-1)))) h) : ab_X (d + 34) mX11_addRule 0 (lv_args 0 [.ref 0]) [] h Q := by
  show ab_X (d + 34) mX11_addRule 0 [(0, .ref 0)] [] h Q
  refine ab_aload_n (k := 0) dX11_addRule_0 rfl rfl ?_
  refine z_getI dX11_addRule_1 fX11_146 rfl (Or.inl rfl) ?_
  refine z_is (y := 4) hk ?_
  refine z_iconst dX11_addRule_4 ?_
  refine z_icmp_ge (tgt := 19) dX11_addRule_5 (by decide) (by decide) (by decide) (fun _ => ?_) (fun c5 => absurd c5 (by decide))
  refine z_iconst dX11_addRule_19 ?_
  refine z_iret dX11_addRule_20 rfl ?_
  exact K
theorem c_text_ {d : Nat} {h : ab_H} {Q : ab_Q} {s : Int}  (hs : inR s) (hn : ¬ (s = 0 ∨ s = 1)) (K : Q (some (.int (iI (-1)))) h) : ab_X (d + 35) mX11_text 0 (lv_args 0 [.ref 0, .int (iI s)]) [] h Q := by
  show ab_X (d + 35) mX11_text 0 [(0, .ref 0), (1, .int (iI s))] [] h Q
  refine ab_iload_n (k := 1) dX11_text_0 rfl rfl ?_
  refine z_if_ne (tgt := 9) dX11_text_1 (by decide) (by omega) (fun c1 => ?_) (fun c1 => ?_)
  · skip
    refine ab_iload_n (k := 1) dX11_text_9 rfl rfl ?_
    refine z_iconst dX11_text_10 ?_
    refine z_icmp_ne (tgt := 19) dX11_text_11 (by decide) (by omega) (by decide) (fun c11 => ?_) (fun c11 => ?_)
    · skip
      refine z_iconst dX11_text_19 ?_
      refine z_iret dX11_text_20 rfl ?_
      exact K
    · skip
      refine ab_sub (ls' := [(0, .ref 0)]) (ks := [0]) rfl ?_
      exfalso; omega
  · skip
    refine ab_sub (ls' := [(0, .ref 0)]) (ks := [0]) rfl ?_
    exfalso; omega
