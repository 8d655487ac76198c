/-! THE CLASS READS A RULE: the whole of it; it is put by -/
theorem c_rclause {T : Nat → Int} {z d : Nat} {h0 h : ab_H} {Q : ab_Q} {p : Nat} {c : List (Int × Int)} (ht : tx T z) (S : CL T z h0 h p c) (K1 : ∀ h' p' c', pCl T z c.length p = (-1, p', c') → p + c'.length ≤ p' → CL T z h0 h' p' (c ++ c') → Q none h') (K0 : ∀ h' w, (pCl T z c.length p).1 = w → ¬ w = -1 → CD z h0 h' w → Q none h') : ab_X (d + 32) mX8_readClause 0 (lv_args 0 [.ref 10]) [] h Q := by
  have u := l_unit ht 6 d 0 rfl
  have s := l_readSum ht 6 (d + 3) 0 rfl
  exact c_rclause0 ht s u.2.2.1 u.2.2.2 S K1 K0
theorem dl_rread {d : Nat} {h : ab_H} {Q : ab_Q} {z : Nat} {h0 : ab_H} {w : Int} {i : Nat} (hi : i ≤ 160) (hz : z ≤ 160) (Sh : CD z h0 h w) (K : ∀ h', CD z h0 h' w → Q (some (.int (iI w))) h') : ab_X (d + 33) mX8_read 21 [(0, .ref 10), (1, .int (iI (i : Int)))] [] h Q := by
  refine ab_iload_n (k := 1) dX8_read_21 rfl rfl ?_
  refine z_sipush dX8_read_22 (by decide) ?_
  refine z_icmp_ge (tgt := 57) dX8_read_25 (by decide) (by omega) (by decide) (fun c25 => ?_) (fun c25 => ?_)
  · skip
    refine ab_aload_n (k := 0) dX8_read_57 rfl rfl ?_
    refine z_getP (b := 1) dX8_read_58 fX8_18 rfl rfl rfl ?_
    refine ab_callV (As := []) (rest := []) dX8_read_61 lX8_34 rfl (Nat.le_of_ble_eq_true rfl) (Nat.le_of_ble_eq_true rfl) rfl ?_
    refine c_dlook hz Sh.2.1 (fun e61 se61 te61 => ?_)
    have Se61 := CD_d Sh se61 te61
    show ab_X (d + 33) mX8_read 64 [(0, .ref 10), (1, .int (iI (i : Int)))] [.int (iI (-1))] e61 _
    refine z_iconst dX8_read_64 ?_
    refine z_icmp_eq (tgt := 75) dX8_read_65 (by decide) (by decide) (by decide) (fun _ => ?_) (fun c65 => absurd c65 (by decide))
    refine ab_aload_n (k := 0) dX8_read_75 rfl rfl ?_
    refine z_getP (b := 1) dX8_read_76 fX8_18 rfl rfl rfl ?_
    refine z_getI dX8_read_79 fX8_44 rfl (Or.inl rfl) ?_
    refine z_is (y := w) Se61.2.1.2.2.1 ?_
    refine z_iret dX8_read_82 rfl ?_
    exact K _ Se61
  · skip
    refine ab_aload_n (k := 0) dX8_read_28 rfl rfl ?_
    refine z_getP (b := 1) dX8_read_29 fX8_18 rfl rfl rfl ?_
    refine ab_callV (As := []) (rest := []) dX8_read_32 lX8_34 rfl (Nat.le_of_ble_eq_true rfl) (Nat.le_of_ble_eq_true rfl) rfl ?_
    refine c_dlook hz Sh.2.1 (fun e32 se32 te32 => ?_)
    have Se32 := CD_d Sh se32 te32
    show ab_X (d + 33) mX8_read 35 [(0, .ref 10), (1, .int (iI (i : Int)))] [.int (iI (-1))] e32 _
    refine z_bipush dX8_read_35 (by decide) ?_
    refine z_icmp_ne (tgt := 57) dX8_read_37 (by decide) (by decide) (by decide) (fun _ => ?_) (fun c37 => absurd c37 (by decide))
    refine ab_aload_n (k := 0) dX8_read_57 rfl rfl ?_
    refine z_getP (b := 1) dX8_read_58 fX8_18 rfl rfl rfl ?_
    refine ab_callV (As := []) (rest := []) dX8_read_61 lX8_34 rfl (Nat.le_of_ble_eq_true rfl) (Nat.le_of_ble_eq_true rfl) rfl ?_
    refine c_dlook hz Se32.2.1 (fun e61 se61 te61 => ?_)
    have Se61 := CD_d Se32 se61 te61
    show ab_X (d + 33) mX8_read 64 [(0, .ref 10), (1, .int (iI (i : Int)))] [.int (iI (-1))] e61 _
    refine z_iconst dX8_read_64 ?_
    refine z_icmp_eq (tgt := 75) dX8_read_65 (by decide) (by decide) (by decide) (fun _ => ?_) (fun c65 => absurd c65 (by decide))
    refine ab_aload_n (k := 0) dX8_read_75 rfl rfl ?_
    refine z_getP (b := 1) dX8_read_76 fX8_18 rfl rfl rfl ?_
    refine z_getI dX8_read_79 fX8_44 rfl (Or.inl rfl) ?_
    refine z_is (y := w) Se61.2.1.2.2.1 ?_
    refine z_iret dX8_read_82 rfl ?_
    exact K _ Se61
theorem lp_rread {d : Nat} {Q : ab_Q} {T : Nat → Int} {z : Nat} {h0 : ab_H} {R : pR} (ht : tx T z) (K1 : ∀ h' p' c', R = (-1, p', c') → CL T z h0 h' (lk T z p') c' → Q (some (.int (iI (-1)))) h') (K0 : ∀ h' w, R.1 = w → ¬ w = -1 → CD z h0 h' w → Q (some (.int (iI w))) h') : ∀ (nn : Nat) (q : Nat) (i : Nat) (c : List (Int × Int)) (h : ab_H), 160 - i = nn → (CL T z h0 h q c) → (i ≤ 160) → (i ≤ q) → (pRL T z (160 - i) q c = R) → ab_X (d + 33) mX8_read 21 [(0, .ref 10), (1, .int (iI (i : Int)))] [] h Q := by
  intro nn
  induction nn using Nat.strongRecOn with
  | ind nn ih =>
  intro q i c h hnn Sh hi hiq hR
  have hz := ht.1
  have hpz := Sh.2.1.2.2.2.2
  have hcl := Sh.2.2.1
  refine ab_iload_n (k := 1) dX8_read_21 rfl rfl ?_
  refine z_sipush dX8_read_22 (by decide) ?_
  refine z_icmp_ge (tgt := 57) dX8_read_25 (by decide) (by omega) (by decide) (fun c25 => ?_) (fun c25 => ?_)
  · skip
    refine ab_aload_n (k := 0) dX8_read_57 rfl rfl ?_
    refine z_getP (b := 1) dX8_read_58 fX8_18 rfl rfl rfl ?_
    refine ab_callV (As := []) (rest := []) dX8_read_61 lX8_34 rfl (Nat.le_of_ble_eq_true rfl) (Nat.le_of_ble_eq_true rfl) rfl ?_
    refine c_tlook ht Sh.2.1 (fun l61 sl61 tl61 => ?_)
    have k61 := lk_ge T z q
    have Sl61 := CL_t Sh sl61 tl61 (by omega)
    have y61 := sg_b ht q
    show ab_X (d + 33) mX8_read 64 [(0, .ref 10), (1, .int (iI (i : Int)))] [.int (iI (sg T z q))] l61 _
    refine z_iconst dX8_read_64 ?_
    refine z_icmp_eq (tgt := 75) dX8_read_65 (by decide) (by omega) (by decide) (fun c65 => ?_) (fun c65 => ?_)
    · skip
      refine ab_aload_n (k := 0) dX8_read_75 rfl rfl ?_
      refine z_getP (b := 1) dX8_read_76 fX8_18 rfl rfl rfl ?_
      refine z_getI dX8_read_79 fX8_44 rfl (Or.inl rfl) ?_
      refine z_is (y := (-1)) Sl61.2.1.2.2.1 ?_
      refine z_iret dX8_read_82 rfl ?_
      have e5 := sg_lk T z q
      have e2 : sg T z q = -1 := by omega
      have e3 := rl_3 (T := T) (z := z) (p := q) (c := c) (f := 160 - i) e2
      rw [hR] at e3
      first
      | exact K1 _ _ _ e3 Sl61
      | (rw [lk_lk] at Sl61; exact K1 _ _ _ e3 Sl61)
    · skip
      refine ab_aload_n (k := 0) dX8_read_68 rfl rfl ?_
      refine z_getP (b := 1) dX8_read_69 fX8_18 rfl rfl rfl ?_
      refine ab_callV (As := []) (rest := []) dX8_read_72 lX8_41 rfl (Nat.le_of_ble_eq_true rfl) (Nat.le_of_ble_eq_true rfl) rfl ?_
      refine c_trefuse ht Sl61.2.1 (lk_lk _ _ _) (fun e72 se72 te72 => ?_)
      have Se72 := CL_d Sl61 hz se72 te72
      show ab_X (d + 33) mX8_read 75 [(0, .ref 10), (1, .int (iI (i : Int)))] [] e72 _
      refine ab_aload_n (k := 0) dX8_read_75 rfl rfl ?_
      refine z_getP (b := 1) dX8_read_76 fX8_18 rfl rfl rfl ?_
      refine z_getI dX8_read_79 fX8_44 rfl (Or.inl rfl) ?_
      refine z_is (y := ((lk T z (lk T z q) : Nat) : Int)) Se72.2.1.2.2.1 ?_
      refine z_iret dX8_read_82 rfl ?_
      first
      | (have e4 : lk T z (lk T z (lk T z q)) = lk T z q := by rw [lk_lk, lk_lk]
         rw [e4] at Se72 ⊢
         have e5 := sg_lk T z q
         exact K0 _ _ (by rw [← hR]; exact rl_4 (by omega) (by omega)) (by omega) Se72)
      | (have e1 := lk_n (T := T) (z := z) (p := q) (by omega)
         have e2 : sg T z q = -1 := by unfold sg; rw [e1, if_neg (by omega)]
         exfalso; omega)
  · skip
    refine ab_aload_n (k := 0) dX8_read_28 rfl rfl ?_
    refine z_getP (b := 1) dX8_read_29 fX8_18 rfl rfl rfl ?_
    refine ab_callV (As := []) (rest := []) dX8_read_32 lX8_34 rfl (Nat.le_of_ble_eq_true rfl) (Nat.le_of_ble_eq_true rfl) rfl ?_
    refine c_tlook ht Sh.2.1 (fun l32 sl32 tl32 => ?_)
    have k32 := lk_ge T z q
    have Sl32 := CL_t Sh sl32 tl32 (by omega)
    have y32 := sg_b ht q
    show ab_X (d + 33) mX8_read 35 [(0, .ref 10), (1, .int (iI (i : Int)))] [.int (iI (sg T z q))] l32 _
    refine z_bipush dX8_read_35 (by decide) ?_
    refine z_icmp_ne (tgt := 57) dX8_read_37 (by decide) (by omega) (by decide) (fun c37 => ?_) (fun c37 => ?_)
    · skip
      refine ab_aload_n (k := 0) dX8_read_57 rfl rfl ?_
      refine z_getP (b := 1) dX8_read_58 fX8_18 rfl rfl rfl ?_
      refine ab_callV (As := []) (rest := []) dX8_read_61 lX8_34 rfl (Nat.le_of_ble_eq_true rfl) (Nat.le_of_ble_eq_true rfl) rfl ?_
      refine c_tlook ht Sl32.2.1 (fun l61 sl61 tl61 => ?_)
      have k61 := lk_ge T z (lk T z q)
      have Sl61 := CL_t Sl32 sl61 tl61 (by omega)
      have y61 := sg_b ht (lk T z q)
      show ab_X (d + 33) mX8_read 64 [(0, .ref 10), (1, .int (iI (i : Int)))] [.int (iI (sg T z (lk T z q)))] l61 _
      refine z_iconst dX8_read_64 ?_
      refine z_icmp_eq (tgt := 75) dX8_read_65 (by decide) (by omega) (by decide) (fun c65 => ?_) (fun c65 => ?_)
      · skip
        refine ab_aload_n (k := 0) dX8_read_75 rfl rfl ?_
        refine z_getP (b := 1) dX8_read_76 fX8_18 rfl rfl rfl ?_
        refine z_getI dX8_read_79 fX8_44 rfl (Or.inl rfl) ?_
        refine z_is (y := (-1)) Sl61.2.1.2.2.1 ?_
        refine z_iret dX8_read_82 rfl ?_
        have e5 := sg_lk T z q
        have e2 : sg T z q = -1 := by omega
        have e3 := rl_3 (T := T) (z := z) (p := q) (c := c) (f := 160 - i) e2
        rw [hR] at e3
        first
        | exact K1 _ _ _ e3 Sl61
        | (rw [lk_lk] at Sl61; exact K1 _ _ _ e3 Sl61)
      · skip
        refine ab_aload_n (k := 0) dX8_read_68 rfl rfl ?_
        refine z_getP (b := 1) dX8_read_69 fX8_18 rfl rfl rfl ?_
        refine ab_callV (As := []) (rest := []) dX8_read_72 lX8_41 rfl (Nat.le_of_ble_eq_true rfl) (Nat.le_of_ble_eq_true rfl) rfl ?_
        refine c_trefuse ht Sl61.2.1 (lk_lk _ _ _) (fun e72 se72 te72 => ?_)
        have Se72 := CL_d Sl61 hz se72 te72
        show ab_X (d + 33) mX8_read 75 [(0, .ref 10), (1, .int (iI (i : Int)))] [] e72 _
        refine ab_aload_n (k := 0) dX8_read_75 rfl rfl ?_
        refine z_getP (b := 1) dX8_read_76 fX8_18 rfl rfl rfl ?_
        refine z_getI dX8_read_79 fX8_44 rfl (Or.inl rfl) ?_
        refine z_is (y := ((lk T z (lk T z (lk T z q)) : Nat) : Int)) Se72.2.1.2.2.1 ?_
        refine z_iret dX8_read_82 rfl ?_
        first
        | (have e4 : lk T z (lk T z (lk T z q)) = lk T z q := by rw [lk_lk, lk_lk]
           rw [e4] at Se72 ⊢
           have e5 := sg_lk T z q
           exact K0 _ _ (by rw [← hR]; exact rl_4 (by omega) (by omega)) (by omega) Se72)
        | (have e1 := lk_n (T := T) (z := z) (p := q) (by omega)
           have e2 : sg T z q = -1 := by unfold sg; rw [e1, if_neg (by omega)]
           exfalso; omega)
    · skip
      have z40 := sg_in (T := T) (z := z) (p := q) (by omega)
      refine ab_aload_n (k := 0) dX8_read_40 rfl rfl ?_
      refine z_getP (b := 1) dX8_read_41 fX8_18 rfl rfl rfl ?_
      refine ab_callV (As := []) (rest := []) dX8_read_44 lX8_38 rfl (Nat.le_of_ble_eq_true rfl) (Nat.le_of_ble_eq_true rfl) rfl ?_
      refine c_tstep ht Sl32.2.1 (by omega) (fun l44 sl44 tl44 => ?_)
      have Sl44 := CL_t Sl32 sl44 tl44 (by omega)
      show ab_X (d + 33) mX8_read 47 [(0, .ref 10), (1, .int (iI (i : Int)))] [] l44 _
      refine ab_aload_n (k := 0) dX8_read_47 rfl rfl ?_
      refine ab_callV (As := []) (rest := []) dX8_read_48 lX8_31 rfl (Nat.le_of_ble_eq_true rfl) (Nat.le_of_ble_eq_true rfl) rfl ?_
      refine c_rclause ht Sl44 (fun l48 p48 c48 j48 b48 Sl48 => ?_) (fun e48 w48 j48 n48 Se48 => ?_)
      · skip
        have r48 := Sl48.2.1.2.2.2.2
        show ab_X (d + 33) mX8_read 51 [(0, .ref 10), (1, .int (iI (i : Int)))] [] l48 _
        refine z_iinc (k := 1) (v := (i : Int) + 1) (ls' := [(1, .int (iI ((i : Int) + 1))), (0, .ref 10)]) dX8_read_51 rfl rfl (by decide) rfl ?_
        refine ab_goto (tgt := 21) dX8_read_54 (by decide) ?_
        refine ab_sub (ls' := [(0, .ref 10), (1, .int (iI ((i : Int) + 1)))]) (ks := [1, 0]) rfl ?_
        refine ih _ (by omega) p48 (i + 1) (c ++ c48) _ rfl Sl48 (by omega) (by omega) ?_
        rw [← hR, show 160 - i = (160 - (i + 1)) + 1 by omega]
        exact (rl_1 (by omega) j48).symm
      · skip
        show ab_X (d + 33) mX8_read 51 [(0, .ref 10), (1, .int (iI (i : Int)))] [] e48 _
        refine z_iinc (k := 1) (v := (i : Int) + 1) (ls' := [(1, .int (iI ((i : Int) + 1))), (0, .ref 10)]) dX8_read_51 rfl rfl (by decide) rfl ?_
        refine ab_goto (tgt := 21) dX8_read_54 (by decide) ?_
        refine ab_sub (ls' := [(0, .ref 10), (1, .int (iI ((i : Int) + 1)))]) (ks := [1, 0]) rfl ?_
        exact dl_rread (i := i + 1) (by omega) hz Se48 (fun h' S' => K0 h' _ (by rw [← hR, show 160 - i = (159 - i) + 1 by omega]; exact rl_2 (by omega) j48 n48) n48 S')
theorem c_rread {d : Nat} {h : ab_H} {Q : ab_Q} {T : Nat → Int} {z : Nat}  (ht : tx T z) (hz1 : zv h 1 1 = (z : Int)) (hT : ∀ i, i < z → zv h 2 i = T i) (K1 : ∀ h' p' c', pRu T z = (-1, p', c') → CL T z h h' (lk T z p') c' → Q (some (.int (iI (-1)))) h') (K0 : ∀ h' w, (pRu T z).1 = w → ¬ w = -1 → CD z h h' w → Q (some (.int (iI w))) h') : ab_X (d + 33) mX8_read 0 (lv_args 0 [.ref 10]) [] h Q := by
  show ab_X (d + 33) mX8_read 0 [(0, .ref 10)] [] h Q
  have hz := ht.1
  refine ab_aload_n (k := 0) dX8_read_0 rfl rfl ?_
  refine z_getP (b := 1) dX8_read_1 fX8_18 rfl rfl rfl ?_
  refine ab_callV (As := []) (rest := []) dX8_read_4 lX8_22 rfl (Nat.le_of_ble_eq_true rfl) (Nat.le_of_ble_eq_true rfl) rfl ?_
  refine c_rewind (p := 0) ht hz1 hT (fun l4 sl4 tl4 => ?_)
  show ab_X (d + 33) mX8_read 7 [(0, .ref 10)] [] l4 _
  refine ab_aload_n (k := 0) dX8_read_7 rfl rfl ?_
  refine z_getP (b := 11) dX8_read_8 fX8_12 rfl rfl rfl ?_
  refine z_iconst dX8_read_11 ?_
  refine z_putI dX8_read_12 fX8_27 rfl rfl ?_
  obtain ⟨l12, el12⟩ : ∃ z : ab_H, z = zp l4 11 3 0 := ⟨_, rfl⟩
  rw [← el12]
  have Sl12 : CL T z h l12 0 [] := by
    rw [el12]
    exact ⟨(sm1 sl4).trans (sm_zp (by decide)), TL_sm tl4 (sm_zp (l := [11]) (by decide)) (by decide) (by decide), Nat.le_refl 0, by rw [zv_zp_s (by decide)]; rfl, fun i hi => absurd hi (Nat.not_lt_zero i)⟩
  refine ab_aload_n (k := 0) dX8_read_15 rfl rfl ?_
  refine ab_callV (As := []) (rest := []) dX8_read_16 lX8_31 rfl (Nat.le_of_ble_eq_true rfl) (Nat.le_of_ble_eq_true rfl) rfl ?_
  refine c_rclause ht Sl12 (fun l16 p16 c16 j16 b16 Sl16 => ?_) (fun e16 w16 j16 n16 Se16 => ?_)
  · skip
    have r16 := Sl16.2.1.2.2.2.2
    show ab_X (d + 33) mX8_read 19 [(0, .ref 10)] [] l16 _
    refine z_iconst dX8_read_19 ?_
    refine ab_istore_n (ls' := [(1, .int (iI 0)), (0, .ref 10)]) dX8_read_20 rfl (by decide) rfl ?_
    refine ab_sub (ls' := [(0, .ref 10), (1, .int (iI 0))]) (ks := [1, 0]) rfl ?_
    exact lp_rread ht K1 K0 _ p16 0 _ _ rfl Sl16 (by omega) (by omega) (ru_1 j16).symm
  · skip
    show ab_X (d + 33) mX8_read 19 [(0, .ref 10)] [] e16 _
    refine z_iconst dX8_read_19 ?_
    refine ab_istore_n (ls' := [(1, .int (iI 0)), (0, .ref 10)]) dX8_read_20 rfl (by decide) rfl ?_
    refine ab_sub (ls' := [(0, .ref 10), (1, .int (iI 0))]) (ks := [1, 0]) rfl ?_
    exact dl_rread (i := 0) (by omega) hz Se16 (fun h' S' => K0 h' _ (ru_2 j16 n16) n16 S')
