/-! TEXT of any kind; YARD of the model, and of the class where it throws nothing -/
theorem s_text {s : Int} (hs : inR s) : SIM mX11_text mX12_text [.int (iI s)] := by
  by_cases e0 : s = 0
  · subst e0; exact s_text0
  · by_cases e1 : s = 1
    · subst e1; exact s_text1
    · intro h ⟨n, k, I⟩
      refine c_text_ (d := 25) hs (by omega) ?_
      obtain ⟨h9, e9, J, I9, -⟩ := nx I cF.rf
      exact c_mtext_ (d := 59) e9 hs (by omega) ⟨rfl, n, k, I9⟩
theorem c_myardN {d : Nat} {h : ab_H} {Q : ab_Q} {s x : Int} (hs : inR s) (hx : inR x) (hv : ¬ ((0 ≤ s ∧ s < zv h 200 32) ∧ 0 ≤ x ∧ x ≤ 2)) (K : Q (some (.int (iI 0))) (zp h 200 0 1)) : ab_X (d + 2) mX12_yard 0 (lv_args 0 [.ref 200, .int (iI s), .int (iI x)]) [] h Q := by
  show ab_X (d + 2) mX12_yard 0 [(0, .ref 200), (1, .int (iI s)), (2, .int (iI x))] [] h Q
  refine ab_aload_n (k := 0) dX12_yard_0 rfl rfl ?_
  refine ab_aload_n (k := 0) dX12_yard_1 rfl rfl ?_
  refine ab_iload_n (k := 1) dX12_yard_2 rfl rfl ?_
  refine ab_callV (As := [.int (iI s)]) (rest := [.ref 200]) dX12_yard_3 lX12_302 rfl (Nat.le_of_ble_eq_true rfl) (Nat.le_of_ble_eq_true rfl) rfl ?_
  refine c_misYard (by omega) (fun g3 => ?_) (fun g3 => ?_)
  · skip
    try simp only [Int.toNat_natCast] at g3
    have gL := g3
    show ab_X (d + 2) mX12_yard 6 [(0, .ref 200), (1, .int (iI s)), (2, .int (iI x))] [.int (iI 1), .ref 200] h _
    refine z_if_eq (tgt := 25) dX12_yard_6 (by decide) (by decide) (fun c6 => absurd c6 (by decide)) (fun _ => ?_)
    refine ab_iload_n (k := 2) dX12_yard_9 rfl rfl ?_
    refine z_i2l dX12_yard_10 (by omega) ?_
    refine z_lconst (v := 0) dX12_yard_11 (by decide) ?_
    refine z_ldc2 (v := 2) dX12_yard_12 qX12_305 (by decide) ?_
    refine ab_callS (As := [.long (lL x), .long (lL 0), .long (lL 2)]) (rest := [.ref 200]) dX12_yard_15 lX12_232 (Nat.le_of_ble_eq_true rfl) (Nat.le_of_ble_eq_true rfl) rfl ?_
    refine c_isIn (by omega) (by omega) (by omega) (fun g15 => ?_) (fun g15 => ?_)
    · skip
      try simp only [Int.toNat_natCast] at g15
      have gL := g15
      show ab_X (d + 2) mX12_yard 18 [(0, .ref 200), (1, .int (iI s)), (2, .int (iI x))] [.int (iI 1), .ref 200] h _
      refine z_if_eq (tgt := 25) dX12_yard_18 (by decide) (by decide) (fun c18 => absurd c18 (by decide)) (fun _ => ?_)
      refine ab_sub (ls' := [(0, .ref 200), (1, .int (iI s)), (2, .int (iI x))]) (ks := [0, 1, 2]) rfl ?_
      exfalso; omega
    · skip
      try simp only [Int.toNat_natCast] at g15
      have gL := g15
      show ab_X (d + 2) mX12_yard 18 [(0, .ref 200), (1, .int (iI s)), (2, .int (iI x))] [.int (iI 0), .ref 200] h _
      refine z_if_eq (tgt := 25) dX12_yard_18 (by decide) (by decide) (fun _ => ?_) (fun c18 => absurd c18 (by decide))
      refine z_iconst dX12_yard_25 ?_
      refine z_putI dX12_yard_26 fX12_111 rfl rfl ?_
      refine ab_aload_n (k := 0) dX12_yard_29 rfl rfl ?_
      refine z_getI dX12_yard_30 fX12_111 rfl (Or.inl rfl) ?_
      refine z_is (y := 1) (zv_zp_s (by decide)) ?_
      refine z_if_le (tgt := 38) dX12_yard_33 (by decide) (by decide) (fun c33 => absurd c33 (by decide)) (fun _ => ?_)
      refine z_iconst dX12_yard_36 ?_
      refine z_iret dX12_yard_37 rfl ?_
      exact K
  · skip
    try simp only [Int.toNat_natCast] at g3
    have gL := g3
    show ab_X (d + 2) mX12_yard 6 [(0, .ref 200), (1, .int (iI s)), (2, .int (iI x))] [.int (iI 0), .ref 200] h _
    refine z_if_eq (tgt := 25) dX12_yard_6 (by decide) (by decide) (fun _ => ?_) (fun c6 => absurd c6 (by decide))
    refine z_iconst dX12_yard_25 ?_
    refine z_putI dX12_yard_26 fX12_111 rfl rfl ?_
    refine ab_aload_n (k := 0) dX12_yard_29 rfl rfl ?_
    refine z_getI dX12_yard_30 fX12_111 rfl (Or.inl rfl) ?_
    refine z_is (y := 1) (zv_zp_s (by decide)) ?_
    refine z_if_le (tgt := 38) dX12_yard_33 (by decide) (by decide) (fun c33 => absurd c33 (by decide)) (fun _ => ?_)
    refine z_iconst dX12_yard_36 ?_
    refine z_iret dX12_yard_37 rfl ?_
    exact K
theorem c_yardY {d : Nat} {h : ab_H} {Q : ab_Q} {s x : Int} (hs : inR s) (hx : inR x) (hN : zv h 15 0 ≤ 20) (hv : (0 ≤ s ∧ s < zv h 15 0) ∧ 0 ≤ x ∧ x ≤ 2) (k0 : x = 0 → ¬ zv h 18 s.toNat = 0 → Q (some (.int (iI 1))) h) (k1 : x = 0 → zv h 18 s.toNat = 0 → zv h 37 s.toNat = -1 → Q (some (.int (iI 0))) h) (k2 : x = 0 → zv h 18 s.toNat = 0 → ¬ zv h 37 s.toNat = -1 → Q (some (.int (iI 2))) h) (k3 : x = 1 → Q (some (.int (iI (zv h 37 s.toNat)))) h) (k4 : x = 2 → Q (some (.int (iI (zv h 38 s.toNat)))) h) : ab_X (d + 2) mX11_yard 0 (lv_args 0 [.ref 0, .int (iI s), .int (iI x)]) [] h Q := by
  show ab_X (d + 2) mX11_yard 0 [(0, .ref 0), (1, .int (iI s)), (2, .int (iI x))] [] h Q
  refine ab_aload_n (k := 0) dX11_yard_0 rfl rfl ?_
  refine z_getP (b := 15) dX11_yard_1 fX11_35 rfl rfl rfl ?_
  refine ab_iload_n (k := 1) dX11_yard_4 rfl rfl ?_
  refine ab_callV (As := [.int (iI s)]) (rest := []) dX11_yard_5 lX11_155 rfl (Nat.le_of_ble_eq_true rfl) (Nat.le_of_ble_eq_true rfl) rfl ?_
  refine c_hasYard (by omega) (fun g5 => ?_) (fun g5 => ?_)
  · skip
    try simp only [Int.toNat_natCast] at g5
    have gL := g5
    show ab_X (d + 2) mX11_yard 8 [(0, .ref 0), (1, .int (iI s)), (2, .int (iI x))] [.int (iI 1)] h _
    refine z_if_eq (tgt := 20) dX11_yard_8 (by decide) (by decide) (fun c8 => absurd c8 (by decide)) (fun _ => ?_)
    refine ab_iload_n (k := 2) dX11_yard_11 rfl rfl ?_
    refine z_if_lt (tgt := 20) dX11_yard_12 (by decide) (by omega) (fun c12 => ?_) (fun c12 => ?_)
    · skip
      refine ab_sub (ls' := [(0, .ref 0), (1, .int (iI s)), (2, .int (iI x))]) (ks := [0, 1, 2]) rfl ?_
      exfalso; omega
    · skip
      refine ab_iload_n (k := 2) dX11_yard_15 rfl rfl ?_
      refine z_iconst dX11_yard_16 ?_
      refine z_icmp_le (tgt := 28) dX11_yard_17 (by decide) (by omega) (by decide) (fun c17 => ?_) (fun c17 => ?_)
      · skip
        refine ab_iload_n (k := 2) dX11_yard_28 rfl rfl ?_
        refine z_iconst dX11_yard_29 ?_
        refine z_icmp_ne (tgt := 42) dX11_yard_30 (by decide) (by omega) (by decide) (fun c30 => ?_) (fun c30 => ?_)
        · skip
          refine ab_iload_n (k := 2) dX11_yard_42 rfl rfl ?_
          refine z_iconst dX11_yard_43 ?_
          refine z_icmp_ne (tgt := 56) dX11_yard_44 (by decide) (by omega) (by decide) (fun c44 => ?_) (fun c44 => ?_)
          · skip
            refine ab_aload_n (k := 0) dX11_yard_56 rfl rfl ?_
            refine z_getP (b := 15) dX11_yard_57 fX11_35 rfl rfl rfl ?_
            refine ab_iload_n (k := 1) dX11_yard_60 rfl rfl ?_
            refine ab_callV (As := [.int (iI s)]) (rest := []) dX11_yard_61 lX11_168 rfl (Nat.le_of_ble_eq_true rfl) (Nat.le_of_ble_eq_true rfl) rfl ?_
            refine c_isGate (by omega) (by omega) (fun g61 => ?_) (fun g61 => ?_)
            · skip
              try simp only [Int.toNat_natCast] at g61
              have gL := g61
              show ab_X (d + 2) mX11_yard 64 [(0, .ref 0), (1, .int (iI s)), (2, .int (iI x))] [.int (iI 1)] h _
              refine z_if_eq (tgt := 69) dX11_yard_64 (by decide) (by decide) (fun c64 => absurd c64 (by decide)) (fun _ => ?_)
              refine z_iconst dX11_yard_67 ?_
              refine z_iret dX11_yard_68 rfl ?_
              first | exact k3 (by omega) | exact k4 (by omega) | exact k0 (by omega) (by omega) | exact k1 (by omega) (by omega) (by omega) | exact k2 (by omega) (by omega) (by omega)
            · skip
              try simp only [Int.toNat_natCast] at g61
              have gL := g61
              show ab_X (d + 2) mX11_yard 64 [(0, .ref 0), (1, .int (iI s)), (2, .int (iI x))] [.int (iI 0)] h _
              refine z_if_eq (tgt := 69) dX11_yard_64 (by decide) (by decide) (fun _ => ?_) (fun c64 => absurd c64 (by decide))
              refine ab_aload_n (k := 0) dX11_yard_69 rfl rfl ?_
              refine z_getP (b := 36) dX11_yard_70 fX11_53 rfl rfl rfl ?_
              refine ab_iload_n (k := 1) dX11_yard_73 rfl rfl ?_
              refine ab_callV (As := [.int (iI s)]) (rest := []) dX11_yard_74 lX11_162 rfl (Nat.le_of_ble_eq_true rfl) (Nat.le_of_ble_eq_true rfl) rfl ?_
              refine c_placeAt (r := 36) rfl rfl rfl (by omega) (fun q => ?_) (fun q => absurd (show _ from ⟨by omega, by omega⟩) q)
              have bp74 := zv_R h 37 s.toNat
              show ab_X (d + 2) mX11_yard 77 [(0, .ref 0), (1, .int (iI s)), (2, .int (iI x))] [.int (iI (zv h 37 s.toNat))] h _
              refine z_iconst dX11_yard_77 ?_
              refine z_icmp_ne (tgt := 85) dX11_yard_78 (by decide) (by omega) (by decide) (fun c78 => ?_) (fun c78 => ?_)
              · skip
                refine z_iconst dX11_yard_85 ?_
                refine z_iret dX11_yard_86 rfl ?_
                first | exact k3 (by omega) | exact k4 (by omega) | exact k0 (by omega) (by omega) | exact k1 (by omega) (by omega) (by omega) | exact k2 (by omega) (by omega) (by omega)
              · skip
                refine z_iconst dX11_yard_81 ?_
                refine ab_goto (tgt := 86) dX11_yard_82 (by decide) ?_
                refine z_iret dX11_yard_86 rfl ?_
                first | exact k3 (by omega) | exact k4 (by omega) | exact k0 (by omega) (by omega) | exact k1 (by omega) (by omega) (by omega) | exact k2 (by omega) (by omega) (by omega)
          · skip
            refine ab_aload_n (k := 0) dX11_yard_47 rfl rfl ?_
            refine z_getP (b := 36) dX11_yard_48 fX11_53 rfl rfl rfl ?_
            refine ab_iload_n (k := 1) dX11_yard_51 rfl rfl ?_
            refine ab_callV (As := [.int (iI s)]) (rest := []) dX11_yard_52 lX11_165 rfl (Nat.le_of_ble_eq_true rfl) (Nat.le_of_ble_eq_true rfl) rfl ?_
            refine c_sortAt (by omega) (fun q => ?_) (fun q => absurd (show _ from ⟨by omega, by omega⟩) q)
            have bp52 := zv_R h 38 s.toNat
            show ab_X (d + 2) mX11_yard 55 [(0, .ref 0), (1, .int (iI s)), (2, .int (iI x))] [.int (iI (zv h 38 s.toNat))] h _
            refine z_iret dX11_yard_55 rfl ?_
            first | exact k3 (by omega) | exact k4 (by omega) | exact k0 (by omega) (by omega) | exact k1 (by omega) (by omega) (by omega) | exact k2 (by omega) (by omega) (by omega)
        · skip
          refine ab_aload_n (k := 0) dX11_yard_33 rfl rfl ?_
          refine z_getP (b := 36) dX11_yard_34 fX11_53 rfl rfl rfl ?_
          refine ab_iload_n (k := 1) dX11_yard_37 rfl rfl ?_
          refine ab_callV (As := [.int (iI s)]) (rest := []) dX11_yard_38 lX11_162 rfl (Nat.le_of_ble_eq_true rfl) (Nat.le_of_ble_eq_true rfl) rfl ?_
          refine c_placeAt (r := 36) rfl rfl rfl (by omega) (fun q => ?_) (fun q => absurd (show _ from ⟨by omega, by omega⟩) q)
          have bp38 := zv_R h 37 s.toNat
          show ab_X (d + 2) mX11_yard 41 [(0, .ref 0), (1, .int (iI s)), (2, .int (iI x))] [.int (iI (zv h 37 s.toNat))] h _
          refine z_iret dX11_yard_41 rfl ?_
          first | exact k3 (by omega) | exact k4 (by omega) | exact k0 (by omega) (by omega) | exact k1 (by omega) (by omega) (by omega) | exact k2 (by omega) (by omega) (by omega)
      · skip
        refine ab_sub (ls' := [(0, .ref 0), (1, .int (iI s)), (2, .int (iI x))]) (ks := [0, 1, 2]) rfl ?_
        exfalso; omega
  · skip
    try simp only [Int.toNat_natCast] at g5
    have gL := g5
    show ab_X (d + 2) mX11_yard 8 [(0, .ref 0), (1, .int (iI s)), (2, .int (iI x))] [.int (iI 0)] h _
    refine z_if_eq (tgt := 20) dX11_yard_8 (by decide) (by decide) (fun _ => ?_) (fun c8 => absurd c8 (by decide))
    refine ab_sub (ls' := [(0, .ref 0), (1, .int (iI s)), (2, .int (iI x))]) (ks := [0, 1, 2]) rfl ?_
    exfalso; omega
theorem c_myardY {d : Nat} {h : ab_H} {Q : ab_Q} {h9 : ab_H} {s x r : Int} (e9 : zp h 200 0 0 = h9) (hs : inR s) (hx : inR x) (hN : zv h9 200 32 ≤ 20) (hv : (0 ≤ s ∧ s < zv h9 200 32) ∧ 0 ≤ x ∧ x ≤ 2) (hr : zv h9 211 s.toNat = r) (hr2 : -2 ≤ r ∧ r < 20) (k0 : x = 0 → Q (some (.int (iI (if r = -1 then 0 else if r = -2 then 1 else 2)))) h9) (k1 : ¬ x = 0 → r < 0 → Q (some (.int (iI (-1)))) h9) (k2 : x = 1 → 0 ≤ r → Q (some (.int (iI r))) h9) (k3 : x = 2 → 0 ≤ r → Q (some (.int (iI (zv h9 212 r.toNat)))) h9) : ab_X (d + 2) mX12_yard 0 (lv_args 0 [.ref 200, .int (iI s), .int (iI x)]) [] h Q := by
  show ab_X (d + 2) mX12_yard 0 [(0, .ref 200), (1, .int (iI s)), (2, .int (iI x))] [] h Q
  have eN : zv h9 200 32 = zv h 200 32 := by rw [← e9, zv_zp_ne (by decide)]
  have e0 : zv h9 200 0 = 0 := by rw [← e9]; exact zv_zp_s (by decide)
  refine ab_aload_n (k := 0) dX12_yard_0 rfl rfl ?_
  refine ab_aload_n (k := 0) dX12_yard_1 rfl rfl ?_
  refine ab_iload_n (k := 1) dX12_yard_2 rfl rfl ?_
  refine ab_callV (As := [.int (iI s)]) (rest := [.ref 200]) dX12_yard_3 lX12_302 rfl (Nat.le_of_ble_eq_true rfl) (Nat.le_of_ble_eq_true rfl) rfl ?_
  refine c_misYard (by omega) (fun g3 => ?_) (fun g3 => ?_)
  · skip
    try simp only [Int.toNat_natCast] at g3
    have gL := g3
    show ab_X (d + 2) mX12_yard 6 [(0, .ref 200), (1, .int (iI s)), (2, .int (iI x))] [.int (iI 1), .ref 200] h _
    refine z_if_eq (tgt := 25) dX12_yard_6 (by decide) (by decide) (fun c6 => absurd c6 (by decide)) (fun _ => ?_)
    refine ab_iload_n (k := 2) dX12_yard_9 rfl rfl ?_
    refine z_i2l dX12_yard_10 (by omega) ?_
    refine z_lconst (v := 0) dX12_yard_11 (by decide) ?_
    refine z_ldc2 (v := 2) dX12_yard_12 qX12_305 (by decide) ?_
    refine ab_callS (As := [.long (lL x), .long (lL 0), .long (lL 2)]) (rest := [.ref 200]) dX12_yard_15 lX12_232 (Nat.le_of_ble_eq_true rfl) (Nat.le_of_ble_eq_true rfl) rfl ?_
    refine c_isIn (by omega) (by omega) (by omega) (fun g15 => ?_) (fun g15 => ?_)
    · skip
      try simp only [Int.toNat_natCast] at g15
      have gL := g15
      show ab_X (d + 2) mX12_yard 18 [(0, .ref 200), (1, .int (iI s)), (2, .int (iI x))] [.int (iI 1), .ref 200] h _
      refine z_if_eq (tgt := 25) dX12_yard_18 (by decide) (by decide) (fun c18 => absurd c18 (by decide)) (fun _ => ?_)
      refine z_iconst dX12_yard_21 ?_
      refine ab_goto (tgt := 26) dX12_yard_22 (by decide) ?_
      refine z_putI dX12_yard_26 fX12_111 rfl rfl ?_
      rw [e9]
      refine ab_aload_n (k := 0) dX12_yard_29 rfl rfl ?_
      refine z_getI dX12_yard_30 fX12_111 rfl (Or.inl rfl) ?_
      have b1 := zv_R h9 200 0
      refine z_if_le (tgt := 38) dX12_yard_33 (by decide) (by omega) (fun c33 => ?_) (fun c33 => ?_)
      · skip
        refine ab_iload_n (k := 2) dX12_yard_38 rfl rfl ?_
        refine z_if_ne (tgt := 73) dX12_yard_39 (by decide) (by omega) (fun c39 => ?_) (fun c39 => ?_)
        · skip
          refine ab_aload_n (k := 0) dX12_yard_73 rfl rfl ?_
          refine z_getP (b := 211) dX12_yard_74 fX12_55 rfl rfl rfl ?_
          refine ab_iload_n (k := 1) dX12_yard_77 rfl rfl ?_
          refine z_iald dX12_yard_78 rfl (by omega) (by omega) ?_
          refine z_is (y := r) hr ?_
          refine z_if_ge (tgt := 86) dX12_yard_79 (by decide) (by omega) (fun c79 => ?_) (fun c79 => ?_)
          · skip
            refine ab_iload_n (k := 2) dX12_yard_86 rfl rfl ?_
            refine z_iconst dX12_yard_87 ?_
            refine z_icmp_ne (tgt := 100) dX12_yard_88 (by decide) (by omega) (by decide) (fun c88 => ?_) (fun c88 => ?_)
            · skip
              refine ab_aload_n (k := 0) dX12_yard_100 rfl rfl ?_
              refine z_getP (b := 212) dX12_yard_101 fX12_58 rfl rfl rfl ?_
              refine ab_aload_n (k := 0) dX12_yard_104 rfl rfl ?_
              refine z_getP (b := 211) dX12_yard_105 fX12_55 rfl rfl rfl ?_
              refine ab_iload_n (k := 1) dX12_yard_108 rfl rfl ?_
              refine z_iald dX12_yard_109 rfl (by omega) (by omega) ?_
              refine z_is (y := r) hr ?_
              refine z_iald dX12_yard_110 rfl (by omega) (by omega) ?_
              have b2 := zv_R h9 212 r.toNat
              refine z_iret dX12_yard_111 rfl ?_
              first | (exfalso; omega) | exact k1 (by omega) (by omega) | exact k2 (by omega) (by omega) | exact k3 (by omega) (by omega) | (have z := k0 (by omega); (repeat' rw [if_neg (by omega)] at z); (try rw [if_pos (by omega)] at z); exact z) | (have z := k0 (by omega); rw [if_pos (by omega)] at z; exact z)
            · skip
              refine ab_aload_n (k := 0) dX12_yard_91 rfl rfl ?_
              refine z_getP (b := 211) dX12_yard_92 fX12_55 rfl rfl rfl ?_
              refine ab_iload_n (k := 1) dX12_yard_95 rfl rfl ?_
              refine z_iald dX12_yard_96 rfl (by omega) (by omega) ?_
              refine z_is (y := r) hr ?_
              refine ab_goto (tgt := 111) dX12_yard_97 (by decide) ?_
              refine z_iret dX12_yard_111 rfl ?_
              first | (exfalso; omega) | exact k1 (by omega) (by omega) | exact k2 (by omega) (by omega) | exact k3 (by omega) (by omega) | (have z := k0 (by omega); (repeat' rw [if_neg (by omega)] at z); (try rw [if_pos (by omega)] at z); exact z) | (have z := k0 (by omega); rw [if_pos (by omega)] at z; exact z)
          · skip
            refine z_iconst dX12_yard_82 ?_
            refine ab_goto (tgt := 111) dX12_yard_83 (by decide) ?_
            refine z_iret dX12_yard_111 rfl ?_
            first | (exfalso; omega) | exact k1 (by omega) (by omega) | exact k2 (by omega) (by omega) | exact k3 (by omega) (by omega) | (have z := k0 (by omega); (repeat' rw [if_neg (by omega)] at z); (try rw [if_pos (by omega)] at z); exact z) | (have z := k0 (by omega); rw [if_pos (by omega)] at z; exact z)
        · skip
          refine ab_aload_n (k := 0) dX12_yard_42 rfl rfl ?_
          refine z_getP (b := 211) dX12_yard_43 fX12_55 rfl rfl rfl ?_
          refine ab_iload_n (k := 1) dX12_yard_46 rfl rfl ?_
          refine z_iald dX12_yard_47 rfl (by omega) (by omega) ?_
          refine z_is (y := r) hr ?_
          refine z_iconst dX12_yard_48 ?_
          refine z_icmp_ne (tgt := 56) dX12_yard_49 (by decide) (by omega) (by decide) (fun c49 => ?_) (fun c49 => ?_)
          · skip
            refine ab_aload_n (k := 0) dX12_yard_56 rfl rfl ?_
            refine z_getP (b := 211) dX12_yard_57 fX12_55 rfl rfl rfl ?_
            refine ab_iload_n (k := 1) dX12_yard_60 rfl rfl ?_
            refine z_iald dX12_yard_61 rfl (by omega) (by omega) ?_
            refine z_is (y := r) hr ?_
            refine z_bipush dX12_yard_62 (by decide) ?_
            refine z_icmp_ne (tgt := 71) dX12_yard_64 (by decide) (by omega) (by decide) (fun c64 => ?_) (fun c64 => ?_)
            · skip
              refine z_iconst dX12_yard_71 ?_
              refine z_iret dX12_yard_72 rfl ?_
              first | (exfalso; omega) | exact k1 (by omega) (by omega) | exact k2 (by omega) (by omega) | exact k3 (by omega) (by omega) | (have z := k0 (by omega); (repeat' rw [if_neg (by omega)] at z); (try rw [if_pos (by omega)] at z); exact z) | (have z := k0 (by omega); rw [if_pos (by omega)] at z; exact z)
            · skip
              refine z_iconst dX12_yard_67 ?_
              refine ab_goto (tgt := 72) dX12_yard_68 (by decide) ?_
              refine z_iret dX12_yard_72 rfl ?_
              first | (exfalso; omega) | exact k1 (by omega) (by omega) | exact k2 (by omega) (by omega) | exact k3 (by omega) (by omega) | (have z := k0 (by omega); (repeat' rw [if_neg (by omega)] at z); (try rw [if_pos (by omega)] at z); exact z) | (have z := k0 (by omega); rw [if_pos (by omega)] at z; exact z)
          · skip
            refine z_iconst dX12_yard_52 ?_
            refine ab_goto (tgt := 72) dX12_yard_53 (by decide) ?_
            refine z_iret dX12_yard_72 rfl ?_
            first | (exfalso; omega) | exact k1 (by omega) (by omega) | exact k2 (by omega) (by omega) | exact k3 (by omega) (by omega) | (have z := k0 (by omega); (repeat' rw [if_neg (by omega)] at z); (try rw [if_pos (by omega)] at z); exact z) | (have z := k0 (by omega); rw [if_pos (by omega)] at z; exact z)
      · skip
        refine z_iconst dX12_yard_36 ?_
        refine z_iret dX12_yard_37 rfl ?_
        first | (exfalso; omega) | exact k1 (by omega) (by omega) | exact k2 (by omega) (by omega) | exact k3 (by omega) (by omega) | (have z := k0 (by omega); (repeat' rw [if_neg (by omega)] at z); (try rw [if_pos (by omega)] at z); exact z) | (have z := k0 (by omega); rw [if_pos (by omega)] at z; exact z)
    · skip
      try simp only [Int.toNat_natCast] at g15
      have gL := g15
      show ab_X (d + 2) mX12_yard 18 [(0, .ref 200), (1, .int (iI s)), (2, .int (iI x))] [.int (iI 0), .ref 200] h _
      refine z_if_eq (tgt := 25) dX12_yard_18 (by decide) (by decide) (fun _ => ?_) (fun c18 => absurd c18 (by decide))
      refine ab_sub (ls' := [(0, .ref 200), (1, .int (iI s)), (2, .int (iI x))]) (ks := [0, 1, 2]) rfl ?_
      exfalso; omega
  · skip
    try simp only [Int.toNat_natCast] at g3
    have gL := g3
    show ab_X (d + 2) mX12_yard 6 [(0, .ref 200), (1, .int (iI s)), (2, .int (iI x))] [.int (iI 0), .ref 200] h _
    refine z_if_eq (tgt := 25) dX12_yard_6 (by decide) (by decide) (fun _ => ?_) (fun c6 => absurd c6 (by decide))
    refine ab_sub (ls' := [(0, .ref 200), (1, .int (iI s)), (2, .int (iI x))]) (ks := [0, 1, 2]) rfl ?_
    exfalso; omega
