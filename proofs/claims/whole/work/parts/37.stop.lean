/-! STOP, LEAVE, FEED, both sides -/
theorem c_stop1 {d : Nat} {h : ab_H} {Q : ab_Q} {s : Int} {n L p : Nat} {x : Nat} (hs : inR s) (hn : zv h 15 0 = n) (hn2 : n ≤ 20) (hN : zv h 15 3 ≤ 4) (hL : 0 ≤ s ∧ s < zv h 15 3 → zv h 16 s.toNat = L ∧ 1 ≤ L ∧ L ≤ 9) (hx : zv h 165 1 = x) (hx2 : x < 40) (hA : 0 ≤ zv h 165 2 ∧ zv h 165 2 ≤ 40) (hv : 0 ≤ s ∧ s < zv h 15 3) (hc : zv h 36 2 ≤ 1000) (ha : allf (cfr h n) L p = true) (hpL : p + L ≤ n) (K : ∀ hk h2, kepR h hk → entR hk h2 p L s → Q (some (.int (iI 1))) h2) : ab_X (d + 3) mX11_stop 0 (lv_args 0 [.ref 0, .int (iI s), .int (iI (p : Int))]) [] h Q := by
  show ab_X (d + 3) mX11_stop 0 [(0, .ref 0), (1, .int (iI s)), (2, .int (iI (p : Int)))] [] h Q
  have hLb := (hL hv).2
  refine ab_aload_n (k := 0) dX11_stop_0 rfl rfl ?_
  refine z_getP (b := 15) dX11_stop_1 fX11_35 rfl rfl rfl ?_
  refine ab_iload_n (k := 1) dX11_stop_4 rfl rfl ?_
  refine ab_callV (As := [.int (iI s)]) (rest := []) dX11_stop_5 lX11_171 rfl (Nat.le_of_ble_eq_true rfl) (Nat.le_of_ble_eq_true rfl) rfl ?_
  refine c_hasSort (by omega) (fun g5 => ?_) (fun g5 => ?_)
  · skip
    try simp only [Int.toNat_natCast] at g5
    have gL := g5
    show ab_X (d + 3) mX11_stop 8 [(0, .ref 0), (1, .int (iI s)), (2, .int (iI (p : Int)))] [.int (iI 1)] h _
    refine z_if_eq (tgt := 27) dX11_stop_8 (by decide) (by decide) (fun c8 => absurd c8 (by decide)) (fun _ => ?_)
    refine ab_aload_n (k := 0) dX11_stop_11 rfl rfl ?_
    refine ab_iload_n (k := 2) dX11_stop_12 rfl rfl ?_
    refine ab_aload_n (k := 0) dX11_stop_13 rfl rfl ?_
    refine z_getP (b := 15) dX11_stop_14 fX11_35 rfl rfl rfl ?_
    refine ab_iload_n (k := 1) dX11_stop_17 rfl rfl ?_
    refine ab_callV (As := [.int (iI s)]) (rest := [.int (iI (p : Int)), .ref 0]) dX11_stop_18 lX11_174 rfl (Nat.le_of_ble_eq_true rfl) (Nat.le_of_ble_eq_true rfl) rfl ?_
    refine c_lengthOf (by omega) (by omega) (fun _ => ?_) (fun q => absurd (show _ from ⟨by omega, by omega⟩) q)
    show ab_X (d + 3) mX11_stop 21 [(0, .ref 0), (1, .int (iI s)), (2, .int (iI (p : Int)))] [.int (iI (zv h 16 s.toNat)), .int (iI (p : Int)), .ref 0] h _
    refine z_is (y := (L : Int)) (hL (by omega)).1 ?_
    refine ab_callV (As := [.int (iI (p : Int)), .int (iI (L : Int))]) (rest := []) dX11_stop_21 lX11_207 rfl (Nat.le_of_ble_eq_true rfl) (Nat.le_of_ble_eq_true rfl) rfl ?_
    refine c_standC hn hn2 (by omega) (by omega) (fun z21 g21 => ?_) (fun g21 => ?_)
    · skip
      try simp only [Int.toNat_natCast] at g21
      have gL := g21
      show ab_X (d + 3) mX11_stop 24 [(0, .ref 0), (1, .int (iI s)), (2, .int (iI (p : Int)))] [.int (iI 1)] h _
      refine z_if_ne (tgt := 29) dX11_stop_24 (by decide) (by decide) (fun _ => ?_) (fun c24 => absurd c24 (by decide))
      refine ab_aload_n (k := 0) dX11_stop_29 rfl rfl ?_
      refine z_getP (b := 165) dX11_stop_30 fX11_66 rfl rfl rfl ?_
      refine ab_aload_n (k := 0) dX11_stop_33 rfl rfl ?_
      refine z_getP (b := 36) dX11_stop_34 fX11_53 rfl rfl rfl ?_
      refine ab_callV (As := [.ref 36]) (rest := []) dX11_stop_37 lX11_200 rfl (Nat.le_of_ble_eq_true rfl) (Nat.le_of_ble_eq_true rfl) rfl ?_
      refine c_keep0 (x := x) hx hx2 hA.1 hA.2 (fun h1 hcp => ?_)
      obtain ⟨hk, ehk⟩ : ∃ z : ab_H, z = zp (zp h1 165 1 (((x + 1) % 40 : Nat) : Int)) 165 2 (min (zv h 165 2 + 1) 40) := ⟨_, rfl⟩
      rw [← ehk]
      have hkep : kepR h hk := ⟨x, h1, hx, hx2, hcp, ehk⟩
      have ek3 : zv hk 15 3 = zv h 15 3 := kep_o hkep (by omega)
      have ek2 : zv hk 36 2 = zv h 36 2 := kep_o hkep (by omega)
      show ab_X (d + 3) mX11_stop 40 [(0, .ref 0), (1, .int (iI s)), (2, .int (iI (p : Int)))] [] hk _
      refine ab_aload_n (k := 0) dX11_stop_40 rfl rfl ?_
      refine z_getP (b := 36) dX11_stop_41 fX11_53 rfl rfl rfl ?_
      refine ab_iload_n (k := 2) dX11_stop_44 rfl rfl ?_
      refine ab_aload_n (k := 0) dX11_stop_45 rfl rfl ?_
      refine z_getP (b := 15) dX11_stop_46 fX11_35 rfl rfl rfl ?_
      refine ab_iload_n (k := 1) dX11_stop_49 rfl rfl ?_
      refine ab_callV (As := [.int (iI s)]) (rest := [.int (iI (p : Int)), .ref 36]) dX11_stop_50 lX11_174 rfl (Nat.le_of_ble_eq_true rfl) (Nat.le_of_ble_eq_true rfl) rfl ?_
      refine c_lengthOf (by omega) (by omega) (fun _ => ?_) (fun q => absurd (show _ from ⟨by omega, by omega⟩) q)
      rw [show zv hk 16 s.toNat = (L : Int) from (kep_o hkep (by omega)).trans (hL (by omega)).1]
      show ab_X (d + 3) mX11_stop 53 [(0, .ref 0), (1, .int (iI s)), (2, .int (iI (p : Int)))] [.int (iI (L : Int)), .int (iI (p : Int)), .ref 36] hk _
      refine ab_iload_n (k := 1) dX11_stop_53 rfl rfl ?_
      refine ab_callV (As := [.int (iI (p : Int)), .int (iI (L : Int)), .int (iI s)]) (rest := []) dX11_stop_54 lX11_203 rfl (Nat.le_of_ble_eq_true rfl) (Nat.le_of_ble_eq_true rfl) rfl ?_
      refine ct_enter (p := p) (l := L) (by omega) (by omega) (by omega) (by omega) (fun h2 he2 => ?_)
      show ab_X (d + 3) mX11_stop 57 [(0, .ref 0), (1, .int (iI s)), (2, .int (iI (p : Int)))] [] h2 _
      refine z_iconst dX11_stop_57 ?_
      refine z_zret dX11_stop_58 rfl (Or.inr rfl) ?_
      first | exact K hk h2 hkep he2 | exact absurd hv gL | exact absurd ⟨by omega, ha⟩ gL | exact absurd gL (by omega)
    · skip
      try simp only [Int.toNat_natCast] at g21
      have gL := g21
      show ab_X (d + 3) mX11_stop 24 [(0, .ref 0), (1, .int (iI s)), (2, .int (iI (p : Int)))] [.int (iI 0)] h _
      refine z_if_ne (tgt := 29) dX11_stop_24 (by decide) (by decide) (fun c24 => absurd c24 (by decide)) (fun _ => ?_)
      refine z_iconst dX11_stop_27 ?_
      refine z_zret dX11_stop_28 rfl (Or.inl rfl) ?_
      first | exact K hk h2 hkep he2 | exact absurd hv gL | exact absurd ⟨by omega, ha⟩ gL | exact absurd gL (by omega)
  · skip
    try simp only [Int.toNat_natCast] at g5
    have gL := g5
    show ab_X (d + 3) mX11_stop 8 [(0, .ref 0), (1, .int (iI s)), (2, .int (iI (p : Int)))] [.int (iI 0)] h _
    refine z_if_eq (tgt := 27) dX11_stop_8 (by decide) (by decide) (fun _ => ?_) (fun c8 => absurd c8 (by decide))
    refine z_iconst dX11_stop_27 ?_
    refine z_zret dX11_stop_28 rfl (Or.inl rfl) ?_
    first | exact K hk h2 hkep he2 | exact absurd hv gL | exact absurd ⟨by omega, ha⟩ gL | exact absurd gL (by omega)
theorem c_stop0 {d : Nat} {h : ab_H} {Q : ab_Q} {s p : Int} {n L : Nat} {x : Nat} (hs : inR s) (hp : inR p) (hn : zv h 15 0 = n) (hn2 : n ≤ 20) (hN : zv h 15 3 ≤ 4) (hL : 0 ≤ s ∧ s < zv h 15 3 → zv h 16 s.toNat = L ∧ 1 ≤ L ∧ L ≤ 9) (hx : zv h 165 1 = x) (hx2 : x < 40) (hA : 0 ≤ zv h 165 2 ∧ zv h 165 2 ≤ 40) (hno : ¬ ((0 ≤ s ∧ s < zv h 15 3) ∧ 0 ≤ p ∧ allf (cfr h n) L p.toNat = true)) (K : Q (some (.int (iI 0))) h) : ab_X (d + 3) mX11_stop 0 (lv_args 0 [.ref 0, .int (iI s), .int (iI p)]) [] h Q := by
  show ab_X (d + 3) mX11_stop 0 [(0, .ref 0), (1, .int (iI s)), (2, .int (iI p))] [] h Q
  refine ab_aload_n (k := 0) dX11_stop_0 rfl rfl ?_
  refine z_getP (b := 15) dX11_stop_1 fX11_35 rfl rfl rfl ?_
  refine ab_iload_n (k := 1) dX11_stop_4 rfl rfl ?_
  refine ab_callV (As := [.int (iI s)]) (rest := []) dX11_stop_5 lX11_171 rfl (Nat.le_of_ble_eq_true rfl) (Nat.le_of_ble_eq_true rfl) rfl ?_
  refine c_hasSort (by omega) (fun g5 => ?_) (fun g5 => ?_)
  · skip
    try simp only [Int.toNat_natCast] at g5
    have gL := g5
    show ab_X (d + 3) mX11_stop 8 [(0, .ref 0), (1, .int (iI s)), (2, .int (iI p))] [.int (iI 1)] h _
    refine z_if_eq (tgt := 27) dX11_stop_8 (by decide) (by decide) (fun c8 => absurd c8 (by decide)) (fun _ => ?_)
    refine ab_aload_n (k := 0) dX11_stop_11 rfl rfl ?_
    refine ab_iload_n (k := 2) dX11_stop_12 rfl rfl ?_
    refine ab_aload_n (k := 0) dX11_stop_13 rfl rfl ?_
    refine z_getP (b := 15) dX11_stop_14 fX11_35 rfl rfl rfl ?_
    refine ab_iload_n (k := 1) dX11_stop_17 rfl rfl ?_
    refine ab_callV (As := [.int (iI s)]) (rest := [.int (iI p), .ref 0]) dX11_stop_18 lX11_174 rfl (Nat.le_of_ble_eq_true rfl) (Nat.le_of_ble_eq_true rfl) rfl ?_
    refine c_lengthOf (by omega) (by omega) (fun _ => ?_) (fun q => absurd (show _ from ⟨by omega, by omega⟩) q)
    show ab_X (d + 3) mX11_stop 21 [(0, .ref 0), (1, .int (iI s)), (2, .int (iI p))] [.int (iI (zv h 16 s.toNat)), .int (iI p), .ref 0] h _
    refine z_is (y := (L : Int)) (hL (by omega)).1 ?_
    have hLb := (hL (by omega)).2
    refine ab_callV (As := [.int (iI p), .int (iI (L : Int))]) (rest := []) dX11_stop_21 lX11_207 rfl (Nat.le_of_ble_eq_true rfl) (Nat.le_of_ble_eq_true rfl) rfl ?_
    refine c_standC hn hn2 (by omega) (by omega) (fun z21 g21 => ?_) (fun g21 => ?_)
    · skip
      try simp only [Int.toNat_natCast] at g21
      have gL := g21
      show ab_X (d + 3) mX11_stop 24 [(0, .ref 0), (1, .int (iI s)), (2, .int (iI p))] [.int (iI 1)] h _
      refine z_if_ne (tgt := 29) dX11_stop_24 (by decide) (by decide) (fun _ => ?_) (fun c24 => absurd c24 (by decide))
      refine ab_sub (ls' := [(0, .ref 0), (1, .int (iI s)), (2, .int (iI p))]) (ks := [0, 1, 2]) rfl ?_
      first | exact K | exact absurd ⟨by omega, by omega, gL⟩ hno
    · skip
      try simp only [Int.toNat_natCast] at g21
      have gL := g21
      show ab_X (d + 3) mX11_stop 24 [(0, .ref 0), (1, .int (iI s)), (2, .int (iI p))] [.int (iI 0)] h _
      refine z_if_ne (tgt := 29) dX11_stop_24 (by decide) (by decide) (fun c24 => absurd c24 (by decide)) (fun _ => ?_)
      refine z_iconst dX11_stop_27 ?_
      refine z_zret dX11_stop_28 rfl (Or.inl rfl) ?_
      first | exact K | exact absurd ⟨by omega, by omega, gL⟩ hno
  · skip
    try simp only [Int.toNat_natCast] at g5
    have gL := g5
    show ab_X (d + 3) mX11_stop 8 [(0, .ref 0), (1, .int (iI s)), (2, .int (iI p))] [.int (iI 0)] h _
    refine z_if_eq (tgt := 27) dX11_stop_8 (by decide) (by decide) (fun _ => ?_) (fun c8 => absurd c8 (by decide))
    refine z_iconst dX11_stop_27 ?_
    refine z_zret dX11_stop_28 rfl (Or.inl rfl) ?_
    first | exact K | exact absurd ⟨by omega, by omega, gL⟩ hno
theorem c_mstop1 {d : Nat} {h : ab_H} {Q : ab_Q} {h9 : ab_H} {n s L p a : Nat} (e9 : zp h 200 0 0 = h9) (hn : zv h9 200 32 = n) (hn2 : n ≤ 20) (hs : s < 4) (hL : zv h9 207 (2 * s) = L) (hL2 : L ≤ 9) (ha : zv h9 200 37 = (a : Int)) (ha2 : a ≤ 40) (hv : (s : Int) < zv h9 200 24) (haf : allf (mfr h9 n) L p = true) (hpL : p + L ≤ n) (hp : p < n) (K : ∀ hk h2, remR h9 hk a → mstR hk h2 p L s → Q (some (.int (iI 1))) h2) : ab_X (d + 3) mX12_stop 0 (lv_args 0 [.ref 200, .int (iI (s : Int)), .int (iI (p : Int))]) [] h Q := by
  show ab_X (d + 3) mX12_stop 0 [(0, .ref 200), (1, .int (iI (s : Int))), (2, .int (iI (p : Int)))] [] h Q
  refine ab_aload_n (k := 0) dX12_stop_0 rfl rfl ?_
  refine z_iconst dX12_stop_1 ?_
  refine z_putI dX12_stop_2 fX12_111 rfl rfl ?_
  rw [e9]
  refine ab_aload_n (k := 0) dX12_stop_5 rfl rfl ?_
  refine ab_iload_n (k := 1) dX12_stop_6 rfl rfl ?_
  refine ab_callV (As := [.int (iI (s : Int))]) (rest := []) dX12_stop_7 lX12_307 rfl (Nat.le_of_ble_eq_true rfl) (Nat.le_of_ble_eq_true rfl) rfl ?_
  refine c_misSort (by omega) (fun g7 => ?_) (fun g7 => ?_)
  · skip
    try simp only [Int.toNat_natCast] at g7
    have gL := g7
    show ab_X (d + 3) mX12_stop 10 [(0, .ref 200), (1, .int (iI (s : Int))), (2, .int (iI (p : Int)))] [.int (iI 1)] h9 _
    refine z_if_eq (tgt := 30) dX12_stop_10 (by decide) (by decide) (fun c10 => absurd c10 (by decide)) (fun _ => ?_)
    refine ab_aload_n (k := 0) dX12_stop_13 rfl rfl ?_
    refine ab_iload_n (k := 2) dX12_stop_14 rfl rfl ?_
    refine ab_callV (As := [.int (iI (p : Int))]) (rest := []) dX12_stop_15 lX12_302 rfl (Nat.le_of_ble_eq_true rfl) (Nat.le_of_ble_eq_true rfl) rfl ?_
    refine c_misYard (by omega) (fun g15 => ?_) (fun g15 => ?_)
    · skip
      try simp only [Int.toNat_natCast] at g15
      have gL := g15
      show ab_X (d + 3) mX12_stop 18 [(0, .ref 200), (1, .int (iI (s : Int))), (2, .int (iI (p : Int)))] [.int (iI 1)] h9 _
      refine z_if_eq (tgt := 30) dX12_stop_18 (by decide) (by decide) (fun c18 => absurd c18 (by decide)) (fun _ => ?_)
      refine ab_aload_n (k := 0) dX12_stop_21 rfl rfl ?_
      refine ab_iload_n (k := 1) dX12_stop_22 rfl rfl ?_
      refine ab_iload_n (k := 2) dX12_stop_23 rfl rfl ?_
      refine ab_callV (As := [.int (iI (s : Int)), .int (iI (p : Int))]) (rest := []) dX12_stop_24 lX12_318 rfl (Nat.le_of_ble_eq_true rfl) (Nat.le_of_ble_eq_true rfl) rfl ?_
      refine c_mcanStop hn hn2 hs hL hL2 (by omega) (fun g24 => ?_) (fun g24 => ?_)
      · skip
        try simp only [Int.toNat_natCast] at g24
        have gL := g24
        show ab_X (d + 3) mX12_stop 27 [(0, .ref 200), (1, .int (iI (s : Int))), (2, .int (iI (p : Int)))] [.int (iI 1)] h9 _
        refine z_if_ne (tgt := 32) dX12_stop_27 (by decide) (by decide) (fun _ => ?_) (fun c27 => absurd c27 (by decide))
        refine ab_aload_n (k := 0) dX12_stop_32 rfl rfl ?_
        refine ab_callV (As := []) (rest := []) dX12_stop_33 lX12_354 rfl (Nat.le_of_ble_eq_true rfl) (Nat.le_of_ble_eq_true rfl) rfl ?_
        refine c_remember (a := a) ha ha2 (fun hk hrem => ?_)
        show ab_X (d + 3) mX12_stop 36 [(0, .ref 200), (1, .int (iI (s : Int))), (2, .int (iI (p : Int)))] [] hk _
        refine ab_aload_n (k := 0) dX12_stop_36 rfl rfl ?_
        refine ab_iload_n (k := 1) dX12_stop_37 rfl rfl ?_
        refine ab_iload_n (k := 2) dX12_stop_38 rfl rfl ?_
        refine ab_callV (As := [.int (iI (s : Int)), .int (iI (p : Int))]) (rest := []) dX12_stop_39 lX12_329 rfl (Nat.le_of_ble_eq_true rfl) (Nat.le_of_ble_eq_true rfl) rfl ?_
        refine c_mstand (L := L) hs ((hrem.1.1 207 _ (by decide)).trans hL) hL2 (by omega) (by omega) (fun h2 hm2 => ?_)
        show ab_X (d + 3) mX12_stop 42 [(0, .ref 200), (1, .int (iI (s : Int))), (2, .int (iI (p : Int)))] [] h2 _
        refine z_iconst dX12_stop_42 ?_
        refine z_zret dX12_stop_43 rfl (Or.inr rfl) ?_
        first | exact K hk h2 hrem hm2 | exact absurd haf gL | exact absurd gL (by omega)
      · skip
        try simp only [Int.toNat_natCast] at g24
        have gL := g24
        show ab_X (d + 3) mX12_stop 27 [(0, .ref 200), (1, .int (iI (s : Int))), (2, .int (iI (p : Int)))] [.int (iI 0)] h9 _
        refine z_if_ne (tgt := 32) dX12_stop_27 (by decide) (by decide) (fun c27 => absurd c27 (by decide)) (fun _ => ?_)
        refine z_iconst dX12_stop_30 ?_
        refine z_zret dX12_stop_31 rfl (Or.inl rfl) ?_
        first | exact K hk h2 hrem hm2 | exact absurd haf gL | exact absurd gL (by omega)
    · skip
      try simp only [Int.toNat_natCast] at g15
      have gL := g15
      show ab_X (d + 3) mX12_stop 18 [(0, .ref 200), (1, .int (iI (s : Int))), (2, .int (iI (p : Int)))] [.int (iI 0)] h9 _
      refine z_if_eq (tgt := 30) dX12_stop_18 (by decide) (by decide) (fun _ => ?_) (fun c18 => absurd c18 (by decide))
      refine z_iconst dX12_stop_30 ?_
      refine z_zret dX12_stop_31 rfl (Or.inl rfl) ?_
      first | exact K hk h2 hrem hm2 | exact absurd haf gL | exact absurd gL (by omega)
  · skip
    try simp only [Int.toNat_natCast] at g7
    have gL := g7
    show ab_X (d + 3) mX12_stop 10 [(0, .ref 200), (1, .int (iI (s : Int))), (2, .int (iI (p : Int)))] [.int (iI 0)] h9 _
    refine z_if_eq (tgt := 30) dX12_stop_10 (by decide) (by decide) (fun _ => ?_) (fun c10 => absurd c10 (by decide))
    refine z_iconst dX12_stop_30 ?_
    refine z_zret dX12_stop_31 rfl (Or.inl rfl) ?_
    first | exact K hk h2 hrem hm2 | exact absurd haf gL | exact absurd gL (by omega)
theorem c_mstop0 {d : Nat} {h : ab_H} {Q : ab_Q} {h9 : ab_H} {n s L p a : Nat} (e9 : zp h 200 0 0 = h9) (hn : zv h9 200 32 = n) (hn2 : n ≤ 20) (hs : s < 4) (hL : zv h9 207 (2 * s) = L) (hL2 : L ≤ 9) (hno : ¬ ((s : Int) < zv h9 200 24 ∧ p < n ∧ allf (mfr h9 n) L p = true)) (hp : p ≤ 2147483647) (K : Q (some (.int (iI 0))) h9) : ab_X (d + 3) mX12_stop 0 (lv_args 0 [.ref 200, .int (iI (s : Int)), .int (iI (p : Int))]) [] h Q := by
  show ab_X (d + 3) mX12_stop 0 [(0, .ref 200), (1, .int (iI (s : Int))), (2, .int (iI (p : Int)))] [] h Q
  refine ab_aload_n (k := 0) dX12_stop_0 rfl rfl ?_
  refine z_iconst dX12_stop_1 ?_
  refine z_putI dX12_stop_2 fX12_111 rfl rfl ?_
  rw [e9]
  refine ab_aload_n (k := 0) dX12_stop_5 rfl rfl ?_
  refine ab_iload_n (k := 1) dX12_stop_6 rfl rfl ?_
  refine ab_callV (As := [.int (iI (s : Int))]) (rest := []) dX12_stop_7 lX12_307 rfl (Nat.le_of_ble_eq_true rfl) (Nat.le_of_ble_eq_true rfl) rfl ?_
  refine c_misSort (by omega) (fun g7 => ?_) (fun g7 => ?_)
  · skip
    try simp only [Int.toNat_natCast] at g7
    have gL := g7
    show ab_X (d + 3) mX12_stop 10 [(0, .ref 200), (1, .int (iI (s : Int))), (2, .int (iI (p : Int)))] [.int (iI 1)] h9 _
    refine z_if_eq (tgt := 30) dX12_stop_10 (by decide) (by decide) (fun c10 => absurd c10 (by decide)) (fun _ => ?_)
    refine ab_aload_n (k := 0) dX12_stop_13 rfl rfl ?_
    refine ab_iload_n (k := 2) dX12_stop_14 rfl rfl ?_
    refine ab_callV (As := [.int (iI (p : Int))]) (rest := []) dX12_stop_15 lX12_302 rfl (Nat.le_of_ble_eq_true rfl) (Nat.le_of_ble_eq_true rfl) rfl ?_
    refine c_misYard (by omega) (fun g15 => ?_) (fun g15 => ?_)
    · skip
      try simp only [Int.toNat_natCast] at g15
      have gL := g15
      show ab_X (d + 3) mX12_stop 18 [(0, .ref 200), (1, .int (iI (s : Int))), (2, .int (iI (p : Int)))] [.int (iI 1)] h9 _
      refine z_if_eq (tgt := 30) dX12_stop_18 (by decide) (by decide) (fun c18 => absurd c18 (by decide)) (fun _ => ?_)
      refine ab_aload_n (k := 0) dX12_stop_21 rfl rfl ?_
      refine ab_iload_n (k := 1) dX12_stop_22 rfl rfl ?_
      refine ab_iload_n (k := 2) dX12_stop_23 rfl rfl ?_
      refine ab_callV (As := [.int (iI (s : Int)), .int (iI (p : Int))]) (rest := []) dX12_stop_24 lX12_318 rfl (Nat.le_of_ble_eq_true rfl) (Nat.le_of_ble_eq_true rfl) rfl ?_
      refine c_mcanStop hn hn2 hs hL hL2 (by omega) (fun g24 => ?_) (fun g24 => ?_)
      · skip
        try simp only [Int.toNat_natCast] at g24
        have gL := g24
        show ab_X (d + 3) mX12_stop 27 [(0, .ref 200), (1, .int (iI (s : Int))), (2, .int (iI (p : Int)))] [.int (iI 1)] h9 _
        refine z_if_ne (tgt := 32) dX12_stop_27 (by decide) (by decide) (fun _ => ?_) (fun c27 => absurd c27 (by decide))
        refine ab_sub (ls' := [(0, .ref 200), (1, .int (iI (s : Int))), (2, .int (iI (p : Int)))]) (ks := [0, 1, 2]) rfl ?_
        first | exact K | exact absurd ⟨by omega, by omega, gL⟩ hno
      · skip
        try simp only [Int.toNat_natCast] at g24
        have gL := g24
        show ab_X (d + 3) mX12_stop 27 [(0, .ref 200), (1, .int (iI (s : Int))), (2, .int (iI (p : Int)))] [.int (iI 0)] h9 _
        refine z_if_ne (tgt := 32) dX12_stop_27 (by decide) (by decide) (fun c27 => absurd c27 (by decide)) (fun _ => ?_)
        refine z_iconst dX12_stop_30 ?_
        refine z_zret dX12_stop_31 rfl (Or.inl rfl) ?_
        first | exact K | exact absurd ⟨by omega, by omega, gL⟩ hno
    · skip
      try simp only [Int.toNat_natCast] at g15
      have gL := g15
      show ab_X (d + 3) mX12_stop 18 [(0, .ref 200), (1, .int (iI (s : Int))), (2, .int (iI (p : Int)))] [.int (iI 0)] h9 _
      refine z_if_eq (tgt := 30) dX12_stop_18 (by decide) (by decide) (fun _ => ?_) (fun c18 => absurd c18 (by decide))
      refine z_iconst dX12_stop_30 ?_
      refine z_zret dX12_stop_31 rfl (Or.inl rfl) ?_
      first | exact K | exact absurd ⟨by omega, by omega, gL⟩ hno
  · skip
    try simp only [Int.toNat_natCast] at g7
    have gL := g7
    show ab_X (d + 3) mX12_stop 10 [(0, .ref 200), (1, .int (iI (s : Int))), (2, .int (iI (p : Int)))] [.int (iI 0)] h9 _
    refine z_if_eq (tgt := 30) dX12_stop_10 (by decide) (by decide) (fun _ => ?_) (fun c10 => absurd c10 (by decide))
    refine z_iconst dX12_stop_30 ?_
    refine z_zret dX12_stop_31 rfl (Or.inl rfl) ?_
    first | exact K | exact absurd ⟨by omega, by omega, gL⟩ hno
theorem c_mstop_ {d : Nat} {h : ab_H} {Q : ab_Q} {h9 : ab_H} {s p : Int} (e9 : zp h 200 0 0 = h9) (hs : inR s) (hp : inR p) (hno : ¬ ((0 ≤ s ∧ s < zv h9 200 24) ∧ 0 ≤ p ∧ p < zv h9 200 32)) (K : Q (some (.int (iI 0))) h9) : ab_X (d + 3) mX12_stop 0 (lv_args 0 [.ref 200, .int (iI s), .int (iI p)]) [] h Q := by
  show ab_X (d + 3) mX12_stop 0 [(0, .ref 200), (1, .int (iI s)), (2, .int (iI p))] [] h Q
  refine ab_aload_n (k := 0) dX12_stop_0 rfl rfl ?_
  refine z_iconst dX12_stop_1 ?_
  refine z_putI dX12_stop_2 fX12_111 rfl rfl ?_
  rw [e9]
  refine ab_aload_n (k := 0) dX12_stop_5 rfl rfl ?_
  refine ab_iload_n (k := 1) dX12_stop_6 rfl rfl ?_
  refine ab_callV (As := [.int (iI s)]) (rest := []) dX12_stop_7 lX12_307 rfl (Nat.le_of_ble_eq_true rfl) (Nat.le_of_ble_eq_true rfl) rfl ?_
  refine c_misSort (by omega) (fun g7 => ?_) (fun g7 => ?_)
  · skip
    try simp only [Int.toNat_natCast] at g7
    have gL := g7
    show ab_X (d + 3) mX12_stop 10 [(0, .ref 200), (1, .int (iI s)), (2, .int (iI p))] [.int (iI 1)] h9 _
    refine z_if_eq (tgt := 30) dX12_stop_10 (by decide) (by decide) (fun c10 => absurd c10 (by decide)) (fun _ => ?_)
    refine ab_aload_n (k := 0) dX12_stop_13 rfl rfl ?_
    refine ab_iload_n (k := 2) dX12_stop_14 rfl rfl ?_
    refine ab_callV (As := [.int (iI p)]) (rest := []) dX12_stop_15 lX12_302 rfl (Nat.le_of_ble_eq_true rfl) (Nat.le_of_ble_eq_true rfl) rfl ?_
    refine c_misYard (by omega) (fun g15 => ?_) (fun g15 => ?_)
    · skip
      try simp only [Int.toNat_natCast] at g15
      have gL := g15
      show ab_X (d + 3) mX12_stop 18 [(0, .ref 200), (1, .int (iI s)), (2, .int (iI p))] [.int (iI 1)] h9 _
      refine z_if_eq (tgt := 30) dX12_stop_18 (by decide) (by decide) (fun c18 => absurd c18 (by decide)) (fun _ => ?_)
      refine ab_sub (ls' := [(0, .ref 200), (1, .int (iI s)), (2, .int (iI p))]) (ks := [0, 1, 2]) rfl ?_
      first | exact K | exact absurd ⟨by omega, by omega, by omega⟩ hno
    · skip
      try simp only [Int.toNat_natCast] at g15
      have gL := g15
      show ab_X (d + 3) mX12_stop 18 [(0, .ref 200), (1, .int (iI s)), (2, .int (iI p))] [.int (iI 0)] h9 _
      refine z_if_eq (tgt := 30) dX12_stop_18 (by decide) (by decide) (fun _ => ?_) (fun c18 => absurd c18 (by decide))
      refine z_iconst dX12_stop_30 ?_
      refine z_zret dX12_stop_31 rfl (Or.inl rfl) ?_
      first | exact K | exact absurd ⟨by omega, by omega, by omega⟩ hno
  · skip
    try simp only [Int.toNat_natCast] at g7
    have gL := g7
    show ab_X (d + 3) mX12_stop 10 [(0, .ref 200), (1, .int (iI s)), (2, .int (iI p))] [.int (iI 0)] h9 _
    refine z_if_eq (tgt := 30) dX12_stop_10 (by decide) (by decide) (fun _ => ?_) (fun c10 => absurd c10 (by decide))
    refine z_iconst dX12_stop_30 ?_
    refine z_zret dX12_stop_31 rfl (Or.inl rfl) ?_
    first | exact K | exact absurd ⟨by omega, by omega, by omega⟩ hno
theorem c_leave {d : Nat} {h : ab_H} {Q : ab_Q} {s v : Int} {n : Nat} {x : Nat} (hs : inR s) (hn : zv h 15 0 = n) (hn2 : n ≤ 20) (hx : zv h 165 1 = x) (hx2 : x < 40) (hA : 0 ≤ zv h 165 2 ∧ zv h 165 2 ≤ 40) (hv : zv h 37 s.toNat = v) (hvb : -1 ≤ v ∧ v < 20) (hb2 : ∀ p : Nat, v = p → zv h 37 p = p) (hc : 0 ≤ zv h 36 2) (k0 : ¬ ((0 ≤ s ∧ s < n) ∧ 0 ≤ v) → Q (some (.int (iI (-1)))) h) (k1 : 0 ≤ s ∧ s < n → ∀ (p : Nat) hk h2, v = p → kepR h hk → exiR hk h2 p → Q (some (.int (iI v))) h2) : ab_X (d + 3) mX11_leave 0 (lv_args 0 [.ref 0, .int (iI s)]) [] h Q := by
  show ab_X (d + 3) mX11_leave 0 [(0, .ref 0), (1, .int (iI s))] [] h Q
  refine ab_aload_n (k := 0) dX11_leave_0 rfl rfl ?_
  refine z_getP (b := 15) dX11_leave_1 fX11_35 rfl rfl rfl ?_
  refine ab_iload_n (k := 1) dX11_leave_4 rfl rfl ?_
  refine ab_callV (As := [.int (iI s)]) (rest := []) dX11_leave_5 lX11_155 rfl (Nat.le_of_ble_eq_true rfl) (Nat.le_of_ble_eq_true rfl) rfl ?_
  refine c_hasYard (by omega) (fun g5 => ?_) (fun g5 => ?_)
  · skip
    try simp only [Int.toNat_natCast] at g5
    have gL := g5
    show ab_X (d + 3) mX11_leave 8 [(0, .ref 0), (1, .int (iI s))] [.int (iI 1)] h _
    refine z_if_ne (tgt := 13) dX11_leave_8 (by decide) (by decide) (fun _ => ?_) (fun c8 => absurd c8 (by decide))
    refine ab_aload_n (k := 0) dX11_leave_13 rfl rfl ?_
    refine z_getP (b := 36) dX11_leave_14 fX11_53 rfl rfl rfl ?_
    refine ab_iload_n (k := 1) dX11_leave_17 rfl rfl ?_
    refine ab_callV (As := [.int (iI s)]) (rest := []) dX11_leave_18 lX11_162 rfl (Nat.le_of_ble_eq_true rfl) (Nat.le_of_ble_eq_true rfl) rfl ?_
    refine c_placeAt (r := 36) rfl rfl rfl (by omega) (fun q => ?_) (fun q => absurd (show _ from ⟨by omega, by omega⟩) q)
    rw [show zv h (36 + 1) s.toNat = v from hv]
    show ab_X (d + 3) mX11_leave 21 [(0, .ref 0), (1, .int (iI s))] [.int (iI v)] h _
    refine ab_istore_n (ls' := [(2, .int (iI v)), (0, .ref 0), (1, .int (iI s))]) dX11_leave_21 rfl (by decide) rfl ?_
    refine ab_iload_n (k := 0) dX11_leave_22 rfl rfl ?_
    refine z_iconst dX11_leave_23 ?_
    refine z_icmp_ne (tgt := 29) dX11_leave_24 (by decide) (by omega) (by decide) (fun c24 => ?_) (fun c24 => ?_)
    · skip
      refine ab_aload_n (k := 1) dX11_leave_29 rfl rfl ?_
      refine z_getP (b := 165) dX11_leave_30 fX11_66 rfl rfl rfl ?_
      refine ab_aload_n (k := 1) dX11_leave_33 rfl rfl ?_
      refine z_getP (b := 36) dX11_leave_34 fX11_53 rfl rfl rfl ?_
      refine ab_callV (As := [.ref 36]) (rest := []) dX11_leave_37 lX11_200 rfl (Nat.le_of_ble_eq_true rfl) (Nat.le_of_ble_eq_true rfl) rfl ?_
      refine c_keep0 (x := x) hx hx2 hA.1 hA.2 (fun h1 hcp => ?_)
      obtain ⟨hk, ehk⟩ : ∃ z : ab_H, z = zp (zp h1 165 1 (((x + 1) % 40 : Nat) : Int)) 165 2 (min (zv h 165 2 + 1) 40) := ⟨_, rfl⟩
      rw [← ehk]
      have hkep : kepR h hk := ⟨x, h1, hx, hx2, hcp, ehk⟩
      have ek3 : zv hk 15 3 = zv h 15 3 := kep_o hkep (by omega)
      have ek2 : zv hk 36 2 = zv h 36 2 := kep_o hkep (by omega)
      show ab_X (d + 3) mX11_leave 40 [(2, .int (iI v)), (0, .ref 0), (1, .int (iI s))] [] hk _
      refine ab_sub (ls' := [(0, .ref 0), (2, .int (iI v))]) (ks := [1, 0]) rfl ?_
      obtain ⟨p, rfl⟩ : ∃ z : Nat, v = z := ⟨v.toNat, by omega⟩
      refine ab_aload_n (k := 0) dX11_leave_40 rfl rfl ?_
      refine z_getP (b := 36) dX11_leave_41 fX11_53 rfl rfl rfl ?_
      refine ab_iload_n (k := 1) dX11_leave_44 rfl rfl ?_
      refine ab_callV (As := [.int (iI (p : Int))]) (rest := []) dX11_leave_45 lX11_211 rfl (Nat.le_of_ble_eq_true rfl) (Nat.le_of_ble_eq_true rfl) rfl ?_
      refine ct_exit (p := p) (by omega) (by rw [kep_o hkep (by omega)]; exact hb2 p rfl) (by omega) (fun h2 he2 => ?_)
      show ab_X (d + 3) mX11_leave 48 [(0, .ref 0), (2, .int (iI (p : Int)))] [] h2 _
      refine ab_iload_n (k := 1) dX11_leave_48 rfl rfl ?_
      refine z_iret dX11_leave_49 rfl ?_
      exact k1 (by omega) p hk h2 rfl hkep he2
    · skip
      refine z_iconst dX11_leave_27 ?_
      refine z_iret dX11_leave_28 rfl ?_
      exact k0 (by omega)
  · skip
    try simp only [Int.toNat_natCast] at g5
    have gL := g5
    show ab_X (d + 3) mX11_leave 8 [(0, .ref 0), (1, .int (iI s))] [.int (iI 0)] h _
    refine z_if_ne (tgt := 13) dX11_leave_8 (by decide) (by decide) (fun c8 => absurd c8 (by decide)) (fun _ => ?_)
    refine z_iconst dX11_leave_11 ?_
    refine z_iret dX11_leave_12 rfl ?_
    exact k0 (by omega)
theorem c_mleave {d : Nat} {h : ab_H} {Q : ab_Q} {h9 : ab_H} {s v : Int} {n a : Nat} (e9 : zp h 200 0 0 = h9) (hs : inR s) (hn : zv h9 200 32 = n) (hn2 : n ≤ 20) (ha : zv h9 200 37 = (a : Int)) (ha2 : a ≤ 40) (hv : zv h9 211 s.toNat = v) (hvb : -5 ≤ v ∧ v < 20) (k0 : ¬ ((0 ≤ s ∧ s < n) ∧ 0 ≤ v) → Q (some (.int (iI (-1)))) h9) (k1 : 0 ≤ s ∧ s < n → ∀ (p : Nat) hk h2, v = p → remR h9 hk a → mgaR hk h2 p n → Q (some (.int (iI v))) h2) : ab_X (d + 2) mX12_leave 0 (lv_args 0 [.ref 200, .int (iI s)]) [] h Q := by
  show ab_X (d + 2) mX12_leave 0 [(0, .ref 200), (1, .int (iI s))] [] h Q
  refine ab_aload_n (k := 0) dX12_leave_0 rfl rfl ?_
  refine z_iconst dX12_leave_1 ?_
  refine z_putI dX12_leave_2 fX12_111 rfl rfl ?_
  rw [e9]
  refine ab_aload_n (k := 0) dX12_leave_5 rfl rfl ?_
  refine ab_iload_n (k := 1) dX12_leave_6 rfl rfl ?_
  refine ab_callV (As := [.int (iI s)]) (rest := []) dX12_leave_7 lX12_302 rfl (Nat.le_of_ble_eq_true rfl) (Nat.le_of_ble_eq_true rfl) rfl ?_
  refine c_misYard (by omega) (fun g7 => ?_) (fun g7 => ?_)
  · skip
    try simp only [Int.toNat_natCast] at g7
    have gL := g7
    show ab_X (d + 2) mX12_leave 10 [(0, .ref 200), (1, .int (iI s))] [.int (iI 1)] h9 _
    refine z_if_eq (tgt := 22) dX12_leave_10 (by decide) (by decide) (fun c10 => absurd c10 (by decide)) (fun _ => ?_)
    refine ab_aload_n (k := 0) dX12_leave_13 rfl rfl ?_
    refine z_getP (b := 211) dX12_leave_14 fX12_55 rfl rfl rfl ?_
    refine ab_iload_n (k := 1) dX12_leave_17 rfl rfl ?_
    refine z_iald dX12_leave_18 rfl (by omega) (by omega) ?_
    refine z_is (y := v) hv ?_
    refine z_if_ge (tgt := 24) dX12_leave_19 (by decide) (by omega) (fun c19 => ?_) (fun c19 => ?_)
    · skip
      refine ab_aload_n (k := 0) dX12_leave_24 rfl rfl ?_
      refine z_getP (b := 211) dX12_leave_25 fX12_55 rfl rfl rfl ?_
      refine ab_iload_n (k := 1) dX12_leave_28 rfl rfl ?_
      refine z_iald dX12_leave_29 rfl (by omega) (by omega) ?_
      refine z_is (y := v) hv ?_
      refine ab_istore_n (ls' := [(2, .int (iI v)), (0, .ref 200), (1, .int (iI s))]) dX12_leave_30 rfl (by decide) rfl ?_
      refine ab_aload_n (k := 1) dX12_leave_31 rfl rfl ?_
      refine ab_callV (As := []) (rest := []) dX12_leave_32 lX12_354 rfl (Nat.le_of_ble_eq_true rfl) (Nat.le_of_ble_eq_true rfl) rfl ?_
      refine c_remember (a := a) ha ha2 (fun hk hrem => ?_)
      show ab_X (d + 2) mX12_leave 35 [(2, .int (iI v)), (0, .ref 200), (1, .int (iI s))] [] hk _
      refine ab_sub (ls' := [(0, .ref 200), (2, .int (iI v))]) (ks := [1, 0]) rfl ?_
      obtain ⟨p, rfl⟩ : ∃ z : Nat, v = z := ⟨v.toNat, by omega⟩
      refine ab_aload_n (k := 0) dX12_leave_35 rfl rfl ?_
      refine ab_iload_n (k := 1) dX12_leave_36 rfl rfl ?_
      refine ab_callV (As := [.int (iI (p : Int))]) (rest := []) dX12_leave_37 lX12_336 rfl (Nat.le_of_ble_eq_true rfl) (Nat.le_of_ble_eq_true rfl) rfl ?_
      refine c_goAway (p := p) (n := n) ((hrem.2.1 32 (by decide)).trans hn) hn2 (by omega) (fun h2 hm2 => ?_)
      show ab_X (d + 2) mX12_leave 40 [(0, .ref 200), (2, .int (iI (p : Int)))] [] h2 _
      refine ab_iload_n (k := 1) dX12_leave_40 rfl rfl ?_
      refine z_iret dX12_leave_41 rfl ?_
      exact k1 (by omega) p hk h2 rfl hrem hm2
    · skip
      refine z_iconst dX12_leave_22 ?_
      refine z_iret dX12_leave_23 rfl ?_
      exact k0 (by omega)
  · skip
    try simp only [Int.toNat_natCast] at g7
    have gL := g7
    show ab_X (d + 2) mX12_leave 10 [(0, .ref 200), (1, .int (iI s))] [.int (iI 0)] h9 _
    refine z_if_eq (tgt := 22) dX12_leave_10 (by decide) (by decide) (fun _ => ?_) (fun c10 => absurd c10 (by decide))
    refine z_iconst dX12_leave_22 ?_
    refine z_iret dX12_leave_23 rfl ?_
    exact k0 (by omega)
theorem addC_t {h : ab_H} {v : Int} (ht : 0 ≤ tC h ∧ tC h ≤ 900) : tC (addC h v) = tC h + nzb v := by
  unfold addC nzb
  have q1 := pbC_t (h := h) (b := by8 v 24) (by omega)
  have q2 := pbC_t (h := pbC h (by8 v 24)) (b := by8 v 16) (by (repeat' split at q1) <;> omega)
  have q3 := pbC_t (h := pbC (pbC h (by8 v 24)) (by8 v 16)) (b := by8 v 8) (by (repeat' split at q1) <;> (repeat' split at q2) <;> omega)
  have q4 := pbC_t (h := pbC (pbC (pbC h (by8 v 24)) (by8 v 16)) (by8 v 8)) (b := by8 v 0) (by (repeat' split at q1) <;> (repeat' split at q2) <;> (repeat' split at q3) <;> omega)
  rw [q4, q3, q2, q1]; omega
theorem putM_t {h : ab_H} {v : Int} (ht : 0 ≤ tM h ∧ tM h ≤ 900) : tM (putM h v) = tM h + nzb v := by
  unfold putM nzb
  have q1 := pbM_t (h := h) (b := by8 v 24) (by omega)
  have q2 := pbM_t (h := pbM h (by8 v 24)) (b := by8 v 16) (by (repeat' split at q1) <;> omega)
  have q3 := pbM_t (h := pbM (pbM h (by8 v 24)) (by8 v 16)) (b := by8 v 8) (by (repeat' split at q1) <;> (repeat' split at q2) <;> omega)
  have q4 := pbM_t (h := pbM (pbM (pbM h (by8 v 24)) (by8 v 16)) (by8 v 8)) (b := by8 v 0) (by (repeat' split at q1) <;> (repeat' split at q2) <;> (repeat' split at q3) <;> omega)
  rw [q4, q3, q2, q1]; omega
theorem RT_pb {hc hm : ab_H} {b : Int} (hb : 0 ≤ b ∧ b ≤ 255) (hz : b ≠ 0 → tC hc < 160) (r : RT hc hm) : RT (pbC hc b) (pbM hm b) := by
  obtain ⟨z, a, c, e, f⟩ := r
  unfold tC at hz
  unfold pbC pbM
  by_cases q : b = 0
  · rw [if_pos q, if_pos q]; exact ⟨z, a, c, e, f⟩
  · have hz2 := hz q
    have sb : sby b = b ∨ sby b = b - 256 := by unfold sby; split <;> omega
    rw [if_neg q, if_neg q, c, e]
    refine ⟨z + 1, by omega, by rw [zv_zp_s (by omega)]; rfl, by rw [zv_zp_s (by omega)]; rfl, fun i hi => ?_⟩
    have x1 : zv (zp (zp hc 2 ((z : Nat) : Int).toNat b) 1 1 (((z : Nat) : Int) + 1)) 2 i = if i = z then b else zv hc 2 i := by
      rw [zv_zp_a (b := 2) (by decide), zv_zp (by omega), Int.toNat_natCast]; simp
    have x2 : zv (zp (zp hm 201 ((z : Nat) : Int).toNat (sby b)) 200 6 (((z : Nat) : Int) + 1)) 201 i = if i = z then sby b else zv hm 201 i := by
      rw [zv_zp_a (b := 201) (by decide), zv_zp (by omega), Int.toNat_natCast]; simp
    rw [x1, x2]
    by_cases y : i = z
    · rw [if_pos y, if_pos y]; exact ⟨by omega, rfl⟩
    · rw [if_neg y, if_neg y]; exact f i (by omega)
theorem RT_feed {hc hm : ab_H} {v : Int} (ht : 0 ≤ tC hc ∧ tC hc + nzb v ≤ 160) (r : RT hc hm) : RT (addC hc v) (putM hm v) := by
  have nb := nzb_b v
  unfold nzb at ht
  have q1 := pbC_t (h := hc) (b := by8 v 24) (by (repeat' split at ht) <;> omega)
  have q2 := pbC_t (h := pbC hc (by8 v 24)) (b := by8 v 16) (by (repeat' split at ht) <;> (repeat' split at q1) <;> omega)
  have q3 := pbC_t (h := pbC (pbC hc (by8 v 24)) (by8 v 16)) (b := by8 v 8) (by (repeat' split at ht) <;> (repeat' split at q1) <;> (repeat' split at q2) <;> omega)
  unfold addC putM
  have p1 := by8_b v 24
  have p2 := by8_b v 16
  have p3 := by8_b v 8
  have p4 := by8_b v 0
  refine RT_pb p4 (fun z => ?_) (RT_pb p3 (fun z => ?_) (RT_pb p2 (fun z => ?_) (RT_pb p1 (fun z => ?_) r)))
  · rw [if_neg z] at ht; (repeat' split at ht) <;> (repeat' split at q1) <;> (repeat' split at q2) <;> (repeat' split at q3) <;> omega
  · rw [if_neg z] at ht; (repeat' split at ht) <;> (repeat' split at q1) <;> (repeat' split at q2) <;> omega
  · rw [if_neg z] at ht; (repeat' split at ht) <;> (repeat' split at q1) <;> omega
  · rw [if_neg z] at ht; (repeat' split at ht) <;> omega
theorem pbC_o {h : ab_H} {v : Int} {b j : Nat} (hb : b ≠ 1 ∧ b ≠ 2) : zv (pbC h v) b j = zv h b j := by
  unfold pbC; split
  · rfl
  · rw [zv_zp_a hb.1, zv_zp_a hb.2]
theorem pbM_o {h : ab_H} {v : Int} {b j : Nat} (hb : b ≠ 201) (h2 : ¬ (b = 200 ∧ j = 6)) : zv (pbM h v) b j = zv h b j := by
  unfold pbM; split
  · rfl
  · rw [zv_zp_ne h2, zv_zp_a hb]
theorem addC_o {h : ab_H} {v : Int} {b j : Nat} (hb : b ≠ 1 ∧ b ≠ 2) : zv (addC h v) b j = zv h b j := by unfold addC; rw [pbC_o hb, pbC_o hb, pbC_o hb, pbC_o hb]
theorem putM_o {h : ab_H} {v : Int} {b j : Nat} (hb : b ≠ 201) (h2 : ¬ (b = 200 ∧ j = 6)) : zv (putM h v) b j = zv h b j := by unfold putM; rw [pbM_o hb h2, pbM_o hb h2, pbM_o hb h2, pbM_o hb h2]
theorem tC_o {h h' : ab_H} (e : h' = h) : tC h' = tC h := by rw [e]
def feC (h : ab_H) (a b c e f : Int) : ab_H := addC (addC (addC (addC (addC h a) b) c) e) f
def feM (h : ab_H) (a b c e f : Int) : ab_H := putM (putM (putM (putM (putM h a) b) c) e) f
theorem c_feed {d : Nat} {h : ab_H} {Q : ab_Q} {a b c e f : Int} (ha : inR a) (hb : inR b) (hc : inR c) (he : inR e) (hf : inR f) (ht : 0 ≤ tC h ∧ tC h ≤ 160) (k0 : ¬ tC h + (nzb a + nzb b + nzb c + nzb e + nzb f) ≤ 160 → Q (some (.int (iI (-1)))) h) (k1 : tC h + (nzb a + nzb b + nzb c + nzb e + nzb f) ≤ 160 → Q (some (.int (iI (tC (feC h a b c e f))))) (feC h a b c e f)) : ab_X (d + 1) mX11_feed 0 (lv_args 0 [.ref 0, .int (iI a), .int (iI b), .int (iI c), .int (iI e), .int (iI f)]) [] h Q := by
  show ab_X (d + 1) mX11_feed 0 [(0, .ref 0), (1, .int (iI a)), (2, .int (iI b)), (3, .int (iI c)), (4, .int (iI e)), (5, .int (iI f))] [] h Q
  have b1 := nzb_b a
  have b2 := nzb_b b
  have b3 := nzb_b c
  have b4 := nzb_b e
  have b5 := nzb_b f
  refine ab_iload_n (k := 1) dX11_feed_0 rfl rfl ?_
  refine ab_callS (As := [.int (iI a)]) (rest := []) dX11_feed_1 lX11_104 (Nat.le_of_ble_eq_true rfl) (Nat.le_of_ble_eq_true rfl) rfl ?_
  refine c_signsIn (by omega) ?_
  show ab_X (d + 1) mX11_feed 4 [(0, .ref 0), (1, .int (iI a)), (2, .int (iI b)), (3, .int (iI c)), (4, .int (iI e)), (5, .int (iI f))] [.int (iI (nzb a))] h _
  refine ab_iload_n (k := 2) dX11_feed_4 rfl rfl ?_
  refine ab_callS (As := [.int (iI b)]) (rest := [.int (iI (nzb a))]) dX11_feed_5 lX11_104 (Nat.le_of_ble_eq_true rfl) (Nat.le_of_ble_eq_true rfl) rfl ?_
  refine c_signsIn (by omega) ?_
  show ab_X (d + 1) mX11_feed 8 [(0, .ref 0), (1, .int (iI a)), (2, .int (iI b)), (3, .int (iI c)), (4, .int (iI e)), (5, .int (iI f))] [.int (iI (nzb b)), .int (iI (nzb a))] h _
  refine z_iadd dX11_feed_8 ?_
  refine ab_iload_n (k := 3) dX11_feed_9 rfl rfl ?_
  refine ab_callS (As := [.int (iI c)]) (rest := [.int (iI ((nzb a) + (nzb b)))]) dX11_feed_10 lX11_104 (Nat.le_of_ble_eq_true rfl) (Nat.le_of_ble_eq_true rfl) rfl ?_
  refine c_signsIn (by omega) ?_
  show ab_X (d + 1) mX11_feed 13 [(0, .ref 0), (1, .int (iI a)), (2, .int (iI b)), (3, .int (iI c)), (4, .int (iI e)), (5, .int (iI f))] [.int (iI (nzb c)), .int (iI ((nzb a) + (nzb b)))] h _
  refine z_iadd dX11_feed_13 ?_
  refine ab_iload (k := 4) dX11_feed_14 rfl ?_
  refine ab_callS (As := [.int (iI e)]) (rest := [.int (iI (((nzb a) + (nzb b)) + (nzb c)))]) dX11_feed_16 lX11_104 (Nat.le_of_ble_eq_true rfl) (Nat.le_of_ble_eq_true rfl) rfl ?_
  refine c_signsIn (by omega) ?_
  show ab_X (d + 1) mX11_feed 19 [(0, .ref 0), (1, .int (iI a)), (2, .int (iI b)), (3, .int (iI c)), (4, .int (iI e)), (5, .int (iI f))] [.int (iI (nzb e)), .int (iI (((nzb a) + (nzb b)) + (nzb c)))] h _
  refine z_iadd dX11_feed_19 ?_
  refine ab_iload (k := 5) dX11_feed_20 rfl ?_
  refine ab_callS (As := [.int (iI f)]) (rest := [.int (iI ((((nzb a) + (nzb b)) + (nzb c)) + (nzb e)))]) dX11_feed_22 lX11_104 (Nat.le_of_ble_eq_true rfl) (Nat.le_of_ble_eq_true rfl) rfl ?_
  refine c_signsIn (by omega) ?_
  show ab_X (d + 1) mX11_feed 25 [(0, .ref 0), (1, .int (iI a)), (2, .int (iI b)), (3, .int (iI c)), (4, .int (iI e)), (5, .int (iI f))] [.int (iI (nzb f)), .int (iI ((((nzb a) + (nzb b)) + (nzb c)) + (nzb e)))] h _
  refine z_iadd dX11_feed_25 ?_
  refine ab_istore (ls' := [(6, .int (iI (((((nzb a) + (nzb b)) + (nzb c)) + (nzb e)) + (nzb f)))), (0, .ref 0), (1, .int (iI a)), (2, .int (iI b)), (3, .int (iI c)), (4, .int (iI e)), (5, .int (iI f))]) dX11_feed_26 (by decide) rfl ?_
  refine ab_aload_n (k := 1) dX11_feed_28 rfl rfl ?_
  refine z_getP (b := 1) dX11_feed_29 fX11_10 rfl rfl rfl ?_
  refine z_getI dX11_feed_32 fX11_108 rfl (Or.inl rfl) ?_
  refine z_is (y := tC h) rfl ?_
  refine ab_iload (k := 0) dX11_feed_35 rfl ?_
  refine z_iadd dX11_feed_37 ?_
  refine z_sipush dX11_feed_38 (by decide) ?_
  refine z_icmp_le (tgt := 46) dX11_feed_41 (by decide) (by omega) (by decide) (fun c41 => ?_) (fun c41 => ?_)
  · skip
    refine ab_aload_n (k := 1) dX11_feed_46 rfl rfl ?_
    refine z_getP (b := 1) dX11_feed_47 fX11_10 rfl rfl rfl ?_
    refine ab_iload_n (k := 2) dX11_feed_50 rfl rfl ?_
    refine ab_callV (As := [.int (iI a)]) (rest := []) dX11_feed_51 lX11_111 rfl (Nat.le_of_ble_eq_true rfl) (Nat.le_of_ble_eq_true rfl) rfl ?_
    have ta := addC_t (h := h) (v := a) (by omega)
    refine c_add (by omega) (by omega) ?_
    show ab_X (d + 1) mX11_feed 54 [(6, .int (iI (((((nzb a) + (nzb b)) + (nzb c)) + (nzb e)) + (nzb f)))), (0, .ref 0), (1, .int (iI a)), (2, .int (iI b)), (3, .int (iI c)), (4, .int (iI e)), (5, .int (iI f))] [] (addC h a) _
    refine ab_aload_n (k := 1) dX11_feed_54 rfl rfl ?_
    refine z_getP (b := 1) dX11_feed_55 fX11_10 rfl rfl rfl ?_
    refine ab_iload_n (k := 3) dX11_feed_58 rfl rfl ?_
    refine ab_callV (As := [.int (iI b)]) (rest := []) dX11_feed_59 lX11_111 rfl (Nat.le_of_ble_eq_true rfl) (Nat.le_of_ble_eq_true rfl) rfl ?_
    have tb := addC_t (h := (addC h a)) (v := b) (by omega)
    refine c_add (by omega) (by omega) ?_
    show ab_X (d + 1) mX11_feed 62 [(6, .int (iI (((((nzb a) + (nzb b)) + (nzb c)) + (nzb e)) + (nzb f)))), (0, .ref 0), (1, .int (iI a)), (2, .int (iI b)), (3, .int (iI c)), (4, .int (iI e)), (5, .int (iI f))] [] (addC (addC h a) b) _
    refine ab_aload_n (k := 1) dX11_feed_62 rfl rfl ?_
    refine z_getP (b := 1) dX11_feed_63 fX11_10 rfl rfl rfl ?_
    refine ab_iload_n (k := 4) dX11_feed_66 rfl rfl ?_
    refine ab_callV (As := [.int (iI c)]) (rest := []) dX11_feed_67 lX11_111 rfl (Nat.le_of_ble_eq_true rfl) (Nat.le_of_ble_eq_true rfl) rfl ?_
    have tc := addC_t (h := (addC (addC h a) b)) (v := c) (by omega)
    refine c_add (by omega) (by omega) ?_
    show ab_X (d + 1) mX11_feed 70 [(6, .int (iI (((((nzb a) + (nzb b)) + (nzb c)) + (nzb e)) + (nzb f)))), (0, .ref 0), (1, .int (iI a)), (2, .int (iI b)), (3, .int (iI c)), (4, .int (iI e)), (5, .int (iI f))] [] (addC (addC (addC h a) b) c) _
    refine ab_aload_n (k := 1) dX11_feed_70 rfl rfl ?_
    refine z_getP (b := 1) dX11_feed_71 fX11_10 rfl rfl rfl ?_
    refine ab_iload (k := 5) dX11_feed_74 rfl ?_
    refine ab_callV (As := [.int (iI e)]) (rest := []) dX11_feed_76 lX11_111 rfl (Nat.le_of_ble_eq_true rfl) (Nat.le_of_ble_eq_true rfl) rfl ?_
    have te := addC_t (h := (addC (addC (addC h a) b) c)) (v := e) (by omega)
    refine c_add (by omega) (by omega) ?_
    show ab_X (d + 1) mX11_feed 79 [(6, .int (iI (((((nzb a) + (nzb b)) + (nzb c)) + (nzb e)) + (nzb f)))), (0, .ref 0), (1, .int (iI a)), (2, .int (iI b)), (3, .int (iI c)), (4, .int (iI e)), (5, .int (iI f))] [] (addC (addC (addC (addC h a) b) c) e) _
    refine ab_aload_n (k := 1) dX11_feed_79 rfl rfl ?_
    refine z_getP (b := 1) dX11_feed_80 fX11_10 rfl rfl rfl ?_
    refine ab_iload (k := 6) dX11_feed_83 rfl ?_
    refine ab_callV (As := [.int (iI f)]) (rest := []) dX11_feed_85 lX11_111 rfl (Nat.le_of_ble_eq_true rfl) (Nat.le_of_ble_eq_true rfl) rfl ?_
    have tf := addC_t (h := (addC (addC (addC (addC h a) b) c) e)) (v := f) (by omega)
    refine c_add (by omega) (by omega) ?_
    show ab_X (d + 1) mX11_feed 88 [(6, .int (iI (((((nzb a) + (nzb b)) + (nzb c)) + (nzb e)) + (nzb f)))), (0, .ref 0), (1, .int (iI a)), (2, .int (iI b)), (3, .int (iI c)), (4, .int (iI e)), (5, .int (iI f))] [] (addC (addC (addC (addC (addC h a) b) c) e) f) _
    refine ab_aload_n (k := 1) dX11_feed_88 rfl rfl ?_
    refine z_getP (b := 1) dX11_feed_89 fX11_10 rfl rfl rfl ?_
    refine z_getI dX11_feed_92 fX11_108 rfl (Or.inl rfl) ?_
    refine z_is (y := tC (feC h a b c e f)) rfl ?_
    refine z_iret dX11_feed_95 rfl ?_
    first | exact k0 (by omega) | exact k1 (by omega)
  · skip
    refine z_iconst dX11_feed_44 ?_
    refine z_iret dX11_feed_45 rfl ?_
    first | exact k0 (by omega) | exact k1 (by omega)
theorem c_mfeed {d : Nat} {h : ab_H} {Q : ab_Q} {h9 : ab_H} {a b c e f : Int} (e9 : zp h 200 0 0 = h9) (ha : inR a) (hb : inR b) (hc : inR c) (he : inR e) (hf : inR f) (ht : 0 ≤ tM h9 ∧ tM h9 ≤ 160) (k0 : ¬ tM h9 + (nzb a + nzb b + nzb c + nzb e + nzb f) ≤ 160 → Q (some (.int (iI (-1)))) h9) (k1 : tM h9 + (nzb a + nzb b + nzb c + nzb e + nzb f) ≤ 160 → Q (some (.int (iI (tM (feM h9 a b c e f))))) (feM h9 a b c e f)) : ab_X (d + 1) mX12_feed 0 (lv_args 0 [.ref 200, .int (iI a), .int (iI b), .int (iI c), .int (iI e), .int (iI f)]) [] h Q := by
  show ab_X (d + 1) mX12_feed 0 [(0, .ref 200), (1, .int (iI a)), (2, .int (iI b)), (3, .int (iI c)), (4, .int (iI e)), (5, .int (iI f))] [] h Q
  have b1 := nzb_b a
  have b2 := nzb_b b
  have b3 := nzb_b c
  have b4 := nzb_b e
  have b5 := nzb_b f
  refine ab_aload_n (k := 0) dX12_feed_0 rfl rfl ?_
  refine z_iconst dX12_feed_1 ?_
  refine z_putI dX12_feed_2 fX12_111 rfl rfl ?_
  rw [e9]
  refine ab_aload_n (k := 0) dX12_feed_5 rfl rfl ?_
  refine z_getI dX12_feed_6 fX12_124 rfl (Or.inl rfl) ?_
  refine z_is (y := tM h9) rfl ?_
  refine ab_iload_n (k := 1) dX12_feed_9 rfl rfl ?_
  refine ab_callS (As := [.int (iI a)]) (rest := [.int (iI (tM h9))]) dX12_feed_10 lX12_126 (Nat.le_of_ble_eq_true rfl) (Nat.le_of_ble_eq_true rfl) rfl ?_
  refine c_bytesIn (by omega) ?_
  show ab_X (d + 1) mX12_feed 13 [(0, .ref 200), (1, .int (iI a)), (2, .int (iI b)), (3, .int (iI c)), (4, .int (iI e)), (5, .int (iI f))] [.int (iI (nzb a)), .int (iI (tM h9))] h9 _
  refine z_iadd dX12_feed_13 ?_
  refine ab_iload_n (k := 2) dX12_feed_14 rfl rfl ?_
  refine ab_callS (As := [.int (iI b)]) (rest := [.int (iI ((tM h9) + (nzb a)))]) dX12_feed_15 lX12_126 (Nat.le_of_ble_eq_true rfl) (Nat.le_of_ble_eq_true rfl) rfl ?_
  refine c_bytesIn (by omega) ?_
  show ab_X (d + 1) mX12_feed 18 [(0, .ref 200), (1, .int (iI a)), (2, .int (iI b)), (3, .int (iI c)), (4, .int (iI e)), (5, .int (iI f))] [.int (iI (nzb b)), .int (iI ((tM h9) + (nzb a)))] h9 _
  refine z_iadd dX12_feed_18 ?_
  refine ab_iload_n (k := 3) dX12_feed_19 rfl rfl ?_
  refine ab_callS (As := [.int (iI c)]) (rest := [.int (iI (((tM h9) + (nzb a)) + (nzb b)))]) dX12_feed_20 lX12_126 (Nat.le_of_ble_eq_true rfl) (Nat.le_of_ble_eq_true rfl) rfl ?_
  refine c_bytesIn (by omega) ?_
  show ab_X (d + 1) mX12_feed 23 [(0, .ref 200), (1, .int (iI a)), (2, .int (iI b)), (3, .int (iI c)), (4, .int (iI e)), (5, .int (iI f))] [.int (iI (nzb c)), .int (iI (((tM h9) + (nzb a)) + (nzb b)))] h9 _
  refine z_iadd dX12_feed_23 ?_
  refine ab_iload (k := 4) dX12_feed_24 rfl ?_
  refine ab_callS (As := [.int (iI e)]) (rest := [.int (iI ((((tM h9) + (nzb a)) + (nzb b)) + (nzb c)))]) dX12_feed_26 lX12_126 (Nat.le_of_ble_eq_true rfl) (Nat.le_of_ble_eq_true rfl) rfl ?_
  refine c_bytesIn (by omega) ?_
  show ab_X (d + 1) mX12_feed 29 [(0, .ref 200), (1, .int (iI a)), (2, .int (iI b)), (3, .int (iI c)), (4, .int (iI e)), (5, .int (iI f))] [.int (iI (nzb e)), .int (iI ((((tM h9) + (nzb a)) + (nzb b)) + (nzb c)))] h9 _
  refine z_iadd dX12_feed_29 ?_
  refine ab_iload (k := 5) dX12_feed_30 rfl ?_
  refine ab_callS (As := [.int (iI f)]) (rest := [.int (iI (((((tM h9) + (nzb a)) + (nzb b)) + (nzb c)) + (nzb e)))]) dX12_feed_32 lX12_126 (Nat.le_of_ble_eq_true rfl) (Nat.le_of_ble_eq_true rfl) rfl ?_
  refine c_bytesIn (by omega) ?_
  show ab_X (d + 1) mX12_feed 35 [(0, .ref 200), (1, .int (iI a)), (2, .int (iI b)), (3, .int (iI c)), (4, .int (iI e)), (5, .int (iI f))] [.int (iI (nzb f)), .int (iI (((((tM h9) + (nzb a)) + (nzb b)) + (nzb c)) + (nzb e)))] h9 _
  refine z_iadd dX12_feed_35 ?_
  refine z_sipush dX12_feed_36 (by decide) ?_
  refine z_icmp_le (tgt := 44) dX12_feed_39 (by decide) (by omega) (by decide) (fun c39 => ?_) (fun c39 => ?_)
  · skip
    refine ab_aload_n (k := 0) dX12_feed_44 rfl rfl ?_
    refine ab_iload_n (k := 1) dX12_feed_45 rfl rfl ?_
    refine ab_callV (As := [.int (iI a)]) (rest := []) dX12_feed_46 lX12_130 rfl (Nat.le_of_ble_eq_true rfl) (Nat.le_of_ble_eq_true rfl) rfl ?_
    have ta := putM_t (h := h9) (v := a) (by omega)
    refine c_put (by omega) (by omega) ?_
    show ab_X (d + 1) mX12_feed 49 [(0, .ref 200), (1, .int (iI a)), (2, .int (iI b)), (3, .int (iI c)), (4, .int (iI e)), (5, .int (iI f))] [] (putM h9 a) _
    refine ab_aload_n (k := 0) dX12_feed_49 rfl rfl ?_
    refine ab_iload_n (k := 2) dX12_feed_50 rfl rfl ?_
    refine ab_callV (As := [.int (iI b)]) (rest := []) dX12_feed_51 lX12_130 rfl (Nat.le_of_ble_eq_true rfl) (Nat.le_of_ble_eq_true rfl) rfl ?_
    have tb := putM_t (h := (putM h9 a)) (v := b) (by omega)
    refine c_put (by omega) (by omega) ?_
    show ab_X (d + 1) mX12_feed 54 [(0, .ref 200), (1, .int (iI a)), (2, .int (iI b)), (3, .int (iI c)), (4, .int (iI e)), (5, .int (iI f))] [] (putM (putM h9 a) b) _
    refine ab_aload_n (k := 0) dX12_feed_54 rfl rfl ?_
    refine ab_iload_n (k := 3) dX12_feed_55 rfl rfl ?_
    refine ab_callV (As := [.int (iI c)]) (rest := []) dX12_feed_56 lX12_130 rfl (Nat.le_of_ble_eq_true rfl) (Nat.le_of_ble_eq_true rfl) rfl ?_
    have tc := putM_t (h := (putM (putM h9 a) b)) (v := c) (by omega)
    refine c_put (by omega) (by omega) ?_
    show ab_X (d + 1) mX12_feed 59 [(0, .ref 200), (1, .int (iI a)), (2, .int (iI b)), (3, .int (iI c)), (4, .int (iI e)), (5, .int (iI f))] [] (putM (putM (putM h9 a) b) c) _
    refine ab_aload_n (k := 0) dX12_feed_59 rfl rfl ?_
    refine ab_iload (k := 4) dX12_feed_60 rfl ?_
    refine ab_callV (As := [.int (iI e)]) (rest := []) dX12_feed_62 lX12_130 rfl (Nat.le_of_ble_eq_true rfl) (Nat.le_of_ble_eq_true rfl) rfl ?_
    have te := putM_t (h := (putM (putM (putM h9 a) b) c)) (v := e) (by omega)
    refine c_put (by omega) (by omega) ?_
    show ab_X (d + 1) mX12_feed 65 [(0, .ref 200), (1, .int (iI a)), (2, .int (iI b)), (3, .int (iI c)), (4, .int (iI e)), (5, .int (iI f))] [] (putM (putM (putM (putM h9 a) b) c) e) _
    refine ab_aload_n (k := 0) dX12_feed_65 rfl rfl ?_
    refine ab_iload (k := 5) dX12_feed_66 rfl ?_
    refine ab_callV (As := [.int (iI f)]) (rest := []) dX12_feed_68 lX12_130 rfl (Nat.le_of_ble_eq_true rfl) (Nat.le_of_ble_eq_true rfl) rfl ?_
    have tf := putM_t (h := (putM (putM (putM (putM h9 a) b) c) e)) (v := f) (by omega)
    refine c_put (by omega) (by omega) ?_
    show ab_X (d + 1) mX12_feed 71 [(0, .ref 200), (1, .int (iI a)), (2, .int (iI b)), (3, .int (iI c)), (4, .int (iI e)), (5, .int (iI f))] [] (putM (putM (putM (putM (putM h9 a) b) c) e) f) _
    refine ab_aload_n (k := 0) dX12_feed_71 rfl rfl ?_
    refine z_getI dX12_feed_72 fX12_124 rfl (Or.inl rfl) ?_
    refine z_is (y := tM (feM h9 a b c e f)) rfl ?_
    refine z_iret dX12_feed_75 rfl ?_
    first | exact k0 (by omega) | exact k1 (by omega)
  · skip
    refine z_iconst dX12_feed_42 ?_
    refine z_iret dX12_feed_43 rfl ?_
    first | exact k0 (by omega) | exact k1 (by omega)
