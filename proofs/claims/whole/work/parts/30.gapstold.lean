/-! CONTRACTS: ends and gaps told, both sides -/
theorem GR_cnt {h : ab_H} {fr : Nat → Bool} {n : Nat} (hn : n ≤ 20) (hf : ¬ fr n = true) (hG : GR h (scan fr n)) : (((scan fr n).1 : Nat) : Int) = sT (fun y => if gAt fr y = 0 then (0 : Int) else 1) n := by
  rw [← GR_sum (F := fun k => if k = 0 then (0 : Int) else 1) rfl hn hf hG]
  have hb := scan_b fr n
  have key : ∀ m, m ≤ (scan fr n).1 → sT (fun i => if (zv h 169 i).toNat = 0 then (0 : Int) else 1) m = m := by
    intro m
    induction m with
    | zero => intro _; rfl
    | succ m ih =>
      intro hm
      have h1 := (hG.2 m (by omega)).2
      have h2 := (hb.2.2 m (by omega)).2.1
      rw [sT_s, ih (by omega), if_neg (by omega)]; omega
  exact (key _ (Nat.le_refl _)).symm
theorem GR_bel {h : ab_H} {fr : Nat → Bool} {n : Nat} {l : Int} (hl : 1 ≤ l) (hn : n ≤ 20) (hf : ¬ fr n = true) (hG : GR h (scan fr n)) : sT (fun i => if zv h 169 i < l then zv h 169 i else 0) (scan fr n).1 = sT (fun y => if ((gAt fr y : Nat) : Int) < l then ((gAt fr y : Nat) : Int) else 0) n := by
  rw [← GR_sum (F := fun k => if (k : Int) < l then (k : Int) else 0) (by split <;> rfl) hn hf hG]
  exact sT_congr (fun i hi => by
    have h1 := (hG.2 i hi).2
    have e : ((zv h 169 i).toNat : Int) = zv h 169 i := by omega
    rw [e])
theorem c_ends {d : Nat} {h : ab_H} {Q : ab_Q} {s x : Int} {n L : Nat} (hs : inR s) (hx : inR x) (hn : zv h 15 0 = n) (hn2 : n ≤ 20) (hN : zv h 15 3 ≤ 4) (hL : 0 ≤ s ∧ s < zv h 15 3 → zv h 16 s.toNat = L ∧ 1 ≤ L ∧ L ≤ 9) (kn : ¬ ((0 ≤ s ∧ s < zv h 15 3) ∧ 0 ≤ x ∧ x ≤ 1) → Q (some (.int (iI (-1)))) h) (k0 : (0 ≤ s ∧ s < zv h 15 3) → x = 0 → ∀ h2, sm [167, 168, 169, 172] h h2 → Q (some (.int (iI (sT (fun y => fTb L 21 (gAt (cfr h n) y)) n)))) h2) (k1 : (0 ≤ s ∧ s < zv h 15 3) → x = 1 → ∀ h1, sm [167, 168, 169] h h1 → Q (some (.int (iI (sT (fun y => Int.tdiv ((gAt (cfr h n) y : Nat) : Int) (L : Int)) n)))) h1) : ab_X (d + 4) mX11_ends 0 (lv_args 0 [.ref 0, .int (iI s), .int (iI x)]) [] h Q := by
  show ab_X (d + 4) mX11_ends 0 [(0, .ref 0), (1, .int (iI s)), (2, .int (iI x))] [] h Q
  refine ab_aload_n (k := 0) dX11_ends_0 rfl rfl ?_
  refine z_getP (b := 15) dX11_ends_1 fX11_35 rfl rfl rfl ?_
  refine ab_iload_n (k := 1) dX11_ends_4 rfl rfl ?_
  refine ab_callV (As := [.int (iI s)]) (rest := []) dX11_ends_5 lX11_171 rfl (Nat.le_of_ble_eq_true rfl) (Nat.le_of_ble_eq_true rfl) rfl ?_
  refine c_hasSort (by omega) (fun g5 => ?_) (fun g5 => ?_)
  · skip
    try simp only [Int.toNat_natCast] at g5
    have gL := g5
    show ab_X (d + 4) mX11_ends 8 [(0, .ref 0), (1, .int (iI s)), (2, .int (iI x))] [.int (iI 1)] h _
    refine z_if_eq (tgt := 20) dX11_ends_8 (by decide) (by decide) (fun c8 => absurd c8 (by decide)) (fun _ => ?_)
    refine ab_iload_n (k := 2) dX11_ends_11 rfl rfl ?_
    refine z_if_lt (tgt := 20) dX11_ends_12 (by decide) (by omega) (fun c12 => ?_) (fun c12 => ?_)
    · skip
      refine z_iconst dX11_ends_20 ?_
      refine z_iret dX11_ends_21 rfl ?_
      first | exact kn (by omega) | exact k0 (by omega) (by omega) h2 ((hs1.mono (by decide)).trans (hi2.1.mono (by decide))) | exact k1 (by omega) (by omega) h1 hs1
    · skip
      refine ab_iload_n (k := 2) dX11_ends_15 rfl rfl ?_
      refine z_iconst dX11_ends_16 ?_
      refine z_icmp_le (tgt := 22) dX11_ends_17 (by decide) (by omega) (by decide) (fun c17 => ?_) (fun c17 => ?_)
      · skip
        refine ab_aload_n (k := 0) dX11_ends_22 rfl rfl ?_
        refine ab_callV (As := []) (rest := []) dX11_ends_23 lX11_187 rfl (Nat.le_of_ble_eq_true rfl) (Nat.le_of_ble_eq_true rfl) rfl ?_
        refine c_lookC hn hn2 (fun h1 hs1 hG1 => ?_)
        have e150 : zv h1 15 0 = zv h 15 0 := hs1.1 15 0 (by decide)
        have e153 : zv h1 15 3 = zv h 15 3 := hs1.1 15 3 (by decide)
        show ab_X (d + 4) mX11_ends 26 [(0, .ref 0), (1, .int (iI s)), (2, .int (iI x))] [] h1 _
        refine ab_aload_n (k := 0) dX11_ends_26 rfl rfl ?_
        refine z_getP (b := 15) dX11_ends_27 fX11_35 rfl rfl rfl ?_
        refine ab_iload_n (k := 1) dX11_ends_30 rfl rfl ?_
        refine ab_callV (As := [.int (iI s)]) (rest := []) dX11_ends_31 lX11_174 rfl (Nat.le_of_ble_eq_true rfl) (Nat.le_of_ble_eq_true rfl) rfl ?_
        refine c_lengthOf (by omega) (by omega) (fun _ => ?_) (fun q => absurd (show _ from ⟨by omega, by omega⟩) q)
        show ab_X (d + 4) mX11_ends 34 [(0, .ref 0), (1, .int (iI s)), (2, .int (iI x))] [.int (iI (zv h1 16 s.toNat))] h1 _
        refine z_is (y := (L : Int)) ((hs1.1 16 _ (by decide)).trans (hL (by omega)).1) ?_
        refine ab_istore_n (ls' := [(3, .int (iI (L : Int))), (0, .ref 0), (1, .int (iI s)), (2, .int (iI x))]) dX11_ends_34 rfl (by decide) rfl ?_
        have hLb := (hL (by omega)).2
        refine ab_iload_n (k := 3) dX11_ends_35 rfl rfl ?_
        refine z_if_ne (tgt := 54) dX11_ends_36 (by decide) (by omega) (fun c36 => ?_) (fun c36 => ?_)
        · skip
          refine ab_aload_n (k := 1) dX11_ends_54 rfl rfl ?_
          refine z_getP (b := 167) dX11_ends_55 fX11_73 rfl rfl rfl ?_
          refine ab_iload_n (k := 0) dX11_ends_58 rfl rfl ?_
          refine ab_callV (As := [.int (iI (L : Int))]) (rest := []) dX11_ends_59 lX11_283 rfl (Nat.le_of_ble_eq_true rfl) (Nat.le_of_ble_eq_true rfl) rfl ?_
          refine c_mostOf (GR_ok hn2 hG1) (by omega) ?_
          rw [show sT (fun i => Int.tdiv (zv h1 169 i) (L : Int)) (scan (cfr h n) n).1 = sT (fun y => Int.tdiv ((gAt (cfr h n) y : Nat) : Int) (L : Int)) n from (sT_congr (fun i hi => by have hq1 := (hG1.2 i hi).2; rw [show (((zv h1 169 i).toNat : Nat) : Int) = zv h1 169 i by omega])).trans (GR_sum (F := fun k => Int.tdiv (k : Int) (L : Int)) (by simp) hn2 (cfr_end (Nat.le_refl n)) hG1)]
          show ab_X (d + 4) mX11_ends 62 [(3, .int (iI (L : Int))), (0, .ref 0), (1, .int (iI s)), (2, .int (iI x))] [.int (iI (sT (fun y => Int.tdiv ((gAt (cfr h n) y : Nat) : Int) (L : Int)) n))] h1 _
          refine z_iret dX11_ends_62 rfl ?_
          first | exact kn (by omega) | exact k0 (by omega) (by omega) h2 ((hs1.mono (by decide)).trans (hi2.1.mono (by decide))) | exact k1 (by omega) (by omega) h1 hs1
        · skip
          refine ab_aload_n (k := 1) dX11_ends_39 rfl rfl ?_
          refine z_getP (b := 170) dX11_ends_40 fX11_80 rfl rfl rfl ?_
          refine ab_aload_n (k := 1) dX11_ends_43 rfl rfl ?_
          refine z_getP (b := 167) dX11_ends_44 fX11_73 rfl rfl rfl ?_
          refine ab_iload_n (k := 0) dX11_ends_47 rfl rfl ?_
          refine ab_callV (As := [.ref 167, .int (iI (L : Int))]) (rest := []) dX11_ends_48 lX11_279 rfl (Nat.le_of_ble_eq_true rfl) (Nat.le_of_ble_eq_true rfl) rfl ?_
          refine c_fewestOf (l := L) (GR_ok hn2 hG1) (by omega) (by omega) (fun h2 hi2 => ?_)
          rw [show sT (fun i => fTb L 21 (zv h2 169 i).toNat) (scan (cfr h n) n).1 = sT (fun y => fTb L 21 (gAt (cfr h n) y)) n from (sT_congr (fun i _ => by rw [hi2.1.1 169 i (by decide)])).trans (GR_sum (fTb_0 (by omega)) hn2 (cfr_end (Nat.le_refl n)) hG1)]
          show ab_X (d + 4) mX11_ends 51 [(3, .int (iI (L : Int))), (0, .ref 0), (1, .int (iI s)), (2, .int (iI x))] [.int (iI (sT (fun y => fTb L 21 (gAt (cfr h n) y)) n))] h2 _
          refine ab_goto (tgt := 62) dX11_ends_51 (by decide) ?_
          refine z_iret dX11_ends_62 rfl ?_
          first | exact kn (by omega) | exact k0 (by omega) (by omega) h2 ((hs1.mono (by decide)).trans (hi2.1.mono (by decide))) | exact k1 (by omega) (by omega) h1 hs1
      · skip
        refine z_iconst dX11_ends_20 ?_
        refine z_iret dX11_ends_21 rfl ?_
        first | exact kn (by omega) | exact k0 (by omega) (by omega) h2 ((hs1.mono (by decide)).trans (hi2.1.mono (by decide))) | exact k1 (by omega) (by omega) h1 hs1
  · skip
    try simp only [Int.toNat_natCast] at g5
    have gL := g5
    show ab_X (d + 4) mX11_ends 8 [(0, .ref 0), (1, .int (iI s)), (2, .int (iI x))] [.int (iI 0)] h _
    refine z_if_eq (tgt := 20) dX11_ends_8 (by decide) (by decide) (fun _ => ?_) (fun c8 => absurd c8 (by decide))
    refine z_iconst dX11_ends_20 ?_
    refine z_iret dX11_ends_21 rfl ?_
    first | exact kn (by omega) | exact k0 (by omega) (by omega) h2 ((hs1.mono (by decide)).trans (hi2.1.mono (by decide))) | exact k1 (by omega) (by omega) h1 hs1
theorem pOK_sm {h h' : ab_H} {k : Nat} (hs : sm [167, 168, 169] h h') (hp : pOK h k) : pOK h' k := ⟨(hs.1 15 3 (by decide)).trans hp.1, hp.2.1, fun i hi => by rw [hs.1 16 i (by decide), hs.1 17 i (by decide)]; exact hp.2.2 i hi⟩
theorem c_gaps {d : Nat} {h : ab_H} {Q : ab_Q} {x : Int} {n k : Nat} (hx : inR x) (hn : zv h 15 0 = n) (hn2 : n ≤ 20) (hp : pOK h k) (kn : ¬ 0 < zv h 15 0 → Q (some (.int (iI (-1)))) h) (kx : 0 < zv h 15 0 → ¬ (0 ≤ x ∧ x ≤ 3) → ∀ h1, sm [167, 168, 169] h h1 → Q (some (.int (iI (-1)))) h1) (k0 : 0 < zv h 15 0 → x = 0 → ∀ h1, sm [167, 168, 169] h h1 → Q (some (.int (iI (fT (fun (x : Int) k => max x (k : Int)) 0 (gAt (cfr h n)) n)))) h1) (k1 : 0 < zv h 15 0 → x = 1 → ∀ h1, sm [167, 168, 169] h h1 → Q (some (.int (iI (sT (fun y => if gAt (cfr h n) y = 0 then (0 : Int) else 1) n)))) h1) (k2 : 0 < zv h 15 0 → x = 2 → ∀ h1, sm [167, 168, 169] h h1 → Q (some (.int (iI (sT (fun y => if ((gAt (cfr h n) y : Nat) : Int) < 21 then ((gAt (cfr h n) y : Nat) : Int) else 0) n)))) h1) (k3 : 0 < zv h 15 0 → x = 3 → ∀ h1, sm [167, 168, 169] h h1 → Q (some (.int (iI (sT (fun y => if ((gAt (cfr h n) y : Nat) : Int) < (nT (zv h 16) 21 k) then ((gAt (cfr h n) y : Nat) : Int) else 0) n)))) h1) : ab_X (d + 4) mX11_gaps 0 (lv_args 0 [.ref 0, .int (iI x)]) [] h Q := by
  show ab_X (d + 4) mX11_gaps 0 [(0, .ref 0), (1, .int (iI x))] [] h Q
  refine ab_aload_n (k := 0) dX11_gaps_0 rfl rfl ?_
  refine ab_callV (As := []) (rest := []) dX11_gaps_1 lX11_180 rfl (Nat.le_of_ble_eq_true rfl) (Nat.le_of_ble_eq_true rfl) rfl ?_
  refine c_hasKerb (fun g1 => ?_) (fun g1 => ?_)
  · skip
    try simp only [Int.toNat_natCast] at g1
    have gL := g1
    show ab_X (d + 4) mX11_gaps 4 [(0, .ref 0), (1, .int (iI x))] [.int (iI 1)] h _
    refine z_if_ne (tgt := 9) dX11_gaps_4 (by decide) (by decide) (fun _ => ?_) (fun c4 => absurd c4 (by decide))
    refine ab_aload_n (k := 0) dX11_gaps_9 rfl rfl ?_
    refine ab_callV (As := []) (rest := []) dX11_gaps_10 lX11_187 rfl (Nat.le_of_ble_eq_true rfl) (Nat.le_of_ble_eq_true rfl) rfl ?_
    refine c_lookC hn hn2 (fun h1 hs1 hG1 => ?_)
    have e150 : zv h1 15 0 = zv h 15 0 := hs1.1 15 0 (by decide)
    have e153 : zv h1 15 3 = zv h 15 3 := hs1.1 15 3 (by decide)
    show ab_X (d + 4) mX11_gaps 13 [(0, .ref 0), (1, .int (iI x))] [] h1 _
    refine ab_iload_n (k := 1) dX11_gaps_13 rfl rfl ?_
    by_cases q14_0 : x = 0
    · skip
      refine z_swIn (tgt := 44) dX11_gaps_14 (by omega) (by omega) (by omega) (by rw [q14_0]; rfl) (by decide) ?_
      refine ab_aload_n (k := 0) dX11_gaps_44 rfl rfl ?_
      refine z_getP (b := 167) dX11_gaps_45 fX11_73 rfl rfl rfl ?_
      refine ab_callV (As := []) (rest := []) dX11_gaps_48 lX11_269 rfl (Nat.le_of_ble_eq_true rfl) (Nat.le_of_ble_eq_true rfl) rfl ?_
      refine c_longest (GR_ok hn2 hG1) ?_
      rw [GR_max hn2 (cfr_end (Nat.le_refl n)) hG1]
      show ab_X (d + 4) mX11_gaps 51 [(0, .ref 0), (1, .int (iI x))] [.int (iI (fT (fun (x : Int) k => max x (k : Int)) 0 (gAt (cfr h n)) n))] h1 _
      refine z_iret dX11_gaps_51 rfl ?_
      first | exact kn (by omega) | exact k0 (by omega) (by omega) h1 hs1 | exact k1 (by omega) (by omega) h1 hs1 | exact k2 (by omega) (by omega) h1 hs1 | exact k3 (by omega) (by omega) h1 hs1 | exact kx (by omega) (by omega) h1 hs1
    by_cases q14_1 : x = 1
    · skip
      refine z_swIn (tgt := 52) dX11_gaps_14 (by omega) (by omega) (by omega) (by rw [q14_1]; rfl) (by decide) ?_
      refine ab_aload_n (k := 0) dX11_gaps_52 rfl rfl ?_
      refine z_getP (b := 167) dX11_gaps_53 fX11_73 rfl rfl rfl ?_
      refine z_getI dX11_gaps_56 fX11_334 rfl (Or.inl rfl) ?_
      refine z_is (y := sT (fun y => if gAt (cfr h n) y = 0 then (0 : Int) else 1) n) (hG1.1.trans (GR_cnt hn2 (cfr_end (Nat.le_refl n)) hG1)) ?_
      refine z_iret dX11_gaps_59 rfl ?_
      first | exact kn (by omega) | exact k0 (by omega) (by omega) h1 hs1 | exact k1 (by omega) (by omega) h1 hs1 | exact k2 (by omega) (by omega) h1 hs1 | exact k3 (by omega) (by omega) h1 hs1 | exact kx (by omega) (by omega) h1 hs1
    by_cases q14_2 : x = 2
    · skip
      refine z_swIn (tgt := 60) dX11_gaps_14 (by omega) (by omega) (by omega) (by rw [q14_2]; rfl) (by decide) ?_
      refine ab_aload_n (k := 0) dX11_gaps_60 rfl rfl ?_
      refine z_getP (b := 167) dX11_gaps_61 fX11_73 rfl rfl rfl ?_
      refine z_bipush dX11_gaps_64 (by decide) ?_
      refine ab_callV (As := [.int (iI 21)]) (rest := []) dX11_gaps_66 lX11_335 rfl (Nat.le_of_ble_eq_true rfl) (Nat.le_of_ble_eq_true rfl) rfl ?_
      refine c_yardsBelow (GR_ok hn2 hG1) (by omega) ?_
      rw [GR_bel (by omega) hn2 (cfr_end (Nat.le_refl n)) hG1]
      show ab_X (d + 4) mX11_gaps 69 [(0, .ref 0), (1, .int (iI x))] [.int (iI (sT (fun y => if ((gAt (cfr h n) y : Nat) : Int) < 21 then ((gAt (cfr h n) y : Nat) : Int) else 0) n))] h1 _
      refine z_iret dX11_gaps_69 rfl ?_
      first | exact kn (by omega) | exact k0 (by omega) (by omega) h1 hs1 | exact k1 (by omega) (by omega) h1 hs1 | exact k2 (by omega) (by omega) h1 hs1 | exact k3 (by omega) (by omega) h1 hs1 | exact kx (by omega) (by omega) h1 hs1
    by_cases q14_3 : x = 3
    · skip
      refine z_swIn (tgt := 70) dX11_gaps_14 (by omega) (by omega) (by omega) (by rw [q14_3]; rfl) (by decide) ?_
      refine ab_aload_n (k := 0) dX11_gaps_70 rfl rfl ?_
      refine z_getP (b := 167) dX11_gaps_71 fX11_73 rfl rfl rfl ?_
      refine ab_aload_n (k := 0) dX11_gaps_74 rfl rfl ?_
      refine z_getP (b := 15) dX11_gaps_75 fX11_35 rfl rfl rfl ?_
      refine ab_callV (As := []) (rest := [.ref 167]) dX11_gaps_78 lX11_338 rfl (Nat.le_of_ble_eq_true rfl) (Nat.le_of_ble_eq_true rfl) rfl ?_
      refine c_shortest (g := k) (pOK_sm hs1 hp) ?_
      rw [show nT (zv h1 16) 21 k = nT (zv h 16) 21 k from nT_congr (fun i _ => hs1.1 16 i (by decide))]
      have bsh := nT_b (f := zv h 16) (a := 21) (b := 21) (n := k) (by decide) (fun j hj => by have := (hp.2.2 j hj).1; omega)
      have bsl := nT_lo (f := zv h 16) (a := 21) (b := 1) k (by decide) (fun j hj => (hp.2.2 j hj).1.1)
      show ab_X (d + 4) mX11_gaps 81 [(0, .ref 0), (1, .int (iI x))] [.int (iI (nT (zv h 16) 21 k)), .ref 167] h1 _
      refine ab_callV (As := [.int (iI (nT (zv h 16) 21 k))]) (rest := []) dX11_gaps_81 lX11_335 rfl (Nat.le_of_ble_eq_true rfl) (Nat.le_of_ble_eq_true rfl) rfl ?_
      refine c_yardsBelow (GR_ok hn2 hG1) (by omega) ?_
      rw [GR_bel (by omega) hn2 (cfr_end (Nat.le_refl n)) hG1]
      show ab_X (d + 4) mX11_gaps 84 [(0, .ref 0), (1, .int (iI x))] [.int (iI (sT (fun y => if ((gAt (cfr h n) y : Nat) : Int) < (nT (zv h 16) 21 k) then ((gAt (cfr h n) y : Nat) : Int) else 0) n))] h1 _
      refine z_iret dX11_gaps_84 rfl ?_
      first | exact kn (by omega) | exact k0 (by omega) (by omega) h1 hs1 | exact k1 (by omega) (by omega) h1 hs1 | exact k2 (by omega) (by omega) h1 hs1 | exact k3 (by omega) (by omega) h1 hs1 | exact kx (by omega) (by omega) h1 hs1
    refine z_swOut (tgt := 85) dX11_gaps_14 (by omega) (by omega) (by decide) ?_
    refine z_iconst dX11_gaps_85 ?_
    refine z_iret dX11_gaps_86 rfl ?_
    first | exact kn (by omega) | exact k0 (by omega) (by omega) h1 hs1 | exact k1 (by omega) (by omega) h1 hs1 | exact k2 (by omega) (by omega) h1 hs1 | exact k3 (by omega) (by omega) h1 hs1 | exact kx (by omega) (by omega) h1 hs1
  · skip
    try simp only [Int.toNat_natCast] at g1
    have gL := g1
    show ab_X (d + 4) mX11_gaps 4 [(0, .ref 0), (1, .int (iI x))] [.int (iI 0)] h _
    refine z_if_ne (tgt := 9) dX11_gaps_4 (by decide) (by decide) (fun c4 => absurd c4 (by decide)) (fun _ => ?_)
    refine z_iconst dX11_gaps_7 ?_
    refine z_iret dX11_gaps_8 rfl ?_
    first | exact kn (by omega) | exact k0 (by omega) (by omega) h1 hs1 | exact k1 (by omega) (by omega) h1 hs1 | exact k2 (by omega) (by omega) h1 hs1 | exact k3 (by omega) (by omega) h1 hs1 | exact kx (by omega) (by omega) h1 hs1
theorem lp_mends {d : Nat} {Q : ab_Q} {h0 : ab_H} {n s L : Nat} {x : Int} (hn : zv h0 200 32 = n) (hn2 : n ≤ 20) (hs : s < 4) (hL : zv h0 207 (2 * s) = L) (hL2 : 1 ≤ L ∧ L ≤ 9) (hx : 0 ≤ x ∧ x ≤ 1) (hT : ∀ j, j ≤ 20 → zv h0 221 j = fTb L 21 j) (K : Q (some (.int (iI (sT (fun y => if x = 0 then fTb L 21 (gAt (mfr h0 n) y) else Int.tdiv ((gAt (mfr h0 n) y : Nat) : Int) (L : Int)) n)))) h0) : ∀ (nn : Nat) (y : Nat) (a : Int) (h : ab_H), n - y = nn → (h = h0) → (y ≤ n) → (a = sT (fun y => if x = 0 then fTb L 21 (gAt (mfr h0 n) y) else Int.tdiv ((gAt (mfr h0 n) y : Nat) : Int) (L : Int)) y) → ab_X (d + 4) mX12_ends 39 [(0, .ref 200), (1, .int (iI (s : Int))), (2, .int (iI x)), (3, .int (iI a)), (4, .int (iI (y : Int)))] [] h Q := by
  intro nn
  induction nn using Nat.strongRecOn with
  | ind nn ih =>
  intro y a h hnn hh h2 ha
  subst hh
  have hgn := gAt_n (h := h) (n := n) (y := y) hn2
  refine ab_iload (k := 4) dX12_ends_39 rfl ?_
  refine ab_aload_n (k := 0) dX12_ends_41 rfl rfl ?_
  refine z_getI dX12_ends_42 fX12_290 rfl (Or.inl rfl) ?_
  refine z_is (y := (n : Int)) hn ?_
  refine z_icmp_ge (tgt := 87) dX12_ends_45 (by decide) (by omega) (by omega) (fun c45 => ?_) (fun c45 => ?_)
  · skip
    refine ab_iload_n (k := 3) dX12_ends_87 rfl rfl ?_
    refine z_iret dX12_ends_88 rfl ?_
    have e : y = n := by omega
    subst e
    rw [ha]
    exact K
  · skip
    refine ab_iload_n (k := 3) dX12_ends_48 rfl rfl ?_
    refine ab_iload_n (k := 2) dX12_ends_49 rfl rfl ?_
    refine z_if_ne (tgt := 67) dX12_ends_50 (by decide) (by omega) (fun c50 => ?_) (fun c50 => ?_)
    · skip
      refine ab_aload_n (k := 0) dX12_ends_67 rfl rfl ?_
      refine ab_iload (k := 4) dX12_ends_68 rfl ?_
      refine ab_callV (As := [.int (iI (y : Int))]) (rest := [.int (iI a)]) dX12_ends_70 lX12_379 rfl (Nat.le_of_ble_eq_true rfl) (Nat.le_of_ble_eq_true rfl) rfl ?_
      refine c_gapAt hn hn2 (by omega) ?_
      have bg := gAt_le (fr := mfr h n) (y := y)
      show ab_X (d + 4) mX12_ends 73 [(0, .ref 200), (1, .int (iI (s : Int))), (2, .int (iI x)), (3, .int (iI a)), (4, .int (iI (y : Int)))] [.int (iI ((gAt (mfr h n) y : Nat) : Int)), .int (iI a)] h _
      refine ab_aload_n (k := 0) dX12_ends_73 rfl rfl ?_
      refine ab_iload_n (k := 1) dX12_ends_74 rfl rfl ?_
      refine ab_callV (As := [.int (iI (s : Int))]) (rest := [.int (iI ((gAt (mfr h n) y : Nat) : Int)), .int (iI a)]) dX12_ends_75 lX12_312 rfl (Nat.le_of_ble_eq_true rfl) (Nat.le_of_ble_eq_true rfl) rfl ?_
      refine c_mlengthOf (by omega) ?_
      have bl75 := zv_R h 207 (2 * s)
      show ab_X (d + 4) mX12_ends 78 [(0, .ref 200), (1, .int (iI (s : Int))), (2, .int (iI x)), (3, .int (iI a)), (4, .int (iI (y : Int)))] [.int (iI (zv h 207 (2 * s))), .int (iI ((gAt (mfr h n) y : Nat) : Int)), .int (iI a)] h _
      refine z_is (y := (L : Int)) hL ?_
      refine z_idiv dX12_ends_78 (by omega) (by omega) (by omega) ?_
      refine z_iadd dX12_ends_79 ?_
      refine ab_istore_n (ls' := [(3, .int (iI (a + (Int.tdiv ((gAt (mfr h n) y : Nat) : Int) (L : Int))))), (0, .ref 200), (1, .int (iI (s : Int))), (2, .int (iI x)), (4, .int (iI (y : Int)))]) dX12_ends_80 rfl (by decide) rfl ?_
      refine z_iinc (k := 4) (v := (y : Int) + 1) (ls' := [(4, .int (iI ((y : Int) + 1))), (3, .int (iI (a + (Int.tdiv ((gAt (mfr h n) y : Nat) : Int) (L : Int))))), (0, .ref 200), (1, .int (iI (s : Int))), (2, .int (iI x))]) dX12_ends_81 rfl rfl (by decide) rfl ?_
      refine ab_goto (tgt := 39) dX12_ends_84 (by decide) ?_
      refine ab_sub (ls' := [(0, .ref 200), (1, .int (iI (s : Int))), (2, .int (iI x)), (3, .int (iI (a + (Int.tdiv ((gAt (mfr h n) y : Nat) : Int) (L : Int))))), (4, .int (iI ((y : Int) + 1)))]) (ks := [2, 3, 4, 1, 0]) rfl ?_
      first | exact ih _ (by omega) (y + 1) _ h rfl rfl (by omega) (by rw [ha, sT_s, if_pos (by omega)]) | exact ih _ (by omega) (y + 1) _ h rfl rfl (by omega) (by rw [ha, sT_s, if_neg (by omega)])
    · skip
      refine ab_aload_n (k := 0) dX12_ends_53 rfl rfl ?_
      refine z_getP (b := 221) dX12_ends_54 fX12_90 rfl rfl rfl ?_
      refine ab_aload_n (k := 0) dX12_ends_57 rfl rfl ?_
      refine ab_iload (k := 4) dX12_ends_58 rfl ?_
      refine ab_callV (As := [.int (iI (y : Int))]) (rest := [.ref 221, .int (iI a)]) dX12_ends_60 lX12_379 rfl (Nat.le_of_ble_eq_true rfl) (Nat.le_of_ble_eq_true rfl) rfl ?_
      refine c_gapAt hn hn2 (by omega) ?_
      have bg := gAt_le (fr := mfr h n) (y := y)
      show ab_X (d + 4) mX12_ends 63 [(0, .ref 200), (1, .int (iI (s : Int))), (2, .int (iI x)), (3, .int (iI a)), (4, .int (iI (y : Int)))] [.int (iI ((gAt (mfr h n) y : Nat) : Int)), .ref 221, .int (iI a)] h _
      refine z_iald dX12_ends_63 rfl (by omega) (by omega) ?_
      simp only [Int.toNat_natCast]
      refine z_is (y := fTb L 21 (gAt (mfr h n) y)) (hT _ hgn) ?_
      refine ab_goto (tgt := 79) dX12_ends_64 (by decide) ?_
      refine z_iadd dX12_ends_79 ?_
      refine ab_istore_n (ls' := [(3, .int (iI (a + (fTb L 21 (gAt (mfr h n) y))))), (0, .ref 200), (1, .int (iI (s : Int))), (2, .int (iI x)), (4, .int (iI (y : Int)))]) dX12_ends_80 rfl (by decide) rfl ?_
      refine z_iinc (k := 4) (v := (y : Int) + 1) (ls' := [(4, .int (iI ((y : Int) + 1))), (3, .int (iI (a + (fTb L 21 (gAt (mfr h n) y))))), (0, .ref 200), (1, .int (iI (s : Int))), (2, .int (iI x))]) dX12_ends_81 rfl rfl (by decide) rfl ?_
      refine ab_goto (tgt := 39) dX12_ends_84 (by decide) ?_
      refine ab_sub (ls' := [(0, .ref 200), (1, .int (iI (s : Int))), (2, .int (iI x)), (3, .int (iI (a + (fTb L 21 (gAt (mfr h n) y))))), (4, .int (iI ((y : Int) + 1)))]) (ks := [2, 3, 4, 1, 0]) rfl ?_
      first | exact ih _ (by omega) (y + 1) _ h rfl rfl (by omega) (by rw [ha, sT_s, if_pos (by omega)]) | exact ih _ (by omega) (y + 1) _ h rfl rfl (by omega) (by rw [ha, sT_s, if_neg (by omega)])
theorem c_mends {d : Nat} {h : ab_H} {Q : ab_Q} {h9 : ab_H} {n s L : Nat} {x : Int} (e9 : zp h 200 0 0 = h9) (hn : zv h9 200 32 = n) (hn2 : n ≤ 20) (hs : s < 4) (hL : zv h9 207 (2 * s) = L) (hL2 : 1 ≤ L ∧ L ≤ 9) (hv : (s : Int) < zv h9 200 24) (hx : 0 ≤ x ∧ x ≤ 1) (K : ∀ h1, ftI h9 h1 221 L 21 → Q (some (.int (iI (sT (fun y => if x = 0 then fTb L 21 (gAt (mfr h1 n) y) else Int.tdiv ((gAt (mfr h1 n) y : Nat) : Int) (L : Int)) n)))) h1) : ab_X (d + 4) mX12_ends 0 (lv_args 0 [.ref 200, .int (iI (s : Int)), .int (iI x)]) [] h Q := by
  show ab_X (d + 4) mX12_ends 0 [(0, .ref 200), (1, .int (iI (s : Int))), (2, .int (iI x))] [] h Q
  refine ab_aload_n (k := 0) dX12_ends_0 rfl rfl ?_
  refine z_iconst dX12_ends_1 ?_
  refine z_putI dX12_ends_2 fX12_111 rfl rfl ?_
  rw [e9]
  refine ab_aload_n (k := 0) dX12_ends_5 rfl rfl ?_
  refine ab_iload_n (k := 1) dX12_ends_6 rfl rfl ?_
  refine ab_callV (As := [.int (iI (s : Int))]) (rest := []) dX12_ends_7 lX12_307 rfl (Nat.le_of_ble_eq_true rfl) (Nat.le_of_ble_eq_true rfl) rfl ?_
  refine c_misSort (by omega) (fun g7 => ?_) (fun g7 => ?_)
  · skip
    try simp only [Int.toNat_natCast] at g7
    have gL := g7
    show ab_X (d + 4) mX12_ends 10 [(0, .ref 200), (1, .int (iI (s : Int))), (2, .int (iI x))] [.int (iI 1)] h9 _
    refine z_if_eq (tgt := 23) dX12_ends_10 (by decide) (by decide) (fun c10 => absurd c10 (by decide)) (fun _ => ?_)
    refine ab_iload_n (k := 2) dX12_ends_13 rfl rfl ?_
    refine z_i2l dX12_ends_14 (by omega) ?_
    refine z_lconst (v := 0) dX12_ends_15 (by decide) ?_
    refine z_lconst (v := 1) dX12_ends_16 (by decide) ?_
    refine ab_callS (As := [.long (lL x), .long (lL 0), .long (lL 1)]) (rest := []) dX12_ends_17 lX12_232 (Nat.le_of_ble_eq_true rfl) (Nat.le_of_ble_eq_true rfl) rfl ?_
    refine c_isIn (by omega) (by omega) (by omega) (fun g17 => ?_) (fun g17 => ?_)
    · skip
      try simp only [Int.toNat_natCast] at g17
      have gL := g17
      show ab_X (d + 4) mX12_ends 20 [(0, .ref 200), (1, .int (iI (s : Int))), (2, .int (iI x))] [.int (iI 1)] h9 _
      refine z_if_ne (tgt := 25) dX12_ends_20 (by decide) (by decide) (fun _ => ?_) (fun c20 => absurd c20 (by decide))
      refine ab_aload_n (k := 0) dX12_ends_25 rfl rfl ?_
      refine ab_aload_n (k := 0) dX12_ends_26 rfl rfl ?_
      refine ab_iload_n (k := 1) dX12_ends_27 rfl rfl ?_
      refine ab_callV (As := [.int (iI (s : Int))]) (rest := [.ref 200]) dX12_ends_28 lX12_312 rfl (Nat.le_of_ble_eq_true rfl) (Nat.le_of_ble_eq_true rfl) rfl ?_
      refine c_mlengthOf (by omega) ?_
      have bl28 := zv_R h9 207 (2 * s)
      show ab_X (d + 4) mX12_ends 31 [(0, .ref 200), (1, .int (iI (s : Int))), (2, .int (iI x))] [.int (iI (zv h9 207 (2 * s))), .ref 200] h9 _
      refine z_is (y := (L : Int)) hL ?_
      refine ab_callV (As := [.int (iI (L : Int))]) (rest := []) dX12_ends_31 lX12_393 rfl (Nat.le_of_ble_eq_true rfl) (Nat.le_of_ble_eq_true rfl) rfl ?_
      refine c_layFewest (l := L) (by omega) (by omega) (fun h1 hf1 => ?_)
      show ab_X (d + 4) mX12_ends 34 [(0, .ref 200), (1, .int (iI (s : Int))), (2, .int (iI x))] [] h1 _
      refine z_iconst dX12_ends_34 ?_
      refine ab_istore_n (ls' := [(3, .int (iI 0)), (0, .ref 200), (1, .int (iI (s : Int))), (2, .int (iI x))]) dX12_ends_35 rfl (by decide) rfl ?_
      refine z_iconst dX12_ends_36 ?_
      refine ab_istore (ls' := [(4, .int (iI 0)), (3, .int (iI 0)), (0, .ref 200), (1, .int (iI (s : Int))), (2, .int (iI x))]) dX12_ends_37 (by decide) rfl ?_
      refine ab_sub (ls' := [(0, .ref 200), (1, .int (iI (s : Int))), (2, .int (iI x)), (3, .int (iI 0)), (4, .int (iI 0))]) (ks := [2, 3, 4, 1, 0]) rfl ?_
      first | exact lp_mends ((hf1.1.1 200 32 (by decide)).trans hn) hn2 hs ((hf1.1.1 207 _ (by decide)).trans hL) hL2 hx (fun j hj => hf1.2 j (by omega)) (K h1 hf1) _ 0 0 h1 rfl rfl (by omega) rfl | exact absurd gL (by omega)
    · skip
      try simp only [Int.toNat_natCast] at g17
      have gL := g17
      show ab_X (d + 4) mX12_ends 20 [(0, .ref 200), (1, .int (iI (s : Int))), (2, .int (iI x))] [.int (iI 0)] h9 _
      refine z_if_ne (tgt := 25) dX12_ends_20 (by decide) (by decide) (fun c20 => absurd c20 (by decide)) (fun _ => ?_)
      refine z_iconst dX12_ends_23 ?_
      refine z_iret dX12_ends_24 rfl ?_
      first | exact lp_mends ((hf1.1.1 200 32 (by decide)).trans hn) hn2 hs ((hf1.1.1 207 _ (by decide)).trans hL) hL2 hx (fun j hj => hf1.2 j (by omega)) (K h1 hf1) _ 0 0 h1 rfl rfl (by omega) rfl | exact absurd gL (by omega)
  · skip
    try simp only [Int.toNat_natCast] at g7
    have gL := g7
    show ab_X (d + 4) mX12_ends 10 [(0, .ref 200), (1, .int (iI (s : Int))), (2, .int (iI x))] [.int (iI 0)] h9 _
    refine z_if_eq (tgt := 23) dX12_ends_10 (by decide) (by decide) (fun _ => ?_) (fun c10 => absurd c10 (by decide))
    refine z_iconst dX12_ends_23 ?_
    refine z_iret dX12_ends_24 rfl ?_
    first | exact lp_mends ((hf1.1.1 200 32 (by decide)).trans hn) hn2 hs ((hf1.1.1 207 _ (by decide)).trans hL) hL2 hx (fun j hj => hf1.2 j (by omega)) (K h1 hf1) _ 0 0 h1 rfl rfl (by omega) rfl | exact absurd gL (by omega)
theorem c_mends0 {d : Nat} {h : ab_H} {Q : ab_Q} {h9 : ab_H} {s x : Int} (e9 : zp h 200 0 0 = h9) (hs : inR s) (hx : inR x) (hno : ¬ ((0 ≤ s ∧ s < zv h9 200 24) ∧ 0 ≤ x ∧ x ≤ 1)) (K : Q (some (.int (iI (-1)))) h9) : ab_X (d + 4) mX12_ends 0 (lv_args 0 [.ref 200, .int (iI s), .int (iI x)]) [] h Q := by
  show ab_X (d + 4) mX12_ends 0 [(0, .ref 200), (1, .int (iI s)), (2, .int (iI x))] [] h Q
  refine ab_aload_n (k := 0) dX12_ends_0 rfl rfl ?_
  refine z_iconst dX12_ends_1 ?_
  refine z_putI dX12_ends_2 fX12_111 rfl rfl ?_
  rw [e9]
  refine ab_aload_n (k := 0) dX12_ends_5 rfl rfl ?_
  refine ab_iload_n (k := 1) dX12_ends_6 rfl rfl ?_
  refine ab_callV (As := [.int (iI s)]) (rest := []) dX12_ends_7 lX12_307 rfl (Nat.le_of_ble_eq_true rfl) (Nat.le_of_ble_eq_true rfl) rfl ?_
  refine c_misSort (by omega) (fun g7 => ?_) (fun g7 => ?_)
  · skip
    try simp only [Int.toNat_natCast] at g7
    have gL := g7
    show ab_X (d + 4) mX12_ends 10 [(0, .ref 200), (1, .int (iI s)), (2, .int (iI x))] [.int (iI 1)] h9 _
    refine z_if_eq (tgt := 23) dX12_ends_10 (by decide) (by decide) (fun c10 => absurd c10 (by decide)) (fun _ => ?_)
    refine ab_iload_n (k := 2) dX12_ends_13 rfl rfl ?_
    refine z_i2l dX12_ends_14 (by omega) ?_
    refine z_lconst (v := 0) dX12_ends_15 (by decide) ?_
    refine z_lconst (v := 1) dX12_ends_16 (by decide) ?_
    refine ab_callS (As := [.long (lL x), .long (lL 0), .long (lL 1)]) (rest := []) dX12_ends_17 lX12_232 (Nat.le_of_ble_eq_true rfl) (Nat.le_of_ble_eq_true rfl) rfl ?_
    refine c_isIn (by omega) (by omega) (by omega) (fun g17 => ?_) (fun g17 => ?_)
    · skip
      try simp only [Int.toNat_natCast] at g17
      have gL := g17
      show ab_X (d + 4) mX12_ends 20 [(0, .ref 200), (1, .int (iI s)), (2, .int (iI x))] [.int (iI 1)] h9 _
      refine z_if_ne (tgt := 25) dX12_ends_20 (by decide) (by decide) (fun _ => ?_) (fun c20 => absurd c20 (by decide))
      refine ab_sub (ls' := [(0, .ref 200), (1, .int (iI s)), (2, .int (iI x))]) (ks := [0, 1, 2]) rfl ?_
      first | exact K | exact absurd hno (by omega)
    · skip
      try simp only [Int.toNat_natCast] at g17
      have gL := g17
      show ab_X (d + 4) mX12_ends 20 [(0, .ref 200), (1, .int (iI s)), (2, .int (iI x))] [.int (iI 0)] h9 _
      refine z_if_ne (tgt := 25) dX12_ends_20 (by decide) (by decide) (fun c20 => absurd c20 (by decide)) (fun _ => ?_)
      refine z_iconst dX12_ends_23 ?_
      refine z_iret dX12_ends_24 rfl ?_
      first | exact K | exact absurd hno (by omega)
  · skip
    try simp only [Int.toNat_natCast] at g7
    have gL := g7
    show ab_X (d + 4) mX12_ends 10 [(0, .ref 200), (1, .int (iI s)), (2, .int (iI x))] [.int (iI 0)] h9 _
    refine z_if_eq (tgt := 23) dX12_ends_10 (by decide) (by decide) (fun _ => ?_) (fun c10 => absurd c10 (by decide))
    refine z_iconst dX12_ends_23 ?_
    refine z_iret dX12_ends_24 rfl ?_
    first | exact K | exact absurd hno (by omega)
theorem lp_mgaps1 {d : Nat} {Q : ab_Q} {h0 : ab_H} {k : Nat} {x : Int} (hk : zv h0 200 24 = k) (hk2 : k ≤ 4) (hl : ∀ i, i < k → 1 ≤ zv h0 207 (2 * i) ∧ zv h0 207 (2 * i) ≤ 9) (K : ab_X (d + 4) mX12_gaps 55 [(0, .ref 200), (1, .int (iI x)), (2, .int (iI (nT (fun i => zv h0 207 (2 * i)) 20 k)))] [] h0 Q) : ∀ (nn : Nat) (i : Nat) (a : Int) (h : ab_H), k - i = nn → (h = h0) → (i ≤ k) → (a = nT (fun i => zv h0 207 (2 * i)) 20 i) → ab_X (d + 4) mX12_gaps 31 [(0, .ref 200), (1, .int (iI x)), (2, .int (iI a)), (3, .int (iI (i : Int)))] [] h Q := by
  intro nn
  induction nn using Nat.strongRecOn with
  | ind nn ih =>
  intro i a h hnn hh h2 ha
  subst hh
  have hab := nT_b (f := fun i => zv h 207 (2 * i)) (a := 20) (b := 20) (n := i) (by decide) (fun j hj => by have := hl j (by omega); omega)
  rw [← ha] at hab
  refine ab_iload_n (k := 3) dX12_gaps_31 rfl rfl ?_
  refine ab_aload_n (k := 0) dX12_gaps_32 rfl rfl ?_
  refine z_getI dX12_gaps_33 fX12_284 rfl (Or.inl rfl) ?_
  refine z_is (y := (k : Int)) hk ?_
  refine z_icmp_ge (tgt := 55) dX12_gaps_36 (by decide) (by omega) (by omega) (fun c36 => ?_) (fun c36 => ?_)
  · skip
    refine ab_sub (ls' := [(0, .ref 200), (1, .int (iI x)), (2, .int (iI a))]) (ks := [0, 1, 2]) rfl ?_
    have e : i = k := by omega
    subst e
    rw [ha]
    exact K
  · skip
    refine ab_iload_n (k := 2) dX12_gaps_39 rfl rfl ?_
    refine ab_aload_n (k := 0) dX12_gaps_40 rfl rfl ?_
    refine ab_iload_n (k := 3) dX12_gaps_41 rfl rfl ?_
    refine ab_callV (As := [.int (iI (i : Int))]) (rest := [.int (iI a)]) dX12_gaps_42 lX12_312 rfl (Nat.le_of_ble_eq_true rfl) (Nat.le_of_ble_eq_true rfl) rfl ?_
    refine c_mlengthOf (by omega) ?_
    have bl42 := zv_R h 207 (2 * i)
    show ab_X (d + 4) mX12_gaps 45 [(0, .ref 200), (1, .int (iI x)), (2, .int (iI a)), (3, .int (iI (i : Int)))] [.int (iI (zv h 207 (2 * i))), .int (iI a)] h _
    refine z_mmin dX12_gaps_45 lX12_327 (Nat.le_of_ble_eq_true rfl) (by omega) (by omega) ?_
    refine ab_istore_n (ls' := [(2, .int (iI (min a (zv h 207 (2 * i))))), (0, .ref 200), (1, .int (iI x)), (3, .int (iI (i : Int)))]) dX12_gaps_48 rfl (by decide) rfl ?_
    refine z_iinc (k := 3) (v := (i : Int) + 1) (ls' := [(3, .int (iI ((i : Int) + 1))), (2, .int (iI (min a (zv h 207 (2 * i))))), (0, .ref 200), (1, .int (iI x))]) dX12_gaps_49 rfl rfl (by decide) rfl ?_
    refine ab_goto (tgt := 31) dX12_gaps_52 (by decide) ?_
    refine ab_sub (ls' := [(0, .ref 200), (1, .int (iI x)), (2, .int (iI (min a (zv h 207 (2 * i))))), (3, .int (iI ((i : Int) + 1)))]) (ks := [2, 3, 1, 0]) rfl ?_
    exact ih _ (by omega) (i + 1) _ h rfl rfl (by omega) (by rw [ha, nT_s])
theorem lp_mgaps2 {d : Nat} {Q : ab_Q} {h0 : ab_H} {n : Nat} {x sh : Int} (hn : zv h0 200 32 = n) (hn2 : n ≤ 20) (hx : 0 ≤ x ∧ x ≤ 3) (hsh : 0 ≤ sh ∧ sh ≤ 20) (k0 : x = 0 → Q (some (.int (iI (fT (fun (x : Int) k => max x (k : Int)) 0 (gAt (mfr h0 n)) n)))) h0) (k1 : x = 1 → Q (some (.int (iI (sT (fun y => if gAt (mfr h0 n) y = 0 then (0 : Int) else 1) n)))) h0) (k2 : x = 2 → Q (some (.int (iI (sT (fun y => ((gAt (mfr h0 n) y : Nat) : Int)) n)))) h0) (k3 : x = 3 → Q (some (.int (iI (sT (fun y => if ((gAt (mfr h0 n) y : Nat) : Int) < sh then ((gAt (mfr h0 n) y : Nat) : Int) else 0) n)))) h0) : ∀ (nn : Nat) (y : Nat) (m1 : Int) (m2 : Int) (m3 : Int) (m4 : Int) (h : ab_H), n - y = nn → (h = h0) → (y ≤ n) → (m1 = fT (fun (x : Int) k => max x (k : Int)) 0 (gAt (mfr h0 n)) y ∧ 0 ≤ m1 ∧ m1 ≤ 20) → (m2 = sT (fun y => if gAt (mfr h0 n) y = 0 then (0 : Int) else 1) y) → (m3 = sT (fun y => ((gAt (mfr h0 n) y : Nat) : Int)) y) → (m4 = sT (fun y => if ((gAt (mfr h0 n) y : Nat) : Int) < sh then ((gAt (mfr h0 n) y : Nat) : Int) else 0) y) → ab_X (d + 4) mX12_gaps 69 [(0, .ref 200), (1, .int (iI x)), (2, .int (iI sh)), (3, .int (iI m1)), (4, .int (iI m2)), (5, .int (iI m3)), (6, .int (iI m4)), (7, .int (iI (y : Int)))] [] h Q := by
  intro nn
  induction nn using Nat.strongRecOn with
  | ind nn ih =>
  intro y m1 m2 m3 m4 h hnn hh h2 a1 a2 a3 a4
  subst hh
  have hgn := gAt_n (h := h) (n := n) (y := y) hn2
  refine ab_iload (k := 7) dX12_gaps_69 rfl ?_
  refine ab_aload_n (k := 0) dX12_gaps_71 rfl rfl ?_
  refine z_getI dX12_gaps_72 fX12_290 rfl (Or.inl rfl) ?_
  refine z_is (y := (n : Int)) hn ?_
  refine z_icmp_ge (tgt := 138) dX12_gaps_75 (by decide) (by omega) (by omega) (fun c75 => ?_) (fun c75 => ?_)
  · skip
    refine ab_iload_n (k := 1) dX12_gaps_138 rfl rfl ?_
    refine z_if_ne (tgt := 146) dX12_gaps_139 (by decide) (by omega) (fun c139 => ?_) (fun c139 => ?_)
    · skip
      refine ab_iload_n (k := 1) dX12_gaps_146 rfl rfl ?_
      refine z_iconst dX12_gaps_147 ?_
      refine z_icmp_ne (tgt := 156) dX12_gaps_148 (by decide) (by omega) (by decide) (fun c148 => ?_) (fun c148 => ?_)
      · skip
        refine ab_iload_n (k := 1) dX12_gaps_156 rfl rfl ?_
        refine z_iconst dX12_gaps_157 ?_
        refine z_icmp_ne (tgt := 166) dX12_gaps_158 (by decide) (by omega) (by decide) (fun c158 => ?_) (fun c158 => ?_)
        · skip
          refine ab_iload (k := 6) dX12_gaps_166 rfl ?_
          refine z_iret dX12_gaps_168 rfl ?_
          have e : y = n := by omega
          subst e
          first | (rw [a1.1]; exact k0 (by omega)) | (rw [a2]; exact k1 (by omega)) | (rw [a3]; exact k2 (by omega)) | (rw [a4]; exact k3 (by omega))
        · skip
          refine ab_iload (k := 5) dX12_gaps_161 rfl ?_
          refine ab_goto (tgt := 168) dX12_gaps_163 (by decide) ?_
          refine z_iret dX12_gaps_168 rfl ?_
          have e : y = n := by omega
          subst e
          first | (rw [a1.1]; exact k0 (by omega)) | (rw [a2]; exact k1 (by omega)) | (rw [a3]; exact k2 (by omega)) | (rw [a4]; exact k3 (by omega))
      · skip
        refine ab_iload (k := 4) dX12_gaps_151 rfl ?_
        refine ab_goto (tgt := 168) dX12_gaps_153 (by decide) ?_
        refine z_iret dX12_gaps_168 rfl ?_
        have e : y = n := by omega
        subst e
        first | (rw [a1.1]; exact k0 (by omega)) | (rw [a2]; exact k1 (by omega)) | (rw [a3]; exact k2 (by omega)) | (rw [a4]; exact k3 (by omega))
    · skip
      refine ab_iload_n (k := 3) dX12_gaps_142 rfl rfl ?_
      refine ab_goto (tgt := 168) dX12_gaps_143 (by decide) ?_
      refine z_iret dX12_gaps_168 rfl ?_
      have e : y = n := by omega
      subst e
      first | (rw [a1.1]; exact k0 (by omega)) | (rw [a2]; exact k1 (by omega)) | (rw [a3]; exact k2 (by omega)) | (rw [a4]; exact k3 (by omega))
  · skip
    refine ab_aload_n (k := 0) dX12_gaps_78 rfl rfl ?_
    refine ab_iload (k := 7) dX12_gaps_79 rfl ?_
    refine ab_callV (As := [.int (iI (y : Int))]) (rest := []) dX12_gaps_81 lX12_379 rfl (Nat.le_of_ble_eq_true rfl) (Nat.le_of_ble_eq_true rfl) rfl ?_
    refine c_gapAt hn hn2 (by omega) ?_
    have bg := gAt_le (fr := mfr h n) (y := y)
    show ab_X (d + 4) mX12_gaps 84 [(0, .ref 200), (1, .int (iI x)), (2, .int (iI sh)), (3, .int (iI m1)), (4, .int (iI m2)), (5, .int (iI m3)), (6, .int (iI m4)), (7, .int (iI (y : Int)))] [.int (iI ((gAt (mfr h n) y : Nat) : Int))] h _
    refine ab_istore (ls' := [(8, .int (iI ((gAt (mfr h n) y : Nat) : Int))), (0, .ref 200), (1, .int (iI x)), (2, .int (iI sh)), (3, .int (iI m1)), (4, .int (iI m2)), (5, .int (iI m3)), (6, .int (iI m4)), (7, .int (iI (y : Int)))]) dX12_gaps_84 (by decide) rfl ?_
    refine ab_iload_n (k := 4) dX12_gaps_86 rfl rfl ?_
    refine ab_iload (k := 0) dX12_gaps_87 rfl ?_
    refine z_mmax dX12_gaps_89 lX12_414 (Nat.le_of_ble_eq_true rfl) (by omega) (by omega) ?_
    refine ab_istore_n (ls' := [(3, .int (iI (max m1 ((gAt (mfr h n) y : Nat) : Int)))), (8, .int (iI ((gAt (mfr h n) y : Nat) : Int))), (0, .ref 200), (1, .int (iI x)), (2, .int (iI sh)), (4, .int (iI m2)), (5, .int (iI m3)), (6, .int (iI m4)), (7, .int (iI (y : Int)))]) dX12_gaps_92 rfl (by decide) rfl ?_
    refine ab_iload (k := 5) dX12_gaps_93 rfl ?_
    refine ab_iload (k := 1) dX12_gaps_95 rfl ?_
    refine z_if_le (tgt := 104) dX12_gaps_97 (by decide) (by omega) (fun c97 => ?_) (fun c97 => ?_)
    · skip
      refine z_iconst dX12_gaps_104 ?_
      refine z_iadd dX12_gaps_105 ?_
      refine ab_istore (ls' := [(4, .int (iI (m2 + 0))), (3, .int (iI (max m1 ((gAt (mfr h n) y : Nat) : Int)))), (8, .int (iI ((gAt (mfr h n) y : Nat) : Int))), (0, .ref 200), (1, .int (iI x)), (2, .int (iI sh)), (5, .int (iI m3)), (6, .int (iI m4)), (7, .int (iI (y : Int)))]) dX12_gaps_106 (by decide) rfl ?_
      refine ab_iload (k := 6) dX12_gaps_108 rfl ?_
      refine ab_iload (k := 2) dX12_gaps_110 rfl ?_
      refine z_iadd dX12_gaps_112 ?_
      refine ab_istore (ls' := [(5, .int (iI (m3 + ((gAt (mfr h n) y : Nat) : Int)))), (4, .int (iI (m2 + 0))), (3, .int (iI (max m1 ((gAt (mfr h n) y : Nat) : Int)))), (8, .int (iI ((gAt (mfr h n) y : Nat) : Int))), (0, .ref 200), (1, .int (iI x)), (2, .int (iI sh)), (6, .int (iI m4)), (7, .int (iI (y : Int)))]) dX12_gaps_113 (by decide) rfl ?_
      refine ab_iload (k := 7) dX12_gaps_115 rfl ?_
      refine ab_iload (k := 3) dX12_gaps_117 rfl ?_
      refine ab_iload_n (k := 6) dX12_gaps_119 rfl rfl ?_
      refine z_icmp_ge (tgt := 128) dX12_gaps_120 (by decide) (by omega) (by omega) (fun c120 => ?_) (fun c120 => ?_)
      · skip
        refine z_iconst dX12_gaps_128 ?_
        refine z_iadd dX12_gaps_129 ?_
        refine ab_istore (ls' := [(6, .int (iI (m4 + 0))), (5, .int (iI (m3 + ((gAt (mfr h n) y : Nat) : Int)))), (4, .int (iI (m2 + 0))), (3, .int (iI (max m1 ((gAt (mfr h n) y : Nat) : Int)))), (8, .int (iI ((gAt (mfr h n) y : Nat) : Int))), (0, .ref 200), (1, .int (iI x)), (2, .int (iI sh)), (7, .int (iI (y : Int)))]) dX12_gaps_130 (by decide) rfl ?_
        refine z_iinc (k := 8) (v := (y : Int) + 1) (ls' := [(7, .int (iI ((y : Int) + 1))), (6, .int (iI (m4 + 0))), (5, .int (iI (m3 + ((gAt (mfr h n) y : Nat) : Int)))), (4, .int (iI (m2 + 0))), (3, .int (iI (max m1 ((gAt (mfr h n) y : Nat) : Int)))), (8, .int (iI ((gAt (mfr h n) y : Nat) : Int))), (0, .ref 200), (1, .int (iI x)), (2, .int (iI sh))]) dX12_gaps_132 rfl rfl (by decide) rfl ?_
        refine ab_goto (tgt := 69) dX12_gaps_135 (by decide) ?_
        refine ab_sub (ls' := [(0, .ref 200), (1, .int (iI x)), (2, .int (iI sh)), (3, .int (iI (max m1 ((gAt (mfr h n) y : Nat) : Int)))), (4, .int (iI (m2 + 0))), (5, .int (iI (m3 + ((gAt (mfr h n) y : Nat) : Int)))), (6, .int (iI (m4 + 0))), (7, .int (iI ((y : Int) + 1)))]) (ks := [6, 7, 8, 4, 3, 2, 1, 0]) rfl ?_
        exact ih _ (by omega) (y + 1) _ _ _ _ h rfl rfl (by omega) ⟨by rw [a1.1, fT_s], by omega, by omega⟩ (by rw [a2, sT_s]; first | (rw [if_neg (by omega)]) | (rw [if_pos (by omega)])) (by rw [a3, sT_s]) (by rw [a4, sT_s]; first | (rw [if_neg (by omega)]) | (rw [if_pos (by omega)]))
      · skip
        refine ab_iload (k := 3) dX12_gaps_123 rfl ?_
        refine ab_goto (tgt := 129) dX12_gaps_125 (by decide) ?_
        refine z_iadd dX12_gaps_129 ?_
        refine ab_istore (ls' := [(6, .int (iI (m4 + ((gAt (mfr h n) y : Nat) : Int)))), (5, .int (iI (m3 + ((gAt (mfr h n) y : Nat) : Int)))), (4, .int (iI (m2 + 0))), (3, .int (iI (max m1 ((gAt (mfr h n) y : Nat) : Int)))), (8, .int (iI ((gAt (mfr h n) y : Nat) : Int))), (0, .ref 200), (1, .int (iI x)), (2, .int (iI sh)), (7, .int (iI (y : Int)))]) dX12_gaps_130 (by decide) rfl ?_
        refine z_iinc (k := 8) (v := (y : Int) + 1) (ls' := [(7, .int (iI ((y : Int) + 1))), (6, .int (iI (m4 + ((gAt (mfr h n) y : Nat) : Int)))), (5, .int (iI (m3 + ((gAt (mfr h n) y : Nat) : Int)))), (4, .int (iI (m2 + 0))), (3, .int (iI (max m1 ((gAt (mfr h n) y : Nat) : Int)))), (8, .int (iI ((gAt (mfr h n) y : Nat) : Int))), (0, .ref 200), (1, .int (iI x)), (2, .int (iI sh))]) dX12_gaps_132 rfl rfl (by decide) rfl ?_
        refine ab_goto (tgt := 69) dX12_gaps_135 (by decide) ?_
        refine ab_sub (ls' := [(0, .ref 200), (1, .int (iI x)), (2, .int (iI sh)), (3, .int (iI (max m1 ((gAt (mfr h n) y : Nat) : Int)))), (4, .int (iI (m2 + 0))), (5, .int (iI (m3 + ((gAt (mfr h n) y : Nat) : Int)))), (6, .int (iI (m4 + ((gAt (mfr h n) y : Nat) : Int)))), (7, .int (iI ((y : Int) + 1)))]) (ks := [6, 7, 8, 4, 3, 2, 1, 0]) rfl ?_
        exact ih _ (by omega) (y + 1) _ _ _ _ h rfl rfl (by omega) ⟨by rw [a1.1, fT_s], by omega, by omega⟩ (by rw [a2, sT_s]; first | (rw [if_neg (by omega)]) | (rw [if_pos (by omega)])) (by rw [a3, sT_s]) (by rw [a4, sT_s]; first | (rw [if_neg (by omega)]) | (rw [if_pos (by omega)]))
    · skip
      refine z_iconst dX12_gaps_100 ?_
      refine ab_goto (tgt := 105) dX12_gaps_101 (by decide) ?_
      refine z_iadd dX12_gaps_105 ?_
      refine ab_istore (ls' := [(4, .int (iI (m2 + 1))), (3, .int (iI (max m1 ((gAt (mfr h n) y : Nat) : Int)))), (8, .int (iI ((gAt (mfr h n) y : Nat) : Int))), (0, .ref 200), (1, .int (iI x)), (2, .int (iI sh)), (5, .int (iI m3)), (6, .int (iI m4)), (7, .int (iI (y : Int)))]) dX12_gaps_106 (by decide) rfl ?_
      refine ab_iload (k := 6) dX12_gaps_108 rfl ?_
      refine ab_iload (k := 2) dX12_gaps_110 rfl ?_
      refine z_iadd dX12_gaps_112 ?_
      refine ab_istore (ls' := [(5, .int (iI (m3 + ((gAt (mfr h n) y : Nat) : Int)))), (4, .int (iI (m2 + 1))), (3, .int (iI (max m1 ((gAt (mfr h n) y : Nat) : Int)))), (8, .int (iI ((gAt (mfr h n) y : Nat) : Int))), (0, .ref 200), (1, .int (iI x)), (2, .int (iI sh)), (6, .int (iI m4)), (7, .int (iI (y : Int)))]) dX12_gaps_113 (by decide) rfl ?_
      refine ab_iload (k := 7) dX12_gaps_115 rfl ?_
      refine ab_iload (k := 3) dX12_gaps_117 rfl ?_
      refine ab_iload_n (k := 6) dX12_gaps_119 rfl rfl ?_
      refine z_icmp_ge (tgt := 128) dX12_gaps_120 (by decide) (by omega) (by omega) (fun c120 => ?_) (fun c120 => ?_)
      · skip
        refine z_iconst dX12_gaps_128 ?_
        refine z_iadd dX12_gaps_129 ?_
        refine ab_istore (ls' := [(6, .int (iI (m4 + 0))), (5, .int (iI (m3 + ((gAt (mfr h n) y : Nat) : Int)))), (4, .int (iI (m2 + 1))), (3, .int (iI (max m1 ((gAt (mfr h n) y : Nat) : Int)))), (8, .int (iI ((gAt (mfr h n) y : Nat) : Int))), (0, .ref 200), (1, .int (iI x)), (2, .int (iI sh)), (7, .int (iI (y : Int)))]) dX12_gaps_130 (by decide) rfl ?_
        refine z_iinc (k := 8) (v := (y : Int) + 1) (ls' := [(7, .int (iI ((y : Int) + 1))), (6, .int (iI (m4 + 0))), (5, .int (iI (m3 + ((gAt (mfr h n) y : Nat) : Int)))), (4, .int (iI (m2 + 1))), (3, .int (iI (max m1 ((gAt (mfr h n) y : Nat) : Int)))), (8, .int (iI ((gAt (mfr h n) y : Nat) : Int))), (0, .ref 200), (1, .int (iI x)), (2, .int (iI sh))]) dX12_gaps_132 rfl rfl (by decide) rfl ?_
        refine ab_goto (tgt := 69) dX12_gaps_135 (by decide) ?_
        refine ab_sub (ls' := [(0, .ref 200), (1, .int (iI x)), (2, .int (iI sh)), (3, .int (iI (max m1 ((gAt (mfr h n) y : Nat) : Int)))), (4, .int (iI (m2 + 1))), (5, .int (iI (m3 + ((gAt (mfr h n) y : Nat) : Int)))), (6, .int (iI (m4 + 0))), (7, .int (iI ((y : Int) + 1)))]) (ks := [6, 7, 8, 4, 3, 2, 1, 0]) rfl ?_
        exact ih _ (by omega) (y + 1) _ _ _ _ h rfl rfl (by omega) ⟨by rw [a1.1, fT_s], by omega, by omega⟩ (by rw [a2, sT_s]; first | (rw [if_neg (by omega)]) | (rw [if_pos (by omega)])) (by rw [a3, sT_s]) (by rw [a4, sT_s]; first | (rw [if_neg (by omega)]) | (rw [if_pos (by omega)]))
      · skip
        refine ab_iload (k := 3) dX12_gaps_123 rfl ?_
        refine ab_goto (tgt := 129) dX12_gaps_125 (by decide) ?_
        refine z_iadd dX12_gaps_129 ?_
        refine ab_istore (ls' := [(6, .int (iI (m4 + ((gAt (mfr h n) y : Nat) : Int)))), (5, .int (iI (m3 + ((gAt (mfr h n) y : Nat) : Int)))), (4, .int (iI (m2 + 1))), (3, .int (iI (max m1 ((gAt (mfr h n) y : Nat) : Int)))), (8, .int (iI ((gAt (mfr h n) y : Nat) : Int))), (0, .ref 200), (1, .int (iI x)), (2, .int (iI sh)), (7, .int (iI (y : Int)))]) dX12_gaps_130 (by decide) rfl ?_
        refine z_iinc (k := 8) (v := (y : Int) + 1) (ls' := [(7, .int (iI ((y : Int) + 1))), (6, .int (iI (m4 + ((gAt (mfr h n) y : Nat) : Int)))), (5, .int (iI (m3 + ((gAt (mfr h n) y : Nat) : Int)))), (4, .int (iI (m2 + 1))), (3, .int (iI (max m1 ((gAt (mfr h n) y : Nat) : Int)))), (8, .int (iI ((gAt (mfr h n) y : Nat) : Int))), (0, .ref 200), (1, .int (iI x)), (2, .int (iI sh))]) dX12_gaps_132 rfl rfl (by decide) rfl ?_
        refine ab_goto (tgt := 69) dX12_gaps_135 (by decide) ?_
        refine ab_sub (ls' := [(0, .ref 200), (1, .int (iI x)), (2, .int (iI sh)), (3, .int (iI (max m1 ((gAt (mfr h n) y : Nat) : Int)))), (4, .int (iI (m2 + 1))), (5, .int (iI (m3 + ((gAt (mfr h n) y : Nat) : Int)))), (6, .int (iI (m4 + ((gAt (mfr h n) y : Nat) : Int)))), (7, .int (iI ((y : Int) + 1)))]) (ks := [6, 7, 8, 4, 3, 2, 1, 0]) rfl ?_
        exact ih _ (by omega) (y + 1) _ _ _ _ h rfl rfl (by omega) ⟨by rw [a1.1, fT_s], by omega, by omega⟩ (by rw [a2, sT_s]; first | (rw [if_neg (by omega)]) | (rw [if_pos (by omega)])) (by rw [a3, sT_s]) (by rw [a4, sT_s]; first | (rw [if_neg (by omega)]) | (rw [if_pos (by omega)]))
theorem c_mgaps {d : Nat} {h : ab_H} {Q : ab_Q} {h9 : ab_H} {n k : Nat} {x sh : Int} (e9 : zp h 200 0 0 = h9) (hn : zv h9 200 32 = n) (hn2 : n ≤ 20) (hx : inR x) (hk : zv h9 200 24 = k) (hk2 : k ≤ 4) (hl : ∀ i, i < k → 1 ≤ zv h9 207 (2 * i) ∧ zv h9 207 (2 * i) ≤ 9) (esh : sh = nT (fun i => zv h9 207 (2 * i)) 20 k) (kn : ¬ (¬ k = 0 ∧ 0 ≤ x ∧ x ≤ 3) → Q (some (.int (iI (-1)))) h9) (k0 : x = 0 → Q (some (.int (iI (fT (fun (x : Int) k => max x (k : Int)) 0 (gAt (mfr h9 n)) n)))) h9) (k1 : x = 1 → Q (some (.int (iI (sT (fun y => if gAt (mfr h9 n) y = 0 then (0 : Int) else 1) n)))) h9) (k2 : x = 2 → Q (some (.int (iI (sT (fun y => ((gAt (mfr h9 n) y : Nat) : Int)) n)))) h9) (k3 : x = 3 → Q (some (.int (iI (sT (fun y => if ((gAt (mfr h9 n) y : Nat) : Int) < sh then ((gAt (mfr h9 n) y : Nat) : Int) else 0) n)))) h9) : ab_X (d + 4) mX12_gaps 0 (lv_args 0 [.ref 200, .int (iI x)]) [] h Q := by
  show ab_X (d + 4) mX12_gaps 0 [(0, .ref 200), (1, .int (iI x))] [] h Q
  refine ab_aload_n (k := 0) dX12_gaps_0 rfl rfl ?_
  refine z_iconst dX12_gaps_1 ?_
  refine z_putI dX12_gaps_2 fX12_111 rfl rfl ?_
  rw [e9]
  refine ab_aload_n (k := 0) dX12_gaps_5 rfl rfl ?_
  refine z_getI dX12_gaps_6 fX12_284 rfl (Or.inl rfl) ?_
  refine z_is (y := (k : Int)) hk ?_
  refine z_if_eq (tgt := 24) dX12_gaps_9 (by decide) (by omega) (fun c9 => ?_) (fun c9 => ?_)
  · skip
    refine z_iconst dX12_gaps_24 ?_
    refine z_iret dX12_gaps_25 rfl ?_
    exact kn (by omega)
  · skip
    refine ab_iload_n (k := 1) dX12_gaps_12 rfl rfl ?_
    refine z_i2l dX12_gaps_13 (by omega) ?_
    refine z_lconst (v := 0) dX12_gaps_14 (by decide) ?_
    refine z_ldc2 (v := 3) dX12_gaps_15 qX12_450 (by decide) ?_
    refine ab_callS (As := [.long (lL x), .long (lL 0), .long (lL 3)]) (rest := []) dX12_gaps_18 lX12_232 (Nat.le_of_ble_eq_true rfl) (Nat.le_of_ble_eq_true rfl) rfl ?_
    refine c_isIn (by omega) (by omega) (by omega) (fun g18 => ?_) (fun g18 => ?_)
    · skip
      try simp only [Int.toNat_natCast] at g18
      have gL := g18
      show ab_X (d + 4) mX12_gaps 21 [(0, .ref 200), (1, .int (iI x))] [.int (iI 1)] h9 _
      refine z_if_ne (tgt := 26) dX12_gaps_21 (by decide) (by decide) (fun _ => ?_) (fun c21 => absurd c21 (by decide))
      refine z_bipush dX12_gaps_26 (by decide) ?_
      refine ab_istore_n (ls' := [(2, .int (iI 20)), (0, .ref 200), (1, .int (iI x))]) dX12_gaps_28 rfl (by decide) rfl ?_
      refine z_iconst dX12_gaps_29 ?_
      refine ab_istore_n (ls' := [(3, .int (iI 0)), (2, .int (iI 20)), (0, .ref 200), (1, .int (iI x))]) dX12_gaps_30 rfl (by decide) rfl ?_
      refine ab_sub (ls' := [(0, .ref 200), (1, .int (iI x)), (2, .int (iI 20)), (3, .int (iI 0))]) (ks := [2, 3, 1, 0]) rfl ?_
      have hab := nT_b (f := fun i => zv h9 207 (2 * i)) (a := 20) (b := 20) (n := k) (by decide) (fun j hj => by have := hl j (by omega); omega)
      rw [← esh] at hab
      refine lp_mgaps1 hk hk2 hl ?_ _ 0 20 h9 rfl rfl (by omega) rfl
      rw [← esh]
      refine z_iconst dX12_gaps_55 ?_
      refine ab_istore_n (ls' := [(3, .int (iI 0)), (0, .ref 200), (1, .int (iI x)), (2, .int (iI sh))]) dX12_gaps_56 rfl (by decide) rfl ?_
      refine z_iconst dX12_gaps_57 ?_
      refine ab_istore (ls' := [(4, .int (iI 0)), (3, .int (iI 0)), (0, .ref 200), (1, .int (iI x)), (2, .int (iI sh))]) dX12_gaps_58 (by decide) rfl ?_
      refine z_iconst dX12_gaps_60 ?_
      refine ab_istore (ls' := [(5, .int (iI 0)), (4, .int (iI 0)), (3, .int (iI 0)), (0, .ref 200), (1, .int (iI x)), (2, .int (iI sh))]) dX12_gaps_61 (by decide) rfl ?_
      refine z_iconst dX12_gaps_63 ?_
      refine ab_istore (ls' := [(6, .int (iI 0)), (5, .int (iI 0)), (4, .int (iI 0)), (3, .int (iI 0)), (0, .ref 200), (1, .int (iI x)), (2, .int (iI sh))]) dX12_gaps_64 (by decide) rfl ?_
      refine z_iconst dX12_gaps_66 ?_
      refine ab_istore (ls' := [(7, .int (iI 0)), (6, .int (iI 0)), (5, .int (iI 0)), (4, .int (iI 0)), (3, .int (iI 0)), (0, .ref 200), (1, .int (iI x)), (2, .int (iI sh))]) dX12_gaps_67 (by decide) rfl ?_
      refine ab_sub (ls' := [(0, .ref 200), (1, .int (iI x)), (2, .int (iI sh)), (3, .int (iI 0)), (4, .int (iI 0)), (5, .int (iI 0)), (6, .int (iI 0)), (7, .int (iI 0))]) (ks := [5, 6, 7, 4, 3, 2, 1, 0]) rfl ?_
      exact lp_mgaps2 hn hn2 (by omega) ⟨by omega, by omega⟩ k0 k1 k2 k3 _ 0 0 0 0 0 h9 rfl rfl (by omega) ⟨rfl, by decide, by decide⟩ rfl rfl rfl
    · skip
      try simp only [Int.toNat_natCast] at g18
      have gL := g18
      show ab_X (d + 4) mX12_gaps 21 [(0, .ref 200), (1, .int (iI x))] [.int (iI 0)] h9 _
      refine z_if_ne (tgt := 26) dX12_gaps_21 (by decide) (by decide) (fun c21 => absurd c21 (by decide)) (fun _ => ?_)
      refine z_iconst dX12_gaps_24 ?_
      refine z_iret dX12_gaps_25 rfl ?_
      exact kn (by omega)
