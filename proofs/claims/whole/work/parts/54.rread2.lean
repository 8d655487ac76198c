/-! THE CLASS READS A RULE: sums at every depth, conditions, clauses -/
theorem d_readTerm {z d D : Nat} (hz : z ≤ 160) : rdD z mX8_readTerm [.ref 10, .int (iI (D : Int))] (d + 6) := fun h0 h Q w S K => c_readTermD (fun _ _ _ _ S K => c_readAtomD hz S K) hz S K
theorem d_readSum {z d D : Nat} (hz : z ≤ 160) : rdD z mX8_readSum [.ref 10, .int (iI (D : Int))] (d + 7) := fun h0 h Q w S K => c_readSumD (d_readTerm hz) hz S K
/-- one level more -/
theorem l_readSum1 {T : Nat → Int} {z d D : Nat} {sub : Option (Nat → pR)} (ht : tx T z) (hD : D ≤ 6) (hs1 : D < 6 → ∃ g, sub = some g ∧ rdC T z mX8_readSum [.ref 10, .int (iI ((D : Int) + 1))] g (d + 7)) (hs0 : D = 6 → sub = none) : rdC T z mX8_readSum [.ref 10, .int (iI (D : Int))] (sumF T z (atomF T z sub)) (d + 10) := by
  have hA : rdC T z mX8_readAtom [.ref 10, .int (iI (D : Int))] (atomF T z sub) (d + 8) := fun h0 h Q p c S K1 K0 => c_readAtom0 (d := d + 3) ht hD hs1 hs0 (d_readSum (d := d) (D := D + 1) ht.1) S K1 K0
  have hAD : rdD z mX8_readAtom [.ref 10, .int (iI (D : Int))] (d + 8) := fun h0 h Q w S K => c_readAtomD (d := d + 3) ht.1 S K
  have hT : rdC T z mX8_readTerm [.ref 10, .int (iI (D : Int))] (termF T z (atomF T z sub)) (d + 9) := fun h0 h Q p c S K1 K0 => c_readTerm0 (d := d + 3) ht hD hA hAD hA hAD S K1 K0
  exact fun h0 h Q p c S K1 K0 => c_readSum0 (d := d + 3) ht hD hT (d_readTerm ht.1) hT (d_readTerm ht.1) S K1 K0
theorem l_readSum {T : Nat → Int} {z : Nat} (ht : tx T z) : ∀ (r e D : Nat), D + r = 6 → rdC T z mX8_readSum [.ref 10, .int (iI (D : Int))] (pSm T z r) (e + 3 * r + 10)
  | 0, e, D, h => l_readSum1 (d := e + 3 * 0) ht (by omega) (fun q => absurd q (by omega)) (fun _ => rfl)
  | r + 1, e, D, h => by
    have ih := l_readSum ht r e (D + 1) (by omega)
    have hb : e + 3 * (r + 1) + 10 = (e + 3 * r + 3) + 10 := by omega
    rw [hb]
    exact l_readSum1 (d := e + 3 * r + 3) ht (by omega) (fun _ => ⟨_, rfl, ih⟩) (fun q => absurd q (by omega))
theorem c_readUnit0 {d : Nat} {h : ab_H} {Q : ab_Q} {T : Nat → Int} {z : Nat} {h0 : ab_H} {p D : Nat} {c : List (Int × Int)} {sub : Option ((Bool → Nat → pR) × (Bool → Nat → pR))} {S : Nat → pR} (ht : tx T z) (hD : D ≤ 6) (hS : rdC T z mX8_readSum [.ref 10, .int (iI (D : Int))] S (d + 10)) (hu1 : D < 6 → ∃ U C, sub = some (U, C) ∧ rdC T z mX8_readUnit [.ref 10, .int (iI ((D : Int) + 1)), .int (iI 0)] (U false) (d + 10) ∧ rdC T z mX8_readCondition [.ref 10, .int (iI ((D : Int) + 1)), .int (iI 0)] (C false) (d + 10)) (hu0 : D = 6 → sub = none) (Sh : CL T z h0 h p c) (K1 : ∀ h' p' c', unitF T z sub S false p = (-1, p', c') → p + c'.length ≤ p' → CL T z h0 h' p' (c ++ c') → Q none h') (K0 : ∀ h' w, (unitF T z sub S false p).1 = w → ¬ w = -1 → CD z h0 h' w → Q none h') : ab_X (d + 11) mX8_readUnit 0 (lv_args 0 [.ref 10, .int (iI (D : Int)), .int (iI 0)]) [] h Q := by
  show ab_X (d + 11) mX8_readUnit 0 [(0, .ref 10), (1, .int (iI (D : Int))), (2, .int (iI 0))] [] h Q
  have hz := ht.1
  have hpz := Sh.2.1.2.2.2.2
  have hcl := Sh.2.2.1
  refine ab_aload_n (k := 0) dX8_readUnit_0 rfl rfl ?_
  refine z_getP (b := 1) dX8_readUnit_1 fX8_18 rfl rfl rfl ?_
  refine ab_callV (As := []) (rest := []) dX8_readUnit_4 lX8_34 rfl (Nat.le_of_ble_eq_true rfl) (Nat.le_of_ble_eq_true rfl) rfl ?_
  refine c_tlook ht Sh.2.1 (fun l4 sl4 tl4 => ?_)
  have k4 := lk_ge T z p
  have Sl4 := CL_t Sh sl4 tl4 (by omega)
  have y4 := sg_b ht p
  show ab_X (d + 11) mX8_readUnit 7 [(0, .ref 10), (1, .int (iI (D : Int))), (2, .int (iI 0))] [.int (iI (sg T z p))] l4 _
  refine ab_istore_n (ls' := [(3, .int (iI (sg T z p))), (0, .ref 10), (1, .int (iI (D : Int))), (2, .int (iI 0))]) dX8_readUnit_7 rfl (by decide) rfl ?_
  refine ab_iload_n (k := 3) dX8_readUnit_8 rfl rfl ?_
  refine z_if_ne (tgt := 45) dX8_readUnit_9 (by decide) (by decide) (fun c9 => absurd c9 (by decide)) (fun _ => ?_)
  refine ab_iload_n (k := 0) dX8_readUnit_12 rfl rfl ?_
  refine z_bipush dX8_readUnit_13 (by decide) ?_
  refine z_icmp_ne (tgt := 45) dX8_readUnit_15 (by decide) (by omega) (by decide) (fun c15 => ?_) (fun c15 => ?_)
  · skip
    refine ab_iload_n (k := 3) dX8_readUnit_45 rfl rfl ?_
    refine z_if_ne (tgt := 81) dX8_readUnit_46 (by decide) (by decide) (fun c46 => absurd c46 (by decide)) (fun _ => ?_)
    refine ab_iload_n (k := 0) dX8_readUnit_49 rfl rfl ?_
    refine z_bipush dX8_readUnit_50 (by decide) ?_
    refine z_icmp_ne (tgt := 81) dX8_readUnit_52 (by decide) (by omega) (by decide) (fun c52 => ?_) (fun c52 => ?_)
    · skip
      refine ab_iload_n (k := 3) dX8_readUnit_81 rfl rfl ?_
      refine z_if_ne (tgt := 90) dX8_readUnit_82 (by decide) (by decide) (fun c82 => absurd c82 (by decide)) (fun _ => ?_)
      refine ab_aload_n (k := 1) dX8_readUnit_85 rfl rfl ?_
      refine ab_iload_n (k := 2) dX8_readUnit_86 rfl rfl ?_
      refine ab_callV (As := [.int (iI (D : Int))]) (rest := []) dX8_readUnit_87 lX8_51 rfl (Nat.le_of_ble_eq_true rfl) (Nat.le_of_ble_eq_true rfl) rfl ?_
      refine hS h0 _ _ _ _ Sl4 (fun l87 p87 c87 j87 b87 Sl87 => ?_) (fun e87 w87 j87 n87 Se87 => ?_)
      · skip
        have r87 := Sl87.2.1.2.2.2.2
        show ab_X (d + 11) mX8_readUnit 90 [(3, .int (iI (sg T z p))), (0, .ref 10), (1, .int (iI (D : Int))), (2, .int (iI 0))] [] l87 _
        refine ab_aload_n (k := 1) dX8_readUnit_90 rfl rfl ?_
        refine z_getP (b := 1) dX8_readUnit_91 fX8_18 rfl rfl rfl ?_
        refine ab_callV (As := []) (rest := []) dX8_readUnit_94 lX8_34 rfl (Nat.le_of_ble_eq_true rfl) (Nat.le_of_ble_eq_true rfl) rfl ?_
        refine c_tlook ht Sl87.2.1 (fun l94 sl94 tl94 => ?_)
        have k94 := lk_ge T z p87
        have Sl94 := CL_t Sl87 sl94 tl94 (by omega)
        have y94 := sg_b ht p87
        show ab_X (d + 11) mX8_readUnit 97 [(3, .int (iI (sg T z p))), (0, .ref 10), (1, .int (iI (D : Int))), (2, .int (iI 0))] [.int (iI (sg T z p87))] l94 _
        refine ab_callS (As := [.int (iI (sg T z p87))]) (rest := []) dX8_readUnit_97 lX8_55 (Nat.le_of_ble_eq_true rfl) (Nat.le_of_ble_eq_true rfl) rfl ?_
        refine c_comparison (by omega) ?_
        have u97 := cmpo_b (sg T z p87)
        show ab_X (d + 11) mX8_readUnit 100 [(3, .int (iI (sg T z p))), (0, .ref 10), (1, .int (iI (D : Int))), (2, .int (iI 0))] [.int (iI (cmpo (sg T z p87)))] l94 _
        refine ab_istore (ls' := [(4, .int (iI (cmpo (sg T z p87)))), (3, .int (iI (sg T z p))), (0, .ref 10), (1, .int (iI (D : Int))), (2, .int (iI 0))]) dX8_readUnit_100 (by decide) rfl ?_
        refine ab_iload (k := 0) dX8_readUnit_102 rfl ?_
        refine z_iconst dX8_readUnit_104 ?_
        refine z_icmp_ne (tgt := 116) dX8_readUnit_105 (by decide) (by omega) (by decide) (fun c105 => ?_) (fun c105 => ?_)
        · skip
          have z116 := sg_in (T := T) (z := z) (p := p87) (cmpo_in (by omega))
          refine ab_aload_n (k := 2) dX8_readUnit_116 rfl rfl ?_
          refine z_getP (b := 1) dX8_readUnit_117 fX8_18 rfl rfl rfl ?_
          refine ab_callV (As := []) (rest := []) dX8_readUnit_120 lX8_38 rfl (Nat.le_of_ble_eq_true rfl) (Nat.le_of_ble_eq_true rfl) rfl ?_
          refine c_tstep ht Sl94.2.1 (by omega) (fun l120 sl120 tl120 => ?_)
          have Sl120 := CL_t Sl94 sl120 tl120 (by omega)
          show ab_X (d + 11) mX8_readUnit 123 [(4, .int (iI (cmpo (sg T z p87)))), (3, .int (iI (sg T z p))), (0, .ref 10), (1, .int (iI (D : Int))), (2, .int (iI 0))] [] l120 _
          refine ab_aload_n (k := 2) dX8_readUnit_123 rfl rfl ?_
          refine ab_iload_n (k := 3) dX8_readUnit_124 rfl rfl ?_
          refine ab_callV (As := [.int (iI (D : Int))]) (rest := []) dX8_readUnit_125 lX8_51 rfl (Nat.le_of_ble_eq_true rfl) (Nat.le_of_ble_eq_true rfl) rfl ?_
          refine hS h0 _ _ _ _ Sl120 (fun l125 p125 c125 j125 b125 Sl125 => ?_) (fun e125 w125 j125 n125 Se125 => ?_)
          · skip
            have r125 := Sl125.2.1.2.2.2.2
            show ab_X (d + 11) mX8_readUnit 128 [(4, .int (iI (cmpo (sg T z p87)))), (3, .int (iI (sg T z p))), (0, .ref 10), (1, .int (iI (D : Int))), (2, .int (iI 0))] [] l125 _
            refine ab_aload_n (k := 2) dX8_readUnit_128 rfl rfl ?_
            refine z_getP (b := 11) dX8_readUnit_129 fX8_12 rfl rfl rfl ?_
            refine ab_iload (k := 0) dX8_readUnit_132 rfl ?_
            refine z_iconst dX8_readUnit_134 ?_
            refine ab_callV (As := [.int (iI (cmpo (sg T z p87))), .int (iI 0)]) (rest := []) dX8_readUnit_135 lX8_59 rfl (Nat.le_of_ble_eq_true rfl) (Nat.le_of_ble_eq_true rfl) rfl ?_
            have q135 : (((c ++ c87) ++ c125)).length + 1 ≤ p125 := by (try simp only [List.length_append, List.length_cons, List.length_nil]); omega
            have r135 := Sl125.2.1.2.2.2.2
            refine c_add11 Sl125.2.2.2 (by omega) (by omega) (by decide) (fun l135 sl135 Cl135 => ?_)
            have Sl135 := CL_add Sl125 q135 sl135 Cl135
            show ab_X (d + 11) mX8_readUnit 138 [(4, .int (iI (cmpo (sg T z p87)))), (3, .int (iI (sg T z p))), (0, .ref 10), (1, .int (iI (D : Int))), (2, .int (iI 0))] [] l135 _
            refine z_vret dX8_readUnit_138 rfl ?_
            simp only [List.append_assoc] at Sl135
            exact K1 _ _ _ ((unit_7 (by omega) (by omega) j87).trans (cmp_2 (by omega) j125)) (by simp only [List.length_append, List.length_cons, List.length_nil]; omega) Sl135
          · skip
            show ab_X (d + 11) mX8_readUnit 128 [(4, .int (iI (cmpo (sg T z p87)))), (3, .int (iI (sg T z p))), (0, .ref 10), (1, .int (iI (D : Int))), (2, .int (iI 0))] [] e125 _
            refine ab_aload_n (k := 2) dX8_readUnit_128 rfl rfl ?_
            refine z_getP (b := 11) dX8_readUnit_129 fX8_12 rfl rfl rfl ?_
            refine ab_iload (k := 0) dX8_readUnit_132 rfl ?_
            refine z_iconst dX8_readUnit_134 ?_
            refine ab_callV (As := [.int (iI (cmpo (sg T z p87))), .int (iI 0)]) (rest := []) dX8_readUnit_135 lX8_59 rfl (Nat.le_of_ble_eq_true rfl) (Nat.le_of_ble_eq_true rfl) rfl ?_
            refine c_add11d Se125.2.2 (fun e135 se135 Ce135 => ?_)
            have Se135 := CD_add Se125 se135 Ce135
            show ab_X (d + 11) mX8_readUnit 138 [(4, .int (iI (cmpo (sg T z p87)))), (3, .int (iI (sg T z p))), (0, .ref 10), (1, .int (iI (D : Int))), (2, .int (iI 0))] [] e135 _
            refine z_vret dX8_readUnit_138 rfl ?_
            exact K0 _ _ ((congrArg Prod.fst (unit_7 (by omega) (by omega) j87)).trans (cmp_3 (by omega) j125 n125)) n125 Se135
        · skip
          refine ab_aload_n (k := 2) dX8_readUnit_108 rfl rfl ?_
          refine z_getP (b := 1) dX8_readUnit_109 fX8_18 rfl rfl rfl ?_
          refine ab_callV (As := []) (rest := []) dX8_readUnit_112 lX8_41 rfl (Nat.le_of_ble_eq_true rfl) (Nat.le_of_ble_eq_true rfl) rfl ?_
          refine c_trefuse ht Sl94.2.1 (lk_lk _ _ _) (fun e112 se112 te112 => ?_)
          have Se112 := CL_d Sl94 hz se112 te112
          show ab_X (d + 11) mX8_readUnit 115 [(4, .int (iI (cmpo (sg T z p87)))), (3, .int (iI (sg T z p))), (0, .ref 10), (1, .int (iI (D : Int))), (2, .int (iI 0))] [] e112 _
          refine z_vret dX8_readUnit_115 rfl ?_
          first
          | (rw [lk_lk] at Se112; exact K0 _ _ ((congrArg Prod.fst (unit_7 (by omega) (by omega) j87)).trans (cmp_1 (by omega))) (by omega) Se112)
          | exact K0 _ _ (unit_8 (by omega) (by omega) j87 n87) n87 Se112
      · skip
        show ab_X (d + 11) mX8_readUnit 90 [(3, .int (iI (sg T z p))), (0, .ref 10), (1, .int (iI (D : Int))), (2, .int (iI 0))] [] e87 _
        refine ab_aload_n (k := 1) dX8_readUnit_90 rfl rfl ?_
        refine z_getP (b := 1) dX8_readUnit_91 fX8_18 rfl rfl rfl ?_
        refine ab_callV (As := []) (rest := []) dX8_readUnit_94 lX8_34 rfl (Nat.le_of_ble_eq_true rfl) (Nat.le_of_ble_eq_true rfl) rfl ?_
        refine c_dlook hz Se87.2.1 (fun e94 se94 te94 => ?_)
        have Se94 := CD_d Se87 se94 te94
        show ab_X (d + 11) mX8_readUnit 97 [(3, .int (iI (sg T z p))), (0, .ref 10), (1, .int (iI (D : Int))), (2, .int (iI 0))] [.int (iI (-1))] e94 _
        refine ab_callS (As := [.int (iI (-1))]) (rest := []) dX8_readUnit_97 lX8_55 (Nat.le_of_ble_eq_true rfl) (Nat.le_of_ble_eq_true rfl) rfl ?_
        refine c_comparison (by decide) ?_
        show ab_X (d + 11) mX8_readUnit 100 [(3, .int (iI (sg T z p))), (0, .ref 10), (1, .int (iI (D : Int))), (2, .int (iI 0))] [.int (iI (-1))] e94 _
        refine ab_istore (ls' := [(4, .int (iI (-1))), (3, .int (iI (sg T z p))), (0, .ref 10), (1, .int (iI (D : Int))), (2, .int (iI 0))]) dX8_readUnit_100 (by decide) rfl ?_
        refine ab_iload (k := 0) dX8_readUnit_102 rfl ?_
        refine z_iconst dX8_readUnit_104 ?_
        refine z_icmp_ne (tgt := 116) dX8_readUnit_105 (by decide) (by decide) (by decide) (fun c105 => absurd c105 (by decide)) (fun _ => ?_)
        refine ab_aload_n (k := 2) dX8_readUnit_108 rfl rfl ?_
        refine z_getP (b := 1) dX8_readUnit_109 fX8_18 rfl rfl rfl ?_
        refine ab_callV (As := []) (rest := []) dX8_readUnit_112 lX8_41 rfl (Nat.le_of_ble_eq_true rfl) (Nat.le_of_ble_eq_true rfl) rfl ?_
        refine c_drefuse hz Se94.2.1 (fun e112 se112 te112 => ?_)
        have Se112 := CD_d Se94 se112 te112
        show ab_X (d + 11) mX8_readUnit 115 [(4, .int (iI (-1))), (3, .int (iI (sg T z p))), (0, .ref 10), (1, .int (iI (D : Int))), (2, .int (iI 0))] [] e112 _
        refine z_vret dX8_readUnit_115 rfl ?_
        first
        | (rw [lk_lk] at Se112; exact K0 _ _ ((congrArg Prod.fst (unit_7 (by omega) (by omega) j87)).trans (cmp_1 (by omega))) (by omega) Se112)
        | exact K0 _ _ (unit_8 (by omega) (by omega) j87 n87) n87 Se112
    · skip
      refine ab_aload_n (k := 1) dX8_readUnit_55 rfl rfl ?_
      refine ab_iload_n (k := 2) dX8_readUnit_56 rfl rfl ?_
      refine ab_callV (As := [.int (iI (D : Int))]) (rest := []) dX8_readUnit_57 lX8_76 rfl (Nat.le_of_ble_eq_true rfl) (Nat.le_of_ble_eq_true rfl) rfl ?_
      have z57 := sg_in (T := T) (z := z) (p := p) (by omega)
      refine c_goDeeper ht hD Sl4 (by omega) (lk_lk _ _ _) (fun D57 l57 Sl57 => ?_) (fun D57 e57 Se57 => ?_)
      · skip
        show ab_X (d + 11) mX8_readUnit 60 [(3, .int (iI (sg T z p))), (0, .ref 10), (1, .int (iI (D : Int))), (2, .int (iI 0))] [.int (iI 1)] l57 _
        refine z_if_eq (tgt := 80) dX8_readUnit_60 (by decide) (by decide) (fun c60 => absurd c60 (by decide)) (fun _ => ?_)
        refine ab_aload_n (k := 1) dX8_readUnit_63 rfl rfl ?_
        refine ab_iload_n (k := 2) dX8_readUnit_64 rfl rfl ?_
        refine z_iconst dX8_readUnit_65 ?_
        refine z_iadd dX8_readUnit_66 ?_
        refine z_iconst dX8_readUnit_67 ?_
        refine ab_callV (As := [.int (iI ((D : Int) + 1)), .int (iI 0)]) (rest := []) dX8_readUnit_68 lX8_63 rfl (Nat.le_of_ble_eq_true rfl) (Nat.le_of_ble_eq_true rfl) rfl ?_
        obtain ⟨U, C, hg, hU, hC⟩ := hu1 (by omega)
        refine hC h0 _ _ _ _ Sl57 (fun l68 p68 c68 j68 b68 Sl68 => ?_) (fun e68 w68 j68 n68 Se68 => ?_)
        · skip
          have r68 := Sl68.2.1.2.2.2.2
          show ab_X (d + 11) mX8_readUnit 71 [(3, .int (iI (sg T z p))), (0, .ref 10), (1, .int (iI (D : Int))), (2, .int (iI 0))] [] l68 _
          refine ab_aload_n (k := 1) dX8_readUnit_71 rfl rfl ?_
          refine z_getP (b := 1) dX8_readUnit_72 fX8_18 rfl rfl rfl ?_
          refine z_bipush dX8_readUnit_75 (by decide) ?_
          refine ab_callV (As := [.int (iI 41)]) (rest := []) dX8_readUnit_77 lX8_47 rfl (Nat.le_of_ble_eq_true rfl) (Nat.le_of_ble_eq_true rfl) rfl ?_
          have k77 := lk_ge T z p68
          refine c_texpect ht (by decide) Sl68.2.1 (fun x77 l77 sl77 tl77 => ?_) (fun x77 e77 se77 te77 => ?_)
          · skip
            have Sl77 := CL_t Sl68 sl77 tl77 (by omega)
            have b77 := Sl77.2.1.2.2.2.2
            show ab_X (d + 11) mX8_readUnit 80 [(3, .int (iI (sg T z p))), (0, .ref 10), (1, .int (iI (D : Int))), (2, .int (iI 0))] [] l77 _
            refine z_vret dX8_readUnit_80 rfl ?_
            exact K1 _ _ _ (unit_4 (by omega) hg j68 x77) (by omega) Sl77
          · skip
            have Se77 := CL_d Sl68 hz se77 te77
            show ab_X (d + 11) mX8_readUnit 80 [(3, .int (iI (sg T z p))), (0, .ref 10), (1, .int (iI (D : Int))), (2, .int (iI 0))] [] e77 _
            refine z_vret dX8_readUnit_80 rfl ?_
            first | exact K0 _ _ (unit_5 (by omega) hg j68 x77) (by omega) Se77 | exact K0 _ _ (unit_6 (by omega) hg j68 n68) n68 Se77
        · skip
          show ab_X (d + 11) mX8_readUnit 71 [(3, .int (iI (sg T z p))), (0, .ref 10), (1, .int (iI (D : Int))), (2, .int (iI 0))] [] e68 _
          refine ab_aload_n (k := 1) dX8_readUnit_71 rfl rfl ?_
          refine z_getP (b := 1) dX8_readUnit_72 fX8_18 rfl rfl rfl ?_
          refine z_bipush dX8_readUnit_75 (by decide) ?_
          refine ab_callV (As := [.int (iI 41)]) (rest := []) dX8_readUnit_77 lX8_47 rfl (Nat.le_of_ble_eq_true rfl) (Nat.le_of_ble_eq_true rfl) rfl ?_
          refine c_dexpect hz (by decide) Se68.2.1 (fun e77 se77 te77 => ?_)
          have Se77 := CD_d Se68 se77 te77
          show ab_X (d + 11) mX8_readUnit 80 [(3, .int (iI (sg T z p))), (0, .ref 10), (1, .int (iI (D : Int))), (2, .int (iI 0))] [] e77 _
          refine z_vret dX8_readUnit_80 rfl ?_
          first | exact K0 _ _ (unit_5 (by omega) hg j68 x77) (by omega) Se77 | exact K0 _ _ (unit_6 (by omega) hg j68 n68) n68 Se77
      · skip
        rw [lk_lk] at Se57
        show ab_X (d + 11) mX8_readUnit 60 [(3, .int (iI (sg T z p))), (0, .ref 10), (1, .int (iI (D : Int))), (2, .int (iI 0))] [.int (iI 0)] e57 _
        refine z_if_eq (tgt := 80) dX8_readUnit_60 (by decide) (by decide) (fun _ => ?_) (fun c60 => absurd c60 (by decide))
        refine z_vret dX8_readUnit_80 rfl ?_
        exact K0 _ _ (unit_3 (by omega) (hu0 D57)) (by omega) Se57
  · skip
    refine ab_aload_n (k := 1) dX8_readUnit_18 rfl rfl ?_
    refine ab_iload_n (k := 2) dX8_readUnit_19 rfl rfl ?_
    refine ab_callV (As := [.int (iI (D : Int))]) (rest := []) dX8_readUnit_20 lX8_76 rfl (Nat.le_of_ble_eq_true rfl) (Nat.le_of_ble_eq_true rfl) rfl ?_
    have z20 := sg_in (T := T) (z := z) (p := p) (by omega)
    refine c_goDeeper ht hD Sl4 (by omega) (lk_lk _ _ _) (fun D20 l20 Sl20 => ?_) (fun D20 e20 Se20 => ?_)
    · skip
      show ab_X (d + 11) mX8_readUnit 23 [(3, .int (iI (sg T z p))), (0, .ref 10), (1, .int (iI (D : Int))), (2, .int (iI 0))] [.int (iI 1)] l20 _
      refine z_if_eq (tgt := 44) dX8_readUnit_23 (by decide) (by decide) (fun c23 => absurd c23 (by decide)) (fun _ => ?_)
      refine ab_aload_n (k := 1) dX8_readUnit_26 rfl rfl ?_
      refine ab_iload_n (k := 2) dX8_readUnit_27 rfl rfl ?_
      refine z_iconst dX8_readUnit_28 ?_
      refine z_iadd dX8_readUnit_29 ?_
      refine z_iconst dX8_readUnit_30 ?_
      refine ab_callV (As := [.int (iI ((D : Int) + 1)), .int (iI 0)]) (rest := []) dX8_readUnit_31 lX8_73 rfl (Nat.le_of_ble_eq_true rfl) (Nat.le_of_ble_eq_true rfl) rfl ?_
      obtain ⟨U, C, hg, hU, hC⟩ := hu1 (by omega)
      refine hU h0 _ _ _ _ Sl20 (fun l31 p31 c31 j31 b31 Sl31 => ?_) (fun e31 w31 j31 n31 Se31 => ?_)
      · skip
        have r31 := Sl31.2.1.2.2.2.2
        show ab_X (d + 11) mX8_readUnit 34 [(3, .int (iI (sg T z p))), (0, .ref 10), (1, .int (iI (D : Int))), (2, .int (iI 0))] [] l31 _
        refine ab_aload_n (k := 1) dX8_readUnit_34 rfl rfl ?_
        refine z_getP (b := 11) dX8_readUnit_35 fX8_12 rfl rfl rfl ?_
        refine z_bipush dX8_readUnit_38 (by decide) ?_
        refine z_iconst dX8_readUnit_40 ?_
        refine ab_callV (As := [.int (iI 9), .int (iI 0)]) (rest := []) dX8_readUnit_41 lX8_59 rfl (Nat.le_of_ble_eq_true rfl) (Nat.le_of_ble_eq_true rfl) rfl ?_
        have q41 : ((c ++ c31)).length + 1 ≤ p31 := by (try simp only [List.length_append, List.length_cons, List.length_nil]); omega
        have r41 := Sl31.2.1.2.2.2.2
        refine c_add11 Sl31.2.2.2 (by omega) (by decide) (by decide) (fun l41 sl41 Cl41 => ?_)
        have Sl41 := CL_add Sl31 q41 sl41 Cl41
        show ab_X (d + 11) mX8_readUnit 44 [(3, .int (iI (sg T z p))), (0, .ref 10), (1, .int (iI (D : Int))), (2, .int (iI 0))] [] l41 _
        refine z_vret dX8_readUnit_44 rfl ?_
        simp only [List.append_assoc] at Sl41
        exact K1 _ _ _ (unit_1 (by omega) hg j31) (by simp only [List.length_append, List.length_cons, List.length_nil]; omega) Sl41
      · skip
        show ab_X (d + 11) mX8_readUnit 34 [(3, .int (iI (sg T z p))), (0, .ref 10), (1, .int (iI (D : Int))), (2, .int (iI 0))] [] e31 _
        refine ab_aload_n (k := 1) dX8_readUnit_34 rfl rfl ?_
        refine z_getP (b := 11) dX8_readUnit_35 fX8_12 rfl rfl rfl ?_
        refine z_bipush dX8_readUnit_38 (by decide) ?_
        refine z_iconst dX8_readUnit_40 ?_
        refine ab_callV (As := [.int (iI 9), .int (iI 0)]) (rest := []) dX8_readUnit_41 lX8_59 rfl (Nat.le_of_ble_eq_true rfl) (Nat.le_of_ble_eq_true rfl) rfl ?_
        refine c_add11d Se31.2.2 (fun e41 se41 Ce41 => ?_)
        have Se41 := CD_add Se31 se41 Ce41
        show ab_X (d + 11) mX8_readUnit 44 [(3, .int (iI (sg T z p))), (0, .ref 10), (1, .int (iI (D : Int))), (2, .int (iI 0))] [] e41 _
        refine z_vret dX8_readUnit_44 rfl ?_
        exact K0 _ _ (unit_2 (by omega) hg j31 n31) n31 Se41
    · skip
      rw [lk_lk] at Se20
      show ab_X (d + 11) mX8_readUnit 23 [(3, .int (iI (sg T z p))), (0, .ref 10), (1, .int (iI (D : Int))), (2, .int (iI 0))] [.int (iI 0)] e20 _
      refine z_if_eq (tgt := 44) dX8_readUnit_23 (by decide) (by decide) (fun _ => ?_) (fun c23 => absurd c23 (by decide))
      refine z_vret dX8_readUnit_44 rfl ?_
      exact K0 _ _ (unit_3 (by omega) (hu0 D20)) (by omega) Se20
theorem c_readUnit1 {d : Nat} {h : ab_H} {Q : ab_Q} {T : Nat → Int} {z : Nat} {h0 : ab_H} {p D : Nat} {c : List (Int × Int)} {sub : Option ((Bool → Nat → pR) × (Bool → Nat → pR))} {S : Nat → pR} (ht : tx T z) (hD : D ≤ 6) (hS : rdC T z mX8_readSum [.ref 10, .int (iI (D : Int))] S (d + 10)) (Sh : CL T z h0 h p c) (K1 : ∀ h' p' c', unitF T z sub S true p = (-1, p', c') → p + c'.length ≤ p' → CL T z h0 h' p' (c ++ c') → Q none h') (K0 : ∀ h' w, (unitF T z sub S true p).1 = w → ¬ w = -1 → CD z h0 h' w → Q none h') : ab_X (d + 11) mX8_readUnit 0 (lv_args 0 [.ref 10, .int (iI (D : Int)), .int (iI 1)]) [] h Q := by
  show ab_X (d + 11) mX8_readUnit 0 [(0, .ref 10), (1, .int (iI (D : Int))), (2, .int (iI 1))] [] h Q
  have hz := ht.1
  have hpz := Sh.2.1.2.2.2.2
  have hcl := Sh.2.2.1
  refine ab_aload_n (k := 0) dX8_readUnit_0 rfl rfl ?_
  refine z_getP (b := 1) dX8_readUnit_1 fX8_18 rfl rfl rfl ?_
  refine ab_callV (As := []) (rest := []) dX8_readUnit_4 lX8_34 rfl (Nat.le_of_ble_eq_true rfl) (Nat.le_of_ble_eq_true rfl) rfl ?_
  refine c_tlook ht Sh.2.1 (fun l4 sl4 tl4 => ?_)
  have k4 := lk_ge T z p
  have Sl4 := CL_t Sh sl4 tl4 (by omega)
  have y4 := sg_b ht p
  show ab_X (d + 11) mX8_readUnit 7 [(0, .ref 10), (1, .int (iI (D : Int))), (2, .int (iI 1))] [.int (iI (sg T z p))] l4 _
  refine ab_istore_n (ls' := [(3, .int (iI (sg T z p))), (0, .ref 10), (1, .int (iI (D : Int))), (2, .int (iI 1))]) dX8_readUnit_7 rfl (by decide) rfl ?_
  refine ab_iload_n (k := 3) dX8_readUnit_8 rfl rfl ?_
  refine z_if_ne (tgt := 45) dX8_readUnit_9 (by decide) (by decide) (fun _ => ?_) (fun c9 => absurd c9 (by decide))
  refine ab_iload_n (k := 3) dX8_readUnit_45 rfl rfl ?_
  refine z_if_ne (tgt := 81) dX8_readUnit_46 (by decide) (by decide) (fun _ => ?_) (fun c46 => absurd c46 (by decide))
  refine ab_iload_n (k := 3) dX8_readUnit_81 rfl rfl ?_
  refine z_if_ne (tgt := 90) dX8_readUnit_82 (by decide) (by decide) (fun _ => ?_) (fun c82 => absurd c82 (by decide))
  refine ab_aload_n (k := 1) dX8_readUnit_90 rfl rfl ?_
  refine z_getP (b := 1) dX8_readUnit_91 fX8_18 rfl rfl rfl ?_
  refine ab_callV (As := []) (rest := []) dX8_readUnit_94 lX8_34 rfl (Nat.le_of_ble_eq_true rfl) (Nat.le_of_ble_eq_true rfl) rfl ?_
  refine c_tlook ht Sl4.2.1 (fun l94 sl94 tl94 => ?_)
  have k94 := lk_ge T z (lk T z p)
  have Sl94 := CL_t Sl4 sl94 tl94 (by omega)
  have y94 := sg_b ht (lk T z p)
  show ab_X (d + 11) mX8_readUnit 97 [(3, .int (iI (sg T z p))), (0, .ref 10), (1, .int (iI (D : Int))), (2, .int (iI 1))] [.int (iI (sg T z (lk T z p)))] l94 _
  refine ab_callS (As := [.int (iI (sg T z (lk T z p)))]) (rest := []) dX8_readUnit_97 lX8_55 (Nat.le_of_ble_eq_true rfl) (Nat.le_of_ble_eq_true rfl) rfl ?_
  refine c_comparison (by omega) ?_
  have u97 := cmpo_b (sg T z (lk T z p))
  show ab_X (d + 11) mX8_readUnit 100 [(3, .int (iI (sg T z p))), (0, .ref 10), (1, .int (iI (D : Int))), (2, .int (iI 1))] [.int (iI (cmpo (sg T z (lk T z p))))] l94 _
  refine ab_istore (ls' := [(4, .int (iI (cmpo (sg T z (lk T z p))))), (3, .int (iI (sg T z p))), (0, .ref 10), (1, .int (iI (D : Int))), (2, .int (iI 1))]) dX8_readUnit_100 (by decide) rfl ?_
  refine ab_iload (k := 0) dX8_readUnit_102 rfl ?_
  refine z_iconst dX8_readUnit_104 ?_
  refine z_icmp_ne (tgt := 116) dX8_readUnit_105 (by decide) (by omega) (by decide) (fun c105 => ?_) (fun c105 => ?_)
  · skip
    have z116 := sg_in (T := T) (z := z) (p := (lk T z p)) (cmpo_in (by omega))
    refine ab_aload_n (k := 2) dX8_readUnit_116 rfl rfl ?_
    refine z_getP (b := 1) dX8_readUnit_117 fX8_18 rfl rfl rfl ?_
    refine ab_callV (As := []) (rest := []) dX8_readUnit_120 lX8_38 rfl (Nat.le_of_ble_eq_true rfl) (Nat.le_of_ble_eq_true rfl) rfl ?_
    refine c_tstep ht Sl94.2.1 (by omega) (fun l120 sl120 tl120 => ?_)
    have Sl120 := CL_t Sl94 sl120 tl120 (by omega)
    show ab_X (d + 11) mX8_readUnit 123 [(4, .int (iI (cmpo (sg T z (lk T z p))))), (3, .int (iI (sg T z p))), (0, .ref 10), (1, .int (iI (D : Int))), (2, .int (iI 1))] [] l120 _
    refine ab_aload_n (k := 2) dX8_readUnit_123 rfl rfl ?_
    refine ab_iload_n (k := 3) dX8_readUnit_124 rfl rfl ?_
    refine ab_callV (As := [.int (iI (D : Int))]) (rest := []) dX8_readUnit_125 lX8_51 rfl (Nat.le_of_ble_eq_true rfl) (Nat.le_of_ble_eq_true rfl) rfl ?_
    refine hS h0 _ _ _ _ Sl120 (fun l125 p125 c125 j125 b125 Sl125 => ?_) (fun e125 w125 j125 n125 Se125 => ?_)
    · skip
      have r125 := Sl125.2.1.2.2.2.2
      show ab_X (d + 11) mX8_readUnit 128 [(4, .int (iI (cmpo (sg T z (lk T z p))))), (3, .int (iI (sg T z p))), (0, .ref 10), (1, .int (iI (D : Int))), (2, .int (iI 1))] [] l125 _
      refine ab_aload_n (k := 2) dX8_readUnit_128 rfl rfl ?_
      refine z_getP (b := 11) dX8_readUnit_129 fX8_12 rfl rfl rfl ?_
      refine ab_iload (k := 0) dX8_readUnit_132 rfl ?_
      refine z_iconst dX8_readUnit_134 ?_
      refine ab_callV (As := [.int (iI (cmpo (sg T z (lk T z p)))), .int (iI 0)]) (rest := []) dX8_readUnit_135 lX8_59 rfl (Nat.le_of_ble_eq_true rfl) (Nat.le_of_ble_eq_true rfl) rfl ?_
      have q135 : ((c ++ c125)).length + 1 ≤ p125 := by (try simp only [List.length_append, List.length_cons, List.length_nil]); omega
      have r135 := Sl125.2.1.2.2.2.2
      refine c_add11 Sl125.2.2.2 (by omega) (by omega) (by decide) (fun l135 sl135 Cl135 => ?_)
      have Sl135 := CL_add Sl125 q135 sl135 Cl135
      show ab_X (d + 11) mX8_readUnit 138 [(4, .int (iI (cmpo (sg T z (lk T z p))))), (3, .int (iI (sg T z p))), (0, .ref 10), (1, .int (iI (D : Int))), (2, .int (iI 1))] [] l135 _
      refine z_vret dX8_readUnit_138 rfl ?_
      simp only [sg_lk, List.append_assoc] at Sl135
      rw [lk_lk] at j125
      exact K1 _ _ _ (unit_g.trans (cmp_2 (by rw [sg_lk] at *; omega) j125)) (by simp only [List.nil_append, List.length_append, List.length_cons, List.length_nil]; omega) Sl135
    · skip
      show ab_X (d + 11) mX8_readUnit 128 [(4, .int (iI (cmpo (sg T z (lk T z p))))), (3, .int (iI (sg T z p))), (0, .ref 10), (1, .int (iI (D : Int))), (2, .int (iI 1))] [] e125 _
      refine ab_aload_n (k := 2) dX8_readUnit_128 rfl rfl ?_
      refine z_getP (b := 11) dX8_readUnit_129 fX8_12 rfl rfl rfl ?_
      refine ab_iload (k := 0) dX8_readUnit_132 rfl ?_
      refine z_iconst dX8_readUnit_134 ?_
      refine ab_callV (As := [.int (iI (cmpo (sg T z (lk T z p)))), .int (iI 0)]) (rest := []) dX8_readUnit_135 lX8_59 rfl (Nat.le_of_ble_eq_true rfl) (Nat.le_of_ble_eq_true rfl) rfl ?_
      refine c_add11d Se125.2.2 (fun e135 se135 Ce135 => ?_)
      have Se135 := CD_add Se125 se135 Ce135
      show ab_X (d + 11) mX8_readUnit 138 [(4, .int (iI (cmpo (sg T z (lk T z p))))), (3, .int (iI (sg T z p))), (0, .ref 10), (1, .int (iI (D : Int))), (2, .int (iI 1))] [] e135 _
      refine z_vret dX8_readUnit_138 rfl ?_
      rw [lk_lk] at j125
      exact K0 _ _ ((congrArg Prod.fst unit_g).trans (cmp_3 (by rw [sg_lk] at *; omega) j125 n125)) n125 Se135
  · skip
    refine ab_aload_n (k := 2) dX8_readUnit_108 rfl rfl ?_
    refine z_getP (b := 1) dX8_readUnit_109 fX8_18 rfl rfl rfl ?_
    refine ab_callV (As := []) (rest := []) dX8_readUnit_112 lX8_41 rfl (Nat.le_of_ble_eq_true rfl) (Nat.le_of_ble_eq_true rfl) rfl ?_
    refine c_trefuse ht Sl94.2.1 (lk_lk _ _ _) (fun e112 se112 te112 => ?_)
    have Se112 := CL_d Sl94 hz se112 te112
    show ab_X (d + 11) mX8_readUnit 115 [(4, .int (iI (cmpo (sg T z (lk T z p))))), (3, .int (iI (sg T z p))), (0, .ref 10), (1, .int (iI (D : Int))), (2, .int (iI 1))] [] e112 _
    refine z_vret dX8_readUnit_115 rfl ?_
    rw [lk_lk, lk_lk] at Se112
    exact K0 _ _ ((congrArg Prod.fst unit_g).trans (cmp_1 (by rw [sg_lk] at *; omega))) (by omega) Se112
theorem c_readUnitD0 {d : Nat} {h : ab_H} {Q : ab_Q} {z : Nat} {h0 : ab_H} {w : Int} {D : Nat} (hz : z ≤ 160) (Sh : CD z h0 h w) (K : ∀ h', CD z h0 h' w → Q none h') : ab_X (d + 11) mX8_readUnit 0 (lv_args 0 [.ref 10, .int (iI (D : Int)), .int (iI 0)]) [] h Q := by
  show ab_X (d + 11) mX8_readUnit 0 [(0, .ref 10), (1, .int (iI (D : Int))), (2, .int (iI 0))] [] h Q
  refine ab_aload_n (k := 0) dX8_readUnit_0 rfl rfl ?_
  refine z_getP (b := 1) dX8_readUnit_1 fX8_18 rfl rfl rfl ?_
  refine ab_callV (As := []) (rest := []) dX8_readUnit_4 lX8_34 rfl (Nat.le_of_ble_eq_true rfl) (Nat.le_of_ble_eq_true rfl) rfl ?_
  refine c_dlook hz Sh.2.1 (fun e4 se4 te4 => ?_)
  have Se4 := CD_d Sh se4 te4
  show ab_X (d + 11) mX8_readUnit 7 [(0, .ref 10), (1, .int (iI (D : Int))), (2, .int (iI 0))] [.int (iI (-1))] e4 _
  refine ab_istore_n (ls' := [(3, .int (iI (-1))), (0, .ref 10), (1, .int (iI (D : Int))), (2, .int (iI 0))]) dX8_readUnit_7 rfl (by decide) rfl ?_
  refine ab_iload_n (k := 3) dX8_readUnit_8 rfl rfl ?_
  refine z_if_ne (tgt := 45) dX8_readUnit_9 (by decide) (by decide) (fun c9 => absurd c9 (by decide)) (fun _ => ?_)
  refine ab_iload_n (k := 0) dX8_readUnit_12 rfl rfl ?_
  refine z_bipush dX8_readUnit_13 (by decide) ?_
  refine z_icmp_ne (tgt := 45) dX8_readUnit_15 (by decide) (by decide) (by decide) (fun _ => ?_) (fun c15 => absurd c15 (by decide))
  refine ab_iload_n (k := 3) dX8_readUnit_45 rfl rfl ?_
  refine z_if_ne (tgt := 81) dX8_readUnit_46 (by decide) (by decide) (fun c46 => absurd c46 (by decide)) (fun _ => ?_)
  refine ab_iload_n (k := 0) dX8_readUnit_49 rfl rfl ?_
  refine z_bipush dX8_readUnit_50 (by decide) ?_
  refine z_icmp_ne (tgt := 81) dX8_readUnit_52 (by decide) (by decide) (by decide) (fun _ => ?_) (fun c52 => absurd c52 (by decide))
  refine ab_iload_n (k := 3) dX8_readUnit_81 rfl rfl ?_
  refine z_if_ne (tgt := 90) dX8_readUnit_82 (by decide) (by decide) (fun c82 => absurd c82 (by decide)) (fun _ => ?_)
  refine ab_aload_n (k := 1) dX8_readUnit_85 rfl rfl ?_
  refine ab_iload_n (k := 2) dX8_readUnit_86 rfl rfl ?_
  refine ab_callV (As := [.int (iI (D : Int))]) (rest := []) dX8_readUnit_87 lX8_51 rfl (Nat.le_of_ble_eq_true rfl) (Nat.le_of_ble_eq_true rfl) rfl ?_
  refine (d_readSum (d := d + 3) (D := D) hz) h0 _ _ _ Se4 (fun e87 Se87 => ?_)
  show ab_X (d + 11) mX8_readUnit 90 [(3, .int (iI (-1))), (0, .ref 10), (1, .int (iI (D : Int))), (2, .int (iI 0))] [] e87 _
  refine ab_aload_n (k := 1) dX8_readUnit_90 rfl rfl ?_
  refine z_getP (b := 1) dX8_readUnit_91 fX8_18 rfl rfl rfl ?_
  refine ab_callV (As := []) (rest := []) dX8_readUnit_94 lX8_34 rfl (Nat.le_of_ble_eq_true rfl) (Nat.le_of_ble_eq_true rfl) rfl ?_
  refine c_dlook hz Se87.2.1 (fun e94 se94 te94 => ?_)
  have Se94 := CD_d Se87 se94 te94
  show ab_X (d + 11) mX8_readUnit 97 [(3, .int (iI (-1))), (0, .ref 10), (1, .int (iI (D : Int))), (2, .int (iI 0))] [.int (iI (-1))] e94 _
  refine ab_callS (As := [.int (iI (-1))]) (rest := []) dX8_readUnit_97 lX8_55 (Nat.le_of_ble_eq_true rfl) (Nat.le_of_ble_eq_true rfl) rfl ?_
  refine c_comparison (by decide) ?_
  show ab_X (d + 11) mX8_readUnit 100 [(3, .int (iI (-1))), (0, .ref 10), (1, .int (iI (D : Int))), (2, .int (iI 0))] [.int (iI (-1))] e94 _
  refine ab_istore (ls' := [(4, .int (iI (-1))), (3, .int (iI (-1))), (0, .ref 10), (1, .int (iI (D : Int))), (2, .int (iI 0))]) dX8_readUnit_100 (by decide) rfl ?_
  refine ab_iload (k := 0) dX8_readUnit_102 rfl ?_
  refine z_iconst dX8_readUnit_104 ?_
  refine z_icmp_ne (tgt := 116) dX8_readUnit_105 (by decide) (by decide) (by decide) (fun c105 => absurd c105 (by decide)) (fun _ => ?_)
  refine ab_aload_n (k := 2) dX8_readUnit_108 rfl rfl ?_
  refine z_getP (b := 1) dX8_readUnit_109 fX8_18 rfl rfl rfl ?_
  refine ab_callV (As := []) (rest := []) dX8_readUnit_112 lX8_41 rfl (Nat.le_of_ble_eq_true rfl) (Nat.le_of_ble_eq_true rfl) rfl ?_
  refine c_drefuse hz Se94.2.1 (fun e112 se112 te112 => ?_)
  have Se112 := CD_d Se94 se112 te112
  show ab_X (d + 11) mX8_readUnit 115 [(4, .int (iI (-1))), (3, .int (iI (-1))), (0, .ref 10), (1, .int (iI (D : Int))), (2, .int (iI 0))] [] e112 _
  refine z_vret dX8_readUnit_115 rfl ?_
  exact K _ Se112
theorem c_readUnitD1 {d : Nat} {h : ab_H} {Q : ab_Q} {z : Nat} {h0 : ab_H} {w : Int} {D : Nat} (hz : z ≤ 160) (Sh : CD z h0 h w) (K : ∀ h', CD z h0 h' w → Q none h') : ab_X (d + 11) mX8_readUnit 0 (lv_args 0 [.ref 10, .int (iI (D : Int)), .int (iI 1)]) [] h Q := by
  show ab_X (d + 11) mX8_readUnit 0 [(0, .ref 10), (1, .int (iI (D : Int))), (2, .int (iI 1))] [] h Q
  refine ab_aload_n (k := 0) dX8_readUnit_0 rfl rfl ?_
  refine z_getP (b := 1) dX8_readUnit_1 fX8_18 rfl rfl rfl ?_
  refine ab_callV (As := []) (rest := []) dX8_readUnit_4 lX8_34 rfl (Nat.le_of_ble_eq_true rfl) (Nat.le_of_ble_eq_true rfl) rfl ?_
  refine c_dlook hz Sh.2.1 (fun e4 se4 te4 => ?_)
  have Se4 := CD_d Sh se4 te4
  show ab_X (d + 11) mX8_readUnit 7 [(0, .ref 10), (1, .int (iI (D : Int))), (2, .int (iI 1))] [.int (iI (-1))] e4 _
  refine ab_istore_n (ls' := [(3, .int (iI (-1))), (0, .ref 10), (1, .int (iI (D : Int))), (2, .int (iI 1))]) dX8_readUnit_7 rfl (by decide) rfl ?_
  refine ab_iload_n (k := 3) dX8_readUnit_8 rfl rfl ?_
  refine z_if_ne (tgt := 45) dX8_readUnit_9 (by decide) (by decide) (fun _ => ?_) (fun c9 => absurd c9 (by decide))
  refine ab_iload_n (k := 3) dX8_readUnit_45 rfl rfl ?_
  refine z_if_ne (tgt := 81) dX8_readUnit_46 (by decide) (by decide) (fun _ => ?_) (fun c46 => absurd c46 (by decide))
  refine ab_iload_n (k := 3) dX8_readUnit_81 rfl rfl ?_
  refine z_if_ne (tgt := 90) dX8_readUnit_82 (by decide) (by decide) (fun _ => ?_) (fun c82 => absurd c82 (by decide))
  refine ab_aload_n (k := 1) dX8_readUnit_90 rfl rfl ?_
  refine z_getP (b := 1) dX8_readUnit_91 fX8_18 rfl rfl rfl ?_
  refine ab_callV (As := []) (rest := []) dX8_readUnit_94 lX8_34 rfl (Nat.le_of_ble_eq_true rfl) (Nat.le_of_ble_eq_true rfl) rfl ?_
  refine c_dlook hz Se4.2.1 (fun e94 se94 te94 => ?_)
  have Se94 := CD_d Se4 se94 te94
  show ab_X (d + 11) mX8_readUnit 97 [(3, .int (iI (-1))), (0, .ref 10), (1, .int (iI (D : Int))), (2, .int (iI 1))] [.int (iI (-1))] e94 _
  refine ab_callS (As := [.int (iI (-1))]) (rest := []) dX8_readUnit_97 lX8_55 (Nat.le_of_ble_eq_true rfl) (Nat.le_of_ble_eq_true rfl) rfl ?_
  refine c_comparison (by decide) ?_
  show ab_X (d + 11) mX8_readUnit 100 [(3, .int (iI (-1))), (0, .ref 10), (1, .int (iI (D : Int))), (2, .int (iI 1))] [.int (iI (-1))] e94 _
  refine ab_istore (ls' := [(4, .int (iI (-1))), (3, .int (iI (-1))), (0, .ref 10), (1, .int (iI (D : Int))), (2, .int (iI 1))]) dX8_readUnit_100 (by decide) rfl ?_
  refine ab_iload (k := 0) dX8_readUnit_102 rfl ?_
  refine z_iconst dX8_readUnit_104 ?_
  refine z_icmp_ne (tgt := 116) dX8_readUnit_105 (by decide) (by decide) (by decide) (fun c105 => absurd c105 (by decide)) (fun _ => ?_)
  refine ab_aload_n (k := 2) dX8_readUnit_108 rfl rfl ?_
  refine z_getP (b := 1) dX8_readUnit_109 fX8_18 rfl rfl rfl ?_
  refine ab_callV (As := []) (rest := []) dX8_readUnit_112 lX8_41 rfl (Nat.le_of_ble_eq_true rfl) (Nat.le_of_ble_eq_true rfl) rfl ?_
  refine c_drefuse hz Se94.2.1 (fun e112 se112 te112 => ?_)
  have Se112 := CD_d Se94 se112 te112
  show ab_X (d + 11) mX8_readUnit 115 [(4, .int (iI (-1))), (3, .int (iI (-1))), (0, .ref 10), (1, .int (iI (D : Int))), (2, .int (iI 1))] [] e112 _
  refine z_vret dX8_readUnit_115 rfl ?_
  exact K _ Se112
theorem dl_readTruth {d : Nat} {h : ab_H} {Q : ab_Q} {z : Nat} {h0 : ab_H} {w : Int} {D i : Nat} {g : Int}  (hg : inR g) (hi : i ≤ 160) (hz : z ≤ 160) (Sh : CD z h0 h w) (K : ∀ h', CD z h0 h' w → Q none h') : ab_X (d + 12) mX8_readTruth 8 [(0, .ref 10), (1, .int (iI (D : Int))), (2, .int (iI g)), (3, .int (iI (i : Int)))] [] h Q := by
  refine ab_iload_n (k := 3) dX8_readTruth_8 rfl rfl ?_
  refine z_sipush dX8_readTruth_9 (by decide) ?_
  refine z_icmp_ge (tgt := 56) dX8_readTruth_12 (by decide) (by omega) (by decide) (fun c12 => ?_) (fun c12 => ?_)
  · skip
    refine z_vret dX8_readTruth_56 rfl ?_
    exact K _ Sh
  · skip
    refine ab_aload_n (k := 0) dX8_readTruth_15 rfl rfl ?_
    refine z_getP (b := 1) dX8_readTruth_16 fX8_18 rfl rfl rfl ?_
    refine ab_callV (As := []) (rest := []) dX8_readTruth_19 lX8_34 rfl (Nat.le_of_ble_eq_true rfl) (Nat.le_of_ble_eq_true rfl) rfl ?_
    refine c_dlook hz Sh.2.1 (fun e19 se19 te19 => ?_)
    have Se19 := CD_d Sh se19 te19
    show ab_X (d + 12) mX8_readTruth 22 [(0, .ref 10), (1, .int (iI (D : Int))), (2, .int (iI g)), (3, .int (iI (i : Int)))] [.int (iI (-1))] e19 _
    refine z_bipush dX8_readTruth_22 (by decide) ?_
    refine z_icmp_ne (tgt := 56) dX8_readTruth_24 (by decide) (by decide) (by decide) (fun _ => ?_) (fun c24 => absurd c24 (by decide))
    refine z_vret dX8_readTruth_56 rfl ?_
    exact K _ Se19
theorem lp_readTruth {d : Nat} {Q : ab_Q} {T : Nat → Int} {z : Nat} {h0 : ab_H} {p0 D : Nat} {c : List (Int × Int)} {nx : Nat → pR} {R : pR} {g : Int}  (hg : inR g) (ht : tx T z) (hD : D ≤ 6) (hN : rdC T z mX8_readUnit [.ref 10, .int (iI (D : Int)), .int (iI 0)] nx (d + 11)) (hND : rdD z mX8_readUnit [.ref 10, .int (iI (D : Int)), .int (iI 0)] (d + 11)) (K1 : ∀ h' p' c', R = (-1, p', c') → p0 + c'.length ≤ p' → CL T z h0 h' p' (c ++ c') → Q none h') (K0 : ∀ h' w, R.1 = w → ¬ w = -1 → CD z h0 h' w → Q none h') : ∀ (nn : Nat) (q : Nat) (i : Nat) (c1 : List (Int × Int)) (h : ab_H), 160 - i = nn → (CL T z h0 h q (c ++ c1)) → (i ≤ 160) → (i ≤ q) → (p0 + c1.length ≤ q) → (seqL T z nx 38 38 10 10 (160 - i) q c1 = R) → ab_X (d + 12) mX8_readTruth 8 [(0, .ref 10), (1, .int (iI (D : Int))), (2, .int (iI g)), (3, .int (iI (i : Int)))] [] h Q := by
  intro nn
  induction nn using Nat.strongRecOn with
  | ind nn ih =>
  intro q i c1 h hnn Sh hi hiq hl hR
  have hz := ht.1
  have hpz := Sh.2.1.2.2.2.2
  have hcl := Sh.2.2.1
  rw [List.length_append] at hcl
  refine ab_iload_n (k := 3) dX8_readTruth_8 rfl rfl ?_
  refine z_sipush dX8_readTruth_9 (by decide) ?_
  refine z_icmp_ge (tgt := 56) dX8_readTruth_12 (by decide) (by omega) (by decide) (fun c12 => ?_) (fun c12 => ?_)
  · skip
    refine z_vret dX8_readTruth_56 rfl ?_
    have e1 := lk_n (T := T) (z := z) (p := q) (by omega)
    have e2 : sg T z q = -1 := by unfold sg; rw [e1, if_neg (by omega)]
    have e3 := seqL_n (T := T) (z := z) (next := nx) (a := 38) (b := 38) (oa := 10) (ob := 10) (p := q) (c := c1) (by rw [e2]; rfl) (160 - i)
    rw [hR, e1] at e3
    exact K1 _ _ _ e3 (by omega) Sh
  · skip
    refine ab_aload_n (k := 0) dX8_readTruth_15 rfl rfl ?_
    refine z_getP (b := 1) dX8_readTruth_16 fX8_18 rfl rfl rfl ?_
    refine ab_callV (As := []) (rest := []) dX8_readTruth_19 lX8_34 rfl (Nat.le_of_ble_eq_true rfl) (Nat.le_of_ble_eq_true rfl) rfl ?_
    refine c_tlook ht Sh.2.1 (fun l19 sl19 tl19 => ?_)
    have k19 := lk_ge T z q
    have Sl19 := CL_t Sh sl19 tl19 (by omega)
    have y19 := sg_b ht q
    show ab_X (d + 12) mX8_readTruth 22 [(0, .ref 10), (1, .int (iI (D : Int))), (2, .int (iI g)), (3, .int (iI (i : Int)))] [.int (iI (sg T z q))] l19 _
    refine z_bipush dX8_readTruth_22 (by decide) ?_
    refine z_icmp_ne (tgt := 56) dX8_readTruth_24 (by decide) (by omega) (by decide) (fun c24 => ?_) (fun c24 => ?_)
    · skip
      refine z_vret dX8_readTruth_56 rfl ?_
      have e3 := seqL_n (T := T) (z := z) (next := nx) (a := 38) (b := 38) (oa := 10) (ob := 10) (p := q) (c := c1) (by unfold opo; rw [if_neg (by omega), if_neg (by omega)]) (160 - i)
      rw [hR] at e3
      exact K1 _ _ _ e3 (by omega) Sl19
    · skip
      have zz := sg_in (T := T) (z := z) (p := q) (by omega)
      have hop : opo 38 38 10 10 (sg T z q) = 10 := by unfold opo; rw [if_pos (by omega)]
      refine ab_aload_n (k := 0) dX8_readTruth_27 rfl rfl ?_
      refine z_getP (b := 1) dX8_readTruth_28 fX8_18 rfl rfl rfl ?_
      refine ab_callV (As := []) (rest := []) dX8_readTruth_31 lX8_38 rfl (Nat.le_of_ble_eq_true rfl) (Nat.le_of_ble_eq_true rfl) rfl ?_
      refine c_tstep ht Sl19.2.1 (by omega) (fun l31 sl31 tl31 => ?_)
      have Sl31 := CL_t Sl19 sl31 tl31 (by omega)
      show ab_X (d + 12) mX8_readTruth 34 [(0, .ref 10), (1, .int (iI (D : Int))), (2, .int (iI g)), (3, .int (iI (i : Int)))] [] l31 _
      refine ab_aload_n (k := 0) dX8_readTruth_34 rfl rfl ?_
      refine ab_iload_n (k := 1) dX8_readTruth_35 rfl rfl ?_
      refine z_iconst dX8_readTruth_36 ?_
      refine ab_callV (As := [.int (iI (D : Int)), .int (iI 0)]) (rest := []) dX8_readTruth_37 lX8_73 rfl (Nat.le_of_ble_eq_true rfl) (Nat.le_of_ble_eq_true rfl) rfl ?_
      refine hN h0 _ _ _ _ Sl31 (fun l37 p37 c37 j37 b37 Sl37 => ?_) (fun e37 w37 j37 n37 Se37 => ?_)
      · skip
        have r37 := Sl37.2.1.2.2.2.2
        show ab_X (d + 12) mX8_readTruth 40 [(0, .ref 10), (1, .int (iI (D : Int))), (2, .int (iI g)), (3, .int (iI (i : Int)))] [] l37 _
        refine ab_aload_n (k := 0) dX8_readTruth_40 rfl rfl ?_
        refine z_getP (b := 11) dX8_readTruth_41 fX8_12 rfl rfl rfl ?_
        refine z_bipush dX8_readTruth_44 (by decide) ?_
        refine z_iconst dX8_readTruth_46 ?_
        refine ab_callV (As := [.int (iI 10), .int (iI 0)]) (rest := []) dX8_readTruth_47 lX8_59 rfl (Nat.le_of_ble_eq_true rfl) (Nat.le_of_ble_eq_true rfl) rfl ?_
        have q47 : (((c ++ c1) ++ c37)).length + 1 ≤ p37 := by (try simp only [List.length_append, List.length_cons, List.length_nil]); omega
        have r47 := Sl37.2.1.2.2.2.2
        refine c_add11 Sl37.2.2.2 (by omega) (by decide) (by decide) (fun l47 sl47 Cl47 => ?_)
        have Sl47 := CL_add Sl37 q47 sl47 Cl47
        show ab_X (d + 12) mX8_readTruth 50 [(0, .ref 10), (1, .int (iI (D : Int))), (2, .int (iI g)), (3, .int (iI (i : Int)))] [] l47 _
        refine z_iinc (k := 3) (v := (i : Int) + 1) (ls' := [(3, .int (iI ((i : Int) + 1))), (0, .ref 10), (1, .int (iI (D : Int))), (2, .int (iI g))]) dX8_readTruth_50 rfl rfl (by decide) rfl ?_
        refine ab_goto (tgt := 8) dX8_readTruth_53 (by decide) ?_
        refine ab_sub (ls' := [(0, .ref 10), (1, .int (iI (D : Int))), (2, .int (iI g)), (3, .int (iI ((i : Int) + 1)))]) (ks := [1, 2, 3, 0]) rfl ?_
        refine ih _ (by omega) p37 (i + 1) (c1 ++ (c37 ++ [(10, 0)])) _ rfl ?_ (by omega) (by omega) ?_ ?_
        · simp only [List.append_assoc] at Sl47; exact Sl47
        · simp only [List.length_append, List.length_cons, List.length_nil]; omega
        · rw [← hR, show 160 - i = (160 - (i + 1)) + 1 by omega]
          exact (seqL_1 hop (by decide) j37).symm
      · skip
        show ab_X (d + 12) mX8_readTruth 40 [(0, .ref 10), (1, .int (iI (D : Int))), (2, .int (iI g)), (3, .int (iI (i : Int)))] [] e37 _
        refine ab_aload_n (k := 0) dX8_readTruth_40 rfl rfl ?_
        refine z_getP (b := 11) dX8_readTruth_41 fX8_12 rfl rfl rfl ?_
        refine z_bipush dX8_readTruth_44 (by decide) ?_
        refine z_iconst dX8_readTruth_46 ?_
        refine ab_callV (As := [.int (iI 10), .int (iI 0)]) (rest := []) dX8_readTruth_47 lX8_59 rfl (Nat.le_of_ble_eq_true rfl) (Nat.le_of_ble_eq_true rfl) rfl ?_
        refine c_add11d Se37.2.2 (fun e47 se47 Ce47 => ?_)
        have Se47 := CD_add Se37 se47 Ce47
        show ab_X (d + 12) mX8_readTruth 50 [(0, .ref 10), (1, .int (iI (D : Int))), (2, .int (iI g)), (3, .int (iI (i : Int)))] [] e47 _
        refine z_iinc (k := 3) (v := (i : Int) + 1) (ls' := [(3, .int (iI ((i : Int) + 1))), (0, .ref 10), (1, .int (iI (D : Int))), (2, .int (iI g))]) dX8_readTruth_50 rfl rfl (by decide) rfl ?_
        refine ab_goto (tgt := 8) dX8_readTruth_53 (by decide) ?_
        refine ab_sub (ls' := [(0, .ref 10), (1, .int (iI (D : Int))), (2, .int (iI g)), (3, .int (iI ((i : Int) + 1)))]) (ks := [1, 2, 3, 0]) rfl ?_
        exact dl_readTruth (i := i + 1) hg (by omega) hz Se47 (fun h' S' => K0 h' _ (by rw [← hR, show 160 - i = (159 - i) + 1 by omega]; exact seqL_2 (by rw [hop]; decide) j37 n37) n37 S')
theorem c_readTruth0 {d : Nat} {h : ab_H} {Q : ab_Q} {T : Nat → Int} {z : Nat} {h0 : ab_H} {p D : Nat} {c : List (Int × Int)} {fs nx : Nat → pR} {g : Int}  (hg : inR g) (ht : tx T z) (hD : D ≤ 6) (hF : rdC T z mX8_readUnit [.ref 10, .int (iI (D : Int)), .int (iI g)] fs (d + 11)) (hFD : rdD z mX8_readUnit [.ref 10, .int (iI (D : Int)), .int (iI g)] (d + 11)) (hN : rdC T z mX8_readUnit [.ref 10, .int (iI (D : Int)), .int (iI 0)] nx (d + 11)) (hND : rdD z mX8_readUnit [.ref 10, .int (iI (D : Int)), .int (iI 0)] (d + 11)) (Sh : CL T z h0 h p c) (K1 : ∀ h' p' c', seqF T z fs nx 38 38 10 10 p = (-1, p', c') → p + c'.length ≤ p' → CL T z h0 h' p' (c ++ c') → Q none h') (K0 : ∀ h' w, (seqF T z fs nx 38 38 10 10 p).1 = w → ¬ w = -1 → CD z h0 h' w → Q none h') : ab_X (d + 12) mX8_readTruth 0 (lv_args 0 [.ref 10, .int (iI (D : Int)), .int (iI g)]) [] h Q := by
  show ab_X (d + 12) mX8_readTruth 0 [(0, .ref 10), (1, .int (iI (D : Int))), (2, .int (iI g))] [] h Q
  have hz := ht.1
  have hpz := Sh.2.1.2.2.2.2
  have hcl := Sh.2.2.1
  refine ab_aload_n (k := 0) dX8_readTruth_0 rfl rfl ?_
  refine ab_iload_n (k := 1) dX8_readTruth_1 rfl rfl ?_
  refine ab_iload_n (k := 2) dX8_readTruth_2 rfl rfl ?_
  refine ab_callV (As := [.int (iI (D : Int)), .int (iI g)]) (rest := []) dX8_readTruth_3 lX8_73 rfl (Nat.le_of_ble_eq_true rfl) (Nat.le_of_ble_eq_true rfl) rfl ?_
  refine hF h0 _ _ _ _ Sh (fun l3 p3 c3 j3 b3 Sl3 => ?_) (fun e3 w3 j3 n3 Se3 => ?_)
  · skip
    have r3 := Sl3.2.1.2.2.2.2
    show ab_X (d + 12) mX8_readTruth 6 [(0, .ref 10), (1, .int (iI (D : Int))), (2, .int (iI g))] [] l3 _
    refine z_iconst dX8_readTruth_6 ?_
    refine ab_istore_n (ls' := [(3, .int (iI 0)), (0, .ref 10), (1, .int (iI (D : Int))), (2, .int (iI g))]) dX8_readTruth_7 rfl (by decide) rfl ?_
    refine ab_sub (ls' := [(0, .ref 10), (1, .int (iI (D : Int))), (2, .int (iI g)), (3, .int (iI 0))]) (ks := [1, 2, 3, 0]) rfl ?_
    exact lp_readTruth hg ht hD hN (R := seqF T z fs nx 38 38 10 10 p) (p0 := p) (c := c) hND K1 K0 _ p3 0 c3 _ rfl Sl3 (by omega) (by omega) (by omega) (seq_1 j3).symm
  · skip
    show ab_X (d + 12) mX8_readTruth 6 [(0, .ref 10), (1, .int (iI (D : Int))), (2, .int (iI g))] [] e3 _
    refine z_iconst dX8_readTruth_6 ?_
    refine ab_istore_n (ls' := [(3, .int (iI 0)), (0, .ref 10), (1, .int (iI (D : Int))), (2, .int (iI g))]) dX8_readTruth_7 rfl (by decide) rfl ?_
    refine ab_sub (ls' := [(0, .ref 10), (1, .int (iI (D : Int))), (2, .int (iI g)), (3, .int (iI 0))]) (ks := [1, 2, 3, 0]) rfl ?_
    exact dl_readTruth (i := 0) hg (by omega) hz Se3 (fun h' S' => K0 h' _ (seq_2 j3 n3) n3 S')
theorem c_readTruthD {d : Nat} {h : ab_H} {Q : ab_Q} {z : Nat} {h0 : ab_H} {w : Int} {D : Nat} {g : Int}  (hg : inR g) (hFD : rdD z mX8_readUnit [.ref 10, .int (iI (D : Int)), .int (iI g)] (d + 11)) (hz : z ≤ 160) (Sh : CD z h0 h w) (K : ∀ h', CD z h0 h' w → Q none h') : ab_X (d + 12) mX8_readTruth 0 (lv_args 0 [.ref 10, .int (iI (D : Int)), .int (iI g)]) [] h Q := by
  show ab_X (d + 12) mX8_readTruth 0 [(0, .ref 10), (1, .int (iI (D : Int))), (2, .int (iI g))] [] h Q
  refine ab_aload_n (k := 0) dX8_readTruth_0 rfl rfl ?_
  refine ab_iload_n (k := 1) dX8_readTruth_1 rfl rfl ?_
  refine ab_iload_n (k := 2) dX8_readTruth_2 rfl rfl ?_
  refine ab_callV (As := [.int (iI (D : Int)), .int (iI g)]) (rest := []) dX8_readTruth_3 lX8_73 rfl (Nat.le_of_ble_eq_true rfl) (Nat.le_of_ble_eq_true rfl) rfl ?_
  refine hFD h0 _ _ _ Sh (fun e3 Se3 => ?_)
  show ab_X (d + 12) mX8_readTruth 6 [(0, .ref 10), (1, .int (iI (D : Int))), (2, .int (iI g))] [] e3 _
  refine z_iconst dX8_readTruth_6 ?_
  refine ab_istore_n (ls' := [(3, .int (iI 0)), (0, .ref 10), (1, .int (iI (D : Int))), (2, .int (iI g))]) dX8_readTruth_7 rfl (by decide) rfl ?_
  refine ab_sub (ls' := [(0, .ref 10), (1, .int (iI (D : Int))), (2, .int (iI g)), (3, .int (iI 0))]) (ks := [1, 2, 3, 0]) rfl ?_
  exact dl_readTruth (i := 0) hg (by omega) hz Se3 K
theorem dl_readCondition {d : Nat} {h : ab_H} {Q : ab_Q} {z : Nat} {h0 : ab_H} {w : Int} {D i : Nat} {g : Int}  (hg : inR g) (hi : i ≤ 160) (hz : z ≤ 160) (Sh : CD z h0 h w) (K : ∀ h', CD z h0 h' w → Q none h') : ab_X (d + 13) mX8_readCondition 8 [(0, .ref 10), (1, .int (iI (D : Int))), (2, .int (iI g)), (3, .int (iI (i : Int)))] [] h Q := by
  refine ab_iload_n (k := 3) dX8_readCondition_8 rfl rfl ?_
  refine z_sipush dX8_readCondition_9 (by decide) ?_
  refine z_icmp_ge (tgt := 56) dX8_readCondition_12 (by decide) (by omega) (by decide) (fun c12 => ?_) (fun c12 => ?_)
  · skip
    refine z_vret dX8_readCondition_56 rfl ?_
    exact K _ Sh
  · skip
    refine ab_aload_n (k := 0) dX8_readCondition_15 rfl rfl ?_
    refine z_getP (b := 1) dX8_readCondition_16 fX8_18 rfl rfl rfl ?_
    refine ab_callV (As := []) (rest := []) dX8_readCondition_19 lX8_34 rfl (Nat.le_of_ble_eq_true rfl) (Nat.le_of_ble_eq_true rfl) rfl ?_
    refine c_dlook hz Sh.2.1 (fun e19 se19 te19 => ?_)
    have Se19 := CD_d Sh se19 te19
    show ab_X (d + 13) mX8_readCondition 22 [(0, .ref 10), (1, .int (iI (D : Int))), (2, .int (iI g)), (3, .int (iI (i : Int)))] [.int (iI (-1))] e19 _
    refine z_bipush dX8_readCondition_22 (by decide) ?_
    refine z_icmp_ne (tgt := 56) dX8_readCondition_24 (by decide) (by decide) (by decide) (fun _ => ?_) (fun c24 => absurd c24 (by decide))
    refine z_vret dX8_readCondition_56 rfl ?_
    exact K _ Se19
theorem lp_readCondition {d : Nat} {Q : ab_Q} {T : Nat → Int} {z : Nat} {h0 : ab_H} {p0 D : Nat} {c : List (Int × Int)} {nx : Nat → pR} {R : pR} {g : Int}  (hg : inR g) (ht : tx T z) (hD : D ≤ 6) (hN : rdC T z mX8_readTruth [.ref 10, .int (iI (D : Int)), .int (iI 0)] nx (d + 12)) (hND : rdD z mX8_readTruth [.ref 10, .int (iI (D : Int)), .int (iI 0)] (d + 12)) (K1 : ∀ h' p' c', R = (-1, p', c') → p0 + c'.length ≤ p' → CL T z h0 h' p' (c ++ c') → Q none h') (K0 : ∀ h' w, R.1 = w → ¬ w = -1 → CD z h0 h' w → Q none h') : ∀ (nn : Nat) (q : Nat) (i : Nat) (c1 : List (Int × Int)) (h : ab_H), 160 - i = nn → (CL T z h0 h q (c ++ c1)) → (i ≤ 160) → (i ≤ q) → (p0 + c1.length ≤ q) → (seqL T z nx 124 124 11 11 (160 - i) q c1 = R) → ab_X (d + 13) mX8_readCondition 8 [(0, .ref 10), (1, .int (iI (D : Int))), (2, .int (iI g)), (3, .int (iI (i : Int)))] [] h Q := by
  intro nn
  induction nn using Nat.strongRecOn with
  | ind nn ih =>
  intro q i c1 h hnn Sh hi hiq hl hR
  have hz := ht.1
  have hpz := Sh.2.1.2.2.2.2
  have hcl := Sh.2.2.1
  rw [List.length_append] at hcl
  refine ab_iload_n (k := 3) dX8_readCondition_8 rfl rfl ?_
  refine z_sipush dX8_readCondition_9 (by decide) ?_
  refine z_icmp_ge (tgt := 56) dX8_readCondition_12 (by decide) (by omega) (by decide) (fun c12 => ?_) (fun c12 => ?_)
  · skip
    refine z_vret dX8_readCondition_56 rfl ?_
    have e1 := lk_n (T := T) (z := z) (p := q) (by omega)
    have e2 : sg T z q = -1 := by unfold sg; rw [e1, if_neg (by omega)]
    have e3 := seqL_n (T := T) (z := z) (next := nx) (a := 124) (b := 124) (oa := 11) (ob := 11) (p := q) (c := c1) (by rw [e2]; rfl) (160 - i)
    rw [hR, e1] at e3
    exact K1 _ _ _ e3 (by omega) Sh
  · skip
    refine ab_aload_n (k := 0) dX8_readCondition_15 rfl rfl ?_
    refine z_getP (b := 1) dX8_readCondition_16 fX8_18 rfl rfl rfl ?_
    refine ab_callV (As := []) (rest := []) dX8_readCondition_19 lX8_34 rfl (Nat.le_of_ble_eq_true rfl) (Nat.le_of_ble_eq_true rfl) rfl ?_
    refine c_tlook ht Sh.2.1 (fun l19 sl19 tl19 => ?_)
    have k19 := lk_ge T z q
    have Sl19 := CL_t Sh sl19 tl19 (by omega)
    have y19 := sg_b ht q
    show ab_X (d + 13) mX8_readCondition 22 [(0, .ref 10), (1, .int (iI (D : Int))), (2, .int (iI g)), (3, .int (iI (i : Int)))] [.int (iI (sg T z q))] l19 _
    refine z_bipush dX8_readCondition_22 (by decide) ?_
    refine z_icmp_ne (tgt := 56) dX8_readCondition_24 (by decide) (by omega) (by decide) (fun c24 => ?_) (fun c24 => ?_)
    · skip
      refine z_vret dX8_readCondition_56 rfl ?_
      have e3 := seqL_n (T := T) (z := z) (next := nx) (a := 124) (b := 124) (oa := 11) (ob := 11) (p := q) (c := c1) (by unfold opo; rw [if_neg (by omega), if_neg (by omega)]) (160 - i)
      rw [hR] at e3
      exact K1 _ _ _ e3 (by omega) Sl19
    · skip
      have zz := sg_in (T := T) (z := z) (p := q) (by omega)
      have hop : opo 124 124 11 11 (sg T z q) = 11 := by unfold opo; rw [if_pos (by omega)]
      refine ab_aload_n (k := 0) dX8_readCondition_27 rfl rfl ?_
      refine z_getP (b := 1) dX8_readCondition_28 fX8_18 rfl rfl rfl ?_
      refine ab_callV (As := []) (rest := []) dX8_readCondition_31 lX8_38 rfl (Nat.le_of_ble_eq_true rfl) (Nat.le_of_ble_eq_true rfl) rfl ?_
      refine c_tstep ht Sl19.2.1 (by omega) (fun l31 sl31 tl31 => ?_)
      have Sl31 := CL_t Sl19 sl31 tl31 (by omega)
      show ab_X (d + 13) mX8_readCondition 34 [(0, .ref 10), (1, .int (iI (D : Int))), (2, .int (iI g)), (3, .int (iI (i : Int)))] [] l31 _
      refine ab_aload_n (k := 0) dX8_readCondition_34 rfl rfl ?_
      refine ab_iload_n (k := 1) dX8_readCondition_35 rfl rfl ?_
      refine z_iconst dX8_readCondition_36 ?_
      refine ab_callV (As := [.int (iI (D : Int)), .int (iI 0)]) (rest := []) dX8_readCondition_37 lX8_70 rfl (Nat.le_of_ble_eq_true rfl) (Nat.le_of_ble_eq_true rfl) rfl ?_
      refine hN h0 _ _ _ _ Sl31 (fun l37 p37 c37 j37 b37 Sl37 => ?_) (fun e37 w37 j37 n37 Se37 => ?_)
      · skip
        have r37 := Sl37.2.1.2.2.2.2
        show ab_X (d + 13) mX8_readCondition 40 [(0, .ref 10), (1, .int (iI (D : Int))), (2, .int (iI g)), (3, .int (iI (i : Int)))] [] l37 _
        refine ab_aload_n (k := 0) dX8_readCondition_40 rfl rfl ?_
        refine z_getP (b := 11) dX8_readCondition_41 fX8_12 rfl rfl rfl ?_
        refine z_bipush dX8_readCondition_44 (by decide) ?_
        refine z_iconst dX8_readCondition_46 ?_
        refine ab_callV (As := [.int (iI 11), .int (iI 0)]) (rest := []) dX8_readCondition_47 lX8_59 rfl (Nat.le_of_ble_eq_true rfl) (Nat.le_of_ble_eq_true rfl) rfl ?_
        have q47 : (((c ++ c1) ++ c37)).length + 1 ≤ p37 := by (try simp only [List.length_append, List.length_cons, List.length_nil]); omega
        have r47 := Sl37.2.1.2.2.2.2
        refine c_add11 Sl37.2.2.2 (by omega) (by decide) (by decide) (fun l47 sl47 Cl47 => ?_)
        have Sl47 := CL_add Sl37 q47 sl47 Cl47
        show ab_X (d + 13) mX8_readCondition 50 [(0, .ref 10), (1, .int (iI (D : Int))), (2, .int (iI g)), (3, .int (iI (i : Int)))] [] l47 _
        refine z_iinc (k := 3) (v := (i : Int) + 1) (ls' := [(3, .int (iI ((i : Int) + 1))), (0, .ref 10), (1, .int (iI (D : Int))), (2, .int (iI g))]) dX8_readCondition_50 rfl rfl (by decide) rfl ?_
        refine ab_goto (tgt := 8) dX8_readCondition_53 (by decide) ?_
        refine ab_sub (ls' := [(0, .ref 10), (1, .int (iI (D : Int))), (2, .int (iI g)), (3, .int (iI ((i : Int) + 1)))]) (ks := [1, 2, 3, 0]) rfl ?_
        refine ih _ (by omega) p37 (i + 1) (c1 ++ (c37 ++ [(11, 0)])) _ rfl ?_ (by omega) (by omega) ?_ ?_
        · simp only [List.append_assoc] at Sl47; exact Sl47
        · simp only [List.length_append, List.length_cons, List.length_nil]; omega
        · rw [← hR, show 160 - i = (160 - (i + 1)) + 1 by omega]
          exact (seqL_1 hop (by decide) j37).symm
      · skip
        show ab_X (d + 13) mX8_readCondition 40 [(0, .ref 10), (1, .int (iI (D : Int))), (2, .int (iI g)), (3, .int (iI (i : Int)))] [] e37 _
        refine ab_aload_n (k := 0) dX8_readCondition_40 rfl rfl ?_
        refine z_getP (b := 11) dX8_readCondition_41 fX8_12 rfl rfl rfl ?_
        refine z_bipush dX8_readCondition_44 (by decide) ?_
        refine z_iconst dX8_readCondition_46 ?_
        refine ab_callV (As := [.int (iI 11), .int (iI 0)]) (rest := []) dX8_readCondition_47 lX8_59 rfl (Nat.le_of_ble_eq_true rfl) (Nat.le_of_ble_eq_true rfl) rfl ?_
        refine c_add11d Se37.2.2 (fun e47 se47 Ce47 => ?_)
        have Se47 := CD_add Se37 se47 Ce47
        show ab_X (d + 13) mX8_readCondition 50 [(0, .ref 10), (1, .int (iI (D : Int))), (2, .int (iI g)), (3, .int (iI (i : Int)))] [] e47 _
        refine z_iinc (k := 3) (v := (i : Int) + 1) (ls' := [(3, .int (iI ((i : Int) + 1))), (0, .ref 10), (1, .int (iI (D : Int))), (2, .int (iI g))]) dX8_readCondition_50 rfl rfl (by decide) rfl ?_
        refine ab_goto (tgt := 8) dX8_readCondition_53 (by decide) ?_
        refine ab_sub (ls' := [(0, .ref 10), (1, .int (iI (D : Int))), (2, .int (iI g)), (3, .int (iI ((i : Int) + 1)))]) (ks := [1, 2, 3, 0]) rfl ?_
        exact dl_readCondition (i := i + 1) hg (by omega) hz Se47 (fun h' S' => K0 h' _ (by rw [← hR, show 160 - i = (159 - i) + 1 by omega]; exact seqL_2 (by rw [hop]; decide) j37 n37) n37 S')
theorem c_readCondition0 {d : Nat} {h : ab_H} {Q : ab_Q} {T : Nat → Int} {z : Nat} {h0 : ab_H} {p D : Nat} {c : List (Int × Int)} {fs nx : Nat → pR} {g : Int}  (hg : inR g) (ht : tx T z) (hD : D ≤ 6) (hF : rdC T z mX8_readTruth [.ref 10, .int (iI (D : Int)), .int (iI g)] fs (d + 12)) (hFD : rdD z mX8_readTruth [.ref 10, .int (iI (D : Int)), .int (iI g)] (d + 12)) (hN : rdC T z mX8_readTruth [.ref 10, .int (iI (D : Int)), .int (iI 0)] nx (d + 12)) (hND : rdD z mX8_readTruth [.ref 10, .int (iI (D : Int)), .int (iI 0)] (d + 12)) (Sh : CL T z h0 h p c) (K1 : ∀ h' p' c', seqF T z fs nx 124 124 11 11 p = (-1, p', c') → p + c'.length ≤ p' → CL T z h0 h' p' (c ++ c') → Q none h') (K0 : ∀ h' w, (seqF T z fs nx 124 124 11 11 p).1 = w → ¬ w = -1 → CD z h0 h' w → Q none h') : ab_X (d + 13) mX8_readCondition 0 (lv_args 0 [.ref 10, .int (iI (D : Int)), .int (iI g)]) [] h Q := by
  show ab_X (d + 13) mX8_readCondition 0 [(0, .ref 10), (1, .int (iI (D : Int))), (2, .int (iI g))] [] h Q
  have hz := ht.1
  have hpz := Sh.2.1.2.2.2.2
  have hcl := Sh.2.2.1
  refine ab_aload_n (k := 0) dX8_readCondition_0 rfl rfl ?_
  refine ab_iload_n (k := 1) dX8_readCondition_1 rfl rfl ?_
  refine ab_iload_n (k := 2) dX8_readCondition_2 rfl rfl ?_
  refine ab_callV (As := [.int (iI (D : Int)), .int (iI g)]) (rest := []) dX8_readCondition_3 lX8_70 rfl (Nat.le_of_ble_eq_true rfl) (Nat.le_of_ble_eq_true rfl) rfl ?_
  refine hF h0 _ _ _ _ Sh (fun l3 p3 c3 j3 b3 Sl3 => ?_) (fun e3 w3 j3 n3 Se3 => ?_)
  · skip
    have r3 := Sl3.2.1.2.2.2.2
    show ab_X (d + 13) mX8_readCondition 6 [(0, .ref 10), (1, .int (iI (D : Int))), (2, .int (iI g))] [] l3 _
    refine z_iconst dX8_readCondition_6 ?_
    refine ab_istore_n (ls' := [(3, .int (iI 0)), (0, .ref 10), (1, .int (iI (D : Int))), (2, .int (iI g))]) dX8_readCondition_7 rfl (by decide) rfl ?_
    refine ab_sub (ls' := [(0, .ref 10), (1, .int (iI (D : Int))), (2, .int (iI g)), (3, .int (iI 0))]) (ks := [1, 2, 3, 0]) rfl ?_
    exact lp_readCondition hg ht hD hN (R := seqF T z fs nx 124 124 11 11 p) (p0 := p) (c := c) hND K1 K0 _ p3 0 c3 _ rfl Sl3 (by omega) (by omega) (by omega) (seq_1 j3).symm
  · skip
    show ab_X (d + 13) mX8_readCondition 6 [(0, .ref 10), (1, .int (iI (D : Int))), (2, .int (iI g))] [] e3 _
    refine z_iconst dX8_readCondition_6 ?_
    refine ab_istore_n (ls' := [(3, .int (iI 0)), (0, .ref 10), (1, .int (iI (D : Int))), (2, .int (iI g))]) dX8_readCondition_7 rfl (by decide) rfl ?_
    refine ab_sub (ls' := [(0, .ref 10), (1, .int (iI (D : Int))), (2, .int (iI g)), (3, .int (iI 0))]) (ks := [1, 2, 3, 0]) rfl ?_
    exact dl_readCondition (i := 0) hg (by omega) hz Se3 (fun h' S' => K0 h' _ (seq_2 j3 n3) n3 S')
theorem c_readConditionD {d : Nat} {h : ab_H} {Q : ab_Q} {z : Nat} {h0 : ab_H} {w : Int} {D : Nat} {g : Int}  (hg : inR g) (hFD : rdD z mX8_readTruth [.ref 10, .int (iI (D : Int)), .int (iI g)] (d + 12)) (hz : z ≤ 160) (Sh : CD z h0 h w) (K : ∀ h', CD z h0 h' w → Q none h') : ab_X (d + 13) mX8_readCondition 0 (lv_args 0 [.ref 10, .int (iI (D : Int)), .int (iI g)]) [] h Q := by
  show ab_X (d + 13) mX8_readCondition 0 [(0, .ref 10), (1, .int (iI (D : Int))), (2, .int (iI g))] [] h Q
  refine ab_aload_n (k := 0) dX8_readCondition_0 rfl rfl ?_
  refine ab_iload_n (k := 1) dX8_readCondition_1 rfl rfl ?_
  refine ab_iload_n (k := 2) dX8_readCondition_2 rfl rfl ?_
  refine ab_callV (As := [.int (iI (D : Int)), .int (iI g)]) (rest := []) dX8_readCondition_3 lX8_70 rfl (Nat.le_of_ble_eq_true rfl) (Nat.le_of_ble_eq_true rfl) rfl ?_
  refine hFD h0 _ _ _ Sh (fun e3 Se3 => ?_)
  show ab_X (d + 13) mX8_readCondition 6 [(0, .ref 10), (1, .int (iI (D : Int))), (2, .int (iI g))] [] e3 _
  refine z_iconst dX8_readCondition_6 ?_
  refine ab_istore_n (ls' := [(3, .int (iI 0)), (0, .ref 10), (1, .int (iI (D : Int))), (2, .int (iI g))]) dX8_readCondition_7 rfl (by decide) rfl ?_
  refine ab_sub (ls' := [(0, .ref 10), (1, .int (iI (D : Int))), (2, .int (iI g)), (3, .int (iI 0))]) (ks := [1, 2, 3, 0]) rfl ?_
  exact dl_readCondition (i := 0) hg (by omega) hz Se3 K
