/-! THE MODEL READS A RULE: comparisons, conditions -/
theorem unit_9 {T : Nat → Int} {z p : Nat} {sub : Option ((Bool → Nat → pR) × (Bool → Nat → pR))} {S : Nat → pR} (h : ¬ sg T z p = 33) (h2 : ¬ sg T z p = 40) : unitF T z sub S false p = pB (S (lk T z p)) (cmpF T z S) := by
  unfold unitF; rw [if_neg (by decide), if_neg h, if_neg h2]
theorem cmp_jn {s v w : Int} (h : ¬ cmpo s = -1) : (s = 61 ∨ s = 60 ∨ s = 62) ∧ (2 ≤ cmpo s ∧ ¬ cmpo s = 9 ∧ cmpo s < 12) ∧ jn (cmpo s) v w = if s = 61 then (if v = w then 1 else 0) else if s = 60 then (if v < w then 1 else 0) else (if v > w then 1 else 0) := by
  have hs : s = 61 ∨ s = 60 ∨ s = 62 := by
    unfold cmpo at h
    by_cases e1 : s = 61
    · exact Or.inl e1
    · by_cases e2 : s = 60
      · exact Or.inr (Or.inl e2)
      · by_cases e3 : s = 62
        · exact Or.inr (Or.inr e3)
        · rw [if_neg e1, if_neg e2, if_neg e3] at h; exact absurd rfl h
  refine ⟨hs, ?_, ?_⟩
  · rcases hs with rfl | rfl | rfl <;> decide
  · rcases hs with rfl | rfl | rfl
    · show jn 6 v w = _; unfold jn; rw [if_neg (by decide), if_neg (by decide), if_neg (by decide), if_neg (by decide), if_pos rfl, if_pos rfl]
    · show jn 7 v w = _; unfold jn; rw [if_neg (by decide), if_neg (by decide), if_neg (by decide), if_neg (by decide), if_neg (by decide), if_pos rfl, if_neg (show ¬ (60 : Int) = 61 by decide), if_pos rfl]
    · show jn 8 v w = _; unfold jn; rw [if_neg (by decide), if_neg (by decide), if_neg (by decide), if_neg (by decide), if_neg (by decide), if_neg (by decide), if_pos rfl, if_neg (show ¬ (62 : Int) = 61 by decide), if_neg (show ¬ (62 : Int) = 60 by decide)]
theorem jn_and {v w : Int} (hv : v = 0 ∨ v = 1) (hw : w = 0 ∨ w = 1) : jn 10 v w = if v = 0 then 0 else if w = 0 then 0 else 1 := by
  rcases hv with rfl | rfl <;> rcases hw with rfl | rfl <;> decide
theorem jn_or {v w : Int} (hv : v = 0 ∨ v = 1) (hw : w = 0 ∨ w = 1) : jn 11 v w = if v = 0 then (if w = 0 then 0 else 1) else 1 := by
  rcases hv with rfl | rfl <;> rcases hw with rfl | rfl <;> decide
theorem c_mcmp0 {d : Nat} {h : ab_H} {Q : ab_Q} {T : Nat → Int} {z t b n : Nat} {env : Nat → Int} {h0 : ab_H} {p D : Nat} {B : Nat} {S : Nat → pR}  (ht : tx T z) (hx0 : MX T z t b n env h0) (hS : mdI T z t b n env mX12_sum [.ref 200] S D B (d + 10)) (Sh : ML z h0 h p D) (K1 : ∀ h' p' c' v, pB (S p) (cmpF T z S) = (-1, p', c') → p ≤ p' → (v = 0 ∨ v = 1) → evp env [] c' v (B + 1) → ML z h0 h' p' D → Q (some (.int (iI v))) h') (K0 : ∀ h' v w, (pB (S p) (cmpF T z S)).1 = w → ¬ w = -1 → (v = 0 ∨ v = 1) → MD z h0 h' w → Q (some (.int (iI v))) h') : ab_X (d + 11) mX12_compares 0 (lv_args 0 [.ref 200, .int (iI 0), .int (iI 0)]) [] h Q := by
  show ab_X (d + 11) mX12_compares 0 [(0, .ref 200), (1, .int (iI 0)), (2, .int (iI 0))] [] h Q
  have hz := ht.1
  have hx := MX_F hx0 Sh.1
  have hk := hx.2.2.2.2.1
  have hbn := hx.2.2.2.2.2.1
  have hn1 := hx.2.2.2.2.2.2.1
  have hpz := Sh.2.2.2.2.1
  refine ab_iload_n (k := 1) dX12_compares_0 rfl rfl ?_
  refine z_if_eq (tgt := 8) dX12_compares_1 (by decide) (by decide) (fun _ => ?_) (fun c1 => absurd c1 (by decide))
  refine ab_aload_n (k := 0) dX12_compares_8 rfl rfl ?_
  refine ab_callV (As := []) (rest := []) dX12_compares_9 lX12_176 rfl (Nat.le_of_ble_eq_true rfl) (Nat.le_of_ble_eq_true rfl) rfl ?_
  refine hS h0 _ _ _ hx0 Sh (fun l9 p9 c9 v9 j9 b9 vb9 ev9 Sl9 => ?_) (fun e9 v9 w9 j9 n9 vb9 Se9 => ?_)
  · skip
    have r9 := Sl9.2.2.2.2.1
    show ab_X (d + 11) mX12_compares 12 [(0, .ref 200), (1, .int (iI 0)), (2, .int (iI 0))] [.int (iI v9)] l9 _
    refine ab_istore_n (ls' := [(3, .int (iI v9)), (0, .ref 200), (1, .int (iI 0)), (2, .int (iI 0))]) dX12_compares_12 rfl (by decide) rfl ?_
    refine ab_aload_n (k := 1) dX12_compares_13 rfl rfl ?_
    refine z_getI dX12_compares_14 fX12_143 rfl (Or.inl rfl) ?_
    refine z_is (y := (-1)) Sl9.2.2.1 ?_
    refine z_iconst dX12_compares_17 ?_
    refine z_icmp_eq (tgt := 23) dX12_compares_18 (by decide) (by decide) (by decide) (fun _ => ?_) (fun c18 => absurd c18 (by decide))
    refine ab_aload_n (k := 1) dX12_compares_23 rfl rfl ?_
    refine ab_callV (As := []) (rest := []) dX12_compares_24 lX12_153 rfl (Nat.le_of_ble_eq_true rfl) (Nat.le_of_ble_eq_true rfl) rfl ?_
    refine c_mlook ht hx0 Sl9 (fun l24 Sl24 => ?_)
    have k24 := lk_ge T z p9
    have y24 := sg_b ht p9
    show ab_X (d + 11) mX12_compares 27 [(3, .int (iI v9)), (0, .ref 200), (1, .int (iI 0)), (2, .int (iI 0))] [.int (iI (sg T z p9))] l24 _
    refine ab_istore (ls' := [(4, .int (iI (sg T z p9))), (3, .int (iI v9)), (0, .ref 200), (1, .int (iI 0)), (2, .int (iI 0))]) dX12_compares_27 (by decide) rfl ?_
    refine ab_iload (k := 0) dX12_compares_29 rfl ?_
    refine ab_callS (As := [.int (iI (sg T z p9))]) (rest := []) dX12_compares_31 lX12_196 (Nat.le_of_ble_eq_true rfl) (Nat.le_of_ble_eq_true rfl) rfl ?_
    refine c_misSign (by omega) (fun g31 => ?_) (fun g31 => ?_)
    · skip
      show ab_X (d + 11) mX12_compares 34 [(4, .int (iI (sg T z p9))), (3, .int (iI v9)), (0, .ref 200), (1, .int (iI 0)), (2, .int (iI 0))] [.int (iI 1)] l24 _
      refine z_if_ne (tgt := 42) dX12_compares_34 (by decide) (by decide) (fun _ => ?_) (fun c34 => absurd c34 (by decide))
      have z42 := sg_in (T := T) (z := z) (p := p9) (cmpo_in g31)
      refine ab_aload_n (k := 2) dX12_compares_42 rfl rfl ?_
      refine ab_dup dX12_compares_43 rfl ?_
      refine z_getI dX12_compares_44 fX12_134 rfl (Or.inl rfl) ?_
      refine z_is (y := (((lk T z p9) : Nat) : Int)) Sl24.2.1 ?_
      refine z_iconst dX12_compares_47 ?_
      refine z_iadd dX12_compares_48 ?_
      refine z_putI dX12_compares_49 fX12_134 rfl rfl ?_
      obtain ⟨n49, en49⟩ : ∃ zz : ab_H, zz = zp l24 200 10 ((((lk T z p9) : Nat) : Int) + 1) := ⟨_, rfl⟩
      rw [← en49]
      have Sn49 : ML z h0 n49 ((lk T z p9) + 1) D := by rw [en49]; exact ML_at Sl24 hz (by omega) (by omega)
      refine ab_aload_n (k := 2) dX12_compares_52 rfl rfl ?_
      refine ab_callV (As := []) (rest := []) dX12_compares_53 lX12_176 rfl (Nat.le_of_ble_eq_true rfl) (Nat.le_of_ble_eq_true rfl) rfl ?_
      refine hS h0 _ _ _ hx0 Sn49 (fun l53 p53 c53 v53 j53 b53 vb53 ev53 Sl53 => ?_) (fun e53 v53 w53 j53 n53 vb53 Se53 => ?_)
      · skip
        have r53 := Sl53.2.2.2.2.1
        show ab_X (d + 11) mX12_compares 56 [(4, .int (iI (sg T z p9))), (3, .int (iI v9)), (0, .ref 200), (1, .int (iI 0)), (2, .int (iI 0))] [.int (iI v53)] l53 _
        refine ab_istore (ls' := [(5, .int (iI v53)), (4, .int (iI (sg T z p9))), (3, .int (iI v9)), (0, .ref 200), (1, .int (iI 0)), (2, .int (iI 0))]) dX12_compares_56 (by decide) rfl ?_
        refine ab_iload (k := 1) dX12_compares_58 rfl ?_
        refine z_bipush dX12_compares_60 (by decide) ?_
        refine z_icmp_ne (tgt := 79) dX12_compares_62 (by decide) (by omega) (by decide) (fun c62 => ?_) (fun c62 => ?_)
        · skip
          refine ab_iload (k := 1) dX12_compares_79 rfl ?_
          refine z_bipush dX12_compares_81 (by decide) ?_
          refine z_icmp_ne (tgt := 100) dX12_compares_83 (by decide) (by omega) (by decide) (fun c83 => ?_) (fun c83 => ?_)
          · skip
            refine ab_iload_n (k := 2) dX12_compares_100 rfl rfl ?_
            refine ab_iload (k := 0) dX12_compares_101 rfl ?_
            refine z_icmp_le (tgt := 110) dX12_compares_103 (by decide) (by omega) (by omega) (fun c103 => ?_) (fun c103 => ?_)
            · skip
              refine z_iconst dX12_compares_110 ?_
              refine z_zret dX12_compares_111 rfl (Or.inl rfl) ?_
              have z31 := sg_in (T := T) (z := z) (p := p9) (cmpo_in g31)
              have hc3 := cmp_jn (v := v9) (w := v53) g31
              have eJ : jn (cmpo (sg T z p9)) v9 v53 = 0 := by
                rw [hc3.2.2]
                (repeat' split) <;> omega
              have hc2 := hc3.2.1
              have hE := evp_op (evp_mono ev9 (show B ≤ B + 1 by omega)) ev53 (Nat.le_refl _) hc2
              rw [eJ] at hE
              exact K1 _ _ _ _ ((pB_ok j9).trans (cmp_2 g31 j53)) (by omega) (by omega) hE Sl53
            · skip
              refine z_iconst dX12_compares_106 ?_
              refine ab_goto (tgt := 111) dX12_compares_107 (by decide) ?_
              refine z_zret dX12_compares_111 rfl (Or.inr rfl) ?_
              have z31 := sg_in (T := T) (z := z) (p := p9) (cmpo_in g31)
              have hc3 := cmp_jn (v := v9) (w := v53) g31
              have eJ : jn (cmpo (sg T z p9)) v9 v53 = 1 := by
                rw [hc3.2.2]
                (repeat' split) <;> omega
              have hc2 := hc3.2.1
              have hE := evp_op (evp_mono ev9 (show B ≤ B + 1 by omega)) ev53 (Nat.le_refl _) hc2
              rw [eJ] at hE
              exact K1 _ _ _ _ ((pB_ok j9).trans (cmp_2 g31 j53)) (by omega) (by omega) hE Sl53
          · skip
            refine ab_iload_n (k := 2) dX12_compares_86 rfl rfl ?_
            refine ab_iload (k := 0) dX12_compares_87 rfl ?_
            refine z_icmp_ge (tgt := 96) dX12_compares_89 (by decide) (by omega) (by omega) (fun c89 => ?_) (fun c89 => ?_)
            · skip
              refine z_iconst dX12_compares_96 ?_
              refine ab_goto (tgt := 111) dX12_compares_97 (by decide) ?_
              refine z_zret dX12_compares_111 rfl (Or.inl rfl) ?_
              have z31 := sg_in (T := T) (z := z) (p := p9) (cmpo_in g31)
              have hc3 := cmp_jn (v := v9) (w := v53) g31
              have eJ : jn (cmpo (sg T z p9)) v9 v53 = 0 := by
                rw [hc3.2.2]
                (repeat' split) <;> omega
              have hc2 := hc3.2.1
              have hE := evp_op (evp_mono ev9 (show B ≤ B + 1 by omega)) ev53 (Nat.le_refl _) hc2
              rw [eJ] at hE
              exact K1 _ _ _ _ ((pB_ok j9).trans (cmp_2 g31 j53)) (by omega) (by omega) hE Sl53
            · skip
              refine z_iconst dX12_compares_92 ?_
              refine ab_goto (tgt := 111) dX12_compares_93 (by decide) ?_
              refine z_zret dX12_compares_111 rfl (Or.inr rfl) ?_
              have z31 := sg_in (T := T) (z := z) (p := p9) (cmpo_in g31)
              have hc3 := cmp_jn (v := v9) (w := v53) g31
              have eJ : jn (cmpo (sg T z p9)) v9 v53 = 1 := by
                rw [hc3.2.2]
                (repeat' split) <;> omega
              have hc2 := hc3.2.1
              have hE := evp_op (evp_mono ev9 (show B ≤ B + 1 by omega)) ev53 (Nat.le_refl _) hc2
              rw [eJ] at hE
              exact K1 _ _ _ _ ((pB_ok j9).trans (cmp_2 g31 j53)) (by omega) (by omega) hE Sl53
        · skip
          refine ab_iload_n (k := 2) dX12_compares_65 rfl rfl ?_
          refine ab_iload (k := 0) dX12_compares_66 rfl ?_
          refine z_icmp_ne (tgt := 75) dX12_compares_68 (by decide) (by omega) (by omega) (fun c68 => ?_) (fun c68 => ?_)
          · skip
            refine z_iconst dX12_compares_75 ?_
            refine ab_goto (tgt := 111) dX12_compares_76 (by decide) ?_
            refine z_zret dX12_compares_111 rfl (Or.inl rfl) ?_
            have z31 := sg_in (T := T) (z := z) (p := p9) (cmpo_in g31)
            have hc3 := cmp_jn (v := v9) (w := v53) g31
            have eJ : jn (cmpo (sg T z p9)) v9 v53 = 0 := by
              rw [hc3.2.2]
              (repeat' split) <;> omega
            have hc2 := hc3.2.1
            have hE := evp_op (evp_mono ev9 (show B ≤ B + 1 by omega)) ev53 (Nat.le_refl _) hc2
            rw [eJ] at hE
            exact K1 _ _ _ _ ((pB_ok j9).trans (cmp_2 g31 j53)) (by omega) (by omega) hE Sl53
          · skip
            refine z_iconst dX12_compares_71 ?_
            refine ab_goto (tgt := 111) dX12_compares_72 (by decide) ?_
            refine z_zret dX12_compares_111 rfl (Or.inr rfl) ?_
            have z31 := sg_in (T := T) (z := z) (p := p9) (cmpo_in g31)
            have hc3 := cmp_jn (v := v9) (w := v53) g31
            have eJ : jn (cmpo (sg T z p9)) v9 v53 = 1 := by
              rw [hc3.2.2]
              (repeat' split) <;> omega
            have hc2 := hc3.2.1
            have hE := evp_op (evp_mono ev9 (show B ≤ B + 1 by omega)) ev53 (Nat.le_refl _) hc2
            rw [eJ] at hE
            exact K1 _ _ _ _ ((pB_ok j9).trans (cmp_2 g31 j53)) (by omega) (by omega) hE Sl53
      · skip
        show ab_X (d + 11) mX12_compares 56 [(4, .int (iI (sg T z p9))), (3, .int (iI v9)), (0, .ref 200), (1, .int (iI 0)), (2, .int (iI 0))] [.int (iI v53)] e53 _
        refine ab_istore (ls' := [(5, .int (iI v53)), (4, .int (iI (sg T z p9))), (3, .int (iI v9)), (0, .ref 200), (1, .int (iI 0)), (2, .int (iI 0))]) dX12_compares_56 (by decide) rfl ?_
        refine ab_iload (k := 1) dX12_compares_58 rfl ?_
        refine z_bipush dX12_compares_60 (by decide) ?_
        refine z_icmp_ne (tgt := 79) dX12_compares_62 (by decide) (by omega) (by decide) (fun c62 => ?_) (fun c62 => ?_)
        · skip
          refine ab_iload (k := 1) dX12_compares_79 rfl ?_
          refine z_bipush dX12_compares_81 (by decide) ?_
          refine z_icmp_ne (tgt := 100) dX12_compares_83 (by decide) (by omega) (by decide) (fun c83 => ?_) (fun c83 => ?_)
          · skip
            refine ab_iload_n (k := 2) dX12_compares_100 rfl rfl ?_
            refine ab_iload (k := 0) dX12_compares_101 rfl ?_
            refine z_icmp_le (tgt := 110) dX12_compares_103 (by decide) (by omega) (by omega) (fun c103 => ?_) (fun c103 => ?_)
            · skip
              refine z_iconst dX12_compares_110 ?_
              refine z_zret dX12_compares_111 rfl (Or.inl rfl) ?_
              exact K0 _ _ _ ((congrArg Prod.fst (pB_ok j9)).trans (cmp_3 g31 j53 n53)) n53 (by omega) Se53
            · skip
              refine z_iconst dX12_compares_106 ?_
              refine ab_goto (tgt := 111) dX12_compares_107 (by decide) ?_
              refine z_zret dX12_compares_111 rfl (Or.inr rfl) ?_
              exact K0 _ _ _ ((congrArg Prod.fst (pB_ok j9)).trans (cmp_3 g31 j53 n53)) n53 (by omega) Se53
          · skip
            refine ab_iload_n (k := 2) dX12_compares_86 rfl rfl ?_
            refine ab_iload (k := 0) dX12_compares_87 rfl ?_
            refine z_icmp_ge (tgt := 96) dX12_compares_89 (by decide) (by omega) (by omega) (fun c89 => ?_) (fun c89 => ?_)
            · skip
              refine z_iconst dX12_compares_96 ?_
              refine ab_goto (tgt := 111) dX12_compares_97 (by decide) ?_
              refine z_zret dX12_compares_111 rfl (Or.inl rfl) ?_
              exact K0 _ _ _ ((congrArg Prod.fst (pB_ok j9)).trans (cmp_3 g31 j53 n53)) n53 (by omega) Se53
            · skip
              refine z_iconst dX12_compares_92 ?_
              refine ab_goto (tgt := 111) dX12_compares_93 (by decide) ?_
              refine z_zret dX12_compares_111 rfl (Or.inr rfl) ?_
              exact K0 _ _ _ ((congrArg Prod.fst (pB_ok j9)).trans (cmp_3 g31 j53 n53)) n53 (by omega) Se53
        · skip
          refine ab_iload_n (k := 2) dX12_compares_65 rfl rfl ?_
          refine ab_iload (k := 0) dX12_compares_66 rfl ?_
          refine z_icmp_ne (tgt := 75) dX12_compares_68 (by decide) (by omega) (by omega) (fun c68 => ?_) (fun c68 => ?_)
          · skip
            refine z_iconst dX12_compares_75 ?_
            refine ab_goto (tgt := 111) dX12_compares_76 (by decide) ?_
            refine z_zret dX12_compares_111 rfl (Or.inl rfl) ?_
            exact K0 _ _ _ ((congrArg Prod.fst (pB_ok j9)).trans (cmp_3 g31 j53 n53)) n53 (by omega) Se53
          · skip
            refine z_iconst dX12_compares_71 ?_
            refine ab_goto (tgt := 111) dX12_compares_72 (by decide) ?_
            refine z_zret dX12_compares_111 rfl (Or.inr rfl) ?_
            exact K0 _ _ _ ((congrArg Prod.fst (pB_ok j9)).trans (cmp_3 g31 j53 n53)) n53 (by omega) Se53
    · skip
      show ab_X (d + 11) mX12_compares 34 [(4, .int (iI (sg T z p9))), (3, .int (iI v9)), (0, .ref 200), (1, .int (iI 0)), (2, .int (iI 0))] [.int (iI 0)] l24 _
      refine z_if_ne (tgt := 42) dX12_compares_34 (by decide) (by decide) (fun c34 => absurd c34 (by decide)) (fun _ => ?_)
      refine ab_aload_n (k := 2) dX12_compares_37 rfl rfl ?_
      refine ab_callV (As := []) (rest := []) dX12_compares_38 lX12_149 rfl (Nat.le_of_ble_eq_true rfl) (Nat.le_of_ble_eq_true rfl) rfl ?_
      refine c_mfails ht hx0 Sl24 (fun e38 Se38 => ?_)
      show ab_X (d + 11) mX12_compares 41 [(4, .int (iI (sg T z p9))), (3, .int (iI v9)), (0, .ref 200), (1, .int (iI 0)), (2, .int (iI 0))] [.int (iI 0)] e38 _
      refine z_zret dX12_compares_41 rfl (Or.inl rfl) ?_
      exact K0 _ _ _ ((congrArg Prod.fst (pB_ok j9)).trans (cmp_1 g31)) (by omega) (Or.inl rfl) Se38
  · skip
    show ab_X (d + 11) mX12_compares 12 [(0, .ref 200), (1, .int (iI 0)), (2, .int (iI 0))] [.int (iI v9)] e9 _
    refine ab_istore_n (ls' := [(3, .int (iI v9)), (0, .ref 200), (1, .int (iI 0)), (2, .int (iI 0))]) dX12_compares_12 rfl (by decide) rfl ?_
    refine ab_aload_n (k := 1) dX12_compares_13 rfl rfl ?_
    refine z_getI dX12_compares_14 fX12_143 rfl (Or.inl rfl) ?_
    have b1 := zv_R e9 200 11
    refine z_iconst dX12_compares_17 ?_
    refine z_icmp_eq (tgt := 23) dX12_compares_18 (by decide) (by omega) (by decide) (fun c18 => absurd c18 (fun q => Se9.2.2.1 (Se9.2.1.symm.trans q))) (fun c18 => ?_)
    refine z_iconst dX12_compares_21 ?_
    refine z_zret dX12_compares_22 rfl (Or.inl rfl) ?_
    exact K0 _ _ _ (pB_w j9 n9) n9 (Or.inl rfl) Se9
theorem c_mcmp1 {d : Nat} {h : ab_H} {Q : ab_Q} {T : Nat → Int} {z t b n : Nat} {env : Nat → Int} {h0 : ab_H} {p D : Nat} {B : Nat} {S : Nat → pR} {v0 : Int}  (ht : tx T z) (hx0 : MX T z t b n env h0) (hv0 : -1000000 ≤ v0 ∧ v0 ≤ 1000000) (hS : mdI T z t b n env mX12_sum [.ref 200] S D B (d + 10)) (Sh : ML z h0 h p D) (K1 : ∀ h' p' c' v, cmpF T z S p [] = (-1, p', c') → p ≤ p' → (v = 0 ∨ v = 1) → evp env [v0] c' v (B + 1) → ML z h0 h' p' D → Q (some (.int (iI v))) h') (K0 : ∀ h' v w, (cmpF T z S p []).1 = w → ¬ w = -1 → (v = 0 ∨ v = 1) → MD z h0 h' w → Q (some (.int (iI v))) h') : ab_X (d + 11) mX12_compares 0 (lv_args 0 [.ref 200, .int (iI 1), .int (iI v0)]) [] h Q := by
  show ab_X (d + 11) mX12_compares 0 [(0, .ref 200), (1, .int (iI 1)), (2, .int (iI v0))] [] h Q
  have hz := ht.1
  have hx := MX_F hx0 Sh.1
  have hk := hx.2.2.2.2.1
  have hbn := hx.2.2.2.2.2.1
  have hn1 := hx.2.2.2.2.2.2.1
  have hpz := Sh.2.2.2.2.1
  refine ab_iload_n (k := 1) dX12_compares_0 rfl rfl ?_
  refine z_if_eq (tgt := 8) dX12_compares_1 (by decide) (by decide) (fun c1 => absurd c1 (by decide)) (fun _ => ?_)
  refine ab_iload_n (k := 2) dX12_compares_4 rfl rfl ?_
  refine ab_goto (tgt := 12) dX12_compares_5 (by decide) ?_
  refine ab_istore_n (ls' := [(3, .int (iI v0)), (0, .ref 200), (1, .int (iI 1)), (2, .int (iI v0))]) dX12_compares_12 rfl (by decide) rfl ?_
  refine ab_aload_n (k := 1) dX12_compares_13 rfl rfl ?_
  refine z_getI dX12_compares_14 fX12_143 rfl (Or.inl rfl) ?_
  refine z_is (y := (-1)) Sh.2.2.1 ?_
  refine z_iconst dX12_compares_17 ?_
  refine z_icmp_eq (tgt := 23) dX12_compares_18 (by decide) (by decide) (by decide) (fun _ => ?_) (fun c18 => absurd c18 (by decide))
  refine ab_aload_n (k := 1) dX12_compares_23 rfl rfl ?_
  refine ab_callV (As := []) (rest := []) dX12_compares_24 lX12_153 rfl (Nat.le_of_ble_eq_true rfl) (Nat.le_of_ble_eq_true rfl) rfl ?_
  refine c_mlook ht hx0 Sh (fun l24 Sl24 => ?_)
  have k24 := lk_ge T z p
  have y24 := sg_b ht p
  show ab_X (d + 11) mX12_compares 27 [(3, .int (iI v0)), (0, .ref 200), (1, .int (iI 1)), (2, .int (iI v0))] [.int (iI (sg T z p))] l24 _
  refine ab_istore (ls' := [(4, .int (iI (sg T z p))), (3, .int (iI v0)), (0, .ref 200), (1, .int (iI 1)), (2, .int (iI v0))]) dX12_compares_27 (by decide) rfl ?_
  refine ab_iload (k := 0) dX12_compares_29 rfl ?_
  refine ab_callS (As := [.int (iI (sg T z p))]) (rest := []) dX12_compares_31 lX12_196 (Nat.le_of_ble_eq_true rfl) (Nat.le_of_ble_eq_true rfl) rfl ?_
  refine c_misSign (by omega) (fun g31 => ?_) (fun g31 => ?_)
  · skip
    show ab_X (d + 11) mX12_compares 34 [(4, .int (iI (sg T z p))), (3, .int (iI v0)), (0, .ref 200), (1, .int (iI 1)), (2, .int (iI v0))] [.int (iI 1)] l24 _
    refine z_if_ne (tgt := 42) dX12_compares_34 (by decide) (by decide) (fun _ => ?_) (fun c34 => absurd c34 (by decide))
    have z42 := sg_in (T := T) (z := z) (p := p) (cmpo_in g31)
    refine ab_aload_n (k := 2) dX12_compares_42 rfl rfl ?_
    refine ab_dup dX12_compares_43 rfl ?_
    refine z_getI dX12_compares_44 fX12_134 rfl (Or.inl rfl) ?_
    refine z_is (y := (((lk T z p) : Nat) : Int)) Sl24.2.1 ?_
    refine z_iconst dX12_compares_47 ?_
    refine z_iadd dX12_compares_48 ?_
    refine z_putI dX12_compares_49 fX12_134 rfl rfl ?_
    obtain ⟨n49, en49⟩ : ∃ zz : ab_H, zz = zp l24 200 10 ((((lk T z p) : Nat) : Int) + 1) := ⟨_, rfl⟩
    rw [← en49]
    have Sn49 : ML z h0 n49 ((lk T z p) + 1) D := by rw [en49]; exact ML_at Sl24 hz (by omega) (by omega)
    refine ab_aload_n (k := 2) dX12_compares_52 rfl rfl ?_
    refine ab_callV (As := []) (rest := []) dX12_compares_53 lX12_176 rfl (Nat.le_of_ble_eq_true rfl) (Nat.le_of_ble_eq_true rfl) rfl ?_
    refine hS h0 _ _ _ hx0 Sn49 (fun l53 p53 c53 v53 j53 b53 vb53 ev53 Sl53 => ?_) (fun e53 v53 w53 j53 n53 vb53 Se53 => ?_)
    · skip
      have r53 := Sl53.2.2.2.2.1
      show ab_X (d + 11) mX12_compares 56 [(4, .int (iI (sg T z p))), (3, .int (iI v0)), (0, .ref 200), (1, .int (iI 1)), (2, .int (iI v0))] [.int (iI v53)] l53 _
      refine ab_istore (ls' := [(5, .int (iI v53)), (4, .int (iI (sg T z p))), (3, .int (iI v0)), (0, .ref 200), (1, .int (iI 1)), (2, .int (iI v0))]) dX12_compares_56 (by decide) rfl ?_
      refine ab_iload (k := 1) dX12_compares_58 rfl ?_
      refine z_bipush dX12_compares_60 (by decide) ?_
      refine z_icmp_ne (tgt := 79) dX12_compares_62 (by decide) (by omega) (by decide) (fun c62 => ?_) (fun c62 => ?_)
      · skip
        refine ab_iload (k := 1) dX12_compares_79 rfl ?_
        refine z_bipush dX12_compares_81 (by decide) ?_
        refine z_icmp_ne (tgt := 100) dX12_compares_83 (by decide) (by omega) (by decide) (fun c83 => ?_) (fun c83 => ?_)
        · skip
          refine ab_iload_n (k := 2) dX12_compares_100 rfl rfl ?_
          refine ab_iload (k := 0) dX12_compares_101 rfl ?_
          refine z_icmp_le (tgt := 110) dX12_compares_103 (by decide) (by omega) (by omega) (fun c103 => ?_) (fun c103 => ?_)
          · skip
            refine z_iconst dX12_compares_110 ?_
            refine z_zret dX12_compares_111 rfl (Or.inl rfl) ?_
            have z31 := sg_in (T := T) (z := z) (p := p) (cmpo_in g31)
            have hc3 := cmp_jn (v := v0) (w := v53) g31
            have eJ : jn (cmpo (sg T z p)) v0 v53 = 0 := by
              rw [hc3.2.2]
              (repeat' split) <;> omega
            have hc2 := hc3.2.1
            have hE := evp_cmp (v := v0) ev53 (Nat.le_refl _) hc2
            rw [eJ] at hE
            exact K1 _ _ _ _ (cmp_2 g31 j53) (by omega) (by omega) hE Sl53
          · skip
            refine z_iconst dX12_compares_106 ?_
            refine ab_goto (tgt := 111) dX12_compares_107 (by decide) ?_
            refine z_zret dX12_compares_111 rfl (Or.inr rfl) ?_
            have z31 := sg_in (T := T) (z := z) (p := p) (cmpo_in g31)
            have hc3 := cmp_jn (v := v0) (w := v53) g31
            have eJ : jn (cmpo (sg T z p)) v0 v53 = 1 := by
              rw [hc3.2.2]
              (repeat' split) <;> omega
            have hc2 := hc3.2.1
            have hE := evp_cmp (v := v0) ev53 (Nat.le_refl _) hc2
            rw [eJ] at hE
            exact K1 _ _ _ _ (cmp_2 g31 j53) (by omega) (by omega) hE Sl53
        · skip
          refine ab_iload_n (k := 2) dX12_compares_86 rfl rfl ?_
          refine ab_iload (k := 0) dX12_compares_87 rfl ?_
          refine z_icmp_ge (tgt := 96) dX12_compares_89 (by decide) (by omega) (by omega) (fun c89 => ?_) (fun c89 => ?_)
          · skip
            refine z_iconst dX12_compares_96 ?_
            refine ab_goto (tgt := 111) dX12_compares_97 (by decide) ?_
            refine z_zret dX12_compares_111 rfl (Or.inl rfl) ?_
            have z31 := sg_in (T := T) (z := z) (p := p) (cmpo_in g31)
            have hc3 := cmp_jn (v := v0) (w := v53) g31
            have eJ : jn (cmpo (sg T z p)) v0 v53 = 0 := by
              rw [hc3.2.2]
              (repeat' split) <;> omega
            have hc2 := hc3.2.1
            have hE := evp_cmp (v := v0) ev53 (Nat.le_refl _) hc2
            rw [eJ] at hE
            exact K1 _ _ _ _ (cmp_2 g31 j53) (by omega) (by omega) hE Sl53
          · skip
            refine z_iconst dX12_compares_92 ?_
            refine ab_goto (tgt := 111) dX12_compares_93 (by decide) ?_
            refine z_zret dX12_compares_111 rfl (Or.inr rfl) ?_
            have z31 := sg_in (T := T) (z := z) (p := p) (cmpo_in g31)
            have hc3 := cmp_jn (v := v0) (w := v53) g31
            have eJ : jn (cmpo (sg T z p)) v0 v53 = 1 := by
              rw [hc3.2.2]
              (repeat' split) <;> omega
            have hc2 := hc3.2.1
            have hE := evp_cmp (v := v0) ev53 (Nat.le_refl _) hc2
            rw [eJ] at hE
            exact K1 _ _ _ _ (cmp_2 g31 j53) (by omega) (by omega) hE Sl53
      · skip
        refine ab_iload_n (k := 2) dX12_compares_65 rfl rfl ?_
        refine ab_iload (k := 0) dX12_compares_66 rfl ?_
        refine z_icmp_ne (tgt := 75) dX12_compares_68 (by decide) (by omega) (by omega) (fun c68 => ?_) (fun c68 => ?_)
        · skip
          refine z_iconst dX12_compares_75 ?_
          refine ab_goto (tgt := 111) dX12_compares_76 (by decide) ?_
          refine z_zret dX12_compares_111 rfl (Or.inl rfl) ?_
          have z31 := sg_in (T := T) (z := z) (p := p) (cmpo_in g31)
          have hc3 := cmp_jn (v := v0) (w := v53) g31
          have eJ : jn (cmpo (sg T z p)) v0 v53 = 0 := by
            rw [hc3.2.2]
            (repeat' split) <;> omega
          have hc2 := hc3.2.1
          have hE := evp_cmp (v := v0) ev53 (Nat.le_refl _) hc2
          rw [eJ] at hE
          exact K1 _ _ _ _ (cmp_2 g31 j53) (by omega) (by omega) hE Sl53
        · skip
          refine z_iconst dX12_compares_71 ?_
          refine ab_goto (tgt := 111) dX12_compares_72 (by decide) ?_
          refine z_zret dX12_compares_111 rfl (Or.inr rfl) ?_
          have z31 := sg_in (T := T) (z := z) (p := p) (cmpo_in g31)
          have hc3 := cmp_jn (v := v0) (w := v53) g31
          have eJ : jn (cmpo (sg T z p)) v0 v53 = 1 := by
            rw [hc3.2.2]
            (repeat' split) <;> omega
          have hc2 := hc3.2.1
          have hE := evp_cmp (v := v0) ev53 (Nat.le_refl _) hc2
          rw [eJ] at hE
          exact K1 _ _ _ _ (cmp_2 g31 j53) (by omega) (by omega) hE Sl53
    · skip
      show ab_X (d + 11) mX12_compares 56 [(4, .int (iI (sg T z p))), (3, .int (iI v0)), (0, .ref 200), (1, .int (iI 1)), (2, .int (iI v0))] [.int (iI v53)] e53 _
      refine ab_istore (ls' := [(5, .int (iI v53)), (4, .int (iI (sg T z p))), (3, .int (iI v0)), (0, .ref 200), (1, .int (iI 1)), (2, .int (iI v0))]) dX12_compares_56 (by decide) rfl ?_
      refine ab_iload (k := 1) dX12_compares_58 rfl ?_
      refine z_bipush dX12_compares_60 (by decide) ?_
      refine z_icmp_ne (tgt := 79) dX12_compares_62 (by decide) (by omega) (by decide) (fun c62 => ?_) (fun c62 => ?_)
      · skip
        refine ab_iload (k := 1) dX12_compares_79 rfl ?_
        refine z_bipush dX12_compares_81 (by decide) ?_
        refine z_icmp_ne (tgt := 100) dX12_compares_83 (by decide) (by omega) (by decide) (fun c83 => ?_) (fun c83 => ?_)
        · skip
          refine ab_iload_n (k := 2) dX12_compares_100 rfl rfl ?_
          refine ab_iload (k := 0) dX12_compares_101 rfl ?_
          refine z_icmp_le (tgt := 110) dX12_compares_103 (by decide) (by omega) (by omega) (fun c103 => ?_) (fun c103 => ?_)
          · skip
            refine z_iconst dX12_compares_110 ?_
            refine z_zret dX12_compares_111 rfl (Or.inl rfl) ?_
            exact K0 _ _ _ (cmp_3 g31 j53 n53) n53 (by omega) Se53
          · skip
            refine z_iconst dX12_compares_106 ?_
            refine ab_goto (tgt := 111) dX12_compares_107 (by decide) ?_
            refine z_zret dX12_compares_111 rfl (Or.inr rfl) ?_
            exact K0 _ _ _ (cmp_3 g31 j53 n53) n53 (by omega) Se53
        · skip
          refine ab_iload_n (k := 2) dX12_compares_86 rfl rfl ?_
          refine ab_iload (k := 0) dX12_compares_87 rfl ?_
          refine z_icmp_ge (tgt := 96) dX12_compares_89 (by decide) (by omega) (by omega) (fun c89 => ?_) (fun c89 => ?_)
          · skip
            refine z_iconst dX12_compares_96 ?_
            refine ab_goto (tgt := 111) dX12_compares_97 (by decide) ?_
            refine z_zret dX12_compares_111 rfl (Or.inl rfl) ?_
            exact K0 _ _ _ (cmp_3 g31 j53 n53) n53 (by omega) Se53
          · skip
            refine z_iconst dX12_compares_92 ?_
            refine ab_goto (tgt := 111) dX12_compares_93 (by decide) ?_
            refine z_zret dX12_compares_111 rfl (Or.inr rfl) ?_
            exact K0 _ _ _ (cmp_3 g31 j53 n53) n53 (by omega) Se53
      · skip
        refine ab_iload_n (k := 2) dX12_compares_65 rfl rfl ?_
        refine ab_iload (k := 0) dX12_compares_66 rfl ?_
        refine z_icmp_ne (tgt := 75) dX12_compares_68 (by decide) (by omega) (by omega) (fun c68 => ?_) (fun c68 => ?_)
        · skip
          refine z_iconst dX12_compares_75 ?_
          refine ab_goto (tgt := 111) dX12_compares_76 (by decide) ?_
          refine z_zret dX12_compares_111 rfl (Or.inl rfl) ?_
          exact K0 _ _ _ (cmp_3 g31 j53 n53) n53 (by omega) Se53
        · skip
          refine z_iconst dX12_compares_71 ?_
          refine ab_goto (tgt := 111) dX12_compares_72 (by decide) ?_
          refine z_zret dX12_compares_111 rfl (Or.inr rfl) ?_
          exact K0 _ _ _ (cmp_3 g31 j53 n53) n53 (by omega) Se53
  · skip
    show ab_X (d + 11) mX12_compares 34 [(4, .int (iI (sg T z p))), (3, .int (iI v0)), (0, .ref 200), (1, .int (iI 1)), (2, .int (iI v0))] [.int (iI 0)] l24 _
    refine z_if_ne (tgt := 42) dX12_compares_34 (by decide) (by decide) (fun c34 => absurd c34 (by decide)) (fun _ => ?_)
    refine ab_aload_n (k := 2) dX12_compares_37 rfl rfl ?_
    refine ab_callV (As := []) (rest := []) dX12_compares_38 lX12_149 rfl (Nat.le_of_ble_eq_true rfl) (Nat.le_of_ble_eq_true rfl) rfl ?_
    refine c_mfails ht hx0 Sl24 (fun e38 Se38 => ?_)
    show ab_X (d + 11) mX12_compares 41 [(4, .int (iI (sg T z p))), (3, .int (iI v0)), (0, .ref 200), (1, .int (iI 1)), (2, .int (iI v0))] [.int (iI 0)] e38 _
    refine z_zret dX12_compares_41 rfl (Or.inl rfl) ?_
    exact K0 _ _ _ (cmp_1 g31) (by omega) (Or.inl rfl) Se38
theorem c_munit0 {d : Nat} {h : ab_H} {Q : ab_Q} {T : Nat → Int} {z t b n : Nat} {env : Nat → Int} {h0 : ab_H} {p D : Nat} {B B0 : Nat} {S : Nat → pR} {sub : Option ((Bool → Nat → pR) × (Bool → Nat → pR))}  (ht : tx T z) (hx0 : MX T z t b n env h0) (hS : mdI T z t b n env mX12_sum [.ref 200] S D B (d + 10)) (hu1 : D < 6 → ∃ U C, sub = some (U, C) ∧ mdB T z t b n env [] mX12_unit [.ref 200] (U false) (D + 1) B0 (d + 11) ∧ mdB T z t b n env [] mX12_condition [.ref 200, .int (iI 0), .int (iI 0)] (C false) (D + 1) (B0 + 2) (d + 11)) (hu0 : D = 6 → sub = none) (hB : B0 + 2 ≤ B + 1 ∧ 1 ≤ B0) (Sh : ML z h0 h p D) (K1 : ∀ h' p' c' v, unitF T z sub S false p = (-1, p', c') → p ≤ p' → (v = 0 ∨ v = 1) → evp env [] c' v (B + 1) → ML z h0 h' p' D → Q (some (.int (iI v))) h') (K0 : ∀ h' v w, (unitF T z sub S false p).1 = w → ¬ w = -1 → (v = 0 ∨ v = 1) → MD z h0 h' w → Q (some (.int (iI v))) h') : ab_X (d + 12) mX12_unit 0 (lv_args 0 [.ref 200]) [] h Q := by
  show ab_X (d + 12) mX12_unit 0 [(0, .ref 200)] [] h Q
  have hz := ht.1
  have hx := MX_F hx0 Sh.1
  have hk := hx.2.2.2.2.1
  have hbn := hx.2.2.2.2.2.1
  have hn1 := hx.2.2.2.2.2.2.1
  have hpz := Sh.2.2.2.2.1
  have hD6 := Sh.2.2.2.2.2
  refine ab_aload_n (k := 0) dX12_unit_0 rfl rfl ?_
  refine ab_callV (As := []) (rest := []) dX12_unit_1 lX12_153 rfl (Nat.le_of_ble_eq_true rfl) (Nat.le_of_ble_eq_true rfl) rfl ?_
  refine c_mlook ht hx0 Sh (fun l1 Sl1 => ?_)
  have k1 := lk_ge T z p
  have y1 := sg_b ht p
  show ab_X (d + 12) mX12_unit 4 [(0, .ref 200)] [.int (iI (sg T z p))] l1 _
  refine ab_istore_n (ls' := [(1, .int (iI (sg T z p))), (0, .ref 200)]) dX12_unit_4 rfl (by decide) rfl ?_
  refine ab_iload_n (k := 0) dX12_unit_5 rfl rfl ?_
  refine z_bipush dX12_unit_6 (by decide) ?_
  refine z_icmp_ne (tgt := 45) dX12_unit_8 (by decide) (by omega) (by decide) (fun c8 => ?_) (fun c8 => ?_)
  · skip
    refine ab_iload_n (k := 0) dX12_unit_45 rfl rfl ?_
    refine z_bipush dX12_unit_46 (by decide) ?_
    refine z_icmp_ne (tgt := 90) dX12_unit_48 (by decide) (by omega) (by decide) (fun c48 => ?_) (fun c48 => ?_)
    · skip
      refine ab_aload_n (k := 1) dX12_unit_90 rfl rfl ?_
      refine z_iconst dX12_unit_91 ?_
      refine z_iconst dX12_unit_92 ?_
      refine ab_callV (As := [.int (iI 0), .int (iI 0)]) (rest := []) dX12_unit_93 lX12_206 rfl (Nat.le_of_ble_eq_true rfl) (Nat.le_of_ble_eq_true rfl) rfl ?_
      refine c_mcmp0 ht hx0 hS Sl1 (fun l93 p93 c93 v93 j93 b93 vb93 ev93 Sl93 => ?_) (fun e93 v93 w93 j93 n93 vb93 Se93 => ?_)
      · skip
        have r93 := Sl93.2.2.2.2.1
        show ab_X (d + 12) mX12_unit 96 [(1, .int (iI (sg T z p))), (0, .ref 200)] [.int (iI v93)] l93 _
        refine z_zret dX12_unit_96 rfl (by omega) ?_
        exact K1 _ _ _ _ ((unit_9 (by omega) (by omega)).trans j93) (by omega) vb93 (evp_mono ev93 (by omega)) Sl93
      · skip
        show ab_X (d + 12) mX12_unit 96 [(1, .int (iI (sg T z p))), (0, .ref 200)] [.int (iI v93)] e93 _
        refine z_zret dX12_unit_96 rfl (by omega) ?_
        exact K0 _ _ _ ((congrArg Prod.fst (unit_9 (by omega) (by omega))).trans j93) n93 vb93 Se93
    · skip
      refine ab_aload_n (k := 1) dX12_unit_51 rfl rfl ?_
      refine ab_callV (As := []) (rest := []) dX12_unit_52 lX12_173 rfl (Nat.le_of_ble_eq_true rfl) (Nat.le_of_ble_eq_true rfl) rfl ?_
      have z52 := sg_in (T := T) (z := z) (p := p) (by omega)
      refine c_mgoesIn ht hx0 Sl1 (by omega) (fun D52 l52 Sl52 => ?_) (fun D52 e52 Se52 => ?_)
      · skip
        show ab_X (d + 12) mX12_unit 55 [(1, .int (iI (sg T z p))), (0, .ref 200)] [.int (iI 1)] l52 _
        refine z_if_ne (tgt := 60) dX12_unit_55 (by decide) (by decide) (fun _ => ?_) (fun c55 => absurd c55 (by decide))
        refine ab_aload_n (k := 1) dX12_unit_60 rfl rfl ?_
        refine z_iconst dX12_unit_61 ?_
        refine z_iconst dX12_unit_62 ?_
        refine ab_callV (As := [.int (iI 0), .int (iI 0)]) (rest := []) dX12_unit_63 lX12_202 rfl (Nat.le_of_ble_eq_true rfl) (Nat.le_of_ble_eq_true rfl) rfl ?_
        obtain ⟨U, C, hg, hU, hC⟩ := hu1 (by omega)
        refine hC h0 _ _ _ hx0 Sl52 (fun l63 p63 c63 v63 j63 b63 vb63 ev63 Sl63 => ?_) (fun e63 v63 w63 j63 n63 vb63 Se63 => ?_)
        · skip
          have r63 := Sl63.2.2.2.2.1
          show ab_X (d + 12) mX12_unit 66 [(1, .int (iI (sg T z p))), (0, .ref 200)] [.int (iI v63)] l63 _
          refine ab_istore_n (ls' := [(2, .int (iI v63)), (1, .int (iI (sg T z p))), (0, .ref 200)]) dX12_unit_66 rfl (by decide) rfl ?_
          refine ab_aload_n (k := 2) dX12_unit_67 rfl rfl ?_
          refine z_bipush dX12_unit_68 (by decide) ?_
          refine ab_callV (As := [.int (iI 41)]) (rest := []) dX12_unit_70 lX12_179 rfl (Nat.le_of_ble_eq_true rfl) (Nat.le_of_ble_eq_true rfl) rfl ?_
          have k70 := lk_ge T z p63
          refine c_mtakes ht hx0 (by decide) Sl63 (fun x70 l70 Sl70 => ?_) (fun x70 e70 Se70 => ?_)
          · skip
            have b70 := Sl70.2.2.2.2.1
            show ab_X (d + 12) mX12_unit 73 [(2, .int (iI v63)), (1, .int (iI (sg T z p))), (0, .ref 200)] [.int (iI 1)] l70 _
            refine z_if_ne (tgt := 78) dX12_unit_73 (by decide) (by decide) (fun _ => ?_) (fun c73 => absurd c73 (by decide))
            refine ab_aload_n (k := 2) dX12_unit_78 rfl rfl ?_
            refine ab_dup dX12_unit_79 rfl ?_
            refine z_getI dX12_unit_80 fX12_146 rfl (Or.inl rfl) ?_
            refine z_is (y := (((D + 1) : Nat) : Int)) Sl70.2.2.2.1 ?_
            refine z_iconst dX12_unit_83 ?_
            refine z_isub dX12_unit_84 ?_
            refine z_putI dX12_unit_85 fX12_146 rfl rfl ?_
            obtain ⟨n85, en85⟩ : ∃ zz : ab_H, zz = zp l70 200 12 ((((D + 1) : Nat) : Int) - 1) := ⟨_, rfl⟩
            rw [← en85]
            have Sn85 : ML z h0 n85 (lk T z p63 + 1) D := by rw [en85]; exact ML_dp Sl70 (by omega) (by omega)
            refine ab_iload_n (k := 0) dX12_unit_88 rfl rfl ?_
            refine z_zret dX12_unit_89 rfl (by omega) ?_
            exact K1 _ _ _ _ (unit_4 (by omega) hg j63 x70) (by omega) vb63 (evp_mono ev63 (by omega)) Sn85
          · skip
            show ab_X (d + 12) mX12_unit 73 [(2, .int (iI v63)), (1, .int (iI (sg T z p))), (0, .ref 200)] [.int (iI 0)] e70 _
            refine z_if_ne (tgt := 78) dX12_unit_73 (by decide) (by decide) (fun c73 => absurd c73 (by decide)) (fun _ => ?_)
            refine z_iconst dX12_unit_76 ?_
            refine z_zret dX12_unit_77 rfl (Or.inl rfl) ?_
            exact K0 _ _ _ (unit_5 (by omega) hg j63 x70) (by omega) (by omega) Se70
        · skip
          show ab_X (d + 12) mX12_unit 66 [(1, .int (iI (sg T z p))), (0, .ref 200)] [.int (iI v63)] e63 _
          refine ab_istore_n (ls' := [(2, .int (iI v63)), (1, .int (iI (sg T z p))), (0, .ref 200)]) dX12_unit_66 rfl (by decide) rfl ?_
          refine ab_aload_n (k := 2) dX12_unit_67 rfl rfl ?_
          refine z_bipush dX12_unit_68 (by decide) ?_
          refine ab_callV (As := [.int (iI 41)]) (rest := []) dX12_unit_70 lX12_179 rfl (Nat.le_of_ble_eq_true rfl) (Nat.le_of_ble_eq_true rfl) rfl ?_
          refine c_mtakesD Se63 ?_
          show ab_X (d + 12) mX12_unit 73 [(2, .int (iI v63)), (1, .int (iI (sg T z p))), (0, .ref 200)] [.int (iI 0)] e63 _
          refine z_if_ne (tgt := 78) dX12_unit_73 (by decide) (by decide) (fun c73 => absurd c73 (by decide)) (fun _ => ?_)
          refine z_iconst dX12_unit_76 ?_
          refine z_zret dX12_unit_77 rfl (Or.inl rfl) ?_
          exact K0 _ _ _ (unit_6 (by omega) hg j63 n63) n63 (by omega) Se63
      · skip
        show ab_X (d + 12) mX12_unit 55 [(1, .int (iI (sg T z p))), (0, .ref 200)] [.int (iI 0)] e52 _
        refine z_if_ne (tgt := 60) dX12_unit_55 (by decide) (by decide) (fun c55 => absurd c55 (by decide)) (fun _ => ?_)
        refine z_iconst dX12_unit_58 ?_
        refine z_zret dX12_unit_59 rfl (Or.inl rfl) ?_
        exact K0 _ _ _ (unit_3 (by omega) (hu0 D52)) (by omega) (by omega) Se52
  · skip
    refine ab_aload_n (k := 1) dX12_unit_11 rfl rfl ?_
    refine ab_callV (As := []) (rest := []) dX12_unit_12 lX12_173 rfl (Nat.le_of_ble_eq_true rfl) (Nat.le_of_ble_eq_true rfl) rfl ?_
    have z12 := sg_in (T := T) (z := z) (p := p) (by omega)
    refine c_mgoesIn ht hx0 Sl1 (by omega) (fun D12 l12 Sl12 => ?_) (fun D12 e12 Se12 => ?_)
    · skip
      show ab_X (d + 12) mX12_unit 15 [(1, .int (iI (sg T z p))), (0, .ref 200)] [.int (iI 1)] l12 _
      refine z_if_ne (tgt := 20) dX12_unit_15 (by decide) (by decide) (fun _ => ?_) (fun c15 => absurd c15 (by decide))
      refine ab_aload_n (k := 1) dX12_unit_20 rfl rfl ?_
      refine ab_callV (As := []) (rest := []) dX12_unit_21 lX12_199 rfl (Nat.le_of_ble_eq_true rfl) (Nat.le_of_ble_eq_true rfl) rfl ?_
      obtain ⟨U, C, hg, hU, hC⟩ := hu1 (by omega)
      refine hU h0 _ _ _ hx0 Sl12 (fun l21 p21 c21 v21 j21 b21 vb21 ev21 Sl21 => ?_) (fun e21 v21 w21 j21 n21 vb21 Se21 => ?_)
      · skip
        have r21 := Sl21.2.2.2.2.1
        show ab_X (d + 12) mX12_unit 24 [(1, .int (iI (sg T z p))), (0, .ref 200)] [.int (iI v21)] l21 _
        refine ab_istore_n (ls' := [(2, .int (iI v21)), (1, .int (iI (sg T z p))), (0, .ref 200)]) dX12_unit_24 rfl (by decide) rfl ?_
        refine ab_aload_n (k := 2) dX12_unit_25 rfl rfl ?_
        refine ab_dup dX12_unit_26 rfl ?_
        refine z_getI dX12_unit_27 fX12_146 rfl (Or.inl rfl) ?_
        refine z_is (y := (((D + 1) : Nat) : Int)) Sl21.2.2.2.1 ?_
        refine z_iconst dX12_unit_30 ?_
        refine z_isub dX12_unit_31 ?_
        refine z_putI dX12_unit_32 fX12_146 rfl rfl ?_
        obtain ⟨n32, en32⟩ : ∃ zz : ab_H, zz = zp l21 200 12 ((((D + 1) : Nat) : Int) - 1) := ⟨_, rfl⟩
        rw [← en32]
        have Sn32 : ML z h0 n32 p21 D := by rw [en32]; exact ML_dp Sl21 (by omega) (by omega)
        refine ab_iload_n (k := 0) dX12_unit_35 rfl rfl ?_
        refine z_if_ne (tgt := 43) dX12_unit_36 (by decide) (by omega) (fun c36 => ?_) (fun c36 => ?_)
        · skip
          refine z_iconst dX12_unit_43 ?_
          refine z_zret dX12_unit_44 rfl (Or.inl rfl) ?_
          have hE := evp_not ev21 (show 1 ≤ B0 by omega)
          rw [show (if v21 = 0 then (1 : Int) else 0) = 0 by first | rw [if_pos (by omega)] | rw [if_neg (by omega)]] at hE
          exact K1 _ _ _ _ (unit_1 (by omega) hg j21) (by omega) (by omega) (evp_mono hE (by omega)) Sn32
        · skip
          refine z_iconst dX12_unit_39 ?_
          refine ab_goto (tgt := 44) dX12_unit_40 (by decide) ?_
          refine z_zret dX12_unit_44 rfl (Or.inr rfl) ?_
          have hE := evp_not ev21 (show 1 ≤ B0 by omega)
          rw [show (if v21 = 0 then (1 : Int) else 0) = 1 by first | rw [if_pos (by omega)] | rw [if_neg (by omega)]] at hE
          exact K1 _ _ _ _ (unit_1 (by omega) hg j21) (by omega) (by omega) (evp_mono hE (by omega)) Sn32
      · skip
        show ab_X (d + 12) mX12_unit 24 [(1, .int (iI (sg T z p))), (0, .ref 200)] [.int (iI v21)] e21 _
        refine ab_istore_n (ls' := [(2, .int (iI v21)), (1, .int (iI (sg T z p))), (0, .ref 200)]) dX12_unit_24 rfl (by decide) rfl ?_
        refine ab_aload_n (k := 2) dX12_unit_25 rfl rfl ?_
        refine ab_dup dX12_unit_26 rfl ?_
        refine z_getI dX12_unit_27 fX12_146 rfl (Or.inl rfl) ?_
        have b1 := zv_R e21 200 12
        refine z_iconst dX12_unit_30 ?_
        refine z_isub dX12_unit_31 ?_
        refine z_putI dX12_unit_32 fX12_146 rfl rfl ?_
        obtain ⟨en32, een32⟩ : ∃ zz : ab_H, zz = zp e21 200 12 ((zv e21 200 12) - 1) := ⟨_, rfl⟩
        rw [← een32]
        have Sen32 := MD_dp (x := (zv e21 200 12) - 1) Se21
        rw [← een32] at Sen32
        refine ab_iload_n (k := 0) dX12_unit_35 rfl rfl ?_
        refine z_if_ne (tgt := 43) dX12_unit_36 (by decide) (by omega) (fun c36 => ?_) (fun c36 => ?_)
        · skip
          refine z_iconst dX12_unit_43 ?_
          refine z_zret dX12_unit_44 rfl (Or.inl rfl) ?_
          exact K0 _ _ _ (unit_2 (by omega) hg j21 n21) n21 (by omega) Sen32
        · skip
          refine z_iconst dX12_unit_39 ?_
          refine ab_goto (tgt := 44) dX12_unit_40 (by decide) ?_
          refine z_zret dX12_unit_44 rfl (Or.inr rfl) ?_
          exact K0 _ _ _ (unit_2 (by omega) hg j21 n21) n21 (by omega) Sen32
    · skip
      show ab_X (d + 12) mX12_unit 15 [(1, .int (iI (sg T z p))), (0, .ref 200)] [.int (iI 0)] e12 _
      refine z_if_ne (tgt := 20) dX12_unit_15 (by decide) (by decide) (fun c15 => absurd c15 (by decide)) (fun _ => ?_)
      refine z_iconst dX12_unit_18 ?_
      refine z_zret dX12_unit_19 rfl (Or.inl rfl) ?_
      exact K0 _ _ _ (unit_3 (by omega) (hu0 D12)) (by omega) (by omega) Se12
theorem dl_mpart {d : Nat} {h : ab_H} {Q : ab_Q} {T : Nat → Int} {z t b n : Nat} {env : Nat → Int} {h0 : ab_H} {w v : Int}  (hv : v = 0 ∨ v = 1) (Seh : MD z h0 h w) (K : Q (some (.int (iI v))) h) : ab_X (d + 13) mX12_part 18 [(0, .ref 200), (3, .int (iI v))] [] h Q := by
  refine ab_aload_n (k := 0) dX12_part_18 rfl rfl ?_
  refine z_getI dX12_part_19 fX12_143 rfl (Or.inl rfl) ?_
  have b1 := zv_R h 200 11
  refine z_iconst dX12_part_22 ?_
  refine z_icmp_ne (tgt := 69) dX12_part_23 (by decide) (by omega) (by decide) (fun c23 => ?_) (fun c23 => absurd c23 (fun q => Seh.2.2.1 (Seh.2.1.symm.trans q)))
  refine ab_iload_n (k := 1) dX12_part_69 rfl rfl ?_
  refine z_zret dX12_part_70 rfl (by omega) ?_
  exact K
theorem lp_mpart {d : Nat} {Q : ab_Q} {h0 : ab_H} {T : Nat → Int} {z t b n : Nat} {env : Nat → Int} {p0 D B : Nat} {pre : List Int} {nx : Nat → pR} {R : pR}  (ht : tx T z) (hx0 : MX T z t b n env h0) (hN : mdB T z t b n env [] mX12_unit [.ref 200] nx D B (d + 12)) (K1 : ∀ h' p' c' v, R = (-1, p', c') → p0 ≤ p' → (v = 0 ∨ v = 1) → evp env pre c' v (B + 1) → ML z h0 h' p' D → Q (some (.int (iI v))) h') (K0 : ∀ h' v w, R.1 = w → ¬ w = -1 → (v = 0 ∨ v = 1) → MD z h0 h' w → Q (some (.int (iI v))) h') : ∀ (nn : Nat) (q : Nat) (i : Nat) (c1 : List (Int × Int)) (v : Int) (h : ab_H), 160 - i = nn → (ML z h0 h q D) → (i ≤ 160) → (i ≤ q) → (p0 ≤ q) → (v = 0 ∨ v = 1) → (evp env pre c1 v (B + 1)) → (seqL T z nx 38 38 10 10 (160 - i) q c1 = R) → ab_X (d + 13) mX12_part 18 [(0, .ref 200), (3, .int (iI v))] [] h Q := by
  intro nn
  induction nn using Nat.strongRecOn with
  | ind nn ih =>
  intro q i c1 v h hnn Sh hi hiq hpq hv hev hR
  have hz := ht.1
  have hx := MX_F hx0 Sh.1
  have hk := hx.2.2.2.2.1
  have hbn := hx.2.2.2.2.2.1
  have hn1 := hx.2.2.2.2.2.2.1
  have hpz := Sh.2.2.2.2.1
  refine ab_aload_n (k := 0) dX12_part_18 rfl rfl ?_
  refine z_getI dX12_part_19 fX12_143 rfl (Or.inl rfl) ?_
  refine z_is (y := (-1)) Sh.2.2.1 ?_
  refine z_iconst dX12_part_22 ?_
  refine z_icmp_ne (tgt := 69) dX12_part_23 (by decide) (by decide) (by decide) (fun c23 => absurd c23 (by decide)) (fun _ => ?_)
  refine ab_aload_n (k := 0) dX12_part_26 rfl rfl ?_
  refine ab_callV (As := []) (rest := []) dX12_part_27 lX12_153 rfl (Nat.le_of_ble_eq_true rfl) (Nat.le_of_ble_eq_true rfl) rfl ?_
  refine c_mlook ht hx0 Sh (fun l27 Sl27 => ?_)
  have k27 := lk_ge T z q
  have y27 := sg_b ht q
  show ab_X (d + 13) mX12_part 30 [(0, .ref 200), (3, .int (iI v))] [.int (iI (sg T z q))] l27 _
  refine z_bipush dX12_part_30 (by decide) ?_
  refine z_icmp_ne (tgt := 69) dX12_part_32 (by decide) (by omega) (by decide) (fun c32 => ?_) (fun c32 => ?_)
  · skip
    refine ab_iload_n (k := 1) dX12_part_69 rfl rfl ?_
    refine z_zret dX12_part_70 rfl (by omega) ?_
    have e3 := seqL_n (T := T) (z := z) (next := nx) (a := 38) (b := 38) (oa := 10) (ob := 10) (p := q) (c := c1) (by unfold opo; rw [if_neg (by omega), if_neg (by omega)]) (160 - i)
    rw [hR] at e3
    exact K1 _ _ _ _ e3 (by omega) hv hev Sl27
  · skip
    have zz := sg_in (T := T) (z := z) (p := q) (by omega)
    refine ab_aload_n (k := 0) dX12_part_35 rfl rfl ?_
    refine ab_dup dX12_part_36 rfl ?_
    refine z_getI dX12_part_37 fX12_134 rfl (Or.inl rfl) ?_
    refine z_is (y := (((lk T z q) : Nat) : Int)) Sl27.2.1 ?_
    refine z_iconst dX12_part_40 ?_
    refine z_iadd dX12_part_41 ?_
    refine z_putI dX12_part_42 fX12_134 rfl rfl ?_
    obtain ⟨n42, en42⟩ : ∃ zz : ab_H, zz = zp l27 200 10 ((((lk T z q) : Nat) : Int) + 1) := ⟨_, rfl⟩
    rw [← en42]
    have Sn42 : ML z h0 n42 ((lk T z q) + 1) D := by rw [en42]; exact ML_at Sl27 hz (by omega) (by omega)
    refine ab_aload_n (k := 0) dX12_part_45 rfl rfl ?_
    refine ab_callV (As := []) (rest := []) dX12_part_46 lX12_199 rfl (Nat.le_of_ble_eq_true rfl) (Nat.le_of_ble_eq_true rfl) rfl ?_
    refine hN h0 _ _ _ hx0 Sn42 (fun l46 p46 c46 v46 j46 b46 vb46 ev46 Sl46 => ?_) (fun e46 v46 w46 j46 n46 vb46 Se46 => ?_)
    · skip
      have r46 := Sl46.2.2.2.2.1
      show ab_X (d + 13) mX12_part 49 [(0, .ref 200), (3, .int (iI v))] [.int (iI v46)] l46 _
      refine ab_istore (ls' := [(4, .int (iI v46)), (0, .ref 200), (3, .int (iI v))]) dX12_part_49 (by decide) rfl ?_
      refine ab_iload_n (k := 2) dX12_part_51 rfl rfl ?_
      refine z_if_eq (tgt := 64) dX12_part_52 (by decide) (by omega) (fun c52 => ?_) (fun c52 => ?_)
      · skip
        refine z_iconst dX12_part_64 ?_
        refine ab_istore_n (ls' := [(3, .int (iI 0)), (4, .int (iI v46)), (0, .ref 200)]) dX12_part_65 rfl (by decide) rfl ?_
        refine ab_goto (tgt := 18) dX12_part_66 (by decide) ?_
        refine ab_sub (ls' := [(0, .ref 200), (3, .int (iI 0))]) (ks := [2, 0]) rfl ?_
        have ho : opo 38 38 10 10 (sg T z q) = 10 := by unfold opo; rw [if_pos (by omega)]
        have eJ : jn 10 v v46 = 0 := by
          rw [jn_and hv vb46]
          (repeat' split) <;> omega
        have hE := evp_op hev ev46 (Nat.le_refl _) (o := 10) (by omega)
        rw [eJ] at hE
        refine ih _ (by omega) p46 (i + 1) (c1 ++ (c46 ++ [(10, 0)])) _ _ rfl Sl46 (by omega) (by omega) (by omega) (by omega) hE ?_
        rw [← hR, show 160 - i = (160 - (i + 1)) + 1 by omega]
        exact (seqL_1 ho (by omega) j46).symm
      · skip
        refine ab_iload (k := 0) dX12_part_55 rfl ?_
        refine z_if_eq (tgt := 64) dX12_part_57 (by decide) (by omega) (fun c57 => ?_) (fun c57 => ?_)
        · skip
          refine z_iconst dX12_part_64 ?_
          refine ab_istore_n (ls' := [(3, .int (iI 0)), (4, .int (iI v46)), (0, .ref 200)]) dX12_part_65 rfl (by decide) rfl ?_
          refine ab_goto (tgt := 18) dX12_part_66 (by decide) ?_
          refine ab_sub (ls' := [(0, .ref 200), (3, .int (iI 0))]) (ks := [2, 0]) rfl ?_
          have ho : opo 38 38 10 10 (sg T z q) = 10 := by unfold opo; rw [if_pos (by omega)]
          have eJ : jn 10 v v46 = 0 := by
            rw [jn_and hv vb46]
            (repeat' split) <;> omega
          have hE := evp_op hev ev46 (Nat.le_refl _) (o := 10) (by omega)
          rw [eJ] at hE
          refine ih _ (by omega) p46 (i + 1) (c1 ++ (c46 ++ [(10, 0)])) _ _ rfl Sl46 (by omega) (by omega) (by omega) (by omega) hE ?_
          rw [← hR, show 160 - i = (160 - (i + 1)) + 1 by omega]
          exact (seqL_1 ho (by omega) j46).symm
        · skip
          refine z_iconst dX12_part_60 ?_
          refine ab_goto (tgt := 65) dX12_part_61 (by decide) ?_
          refine ab_istore_n (ls' := [(3, .int (iI 1)), (4, .int (iI v46)), (0, .ref 200)]) dX12_part_65 rfl (by decide) rfl ?_
          refine ab_goto (tgt := 18) dX12_part_66 (by decide) ?_
          refine ab_sub (ls' := [(0, .ref 200), (3, .int (iI 1))]) (ks := [2, 0]) rfl ?_
          have ho : opo 38 38 10 10 (sg T z q) = 10 := by unfold opo; rw [if_pos (by omega)]
          have eJ : jn 10 v v46 = 1 := by
            rw [jn_and hv vb46]
            (repeat' split) <;> omega
          have hE := evp_op hev ev46 (Nat.le_refl _) (o := 10) (by omega)
          rw [eJ] at hE
          refine ih _ (by omega) p46 (i + 1) (c1 ++ (c46 ++ [(10, 0)])) _ _ rfl Sl46 (by omega) (by omega) (by omega) (by omega) hE ?_
          rw [← hR, show 160 - i = (160 - (i + 1)) + 1 by omega]
          exact (seqL_1 ho (by omega) j46).symm
    · skip
      show ab_X (d + 13) mX12_part 49 [(0, .ref 200), (3, .int (iI v))] [.int (iI v46)] e46 _
      refine ab_istore (ls' := [(4, .int (iI v46)), (0, .ref 200), (3, .int (iI v))]) dX12_part_49 (by decide) rfl ?_
      refine ab_iload_n (k := 2) dX12_part_51 rfl rfl ?_
      refine z_if_eq (tgt := 64) dX12_part_52 (by decide) (by omega) (fun c52 => ?_) (fun c52 => ?_)
      · skip
        refine z_iconst dX12_part_64 ?_
        refine ab_istore_n (ls' := [(3, .int (iI 0)), (4, .int (iI v46)), (0, .ref 200)]) dX12_part_65 rfl (by decide) rfl ?_
        refine ab_goto (tgt := 18) dX12_part_66 (by decide) ?_
        refine ab_sub (ls' := [(0, .ref 200), (3, .int (iI 0))]) (ks := [2, 0]) rfl ?_
        exact dl_mpart (T := T) (t := t) (b := b) (n := n) (env := env) (by omega) Se46 (K0 _ _ _ (by rw [← hR, show 160 - i = (159 - i) + 1 by omega]; exact seqL_2 (by unfold opo; (repeat' split) <;> omega) j46 n46) n46 (by omega) Se46)
      · skip
        refine ab_iload (k := 0) dX12_part_55 rfl ?_
        refine z_if_eq (tgt := 64) dX12_part_57 (by decide) (by omega) (fun c57 => ?_) (fun c57 => ?_)
        · skip
          refine z_iconst dX12_part_64 ?_
          refine ab_istore_n (ls' := [(3, .int (iI 0)), (4, .int (iI v46)), (0, .ref 200)]) dX12_part_65 rfl (by decide) rfl ?_
          refine ab_goto (tgt := 18) dX12_part_66 (by decide) ?_
          refine ab_sub (ls' := [(0, .ref 200), (3, .int (iI 0))]) (ks := [2, 0]) rfl ?_
          exact dl_mpart (T := T) (t := t) (b := b) (n := n) (env := env) (by omega) Se46 (K0 _ _ _ (by rw [← hR, show 160 - i = (159 - i) + 1 by omega]; exact seqL_2 (by unfold opo; (repeat' split) <;> omega) j46 n46) n46 (by omega) Se46)
        · skip
          refine z_iconst dX12_part_60 ?_
          refine ab_goto (tgt := 65) dX12_part_61 (by decide) ?_
          refine ab_istore_n (ls' := [(3, .int (iI 1)), (4, .int (iI v46)), (0, .ref 200)]) dX12_part_65 rfl (by decide) rfl ?_
          refine ab_goto (tgt := 18) dX12_part_66 (by decide) ?_
          refine ab_sub (ls' := [(0, .ref 200), (3, .int (iI 1))]) (ks := [2, 0]) rfl ?_
          exact dl_mpart (T := T) (t := t) (b := b) (n := n) (env := env) (by omega) Se46 (K0 _ _ _ (by rw [← hR, show 160 - i = (159 - i) + 1 by omega]; exact seqL_2 (by unfold opo; (repeat' split) <;> omega) j46 n46) n46 (by omega) Se46)
theorem c_mpart0 {d : Nat} {h : ab_H} {Q : ab_Q} {T : Nat → Int} {z t b n : Nat} {env : Nat → Int} {h0 : ab_H} {p D : Nat} {B : Nat} {fs nx : Nat → pR}  (ht : tx T z) (hx0 : MX T z t b n env h0) (hF : mdB T z t b n env [] mX12_unit [.ref 200] fs D B (d + 12)) (hN : mdB T z t b n env [] mX12_unit [.ref 200] nx D B (d + 12)) (Sh : ML z h0 h p D) (K1 : ∀ h' p' c' v, seqF T z fs nx 38 38 10 10 p = (-1, p', c') → p ≤ p' → (v = 0 ∨ v = 1) → evp env [] c' v (B + 1) → ML z h0 h' p' D → Q (some (.int (iI v))) h') (K0 : ∀ h' v w, (seqF T z fs nx 38 38 10 10 p).1 = w → ¬ w = -1 → (v = 0 ∨ v = 1) → MD z h0 h' w → Q (some (.int (iI v))) h') : ab_X (d + 13) mX12_part 0 (lv_args 0 [.ref 200, .int (iI 0), .int (iI 0)]) [] h Q := by
  show ab_X (d + 13) mX12_part 0 [(0, .ref 200), (1, .int (iI 0)), (2, .int (iI 0))] [] h Q
  have hz := ht.1
  have hx := MX_F hx0 Sh.1
  have hk := hx.2.2.2.2.1
  have hbn := hx.2.2.2.2.2.1
  have hn1 := hx.2.2.2.2.2.2.1
  have hpz := Sh.2.2.2.2.1
  refine ab_iload_n (k := 1) dX12_part_0 rfl rfl ?_
  refine z_if_eq (tgt := 13) dX12_part_1 (by decide) (by decide) (fun _ => ?_) (fun c1 => absurd c1 (by decide))
  refine ab_aload_n (k := 0) dX12_part_13 rfl rfl ?_
  refine ab_callV (As := []) (rest := []) dX12_part_14 lX12_199 rfl (Nat.le_of_ble_eq_true rfl) (Nat.le_of_ble_eq_true rfl) rfl ?_
  refine hF h0 _ _ _ hx0 Sh (fun l14 p14 c14 v14 j14 b14 vb14 ev14 Sl14 => ?_) (fun e14 v14 w14 j14 n14 vb14 Se14 => ?_)
  · skip
    have r14 := Sl14.2.2.2.2.1
    show ab_X (d + 13) mX12_part 17 [(0, .ref 200), (1, .int (iI 0)), (2, .int (iI 0))] [.int (iI v14)] l14 _
    refine ab_istore_n (ls' := [(3, .int (iI v14)), (0, .ref 200), (1, .int (iI 0)), (2, .int (iI 0))]) dX12_part_17 rfl (by decide) rfl ?_
    refine ab_sub (ls' := [(0, .ref 200), (3, .int (iI v14))]) (ks := [1, 0]) rfl ?_
    exact lp_mpart (R := seqF T z fs nx 38 38 10 10 p) (p0 := p) ht hx0 hN K1 K0 _ p14 0 c14 v14 _ rfl Sl14 (by omega) (by omega) (by omega) vb14 (evp_mono ev14 (by omega)) (seq_1 j14).symm
  · skip
    show ab_X (d + 13) mX12_part 17 [(0, .ref 200), (1, .int (iI 0)), (2, .int (iI 0))] [.int (iI v14)] e14 _
    refine ab_istore_n (ls' := [(3, .int (iI v14)), (0, .ref 200), (1, .int (iI 0)), (2, .int (iI 0))]) dX12_part_17 rfl (by decide) rfl ?_
    refine ab_sub (ls' := [(0, .ref 200), (3, .int (iI v14))]) (ks := [1, 0]) rfl ?_
    exact dl_mpart (T := T) (t := t) (b := b) (n := n) (env := env) vb14 Se14 (K0 _ _ _ (seq_2 j14 n14) n14 vb14 Se14)
theorem c_mpart1 {d : Nat} {h : ab_H} {Q : ab_Q} {T : Nat → Int} {z t b n : Nat} {env : Nat → Int} {h0 : ab_H} {p D : Nat} {B : Nat} {fs nx : Nat → pR} {v0 : Int}  (ht : tx T z) (hx0 : MX T z t b n env h0) (hF : mdB T z t b n env [v0] mX12_compares [.ref 200, .int (iI 1), .int (iI v0)] fs D B (d + 12)) (hN : mdB T z t b n env [] mX12_unit [.ref 200] nx D B (d + 12)) (Sh : ML z h0 h p D) (K1 : ∀ h' p' c' v, seqF T z fs nx 38 38 10 10 p = (-1, p', c') → p ≤ p' → (v = 0 ∨ v = 1) → evp env [v0] c' v (B + 1) → ML z h0 h' p' D → Q (some (.int (iI v))) h') (K0 : ∀ h' v w, (seqF T z fs nx 38 38 10 10 p).1 = w → ¬ w = -1 → (v = 0 ∨ v = 1) → MD z h0 h' w → Q (some (.int (iI v))) h') : ab_X (d + 13) mX12_part 0 (lv_args 0 [.ref 200, .int (iI 1), .int (iI v0)]) [] h Q := by
  show ab_X (d + 13) mX12_part 0 [(0, .ref 200), (1, .int (iI 1)), (2, .int (iI v0))] [] h Q
  have hz := ht.1
  have hx := MX_F hx0 Sh.1
  have hk := hx.2.2.2.2.1
  have hbn := hx.2.2.2.2.2.1
  have hn1 := hx.2.2.2.2.2.2.1
  have hpz := Sh.2.2.2.2.1
  refine ab_iload_n (k := 1) dX12_part_0 rfl rfl ?_
  refine z_if_eq (tgt := 13) dX12_part_1 (by decide) (by decide) (fun c1 => absurd c1 (by decide)) (fun _ => ?_)
  refine ab_aload_n (k := 0) dX12_part_4 rfl rfl ?_
  refine z_iconst dX12_part_5 ?_
  refine ab_iload_n (k := 2) dX12_part_6 rfl rfl ?_
  refine ab_callV (As := [.int (iI 1), .int (iI v0)]) (rest := []) dX12_part_7 lX12_206 rfl (Nat.le_of_ble_eq_true rfl) (Nat.le_of_ble_eq_true rfl) rfl ?_
  refine hF h0 _ _ _ hx0 Sh (fun l7 p7 c7 v7 j7 b7 vb7 ev7 Sl7 => ?_) (fun e7 v7 w7 j7 n7 vb7 Se7 => ?_)
  · skip
    have r7 := Sl7.2.2.2.2.1
    show ab_X (d + 13) mX12_part 10 [(0, .ref 200), (1, .int (iI 1)), (2, .int (iI v0))] [.int (iI v7)] l7 _
    refine ab_goto (tgt := 17) dX12_part_10 (by decide) ?_
    refine ab_istore_n (ls' := [(3, .int (iI v7)), (0, .ref 200), (1, .int (iI 1)), (2, .int (iI v0))]) dX12_part_17 rfl (by decide) rfl ?_
    refine ab_sub (ls' := [(0, .ref 200), (3, .int (iI v7))]) (ks := [1, 0]) rfl ?_
    exact lp_mpart (R := seqF T z fs nx 38 38 10 10 p) (p0 := p) ht hx0 hN K1 K0 _ p7 0 c7 v7 _ rfl Sl7 (by omega) (by omega) (by omega) vb7 (evp_mono ev7 (by omega)) (seq_1 j7).symm
  · skip
    show ab_X (d + 13) mX12_part 10 [(0, .ref 200), (1, .int (iI 1)), (2, .int (iI v0))] [.int (iI v7)] e7 _
    refine ab_goto (tgt := 17) dX12_part_10 (by decide) ?_
    refine ab_istore_n (ls' := [(3, .int (iI v7)), (0, .ref 200), (1, .int (iI 1)), (2, .int (iI v0))]) dX12_part_17 rfl (by decide) rfl ?_
    refine ab_sub (ls' := [(0, .ref 200), (3, .int (iI v7))]) (ks := [1, 0]) rfl ?_
    exact dl_mpart (T := T) (t := t) (b := b) (n := n) (env := env) vb7 Se7 (K0 _ _ _ (seq_2 j7 n7) n7 vb7 Se7)
theorem dl_mcondition {d : Nat} {h : ab_H} {Q : ab_Q} {T : Nat → Int} {z t b n : Nat} {env : Nat → Int} {h0 : ab_H} {w v : Int}  (hv : v = 0 ∨ v = 1) (Seh : MD z h0 h w) (K : Q (some (.int (iI v))) h) : ab_X (d + 14) mX12_condition 7 [(0, .ref 200), (3, .int (iI v))] [] h Q := by
  refine ab_aload_n (k := 0) dX12_condition_7 rfl rfl ?_
  refine z_getI dX12_condition_8 fX12_143 rfl (Or.inl rfl) ?_
  have b1 := zv_R h 200 11
  refine z_iconst dX12_condition_11 ?_
  refine z_icmp_ne (tgt := 60) dX12_condition_12 (by decide) (by omega) (by decide) (fun c12 => ?_) (fun c12 => absurd c12 (fun q => Seh.2.2.1 (Seh.2.1.symm.trans q)))
  refine ab_iload_n (k := 1) dX12_condition_60 rfl rfl ?_
  refine z_zret dX12_condition_61 rfl (by omega) ?_
  exact K
theorem lp_mcondition {d : Nat} {Q : ab_Q} {h0 : ab_H} {T : Nat → Int} {z t b n : Nat} {env : Nat → Int} {p0 D B : Nat} {pre : List Int} {nx : Nat → pR} {R : pR}  (ht : tx T z) (hx0 : MX T z t b n env h0) (hN : mdB T z t b n env [] mX12_part [.ref 200, .int (iI 0), .int (iI 0)] nx D B (d + 13)) (K1 : ∀ h' p' c' v, R = (-1, p', c') → p0 ≤ p' → (v = 0 ∨ v = 1) → evp env pre c' v (B + 1) → ML z h0 h' p' D → Q (some (.int (iI v))) h') (K0 : ∀ h' v w, R.1 = w → ¬ w = -1 → (v = 0 ∨ v = 1) → MD z h0 h' w → Q (some (.int (iI v))) h') : ∀ (nn : Nat) (q : Nat) (i : Nat) (c1 : List (Int × Int)) (v : Int) (h : ab_H), 160 - i = nn → (ML z h0 h q D) → (i ≤ 160) → (i ≤ q) → (p0 ≤ q) → (v = 0 ∨ v = 1) → (evp env pre c1 v (B + 1)) → (seqL T z nx 124 124 11 11 (160 - i) q c1 = R) → ab_X (d + 14) mX12_condition 7 [(0, .ref 200), (3, .int (iI v))] [] h Q := by
  intro nn
  induction nn using Nat.strongRecOn with
  | ind nn ih =>
  intro q i c1 v h hnn Sh hi hiq hpq hv hev hR
  have hz := ht.1
  have hx := MX_F hx0 Sh.1
  have hk := hx.2.2.2.2.1
  have hbn := hx.2.2.2.2.2.1
  have hn1 := hx.2.2.2.2.2.2.1
  have hpz := Sh.2.2.2.2.1
  refine ab_aload_n (k := 0) dX12_condition_7 rfl rfl ?_
  refine z_getI dX12_condition_8 fX12_143 rfl (Or.inl rfl) ?_
  refine z_is (y := (-1)) Sh.2.2.1 ?_
  refine z_iconst dX12_condition_11 ?_
  refine z_icmp_ne (tgt := 60) dX12_condition_12 (by decide) (by decide) (by decide) (fun c12 => absurd c12 (by decide)) (fun _ => ?_)
  refine ab_aload_n (k := 0) dX12_condition_15 rfl rfl ?_
  refine ab_callV (As := []) (rest := []) dX12_condition_16 lX12_153 rfl (Nat.le_of_ble_eq_true rfl) (Nat.le_of_ble_eq_true rfl) rfl ?_
  refine c_mlook ht hx0 Sh (fun l16 Sl16 => ?_)
  have k16 := lk_ge T z q
  have y16 := sg_b ht q
  show ab_X (d + 14) mX12_condition 19 [(0, .ref 200), (3, .int (iI v))] [.int (iI (sg T z q))] l16 _
  refine z_bipush dX12_condition_19 (by decide) ?_
  refine z_icmp_ne (tgt := 60) dX12_condition_21 (by decide) (by omega) (by decide) (fun c21 => ?_) (fun c21 => ?_)
  · skip
    refine ab_iload_n (k := 1) dX12_condition_60 rfl rfl ?_
    refine z_zret dX12_condition_61 rfl (by omega) ?_
    have e3 := seqL_n (T := T) (z := z) (next := nx) (a := 124) (b := 124) (oa := 11) (ob := 11) (p := q) (c := c1) (by unfold opo; rw [if_neg (by omega), if_neg (by omega)]) (160 - i)
    rw [hR] at e3
    exact K1 _ _ _ _ e3 (by omega) hv hev Sl16
  · skip
    have zz := sg_in (T := T) (z := z) (p := q) (by omega)
    refine ab_aload_n (k := 0) dX12_condition_24 rfl rfl ?_
    refine ab_dup dX12_condition_25 rfl ?_
    refine z_getI dX12_condition_26 fX12_134 rfl (Or.inl rfl) ?_
    refine z_is (y := (((lk T z q) : Nat) : Int)) Sl16.2.1 ?_
    refine z_iconst dX12_condition_29 ?_
    refine z_iadd dX12_condition_30 ?_
    refine z_putI dX12_condition_31 fX12_134 rfl rfl ?_
    obtain ⟨n31, en31⟩ : ∃ zz : ab_H, zz = zp l16 200 10 ((((lk T z q) : Nat) : Int) + 1) := ⟨_, rfl⟩
    rw [← en31]
    have Sn31 : ML z h0 n31 ((lk T z q) + 1) D := by rw [en31]; exact ML_at Sl16 hz (by omega) (by omega)
    refine ab_aload_n (k := 0) dX12_condition_34 rfl rfl ?_
    refine z_iconst dX12_condition_35 ?_
    refine z_iconst dX12_condition_36 ?_
    refine ab_callV (As := [.int (iI 0), .int (iI 0)]) (rest := []) dX12_condition_37 lX12_209 rfl (Nat.le_of_ble_eq_true rfl) (Nat.le_of_ble_eq_true rfl) rfl ?_
    refine hN h0 _ _ _ hx0 Sn31 (fun l37 p37 c37 v37 j37 b37 vb37 ev37 Sl37 => ?_) (fun e37 v37 w37 j37 n37 vb37 Se37 => ?_)
    · skip
      have r37 := Sl37.2.2.2.2.1
      show ab_X (d + 14) mX12_condition 40 [(0, .ref 200), (3, .int (iI v))] [.int (iI v37)] l37 _
      refine ab_istore (ls' := [(4, .int (iI v37)), (0, .ref 200), (3, .int (iI v))]) dX12_condition_40 (by decide) rfl ?_
      refine ab_iload_n (k := 2) dX12_condition_42 rfl rfl ?_
      refine z_if_ne (tgt := 51) dX12_condition_43 (by decide) (by omega) (fun c43 => ?_) (fun c43 => ?_)
      · skip
        refine z_iconst dX12_condition_51 ?_
        refine ab_goto (tgt := 56) dX12_condition_52 (by decide) ?_
        refine ab_istore_n (ls' := [(3, .int (iI 1)), (4, .int (iI v37)), (0, .ref 200)]) dX12_condition_56 rfl (by decide) rfl ?_
        refine ab_goto (tgt := 7) dX12_condition_57 (by decide) ?_
        refine ab_sub (ls' := [(0, .ref 200), (3, .int (iI 1))]) (ks := [2, 0]) rfl ?_
        have ho : opo 124 124 11 11 (sg T z q) = 11 := by unfold opo; rw [if_pos (by omega)]
        have eJ : jn 11 v v37 = 1 := by
          rw [jn_or hv vb37]
          (repeat' split) <;> omega
        have hE := evp_op hev ev37 (Nat.le_refl _) (o := 11) (by omega)
        rw [eJ] at hE
        refine ih _ (by omega) p37 (i + 1) (c1 ++ (c37 ++ [(11, 0)])) _ _ rfl Sl37 (by omega) (by omega) (by omega) (by omega) hE ?_
        rw [← hR, show 160 - i = (160 - (i + 1)) + 1 by omega]
        exact (seqL_1 ho (by omega) j37).symm
      · skip
        refine ab_iload (k := 0) dX12_condition_46 rfl ?_
        refine z_if_eq (tgt := 55) dX12_condition_48 (by decide) (by omega) (fun c48 => ?_) (fun c48 => ?_)
        · skip
          refine z_iconst dX12_condition_55 ?_
          refine ab_istore_n (ls' := [(3, .int (iI 0)), (4, .int (iI v37)), (0, .ref 200)]) dX12_condition_56 rfl (by decide) rfl ?_
          refine ab_goto (tgt := 7) dX12_condition_57 (by decide) ?_
          refine ab_sub (ls' := [(0, .ref 200), (3, .int (iI 0))]) (ks := [2, 0]) rfl ?_
          have ho : opo 124 124 11 11 (sg T z q) = 11 := by unfold opo; rw [if_pos (by omega)]
          have eJ : jn 11 v v37 = 0 := by
            rw [jn_or hv vb37]
            (repeat' split) <;> omega
          have hE := evp_op hev ev37 (Nat.le_refl _) (o := 11) (by omega)
          rw [eJ] at hE
          refine ih _ (by omega) p37 (i + 1) (c1 ++ (c37 ++ [(11, 0)])) _ _ rfl Sl37 (by omega) (by omega) (by omega) (by omega) hE ?_
          rw [← hR, show 160 - i = (160 - (i + 1)) + 1 by omega]
          exact (seqL_1 ho (by omega) j37).symm
        · skip
          refine z_iconst dX12_condition_51 ?_
          refine ab_goto (tgt := 56) dX12_condition_52 (by decide) ?_
          refine ab_istore_n (ls' := [(3, .int (iI 1)), (4, .int (iI v37)), (0, .ref 200)]) dX12_condition_56 rfl (by decide) rfl ?_
          refine ab_goto (tgt := 7) dX12_condition_57 (by decide) ?_
          refine ab_sub (ls' := [(0, .ref 200), (3, .int (iI 1))]) (ks := [2, 0]) rfl ?_
          have ho : opo 124 124 11 11 (sg T z q) = 11 := by unfold opo; rw [if_pos (by omega)]
          have eJ : jn 11 v v37 = 1 := by
            rw [jn_or hv vb37]
            (repeat' split) <;> omega
          have hE := evp_op hev ev37 (Nat.le_refl _) (o := 11) (by omega)
          rw [eJ] at hE
          refine ih _ (by omega) p37 (i + 1) (c1 ++ (c37 ++ [(11, 0)])) _ _ rfl Sl37 (by omega) (by omega) (by omega) (by omega) hE ?_
          rw [← hR, show 160 - i = (160 - (i + 1)) + 1 by omega]
          exact (seqL_1 ho (by omega) j37).symm
    · skip
      show ab_X (d + 14) mX12_condition 40 [(0, .ref 200), (3, .int (iI v))] [.int (iI v37)] e37 _
      refine ab_istore (ls' := [(4, .int (iI v37)), (0, .ref 200), (3, .int (iI v))]) dX12_condition_40 (by decide) rfl ?_
      refine ab_iload_n (k := 2) dX12_condition_42 rfl rfl ?_
      refine z_if_ne (tgt := 51) dX12_condition_43 (by decide) (by omega) (fun c43 => ?_) (fun c43 => ?_)
      · skip
        refine z_iconst dX12_condition_51 ?_
        refine ab_goto (tgt := 56) dX12_condition_52 (by decide) ?_
        refine ab_istore_n (ls' := [(3, .int (iI 1)), (4, .int (iI v37)), (0, .ref 200)]) dX12_condition_56 rfl (by decide) rfl ?_
        refine ab_goto (tgt := 7) dX12_condition_57 (by decide) ?_
        refine ab_sub (ls' := [(0, .ref 200), (3, .int (iI 1))]) (ks := [2, 0]) rfl ?_
        exact dl_mcondition (T := T) (t := t) (b := b) (n := n) (env := env) (by omega) Se37 (K0 _ _ _ (by rw [← hR, show 160 - i = (159 - i) + 1 by omega]; exact seqL_2 (by unfold opo; (repeat' split) <;> omega) j37 n37) n37 (by omega) Se37)
      · skip
        refine ab_iload (k := 0) dX12_condition_46 rfl ?_
        refine z_if_eq (tgt := 55) dX12_condition_48 (by decide) (by omega) (fun c48 => ?_) (fun c48 => ?_)
        · skip
          refine z_iconst dX12_condition_55 ?_
          refine ab_istore_n (ls' := [(3, .int (iI 0)), (4, .int (iI v37)), (0, .ref 200)]) dX12_condition_56 rfl (by decide) rfl ?_
          refine ab_goto (tgt := 7) dX12_condition_57 (by decide) ?_
          refine ab_sub (ls' := [(0, .ref 200), (3, .int (iI 0))]) (ks := [2, 0]) rfl ?_
          exact dl_mcondition (T := T) (t := t) (b := b) (n := n) (env := env) (by omega) Se37 (K0 _ _ _ (by rw [← hR, show 160 - i = (159 - i) + 1 by omega]; exact seqL_2 (by unfold opo; (repeat' split) <;> omega) j37 n37) n37 (by omega) Se37)
        · skip
          refine z_iconst dX12_condition_51 ?_
          refine ab_goto (tgt := 56) dX12_condition_52 (by decide) ?_
          refine ab_istore_n (ls' := [(3, .int (iI 1)), (4, .int (iI v37)), (0, .ref 200)]) dX12_condition_56 rfl (by decide) rfl ?_
          refine ab_goto (tgt := 7) dX12_condition_57 (by decide) ?_
          refine ab_sub (ls' := [(0, .ref 200), (3, .int (iI 1))]) (ks := [2, 0]) rfl ?_
          exact dl_mcondition (T := T) (t := t) (b := b) (n := n) (env := env) (by omega) Se37 (K0 _ _ _ (by rw [← hR, show 160 - i = (159 - i) + 1 by omega]; exact seqL_2 (by unfold opo; (repeat' split) <;> omega) j37 n37) n37 (by omega) Se37)
theorem c_mcondition0 {d : Nat} {h : ab_H} {Q : ab_Q} {T : Nat → Int} {z t b n : Nat} {env : Nat → Int} {h0 : ab_H} {p D : Nat} {B : Nat} {fs nx : Nat → pR}  (ht : tx T z) (hx0 : MX T z t b n env h0) (hF : mdB T z t b n env [] mX12_part [.ref 200, .int (iI 0), .int (iI 0)] fs D B (d + 13)) (hN : mdB T z t b n env [] mX12_part [.ref 200, .int (iI 0), .int (iI 0)] nx D B (d + 13)) (Sh : ML z h0 h p D) (K1 : ∀ h' p' c' v, seqF T z fs nx 124 124 11 11 p = (-1, p', c') → p ≤ p' → (v = 0 ∨ v = 1) → evp env [] c' v (B + 1) → ML z h0 h' p' D → Q (some (.int (iI v))) h') (K0 : ∀ h' v w, (seqF T z fs nx 124 124 11 11 p).1 = w → ¬ w = -1 → (v = 0 ∨ v = 1) → MD z h0 h' w → Q (some (.int (iI v))) h') : ab_X (d + 14) mX12_condition 0 (lv_args 0 [.ref 200, .int (iI 0), .int (iI 0)]) [] h Q := by
  show ab_X (d + 14) mX12_condition 0 [(0, .ref 200), (1, .int (iI 0)), (2, .int (iI 0))] [] h Q
  have hz := ht.1
  have hx := MX_F hx0 Sh.1
  have hk := hx.2.2.2.2.1
  have hbn := hx.2.2.2.2.2.1
  have hn1 := hx.2.2.2.2.2.2.1
  have hpz := Sh.2.2.2.2.1
  refine ab_aload_n (k := 0) dX12_condition_0 rfl rfl ?_
  refine ab_iload_n (k := 1) dX12_condition_1 rfl rfl ?_
  refine ab_iload_n (k := 2) dX12_condition_2 rfl rfl ?_
  refine ab_callV (As := [.int (iI 0), .int (iI 0)]) (rest := []) dX12_condition_3 lX12_209 rfl (Nat.le_of_ble_eq_true rfl) (Nat.le_of_ble_eq_true rfl) rfl ?_
  refine hF h0 _ _ _ hx0 Sh (fun l3 p3 c3 v3 j3 b3 vb3 ev3 Sl3 => ?_) (fun e3 v3 w3 j3 n3 vb3 Se3 => ?_)
  · skip
    have r3 := Sl3.2.2.2.2.1
    show ab_X (d + 14) mX12_condition 6 [(0, .ref 200), (1, .int (iI 0)), (2, .int (iI 0))] [.int (iI v3)] l3 _
    refine ab_istore_n (ls' := [(3, .int (iI v3)), (0, .ref 200), (1, .int (iI 0)), (2, .int (iI 0))]) dX12_condition_6 rfl (by decide) rfl ?_
    refine ab_sub (ls' := [(0, .ref 200), (3, .int (iI v3))]) (ks := [1, 0]) rfl ?_
    exact lp_mcondition (R := seqF T z fs nx 124 124 11 11 p) (p0 := p) ht hx0 hN K1 K0 _ p3 0 c3 v3 _ rfl Sl3 (by omega) (by omega) (by omega) vb3 (evp_mono ev3 (by omega)) (seq_1 j3).symm
  · skip
    show ab_X (d + 14) mX12_condition 6 [(0, .ref 200), (1, .int (iI 0)), (2, .int (iI 0))] [.int (iI v3)] e3 _
    refine ab_istore_n (ls' := [(3, .int (iI v3)), (0, .ref 200), (1, .int (iI 0)), (2, .int (iI 0))]) dX12_condition_6 rfl (by decide) rfl ?_
    refine ab_sub (ls' := [(0, .ref 200), (3, .int (iI v3))]) (ks := [1, 0]) rfl ?_
    exact dl_mcondition (T := T) (t := t) (b := b) (n := n) (env := env) vb3 Se3 (K0 _ _ _ (seq_2 j3 n3) n3 vb3 Se3)
theorem c_mcondition1 {d : Nat} {h : ab_H} {Q : ab_Q} {T : Nat → Int} {z t b n : Nat} {env : Nat → Int} {h0 : ab_H} {p D : Nat} {B : Nat} {fs nx : Nat → pR} {v0 : Int}  (ht : tx T z) (hx0 : MX T z t b n env h0) (hF : mdB T z t b n env [v0] mX12_part [.ref 200, .int (iI 1), .int (iI v0)] fs D B (d + 13)) (hN : mdB T z t b n env [] mX12_part [.ref 200, .int (iI 0), .int (iI 0)] nx D B (d + 13)) (Sh : ML z h0 h p D) (K1 : ∀ h' p' c' v, seqF T z fs nx 124 124 11 11 p = (-1, p', c') → p ≤ p' → (v = 0 ∨ v = 1) → evp env [v0] c' v (B + 1) → ML z h0 h' p' D → Q (some (.int (iI v))) h') (K0 : ∀ h' v w, (seqF T z fs nx 124 124 11 11 p).1 = w → ¬ w = -1 → (v = 0 ∨ v = 1) → MD z h0 h' w → Q (some (.int (iI v))) h') : ab_X (d + 14) mX12_condition 0 (lv_args 0 [.ref 200, .int (iI 1), .int (iI v0)]) [] h Q := by
  show ab_X (d + 14) mX12_condition 0 [(0, .ref 200), (1, .int (iI 1)), (2, .int (iI v0))] [] h Q
  have hz := ht.1
  have hx := MX_F hx0 Sh.1
  have hk := hx.2.2.2.2.1
  have hbn := hx.2.2.2.2.2.1
  have hn1 := hx.2.2.2.2.2.2.1
  have hpz := Sh.2.2.2.2.1
  refine ab_aload_n (k := 0) dX12_condition_0 rfl rfl ?_
  refine ab_iload_n (k := 1) dX12_condition_1 rfl rfl ?_
  refine ab_iload_n (k := 2) dX12_condition_2 rfl rfl ?_
  refine ab_callV (As := [.int (iI 1), .int (iI v0)]) (rest := []) dX12_condition_3 lX12_209 rfl (Nat.le_of_ble_eq_true rfl) (Nat.le_of_ble_eq_true rfl) rfl ?_
  refine hF h0 _ _ _ hx0 Sh (fun l3 p3 c3 v3 j3 b3 vb3 ev3 Sl3 => ?_) (fun e3 v3 w3 j3 n3 vb3 Se3 => ?_)
  · skip
    have r3 := Sl3.2.2.2.2.1
    show ab_X (d + 14) mX12_condition 6 [(0, .ref 200), (1, .int (iI 1)), (2, .int (iI v0))] [.int (iI v3)] l3 _
    refine ab_istore_n (ls' := [(3, .int (iI v3)), (0, .ref 200), (1, .int (iI 1)), (2, .int (iI v0))]) dX12_condition_6 rfl (by decide) rfl ?_
    refine ab_sub (ls' := [(0, .ref 200), (3, .int (iI v3))]) (ks := [1, 0]) rfl ?_
    exact lp_mcondition (R := seqF T z fs nx 124 124 11 11 p) (p0 := p) ht hx0 hN K1 K0 _ p3 0 c3 v3 _ rfl Sl3 (by omega) (by omega) (by omega) vb3 (evp_mono ev3 (by omega)) (seq_1 j3).symm
  · skip
    show ab_X (d + 14) mX12_condition 6 [(0, .ref 200), (1, .int (iI 1)), (2, .int (iI v0))] [.int (iI v3)] e3 _
    refine ab_istore_n (ls' := [(3, .int (iI v3)), (0, .ref 200), (1, .int (iI 1)), (2, .int (iI v0))]) dX12_condition_6 rfl (by decide) rfl ?_
    refine ab_sub (ls' := [(0, .ref 200), (3, .int (iI v3))]) (ks := [1, 0]) rfl ?_
    exact dl_mcondition (T := T) (t := t) (b := b) (n := n) (env := env) vb3 Se3 (K0 _ _ _ (seq_2 j3 n3) n3 vb3 Se3)
