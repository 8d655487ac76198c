/-! THE MODEL GOES THROUGH A RULE -/
def GM (z : Nat) (h0 h : ab_H) (p : Nat) (x y : Int) : Prop := sm [200] h0 h ∧ (∀ j, ¬ (10 ≤ j ∧ j ≤ 12) → ¬ j = 14 → ¬ j = 17 → zv h 200 j = zv h0 200 j) ∧ zv h 200 10 = (p : Int) ∧ zv h 200 11 = -1 ∧ zv h 200 12 = 0 ∧ p ≤ z ∧ zv h 200 17 = x ∧ zv h 200 14 = y
theorem GM_n {z : Nat} {h0 h : ab_H} {p : Nat} {hf fv is v : Int} (S : ML z h0 h p 0) (h17 : zv h0 200 17 = hf) (h14 : zv h0 200 14 = fv) (hc : ¬ (hf = 0 ∧ is = 1)) (hi : is = 0 ∨ is = 1) : GM z h0 h p (if hf = 0 then is else hf) (if hf = 0 ∧ is = 1 then v else fv) := by
  refine ⟨S.1.1, fun j a _ _ => S.1.2 j a, S.2.1, S.2.2.1, S.2.2.2.1, S.2.2.2.2.1, ?_, ?_⟩
  · rw [S.1.2 17 (by omega), h17]; split <;> omega
  · rw [S.1.2 14 (by omega), h14, if_neg hc]
theorem GM_y {z : Nat} {h0 h : ab_H} {p : Nat} {hf fv is v : Int} (S : ML z h0 h p 0) (hc : hf = 0 ∧ is = 1) (hv : -1000000 ≤ v ∧ v ≤ 1000000) : GM z h0 (zp (zp h 200 17 1) 200 14 v) p (if hf = 0 then is else hf) (if hf = 0 ∧ is = 1 then v else fv) := by
  refine ⟨(S.1.1.trans (sm_zp (by decide))).trans (sm_zp (by decide)), fun j a b c => ?_, ?_, ?_, ?_, S.2.2.2.2.1, ?_, ?_⟩
  · rw [zv_zp_ne (by omega), zv_zp_ne (by omega)]; exact S.1.2 j a
  · rw [zv_zp_ne (by decide), zv_zp_ne (by decide)]; exact S.2.1
  · rw [zv_zp_ne (by decide), zv_zp_ne (by decide)]; exact S.2.2.1
  · rw [zv_zp_ne (by decide), zv_zp_ne (by decide)]; exact S.2.2.2.1
  · rw [zv_zp_ne (by decide), zv_zp_s (by decide), if_pos hc.1, hc.2]
  · rw [zv_zp_s (by omega), if_pos hc]
theorem c_mclause0 {d : Nat} {h : ab_H} {Q : ab_Q} {T : Nat → Int} {z t b n : Nat} {env : Nat → Int} {h0 : ab_H} {p k : Nat} {hf fv : Int}  (ht : tx T z) (hx0 : MX T z t b n env h0) (hS : mdI T z t b n env mX12_sum [.ref 200] (pSm T z 6) 0 15 (d + 32)) (hC0 : mdB T z t b n env [] mX12_condition [.ref 200, .int (iI 0), .int (iI 0)] (pCd T z 6 false) 0 18 (d + 32)) (hC1 : ∀ v0 : Int, (-1000000 ≤ v0 ∧ v0 ≤ 1000000) → mdB T z t b n env [v0] mX12_condition [.ref 200, .int (iI 1), .int (iI v0)] (pCd T z 6 true) 0 18 (d + 32)) (Sh : ML z h0 h p 0) (h13 : zv h0 200 13 = 121) (h17 : zv h0 200 17 = hf) (h14 : zv h0 200 14 = fv) (hhf : hf = 0 ∨ hf = 1) (K1 : ∀ h' p' c' is v, pCl T z k p = (-1, p', c') → p ≤ p' → clv env k c' is v → (is = 0 ∨ is = 1) → GM z h0 h' p' (if hf = 0 then is else hf) (if hf = 0 ∧ is = 1 then v else fv) → Q none h') (K0 : ∀ h' w, (pCl T z k p).1 = w → ¬ w = -1 → MD z h0 h' w → Q none h') : ab_X (d + 33) mX12_clause 0 (lv_args 0 [.ref 200]) [] h Q := by
  show ab_X (d + 33) mX12_clause 0 [(0, .ref 200)] [] h Q
  have hz := ht.1
  have hx := MX_F hx0 Sh.1
  have hk := hx.2.2.2.2.1
  have hbn := hx.2.2.2.2.2.1
  have hn1 := hx.2.2.2.2.2.2.1
  have hpz := Sh.2.2.2.2.1
  refine ab_aload_n (k := 0) dX12_clause_0 rfl rfl ?_
  refine ab_callV (As := []) (rest := []) dX12_clause_1 lX12_153 rfl (Nat.le_of_ble_eq_true rfl) (Nat.le_of_ble_eq_true rfl) rfl ?_
  refine c_mlook ht hx0 Sh (fun l1 Sl1 => ?_)
  have k1 := lk_ge T z p
  have y1 := sg_b ht p
  show ab_X (d + 33) mX12_clause 4 [(0, .ref 200)] [.int (iI (sg T z p))] l1 _
  refine ab_istore_n (ls' := [(1, .int (iI (sg T z p))), (0, .ref 200)]) dX12_clause_4 rfl (by decide) rfl ?_
  refine ab_ldcs (j := 4) dX12_clause_5 (by decide) ?_
  refine ab_iload_n (k := 0) dX12_clause_7 rfl rfl ?_
  refine ab_callS (As := [.ref (2000 + 4), .int (iI (sg T z p))]) (rest := []) dX12_clause_8 lX12_169 (Nat.le_of_ble_eq_true rfl) (Nat.le_of_ble_eq_true rfl) rfl ?_
  refine c_isAmong4 (by omega) (fun g8 => ?_) (fun g8 => ?_)
  · skip
    have z8 := sg_in (T := T) (z := z) (p := p) (by omega)
    show ab_X (d + 33) mX12_clause 11 [(1, .int (iI (sg T z p))), (0, .ref 200)] [.int (iI 1)] l1 _
    refine z_if_ne (tgt := 20) dX12_clause_11 (by decide) (by decide) (fun _ => ?_) (fun c11 => absurd c11 (by decide))
    refine ab_aload_n (k := 1) dX12_clause_20 rfl rfl ?_
    refine ab_dup dX12_clause_21 rfl ?_
    refine z_getI dX12_clause_22 fX12_134 rfl (Or.inl rfl) ?_
    refine z_is (y := (((lk T z p) : Nat) : Int)) Sl1.2.1 ?_
    refine z_iconst dX12_clause_25 ?_
    refine z_iadd dX12_clause_26 ?_
    refine z_putI dX12_clause_27 fX12_134 rfl rfl ?_
    obtain ⟨n27, en27⟩ : ∃ zz : ab_H, zz = zp l1 200 10 ((((lk T z p) : Nat) : Int) + 1) := ⟨_, rfl⟩
    refine z_h (h' := n27) en27.symm ?_
    have Sn27 : ML z h0 n27 ((lk T z p) + 1) 0 := by rw [en27]; exact ML_at Sl1 hz (by omega) (by omega)
    refine ab_aload_n (k := 1) dX12_clause_30 rfl rfl ?_
    refine z_bipush dX12_clause_31 (by decide) ?_
    refine ab_callV (As := [.int (iI 58)]) (rest := []) dX12_clause_33 lX12_179 rfl (Nat.le_of_ble_eq_true rfl) (Nat.le_of_ble_eq_true rfl) rfl ?_
    have k33 := lk_ge T z ((lk T z p) + 1)
    refine c_mtakes ht hx0 (by decide) Sn27 (fun x33 l33 Sl33 => ?_) (fun x33 e33 Se33 => ?_)
    · skip
      have b33 := Sl33.2.2.2.2.1
      show ab_X (d + 33) mX12_clause 36 [(1, .int (iI (sg T z p))), (0, .ref 200)] [.int (iI 1)] l33 _
      refine z_if_ne (tgt := 40) dX12_clause_36 (by decide) (by decide) (fun _ => ?_) (fun c36 => absurd c36 (by decide))
      refine z_iconst dX12_clause_40 ?_
      refine ab_istore_n (ls' := [(2, .int (iI 1)), (1, .int (iI (sg T z p))), (0, .ref 200)]) dX12_clause_41 rfl (by decide) rfl ?_
      refine z_iconst dX12_clause_42 ?_
      refine ab_istore_n (ls' := [(3, .int (iI 0)), (2, .int (iI 1)), (1, .int (iI (sg T z p))), (0, .ref 200)]) dX12_clause_43 rfl (by decide) rfl ?_
      refine ab_aload_n (k := 3) dX12_clause_44 rfl rfl ?_
      refine ab_callV (As := []) (rest := []) dX12_clause_45 lX12_153 rfl (Nat.le_of_ble_eq_true rfl) (Nat.le_of_ble_eq_true rfl) rfl ?_
      refine c_mlook ht hx0 Sl33 (fun l45 Sl45 => ?_)
      have k45 := lk_ge T z (lk T z ((lk T z p) + 1) + 1)
      have y45 := sg_b ht (lk T z ((lk T z p) + 1) + 1)
      show ab_X (d + 33) mX12_clause 48 [(3, .int (iI 0)), (2, .int (iI 1)), (1, .int (iI (sg T z p))), (0, .ref 200)] [.int (iI (sg T z (lk T z ((lk T z p) + 1) + 1)))] l45 _
      refine ab_istore (ls' := [(4, .int (iI (sg T z (lk T z ((lk T z p) + 1) + 1)))), (3, .int (iI 0)), (2, .int (iI 1)), (1, .int (iI (sg T z p))), (0, .ref 200)]) dX12_clause_48 (by decide) rfl ?_
      refine ab_iload (k := 0) dX12_clause_50 rfl ?_
      refine z_bipush dX12_clause_52 (by decide) ?_
      refine z_icmp_eq (tgt := 64) dX12_clause_54 (by decide) (by omega) (by decide) (fun c54 => ?_) (fun c54 => ?_)
      · skip
        refine ab_aload_n (k := 4) dX12_clause_64 rfl rfl ?_
        refine z_iconst dX12_clause_65 ?_
        refine z_iconst dX12_clause_66 ?_
        refine ab_callV (As := [.int (iI 0), .int (iI 0)]) (rest := []) dX12_clause_67 lX12_202 rfl (Nat.le_of_ble_eq_true rfl) (Nat.le_of_ble_eq_true rfl) rfl ?_
        refine hC0 h0 _ _ _ hx0 Sl45 (fun l67 p67 c67 v67 j67 b67 vb67 ev67 Sl67 => ?_) (fun e67 v67 w67 j67 n67 vb67 Se67 => ?_)
        · skip
          have r67 := Sl67.2.2.2.2.1
          show ab_X (d + 33) mX12_clause 70 [(4, .int (iI (sg T z (lk T z ((lk T z p) + 1) + 1)))), (3, .int (iI 0)), (2, .int (iI 1)), (1, .int (iI (sg T z p))), (0, .ref 200)] [.int (iI v67)] l67 _
          refine ab_istore_n (ls' := [(2, .int (iI v67)), (4, .int (iI (sg T z (lk T z ((lk T z p) + 1) + 1)))), (3, .int (iI 0)), (1, .int (iI (sg T z p))), (0, .ref 200)]) dX12_clause_70 rfl (by decide) rfl ?_
          refine ab_aload_n (k := 4) dX12_clause_71 rfl rfl ?_
          refine z_bipush dX12_clause_72 (by decide) ?_
          refine ab_callV (As := [.int (iI 63)]) (rest := []) dX12_clause_74 lX12_179 rfl (Nat.le_of_ble_eq_true rfl) (Nat.le_of_ble_eq_true rfl) rfl ?_
          have k74 := lk_ge T z p67
          refine c_mtakes ht hx0 (by decide) Sl67 (fun x74 l74 Sl74 => ?_) (fun x74 e74 Se74 => ?_)
          · skip
            have b74 := Sl74.2.2.2.2.1
            show ab_X (d + 33) mX12_clause 77 [(2, .int (iI v67)), (4, .int (iI (sg T z (lk T z ((lk T z p) + 1) + 1)))), (3, .int (iI 0)), (1, .int (iI (sg T z p))), (0, .ref 200)] [.int (iI 1)] l74 _
            refine z_if_ne (tgt := 81) dX12_clause_77 (by decide) (by decide) (fun _ => ?_) (fun c77 => absurd c77 (by decide))
            refine ab_aload_n (k := 4) dX12_clause_81 rfl rfl ?_
            refine ab_callV (As := []) (rest := []) dX12_clause_82 lX12_176 rfl (Nat.le_of_ble_eq_true rfl) (Nat.le_of_ble_eq_true rfl) rfl ?_
            refine hS h0 _ _ _ hx0 Sl74 (fun l82 p82 c82 v82 j82 b82 vb82 ev82 Sl82 => ?_) (fun e82 v82 w82 j82 n82 vb82 Se82 => ?_)
            · skip
              have r82 := Sl82.2.2.2.2.1
              show ab_X (d + 33) mX12_clause 85 [(2, .int (iI v67)), (4, .int (iI (sg T z (lk T z ((lk T z p) + 1) + 1)))), (3, .int (iI 0)), (1, .int (iI (sg T z p))), (0, .ref 200)] [.int (iI v82)] l82 _
              refine ab_istore_n (ls' := [(3, .int (iI v82)), (2, .int (iI v67)), (4, .int (iI (sg T z (lk T z ((lk T z p) + 1) + 1)))), (1, .int (iI (sg T z p))), (0, .ref 200)]) dX12_clause_85 rfl (by decide) rfl ?_
              refine ab_goto (tgt := 134) dX12_clause_86 (by decide) ?_
              refine ab_aload_n (k := 4) dX12_clause_134 rfl rfl ?_
              refine z_getI dX12_clause_135 fX12_143 rfl (Or.inl rfl) ?_
              refine z_is (y := (-1)) Sl82.2.2.1 ?_
              refine z_iconst dX12_clause_138 ?_
              refine z_icmp_ne (tgt := 161) dX12_clause_139 (by decide) (by decide) (by decide) (fun c139 => absurd c139 (by decide)) (fun _ => ?_)
              refine ab_aload_n (k := 4) dX12_clause_142 rfl rfl ?_
              refine z_getI dX12_clause_143 fX12_212 rfl (Or.inr rfl) ?_
              refine z_is (y := hf) ((Sl82.1.2 17 (by omega)).trans h17) ?_
              refine z_if_ne (tgt := 161) dX12_clause_146 (by decide) (by omega) (fun c146 => ?_) (fun c146 => ?_)
              · skip
                refine z_vret dX12_clause_161 rfl ?_
                first
                | (exfalso; omega)
                | exact K1 _ _ _ v67 v82 ((cl_1 (by omega) x33).trans ((body_1 (p := (lk T z (lk T z p + 1) + 1)) (by omega) j67).trans (tail_1 x74 j82))) (by omega) (clv_2 ev67 ev82 vb67 vb82) vb67 (GM_n Sl82 h17 h14 (by omega) vb67)
              · skip
                refine ab_iload_n (k := 3) dX12_clause_149 rfl rfl ?_
                refine ab_aload_n (k := 4) dX12_clause_150 rfl rfl ?_
                refine z_getI dX12_clause_151 fX12_216 rfl (Or.inl rfl) ?_
                refine z_is (y := 121) ((Sl82.1.2 13 (by omega)).trans h13) ?_
                refine z_icmp_ne (tgt := 161) dX12_clause_154 (by decide) (by omega) (by decide) (fun c154 => ?_) (fun c154 => ?_)
                · skip
                  refine z_vret dX12_clause_161 rfl ?_
                  first
                  | (exfalso; omega)
                  | exact K1 _ _ _ v67 v82 ((cl_1 (by omega) x33).trans ((body_1 (p := (lk T z (lk T z p + 1) + 1)) (by omega) j67).trans (tail_1 x74 j82))) (by omega) (clv_2 ev67 ev82 vb67 vb82) vb67 (GM_n Sl82 h17 h14 (by omega) vb67)
                · skip
                  refine ab_iload_n (k := 1) dX12_clause_157 rfl rfl ?_
                  refine z_if_ne (tgt := 162) dX12_clause_158 (by decide) (by omega) (fun c158 => ?_) (fun c158 => ?_)
                  · skip
                    refine ab_aload_n (k := 4) dX12_clause_162 rfl rfl ?_
                    refine z_iconst dX12_clause_163 ?_
                    refine z_putZ dX12_clause_164 fX12_212 rfl rfl (Or.inr rfl) ?_
                    refine ab_aload_n (k := 4) dX12_clause_167 rfl rfl ?_
                    refine ab_iload_n (k := 0) dX12_clause_168 rfl rfl ?_
                    refine z_putI dX12_clause_169 fX12_219 rfl rfl ?_
                    refine z_vret dX12_clause_172 rfl ?_
                    first
                    | (exfalso; omega)
                    | exact K1 _ _ _ v67 v82 ((cl_1 (by omega) x33).trans ((body_1 (p := (lk T z (lk T z p + 1) + 1)) (by omega) j67).trans (tail_1 x74 j82))) (by omega) (clv_2 ev67 ev82 vb67 vb82) vb67 (GM_y Sl82 (by omega) vb82)
                  · skip
                    refine z_vret dX12_clause_161 rfl ?_
                    first
                    | (exfalso; omega)
                    | exact K1 _ _ _ v67 v82 ((cl_1 (by omega) x33).trans ((body_1 (p := (lk T z (lk T z p + 1) + 1)) (by omega) j67).trans (tail_1 x74 j82))) (by omega) (clv_2 ev67 ev82 vb67 vb82) vb67 (GM_n Sl82 h17 h14 (by omega) vb67)
            · skip
              show ab_X (d + 33) mX12_clause 85 [(2, .int (iI v67)), (4, .int (iI (sg T z (lk T z ((lk T z p) + 1) + 1)))), (3, .int (iI 0)), (1, .int (iI (sg T z p))), (0, .ref 200)] [.int (iI v82)] e82 _
              refine ab_istore_n (ls' := [(3, .int (iI v82)), (2, .int (iI v67)), (4, .int (iI (sg T z (lk T z ((lk T z p) + 1) + 1)))), (1, .int (iI (sg T z p))), (0, .ref 200)]) dX12_clause_85 rfl (by decide) rfl ?_
              refine ab_goto (tgt := 134) dX12_clause_86 (by decide) ?_
              refine ab_aload_n (k := 4) dX12_clause_134 rfl rfl ?_
              refine z_getI dX12_clause_135 fX12_143 rfl (Or.inl rfl) ?_
              have b1 := zv_R e82 200 11
              refine z_iconst dX12_clause_138 ?_
              refine z_icmp_ne (tgt := 161) dX12_clause_139 (by decide) (by omega) (by decide) (fun c139 => ?_) (fun c139 => absurd c139 (fun q => Se82.2.2.1 (Se82.2.1.symm.trans q)))
              refine z_vret dX12_clause_161 rfl ?_
              exact K0 _ _ ((congrArg Prod.fst (cl_1 (by omega) x33)).trans ((congrArg Prod.fst (body_1 (p := (lk T z (lk T z p + 1) + 1)) (by omega) j67)).trans (tail_2 x74 j82 n82))) n82 Se82
          · skip
            show ab_X (d + 33) mX12_clause 77 [(2, .int (iI v67)), (4, .int (iI (sg T z (lk T z ((lk T z p) + 1) + 1)))), (3, .int (iI 0)), (1, .int (iI (sg T z p))), (0, .ref 200)] [.int (iI 0)] e74 _
            refine z_if_ne (tgt := 81) dX12_clause_77 (by decide) (by decide) (fun c77 => absurd c77 (by decide)) (fun _ => ?_)
            refine z_vret dX12_clause_80 rfl ?_
            exact K0 _ _ ((congrArg Prod.fst (cl_1 (by omega) x33)).trans ((congrArg Prod.fst (body_1 (p := (lk T z (lk T z p + 1) + 1)) (by omega) j67)).trans (tail_3 x74))) (by omega) Se74
        · skip
          show ab_X (d + 33) mX12_clause 70 [(4, .int (iI (sg T z (lk T z ((lk T z p) + 1) + 1)))), (3, .int (iI 0)), (2, .int (iI 1)), (1, .int (iI (sg T z p))), (0, .ref 200)] [.int (iI v67)] e67 _
          refine ab_istore_n (ls' := [(2, .int (iI v67)), (4, .int (iI (sg T z (lk T z ((lk T z p) + 1) + 1)))), (3, .int (iI 0)), (1, .int (iI (sg T z p))), (0, .ref 200)]) dX12_clause_70 rfl (by decide) rfl ?_
          refine ab_aload_n (k := 4) dX12_clause_71 rfl rfl ?_
          refine z_bipush dX12_clause_72 (by decide) ?_
          refine ab_callV (As := [.int (iI 63)]) (rest := []) dX12_clause_74 lX12_179 rfl (Nat.le_of_ble_eq_true rfl) (Nat.le_of_ble_eq_true rfl) rfl ?_
          refine c_mtakesD Se67 ?_
          show ab_X (d + 33) mX12_clause 77 [(2, .int (iI v67)), (4, .int (iI (sg T z (lk T z ((lk T z p) + 1) + 1)))), (3, .int (iI 0)), (1, .int (iI (sg T z p))), (0, .ref 200)] [.int (iI 0)] e67 _
          refine z_if_ne (tgt := 81) dX12_clause_77 (by decide) (by decide) (fun c77 => absurd c77 (by decide)) (fun _ => ?_)
          refine z_vret dX12_clause_80 rfl ?_
          exact K0 _ _ ((congrArg Prod.fst (cl_1 (by omega) x33)).trans (body_2 (by omega) j67 n67)) n67 Se67
      · skip
        refine ab_iload (k := 0) dX12_clause_57 rfl ?_
        refine z_bipush dX12_clause_59 (by decide) ?_
        refine z_icmp_ne (tgt := 89) dX12_clause_61 (by decide) (by omega) (by decide) (fun c61 => ?_) (fun c61 => ?_)
        · skip
          refine ab_aload_n (k := 4) dX12_clause_89 rfl rfl ?_
          refine ab_callV (As := []) (rest := []) dX12_clause_90 lX12_176 rfl (Nat.le_of_ble_eq_true rfl) (Nat.le_of_ble_eq_true rfl) rfl ?_
          refine hS h0 _ _ _ hx0 Sl45 (fun l90 p90 c90 v90 j90 b90 vb90 ev90 Sl90 => ?_) (fun e90 v90 w90 j90 n90 vb90 Se90 => ?_)
          · skip
            have r90 := Sl90.2.2.2.2.1
            show ab_X (d + 33) mX12_clause 93 [(4, .int (iI (sg T z (lk T z ((lk T z p) + 1) + 1)))), (3, .int (iI 0)), (2, .int (iI 1)), (1, .int (iI (sg T z p))), (0, .ref 200)] [.int (iI v90)] l90 _
            refine ab_istore_n (ls' := [(3, .int (iI v90)), (4, .int (iI (sg T z (lk T z ((lk T z p) + 1) + 1)))), (2, .int (iI 1)), (1, .int (iI (sg T z p))), (0, .ref 200)]) dX12_clause_93 rfl (by decide) rfl ?_
            refine ab_aload_n (k := 4) dX12_clause_94 rfl rfl ?_
            refine z_getI dX12_clause_95 fX12_143 rfl (Or.inl rfl) ?_
            refine z_is (y := (-1)) Sl90.2.2.1 ?_
            refine z_iconst dX12_clause_98 ?_
            refine z_icmp_ne (tgt := 134) dX12_clause_99 (by decide) (by decide) (by decide) (fun c99 => absurd c99 (by decide)) (fun _ => ?_)
            refine ab_aload_n (k := 4) dX12_clause_102 rfl rfl ?_
            refine ab_callV (As := []) (rest := []) dX12_clause_103 lX12_153 rfl (Nat.le_of_ble_eq_true rfl) (Nat.le_of_ble_eq_true rfl) rfl ?_
            refine c_mlook ht hx0 Sl90 (fun l103 Sl103 => ?_)
            have k103 := lk_ge T z p90
            have y103 := sg_b ht p90
            show ab_X (d + 33) mX12_clause 106 [(3, .int (iI v90)), (4, .int (iI (sg T z (lk T z ((lk T z p) + 1) + 1)))), (2, .int (iI 1)), (1, .int (iI (sg T z p))), (0, .ref 200)] [.int (iI (sg T z p90))] l103 _
            refine ab_callS (As := [.int (iI (sg T z p90))]) (rest := []) dX12_clause_106 lX12_196 (Nat.le_of_ble_eq_true rfl) (Nat.le_of_ble_eq_true rfl) rfl ?_
            refine c_misSign (by omega) (fun g106 => ?_) (fun g106 => ?_)
            · skip
              show ab_X (d + 33) mX12_clause 109 [(3, .int (iI v90)), (4, .int (iI (sg T z (lk T z ((lk T z p) + 1) + 1)))), (2, .int (iI 1)), (1, .int (iI (sg T z p))), (0, .ref 200)] [.int (iI 1)] l103 _
              refine z_if_eq (tgt := 134) dX12_clause_109 (by decide) (by decide) (fun c109 => absurd c109 (by decide)) (fun _ => ?_)
              refine ab_aload_n (k := 4) dX12_clause_112 rfl rfl ?_
              refine z_iconst dX12_clause_113 ?_
              refine ab_iload_n (k := 0) dX12_clause_114 rfl rfl ?_
              refine ab_callV (As := [.int (iI 1), .int (iI v90)]) (rest := []) dX12_clause_115 lX12_202 rfl (Nat.le_of_ble_eq_true rfl) (Nat.le_of_ble_eq_true rfl) rfl ?_
              refine (hC1 v90 vb90) h0 _ _ _ hx0 Sl103 (fun l115 p115 c115 v115 j115 b115 vb115 ev115 Sl115 => ?_) (fun e115 v115 w115 j115 n115 vb115 Se115 => ?_)
              · skip
                have r115 := Sl115.2.2.2.2.1
                show ab_X (d + 33) mX12_clause 118 [(3, .int (iI v90)), (4, .int (iI (sg T z (lk T z ((lk T z p) + 1) + 1)))), (2, .int (iI 1)), (1, .int (iI (sg T z p))), (0, .ref 200)] [.int (iI v115)] l115 _
                refine ab_istore_n (ls' := [(2, .int (iI v115)), (3, .int (iI v90)), (4, .int (iI (sg T z (lk T z ((lk T z p) + 1) + 1)))), (1, .int (iI (sg T z p))), (0, .ref 200)]) dX12_clause_118 rfl (by decide) rfl ?_
                refine ab_aload_n (k := 4) dX12_clause_119 rfl rfl ?_
                refine z_bipush dX12_clause_120 (by decide) ?_
                refine ab_callV (As := [.int (iI 63)]) (rest := []) dX12_clause_122 lX12_179 rfl (Nat.le_of_ble_eq_true rfl) (Nat.le_of_ble_eq_true rfl) rfl ?_
                have k122 := lk_ge T z p115
                refine c_mtakes ht hx0 (by decide) Sl115 (fun x122 l122 Sl122 => ?_) (fun x122 e122 Se122 => ?_)
                · skip
                  have b122 := Sl122.2.2.2.2.1
                  show ab_X (d + 33) mX12_clause 125 [(2, .int (iI v115)), (3, .int (iI v90)), (4, .int (iI (sg T z (lk T z ((lk T z p) + 1) + 1)))), (1, .int (iI (sg T z p))), (0, .ref 200)] [.int (iI 1)] l122 _
                  refine z_if_ne (tgt := 129) dX12_clause_125 (by decide) (by decide) (fun _ => ?_) (fun c125 => absurd c125 (by decide))
                  refine ab_aload_n (k := 4) dX12_clause_129 rfl rfl ?_
                  refine ab_callV (As := []) (rest := []) dX12_clause_130 lX12_176 rfl (Nat.le_of_ble_eq_true rfl) (Nat.le_of_ble_eq_true rfl) rfl ?_
                  refine hS h0 _ _ _ hx0 Sl122 (fun l130 p130 c130 v130 j130 b130 vb130 ev130 Sl130 => ?_) (fun e130 v130 w130 j130 n130 vb130 Se130 => ?_)
                  · skip
                    have r130 := Sl130.2.2.2.2.1
                    show ab_X (d + 33) mX12_clause 133 [(2, .int (iI v115)), (3, .int (iI v90)), (4, .int (iI (sg T z (lk T z ((lk T z p) + 1) + 1)))), (1, .int (iI (sg T z p))), (0, .ref 200)] [.int (iI v130)] l130 _
                    refine ab_istore_n (ls' := [(3, .int (iI v130)), (2, .int (iI v115)), (4, .int (iI (sg T z (lk T z ((lk T z p) + 1) + 1)))), (1, .int (iI (sg T z p))), (0, .ref 200)]) dX12_clause_133 rfl (by decide) rfl ?_
                    refine ab_aload_n (k := 4) dX12_clause_134 rfl rfl ?_
                    refine z_getI dX12_clause_135 fX12_143 rfl (Or.inl rfl) ?_
                    refine z_is (y := (-1)) Sl130.2.2.1 ?_
                    refine z_iconst dX12_clause_138 ?_
                    refine z_icmp_ne (tgt := 161) dX12_clause_139 (by decide) (by decide) (by decide) (fun c139 => absurd c139 (by decide)) (fun _ => ?_)
                    refine ab_aload_n (k := 4) dX12_clause_142 rfl rfl ?_
                    refine z_getI dX12_clause_143 fX12_212 rfl (Or.inr rfl) ?_
                    refine z_is (y := hf) ((Sl130.1.2 17 (by omega)).trans h17) ?_
                    refine z_if_ne (tgt := 161) dX12_clause_146 (by decide) (by omega) (fun c146 => ?_) (fun c146 => ?_)
                    · skip
                      refine z_vret dX12_clause_161 rfl ?_
                      first
                      | (exfalso; omega)
                      | exact K1 _ _ _ v115 v130 ((cl_1 (by omega) x33).trans ((body_5 (p := (lk T z (lk T z p + 1) + 1)) (by omega) j90 g106 j115).trans (tail_1 x122 j130))) (by omega) (clv_2 (evp_seq (evp_mono ev90 (by omega)) ev115) ev130 vb115 vb130) vb115 (GM_n Sl130 h17 h14 (by omega) vb115)
                    · skip
                      refine ab_iload_n (k := 3) dX12_clause_149 rfl rfl ?_
                      refine ab_aload_n (k := 4) dX12_clause_150 rfl rfl ?_
                      refine z_getI dX12_clause_151 fX12_216 rfl (Or.inl rfl) ?_
                      refine z_is (y := 121) ((Sl130.1.2 13 (by omega)).trans h13) ?_
                      refine z_icmp_ne (tgt := 161) dX12_clause_154 (by decide) (by omega) (by decide) (fun c154 => ?_) (fun c154 => ?_)
                      · skip
                        refine z_vret dX12_clause_161 rfl ?_
                        first
                        | (exfalso; omega)
                        | exact K1 _ _ _ v115 v130 ((cl_1 (by omega) x33).trans ((body_5 (p := (lk T z (lk T z p + 1) + 1)) (by omega) j90 g106 j115).trans (tail_1 x122 j130))) (by omega) (clv_2 (evp_seq (evp_mono ev90 (by omega)) ev115) ev130 vb115 vb130) vb115 (GM_n Sl130 h17 h14 (by omega) vb115)
                      · skip
                        refine ab_iload_n (k := 1) dX12_clause_157 rfl rfl ?_
                        refine z_if_ne (tgt := 162) dX12_clause_158 (by decide) (by omega) (fun c158 => ?_) (fun c158 => ?_)
                        · skip
                          refine ab_aload_n (k := 4) dX12_clause_162 rfl rfl ?_
                          refine z_iconst dX12_clause_163 ?_
                          refine z_putZ dX12_clause_164 fX12_212 rfl rfl (Or.inr rfl) ?_
                          refine ab_aload_n (k := 4) dX12_clause_167 rfl rfl ?_
                          refine ab_iload_n (k := 0) dX12_clause_168 rfl rfl ?_
                          refine z_putI dX12_clause_169 fX12_219 rfl rfl ?_
                          refine z_vret dX12_clause_172 rfl ?_
                          first
                          | (exfalso; omega)
                          | exact K1 _ _ _ v115 v130 ((cl_1 (by omega) x33).trans ((body_5 (p := (lk T z (lk T z p + 1) + 1)) (by omega) j90 g106 j115).trans (tail_1 x122 j130))) (by omega) (clv_2 (evp_seq (evp_mono ev90 (by omega)) ev115) ev130 vb115 vb130) vb115 (GM_y Sl130 (by omega) vb130)
                        · skip
                          refine z_vret dX12_clause_161 rfl ?_
                          first
                          | (exfalso; omega)
                          | exact K1 _ _ _ v115 v130 ((cl_1 (by omega) x33).trans ((body_5 (p := (lk T z (lk T z p + 1) + 1)) (by omega) j90 g106 j115).trans (tail_1 x122 j130))) (by omega) (clv_2 (evp_seq (evp_mono ev90 (by omega)) ev115) ev130 vb115 vb130) vb115 (GM_n Sl130 h17 h14 (by omega) vb115)
                  · skip
                    show ab_X (d + 33) mX12_clause 133 [(2, .int (iI v115)), (3, .int (iI v90)), (4, .int (iI (sg T z (lk T z ((lk T z p) + 1) + 1)))), (1, .int (iI (sg T z p))), (0, .ref 200)] [.int (iI v130)] e130 _
                    refine ab_istore_n (ls' := [(3, .int (iI v130)), (2, .int (iI v115)), (4, .int (iI (sg T z (lk T z ((lk T z p) + 1) + 1)))), (1, .int (iI (sg T z p))), (0, .ref 200)]) dX12_clause_133 rfl (by decide) rfl ?_
                    refine ab_aload_n (k := 4) dX12_clause_134 rfl rfl ?_
                    refine z_getI dX12_clause_135 fX12_143 rfl (Or.inl rfl) ?_
                    have b2 := zv_R e130 200 11
                    refine z_iconst dX12_clause_138 ?_
                    refine z_icmp_ne (tgt := 161) dX12_clause_139 (by decide) (by omega) (by decide) (fun c139 => ?_) (fun c139 => absurd c139 (fun q => Se130.2.2.1 (Se130.2.1.symm.trans q)))
                    refine z_vret dX12_clause_161 rfl ?_
                    exact K0 _ _ ((congrArg Prod.fst (cl_1 (by omega) x33)).trans ((congrArg Prod.fst (body_5 (p := (lk T z (lk T z p + 1) + 1)) (by omega) j90 g106 j115)).trans (tail_2 x122 j130 n130))) n130 Se130
                · skip
                  show ab_X (d + 33) mX12_clause 125 [(2, .int (iI v115)), (3, .int (iI v90)), (4, .int (iI (sg T z (lk T z ((lk T z p) + 1) + 1)))), (1, .int (iI (sg T z p))), (0, .ref 200)] [.int (iI 0)] e122 _
                  refine z_if_ne (tgt := 129) dX12_clause_125 (by decide) (by decide) (fun c125 => absurd c125 (by decide)) (fun _ => ?_)
                  refine z_vret dX12_clause_128 rfl ?_
                  exact K0 _ _ ((congrArg Prod.fst (cl_1 (by omega) x33)).trans ((congrArg Prod.fst (body_5 (p := (lk T z (lk T z p + 1) + 1)) (by omega) j90 g106 j115)).trans (tail_3 x122))) (by omega) Se122
              · skip
                show ab_X (d + 33) mX12_clause 118 [(3, .int (iI v90)), (4, .int (iI (sg T z (lk T z ((lk T z p) + 1) + 1)))), (2, .int (iI 1)), (1, .int (iI (sg T z p))), (0, .ref 200)] [.int (iI v115)] e115 _
                refine ab_istore_n (ls' := [(2, .int (iI v115)), (3, .int (iI v90)), (4, .int (iI (sg T z (lk T z ((lk T z p) + 1) + 1)))), (1, .int (iI (sg T z p))), (0, .ref 200)]) dX12_clause_118 rfl (by decide) rfl ?_
                refine ab_aload_n (k := 4) dX12_clause_119 rfl rfl ?_
                refine z_bipush dX12_clause_120 (by decide) ?_
                refine ab_callV (As := [.int (iI 63)]) (rest := []) dX12_clause_122 lX12_179 rfl (Nat.le_of_ble_eq_true rfl) (Nat.le_of_ble_eq_true rfl) rfl ?_
                refine c_mtakesD Se115 ?_
                show ab_X (d + 33) mX12_clause 125 [(2, .int (iI v115)), (3, .int (iI v90)), (4, .int (iI (sg T z (lk T z ((lk T z p) + 1) + 1)))), (1, .int (iI (sg T z p))), (0, .ref 200)] [.int (iI 0)] e115 _
                refine z_if_ne (tgt := 129) dX12_clause_125 (by decide) (by decide) (fun c125 => absurd c125 (by decide)) (fun _ => ?_)
                refine z_vret dX12_clause_128 rfl ?_
                exact K0 _ _ ((congrArg Prod.fst (cl_1 (by omega) x33)).trans (body_6 (by omega) j90 g106 j115 n115)) n115 Se115
            · skip
              show ab_X (d + 33) mX12_clause 109 [(3, .int (iI v90)), (4, .int (iI (sg T z (lk T z ((lk T z p) + 1) + 1)))), (2, .int (iI 1)), (1, .int (iI (sg T z p))), (0, .ref 200)] [.int (iI 0)] l103 _
              refine z_if_eq (tgt := 134) dX12_clause_109 (by decide) (by decide) (fun _ => ?_) (fun c109 => absurd c109 (by decide))
              refine ab_aload_n (k := 4) dX12_clause_134 rfl rfl ?_
              refine z_getI dX12_clause_135 fX12_143 rfl (Or.inl rfl) ?_
              refine z_is (y := (-1)) Sl103.2.2.1 ?_
              refine z_iconst dX12_clause_138 ?_
              refine z_icmp_ne (tgt := 161) dX12_clause_139 (by decide) (by decide) (by decide) (fun c139 => absurd c139 (by decide)) (fun _ => ?_)
              refine ab_aload_n (k := 4) dX12_clause_142 rfl rfl ?_
              refine z_getI dX12_clause_143 fX12_212 rfl (Or.inr rfl) ?_
              refine z_is (y := hf) ((Sl103.1.2 17 (by omega)).trans h17) ?_
              refine z_if_ne (tgt := 161) dX12_clause_146 (by decide) (by omega) (fun c146 => ?_) (fun c146 => ?_)
              · skip
                refine z_vret dX12_clause_161 rfl ?_
                first
                | (exfalso; omega)
                | exact K1 _ _ _ 1 v90 ((cl_1 (by omega) x33).trans (body_4 (by omega) j90 g106)) (by omega) (clv_1 ev90 vb90) (Or.inr rfl) (GM_n Sl103 h17 h14 (by omega) (Or.inr rfl))
              · skip
                refine ab_iload_n (k := 3) dX12_clause_149 rfl rfl ?_
                refine ab_aload_n (k := 4) dX12_clause_150 rfl rfl ?_
                refine z_getI dX12_clause_151 fX12_216 rfl (Or.inl rfl) ?_
                refine z_is (y := 121) ((Sl103.1.2 13 (by omega)).trans h13) ?_
                refine z_icmp_ne (tgt := 161) dX12_clause_154 (by decide) (by omega) (by decide) (fun c154 => ?_) (fun c154 => ?_)
                · skip
                  refine z_vret dX12_clause_161 rfl ?_
                  first
                  | (exfalso; omega)
                  | exact K1 _ _ _ 1 v90 ((cl_1 (by omega) x33).trans (body_4 (by omega) j90 g106)) (by omega) (clv_1 ev90 vb90) (Or.inr rfl) (GM_n Sl103 h17 h14 (by omega) (Or.inr rfl))
                · skip
                  refine ab_iload_n (k := 2) dX12_clause_157 rfl rfl ?_
                  refine z_if_ne (tgt := 162) dX12_clause_158 (by decide) (by decide) (fun _ => ?_) (fun c158 => absurd c158 (by decide))
                  refine ab_aload_n (k := 4) dX12_clause_162 rfl rfl ?_
                  refine z_iconst dX12_clause_163 ?_
                  refine z_putZ dX12_clause_164 fX12_212 rfl rfl (Or.inr rfl) ?_
                  refine ab_aload_n (k := 4) dX12_clause_167 rfl rfl ?_
                  refine ab_iload_n (k := 0) dX12_clause_168 rfl rfl ?_
                  refine z_putI dX12_clause_169 fX12_219 rfl rfl ?_
                  refine z_vret dX12_clause_172 rfl ?_
                  first
                  | (exfalso; omega)
                  | exact K1 _ _ _ 1 v90 ((cl_1 (by omega) x33).trans (body_4 (by omega) j90 g106)) (by omega) (clv_1 ev90 vb90) (Or.inr rfl) (GM_y Sl103 (by omega) vb90)
          · skip
            show ab_X (d + 33) mX12_clause 93 [(4, .int (iI (sg T z (lk T z ((lk T z p) + 1) + 1)))), (3, .int (iI 0)), (2, .int (iI 1)), (1, .int (iI (sg T z p))), (0, .ref 200)] [.int (iI v90)] e90 _
            refine ab_istore_n (ls' := [(3, .int (iI v90)), (4, .int (iI (sg T z (lk T z ((lk T z p) + 1) + 1)))), (2, .int (iI 1)), (1, .int (iI (sg T z p))), (0, .ref 200)]) dX12_clause_93 rfl (by decide) rfl ?_
            refine ab_aload_n (k := 4) dX12_clause_94 rfl rfl ?_
            refine z_getI dX12_clause_95 fX12_143 rfl (Or.inl rfl) ?_
            have b3 := zv_R e90 200 11
            refine z_iconst dX12_clause_98 ?_
            refine z_icmp_ne (tgt := 134) dX12_clause_99 (by decide) (by omega) (by decide) (fun c99 => ?_) (fun c99 => absurd c99 (fun q => Se90.2.2.1 (Se90.2.1.symm.trans q)))
            refine ab_aload_n (k := 4) dX12_clause_134 rfl rfl ?_
            refine z_getI dX12_clause_135 fX12_143 rfl (Or.inl rfl) ?_
            have b4 := zv_R e90 200 11
            refine z_iconst dX12_clause_138 ?_
            refine z_icmp_ne (tgt := 161) dX12_clause_139 (by decide) (by omega) (by decide) (fun c139 => ?_) (fun c139 => absurd c139 (fun q => Se90.2.2.1 (Se90.2.1.symm.trans q)))
            refine z_vret dX12_clause_161 rfl ?_
            exact K0 _ _ ((congrArg Prod.fst (cl_1 (by omega) x33)).trans (body_3 (by omega) j90 n90)) n90 Se90
        · skip
          refine ab_aload_n (k := 4) dX12_clause_64 rfl rfl ?_
          refine z_iconst dX12_clause_65 ?_
          refine z_iconst dX12_clause_66 ?_
          refine ab_callV (As := [.int (iI 0), .int (iI 0)]) (rest := []) dX12_clause_67 lX12_202 rfl (Nat.le_of_ble_eq_true rfl) (Nat.le_of_ble_eq_true rfl) rfl ?_
          refine hC0 h0 _ _ _ hx0 Sl45 (fun l67 p67 c67 v67 j67 b67 vb67 ev67 Sl67 => ?_) (fun e67 v67 w67 j67 n67 vb67 Se67 => ?_)
          · skip
            have r67 := Sl67.2.2.2.2.1
            show ab_X (d + 33) mX12_clause 70 [(4, .int (iI (sg T z (lk T z ((lk T z p) + 1) + 1)))), (3, .int (iI 0)), (2, .int (iI 1)), (1, .int (iI (sg T z p))), (0, .ref 200)] [.int (iI v67)] l67 _
            refine ab_istore_n (ls' := [(2, .int (iI v67)), (4, .int (iI (sg T z (lk T z ((lk T z p) + 1) + 1)))), (3, .int (iI 0)), (1, .int (iI (sg T z p))), (0, .ref 200)]) dX12_clause_70 rfl (by decide) rfl ?_
            refine ab_aload_n (k := 4) dX12_clause_71 rfl rfl ?_
            refine z_bipush dX12_clause_72 (by decide) ?_
            refine ab_callV (As := [.int (iI 63)]) (rest := []) dX12_clause_74 lX12_179 rfl (Nat.le_of_ble_eq_true rfl) (Nat.le_of_ble_eq_true rfl) rfl ?_
            have k74 := lk_ge T z p67
            refine c_mtakes ht hx0 (by decide) Sl67 (fun x74 l74 Sl74 => ?_) (fun x74 e74 Se74 => ?_)
            · skip
              have b74 := Sl74.2.2.2.2.1
              show ab_X (d + 33) mX12_clause 77 [(2, .int (iI v67)), (4, .int (iI (sg T z (lk T z ((lk T z p) + 1) + 1)))), (3, .int (iI 0)), (1, .int (iI (sg T z p))), (0, .ref 200)] [.int (iI 1)] l74 _
              refine z_if_ne (tgt := 81) dX12_clause_77 (by decide) (by decide) (fun _ => ?_) (fun c77 => absurd c77 (by decide))
              refine ab_aload_n (k := 4) dX12_clause_81 rfl rfl ?_
              refine ab_callV (As := []) (rest := []) dX12_clause_82 lX12_176 rfl (Nat.le_of_ble_eq_true rfl) (Nat.le_of_ble_eq_true rfl) rfl ?_
              refine hS h0 _ _ _ hx0 Sl74 (fun l82 p82 c82 v82 j82 b82 vb82 ev82 Sl82 => ?_) (fun e82 v82 w82 j82 n82 vb82 Se82 => ?_)
              · skip
                have r82 := Sl82.2.2.2.2.1
                show ab_X (d + 33) mX12_clause 85 [(2, .int (iI v67)), (4, .int (iI (sg T z (lk T z ((lk T z p) + 1) + 1)))), (3, .int (iI 0)), (1, .int (iI (sg T z p))), (0, .ref 200)] [.int (iI v82)] l82 _
                refine ab_istore_n (ls' := [(3, .int (iI v82)), (2, .int (iI v67)), (4, .int (iI (sg T z (lk T z ((lk T z p) + 1) + 1)))), (1, .int (iI (sg T z p))), (0, .ref 200)]) dX12_clause_85 rfl (by decide) rfl ?_
                refine ab_goto (tgt := 134) dX12_clause_86 (by decide) ?_
                refine ab_aload_n (k := 4) dX12_clause_134 rfl rfl ?_
                refine z_getI dX12_clause_135 fX12_143 rfl (Or.inl rfl) ?_
                refine z_is (y := (-1)) Sl82.2.2.1 ?_
                refine z_iconst dX12_clause_138 ?_
                refine z_icmp_ne (tgt := 161) dX12_clause_139 (by decide) (by decide) (by decide) (fun c139 => absurd c139 (by decide)) (fun _ => ?_)
                refine ab_aload_n (k := 4) dX12_clause_142 rfl rfl ?_
                refine z_getI dX12_clause_143 fX12_212 rfl (Or.inr rfl) ?_
                refine z_is (y := hf) ((Sl82.1.2 17 (by omega)).trans h17) ?_
                refine z_if_ne (tgt := 161) dX12_clause_146 (by decide) (by omega) (fun c146 => ?_) (fun c146 => ?_)
                · skip
                  refine z_vret dX12_clause_161 rfl ?_
                  first
                  | (exfalso; omega)
                  | exact K1 _ _ _ v67 v82 ((cl_1 (by omega) x33).trans ((body_1 (p := (lk T z (lk T z p + 1) + 1)) (by omega) j67).trans (tail_1 x74 j82))) (by omega) (clv_2 ev67 ev82 vb67 vb82) vb67 (GM_n Sl82 h17 h14 (by omega) vb67)
                · skip
                  refine ab_iload_n (k := 3) dX12_clause_149 rfl rfl ?_
                  refine ab_aload_n (k := 4) dX12_clause_150 rfl rfl ?_
                  refine z_getI dX12_clause_151 fX12_216 rfl (Or.inl rfl) ?_
                  refine z_is (y := 121) ((Sl82.1.2 13 (by omega)).trans h13) ?_
                  refine z_icmp_ne (tgt := 161) dX12_clause_154 (by decide) (by omega) (by decide) (fun c154 => ?_) (fun c154 => ?_)
                  · skip
                    refine z_vret dX12_clause_161 rfl ?_
                    first
                    | (exfalso; omega)
                    | exact K1 _ _ _ v67 v82 ((cl_1 (by omega) x33).trans ((body_1 (p := (lk T z (lk T z p + 1) + 1)) (by omega) j67).trans (tail_1 x74 j82))) (by omega) (clv_2 ev67 ev82 vb67 vb82) vb67 (GM_n Sl82 h17 h14 (by omega) vb67)
                  · skip
                    refine ab_iload_n (k := 1) dX12_clause_157 rfl rfl ?_
                    refine z_if_ne (tgt := 162) dX12_clause_158 (by decide) (by omega) (fun c158 => ?_) (fun c158 => ?_)
                    · skip
                      refine ab_aload_n (k := 4) dX12_clause_162 rfl rfl ?_
                      refine z_iconst dX12_clause_163 ?_
                      refine z_putZ dX12_clause_164 fX12_212 rfl rfl (Or.inr rfl) ?_
                      refine ab_aload_n (k := 4) dX12_clause_167 rfl rfl ?_
                      refine ab_iload_n (k := 0) dX12_clause_168 rfl rfl ?_
                      refine z_putI dX12_clause_169 fX12_219 rfl rfl ?_
                      refine z_vret dX12_clause_172 rfl ?_
                      first
                      | (exfalso; omega)
                      | exact K1 _ _ _ v67 v82 ((cl_1 (by omega) x33).trans ((body_1 (p := (lk T z (lk T z p + 1) + 1)) (by omega) j67).trans (tail_1 x74 j82))) (by omega) (clv_2 ev67 ev82 vb67 vb82) vb67 (GM_y Sl82 (by omega) vb82)
                    · skip
                      refine z_vret dX12_clause_161 rfl ?_
                      first
                      | (exfalso; omega)
                      | exact K1 _ _ _ v67 v82 ((cl_1 (by omega) x33).trans ((body_1 (p := (lk T z (lk T z p + 1) + 1)) (by omega) j67).trans (tail_1 x74 j82))) (by omega) (clv_2 ev67 ev82 vb67 vb82) vb67 (GM_n Sl82 h17 h14 (by omega) vb67)
              · skip
                show ab_X (d + 33) mX12_clause 85 [(2, .int (iI v67)), (4, .int (iI (sg T z (lk T z ((lk T z p) + 1) + 1)))), (3, .int (iI 0)), (1, .int (iI (sg T z p))), (0, .ref 200)] [.int (iI v82)] e82 _
                refine ab_istore_n (ls' := [(3, .int (iI v82)), (2, .int (iI v67)), (4, .int (iI (sg T z (lk T z ((lk T z p) + 1) + 1)))), (1, .int (iI (sg T z p))), (0, .ref 200)]) dX12_clause_85 rfl (by decide) rfl ?_
                refine ab_goto (tgt := 134) dX12_clause_86 (by decide) ?_
                refine ab_aload_n (k := 4) dX12_clause_134 rfl rfl ?_
                refine z_getI dX12_clause_135 fX12_143 rfl (Or.inl rfl) ?_
                have b5 := zv_R e82 200 11
                refine z_iconst dX12_clause_138 ?_
                refine z_icmp_ne (tgt := 161) dX12_clause_139 (by decide) (by omega) (by decide) (fun c139 => ?_) (fun c139 => absurd c139 (fun q => Se82.2.2.1 (Se82.2.1.symm.trans q)))
                refine z_vret dX12_clause_161 rfl ?_
                exact K0 _ _ ((congrArg Prod.fst (cl_1 (by omega) x33)).trans ((congrArg Prod.fst (body_1 (p := (lk T z (lk T z p + 1) + 1)) (by omega) j67)).trans (tail_2 x74 j82 n82))) n82 Se82
            · skip
              show ab_X (d + 33) mX12_clause 77 [(2, .int (iI v67)), (4, .int (iI (sg T z (lk T z ((lk T z p) + 1) + 1)))), (3, .int (iI 0)), (1, .int (iI (sg T z p))), (0, .ref 200)] [.int (iI 0)] e74 _
              refine z_if_ne (tgt := 81) dX12_clause_77 (by decide) (by decide) (fun c77 => absurd c77 (by decide)) (fun _ => ?_)
              refine z_vret dX12_clause_80 rfl ?_
              exact K0 _ _ ((congrArg Prod.fst (cl_1 (by omega) x33)).trans ((congrArg Prod.fst (body_1 (p := (lk T z (lk T z p + 1) + 1)) (by omega) j67)).trans (tail_3 x74))) (by omega) Se74
          · skip
            show ab_X (d + 33) mX12_clause 70 [(4, .int (iI (sg T z (lk T z ((lk T z p) + 1) + 1)))), (3, .int (iI 0)), (2, .int (iI 1)), (1, .int (iI (sg T z p))), (0, .ref 200)] [.int (iI v67)] e67 _
            refine ab_istore_n (ls' := [(2, .int (iI v67)), (4, .int (iI (sg T z (lk T z ((lk T z p) + 1) + 1)))), (3, .int (iI 0)), (1, .int (iI (sg T z p))), (0, .ref 200)]) dX12_clause_70 rfl (by decide) rfl ?_
            refine ab_aload_n (k := 4) dX12_clause_71 rfl rfl ?_
            refine z_bipush dX12_clause_72 (by decide) ?_
            refine ab_callV (As := [.int (iI 63)]) (rest := []) dX12_clause_74 lX12_179 rfl (Nat.le_of_ble_eq_true rfl) (Nat.le_of_ble_eq_true rfl) rfl ?_
            refine c_mtakesD Se67 ?_
            show ab_X (d + 33) mX12_clause 77 [(2, .int (iI v67)), (4, .int (iI (sg T z (lk T z ((lk T z p) + 1) + 1)))), (3, .int (iI 0)), (1, .int (iI (sg T z p))), (0, .ref 200)] [.int (iI 0)] e67 _
            refine z_if_ne (tgt := 81) dX12_clause_77 (by decide) (by decide) (fun c77 => absurd c77 (by decide)) (fun _ => ?_)
            refine z_vret dX12_clause_80 rfl ?_
            exact K0 _ _ ((congrArg Prod.fst (cl_1 (by omega) x33)).trans (body_2 (by omega) j67 n67)) n67 Se67
    · skip
      show ab_X (d + 33) mX12_clause 36 [(1, .int (iI (sg T z p))), (0, .ref 200)] [.int (iI 0)] e33 _
      refine z_if_ne (tgt := 40) dX12_clause_36 (by decide) (by decide) (fun c36 => absurd c36 (by decide)) (fun _ => ?_)
      refine z_vret dX12_clause_39 rfl ?_
      exact K0 _ _ (cl_2 (by omega) x33) (by omega) Se33
  · skip
    show ab_X (d + 33) mX12_clause 11 [(1, .int (iI (sg T z p))), (0, .ref 200)] [.int (iI 0)] l1 _
    refine z_if_ne (tgt := 20) dX12_clause_11 (by decide) (by decide) (fun c11 => absurd c11 (by decide)) (fun _ => ?_)
    refine ab_aload_n (k := 1) dX12_clause_14 rfl rfl ?_
    refine ab_callV (As := []) (rest := []) dX12_clause_15 lX12_149 rfl (Nat.le_of_ble_eq_true rfl) (Nat.le_of_ble_eq_true rfl) rfl ?_
    refine c_mfails ht hx0 Sl1 (fun e15 Se15 => ?_)
    show ab_X (d + 33) mX12_clause 18 [(1, .int (iI (sg T z p))), (0, .ref 200)] [.int (iI 0)] e15 _
    refine ab_pop dX12_clause_18 rfl ?_
    refine z_vret dX12_clause_19 rfl ?_
    exact K0 _ _ (cl_3 (by omega)) (by omega) Se15
theorem c_mclause {T : Nat → Int} {z t b n d : Nat} {env : Nat → Int} {h0 h : ab_H} {Q : ab_Q} {p k : Nat} {hf fv : Int} (ht : tx T z) (hx0 : MX T z t b n env h0) (Sh : ML z h0 h p 0) (h13 : zv h0 200 13 = 121) (h17 : zv h0 200 17 = hf) (h14 : zv h0 200 14 = fv) (hhf : hf = 0 ∨ hf = 1) (K1 : ∀ h' p' c' is v, pCl T z k p = (-1, p', c') → p ≤ p' → clv env k c' is v → (is = 0 ∨ is = 1) → GM z h0 h' p' (if hf = 0 then is else hf) (if hf = 0 ∧ is = 1 then v else fv) → Q none h') (K0 : ∀ h' w, (pCl T z k p).1 = w → ¬ w = -1 → MD z h0 h' w → Q none h') : ab_X (d + 33) mX12_clause 0 (lv_args 0 [.ref 200]) [] h Q := by
  have u := m_unit (t := t) (b := b) (n := n) (env := env) ht 6 d 0 rfl
  have s := m_sum (t := t) (b := b) (n := n) (env := env) ht 6 (d + 4) 0 rfl
  exact c_mclause0 ht hx0 s u.2.1 u.2.2 Sh h13 h17 h14 hhf K1 K0
