/-! CALLS SIDE BY SIDE: text of a rule -/
theorem c_text10 {d : Nat} {h : ab_H} {Q : ab_Q} {T : Nat → Int} {z : Nat}  (ht : tx T z) (hz1 : zv h 1 1 = (z : Int)) (hT : ∀ i, i < z → zv h 2 i = T i) (hk : zv h 0 5 = 0) (k0 : ∀ h' w, (pRu T z).1 = w → ¬ w = -1 → inR w → sm [1, 11, 12, 13] h h' → zv h' 1 1 = (z : Int) → Q (some (.int (iI (-1)))) h') (k1 : ∀ h1 h2 p c, pRu T z = (-1, p, c) → CL T z h h1 (lk T z p) c → sm [20, 21, 22] h1 h2 → zv h2 20 3 = zv h1 11 3 → (∀ j, j < 160 → zv h2 21 j = zv h1 12 j ∧ zv h2 22 j = zv h1 13 j) → Q (some (.int (iI (0 + 1 - 1)))) (zp (zp h2 0 5 (0 + 1)) 1 1 0)) : ab_X (d + 35) mX11_text 0 (lv_args 0 [.ref 0, .int (iI 1)]) [] h Q := by
  show ab_X (d + 35) mX11_text 0 [(0, .ref 0), (1, .int (iI 1))] [] h Q
  refine ab_iload_n (k := 1) dX11_text_0 rfl rfl ?_
  refine z_if_ne (tgt := 9) dX11_text_1 (by decide) (by decide) (fun _ => ?_) (fun c1 => absurd c1 (by decide))
  refine ab_iload_n (k := 1) dX11_text_9 rfl rfl ?_
  refine z_iconst dX11_text_10 ?_
  refine z_icmp_ne (tgt := 19) dX11_text_11 (by decide) (by decide) (by decide) (fun c11 => absurd c11 (by decide)) (fun _ => ?_)
  refine ab_aload_n (k := 0) dX11_text_14 rfl rfl ?_
  refine ab_callV (As := []) (rest := []) dX11_text_15 lX11_123 rfl (Nat.le_of_ble_eq_true rfl) (Nat.le_of_ble_eq_true rfl) rfl ?_
  refine c_addRule0 ht hz1 hT hk (fun e15 w15 j15 n15 r15 s15 z15 => ?_) (fun g15 h15 p15 c15 j15 S15 s15 t15 u15 => ?_)
  · skip
    show ab_X (d + 35) mX11_text 18 [(0, .ref 0), (1, .int (iI 1))] [.int (iI (-1))] e15 _
    refine z_iret dX11_text_18 rfl ?_
    first | exact k0 _ _ j15 n15 r15 s15 z15 | exact k1 _ _ _ _ j15 S15 s15 t15 u15
  · skip
    show ab_X (d + 35) mX11_text 18 [(0, .ref 0), (1, .int (iI 1))] [.int (iI (0 + 1 - 1))] (zp (zp h15 0 5 (0 + 1)) 1 1 0) _
    refine z_iret dX11_text_18 rfl ?_
    first | exact k0 _ _ j15 n15 r15 s15 z15 | exact k1 _ _ _ _ j15 S15 s15 t15 u15
theorem c_text11 {d : Nat} {h : ab_H} {Q : ab_Q} {T : Nat → Int} {z : Nat}  (ht : tx T z) (hz1 : zv h 1 1 = (z : Int)) (hT : ∀ i, i < z → zv h 2 i = T i) (hk : zv h 0 5 = 1) (k0 : ∀ h' w, (pRu T z).1 = w → ¬ w = -1 → inR w → sm [1, 11, 12, 13] h h' → zv h' 1 1 = (z : Int) → Q (some (.int (iI (-1)))) h') (k1 : ∀ h1 h2 p c, pRu T z = (-1, p, c) → CL T z h h1 (lk T z p) c → sm [24, 25, 26] h1 h2 → zv h2 24 3 = zv h1 11 3 → (∀ j, j < 160 → zv h2 25 j = zv h1 12 j ∧ zv h2 26 j = zv h1 13 j) → Q (some (.int (iI (1 + 1 - 1)))) (zp (zp h2 0 5 (1 + 1)) 1 1 0)) : ab_X (d + 35) mX11_text 0 (lv_args 0 [.ref 0, .int (iI 1)]) [] h Q := by
  show ab_X (d + 35) mX11_text 0 [(0, .ref 0), (1, .int (iI 1))] [] h Q
  refine ab_iload_n (k := 1) dX11_text_0 rfl rfl ?_
  refine z_if_ne (tgt := 9) dX11_text_1 (by decide) (by decide) (fun _ => ?_) (fun c1 => absurd c1 (by decide))
  refine ab_iload_n (k := 1) dX11_text_9 rfl rfl ?_
  refine z_iconst dX11_text_10 ?_
  refine z_icmp_ne (tgt := 19) dX11_text_11 (by decide) (by decide) (by decide) (fun c11 => absurd c11 (by decide)) (fun _ => ?_)
  refine ab_aload_n (k := 0) dX11_text_14 rfl rfl ?_
  refine ab_callV (As := []) (rest := []) dX11_text_15 lX11_123 rfl (Nat.le_of_ble_eq_true rfl) (Nat.le_of_ble_eq_true rfl) rfl ?_
  refine c_addRule1 ht hz1 hT hk (fun e15 w15 j15 n15 r15 s15 z15 => ?_) (fun g15 h15 p15 c15 j15 S15 s15 t15 u15 => ?_)
  · skip
    show ab_X (d + 35) mX11_text 18 [(0, .ref 0), (1, .int (iI 1))] [.int (iI (-1))] e15 _
    refine z_iret dX11_text_18 rfl ?_
    first | exact k0 _ _ j15 n15 r15 s15 z15 | exact k1 _ _ _ _ j15 S15 s15 t15 u15
  · skip
    show ab_X (d + 35) mX11_text 18 [(0, .ref 0), (1, .int (iI 1))] [.int (iI (1 + 1 - 1))] (zp (zp h15 0 5 (1 + 1)) 1 1 0) _
    refine z_iret dX11_text_18 rfl ?_
    first | exact k0 _ _ j15 n15 r15 s15 z15 | exact k1 _ _ _ _ j15 S15 s15 t15 u15
theorem c_text12 {d : Nat} {h : ab_H} {Q : ab_Q} {T : Nat → Int} {z : Nat}  (ht : tx T z) (hz1 : zv h 1 1 = (z : Int)) (hT : ∀ i, i < z → zv h 2 i = T i) (hk : zv h 0 5 = 2) (k0 : ∀ h' w, (pRu T z).1 = w → ¬ w = -1 → inR w → sm [1, 11, 12, 13] h h' → zv h' 1 1 = (z : Int) → Q (some (.int (iI (-1)))) h') (k1 : ∀ h1 h2 p c, pRu T z = (-1, p, c) → CL T z h h1 (lk T z p) c → sm [28, 29, 30] h1 h2 → zv h2 28 3 = zv h1 11 3 → (∀ j, j < 160 → zv h2 29 j = zv h1 12 j ∧ zv h2 30 j = zv h1 13 j) → Q (some (.int (iI (2 + 1 - 1)))) (zp (zp h2 0 5 (2 + 1)) 1 1 0)) : ab_X (d + 35) mX11_text 0 (lv_args 0 [.ref 0, .int (iI 1)]) [] h Q := by
  show ab_X (d + 35) mX11_text 0 [(0, .ref 0), (1, .int (iI 1))] [] h Q
  refine ab_iload_n (k := 1) dX11_text_0 rfl rfl ?_
  refine z_if_ne (tgt := 9) dX11_text_1 (by decide) (by decide) (fun _ => ?_) (fun c1 => absurd c1 (by decide))
  refine ab_iload_n (k := 1) dX11_text_9 rfl rfl ?_
  refine z_iconst dX11_text_10 ?_
  refine z_icmp_ne (tgt := 19) dX11_text_11 (by decide) (by decide) (by decide) (fun c11 => absurd c11 (by decide)) (fun _ => ?_)
  refine ab_aload_n (k := 0) dX11_text_14 rfl rfl ?_
  refine ab_callV (As := []) (rest := []) dX11_text_15 lX11_123 rfl (Nat.le_of_ble_eq_true rfl) (Nat.le_of_ble_eq_true rfl) rfl ?_
  refine c_addRule2 ht hz1 hT hk (fun e15 w15 j15 n15 r15 s15 z15 => ?_) (fun g15 h15 p15 c15 j15 S15 s15 t15 u15 => ?_)
  · skip
    show ab_X (d + 35) mX11_text 18 [(0, .ref 0), (1, .int (iI 1))] [.int (iI (-1))] e15 _
    refine z_iret dX11_text_18 rfl ?_
    first | exact k0 _ _ j15 n15 r15 s15 z15 | exact k1 _ _ _ _ j15 S15 s15 t15 u15
  · skip
    show ab_X (d + 35) mX11_text 18 [(0, .ref 0), (1, .int (iI 1))] [.int (iI (2 + 1 - 1))] (zp (zp h15 0 5 (2 + 1)) 1 1 0) _
    refine z_iret dX11_text_18 rfl ?_
    first | exact k0 _ _ j15 n15 r15 s15 z15 | exact k1 _ _ _ _ j15 S15 s15 t15 u15
theorem c_text13 {d : Nat} {h : ab_H} {Q : ab_Q} {T : Nat → Int} {z : Nat}  (ht : tx T z) (hz1 : zv h 1 1 = (z : Int)) (hT : ∀ i, i < z → zv h 2 i = T i) (hk : zv h 0 5 = 3) (k0 : ∀ h' w, (pRu T z).1 = w → ¬ w = -1 → inR w → sm [1, 11, 12, 13] h h' → zv h' 1 1 = (z : Int) → Q (some (.int (iI (-1)))) h') (k1 : ∀ h1 h2 p c, pRu T z = (-1, p, c) → CL T z h h1 (lk T z p) c → sm [32, 33, 34] h1 h2 → zv h2 32 3 = zv h1 11 3 → (∀ j, j < 160 → zv h2 33 j = zv h1 12 j ∧ zv h2 34 j = zv h1 13 j) → Q (some (.int (iI (3 + 1 - 1)))) (zp (zp h2 0 5 (3 + 1)) 1 1 0)) : ab_X (d + 35) mX11_text 0 (lv_args 0 [.ref 0, .int (iI 1)]) [] h Q := by
  show ab_X (d + 35) mX11_text 0 [(0, .ref 0), (1, .int (iI 1))] [] h Q
  refine ab_iload_n (k := 1) dX11_text_0 rfl rfl ?_
  refine z_if_ne (tgt := 9) dX11_text_1 (by decide) (by decide) (fun _ => ?_) (fun c1 => absurd c1 (by decide))
  refine ab_iload_n (k := 1) dX11_text_9 rfl rfl ?_
  refine z_iconst dX11_text_10 ?_
  refine z_icmp_ne (tgt := 19) dX11_text_11 (by decide) (by decide) (by decide) (fun c11 => absurd c11 (by decide)) (fun _ => ?_)
  refine ab_aload_n (k := 0) dX11_text_14 rfl rfl ?_
  refine ab_callV (As := []) (rest := []) dX11_text_15 lX11_123 rfl (Nat.le_of_ble_eq_true rfl) (Nat.le_of_ble_eq_true rfl) rfl ?_
  refine c_addRule3 ht hz1 hT hk (fun e15 w15 j15 n15 r15 s15 z15 => ?_) (fun g15 h15 p15 c15 j15 S15 s15 t15 u15 => ?_)
  · skip
    show ab_X (d + 35) mX11_text 18 [(0, .ref 0), (1, .int (iI 1))] [.int (iI (-1))] e15 _
    refine z_iret dX11_text_18 rfl ?_
    first | exact k0 _ _ j15 n15 r15 s15 z15 | exact k1 _ _ _ _ j15 S15 s15 t15 u15
  · skip
    show ab_X (d + 35) mX11_text 18 [(0, .ref 0), (1, .int (iI 1))] [.int (iI (3 + 1 - 1))] (zp (zp h15 0 5 (3 + 1)) 1 1 0) _
    refine z_iret dX11_text_18 rfl ?_
    first | exact k0 _ _ j15 n15 r15 s15 z15 | exact k1 _ _ _ _ j15 S15 s15 t15 u15
theorem c_text14 {d : Nat} {h : ab_H} {Q : ab_Q}  (hk : zv h 0 5 = 4) (K : Q (some (.int (iI (-1)))) h) : ab_X (d + 35) mX11_text 0 (lv_args 0 [.ref 0, .int (iI 1)]) [] h Q := by
  show ab_X (d + 35) mX11_text 0 [(0, .ref 0), (1, .int (iI 1))] [] h Q
  refine ab_iload_n (k := 1) dX11_text_0 rfl rfl ?_
  refine z_if_ne (tgt := 9) dX11_text_1 (by decide) (by decide) (fun _ => ?_) (fun c1 => absurd c1 (by decide))
  refine ab_iload_n (k := 1) dX11_text_9 rfl rfl ?_
  refine z_iconst dX11_text_10 ?_
  refine z_icmp_ne (tgt := 19) dX11_text_11 (by decide) (by decide) (by decide) (fun c11 => absurd c11 (by decide)) (fun _ => ?_)
  refine ab_aload_n (k := 0) dX11_text_14 rfl rfl ?_
  refine ab_callV (As := []) (rest := []) dX11_text_15 lX11_123 rfl (Nat.le_of_ble_eq_true rfl) (Nat.le_of_ble_eq_true rfl) rfl ?_
  refine c_addRule4 hk ?_
  show ab_X (d + 35) mX11_text 18 [(0, .ref 0), (1, .int (iI 1))] [.int (iI (-1))] h _
  refine z_iret dX11_text_18 rfl ?_
  exact K
theorem c_text1 {d : Nat} {h : ab_H} {Q : ab_Q} {T : Nat → Int} {z k : Nat} (ht : tx T z) (hz1 : zv h 1 1 = (z : Int)) (hT : ∀ i, i < z → zv h 2 i = T i) (hk4 : k < 4) (hk : zv h 0 5 = (k : Int)) (k0 : ∀ h' w, (pRu T z).1 = w → ¬ w = -1 → inR w → sm [1, 11, 12, 13] h h' → zv h' 1 1 = (z : Int) → Q (some (.int (iI (-1)))) h') (k1 : ∀ h1 h2 p c, pRu T z = (-1, p, c) → CL T z h h1 (lk T z p) c → sm [20 + 4 * k, 21 + 4 * k, 22 + 4 * k] h1 h2 → zv h2 (20 + 4 * k) 3 = zv h1 11 3 → (∀ j, j < 160 → zv h2 (21 + 4 * k) j = zv h1 12 j ∧ zv h2 (22 + 4 * k) j = zv h1 13 j) → Q (some (.int (iI ((k : Int) + 1 - 1)))) (zp (zp h2 0 5 ((k : Int) + 1)) 1 1 0)) : ab_X (d + 35) mX11_text 0 (lv_args 0 [.ref 0, .int (iI 1)]) [] h Q := by
  have : k = 0 ∨ k = 1 ∨ k = 2 ∨ k = 3 := by omega
  rcases this with rfl | rfl | rfl | rfl
  · exact c_text10 ht hz1 hT hk k0 k1
  · exact c_text11 ht hz1 hT hk k0 k1
  · exact c_text12 ht hz1 hT hk k0 k1
  · exact c_text13 ht hz1 hT hk k0 k1
theorem s_text1 : SIM mX11_text mX12_text [.int (iI 1)] := fun h ⟨n, k, I⟩ => by
  obtain ⟨z, t1, t2, t3, t4⟩ := tape_at I.1
  obtain ⟨rc, a1, a2, a3, a4, a5, a6⟩ := I.2.1
  by_cases c4 : rc = 4
  · subst c4
    refine c_text14 (d := 25) a2 ?_
    obtain ⟨h9, e9, J, I9, rc', y1, y2, y3, -⟩ := nx I cF.rf
    exact c_mtext4 (d := 24) e9 (y3.trans (y2.symm.trans a2)) ⟨rfl, n, k, I9⟩
  · refine c_text1 (d := 25) t1 t2 (fun i hi => rfl) (by omega) a2 (fun h1 w j nw rw1 s1 z1 => ?_) (fun h1 h2 p c j S s2 u1 u2 => ?_)
    · obtain ⟨h9, e9, J, I9, rc', y1, y2, y3, -⟩ := nx I (kF s1 rfl t2 z1)
      obtain ⟨z', v1, v2, v3, v4⟩ := tape_at J
      have ez : z' = z := by omega
      subst ez
      obtain ⟨env, hE⟩ := lb_env I9.2.2
      exact c_mtext1 (d := 24) (k := rc) e9 v1 v3 v4 hE (by omega) (y3.trans (y2.symm.trans a2)) (by rw [j]; exact rw1) (fun _ h3 f => ⟨rfl, n, k, IN_m (F11_mF f) I9⟩) (fun q => absurd (j.symm.trans q) nw)
    · have co : ∀ b i, ¬ (b = 1) → ¬ (11 ≤ b ∧ b ≤ 13) → ¬ (20 + 4 * rc ≤ b ∧ b ≤ 22 + 4 * rc) → ¬ (b = 0 ∧ i = 5) → zv (zp (zp h2 0 5 ((rc : Int) + 1)) 1 1 0) b i = zv h b i := fun b i x1 x2 x3 x4 => by
        rw [zv_zp_ne (by omega), zv_zp_ne (by omega), s2.1 b i (by simp only [List.mem_cons, List.not_mem_nil, or_false]; omega), S.1.1 b i (by simp only [List.mem_cons, List.not_mem_nil, or_false]; omega)]
      obtain ⟨h9, e9, J, M, d9, b9, w5, w7⟩ := nx2 I (h1 := zp (zp h2 0 5 ((rc : Int) + 1)) 1 1 0) (fun b i hb => co b i (by omega) (by omega) (by omega) (by omega))
      obtain ⟨z', v1, v2, v3, v4⟩ := tape_at J
      have ez : z' = z := by omega
      subst ez
      obtain ⟨env, hE⟩ := lb_env b9
      refine c_mtext1 (d := 24) (k := rc) e9 v1 v3 v4 hE (by omega) ((M 200 7 (by unfold relM; omega)).trans a3) (by rw [j]; show inR (-1); decide) (fun q => absurd (by rw [j]) q) (fun _ h3 tr => ⟨rfl, n, k, ?_⟩)
      have dz : dn (zp (zp h2 0 5 ((rc : Int) + 1)) 1 1 0) h3 := d9.tr (fun b i hb => tr.1 b i (by omega) (by omega) (by omega))
      have mo : ∀ b i, b ≠ 202 → b ≠ 203 → ¬ (b = 200 ∧ (i = 17 ∨ (6 ≤ i ∧ i ≤ 14))) → zv h3 b i = zv h9 b i := fun b i x1 x2 x3 => by
        by_cases e : b = 200
        · subst e; exact tr.2.1 i (by omega) (by omega)
        · exact tr.1 b i e x1 x2
      have R : RA n k (zp (zp h2 0 5 ((rc : Int) + 1)) 1 1 0) h3 := RA_gen J (RP_eq (fun b i q => co b i (by unfold cP at q; omega) (by unfold cP at q; omega) (by unfold cP at q; omega) (by unfold cP at q; omega)) (fun b i q => mo b i (by unfold mP at q; omega) (by unfold mP at q; omega) (by unfold mP at q; omega)) J.1) ⟨0, by omega, zv_zp_s (by decide), tr.2.2.1, fun i hi => absurd hi (by omega)⟩ (fun b i q => co b i (by unfold cI cC cN cS at q; omega) (by unfold cI cC cN cS at q; omega) (by unfold cI cC cN cS at q; omega) (by unfold cI cC cN cS at q; omega)) (fun b i q => mo b i (by unfold mI mC mS at q; omega) (by unfold mI mC mS at q; omega) (by unfold mI mC mS at q; omega))
      refine ⟨RA_eq (dn_C dz) eqM.refl R, ?_, fun i => by rw [mo 204 i (by omega) (by omega) (by omega)]; exact b9 i⟩
      have rq : RQ (zp (zp h2 0 5 ((rc : Int) + 1)) 1 1 0) h3 := by
        refine ⟨rc + 1, by omega, ?_, by rw [tr.2.2.2.1]; omega, ?_, ?_, fun i hi => ?_⟩
        · rw [zv_zp_a (by decide), zv_zp_s (by omega)]; omega
        · rw [co 0 6 (by omega) (by omega) (by omega) (by omega), mo 200 33 (by omega) (by omega) (by omega), M 200 33 (by unfold relM; omega)]; exact a4
        · rw [co 0 6 (by omega) (by omega) (by omega) (by omega)]; omega
        · by_cases ei : i = rc
          · subst ei
            have cl : c.length ≤ 160 := by have := S.2.2.1; have := S.2.1.2.2.2.2; have := t1.1; omega
            refine ⟨c, cl, ⟨?_, fun q hq => ⟨?_, ?_⟩⟩, zv h 2, z', p, t1, ?_, fun q hq => ?_, j⟩
            · rw [zv_zp_a (by omega), zv_zp_a (by omega), u1]; exact S.2.2.2.1
            · rw [show 20 + 4 * i + 1 = 21 + 4 * i by omega, zv_zp_a (by omega), zv_zp_a (by omega), (u2 q (by omega)).1]; exact (S.2.2.2.2 q hq).1
            · rw [show 20 + 4 * i + 2 = 22 + 4 * i by omega, zv_zp_a (by omega), zv_zp_a (by omega), (u2 q (by omega)).2]; exact (S.2.2.2.2 q hq).2
            · rw [Int.toNat_natCast, tr.2.2.2.2.2 i, if_pos rfl]
            · rw [Int.toNat_natCast, tr.2.2.2.2.1, if_pos (by omega), show 160 * i + q - 160 * i = q by omega]; exact v4 q hq
          · obtain ⟨x, b1, b2, T, y, p', d1, d2, d3, d4⟩ := a6 i (by omega)
            have dy := d1.1
            refine ⟨x, b1, ⟨(co _ 3 (by omega) (by omega) (by omega) (by omega)).trans b2.1, fun q hq => ⟨(co _ q (by omega) (by omega) (by omega) (by omega)).trans (b2.2 q hq).1, (co _ q (by omega) (by omega) (by omega) (by omega)).trans (b2.2 q hq).2⟩⟩, T, y, p', d1, ?_, fun q hq => ?_, d4⟩
            · rw [tr.2.2.2.2.2, if_neg (by omega), M 203 _ (by unfold relM; omega)]; exact d2
            · rw [tr.2.2.2.2.1, if_neg (by omega), M 202 _ (by unfold relM; omega)]; exact d3 q hq
      exact RQ_q (fun b i q => dz b i (by unfold qC at q; omega)) (fun _ _ _ => rfl) rq
