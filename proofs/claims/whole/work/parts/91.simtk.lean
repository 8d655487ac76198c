/-! CALLS SIDE BY SIDE: text of a kerb -/
theorem c_text0 {d : Nat} {h : ab_H} {Q : ab_Q} {T : Nat → Int} {z : Nat}  (ht : tx T z) (hz1 : zv h 1 1 = (z : Int)) (hT : ∀ i, i < z → zv h 2 i = T i) (k0 : ∀ h' w, (kRu T z).1 = w → ¬ w = -1 → sm KP h h' → zv h' 1 1 = (z : Int) → Q (some (.int (iI (-1)))) h') (k1 : ∀ h1 h2 h3 p S, kRu T z = (-1, S) → KQ T z h h1 p S → pcR h1 h2 → cpR h2 h3 36 39 → Q (some (.int (iI ((S.2.2.1.length : Nat) : Int)))) (zp (zp (zp (zp h3 165 2 0) 0 10 0) 0 6 (-1)) 1 1 0)) : ab_X (d + 35) mX11_text 0 (lv_args 0 [.ref 0, .int (iI 0)]) [] h Q := by
  show ab_X (d + 35) mX11_text 0 [(0, .ref 0), (1, .int (iI 0))] [] h Q
  refine ab_iload_n (k := 1) dX11_text_0 rfl rfl ?_
  refine z_if_ne (tgt := 9) dX11_text_1 (by decide) (by decide) (fun c1 => absurd c1 (by decide)) (fun _ => ?_)
  refine ab_aload_n (k := 0) dX11_text_4 rfl rfl ?_
  refine ab_callV (As := []) (rest := []) dX11_text_5 lX11_120 rfl (Nat.le_of_ble_eq_true rfl) (Nat.le_of_ble_eq_true rfl) rfl ?_
  refine c_beginKerb ht hz1 hT (fun e5 w5 j5 n5 s5 z5 => ?_) (fun f5 g5 h5 p5 S5 j5 Q5 a5 b5 => ?_)
  · skip
    show ab_X (d + 35) mX11_text 8 [(0, .ref 0), (1, .int (iI 0))] [.int (iI (-1))] e5 _
    refine z_iret dX11_text_8 rfl ?_
    first | exact k0 _ _ j5 n5 s5 z5 | exact k1 _ _ _ _ _ j5 Q5 a5 b5
  · skip
    show ab_X (d + 35) mX11_text 8 [(0, .ref 0), (1, .int (iI 0))] [.int (iI ((S5.2.2.1.length : Nat) : Int))] (zp (zp (zp (zp h5 165 2 0) 0 10 0) 0 6 (-1)) 1 1 0) _
    refine z_iret dX11_text_8 rfl ?_
    first | exact k0 _ _ j5 n5 s5 z5 | exact k1 _ _ _ _ _ j5 Q5 a5 b5
theorem krl_ne {T : Nat → Int} {z : Nat} : ∀ (f p : Nat) (S S' : kS), kRL T z f p S = (-1, S') → ¬ S'.2.2.1.length = 0
  | 0, p, S, S', h => by
    have h2 : (if sg T z p = -1 ∧ ¬ S.2.2.1.length = 0 then ((-1 : Int), S) else (((lk T z p : Nat) : Int), S)) = (-1, S') := h
    split at h2
    · next c => have := congrArg Prod.snd h2; have e : S = S' := this; rw [← e]; exact c.2
    · have e : ((lk T z p : Nat) : Int) = -1 := congrArg Prod.fst h2
      omega
  | f + 1, p, S, S', h => by
    have h2 : (if sg T z p = 59 then (if (kclF T z S (lk T z p + 1)).1 = -1 then kRL T z f (kclF T z S (lk T z p + 1)).2.1 (kclF T z S (lk T z p + 1)).2.2 else ((kclF T z S (lk T z p + 1)).1, S)) else if sg T z p = -1 ∧ ¬ S.2.2.1.length = 0 then (-1, S) else (((lk T z p : Nat) : Int), S)) = (-1, S') := h
    split at h2
    · split at h2
      · exact krl_ne f _ _ _ h2
      · next c => exact absurd (congrArg Prod.fst h2) c
    · split at h2
      · next c => have := congrArg Prod.snd h2; have e : S = S' := this; rw [← e]; exact c.2
      · have e : ((lk T z p : Nat) : Int) = -1 := congrArg Prod.fst h2
        omega
theorem kru_ne {T : Nat → Int} {z : Nat} {S : kS} (h : kRu T z = (-1, S)) : ¬ S.2.2.1.length = 0 := by
  unfold kRu at h
  split at h
  · exact krl_ne _ _ _ _ h
  · next c => exact absurd (congrArg Prod.fst h) c
theorem getD_in {l : List (Int × Int)} {i : Nat} (h : i < l.length) : l.getD i (0, 0) ∈ l := by
  rw [List.getD_eq_getElem?_getD, List.getElem?_eq_getElem h]; exact List.getElem_mem h
theorem s_text0 : SIM mX11_text mX12_text [.int (iI 0)] := fun h ⟨n, k, I⟩ => by
  obtain ⟨z, t1, t2, t3, t4⟩ := tape_at I.1
  refine c_text0 (d := 25) t1 t2 (fun i hi => rfl) (fun h1 w j nw s1 z1 => ?_) (fun h1 h2 h3 p S j KQ1 pc cp => ?_)
  · obtain ⟨h9, e9, J, I9, -⟩ := nx I (kF s1 rfl t2 z1)
    obtain ⟨z', v1, v2, v3, v4⟩ := tape_at J
    have ez : z' = z := by omega
    subst ez
    exact c_mtext0 (d := 49) e9 v1 v3 v4 (fun h4 w2 _ _ f => ⟨rfl, n, k, IN_m (F12_mF f) I9⟩) (fun h4 h5 S2 q => absurd (j.symm.trans (congrArg Prod.fst q)) nw)
  · obtain ⟨H, eH⟩ : ∃ H : ab_H, H = zp (zp (zp (zp h3 165 2 0) 0 10 0) 0 6 (-1)) 1 1 0 := ⟨_, rfl⟩
    rw [← eH]
    obtain ⟨sKP, TLq, kc, kok⟩ := KQ1
    have ne := kru_ne j
    have c3 : ∀ b i, ¬ (b = 1 ∧ i = 1) → ¬ (b = 0 ∧ (i = 6 ∨ i = 10)) → ¬ (b = 165 ∧ i = 2) → zv H b i = zv h3 b i := fun b i x1 x2 x3 => by
      rw [eH, zv_zp_ne (by omega), zv_zp_ne (by omega), zv_zp_ne (by omega), zv_zp_ne (by omega)]
    have c2 : ∀ b i, ¬ (36 ≤ b ∧ b ≤ 38) → zv h3 b i = zv h2 b i := fun b i x1 => cp.1.1 b i (by simp only [List.mem_cons, List.not_mem_nil, or_false]; omega)
    have c1 : ∀ b i, ¬ (15 ≤ b ∧ b ≤ 18) → zv h2 b i = zv h1 b i := fun b i x1 => pc.1.1 b i (by simp only [List.mem_cons, List.not_mem_nil, or_false]; omega)
    have c0 : ∀ b i, ¬ b = 1 → ¬ (3 ≤ b ∧ b ≤ 9) → zv h1 b i = zv h b i := fun b i x1 x2 => sKP.1 b i (by unfold KP; simp only [List.mem_cons, List.not_mem_nil, or_false]; omega)
    have co : ∀ b i, ¬ b = 1 → ¬ (3 ≤ b ∧ b ≤ 9) → ¬ (15 ≤ b ∧ b ≤ 18) → ¬ (36 ≤ b ∧ b ≤ 38) → ¬ (b = 0 ∧ (i = 6 ∨ i = 10)) → ¬ (b = 165 ∧ i = 2) → zv H b i = zv h b i := fun b i x1 x2 x3 x4 x5 x6 => by
      rw [c3 b i (by omega) x5 x6, c2 b i x4, c1 b i x3, c0 b i x1 x2]
    obtain ⟨h9, e9, J, M, d9, b9, w5, w7⟩ := nx2 I (h1 := H) (fun b i hb => co b i (by omega) (by omega) (by omega) (by omega) (by omega) (by omega))
    obtain ⟨z', v1, v2, v3, v4⟩ := tape_at J
    have ez : z' = z := by omega
    subst ez
    refine c_mtext0 (d := 49) e9 v1 v3 v4 (fun h4 w2 q nq => absurd (by rw [← q, j]) nq) (fun h4 h5 S2 q f tk kok2 => ?_)
    have eS : S2 = S := (congrArg Prod.snd (q.symm.trans j))
    subst eS
    obtain ⟨k1, k2, k3, k4, k5, k6⟩ := kc
    obtain ⟨m1, m2, m3, m4, m5, m6, m7, m8, m9, m10, m11, m12⟩ := tk
    obtain ⟨o1, o2, o3, o4, o5⟩ := kok
    have y0 := o1 0 (by decide)
    have y1 := o1 1 (by decide)
    have y2 := o1 2 (by decide)
    simp only [kl, km, if_true] at y0 y1 y2
    simp only [show ¬ (1 : Nat) = 0 by decide, show ¬ (2 : Nat) = 0 by decide, if_false] at y1 y2
    have g0 : g3 S2.2.1 0 = S2.2.1.1 := rfl
    have pl : ∀ i, i ≤ 3 → zv H 15 i = zv h1 4 i := fun i hi => by rw [c3 15 i (by omega) (by omega) (by omega), c2 15 i (by omega), pc.2.1 i hi]
    have p0 : zv H 15 0 = S2.2.1.1 := by rw [pl 0 (by omega), k1 0 (by omega)]; rfl
    have p3 : zv H 15 3 = ((S2.2.2.1.length : Nat) : Int) := by rw [pl 3 (by omega), k2]
    have p1 : zv H 15 1 = g3 S2.2.1 1 := by rw [pl 1 (by omega), k1 1 (by omega)]
    have p2 : zv H 15 2 = g3 S2.2.1 2 := by rw [pl 2 (by omega), k1 2 (by omega)]
    have e37 : ∀ y, y < 20 → zv H 37 y = -1 := fun y hy => by
      rw [c3 37 y (by omega) (by omega) (by omega), (cp.2.1 y hy).1, c1 _ y (by omega), c0 _ y (by omega) (by omega)]; exact (I.1.2.2.2.2.1.1 y hy).1
    have e38 : ∀ y, y < 20 → zv H 38 y = -1 := fun y hy => by
      rw [c3 38 y (by omega) (by omega) (by omega), (cp.2.1 y hy).2, c1 _ y (by omega), c0 _ y (by omega) (by omega)]; exact (I.1.2.2.2.2.1.1 y hy).2
    have e36 : ∀ i, 2 ≤ i → i ≤ 5 → zv H 36 i = 0 := fun i a b => by
      rw [c3 36 i (by omega) (by omega) (by omega), cp.2.2 i a b, c1 _ i (by omega), c0 _ i (by omega) (by omega)]; exact I.1.2.2.2.2.1.2 i a b
    have e18 : ∀ y, y < 20 → zv H 18 y = zv h1 7 y := fun y hy => by rw [c3 18 y (by omega) (by omega) (by omega), c2 18 y (by omega), pc.2.2.2 y hy]
    have dz : dn H h5 := d9.tr (fun b i hb => (m1 b i (by omega) (by omega) (by omega) (by omega) (by omega) (by omega) (by omega)).trans (f.1 b i (by omega) (by omega) (by omega) (by omega)))
    obtain ⟨ra, rq, b1, b2, b3, b4, b5, b6⟩ := I.1.2.2.2.1
    have R : RA S2.2.1.1.toNat S2.2.2.1.length H h5 := by
      refine ⟨⟨by omega, o4, by omega, by omega, by omega, p3, m4, fun i hi => ?_, fun _ => ⟨?_, ?_⟩, fun q => absurd q ne, by omega, by omega⟩, ⟨0, by omega, by rw [eH]; exact zv_zp_s (by decide), m3, fun i hi => absurd hi (by omega)⟩, ⟨?_, fun q => absurd m8 q⟩, ⟨0, rq, by omega, b2, ?_, m7, ?_, fun i hi => absurd hi (by omega)⟩, ?_, ?_⟩
      · have s16 : zv H 16 i = zv h1 5 i ∧ zv H 17 i = zv h1 6 i := by
          rw [c3 16 i (by omega) (by omega) (by omega), c3 17 i (by omega) (by omega) (by omega), c2 16 i (by omega), c2 17 i (by omega)]; exact pc.2.2.1 i (by omega)
        have a := k3 i hi
        have b := m10 i hi
        have c := o2 _ (getD_in hi)
        omega
      · rw [p1]; exact m9 1 (by omega)
      · rw [p2]; exact m9 2 (by omega)
      · rw [m8, eH, zv_zp_ne (by omega), zv_zp_ne (by omega), zv_zp_s (by decide)]
      · rw [eH, zv_zp_ne (by omega), zv_zp_ne (by omega), zv_zp_ne (by omega), zv_zp_s (by decide)]; rfl
      · rw [co 165 1 (by omega) (by omega) (by omega) (by omega) (by omega) (by omega)]; exact b5
      · exact RN_eq (fun b i q => co b i (by unfold cN at q; omega) (by unfold cN at q; omega) (by unfold cN at q; omega) (by unfold cN at q; omega) (by unfold cN at q; omega) (by unfold cN at q; omega)) I.1.2.2.2.2.1
      · refine ⟨⟨fun y hy => Or.inl ⟨e37 y hy, e38 y hy⟩, fun p hp e => ?_⟩, ?_, fun y hy _ => ?_, fun y hy _ => ?_, ?_, ?_, ?_⟩
        · have e' : zv H 37 p = (p : Int) := e
          rw [e37 p hp] at e'; omega
        · rw [e36 2 (by omega) (by omega), cB_cut (n := 0) 20 (by omega) (fun y a b e => by have e' : zv H 37 y = (y : Int) := e; rw [e37 y b] at e'; omega)]; rfl
        · have r := m11 y hy
          have g := k6 y hy
          rw [e18 y hy]
          by_cases c : gtd S2.2.2.2 y
          · rw [r.1 c, if_neg (by rw [g.2.mpr c]; decide)]
          · rw [r.2.1 c, if_pos (by rcases g.1 with u | u; exact u; exact absurd (g.2.mp u) c)]; exact (e37 y hy).symm
        · rw [(m11 y hy).2.2, if_neg (by show ¬ zv H 37 y = (y : Int); rw [e37 y hy]; omega)]
        · rw [m12 0 (by omega), e36 3 (by omega) (by omega)]
        · rw [m12 1 (by omega), e36 4 (by omega) (by omega)]
        · rw [m12 2 (by omega), e36 5 (by omega) (by omega)]
    have mo : ∀ b i, qM b i → ¬ (b = 200 ∧ i = 33) → zv h5 b i = zv h b i := fun b i q ni => by
      unfold qM at q
      rw [← M b i (by unfold relM; omega)]
      by_cases e : b = 200
      · subst e; exact (m2 i (by omega) (by omega) (by omega) (by omega) (by omega) (by omega) (by omega)).trans (f.2 i (by omega) (by omega) (by omega) (by omega) (by omega))
      · exact (m1 b i e (by omega) (by omega) (by omega) (by omega) (by omega) (by omega)).trans (f.1 b i e (by omega) (by omega) (by omega))
    refine ⟨rfl, _, _, RA_eq (dn_C dz) eqM.refl R, RQ_q (fun b i q => dz b i (by unfold qC at q; omega)) (fun _ _ _ => rfl) (hc := H) ?_, fun i => ?_⟩
    · obtain ⟨rc, a1, a2, a3, a4, a5, a6⟩ := I.2.1
      have h06 : zv H 0 6 = -1 := by rw [eH, zv_zp_ne (by omega), zv_zp_s (by decide)]
      refine ⟨rc, a1, (co 0 5 (by omega) (by omega) (by omega) (by omega) (by omega) (by omega)).trans a2, (mo 200 7 (by unfold qM; omega) (by omega)).trans a3, h06.trans m6.symm, by rw [h06]; omega, fun i hi => ?_⟩
      obtain ⟨x, b1, b2, T, y, p', d1, d2, d3, d4⟩ := a6 i hi
      exact ⟨x, b1, ⟨(co _ 3 (by omega) (by omega) (by omega) (by omega) (by omega) (by omega)).trans b2.1, fun q hq => ⟨(co _ q (by omega) (by omega) (by omega) (by omega) (by omega) (by omega)).trans (b2.2 q hq).1, (co _ q (by omega) (by omega) (by omega) (by omega) (by omega) (by omega)).trans (b2.2 q hq).2⟩⟩, T, y, p', d1, (mo _ _ (by unfold qM; omega) (by omega)).trans d2, fun q hq => (mo _ _ (by unfold qM; omega) (by omega)).trans (d3 q hq), d4⟩
    · rw [m1 204 i (by decide) (by decide) (by decide) (by decide) (by decide) (by decide) (by decide), f.1 204 i (by decide) (by decide) (by decide) (by decide)]; exact b9 i
