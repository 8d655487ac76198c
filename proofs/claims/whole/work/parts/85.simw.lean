/-! CALLS SIDE BY SIDE: stop, leave, feed -/
theorem hcarB {n k : Nat} {h : ab_H} (I : IN n k h h) : 0 ≤ zv h 36 2 ∧ zv h 36 2 ≤ 1000 := by
  have := cB_le (zv h 211) n
  have := I.1.1.1
  rw [RA_cars I.1]; omega
theorem s_stop {s p : Int} (hs : inR s) (hp : inR p) : SIM mX11_stop mX12_stop [.int (iI s), .int (iI p)] := fun h ⟨n, k, I⟩ => by
  obtain ⟨r1, r2, r3, r4, r5, r6, r7, r8, -⟩ := I.1.1
  obtain ⟨L, l1, l2⟩ := Ln I.1 s
  obtain ⟨a, cq, p1, p2, p3, p4, p5, p6⟩ := I.1.2.2.2.1
  have hcar := hcarB I
  by_cases v : (0 ≤ s ∧ s < zv h 15 3) ∧ 0 ≤ p ∧ allf (cfr h n) L p.toNat = true
  · obtain ⟨P, rfl⟩ : ∃ P : Nat, p = P := ⟨p.toNat, by omega⟩
    rw [Int.toNat_natCast] at v
    have hLb := l1 v.1
    have hpL := ((allf_cfr hLb.2.1).mp v.2.2).1
    refine c_stop1 (d := 57) hs r4 r1 (by omega) l1 p5 p2 (by omega) v.1 hcar.2 v.2.2 hpL (fun hk h2 ke en => ?_)
    have u : up h h2 := (kep_up ke).tr (sm_up en.1 rfl)
    obtain ⟨h9, e9, J, M, d9, b9, w5, w7⟩ := nx2 I u
    obtain ⟨m, rfl⟩ : ∃ m : Nat, s = m := ⟨s.toNat, by omega⟩
    have y3 := l2 v.1
    rw [Int.toNat_natCast] at y3 hLb
    refine c_mstop1 (d := 57) e9 w5 r1 (by omega) ((M 207 _ (by unfold relM; omega)).trans y3.1) y3.2.2 ((M 200 37 (by unfold relM; omega)).trans p4) p1 (by omega) (by rw [← RA_fr J]; exact v.2.2) hpL (by omega) (fun jk j2 re ms => ⟨rfl, ?_⟩)
    have R2 : RA n k hk jk := sim_keep J ke ((M 200 37 (by unfold relM; omega)).trans p4) re
    have ecf : cfr hk n = cfr h n := funext (fun y => by unfold cfr; rw [kep_o ke (by omega), kep_o ke (by omega)])
    have R3 : RA n k h2 j2 := sim_enter R2 (by omega) ((kep_o ke (by omega)).trans hLb.1) hpL (by rw [ecf]; exact v.2.2) en ms
    exact fin2 I R3 ((d9.tr (sm_dn re.1 rfl)).tr (sm_dn ms.1 rfl)) ((kep_q ke).trans (sm_qC en.1 rfl)) (((eqM_q M).trans (rem_q re)).trans (sm_q ms.1 rfl)) (fun j => by rw [ms.1.1 204 j (by decide), re.1.1 204 j (by decide)]; exact b9 j)
  · refine c_stop0 (d := 57) hs hp r4 r1 (by omega) l1 p5 p2 (by omega) v ?_
    obtain ⟨h9, e9, J, M, d9, b9, w5, w7⟩ := nx2 I cF.rf.2
    have fin : INV h9 := fin2 I J d9 (fun _ _ _ => rfl) (eqM_q M) b9
    by_cases c : (0 ≤ s ∧ s < zv h9 200 24) ∧ 0 ≤ p ∧ p < zv h9 200 32
    · obtain ⟨P, rfl⟩ : ∃ P : Nat, p = P := ⟨p.toNat, by omega⟩
      obtain ⟨m, rfl⟩ : ∃ m : Nat, s = m := ⟨s.toNat, by omega⟩
      have y3 := l2 (by omega)
      rw [Int.toNat_natCast] at y3 v
      exact c_mstop0 (d := 57) (a := 0) e9 w5 r1 (by omega) ((M 207 _ (by unfold relM; omega)).trans y3.1) y3.2.2 (fun z => v ⟨by omega, by omega, by rw [RA_fr J]; exact z.2.2⟩) (by omega) ⟨rfl, fin⟩
    · exact c_mstop_ (d := 57) e9 hs hp c ⟨rfl, fin⟩
theorem s_leave {s : Int} (hs : inR s) : SIM mX11_leave mX12_leave [.int (iI s)] := fun h ⟨n, k, I⟩ => by
  obtain ⟨r1, r2, r3, r4, r5, r6, r7, r8, -⟩ := I.1.1
  obtain ⟨a, cq, p1, p2, p3, p4, p5, p6⟩ := I.1.2.2.2.1
  obtain ⟨s1, s2, s3, s4, -⟩ := I.1.2.2.2.2.2
  have hcar := hcarB I
  by_cases v : 0 ≤ s ∧ s < zv h 15 0
  · have wf := s1.1 s.toNat (by omega)
    have hvb : -1 ≤ zv h 37 s.toNat ∧ zv h 37 s.toNat < 20 := by
      rcases wf with w | ⟨p, w1, w2, w3⟩
      · have w1 : zv h 37 s.toNat = -1 := w.1
        omega
      · have w4 : zv h 37 s.toNat = p := w2
        omega
    have hb2 : ∀ p : Nat, zv h 37 s.toNat = p → zv h 37 p = p := fun p e => by
      rcases wf with w | ⟨p', w1, w2, w3⟩
      · have w1 : zv h 37 s.toNat = -1 := w.1
        omega
      · have w4 : zv h 37 s.toNat = p' := w2
        have : p' = p := by omega
        subst this; exact w3
    have hg : 0 ≤ zv h 37 s.toNat → zv h 18 s.toNat = 0 := fun q => by
      rcases wf with w | ⟨p', w1, w2, w3⟩
      · have w1 : zv h 37 s.toNat = -1 := w.1
        omega
      · obtain ⟨so, L, x1, x2, x3, x4, x5, x6⟩ := s1.2 p' w1 w3
        exact ((x6 s.toNat (by omega)).2 ((x6 s.toNat (by omega)).1.mpr w2)).2
    have row : ∀ h9, RA n k h h9 → (0 ≤ zv h 37 s.toNat → zv h9 211 s.toNat = zv h 37 s.toNat) ∧ (¬ 0 ≤ zv h 37 s.toNat → zv h9 211 s.toNat < 0 ∧ -5 ≤ zv h9 211 s.toNat) := fun h9 J => by
      have b := RA_row J (y := s.toNat) (by omega)
      refine ⟨fun q => by rw [b, if_pos (hg q)], fun q => ?_⟩
      rw [b]; split <;> omega
    refine c_leave (d := 57) hs r4 r1 p5 p2 (by omega) rfl hvb hb2 hcar.1 (fun q => ?_) (fun q p hk h2 e ke ex => ?_)
    · obtain ⟨h9, e9, J, M, d9, b9, w5, w7⟩ := nx2 I cF.rf.2
      have ro := (row h9 J).2 (by omega)
      exact c_mleave (d := 58) e9 hs w5 r1 ((M 200 37 (by unfold relM; omega)).trans p4) p1 rfl (by omega) (fun _ => ⟨rfl, fin2 I J d9 (fun _ _ _ => rfl) (eqM_q M) b9⟩) (fun _ p jk j2 e => absurd e (by omega))
    · have u : up h h2 := (kep_up ke).tr (sm_up ex.1 rfl)
      obtain ⟨h9, e9, J, M, d9, b9, w5, w7⟩ := nx2 I u
      have ro := (row h9 J).1 (by omega)
      refine c_mleave (d := 58) e9 hs w5 r1 ((M 200 37 (by unfold relM; omega)).trans p4) p1 rfl (by omega) (fun z => absurd ⟨by omega, by omega⟩ z) (fun _ p' jk j2 e' re ga => ⟨by rw [ro], ?_⟩)
      have epp : p' = p := by omega
      subst epp
      have R2 : RA n k hk jk := sim_keep J ke ((M 200 37 (by unfold relM; omega)).trans p4) re
      have R3 : RA n k h2 j2 := sim_exit R2 (by omega) ((kep_o ke (by omega)).trans (hb2 p' e)) ex ga
      exact fin2 I R3 ((d9.tr (sm_dn re.1 rfl)).tr (sm_dn ga.1 rfl)) ((kep_q ke).trans (sm_qC ex.1 rfl)) (((eqM_q M).trans (rem_q re)).trans (sm_q ga.1 rfl)) (fun j => by rw [ga.1.1 204 j (by decide), re.1.1 204 j (by decide)]; exact b9 j)
  · refine c_leave_ (d := 57) hs v ?_
    obtain ⟨h9, e9, J, M, d9, b9, w5, w7⟩ := nx2 I cF.rf.2
    exact c_mleave_ (d := 58) e9 hs (by omega) ⟨rfl, fin2 I J d9 (fun _ _ _ => rfl) (eqM_q M) b9⟩
theorem feC_o {h : ab_H} {a b c e f : Int} {x j : Nat} (hb : x ≠ 1 ∧ x ≠ 2) : zv (feC h a b c e f) x j = zv h x j := by unfold feC; rw [addC_o hb, addC_o hb, addC_o hb, addC_o hb, addC_o hb]
theorem feM_o {h : ab_H} {a b c e f : Int} {x j : Nat} (hb : x ≠ 201) (h2 : ¬ (x = 200 ∧ j = 6)) : zv (feM h a b c e f) x j = zv h x j := by unfold feM; rw [putM_o hb h2, putM_o hb h2, putM_o hb h2, putM_o hb h2, putM_o hb h2]
theorem RT_fe {hc hm : ab_H} {a b c e f : Int} (ht : 0 ≤ tC hc ∧ tC hc + (nzb a + nzb b + nzb c + nzb e + nzb f) ≤ 160) (r : RT hc hm) : RT (feC hc a b c e f) (feM hm a b c e f) := by
  have b1 := nzb_b a
  have b2 := nzb_b b
  have b3 := nzb_b c
  have b4 := nzb_b e
  have b5 := nzb_b f
  unfold feC feM
  have t1 := addC_t (h := hc) (v := a) (by omega)
  have t2 := addC_t (h := addC hc a) (v := b) (by omega)
  have t3 := addC_t (h := addC (addC hc a) b) (v := c) (by omega)
  have t4 := addC_t (h := addC (addC (addC hc a) b) c) (v := e) (by omega)
  exact RT_feed (by omega) (RT_feed (by omega) (RT_feed (by omega) (RT_feed (by omega) (RT_feed (by omega) r))))
theorem s_feed {a b c e f : Int} (ha : inR a) (hb : inR b) (hc : inR c) (he : inR e) (hf : inR f) : SIM mX11_feed mX12_feed [.int (iI a), .int (iI b), .int (iI c), .int (iI e), .int (iI f)] := fun h ⟨n, k, I⟩ => by
  obtain ⟨z, z1, z2, z3, z4⟩ := I.1.2.1
  have tc : tC h = z := z2
  refine c_feed (d := 59) ha hb hc he hf (by omega) (fun q => ?_) (fun q => ?_)
  · obtain ⟨h9, e9, J, M, d9, b9, w5, w7⟩ := nx2 I cF.rf.2
    have tm : tM h9 = z := (M 200 6 (by unfold relM; omega)).trans z3
    exact c_mfeed (d := 59) e9 ha hb hc he hf (by omega) (fun _ => ⟨rfl, fin2 I J d9 (fun _ _ _ => rfl) (eqM_q M) b9⟩) (fun w => absurd (by omega) q)
  · obtain ⟨h9, e9, J, M, d9, b9, w5, w7⟩ := nx2 I (h1 := feC h a b c e f) (fun x j hx => feC_o (by omega))
    have tm : tM h9 = z := (M 200 6 (by unfold relM; omega)).trans z3
    refine c_mfeed (d := 59) e9 ha hb hc he hf (by omega) (fun w => absurd (by omega) w) (fun w => ?_)
    have T := RT_fe (hm := h9) (a := a) (b := b) (c := c) (e := e) (f := f) (by omega) J.2.1
    have T2 := T
    obtain ⟨y, y1, y2, y3, -⟩ := T2
    have R : RA n k (feC h a b c e f) (feM h9 a b c e f) := RA_gen J (RP_eq (fun x j q => feC_o (by unfold cP at q; omega)) (fun x j q => feM_o (by unfold mP at q; omega) (by unfold mP at q; omega)) J.1) T (fun x j q => feC_o (by unfold cI cC cN cS at q; omega)) (fun x j q => feM_o (by unfold mI mC mS at q; omega) (by unfold mI mC mS at q; omega))
    refine ⟨?_, fin2 I R (d9.tr (fun x j hx => feM_o (by omega) (by omega))) (fun x j q => feC_o (by unfold qC at q; omega)) ((eqM_q M).trans (fun x j q => feM_o (by unfold qM at q; omega) (by unfold qM at q; omega))) (fun j => by rw [feM_o (by decide) (by omega)]; exact b9 j)⟩
    rw [show tM (feM h9 a b c e f) = tC (feC h a b c e f) from y3.trans y2.symm]
theorem c_mgaps0 {d : Nat} {h : ab_H} {Q : ab_Q} {h9 : ab_H} {x : Int} (e9 : zp h 200 0 0 = h9) (hx : inR x) (hk : zv h9 200 24 = 0) (K : Q (some (.int (iI (-1)))) h9) : ab_X (d + 4) mX12_gaps 0 (lv_args 0 [.ref 200, .int (iI x)]) [] h Q := by
  show ab_X (d + 4) mX12_gaps 0 [(0, .ref 200), (1, .int (iI x))] [] h Q
  refine ab_aload_n (k := 0) dX12_gaps_0 rfl rfl ?_
  refine z_iconst dX12_gaps_1 ?_
  refine z_putI dX12_gaps_2 fX12_111 rfl rfl ?_
  rw [e9]
  refine ab_aload_n (k := 0) dX12_gaps_5 rfl rfl ?_
  refine z_getI dX12_gaps_6 fX12_284 rfl (Or.inl rfl) ?_
  have b1 := zv_R h9 200 24
  refine z_if_eq (tgt := 24) dX12_gaps_9 (by decide) (by omega) (fun c9 => ?_) (fun c9 => ?_)
  · skip
    refine z_iconst dX12_gaps_24 ?_
    refine z_iret dX12_gaps_25 rfl ?_
    exact K
  · skip
    refine ab_sub (ls' := [(0, .ref 200), (1, .int (iI x))]) (ks := [0, 1]) rfl ?_
    first | exact absurd hk gL | (exfalso; omega)
theorem s_gaps {x : Int} (hx : inR x) : SIM mX11_gaps mX12_gaps [.int (iI x)] := fun h ⟨n, k, I⟩ => by
  obtain ⟨r1, r2, r3, r4, r5, r6, r7, r8, -⟩ := I.1.1
  have key : ∀ h1, cF h h1 → ∀ Q : ab_Q, (∀ h9, INV h9 → cfr h n = mfr h9 n → (¬ (¬ k = 0 ∧ 0 ≤ x ∧ x ≤ 3) → Q (some (.int (iI (-1)))) h9) ∧ (x = 0 → Q (some (.int (iI (fT (fun (x : Int) k => max x (k : Int)) 0 (gAt (mfr h9 n)) n)))) h9) ∧ (x = 1 → Q (some (.int (iI (sT (fun y => if gAt (mfr h9 n) y = 0 then (0 : Int) else 1) n)))) h9) ∧ (x = 2 → Q (some (.int (iI (sT (fun y => ((gAt (mfr h9 n) y : Nat) : Int)) n)))) h9) ∧ (x = 3 → Q (some (.int (iI (sT (fun y => if ((gAt (mfr h9 n) y : Nat) : Int) < (nT (zv h 16) 20 k) then ((gAt (mfr h9 n) y : Nat) : Int) else 0) n)))) h9)) → ab_X 60 mX12_gaps 0 (lv_args 0 [.ref 200, .int (iI x)]) [] h1 Q := fun h1 c Q q => by
    obtain ⟨h9, e9, J, I9, -⟩ := nx I c
    obtain ⟨w1, w2, w3, w4, w5, w6, w7, w8, -⟩ := J.1
    have esh : nT (zv h 16) 20 k = nT (fun i => zv h9 207 (2 * i)) 20 k := nT_congr (fun i hi => ((w8 i hi).1).symm)
    obtain ⟨q0, q1, q2, q3, q4⟩ := q h9 ⟨n, k, I9⟩ (RA_fr J)
    exact c_mgaps (d := 56) e9 w5 r1 hx w7 r2 (fun i hi => by have := w8 i hi; omega) esh q0 q1 q2 q3 q4
  have gl : ∀ y, y < n → gAt (cfr h n) y ≤ 20 := fun y hy => by
    unfold gAt
    split
    · have hin := rr_in (cfr h n) 40 y
      rcases Nat.lt_or_ge 20 (rr (cfr h n) 40 y) with q | q
      · exact absurd (hin 20 q) (cfr_end (by omega))
      · exact q
    · omega
  refine c_gaps (d := 56) (k := k) hx r4 r1 ⟨r6, r2, fun i hi => (r8 i hi).2.2⟩ (fun q => ?_) (fun q w h1 s1 => ?_) (fun q w h1 s1 => ?_) (fun q w h1 s1 => ?_) (fun q w h1 s1 => ?_) (fun q w h1 s1 => ?_)
  · obtain ⟨h9, e9, J, I9, -⟩ := nx I cF.rf
    have w7 := J.1.2.2.2.2.2.2.1
    exact c_mgaps0 (d := 56) e9 hx (by omega) ⟨rfl, n, k, I9⟩
  · exact key h1 (cF_sm s1 rfl) _ (fun h9 i e => ⟨fun _ => ⟨rfl, i⟩, fun z => absurd w (by omega), fun z => absurd w (by omega), fun z => absurd w (by omega), fun z => absurd w (by omega)⟩)
  · exact key h1 (cF_sm s1 rfl) _ (fun h9 i e => ⟨fun z => absurd ⟨by omega, by omega, by omega⟩ z, fun z => ⟨by rw [e], i⟩, fun z => absurd w (by omega), fun z => absurd w (by omega), fun z => absurd w (by omega)⟩)
  · exact key h1 (cF_sm s1 rfl) _ (fun h9 i e => ⟨fun z => absurd ⟨by omega, by omega, by omega⟩ z, fun z => absurd w (by omega), fun z => ⟨by rw [e], i⟩, fun z => absurd w (by omega), fun z => absurd w (by omega)⟩)
  · exact key h1 (cF_sm s1 rfl) _ (fun h9 i e => ⟨fun z => absurd ⟨by omega, by omega, by omega⟩ z, fun z => absurd w (by omega), fun z => absurd w (by omega), fun z => ⟨by rw [← e, sT_congr (f := fun y => if ((gAt (cfr h n) y : Nat) : Int) < 21 then ((gAt (cfr h n) y : Nat) : Int) else 0) (f' := fun y => ((gAt (cfr h n) y : Nat) : Int)) (fun y hy => if_pos (by have := gl y hy; omega))], i⟩, fun z => absurd w (by omega)⟩)
  · exact key h1 (cF_sm s1 rfl) _ (fun h9 i e => ⟨fun z => absurd ⟨by omega, by omega, by omega⟩ z, fun z => absurd w (by omega), fun z => absurd w (by omega), fun z => absurd w (by omega), fun z => ⟨by rw [← e, nT_top (f := zv h 16) (by have := (r8 0 (by omega)).2.2.1; omega) k (by omega)], i⟩⟩)
