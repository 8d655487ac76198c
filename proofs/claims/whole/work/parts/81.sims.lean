/-! CALLS SIDE BY SIDE: count, sort, end, rule, obey -/
theorem nx {n k : Nat} {h h1 : ab_H} (I : IN n k h h) (c : cF h h1) : ∃ h9, zp h1 200 0 0 = h9 ∧ RA n k h h9 ∧ IN n k h9 h9 ∧ RQ h h9 := by
  have m : eqM h (zp h1 200 0 0) := (up_M c.2).trans mF_9.1
  exact ⟨_, rfl, RA_eq eqC.refl m I.1, IN_m mF_9 (IN_c c I), RQ_eq eqC.refl m I.2.1⟩
theorem RA_gen {n k : Nat} {hc hm hc' hm' : ab_H} (r : RA n k hc hm) (p : RP n k hc' hm') (t : RT hc' hm') (co : ∀ b j, (cI b j ∨ cC b j ∨ cN b j ∨ cS b j) → zv hc' b j = zv hc b j) (mo : ∀ b j, (mI b j ∨ mC b j ∨ mS b j) → zv hm' b j = zv hm b j) : RA n k hc' hm' :=
  ⟨p, t, RI_eq (fun b j q => co b j (Or.inl q)) (fun b j q => mo b j (Or.inl q)) r.2.2.1, RC_eq (fun b j q => co b j (Or.inr (Or.inl q))) (fun b j q => mo b j (Or.inr (Or.inl q))) r.2.2.2.1, RN_eq (fun b j q => co b j (Or.inr (Or.inr (Or.inl q)))) r.2.2.2.2.1, RS_eq (fun b j q => co b j (Or.inr (Or.inr (Or.inr q)))) (fun b j q => mo b j (Or.inr (Or.inr q))) r.2.2.2.2.2⟩
theorem s_count {s : Int} (hs : inR s) : SIM mX11_count mX12_count [.int (iI s)] := fun h ⟨n, k, I⟩ => by
  obtain ⟨h9, e9, J, I9, rc, a1, a2, a3, a4, a5, a6⟩ := nx I cF.rf
  obtain ⟨r1, r2, r3, r4, r5, r6, r7, r8, r9, r10, r11, r12⟩ := J.1
  obtain ⟨tz, t1, t2, t3, t4⟩ := J.2.1
  obtain ⟨ca, cq, c1, c2, c3, c4, c5, c6⟩ := J.2.2.2.1
  obtain ⟨s1, s2, s3, s4, s5, s6, s7⟩ := J.2.2.2.2.2
  have x0 : zv h9 200 32 = zv h 15 0 := r5.trans r4.symm
  have x1 : zv h9 200 24 = zv h 15 3 := r7.trans r6.symm
  have x2 : zv h9 200 7 = zv h 0 5 := a3.trans a2.symm
  have x3 : zv h9 200 6 = zv h 1 1 := t3.trans t2.symm
  have x4 : (cB (zv h9 211) n : Int) = zv h 36 2 := (RA_cars J).symm
  have x5 : (if zv h9 200 24 = 0 then 0 else zv h9 205 1) = zv h 15 1 := by
    by_cases q : k = 0
    · rw [if_pos (by omega), (r10 q).1]
    · rw [if_neg (by omega), (r9 (by omega)).1]
  have x6 : (if zv h9 200 24 = 0 then 0 else zv h9 205 2) = zv h 15 2 := by
    by_cases q : k = 0
    · rw [if_pos (by omega), (r10 q).2]
    · rw [if_neg (by omega), (r9 (by omega)).2]
  have x7 : zv h9 200 37 = zv h 165 2 := c4.trans c3.symm
  have fin : INV h9 := ⟨n, k, I9⟩
  have fi : ∀ {a b : Int}, a = b → some (Value.int (iI a)) = some (Value.int (iI b)) ∧ INV h9 := fun e => ⟨by rw [e], fin⟩
  refine c_count (d := 60) hs (fun q => ?_) (fun q => ?_) (fun q => ?_) (fun q => ?_) (fun q => ?_) (fun q => ?_) (fun q => ?_) (fun q => ?_) (fun q => ?_) (fun q => ?_) (fun q => ?_) (fun q => ?_)
  all_goals
    refine c_mcount (d := 59) e9 r5 r1 hs (fun w => ?_) (fun w => ?_) (fun w => ?_) (fun w => ?_) (fun w => ?_) (fun w => ?_) (fun w => ?_) (fun w => ?_) (fun w => ?_) (fun w => ?_) (fun w => ?_) (fun w => ?_)
    all_goals first | (exfalso; omega) | exact fi x0 | exact fi x1 | exact fi x2 | exact fi x3 | exact fi x4 | exact fi x5 | exact fi x6 | exact fi x7 | exact fi s5 | exact fi s6 | exact fi s7 | exact fi rfl
theorem s_sort {s x : Int} (hs : inR s) (hx : inR x) : SIM mX11_sort mX12_sort [.int (iI s), .int (iI x)] := fun h ⟨n, k, I⟩ => by
  obtain ⟨h9, e9, J, I9, -⟩ := nx I cF.rf
  obtain ⟨r1, r2, r3, r4, r5, r6, r7, r8, -⟩ := J.1
  have fin : INV h9 := ⟨n, k, I9⟩
  have fi : ∀ {a b : Int}, a = b → some (Value.int (iI a)) = some (Value.int (iI b)) ∧ INV h9 := fun e => ⟨by rw [e], fin⟩
  refine c_sort (d := 58) hs hx (by omega) (fun q w => ?_) (fun q w => ?_) (fun q => ?_)
  · refine c_msort (d := 59) e9 hs hx (by omega) (fun z => ?_) (fun z => absurd ⟨by omega, by omega, by omega⟩ z)
    subst w
    have := (r8 s.toNat (by omega)).1
    rw [show 2 * s.toNat = (2 * s + 0).toNat by omega] at this
    exact fi this
  · refine c_msort (d := 59) e9 hs hx (by omega) (fun z => ?_) (fun z => absurd ⟨by omega, by omega, by omega⟩ z)
    subst w
    have := (r8 s.toNat (by omega)).2.1
    rw [show 2 * s.toNat + 1 = (2 * s + 1).toNat by omega] at this
    exact fi this
  · exact c_msort (d := 59) e9 hs hx (by omega) (fun z => absurd ⟨by omega, by omega⟩ q) (fun z => fi rfl)
theorem s_end {s : Int} (hs : inR s) : SIM mX11_end mX12_end [.int (iI s)] := fun h ⟨n, k, I⟩ => by
  obtain ⟨z, z1, z2, z3, z4⟩ := I.1.2.1
  refine c_end (d := 60) hs (fun q => ?_) (fun q => ?_)
  · refine c_mend (d := 60) (h9 := zp (zp h 1 1 s) 200 0 0) rfl hs (fun w => ⟨rfl, n, k, ?_⟩) (fun w => absurd (by rw [zv_zp_ne (by decide), zv_zp_a (by decide)]; omega) w)
    obtain ⟨t, rfl⟩ : ∃ t : Nat, s = t := ⟨s.toNat, by omega⟩
    have o : ∀ b j, ¬ (b = 1 ∧ j = 1) → ¬ (b = 200 ∧ (j = 0 ∨ j = 6)) → zv (zp (zp (zp h 1 1 (t : Int)) 200 0 0) 200 6 (t : Int)) b j = zv h b j := fun b j x y => by
      rw [zv_zp_ne (by omega), zv_zp_ne (by omega), zv_zp_ne (by omega)]
    have o1 : zv (zp (zp (zp h 1 1 (t : Int)) 200 0 0) 200 6 (t : Int)) 1 1 = t := by rw [zv_zp_ne (by decide), zv_zp_ne (by decide), zv_zp_s hs]
    have o2 : zv (zp (zp (zp h 1 1 (t : Int)) 200 0 0) 200 6 (t : Int)) 200 6 = t := zv_zp_s hs
    refine ⟨RA_gen I.1 (RP_eq (fun b j q => o b j (by unfold cP at q; omega) (by unfold cP at q; omega)) (fun b j q => o b j (by unfold mP at q; omega) (by unfold mP at q; omega)) I.1.1) ⟨t, by omega, o1, o2, fun i hi => by rw [o 2 i (by omega) (by omega), o 201 i (by omega) (by omega)]; exact z4 i (by omega)⟩ (fun b j q => o b j (by unfold cI cC cN cS at q; omega) (by unfold cI cC cN cS at q; omega)) (fun b j q => o b j (by unfold mI mC mS at q; omega) (by unfold mI mC mS at q; omega)), ?_, fun j => by rw [o 204 j (by omega) (by omega)]; exact I.2.2 j⟩
    obtain ⟨rc, a1, a2, a3, a4, a5, a6⟩ := I.2.1
    refine ⟨rc, a1, (o 0 5 (by omega) (by omega)).trans a2, (o 200 7 (by omega) (by omega)).trans a3, by rw [o 0 6 (by omega) (by omega), o 200 33 (by omega) (by omega)]; exact a4, by rw [o 0 6 (by omega) (by omega)]; exact a5, fun i hi => ?_⟩
    obtain ⟨x, b1, b2, T, z, p', d1, d2, d3, d4⟩ := a6 i hi
    exact ⟨x, b1, ⟨(o _ 3 (by omega) (by omega)).trans b2.1, fun j hj => ⟨(o _ j (by omega) (by omega)).trans (b2.2 j hj).1, (o _ j (by omega) (by omega)).trans (b2.2 j hj).2⟩⟩, T, z, p', d1, (o _ _ (by omega) (by omega)).trans d2, fun j hj => (o _ _ (by omega) (by omega)).trans (d3 j hj), d4⟩
  · obtain ⟨h9, e9, J, I9, -⟩ := nx I cF.rf
    obtain ⟨z', -, w2, w3, -⟩ := J.2.1
    exact c_mend (d := 60) e9 hs (fun w => absurd (by omega) q) (fun w => ⟨rfl, n, k, I9⟩)
