/-! CALLS SIDE BY SIDE: rule, obey, fits, bays, ends -/
theorem s_rule {s : Int} (hs : inR s) : SIM mX11_rule mX12_rule [.int (iI s)] := fun h ⟨n, k, I⟩ => by
  obtain ⟨rc, a1, a2, a3, a4, a5, a6⟩ := I.2.1
  obtain ⟨r1, r2, r3, r4, r5, r6, r7, -⟩ := I.1.1
  refine c_rule (d := 59) hs (fun q => ?_) (fun q => ?_)
  · have g24 : zv (zp (zp h 0 6 s) 200 0 0) 200 24 = k := by rw [zv_zp_ne (by decide), zv_zp_a (by decide)]; exact r7
    have g7 : zv (zp (zp h 0 6 s) 200 0 0) 200 7 = rc := by rw [zv_zp_ne (by decide), zv_zp_a (by decide)]; exact a3
    refine c_mrule (d := 59) (h9 := zp (zp h 0 6 s) 200 0 0) rfl hs (by omega) (fun w => ⟨rfl, n, k, ?_⟩) (fun w => absurd ⟨by omega, by omega⟩ w)
    have o : ∀ b j, ¬ (b = 0 ∧ j = 6) → ¬ (b = 200 ∧ (j = 0 ∨ j = 33)) → zv (zp (zp (zp h 0 6 s) 200 0 0) 200 33 s) b j = zv h b j := fun b j x y => by
      rw [zv_zp_ne (by omega), zv_zp_ne (by omega), zv_zp_ne (by omega)]
    have o1 : zv (zp (zp (zp h 0 6 s) 200 0 0) 200 33 s) 0 6 = s := by rw [zv_zp_ne (by decide), zv_zp_ne (by decide), zv_zp_s hs]
    have o2 : zv (zp (zp (zp h 0 6 s) 200 0 0) 200 33 s) 200 33 = s := zv_zp_s hs
    refine ⟨RA_gen I.1 (RP_eq (fun b j q => o b j (by unfold cP at q; omega) (by unfold cP at q; omega)) (fun b j q => o b j (by unfold mP at q; omega) (by unfold mP at q; omega)) I.1.1) (RT_eq (fun b j q => o b j (by unfold cT at q; omega) (by unfold cT at q; omega)) (fun b j q => o b j (by unfold mTp at q; omega) (by unfold mTp at q; omega)) I.1.2.1) (fun b j q => o b j (by unfold cI cC cN cS at q; omega) (by unfold cI cC cN cS at q; omega)) (fun b j q => o b j (by unfold mI mC mS at q; omega) (by unfold mI mC mS at q; omega)), ?_, fun j => by rw [o 204 j (by omega) (by omega)]; exact I.2.2 j⟩
    refine ⟨rc, a1, (o 0 5 (by omega) (by omega)).trans a2, (o 200 7 (by omega) (by omega)).trans a3, o1.trans o2.symm, by rw [o1]; omega, fun i hi => ?_⟩
    obtain ⟨x, b1, b2, T, z, p', d1, d2, d3, d4⟩ := a6 i hi
    exact ⟨x, b1, ⟨(o _ 3 (by omega) (by omega)).trans b2.1, fun j hj => ⟨(o _ j (by omega) (by omega)).trans (b2.2 j hj).1, (o _ j (by omega) (by omega)).trans (b2.2 j hj).2⟩⟩, T, z, p', d1, (o _ _ (by omega) (by omega)).trans d2, fun j hj => (o _ _ (by omega) (by omega)).trans (d3 j hj), d4⟩
  · obtain ⟨h9, e9, J, I9, Rq⟩ := nx I cF.rf
    obtain ⟨rc', -, y2, y3, -⟩ := Rq
    obtain ⟨-, -, -, -, -, -, w7, -⟩ := J.1
    exact c_mrule (d := 59) e9 hs (by omega) (fun w => absurd (by omega) q) (fun w => ⟨rfl, n, k, I9⟩)
theorem s_obey {s : Int} (hs : inR s) : SIM mX11_obey mX12_obey [.int (iI s)] := fun h ⟨n, k, I⟩ => by
  obtain ⟨r1, r2, r3, r4, r5, r6, r7, r8, r9, r10, r11, r12⟩ := I.1.1
  refine c_obey (d := 59) hs (fun q => ?_) (fun q => ?_)
  · have g24 : zv (zp (zp h 15 1 s) 200 0 0) 200 24 = k := by rw [zv_zp_ne (by decide), zv_zp_a (by decide)]; exact r7
    refine c_mobey (d := 59) (h9 := zp (zp h 15 1 s) 200 0 0) rfl hs (fun w => ⟨rfl, n, k, ?_⟩) (fun w => absurd ⟨by omega, by omega, by omega⟩ w)
    have o : ∀ b j, ¬ (b = 15 ∧ j = 1) → ¬ (b = 200 ∧ j = 0) → ¬ (b = 205 ∧ j = 1) → zv (zp (zp (zp h 15 1 s) 200 0 0) 205 1 s) b j = zv h b j := fun b j x y z => by
      rw [zv_zp_ne (by omega), zv_zp_ne (by omega), zv_zp_ne (by omega)]
    have o1 : zv (zp (zp (zp h 15 1 s) 200 0 0) 205 1 s) 15 1 = s := by rw [zv_zp_ne (by decide), zv_zp_ne (by decide), zv_zp_s hs]
    have o2 : zv (zp (zp (zp h 15 1 s) 200 0 0) 205 1 s) 205 1 = s := zv_zp_s hs
    refine ⟨RA_gen I.1 ?_ (RT_eq (fun b j q => o b j (by unfold cT at q; omega) (by unfold cT at q; omega) (by unfold cT at q; omega)) (fun b j q => o b j (by unfold mTp at q; omega) (by unfold mTp at q; omega) (by unfold mTp at q; omega)) I.1.2.1) (fun b j q => o b j (by unfold cI cC cN cS at q; omega) (by unfold cI cC cN cS at q; omega) (by unfold cI cC cN cS at q; omega)) (fun b j q => o b j (by unfold mI mC mS at q; omega) (by unfold mI mC mS at q; omega) (by unfold mI mC mS at q; omega)), ?_, fun j => by rw [o 204 j (by omega) (by omega) (by omega)]; exact I.2.2 j⟩
    · refine ⟨r1, r2, r3, (o _ _ (by omega) (by omega) (by omega)).trans r4, (o _ _ (by omega) (by omega) (by omega)).trans r5, (o _ _ (by omega) (by omega) (by omega)).trans r6, (o _ _ (by omega) (by omega) (by omega)).trans r7, fun i hi => ?_, fun w => ⟨o2.trans o1.symm, ?_⟩, fun w => absurd w (by omega), by rw [o1]; omega, by rw [o 15 2 (by omega) (by omega) (by omega)]; exact r12⟩
      · rw [o 207 _ (by omega) (by omega) (by omega), o 207 _ (by omega) (by omega) (by omega), o 16 i (by omega) (by omega) (by omega), o 17 i (by omega) (by omega) (by omega)]; exact r8 i hi
      · rw [o 205 2 (by omega) (by omega) (by omega), o 15 2 (by omega) (by omega) (by omega)]; exact (r9 w).2
    · obtain ⟨rc, a1, a2, a3, a4, a5, a6⟩ := I.2.1
      refine ⟨rc, a1, (o 0 5 (by omega) (by omega) (by omega)).trans a2, (o 200 7 (by omega) (by omega) (by omega)).trans a3, by rw [o 0 6 (by omega) (by omega) (by omega), o 200 33 (by omega) (by omega) (by omega)]; exact a4, by rw [o 0 6 (by omega) (by omega) (by omega)]; exact a5, fun i hi => ?_⟩
      obtain ⟨x, b1, b2, T, z, p', d1, d2, d3, d4⟩ := a6 i hi
      exact ⟨x, b1, ⟨(o _ 3 (by omega) (by omega) (by omega)).trans b2.1, fun j hj => ⟨(o _ j (by omega) (by omega) (by omega)).trans (b2.2 j hj).1, (o _ j (by omega) (by omega) (by omega)).trans (b2.2 j hj).2⟩⟩, T, z, p', d1, (o _ _ (by omega) (by omega) (by omega)).trans d2, fun j hj => (o _ _ (by omega) (by omega) (by omega)).trans (d3 j hj), d4⟩
  · obtain ⟨h9, e9, J, I9, Rq⟩ := nx I cF.rf
    obtain ⟨-, -, -, -, -, -, w7, -⟩ := J.1
    exact c_mobey (d := 59) e9 hs (fun w => absurd (by omega) q) (fun w => ⟨rfl, n, k, I9⟩)
/-- a sort's length, both sides -/
theorem Ln {n k : Nat} {h h9 : ab_H} (J : RA n k h h9) (s : Int) : ∃ L : Nat, (0 ≤ s ∧ s < zv h 15 3 → zv h 16 s.toNat = L ∧ 1 ≤ L ∧ L ≤ 9) ∧ (0 ≤ s ∧ s < zv h 15 3 → zv h9 207 (2 * s.toNat) = L ∧ 1 ≤ L ∧ L ≤ 9) := by
  obtain ⟨r1, r2, r3, r4, r5, r6, r7, r8, -⟩ := J.1
  refine ⟨(zv h 16 s.toNat).toNat, fun q => ?_, fun q => ?_⟩
  · have := r8 s.toNat (by omega); omega
  · have := r8 s.toNat (by omega); omega
theorem s_fits {s i : Int} (hs : inR s) (hi : inR i) : SIM mX11_fits mX12_fits [.int (iI s), .int (iI i)] := fun h ⟨n, k, I⟩ => by
  obtain ⟨r1, r2, r3, r4, r5, r6, r7, r8, -⟩ := I.1.1
  obtain ⟨L, l1, l2⟩ := Ln I.1 s
  have key : ∀ h1, cF h h1 → (0 ≤ s ∧ s < zv h 15 3) → -1 ≤ i → ∀ v : Int, (i = -1 → ((pls (frm h 36 (-1)) L n).length : Int) = v) → (∀ p : Nat, 0 ≤ i → (pls (frm h 36 (-1)) L n)[i.toNat]? = some p → (p : Int) = v) → (0 ≤ i → (pls (frm h 36 (-1)) L n)[i.toNat]? = none → -1 = v) → QS mX12_fits [.int (iI s), .int (iI i)] (some (.int (iI v))) h1 := fun h1 c q wi v v1 v2 v3 => by
    obtain ⟨h9, e9, J, I9, -⟩ := nx I c
    obtain ⟨L', y1, y2⟩ := Ln J s
    have eL : L' = L := by have a := l1 q; have b := y1 q; omega
    subst eL
    obtain ⟨-, -, -, -, w5, -, w7, -⟩ := J.1
    obtain ⟨m, rfl⟩ : ∃ m : Nat, s = m := ⟨s.toNat, by omega⟩
    have y3 := y2 q
    rw [Int.toNat_natCast] at y3
    have ep := RA_pls J (L := L') y3.2.1
    rw [← pls_cfr] at ep
    have fi : ∀ {a b : Int}, a = b → some (Value.int (iI a)) = some (Value.int (iI b)) ∧ INV h9 := fun e => ⟨by rw [e], n, k, I9⟩
    exact c_mfits (d := 57) e9 w5 r1 (by omega) y3.1 y3.2.2 hi (fun z => absurd ⟨by omega, by omega⟩ z) (fun z => fi (by rw [ep]; exact v1 z)) (fun p z w => fi (v2 p z (by rw [← ep]; exact w))) (fun z w => fi (v3 z (by rw [← ep]; exact w)))
  refine c_fits (d := 56) hs hi r4 r1 (by omega) l1 (fun q => ?_) (fun q w h1 s1 => ?_) (fun q w h1 s1 p hp => ?_) (fun q w h1 s1 hp => ?_)
  · obtain ⟨h9, e9, J, I9, -⟩ := nx I cF.rf
    obtain ⟨-, -, -, -, w5, -, w7, -⟩ := J.1
    by_cases c : 0 ≤ s ∧ s < zv h 15 3
    · obtain ⟨m, rfl⟩ : ∃ m : Nat, s = m := ⟨s.toNat, by omega⟩
      obtain ⟨L', y1, y2⟩ := Ln J (m : Int)
      have y3 := y2 c
      rw [Int.toNat_natCast] at y3
      exact c_mfits (d := 57) e9 w5 r1 (by omega) y3.1 y3.2.2 hi (fun z => ⟨rfl, n, k, I9⟩) (fun z => absurd ⟨c, by omega⟩ q) (fun p z w => absurd ⟨c, by omega⟩ q) (fun z w => absurd ⟨c, by omega⟩ q)
    · exact c_mfits0 (d := 57) e9 hs hi (by omega) ⟨rfl, n, k, I9⟩
  · exact key h1 (cF_sm s1 rfl) q (by omega) _ (fun _ => rfl) (fun p z => absurd z (by omega)) (fun z => absurd z (by omega))
  · exact key h1 (cF_sm s1 rfl) q (by omega) _ (fun z => absurd z (by omega)) (fun p' z e => by rw [hp] at e; have := Option.some.inj e; omega) (fun z e => by rw [hp] at e; cases e)
  · exact key h1 (cF_sm s1 rfl) q (by omega) _ (fun z => absurd z (by omega)) (fun p' z e => by rw [hp] at e; cases e) (fun z e => rfl)
