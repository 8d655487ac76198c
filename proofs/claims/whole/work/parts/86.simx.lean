/-! CALLS SIDE BY SIDE: undo, image, back -/
theorem s_undo : SIM mX11_undo mX12_undo [] := fun h ⟨n, k, I⟩ => by
  obtain ⟨a, q, p1, p2, p3, p4, p5, p6⟩ := I.1.2.2.2.1
  refine c_undo (d := 57) p5 p2 (by omega) (fun e => ?_) (fun e h1 cp => ?_)
  · obtain ⟨h9, e9, J, M, d9, b9, w5, w7⟩ := nx2 I cF.rf.2
    exact c_mundo (d := 60) e9 ((M 200 37 (by unfold relM; omega)).trans p4) p1 (fun _ => ⟨rfl, fin2 I J d9 (fun _ _ _ => rfl) (eqM_q M) b9⟩) (fun b j eb => absurd eb (by omega))
  · have co : ∀ b j, ¬ (36 ≤ b ∧ b ≤ 38) → ¬ (b = 165 ∧ (j = 1 ∨ j = 2)) → zv (zp h1 165 2 (zv h 165 2 - 1)) b j = zv h b j := fun b j x y => by
      rw [zv_zp_ne (by omega), cp.1.1 b j (by simp only [List.mem_cons, List.not_mem_nil, or_false]; omega), zv_zp_ne (by omega)]
    obtain ⟨h9, e9, J, M, d9, b9, w5, w7⟩ := nx2 I (h1 := zp h1 165 2 (zv h 165 2 - 1)) (fun b j hb => co b j (by omega) (by omega))
    refine c_mundo (d := 60) e9 ((M 200 37 (by unfold relM; omega)).trans p4) p1 (fun z => absurd z (by omega)) (fun b j2 eb un => ⟨by rw [show zv h 165 2 - 1 = (b : Int) by omega], ?_⟩)
    have mo : ∀ x j, ¬ (x = 200 ∧ j = 37) → ¬ (211 ≤ x ∧ x ≤ 213) → zv j2 x j = zv h9 x j := fun x j u v => by
      by_cases ex : x = 200
      · subst ex; exact un.2.1 j (by omega)
      · exact un.1.1 x j (by simp only [List.mem_cons, List.not_mem_nil, or_false]; omega)
    have c1 : ∀ r j, r ≠ 165 → zv (zp h1 165 2 (zv h 165 2 - 1)) r j = zv h1 r j := fun r j hr => zv_zp_a hr
    obtain ⟨r1, r2, r3, r4, r5, r6⟩ := J
    obtain ⟨a', q', b1, b2, b3, b4, b5, b6⟩ := r4
    have ea : a' = a := by omega
    have eq : q' = q := by omega
    subst ea
    subst eq
    have R : RA n k (zp h1 165 2 (zv h 165 2 - 1)) j2 := by
      refine ⟨RP_eq (fun x j z => co x j (by unfold cP at z; omega) (by unfold cP at z; omega)) (fun x j z => mo x j (by unfold mP at z; omega) (by unfold mP at z; omega)) r1, RT_eq (fun x j z => co x j (by unfold cT at z; omega) (by unfold cT at z; omega)) (fun x j z => mo x j (by unfold mTp at z; omega) (by unfold mTp at z; omega)) r2, RI_eq (fun x j z => co x j (by unfold cI at z; omega) (by unfold cI at z; omega)) (fun x j z => mo x j (by unfold mI at z; omega) (by unfold mI at z; omega)) r3, ?_, RN_eq (fun x j z => co x j (by unfold cN at z; omega) (by unfold cN at z; omega)) r5, ?_⟩
      · refine ⟨b, (q' + 39) % 40, by omega, by omega, by rw [zv_zp_s (by omega)]; omega, un.2.2.1, ?_, fun i hi => ?_⟩
        · rw [zv_zp_ne (by decide), cp.1.1 165 1 (by decide), zv_zp_s (by omega)]
        · have b7 := b6 i (by omega)
          have ei : ((q' + 39) % 40 + 40 - b + i) % 40 = (q' + 40 - a' + i) % 40 := by omega
          rw [ei]
          refine SR_move (fun y _ => co 18 y (by omega) (by omega)) (fun y _ => co 16 y (by omega) (by omega)) (fun y hy => co _ y (by omega) (by omega)) (fun y hy => co _ y (by omega) (by omega)) (fun j j1 j2 => co _ j (by omega) (by omega)) (fun y hy => mo _ _ (by omega) (by omega)) (fun y hy => mo _ _ (by omega) (by omega)) (fun y hy => mo _ _ (by omega) (by omega)) b7
      · have b7 := b6 b (by omega)
        have ei : (q' + 40 - a' + b) % 40 = (q' + 39) % 40 := by omega
        rw [ei] at b7
        refine SR_move (fun y _ => co 18 y (by omega) (by omega)) (fun y _ => co 16 y (by omega) (by omega)) (fun y hy => ?_) (fun y hy => ?_) (fun j j1 j2 => ?_) (fun y hy => (un.2.2.2.1 y hy).1) (fun y hy => (un.2.2.2.1 y hy).2) (fun y hy => un.2.2.2.2 y hy) b7
        · rw [c1 _ _ (by omega), (cp.2.1 y hy).1, zv_zp_a (by omega)]
        · rw [c1 _ _ (by omega), (cp.2.1 y hy).2, zv_zp_a (by omega)]
        · rw [c1 _ _ (by omega), cp.2.2 j j1 j2, zv_zp_a (by omega)]
    exact fin2 I R (d9.tr (fun x j hx => mo x j (by omega) (by omega))) (fun x j z => co x j (by unfold qC at z; omega) (by unfold qC at z; omega)) ((eqM_q M).trans (fun x j z => mo x j (by unfold qM at z; omega) (by unfold qM at z; omega))) (fun j => by rw [mo 204 j (by omega) (by omega)]; exact b9 j)
theorem s_image : SIM mX11_image mX12_image [] := fun h ⟨n, k, I⟩ => by
  obtain ⟨r1, r2, r3, r4, r5, r6, r7, r8, -⟩ := I.1.1
  refine c_image (d := 58) (fun e => ?_) (fun e h1 cp => ?_)
  · obtain ⟨h9, e9, J, M, d9, b9, w5, w7⟩ := nx2 I cF.rf.2
    exact c_mimage (d := 59) e9 w5 r1 (fun _ => ⟨rfl, fin2 I J d9 (fun _ _ _ => rfl) (eqM_q M) b9⟩) (fun z => absurd (by omega) z)
  · have co : ∀ b j, ¬ (42 ≤ b ∧ b ≤ 44) → ¬ (b = 0 ∧ j = 10) → zv (zp h1 0 10 1) b j = zv h b j := fun b j x y => by
      rw [zv_zp_ne (by omega), cp.1.1 b j (by simp only [List.mem_cons, List.not_mem_nil, or_false]; omega)]
    obtain ⟨h9, e9, J, M, d9, b9, w5, w7⟩ := nx2 I (h1 := zp h1 0 10 1) (fun b j hb => co b j (by omega) (by omega))
    refine c_mimage (d := 59) e9 w5 r1 (fun z => absurd z (by omega)) (fun z j2 c3 c4 => ⟨?_, ?_⟩)
    · rw [RA_cars J, show zv j2 211 = zv h9 211 from funext (fun y => c3.1.1 211 y (by decide))]
    · have mo : ∀ x j, ¬ (x = 200 ∧ j = 54) → ¬ (225 ≤ x ∧ x ≤ 227) → zv (zp j2 200 54 1) x j = zv h9 x j := fun x j u v => by
        rw [zv_zp_ne (by omega)]
        by_cases ex : x = 200
        · subst ex; exact c4 j
        · exact c3.1.1 x j (by simp only [List.mem_cons, List.not_mem_nil, or_false]; omega)
      obtain ⟨t1, t2, t3, t4, t5, t6⟩ := J
      have R : RA n k (zp h1 0 10 1) (zp j2 200 54 1) := by
        refine ⟨RP_eq (fun x j z => co x j (by unfold cP at z; omega) (by unfold cP at z; omega)) (fun x j z => mo x j (by unfold mP at z; omega) (by unfold mP at z; omega)) t1, RT_eq (fun x j z => co x j (by unfold cT at z; omega) (by unfold cT at z; omega)) (fun x j z => mo x j (by unfold mTp at z; omega) (by unfold mTp at z; omega)) t2, ?_, RC_eq (fun x j z => co x j (by unfold cC at z; omega) (by unfold cC at z; omega)) (fun x j z => mo x j (by unfold mC at z; omega) (by unfold mC at z; omega)) t4, RN_eq (fun x j z => co x j (by unfold cN at z; omega) (by unfold cN at z; omega)) t5, RS_eq (fun x j z => co x j (by unfold cS at z; omega) (by unfold cS at z; omega)) (fun x j z => mo x j (by unfold mS at z; omega) (by unfold mS at z; omega)) t6⟩
        refine ⟨by rw [zv_zp_s (by decide), zv_zp_s (by decide)], fun _ => ?_⟩
        refine SR_move (fun y _ => co 18 y (by omega) (by omega)) (fun y _ => co 16 y (by omega) (by omega)) (fun y hy => ?_) (fun y hy => ?_) (fun j j1 j2 => ?_) (fun y hy => ?_) (fun y hy => ?_) (fun y hy => ?_) t6
        · rw [zv_zp_a (by omega)]; exact (cp.2.1 y hy).1
        · rw [zv_zp_a (by omega)]; exact (cp.2.1 y hy).2
        · rw [zv_zp_a (by omega)]; exact cp.2.2 j j1 j2
        · rw [zv_zp_a (by omega)]; exact (c3.2.1 y hy).1
        · rw [zv_zp_a (by omega)]; exact (c3.2.1 y hy).2
        · rw [zv_zp_a (by omega)]; exact c3.2.2 y hy
      exact fin2 I R (d9.tr (fun x j hx => mo x j (by omega) (by omega))) (fun x j z => co x j (by unfold qC at z; omega) (by unfold qC at z; omega)) ((eqM_q M).trans (fun x j z => mo x j (by unfold qM at z; omega) (by unfold qM at z; omega))) (fun j => by rw [mo 204 j (by omega) (by omega)]; exact b9 j)
theorem s_back : SIM mX11_back mX12_back [] := fun h ⟨n, k, I⟩ => by
  obtain ⟨r1, r2, r3, r4, r5, r6, r7, r8, -⟩ := I.1.1
  have im := I.1.2.2.1.1
  refine c_back (d := 58) (fun e => ?_) (fun e h1 cp => ?_)
  · obtain ⟨h9, e9, J, M, d9, b9, w5, w7⟩ := nx2 I cF.rf.2
    have i9 := J.2.2.1.1
    exact c_mback (d := 59) e9 w5 r1 (fun _ => ⟨rfl, fin2 I J d9 (fun _ _ _ => rfl) (eqM_q M) b9⟩) (fun z => absurd (by omega) z)
  · have co : ∀ b j, ¬ (36 ≤ b ∧ b ≤ 38) → ¬ (b = 165 ∧ j = 2) → zv (zp h1 165 2 0) b j = zv h b j := fun b j x y => by
      rw [zv_zp_ne (by omega), cp.1.1 b j (by simp only [List.mem_cons, List.not_mem_nil, or_false]; omega)]
    obtain ⟨h9, e9, J, M, d9, b9, w5, w7⟩ := nx2 I (h1 := zp h1 165 2 0) (fun b j hb => co b j (by omega) (by omega))
    have i9 := J.2.2.1.1
    refine c_mback (d := 59) e9 w5 r1 (fun z => absurd z (by omega)) (fun z j2 c3 c4 => ?_)
    have mo : ∀ x j, ¬ (x = 200 ∧ j = 37) → ¬ (211 ≤ x ∧ x ≤ 213) → zv (zp j2 200 37 0) x j = zv h9 x j := fun x j u v => by
      rw [zv_zp_ne (by omega)]
      by_cases ex : x = 200
      · subst ex; exact c4 j
      · exact c3.1.1 x j (by simp only [List.mem_cons, List.not_mem_nil, or_false]; omega)
    obtain ⟨t1, t2, t3, t4, t5, t6⟩ := J
    have S := t3.2 z
    obtain ⟨a', q', b1, b2, b3, b4, b5, b6⟩ := t4
    have R : RA n k (zp h1 165 2 0) (zp j2 200 37 0) := by
      refine ⟨RP_eq (fun x j z => co x j (by unfold cP at z; omega) (by unfold cP at z; omega)) (fun x j z => mo x j (by unfold mP at z; omega) (by unfold mP at z; omega)) t1, RT_eq (fun x j z => co x j (by unfold cT at z; omega) (by unfold cT at z; omega)) (fun x j z => mo x j (by unfold mTp at z; omega) (by unfold mTp at z; omega)) t2, RI_eq (fun x j z => co x j (by unfold cI at z; omega) (by unfold cI at z; omega)) (fun x j z => mo x j (by unfold mI at z; omega) (by unfold mI at z; omega)) t3, ⟨0, q', by omega, b2, zv_zp_s (by decide), zv_zp_s (by decide), (co 165 1 (by omega) (by omega)).trans b5, fun i hi => absurd hi (by omega)⟩, RN_eq (fun x j z => co x j (by unfold cN at z; omega) (by unfold cN at z; omega)) t5, ?_⟩
      refine SR_move (fun y _ => co 18 y (by omega) (by omega)) (fun y _ => co 16 y (by omega) (by omega)) (fun y hy => ?_) (fun y hy => ?_) (fun j j1 j2 => ?_) (fun y hy => ?_) (fun y hy => ?_) (fun y hy => ?_) S
      · rw [zv_zp_a (by omega)]; exact (cp.2.1 y hy).1
      · rw [zv_zp_a (by omega)]; exact (cp.2.1 y hy).2
      · rw [zv_zp_a (by omega)]; exact cp.2.2 j j1 j2
      · rw [zv_zp_a (by omega)]; exact (c3.2.1 y hy).1
      · rw [zv_zp_a (by omega)]; exact (c3.2.1 y hy).2
      · rw [zv_zp_a (by omega)]; exact c3.2.2 y hy
    refine ⟨?_, fin2 I R (d9.tr (fun x j hx => mo x j (by omega) (by omega))) (fun x j z => co x j (by unfold qC at z; omega) (by unfold qC at z; omega)) ((eqM_q M).trans (fun x j z => mo x j (by unfold qM at z; omega) (by unfold qM at z; omega))) (fun j => by rw [mo 204 j (by omega) (by omega)]; exact b9 j)⟩
    have e1 := RA_cars R
    rw [zv_zp_a (by decide), show zv (zp j2 200 37 0) 211 = zv j2 211 from funext (fun y => zv_zp_a (by decide))] at e1
    rw [e1]
