/-! CALLS SIDE BY SIDE: run -/
theorem goC_o {h h' : ab_H} (c : goC h h') {b j : Nat} (hb : ¬ (36 ≤ b ∧ b ≤ 38)) : zv h' b j = zv h b j := by
  obtain ⟨p, h1, _, _, _, e, rfl⟩ := c
  rw [zv_zp_a (by omega), e.1.1 b j (by simp only [List.mem_cons, List.not_mem_nil, or_false]; omega)]; rfl
theorem comC_o {n k : Nat} {h h' : ab_H} (c : comC n k h h') {b j : Nat} (hb : ¬ (36 ≤ b ∧ b ≤ 38)) (hb2 : ¬ (167 ≤ b ∧ b ≤ 169)) : zv h' b j = zv h b j := by
  obtain ⟨s, L, _, _, _, _, c⟩ := c
  rcases c with ⟨_, h1, s1, rfl⟩ | ⟨p, h1, h2, _, s1, e, rfl⟩
  · rw [zv_zp_a (by omega), s1.1 b j (by simp only [List.mem_cons, List.not_mem_nil, or_false]; omega)]; rfl
  · rw [zv_zp_a (by omega), e.1.1 b j (by simp only [List.mem_cons, List.not_mem_nil, or_false]; omega)]
    exact s1.1 b j (by simp only [List.mem_cons, List.not_mem_nil, or_false]; omega)
theorem stpC_o {n k : Nat} {h h' : ab_H} (c : stpC n k h h') {b j : Nat} (hb : ¬ (36 ≤ b ∧ b ≤ 38)) (hb2 : ¬ (167 ≤ b ∧ b ≤ 169)) (hb3 : ¬ (45 ≤ b ∧ b ≤ 165)) : zv h' b j = zv h b j := by
  obtain ⟨hk, h2, ke, g, co⟩ := c
  rw [comC_o co hb hb2]
  rcases g with ⟨_, _, g⟩ | ⟨_, rfl⟩
  · rw [goC_o g hb]; exact kep_o ke (by omega)
  · exact kep_o ke (by omega)
theorem goM_o {n : Nat} {h h' : ab_H} (c : goM n h h') {b j : Nat} (hb : ¬ (211 ≤ b ∧ b ≤ 213)) : zv h' b j = zv h b j := by
  obtain ⟨p, h1, _, _, _, e, rfl⟩ := c
  rw [zv_zp_a (by omega), e.1.1 b j (by simp only [List.mem_cons, List.not_mem_nil, or_false]; omega)]; rfl
theorem comM_o {n k : Nat} {h h' : ab_H} (c : comM n k h h') {b j : Nat} (hb : ¬ (211 ≤ b ∧ b ≤ 213)) (h0 : ¬ (b = 200 ∧ j = 0)) : zv h' b j = zv h b j := by
  obtain ⟨s, L, _, _, _, _, c⟩ := c
  rcases c with ⟨_, rfl⟩ | ⟨p, h1, _, e, rfl⟩
  · rw [zv_zp_a (by omega)]; rfl
  · rw [zv_zp_a (by omega), e.1.1 b j (by simp only [List.mem_cons, List.not_mem_nil, or_false]; omega), zv_zp_ne h0]; rfl
theorem stpM_o {n k : Nat} {h h' : ab_H} (c : stpM n k h h') {b j : Nat} (hb : ¬ (211 ≤ b ∧ b ≤ 216)) (h0 : ¬ (b = 200 ∧ (j = 0 ∨ j = 37))) : zv h' b j = zv h b j := by
  obtain ⟨a, hk, h2, _, re, g, co⟩ := c
  have e : zv hk b j = zv h b j := by
    by_cases eb : b = 200
    · subst eb; exact re.2.1 j (by omega)
    · exact re.1.1 b j (by simp only [List.mem_cons, List.not_mem_nil, or_false]; omega)
  rw [comM_o co (by omega) (by omega)]
  rcases g with ⟨_, _, g⟩ | ⟨_, rfl⟩
  · rw [goM_o g (by omega)]; exact e
  · exact e
def chC (n k : Nat) (h0 : ab_H) : Nat → ab_H → Prop
  | 0, h => h = h0
  | i + 1, h => ∃ h', chC n k h0 i h' ∧ stpC n k h' h
def chM (n k : Nat) (h0 : ab_H) : Nat → ab_H → Prop
  | 0, h => h = h0
  | i + 1, h => ∃ h', chM n k h0 i h' ∧ stpM n k h' h
theorem ch_sim {n k : Nat} {hc hm : ab_H} (hk : 0 < k) (r : RA n k hc hm) (hx : wv hc 0 17 = wv hm 200 38) : ∀ i a b, chC n k hc i a → chM n k hm i b → RA n k a b ∧ wv a 0 17 = wv b 200 38
  | 0, a, b, x, y => by cases x; cases y; exact ⟨r, hx⟩
  | i + 1, a, b, ⟨a', x1, x2⟩, ⟨b', y1, y2⟩ => by
    obtain ⟨r', hx'⟩ := ch_sim hk r hx i a' b' x1 y1
    exact sim_step hk r' hx' x2 y2
theorem chC_o {n k : Nat} {h0 : ab_H} {b j : Nat} (hb : ¬ (36 ≤ b ∧ b ≤ 38)) (hb2 : ¬ (167 ≤ b ∧ b ≤ 169)) (hb3 : ¬ (45 ≤ b ∧ b ≤ 165)) : ∀ i a, chC n k h0 i a → zv a b j = zv h0 b j
  | 0, a, x => by cases x; rfl
  | i + 1, a, ⟨a', x1, x2⟩ => by rw [stpC_o x2 hb hb2 hb3]; exact chC_o hb hb2 hb3 i a' x1
theorem chM_o {n k : Nat} {h0 : ab_H} {b j : Nat} (hb : ¬ (211 ≤ b ∧ b ≤ 216)) (hz : ¬ (b = 200 ∧ (j = 0 ∨ j = 37))) : ∀ i a, chM n k h0 i a → zv a b j = zv h0 b j
  | 0, a, x => by cases x; rfl
  | i + 1, a, ⟨a', x1, x2⟩ => by rw [stpM_o x2 hb hz]; exact chM_o hb hz i a' x1
theorem s_run {m x : Int} (hm : inR m) (hx : inL x) : SIM mX11_run mX12_run [.int (iI m), .long (lL x)] := fun h ⟨n, k, I⟩ => by
  obtain ⟨r1, r2, r3, r4, r5, r6, r7, r8, -⟩ := I.1.1
  obtain ⟨a, cq, p1, p2, p3, p4, p5, p6⟩ := I.1.2.2.2.1
  have sc := I.1.2.2.2.2.2.2.1
  refine c_run (d := 55) (n := n) (k := k) (x := x) (P := chC n k (wp h 0 17 x)) hm (fun q => ⟨r4, r1, ⟨r6, r2, fun i hi => (r8 i hi).2.2⟩, by omega, sc, ⟨cq, p5, p2⟩, by omega, by omega⟩) r4 (fun q => ?_) rfl (fun i y z p s => ⟨y, p, s⟩) (fun q hz ci P => ?_)
  · obtain ⟨h9, e9, J, M, d9, b9, w5, w7⟩ := nx2 I cF.rf.2
    obtain ⟨t1, t2, t3, t4, t5, t6, t7, t8, -⟩ := J.1
    exact c_mrun (d := 55) (n := n) (k := k) (x := x) (P := fun _ _ => True) e9 hm (fun z => ⟨w5, r1, w7, r2, z, fun i hi => by have := RA_W J hi; have := RA_L J hi; omega, a, (M 200 37 (by unfold relM; omega)).trans p4, p1⟩) w7 r2 (fun _ => ⟨rfl, fin2 I J d9 (fun _ _ _ => rfl) (eqM_q M) b9⟩) trivial (fun _ _ _ _ _ => trivial) (fun z => absurd (by omega) q)
  · have oc : ∀ b j, ¬ (36 ≤ b ∧ b ≤ 38) → ¬ (167 ≤ b ∧ b ≤ 169) → ¬ (45 ≤ b ∧ b ≤ 165) → zv hz b j = zv h b j := fun b j u v w => chC_o (h0 := wp h 0 17 x) u v w _ _ P
    obtain ⟨h9, e9, J, M, d9, b9, w5, w7⟩ := nx2 I (h1 := hz) (fun b j hb => oc b j (by omega) (by omega) (by omega))
    refine c_mrun (d := 55) (n := n) (k := k) (x := x) (P := chM n k (wp h9 200 38 x)) e9 hm (fun z => ⟨w5, r1, w7, r2, z, fun i hi => by have := RA_W J hi; have := RA_L J hi; omega, a, (M 200 37 (by unfold relM; omega)).trans p4, p1⟩) w7 r2 (fun z => absurd ⟨by omega, q.2⟩ z) rfl (fun i y z p s => ⟨y, p, s⟩) (fun z hy mi P2 => ?_)
    have J2 : RA n k (wp h 0 17 x) (wp h9 200 38 x) := J
    obtain ⟨R, -⟩ := ch_sim z.1 J2 (by rw [wv_wp_s hx, wv_wp_s hx]) _ _ _ P P2
    have om : ∀ b j, ¬ (211 ≤ b ∧ b ≤ 216) → ¬ (b = 200 ∧ (j = 0 ∨ j = 37)) → zv hy b j = zv h9 b j := fun b j u v => chM_o (h0 := wp h9 200 38 x) u v _ _ P2
    exact ⟨by rw [RA_cars R], fin2 I R (d9.tr (fun b j hb => om b j (by omega) (by omega))) (fun b j z => oc b j (by unfold qC at z; omega) (by unfold qC at z; omega) (by unfold qC at z; omega)) ((eqM_q M).trans (fun b j z => om b j (by unfold qM at z; omega) (by unfold qM at z; omega))) (fun j => by rw [om 204 j (by omega) (by omega)]; exact b9 j)⟩
