/-! ONE ACT ON BOTH SIDES KEEPS THE RELATION -/
theorem nin3 {b x : Nat} (h : ¬ (x ≤ b ∧ b ≤ x + 2)) : b ∉ [x, x + 1, x + 2] := by
  simp only [List.mem_cons, List.not_mem_nil, or_false]; omega
theorem nin36 {b : Nat} (h : ¬ (36 ≤ b ∧ b ≤ 38)) : b ∉ [36, 37, 38] := by
  simp only [List.mem_cons, List.not_mem_nil, or_false]; omega
/-- the class puts the street by -/
def kepR (h h' : ab_H) : Prop := ∃ (x : Nat) (h1 : ab_H), zv h 165 1 = x ∧ x < 40 ∧ cpR h h1 (45 + 3 * x) 36 ∧ h' = zp (zp h1 165 1 (((x + 1) % 40 : Nat) : Int)) 165 2 (min (zv h 165 2 + 1) 40)
theorem kep_o {h h' : ab_H} (c : kepR h h') {b j : Nat} (hb : b < 45 ∨ 166 ≤ b) : zv h' b j = zv h b j := by
  obtain ⟨x, h1, _, hx, r, rfl⟩ := c
  rw [zv_zp_a (by omega), zv_zp_a (by omega), r.1.1 b j (nin3 (by omega))]
theorem kep_w {h h' : ab_H} (c : kepR h h') {b j : Nat} (hb : b < 45 ∨ 166 ≤ b) : wv h' b j = wv h b j := by
  obtain ⟨x, h1, _, hx, r, rfl⟩ := c
  exact r.1.2.1 b j (nin3 (by omega))
theorem nin4 {b : Nat} (h : ¬ (b = 200 ∨ 214 ≤ b ∧ b ≤ 216)) : b ∉ [200, 214, 215, 216] := by
  simp only [List.mem_cons, List.not_mem_nil, or_false]; omega
theorem sim_keep {n k a : Nat} {hc hm hc' hm' : ab_H} (r : RA n k hc hm) (c : kepR hc hc') (ha : zv hm 200 37 = (a : Int)) (m : remR hm hm' a) : RA n k hc' hm' := by
  obtain ⟨r1, r2, r3, r4, r5, r6⟩ := r
  have co : ∀ b j, (b < 45 ∨ 166 ≤ b) → zv hc' b j = zv hc b j := fun b j hb => kep_o c hb
  have mo : ∀ b j, ¬ (b = 200 ∨ 214 ≤ b ∧ b ≤ 216) → zv hm' b j = zv hm b j := fun b j hb => m.1.1 b j (nin4 hb)
  have mf : ∀ j, j ≠ 37 → zv hm' 200 j = zv hm 200 j := m.2.1
  have mo2 : ∀ b j, ¬ (b = 200 ∧ j = 37 ∨ 214 ≤ b ∧ b ≤ 216) → zv hm' b j = zv hm b j := fun b j hb => by
    by_cases e : b = 200
    · subst e; exact mf j (by omega)
    · exact mo b j (by omega)
  refine ⟨RP_eq (fun b j q => co b j (by unfold cP at q; omega)) (fun b j q => mo2 b j (by unfold mP at q; omega)) r1, RT_eq (fun b j q => co b j (by unfold cT at q; omega)) (fun b j q => mo2 b j (by unfold mTp at q; omega)) r2, RI_eq (fun b j q => co b j (by unfold cI at q; omega)) (fun b j q => mo2 b j (by unfold mI at q; omega)) r3, ?_, RN_eq (fun b j q => co b j (by unfold cN at q; omega)) r5, RS_eq (fun b j q => co b j (by unfold cS at q; omega)) (fun b j q => mo2 b j (by unfold mS at q; omega)) r6⟩
  obtain ⟨a', q, b1, b2, b3, b4, b5, b6⟩ := r4
  have ea : a' = a := by omega
  subst ea
  obtain ⟨x, h1, hx, hx2, cp, e'⟩ := c
  have eq : q = x := by omega
  subst eq
  have f1 : zv hc' 165 1 = (((q + 1) % 40 : Nat) : Int) := by rw [e', zv_zp_ne (by omega), zv_zp_s (by omega)]
  have f2 : zv hc' 165 2 = ((min a' 39 + 1 : Nat) : Int) := by rw [e', zv_zp_s (by omega)]; omega
  have fo : ∀ b j, b ≠ 165 → zv hc' b j = zv h1 b j := fun b j hb => by rw [e', zv_zp_a hb, zv_zp_a hb]
  refine ⟨min a' 39 + 1, (q + 1) % 40, by omega, by omega, f2, m.2.2.1, f1, fun i hi => ?_⟩
  by_cases e : i = min a' 39
  · have ei : ((q + 1) % 40 + 40 - (min a' 39 + 1) + i) % 40 = q := by omega
    rw [ei]
    refine SR_move (fun y _ => co 18 y (by omega)) (fun y _ => co 16 y (by omega)) (fun y hy => ?_) (fun y hy => ?_) (fun j j1 j2 => ?_) (fun y hy => ?_) (fun y hy => ?_) (fun y hy => ?_) r6
    · rw [fo _ _ (by omega)]; exact (cp.2.1 y hy).1
    · rw [fo _ _ (by omega)]; exact (cp.2.1 y hy).2
    · rw [fo _ _ (by omega)]; exact cp.2.2 j j1 j2
    · have := (m.2.2.2.1 i y (by omega) hy).1; rw [if_pos e] at this; exact this
    · have := (m.2.2.2.1 i y (by omega) hy).2; rw [if_pos e] at this; exact this
    · have := m.2.2.2.2.1 i y (by omega) hy; rw [if_pos e] at this; exact this
  · obtain ⟨t, ht⟩ : ∃ t, t = (q + 40 - a' + (i + (a' - min a' 39))) % 40 := ⟨_, rfl⟩
    have ei : ((q + 1) % 40 + 40 - (min a' 39 + 1) + i) % 40 = t := by omega
    have tq : t ≠ q ∧ t < 40 := by omega
    have b7 := b6 (i + (a' - min a' 39)) (by omega)
    rw [← ht] at b7
    rw [ei]
    refine SR_move (fun y _ => co 18 y (by omega)) (fun y _ => co 16 y (by omega)) (fun y hy => ?_) (fun y hy => ?_) (fun j j1 j2 => ?_) (fun y hy => ?_) (fun y hy => ?_) (fun y hy => ?_) b7
    · rw [fo _ _ (by omega)]; exact cp.1.1 _ _ (nin3 (by omega))
    · rw [fo _ _ (by omega)]; exact cp.1.1 _ _ (nin3 (by omega))
    · rw [fo _ _ (by omega)]; exact cp.1.1 _ _ (nin3 (by omega))
    · have := (m.2.2.2.1 i y (by omega) hy).1; rw [if_neg e] at this; exact this
    · have := (m.2.2.2.1 i y (by omega) hy).2; rw [if_neg e] at this; exact this
    · have := m.2.2.2.2.1 i y (by omega) hy; rw [if_neg e] at this; exact this
theorem nin2 {b : Nat} (h : ¬ (211 ≤ b ∧ b ≤ 212)) : b ∉ [211, 212] := by
  simp only [List.mem_cons, List.not_mem_nil, or_false]; omega
/-- what stays where only the street itself changes -/
theorem RA_street {n k : Nat} {hc hm hc' hm' : ab_H} (r : RA n k hc hm) (co : ∀ b j, ¬ (36 ≤ b ∧ b ≤ 38) → relC b j → zv hc' b j = zv hc b j) (mo : ∀ b j, ¬ (211 ≤ b ∧ b ≤ 213) → relM b j → zv hm' b j = zv hm b j) (s : RS n k hc' hm') : RA n k hc' hm' := by
  obtain ⟨r1, r2, r3, r4, r5, _⟩ := r
  exact ⟨RP_eq (fun b j q => co b j (by unfold cP at q; omega) (by unfold cP at q; unfold relC; omega)) (fun b j q => mo b j (by unfold mP at q; omega) (by unfold mP at q; unfold relM; omega)) r1, RT_eq (fun b j q => co b j (by unfold cT at q; omega) (by unfold cT at q; unfold relC; omega)) (fun b j q => mo b j (by unfold mTp at q; omega) (by unfold mTp at q; unfold relM; omega)) r2, RI_eq (fun b j q => co b j (by unfold cI at q; omega) (by unfold cI at q; unfold relC; omega)) (fun b j q => mo b j (by unfold mI at q; omega) (by unfold mI at q; unfold relM; omega)) r3, RC_eq (fun b j q => co b j (by unfold cC at q; omega) (by unfold cC at q; unfold relC; omega)) (fun b j q => mo b j (by unfold mC at q; omega) (by unfold mC at q; unfold relM; omega)) r4, RN_eq (fun b j q => co b j (by unfold cN at q; omega) (by unfold cN at q; unfold relC; omega)) r5, s⟩
theorem sim_enter {n k p L s : Nat} {hc hm hc' hm' : ab_H} (r : RA n k hc hm) (hs : s < k) (hL : zv hc 16 s = L) (hp : p + L ≤ n) (hf : allf (cfr hc n) L p = true) (c : entR hc hc' p L s) (m : mstR hm hm' p L s) : RA n k hc' hm' := by
  have hn := r.1.1
  have hL1 : 1 ≤ L := by have := (r.1.2.2.2.2.2.2.2.1 s hs).2.2.1; omega
  obtain ⟨w, w2, w3, w4, w5, w6, w7⟩ := r.2.2.2.2.2
  replace w2 : zv hc 36 2 = (cB (zv hc 37) 20 : Int) := w2
  have hn0 : 0 < n := by omega
  replace w4 : ∀ y, y < 20 → zv hm 212 y = if zv hc 37 y = (y : Int) then zv hc 38 y else -1 := fun y hy => w4 y hy hn0
  replace w3 : ∀ y, y < 20 → zv hm 211 y = if zv hc 18 y = 0 then zv hc 37 y else -2 := fun y hy => w3 y hy hn0
  have ff : ∀ j, p ≤ j → j < p + L → zv hc 18 j = 0 ∧ zv hc 37 j = -1 := fun j a b => (cfr_iff.mp (allf_iff.mp hf j a b)).2
  have e18 : ∀ j, zv hc' 18 j = zv hc 18 j := fun j => c.1.1 18 j (by decide)
  have e16 : ∀ j, zv hc' 16 j = zv hc 16 j := fun j => c.1.1 16 j (by decide)
  refine RA_street r (fun b j hb _ => c.1.1 b j (nin36 hb)) (fun b j hb _ => m.1.1 b j (nin2 (by omega))) ⟨?_, ?_, fun y hy _ => ?_, fun y hy _ => ?_, ?_, ?_, ?_⟩
  · exact WF_congr (fun y _ => e18 y) (fun _ _ => rfl) (fun _ _ => rfl) (fun s _ => e16 s) (WF_enter hn w hL1 hp hs hL ff c.2.1 c.2.2.1)
  · show zv hc' 36 2 = ((cB (zv hc' 37) 20 : Nat) : Int)
    rw [c.2.2.2.1, w2, cB_enter hn hL1 hp (fun j a b => (ff j a b).2) c.2.1]; omega
  · show zv hm' 211 y = _
    rw [m.2.1 y, e18, c.2.1 y]
    by_cases q : p ≤ y ∧ y < p + L
    · rw [if_pos q, if_pos q, if_pos (ff y q.1 q.2).1]
    · rw [if_neg q, if_neg q]; exact w3 y hy
  · show zv hm' 212 y = _
    rw [m.2.2 y, c.2.1 y, c.2.2.1 y, w4 y hy]
    by_cases q : p ≤ y ∧ y < p + L
    · rw [if_pos q, if_pos q]
      by_cases e : y = p
      · rw [if_pos e, if_pos (by omega)]
      · have := (ff y q.1 q.2).2
        rw [if_neg e, if_neg (by omega), if_neg (by omega)]
    · rw [if_neg q, if_neg q, if_neg (by omega)]
  · show zv hm' 213 0 = _
    rw [m.1.1 213 0 (by decide), c.2.2.2.2 3 (by decide)]; exact w5
  · show zv hm' 213 1 = _
    rw [m.1.1 213 1 (by decide), c.2.2.2.2 4 (by decide)]; exact w6
  · show zv hm' 213 2 = _
    rw [m.1.1 213 2 (by decide), c.2.2.2.2 5 (by decide)]; exact w7
theorem sim_exit {n k p : Nat} {hc hm hc' hm' : ab_H} (r : RA n k hc hm) (hp : p < 20) (hb : zv hc 37 p = p) (c : exiR hc hc' p) (m : mgaR hm hm' p n) : RA n k hc' hm' := by
  obtain ⟨w, w2, w3, w4, w5, w6, w7⟩ := r.2.2.2.2.2
  replace w2 : zv hc 36 2 = (cB (zv hc 37) 20 : Int) := w2
  have e18 : ∀ j, zv hc' 18 j = zv hc 18 j := fun j => c.1.1 18 j (by decide)
  have e16 : ∀ j, zv hc' 16 j = zv hc 16 j := fun j => c.1.1 16 j (by decide)
  obtain ⟨s, L, a1, a2, a3, a4, a5, a6⟩ := w.2 p hp hb
  have hn0 : 0 < n := by omega
  replace w4 : ∀ y, y < 20 → zv hm 212 y = if zv hc 37 y = (y : Int) then zv hc 38 y else -1 := fun y hy => w4 y hy hn0
  replace w3 : ∀ y, y < 20 → zv hm 211 y = if zv hc 18 y = 0 then zv hc 37 y else -2 := fun y hy => w3 y hy hn0
  refine RA_street r (fun b j hb _ => c.1.1 b j (nin36 hb)) (fun b j hb _ => m.1.1 b j (nin2 (by omega))) ⟨?_, ?_, fun y hy _ => ?_, fun y hy _ => ?_, ?_, ?_, ?_⟩
  · exact WF_congr (fun y _ => e18 y) (fun _ _ => rfl) (fun _ _ => rfl) (fun s _ => e16 s) (WF_exit w hp hb c.2.1 c.2.2.1)
  · have := cB_exit hp hb c.2.1
    rw [c.2.2.2.1, w2]
    show _ = ((cB (zv hc' 37) 20 : Nat) : Int)
    omega
  · show zv hm' 211 y = _
    have a7 := a6 y hy
    rw [m.2.1 y, e18, c.2.1 y, w3 y hy]
    by_cases g : zv hc 18 y = 0
    · rw [if_pos g, if_pos g]
      by_cases q : zv hc 37 y = p
      · have := a7.1.mpr q
        rw [if_pos ⟨by omega, q⟩, if_pos ⟨this.1, hy, q⟩]
      · rw [if_neg (fun z => q z.2), if_neg (fun z => q z.2.2)]
    · rw [if_neg g, if_neg g, if_neg (by omega)]
  · show zv hm' 212 y = _
    have a7 := a6 y hy
    rw [m.2.2 y, c.2.1 y, c.2.2.1 y, w4 y hy]
    show (if y = p then (-1 : Int) else if zv hc 37 y = (y : Int) then zv hc 38 y else -1) = if (if p ≤ y ∧ y < 20 ∧ zv hc 37 y = p then (-1 : Int) else zv hc 37 y) = (y : Int) then (if p ≤ y ∧ y < 20 ∧ zv hc 37 y = p then (-1 : Int) else zv hc 38 y) else -1
    by_cases q : p ≤ y ∧ y < 20 ∧ zv hc 37 y = p
    · rw [if_pos q, if_pos q, if_neg (show ¬ (-1 : Int) = y by omega)]
      by_cases e : y = p
      · rw [if_pos e]
      · rw [if_neg e, if_neg (by omega)]
    · rw [if_neg q, if_neg q]
      by_cases e : y = p
      · exact absurd ⟨by omega, hy, by rw [e]; exact hb⟩ q
      · rw [if_neg e]
  · show zv hm' 213 0 = _
    rw [m.1.1 213 0 (by decide), c.2.2.2.2 3 (by decide)]; exact w5
  · show zv hm' 213 1 = _
    rw [m.1.1 213 1 (by decide), c.2.2.2.2 4 (by decide)]; exact w6
  · show zv hm' 213 2 = _
    rw [m.1.1 213 2 (by decide), c.2.2.2.2 5 (by decide)]; exact w7
theorem zv_zp_w (h : ab_H) (a k : Nat) (z : Int) : zv (zp h a k z) a k = (iI z).toInt := by
  have e : zp h a k z = zp h a k (iI z).toInt := by unfold zp; rw [iI_of]
  rw [e, zv_zp_s (inR_of _)]
/-- a tally goes up on both sides -/
theorem sim_tally {n k i : Nat} {hc hm : ab_H} (hi : i < 3) (r : RA n k hc hm) : RA n k (zp hc 36 (i + 3) (zv hc 36 (i + 3) + 1)) (zp hm 213 i (zv hm 213 i + 1)) := by
  obtain ⟨w, w2, w3, w4, w5, w6, w7⟩ := r.2.2.2.2.2
  replace w2 : zv hc 36 2 = (cB (zv hc 37) 20 : Int) := w2
  replace w4 : ∀ y, y < 20 → 0 < n → zv hm 212 y = if zv hc 37 y = (y : Int) then zv hc 38 y else -1 := w4
  have key : ∀ j, j < 3 → zv (zp hm 213 i (zv hm 213 i + 1)) 213 j = zv (zp hc 36 (i + 3) (zv hc 36 (i + 3) + 1)) 36 (j + 3) := by
    intro j hj
    have e : ∀ j, j < 3 → zv hm 213 j = zv hc 36 (j + 3) := by
      intro j hj
      rcases (show j = 0 ∨ j = 1 ∨ j = 2 by omega) with rfl | rfl | rfl
      · exact w5
      · exact w6
      · exact w7
    by_cases q : j = i
    · subst q; rw [zv_zp_w, zv_zp_w, e j hj]
    · rw [zv_zp_ne (by omega), zv_zp_ne (by omega), e j hj]
  refine RA_street r (fun b j hb _ => zv_zp_a (by omega)) (fun b j hb _ => zv_zp_a (by omega)) ⟨w, ?_, fun y hy h0 => w3 y hy h0, fun y hy h0 => w4 y hy h0, key 0 (by omega), key 1 (by omega), key 2 (by omega)⟩
  rw [zv_zp_ne (by omega)]; exact w2
