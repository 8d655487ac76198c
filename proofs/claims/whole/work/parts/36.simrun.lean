/-! RUN: the two sides go alike -/
theorem cB_ext {f f' : Nat → Int} : ∀ {m : Nat}, (∀ y, y < m → (f y = (y : Int) ↔ f' y = (y : Int))) → cB f m = cB f' m
  | 0, _ => rfl
  | m + 1, h => by
    have q := h m (by omega)
    rw [cB_s, cB_s, cB_ext (fun y hy => h y (by omega))]
    by_cases e : f m = (m : Int)
    · rw [if_pos e, if_pos (q.mp e)]
    · rw [if_neg e, if_neg (fun z => e (q.mpr z))]
theorem cB_cut {f : Nat → Int} {n : Nat} : ∀ m, n ≤ m → (∀ y, n ≤ y → y < m → ¬ f y = (y : Int)) → cB f m = cB f n
  | 0, h, _ => by rw [show n = 0 by omega]
  | m + 1, h, g => by
    by_cases e : n = m + 1
    · rw [e]
    · rw [cB_s, if_neg (g m (by omega) (by omega)), cB_cut m (by omega) (fun y a b => g y a (by omega))]; rfl
theorem cB_mono {f : Nat → Int} {a : Nat} : ∀ b, a ≤ b → cB f a ≤ cB f b
  | 0, h => by rw [show a = 0 by omega]; exact Nat.le_refl _
  | b + 1, h => by
    by_cases e : a = b + 1
    · rw [e]; exact Nat.le_refl _
    · have := cB_mono (f := f) b (show a ≤ b by omega)
      rw [cB_s]; omega
theorem cB_inj {f : Nat → Int} {p q : Nat} (hp : f p = (p : Int)) (hq : f q = (q : Int)) (e : cB f p = cB f q) : p = q := by
  have key : ∀ a b : Nat, f a = (a : Int) → a < b → cB f a < cB f b := fun a b ha hab => by
    have := cB_mono (f := f) b (show a + 1 ≤ b by omega)
    rw [cB_s, if_pos ha] at this; omega
  rcases Nat.lt_trichotomy p q with h | h | h
  · have := key p q hp h; omega
  · exact h
  · have := key q p hq h; omega
theorem RA_row {n k : Nat} {hc hm : ab_H} (r : RA n k hc hm) {y : Nat} (hy : y < 20) (hn0 : 0 < n := by omega) : zv hm 211 y = if zv hc 18 y = 0 then zv hc 37 y else -2 := r.2.2.2.2.2.2.2.1 y hy hn0
theorem RA_beg {n k : Nat} {hc hm : ab_H} (r : RA n k hc hm) {y : Nat} (hy : y < 20) (hn0 : 0 < n := by omega) : zv hc 37 y = (y : Int) ↔ zv hm 211 y = (y : Int) := by
  rw [RA_row r hy hn0]
  constructor
  · intro q
    obtain ⟨s, L, _, _, _, a4, _, a6⟩ := r.2.2.2.2.2.1.2 y hy q
    have := ((a6 y hy).2 (by omega)).2
    rw [if_pos this]; exact q
  · intro q
    by_cases g : zv hc 18 y = 0
    · rw [if_pos g] at q; exact q
    · rw [if_neg g] at q; omega
theorem RA_out {n k : Nat} {hc hm : ab_H} (r : RA n k hc hm) {y : Nat} (hy : y < 20) (hn : n ≤ y) : ¬ zv hc 37 y = (y : Int) := fun q => by
  obtain ⟨s, L, _, _, _, a4, a5, a6⟩ := r.2.2.2.2.2.1.2 y hy q
  omega
theorem RA_cars {n k : Nat} {hc hm : ab_H} (r : RA n k hc hm) : zv hc 36 2 = (cB (zv hm 211) n : Int) := by
  have h2 : zv hc 36 2 = (cB (zv hc 37) 20 : Int) := r.2.2.2.2.2.2.1
  have hn := r.1.1
  rw [h2, cB_cut (f := zv hc 37) (n := n) 20 hn (fun y a b => RA_out r b a), cB_ext (f' := zv hm 211) (fun y hy => RA_beg r (by omega))]
theorem RA_L {n k s : Nat} {hc hm : ab_H} (r : RA n k hc hm) (hs : s < k) : zv hm 207 (2 * s) = zv hc 16 s ∧ (1 ≤ zv hc 16 s ∧ zv hc 16 s ≤ 9) := ⟨(r.1.2.2.2.2.2.2.2.1 s hs).1, (r.1.2.2.2.2.2.2.2.1 s hs).2.2.1⟩
theorem RA_W {n k s : Nat} {hc hm : ab_H} (r : RA n k hc hm) (hs : s < k) : wtM hm s = zv hc 17 s ∧ (1 ≤ zv hc 17 s ∧ zv hc 17 s ≤ 9) := ⟨(r.1.2.2.2.2.2.2.2.1 s hs).2.1, (r.1.2.2.2.2.2.2.2.1 s hs).2.2.2⟩
theorem sort_uniq {f : Nat → Int} {k s t : Nat} {x : Int} (hf : ∀ i, i < k → 1 ≤ f i) (hs : s < k) (ht : t < k) (a : x - sT f s < f s) (b : 0 ≤ x - sT f s) (c : x - sT f t < f t) (e : 0 ≤ x - sT f t) : s = t := by
  have mono : ∀ p q : Nat, p < q → q ≤ k → sT f p + f p ≤ sT f q := by
    intro p q
    induction q with
    | zero => intro h; omega
    | succ q ih =>
      intro h hq
      rw [sT_s]
      by_cases e : p = q
      · rw [e]; omega
      · have := ih (by omega) (by omega)
        have := hf q (by omega)
        omega
  rcases Nat.lt_trichotomy s t with h | h | h
  · have := mono s t h (by omega); omega
  · exact h
  · have := mono t s h (by omega); omega
theorem RA_pls {n k L : Nat} {hc hm : ab_H} (r : RA n k hc hm) (hL : 1 ≤ L) : pU (mfr hm n) L n = pls (cfr hc n) L n := by
  rw [pU_pls hL (fun y hy => mfr_end hy), RA_fr r]
theorem sim_go {n k : Nat} {hc hm hc' hm' : ab_H} (r : RA n k hc hm) (hx : wv hc 0 17 = wv hm 200 38) (c : goC hc hc') (m : goM n hm hm') : RA n k hc' hm' ∧ wv hc' 0 17 = wv hm' 200 38 := by
  obtain ⟨p, h1, hp, hb, hcb, x1, rfl⟩ := c
  obtain ⟨q, h2, hq, hqb, hqc, x2, rfl⟩ := m
  have hn := r.1.1
  have epq : p = q := by
    have hqb' := (RA_beg r (y := q) (by omega)).mpr hqb
    refine cB_inj hb hqb' ?_
    have e1 : cB (zv hc 37) q = cB (zv hm 211) q := cB_ext (fun y hy => RA_beg r (by omega))
    rw [e1]
    rw [RA_cars r, hx] at hcb
    omega
  subst epq
  have r2 : RA n k (wp hc 0 17 (dN (wv hc 0 17))) (wp hm 200 38 (dN (wv hm 200 38))) := r
  have r3 := sim_exit r2 hp hb x1 x2
  refine ⟨sim_tally (i := 1) (by omega) r3, ?_⟩
  show wv h1 0 17 = wv h2 200 38
  rw [x1.1.2.1 0 17 (by decide), x2.1.2.1 200 38 (by decide), wv_wp_s (dN_L _), wv_wp_s (dN_L _), hx]
theorem sim_com {n k : Nat} {hc hm hc' hm' : ab_H} (r : RA n k hc hm) (hx : wv hc 0 17 = wv hm 200 38) (c : comC n k hc hc') (m : comM n k hm hm') : RA n k hc' hm' ∧ wv hc' 0 17 = wv hm' 200 38 := by
  obtain ⟨s, L, hs, a1, a2, hL, c⟩ := c
  obtain ⟨t, L', ht, b1, b2, hL', m⟩ := m
  have ew : ∀ i, i ≤ k → sT (wtM hm) i = sT (zv hc 17) i := fun i hi => sT_congr (fun j hj => (RA_W r (by omega)).1)
  rw [← hx, ew k (Nat.le_refl k), ew t (by omega)] at b1 b2
  rw [(RA_W r ht).1] at b1
  have est : s = t := sort_uniq (fun i hi => (RA_W r hi).2.1) hs ht a1 a2 b1 b2
  subst est
  have eL : L' = L := by have := (RA_L r hs).1; omega
  subst eL
  have hL1 : 1 ≤ L' ∧ L' ≤ 9 := by have := (RA_L r hs).2; omega
  have epl := RA_pls r hL1.1
  rw [epl, ← hx] at m
  have r2 : RA n k (wp hc 0 17 (dN (wv hc 0 17))) (wp hm 200 38 (dN (wv hc 0 17))) := r
  rcases c with ⟨c1, h1, c2, rfl⟩ | ⟨p, h1, h2, c1, c2, c3, rfl⟩
  · rcases m with ⟨_, rfl⟩ | ⟨q, h3, m1, _, _⟩
    · have r3 : RA n k h1 (wp hm 200 38 (dN (wv hc 0 17))) := RA_eq (eqC_sm c2 rfl) eqM.refl r2
      refine ⟨sim_tally (i := 2) (by omega) r3, ?_⟩
      show wv h1 0 17 = wv (wp hm 200 38 (dN (wv hc 0 17))) 200 38
      rw [c2.2.1 0 17 (by decide), wv_wp_s (dN_L _), wv_wp_s (dN_L _)]
    · rw [c1] at m1; simp at m1
  · rcases m with ⟨m1, _⟩ | ⟨q, h3, m1, m2, rfl⟩
    · rw [m1] at c1; simp at c1
    · have epq : p = q := by rw [c1] at m1; exact Option.some.inj m1
      subst epq
      have r3 : RA n k (wp h1 0 17 (dN (dN (wv hc 0 17)))) (zp (wp (wp hm 200 38 (dN (wv hc 0 17))) 200 38 (dN (dN (wv hc 0 17)))) 200 0 0) := RA_eq (eqC.trans (eqC_sm c2 rfl) eqC_wp) (eqM.trans eqM_wp (eqM_zp (by unfold relM; omega))) r2
      have hpi : allf (cfr hc n) L' p = true ∧ p + L' ≤ n := by
        rcases pls_in (List.mem_of_getElem? c1) with q | q
        · exact ⟨q.2, by omega⟩
        · omega
      have ecf : cfr (wp h1 0 17 (dN (dN (wv hc 0 17)))) n = cfr hc n := by
        have := RA_fr r3
        have e2 := RA_fr r
        rw [this, e2]; funext y; unfold mfr
        rw [zv_zp_a (by decide)]; rfl
      have r4 := sim_enter r3 hs (by show zv h1 16 s = L'; rw [c2.1 16 s (by decide)]; exact hL) hpi.2 (by rw [ecf]; exact hpi.1) c3 m2
      refine ⟨sim_tally (i := 0) (by omega) r4, ?_⟩
      show wv h2 0 17 = wv h3 200 38
      rw [c3.1.2.1 0 17 (by decide), m2.1.2.1 200 38 (by decide), wv_wp_s (dN_L _)]
      show _ = wv (wp (wp hm 200 38 (dN (wv hc 0 17))) 200 38 (dN (dN (wv hc 0 17)))) 200 38
      rw [wv_wp_s (dN_L _)]
theorem sim_step {n k : Nat} {hc hm hc' hm' : ab_H} (hk : 0 < k) (r : RA n k hc hm) (hx : wv hc 0 17 = wv hm 200 38) (c : stpC n k hc hc') (m : stpM n k hm hm') : RA n k hc' hm' ∧ wv hc' 0 17 = wv hm' 200 38 := by
  obtain ⟨h1, h2, c1, c2, c3⟩ := c
  obtain ⟨a, h3, h4, m0, m1, m2, m3⟩ := m
  have r1 := sim_keep r c1 m0 m1
  have x1 : wv h1 0 17 = wv h3 200 38 := by
    rw [kep_w c1 (by omega), hx]
    exact (m1.2.2.2.2.2 38).symm
  have ecar := RA_cars r1
  have elv : zv h3 205 2 = zv h1 15 2 := (r1.1.2.2.2.2.2.2.2.2.1 hk).2
  rw [x1] at c2
  rw [elv] at m2
  have r2 : RA n k (wp h1 0 17 (dN (wv h3 200 38))) (wp h3 200 38 (dN (wv h3 200 38))) := r1
  have x2 : wv (wp h1 0 17 (dN (wv h3 200 38))) 0 17 = wv (wp h3 200 38 (dN (wv h3 200 38))) 200 38 := by rw [wv_wp_s (dN_L _), wv_wp_s (dN_L _)]
  have key : RA n k h2 h4 ∧ wv h2 0 17 = wv h4 200 38 := by
    rcases c2 with ⟨p1, p2, p3⟩ | ⟨p1, rfl⟩
    · rcases m2 with ⟨_, _, q3⟩ | ⟨q1, _⟩
      · exact sim_go r2 x2 p3 q3
      · exact absurd ⟨p1, by omega⟩ q1
    · rcases m2 with ⟨q1, q2, _⟩ | ⟨_, rfl⟩
      · exact absurd ⟨q1, by omega⟩ p1
      · exact ⟨r2, x2⟩
  exact sim_com key.1 key.2 c3 m3
def TC (n k : Nat) : Nat → ab_H → ab_H → Prop
  | 0, a, b => b = a
  | i + 1, a, b => ∃ c, TC n k i a c ∧ stpC n k c b
/-- what the class's run leaves alone -/
theorem stpC_fr {n k : Nat} {h h' : ab_H} (s : stpC n k h h') : ∀ b j, b < 36 ∨ 200 ≤ b → zv h' b j = zv h b j := by
  intro b j hb
  obtain ⟨h1, h2, c1, c2, c3⟩ := s
  have e1 : zv h1 b j = zv h b j := kep_o c1 (by omega)
  have e2 : zv h2 b j = zv h1 b j := by
    rcases c2 with ⟨_, _, p, g, _, _, _, x, rfl⟩ | ⟨_, rfl⟩
    · rw [zv_zp_a (by omega)]; exact x.1.1 b j (nin36 (by omega))
    · rfl
  have e3 : zv h' b j = zv h2 b j := by
    obtain ⟨s, L, _, _, _, _, q⟩ := c3
    rcases q with ⟨_, g, m, rfl⟩ | ⟨p, g, g2, _, m, x, rfl⟩
    · rw [zv_zp_a (by omega)]; exact m.1 b j (by simp only [List.mem_cons, List.not_mem_nil, or_false]; omega)
    · rw [zv_zp_a (by omega), x.1.1 b j (nin36 (by omega))]; exact m.1 b j (by simp only [List.mem_cons, List.not_mem_nil, or_false]; omega)
  rw [e3, e2, e1]
theorem TC_fr {n k : Nat} : ∀ (i : Nat) {h h' : ab_H}, TC n k i h h' → ∀ b j, b < 36 ∨ 200 ≤ b → zv h' b j = zv h b j
  | 0, h, h', t, b, j, hb => by rw [show h' = h from t]
  | i + 1, h, h', ⟨c, t, s⟩, b, j, hb => (stpC_fr s b j hb).trans (TC_fr i t b j hb)
/-- what the model's run leaves alone -/
theorem stpM_fr {n k : Nat} {h h' : ab_H} (s : stpM n k h h') : ∀ b j, b < 200 ∨ b = 200 ∧ (j = 7 ∨ j = 33) ∨ b = 202 ∨ b = 203 → zv h' b j = zv h b j := by
  intro b j hb
  obtain ⟨a, h1, h2, _, c1, c2, c3⟩ := s
  have e1 : zv h1 b j = zv h b j := by
    by_cases e : b = 200
    · subst e; exact c1.2.1 j (by omega)
    · exact c1.1.1 b j (nin4 (by omega))
  have e2 : zv h2 b j = zv h1 b j := by
    rcases c2 with ⟨_, _, p, g, _, _, _, x, rfl⟩ | ⟨_, rfl⟩
    · rw [zv_zp_a (by omega)]; exact x.1.1 b j (nin2 (by omega))
    · rfl
  have e3 : zv h' b j = zv h2 b j := by
    obtain ⟨s, L, _, _, _, _, q⟩ := c3
    rcases q with ⟨_, rfl⟩ | ⟨p, g, _, x, rfl⟩
    · rw [zv_zp_a (by omega)]; rfl
    · rw [zv_zp_a (by omega), x.1.1 b j (nin2 (by omega)), zv_zp_ne (by omega)]; rfl
  rw [e3, e2, e1]
