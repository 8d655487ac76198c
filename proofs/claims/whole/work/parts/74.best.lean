/-! PURE: the best place; how many are left -/
theorem scan_gap (fr : Nat → Bool) : ∀ y i, i < (scan fr y).1 → (∀ j, (scan fr y).2.1 i ≤ j → j < (scan fr y).2.1 i + (scan fr y).2.2 i → fr j = true) ∧ ((scan fr y).2.1 i = 0 ∨ ¬ fr ((scan fr y).2.1 i - 1) = true) ∧ (i + 1 < (scan fr y).1 → (scan fr y).2.1 i + (scan fr y).2.2 i < y ∧ ¬ fr ((scan fr y).2.1 i + (scan fr y).2.2 i) = true) ∧ (i + 1 = (scan fr y).1 → (scan fr y).2.1 i + (scan fr y).2.2 i = y ∨ ((scan fr y).2.1 i + (scan fr y).2.2 i < y ∧ ¬ fr ((scan fr y).2.1 i + (scan fr y).2.2 i) = true))
  | 0, i, hi => absurd hi (by simp [scan])
  | y + 1, i, hi => by
    have hb := (scan_b fr y).2.2
    by_cases h : fr y = true
    · by_cases h2 : 0 < y ∧ fr (y - 1) = true
      · obtain ⟨g, g1, g2, g3⟩ := (scan_run fr y).1 h2
        rw [scan_ext h h2] at hi ⊢
        dsimp only at hi ⊢
        obtain ⟨a, b, c, e⟩ := scan_gap fr y i hi
        by_cases q : i + 1 = (scan fr y).1
        · rw [if_pos q]
          have eg : i = g := by omega
          subst eg
          refine ⟨fun j j1 j2 => ?_, b, fun r => absurd r (by omega), fun _ => Or.inl (by omega)⟩
          by_cases ej : j = y
          · rw [ej]; exact h
          · exact a j j1 (by omega)
        · rw [if_neg q]
          have := c (by omega)
          exact ⟨a, b, fun _ => ⟨by omega, this.2⟩, fun r => absurd r q⟩
      · rw [scan_new h h2] at hi ⊢
        dsimp only at hi ⊢
        by_cases q : i = (scan fr y).1
        · rw [if_pos q, if_pos q]
          refine ⟨fun j j1 j2 => ?_, ?_, fun r => absurd r (by omega), fun _ => Or.inl rfl⟩
          · rw [show j = y by omega]; exact h
          · by_cases y0 : y = 0
            · exact Or.inl y0
            · exact Or.inr (fun r => h2 ⟨by omega, r⟩)
        · rw [if_neg q, if_neg q]
          have hi2 : i < (scan fr y).1 := by omega
          obtain ⟨a, b, c, e⟩ := scan_gap fr y i hi2
          have hbi := hb i hi2
          refine ⟨a, b, fun r => ?_, fun r => absurd r (by omega)⟩
          by_cases q2 : i + 1 = (scan fr y).1
          · rcases e q2 with t | t
            · exact absurd ⟨by omega, a (y - 1) (by omega) (by omega)⟩ h2
            · exact ⟨by omega, t.2⟩
          · have := c (by omega); exact ⟨by omega, this.2⟩
    · rw [scan_no h] at hi ⊢
      obtain ⟨a, b, c, e⟩ := scan_gap fr y i hi
      refine ⟨a, b, fun r => ?_, fun r => ?_⟩
      · have := c r; exact ⟨by omega, this.2⟩
      · rcases e r with t | t
        · exact Or.inr ⟨by omega, by rw [t]; exact h⟩
        · exact Or.inr ⟨by omega, t.2⟩
theorem gap_run {fr : Nat → Bool} {n i a L : Nat} (hn : n ≤ 20) (hf : ∀ y, n ≤ y → ¬ fr y = true) (hi : i < (scan fr n).1) (ha : a + L ≤ (scan fr n).2.2 i) : runl fr ((scan fr n).2.1 i + a) = a ∧ rr fr 40 ((scan fr n).2.1 i + a + L) = (scan fr n).2.2 i - L - a := by
  obtain ⟨g1, g2, g3, g4⟩ := scan_gap fr n i hi
  have hb := (scan_b fr n).2.2 i hi
  have hend : ¬ fr ((scan fr n).2.1 i + (scan fr n).2.2 i) = true := by
    by_cases q : i + 1 = (scan fr n).1
    · rcases g4 q with t | t
      · rw [t]; exact hf n (Nat.le_refl n)
      · exact t.2
    · exact (g3 (by omega)).2
  refine ⟨runl_is (by omega) (fun j j1 j2 => g1 j (by omega) (by omega)) (fun q => ?_), rr_is (fun j hj => g1 _ (by omega) (by omega)) ?_ (by omega) (Or.inr (by omega))⟩
  · rcases g2 with t | t
    · omega
    · rw [show (scan fr n).2.1 i + a - a - 1 = (scan fr n).2.1 i - 1 by omega]; exact t
  · rw [show (scan fr n).2.1 i + a + L + ((scan fr n).2.2 i - L - a) = (scan fr n).2.1 i + (scan fr n).2.2 i by omega]; exact hend
def bstep (f : Nat → Int) (s : Int × Int) (p : Nat) : Int × Int := if s.1 = -1 ∨ f p < s.2 then ((p : Int), f p) else s
def cbf (f : Nat → Int) (l : List Nat) : Int × Int := l.foldl (bstep f) (-1, 0)
def mstep (g : Nat → Int) (s : Int × Int) (p : Nat) : Int × Int := if s.1 = -1 ∨ g p > s.2 then ((p : Int), g p) else s
def mbf (g : Nat → Int) (l : List Nat) : Int × Int := l.foldl (mstep g) (-1, 0)
theorem cbf_s (f : Nat → Int) (l : List Nat) (p : Nat) : cbf f (l ++ [p]) = bstep f (cbf f l) p := by unfold cbf; rw [List.foldl_append]; rfl
theorem mbf_s (g : Nat → Int) (l : List Nat) (p : Nat) : mbf g (l ++ [p]) = mstep g (mbf g l) p := by unfold mbf; rw [List.foldl_append]; rfl
theorem best_eq {f g : Nat → Int} {C : Int} : ∀ (l : List Nat) (s t : Int × Int), (∀ p ∈ l, g p = C - f p) → s.1 = t.1 → (¬ s.1 = -1 → t.2 = C - s.2) → (l.foldl (bstep f) s).1 = (l.foldl (mstep g) t).1
  | [], s, t, _, h1, _ => h1
  | p :: l, s, t, hl, h1, h2 => by
    rw [List.foldl_cons, List.foldl_cons]
    have hp := hl p List.mem_cons_self
    have key : (s.1 = -1 ∨ f p < s.2) ↔ (t.1 = -1 ∨ g p > t.2) := by
      rw [← h1]
      by_cases e : s.1 = -1
      · exact ⟨fun _ => Or.inl e, fun _ => Or.inl e⟩
      · have := h2 e
        constructor
        · rintro (q | q)
          · exact Or.inl q
          · exact Or.inr (by omega)
        · rintro (q | q)
          · exact Or.inl q
          · exact Or.inr (by omega)
    unfold bstep mstep
    by_cases c : s.1 = -1 ∨ f p < s.2
    · rw [if_pos c, if_pos (key.mp c)]
      exact best_eq l _ _ (fun x hx => hl x (List.mem_cons_of_mem _ hx)) rfl (fun _ => by dsimp only; exact hp)
    · rw [if_neg c, if_neg (fun q => c (key.mpr q))]
      exact best_eq l _ _ (fun x hx => hl x (List.mem_cons_of_mem _ hx)) h1 h2
theorem first_b {f : Nat → Int} : ∀ (l : List Nat) (q : Nat), (∀ p ∈ l, f p = 0) → l.foldl (bstep f) ((q : Int), 0) = ((q : Int), 0)
  | [], q, _ => rfl
  | p :: l, q, h => by
    rw [List.foldl_cons]
    have e : bstep f ((q : Int), 0) p = ((q : Int), 0) := by unfold bstep; rw [h p List.mem_cons_self, if_neg (by rintro (a | a) <;> simp only at a <;> omega)]
    rw [e]; exact first_b l q (fun x hx => h x (List.mem_cons_of_mem _ hx))
theorem first_m : ∀ (l : List Nat) (q : Nat), (∀ p ∈ l, q < p) → l.foldl (mstep (fun p => -(p : Int))) ((q : Int), -(q : Int)) = ((q : Int), -(q : Int))
  | [], q, _ => rfl
  | p :: l, q, h => by
    rw [List.foldl_cons]
    have hp := h p List.mem_cons_self
    have e : mstep (fun p => -(p : Int)) ((q : Int), -(q : Int)) p = ((q : Int), -(q : Int)) := by unfold mstep; rw [if_neg (by rintro (a | a) <;> simp only at a <;> omega)]
    rw [e]; exact first_m l q (fun x hx => h x (List.mem_cons_of_mem _ hx))
theorem pls_lt {fr : Nat → Bool} {L n : Nat} : (pls fr L n).Pairwise (· < ·) := (List.pairwise_lt_range).filter _
theorem first_eq {f : Nat → Int} {l : List Nat} (hl : l.Pairwise (· < ·)) (h : ∀ p ∈ l, f p = 0) : (cbf f l).1 = (mbf (fun p => -(p : Int)) l).1 := by
  cases l with
  | nil => rfl
  | cons p l =>
    unfold cbf mbf
    rw [List.foldl_cons, List.foldl_cons]
    have e1 : bstep f (-1, 0) p = ((p : Int), 0) := by unfold bstep; rw [if_pos (Or.inl rfl), h p List.mem_cons_self]
    have e2 : mstep (fun p => -(p : Int)) (-1, 0) p = ((p : Int), -(p : Int)) := by unfold mstep; rw [if_pos (Or.inl rfl)]
    rw [e1, e2, first_b l p (fun x hx => h x (List.mem_cons_of_mem _ hx)), first_m l p (fun x hx => (List.pairwise_cons.mp hl).1 x hx)]
theorem cbf_congr {f f' : Nat → Int} : ∀ (l : List Nat) (s : Int × Int), (∀ p ∈ l, f p = f' p) → l.foldl (bstep f) s = l.foldl (bstep f') s
  | [], _, _ => rfl
  | p :: l, s, h => by
    rw [List.foldl_cons, List.foldl_cons]
    have e : bstep f s p = bstep f' s p := by unfold bstep; rw [h p List.mem_cons_self]
    rw [e]; exact cbf_congr l _ (fun x hx => h x (List.mem_cons_of_mem _ hx))
theorem cbf_in {f : Nat → Int} : ∀ (l : List Nat) (s : Int × Int), (l.foldl (bstep f) s).1 = s.1 ∨ ∃ p ∈ l, (l.foldl (bstep f) s).1 = (p : Int)
  | [], _ => Or.inl rfl
  | p :: l, s => by
    rw [List.foldl_cons]
    rcases cbf_in l (bstep f s p) with q | ⟨x, hx, q⟩
    · unfold bstep at q
      by_cases c : s.1 = -1 ∨ f p < s.2
      · rw [if_pos c] at q; exact Or.inr ⟨p, List.mem_cons_self, by unfold bstep; rw [if_pos c]; exact q⟩
      · rw [if_neg c] at q; exact Or.inl (by unfold bstep; rw [if_neg c]; exact q)
    · exact Or.inr ⟨x, List.mem_cons_of_mem _ hx, q⟩
/-- counting -/
def ct (b : Nat → Bool) : Nat → Nat
  | 0 => 0
  | m + 1 => ct b m + if b m = true then 1 else 0
theorem pU_ct (fr : Nat → Bool) (L : Nat) : ∀ m, (pU fr L m).length = ct (allf fr L) m
  | 0 => rfl
  | m + 1 => by
    show _ = ct (allf fr L) m + _
    rw [← pU_ct fr L m]
    by_cases h : allf fr L m = true
    · rw [pU_t h, if_pos h, List.length_append]; rfl
    · rw [pU_f h, if_neg h]; rfl
theorem ct_diff {b b' : Nat → Bool} {lo hi : Nat} (h1 : ∀ q, lo ≤ q → q < hi → b q = true ∧ ¬ b' q = true) (h2 : ∀ q, ¬ (lo ≤ q ∧ q < hi) → (b q = true ↔ b' q = true)) : ∀ m, ct b m = ct b' m + (min m hi - lo)
  | 0 => by show 0 = 0 + _; omega
  | m + 1 => by
    show ct b m + _ = ct b' m + _ + _
    rw [ct_diff h1 h2 m]
    by_cases c : lo ≤ m ∧ m < hi
    · have := h1 m c.1 c.2
      rw [if_pos this.1, if_neg this.2]; omega
    · have e := h2 m c
      by_cases d : b m = true
      · rw [if_pos d, if_pos (e.mp d)]; omega
      · rw [if_neg d, if_neg (fun q => d (e.mpr q))]; omega
/-- a car more: how many places are left -/
theorem spite {fr fr' : Nat → Bool} {L p n : Nat} (hL : 1 ≤ L ∧ L ≤ 9) (hp : allf fr L p = true) (hn : n ≤ 20) (hf : ∀ y, n ≤ y → ¬ fr y = true) (hfr : ∀ y, fr' y = true ↔ fr y = true ∧ ¬ (p ≤ y ∧ y < p + L)) : ((pU fr' L n).length : Int) = ((pU fr L n).length : Int) + (pIn (runl fr p : Int) (L : Int) + pIn (rr fr 40 (p + L) : Int) (L : Int) - pIn ((runl fr p : Int) + (L : Int) + (rr fr 40 (p + L) : Int)) (L : Int)) := by
  have hp2 := allf_iff.mp hp
  obtain ⟨a, ea⟩ : ∃ a, a = runl fr p := ⟨_, rfl⟩
  obtain ⟨b, eb⟩ : ∃ b, b = rr fr 40 (p + L) := ⟨_, rfl⟩
  have ha := runl_le fr p
  have hain := runl_in fr p
  have haout := runl_out fr p
  have hbin := rr_in fr 40 (p + L)
  have hble := rr_le fr 40 (p + L)
  have hbout := rr_out fr 40 (p + L)
  rw [← ea] at ha hain haout ⊢
  rw [← eb] at hbin hble hbout ⊢
  have hpn : p + L ≤ n := by
    rcases Nat.lt_or_ge n (p + L) with q | q
    · exact absurd (hp2 (p + L - 1) (by omega) (by omega)) (hf _ (by omega))
    · exact q
  have hbn : p + L + b ≤ n := by
    rcases Nat.lt_or_ge n (p + L + b) with q | q
    · have := hbin (b - 1) (by omega)
      exact absurd this (hf _ (by omega))
    · exact q
  have hbo : ¬ fr (p + L + b) = true := hbout (by omega)
  have hall : ∀ j, p - a ≤ j → j < p + L + b → fr j = true := fun j j1 j2 => by
    rcases Nat.lt_or_ge j p with q | q
    · exact hain j (by omega) q
    · rcases Nat.lt_or_ge j (p + L) with q2 | q2
      · exact hp2 j q q2
      · have := hbin (j - (p + L)) (by omega)
        rwa [show p + L + (j - (p + L)) = j by omega] at this
  have key := ct_diff (b := allf fr L) (b' := allf fr' L) (lo := max (p - a) (p + 1 - L)) (hi := min (p + b) (p + L - 1) + 1) (fun q q1 q2 => ⟨allf_iff.mpr (fun j j1 j2 => hall j (by omega) (by omega)), fun r => by
    have r2 := allf_iff.mp r
    rcases Nat.lt_or_ge q p with t | t
    · exact ((hfr p).mp (r2 p (by omega) (by omega))).2 ⟨Nat.le_refl p, by omega⟩
    · exact ((hfr q).mp (r2 q (by omega) (by omega))).2 ⟨t, by omega⟩⟩) (fun q hq => ⟨fun r => by
    have r2 := allf_iff.mp r
    refine allf_iff.mpr (fun j j1 j2 => (hfr j).mpr ⟨r2 j j1 j2, fun w => hq ?_⟩)
    have hlo : p - a ≤ q := by
      rcases Nat.lt_or_ge q (p - a) with t | t
      · exact absurd (r2 (p - a - 1) (by omega) (by omega)) (haout (by omega))
      · exact t
    have hhi : q + L ≤ p + L + b := by
      rcases Nat.lt_or_ge (p + L + b) (q + L) with t | t
      · exact absurd (r2 (p + L + b) (by omega) (by omega)) hbo
      · exact t
    omega, fun r => allf_iff.mpr (fun j j1 j2 => ((hfr j).mp (allf_iff.mp r j j1 j2)).1)⟩) n
  rw [pU_ct, pU_ct, key]
  unfold pIn
  (repeat' split) <;> omega
