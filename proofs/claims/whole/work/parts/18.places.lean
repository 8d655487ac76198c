/-! PURE: the places at which a length can stop, by gaps and by yards -/
def allf (fr : Nat → Bool) (L p : Nat) : Bool := (List.range L).all (fun i => fr (p + i))
def pls (fr : Nat → Bool) (L n : Nat) : List Nat := (List.range (n + 1 - L)).filter (allf fr L)
def runl (fr : Nat → Bool) : Nat → Nat
  | 0 => 0
  | y + 1 => if fr y = true then runl fr y + 1 else 0
theorem runl_t {fr : Nat → Bool} {y : Nat} (h : fr y = true) : runl fr (y + 1) = runl fr y + 1 := by simp only [runl, if_pos h]
theorem runl_f {fr : Nat → Bool} {y : Nat} (h : ¬ fr y = true) : runl fr (y + 1) = 0 := by simp only [runl, if_neg h]
theorem runl_le (fr : Nat → Bool) : ∀ y, runl fr y ≤ y
  | 0 => Nat.le_refl 0
  | y + 1 => by
    have := runl_le fr y
    by_cases h : fr y = true
    · rw [runl_t h]; omega
    · rw [runl_f h]; omega
theorem runl_in (fr : Nat → Bool) : ∀ y j, y - runl fr y ≤ j → j < y → fr j = true
  | 0, j, _, h => absurd h (by omega)
  | y + 1, j, h1, h2 => by
    have := runl_le fr y
    by_cases h : fr y = true
    · rw [runl_t h] at h1
      by_cases e : j = y
      · rw [e]; exact h
      · exact runl_in fr y j (by omega) (by omega)
    · rw [runl_f h] at h1; omega
theorem runl_out (fr : Nat → Bool) : ∀ y, runl fr y < y → ¬ fr (y - runl fr y - 1) = true
  | 0, h => absurd h (by omega)
  | y + 1, h0 => by
    have := runl_le fr y
    by_cases h : fr y = true
    · rw [runl_t h] at h0 ⊢
      have e : y + 1 - (runl fr y + 1) - 1 = y - runl fr y - 1 := by omega
      rw [e]; exact runl_out fr y (by omega)
    · rw [runl_f h]
      have e : y + 1 - 0 - 1 = y := by omega
      rw [e]; exact h
theorem allf_iff {fr : Nat → Bool} {L p : Nat} : allf fr L p = true ↔ ∀ j, p ≤ j → j < p + L → fr j = true := by
  unfold allf
  rw [List.all_eq_true]
  constructor
  · intro h j h1 h2
    have := h (j - p) (List.mem_range.mpr (by omega))
    rwa [show p + (j - p) = j by omega] at this
  · intro h i hi
    have := List.mem_range.mp hi
    exact h (p + i) (by omega) (by omega)
theorem allf_run {fr : Nat → Bool} {L y : Nat} (hy : L ≤ y) : allf fr L (y - L) = true ↔ L ≤ runl fr y := by
  have hl := runl_le fr y
  rw [allf_iff]
  constructor
  · intro h
    rcases Nat.lt_or_ge (runl fr y) L with q | q
    · exact absurd (h (y - runl fr y - 1) (by omega) (by omega)) (runl_out fr y (by omega))
    · exact q
  · intro h j h1 h2
    exact runl_in fr y j (by omega) (by omega)
theorem pls_succ (fr : Nat → Bool) {L : Nat} (hL : 1 ≤ L) (y : Nat) : pls fr L (y + 1) = pls fr L y ++ (if L ≤ runl fr (y + 1) then [y + 1 - L] else []) := by
  unfold pls
  have hl := runl_le fr (y + 1)
  by_cases h : L ≤ y + 1
  · rw [show y + 1 + 1 - L = (y + 1 - L) + 1 by omega, List.range_succ, List.filter_append]
    congr 1
    by_cases q : L ≤ runl fr (y + 1)
    · rw [if_pos q, List.filter_cons_of_pos ((allf_run h).mpr q)]; rfl
    · rw [if_neg q, List.filter_cons_of_neg (fun z => q ((allf_run h).mp z))]; rfl
  · rw [if_neg (by omega), show y + 1 + 1 - L = 0 by omega, show y + 1 - L = 0 by omega]; rfl
def fl (s k : Nat → Nat) (L : Nat) : Nat → List Nat
  | 0 => []
  | g + 1 => fl s k L g ++ (List.range (k g + 1 - L)).map (fun i => s g + i)
theorem fl_s (s k : Nat → Nat) (L g : Nat) : fl s k L (g + 1) = fl s k L g ++ (List.range (k g + 1 - L)).map (fun i => s g + i) := rfl
theorem fl_congr {s k s' k' : Nat → Nat} {L : Nat} : ∀ {g : Nat}, (∀ i, i < g → s i = s' i ∧ k i = k' i) → fl s k L g = fl s' k' L g
  | 0, _ => rfl
  | g + 1, h => by
    have h1 := h g (by omega)
    unfold fl
    rw [fl_congr (fun i hi => h i (by omega)), h1.1, h1.2]
theorem scan_run (fr : Nat → Bool) : ∀ y, (0 < y ∧ fr (y - 1) = true → ∃ g, (scan fr y).1 = g + 1 ∧ (scan fr y).2.1 g + (scan fr y).2.2 g = y ∧ runl fr y = (scan fr y).2.2 g) ∧ (¬ (0 < y ∧ fr (y - 1) = true) → runl fr y = 0)
  | 0 => ⟨fun h => absurd h.1 (by omega), fun _ => rfl⟩
  | y + 1 => by
    obtain ⟨a, b⟩ := scan_run fr y
    have e : y + 1 - 1 = y := by omega
    rw [e]
    refine ⟨fun h => ?_, fun h => runl_f (fun q => h ⟨by omega, q⟩)⟩
    by_cases h2 : 0 < y ∧ fr (y - 1) = true
    · obtain ⟨g, g1, g2, g3⟩ := a h2
      refine ⟨g, by rw [scan_ext h.2 h2]; exact g1, ?_, ?_⟩
      · rw [scan_ext h.2 h2]; dsimp only; rw [if_pos g1.symm]; omega
      · rw [scan_ext h.2 h2, runl_t h.2]; dsimp only; rw [if_pos g1.symm]; omega
    · refine ⟨(scan fr y).1, by rw [scan_new h.2 h2], ?_, ?_⟩
      · rw [scan_new h.2 h2]; dsimp only; rw [if_pos rfl, if_pos rfl]
      · rw [scan_new h.2 h2, runl_t h.2, b h2]; dsimp only; rw [if_pos rfl]
theorem fl_scan (fr : Nat → Bool) {L : Nat} (hL : 1 ≤ L) : ∀ y, fl (scan fr y).2.1 (scan fr y).2.2 L (scan fr y).1 = pls fr L y
  | 0 => by
    unfold pls
    rw [show 0 + 1 - L = 0 by omega]; rfl
  | y + 1 => by
    have ih := fl_scan fr hL y
    rw [pls_succ fr hL y, ← ih]
    by_cases h : fr y = true
    · by_cases h2 : 0 < y ∧ fr (y - 1) = true
      · obtain ⟨g, g1, g2, g3⟩ := (scan_run fr y).1 h2
        rw [scan_ext h h2, runl_t h]
        dsimp only
        rw [g1]
        rw [fl_s, fl_s]
        rw [if_pos rfl, List.append_assoc]
        congr 1
        · exact fl_congr (fun i hi => ⟨rfl, by rw [if_neg (by omega)]⟩)
        · by_cases q : L ≤ runl fr y + 1
          · rw [if_pos q, show (scan fr y).2.2 g + 1 + 1 - L = ((scan fr y).2.2 g + 1 - L) + 1 by omega, List.range_succ, List.map_append]
            congr 1
            show [(scan fr y).2.1 g + ((scan fr y).2.2 g + 1 - L)] = _
            congr 1; omega
          · rw [if_neg q, show (scan fr y).2.2 g + 1 + 1 - L = 0 by omega, show (scan fr y).2.2 g + 1 - L = 0 by omega]; rfl
      · have hr := (scan_run fr y).2 h2
        rw [scan_new h h2, runl_t h, hr]
        dsimp only
        rw [fl_s]
        rw [if_pos rfl, if_pos rfl]
        congr 1
        · exact fl_congr (fun i hi => by rw [if_neg (by omega), if_neg (by omega)]; exact ⟨rfl, rfl⟩)
        · by_cases q : L ≤ 0 + 1
          · rw [if_pos q, show 1 + 1 - L = 1 by omega, show y + 1 - L = y by omega]; rfl
          · rw [if_neg q, show 1 + 1 - L = 0 by omega]; rfl
    · rw [scan_no h, runl_f h, if_neg (by omega), List.append_nil]
theorem pIn_nat {k L : Nat} (hL : 1 ≤ L) : pIn (k : Int) (L : Int) = ((k + 1 - L : Nat) : Int) := by unfold pIn; split <;> omega
theorem fl_len {s k : Nat → Nat} {L : Nat} (hL : 1 ≤ L) : ∀ g : Nat, sT (fun i => pIn (k i : Int) (L : Int)) g = ((fl s k L g).length : Int)
  | 0 => rfl
  | g + 1 => by
    rw [sT_s, fl_len (s := s) hL g, pIn_nat hL, fl_s]
    rw [List.length_append, List.length_map, List.length_range]; omega
theorem fl_get {s k : Nat → Nat} {L : Nat} (hL : 1 ≤ L) {m : Nat} : ∀ {g i : Nat}, i < g → (m : Int) - sT (fun i => pIn (k i : Int) (L : Int)) i < pIn (k i : Int) (L : Int) → 0 ≤ (m : Int) - sT (fun i => pIn (k i : Int) (L : Int)) i → ∃ p : Nat, (fl s k L g)[m]? = some p ∧ (p : Int) = s i + ((m : Int) - sT (fun i => pIn (k i : Int) (L : Int)) i)
  | 0, _, h, _, _ => absurd h (by omega)
  | g + 1, i, h, h1, h2 => by
    by_cases e : i = g
    · subst e
      rw [fl_len (s := s) hL] at h1 h2 ⊢
      rw [pIn_nat hL] at h1
      refine ⟨s i + (m - (fl s k L i).length), ?_, by omega⟩
      rw [fl_s, List.getElem?_append_right (by omega), List.getElem?_map, List.getElem?_range (by omega)]
      rfl
    · obtain ⟨p, p1, p2⟩ := fl_get hL (g := g) (i := i) (by omega) h1 h2
      refine ⟨p, ?_, p2⟩
      rw [fl_s, List.getElem?_append_left (List.getElem?_eq_some_iff.mp p1).1]
      exact p1
theorem sT_congr {f f' : Nat → Int} : ∀ {n : Nat}, (∀ i, i < n → f i = f' i) → sT f n = sT f' n
  | 0, _ => rfl
  | n + 1, h => by rw [sT_s, sT_s, sT_congr (fun i hi => h i (by omega)), h n (by omega)]
/-- the gaps as measured are in order -/
theorem GR_ok {h : ab_H} {fr : Nat → Bool} {n : Nat} (hn : n ≤ 20) (hG : GR h (scan fr n)) : gOK h (scan fr n).1 := by
  have hb := scan_b fr n
  refine ⟨hG.1, by omega, fun i hi => ?_⟩
  have h1 := hG.2 i hi
  have h2 := hb.2.2 i hi
  omega
theorem GR_len {h : ab_H} {fr : Nat → Bool} {n L : Nat} (hL : 1 ≤ L) (hG : GR h (scan fr n)) : sT (fun i => pIn (zv h 169 i) (L : Int)) (scan fr n).1 = ((pls fr L n).length : Int) := by
  rw [← fl_scan fr hL, ← fl_len hL]
  exact sT_congr (fun i hi => by rw [(hG.2 i hi).2])
theorem GR_get {h : ab_H} {fr : Nat → Bool} {n L m i : Nat} (hL : 1 ≤ L) (hG : GR h (scan fr n)) (hi : i < (scan fr n).1) (h1 : (m : Int) - sT (fun i => pIn (zv h 169 i) (L : Int)) i < pIn (zv h 169 i) (L : Int)) (h2 : 0 ≤ (m : Int) - sT (fun i => pIn (zv h 169 i) (L : Int)) i) : ∃ p : Nat, (pls fr L n)[m]? = some p ∧ (p : Int) = zv h 168 i + ((m : Int) - sT (fun i => pIn (zv h 169 i) (L : Int)) i) := by
  have e : sT (fun i => pIn (zv h 169 i) (L : Int)) i = sT (fun i => pIn (((scan fr n).2.2 i : Nat) : Int) (L : Int)) i := sT_congr (fun j hj => by rw [(hG.2 j (by omega)).2])
  rw [e] at h1 h2 ⊢
  rw [(hG.2 i hi).2] at h1
  rw [(hG.2 i hi).1, ← fl_scan fr hL]
  exact fl_get hL hi h1 h2
theorem c_placesG {d : Nat} {h : ab_H} {Q : ab_Q} {fr : Nat → Bool} {n L : Nat} (hn : n ≤ 20) (hL : 1 ≤ L ∧ L ≤ 100) (hG : GR h (scan fr n)) (K : Q (some (.int (iI ((pls fr L n).length : Int)))) h) : ab_X (d + 1) mX2_placesFor 0 (lv_args 0 [.ref 167, .int (iI (L : Int))]) [] h Q :=
  c_placesFor (GR_ok hn hG) (by omega) (by rw [GR_len hL.1 hG]; exact K)
theorem c_placeG {d : Nat} {h : ab_H} {Q : ab_Q} {fr : Nat → Bool} {n L m : Nat} (hn : n ≤ 20) (hL : 1 ≤ L ∧ L ≤ 100) (hm : m ≤ 2147483647) (hG : GR h (scan fr n)) (K1 : ∀ p : Nat, (pls fr L n)[m]? = some p → Q (some (.int (iI (p : Int)))) h) (K0 : (pls fr L n)[m]? = none → Q (some (.int (iI (-1)))) h) : ab_X (d + 1) mX2_placeFor 0 (lv_args 0 [.ref 167, .int (iI (L : Int)), .int (iI (m : Int))]) [] h Q := by
  refine c_placeFor (GR_ok hn hG) (by omega) (by omega) (fun i hi h1 h2 => ?_) (fun h1 => K0 ?_)
  · obtain ⟨p, p1, p2⟩ := GR_get hL.1 hG hi h1 h2
    rw [← p2]
    exact K1 p p1
  · rw [GR_len hL.1 hG] at h1
    exact List.getElem?_eq_none (by omega)
/-- a place of the list lies within -/
theorem pls_in {fr : Nat → Bool} {L n p : Nat} (h : p ∈ pls fr L n) : p + L ≤ n + 0 ∧ allf fr L p = true ∨ L = 0 := by
  unfold pls at h
  obtain ⟨a, b⟩ := List.mem_filter.mp h
  have := List.mem_range.mp a
  by_cases e : L = 0
  · exact Or.inr e
  · exact Or.inl ⟨by omega, b⟩
