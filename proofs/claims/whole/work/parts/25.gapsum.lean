/-! PURE: what is gathered over the gaps is gathered over the yards -/
def fT {α : Type} (op : α → Nat → α) (e : α) (f : Nat → Nat) : Nat → α
  | 0 => e
  | n + 1 => op (fT op e f n) (f n)
theorem fT_s {α : Type} (op : α → Nat → α) (e : α) (f : Nat → Nat) (n : Nat) : fT op e f (n + 1) = op (fT op e f n) (f n) := rfl
theorem fT_congr {α : Type} {op : α → Nat → α} {e : α} {f f' : Nat → Nat} : ∀ {n : Nat}, (∀ i, i < n → f i = f' i) → fT op e f n = fT op e f' n
  | 0, _ => rfl
  | n + 1, h => by rw [fT_s, fT_s, fT_congr (fun i hi => h i (by omega)), h n (by omega)]
theorem gAt_no {fr : Nat → Bool} {y : Nat} (h : ¬ fr y = true) : gAt fr y = 0 := by unfold gAt; rw [if_neg (fun q => h q.1)]
theorem gAt_open {fr : Nat → Bool} {y : Nat} (h : 0 < y ∧ fr (y - 1) = true) : gAt fr y = 0 := by unfold gAt; rw [if_neg (fun q => q.2 h)]
theorem gAt_run {fr : Nat → Bool} {y : Nat} (h : ¬ fr y = true) (h0 : 0 < runl fr y) (hy : y ≤ 20) : gAt fr (y - runl fr y) = runl fr y := by
  have hl := runl_le fr y
  have h1 : fr (y - runl fr y) = true := runl_in fr y _ (Nat.le_refl _) (by omega)
  have h2 : ¬ (0 < y - runl fr y ∧ fr (y - runl fr y - 1) = true) := fun q => runl_out fr y (by omega) q.2
  unfold gAt
  rw [if_pos ⟨h1, h2⟩]
  refine rr_is (fun j hj => runl_in fr y _ (by omega) (by omega)) ?_ (by omega) (Or.inr (by omega))
  rw [show y - runl fr y + runl fr y = y by omega]
  exact h
theorem gat_fold {α : Type} {op : α → Nat → α} {e : α} (h0 : ∀ x, op x 0 = x) (fr : Nat → Bool) : ∀ y, y ≤ 20 → (¬ (0 < y ∧ fr (y - 1) = true) → fT op e (scan fr y).2.2 (scan fr y).1 = fT op e (gAt fr) y) ∧ (0 < y ∧ fr (y - 1) = true → ∃ g, (scan fr y).1 = g + 1 ∧ fT op e (gAt fr) y = op (fT op e (scan fr y).2.2 g) (gAt fr (y - runl fr y)))
  | 0, _ => ⟨fun _ => rfl, fun h => absurd h.1 (by omega)⟩
  | y + 1, hy => by
    obtain ⟨a, b⟩ := gat_fold h0 fr y (by omega)
    have sr := scan_run fr y
    have e1 : y + 1 - 1 = y := by omega
    rw [e1]
    refine ⟨fun h => ?_, fun h => ?_⟩
    · have hf : ¬ fr y = true := fun q => h ⟨by omega, q⟩
      rw [scan_no hf, fT_s, gAt_no hf, h0]
      by_cases h2 : 0 < y ∧ fr (y - 1) = true
      · obtain ⟨g, g1, g2⟩ := b h2
        obtain ⟨g', q1, q2, q3⟩ := sr.1 h2
        have eg : g' = g := by omega
        subst eg
        have hb := (scan_b fr y).2.2 g' (by omega)
        rw [g2, g1, fT_s, gAt_run hf (by omega) (by omega), q3]
      · exact a h2
    · by_cases h2 : 0 < y ∧ fr (y - 1) = true
      · obtain ⟨g, g1, g2⟩ := b h2
        refine ⟨g, by rw [scan_ext h.2 h2]; exact g1, ?_⟩
        rw [fT_s, gAt_open h2, h0, g2, runl_t h.2, show y + 1 - (runl fr y + 1) = y - runl fr y by omega]
        congr 1
        refine fT_congr (fun i hi => ?_)
        rw [scan_ext h.2 h2]
        dsimp only
        rw [if_neg (by omega)]
      · refine ⟨(scan fr y).1, by rw [scan_new h.2 h2], ?_⟩
        rw [fT_s, ← a h2, runl_t h.2, sr.2 h2, show y + 1 - (0 + 1) = y by omega]
        congr 1
        refine fT_congr (fun i hi => ?_)
        rw [scan_new h.2 h2]
        dsimp only
        rw [if_neg (by omega)]
/-- over the gaps as over the yards -/
theorem gat_all {α : Type} {op : α → Nat → α} {e : α} (h0 : ∀ x, op x 0 = x) {fr : Nat → Bool} {n : Nat} (hn : n ≤ 20) (hf : ¬ fr n = true) : fT op e (scan fr n).2.2 (scan fr n).1 = fT op e (gAt fr) n := by
  obtain ⟨a, b⟩ := gat_fold h0 fr n (e := e) hn
  by_cases h2 : 0 < n ∧ fr (n - 1) = true
  · obtain ⟨g, g1, g2⟩ := b h2
    obtain ⟨g', q1, q2, q3⟩ := (scan_run fr n).1 h2
    have eg : g' = g := by omega
    subst eg
    have hb := (scan_b fr n).2.2 g' (by omega)
    rw [g2, g1, fT_s, gAt_run hf (by omega) hn, q3]
  · exact a h2
theorem sT_fT {F : Nat → Int} {f : Nat → Nat} : ∀ n, sT (fun i => F (f i)) n = fT (fun x k => x + F k) 0 f n
  | 0 => rfl
  | n + 1 => by rw [sT_s, fT_s, sT_fT n]
theorem mT_fT {F : Nat → Int} {a : Int} {f : Nat → Nat} : ∀ n, mT (fun i => F (f i)) a n = fT (fun x k => max x (F k)) a f n
  | 0 => rfl
  | n + 1 => by rw [mT_s, fT_s, mT_fT n]
theorem mT_congr {f f' : Nat → Int} {a : Int} : ∀ {n : Nat}, (∀ i, i < n → f i = f' i) → mT f a n = mT f' a n
  | 0, _ => rfl
  | n + 1, h => by rw [mT_s, mT_s, mT_congr (fun i hi => h i (by omega)), h n (by omega)]
theorem gsum {F : Nat → Int} (hF : F 0 = 0) {fr : Nat → Bool} {n : Nat} (hn : n ≤ 20) (hf : ¬ fr n = true) : sT (fun i => F ((scan fr n).2.2 i)) (scan fr n).1 = sT (fun y => F (gAt fr y)) n := by
  rw [sT_fT, sT_fT]
  exact gat_all (op := fun x k => x + F k) (fun x => by show x + F 0 = x; omega) hn hf
theorem scan_congr {fr fr' : Nat → Bool} : ∀ {n : Nat}, (∀ y, y < n → fr y = fr' y) → scan fr n = scan fr' n
  | 0, _ => rfl
  | n + 1, h => by
    have ih := scan_congr (n := n) (fun y hy => h y (by omega))
    have h1 := h n (by omega)
    by_cases q : 0 < n
    · have h2 := h (n - 1) (by omega)
      simp only [scan, ih, h1, h2]
    · have e : n = 0 := by omega
      subst e
      by_cases z : fr' 0 = true
      · rw [scan_new (h1.trans z) (by omega), scan_new z (by omega)]; rfl
      · rw [scan_no (by rw [h1]; exact z), scan_no z]; rfl
theorem allf_congr {fr fr' : Nat → Bool} {L p : Nat} (h : ∀ y, p ≤ y → y < p + L → fr y = fr' y) : allf fr L p = allf fr' L p := by
  unfold allf
  refine Bool.eq_iff_iff.mpr ?_
  rw [List.all_eq_true, List.all_eq_true]
  constructor
  · intro q i hi
    have := List.mem_range.mp hi
    rw [← h (p + i) (by omega) (by omega)]; exact q i hi
  · intro q i hi
    have := List.mem_range.mp hi
    rw [h (p + i) (by omega) (by omega)]; exact q i hi
theorem pls_congr {fr fr' : Nat → Bool} {L n : Nat} (h : ∀ y, y < n → fr y = fr' y) : pls fr L n = pls fr' L n := by
  unfold pls
  refine List.filter_congr (fun p hp => ?_)
  have := List.mem_range.mp hp
  exact allf_congr (fun y h1 h2 => h y (by omega))
