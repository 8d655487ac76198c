/-! THE RELATION OF THE TWO STATES -/
theorem cB_congr {f f' : Nat → Int} : ∀ {m : Nat}, (∀ y, y < m → f' y = f y) → cB f' m = cB f m
  | 0, _ => rfl
  | m + 1, h => by rw [cB_s, cB_s, cB_congr (fun y hy => h y (by omega)), h m (by omega)]
theorem cB_add {f f' : Nat → Int} {p : Nat} (h0 : ¬ f p = (p : Int)) (h1 : f' p = (p : Int)) (hx : ∀ y, y ≠ p → y < 20 → (f' y = (y : Int) ↔ f y = (y : Int))) : ∀ m, m ≤ 20 → cB f' m = cB f m + if p < m then 1 else 0
  | 0, _ => by rw [if_neg (by omega)]; rfl
  | m + 1, hm => by
    rw [cB_s, cB_s, cB_add h0 h1 hx m (by omega)]
    by_cases e : m = p
    · subst e; rw [if_pos h1, if_neg h0, if_neg (by omega), if_pos (by omega)]
    · have := hx m e (by omega)
      by_cases q : f m = (m : Int)
      · rw [if_pos q, if_pos (this.mpr q)]; (repeat' split) <;> omega
      · rw [if_neg q, if_neg (fun z => q (this.mp z))]; (repeat' split) <;> omega
/-- a street that stands well -/
def WF (g pl so len : Nat → Int) (n k : Nat) : Prop :=
  (∀ y, y < 20 → (pl y = -1 ∧ so y = -1) ∨ ∃ p : Nat, p < 20 ∧ pl y = p ∧ pl p = p) ∧
  ∀ p : Nat, p < 20 → pl p = p → ∃ s L : Nat, s < k ∧ so p = s ∧ len s = L ∧ 1 ≤ L ∧ p + L ≤ n ∧ ∀ j, j < 20 → ((p ≤ j ∧ j < p + L) ↔ pl j = p) ∧ ((p ≤ j ∧ j < p + L) → so j = s ∧ g j = 0)
theorem WF_congr {g pl so len g' pl' so' len' : Nat → Int} {n k : Nat} (hg : ∀ y, y < 20 → g' y = g y) (hp : ∀ y, y < 20 → pl' y = pl y) (hs : ∀ y, y < 20 → so' y = so y) (hl : ∀ s, s < k → len' s = len s) (w : WF g pl so len n k) : WF g' pl' so' len' n k := by
  refine ⟨fun y hy => ?_, fun p hp2 hb => ?_⟩
  · rcases w.1 y hy with q | ⟨p, a, b, c⟩
    · exact Or.inl ⟨by rw [hp y hy]; exact q.1, by rw [hs y hy]; exact q.2⟩
    · exact Or.inr ⟨p, a, by rw [hp y hy]; exact b, by rw [hp p a]; exact c⟩
  · rw [hp p hp2] at hb
    obtain ⟨s, L, a1, a2, a3, a4, a5, a6⟩ := w.2 p hp2 hb
    refine ⟨s, L, a1, by rw [hs p hp2]; exact a2, by rw [hl s a1]; exact a3, a4, a5, fun j hj => ?_⟩
    rw [hp j hj, hs j hj, hg j hj]; exact a6 j hj
theorem WF_enter {g pl so pl' so' len : Nat → Int} {n k p L s : Nat} (hn : n ≤ 20) (w : WF g pl so len n k) (hL : 1 ≤ L) (hp : p + L ≤ n) (hs : s < k) (hl : len s = L) (hf : ∀ j, p ≤ j → j < p + L → g j = 0 ∧ pl j = -1) (e1 : ∀ j, pl' j = if p ≤ j ∧ j < p + L then (p : Int) else pl j) (e2 : ∀ j, so' j = if p ≤ j ∧ j < p + L then (s : Int) else so j) : WF g pl' so' len n k := by
  have ep : pl' p = p := by rw [e1, if_pos (by omega)]
  refine ⟨fun y hy => ?_, fun q hq hb => ?_⟩
  · by_cases r : p ≤ y ∧ y < p + L
    · exact Or.inr ⟨p, by omega, by rw [e1, if_pos r], ep⟩
    · rw [e1 y, if_neg r, e2 y, if_neg r]
      rcases w.1 y hy with z | ⟨t, a, b, c⟩
      · exact Or.inl z
      · refine Or.inr ⟨t, a, b, ?_⟩
        rw [e1 t]
        by_cases r2 : p ≤ t ∧ t < p + L
        · have := (hf t r2.1 r2.2).2; omega
        · rw [if_neg r2]; exact c
  · by_cases r : p ≤ q ∧ q < p + L
    · have eq : q = p := by rw [e1, if_pos r] at hb; omega
      subst eq
      refine ⟨s, L, hs, by rw [e2, if_pos r], hl, hL, hp, fun j hj => ⟨⟨fun z => by rw [e1, if_pos z], fun z => ?_⟩, fun z => ⟨by rw [e2, if_pos z], (hf j z.1 z.2).1⟩⟩⟩
      by_cases r2 : q ≤ j ∧ j < q + L
      · exact r2
      · rw [e1, if_neg r2] at z
        rcases w.1 j hj with y | ⟨t, a, b, c⟩
        · omega
        · have et : t = q := by omega
          subst et
          have := (hf t (by omega) (by omega)).2; omega
    · rw [e1, if_neg r] at hb
      obtain ⟨s', L', a1, a2, a3, a4, a5, a6⟩ := w.2 q hq hb
      refine ⟨s', L', a1, by rw [e2, if_neg r]; exact a2, a3, a4, a5, fun j hj => ?_⟩
      have a7 := a6 j hj
      by_cases r2 : p ≤ j ∧ j < p + L
      · have f1 := hf j r2.1 r2.2
        rw [e1, if_pos r2, e2, if_pos r2]
        have hnr : ¬ (q ≤ j ∧ j < q + L') := fun z => by have := a7.1.mp z; omega
        exact ⟨⟨fun z => absurd z hnr, fun z => absurd (show p ≤ q ∧ q < p + L by omega) r⟩, fun z => absurd z hnr⟩
      · rw [e1, if_neg r2, e2, if_neg r2]; exact a7
theorem cB_enter {pl pl' : Nat → Int} {n p L : Nat} (hn : n ≤ 20) (hL : 1 ≤ L) (hp : p + L ≤ n) (hf : ∀ j, p ≤ j → j < p + L → pl j = -1) (e1 : ∀ j, pl' j = if p ≤ j ∧ j < p + L then (p : Int) else pl j) : cB pl' 20 = cB pl 20 + 1 := by
  have h := cB_add (f := pl) (f' := pl') (p := p) (by rw [hf p (by omega) (by omega)]; omega) (by rw [e1, if_pos (by omega)]) (fun y hy hy2 => by
    rw [e1]
    by_cases r : p ≤ y ∧ y < p + L
    · rw [if_pos r, hf y r.1 r.2]; omega
    · rw [if_neg r]) 20 (by omega)
  rw [h, if_pos (by omega)]
theorem WF_exit {g pl so pl' so' len : Nat → Int} {n k p : Nat} (w : WF g pl so len n k) (hp : p < 20) (hb : pl p = p) (e1 : ∀ j, pl' j = if p ≤ j ∧ j < 20 ∧ pl j = p then -1 else pl j) (e2 : ∀ j, so' j = if p ≤ j ∧ j < 20 ∧ pl j = p then -1 else so j) : WF g pl' so' len n k := by
  obtain ⟨s0, L0, _, _, _, _, _, b6⟩ := w.2 p hp hb
  refine ⟨fun y hy => ?_, fun q hq hq2 => ?_⟩
  · by_cases r : p ≤ y ∧ y < 20 ∧ pl y = p
    · exact Or.inl ⟨by rw [e1, if_pos r], by rw [e2, if_pos r]⟩
    · rw [e1 y, if_neg r, e2 y, if_neg r]
      rcases w.1 y hy with z | ⟨t, a, b, c⟩
      · exact Or.inl z
      · refine Or.inr ⟨t, a, b, ?_⟩
        rw [e1, if_neg (fun z => ?_)]
        · exact c
        · have et : t = p := by omega
          subst et
          have := (b6 y hy).1.mpr b
          exact r ⟨this.1, hy, b⟩
  · rw [e1] at hq2
    by_cases r : p ≤ q ∧ q < 20 ∧ pl q = p
    · rw [if_pos r] at hq2; omega
    · rw [if_neg r] at hq2
      obtain ⟨s, L, a1, a2, a3, a4, a5, a6⟩ := w.2 q hq hq2
      refine ⟨s, L, a1, by rw [e2, if_neg r]; exact a2, a3, a4, a5, fun j hj => ?_⟩
      have a7 := a6 j hj
      by_cases r2 : p ≤ j ∧ j < 20 ∧ pl j = p
      · rw [e1, if_pos r2, e2, if_pos r2]
        have hnr : ¬ (q ≤ j ∧ j < q + L) := fun z => by
          have := a7.1.mp z
          exact r ⟨by omega, hq, by omega⟩
        exact ⟨⟨fun z => absurd z hnr, fun z => by omega⟩, fun z => absurd z hnr⟩
      · rw [e1, if_neg r2, e2, if_neg r2]; exact a7
theorem cB_exit {pl pl' : Nat → Int} {p : Nat} (hp : p < 20) (hb : pl p = p) (e1 : ∀ j, pl' j = if p ≤ j ∧ j < 20 ∧ pl j = p then -1 else pl j) : cB pl 20 = cB pl' 20 + 1 := by
  have h := cB_add (f := pl') (f' := pl) (p := p) (by rw [e1, if_pos (by omega)]; omega) hb (fun y hy hy2 => by
    rw [e1]
    by_cases r : p ≤ y ∧ y < 20 ∧ pl y = p
    · rw [if_pos r]; omega
    · rw [if_neg r]) 20 (by omega)
  rw [h, if_pos hp]
/-- the class's street at r (in hc) is the model's row, sorts, tallies -/
def SR (hc : ab_H) (n k r : Nat) (row sa ta : Nat → Int) : Prop :=
  WF (zv hc 18) (zv hc (r + 1)) (zv hc (r + 2)) (zv hc 16) n k ∧ zv hc r 2 = (cB (zv hc (r + 1)) 20 : Int) ∧ (∀ y, y < 20 → 0 < n → row y = if zv hc 18 y = 0 then zv hc (r + 1) y else -2) ∧ (∀ y, y < 20 → 0 < n → sa y = if zv hc (r + 1) y = (y : Int) then zv hc (r + 2) y else -1) ∧ ta 0 = zv hc r 3 ∧ ta 1 = zv hc r 4 ∧ ta 2 = zv hc r 5
theorem SR_move {hc hc' : ab_H} {n k r r' : Nat} {row sa ta row' sa' ta' : Nat → Int} (g : ∀ y, y < 20 → zv hc' 18 y = zv hc 18 y) (l : ∀ s, s < k → zv hc' 16 s = zv hc 16 s) (h1 : ∀ y, y < 20 → zv hc' (r' + 1) y = zv hc (r + 1) y) (h2 : ∀ y, y < 20 → zv hc' (r' + 2) y = zv hc (r + 2) y) (h3 : ∀ j, 2 ≤ j → j ≤ 5 → zv hc' r' j = zv hc r j) (m1 : ∀ y, y < 20 → row' y = row y) (m2 : ∀ y, y < 20 → sa' y = sa y) (m3 : ∀ y, y < 3 → ta' y = ta y) (s : SR hc n k r row sa ta) : SR hc' n k r' row' sa' ta' := by
  obtain ⟨a, b, c, d, e, f, i⟩ := s
  refine ⟨WF_congr g h1 h2 l a, ?_, fun y hy h0 => ?_, fun y hy h0 => ?_, ?_, ?_, ?_⟩
  · rw [h3 2 (by omega) (by omega), cB_congr h1]; exact b
  · rw [m1 y hy, c y hy h0, g y hy, h1 y hy]
  · rw [m2 y hy, d y hy h0, h1 y hy, h2 y hy]
  · rw [m3 0 (by omega), h3 3 (by omega) (by omega)]; exact e
  · rw [m3 1 (by omega), h3 4 (by omega) (by omega)]; exact f
  · rw [m3 2 (by omega), h3 5 (by omega) (by omega)]; exact i
/-- what of the class's cells the relation speaks of -/
def relC (b j : Nat) : Prop := (b = 0 ∧ (j = 5 ∨ j = 6 ∨ j = 10)) ∨ (b = 1 ∧ j = 1) ∨ b = 2 ∨ (15 ≤ b ∧ b ≤ 18) ∨ (20 ≤ b ∧ b < 36 ∧ b % 4 ≠ 3 ∧ (b % 4 = 0 → j = 3)) ∨ (36 ≤ b ∧ b ≤ 165)
def relM (b j : Nat) : Prop := (b = 200 ∧ (j = 6 ∨ j = 7 ∨ j = 24 ∨ j = 32 ∨ j = 33 ∨ j = 37 ∨ j = 54)) ∨ b = 201 ∨ b = 202 ∨ b = 203 ∨ b = 205 ∨ b = 207 ∨ (211 ≤ b ∧ b ≤ 216) ∨ (225 ≤ b ∧ b ≤ 227)
def eqC (h h' : ab_H) : Prop := ∀ b j, relC b j → zv h' b j = zv h b j
def eqM (h h' : ab_H) : Prop := ∀ b j, relM b j → zv h' b j = zv h b j
theorem eqC.refl {h : ab_H} : eqC h h := fun _ _ _ => rfl
theorem eqM.refl {h : ab_H} : eqM h h := fun _ _ _ => rfl
theorem eqC.trans {a b c : ab_H} (x : eqC a b) (y : eqC b c) : eqC a c := fun p q r => (y p q r).trans (x p q r)
theorem eqM.trans {a b c : ab_H} (x : eqM a b) (y : eqM b c) : eqM a c := fun p q r => (y p q r).trans (x p q r)
def okC (b : Nat) : Bool := (3 ≤ b && b ≤ 14) || 166 ≤ b
def okM (b : Nat) : Bool := b < 200 || b == 204 || b == 206 || (208 ≤ b && b ≤ 210) || (217 ≤ b && b ≤ 224)
theorem eqC_sm {l : List Nat} {h h' : ab_H} (s : sm l h h') (hl : l.all okC = true) : eqC h h' := fun b j r => s.1 b j (fun q => by
  have := List.all_eq_true.mp hl b q
  simp only [okC, Bool.or_eq_true, Bool.and_eq_true, decide_eq_true_eq] at this
  unfold relC at r
  omega)
theorem eqM_sm {l : List Nat} {h h' : ab_H} (s : sm l h h') (hl : l.all okM = true) : eqM h h' := fun b j r => s.1 b j (fun q => by
  have := List.all_eq_true.mp hl b q
  simp only [okM, Bool.or_eq_true, Bool.and_eq_true, decide_eq_true_eq, beq_iff_eq] at this
  unfold relM at r
  omega)
theorem eqM_zp {h : ab_H} {a k : Nat} {z : Int} (hr : ¬ relM a k) : eqM h (zp h a k z) := fun b j r => zv_zp_ne (fun q => hr (q.1 ▸ q.2 ▸ r))
theorem eqC_zp {h : ab_H} {a k : Nat} {z : Int} (hr : ¬ relC a k) : eqC h (zp h a k z) := fun b j r => zv_zp_ne (fun q => hr (q.1 ▸ q.2 ▸ r))
theorem eqM_9 {h h9 : ab_H} (e : zp h 200 0 0 = h9) : eqM h h9 := e ▸ eqM_zp (by unfold relM; omega)
theorem eqC_9 {h h9 : ab_H} (e : zp h 200 0 0 = h9) : eqC h h9 := e ▸ eqC_zp (by unfold relC; omega)
theorem eqC_wp {h : ab_H} {a k : Nat} {z : Int} : eqC h (wp h a k z) := fun _ _ _ => rfl
theorem eqM_wp {h : ab_H} {a k : Nat} {z : Int} : eqM h (wp h a k z) := fun _ _ _ => rfl
/-- the plans agree -/
def RP (n k : Nat) (hc hm : ab_H) : Prop := n ≤ 20 ∧ k ≤ 4 ∧ (n = 0 ↔ k = 0) ∧ zv hc 15 0 = n ∧ zv hm 200 32 = n ∧ zv hc 15 3 = k ∧ zv hm 200 24 = k ∧ (∀ i, i < k → zv hm 207 (2 * i) = zv hc 16 i ∧ zv hm 207 (2 * i + 1) = zv hc 17 i ∧ (1 ≤ zv hc 16 i ∧ zv hc 16 i ≤ 9) ∧ (1 ≤ zv hc 17 i ∧ zv hc 17 i ≤ 9)) ∧ (0 < k → zv hm 205 1 = zv hc 15 1 ∧ zv hm 205 2 = zv hc 15 2) ∧ (k = 0 → zv hc 15 1 = 0 ∧ zv hc 15 2 = 0) ∧ (0 ≤ zv hc 15 1 ∧ zv hc 15 1 ≤ 100) ∧ (0 ≤ zv hc 15 2 ∧ zv hc 15 2 ≤ 99)
/-- the tapes agree -/
def RT (hc hm : ab_H) : Prop := ∃ z : Nat, z ≤ 160 ∧ zv hc 1 1 = z ∧ zv hm 200 6 = z ∧ ∀ i, i < z → (1 ≤ zv hc 2 i ∧ zv hc 2 i ≤ 255) ∧ zv hm 201 i = sby (zv hc 2 i)
/-- the images agree -/
def RI (n k : Nat) (hc hm : ab_H) : Prop := zv hc 0 10 = zv hm 200 54 ∧ (¬ zv hm 200 54 = 0 → SR hc n k 42 (zv hm 225) (zv hm 226) (zv hm 227))
/-- the acts put by agree -/
def RC (n k : Nat) (hc hm : ab_H) : Prop := ∃ a q : Nat, a ≤ 40 ∧ q < 40 ∧ zv hc 165 2 = a ∧ zv hm 200 37 = a ∧ zv hc 165 1 = q ∧ ∀ i, i < a → SR hc n k (45 + 3 * ((q + 40 - a + i) % 40)) (fun y => zv hm 214 (20 * i + y)) (fun y => zv hm 215 (20 * i + y)) (fun y => zv hm 216 (3 * i + y))
def RN (hc : ab_H) : Prop := (∀ y, y < 20 → zv hc 40 y = -1 ∧ zv hc 41 y = -1) ∧ ∀ j, 2 ≤ j → j ≤ 5 → zv hc 39 j = 0
def RS (n k : Nat) (hc hm : ab_H) : Prop := SR hc n k 36 (zv hm 211) (zv hm 212) (zv hm 213)
def RA (n k : Nat) (hc hm : ab_H) : Prop := RP n k hc hm ∧ RT hc hm ∧ RI n k hc hm ∧ RC n k hc hm ∧ RN hc ∧ RS n k hc hm
def eqD (D : Nat → Nat → Prop) (h h' : ab_H) : Prop := ∀ b j, D b j → zv h' b j = zv h b j
theorem eqD_sm {D : Nat → Nat → Prop} {l : List Nat} {h h' : ab_H} (s : sm l h h') (hl : ∀ b j, D b j → b ∉ l) : eqD D h h' := fun b j r => s.1 b j (hl b j r)
theorem eqD.trans {D : Nat → Nat → Prop} {a b c : ab_H} (x : eqD D a b) (y : eqD D b c) : eqD D a c := fun p q r => (y p q r).trans (x p q r)
def cP (b _j : Nat) : Prop := 15 ≤ b ∧ b ≤ 18
def mP (b j : Nat) : Prop := (b = 200 ∧ (j = 24 ∨ j = 32)) ∨ b = 205 ∨ b = 207
def cT (b j : Nat) : Prop := (b = 1 ∧ j = 1) ∨ b = 2
def mTp (b j : Nat) : Prop := (b = 200 ∧ j = 6) ∨ b = 201
def cI (b j : Nat) : Prop := (b = 0 ∧ j = 10) ∨ b = 16 ∨ b = 18 ∨ (42 ≤ b ∧ b ≤ 44)
def mI (b j : Nat) : Prop := (b = 200 ∧ j = 54) ∨ (225 ≤ b ∧ b ≤ 227)
def cC (b _j : Nat) : Prop := b = 16 ∨ b = 18 ∨ (45 ≤ b ∧ b ≤ 165)
def mC (b j : Nat) : Prop := (b = 200 ∧ j = 37) ∨ (214 ≤ b ∧ b ≤ 216)
def cN (b _j : Nat) : Prop := 39 ≤ b ∧ b ≤ 41
def cS (b _j : Nat) : Prop := b = 16 ∨ b = 18 ∨ (36 ≤ b ∧ b ≤ 38)
def mS (b _j : Nat) : Prop := 211 ≤ b ∧ b ≤ 213
def cR (r b : Nat) : Prop := b = 16 ∨ b = 18 ∨ b = r ∨ b = r + 1 ∨ b = r + 2
theorem SR_eq {hc hc' : ab_H} {n k r : Nat} {row sa ta row' sa' ta' : Nat → Int} (e : eqD (fun b _ => cR r b) hc hc') (m1 : ∀ y, y < 20 → row' y = row y) (m2 : ∀ y, y < 20 → sa' y = sa y) (m3 : ∀ y, y < 3 → ta' y = ta y) (s : SR hc n k r row sa ta) : SR hc' n k r row' sa' ta' :=
  SR_move (fun y _ => e 18 y (by unfold cR; omega)) (fun s _ => e 16 s (by unfold cR; omega)) (fun y _ => e _ y (by unfold cR; omega)) (fun y _ => e _ y (by unfold cR; omega)) (fun j _ _ => e _ j (by unfold cR; omega)) m1 m2 m3 s
theorem RP_eq {n k : Nat} {hc hm hc' hm' : ab_H} (c : eqD cP hc hc') (m : eqD mP hm hm') (r : RP n k hc hm) : RP n k hc' hm' := by
  obtain ⟨r1, r2, r3, r4, r5, r6, r7, r8, r9, r10, r11, r12⟩ := r
  have c15 : ∀ j, zv hc' 15 j = zv hc 15 j := fun j => c 15 j (by unfold cP; omega)
  have m205 : ∀ j, zv hm' 205 j = zv hm 205 j := fun j => m 205 j (by unfold mP; omega)
  refine ⟨r1, r2, r3, by rw [c15]; exact r4, by rw [m 200 32 (by unfold mP; omega)]; exact r5, by rw [c15]; exact r6, by rw [m 200 24 (by unfold mP; omega)]; exact r7, fun i hi => ?_, fun q => ?_, fun q => ?_, ?_, ?_⟩
  · rw [m 207 _ (by unfold mP; omega), m 207 _ (by unfold mP; omega), c 16 i (by unfold cP; omega), c 17 i (by unfold cP; omega)]; exact r8 i hi
  · rw [m205, m205, c15, c15]; exact r9 q
  · rw [c15, c15]; exact r10 q
  · rw [c15]; exact r11
  · rw [c15]; exact r12
theorem RT_eq {hc hm hc' hm' : ab_H} (c : eqD cT hc hc') (m : eqD mTp hm hm') (r : RT hc hm) : RT hc' hm' := by
  obtain ⟨z, a, b, e, f⟩ := r
  refine ⟨z, a, by rw [c 1 1 (by unfold cT; omega)]; exact b, by rw [m 200 6 (by unfold mTp; omega)]; exact e, fun i hi => ?_⟩
  rw [c 2 i (by unfold cT; omega), m 201 i (by unfold mTp; omega)]; exact f i hi
theorem RI_eq {n k : Nat} {hc hm hc' hm' : ab_H} (c : eqD cI hc hc') (m : eqD mI hm hm') (r : RI n k hc hm) : RI n k hc' hm' := by
  obtain ⟨a, b⟩ := r
  refine ⟨by rw [c 0 10 (by unfold cI; omega), m 200 54 (by unfold mI; omega)]; exact a, fun q => ?_⟩
  rw [m 200 54 (by unfold mI; omega)] at q
  exact SR_eq (fun b j q => c b j (by unfold cR at q; unfold cI; omega)) (fun y _ => m _ y (by unfold mI; omega)) (fun y _ => m _ y (by unfold mI; omega)) (fun y _ => m _ y (by unfold mI; omega)) (b q)
theorem RC_eq {n k : Nat} {hc hm hc' hm' : ab_H} (c : eqD cC hc hc') (m : eqD mC hm hm') (r : RC n k hc hm) : RC n k hc' hm' := by
  obtain ⟨a, q, b1, b2, b3, b4, b5, b6⟩ := r
  refine ⟨a, q, b1, b2, by rw [c 165 2 (by unfold cC; omega)]; exact b3, by rw [m 200 37 (by unfold mC; omega)]; exact b4, by rw [c 165 1 (by unfold cC; omega)]; exact b5, fun i hi => ?_⟩
  exact SR_eq (fun b j q => c b j (by unfold cR at q; unfold cC; omega)) (fun y _ => m _ _ (by unfold mC; omega)) (fun y _ => m _ _ (by unfold mC; omega)) (fun y _ => m _ _ (by unfold mC; omega)) (b6 i hi)
theorem RN_eq {hc hc' : ab_H} (c : eqD cN hc hc') (r : RN hc) : RN hc' := ⟨fun y hy => by rw [c 40 y (by unfold cN; omega), c 41 y (by unfold cN; omega)]; exact r.1 y hy, fun j a b => by rw [c 39 j (by unfold cN; omega)]; exact r.2 j a b⟩
theorem RS_eq {n k : Nat} {hc hm hc' hm' : ab_H} (c : eqD cS hc hc') (m : eqD mS hm hm') (r : RS n k hc hm) : RS n k hc' hm' :=
  SR_eq (fun b j q => c b j (by unfold cR at q; unfold cS; omega)) (fun y _ => m _ y (by unfold mS; omega)) (fun y _ => m _ y (by unfold mS; omega)) (fun y _ => m _ y (by unfold mS; omega)) r
theorem RA_eq {n k : Nat} {hc hm hc' hm' : ab_H} (c : eqC hc hc') (m : eqM hm hm') (r : RA n k hc hm) : RA n k hc' hm' :=
  ⟨RP_eq (fun b j q => c b j (by unfold cP at q; unfold relC; omega)) (fun b j q => m b j (by unfold mP at q; unfold relM; omega)) r.1, RT_eq (fun b j q => c b j (by unfold cT at q; unfold relC; omega)) (fun b j q => m b j (by unfold mTp at q; unfold relM; omega)) r.2.1, RI_eq (fun b j q => c b j (by unfold cI at q; unfold relC; omega)) (fun b j q => m b j (by unfold mI at q; unfold relM; omega)) r.2.2.1, RC_eq (fun b j q => c b j (by unfold cC at q; unfold relC; omega)) (fun b j q => m b j (by unfold mC at q; unfold relM; omega)) r.2.2.2.1, RN_eq (fun b j q => c b j (by unfold cN at q; unfold relC; omega)) r.2.2.2.2.1, RS_eq (fun b j q => c b j (by unfold cS at q; unfold relC; omega)) (fun b j q => m b j (by unfold mS at q; unfold relM; omega)) r.2.2.2.2.2⟩
/-- what is free is the same on both sides -/
theorem RA_fr {n k : Nat} {hc hm : ab_H} (r : RA n k hc hm) : cfr hc n = mfr hm n := by
  funext y
  refine Bool.eq_iff_iff.mpr ?_
  rw [cfr_iff]
  unfold mfr
  rw [decide_eq_true_iff]
  have hn := r.1.1
  by_cases hy : y < n
  · have h1 := r.2.2.2.2.2.2.2.1 y (by omega) (by omega)
    rw [h1]
    by_cases g : zv hc 18 y = 0
    · rw [if_pos g]; exact ⟨fun q => ⟨q.1, q.2.2⟩, fun q => ⟨q.1, g, q.2⟩⟩
    · rw [if_neg g]; exact ⟨fun q => absurd q.2.1 g, fun q => absurd q.2 (by omega)⟩
  · exact ⟨fun q => absurd q.1 hy, fun q => absurd q.1 hy⟩
