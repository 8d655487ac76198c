/-! HEARSE: cars pushed down and up, as pure rows -/
def glb (g : Nat → Bool) (n : Nat) (a b : Int) : Bool := decide (∀ k, k < (b - a).toNat → 0 ≤ a + (k : Int) ∧ a + (k : Int) < n ∧ g (a + (k : Int)).toNat = false)
theorem glb_iff {g : Nat → Bool} {n : Nat} {a b : Int} : glb g n a b = true ↔ ∀ y : Int, a ≤ y → y < b → 0 ≤ y ∧ y < n ∧ g y.toNat = false := by
  unfold glb
  rw [decide_eq_true_iff]
  constructor
  · intro h y h1 h2
    have := h (y - a).toNat (by omega)
    rw [show a + (((y - a).toNat : Nat) : Int) = y by omega] at this
    exact this
  · intro h k hk
    exact h _ (by omega) (by omega)
theorem glb_self {g : Nat → Bool} {n : Nat} {a : Int} : glb g n a a = true := glb_iff.mpr (fun y h1 h2 => by omega)
/-- the cars stand well: gates g, beginnings bg, lengths ln -/
def CX (g bg : Nat → Bool) (ln : Nat → Nat) (n : Nat) : Prop := ∀ c, c < 20 → bg c = true → 1 ≤ ln c ∧ ln c ≤ 9 ∧ c + ln c ≤ n ∧ (∀ y, c ≤ y → y < c + ln c → g y = false) ∧ ∀ c', c' < 20 → bg c' = true → c' < c → c' + ln c' ≤ c
def pD (bg ah : Nat → Bool) (ln : Nat → Nat) (gl : Int → Int → Bool) : Nat → Int → Int → Int → Option (Int × Int)
  | 0, _, a, b => some (a, b)
  | y + 1, lim, a, b => if bg y = true ∧ ah y = true then (if gl (min (y : Int) (lim - ln y)) y = true then pD bg ah ln gl y (min (y : Int) (lim - ln y)) (a + (y - min (y : Int) (lim - ln y))) (b + if min (y : Int) (lim - ln y) = y then 0 else 1) else none) else pD bg ah ln gl y lim a b
theorem pD_n {bg ah : Nat → Bool} {ln : Nat → Nat} {gl : Int → Int → Bool} {y : Nat} {lim a b : Int} (h : ¬ (bg y = true ∧ ah y = true)) : pD bg ah ln gl (y + 1) lim a b = pD bg ah ln gl y lim a b := by
  show (if _ then _ else _) = _; rw [if_neg h]
theorem pD_f {bg ah : Nat → Bool} {ln : Nat → Nat} {gl : Int → Int → Bool} {y : Nat} {lim a b : Int} (h : bg y = true ∧ ah y = true) (h2 : ¬ gl (min (y : Int) (lim - ln y)) y = true) : pD bg ah ln gl (y + 1) lim a b = none := by
  show (if _ then (if _ then _ else _) else _) = _; rw [if_pos h, if_neg h2]
theorem pD_t {bg ah : Nat → Bool} {ln : Nat → Nat} {gl : Int → Int → Bool} {y : Nat} {lim a b to : Int} (h : bg y = true ∧ ah y = true) (e : to = min (y : Int) (lim - ln y)) (h2 : gl to y = true) : pD bg ah ln gl (y + 1) lim a b = pD bg ah ln gl y to (a + (y - to)) (b + if to = y then 0 else 1) := by
  subst e
  show (if _ then (if _ then _ else _) else _) = _; rw [if_pos h, if_pos h2]
theorem pD_q {g bg ah : Nat → Bool} {ln : Nat → Nat} {n : Nat} {a b : Int} (cx : CX g bg ln n) : ∀ y, y ≤ 20 → ∀ lim : Int, (∀ z, z < y → bg z = true → (z : Int) + ln z ≤ lim) → pD bg ah ln (glb g n) y lim a b = some (a, b)
  | 0, _, _, _ => rfl
  | y + 1, hy, lim, h => by
    by_cases q : bg y = true ∧ ah y = true
    · have h1 := h y (by omega) q.1
      rw [pD_t (to := (y : Int)) q (by omega) glb_self, if_pos rfl, Int.sub_self, Int.add_zero, Int.add_zero]
      exact pD_q cx y (by omega) y (fun z hz hb => by have := (cx y (by omega) q.1).2.2.2.2 z (by omega) hb hz; omega)
    · rw [pD_n q]; exact pD_q cx y (by omega) lim (fun z hz => h z (by omega))
theorem pD_skip {bg ah : Nat → Bool} {ln : Nat → Nat} {gl : Int → Int → Bool} {a b lim : Int} {m : Nat} : ∀ n, m ≤ n → (∀ y, m ≤ y → y < n → ¬ (bg y = true ∧ ah y = true)) → pD bg ah ln gl n lim a b = pD bg ah ln gl m lim a b
  | 0, h, _ => by rw [show m = 0 by omega]
  | n + 1, h, f => by
    by_cases e : m = n + 1
    · rw [e]
    · rw [pD_n (f n (by omega) (by omega)), pD_skip n (by omega) (fun y a b => f y a (by omega))]
def pU2 (bg ah : Nat → Bool) (ln : Nat → Nat) (gl : Int → Int → Bool) (n : Nat) : Nat → Int → Int → Int → Option (Int × Int)
  | 0, _, a, b => some (a, b)
  | k + 1, lim, a, b => if bg (n - (k + 1)) = true ∧ ¬ ah (n - (k + 1)) = true then (if gl (((n - (k + 1) : Nat) : Int) + ln (n - (k + 1))) (max ((n - (k + 1) : Nat) : Int) lim + ln (n - (k + 1))) = true then pU2 bg ah ln gl n k (max ((n - (k + 1) : Nat) : Int) lim + ln (n - (k + 1))) (a + (max ((n - (k + 1) : Nat) : Int) lim - ((n - (k + 1) : Nat) : Int))) (b + if max ((n - (k + 1) : Nat) : Int) lim = ((n - (k + 1) : Nat) : Int) then 0 else 1) else none) else pU2 bg ah ln gl n k lim a b
theorem pU2_n {bg ah : Nat → Bool} {ln : Nat → Nat} {gl : Int → Int → Bool} {n y : Nat} {lim a b : Int} (hy : y < n) (h : ¬ (bg y = true ∧ ¬ ah y = true)) : pU2 bg ah ln gl n (n - y) lim a b = pU2 bg ah ln gl n (n - (y + 1)) lim a b := by
  obtain ⟨k, hk⟩ : ∃ k, n - y = k + 1 := ⟨n - y - 1, by omega⟩
  rw [hk, show n - (y + 1) = k by omega]
  show (if _ then _ else _) = _
  rw [show n - (k + 1) = y by omega, if_neg h]
theorem pU2_f {bg ah : Nat → Bool} {ln : Nat → Nat} {gl : Int → Int → Bool} {n y : Nat} {lim a b : Int} (hy : y < n) (h : bg y = true ∧ ¬ ah y = true) (h2 : ¬ gl ((y : Int) + ln y) (max (y : Int) lim + ln y) = true) : pU2 bg ah ln gl n (n - y) lim a b = none := by
  obtain ⟨k, hk⟩ : ∃ k, n - y = k + 1 := ⟨n - y - 1, by omega⟩
  rw [hk]
  show (if _ then (if _ then _ else _) else _) = _
  rw [show n - (k + 1) = y by omega, if_pos h, if_neg h2]
theorem pU2_t {bg ah : Nat → Bool} {ln : Nat → Nat} {gl : Int → Int → Bool} {n y : Nat} {lim a b to : Int} (hy : y < n) (h : bg y = true ∧ ¬ ah y = true) (e : to = max (y : Int) lim) (h2 : gl ((y : Int) + ln y) (to + ln y) = true) : pU2 bg ah ln gl n (n - y) lim a b = pU2 bg ah ln gl n (n - (y + 1)) (to + ln y) (a + (to - y)) (b + if to = y then 0 else 1) := by
  subst e
  obtain ⟨k, hk⟩ : ∃ k, n - y = k + 1 := ⟨n - y - 1, by omega⟩
  rw [hk, show n - (y + 1) = k by omega]
  show (if _ then (if _ then _ else _) else _) = _
  rw [show n - (k + 1) = y by omega, if_pos h, if_pos h2]
theorem pU2_q {g bg ah : Nat → Bool} {ln : Nat → Nat} {n : Nat} {a b : Int} (hn : n ≤ 20) (cx : CX g bg ln n) : ∀ k, k ≤ n → ∀ lim : Int, (∀ z, n - k ≤ z → z < n → bg z = true → lim ≤ z) → pU2 bg ah ln (glb g n) n k lim a b = some (a, b)
  | 0, _, _, _ => rfl
  | k + 1, hk, lim, h => by
    obtain ⟨y, hy⟩ : ∃ y, y = n - (k + 1) := ⟨_, rfl⟩
    have e1 : k + 1 = n - y := by omega
    have e2 : k = n - (y + 1) := by omega
    rw [e1]
    by_cases q : bg y = true ∧ ¬ ah y = true
    · have h1 := h y (by omega) (by omega) q.1
      rw [pU2_t (to := (y : Int)) (by omega) q (by omega) glb_self, if_pos rfl, Int.sub_self, Int.add_zero, Int.add_zero, ← e2]
      exact pU2_q hn cx k (by omega) _ (fun z hz hz2 hb => by have := (cx z (by omega) hb).2.2.2.2 y (by omega) q.1 (by omega); omega)
    · rw [pU2_n (by omega) q, ← e2]; exact pU2_q hn cx k (by omega) lim (fun z hz => h z (by omega))
theorem pU2_skip {bg ah : Nat → Bool} {ln : Nat → Nat} {gl : Int → Int → Bool} {n : Nat} {a b lim : Int} : ∀ m, m ≤ n → (∀ y, y < m → ¬ (bg y = true ∧ ¬ ah y = true)) → pU2 bg ah ln gl n n lim a b = pU2 bg ah ln gl n (n - m) lim a b
  | 0, _, _ => rfl
  | m + 1, h, f => by rw [pU2_skip m (by omega) (fun y hy => f y (by omega)), pU2_n (by omega) (f m (by omega))]
def ahd (ln : Nat → Nat) (p l : Nat) (y : Nat) : Bool := decide (2 * (y : Int) + ln y < 2 * (p : Int) + l)
theorem ahd_iff {ln : Nat → Nat} {p l y : Nat} : ahd ln p l y = true ↔ 2 * (y : Int) + ln y < 2 * (p : Int) + l := by unfold ahd; exact decide_eq_true_iff
/-- what is moved if one of length l gets in at p -/
def hGet (g bg : Nat → Bool) (ln : Nat → Nat) (n l p : Nat) : Option (Int × Int) := if glb g n p ((p : Int) + l) = true then (match pD bg (ahd ln p l) ln (glb g n) n p 0 0 with | none => none | some (a, b) => pU2 bg (ahd ln p l) ln (glb g n) n n ((p : Int) + l) a b) else none
theorem hGet_n {g bg : Nat → Bool} {ln : Nat → Nat} {n l p : Nat} (h : ¬ glb g n p ((p : Int) + l) = true) : hGet g bg ln n l p = none := if_neg h
theorem hGet_d {g bg : Nat → Bool} {ln : Nat → Nat} {n l p : Nat} (h : glb g n p ((p : Int) + l) = true) (h2 : pD bg (ahd ln p l) ln (glb g n) n p 0 0 = none) : hGet g bg ln n l p = none := by
  unfold hGet; rw [if_pos h, h2]
theorem hGet_u {g bg : Nat → Bool} {ln : Nat → Nat} {n l p : Nat} {a b : Int} (h : glb g n p ((p : Int) + l) = true) (h2 : pD bg (ahd ln p l) ln (glb g n) n p 0 0 = some (a, b)) : hGet g bg ln n l p = pU2 bg (ahd ln p l) ln (glb g n) n n ((p : Int) + l) a b := by
  unfold hGet; rw [if_pos h, h2]
/-- the best so far: yards, cars, place -/
def hBst (g bg : Nat → Bool) (ln : Nat → Nat) (n l : Nat) : Nat → Int × Int × Int
  | 0 => (-1, -1, -1)
  | p + 1 => match hGet g bg ln n l p with
    | none => hBst g bg ln n l p
    | some (a, b) => if (hBst g bg ln n l p).2.2 = -1 ∨ a < (hBst g bg ln n l p).1 then (a, b, (p : Int)) else hBst g bg ln n l p
theorem hBst_n {g bg : Nat → Bool} {ln : Nat → Nat} {n l p : Nat} (h : hGet g bg ln n l p = none) : hBst g bg ln n l (p + 1) = hBst g bg ln n l p := by
  show (match hGet g bg ln n l p with | none => _ | some (a, b) => _) = _; rw [h]
theorem hBst_t {g bg : Nat → Bool} {ln : Nat → Nat} {n l p : Nat} {a b : Int} (h : hGet g bg ln n l p = some (a, b)) (h2 : (hBst g bg ln n l p).2.2 = -1 ∨ a < (hBst g bg ln n l p).1) : hBst g bg ln n l (p + 1) = (a, b, (p : Int)) := by
  show (match hGet g bg ln n l p with | none => _ | some (a, b) => _) = _; rw [h]; exact if_pos h2
theorem hBst_f {g bg : Nat → Bool} {ln : Nat → Nat} {n l p : Nat} {a b : Int} (h : hGet g bg ln n l p = some (a, b)) (h2 : ¬ ((hBst g bg ln n l p).2.2 = -1 ∨ a < (hBst g bg ln n l p).1)) : hBst g bg ln n l (p + 1) = hBst g bg ln n l p := by
  show (match hGet g bg ln n l p with | none => _ | some (a, b) => _) = _; rw [h]; exact if_neg h2
theorem hBst_b {g bg : Nat → Bool} {ln : Nat → Nat} {n l : Nat} : ∀ p, -1 ≤ (hBst g bg ln n l p).2.2 ∧ (hBst g bg ln n l p).2.2 < p
  | 0 => by show -1 ≤ (-1 : Int) ∧ (-1 : Int) < ((0 : Nat) : Int); omega
  | p + 1 => by
    have a := hBst_b (g := g) (bg := bg) (ln := ln) (n := n) (l := l) p
    cases h : hGet g bg ln n l p with
    | none => rw [hBst_n h]; omega
    | some x =>
      by_cases h2 : (hBst g bg ln n l p).2.2 = -1 ∨ x.1 < (hBst g bg ln n l p).1
      · rw [hBst_t (a := x.1) (b := x.2) h h2]; show -1 ≤ (p : Int) ∧ (p : Int) < ((p + 1 : Nat) : Int); omega
      · rw [hBst_f (a := x.1) (b := x.2) h h2]; omega
theorem hBst_end {g bg : Nat → Bool} {ln : Nat → Nat} {n l : Nat} (hl : 1 ≤ l) : ∀ p, n + 1 - l ≤ p → hBst g bg ln n l p = hBst g bg ln n l (n + 1 - l)
  | 0, h => by rw [show n + 1 - l = 0 by omega]
  | p + 1, h => by
    by_cases e : n + 1 - l = p + 1
    · rw [e]
    · rw [hBst_n (hGet_n (fun q => by have := glb_iff.mp q ((p : Int) + l - 1) (by omega) (by omega); omega)), hBst_end hl p (by omega)]
