/-! LIKELY: sums of products, the table of parts -/
theorem sT_mono {f g : Nat → Int} : ∀ n, (∀ i, i < n → f i ≤ g i) → sT f n ≤ sT g n
  | 0, _ => Int.le_refl 0
  | n + 1, h => by rw [sT_s, sT_s]; have := sT_mono n (fun i hi => h i (by omega)); have := h n (by omega); omega
theorem sT_nn {f : Nat → Int} : ∀ n, (∀ i, i < n → 0 ≤ f i) → 0 ≤ sT f n
  | 0, _ => Int.le_refl 0
  | n + 1, h => by rw [sT_s]; have := sT_nn n (fun i hi => h i (by omega)); have := h n (by omega); omega
theorem sT_len {f : Nat → Int} {m : Nat} : ∀ n, m ≤ n → (∀ i, i < n → 0 ≤ f i) → sT f m ≤ sT f n
  | 0, h, _ => by rw [show m = 0 by omega]; exact Int.le_refl _
  | n + 1, h, g => by
    by_cases e : m = n + 1
    · rw [e]; exact Int.le_refl _
    · have := sT_len (f := f) (m := m) n (by omega) (fun i hi => g i (by omega))
      have := g n (by omega)
      rw [sT_s]; omega
theorem sT_ge {f : Nat → Int} {i : Nat} : ∀ n, i < n → (∀ i, i < n → 0 ≤ f i) → f i ≤ sT f n
  | 0, h, _ => absurd h (by omega)
  | n + 1, h, g => by
    have g0 := sT_nn (f := f) n (fun i hi => g i (by omega))
    by_cases e : i = n
    · subst e; rw [sT_s]; omega
    · have := sT_ge (f := f) n (show i < n by omega) (fun i hi => g i (by omega))
      have := g n (by omega)
      rw [sT_s]; omega
theorem sT_add {f g : Nat → Int} : ∀ n, sT (fun i => f i + g i) n = sT f n + sT g n
  | 0 => rfl
  | n + 1 => by rw [sT_s, sT_s, sT_s, sT_add n]; omega
theorem sT_zero : ∀ n, sT (fun _ => 0) n = 0
  | 0 => rfl
  | n + 1 => by rw [sT_s, sT_zero n]; rfl
theorem sT_swap {f : Nat → Nat → Int} {m : Nat} : ∀ n, sT (fun k => sT (fun i => f k i) m) n = sT (fun i => sT (fun k => f k i) n) m
  | 0 => (sT_zero m).symm
  | n + 1 => by
    rw [sT_s, sT_swap n, ← sT_add]
    exact sT_congr (fun i _ => by rw [sT_s])
theorem sT_shift {g : Nat → Int} {c : Nat} : ∀ n, sT (fun k => if c ≤ k then g (k - c) else 0) n = sT g (n - c)
  | 0 => by rw [Nat.zero_sub]; rfl
  | n + 1 => by
    rw [sT_s, sT_shift n]
    by_cases e : c ≤ n
    · rw [if_pos e, show n + 1 - c = (n - c) + 1 by omega, sT_s]
    · rw [if_neg e, show n + 1 - c = 0 by omega, show n - c = 0 by omega]; rfl
theorem td_b {x b : Int} (hx : 0 ≤ x) (hb : 0 < b) : 0 ≤ Int.tdiv x b ∧ b * Int.tdiv x b ≤ x := by
  rw [Int.tdiv_eq_ediv_of_nonneg hx]
  exact ⟨Int.ediv_nonneg hx (by omega), by rw [Int.mul_comm]; exact Int.ediv_mul_le x (by omega)⟩
theorem pr_b {x y : Int} (hx : 0 ≤ x ∧ x ≤ 1000000000) (hy : 0 ≤ y ∧ y ≤ 1000000000) : 0 ≤ x * y ∧ x * y ≤ 1000000000000000000 ∧ 0 ≤ Int.tdiv (x * y) 1000000000 ∧ Int.tdiv (x * y) 1000000000 ≤ x := by
  have h0 : 0 ≤ x * y := Int.mul_nonneg hx.1 hy.1
  have h1 : x * y ≤ x * 1000000000 := Int.mul_le_mul_of_nonneg_left hy.2 hx.1
  have h2 := td_b (b := 1000000000) h0 (by decide)
  exact ⟨h0, by omega, h2.1, by omega⟩
def aT (a b : Nat → Int) (m k i : Nat) : Int := if i + m ≤ k then Int.tdiv (a i * b (k - (i + m))) 1000000000 else 0
def aP (a b : Nat → Int) (m k : Nat) : Int := sT (aT a b m k) 21
def rowOK (a : Nat → Int) : Prop := (∀ i, i < 21 → 0 ≤ a i) ∧ sT a 21 ≤ 1000000000
theorem rowOK.b {a : Nat → Int} (h : rowOK a) {i : Nat} (hi : i < 21) : 0 ≤ a i ∧ a i ≤ 1000000000 := ⟨h.1 i hi, Int.le_trans (sT_ge 21 hi h.1) h.2⟩
theorem aT_b {a b : Nat → Int} (ha : rowOK a) (hb : rowOK b) {m k i : Nat} (hk : k < 21) (hi : i < 21) : 0 ≤ aT a b m k i ∧ aT a b m k i ≤ a i := by
  unfold aT
  by_cases e : i + m ≤ k
  · rw [if_pos e]
    have := pr_b (ha.b hi) (hb.b (show k - (i + m) < 21 by omega))
    exact ⟨this.2.2.1, this.2.2.2⟩
  · rw [if_neg e]; exact ⟨Int.le_refl 0, ha.1 i hi⟩
theorem row_div {x : Int} {b : Nat → Int} (hx : 0 ≤ x) : ∀ n, (∀ j, j < n → 0 ≤ b j) → 1000000000 * sT (fun j => Int.tdiv (x * b j) 1000000000) n ≤ x * sT b n
  | 0, _ => by show 1000000000 * (0 : Int) ≤ x * (0 : Int); rw [Int.mul_zero, Int.mul_zero]; exact Int.le_refl 0
  | n + 1, h => by
    have i := row_div hx n (fun j hj => h j (by omega))
    have q := (td_b (x := x * b n) (b := 1000000000) (Int.mul_nonneg hx (h n (by omega))) (by decide)).2
    rw [sT_s, sT_s, Int.mul_add x]
    omega
theorem aP_row {a b : Nat → Int} (ha : rowOK a) (hb : rowOK b) (m : Nat) : rowOK (aP a b m) := by
  refine ⟨fun k hk => sT_nn 21 (fun i hi => (aT_b ha hb hk hi).1), ?_⟩
  have e : sT (aP a b m) 21 = sT (fun i => sT (fun k => aT a b m k i) 21) 21 := sT_swap (f := fun k i => aT a b m k i) 21
  rw [e]
  refine Int.le_trans (sT_mono 21 (fun i hi => ?_)) ha.2
  have e2 : sT (fun k => aT a b m k i) 21 = sT (fun j => Int.tdiv (a i * b j) 1000000000) (21 - (i + m)) := sT_shift (g := fun j => Int.tdiv (a i * b j) 1000000000) (c := i + m) 21
  rw [e2]
  have h1 := row_div (b := b) (ha.1 i hi) (21 - (i + m)) (fun j hj => hb.1 j (by omega))
  have h2 := sT_len (f := b) (m := 21 - (i + m)) 21 (by omega) hb.1
  have h3 : a i * sT b (21 - (i + m)) ≤ a i * 1000000000 := Int.mul_le_mul_of_nonneg_left (by have := hb.2; omega) (ha.1 i hi)
  omega
/-- the next row of the table -/
def oNext (l n : Nat) (t : Nat → Nat → Int) (k : Nat) : Int := if n < l then (if k = 0 then 1000000000 else 0) else Int.tdiv (sT (fun p => aP (t p) (t (n - l - p)) 1 k) (n - l + 1)) ((n - l + 1 : Nat) : Int)
def oTb (l : Nat) : Nat → Nat → Nat → Int
  | 0 => fun _ _ => 0
  | n + 1 => fun j => if j = n then oNext l n (oTb l n) else oTb l n j
theorem oTb_n (l n : Nat) : oTb l (n + 1) n = oNext l n (oTb l n) := if_pos rfl
theorem oTb_o {l n j : Nat} (h : j ≠ n) : oTb l (n + 1) j = oTb l n j := if_neg h
theorem row_avg {S : Nat → Int} {m : Int} (hm : 0 < m) : ∀ n, (∀ k, k < n → 0 ≤ S k) → m * sT (fun k => Int.tdiv (S k) m) n ≤ sT S n
  | 0, _ => by show m * (0 : Int) ≤ 0; rw [Int.mul_zero]; decide
  | n + 1, h => by
    have i := row_avg hm n (fun j hj => h j (by omega))
    have q := (td_b (h n (by omega)) hm).2
    rw [sT_s, sT_s, Int.mul_add]
    omega
theorem oTb_ok {l : Nat} (hl : 1 ≤ l) : ∀ n, n ≤ 21 → ∀ j, j < n → rowOK (oTb l n j) ∧ ∀ k, j < k → k < 21 → oTb l n j k = 0
  | 0, _, j, h => absurd h (by omega)
  | n + 1, hn, j, h => by
    by_cases e : j = n
    · subst e
      rw [oTb_n]
      have ih := oTb_ok hl j (by omega)
      by_cases q : j < l
      · have ex : oNext l j (oTb l j) = fun k => if k = 0 then 1000000000 else 0 := funext (fun k => by unfold oNext; rw [if_pos q])
        rw [ex]
        refine ⟨⟨fun i _ => by dsimp only; split <;> decide, ?_⟩, fun k hk _ => if_neg (by omega)⟩
        show sT (fun k : Nat => if k = 0 then (1000000000 : Int) else 0) 21 ≤ 1000000000
        decide
      · have ex : oNext l j (oTb l j) = fun k => Int.tdiv (sT (fun p => aP (oTb l j p) (oTb l j (j - l - p)) 1 k) (j - l + 1)) ((j - l + 1 : Nat) : Int) := funext (fun k => by unfold oNext; rw [if_neg q])
        rw [ex]
        have hr : ∀ p, p < j - l + 1 → rowOK (aP (oTb l j p) (oTb l j (j - l - p)) 1) := fun p hp => aP_row (ih p (by omega)).1 (ih (j - l - p) (by omega)).1 1
        have hS : ∀ k, k < 21 → 0 ≤ sT (fun p => aP (oTb l j p) (oTb l j (j - l - p)) 1 k) (j - l + 1) := fun k hk => sT_nn _ (fun p hp => (hr p hp).1 k hk)
        refine ⟨⟨fun k hk => (td_b (hS k hk) (by omega)).1, ?_⟩, fun k hk hk2 => ?_⟩
        · have h1 := row_avg (S := fun k => sT (fun p => aP (oTb l j p) (oTb l j (j - l - p)) 1 k) (j - l + 1)) (m := ((j - l + 1 : Nat) : Int)) (by omega) 21 hS
          have h2 := sT_swap (f := fun k p => aP (oTb l j p) (oTb l j (j - l - p)) 1 k) (m := j - l + 1) 21
          rw [h2] at h1
          have h3 := sT_mono (f := fun p => sT (fun k => aP (oTb l j p) (oTb l j (j - l - p)) 1 k) 21) (g := fun _ => 1000000000) (j - l + 1) (fun p hp => (hr p hp).2)
          have h4 : ∀ n, sT (fun _ => 1000000000) n = 1000000000 * ((n : Nat) : Int) := by
            intro n
            induction n with
            | zero => rfl
            | succ n ih => rw [sT_s, ih]; omega
          rw [h4] at h3
          have h5 := Int.le_trans h1 h3
          rw [Int.mul_comm 1000000000] at h5
          exact Int.le_of_mul_le_mul_left h5 (by omega)
        · have hz : sT (fun p => aP (oTb l j p) (oTb l j (j - l - p)) 1 k) (j - l + 1) = 0 := by
            rw [← sT_zero (j - l + 1)]
            refine sT_congr (fun p hp => ?_)
            unfold aP
            rw [← sT_zero 21]
            refine sT_congr (fun i hi => ?_)
            unfold aT
            by_cases f : i + 1 ≤ k
            · rw [if_pos f]
              by_cases g : p < i
              · rw [(ih p (by omega)).2 i g hi, Int.zero_mul]; rfl
              · rw [(ih (j - l - p) (by omega)).2 (k - (i + 1)) (by omega) (by omega), Int.mul_zero]; rfl
            · rw [if_neg f]
          show Int.tdiv (sT (fun p => aP (oTb l j p) (oTb l j (j - l - p)) 1 k) (j - l + 1)) ((j - l + 1 : Nat) : Int) = 0
          rw [hz]; exact Int.zero_tdiv _
    · rw [oTb_o e]; exact oTb_ok hl n (by omega) j (by omega)
theorem aP_congr {a a' b b' : Nat → Int} {m k : Nat} (hk : k < 21) (ha : ∀ i, i < 21 → a i = a' i) (hb : ∀ i, i < 21 → b i = b' i) : aP a b m k = aP a' b' m k := by
  unfold aP
  refine sT_congr (fun i hi => ?_)
  unfold aT
  rw [ha i hi]
  by_cases e : i + m ≤ k
  · rw [if_pos e, if_pos e, hb _ (by omega)]
  · rw [if_neg e, if_neg e]
/-- the table from row to row -/
theorem oTb_more {l j : Nat} : ∀ n m, j < n → n ≤ m → oTb l m j = oTb l n j
  | n, 0, h, g => absurd h (by omega)
  | n, m + 1, h, g => by
    by_cases e : n = m + 1
    · rw [e]
    · rw [oTb_o (by omega)]; exact oTb_more n m h (by omega)
