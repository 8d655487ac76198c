/-! ORDERS: in which the cars can have come, pure -/
def sN (f : Nat → Nat) : Nat → Nat
  | 0 => 0
  | n + 1 => sN f n + f n
theorem sN_s (f : Nat → Nat) (n : Nat) : sN f (n + 1) = sN f n + f n := rfl
theorem sN_congr {f g : Nat → Nat} : ∀ {n : Nat}, (∀ i, i < n → f i = g i) → sN f n = sN g n
  | 0, _ => rfl
  | n + 1, h => by rw [sN_s, sN_s, sN_congr (fun i hi => h i (by omega)), h n (by omega)]
theorem sN_zero {f : Nat → Nat} : ∀ {n : Nat}, (∀ i, i < n → f i = 0) → sN f n = 0
  | 0, _ => rfl
  | n + 1, h => by rw [sN_s, sN_zero (fun i hi => h i (by omega)), h n (by omega)]
theorem sN_lin {f g : Nat → Nat} {a b : Nat} : ∀ n, sN (fun k => a * f k + b * g k) n = a * sN f n + b * sN g n
  | 0 => by show 0 = a * 0 + b * 0; rw [Nat.mul_zero, Nat.mul_zero]
  | n + 1 => by
    rw [sN_s, sN_s, sN_s, sN_lin n, Nat.mul_add, Nat.mul_add]; omega
theorem sN_one {f : Nat → Nat} {k : Nat} : ∀ {n : Nat}, k < n → (∀ i, i < n → i ≠ k → f i = 0) → sN f n = f k
  | 0, h, _ => absurd h (by omega)
  | n + 1, h, g => by
    by_cases e : k = n
    · subst e; rw [sN_s, sN_zero (fun i hi => g i (by omega) (by omega))]; omega
    · rw [sN_s, sN_one (show k < n by omega) (fun i hi => g i (by omega)), g n (by omega) (by omega)]; omega
def ch : Nat → Nat → Nat
  | _, 0 => 1
  | 0, _ + 1 => 0
  | n + 1, k + 1 => ch n k + ch n (k + 1)
theorem ch_0 (n : Nat) : ch n 0 = 1 := by cases n <;> rfl
theorem ch_s (n k : Nat) : ch (n + 1) (k + 1) = ch n k + ch n (k + 1) := rfl
theorem ch_big : ∀ n k, n < k → ch n k = 0
  | 0, 0, h => absurd h (by omega)
  | 0, k + 1, _ => rfl
  | n + 1, 0, h => absurd h (by omega)
  | n + 1, k + 1, h => by rw [ch_s, ch_big n k (by omega), ch_big n (k + 1) (by omega)]
theorem ch_n : ∀ n, ch n n = 1
  | 0 => rfl
  | n + 1 => by rw [ch_s, ch_n n, ch_big n (n + 1) (by omega)]
theorem ch_pos : ∀ n k, k ≤ n → 0 < ch n k
  | n, 0, _ => by rw [ch_0]; omega
  | 0, k + 1, h => absurd h (by omega)
  | n + 1, k + 1, h => by rw [ch_s]; have := ch_pos n k (by omega); omega
/-- i * C(N + i, i) = (N + i) * C(N + i - 1, i - 1) -/
theorem ch_mul : ∀ n k, (k + 1) * ch (n + 1) (k + 1) = (n + 1) * ch n k
  | 0, 0 => rfl
  | 0, k + 1 => by rw [ch_s, ch_big 0 (k + 1) (by omega), ch_big 0 (k + 2) (by omega)]; omega
  | n + 1, 0 => by
    have h := ch_mul n 0
    have e1 : ch (n + 1 + 1) (0 + 1) = ch (n + 1) 0 + ch (n + 1) (0 + 1) := rfl
    rw [ch_0] at h e1
    rw [e1, ch_0]; omega
  | n + 1, k + 1 => by
    have h1 := ch_mul n k
    have h2 := ch_mul n (k + 1)
    have e1 : ch (n + 1 + 1) (k + 1 + 1) = ch (n + 1) (k + 1) + ch (n + 1) (k + 1 + 1) := rfl
    have e2 : ch (n + 1) (k + 1) = ch n k + ch n (k + 1) := rfl
    have e3 : (n + 1 + 1) * ch (n + 1) (k + 1) = (n + 1) * ch n k + (n + 1) * ch n (k + 1) + ch (n + 1) (k + 1) := by
      rw [show n + 1 + 1 = (n + 1) + 1 from rfl, Nat.add_mul (n + 1) 1, Nat.one_mul]
      conv => lhs; arg 1; rw [e2, Nat.mul_add]
    have e4 : (k + 1 + 1) * ch (n + 1) (k + 1) = (k + 1) * ch (n + 1) (k + 1) + ch (n + 1) (k + 1) := by rw [Nat.add_mul (k + 1) 1, Nat.one_mul]
    rw [e1, Nat.mul_add, e3, e4, h1, h2]; omega
theorem ch_sum : ∀ n, sN (fun k => ch n k) (n + 1) = 2 ^ n
  | 0 => rfl
  | n + 1 => by
    have key : ∀ m, sN (fun k => ch (n + 1) k) (m + 1) = sN (fun k => ch n k) m + sN (fun k => ch n k) (m + 1) := by
      intro m
      induction m with
      | zero => show 0 + ch (n + 1) 0 = 0 + (0 + ch n 0); rw [ch_0, ch_0]
      | succ m ih => rw [sN_s, ih, sN_s (fun k => ch n k) (m + 1), sN_s (fun k => ch n k) m, ch_s]; omega
    rw [key (n + 1), ch_sum n, sN_s, ch_sum n, ch_big n (n + 1) (by omega), Nat.pow_succ]; omega
theorem ch_sym : ∀ a b, ch (a + b) a = ch (a + b) b
  | 0, b => by rw [ch_0, Nat.zero_add, ch_n]
  | a + 1, 0 => by rw [ch_0, Nat.add_zero, ch_n]
  | a + 1, b + 1 => by
    have h1 := ch_sym a (b + 1)
    have h2 := ch_sym (a + 1) b
    rw [show a + 1 + (b + 1) = (a + (b + 1)) + 1 by omega, ch_s, ch_s]
    rw [show a + (b + 1) = (a + 1) + b by omega] at h1 ⊢
    omega
/-- sets of cars -/
def cd (s : Nat → Bool) : Nat → Nat
  | 0 => 0
  | k + 1 => cd s k + if s k = true then 1 else 0
theorem cd_s (s : Nat → Bool) (k : Nat) : cd s (k + 1) = cd s k + if s k = true then 1 else 0 := rfl
def dl (s : Nat → Bool) (k j : Nat) : Bool := s j && decide (j ≠ k)
theorem dl_iff {s : Nat → Bool} {k j : Nat} : dl s k j = true ↔ s j = true ∧ j ≠ k := by unfold dl; rw [Bool.and_eq_true, decide_eq_true_iff]
def lo (i : Nat) (s : Nat → Bool) (k : Nat) : Bool := s k && decide (k < i)
def hi (i : Nat) (s : Nat → Bool) (k : Nat) : Bool := s k && decide (i ≤ k)
theorem lo_iff {i k : Nat} {s : Nat → Bool} : lo i s k = true ↔ s k = true ∧ k < i := by unfold lo; rw [Bool.and_eq_true, decide_eq_true_iff]
theorem hi_iff {i k : Nat} {s : Nat → Bool} : hi i s k = true ↔ s k = true ∧ i ≤ k := by unfold hi; rw [Bool.and_eq_true, decide_eq_true_iff]
theorem bext {a b : Nat → Bool} (h : ∀ k, a k = true ↔ b k = true) : a = b := funext (fun k => Bool.eq_iff_iff.mpr (h k))
theorem cd_dl {s : Nat → Bool} {k : Nat} : ∀ m, k < m → s k = true → cd (dl s k) m + 1 = cd s m
  | 0, h, _ => absurd h (by omega)
  | m + 1, h, hs => by
    rw [cd_s, cd_s]
    by_cases e : k = m
    · subst e
      have e2 : ∀ j, j ≤ k → cd (dl s k) j = cd s j := by
        intro j
        induction j with
        | zero => intro _; rfl
        | succ j ih =>
          intro hj
          rw [cd_s, cd_s, ih (by omega)]
          have : dl s k j = true ↔ s j = true := by rw [dl_iff]; exact ⟨fun q => q.1, fun q => ⟨q, by omega⟩⟩
          by_cases q : s j = true
          · rw [if_pos q, if_pos (this.mpr q)]
          · rw [if_neg q, if_neg (fun z => q (this.mp z))]
      rw [e2 k (Nat.le_refl k), if_pos hs, if_neg (fun q => (dl_iff.mp q).2 rfl)]
    · have := cd_dl m (show k < m by omega) hs
      have q : dl s k m = true ↔ s m = true := by rw [dl_iff]; exact ⟨fun q => q.1, fun q => ⟨q, by omega⟩⟩
      by_cases r : s m = true
      · rw [if_pos r, if_pos (q.mpr r)]; omega
      · rw [if_neg r, if_neg (fun z => r (q.mp z))]; omega
theorem cd_split {s : Nat → Bool} {i : Nat} : ∀ m, cd (lo i s) m + cd (hi i s) m = cd s m
  | 0 => rfl
  | m + 1 => by
    have h := cd_split (s := s) (i := i) m
    rw [cd_s, cd_s, cd_s]
    by_cases q : s m = true
    · rw [if_pos q]
      by_cases r : m < i
      · rw [if_pos (lo_iff.mpr ⟨q, r⟩), if_neg (fun z => by have := (hi_iff.mp z).2; omega)]; omega
      · rw [if_neg (fun z => r (lo_iff.mp z).2), if_pos (hi_iff.mpr ⟨q, by omega⟩)]; omega
    · rw [if_neg q, if_neg (fun z => q (lo_iff.mp z).1), if_neg (fun z => q (hi_iff.mp z).1)]; omega
theorem cd_zero {s : Nat → Bool} : ∀ m, cd s m = 0 → ∀ k, k < m → ¬ s k = true
  | 0, _, k, h => absurd h (by omega)
  | m + 1, h, k, hk => fun q => by
    rw [cd_s] at h
    by_cases e : k = m
    · subst e; rw [if_pos q] at h; omega
    · exact cd_zero m (by omega) k (by omega) q
/-- has car k a support within s? walls on the left lw, on the right rw; touching the next tc -/
def cc (lw rw tc : Nat → Bool) (k : Nat) (s : Nat → Bool) : Bool := lw k || rw k || (decide (0 < k) && tc (k - 1) && s (k - 1)) || (tc k && s (k + 1))
theorem cc_iff {lw rw tc : Nat → Bool} {k : Nat} {s : Nat → Bool} : cc lw rw tc k s = true ↔ lw k = true ∨ rw k = true ∨ (0 < k ∧ tc (k - 1) = true ∧ s (k - 1) = true) ∨ (tc k = true ∧ s (k + 1) = true) := by
  unfold cc; simp only [Bool.or_eq_true, Bool.and_eq_true, decide_eq_true_iff]
  constructor
  · rintro (((h | h) | h) | h)
    · exact Or.inl h
    · exact Or.inr (Or.inl h)
    · exact Or.inr (Or.inr (Or.inl ⟨h.1.1, h.1.2, h.2⟩))
    · exact Or.inr (Or.inr (Or.inr h))
  · rintro (h | h | h | h)
    · exact Or.inl (Or.inl (Or.inl h))
    · exact Or.inl (Or.inl (Or.inr h))
    · exact Or.inl (Or.inr ⟨⟨h.1, h.2.1⟩, h.2.2⟩)
    · exact Or.inr h
def wy (lw rw tc : Nat → Bool) (m : Nat) : Nat → (Nat → Bool) → Nat
  | 0, _ => 1
  | f + 1, s => sN (fun k => if s k = true ∧ cc lw rw tc k (dl s k) = true then wy lw rw tc m f (dl s k) else 0) m
theorem wy_s (lw rw tc : Nat → Bool) (m f : Nat) (s : Nat → Bool) : wy lw rw tc m (f + 1) s = sN (fun k => if s k = true ∧ cc lw rw tc k (dl s k) = true then wy lw rw tc m f (dl s k) else 0) m := rfl
/-- nothing of s touches across i -/
def NI (tc : Nat → Bool) (i : Nat) (s : Nat → Bool) : Prop := ¬ (0 < i ∧ tc (i - 1) = true ∧ s (i - 1) = true ∧ s i = true)
theorem NI_dl {tc : Nat → Bool} {i k : Nat} {s : Nat → Bool} (h : NI tc i s) : NI tc i (dl s k) := fun q => h ⟨q.1, q.2.1, (dl_iff.mp q.2.2.1).1, (dl_iff.mp q.2.2.2).1⟩
section
variable {lw rw tc : Nat → Bool} {m : Nat}
theorem cc_lo {i k : Nat} {s : Nat → Bool} (h : NI tc i s) (hk : k < i) (hs : s k = true) : cc lw rw tc k (dl s k) = true ↔ cc lw rw tc k (dl (lo i s) k) = true := by
  rw [cc_iff, cc_iff]
  have e1 : 0 < k → (dl s k (k - 1) = true ↔ dl (lo i s) k (k - 1) = true) := fun q => by rw [dl_iff, dl_iff, lo_iff]; exact ⟨fun z => ⟨⟨z.1, by omega⟩, z.2⟩, fun z => ⟨z.1.1, z.2⟩⟩
  have e2 : (tc k = true ∧ dl s k (k + 1) = true) ↔ (tc k = true ∧ dl (lo i s) k (k + 1) = true) := by
    rw [dl_iff, dl_iff, lo_iff]
    constructor
    · intro z
      refine ⟨z.1, ⟨z.2.1, ?_⟩, z.2.2⟩
      rcases Nat.lt_or_ge (k + 1) i with r | r
      · exact r
      · have e : i = k + 1 := by omega
        exact absurd ⟨by omega, by rw [e]; exact z.1, by rw [e]; exact hs, by rw [e]; exact z.2.1⟩ h
    · intro z; exact ⟨z.1, z.2.1.1, z.2.2⟩
  constructor
  · rintro (z | z | z | z)
    · exact Or.inl z
    · exact Or.inr (Or.inl z)
    · exact Or.inr (Or.inr (Or.inl ⟨z.1, z.2.1, (e1 z.1).mp z.2.2⟩))
    · exact Or.inr (Or.inr (Or.inr (e2.mp z)))
  · rintro (z | z | z | z)
    · exact Or.inl z
    · exact Or.inr (Or.inl z)
    · exact Or.inr (Or.inr (Or.inl ⟨z.1, z.2.1, (e1 z.1).mpr z.2.2⟩))
    · exact Or.inr (Or.inr (Or.inr (e2.mpr z)))
theorem cc_hi {i k : Nat} {s : Nat → Bool} (h : NI tc i s) (hk : i ≤ k) (hs : s k = true) : cc lw rw tc k (dl s k) = true ↔ cc lw rw tc k (dl (hi i s) k) = true := by
  rw [cc_iff, cc_iff]
  have e1 : (0 < k ∧ tc (k - 1) = true ∧ dl s k (k - 1) = true) ↔ (0 < k ∧ tc (k - 1) = true ∧ dl (hi i s) k (k - 1) = true) := by
    rw [dl_iff, dl_iff, hi_iff]
    constructor
    · intro z
      refine ⟨z.1, z.2.1, ⟨z.2.2.1, ?_⟩, z.2.2.2⟩
      rcases Nat.lt_or_ge (k - 1) i with r | r
      · have e : i = k := by omega
        exact absurd ⟨by omega, by rw [e]; exact z.2.1, by rw [e]; exact z.2.2.1, by rw [e]; exact hs⟩ h
      · exact r
    · intro z; exact ⟨z.1, z.2.1, z.2.2.1.1, z.2.2.2⟩
  have e2 : dl s k (k + 1) = true ↔ dl (hi i s) k (k + 1) = true := by rw [dl_iff, dl_iff, hi_iff]; exact ⟨fun z => ⟨⟨z.1, by omega⟩, z.2⟩, fun z => ⟨z.1.1, z.2⟩⟩
  constructor
  · rintro (z | z | z | z)
    · exact Or.inl z
    · exact Or.inr (Or.inl z)
    · exact Or.inr (Or.inr (Or.inl (e1.mp z)))
    · exact Or.inr (Or.inr (Or.inr ⟨z.1, e2.mp z.2⟩))
  · rintro (z | z | z | z)
    · exact Or.inl z
    · exact Or.inr (Or.inl z)
    · exact Or.inr (Or.inr (Or.inl (e1.mpr z)))
    · exact Or.inr (Or.inr (Or.inr ⟨z.1, e2.mpr z.2⟩))
theorem lo_dl {i k : Nat} {s : Nat → Bool} : lo i (dl s k) = dl (lo i s) k := bext (fun j => by rw [lo_iff, dl_iff, dl_iff, lo_iff]; exact ⟨fun z => ⟨⟨z.1.1, z.2⟩, z.1.2⟩, fun z => ⟨⟨z.1.1, z.2⟩, z.1.2⟩⟩)
theorem hi_dl {i k : Nat} {s : Nat → Bool} : hi i (dl s k) = dl (hi i s) k := bext (fun j => by rw [hi_iff, dl_iff, dl_iff, hi_iff]; exact ⟨fun z => ⟨⟨z.1.1, z.2⟩, z.1.2⟩, fun z => ⟨⟨z.1.1, z.2⟩, z.1.2⟩⟩)
theorem dl_out {k : Nat} {s : Nat → Bool} (h : ¬ s k = true) : dl s k = s := bext (fun j => by rw [dl_iff]; exact ⟨fun z => z.1, fun z => ⟨z, fun e => h (e ▸ z)⟩⟩)
theorem wy_split {i : Nat} : ∀ f s, cd s m = f → NI tc i s → wy lw rw tc m f s = ch f (cd (lo i s) m) * wy lw rw tc m (cd (lo i s) m) (lo i s) * wy lw rw tc m (cd (hi i s) m) (hi i s)
  | 0, s, hf, _ => by
    have h := cd_split (s := s) (i := i) m
    rw [show cd (lo i s) m = 0 by omega, show cd (hi i s) m = 0 by omega]; rfl
  | f + 1, s, hf, hn => by
    have hab := cd_split (s := s) (i := i) m
    obtain ⟨a, ha⟩ : ∃ a, a = cd (lo i s) m := ⟨_, rfl⟩
    obtain ⟨b, hb⟩ : ∃ b, b = cd (hi i s) m := ⟨_, rfl⟩
    rw [← ha, ← hb] at hab ⊢
    -- each term
    have term : ∀ k, k < m → (if s k = true ∧ cc lw rw tc k (dl s k) = true then wy lw rw tc m f (dl s k) else 0) = (ch f (a - 1) * wy lw rw tc m b (hi i s)) * (if lo i s k = true ∧ cc lw rw tc k (dl (lo i s) k) = true then wy lw rw tc m (a - 1) (dl (lo i s) k) else 0) + (ch f a * wy lw rw tc m a (lo i s)) * (if hi i s k = true ∧ cc lw rw tc k (dl (hi i s) k) = true then wy lw rw tc m (b - 1) (dl (hi i s) k) else 0) := by
      intro k hk
      by_cases hs : s k = true
      · have hc := cd_dl m hk hs
        by_cases q : k < i
        · have hlo : lo i s k = true := lo_iff.mpr ⟨hs, q⟩
          have hhi : ¬ hi i s k = true := fun z => by have := (hi_iff.mp z).2; omega
          have hcl := cd_dl m hk hlo
          rw [if_neg (show ¬ (hi i s k = true ∧ _) from fun z => hhi z.1), Nat.mul_zero, Nat.add_zero]
          by_cases c : cc lw rw tc k (dl s k) = true
          · rw [if_pos ⟨hs, c⟩, if_pos ⟨hlo, (cc_lo hn q hs).mp c⟩]
            rw [wy_split f (dl s k) (by omega) (NI_dl hn), lo_dl, hi_dl, dl_out hhi, ← hb, show cd (dl (lo i s) k) m = a - 1 by omega]
            rw [Nat.mul_assoc, Nat.mul_assoc, Nat.mul_comm (wy lw rw tc m (a - 1) _)]
          · rw [if_neg (fun z => c z.2), if_neg (fun z => c ((cc_lo hn q hs).mpr z.2)), Nat.mul_zero]
        · have hhi : hi i s k = true := hi_iff.mpr ⟨hs, by omega⟩
          have hlo : ¬ lo i s k = true := fun z => q (lo_iff.mp z).2
          have hcl := cd_dl m hk hhi
          rw [if_neg (show ¬ (lo i s k = true ∧ _) from fun z => hlo z.1), Nat.mul_zero, Nat.zero_add]
          by_cases c : cc lw rw tc k (dl s k) = true
          · rw [if_pos ⟨hs, c⟩, if_pos ⟨hhi, (cc_hi hn (by omega) hs).mp c⟩]
            rw [wy_split f (dl s k) (by omega) (NI_dl hn), lo_dl, hi_dl, dl_out hlo, ← ha, show cd (dl (hi i s) k) m = b - 1 by omega]
          · rw [if_neg (fun z => c z.2), if_neg (fun z => c ((cc_hi hn (by omega) hs).mpr z.2)), Nat.mul_zero]
      · rw [if_neg (fun z => hs z.1), if_neg (fun z => hs (lo_iff.mp z.1).1), if_neg (fun z => hs (hi_iff.mp z.1).1), Nat.mul_zero, Nat.mul_zero]
    rw [wy_s, sN_congr term, sN_lin]
    have la : a = 0 → sN (fun k => if lo i s k = true ∧ cc lw rw tc k (dl (lo i s) k) = true then wy lw rw tc m (a - 1) (dl (lo i s) k) else 0) m = 0 := fun e => sN_zero (fun k hk => if_neg (fun z => cd_zero m (by omega) k hk z.1))
    have lb : b = 0 → sN (fun k => if hi i s k = true ∧ cc lw rw tc k (dl (hi i s) k) = true then wy lw rw tc m (b - 1) (dl (hi i s) k) else 0) m = 0 := fun e => sN_zero (fun k hk => if_neg (fun z => cd_zero m (by omega) k hk z.1))
    have ka : 0 < a → sN (fun k => if lo i s k = true ∧ cc lw rw tc k (dl (lo i s) k) = true then wy lw rw tc m (a - 1) (dl (lo i s) k) else 0) m = wy lw rw tc m a (lo i s) := fun e => by
      obtain ⟨a', ea⟩ : ∃ a', a = a' + 1 := ⟨a - 1, by omega⟩
      rw [ea, show a' + 1 - 1 = a' from rfl]; rfl
    have kb : 0 < b → sN (fun k => if hi i s k = true ∧ cc lw rw tc k (dl (hi i s) k) = true then wy lw rw tc m (b - 1) (dl (hi i s) k) else 0) m = wy lw rw tc m b (hi i s) := fun e => by
      obtain ⟨b', eb⟩ : ∃ b', b = b' + 1 := ⟨b - 1, by omega⟩
      rw [eb, show b' + 1 - 1 = b' from rfl]; rfl
    rcases Nat.eq_zero_or_pos a with za | pa
    · rw [la za, Nat.mul_zero, Nat.zero_add, kb (by omega), za, ch_0, ch_0]
    · rcases Nat.eq_zero_or_pos b with zb | pb
      · rw [lb zb, Nat.mul_zero, Nat.add_zero, ka pa, show f + 1 = a by omega, show f = a - 1 by omega, ch_n, ch_n, zb, Nat.one_mul, Nat.one_mul]
        exact Nat.mul_comm _ _
      · rw [ka pa, kb pb]
        obtain ⟨a', ea⟩ : ∃ a', a = a' + 1 := ⟨a - 1, by omega⟩
        rw [ea, show a' + 1 - 1 = a' from rfl, ch_s, Nat.add_mul, Nat.add_mul]
        congr 1
        rw [Nat.mul_assoc, Nat.mul_assoc, Nat.mul_comm (wy lw rw tc m b _)]
/-- no walls: no order -/
theorem wy_none : ∀ f s, cd s m = f + 1 → (∀ k, s k = true → k < m ∧ ¬ lw k = true ∧ ¬ rw k = true) → wy lw rw tc m (f + 1) s = 0
  | 0, s, hf, hw => by
    rw [wy_s]
    refine sN_zero (fun k hk => if_neg (fun z => ?_))
    have h1 := cd_dl m hk z.1
    have hz := cd_zero (s := dl s k) m (by omega)
    have hk2 := hw k z.1
    rcases cc_iff.mp z.2 with q | q | q | q
    · exact hk2.2.1 q
    · exact hk2.2.2 q
    · exact hz (k - 1) (by omega) q.2.2
    · exact hz (k + 1) (hw (k + 1) (dl_iff.mp q.2).1).1 q.2
  | f + 1, s, hf, hw => by
    rw [wy_s]
    refine sN_zero (fun k hk => ?_)
    by_cases z : s k = true ∧ cc lw rw tc k (dl s k) = true
    · rw [if_pos z]
      have h1 := cd_dl m hk z.1
      exact wy_none f (dl s k) (by omega) (fun j hs => hw j (dl_iff.mp hs).1)
    · rw [if_neg z]
def ivl (i j k : Nat) : Bool := decide (i ≤ k ∧ k < j)
theorem ivl_iff {i j k : Nat} : ivl i j k = true ↔ i ≤ k ∧ k < j := by unfold ivl; exact decide_eq_true_iff
theorem cd_ivl {i j : Nat} (hij : i ≤ j) : ∀ m, cd (ivl i j) m = min m j - min m i
  | 0 => by show 0 = _; omega
  | m + 1 => by
    rw [cd_s, cd_ivl hij m]
    by_cases q : i ≤ m ∧ m < j
    · rw [if_pos (ivl_iff.mpr q)]; omega
    · rw [if_neg (fun z => q (ivl_iff.mp z))]; omega
def Wv (lw rw tc : Nat → Bool) (m i j : Nat) : Nat := wy lw rw tc m (j - i) (ivl i j)
theorem Wv_0 {i : Nat} : Wv lw rw tc m i i = 1 := by unfold Wv; rw [Nat.sub_self]; rfl
/-- the interval without k, cut at k -/
theorem Wv_cut {i j k : Nat} (hk : i ≤ k ∧ k < j) (hj : j ≤ m) : wy lw rw tc m (j - i - 1) (dl (ivl i j) k) = ch (j - i - 1) (k - i) * Wv lw rw tc m i k * Wv lw rw tc m (k + 1) j := by
  have hc := cd_dl (s := ivl i j) (k := k) m (by omega) (ivl_iff.mpr hk)
  rw [cd_ivl (by omega)] at hc
  have hni : NI tc k (dl (ivl i j) k) := fun q => (dl_iff.mp q.2.2.2).2 rfl
  have e1 : lo k (dl (ivl i j) k) = ivl i k := bext (fun t => by rw [lo_iff, dl_iff, ivl_iff, ivl_iff]; omega)
  have e2 : hi k (dl (ivl i j) k) = ivl (k + 1) j := bext (fun t => by rw [hi_iff, dl_iff, ivl_iff, ivl_iff]; omega)
  have h := wy_split (lw := lw) (rw := rw) (m := m) (i := k) (j - i - 1) (dl (ivl i j) k) (by omega) hni
  rw [e1, e2, cd_ivl (by omega), cd_ivl (by omega), show min m k - min m i = k - i by omega, show min m j - min m (k + 1) = j - (k + 1) by omega] at h
  exact h
theorem Wv_none {i j : Nat} (hij : i < j) (hj : j ≤ m) (hw : ∀ k, i ≤ k → k < j → ¬ lw k = true ∧ ¬ rw k = true) : Wv lw rw tc m i j = 0 := by
  unfold Wv
  obtain ⟨f, hf⟩ : ∃ f, j - i = f + 1 := ⟨j - i - 1, by omega⟩
  rw [hf]
  exact wy_none f _ (by rw [cd_ivl (by omega)]; omega) (fun k hk => by have := ivl_iff.mp hk; exact ⟨by omega, hw k this.1 this.2⟩)
/-- a chain: cars i to j - 1 touch, walls only at its ends -/
def CHN (lw rw tc : Nat → Bool) (m i j : Nat) : Prop := i < j ∧ j ≤ m ∧ ∀ k, i ≤ k → k < j → (k + 1 < j → tc k = true ∧ ¬ rw k = true) ∧ (i < k → ¬ lw k = true)
theorem Wv_step {i j : Nat} (hij : i < j) : Wv lw rw tc m i j = sN (fun k => if ivl i j k = true ∧ cc lw rw tc k (dl (ivl i j) k) = true then wy lw rw tc m (j - i - 1) (dl (ivl i j) k) else 0) m := by
  unfold Wv
  obtain ⟨f, hf⟩ : ∃ f, j - i = f + 1 := ⟨j - i - 1, by omega⟩
  rw [hf]; rfl
theorem Wv_left {i j : Nat} (c : CHN lw rw tc m i j) (hl : lw i = true) : ∀ t, i + t ≤ j → (i + t < j ∨ ¬ rw (j - 1) = true) → Wv lw rw tc m i (i + t) = 1
  | 0, _, _ => Wv_0
  | t + 1, h1, h2 => by
    rw [Wv_step (by omega)]
    have ih := Wv_left c hl t (by omega) (by omega)
    have key : ∀ k, i ≤ k → k < i + (t + 1) → k ≠ i + t → wy lw rw tc m (i + (t + 1) - i - 1) (dl (ivl i (i + (t + 1))) k) = 0 := by
      intro k k1 k2 k3
      have := c.2.1
      rw [Wv_cut ⟨k1, k2⟩ (by omega), Wv_none (i := k + 1) (by omega) (by omega) (fun z z1 z2 => ?_), Nat.mul_zero]
      have := c.2.2 z (by omega) (by omega)
      refine ⟨this.2 (by omega), fun q => ?_⟩
      rcases Nat.lt_or_ge (z + 1) j with r | r
      · exact (this.1 r).2 q
      · have e : z = j - 1 := by omega
        subst e
        rcases h2 with h2 | h2
        · omega
        · exact h2 q
    have hm := c.2.1
    rw [sN_one (k := i + t) (by omega) (fun k hk hne => ?_)]
    · have hcc : cc lw rw tc (i + t) (dl (ivl i (i + (t + 1))) (i + t)) = true := by
        rw [cc_iff]
        by_cases e : t = 0
        · subst e; exact Or.inl hl
        · refine Or.inr (Or.inr (Or.inl ⟨by omega, ?_, ?_⟩))
          · exact ((c.2.2 (i + t - 1) (by omega) (by omega)).1 (by omega)).1
          · rw [dl_iff, ivl_iff]; omega
      rw [if_pos ⟨ivl_iff.mpr (by omega), hcc⟩, Wv_cut (by omega) (by omega), ih, Nat.mul_one, show i + (t + 1) - i - 1 = i + t - i by omega, ch_n, Nat.one_mul, show i + (t + 1) = i + t + 1 by omega, Wv_0]
    · by_cases z : ivl i (i + (t + 1)) k = true ∧ cc lw rw tc k (dl (ivl i (i + (t + 1))) k) = true
      · rw [if_pos z]
        have := ivl_iff.mp z.1
        exact key k this.1 this.2 hne
      · rw [if_neg z]
theorem Wv_right {i j : Nat} (c : CHN lw rw tc m i j) (hr : rw (j - 1) = true) : ∀ t, i + t ≤ j → (i + t < j ∨ ¬ lw i = true) → Wv lw rw tc m (j - t) j = 1
  | 0, _, _ => by rw [Nat.sub_zero]; exact Wv_0
  | t + 1, h1, h2 => by
    have hm := c.2.1
    rw [Wv_step (by omega)]
    have ih := Wv_right c hr t (by omega) (by omega)
    have key : ∀ k, j - (t + 1) ≤ k → k < j → k ≠ j - (t + 1) → wy lw rw tc m (j - (j - (t + 1)) - 1) (dl (ivl (j - (t + 1)) j) k) = 0 := by
      intro k k1 k2 k3
      rw [Wv_cut ⟨k1, k2⟩ (by omega), Wv_none (i := j - (t + 1)) (j := k) (by omega) (by omega) (fun z z1 z2 => ?_), Nat.mul_zero, Nat.zero_mul]
      have := c.2.2 z (by omega) (by omega)
      refine ⟨fun q => ?_, (this.1 (by omega)).2⟩
      rcases Nat.lt_or_ge i z with r | r
      · exact this.2 r q
      · have e : z = i := by omega
        subst e
        rcases h2 with h2 | h2
        · omega
        · exact h2 q
    rw [sN_one (k := j - (t + 1)) (by omega) (fun k hk hne => ?_)]
    · have hcc : cc lw rw tc (j - (t + 1)) (dl (ivl (j - (t + 1)) j) (j - (t + 1))) = true := by
        rw [cc_iff]
        by_cases e : t = 0
        · subst e; exact Or.inr (Or.inl hr)
        · refine Or.inr (Or.inr (Or.inr ⟨?_, ?_⟩))
          · exact ((c.2.2 (j - (t + 1)) (by omega) (by omega)).1 (by omega)).1
          · rw [dl_iff, ivl_iff]; omega
      rw [if_pos ⟨ivl_iff.mpr (by omega), hcc⟩, Wv_cut (by omega) (by omega), Wv_0, Nat.sub_self, ch_0, Nat.mul_one, Nat.one_mul, show j - (t + 1) + 1 = j - t by omega]; exact ih
    · by_cases z : ivl (j - (t + 1)) j k = true ∧ cc lw rw tc k (dl (ivl (j - (t + 1)) j) k) = true
      · rw [if_pos z]
        have := ivl_iff.mp z.1
        exact key k this.1 this.2 hne
      · rw [if_neg z]
theorem sN_shift {g : Nat → Nat} {i j : Nat} (hij : i ≤ j) : ∀ m, sN (fun k => if i ≤ k ∧ k < j then g (k - i) else 0) m = sN g (min m j - min m i)
  | 0 => by rw [show min 0 j - min 0 i = 0 by omega]; rfl
  | m + 1 => by
    rw [sN_s, sN_shift hij m]
    by_cases q : i ≤ m ∧ m < j
    · rw [if_pos q, show min (m + 1) j - min (m + 1) i = (min m j - min m i) + 1 by omega, sN_s, show min m j - min m i = m - i by omega]
    · rw [if_neg q, show min (m + 1) j - min (m + 1) i = min m j - min m i by omega]; rfl
/-- within a chain every car but the single one has a neighbour -/
theorem cc_chain {i j k : Nat} {s : Nat → Bool} (c : CHN lw rw tc m i j) (hk : i ≤ k ∧ k < j) (hs : ∀ t, i ≤ t → t < j → t ≠ k → s t = true) (h1 : i + 1 < j ∨ lw i = true ∨ rw (j - 1) = true) : cc lw rw tc k s = true := by
  rw [cc_iff]
  rcases Nat.lt_or_ge i k with r | r
  · exact Or.inr (Or.inr (Or.inl ⟨by omega, ((c.2.2 (k - 1) (by omega) (by omega)).1 (by omega)).1, hs _ (by omega) (by omega) (by omega)⟩))
  · have e : k = i := by omega
    subst e
    rcases Nat.lt_or_ge (k + 1) j with r2 | r2
    · exact Or.inr (Or.inr (Or.inr ⟨((c.2.2 k (by omega) (by omega)).1 r2).1, hs _ (by omega) (by omega) (by omega)⟩))
    · have e2 : j - 1 = k := by omega
      rw [e2] at h1
      rcases h1 with h1 | h1 | h1
      · omega
      · exact Or.inl h1
      · exact Or.inr (Or.inl h1)
theorem Wv_both {i j : Nat} (c : CHN lw rw tc m i j) (hl : lw i = true) (hr : rw (j - 1) = true) : Wv lw rw tc m i j = 2 ^ (j - i - 1) := by
  have hij := c.1
  have hm := c.2.1
  rw [Wv_step hij, sN_congr (g := fun k => if i ≤ k ∧ k < j then ch (j - i - 1) (k - i) else 0) (fun k hk => ?_), sN_shift (by omega) m, show min m j - min m i = (j - i - 1) + 1 by omega, ch_sum]
  by_cases q : i ≤ k ∧ k < j
  · have hcc : cc lw rw tc k (dl (ivl i j) k) = true := cc_chain c q (fun t t1 t2 t3 => by rw [dl_iff, ivl_iff]; omega) (Or.inr (Or.inl hl))
    have w1 := Wv_left c hl (k - i) (by omega) (by omega)
    have w2 := Wv_right c hr (j - (k + 1)) (by omega) (by omega)
    rw [show i + (k - i) = k by omega] at w1
    rw [show j - (j - (k + 1)) = k + 1 by omega] at w2
    rw [if_pos ⟨ivl_iff.mpr q, hcc⟩, if_pos q, Wv_cut q hm, w1, w2, Nat.mul_one, Nat.mul_one]
  · rw [if_neg (fun z => q (ivl_iff.mp z.1)), if_neg q]
/-- a chain more -/
theorem Wv_more {i j k : Nat} (hij : i ≤ k ∧ k ≤ j) (hj : j ≤ m) (ht : ¬ (0 < k ∧ tc (k - 1) = true)) : Wv lw rw tc m i j = ch (j - i) (k - i) * Wv lw rw tc m i k * Wv lw rw tc m k j := by
  have hni : NI tc k (ivl i j) := fun q => ht ⟨q.1, q.2.1⟩
  have e1 : lo k (ivl i j) = ivl i k := bext (fun t => by rw [lo_iff, ivl_iff, ivl_iff]; omega)
  have e2 : hi k (ivl i j) = ivl k j := bext (fun t => by rw [hi_iff, ivl_iff, ivl_iff]; omega)
  have h := wy_split (lw := lw) (rw := rw) (m := m) (i := k) (j - i) (ivl i j) (by rw [cd_ivl (by omega)]; omega) hni
  rw [e1, e2, cd_ivl (by omega), cd_ivl (by omega), show min m k - min m i = k - i by omega, show min m j - min m k = j - k by omega] at h
  exact h
/-- who of a chain can have been the last of all -/
theorem last_pos {i j k : Nat} (c : CHN lw rw tc m i j) (hk : i ≤ k ∧ k < j) (ti : ¬ (0 < i ∧ tc (i - 1) = true)) (tj : ¬ (0 < j ∧ tc (j - 1) = true)) (hW : 0 < Wv lw rw tc m 0 m) : (0 < wy lw rw tc m (m - 1) (dl (ivl 0 m) k) ↔ 0 < Wv lw rw tc m i k ∧ 0 < Wv lw rw tc m (k + 1) j) ∧ 0 < Wv lw rw tc m i j := by
  have hij := c.1
  have hm := c.2.1
  have s1 := Wv_more (lw := lw) (rw := rw) (tc := tc) (m := m) (i := 0) (j := m) (k := i) (by omega) (Nat.le_refl m) ti
  have s2 := Wv_more (lw := lw) (rw := rw) (tc := tc) (m := m) (i := i) (j := m) (k := j) (by omega) (Nat.le_refl m) tj
  have p1 : 0 < Wv lw rw tc m 0 i ∧ 0 < Wv lw rw tc m i m := by
    rw [s1] at hW
    have := Nat.pos_of_mul_pos_left hW
    exact ⟨Nat.pos_of_ne_zero (fun e => by rw [e, Nat.mul_zero, Nat.zero_mul] at hW; omega), Nat.pos_of_ne_zero (fun e => by rw [e, Nat.mul_zero] at hW; omega)⟩
  have p2 : 0 < Wv lw rw tc m i j ∧ 0 < Wv lw rw tc m j m := by
    have h := p1.2
    rw [s2] at h
    exact ⟨Nat.pos_of_ne_zero (fun e => by rw [e, Nat.mul_zero, Nat.zero_mul] at h; omega), Nat.pos_of_ne_zero (fun e => by rw [e, Nat.mul_zero] at h; omega)⟩
  refine ⟨?_, p2.1⟩
  -- the set without k, cut at i and at j
  have cA := cd_dl (s := ivl 0 m) (k := k) m (by omega) (ivl_iff.mpr (by omega))
  rw [cd_ivl (by omega)] at cA
  have a1 : lo i (dl (ivl 0 m) k) = ivl 0 i := bext (fun t => by rw [lo_iff, dl_iff, ivl_iff, ivl_iff]; omega)
  have a2 : hi i (dl (ivl 0 m) k) = dl (ivl i m) k := bext (fun t => by rw [hi_iff, dl_iff, dl_iff, ivl_iff, ivl_iff]; omega)
  have cB := cd_dl (s := ivl i m) (k := k) m (by omega) (ivl_iff.mpr (by omega))
  rw [cd_ivl (by omega)] at cB
  have h1 := wy_split (lw := lw) (rw := rw) (m := m) (i := i) (m - 1) (dl (ivl 0 m) k) (by omega) (NI_dl (fun q => ti ⟨q.1, q.2.1⟩))
  rw [a1, a2, cd_ivl (by omega), show cd (dl (ivl i m) k) m = m - i - 1 by omega, show min m i - min m 0 = i by omega] at h1
  have b1 : lo j (dl (ivl i m) k) = dl (ivl i j) k := bext (fun t => by rw [lo_iff, dl_iff, dl_iff, ivl_iff, ivl_iff]; omega)
  have b2 : hi j (dl (ivl i m) k) = ivl j m := bext (fun t => by rw [hi_iff, dl_iff, ivl_iff, ivl_iff]; omega)
  have cC := cd_dl (s := ivl i j) (k := k) m (by omega) (ivl_iff.mpr hk)
  rw [cd_ivl (by omega)] at cC
  have h2 := wy_split (lw := lw) (rw := rw) (m := m) (i := j) (m - i - 1) (dl (ivl i m) k) (by omega) (NI_dl (fun q => tj ⟨q.1, q.2.1⟩))
  rw [b1, b2, cd_ivl (by omega), show cd (dl (ivl i j) k) m = j - i - 1 by omega, show min m m - min m j = m - j by omega] at h2
  rw [Wv_cut hk hm] at h2
  have q0 : 0 < wy lw rw tc m i (ivl 0 i) := by have := p1.1; unfold Wv at this; rw [Nat.sub_zero] at this; exact this
  have q1 : 0 < wy lw rw tc m (m - j) (ivl j m) := p2.2
  have c1 := ch_pos (m - 1) i (by omega)
  have c2 := ch_pos (m - i - 1) (j - i - 1) (by omega)
  have c3 := ch_pos (j - i - 1) (k - i) (by omega)
  rw [h1, h2]
  constructor
  · intro z
    exact ⟨Nat.pos_of_ne_zero (fun e => by rw [e] at z; simp at z), Nat.pos_of_ne_zero (fun e => by rw [e] at z; simp at z)⟩
  · intro z
    exact Nat.mul_pos (Nat.mul_pos c1 q0) (Nat.mul_pos (Nat.mul_pos c2 (Nat.mul_pos (Nat.mul_pos c3 z.1) z.2)) q1)
theorem last_chain {i j k : Nat} (c : CHN lw rw tc m i j) (hk : i ≤ k ∧ k < j) (ti : ¬ (0 < i ∧ tc (i - 1) = true)) (tj : ¬ (0 < j ∧ tc (j - 1) = true)) (hW : 0 < Wv lw rw tc m 0 m) : (cc lw rw tc k (dl (ivl 0 m) k) = true ∧ 0 < wy lw rw tc m (m - 1) (dl (ivl 0 m) k)) ↔ (lw i = true ∧ rw (j - 1) = true) ∨ (lw i = true ∧ ¬ rw (j - 1) = true ∧ k = j - 1) ∨ (¬ lw i = true ∧ rw (j - 1) = true ∧ k = i) := by
  obtain ⟨h1, h2⟩ := last_pos c hk ti tj hW
  have hij := c.1
  have hm := c.2.1
  have hw : lw i = true ∨ rw (j - 1) = true := by
    by_cases a : lw i = true
    · exact Or.inl a
    · by_cases b : rw (j - 1) = true
      · exact Or.inr b
      · rw [Wv_none hij hm (fun z z1 z2 => ?_)] at h2
        · omega
        · have := c.2.2 z z1 z2
          refine ⟨fun q => ?_, fun q => ?_⟩
          · rcases Nat.lt_or_ge i z with r | r
            · exact this.2 r q
            · exact a (by rw [show i = z by omega]; exact q)
          · rcases Nat.lt_or_ge (z + 1) j with r | r
            · exact (this.1 r).2 q
            · exact b (by rw [show j - 1 = z by omega]; exact q)
  have hcc : cc lw rw tc k (dl (ivl 0 m) k) = true := cc_chain c hk (fun t t1 t2 t3 => by rw [dl_iff, ivl_iff]; omega) (Or.inr hw)
  have left1 : lw i = true → 0 < Wv lw rw tc m i k := fun a => by
    have := Wv_left c a (k - i) (by omega) (by omega)
    rw [show i + (k - i) = k by omega] at this; omega
  have right1 : rw (j - 1) = true → 0 < Wv lw rw tc m (k + 1) j := fun a => by
    have := Wv_right c a (j - (k + 1)) (by omega) (by omega)
    rw [show j - (j - (k + 1)) = k + 1 by omega] at this; omega
  have left0 : ¬ lw i = true → i < k → Wv lw rw tc m i k = 0 := fun a b => Wv_none b (by omega) (fun z z1 z2 => by
    have := c.2.2 z z1 (by omega)
    refine ⟨fun q => ?_, (this.1 (by omega)).2⟩
    rcases Nat.lt_or_ge i z with r | r
    · exact this.2 r q
    · exact a (by rw [show i = z by omega]; exact q))
  have right0 : ¬ rw (j - 1) = true → k + 1 < j → Wv lw rw tc m (k + 1) j = 0 := fun a b => Wv_none b hm (fun z z1 z2 => by
    have := c.2.2 z (by omega) z2
    refine ⟨this.2 (by omega), fun q => ?_⟩
    rcases Nat.lt_or_ge (z + 1) j with r | r
    · exact (this.1 r).2 q
    · exact a (by rw [show j - 1 = z by omega]; exact q))
  rw [h1]
  by_cases a : lw i = true
  · by_cases b : rw (j - 1) = true
    · exact ⟨fun _ => Or.inl ⟨a, b⟩, fun _ => ⟨hcc, left1 a, right1 b⟩⟩
    · constructor
      · intro z
        refine Or.inr (Or.inl ⟨a, b, ?_⟩)
        rcases Nat.lt_or_ge (k + 1) j with r | r
        · have := right0 b r; omega
        · omega
      · rintro (z | z | z)
        · exact absurd z.2 b
        · refine ⟨hcc, left1 a, ?_⟩
          rw [show k + 1 = j by omega, Wv_0]; omega
        · exact absurd a z.1
  · have b : rw (j - 1) = true := by rcases hw with h | h; exact absurd h a; exact h
    constructor
    · intro z
      refine Or.inr (Or.inr ⟨a, b, ?_⟩)
      rcases Nat.lt_or_ge i k with r | r
      · have := left0 a r; omega
      · omega
    · rintro (z | z | z)
      · exact absurd z.1 a
      · exact absurd z.1 a
      · refine ⟨hcc, ?_, right1 b⟩
        rw [z.2.2, Wv_0]; omega
end
