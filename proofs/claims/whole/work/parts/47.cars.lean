/-! CARS in a row: the chains that touch -/
theorem cd_mono {s : Nat → Bool} {a : Nat} : ∀ {b : Nat}, a ≤ b → cd s a ≤ cd s b
  | 0, h => by rw [show a = 0 by omega]; exact Nat.le_refl _
  | b + 1, h => by
    by_cases e : a = b + 1
    · rw [e]; exact Nat.le_refl _
    · rw [cd_s]; have := cd_mono (s := s) (a := a) (b := b) (by omega); omega
theorem cd_in {s : Nat → Bool} {a b : Nat} (h : a < b) (ha : s a = true) : cd s a + 1 ≤ cd s b := by
  have h1 := cd_mono (s := s) (a := a + 1) (b := b) h
  rw [cd_s, if_pos ha] at h1; exact h1
theorem cd_no {s : Nat → Bool} {a : Nat} : ∀ {b : Nat}, a ≤ b → (∀ y, a ≤ y → y < b → ¬ s y = true) → cd s b = cd s a
  | 0, h, _ => by rw [show a = 0 by omega]
  | b + 1, h, f => by
    by_cases e : a = b + 1
    · rw [e]
    · rw [cd_s, if_neg (f b (by omega) (by omega)), Nat.add_zero]
      exact cd_no (by omega) (fun y y1 y2 => f y y1 (by omega))
theorem cd_ex {s : Nat → Bool} {k : Nat} : ∀ n, k < cd s n → ∃ y, y < n ∧ s y = true ∧ cd s y = k
  | 0, h => absurd h (Nat.not_lt_zero k)
  | n + 1, h => by
    rcases Nat.lt_or_ge k (cd s n) with r | r
    · obtain ⟨y, a, b⟩ := cd_ex n r
      exact ⟨y, by omega, b⟩
    · rw [cd_s] at h
      by_cases q : s n = true
      · rw [if_pos q] at h; exact ⟨n, by omega, q, by omega⟩
      · rw [if_neg q] at h; omega
def CR (bg : Nat → Bool) (n m : Nat) (cr : Nat → Nat) : Prop := cd bg n = m ∧ ∀ k, k < m → cr k < n ∧ bg (cr k) = true ∧ cd bg (cr k) = k
theorem CR_ex (bg : Nat → Bool) (n : Nat) : ∃ cr, CR bg n (cd bg n) cr := by
  have h : ∀ k, ∃ y, k < cd bg n → y < n ∧ bg y = true ∧ cd bg y = k := fun k => by
    rcases Nat.lt_or_ge k (cd bg n) with r | r
    · obtain ⟨y, a⟩ := cd_ex n r; exact ⟨y, fun _ => a⟩
    · exact ⟨0, fun q => absurd q (by omega)⟩
  exact ⟨fun k => Classical.choose (h k), rfl, fun k hk => Classical.choose_spec (h k) hk⟩
theorem CR_at {bg : Nat → Bool} {n m : Nat} {cr : Nat → Nat} (r : CR bg n m cr) {c : Nat} (hc : c < n) (hb : bg c = true) : cd bg c < m ∧ cr (cd bg c) = c := by
  have h1 := cd_in hc hb
  rw [r.1] at h1
  have h2 := r.2 (cd bg c) (by omega)
  refine ⟨by omega, ?_⟩
  rcases Nat.lt_or_ge (cr (cd bg c)) c with q | q
  · have := cd_in q h2.2.1; omega
  · rcases Nat.lt_or_ge c (cr (cd bg c)) with q2 | q2
    · have := cd_in q2 hb; omega
    · omega
theorem CR_lt {bg : Nat → Bool} {n m : Nat} {cr : Nat → Nat} (r : CR bg n m cr) {k a : Nat} (hk : k < m) : k < cd bg a ↔ cr k < a := by
  have h2 := r.2 k hk
  constructor
  · intro q
    rcases Nat.lt_or_ge (cr k) a with z | z
    · exact z
    · have := cd_mono (s := bg) z; omega
  · intro q; have := cd_in q h2.2.1; omega
def lwF (g : Nat → Bool) (cr : Nat → Nat) (k : Nat) : Bool := decide (cr k = 0 ∨ g (cr k - 1) = true)
def rwF (g : Nat → Bool) (ln : Nat → Nat) (n : Nat) (cr : Nat → Nat) (k : Nat) : Bool := decide (n ≤ cr k + ln (cr k) ∨ g (cr k + ln (cr k)) = true)
def tcF (ln : Nat → Nat) (m : Nat) (cr : Nat → Nat) (k : Nat) : Bool := decide (k + 1 < m ∧ cr k + ln (cr k) = cr (k + 1))
theorem lwF_iff {g : Nat → Bool} {cr : Nat → Nat} {k : Nat} : lwF g cr k = true ↔ cr k = 0 ∨ g (cr k - 1) = true := by unfold lwF; exact decide_eq_true_iff
theorem rwF_iff {g : Nat → Bool} {ln : Nat → Nat} {n : Nat} {cr : Nat → Nat} {k : Nat} : rwF g ln n cr k = true ↔ n ≤ cr k + ln (cr k) ∨ g (cr k + ln (cr k)) = true := by unfold rwF; exact decide_eq_true_iff
theorem tcF_iff {ln : Nat → Nat} {m : Nat} {cr : Nat → Nat} {k : Nat} : tcF ln m cr k = true ↔ k + 1 < m ∧ cr k + ln (cr k) = cr (k + 1) := by unfold tcF; exact decide_eq_true_iff
/-- a yard on which a car stands -/
def oc (bg : Nat → Bool) (ln : Nat → Nat) (y : Nat) : Prop := ∃ c, c ≤ y ∧ y < c + ln c ∧ c < 20 ∧ bg c = true
section CARS
variable {g bg : Nat → Bool} {ln cr : Nat → Nat} {n m : Nat}
theorem next_in (cx : CX g bg ln n) (hn : n ≤ 20) (r : CR bg n m cr) {c e : Nat} (hc : c < 20) (hb : bg c = true) (he : e = c + ln c) (hbe : bg e = true) (hen : e < n) : cd bg e = cd bg c + 1 := by
  have h := cx c hc hb
  have h1 := cd_no (s := bg) (a := c + 1) (b := e) (by omega) (fun y y1 y2 q => by
    have := (cx y (by omega) q).2.2.2.2 c hc hb (by omega); omega)
  rw [h1, cd_s, if_pos hb]
theorem tk_lo (cx : CX g bg ln n) (hn : n ≤ 20) (r : CR bg n m cr) {k : Nat} {s : Nat → Bool} (hk : k < m) (h0 : 0 < cr k) : (∃ j, j < m ∧ s j = true ∧ cr j ≤ cr k - 1 ∧ cr k - 1 < cr j + ln (cr j)) ↔ 0 < k ∧ tcF ln m cr (k - 1) = true ∧ s (k - 1) = true := by
  have rk := r.2 k hk
  constructor
  · rintro ⟨j, j1, j2, j3, j4⟩
    have rj := r.2 j j1
    have h1 := (cx (cr k) (by omega) rk.2.1).2.2.2.2 (cr j) (by omega) rj.2.1 (by omega)
    have h2 := next_in (e := cr k) cx hn r (show cr j < 20 by omega) rj.2.1 (by omega) rk.2.1 rk.1
    have h3 : k = j + 1 := by omega
    subst h3
    rw [show j + 1 - 1 = j by omega]
    exact ⟨by omega, tcF_iff.mpr ⟨by omega, by omega⟩, j2⟩
  · rintro ⟨a, b, c⟩
    have b2 := tcF_iff.mp b
    rw [show k - 1 + 1 = k by omega] at b2
    have rj := r.2 (k - 1) (by omega)
    have := cx (cr (k - 1)) (by omega) rj.2.1
    exact ⟨k - 1, by omega, c, by omega, by omega⟩
theorem tk_hi (cx : CX g bg ln n) (hn : n ≤ 20) (r : CR bg n m cr) {k : Nat} {s : Nat → Bool} (hk : k < m) : (∃ j, j < m ∧ s j = true ∧ cr j ≤ cr k + ln (cr k) ∧ cr k + ln (cr k) < cr j + ln (cr j)) ↔ tcF ln m cr k = true ∧ s (k + 1) = true := by
  have rk := r.2 k hk
  have xk := cx (cr k) (by omega) rk.2.1
  constructor
  · rintro ⟨j, j1, j2, j3, j4⟩
    have rj := r.2 j j1
    have hgt : cr k < cr j := by
      rcases Nat.lt_or_ge (cr k) (cr j) with z | z
      · exact z
      · rcases Nat.lt_or_ge (cr j) (cr k) with z2 | z2
        · have := xk.2.2.2.2 (cr j) (by omega) rj.2.1 z2; omega
        · have : cr j = cr k := by omega
          rw [this] at j4; omega
    have h1 := (cx (cr j) (by omega) rj.2.1).2.2.2.2 (cr k) (by omega) rk.2.1 hgt
    have h2 := next_in (e := cr j) cx hn r (show cr k < 20 by omega) rk.2.1 (by omega) rj.2.1 rj.1
    have h3 : j = k + 1 := by omega
    subst h3
    exact ⟨tcF_iff.mpr ⟨j1, by omega⟩, j2⟩
  · rintro ⟨b, c⟩
    have b2 := tcF_iff.mp b
    have rj := r.2 (k + 1) b2.1
    have := cx (cr (k + 1)) (by omega) rj.2.1
    exact ⟨k + 1, b2.1, c, by omega, by omega⟩
/-- a chain of cars from yard a to yard b -/
def CHA (bg : Nat → Bool) (ln : Nat → Nat) (n a b : Nat) : Prop := a < b ∧ b ≤ n ∧ bg a = true ∧ (∀ y, a ≤ y → y < b → oc bg ln y) ∧ ¬ oc bg ln b ∧ (0 < a → ¬ oc bg ln (a - 1))
theorem oc_bg (cx : CX g bg ln n) (hn : n ≤ 20) {c e : Nat} (hc : c < 20) (hb : bg c = true) (he : e = c + ln c) (ho : oc bg ln e) : bg e = true := by
  obtain ⟨q, q1, q2, q3, q4⟩ := ho
  rcases Nat.lt_or_ge c q with z | z
  · have := (cx q q3 q4).2.2.2.2 c hc hb z
    rw [show e = q by omega]; exact q4
  · rcases Nat.lt_or_ge q c with z2 | z2
    · have := (cx c hc hb).2.2.2.2 q q3 q4 z2; omega
    · have e2 : q = c := by omega
      rw [e2] at q2; omega
theorem cha_end (cx : CX g bg ln n) (hn : n ≤ 20) (r : CR bg n m cr) {a b : Nat} (h : CHA bg ln n a b) : cr (cd bg b - 1) + ln (cr (cd bg b - 1)) = b ∧ cd bg a < cd bg b ∧ cd bg b ≤ m ∧ cr (cd bg b - 1) < b := by
  obtain ⟨h1, h2, h3, h4, h5, h6⟩ := h
  have i1 := cd_in h1 h3
  have i2 := cd_mono (s := bg) h2
  rw [r.1] at i2
  have rk := r.2 (cd bg b - 1) (by omega)
  have hlt := (CR_lt (a := b) r (show cd bg b - 1 < m by omega)).mp (by omega)
  have xk := cx _ (by omega) rk.2.1
  refine ⟨?_, by omega, by omega, hlt⟩
  rcases Nat.lt_or_ge (cr (cd bg b - 1) + ln (cr (cd bg b - 1))) b with z | z
  · have ha : a ≤ cr (cd bg b - 1) := by
      rcases Nat.lt_or_ge (cr (cd bg b - 1)) a with q | q
      · have := cd_in q rk.2.1; omega
      · exact q
    have hb := oc_bg cx hn (by omega) rk.2.1 rfl (h4 _ (by omega) z)
    have hn1 := next_in cx hn r (by omega) rk.2.1 rfl hb (by omega)
    have := cd_in z hb
    omega
  · rcases Nat.lt_or_ge b (cr (cd bg b - 1) + ln (cr (cd bg b - 1))) with z2 | z2
    · exact absurd ⟨_, by omega, z2, by omega, rk.2.1⟩ h5
    · omega
theorem cha_chn (cx : CX g bg ln n) (hn : n ≤ 20) (r : CR bg n m cr) {a b : Nat} (h : CHA bg ln n a b) : CHN (lwF g cr) (rwF g ln n cr) (tcF ln m cr) m (cd bg a) (cd bg b) ∧ ¬ (0 < cd bg a ∧ tcF ln m cr (cd bg a - 1) = true) ∧ ¬ (0 < cd bg b ∧ tcF ln m cr (cd bg b - 1) = true) ∧ (lwF g cr (cd bg a) = true ↔ a = 0 ∨ g (a - 1) = true) ∧ (rwF g ln n cr (cd bg b - 1) = true ↔ n ≤ b ∨ g b = true) := by
  obtain ⟨e1, e2, e3, e4⟩ := cha_end cx hn r h
  obtain ⟨h1, h2, h3, h4, h5, h6⟩ := h
  have ca := CR_at r (show a < n by omega) h3
  refine ⟨⟨e2, e3, fun k k1 k2 => ?_⟩, fun q => ?_, fun q => ?_, ?_, ?_⟩
  · have rk := r.2 k (by omega)
    have xk := cx _ (by omega) rk.2.1
    have kb := (CR_lt (a := b) r (show k < m by omega)).mp k2
    have ka : a ≤ cr k := by
      rcases Nat.lt_or_ge (cr k) a with q | q
      · have := cd_in q rk.2.1; omega
      · exact q
    refine ⟨fun q => ?_, fun q z => ?_⟩
    · have r1 := r.2 (k + 1) (by omega)
      have kb1 := (CR_lt (a := b) r (show k + 1 < m by omega)).mp q
      have hlt : cr k < cr (k + 1) := by
        have := (CR_lt (a := cr (k + 1)) r (show k < m by omega)).mp (by omega); exact this
      have hle := (cx _ (by omega) r1.2.1).2.2.2.2 (cr k) (by omega) rk.2.1 hlt
      have hb := oc_bg cx hn (by omega) rk.2.1 rfl (h4 (cr k + ln (cr k)) (by omega) (by omega))
      have hn1 := next_in cx hn r (by omega) rk.2.1 rfl hb (by omega)
      have hc := CR_at r (show cr k + ln (cr k) < n by omega) hb
      rw [hn1, rk.2.2] at hc
      refine ⟨tcF_iff.mpr ⟨by omega, hc.2.symm⟩, fun z => ?_⟩
      rcases rwF_iff.mp z with z | z
      · omega
      · have := (cx _ (by omega) hb).2.2.2.1 _ (Nat.le_refl _) (by have := (cx _ (by omega) hb).1; omega)
        rw [this] at z; exact absurd z (by decide)
    · have hlt : a < cr k := by
        have := (CR_lt (a := cr k) r (show cd bg a < m by omega)).mp (by omega)
        rw [ca.2] at this; exact this
      rcases lwF_iff.mp z with z | z
      · omega
      · obtain ⟨c, c1, c2, c3, c4⟩ := h4 (cr k - 1) (by omega) (by omega)
        have := (cx c c3 c4).2.2.2.1 (cr k - 1) c1 c2
        rw [this] at z; exact absurd z (by decide)
  · have q2 := tcF_iff.mp q.2
    rw [show cd bg a - 1 + 1 = cd bg a by omega, ca.2] at q2
    have rj := r.2 (cd bg a - 1) (by omega)
    have := cx _ (by omega) rj.2.1
    exact h6 (by omega) ⟨_, by omega, by omega, by omega, rj.2.1⟩
  · have q2 := tcF_iff.mp q.2
    rw [show cd bg b - 1 + 1 = cd bg b by omega, e1] at q2
    have rj := r.2 (cd bg b) (by omega)
    rw [← q2.2] at rj
    have := cx b (by omega) rj.2.1
    exact h5 ⟨b, Nat.le_refl _, by omega, by omega, rj.2.1⟩
  · rw [lwF_iff, ca.2]
  · rw [rwF_iff, e1]
/-- a car can have been the last of all -/
def QL (g bg : Nat → Bool) (ln cr : Nat → Nat) (n m k : Nat) : Prop := cc (lwF g cr) (rwF g ln n cr) (tcF ln m cr) k (dl (ivl 0 m) k) = true ∧ 0 < wy (lwF g cr) (rwF g ln n cr) (tcF ln m cr) m (m - 1) (dl (ivl 0 m) k)
def WW (g : Nat → Bool) (ln cr : Nat → Nat) (n m i j : Nat) : Nat := Wv (lwF g cr) (rwF g ln n cr) (tcF ln m cr) m i j
theorem sN_ge {f : Nat → Nat} {k : Nat} : ∀ {n : Nat}, k < n → f k ≤ sN f n
  | 0, h => absurd h (Nat.not_lt_zero k)
  | n + 1, h => by
    rw [sN_s]
    by_cases e : k = n
    · subst e; omega
    · have := sN_ge (f := f) (k := k) (n := n) (by omega); omega
theorem QL_pos {k : Nat} (hk : k < m) (q : QL g bg ln cr n m k) : 0 < WW g ln cr n m 0 m := by
  unfold WW
  rw [Wv_step (by omega)]
  refine Nat.lt_of_lt_of_le ?_ (sN_ge (k := k) hk)
  rw [if_pos ⟨ivl_iff.mpr (by omega), q.1⟩, Nat.sub_zero]
  exact q.2
/-- what a chain adds -/
theorem cha_orders (cx : CX g bg ln n) (hn : n ≤ 20) (r : CR bg n m cr) {a b : Nat} (h : CHA bg ln n a b) : WW g ln cr n m 0 (cd bg b) = WW g ln cr n m 0 (cd bg a) * ch (cd bg b) (cd bg b - cd bg a) * (if (a = 0 ∨ g (a - 1) = true) ∧ (n ≤ b ∨ g b = true) then 2 ^ (cd bg b - cd bg a - 1) else if (a = 0 ∨ g (a - 1) = true) ∨ (n ≤ b ∨ g b = true) then 1 else 0) := by
  obtain ⟨c, ti, tj, hl, hr⟩ := cha_chn cx hn r h
  have hij := c.1
  have hm := c.2.1
  have w1 := Wv_more (lw := lwF g cr) (rw := rwF g ln n cr) (tc := tcF ln m cr) (m := m) (i := 0) (j := cd bg b) (k := cd bg a) (by omega) hm ti
  rw [Nat.sub_zero, Nat.sub_zero] at w1
  have w2 := ch_sym (cd bg a) (cd bg b - cd bg a)
  rw [show cd bg a + (cd bg b - cd bg a) = cd bg b by omega] at w2
  unfold WW
  rw [w1, w2, Nat.mul_comm (ch _ _) (Wv _ _ _ _ _ _)]
  congr 1
  by_cases A : a = 0 ∨ g (a - 1) = true
  · by_cases B : n ≤ b ∨ g b = true
    · rw [if_pos ⟨A, B⟩]; exact Wv_both c (hl.mpr A) (hr.mpr B)
    · rw [if_neg (fun z => B z.2), if_pos (Or.inl A)]
      have := Wv_left c (hl.mpr A) (cd bg b - cd bg a) (by omega) (Or.inr (fun z => B (hr.mp z)))
      rw [show cd bg a + (cd bg b - cd bg a) = cd bg b by omega] at this; exact this
  · rw [if_neg (fun z => A z.1)]
    by_cases B : n ≤ b ∨ g b = true
    · rw [if_pos (Or.inr B)]
      have := Wv_right c (hr.mpr B) (cd bg b - cd bg a) (by omega) (Or.inr (fun z => A (hl.mp z)))
      rw [show cd bg b - (cd bg b - cd bg a) = cd bg a by omega] at this; exact this
    · rw [if_neg (fun z => z.elim A B)]
      refine Wv_none hij hm (fun k k1 k2 => ?_)
      have := c.2.2 k k1 k2
      refine ⟨fun q => ?_, fun q => ?_⟩
      · rcases Nat.lt_or_ge (cd bg a) k with z | z
        · exact this.2 z q
        · rw [show k = cd bg a by omega] at q; exact A (hl.mp q)
      · rcases Nat.lt_or_ge (k + 1) (cd bg b) with z | z
        · exact (this.1 z).2 q
        · rw [show k = cd bg b - 1 by omega] at q; exact B (hr.mp q)
theorem cha_last (cx : CX g bg ln n) (hn : n ≤ 20) (r : CR bg n m cr) {a b : Nat} (h : CHA bg ln n a b) (hW : 0 < WW g ln cr n m 0 m) {k : Nat} (hk : cd bg a ≤ k ∧ k < cd bg b) : QL g bg ln cr n m k ↔ ((a = 0 ∨ g (a - 1) = true) ∧ (n ≤ b ∨ g b = true)) ∨ ((a = 0 ∨ g (a - 1) = true) ∧ ¬ (n ≤ b ∨ g b = true) ∧ k = cd bg b - 1) ∨ (¬ (a = 0 ∨ g (a - 1) = true) ∧ (n ≤ b ∨ g b = true) ∧ k = cd bg a) := by
  obtain ⟨c, ti, tj, hl, hr⟩ := cha_chn cx hn r h
  have := last_chain c hk ti tj hW
  rw [hl, hr] at this
  exact this
end CARS
