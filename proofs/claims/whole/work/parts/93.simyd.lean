/-! YARD side by side: where the class throws nothing; the model where the class throws -/
theorem s_yardN {s x : Int} (hs : inR s) (hx : inR x) {h : ab_H} (i : INV h) (hv : ¬ ((0 ≤ s ∧ s < zv h 15 0) ∧ 0 ≤ x ∧ x ≤ 2)) : ab_X 60 mX12_yard 0 (lv_args 0 [.ref 200, .int (iI s), .int (iI x)]) [] h (fun r2 h2 => r2 = some (.int (iI 0)) ∧ zv h2 200 0 = 1 ∧ INV h2) := by
  obtain ⟨n, k, I⟩ := i
  obtain ⟨r1, r2, r3, r4, r5, r6, r7, r8, -⟩ := I.1.1
  refine c_myardN (d := 58) hs hx (by omega) ⟨rfl, zv_zp_s (by decide), n, k, IN_m ⟨eqM_zp (by unfold relM; omega), fun b j hb => zv_zp_a (by omega), fun l j => by rw [zv_zp_a (by decide)]; exact l j⟩ I⟩
theorem s_yardY {s x : Int} (hs : inR s) (hx : inR x) {h : ab_H} (i : INV h) (hv : (0 ≤ s ∧ s < zv h 15 0) ∧ 0 ≤ x ∧ x ≤ 2) : ab_X 60 mX11_yard 0 (lv_args 0 [.ref 0, .int (iI s), .int (iI x)]) [] h (fun r1 h1 => ab_X 60 mX12_yard 0 (lv_args 0 [.ref 200, .int (iI s), .int (iI x)]) [] h1 (fun r2 h2 => r2 = r1 ∧ zv h2 200 0 = 0 ∧ INV h2)) := by
  obtain ⟨n, k, I⟩ := i
  obtain ⟨r1, r2, r3, r4, r5, r6, r7, r8, -⟩ := I.1.1
  obtain ⟨h9, e9, J, I9, -⟩ := nx I cF.rf
  obtain ⟨s1, s2, s3, s4, -⟩ := J.2.2.2.2.2
  have w5 : zv h9 200 32 = n := J.1.2.2.2.2.1
  have z0 : zv h9 200 0 = 0 := by rw [← e9]; exact zv_zp_s (by decide)
  have fi : ∀ {a b : Int}, a = b → some (Value.int (iI a)) = some (Value.int (iI b)) ∧ zv h9 200 0 = 0 ∧ INV h9 := fun e => ⟨by rw [e], z0, n, k, I9⟩
  have row := RA_row J (y := s.toNat) (by omega)
  have wf := s1.1 s.toNat (by omega)
  -- either nobody stands there, or a car from p on
  have cs : (zv h 37 s.toNat = -1 ∧ zv h 38 s.toNat = -1 ∧ (zv h9 211 s.toNat = -1 ∨ zv h9 211 s.toNat = -2) ∧ (zv h9 211 s.toNat = -2 ↔ ¬ zv h 18 s.toNat = 0)) ∨ ∃ p : Nat, p < 20 ∧ zv h 37 s.toNat = p ∧ zv h 18 s.toNat = 0 ∧ zv h9 211 s.toNat = p ∧ zv h9 212 p = zv h 38 s.toNat := by
    rcases wf with w | ⟨p, w1, w2, w3⟩
    · have a : zv h 37 s.toNat = -1 := w.1
      have b : zv h 38 s.toNat = -1 := w.2
      refine Or.inl ⟨a, b, ?_, ?_⟩
      · rw [row]; split <;> omega
      · rw [row]
        by_cases g : zv h 18 s.toNat = 0
        · rw [if_pos g]; omega
        · rw [if_neg g]; exact ⟨fun _ => g, fun _ => rfl⟩
    · have a : zv h 37 s.toNat = p := w2
      obtain ⟨so, L, x1, x2, x3, x4, x5, x6⟩ := s1.2 p w1 w3
      have cov := (x6 s.toNat (by omega)).1.mpr w2
      have y := (x6 s.toNat (by omega)).2 cov
      have g : zv h 18 s.toNat = 0 := y.2
      have so2 : zv h 38 s.toNat = so := y.1
      have so3 : zv h 38 p = so := x2
      refine Or.inr ⟨p, w1, a, g, by rw [row, if_pos g]; exact a, ?_⟩
      rw [s4 p w1 (by omega), if_pos (by exact w3)]
      exact so3.trans so2.symm
  have rb : -2 ≤ zv h9 211 s.toNat ∧ zv h9 211 s.toNat < 20 := by
    rcases cs with ⟨_, _, c, _⟩ | ⟨p, p1, _, _, c, _⟩ <;> omega
  have go : ∀ v : Int, (x = 0 → (if zv h9 211 s.toNat = -1 then (0 : Int) else if zv h9 211 s.toNat = -2 then 1 else 2) = v) → (¬ x = 0 → zv h9 211 s.toNat < 0 → -1 = v) → (x = 1 → 0 ≤ zv h9 211 s.toNat → zv h9 211 s.toNat = v) → (x = 2 → 0 ≤ zv h9 211 s.toNat → zv h9 212 (zv h9 211 s.toNat).toNat = v) → ab_X 60 mX12_yard 0 (lv_args 0 [.ref 200, .int (iI s), .int (iI x)]) [] h (fun r2 h2 => r2 = some (.int (iI v)) ∧ zv h2 200 0 = 0 ∧ INV h2) := fun v v0 v1 v2 v3 =>
    c_myardY (d := 58) e9 hs hx (by omega) (by omega) rfl rb (fun q => fi (v0 q)) (fun q w => fi (v1 q w)) (fun q w => fi (v2 q w)) (fun q w => fi (v3 q w))
  refine c_yardY (d := 58) hs hx (by omega) hv (fun q g => go _ (fun _ => ?_) (fun z => absurd q z) (fun z => absurd q (by omega)) (fun z => absurd q (by omega))) (fun q g e => go _ (fun _ => ?_) (fun z => absurd q z) (fun z => absurd q (by omega)) (fun z => absurd q (by omega))) (fun q g e => go _ (fun _ => ?_) (fun z => absurd q z) (fun z => absurd q (by omega)) (fun z => absurd q (by omega))) (fun q => go _ (fun z => absurd q (by omega)) (fun _ w => ?_) (fun _ w => ?_) (fun z => absurd q (by omega))) (fun q => go _ (fun z => absurd q (by omega)) (fun _ w => ?_) (fun z => absurd q (by omega)) (fun _ w => ?_))
  · rcases cs with ⟨_, _, c, c2⟩ | ⟨p, _, _, g2, _, _⟩
    · rw [if_neg (by have := c2.mpr g; omega), if_pos (c2.mpr g)]
    · exact absurd g2 g
  · rcases cs with ⟨_, _, c, c2⟩ | ⟨p, _, e2, _, _, _⟩
    · have : ¬ zv h9 211 s.toNat = -2 := fun z => (c2.mp z) g
      rw [if_pos (by omega)]
    · omega
  · rcases cs with ⟨e2, _⟩ | ⟨p, _, e2, _, c, _⟩
    · exact absurd e2 e
    · rw [if_neg (by omega), if_neg (by omega)]
  · rcases cs with ⟨e2, _⟩ | ⟨p, _, e2, _, c, _⟩ <;> omega
  · rcases cs with ⟨e2, _, c, _⟩ | ⟨p, _, e2, _, c, _⟩ <;> omega
  · rcases cs with ⟨_, e2, _⟩ | ⟨p, _, e2, _, c, _⟩ <;> omega
  · rcases cs with ⟨_, e2, c, _⟩ | ⟨p, _, e2, _, c, d⟩
    · omega
    · rw [c, Int.toNat_natCast]; exact d
