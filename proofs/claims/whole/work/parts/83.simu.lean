/-! CALLS SIDE BY SIDE: mean, bays, ends, likely, gate -/
theorem c_meanN0 {d : Nat} {h : ab_H} {Q : ab_Q} {s : Int} (hs : inR s) (hv : ¬ (0 ≤ s ∧ s < zv h 15 3)) (K : Q (some (.long (lL (-1)))) h) : ab_X (d + 4) mX11_mean 0 (lv_args 0 [.ref 0, .int (iI s), .int (iI 0)]) [] h Q := by
  show ab_X (d + 4) mX11_mean 0 [(0, .ref 0), (1, .int (iI s)), (2, .int (iI 0))] [] h Q
  refine ab_aload_n (k := 0) dX11_mean_0 rfl rfl ?_
  refine z_getP (b := 15) dX11_mean_1 fX11_35 rfl rfl rfl ?_
  refine ab_iload_n (k := 1) dX11_mean_4 rfl rfl ?_
  refine ab_callV (As := [.int (iI s)]) (rest := []) dX11_mean_5 lX11_171 rfl (Nat.le_of_ble_eq_true rfl) (Nat.le_of_ble_eq_true rfl) rfl ?_
  refine c_hasSort (by omega) (fun g5 => ?_) (fun g5 => ?_)
  · skip
    try simp only [Int.toNat_natCast] at g5
    have gL := g5
    show ab_X (d + 4) mX11_mean 8 [(0, .ref 0), (1, .int (iI s)), (2, .int (iI 0))] [.int (iI 1)] h _
    refine z_if_ne (tgt := 15) dX11_mean_8 (by decide) (by decide) (fun _ => ?_) (fun c8 => absurd c8 (by decide))
    refine ab_sub (ls' := [(0, .ref 0), (1, .int (iI s)), (2, .int (iI 0))]) (ks := [0, 1, 2]) rfl ?_
    exact absurd gL hv
  · skip
    try simp only [Int.toNat_natCast] at g5
    have gL := g5
    show ab_X (d + 4) mX11_mean 8 [(0, .ref 0), (1, .int (iI s)), (2, .int (iI 0))] [.int (iI 0)] h _
    refine z_if_ne (tgt := 15) dX11_mean_8 (by decide) (by decide) (fun c8 => absurd c8 (by decide)) (fun _ => ?_)
    refine z_ldc2 (v := (-1)) dX11_mean_11 qX11_259 (by decide) ?_
    refine z_lret dX11_mean_14 rfl ?_
    exact K
theorem c_mmeanN0 {d : Nat} {h : ab_H} {Q : ab_Q} {h9 : ab_H} {s : Int} (e9 : zp h 200 0 0 = h9) (hs : inR s) (hv : ¬ (0 ≤ s ∧ s < zv h9 200 24)) (K : Q (some (.long (lL (-1)))) h9) : ab_X (d + 5) mX12_mean 0 (lv_args 0 [.ref 200, .int (iI s), .int (iI 0)]) [] h Q := by
  show ab_X (d + 5) mX12_mean 0 [(0, .ref 200), (1, .int (iI s)), (2, .int (iI 0))] [] h Q
  refine ab_aload_n (k := 0) dX12_mean_0 rfl rfl ?_
  refine z_iconst dX12_mean_1 ?_
  refine z_putI dX12_mean_2 fX12_111 rfl rfl ?_
  rw [e9]
  refine ab_aload_n (k := 0) dX12_mean_5 rfl rfl ?_
  refine ab_iload_n (k := 1) dX12_mean_6 rfl rfl ?_
  refine ab_callV (As := [.int (iI s)]) (rest := []) dX12_mean_7 lX12_307 rfl (Nat.le_of_ble_eq_true rfl) (Nat.le_of_ble_eq_true rfl) rfl ?_
  refine c_misSort (by omega) (fun g7 => ?_) (fun g7 => ?_)
  · skip
    try simp only [Int.toNat_natCast] at g7
    have gL := g7
    show ab_X (d + 5) mX12_mean 10 [(0, .ref 200), (1, .int (iI s)), (2, .int (iI 0))] [.int (iI 1)] h9 _
    refine z_if_eq (tgt := 35) dX12_mean_10 (by decide) (by decide) (fun c10 => absurd c10 (by decide)) (fun _ => ?_)
    refine ab_sub (ls' := [(0, .ref 200), (1, .int (iI s)), (2, .int (iI 0))]) (ks := [0, 1, 2]) rfl ?_
    exact absurd gL hv
  · skip
    try simp only [Int.toNat_natCast] at g7
    have gL := g7
    show ab_X (d + 5) mX12_mean 10 [(0, .ref 200), (1, .int (iI s)), (2, .int (iI 0))] [.int (iI 0)] h9 _
    refine z_if_eq (tgt := 35) dX12_mean_10 (by decide) (by decide) (fun _ => ?_) (fun c10 => absurd c10 (by decide))
    refine z_ldc2 (v := (-1)) dX12_mean_35 qX12_386 (by decide) ?_
    refine z_lret dX12_mean_38 rfl ?_
    exact K
theorem c_meanN1 {d : Nat} {h : ab_H} {Q : ab_Q} {s : Int} (hs : inR s) (hv : ¬ (0 ≤ s ∧ s < zv h 15 3)) (K : Q (some (.long (lL (-1)))) h) : ab_X (d + 4) mX11_mean 0 (lv_args 0 [.ref 0, .int (iI s), .int (iI 1)]) [] h Q := by
  show ab_X (d + 4) mX11_mean 0 [(0, .ref 0), (1, .int (iI s)), (2, .int (iI 1))] [] h Q
  refine ab_aload_n (k := 0) dX11_mean_0 rfl rfl ?_
  refine z_getP (b := 15) dX11_mean_1 fX11_35 rfl rfl rfl ?_
  refine ab_iload_n (k := 1) dX11_mean_4 rfl rfl ?_
  refine ab_callV (As := [.int (iI s)]) (rest := []) dX11_mean_5 lX11_171 rfl (Nat.le_of_ble_eq_true rfl) (Nat.le_of_ble_eq_true rfl) rfl ?_
  refine c_hasSort (by omega) (fun g5 => ?_) (fun g5 => ?_)
  · skip
    try simp only [Int.toNat_natCast] at g5
    have gL := g5
    show ab_X (d + 4) mX11_mean 8 [(0, .ref 0), (1, .int (iI s)), (2, .int (iI 1))] [.int (iI 1)] h _
    refine z_if_ne (tgt := 15) dX11_mean_8 (by decide) (by decide) (fun _ => ?_) (fun c8 => absurd c8 (by decide))
    refine ab_sub (ls' := [(0, .ref 0), (1, .int (iI s)), (2, .int (iI 1))]) (ks := [0, 1, 2]) rfl ?_
    exact absurd gL hv
  · skip
    try simp only [Int.toNat_natCast] at g5
    have gL := g5
    show ab_X (d + 4) mX11_mean 8 [(0, .ref 0), (1, .int (iI s)), (2, .int (iI 1))] [.int (iI 0)] h _
    refine z_if_ne (tgt := 15) dX11_mean_8 (by decide) (by decide) (fun c8 => absurd c8 (by decide)) (fun _ => ?_)
    refine z_ldc2 (v := (-1)) dX11_mean_11 qX11_259 (by decide) ?_
    refine z_lret dX11_mean_14 rfl ?_
    exact K
theorem c_mmeanN1 {d : Nat} {h : ab_H} {Q : ab_Q} {h9 : ab_H} {s : Int} (e9 : zp h 200 0 0 = h9) (hs : inR s) (hv : ¬ (0 ≤ s ∧ s < zv h9 200 24)) (K : Q (some (.long (lL (-1)))) h9) : ab_X (d + 5) mX12_mean 0 (lv_args 0 [.ref 200, .int (iI s), .int (iI 1)]) [] h Q := by
  show ab_X (d + 5) mX12_mean 0 [(0, .ref 200), (1, .int (iI s)), (2, .int (iI 1))] [] h Q
  refine ab_aload_n (k := 0) dX12_mean_0 rfl rfl ?_
  refine z_iconst dX12_mean_1 ?_
  refine z_putI dX12_mean_2 fX12_111 rfl rfl ?_
  rw [e9]
  refine ab_aload_n (k := 0) dX12_mean_5 rfl rfl ?_
  refine ab_iload_n (k := 1) dX12_mean_6 rfl rfl ?_
  refine ab_callV (As := [.int (iI s)]) (rest := []) dX12_mean_7 lX12_307 rfl (Nat.le_of_ble_eq_true rfl) (Nat.le_of_ble_eq_true rfl) rfl ?_
  refine c_misSort (by omega) (fun g7 => ?_) (fun g7 => ?_)
  · skip
    try simp only [Int.toNat_natCast] at g7
    have gL := g7
    show ab_X (d + 5) mX12_mean 10 [(0, .ref 200), (1, .int (iI s)), (2, .int (iI 1))] [.int (iI 1)] h9 _
    refine z_if_eq (tgt := 35) dX12_mean_10 (by decide) (by decide) (fun c10 => absurd c10 (by decide)) (fun _ => ?_)
    refine ab_sub (ls' := [(0, .ref 200), (1, .int (iI s)), (2, .int (iI 1))]) (ks := [0, 1, 2]) rfl ?_
    exact absurd gL hv
  · skip
    try simp only [Int.toNat_natCast] at g7
    have gL := g7
    show ab_X (d + 5) mX12_mean 10 [(0, .ref 200), (1, .int (iI s)), (2, .int (iI 1))] [.int (iI 0)] h9 _
    refine z_if_eq (tgt := 35) dX12_mean_10 (by decide) (by decide) (fun _ => ?_) (fun c10 => absurd c10 (by decide))
    refine z_ldc2 (v := (-1)) dX12_mean_35 qX12_386 (by decide) ?_
    refine z_lret dX12_mean_38 rfl ?_
    exact K
theorem mfr_sm {l : List Nat} {h h' : ab_H} {n : Nat} (s : sm l h h') (hl : 211 ∉ l) : mfr h' n = mfr h n := by
  funext y; unfold mfr; rw [s.1 211 y hl]
theorem gCM {n k : Nat} {h h9 : ab_H} (J : RA n k h h9) (hn0 : 0 < n) : ∀ y, y < 20 → gC h y = gM h9 y := fun y hy => by
  unfold gC gM
  rw [RA_row J hy hn0]
  have w := J.2.2.2.2.2.1.1 y hy
  by_cases q : zv h 18 y = 0
  · rw [if_pos q]
    have : ¬ zv h 37 y = -2 := by
      rcases w with w | ⟨p, _, w, _⟩
      · have w1 : zv h 37 y = -1 := w.1
        omega
      · have w1 : zv h 37 y = p := w
        omega
    simp [q, this]
  · rw [if_neg q]; simp [q]
theorem s_mean0 {s : Int} (hs : inR s) : SIM mX11_mean mX12_mean [.int (iI s), .int (iI 0)] := fun h ⟨n, k, I⟩ => by
  obtain ⟨r1, r2, r3, r4, r5, r6, r7, r8, r9, r10, r11, r12⟩ := I.1.1
  obtain ⟨L, l1, l2⟩ := Ln I.1 s
  have key : ∀ h1, cF h h1 → ∃ h9, zp h1 200 0 0 = h9 ∧ RA n k h h9 ∧ IN n k h9 h9 ∧ zv h9 200 32 = n ∧ zv h9 200 24 = k ∧ (0 ≤ s ∧ s < zv h 15 3 → zv h9 207 (2 * s.toNat) = L ∧ 1 ≤ L ∧ L ≤ 9) := fun h1 c => by
    obtain ⟨h9, e9, J, I9, -⟩ := nx I c
    obtain ⟨L', y1, y2⟩ := Ln J s
    exact ⟨h9, e9, J, I9, J.1.2.2.2.2.1, J.1.2.2.2.2.2.2.1, fun q => by have a := l1 q; have b := y1 q; have c := y2 q; omega⟩
  by_cases v : 0 ≤ s ∧ s < zv h 15 3
  · refine c_mean0 (d := 56) hs r4 r1 (by omega) l1 v r11 (fun h2 s2 => ?_)
    obtain ⟨h9, e9, J, I9, w5, w7, y⟩ := key _ (cF_sm s2 rfl)
    have e1 : 0 < k → zv h9 205 1 = zv h 15 1 := fun q => (J.1.2.2.2.2.2.2.2.2.1 q).1
    obtain ⟨m, rfl⟩ : ∃ m : Nat, s = m := ⟨s.toNat, by omega⟩
    have y3 := y (by omega)
    rw [Int.toNat_natCast] at y3
    refine c_mmean0 (d := 55) e9 w5 r1 (by omega) y3.1 y3.2 (by omega) (by rw [e1 (by omega)]; exact r11) (fun h3 w3 => ⟨?_, n, k, IN_m (mF_sm w3.1 rfl) I9⟩)
    rw [mfr_sm w3.1 (by decide), RA_fr J]
  · refine c_meanN0 (d := 56) hs v ?_
    obtain ⟨h9, e9, J, I9, w5, w7, y⟩ := key _ cF.rf
    exact c_mmeanN0 (d := 55) e9 hs (by omega) ⟨rfl, n, k, I9⟩
theorem s_mean1 {s : Int} (hs : inR s) : SIM mX11_mean mX12_mean [.int (iI s), .int (iI 1)] := fun h ⟨n, k, I⟩ => by
  obtain ⟨r1, r2, r3, r4, r5, r6, r7, r8, r9, r10, r11, r12⟩ := I.1.1
  obtain ⟨L, l1, l2⟩ := Ln I.1 s
  have key : ∀ h1, cF h h1 → ∃ h9, zp h1 200 0 0 = h9 ∧ RA n k h h9 ∧ IN n k h9 h9 ∧ zv h9 200 32 = n ∧ zv h9 200 24 = k ∧ (0 ≤ s ∧ s < zv h 15 3 → zv h9 207 (2 * s.toNat) = L ∧ 1 ≤ L ∧ L ≤ 9) := fun h1 c => by
    obtain ⟨h9, e9, J, I9, -⟩ := nx I c
    obtain ⟨L', y1, y2⟩ := Ln J s
    exact ⟨h9, e9, J, I9, J.1.2.2.2.2.1, J.1.2.2.2.2.2.2.1, fun q => by have a := l1 q; have b := y1 q; have c := y2 q; omega⟩
  by_cases v : 0 ≤ s ∧ s < zv h 15 3
  · refine c_mean1 (d := 56) hs r4 r1 (by omega) l1 v r11 (fun h2 s2 => ?_)
    obtain ⟨h9, e9, J, I9, w5, w7, y⟩ := key _ (cF_sm s2 rfl)
    have e1 : 0 < k → zv h9 205 1 = zv h 15 1 := fun q => (J.1.2.2.2.2.2.2.2.2.1 q).1
    obtain ⟨m, rfl⟩ : ∃ m : Nat, s = m := ⟨s.toNat, by omega⟩
    have y3 := y (by omega)
    rw [Int.toNat_natCast] at y3
    refine c_mmean1 (d := 55) e9 w5 r1 (by omega) y3.1 y3.2 (by omega) (by rw [e1 (by omega)]; exact r11) (fun h3 w3 => ⟨?_, n, k, IN_m (mF_sm w3.1 rfl) I9⟩)
    rw [mfr_sm w3.1 (by decide), RA_fr J, e1 (by omega)]
  · refine c_meanN1 (d := 56) hs v ?_
    obtain ⟨h9, e9, J, I9, w5, w7, y⟩ := key _ cF.rf
    exact c_mmeanN1 (d := 55) e9 hs (by omega) ⟨rfl, n, k, I9⟩
theorem s_bays {s x : Int} (hs : inR s) (hx : inR x) : SIM mX11_bays mX12_bays [.int (iI s), .int (iI x)] := fun h ⟨n, k, I⟩ => by
  obtain ⟨r1, r2, r3, r4, r5, r6, r7, r8, r9, r10, r11, r12⟩ := I.1.1
  obtain ⟨L, l1, l2⟩ := Ln I.1 s
  have key : ∀ h1, cF h h1 → ∃ h9, zp h1 200 0 0 = h9 ∧ RA n k h h9 ∧ IN n k h9 h9 ∧ zv h9 200 32 = n ∧ zv h9 200 24 = k ∧ (0 ≤ s ∧ s < zv h 15 3 → zv h9 207 (2 * s.toNat) = L ∧ 1 ≤ L ∧ L ≤ 9) := fun h1 c => by
    obtain ⟨h9, e9, J, I9, -⟩ := nx I c
    obtain ⟨L', y1, y2⟩ := Ln J s
    exact ⟨h9, e9, J, I9, J.1.2.2.2.2.1, J.1.2.2.2.2.2.2.1, fun q => by have a := l1 q; have b := y1 q; have c := y2 q; omega⟩
  by_cases v : (0 ≤ s ∧ s < zv h 15 3) ∧ 1 ≤ x ∧ x ≤ 9
  · obtain ⟨b, rfl⟩ : ∃ b : Nat, x = b := ⟨x.toNat, by omega⟩
    obtain ⟨h9, e9, J, I9, w5, w7, y⟩ := key _ cF.rf
    obtain ⟨m, rfl⟩ : ∃ m : Nat, s = m := ⟨s.toNat, by omega⟩
    have y3 := y (by omega)
    rw [Int.toNat_natCast] at y3
    refine c_bays0 (d := 57) hs r4 r1 (by omega) l1 v.1 (by omega) (fun w => ?_) (fun w => ?_)
    · exact c_mbays (d := 57) e9 w5 r1 (by omega) y3.1 y3.2.2 (by omega) (by omega) (fun z => ⟨by rw [RA_fr J], n, k, I9⟩) (fun z => absurd w z)
    · exact c_mbays (d := 57) e9 w5 r1 (by omega) y3.1 y3.2.2 (by omega) (by omega) (fun z => absurd z w) (fun z => ⟨rfl, n, k, I9⟩)
  · refine c_bays_ (d := 57) hs hx v ?_
    obtain ⟨h9, e9, J, I9, w5, w7, y⟩ := key _ cF.rf
    exact c_mbays0 (d := 57) e9 hs hx (by omega) ⟨rfl, n, k, I9⟩
theorem s_ends {s x : Int} (hs : inR s) (hx : inR x) : SIM mX11_ends mX12_ends [.int (iI s), .int (iI x)] := fun h ⟨n, k, I⟩ => by
  obtain ⟨r1, r2, r3, r4, r5, r6, r7, r8, r9, r10, r11, r12⟩ := I.1.1
  obtain ⟨L, l1, l2⟩ := Ln I.1 s
  have key : ∀ h1, cF h h1 → ∃ h9, zp h1 200 0 0 = h9 ∧ RA n k h h9 ∧ IN n k h9 h9 ∧ zv h9 200 32 = n ∧ zv h9 200 24 = k ∧ (0 ≤ s ∧ s < zv h 15 3 → zv h9 207 (2 * s.toNat) = L ∧ 1 ≤ L ∧ L ≤ 9) := fun h1 c => by
    obtain ⟨h9, e9, J, I9, -⟩ := nx I c
    obtain ⟨L', y1, y2⟩ := Ln J s
    exact ⟨h9, e9, J, I9, J.1.2.2.2.2.1, J.1.2.2.2.2.2.2.1, fun q => by have a := l1 q; have b := y1 q; have c := y2 q; omega⟩
  refine c_ends (d := 56) hs hx r4 r1 (by omega) l1 (fun q => ?_) (fun q w h2 s2 => ?_) (fun q w h2 s2 => ?_)
  · obtain ⟨h9, e9, J, I9, w5, w7, y⟩ := key _ cF.rf
    exact c_mends0 (d := 56) e9 hs hx (by omega) ⟨rfl, n, k, I9⟩
  · obtain ⟨h9, e9, J, I9, w5, w7, y⟩ := key _ (cF_sm s2 rfl)
    subst w
    obtain ⟨m, rfl⟩ : ∃ m : Nat, s = m := ⟨s.toNat, by omega⟩
    have y3 := y (by omega)
    rw [Int.toNat_natCast] at y3
    refine c_mends (d := 56) e9 w5 r1 (by omega) y3.1 y3.2 (by omega) (by omega) (fun h3 w3 => ⟨?_, n, k, IN_m (mF_sm w3.1 rfl) I9⟩)
    rw [mfr_sm w3.1 (by decide), RA_fr J]
    simp only [if_true]
  · obtain ⟨h9, e9, J, I9, w5, w7, y⟩ := key _ (cF_sm s2 rfl)
    subst w
    obtain ⟨m, rfl⟩ : ∃ m : Nat, s = m := ⟨s.toNat, by omega⟩
    have y3 := y (by omega)
    rw [Int.toNat_natCast] at y3
    refine c_mends (d := 56) e9 w5 r1 (by omega) y3.1 y3.2 (by omega) (by omega) (fun h3 w3 => ⟨?_, n, k, IN_m (mF_sm w3.1 rfl) I9⟩)
    rw [mfr_sm w3.1 (by decide), RA_fr J]
    simp only [show ¬ (1 : Int) = 0 by decide, if_false]
theorem s_likely {s x : Int} (hs : inR s) (hx : inR x) : SIM mX11_likely mX12_likely [.int (iI s), .int (iI x)] := fun h ⟨n, k, I⟩ => by
  obtain ⟨r1, r2, r3, r4, r5, r6, r7, r8, r9, r10, r11, r12⟩ := I.1.1
  obtain ⟨L, l1, l2⟩ := Ln I.1 s
  have key : ∀ h1, cF h h1 → ∃ h9, zp h1 200 0 0 = h9 ∧ RA n k h h9 ∧ IN n k h9 h9 ∧ zv h9 200 32 = n ∧ zv h9 200 24 = k ∧ (0 ≤ s ∧ s < zv h 15 3 → zv h9 207 (2 * s.toNat) = L ∧ 1 ≤ L ∧ L ≤ 9) := fun h1 c => by
    obtain ⟨h9, e9, J, I9, -⟩ := nx I c
    obtain ⟨L', y1, y2⟩ := Ln J s
    exact ⟨h9, e9, J, I9, J.1.2.2.2.2.1, J.1.2.2.2.2.2.2.1, fun q => by have a := l1 q; have b := y1 q; have c := y2 q; omega⟩
  refine c_likely (d := 56) hs hx r4 r1 (by omega) l1 (fun q => ?_) (fun q h2 h3 h4 s2 s3 s4 => ?_)
  · obtain ⟨h9, e9, J, I9, w5, w7, y⟩ := key _ cF.rf
    exact c_mlikely0 (d := 56) e9 hs hx (by omega) ⟨rfl, n, k, I9⟩
  · have c3 : cF h2 h3 := ⟨fun b j r => s3.1 b j (by unfold rws; unfold relC at r; omega), fun b j hb => s3.1 b j (by unfold rws; omega)⟩
    obtain ⟨h9, e9, J, I9, w5, w7, y⟩ := key _ (((cF_sm s2 rfl).tr c3).tr (cF_sm s4 rfl))
    obtain ⟨m, rfl⟩ : ∃ m : Nat, s = m := ⟨s.toNat, by omega⟩
    have y3 := y (by omega)
    rw [Int.toNat_natCast] at y3
    refine c_mlikely (d := 56) e9 w5 r1 (by omega) y3.1 y3.2 (by omega) ⟨hx, q.2⟩ (fun z => ⟨?_, n, k, I9⟩) (fun z h5 s5 => ⟨?_, n, k, IN_m (mF_sm s5 rfl) I9⟩)
    · rw [if_neg (by omega)]
    · rw [if_pos (by omega), RA_fr J]
theorem s_gate {s x : Int} (hs : inR s) (hx : inR x) : SIM mX11_gate mX12_gate [.int (iI s), .int (iI x)] := fun h ⟨n, k, I⟩ => by
  obtain ⟨r1, r2, r3, r4, r5, r6, r7, r8, r9, r10, r11, r12⟩ := I.1.1
  obtain ⟨L, l1, l2⟩ := Ln I.1 s
  have key : ∀ h1, cF h h1 → ∃ h9, zp h1 200 0 0 = h9 ∧ RA n k h h9 ∧ IN n k h9 h9 ∧ zv h9 200 32 = n ∧ zv h9 200 24 = k ∧ (0 ≤ s ∧ s < zv h 15 3 → zv h9 207 (2 * s.toNat) = L ∧ 1 ≤ L ∧ L ≤ 9) := fun h1 c => by
    obtain ⟨h9, e9, J, I9, -⟩ := nx I c
    obtain ⟨L', y1, y2⟩ := Ln J s
    exact ⟨h9, e9, J, I9, J.1.2.2.2.2.1, J.1.2.2.2.2.2.2.1, fun q => by have a := l1 q; have b := y1 q; have c := y2 q; omega⟩
  refine c_gate (d := 56) hs hx r4 r1 (by omega) l1 (fun y hy => (I.1.2.2.2.2.1.1 y hy).1) (fun q => ?_) (fun q h2 s2 => ?_)
  · obtain ⟨h9, e9, J, I9, w5, w7, y⟩ := key _ cF.rf
    exact c_mgate0 (d := 55) e9 hs hx (by omega) ⟨rfl, n, k, I9⟩
  · obtain ⟨h9, e9, J, I9, w5, w7, y⟩ := key _ (cF_sm s2 rfl)
    obtain ⟨m, rfl⟩ : ∃ m : Nat, s = m := ⟨s.toNat, by omega⟩
    have y3 := y (by omega)
    rw [Int.toNat_natCast] at y3
    refine c_mgate (d := 55) e9 w5 r1 (by omega) y3.1 y3.2 (by omega) q.2 (fun h5 s5 x5 => ⟨?_, n, k, IN_m ⟨fun b j r => ?_, fun b j hb => s5.1 b j (by simp only [List.mem_cons, List.not_mem_nil, or_false]; omega), fun l j => by rw [s5.1 204 j (by decide)]; exact l j⟩ I9⟩)
    · rw [GT_congr r1 (gCM J (by omega)) n (Nat.le_refl n)]
    · by_cases eb : b = 211
      · subst eb; exact x5 j
      · exact s5.1 b j (by simp only [List.mem_cons, List.not_mem_nil, or_false]; unfold relM at r; omega)
