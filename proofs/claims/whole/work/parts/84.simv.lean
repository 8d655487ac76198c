/-! CALLS SIDE BY SIDE: where, park, stop, leave -/
theorem c_leave_ {d : Nat} {h : ab_H} {Q : ab_Q} {s : Int} (hs : inR s) (hv : ¬ (0 ≤ s ∧ s < zv h 15 0)) (K : Q (some (.int (iI (-1)))) h) : ab_X (d + 3) mX11_leave 0 (lv_args 0 [.ref 0, .int (iI s)]) [] h Q := by
  show ab_X (d + 3) mX11_leave 0 [(0, .ref 0), (1, .int (iI s))] [] h Q
  refine ab_aload_n (k := 0) dX11_leave_0 rfl rfl ?_
  refine z_getP (b := 15) dX11_leave_1 fX11_35 rfl rfl rfl ?_
  refine ab_iload_n (k := 1) dX11_leave_4 rfl rfl ?_
  refine ab_callV (As := [.int (iI s)]) (rest := []) dX11_leave_5 lX11_155 rfl (Nat.le_of_ble_eq_true rfl) (Nat.le_of_ble_eq_true rfl) rfl ?_
  refine c_hasYard (by omega) (fun g5 => ?_) (fun g5 => ?_)
  · skip
    try simp only [Int.toNat_natCast] at g5
    have gL := g5
    show ab_X (d + 3) mX11_leave 8 [(0, .ref 0), (1, .int (iI s))] [.int (iI 1)] h _
    refine z_if_ne (tgt := 13) dX11_leave_8 (by decide) (by decide) (fun _ => ?_) (fun c8 => absurd c8 (by decide))
    refine ab_sub (ls' := [(0, .ref 0), (1, .int (iI s))]) (ks := [0, 1]) rfl ?_
    exact absurd gL hv
  · skip
    try simp only [Int.toNat_natCast] at g5
    have gL := g5
    show ab_X (d + 3) mX11_leave 8 [(0, .ref 0), (1, .int (iI s))] [.int (iI 0)] h _
    refine z_if_ne (tgt := 13) dX11_leave_8 (by decide) (by decide) (fun c8 => absurd c8 (by decide)) (fun _ => ?_)
    refine z_iconst dX11_leave_11 ?_
    refine z_iret dX11_leave_12 rfl ?_
    exact K
theorem c_mleave_ {d : Nat} {h : ab_H} {Q : ab_Q} {h9 : ab_H} {s : Int} (e9 : zp h 200 0 0 = h9) (hs : inR s) (hv : ¬ (0 ≤ s ∧ s < zv h9 200 32)) (K : Q (some (.int (iI (-1)))) h9) : ab_X (d + 2) mX12_leave 0 (lv_args 0 [.ref 200, .int (iI s)]) [] h Q := by
  show ab_X (d + 2) mX12_leave 0 [(0, .ref 200), (1, .int (iI s))] [] h Q
  refine ab_aload_n (k := 0) dX12_leave_0 rfl rfl ?_
  refine z_iconst dX12_leave_1 ?_
  refine z_putI dX12_leave_2 fX12_111 rfl rfl ?_
  rw [e9]
  refine ab_aload_n (k := 0) dX12_leave_5 rfl rfl ?_
  refine ab_iload_n (k := 1) dX12_leave_6 rfl rfl ?_
  refine ab_callV (As := [.int (iI s)]) (rest := []) dX12_leave_7 lX12_302 rfl (Nat.le_of_ble_eq_true rfl) (Nat.le_of_ble_eq_true rfl) rfl ?_
  refine c_misYard (by omega) (fun g7 => ?_) (fun g7 => ?_)
  · skip
    try simp only [Int.toNat_natCast] at g7
    have gL := g7
    show ab_X (d + 2) mX12_leave 10 [(0, .ref 200), (1, .int (iI s))] [.int (iI 1)] h9 _
    refine z_if_eq (tgt := 22) dX12_leave_10 (by decide) (by decide) (fun c10 => absurd c10 (by decide)) (fun _ => ?_)
    refine ab_sub (ls' := [(0, .ref 200), (1, .int (iI s))]) (ks := [0, 1]) rfl ?_
    exact absurd gL hv
  · skip
    try simp only [Int.toNat_natCast] at g7
    have gL := g7
    show ab_X (d + 2) mX12_leave 10 [(0, .ref 200), (1, .int (iI s))] [.int (iI 0)] h9 _
    refine z_if_eq (tgt := 22) dX12_leave_10 (by decide) (by decide) (fun _ => ?_) (fun c10 => absurd c10 (by decide))
    refine z_iconst dX12_leave_22 ?_
    refine z_iret dX12_leave_23 rfl ?_
    first | exact K | exact absurd gL hv
def qC (b j : Nat) : Prop := (b = 0 ∧ (j = 5 ∨ j = 6)) ∨ (20 ≤ b ∧ b < 36 ∧ b % 4 ≠ 3 ∧ (b % 4 = 0 → j = 3))
def qM (b j : Nat) : Prop := (b = 200 ∧ (j = 7 ∨ j = 33)) ∨ b = 202 ∨ b = 203
theorem RQ_q {hc hm hc' hm' : ab_H} (c : eqD qC hc hc') (m : eqD qM hm hm') (r : RQ hc hm) : RQ hc' hm' := by
  obtain ⟨rc, a1, a2, a3, a4, a5, a6⟩ := r
  have e5 := c 0 5 (by unfold qC; omega)
  have e6 := c 0 6 (by unfold qC; omega)
  have e7 := m 200 7 (by unfold qM; omega)
  have e3 := m 200 33 (by unfold qM; omega)
  refine ⟨rc, a1, e5.trans a2, e7.trans a3, by rw [e6, e3]; exact a4, by rw [e6]; exact a5, fun i hi => ?_⟩
  obtain ⟨x, b1, b2, T, z, p', d1, d2, d3, d4⟩ := a6 i hi
  exact ⟨x, b1, ⟨(c _ 3 (by unfold qC; omega)).trans b2.1, fun j hj => ⟨(c _ j (by unfold qC; omega)).trans (b2.2 j hj).1, (c _ j (by unfold qC; omega)).trans (b2.2 j hj).2⟩⟩, T, z, p', d1, (m _ _ (by unfold qM; omega)).trans d2, fun j hj => (m _ _ (by unfold qM; omega)).trans (d3 j hj), d4⟩
/-- the end of two calls that changed the state -/
theorem fin2 {n k : Nat} {h hc hm : ab_H} (I : IN n k h h) (r : RA n k hc hm) (d : dn hc hm) (qc : eqD qC h hc) (qm : eqD qM h hm) (l : lb hm) : INV hm :=
  ⟨n, k, RA_eq (dn_C d) eqM.refl r, RQ_q (fun b j q => (d b j (by unfold qC at q; omega)).trans (qc b j q)) qm I.2.1, l⟩
theorem kep_up {h h' : ab_H} (c : kepR h h') : up h h' := fun b j hb => kep_o c (by omega)
theorem sm_up {l : List Nat} {h h' : ab_H} (s : sm l h h') (hl : l.all (fun b => decide (b < 200)) = true) : up h h' := fun b j hb => s.1 b j (fun q => by have := List.all_eq_true.mp hl b q; simp only [decide_eq_true_eq] at this; omega)
theorem sm_dn {l : List Nat} {h h' : ab_H} (s : sm l h h') (hl : l.all (fun b => decide (200 ≤ b)) = true) : dn h h' := fun b j hb => s.1 b j (fun q => by have := List.all_eq_true.mp hl b q; simp only [decide_eq_true_eq] at this; omega)
theorem up.tr {a b c : ab_H} (x : up a b) (y : up b c) : up a c := fun p q r => (y p q r).trans (x p q r)
theorem dn.tr {a b c : ab_H} (x : dn a b) (y : dn b c) : dn a c := fun p q r => (y p q r).trans (x p q r)
theorem rem_q {h h' : ab_H} {a : Nat} (r : remR h h' a) : eqD qM h h' := fun b j q => by
  by_cases e : b = 200
  · subst e; exact r.2.1 j (by unfold qM at q; omega)
  · exact r.1.1 b j (by simp only [List.mem_cons, List.not_mem_nil, or_false]; unfold qM at q; omega)
theorem sm_q {l : List Nat} {h h' : ab_H} (s : sm l h h') (hl : l.all (fun b => decide (¬ (b = 200 ∨ b = 202 ∨ b = 203))) = true) : eqD qM h h' := fun b j q => s.1 b j (fun z => by have := List.all_eq_true.mp hl b z; simp only [decide_eq_true_eq] at this; unfold qM at q; omega)
theorem sm_qC {l : List Nat} {h h' : ab_H} (s : sm l h h') (hl : l.all (fun b => decide (36 ≤ b)) = true) : eqD qC h h' := fun b j q => s.1 b j (fun z => by have := List.all_eq_true.mp hl b z; simp only [decide_eq_true_eq] at this; unfold qC at q; omega)
theorem mF_q {h h' : ab_H} (m : mF h h') : eqD qM h h' := fun b j q => m.1 b j (by unfold qM at q; unfold relM; omega)
theorem cF_q {h h' : ab_H} (m : cF h h') : eqD qC h h' := fun b j q => m.1 b j (by unfold qC at q; unfold relC; omega)
theorem up_q {h h' : ab_H} (u : up h h') : eqD qM h h' := fun b j q => u b j (by unfold qM at q; omega)
theorem kep_q {h h' : ab_H} (c : kepR h h') : eqD qC h h' := fun b j q => kep_o c (by unfold qC at q; omega)
theorem nx2 {n k : Nat} {h h1 : ab_H} (I : IN n k h h) (u : up h h1) : ∃ h9, zp h1 200 0 0 = h9 ∧ RA n k h h9 ∧ eqM h h9 ∧ dn h1 h9 ∧ lb h9 ∧ zv h9 200 32 = n ∧ zv h9 200 24 = k := by
  have m : eqM h (zp h1 200 0 0) := (up_M u).trans mF_9.1
  have J := RA_eq eqC.refl m I.1
  exact ⟨_, rfl, J, m, mF_9.2.1, mF_9.2.2 (up_lb u I.2.2), J.1.2.2.2.2.1, J.1.2.2.2.2.2.2.1⟩
theorem eqM_q {h h' : ab_H} (m : eqM h h') : eqD qM h h' := fun b j q => m b j (by unfold qM at q; unfold relM; omega)
theorem rule_at {h : ab_H} (r : RQ h h) : ∃ c, rOK h (zv h 0 6) (zv h 0 5) c ∧ (0 ≤ zv h 0 6 → MRu h (zv h 0 6) c) ∧ (-1 ≤ zv h 0 6 ∧ zv h 0 6 < 4) ∧ zv h 200 33 = zv h 0 6 := by
  obtain ⟨rc, a1, a2, a3, a4, a5, a6⟩ := r
  by_cases q : 0 ≤ zv h 0 6
  · obtain ⟨c, b1, b2, b3⟩ := a6 (zv h 0 6).toNat (by omega)
    rw [show (((zv h 0 6).toNat : Nat) : Int) = zv h 0 6 by omega] at b3
    exact ⟨c, ⟨rfl, rfl, a5.1, by omega, by omega, b1, fun _ => b2⟩, fun _ => b3, by omega, a4.symm⟩
  · exact ⟨[], ⟨rfl, rfl, a5.1, by omega, by omega, by decide, fun z => absurd z q⟩, fun z => absurd z q, by omega, a4.symm⟩
theorem MRu_M {h h' : ab_H} {hd : Int} {c : List (Int × Int)} (m : eqM h h') (r : MRu h hd c) : MRu h' hd c := by
  obtain ⟨T, z, p', a, b, e, f⟩ := r
  exact ⟨T, z, p', a, (m _ _ (by unfold relM; omega)).trans b, fun i hi => (m _ _ (by unfold relM; omega)).trans (e i hi), f⟩
theorem RA_rowW {n k : Nat} {h h9 : ab_H} (J : RA n k h h9) : rowW h9 n := by
  have hn := J.1.1
  obtain ⟨s1, s2, s3, s4, -⟩ := J.2.2.2.2.2
  refine ⟨fun p y hp hy e => ?_, fun p hp e => ?_⟩
  · have a := RA_row J (y := y) (by omega)
    have b := RA_row J (y := p) (by omega)
    rw [a] at e
    by_cases g : zv h 18 y = 0
    · rw [if_pos g] at e
      rcases s1.1 y (by omega) with w | ⟨p', w1, w2, w3⟩
      · have w1 : zv h 37 y = -1 := w.1
        omega
      · have w4 : zv h 37 y = p' := w2
        have : p' = p := by omega
        subst this
        have w5 : zv h 37 p' = p' := w3
        obtain ⟨s, L, x1, x2, x3, x4, x5, x6⟩ := s1.2 p' w1 w3
        have g2 := ((x6 p' w1).2 ⟨Nat.le_refl _, by omega⟩).2
        rw [b, if_pos g2, w5]
    · rw [if_neg g] at e; omega
  · have b := RA_row J (y := p) (by omega)
    rw [b] at e
    have c := s4 p (by omega) (by omega)
    by_cases g : zv h 18 p = 0
    · rw [if_pos g] at e
      rw [c, if_neg (by show ¬ zv h 37 p = (p : Int); omega)]
    · rw [if_neg g] at e; omega
theorem s_where {s x : Int} (hs : inR s) (hx : inR x) : SIM mX11_where mX12_where [.int (iI s), .int (iI x)] := fun h ⟨n, k, I⟩ => by
  obtain ⟨r1, r2, r3, r4, r5, r6, r7, r8, -⟩ := I.1.1
  obtain ⟨L, l1, l2⟩ := Ln I.1 s
  obtain ⟨c, c1, c2, c3, c4⟩ := rule_at I.2.1
  refine c_where (d := 53) hs hx r4 r1 (by omega) l1 c1 rfl (fun q => ?_) (fun q h1 D => ?_)
  · obtain ⟨h9, e9, J, M, d9, b9, w5, w7⟩ := nx2 I cF.rf.2
    have l9 : 0 ≤ s ∧ s < zv h9 200 24 → zv h9 207 (2 * s.toNat) = L ∧ 1 ≤ L ∧ L ≤ 9 := fun q => by rw [M 207 _ (by unfold relM; omega)]; exact l2 (by omega)
    exact c_mwhere (d := 23) (hd := zv h 0 6) (nc := zv h 36 2) (c := c) e9 hs hx w5 r1 (by omega) l9 ((M 200 33 (by unfold relM; omega)).trans c4) c3 (fun z => MRu_M M (c2 z)) (RA_cars J).symm (RA_rowW J) (fun z => ⟨rfl, n, k, RA_eq (dn_C d9) eqM.refl J, RQ_eq (dn_C d9) M I.2.1, b9⟩) (fun z => absurd (by omega) q)
  · obtain ⟨h9, e9, J, M, d9, b9, w5, w7⟩ := nx2 I (DC_cF D).2
    have l9 : 0 ≤ s ∧ s < zv h9 200 24 → zv h9 207 (2 * s.toNat) = L ∧ 1 ≤ L ∧ L ≤ 9 := fun q => by rw [M 207 _ (by unfold relM; omega)]; exact l2 (by omega)
    refine c_mwhere (d := 23) (hd := zv h 0 6) (nc := zv h 36 2) (c := c) e9 hs hx w5 r1 (by omega) l9 ((M 200 33 (by unfold relM; omega)).trans c4) c3 (fun z => MRu_M M (c2 z)) (RA_cars J).symm (RA_rowW J) (fun z => absurd (by omega) z) (fun z h2 D2 B2 => ⟨?_, ?_⟩)
    · rw [RA_fr J, cho_eq r1 (fun y hy => mfr_end hy) (l1 q.1).2 q.2 c3.1 B2]
    · have I9 : IN n k h9 h9 := ⟨RA_eq ((DC_cF D).1.trans (dn_C d9)) eqM.refl J, RQ_eq ((DC_cF D).1.trans (dn_C d9)) M I.2.1, b9⟩
      exact ⟨n, k, IN_m (DM_mF D2) I9⟩
theorem s_park {s x : Int} (hs : inR s) (hx : inR x) : SIM mX11_park mX12_park [.int (iI s), .int (iI x)] := fun h ⟨n, k, I⟩ => by
  obtain ⟨r1, r2, r3, r4, r5, r6, r7, r8, -⟩ := I.1.1
  obtain ⟨L, l1, l2⟩ := Ln I.1 s
  obtain ⟨c, c1, c2, c3, c4⟩ := rule_at I.2.1
  obtain ⟨a, cq, p1, p2, p3, p4, p5, p6⟩ := I.1.2.2.2.1
  have hcar : 0 ≤ zv h 36 2 ∧ zv h 36 2 ≤ 1000 := by
    have := cB_le (zv h 211) n
    rw [RA_cars I.1]; omega
  have go : ∀ h1 h9, zp h1 200 0 0 = h9 → RA n k h h9 → eqM h h9 → zv h9 200 32 = n → zv h9 200 24 = k → ∀ (Q : ab_Q), (¬ ((0 ≤ s ∧ s < zv h 15 3) ∧ 1 ≤ x ∧ x ≤ 4) → Q (some (.int (iI (-1)))) h9) → (((0 ≤ s ∧ s < zv h 15 3) ∧ 1 ≤ x ∧ x ≤ 4) → ∀ h', DM h9 h' → (cbf (fC (cfr h n) x (zv h 0 6) c L (zv h 36 2)) (pls (cfr h n) L n)).1 = -1 → Q (some (.int (iI (-1)))) h') → (((0 ≤ s ∧ s < zv h 15 3) ∧ 1 ≤ x ∧ x ≤ 4) → ∀ (m p : Nat) j1 jk j2, s = m → (cbf (fC (cfr h n) x (zv h 0 6) c L (zv h 36 2)) (pls (cfr h n) L n)).1 = p → DM h9 j1 → remR j1 jk a → mstR jk j2 p L m → Q (some (.int (iI (p : Int)))) j2) → ab_X 60 mX12_park 0 (lv_args 0 [.ref 200, .int (iI s), .int (iI x)]) [] h1 Q := fun h1 h9 e9 J M w5 w7 Q q0 q1 q2 => by
    have l9 : 0 ≤ s ∧ s < zv h9 200 24 → zv h9 207 (2 * s.toNat) = L ∧ 1 ≤ L ∧ L ≤ 9 := fun q => by rw [M 207 _ (by unfold relM; omega)]; exact l2 (by omega)
    have ec : ((0 ≤ s ∧ s < zv h 15 3) ∧ 1 ≤ x ∧ x ≤ 4) → (∀ p ∈ pU (mfr h9 n) L n, mil (gW (mfr h9 n) x (zv h 0 6) c L n (zv h 36 2) p)) → (cbf (fC (cfr h n) x (zv h 0 6) c L (zv h 36 2)) (pls (cfr h n) L n)).1 = (mbf (gW (mfr h9 n) x (zv h 0 6) c L n (zv h 36 2)) (pU (mfr h9 n) L n)).1 := fun q B => by
      rw [RA_fr J, cho_eq r1 (fun y hy => mfr_end hy) (l1 q.1).2 q.2 c3.1 B]
    exact c_mpark (d := 22) (hd := zv h 0 6) (nc := zv h 36 2) (c := c) e9 hs hx w5 r1 (by omega) l9 ((M 200 33 (by unfold relM; omega)).trans c4) c3 (fun z => MRu_M M (c2 z)) (RA_cars J).symm (RA_rowW J) ((M 200 37 (by unfold relM; omega)).trans p4) p1 (fun z => q0 (by omega)) (fun z h' D B e => q1 (by omega) h' D (by rw [ec (by omega) B]; exact e)) (fun z m p j1 jk j2 e1 e2 _ D B re ms => q2 (by omega) m p j1 jk j2 e1 (by rw [ec (by omega) B]; exact e2) D re ms)
  refine c_park (d := 53) hs hx r4 r1 (by omega) l1 c1 rfl p5 p2 (by omega) hcar.2 (fun q => ?_) (fun q h1 D e => ?_) (fun q p h1 hk h2 e hp D ke en => ?_)
  · obtain ⟨h9, e9, J, M, d9, b9, w5, w7⟩ := nx2 I cF.rf.2
    exact go h h9 e9 J M w5 w7 _ (fun z => ⟨rfl, fin2 I J d9 (fun _ _ _ => rfl) (eqM_q M) b9⟩) (fun z => absurd z q) (fun z => absurd z q)
  · obtain ⟨h9, e9, J, M, d9, b9, w5, w7⟩ := nx2 I (DC_cF D).2
    refine go h1 h9 e9 J M w5 w7 _ (fun z => absurd q z) (fun z h' D' _ => ⟨rfl, ?_⟩) (fun z m p j1 jk j2 _ e2 => absurd (e.symm.trans e2) (by omega))
    exact fin2 I (RA_eq (DC_cF D).1 (DM_mF D').1 J) (d9.tr (DM_mF D').2.1) (cF_q (DC_cF D)) ((eqM_q M).trans (mF_q (DM_mF D'))) (D'.2.2 b9)
  · have u : up h h2 := ((DC_cF D).2.tr (kep_up ke)).tr (sm_up en.1 rfl)
    obtain ⟨h9, e9, J, M, d9, b9, w5, w7⟩ := nx2 I u
    refine go h2 h9 e9 J M w5 w7 _ (fun z => absurd q z) (fun z h' D' e' => absurd (e'.symm.trans e) (by omega)) (fun z m p' j1 jk j2 em ep D' re ms => ?_)
    have epp : p' = p := by have := ep.symm.trans e; omega
    subst epp
    subst em
    refine ⟨rfl, ?_⟩
    have R1 : RA n k h1 j1 := RA_eq (DC_cF D).1 (DM_mF D').1 J
    have R2 : RA n k hk jk := sim_keep R1 ke ((D'.2.1 37 (by decide) (by decide)).trans ((M 200 37 (by unfold relM; omega)).trans p4)) re
    have hLb := (l1 q.1)
    rw [Int.toNat_natCast] at hLb
    have haf := (List.mem_filter.mp hp).2
    have ecf : cfr hk n = cfr h n := funext (fun y => by
      unfold cfr
      rw [kep_o ke (by omega), kep_o ke (by omega), D 18 y (by omega), D 37 y (by omega)])
    have R3 : RA n k h2 j2 := sim_enter R2 (by omega) ((kep_o ke (by omega)).trans ((D 16 _ (by omega)).trans hLb.1)) ((allf_cfr hLb.2.1).mp haf).1 (by rw [ecf]; exact haf) en ms
    exact fin2 I R3 (((d9.tr (DM_mF D').2.1).tr (sm_dn re.1 rfl)).tr (sm_dn ms.1 rfl)) (((cF_q (DC_cF D)).trans (kep_q ke)).trans (sm_qC en.1 rfl)) ((((eqM_q M).trans (mF_q (DM_mF D'))).trans (rem_q re)).trans (sm_q ms.1 rfl)) (fun j => by rw [ms.1.1 204 j (by decide), re.1.1 204 j (by decide)]; exact D'.2.2 b9 j)
