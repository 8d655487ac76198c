/-! THE RELATION OVER ALL CALLS -/
def RQ (hc hm : ab_H) : Prop := ∃ rc : Nat, rc ≤ 4 ∧ zv hc 0 5 = rc ∧ zv hm 200 7 = rc ∧ zv hc 0 6 = zv hm 200 33 ∧ (-1 ≤ zv hc 0 6 ∧ zv hc 0 6 < rc) ∧ ∀ i : Nat, i < rc → ∃ c : List (Int × Int), c.length ≤ 160 ∧ CCr (20 + 4 * i) hc c ∧ MRu hm (i : Int) c
def IN (n k : Nat) (hc hm : ab_H) : Prop := RA n k hc hm ∧ RQ hc hm ∧ lb hm
def INV (h : ab_H) : Prop := ∃ n k : Nat, IN n k h h
theorem RQ_eq {hc hm hc' hm' : ab_H} (c : eqC hc hc') (m : eqM hm hm') (r : RQ hc hm) : RQ hc' hm' := by
  obtain ⟨rc, a1, a2, a3, a4, a5, a6⟩ := r
  have e5 := c 0 5 (by unfold relC; omega)
  have e6 := c 0 6 (by unfold relC; omega)
  have e7 := m 200 7 (by unfold relM; omega)
  have e3 := m 200 33 (by unfold relM; omega)
  refine ⟨rc, a1, e5.trans a2, e7.trans a3, by rw [e6, e3]; exact a4, by rw [e6]; exact a5, fun i hi => ?_⟩
  obtain ⟨x, b1, b2, T, z, p', d1, d2, d3, d4⟩ := a6 i hi
  exact ⟨x, b1, ⟨(c _ 3 (by unfold relC; omega)).trans b2.1, fun j hj => ⟨(c _ j (by unfold relC; omega)).trans (b2.2 j hj).1, (c _ j (by unfold relC; omega)).trans (b2.2 j hj).2⟩⟩, T, z, p', d1, (m _ _ (by unfold relM; omega)).trans d2, fun j hj => (m _ _ (by unfold relM; omega)).trans (d3 j hj), d4⟩
def up (h h' : ab_H) : Prop := ∀ b j, 200 ≤ b → zv h' b j = zv h b j
def dn (h h' : ab_H) : Prop := ∀ b j, b < 200 → zv h' b j = zv h b j
def cF (h h' : ab_H) : Prop := eqC h h' ∧ up h h'
def mF (h h' : ab_H) : Prop := eqM h h' ∧ dn h h' ∧ (lb h → lb h')
theorem up_M {h h' : ab_H} (u : up h h') : eqM h h' := fun b j r => u b j (by unfold relM at r; omega)
theorem dn_C {h h' : ab_H} (u : dn h h') : eqC h h' := fun b j r => u b j (by unfold relC at r; omega)
theorem up_lb {h h' : ab_H} (u : up h h') (l : lb h) : lb h' := fun j => by rw [u 204 j (by decide)]; exact l j
theorem cF.rf {h : ab_H} : cF h h := ⟨eqC.refl, fun _ _ _ => rfl⟩
theorem mF.rf {h : ab_H} : mF h h := ⟨eqM.refl, fun _ _ _ => rfl, id⟩
theorem cF.tr {a b c : ab_H} (x : cF a b) (y : cF b c) : cF a c := ⟨x.1.trans y.1, fun p q r => (y.2 p q r).trans (x.2 p q r)⟩
theorem mF.tr {a b c : ab_H} (x : mF a b) (y : mF b c) : mF a c := ⟨x.1.trans y.1, fun p q r => (y.2.1 p q r).trans (x.2.1 p q r), fun l => y.2.2 (x.2.2 l)⟩
theorem cF_sm {l : List Nat} {h h' : ab_H} (s : sm l h h') (hl : l.all (fun b => okC b && decide (b < 200)) = true) : cF h h' := by
  have q : ∀ b ∈ l, okC b = true ∧ b < 200 := fun b hb => by
    have := List.all_eq_true.mp hl b hb
    simp only [Bool.and_eq_true, decide_eq_true_eq] at this
    exact this
  exact ⟨eqC_sm s (List.all_eq_true.mpr (fun b hb => (q b hb).1)), fun b j hb => s.1 b j (fun z => by have := (q b z).2; omega)⟩
theorem mF_sm {l : List Nat} {h h' : ab_H} (s : sm l h h') (hl : l.all (fun b => okM b && decide (200 ≤ b) && !(b == 204)) = true) : mF h h' := by
  have q : ∀ b ∈ l, (okM b = true ∧ 200 ≤ b) ∧ ¬ b = 204 := fun b hb => by
    have := List.all_eq_true.mp hl b hb
    simp only [Bool.and_eq_true, decide_eq_true_eq, Bool.not_eq_true', beq_eq_false_iff_ne] at this
    exact this
  exact ⟨eqM_sm s (List.all_eq_true.mpr (fun b hb => (q b hb).1.1)), fun b j hb => s.1 b j (fun z => by have := (q b z).1.2; omega), fun x j => by rw [s.1 204 j (fun z => (q _ z).2 rfl)]; exact x j⟩
theorem mF_9 {h : ab_H} : mF h (zp h 200 0 0) := ⟨eqM_9 rfl, fun b j hb => zv_zp_a (by omega), fun l j => by rw [zv_zp_a (by decide)]; exact l j⟩
theorem mF_DM {h h' : ab_H} (d : DM h h') (u : dn h h') : mF h h' := ⟨fun b j r => by
  unfold relM at r
  by_cases e : b = 200
  · subst e; exact d.2.1 j (by omega) (by omega)
  · exact d.1 b j e (by omega), u, d.2.2⟩
theorem DM_mF {h h' : ab_H} (d : DM h h') : mF h h' := mF_DM d (fun b j hb => d.1 b j (by omega) (by omega))
theorem F11_mF {h h' : ab_H} (f : F11 h h') : mF h h' := DM_mF (DM_F f)
theorem DC_cF {h h' : ab_H} (d : DC h h') : cF h h' := ⟨fun b j r => d b j (by unfold relC at r; omega), fun b j hb => d b j (by omega)⟩
theorem IN_c {n k : Nat} {h h' : ab_H} (c : cF h h') (i : IN n k h h) : IN n k h' h' := ⟨RA_eq c.1 (up_M c.2) i.1, RQ_eq c.1 (up_M c.2) i.2.1, up_lb c.2 i.2.2⟩
theorem IN_m {n k : Nat} {h h' : ab_H} (m : mF h h') (i : IN n k h h) : IN n k h' h' := ⟨RA_eq (dn_C m.2.1) m.1 i.1, RQ_eq (dn_C m.2.1) m.1 i.2.1, m.2.2 i.2.2⟩
theorem ro {n k : Nat} {h h1 h2 : ab_H} (i : IN n k h h) (c : cF h h1) (m : mF h1 h2) : INV h2 := ⟨n, k, IN_m m (IN_c c i)⟩
def QS (M : ab_M) (As : List Value) : ab_Q := fun r1 h1 => ab_X 60 M 0 (lv_args 0 (.ref 200 :: As)) [] h1 (fun r2 h2 => r2 = r1 ∧ INV h2)
def SIM (MC MM : ab_M) (As : List Value) : Prop := ∀ h, INV h → ab_X 60 MC 0 (lv_args 0 (.ref 0 :: As)) [] h (QS MM As)
theorem s_seek {n c e w r : Int} (h1 : inR n) (h2 : inR c) (h3 : inR e) (h4 : inR w) (h5 : inR r) : SIM mX11_seek mX12_seek [.int (iI n), .int (iI c), .int (iI e), .int (iI w), .int (iI r)] := fun h ⟨N, K, I⟩ => by
  refine c_seek (d := 58) h1 h2 h3 h4 h5 (fun q => ?_) (fun q => ?_)
  · exact c_mseek (d := 58) rfl h1 h2 h3 h4 h5 (fun _ h' s x => ⟨rfl, ro I cF.rf (mF_9.tr ⟨fun b j r => (by
      by_cases eb : b = 200
      · subst eb; unfold relM at r; exact x j (by omega)
      · exact s.1 b j (by simp only [List.mem_cons, List.not_mem_nil, or_false]; exact eb)), fun b j hb => s.1 b j (by simp only [List.mem_cons, List.not_mem_nil, or_false]; omega), fun l j => by rw [s.1 204 j (by decide)]; exact l j⟩)⟩) (fun z => absurd q z)
  · exact c_mseek (d := 58) rfl h1 h2 h3 h4 h5 (fun z => absurd z q) (fun _ => ⟨rfl, ro I cF.rf mF_9⟩)
theorem s_take {n c e w r : Int} (h1 : inR n) (h2 : inR c) (h3 : inR e) (h4 : inR w) (h5 : inR r) : SIM mX11_take mX12_take [.int (iI n), .int (iI c), .int (iI e), .int (iI w), .int (iI r)] := fun h ⟨N, K, I⟩ => by
  refine c_take (d := 58) h1 h2 h3 h4 h5 (fun q => ?_) (fun q => ?_)
  · exact c_mtake (d := 58) rfl h1 h2 h3 h4 h5 (fun _ h' s x => ⟨rfl, ro I cF.rf (mF_9.tr ⟨fun b j r => (by
      by_cases eb : b = 200
      · subst eb; unfold relM at r; exact x j (by omega)
      · exact s.1 b j (by simp only [List.mem_cons, List.not_mem_nil, or_false]; exact eb)), fun b j hb => s.1 b j (by simp only [List.mem_cons, List.not_mem_nil, or_false]; omega), fun l j => by rw [s.1 204 j (by decide)]; exact l j⟩)⟩) (fun z => absurd q z)
  · exact c_mtake (d := 58) rfl h1 h2 h3 h4 h5 (fun z => absurd z q) (fun _ => ⟨rfl, ro I cF.rf mF_9⟩)
