/-! RUN, both sides -/
def goC (h h' : ab_H) : Prop := ∃ (p : Nat) (h1 : ab_H), p < 20 ∧ zv h 37 p = p ∧ (cB (zv h 37) p : Int) = drw (wv h 0 17) (zv h 36 2) ∧ exiR (wp h 0 17 (dN (wv h 0 17))) h1 p ∧ h' = zp h1 36 4 (zv h1 36 4 + 1)
def comC (n k : Nat) (h h' : ab_H) : Prop := ∃ s L : Nat, s < k ∧ drw (wv h 0 17) (sT (zv h 17) k) - sT (zv h 17) s < zv h 17 s ∧ 0 ≤ drw (wv h 0 17) (sT (zv h 17) k) - sT (zv h 17) s ∧ zv h 16 s = L ∧ ((pls (cfr h n) L n = [] ∧ ∃ h1, sm [167, 168, 169] (wp h 0 17 (dN (wv h 0 17))) h1 ∧ h' = zp h1 36 5 (zv h1 36 5 + 1)) ∨ ∃ (p : Nat) (h1 h2 : ab_H), (pls (cfr h n) L n)[(drw (dN (wv h 0 17)) ((pls (cfr h n) L n).length : Int)).toNat]? = some p ∧ sm [167, 168, 169] (wp h 0 17 (dN (wv h 0 17))) h1 ∧ entR (wp h1 0 17 (dN (dN (wv h 0 17)))) h2 p L s ∧ h' = zp h2 36 3 (zv h2 36 3 + 1))
def stpC (n k : Nat) (h h' : ab_H) : Prop := ∃ hk h2, kepR h hk ∧ ((drw (wv hk 0 17) 100 < zv hk 15 2 ∧ 0 < zv hk 36 2 ∧ goC (wp hk 0 17 (dN (wv hk 0 17))) h2) ∨ (¬ (drw (wv hk 0 17) 100 < zv hk 15 2 ∧ 0 < zv hk 36 2) ∧ h2 = wp hk 0 17 (dN (wv hk 0 17)))) ∧ comC n k h2 h'
theorem c_go {d : Nat} {h : ab_H} {Q : ab_Q} (hc : zv h 36 2 = (cB (zv h 37) 20 : Int)) (hc0 : 0 < zv h 36 2) (K : ∀ h', goC h h' → Q none h') : ab_X (d + 2) mX11_letOneGo 0 (lv_args 0 [.ref 0]) [] h Q := c_letOneGo hc hc0 (fun p h1 a b c e => K _ ⟨p, h1, a, b, c, e, rfl⟩)
theorem c_come {d : Nat} {h : ab_H} {Q : ab_Q} {n k : Nat} (hn : zv h 15 0 = n) (hn2 : n ≤ 20) (hp : pOK h k) (hk : 1 ≤ k) (hc : zv h 36 2 ≤ 1000) (K : ∀ h', comC n k h h' → Q none h') : ab_X (d + 4) mX11_letOneCome 0 (lv_args 0 [.ref 0]) [] h Q :=
  c_letOneCome hn hn2 hp hk hc (fun s L h1 a b c e f g => K _ ⟨s, L, a, b, c, e, Or.inl ⟨f, h1, g, rfl⟩⟩) (fun s L p h1 h2 a b c e f g i => K _ ⟨s, L, a, b, c, e, Or.inr ⟨p, h1, h2, f, g, i, rfl⟩⟩)
/-- what the class's run rests on -/
def CIr (n k : Nat) (h : ab_H) : Prop := zv h 15 0 = n ∧ n ≤ 20 ∧ pOK h k ∧ 1 ≤ k ∧ zv h 36 2 = (cB (zv h 37) 20 : Int) ∧ (∃ x : Nat, zv h 165 1 = x ∧ x < 40) ∧ 0 ≤ zv h 165 2 ∧ zv h 165 2 ≤ 40
theorem pOK_eq {h h' : ab_H} {k : Nat} (e : ∀ b j, 15 ≤ b → b ≤ 17 → zv h' b j = zv h b j) (p : pOK h k) : pOK h' k := ⟨(e 15 3 (by omega) (by omega)).trans p.1, p.2.1, fun i hi => by rw [e 16 i (by omega) (by omega), e 17 i (by omega) (by omega)]; exact p.2.2 i hi⟩
theorem CIr_keep {n k : Nat} {h h' : ab_H} (I : CIr n k h) (c : kepR h h') : CIr n k h' := by
  obtain ⟨a, b, e, f, g, i, j1, j2⟩ := I
  refine ⟨(kep_o c (by omega)).trans a, b, pOK_eq (fun b j _ _ => kep_o c (by omega)) e, f, ?_, ?_⟩
  · rw [kep_o c (by omega), cB_congr (f := zv h 37) (fun y _ => kep_o c (by omega))]; exact g
  · obtain ⟨x, h1, hx, hx2, cp, rfl⟩ := c
    refine ⟨⟨(x + 1) % 40, ?_, by omega⟩, ?_⟩
    · rw [zv_zp_ne (by omega), zv_zp_s (by omega)]
    · rw [zv_zp_s (by omega)]; omega
theorem CIr_wp {n k : Nat} {h : ab_H} {x : Int} (I : CIr n k h) : CIr n k (wp h 0 17 x) := I
theorem CIr_go {n k : Nat} {h h' : ab_H} (I : CIr n k h) (c : goC h h') : CIr n k h' := by
  obtain ⟨a, b, e, f, g, i, j⟩ := I
  obtain ⟨p, h1, hp, hb, _, x, rfl⟩ := c
  have o : ∀ b j, ¬ (36 ≤ b ∧ b ≤ 38) → zv (zp h1 36 4 (zv h1 36 4 + 1)) b j = zv h b j := fun b j hb => by rw [zv_zp_a (by omega)]; exact x.1.1 b j (nin36 hb)
  refine ⟨(o 15 0 (by omega)).trans a, b, pOK_eq (fun b j _ _ => o b j (by omega)) e, f, ?_, ?_⟩
  · rw [zv_zp_ne (by omega), x.2.2.2.1]
    have := cB_exit hp hb x.2.1
    show zv h 36 2 - 1 = ((cB (zv h1 37) 20 : Nat) : Int)
    omega
  · rw [o 165 1 (by omega), o 165 2 (by omega)]; exact ⟨i, j⟩
theorem CIr_com {n k : Nat} {h h' : ab_H} (I : CIr n k h) (c : comC n k h h') : CIr n k h' := by
  obtain ⟨a, b, e, f, g, i, j⟩ := I
  obtain ⟨s, L, hs, _, _, hL, q⟩ := c
  have hLb := (e.2.2 s hs).1
  rcases q with ⟨_, h1, m, rfl⟩ | ⟨p, h1, h2, hp, m, x, rfl⟩
  · have o : ∀ b j, ¬ (167 ≤ b ∧ b ≤ 169) → b ≠ 36 → zv (zp h1 36 5 (zv h1 36 5 + 1)) b j = zv h b j := fun b j hb hc => by
      rw [zv_zp_a hc]; exact m.1 b j (by simp only [List.mem_cons, List.not_mem_nil, or_false]; omega)
    refine ⟨(o 15 0 (by omega) (by omega)).trans a, b, pOK_eq (fun b j _ _ => o b j (by omega) (by omega)) e, f, ?_, ?_⟩
    · rw [zv_zp_ne (by omega), m.1 36 2 (by decide), cB_congr (f := zv h 37) (fun y _ => o 37 y (by omega) (by omega))]; exact g
    · rw [o 165 1 (by omega) (by omega), o 165 2 (by omega) (by omega)]; exact ⟨i, j⟩
  · have hm := List.mem_of_getElem? hp
    have hpi := pls_in hm
    have o : ∀ b j, ¬ (167 ≤ b ∧ b ≤ 169) → ¬ (36 ≤ b ∧ b ≤ 38) → zv (zp h2 36 3 (zv h2 36 3 + 1)) b j = zv h b j := fun b j hb hc => by
      rw [zv_zp_a (by omega), x.1.1 b j (nin36 hc)]; exact m.1 b j (by simp only [List.mem_cons, List.not_mem_nil, or_false]; omega)
    have e37 : ∀ y, zv (wp h1 0 17 (dN (dN (wv h 0 17)))) 37 y = zv h 37 y := fun y => m.1 37 y (by decide)
    have e362 : zv (wp h1 0 17 (dN (dN (wv h 0 17)))) 36 2 = zv h 36 2 := m.1 36 2 (by decide)
    refine ⟨(o 15 0 (by omega) (by omega)).trans a, b, pOK_eq (fun b j _ _ => o b j (by omega) (by omega)) e, f, ?_, ?_⟩
    · rw [zv_zp_ne (by omega), x.2.2.2.1, e362]
      have ha : allf (cfr h n) L p = true ∧ p + L ≤ n := by
        rcases hpi with q | q
        · exact ⟨q.2, by omega⟩
        · omega
      have := cB_enter (pl := zv h 37) (pl' := zv h2 37) b (by omega) ha.2 (fun j a b => (cfr_iff.mp (allf_iff.mp ha.1 j a b)).2.2) (fun j => by rw [x.2.1 j, e37])
      show zv h 36 2 + 1 = ((cB (zv h2 37) 20 : Nat) : Int)
      omega
    · rw [o 165 1 (by omega) (by omega), o 165 2 (by omega) (by omega)]; exact ⟨i, j⟩
theorem lp_run {d : Nat} {Q : ab_Q} {n k m : Nat} {P : Nat → ab_H → Prop} (hm : m ≤ 40) (hP : ∀ i h h', P i h → stpC n k h h' → P (i + 1) h') (K : ∀ h, CIr n k h → P m h → Q (some (.int (iI (zv h 36 2)))) h) : ∀ (nn : Nat) (i : Nat) (h : ab_H), m - i = nn → (i ≤ m) → (CIr n k h) → (P i h) → ab_X (d + 5) mX11_run 28 [(0, .ref 0), (1, .int (iI (m : Int))), (4, .int (iI (i : Int)))] [] h Q := by
  intro nn
  induction nn using Nat.strongRecOn with
  | ind nn ih =>
  intro i h hnn h2 hI hPi
  obtain ⟨x, hx, hx2⟩ := hI.2.2.2.2.2.1
  refine ab_iload (k := 2) dX11_run_28 rfl ?_
  refine ab_iload_n (k := 1) dX11_run_30 rfl rfl ?_
  refine z_icmp_ge (tgt := 85) dX11_run_31 (by decide) (by omega) (by omega) (fun c31 => ?_) (fun c31 => ?_)
  · skip
    refine ab_aload_n (k := 0) dX11_run_85 rfl rfl ?_
    refine z_getP (b := 36) dX11_run_86 fX11_53 rfl rfl rfl ?_
    refine z_getI dX11_run_89 fX11_224 rfl (Or.inl rfl) ?_
    have b1 := zv_R h 36 2
    refine z_iret dX11_run_92 rfl ?_
    have e : i = m := by omega
    subst e
    exact K h hI hPi
  · skip
    refine ab_aload_n (k := 0) dX11_run_34 rfl rfl ?_
    refine z_getP (b := 165) dX11_run_35 fX11_66 rfl rfl rfl ?_
    refine ab_aload_n (k := 0) dX11_run_38 rfl rfl ?_
    refine z_getP (b := 36) dX11_run_39 fX11_53 rfl rfl rfl ?_
    refine ab_callV (As := [.ref 36]) (rest := []) dX11_run_42 lX11_200 rfl (Nat.le_of_ble_eq_true rfl) (Nat.le_of_ble_eq_true rfl) rfl ?_
    refine c_keep0 (x := x) hx hx2 hI.2.2.2.2.2.2.1 hI.2.2.2.2.2.2.2 (fun h1 hcp => ?_)
    obtain ⟨hk, ehk⟩ : ∃ z : ab_H, z = zp (zp h1 165 1 (((x + 1) % 40 : Nat) : Int)) 165 2 (min (zv h 165 2 + 1) 40) := ⟨_, rfl⟩
    rw [← ehk]
    have hkep : kepR h hk := ⟨x, h1, hx, hx2, hcp, ehk⟩
    have hIk := CIr_keep hI hkep
    show ab_X (d + 5) mX11_run 45 [(0, .ref 0), (1, .int (iI (m : Int))), (4, .int (iI (i : Int)))] [] hk _
    refine ab_aload_n (k := 0) dX11_run_45 rfl rfl ?_
    refine z_bipush dX11_run_46 (by decide) ?_
    refine ab_callV (As := [.int (iI 100)]) (rest := []) dX11_run_48 lX11_218 rfl (Nat.le_of_ble_eq_true rfl) (Nat.le_of_ble_eq_true rfl) rfl ?_
    refine c_draw (by omega) ?_
    have bd := drw_b (x := wv hk 0 17) (m := 100) (by decide)
    obtain ⟨hd, ehd⟩ : ∃ z : ab_H, z = wp hk 0 17 (dN (wv hk 0 17)) := ⟨_, rfl⟩
    rw [← ehd]
    have hId : CIr n k hd := by rw [ehd]; exact hIk
    have hcl := cB_le (zv hd 37) 20
    have hcd : zv hd 36 2 = (cB (zv hd 37) 20 : Int) := hId.2.2.2.2.1
    have el : zv hd 15 2 = zv hk 15 2 := by rw [ehd]; rfl
    have ec : zv hd 36 2 = zv hk 36 2 := by rw [ehd]; rfl
    show ab_X (d + 5) mX11_run 51 [(0, .ref 0), (1, .int (iI (m : Int))), (4, .int (iI (i : Int)))] [.int (iI (drw (wv hk 0 17) 100))] hd _
    refine ab_aload_n (k := 0) dX11_run_51 rfl rfl ?_
    refine z_getP (b := 15) dX11_run_52 fX11_35 rfl rfl rfl ?_
    refine z_getI dX11_run_55 fX11_221 rfl (Or.inl rfl) ?_
    have b2 := zv_R hd 15 2
    refine z_icmp_ge (tgt := 75) dX11_run_58 (by decide) (by omega) (by omega) (fun c58 => ?_) (fun c58 => ?_)
    · skip
      refine ab_aload_n (k := 0) dX11_run_75 rfl rfl ?_
      refine ab_callV (As := []) (rest := []) dX11_run_76 lX11_230 rfl (Nat.le_of_ble_eq_true rfl) (Nat.le_of_ble_eq_true rfl) rfl ?_
      have hcl2 := cB_le (zv hd 37) 20
      have hcd2 : zv hd 36 2 = (cB (zv hd 37) 20 : Int) := hId.2.2.2.2.1
      refine c_come hId.1 hId.2.1 hId.2.2.1 hId.2.2.2.1 (by omega) (fun h3 hco => ?_)
      have hI3 := CIr_com hId hco
      show ab_X (d + 5) mX11_run 79 [(0, .ref 0), (1, .int (iI (m : Int))), (4, .int (iI (i : Int)))] [] h3 _
      refine z_iinc (k := 2) (v := (i : Int) + 1) (ls' := [(4, .int (iI ((i : Int) + 1))), (0, .ref 0), (1, .int (iI (m : Int)))]) dX11_run_79 rfl rfl (by decide) rfl ?_
      refine ab_goto (tgt := 28) dX11_run_82 (by decide) ?_
      refine ab_sub (ls' := [(0, .ref 0), (1, .int (iI (m : Int))), (4, .int (iI ((i : Int) + 1)))]) (ks := [1, 2, 0]) rfl ?_
      first
      | exact ih _ (by omega) (i + 1) _ rfl (by omega) hI3 (hP i h _ hPi ⟨hk, h2, hkep, Or.inl ⟨by omega, by omega, hgo⟩, hco⟩)
      | exact ih _ (by omega) (i + 1) _ rfl (by omega) hI3 (hP i h _ hPi ⟨hk, hd, hkep, Or.inr ⟨by omega, ehd⟩, hco⟩)
    · skip
      refine ab_aload_n (k := 0) dX11_run_61 rfl rfl ?_
      refine z_getP (b := 36) dX11_run_62 fX11_53 rfl rfl rfl ?_
      refine z_getI dX11_run_65 fX11_224 rfl (Or.inl rfl) ?_
      have b3 := zv_R hd 36 2
      refine z_if_le (tgt := 75) dX11_run_68 (by decide) (by omega) (fun c68 => ?_) (fun c68 => ?_)
      · skip
        refine ab_aload_n (k := 0) dX11_run_75 rfl rfl ?_
        refine ab_callV (As := []) (rest := []) dX11_run_76 lX11_230 rfl (Nat.le_of_ble_eq_true rfl) (Nat.le_of_ble_eq_true rfl) rfl ?_
        have hcl2 := cB_le (zv hd 37) 20
        have hcd2 : zv hd 36 2 = (cB (zv hd 37) 20 : Int) := hId.2.2.2.2.1
        refine c_come hId.1 hId.2.1 hId.2.2.1 hId.2.2.2.1 (by omega) (fun h3 hco => ?_)
        have hI3 := CIr_com hId hco
        show ab_X (d + 5) mX11_run 79 [(0, .ref 0), (1, .int (iI (m : Int))), (4, .int (iI (i : Int)))] [] h3 _
        refine z_iinc (k := 2) (v := (i : Int) + 1) (ls' := [(4, .int (iI ((i : Int) + 1))), (0, .ref 0), (1, .int (iI (m : Int)))]) dX11_run_79 rfl rfl (by decide) rfl ?_
        refine ab_goto (tgt := 28) dX11_run_82 (by decide) ?_
        refine ab_sub (ls' := [(0, .ref 0), (1, .int (iI (m : Int))), (4, .int (iI ((i : Int) + 1)))]) (ks := [1, 2, 0]) rfl ?_
        first
        | exact ih _ (by omega) (i + 1) _ rfl (by omega) hI3 (hP i h _ hPi ⟨hk, h2, hkep, Or.inl ⟨by omega, by omega, hgo⟩, hco⟩)
        | exact ih _ (by omega) (i + 1) _ rfl (by omega) hI3 (hP i h _ hPi ⟨hk, hd, hkep, Or.inr ⟨by omega, ehd⟩, hco⟩)
      · skip
        refine ab_aload_n (k := 0) dX11_run_71 rfl rfl ?_
        refine ab_callV (As := []) (rest := []) dX11_run_72 lX11_227 rfl (Nat.le_of_ble_eq_true rfl) (Nat.le_of_ble_eq_true rfl) rfl ?_
        refine c_go hcd (by omega) (fun h2 hgo => ?_)
        have hI2 := CIr_go hId hgo
        rw [ehd] at hgo
        show ab_X (d + 5) mX11_run 75 [(0, .ref 0), (1, .int (iI (m : Int))), (4, .int (iI (i : Int)))] [] h2 _
        refine ab_aload_n (k := 0) dX11_run_75 rfl rfl ?_
        refine ab_callV (As := []) (rest := []) dX11_run_76 lX11_230 rfl (Nat.le_of_ble_eq_true rfl) (Nat.le_of_ble_eq_true rfl) rfl ?_
        have hcl2 := cB_le (zv h2 37) 20
        have hcd2 : zv h2 36 2 = (cB (zv h2 37) 20 : Int) := hI2.2.2.2.2.1
        refine c_come hI2.1 hI2.2.1 hI2.2.2.1 hI2.2.2.2.1 (by omega) (fun h3 hco => ?_)
        have hI3 := CIr_com hI2 hco
        show ab_X (d + 5) mX11_run 79 [(0, .ref 0), (1, .int (iI (m : Int))), (4, .int (iI (i : Int)))] [] h3 _
        refine z_iinc (k := 2) (v := (i : Int) + 1) (ls' := [(4, .int (iI ((i : Int) + 1))), (0, .ref 0), (1, .int (iI (m : Int)))]) dX11_run_79 rfl rfl (by decide) rfl ?_
        refine ab_goto (tgt := 28) dX11_run_82 (by decide) ?_
        refine ab_sub (ls' := [(0, .ref 0), (1, .int (iI (m : Int))), (4, .int (iI ((i : Int) + 1)))]) (ks := [1, 2, 0]) rfl ?_
        first
        | exact ih _ (by omega) (i + 1) _ rfl (by omega) hI3 (hP i h _ hPi ⟨hk, h2, hkep, Or.inl ⟨by omega, by omega, hgo⟩, hco⟩)
        | exact ih _ (by omega) (i + 1) _ rfl (by omega) hI3 (hP i h _ hPi ⟨hk, hd, hkep, Or.inr ⟨by omega, ehd⟩, hco⟩)
theorem c_run {d : Nat} {h : ab_H} {Q : ab_Q} {n k : Nat} {m x : Int} {P : Nat → ab_H → Prop} (hm : inR m) (hI : 0 < n → CIr n k h) (hn : zv h 15 0 = n) (k0 : ¬ (0 < n ∧ 1 ≤ m ∧ m ≤ 40) → Q (some (.int (iI (-1)))) h) (hP0 : P 0 (wp h 0 17 x)) (hP : ∀ i h h', P i h → stpC n k h h' → P (i + 1) h') (K : 0 < n ∧ 1 ≤ m ∧ m ≤ 40 → ∀ h, CIr n k h → P m.toNat h → Q (some (.int (iI (zv h 36 2)))) h) : ab_X (d + 5) mX11_run 0 (lv_args 0 [.ref 0, .int (iI m), .long (lL x)]) [] h Q := by
  show ab_X (d + 5) mX11_run 0 [(0, .ref 0), (1, .int (iI m)), (2, .long (lL x))] [] h Q
  refine ab_aload_n (k := 0) dX11_run_0 rfl rfl ?_
  refine ab_callV (As := []) (rest := []) dX11_run_1 lX11_180 rfl (Nat.le_of_ble_eq_true rfl) (Nat.le_of_ble_eq_true rfl) rfl ?_
  refine c_hasKerb (fun g1 => ?_) (fun g1 => ?_)
  · skip
    try simp only [Int.toNat_natCast] at g1
    have gL := g1
    show ab_X (d + 5) mX11_run 4 [(0, .ref 0), (1, .int (iI m)), (2, .long (lL x))] [.int (iI 1)] h _
    refine z_if_eq (tgt := 18) dX11_run_4 (by decide) (by decide) (fun c4 => absurd c4 (by decide)) (fun _ => ?_)
    refine ab_iload_n (k := 1) dX11_run_7 rfl rfl ?_
    refine z_iconst dX11_run_8 ?_
    refine z_icmp_lt (tgt := 18) dX11_run_9 (by decide) (by omega) (by decide) (fun c9 => ?_) (fun c9 => ?_)
    · skip
      refine z_iconst dX11_run_18 ?_
      refine z_iret dX11_run_19 rfl ?_
      first | exact k0 (by omega) | (obtain ⟨mm, rfl⟩ : ∃ z : Nat, m = z := ⟨m.toNat, by omega⟩; exact lp_run (by omega) hP (K (by omega)) _ 0 _ rfl (by omega) (hI (by omega)) hP0)
    · skip
      refine ab_iload_n (k := 1) dX11_run_12 rfl rfl ?_
      refine z_bipush dX11_run_13 (by decide) ?_
      refine z_icmp_le (tgt := 20) dX11_run_15 (by decide) (by omega) (by decide) (fun c15 => ?_) (fun c15 => ?_)
      · skip
        refine ab_aload_n (k := 0) dX11_run_20 rfl rfl ?_
        refine ab_lload_n (k := 2) dX11_run_21 rfl rfl ?_
        refine z_putL dX11_run_22 fX11_214 rfl rfl ?_
        refine z_iconst dX11_run_25 ?_
        refine ab_istore (ls' := [(4, .int (iI 0)), (0, .ref 0), (1, .int (iI m)), (2, .long (lL x))]) dX11_run_26 (by decide) rfl ?_
        refine ab_sub (ls' := [(0, .ref 0), (1, .int (iI m)), (4, .int (iI 0))]) (ks := [1, 2, 0]) rfl ?_
        first | exact k0 (by omega) | (obtain ⟨mm, rfl⟩ : ∃ z : Nat, m = z := ⟨m.toNat, by omega⟩; exact lp_run (by omega) hP (K (by omega)) _ 0 _ rfl (by omega) (hI (by omega)) hP0)
      · skip
        refine z_iconst dX11_run_18 ?_
        refine z_iret dX11_run_19 rfl ?_
        first | exact k0 (by omega) | (obtain ⟨mm, rfl⟩ : ∃ z : Nat, m = z := ⟨m.toNat, by omega⟩; exact lp_run (by omega) hP (K (by omega)) _ 0 _ rfl (by omega) (hI (by omega)) hP0)
  · skip
    try simp only [Int.toNat_natCast] at g1
    have gL := g1
    show ab_X (d + 5) mX11_run 4 [(0, .ref 0), (1, .int (iI m)), (2, .long (lL x))] [.int (iI 0)] h _
    refine z_if_eq (tgt := 18) dX11_run_4 (by decide) (by decide) (fun _ => ?_) (fun c4 => absurd c4 (by decide))
    refine z_iconst dX11_run_18 ?_
    refine z_iret dX11_run_19 rfl ?_
    first | exact k0 (by omega) | (obtain ⟨mm, rfl⟩ : ∃ z : Nat, m = z := ⟨m.toNat, by omega⟩; exact lp_run (by omega) hP (K (by omega)) _ 0 _ rfl (by omega) (hI (by omega)) hP0)
