/-! RUN of the model -/
def wtM (h : ab_H) (i : Nat) : Int := zv h 207 (2 * i + 1)
def goM (n : Nat) (h h' : ab_H) : Prop := ∃ (p : Nat) (h1 : ab_H), p < n ∧ zv h 211 p = p ∧ (cB (zv h 211) p : Int) = drw (wv h 200 38) (cB (zv h 211) n : Int) ∧ mgaR (wp h 200 38 (dN (wv h 200 38))) h1 p n ∧ h' = zp h1 213 1 (zv h1 213 1 + 1)
def comM (n k : Nat) (h h' : ab_H) : Prop := ∃ s L : Nat, s < k ∧ drw (wv h 200 38) (sT (wtM h) k) - sT (wtM h) s < wtM h s ∧ 0 ≤ drw (wv h 200 38) (sT (wtM h) k) - sT (wtM h) s ∧ zv h 207 (2 * s) = L ∧ ((pU (mfr h n) L n = [] ∧ h' = zp (wp h 200 38 (dN (wv h 200 38))) 213 2 (zv h 213 2 + 1)) ∨ ∃ (p : Nat) (h1 : ab_H), (pU (mfr h n) L n)[(drw (dN (wv h 200 38)) ((pU (mfr h n) L n).length : Int)).toNat]? = some p ∧ mstR (zp (wp (wp h 200 38 (dN (wv h 200 38))) 200 38 (dN (dN (wv h 200 38)))) 200 0 0) h1 p L s ∧ h' = zp h1 213 0 (zv h1 213 0 + 1))
def stpM (n k : Nat) (h h' : ab_H) : Prop := ∃ (a : Nat) (hk h2 : ab_H), zv h 200 37 = (a : Int) ∧ remR h hk a ∧ ((drw (wv hk 200 38) 100 < zv hk 205 2 ∧ 0 < cB (zv hk 211) n ∧ goM n (wp hk 200 38 (dN (wv hk 200 38))) h2) ∨ (¬ (drw (wv hk 200 38) 100 < zv hk 205 2 ∧ 0 < cB (zv hk 211) n) ∧ h2 = wp hk 200 38 (dN (wv hk 200 38)))) ∧ comM n k h2 h'
def MIr (n k : Nat) (h : ab_H) : Prop := zv h 200 32 = n ∧ n ≤ 20 ∧ zv h 200 24 = k ∧ k ≤ 4 ∧ 1 ≤ k ∧ (∀ i, i < k → (1 ≤ zv h 207 (2 * i) ∧ zv h 207 (2 * i) ≤ 9) ∧ 1 ≤ wtM h i ∧ wtM h i ≤ 9) ∧ ∃ a : Nat, zv h 200 37 = (a : Int) ∧ a ≤ 40
theorem MIr_eq {n k : Nat} {h h' : ab_H} (e : ∀ b j, b = 207 ∨ b = 200 ∧ j ≠ 0 → zv h' b j = zv h b j) (I : MIr n k h) : MIr n k h' := by
  obtain ⟨a, b, c, f, g, i, j⟩ := I
  refine ⟨(e 200 32 (by omega)).trans a, b, (e 200 24 (by omega)).trans c, f, g, fun t ht => ?_, by rw [e 200 37 (by omega)]; exact j⟩
  unfold wtM
  rw [e 207 (2 * t) (by omega), e 207 (2 * t + 1) (by omega)]; exact i t ht
theorem MIr_rem {n k a : Nat} {h h' : ab_H} (ha : a ≤ 40) (I : MIr n k h) (r : remR h h' a) : MIr n k h' := by
  obtain ⟨i1, b, c, f, g, i, j⟩ := I
  have o : ∀ j, zv h' 207 j = zv h 207 j := fun j => r.1.1 207 j (by decide)
  refine ⟨(r.2.1 32 (by decide)).trans i1, b, (r.2.1 24 (by decide)).trans c, f, g, fun t ht => ?_, min a 39 + 1, r.2.2.1, by omega⟩
  unfold wtM
  rw [o, o]; exact i t ht
theorem MIr_go {n k : Nat} {h h' : ab_H} (I : MIr n k h) (r : goM n h h') : MIr n k h' := by
  obtain ⟨p, h1, _, _, _, x, rfl⟩ := r
  exact MIr_eq (fun b j q => by rw [zv_zp_a (by omega)]; exact x.1.1 b j (nin2 (by omega))) I
theorem MIr_com {n k : Nat} {h h' : ab_H} (I : MIr n k h) (r : comM n k h h') : MIr n k h' := by
  obtain ⟨s, L, _, _, _, _, q⟩ := r
  rcases q with ⟨_, rfl⟩ | ⟨p, h1, _, x, rfl⟩
  · exact MIr_eq (fun b j q => by rw [zv_zp_a (by omega)]; rfl) I
  · exact MIr_eq (fun b j q => by rw [zv_zp_a (by omega), x.1.1 b j (nin2 (by omega)), zv_zp_ne (by omega)]; rfl) I
theorem wt_b {h : ab_H} {n k : Nat} (I : MIr n k h) : ∀ s, s ≤ k → 0 ≤ sT (wtM h) s ∧ sT (wtM h) s ≤ 9 * s ∧ (1 ≤ s → 1 ≤ sT (wtM h) s)
  | 0, _ => ⟨Int.le_refl 0, Int.le_refl 0, fun q => absurd q (by omega)⟩
  | s + 1, hs => by
    have a := wt_b I s (by omega)
    have b := (I.2.2.2.2.2.1 s (by omega)).2
    rw [sT_s]; omega
theorem lp_step94 {d : Nat} {Q : ab_Q} {h0 : ab_H} {n k : Nat} (hI : MIr n k h0) (K : ab_X (d + 4) mX12_step 121 [(0, .ref 200), (1, .int (iI (sT (wtM h0) k)))] [] h0 Q) : ∀ (nn : Nat) (s : Nat) (a : Int) (h : ab_H), k - s = nn → (h = h0) → (s ≤ k) → (a = sT (wtM h0) s) → ab_X (d + 4) mX12_step 94 [(0, .ref 200), (1, .int (iI a)), (2, .int (iI (s : Int)))] [] h Q := by
  intro nn
  induction nn using Nat.strongRecOn with
  | ind nn ih =>
  intro s a h hnn hh h2 ha
  subst hh
  have hk4 := hI.2.2.2.1
  refine ab_iload_n (k := 2) dX12_step_94 rfl rfl ?_
  refine ab_aload_n (k := 0) dX12_step_95 rfl rfl ?_
  refine z_getI dX12_step_96 fX12_284 rfl (Or.inl rfl) ?_
  refine z_is (y := (k : Int)) hI.2.2.1 ?_
  refine z_icmp_ge (tgt := 121) dX12_step_99 (by decide) (by omega) (by omega) (fun c99 => ?_) (fun c99 => ?_)
  · skip
    refine ab_sub (ls' := [(0, .ref 200), (1, .int (iI a))]) (ks := [0, 1]) rfl ?_
    have e : s = k := by omega
    subst e
    rw [ha]
    exact K
  · skip
    refine ab_iload_n (k := 1) dX12_step_102 rfl rfl ?_
    refine ab_aload_n (k := 0) dX12_step_103 rfl rfl ?_
    refine z_getP (b := 207) dX12_step_104 fX12_43 rfl rfl rfl ?_
    refine z_iconst dX12_step_107 ?_
    refine ab_iload_n (k := 2) dX12_step_108 rfl rfl ?_
    refine z_imul dX12_step_109 ?_
    refine z_iconst dX12_step_110 ?_
    refine z_iadd dX12_step_111 ?_
    refine z_is (y := ((2 * s + 1 : Nat) : Int)) (by omega) ?_
    refine z_iald dX12_step_112 rfl (by omega) (by omega) ?_
    simp only [Int.toNat_natCast]
    refine z_is (y := wtM h s) rfl ?_
    refine z_iadd dX12_step_113 ?_
    refine ab_istore_n (ls' := [(1, .int (iI (a + (wtM h s)))), (0, .ref 200), (2, .int (iI (s : Int)))]) dX12_step_114 rfl (by decide) rfl ?_
    refine z_iinc (k := 2) (v := (s : Int) + 1) (ls' := [(2, .int (iI ((s : Int) + 1))), (1, .int (iI (a + (wtM h s)))), (0, .ref 200)]) dX12_step_115 rfl rfl (by decide) rfl ?_
    refine ab_goto (tgt := 94) dX12_step_118 (by decide) ?_
    refine ab_sub (ls' := [(0, .ref 200), (1, .int (iI (a + (wtM h s)))), (2, .int (iI ((s : Int) + 1)))]) (ks := [2, 1, 0]) rfl ?_
    exact ih _ (by omega) (s + 1) _ h rfl rfl (by omega) (by rw [ha, sT_s])
theorem lp_step129 {d : Nat} {Q : ab_Q} {h0 : ab_H} {n k : Nat} {t : Int} (hI : MIr n k h0) (ht : t < sT (wtM h0) k) (K : ∀ s : Nat, s < k → t - sT (wtM h0) s < wtM h0 s → 0 ≤ t - sT (wtM h0) s → ab_X (d + 4) mX12_step 162 [(0, .ref 200), (3, .int (iI (s : Int)))] [] h0 Q) : ∀ (nn : Nat) (s : Nat) (v : Int) (h : ab_H), k - s = nn → (h = h0) → (s ≤ k) → (v = t - sT (wtM h0) s) → (0 ≤ v) → ab_X (d + 4) mX12_step 129 [(0, .ref 200), (2, .int (iI v)), (3, .int (iI (s : Int)))] [] h Q := by
  intro nn
  induction nn using Nat.strongRecOn with
  | ind nn ih =>
  intro s v h hnn hh h2 ha hv
  subst hh
  have hk4 := hI.2.2.2.1
  have hsk : s < k := by
    by_cases e : s = k
    · rw [e] at ha; omega
    · omega
  have hws := (hI.2.2.2.2.2.1 s hsk).2
  have hwb := wt_b hI k (Nat.le_refl k)
  have hwc := wt_b hI s (by omega)
  refine ab_iload_n (k := 1) dX12_step_129 rfl rfl ?_
  refine ab_aload_n (k := 0) dX12_step_130 rfl rfl ?_
  refine z_getP (b := 207) dX12_step_131 fX12_43 rfl rfl rfl ?_
  refine z_iconst dX12_step_134 ?_
  refine ab_iload_n (k := 2) dX12_step_135 rfl rfl ?_
  refine z_imul dX12_step_136 ?_
  refine z_iconst dX12_step_137 ?_
  refine z_iadd dX12_step_138 ?_
  refine z_is (y := ((2 * s + 1 : Nat) : Int)) (by omega) ?_
  refine z_iald dX12_step_139 rfl (by omega) (by omega) ?_
  simp only [Int.toNat_natCast]
  refine z_is (y := wtM h s) rfl ?_
  refine z_icmp_lt (tgt := 162) dX12_step_140 (by decide) (by omega) (by omega) (fun c140 => ?_) (fun c140 => ?_)
  · skip
    refine ab_sub (ls' := [(0, .ref 200), (3, .int (iI (s : Int)))]) (ks := [0, 2]) rfl ?_
    exact K s hsk (by omega) (by omega)
  · skip
    refine ab_iload_n (k := 1) dX12_step_143 rfl rfl ?_
    refine ab_aload_n (k := 0) dX12_step_144 rfl rfl ?_
    refine z_getP (b := 207) dX12_step_145 fX12_43 rfl rfl rfl ?_
    refine z_iconst dX12_step_148 ?_
    refine ab_iload_n (k := 2) dX12_step_149 rfl rfl ?_
    refine z_imul dX12_step_150 ?_
    refine z_iconst dX12_step_151 ?_
    refine z_iadd dX12_step_152 ?_
    refine z_is (y := ((2 * s + 1 : Nat) : Int)) (by omega) ?_
    refine z_iald dX12_step_153 rfl (by omega) (by omega) ?_
    simp only [Int.toNat_natCast]
    refine z_is (y := wtM h s) rfl ?_
    refine z_isub dX12_step_154 ?_
    refine ab_istore_n (ls' := [(2, .int (iI (v - (wtM h s)))), (0, .ref 200), (3, .int (iI (s : Int)))]) dX12_step_155 rfl (by decide) rfl ?_
    refine z_iinc (k := 2) (v := (s : Int) + 1) (ls' := [(3, .int (iI ((s : Int) + 1))), (2, .int (iI (v - (wtM h s)))), (0, .ref 200)]) dX12_step_156 rfl rfl (by decide) rfl ?_
    refine ab_goto (tgt := 129) dX12_step_159 (by decide) ?_
    refine ab_sub (ls' := [(0, .ref 200), (2, .int (iI (v - (wtM h s)))), (3, .int (iI ((s : Int) + 1)))]) (ks := [2, 1, 0]) rfl ?_
    exact ih _ (by omega) (s + 1) _ h rfl rfl (by omega) (by rw [ha, sT_s]; omega) (by omega)
theorem pU_cap {fr : Nat → Bool} {L n : Nat} : (pU fr L n).length ≤ n := by
  unfold pU
  exact Nat.le_trans (List.length_filter_le _ _) (by rw [List.length_range]; omega)
theorem c_step162 {d : Nat} {h : ab_H} {Q : ab_Q} {n L s : Nat} (hn : zv h 200 32 = n) (hn2 : n ≤ 20) (hs : (s : Int) < zv h 200 24) (hs4 : s < 4) (hL2 : zv h 207 (2 * s) = L) (hL : 1 ≤ L ∧ L ≤ 9) (k0 : pU (mfr h n) L n = [] → Q none (zp h 213 2 (zv h 213 2 + 1))) (k1 : ∀ (p : Nat) h1, (pU (mfr h n) L n)[(drw (wv h 200 38) ((pU (mfr h n) L n).length : Int)).toNat]? = some p → mstR (zp (wp h 200 38 (dN (wv h 200 38))) 200 0 0) h1 p L s → Q none (zp h1 213 0 (zv h1 213 0 + 1))) : ab_X (d + 4) mX12_step 162 [(0, .ref 200), (3, .int (iI (s : Int)))] [] h Q := by
  refine ab_aload_n (k := 0) dX12_step_162 rfl rfl ?_
  refine ab_iload_n (k := 1) dX12_step_163 rfl rfl ?_
  refine ab_callV (As := [.int (iI (s : Int))]) (rest := []) dX12_step_164 lX12_333 rfl (Nat.le_of_ble_eq_true rfl) (Nat.le_of_ble_eq_true rfl) rfl ?_
  refine c_fitMany (n := n) (L := L) hn hn2 (by omega) hL2 (by omega) ?_
  have hpu := pU_cap (fr := mfr h n) (L := L) (n := n)
  show ab_X (d + 4) mX12_step 167 [(0, .ref 200), (3, .int (iI (s : Int)))] [.int (iI ((pU (mfr h n) L n).length : Int))] h _
  refine z_if_ne (tgt := 181) dX12_step_167 (by decide) (by omega) (fun c167 => ?_) (fun c167 => ?_)
  · skip
    refine ab_aload_n (k := 0) dX12_step_181 rfl rfl ?_
    refine ab_iload_n (k := 1) dX12_step_182 rfl rfl ?_
    refine ab_aload_n (k := 0) dX12_step_183 rfl rfl ?_
    refine ab_iload_n (k := 1) dX12_step_184 rfl rfl ?_
    refine ab_aload_n (k := 0) dX12_step_185 rfl rfl ?_
    refine ab_aload_n (k := 0) dX12_step_186 rfl rfl ?_
    refine ab_iload_n (k := 1) dX12_step_187 rfl rfl ?_
    refine ab_callV (As := [.int (iI (s : Int))]) (rest := [.ref 200, .int (iI (s : Int)), .ref 200, .int (iI (s : Int)), .ref 200]) dX12_step_188 lX12_333 rfl (Nat.le_of_ble_eq_true rfl) (Nat.le_of_ble_eq_true rfl) rfl ?_
    refine c_fitMany (n := n) (L := L) hn hn2 (by omega) hL2 (by omega) ?_
    have hpu := pU_cap (fr := mfr h n) (L := L) (n := n)
    show ab_X (d + 4) mX12_step 191 [(0, .ref 200), (3, .int (iI (s : Int)))] [.int (iI ((pU (mfr h n) L n).length : Int)), .ref 200, .int (iI (s : Int)), .ref 200, .int (iI (s : Int)), .ref 200] h _
    refine ab_callV (As := [.int (iI ((pU (mfr h n) L n).length : Int))]) (rest := [.int (iI (s : Int)), .ref 200, .int (iI (s : Int)), .ref 200]) dX12_step_191 lX12_365 rfl (Nat.le_of_ble_eq_true rfl) (Nat.le_of_ble_eq_true rfl) rfl ?_
    refine c_mdraw (by omega) ?_
    have bd2 := drw_b (x := wv h 200 38) (m := ((pU (mfr h n) L n).length : Int)) (by omega)
    obtain ⟨hd, ehd⟩ : ∃ z : ab_H, z = wp h 200 38 (dN (wv h 200 38)) := ⟨_, rfl⟩
    rw [← ehd]
    show ab_X (d + 4) mX12_step 194 [(0, .ref 200), (3, .int (iI (s : Int)))] [.int (iI (drw (wv h 200 38) ((pU (mfr h n) L n).length : Int))), .int (iI (s : Int)), .ref 200, .int (iI (s : Int)), .ref 200] hd _
    refine ab_callV (As := [.int (iI (s : Int)), .int (iI (drw (wv h 200 38) ((pU (mfr h n) L n).length : Int)))]) (rest := [.int (iI (s : Int)), .ref 200]) dX12_step_194 lX12_368 rfl (Nat.le_of_ble_eq_true rfl) (Nat.le_of_ble_eq_true rfl) rfl ?_
    refine c_mfits (h9 := zp hd 200 0 0) (n := n) (L := L) rfl (by rw [zv_zp_ne (by decide), ehd]; exact hn) hn2 (by omega) (by rw [zv_zp_a (by decide), ehd]; exact hL2) (by omega) (by omega) (fun q => ?_) (fun q => ?_) (fun p q1 q2 => ?_) (fun q1 q2 => ?_)
    · skip
      exact absurd ⟨by rw [zv_zp_ne (by decide), ehd]; show (s : Int) < zv h 200 24; omega, by omega⟩ q
    · skip
      omega
    · skip
      have ehm : mfr (zp hd 200 0 0) n = mfr h n := by rw [ehd]; rfl
      rw [ehm] at q2
      have hpm := List.mem_of_getElem? q2
      rw [pU_pls (by omega) (fun y hy => mfr_end hy)] at hpm
      have hpi := pls_in hpm
      show ab_X (d + 4) mX12_step 197 [(0, .ref 200), (3, .int (iI (s : Int)))] [.int (iI (p : Int)), .int (iI (s : Int)), .ref 200] (zp hd 200 0 0) _
      refine ab_callV (As := [.int (iI (s : Int)), .int (iI (p : Int))]) (rest := []) dX12_step_197 lX12_329 rfl (Nat.le_of_ble_eq_true rfl) (Nat.le_of_ble_eq_true rfl) rfl ?_
      refine c_mstand (L := L) (by omega) (by rw [zv_zp_a (by decide), ehd]; exact hL2) (by omega) (by omega) (by omega) (fun h1 hm1 => ?_)
      show ab_X (d + 4) mX12_step 200 [(0, .ref 200), (3, .int (iI (s : Int)))] [] h1 _
      refine ab_aload_n (k := 0) dX12_step_200 rfl rfl ?_
      refine z_getP (b := 213) dX12_step_201 fX12_61 rfl rfl rfl ?_
      refine z_iconst dX12_step_204 ?_
      refine ab_dup2 dX12_step_205 rfl rfl ?_
      refine z_iald dX12_step_206 rfl (by omega) (by omega) ?_
      show ab_X _ _ _ _ (.int (iI (zv h1 213 0)) :: _) _ _
      have b1 := zv_R h1 213 0
      refine z_iconst dX12_step_207 ?_
      refine z_iadd dX12_step_208 ?_
      refine z_iast dX12_step_209 rfl (by omega) (by omega) ?_
      refine z_vret dX12_step_210 rfl ?_
      subst ehd
      exact k1 p h1 q2 hm1
    · skip
      have ehm : mfr (zp hd 200 0 0) n = mfr h n := by rw [ehd]; rfl
      rw [ehm] at q2
      exact absurd (List.getElem?_eq_none_iff.mp q2) (by omega)
  · skip
    refine ab_aload_n (k := 0) dX12_step_170 rfl rfl ?_
    refine z_getP (b := 213) dX12_step_171 fX12_61 rfl rfl rfl ?_
    refine z_iconst dX12_step_174 ?_
    refine ab_dup2 dX12_step_175 rfl rfl ?_
    refine z_iald dX12_step_176 rfl (by omega) (by omega) ?_
    show ab_X _ _ _ _ (.int (iI (zv h 213 2)) :: _) _ _
    have b2 := zv_R h 213 2
    refine z_iconst dX12_step_177 ?_
    refine z_iadd dX12_step_178 ?_
    refine z_iast dX12_step_179 rfl (by omega) (by omega) ?_
    refine z_vret dX12_step_180 rfl ?_
    exact k0 (List.length_eq_zero_iff.mp (by omega))
theorem c_step90 {d : Nat} {h : ab_H} {Q : ab_Q} {n k : Nat} (hI : MIr n k h) (K : ∀ h', comM n k h h' → Q none h') : ab_X (d + 4) mX12_step 90 [(0, .ref 200)] [] h Q := by
  refine z_iconst dX12_step_90 ?_
  refine ab_istore_n (ls' := [(1, .int (iI 0)), (0, .ref 200)]) dX12_step_91 rfl (by decide) rfl ?_
  refine z_iconst dX12_step_92 ?_
  refine ab_istore_n (ls' := [(2, .int (iI 0)), (1, .int (iI 0)), (0, .ref 200)]) dX12_step_93 rfl (by decide) rfl ?_
  refine ab_sub (ls' := [(0, .ref 200), (1, .int (iI 0)), (2, .int (iI 0))]) (ks := [2, 1, 0]) rfl ?_
  refine lp_step94 hI ?_ _ 0 0 h rfl rfl (by omega) rfl
  refine ab_aload_n (k := 0) dX12_step_121 rfl rfl ?_
  refine ab_iload_n (k := 1) dX12_step_122 rfl rfl ?_
  refine ab_callV (As := [.int (iI (sT (wtM h) k))]) (rest := []) dX12_step_123 lX12_365 rfl (Nat.le_of_ble_eq_true rfl) (Nat.le_of_ble_eq_true rfl) rfl ?_
  have hwb := wt_b hI k (Nat.le_refl k)
  have hk4 := hI.2.2.2.1
  have hw1 := hwb.2.2 hI.2.2.2.2.1
  have hw2 := hwb.2.1
  refine c_mdraw (by omega) ?_
  have bd := drw_b (x := wv h 200 38) (m := sT (wtM h) k) (by omega)
  show ab_X (d + 4) mX12_step 126 [(0, .ref 200), (1, .int (iI (sT (wtM h) k)))] [.int (iI (drw (wv h 200 38) (sT (wtM h) k)))] (wp h 200 38 (dN (wv h 200 38))) _
  refine ab_istore_n (ls' := [(2, .int (iI (drw (wv h 200 38) (sT (wtM h) k)))), (0, .ref 200), (1, .int (iI (sT (wtM h) k)))]) dX12_step_126 rfl (by decide) rfl ?_
  refine z_iconst dX12_step_127 ?_
  refine ab_istore_n (ls' := [(3, .int (iI 0)), (2, .int (iI (drw (wv h 200 38) (sT (wtM h) k)))), (0, .ref 200), (1, .int (iI (sT (wtM h) k)))]) dX12_step_128 rfl (by decide) rfl ?_
  refine ab_sub (ls' := [(0, .ref 200), (2, .int (iI (drw (wv h 200 38) (sT (wtM h) k)))), (3, .int (iI 0))]) (ks := [2, 1, 0]) rfl ?_
  refine lp_step129 (h0 := wp h 200 38 (dN (wv h 200 38))) (n := n) (k := k) (t := drw (wv h 200 38) (sT (wtM h) k)) hI bd.2 (fun s hs hsa hsb => ?_) _ 0 _ _ rfl rfl (by omega) (by show _ = _ - (0 : Int); omega) bd.1
  obtain ⟨L, hL⟩ : ∃ L : Nat, zv h 207 (2 * s) = L := ⟨(zv h 207 (2 * s)).toNat, by have := (hI.2.2.2.2.2.1 s hs).1; omega⟩
  have hLb := (hI.2.2.2.2.2.1 s hs).1
  have ewd : wv (wp h 200 38 (dN (wv h 200 38))) 200 38 = dN (wv h 200 38) := wv_wp_s (dN_L _)
  refine c_step162 (n := n) (L := L) (s := s) hI.1 hI.2.1 (by show (s : Int) < zv h 200 24; rw [hI.2.2.1]; omega) (by omega) hL (by omega) (fun q => K _ ⟨s, L, hs, hsa, hsb, hL, Or.inl ⟨q, rfl⟩⟩) (fun p h1 q1 q2 => ?_)
  rw [ewd] at q1 q2
  exact K _ ⟨s, L, hs, hsa, hsb, hL, Or.inr ⟨p, h1, q1, q2, rfl⟩⟩
theorem lp_step37 {d : Nat} {Q : ab_Q} {h0 : ab_H} {n : Nat} {t : Int} (hn2 : n ≤ 20) (ht : t < (cB (zv h0 211) n : Int)) (K : ∀ p : Nat, p < n → zv h0 211 p = p → (cB (zv h0 211) p : Int) = t → ab_X (d + 4) mX12_step 75 [(0, .ref 200), (2, .int (iI (p : Int)))] [] h0 Q) : ∀ (nn : Nat) (y : Nat) (v : Int) (h : ab_H), n - y = nn → (h = h0) → (y ≤ n) → (v = t - (cB (zv h0 211) y : Int)) → (0 ≤ v) → ab_X (d + 4) mX12_step 37 [(0, .ref 200), (1, .int (iI v)), (2, .int (iI (y : Int)))] [] h Q := by
  intro nn
  induction nn using Nat.strongRecOn with
  | ind nn ih =>
  intro y v h hnn hh h2 ha hv
  subst hh
  have hyn : y < n := by
    by_cases e : y = n
    · rw [e] at ha; omega
    · omega
  have hcs := cB_s (zv h 211) y
  have hcl := cB_le (zv h 211) n
  have hcy := cB_le (zv h 211) y
  refine ab_aload_n (k := 0) dX12_step_37 rfl rfl ?_
  refine z_getP (b := 211) dX12_step_38 fX12_55 rfl rfl rfl ?_
  refine ab_iload_n (k := 2) dX12_step_41 rfl rfl ?_
  refine z_iald dX12_step_42 rfl (by omega) (by omega) ?_
  simp only [Int.toNat_natCast]
  have b1 := zv_R h 211 y
  refine ab_iload_n (k := 2) dX12_step_43 rfl rfl ?_
  refine z_icmp_ne (tgt := 51) dX12_step_44 (by decide) (by omega) (by omega) (fun c44 => ?_) (fun c44 => ?_)
  · skip
    refine ab_iload_n (k := 1) dX12_step_51 rfl rfl ?_
    refine ab_aload_n (k := 0) dX12_step_52 rfl rfl ?_
    refine z_getP (b := 211) dX12_step_53 fX12_55 rfl rfl rfl ?_
    refine ab_iload_n (k := 2) dX12_step_56 rfl rfl ?_
    refine z_iald dX12_step_57 rfl (by omega) (by omega) ?_
    simp only [Int.toNat_natCast]
    have b2 := zv_R h 211 y
    refine ab_iload_n (k := 2) dX12_step_58 rfl rfl ?_
    refine z_icmp_ne (tgt := 66) dX12_step_59 (by decide) (by omega) (by omega) (fun c59 => ?_) (fun c59 => ?_)
    · skip
      refine z_iconst dX12_step_66 ?_
      refine z_isub dX12_step_67 ?_
      refine ab_istore_n (ls' := [(1, .int (iI (v - 0))), (0, .ref 200), (2, .int (iI (y : Int)))]) dX12_step_68 rfl (by decide) rfl ?_
      refine z_iinc (k := 2) (v := (y : Int) + 1) (ls' := [(2, .int (iI ((y : Int) + 1))), (1, .int (iI (v - 0))), (0, .ref 200)]) dX12_step_69 rfl rfl (by decide) rfl ?_
      refine ab_goto (tgt := 37) dX12_step_72 (by decide) ?_
      refine ab_sub (ls' := [(0, .ref 200), (1, .int (iI (v - 0))), (2, .int (iI ((y : Int) + 1)))]) (ks := [2, 1, 0]) rfl ?_
      first | exact ih _ (by omega) (y + 1) _ h rfl rfl (by omega) (by rw [hcs, if_pos (by omega)]; omega) (by omega) | exact ih _ (by omega) (y + 1) _ h rfl rfl (by omega) (by rw [hcs, if_neg (by omega)]; omega) (by omega)
    · skip
      refine z_iconst dX12_step_62 ?_
      refine ab_goto (tgt := 67) dX12_step_63 (by decide) ?_
      refine z_isub dX12_step_67 ?_
      refine ab_istore_n (ls' := [(1, .int (iI (v - 1))), (0, .ref 200), (2, .int (iI (y : Int)))]) dX12_step_68 rfl (by decide) rfl ?_
      refine z_iinc (k := 2) (v := (y : Int) + 1) (ls' := [(2, .int (iI ((y : Int) + 1))), (1, .int (iI (v - 1))), (0, .ref 200)]) dX12_step_69 rfl rfl (by decide) rfl ?_
      refine ab_goto (tgt := 37) dX12_step_72 (by decide) ?_
      refine ab_sub (ls' := [(0, .ref 200), (1, .int (iI (v - 1))), (2, .int (iI ((y : Int) + 1)))]) (ks := [2, 1, 0]) rfl ?_
      first | exact ih _ (by omega) (y + 1) _ h rfl rfl (by omega) (by rw [hcs, if_pos (by omega)]; omega) (by omega) | exact ih _ (by omega) (y + 1) _ h rfl rfl (by omega) (by rw [hcs, if_neg (by omega)]; omega) (by omega)
  · skip
    refine ab_iload_n (k := 1) dX12_step_47 rfl rfl ?_
    refine z_if_le (tgt := 75) dX12_step_48 (by decide) (by omega) (fun c48 => ?_) (fun c48 => ?_)
    · skip
      refine ab_sub (ls' := [(0, .ref 200), (2, .int (iI (y : Int)))]) (ks := [0, 2]) rfl ?_
      exact K y hyn (by omega) (by omega)
    · skip
      refine ab_iload_n (k := 1) dX12_step_51 rfl rfl ?_
      refine ab_aload_n (k := 0) dX12_step_52 rfl rfl ?_
      refine z_getP (b := 211) dX12_step_53 fX12_55 rfl rfl rfl ?_
      refine ab_iload_n (k := 2) dX12_step_56 rfl rfl ?_
      refine z_iald dX12_step_57 rfl (by omega) (by omega) ?_
      simp only [Int.toNat_natCast]
      have b3 := zv_R h 211 y
      refine ab_iload_n (k := 2) dX12_step_58 rfl rfl ?_
      refine z_icmp_ne (tgt := 66) dX12_step_59 (by decide) (by omega) (by omega) (fun c59 => ?_) (fun c59 => ?_)
      · skip
        refine z_iconst dX12_step_66 ?_
        refine z_isub dX12_step_67 ?_
        refine ab_istore_n (ls' := [(1, .int (iI (v - 0))), (0, .ref 200), (2, .int (iI (y : Int)))]) dX12_step_68 rfl (by decide) rfl ?_
        refine z_iinc (k := 2) (v := (y : Int) + 1) (ls' := [(2, .int (iI ((y : Int) + 1))), (1, .int (iI (v - 0))), (0, .ref 200)]) dX12_step_69 rfl rfl (by decide) rfl ?_
        refine ab_goto (tgt := 37) dX12_step_72 (by decide) ?_
        refine ab_sub (ls' := [(0, .ref 200), (1, .int (iI (v - 0))), (2, .int (iI ((y : Int) + 1)))]) (ks := [2, 1, 0]) rfl ?_
        first | exact ih _ (by omega) (y + 1) _ h rfl rfl (by omega) (by rw [hcs, if_pos (by omega)]; omega) (by omega) | exact ih _ (by omega) (y + 1) _ h rfl rfl (by omega) (by rw [hcs, if_neg (by omega)]; omega) (by omega)
      · skip
        refine z_iconst dX12_step_62 ?_
        refine ab_goto (tgt := 67) dX12_step_63 (by decide) ?_
        refine z_isub dX12_step_67 ?_
        refine ab_istore_n (ls' := [(1, .int (iI (v - 1))), (0, .ref 200), (2, .int (iI (y : Int)))]) dX12_step_68 rfl (by decide) rfl ?_
        refine z_iinc (k := 2) (v := (y : Int) + 1) (ls' := [(2, .int (iI ((y : Int) + 1))), (1, .int (iI (v - 1))), (0, .ref 200)]) dX12_step_69 rfl rfl (by decide) rfl ?_
        refine ab_goto (tgt := 37) dX12_step_72 (by decide) ?_
        refine ab_sub (ls' := [(0, .ref 200), (1, .int (iI (v - 1))), (2, .int (iI ((y : Int) + 1)))]) (ks := [2, 1, 0]) rfl ?_
        first | exact ih _ (by omega) (y + 1) _ h rfl rfl (by omega) (by rw [hcs, if_pos (by omega)]; omega) (by omega) | exact ih _ (by omega) (y + 1) _ h rfl rfl (by omega) (by rw [hcs, if_neg (by omega)]; omega) (by omega)
theorem c_step26 {d : Nat} {h : ab_H} {Q : ab_Q} {n k : Nat} (hIx : MIr n k h) (h0 : 0 < cB (zv h 211) n) (K : ∀ h', goM n h h' → ab_X (d + 4) mX12_step 90 [(0, .ref 200)] [] h' Q) : ab_X (d + 4) mX12_step 26 [(0, .ref 200)] [] h Q := by
  have hn20 := hIx.2.1
  refine ab_aload_n (k := 0) dX12_step_26 rfl rfl ?_
  refine ab_aload_n (k := 0) dX12_step_27 rfl rfl ?_
  refine ab_callV (As := []) (rest := [.ref 200]) dX12_step_28 lX12_339 rfl (Nat.le_of_ble_eq_true rfl) (Nat.le_of_ble_eq_true rfl) rfl ?_
  refine c_carMany (n := n) hIx.1 hIx.2.1 ?_
  have hcl := cB_le (zv h 211) n
  have hn20 := hIx.2.1
  show ab_X (d + 4) mX12_step 31 [(0, .ref 200)] [.int (iI (cB (zv h 211) n : Int)), .ref 200] h _
  refine ab_callV (As := [.int (iI (cB (zv h 211) n : Int))]) (rest := []) dX12_step_31 lX12_365 rfl (Nat.le_of_ble_eq_true rfl) (Nat.le_of_ble_eq_true rfl) rfl ?_
  refine c_mdraw (by omega) ?_
  have bd := drw_b (x := wv h 200 38) (m := (cB (zv h 211) n : Int)) (by omega)
  show ab_X (d + 4) mX12_step 34 [(0, .ref 200)] [.int (iI (drw (wv h 200 38) (cB (zv h 211) n : Int)))] (wp h 200 38 (dN (wv h 200 38))) _
  refine ab_istore_n (ls' := [(1, .int (iI (drw (wv h 200 38) (cB (zv h 211) n : Int)))), (0, .ref 200)]) dX12_step_34 rfl (by decide) rfl ?_
  refine z_iconst dX12_step_35 ?_
  refine ab_istore_n (ls' := [(2, .int (iI 0)), (1, .int (iI (drw (wv h 200 38) (cB (zv h 211) n : Int)))), (0, .ref 200)]) dX12_step_36 rfl (by decide) rfl ?_
  refine ab_sub (ls' := [(0, .ref 200), (1, .int (iI (drw (wv h 200 38) (cB (zv h 211) n : Int)))), (2, .int (iI 0))]) (ks := [2, 1, 0]) rfl ?_
  refine lp_step37 (h0 := wp h 200 38 (dN (wv h 200 38))) (n := n) (t := drw (wv h 200 38) (cB (zv h 211) n : Int)) hIx.2.1 bd.2 (fun p hp hpb hpc => ?_) _ 0 _ _ rfl rfl (by omega) (by show _ = _ - ((0 : Nat) : Int); omega) bd.1
  refine ab_aload_n (k := 0) dX12_step_75 rfl rfl ?_
  refine ab_iload_n (k := 1) dX12_step_76 rfl rfl ?_
  refine ab_callV (As := [.int (iI (p : Int))]) (rest := []) dX12_step_77 lX12_336 rfl (Nat.le_of_ble_eq_true rfl) (Nat.le_of_ble_eq_true rfl) rfl ?_
  refine c_goAway (n := n) hIx.1 hIx.2.1 (by omega) (fun h1 hg1 => ?_)
  show ab_X (d + 4) mX12_step 80 [(0, .ref 200), (2, .int (iI (p : Int)))] [] h1 _
  refine ab_aload_n (k := 0) dX12_step_80 rfl rfl ?_
  refine z_getP (b := 213) dX12_step_81 fX12_61 rfl rfl rfl ?_
  refine z_iconst dX12_step_84 ?_
  refine ab_dup2 dX12_step_85 rfl rfl ?_
  refine z_iald dX12_step_86 rfl (by omega) (by omega) ?_
  show ab_X _ _ _ _ (.int (iI (zv h1 213 1)) :: _) _ _
  have b1 := zv_R h1 213 1
  refine z_iconst dX12_step_87 ?_
  refine z_iadd dX12_step_88 ?_
  refine z_iast dX12_step_89 rfl (by omega) (by omega) ?_
  refine ab_sub (ls' := [(0, .ref 200)]) (ks := [0]) rfl ?_
  exact K _ ⟨p, h1, hp, hpb, hpc, hg1, rfl⟩
theorem c_step {d : Nat} {h : ab_H} {Q : ab_Q} {n k : Nat} (hI : MIr n k h) (K : ∀ h', MIr n k h' → stpM n k h h' → Q none h') : ab_X (d + 4) mX12_step 0 (lv_args 0 [.ref 200]) [] h Q := by
  show ab_X (d + 4) mX12_step 0 [(0, .ref 200)] [] h Q
  obtain ⟨a, ha, ha2⟩ := hI.2.2.2.2.2.2
  refine ab_aload_n (k := 0) dX12_step_0 rfl rfl ?_
  refine ab_callV (As := []) (rest := []) dX12_step_1 lX12_354 rfl (Nat.le_of_ble_eq_true rfl) (Nat.le_of_ble_eq_true rfl) rfl ?_
  refine c_remember ha ha2 (fun hk hrem => ?_)
  have hIk := MIr_rem ha2 hI hrem
  show ab_X (d + 4) mX12_step 4 [(0, .ref 200)] [] hk _
  refine ab_aload_n (k := 0) dX12_step_4 rfl rfl ?_
  refine z_bipush dX12_step_5 (by decide) ?_
  refine ab_callV (As := [.int (iI 100)]) (rest := []) dX12_step_7 lX12_365 rfl (Nat.le_of_ble_eq_true rfl) (Nat.le_of_ble_eq_true rfl) rfl ?_
  refine c_mdraw (by omega) ?_
  have bd := drw_b (x := wv hk 200 38) (m := 100) (by decide)
  obtain ⟨hd, ehd⟩ : ∃ z : ab_H, z = wp hk 200 38 (dN (wv hk 200 38)) := ⟨_, rfl⟩
  rw [← ehd]
  have hIx : MIr n k hd := by rw [ehd]; exact hIk
  have el : zv hd 205 2 = zv hk 205 2 := by rw [ehd]; rfl
  have ec : cB (zv hd 211) n = cB (zv hk 211) n := by rw [ehd]; rfl
  show ab_X (d + 4) mX12_step 10 [(0, .ref 200)] [.int (iI (drw (wv hk 200 38) 100))] hd _
  refine ab_aload_n (k := 0) dX12_step_10 rfl rfl ?_
  refine z_getP (b := 205) dX12_step_11 fX12_37 rfl rfl rfl ?_
  refine z_iconst dX12_step_14 ?_
  refine z_iald dX12_step_15 rfl (by omega) (by omega) ?_
  show ab_X _ _ _ _ (.int (iI (zv hd 205 2)) :: _) _ _
  have b1 := zv_R hd 205 2
  refine z_icmp_ge (tgt := 90) dX12_step_16 (by decide) (by omega) (by omega) (fun c16 => ?_) (fun c16 => ?_)
  · skip
    refine ab_sub (ls' := [(0, .ref 200)]) (ks := [0]) rfl ?_
    refine c_step90 hIx (fun h3 hco => K h3 (MIr_com hIx hco) ⟨a, hk, hd, ha, hrem, Or.inr ⟨by omega, ehd⟩, hco⟩)
  · skip
    refine ab_aload_n (k := 0) dX12_step_19 rfl rfl ?_
    refine ab_callV (As := []) (rest := []) dX12_step_20 lX12_339 rfl (Nat.le_of_ble_eq_true rfl) (Nat.le_of_ble_eq_true rfl) rfl ?_
    refine c_carMany (n := n) hIx.1 hIx.2.1 ?_
    have hcl := cB_le (zv hd 211) n
    have hn20 := hIx.2.1
    show ab_X (d + 4) mX12_step 23 [(0, .ref 200)] [.int (iI (cB (zv hd 211) n : Int))] hd _
    refine z_if_le (tgt := 90) dX12_step_23 (by decide) (by omega) (fun c23 => ?_) (fun c23 => ?_)
    · skip
      refine ab_sub (ls' := [(0, .ref 200)]) (ks := [0]) rfl ?_
      refine c_step90 hIx (fun h3 hco => K h3 (MIr_com hIx hco) ⟨a, hk, hd, ha, hrem, Or.inr ⟨by omega, ehd⟩, hco⟩)
    · skip
      refine ab_sub (ls' := [(0, .ref 200)]) (ks := [0]) rfl ?_
      refine c_step26 hIx (by omega) (fun h2 hgo => ?_)
      have hI2 := MIr_go hIx hgo
      rw [ehd] at hgo
      exact c_step90 hI2 (fun h3 hco => K h3 (MIr_com hI2 hco) ⟨a, hk, h2, ha, hrem, Or.inl ⟨by omega, by omega, hgo⟩, hco⟩)
theorem lp_mrun {d : Nat} {Q : ab_Q} {n k m : Nat} {P : Nat → ab_H → Prop} (hm : m ≤ 40) (hP : ∀ i h h', P i h → stpM n k h h' → P (i + 1) h') (K : ∀ h, MIr n k h → P m h → Q (some (.int (iI (cB (zv h 211) n : Int)))) h) : ∀ (nn : Nat) (i : Nat) (h : ab_H), m - i = nn → (i ≤ m) → (MIr n k h) → (P i h) → ab_X (d + 5) mX12_run 34 [(0, .ref 200), (1, .int (iI (m : Int))), (4, .int (iI (i : Int)))] [] h Q := by
  intro nn
  induction nn using Nat.strongRecOn with
  | ind nn ih =>
  intro i h hnn h2 hI hPi
  have hIx := hI
  refine ab_iload (k := 2) dX12_run_34 rfl ?_
  refine ab_iload_n (k := 1) dX12_run_36 rfl rfl ?_
  refine z_icmp_ge (tgt := 50) dX12_run_37 (by decide) (by omega) (by omega) (fun c37 => ?_) (fun c37 => ?_)
  · skip
    refine ab_aload_n (k := 0) dX12_run_50 rfl rfl ?_
    refine ab_callV (As := []) (rest := []) dX12_run_51 lX12_339 rfl (Nat.le_of_ble_eq_true rfl) (Nat.le_of_ble_eq_true rfl) rfl ?_
    refine c_carMany (n := n) hIx.1 hIx.2.1 ?_
    have hcl := cB_le (zv h 211) n
    have hn20 := hIx.2.1
    show ab_X (d + 5) mX12_run 54 [(0, .ref 200), (1, .int (iI (m : Int))), (4, .int (iI (i : Int)))] [.int (iI (cB (zv h 211) n : Int))] h _
    refine z_iret dX12_run_54 rfl ?_
    have e : i = m := by omega
    subst e
    exact K h hI hPi
  · skip
    refine ab_aload_n (k := 0) dX12_run_40 rfl rfl ?_
    refine ab_callV (As := []) (rest := []) dX12_run_41 lX12_373 rfl (Nat.le_of_ble_eq_true rfl) (Nat.le_of_ble_eq_true rfl) rfl ?_
    refine c_step hI (fun h1 hI1 hst => ?_)
    show ab_X (d + 5) mX12_run 44 [(0, .ref 200), (1, .int (iI (m : Int))), (4, .int (iI (i : Int)))] [] h1 _
    refine z_iinc (k := 2) (v := (i : Int) + 1) (ls' := [(4, .int (iI ((i : Int) + 1))), (0, .ref 200), (1, .int (iI (m : Int)))]) dX12_run_44 rfl rfl (by decide) rfl ?_
    refine ab_goto (tgt := 34) dX12_run_47 (by decide) ?_
    refine ab_sub (ls' := [(0, .ref 200), (1, .int (iI (m : Int))), (4, .int (iI ((i : Int) + 1)))]) (ks := [1, 2, 0]) rfl ?_
    exact ih _ (by omega) (i + 1) _ rfl (by omega) hI1 (hP i h _ hPi hst)
theorem c_mrun {d : Nat} {h : ab_H} {Q : ab_Q} {h9 : ab_H} {n k : Nat} {m x : Int} {P : Nat → ab_H → Prop} (e9 : zp h 200 0 0 = h9) (hm : inR m) (hI : 0 < k → MIr n k h9) (hk : zv h9 200 24 = k) (hk4 : k ≤ 4) (k0 : ¬ (0 < k ∧ 1 ≤ m ∧ m ≤ 40) → Q (some (.int (iI (-1)))) h9) (hP0 : P 0 (wp h9 200 38 x)) (hP : ∀ i h h', P i h → stpM n k h h' → P (i + 1) h') (K : 0 < k ∧ 1 ≤ m ∧ m ≤ 40 → ∀ h, MIr n k h → P m.toNat h → Q (some (.int (iI (cB (zv h 211) n : Int)))) h) : ab_X (d + 5) mX12_run 0 (lv_args 0 [.ref 200, .int (iI m), .long (lL x)]) [] h Q := by
  show ab_X (d + 5) mX12_run 0 [(0, .ref 200), (1, .int (iI m)), (2, .long (lL x))] [] h Q
  refine ab_aload_n (k := 0) dX12_run_0 rfl rfl ?_
  refine z_iconst dX12_run_1 ?_
  refine z_putI dX12_run_2 fX12_111 rfl rfl ?_
  rw [e9]
  refine ab_aload_n (k := 0) dX12_run_5 rfl rfl ?_
  refine z_getI dX12_run_6 fX12_284 rfl (Or.inl rfl) ?_
  refine z_is (y := (k : Int)) hk ?_
  refine z_if_eq (tgt := 24) dX12_run_9 (by decide) (by omega) (fun c9 => ?_) (fun c9 => ?_)
  · skip
    refine z_iconst dX12_run_24 ?_
    refine z_iret dX12_run_25 rfl ?_
    first | exact k0 (by omega) | (obtain ⟨mm, rfl⟩ : ∃ z : Nat, m = z := ⟨m.toNat, by omega⟩; exact lp_mrun (by omega) hP (K (by omega)) _ 0 _ rfl (by omega) (hI (by omega)) hP0)
  · skip
    refine ab_iload_n (k := 1) dX12_run_12 rfl rfl ?_
    refine z_i2l dX12_run_13 (by omega) ?_
    refine z_lconst (v := 1) dX12_run_14 (by decide) ?_
    refine z_ldc2 (v := 40) dX12_run_15 qX12_371 (by decide) ?_
    refine ab_callS (As := [.long (lL m), .long (lL 1), .long (lL 40)]) (rest := []) dX12_run_18 lX12_232 (Nat.le_of_ble_eq_true rfl) (Nat.le_of_ble_eq_true rfl) rfl ?_
    refine c_isIn (by omega) (by omega) (by omega) (fun g18 => ?_) (fun g18 => ?_)
    · skip
      try simp only [Int.toNat_natCast] at g18
      have gL := g18
      show ab_X (d + 5) mX12_run 21 [(0, .ref 200), (1, .int (iI m)), (2, .long (lL x))] [.int (iI 1)] h9 _
      refine z_if_ne (tgt := 26) dX12_run_21 (by decide) (by decide) (fun _ => ?_) (fun c21 => absurd c21 (by decide))
      refine ab_aload_n (k := 0) dX12_run_26 rfl rfl ?_
      refine ab_lload_n (k := 2) dX12_run_27 rfl rfl ?_
      refine z_putL dX12_run_28 fX12_357 rfl rfl ?_
      refine z_iconst dX12_run_31 ?_
      refine ab_istore (ls' := [(4, .int (iI 0)), (0, .ref 200), (1, .int (iI m)), (2, .long (lL x))]) dX12_run_32 (by decide) rfl ?_
      refine ab_sub (ls' := [(0, .ref 200), (1, .int (iI m)), (4, .int (iI 0))]) (ks := [1, 2, 0]) rfl ?_
      first | exact k0 (by omega) | (obtain ⟨mm, rfl⟩ : ∃ z : Nat, m = z := ⟨m.toNat, by omega⟩; exact lp_mrun (by omega) hP (K (by omega)) _ 0 _ rfl (by omega) (hI (by omega)) hP0)
    · skip
      try simp only [Int.toNat_natCast] at g18
      have gL := g18
      show ab_X (d + 5) mX12_run 21 [(0, .ref 200), (1, .int (iI m)), (2, .long (lL x))] [.int (iI 0)] h9 _
      refine z_if_ne (tgt := 26) dX12_run_21 (by decide) (by decide) (fun c21 => absurd c21 (by decide)) (fun _ => ?_)
      refine z_iconst dX12_run_24 ?_
      refine z_iret dX12_run_25 rfl ?_
      first | exact k0 (by omega) | (obtain ⟨mm, rfl⟩ : ∃ z : Nat, m = z := ⟨m.toNat, by omega⟩; exact lp_mrun (by omega) hP (K (by omega)) _ 0 _ rfl (by omega) (hI (by omega)) hP0)
