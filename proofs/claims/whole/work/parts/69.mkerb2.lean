/-! THE MODEL READS A KERB: clauses, the whole kerb -/
def TBm (m : Nat) (tl : Nat → Bool) : Prop := m < 8 ∧ ∀ k, k < 3 → tl k = tb m k
theorem TB_s {m k : Nat} {tl : Nat → Bool} (h : TBm m tl) (hk : k < 3) : TBm (m ||| 2 ^ k) (fun i => decide (i = k) || tl i) := by
  refine ⟨Nat.or_lt_two_pow (n := 3) h.1 (Nat.pow_lt_pow_right (by omega) hk), fun i hi => ?_⟩
  show (decide (i = k) || tl i) = (m ||| 2 ^ k).testBit i
  rw [orB, h.2 i hi, Nat.testBit_two_pow, Bool.or_comm]
  congr 1
  by_cases e : i = k
  · rw [decide_eq_true e, decide_eq_true e.symm]
  · rw [decide_eq_false e, decide_eq_false (fun q => e q.symm)]
/-- how many items are still to be told -/
def lft (j f : Nat) (tl : Nat → Bool) : Prop := f + (if tl 0 = true then 1 else 0) + (if tl 1 = true then 1 else 0) + (if j = 0 ∧ tl 2 = true then 1 else 0) = kn j
theorem lft_s {j f k : Nat} {tl : Nat → Bool} (h : lft j (f + 1) tl) (hk : k < kn j) (ht : ¬ tl k = true) : lft j f (fun i => decide (i = k) || tl i) := by
  unfold lft at h ⊢
  have h3 := (kn3 j).1
  have h2 : k = 2 → j = 0 := fun e => by unfold kn at hk; split at hk; assumption; omega
  rcases (show k = 0 ∨ k = 1 ∨ k = 2 by omega) with rfl | rfl | rfl
  · simp only [decide_true, Bool.true_or, if_true, show decide ((1 : Nat) = 0) = false from rfl, show decide ((2 : Nat) = 0) = false from rfl, Bool.false_or]
    rw [if_neg ht] at h; omega
  · simp only [decide_true, Bool.true_or, if_true, show decide ((0 : Nat) = 1) = false from rfl, show decide ((2 : Nat) = 1) = false from rfl, Bool.false_or]
    rw [if_neg ht] at h; omega
  · have hj := h2 rfl
    simp only [decide_true, Bool.true_or, show decide ((0 : Nat) = 2) = false from rfl, show decide ((1 : Nat) = 2) = false from rfl, Bool.false_or]
    rw [if_pos (show j = 0 ∧ True from ⟨hj, trivial⟩)]
    rw [if_neg (show ¬ (j = 0 ∧ tl 2 = true) from fun q => ht q.2)] at h; omega
theorem lft_0 {j k : Nat} {tl : Nat → Bool} (h : lft j 0 tl) (hk : k < kn j) : tl k = true := by
  unfold lft at h
  unfold kn at h hk
  by_cases e : j = 0
  · rw [if_pos e] at h hk
    rcases (show k = 0 ∨ k = 1 ∨ k = 2 by omega) with rfl | rfl | rfl
    · by_cases q : tl 0 = true
      · exact q
      · rw [if_neg q] at h; (repeat' split at h) <;> omega
    · by_cases q : tl 1 = true
      · exact q
      · rw [if_neg q] at h; (repeat' split at h) <;> omega
    · by_cases q : tl 2 = true
      · exact q
      · rw [if_neg (show ¬ (j = 0 ∧ tl 2 = true) from fun r => q r.2)] at h; (repeat' split at h) <;> omega
  · rw [if_neg e] at h hk
    rw [if_neg (show ¬ (j = 0 ∧ tl 2 = true) from fun r => e r.1)] at h
    rcases (show k = 0 ∨ k = 1 by omega) with rfl | rfl
    · by_cases q : tl 0 = true
      · exact q
      · rw [if_neg q] at h; (repeat' split at h) <;> omega
    · by_cases q : tl 1 = true
      · exact q
      · rw [if_neg q] at h; (repeat' split at h) <;> omega
def eqI (to r n : Nat) (h h' : ab_H) : Prop := ∀ a j, ¬ (a = 200 ∧ (j = 10 ∨ j = 11)) → ¬ (a = to ∧ r ≤ j ∧ j < r + n) → zv h' a j = zv h a j
theorem dl_kitems0 {d : Nat} {h : ab_H} {Q : ab_Q} {w : Int} {k r m : Nat}  (hk : k < 3) (hw : zv h 200 11 = w) (hw1 : ¬ w = -1) (K : Q none h) : ab_X (d + 8) mX12_readClause 251 [(0, .ref 200), (1, .int (iI 107)), (3, .int (iI (r : Int))), (4, .ref 206), (5, .ref (2000 + 0)), (6, .int (iI (m : Int))), (7, .int (iI (k : Int)))] [] h Q := by
  have hwR := zv_R h 200 11
  rw [hw] at hwR
  refine ab_iload (k := 6) dX12_readClause_251 rfl ?_
  refine z_iconst dX12_readClause_253 ?_
  refine z_icmp_eq (tgt := 334) dX12_readClause_254 (by decide) (by omega) (by decide) (fun c254 => absurd c254 (by omega)) (fun c254 => ?_)
  refine ab_aload_n (k := 0) dX12_readClause_257 rfl rfl ?_
  refine z_getI dX12_readClause_258 fX12_143 rfl (Or.inl rfl) ?_
  refine z_is (y := w) hw ?_
  refine z_iconst dX12_readClause_261 ?_
  refine z_icmp_ne (tgt := 334) dX12_readClause_262 (by decide) (by omega) (by decide) (fun c262 => ?_) (fun c262 => absurd c262 (fun q => hw1 q))
  refine z_vret dX12_readClause_334 rfl ?_
  exact K
theorem lp_kitems0 {d : Nat} {Q : ab_Q} {h0 : ab_H} {T : Nat → Int} {z p0 r : Nat} {R : kR}  (ht : tx T z) (hr : r + 3 ≤ 3) (K1 : ∀ h' q v, R = (-1, q, v) → p0 ≤ q → vOK 0 v → eqI 206 r 3 h0 h' → (∀ i, i < 3 → zv h' 206 (r + i) = g3 v i) → MK T z h' q → Q none h') (K2 : ∀ h' q v, R = (-1, q, v) → ¬ sg T z q = 59 → ¬ sg T z q = -1 → lk T z q = q → eqI 206 r 3 h0 h' → zv h' 200 11 = (q : Int) → Q none h') (K0 : ∀ h' w, R.1 = w → ¬ w = -1 → eqI 206 r 3 h0 h' → zv h' 200 11 = w → Q none h') : ∀ (nn : Nat) (p : Nat) (f : Nat) (m : Nat) (tl : Nat → Bool) (v : V3) (h : ab_H), f = nn → (MK T z h (lk T z p)) → (eqI 206 r 3 h0 h) → (TBm m tl) → (lft 0 f tl) → (∀ i, i < 3 → zv h 206 (r + i) = g3 v i) → (vOK 0 v) → (p0 ≤ p) → (kit T z 0 f tl v p = R) → ab_X (d + 8) mX12_readClause 251 [(0, .ref 200), (1, .int (iI 107)), (3, .int (iI (r : Int))), (4, .ref 206), (5, .ref (2000 + 0)), (6, .int (iI (m : Int))), (7, .int (iI (pof 0 (sg T z p))))] [] h Q := by
  intro nn
  induction nn using Nat.strongRecOn with
  | ind nn ih =>
  intro p f m tl v h hnn Sh hI hm hlf V hv hp0 hR
  have hz := ht.1
  have hpk := lk_ge T z p
  have hpb := pof_b 0 (sg T z p)
  have hm8 := hm.1
  have hm20 : m < 1048576 := by omega
  refine ab_iload (k := 6) dX12_readClause_251 rfl ?_
  refine z_iconst dX12_readClause_253 ?_
  refine z_icmp_eq (tgt := 334) dX12_readClause_254 (by decide) (by omega) (by decide) (fun c254 => ?_) (fun c254 => ?_)
  · skip
    refine z_vret dX12_readClause_334 rfl ?_
    have eR : R = (-1, lk T z p, v) := by rw [← hR]; exact kit_n (by omega)
    exact K1 _ _ _ eR (by omega) hv hI V Sh
  · skip
    refine ab_sub (ls' := [(0, .ref 200), (1, .int (iI 107)), (3, .int (iI (r : Int))), (4, .ref 206), (5, .ref (2000 + 0)), (6, .int (iI (m : Int))), (7, .int (iI (pof 0 (sg T z p))))]) (ks := [0, 1, 2, 3, 4, 5, 6]) rfl ?_
    obtain ⟨k, hk1, hk2, hk3, hk4⟩ := pof_i (j := 0) (s := sg T z p) (by decide) (by omega)
    rw [hk1]
    have hkn : k < 3 := hk2
    have hkn3 : k < 3 := by omega
    have hkb := kl_b 0 k
    have hkm := km_b 0 k
    have zin := sg_in (T := T) (z := z) (p := p) hk4
    have hy := sg_b ht p
    refine ab_aload_n (k := 0) dX12_readClause_257 rfl rfl ?_
    refine z_getI dX12_readClause_258 fX12_143 rfl (Or.inl rfl) ?_
    refine z_is (y := (-1)) Sh.2.2.1 ?_
    refine z_iconst dX12_readClause_261 ?_
    refine z_icmp_ne (tgt := 334) dX12_readClause_262 (by decide) (by decide) (by decide) (fun c262 => absurd c262 (by decide)) (fun _ => ?_)
    refine ab_iload (k := 5) dX12_readClause_265 rfl ?_
    refine ab_iload (k := 6) dX12_readClause_267 rfl ?_
    refine ab_callS (As := [.int (iI (m : Int)), .int (iI (k : Int))]) (rest := []) dX12_readClause_269 lX12_255 (Nat.le_of_ble_eq_true rfl) (Nat.le_of_ble_eq_true rfl) rfl ?_
    refine c_has (by omega) (by omega) (fun gh => ?_) (fun gh => ?_)
    · skip
      show ab_X (d + 8) mX12_readClause 272 [(0, .ref 200), (1, .int (iI 107)), (3, .int (iI (r : Int))), (4, .ref 206), (5, .ref (2000 + 0)), (6, .int (iI (m : Int))), (7, .int (iI (k : Int)))] [.int (iI 1)] h _
      refine z_if_eq (tgt := 281) dX12_readClause_272 (by decide) (by decide) (fun c272 => absurd c272 (by decide)) (fun _ => ?_)
      refine ab_aload_n (k := 0) dX12_readClause_275 rfl rfl ?_
      refine ab_callV (As := []) (rest := []) dX12_readClause_276 lX12_149 rfl (Nat.le_of_ble_eq_true rfl) (Nat.le_of_ble_eq_true rfl) rfl ?_
      refine c_kfails ht Sh (fun e276 se276 we276 => ?_)
      show ab_X (d + 8) mX12_readClause 279 [(0, .ref 200), (1, .int (iI 107)), (3, .int (iI (r : Int))), (4, .ref 206), (5, .ref (2000 + 0)), (6, .int (iI (m : Int))), (7, .int (iI (k : Int)))] [.int (iI 0)] e276 _
      refine ab_pop dX12_readClause_279 rfl ?_
      refine z_vret dX12_readClause_280 rfl ?_
      have eR : R = (-1, lk T z p, v) := by rw [← hR]; exact kit_t hk1 (by rw [hm.2 k hkn3]; exact gh)
      exact K2 _ _ _ eR (by rw [sg_lk]; exact hk3) (by rw [sg_lk]; exact hk4) (lk_lk T z p) (fun a b c e => (se276.1 a b c).trans (hI a b c e)) we276
    · skip
      show ab_X (d + 8) mX12_readClause 272 [(0, .ref 200), (1, .int (iI 107)), (3, .int (iI (r : Int))), (4, .ref 206), (5, .ref (2000 + 0)), (6, .int (iI (m : Int))), (7, .int (iI (k : Int)))] [.int (iI 0)] h _
      refine z_if_eq (tgt := 281) dX12_readClause_272 (by decide) (by decide) (fun _ => ?_) (fun c272 => absurd c272 (by decide))
      have hno : ¬ tl k = true := fun q => gh (by rw [← hm.2 k hkn3]; exact q)
      obtain ⟨f', rfl⟩ : ∃ f', f = f' + 1 := ⟨f - 1, by
        cases f with
        | zero => exact absurd (lft_0 hlf hkn) hno
        | succ f => omega⟩
      refine ab_iload (k := 5) dX12_readClause_281 rfl ?_
      refine z_iconst dX12_readClause_283 ?_
      refine ab_iload (k := 6) dX12_readClause_284 rfl ?_
      refine ab_ishl dX12_readClause_286 ?_
      refine z_top ?_
      refine z_is (y := ((2 ^ k : Nat) : Int)) (shl1 (by omega)) ?_
      refine ab_ior dX12_readClause_287 ?_
      refine z_top ?_
      refine z_is (y := ((m ||| 2 ^ k : Nat) : Int)) (orN hm20 (p20 (by omega))) ?_
      refine ab_istore (ls' := [(6, .int (iI ((m ||| 2 ^ k : Nat) : Int))), (0, .ref 200), (1, .int (iI 107)), (3, .int (iI (r : Int))), (4, .ref 206), (5, .ref (2000 + 0)), (7, .int (iI (k : Int)))]) dX12_readClause_288 (by decide) rfl ?_
      refine ab_aload_n (k := 1) dX12_readClause_290 rfl rfl ?_
      refine ab_aload (k := 4) dX12_readClause_291 rfl ?_
      refine ab_iload_n (k := 3) dX12_readClause_293 rfl rfl ?_
      refine ab_iload (k := 6) dX12_readClause_294 rfl ?_
      refine z_iadd dX12_readClause_296 ?_
      refine z_is (y := ((r + k : Nat) : Int)) (by omega) ?_
      refine ab_iload_n (k := 2) dX12_readClause_297 rfl rfl ?_
      refine ab_iload (k := 6) dX12_readClause_298 rfl ?_
      refine ab_callS (As := [.int (iI 107), .int (iI (k : Int))]) (rest := [.int (iI ((r + k : Nat) : Int)), .ref 206, .ref 200]) dX12_readClause_300 lX12_259 (Nat.le_of_ble_eq_true rfl) (Nat.le_of_ble_eq_true rfl) rfl ?_
      refine c_kleast0 hkn ?_
      show ab_X (d + 8) mX12_readClause 303 [(6, .int (iI ((m ||| 2 ^ k : Nat) : Int))), (0, .ref 200), (1, .int (iI 107)), (3, .int (iI (r : Int))), (4, .ref 206), (5, .ref (2000 + 0)), (7, .int (iI (k : Int)))] [.int (iI (kl 0 k)), .int (iI ((r + k : Nat) : Int)), .ref 206, .ref 200] h _
      refine ab_iload_n (k := 2) dX12_readClause_303 rfl rfl ?_
      refine ab_iload (k := 6) dX12_readClause_304 rfl ?_
      refine ab_callS (As := [.int (iI 107), .int (iI (k : Int))]) (rest := [.int (iI (kl 0 k)), .int (iI ((r + k : Nat) : Int)), .ref 206, .ref 200]) dX12_readClause_306 lX12_263 (Nat.le_of_ble_eq_true rfl) (Nat.le_of_ble_eq_true rfl) rfl ?_
      refine c_kmost0 hkn ?_
      show ab_X (d + 8) mX12_readClause 309 [(6, .int (iI ((m ||| 2 ^ k : Nat) : Int))), (0, .ref 200), (1, .int (iI 107)), (3, .int (iI (r : Int))), (4, .ref 206), (5, .ref (2000 + 0)), (7, .int (iI (k : Int)))] [.int (iI (km 0 k)), .int (iI (kl 0 k)), .int (iI ((r + k : Nat) : Int)), .ref 206, .ref 200] h _
      refine ab_callV (As := [.ref 206, .int (iI ((r + k : Nat) : Int)), .int (iI (kl 0 k)), .int (iI (km 0 k))]) (rest := []) dX12_readClause_309 lX12_266 rfl (Nat.le_of_ble_eq_true rfl) (Nat.le_of_ble_eq_true rfl) rfl ?_
      refine c_kitem206 ht (by omega) (by omega) (by omega) Sh (by omega) (fun l309 q309 v309 j309 b309 vb309 f309 u309 Sl309 => ?_) (fun e309 w309 j309 n309 se309 we309 => ?_)
      · skip
        show ab_X (d + 8) mX12_readClause 312 [(6, .int (iI ((m ||| 2 ^ k : Nat) : Int))), (0, .ref 200), (1, .int (iI 107)), (3, .int (iI (r : Int))), (4, .ref 206), (5, .ref (2000 + 0)), (7, .int (iI (k : Int)))] [] l309 _
        refine ab_aload_n (k := 1) dX12_readClause_312 rfl rfl ?_
        refine z_getI dX12_readClause_313 fX12_143 rfl (Or.inl rfl) ?_
        refine z_is (y := (-1)) Sl309.2.2.1 ?_
        refine z_iconst dX12_readClause_316 ?_
        refine z_icmp_ne (tgt := 251) dX12_readClause_317 (by decide) (by decide) (by decide) (fun c317 => absurd c317 (by decide)) (fun _ => ?_)
        refine ab_aload (k := 5) dX12_readClause_320 rfl ?_
        refine ab_aload_n (k := 1) dX12_readClause_322 rfl rfl ?_
        refine ab_callV (As := []) (rest := [.ref (2000 + 0)]) dX12_readClause_323 lX12_153 rfl (Nat.le_of_ble_eq_true rfl) (Nat.le_of_ble_eq_true rfl) rfl ?_
        refine c_klook ht Sl309 (fun l323 sl323 Sl323 => ?_)
        have k323 := lk_ge T z q309
        have y323 := sg_b ht q309
        have q323 := lk_le (T := T) Sl309.2.2.2
        show ab_X (d + 8) mX12_readClause 326 [(6, .int (iI ((m ||| 2 ^ k : Nat) : Int))), (0, .ref 200), (1, .int (iI 107)), (3, .int (iI (r : Int))), (4, .ref 206), (5, .ref (2000 + 0)), (7, .int (iI (k : Int)))] [.int (iI (sg T z q309)), .ref (2000 + 0)] l323 _
        refine ab_callS (As := [.ref (2000 + 0), .int (iI (sg T z q309))]) (rest := []) dX12_readClause_326 lX12_251 (Nat.le_of_ble_eq_true rfl) (Nat.le_of_ble_eq_true rfl) rfl ?_
        refine c_placeOf0 (by omega) ?_
        show ab_X (d + 8) mX12_readClause 329 [(6, .int (iI ((m ||| 2 ^ k : Nat) : Int))), (0, .ref 200), (1, .int (iI 107)), (3, .int (iI (r : Int))), (4, .ref 206), (5, .ref (2000 + 0)), (7, .int (iI (k : Int)))] [.int (iI (pof 0 (sg T z q309)))] l323 _
        refine ab_istore (ls' := [(7, .int (iI (pof 0 (sg T z q309)))), (6, .int (iI ((m ||| 2 ^ k : Nat) : Int))), (0, .ref 200), (1, .int (iI 107)), (3, .int (iI (r : Int))), (4, .ref 206), (5, .ref (2000 + 0))]) dX12_readClause_329 (by decide) rfl ?_
        refine ab_goto (tgt := 251) dX12_readClause_331 (by decide) ?_
        refine ab_sub (ls' := [(0, .ref 200), (1, .int (iI 107)), (3, .int (iI (r : Int))), (4, .ref 206), (5, .ref (2000 + 0)), (6, .int (iI ((m ||| 2 ^ k : Nat) : Int))), (7, .int (iI (pof 0 (sg T z q309))))]) (ks := [2, 3, 4, 5, 6, 1, 0]) rfl ?_
        have sl323' := sl323
        refine ih _ (by omega) q309 f' (m ||| 2 ^ k) _ _ _ rfl ?_ (fun a b c e => (sl323.1 a b c).trans ((f309 a b c (fun q => e ⟨q.1, by omega, by omega⟩)).trans (hI a b c e))) (TB_s hm hkn3) (lft_s hlf hkn hno) (fun i hi => ?_) (vOK_s hv hkn vb309) (by omega) ?_
        · exact Sl323
        · rw [sl323.1 206 _ (by omega), g3_s3 (by omega) (by omega)]
          by_cases e : i = k
          · subst e; rw [u309, if_pos rfl]
          · rw [f309 206 _ (by omega) (by omega), if_neg e]; exact V i hi
        · rw [← hR]; exact (kit_1 hk1 hno j309).symm
      · skip
        show ab_X (d + 8) mX12_readClause 312 [(6, .int (iI ((m ||| 2 ^ k : Nat) : Int))), (0, .ref 200), (1, .int (iI 107)), (3, .int (iI (r : Int))), (4, .ref 206), (5, .ref (2000 + 0)), (7, .int (iI (k : Int)))] [] e309 _
        refine ab_aload_n (k := 1) dX12_readClause_312 rfl rfl ?_
        refine z_getI dX12_readClause_313 fX12_143 rfl (Or.inl rfl) ?_
        have b1 := zv_R e309 200 11
        refine z_iconst dX12_readClause_316 ?_
        refine z_icmp_ne (tgt := 251) dX12_readClause_317 (by decide) (by omega) (by decide) (fun c317 => ?_) (fun c317 => absurd c317 (fun q => n309 (we309.symm.trans q)))
        refine ab_sub (ls' := [(0, .ref 200), (1, .int (iI 107)), (3, .int (iI (r : Int))), (4, .ref 206), (5, .ref (2000 + 0)), (6, .int (iI ((m ||| 2 ^ k : Nat) : Int))), (7, .int (iI (k : Int)))]) (ks := [1, 2, 3, 4, 5, 0, 6]) rfl ?_
        exact dl_kitems0 (by omega) we309 n309 (K0 _ _ (by rw [← hR]; exact kit_2 hk1 hno j309 n309) n309 (fun a b c e => (se309.1 a b c).trans (hI a b c e)) we309)
theorem dl_kitems1 {d : Nat} {h : ab_H} {Q : ab_Q} {w : Int} {k r m : Nat}  (hk : k < 3) (hw : zv h 200 11 = w) (hw1 : ¬ w = -1) (K : Q none h) : ab_X (d + 8) mX12_readClause 251 [(0, .ref 200), (1, .int (iI 115)), (3, .int (iI (r : Int))), (4, .ref 208), (5, .ref (2000 + 1)), (6, .int (iI (m : Int))), (7, .int (iI (k : Int)))] [] h Q := by
  have hwR := zv_R h 200 11
  rw [hw] at hwR
  refine ab_iload (k := 6) dX12_readClause_251 rfl ?_
  refine z_iconst dX12_readClause_253 ?_
  refine z_icmp_eq (tgt := 334) dX12_readClause_254 (by decide) (by omega) (by decide) (fun c254 => absurd c254 (by omega)) (fun c254 => ?_)
  refine ab_aload_n (k := 0) dX12_readClause_257 rfl rfl ?_
  refine z_getI dX12_readClause_258 fX12_143 rfl (Or.inl rfl) ?_
  refine z_is (y := w) hw ?_
  refine z_iconst dX12_readClause_261 ?_
  refine z_icmp_ne (tgt := 334) dX12_readClause_262 (by decide) (by omega) (by decide) (fun c262 => ?_) (fun c262 => absurd c262 (fun q => hw1 q))
  refine z_vret dX12_readClause_334 rfl ?_
  exact K
theorem lp_kitems1 {d : Nat} {Q : ab_Q} {h0 : ab_H} {T : Nat → Int} {z p0 r : Nat} {R : kR}  (ht : tx T z) (hr : r + 2 ≤ 8) (K1 : ∀ h' q v, R = (-1, q, v) → p0 ≤ q → vOK 1 v → eqI 208 r 2 h0 h' → (∀ i, i < 2 → zv h' 208 (r + i) = g3 v i) → MK T z h' q → Q none h') (K2 : ∀ h' q v, R = (-1, q, v) → ¬ sg T z q = 59 → ¬ sg T z q = -1 → lk T z q = q → eqI 208 r 2 h0 h' → zv h' 200 11 = (q : Int) → Q none h') (K0 : ∀ h' w, R.1 = w → ¬ w = -1 → eqI 208 r 2 h0 h' → zv h' 200 11 = w → Q none h') : ∀ (nn : Nat) (p : Nat) (f : Nat) (m : Nat) (tl : Nat → Bool) (v : V3) (h : ab_H), f = nn → (MK T z h (lk T z p)) → (eqI 208 r 2 h0 h) → (TBm m tl) → (lft 1 f tl) → (∀ i, i < 2 → zv h 208 (r + i) = g3 v i) → (vOK 1 v) → (p0 ≤ p) → (kit T z 1 f tl v p = R) → ab_X (d + 8) mX12_readClause 251 [(0, .ref 200), (1, .int (iI 115)), (3, .int (iI (r : Int))), (4, .ref 208), (5, .ref (2000 + 1)), (6, .int (iI (m : Int))), (7, .int (iI (pof 1 (sg T z p))))] [] h Q := by
  intro nn
  induction nn using Nat.strongRecOn with
  | ind nn ih =>
  intro p f m tl v h hnn Sh hI hm hlf V hv hp0 hR
  have hz := ht.1
  have hpk := lk_ge T z p
  have hpb := pof_b 1 (sg T z p)
  have hm8 := hm.1
  have hm20 : m < 1048576 := by omega
  refine ab_iload (k := 6) dX12_readClause_251 rfl ?_
  refine z_iconst dX12_readClause_253 ?_
  refine z_icmp_eq (tgt := 334) dX12_readClause_254 (by decide) (by omega) (by decide) (fun c254 => ?_) (fun c254 => ?_)
  · skip
    refine z_vret dX12_readClause_334 rfl ?_
    have eR : R = (-1, lk T z p, v) := by rw [← hR]; exact kit_n (by omega)
    exact K1 _ _ _ eR (by omega) hv hI V Sh
  · skip
    refine ab_sub (ls' := [(0, .ref 200), (1, .int (iI 115)), (3, .int (iI (r : Int))), (4, .ref 208), (5, .ref (2000 + 1)), (6, .int (iI (m : Int))), (7, .int (iI (pof 1 (sg T z p))))]) (ks := [0, 1, 2, 3, 4, 5, 6]) rfl ?_
    obtain ⟨k, hk1, hk2, hk3, hk4⟩ := pof_i (j := 1) (s := sg T z p) (by decide) (by omega)
    rw [hk1]
    have hkn : k < 2 := hk2
    have hkn3 : k < 3 := by omega
    have hkb := kl_b 1 k
    have hkm := km_b 1 k
    have zin := sg_in (T := T) (z := z) (p := p) hk4
    have hy := sg_b ht p
    refine ab_aload_n (k := 0) dX12_readClause_257 rfl rfl ?_
    refine z_getI dX12_readClause_258 fX12_143 rfl (Or.inl rfl) ?_
    refine z_is (y := (-1)) Sh.2.2.1 ?_
    refine z_iconst dX12_readClause_261 ?_
    refine z_icmp_ne (tgt := 334) dX12_readClause_262 (by decide) (by decide) (by decide) (fun c262 => absurd c262 (by decide)) (fun _ => ?_)
    refine ab_iload (k := 5) dX12_readClause_265 rfl ?_
    refine ab_iload (k := 6) dX12_readClause_267 rfl ?_
    refine ab_callS (As := [.int (iI (m : Int)), .int (iI (k : Int))]) (rest := []) dX12_readClause_269 lX12_255 (Nat.le_of_ble_eq_true rfl) (Nat.le_of_ble_eq_true rfl) rfl ?_
    refine c_has (by omega) (by omega) (fun gh => ?_) (fun gh => ?_)
    · skip
      show ab_X (d + 8) mX12_readClause 272 [(0, .ref 200), (1, .int (iI 115)), (3, .int (iI (r : Int))), (4, .ref 208), (5, .ref (2000 + 1)), (6, .int (iI (m : Int))), (7, .int (iI (k : Int)))] [.int (iI 1)] h _
      refine z_if_eq (tgt := 281) dX12_readClause_272 (by decide) (by decide) (fun c272 => absurd c272 (by decide)) (fun _ => ?_)
      refine ab_aload_n (k := 0) dX12_readClause_275 rfl rfl ?_
      refine ab_callV (As := []) (rest := []) dX12_readClause_276 lX12_149 rfl (Nat.le_of_ble_eq_true rfl) (Nat.le_of_ble_eq_true rfl) rfl ?_
      refine c_kfails ht Sh (fun e276 se276 we276 => ?_)
      show ab_X (d + 8) mX12_readClause 279 [(0, .ref 200), (1, .int (iI 115)), (3, .int (iI (r : Int))), (4, .ref 208), (5, .ref (2000 + 1)), (6, .int (iI (m : Int))), (7, .int (iI (k : Int)))] [.int (iI 0)] e276 _
      refine ab_pop dX12_readClause_279 rfl ?_
      refine z_vret dX12_readClause_280 rfl ?_
      have eR : R = (-1, lk T z p, v) := by rw [← hR]; exact kit_t hk1 (by rw [hm.2 k hkn3]; exact gh)
      exact K2 _ _ _ eR (by rw [sg_lk]; exact hk3) (by rw [sg_lk]; exact hk4) (lk_lk T z p) (fun a b c e => (se276.1 a b c).trans (hI a b c e)) we276
    · skip
      show ab_X (d + 8) mX12_readClause 272 [(0, .ref 200), (1, .int (iI 115)), (3, .int (iI (r : Int))), (4, .ref 208), (5, .ref (2000 + 1)), (6, .int (iI (m : Int))), (7, .int (iI (k : Int)))] [.int (iI 0)] h _
      refine z_if_eq (tgt := 281) dX12_readClause_272 (by decide) (by decide) (fun _ => ?_) (fun c272 => absurd c272 (by decide))
      have hno : ¬ tl k = true := fun q => gh (by rw [← hm.2 k hkn3]; exact q)
      obtain ⟨f', rfl⟩ : ∃ f', f = f' + 1 := ⟨f - 1, by
        cases f with
        | zero => exact absurd (lft_0 hlf hkn) hno
        | succ f => omega⟩
      refine ab_iload (k := 5) dX12_readClause_281 rfl ?_
      refine z_iconst dX12_readClause_283 ?_
      refine ab_iload (k := 6) dX12_readClause_284 rfl ?_
      refine ab_ishl dX12_readClause_286 ?_
      refine z_top ?_
      refine z_is (y := ((2 ^ k : Nat) : Int)) (shl1 (by omega)) ?_
      refine ab_ior dX12_readClause_287 ?_
      refine z_top ?_
      refine z_is (y := ((m ||| 2 ^ k : Nat) : Int)) (orN hm20 (p20 (by omega))) ?_
      refine ab_istore (ls' := [(6, .int (iI ((m ||| 2 ^ k : Nat) : Int))), (0, .ref 200), (1, .int (iI 115)), (3, .int (iI (r : Int))), (4, .ref 208), (5, .ref (2000 + 1)), (7, .int (iI (k : Int)))]) dX12_readClause_288 (by decide) rfl ?_
      refine ab_aload_n (k := 1) dX12_readClause_290 rfl rfl ?_
      refine ab_aload (k := 4) dX12_readClause_291 rfl ?_
      refine ab_iload_n (k := 3) dX12_readClause_293 rfl rfl ?_
      refine ab_iload (k := 6) dX12_readClause_294 rfl ?_
      refine z_iadd dX12_readClause_296 ?_
      refine z_is (y := ((r + k : Nat) : Int)) (by omega) ?_
      refine ab_iload_n (k := 2) dX12_readClause_297 rfl rfl ?_
      refine ab_iload (k := 6) dX12_readClause_298 rfl ?_
      refine ab_callS (As := [.int (iI 115), .int (iI (k : Int))]) (rest := [.int (iI ((r + k : Nat) : Int)), .ref 208, .ref 200]) dX12_readClause_300 lX12_259 (Nat.le_of_ble_eq_true rfl) (Nat.le_of_ble_eq_true rfl) rfl ?_
      refine c_kleast1 hkn ?_
      show ab_X (d + 8) mX12_readClause 303 [(6, .int (iI ((m ||| 2 ^ k : Nat) : Int))), (0, .ref 200), (1, .int (iI 115)), (3, .int (iI (r : Int))), (4, .ref 208), (5, .ref (2000 + 1)), (7, .int (iI (k : Int)))] [.int (iI (kl 1 k)), .int (iI ((r + k : Nat) : Int)), .ref 208, .ref 200] h _
      refine ab_iload_n (k := 2) dX12_readClause_303 rfl rfl ?_
      refine ab_iload (k := 6) dX12_readClause_304 rfl ?_
      refine ab_callS (As := [.int (iI 115), .int (iI (k : Int))]) (rest := [.int (iI (kl 1 k)), .int (iI ((r + k : Nat) : Int)), .ref 208, .ref 200]) dX12_readClause_306 lX12_263 (Nat.le_of_ble_eq_true rfl) (Nat.le_of_ble_eq_true rfl) rfl ?_
      refine c_kmost1 hkn ?_
      show ab_X (d + 8) mX12_readClause 309 [(6, .int (iI ((m ||| 2 ^ k : Nat) : Int))), (0, .ref 200), (1, .int (iI 115)), (3, .int (iI (r : Int))), (4, .ref 208), (5, .ref (2000 + 1)), (7, .int (iI (k : Int)))] [.int (iI (km 1 k)), .int (iI (kl 1 k)), .int (iI ((r + k : Nat) : Int)), .ref 208, .ref 200] h _
      refine ab_callV (As := [.ref 208, .int (iI ((r + k : Nat) : Int)), .int (iI (kl 1 k)), .int (iI (km 1 k))]) (rest := []) dX12_readClause_309 lX12_266 rfl (Nat.le_of_ble_eq_true rfl) (Nat.le_of_ble_eq_true rfl) rfl ?_
      refine c_kitem208 ht (by omega) (by omega) (by omega) Sh (by omega) (fun l309 q309 v309 j309 b309 vb309 f309 u309 Sl309 => ?_) (fun e309 w309 j309 n309 se309 we309 => ?_)
      · skip
        show ab_X (d + 8) mX12_readClause 312 [(6, .int (iI ((m ||| 2 ^ k : Nat) : Int))), (0, .ref 200), (1, .int (iI 115)), (3, .int (iI (r : Int))), (4, .ref 208), (5, .ref (2000 + 1)), (7, .int (iI (k : Int)))] [] l309 _
        refine ab_aload_n (k := 1) dX12_readClause_312 rfl rfl ?_
        refine z_getI dX12_readClause_313 fX12_143 rfl (Or.inl rfl) ?_
        refine z_is (y := (-1)) Sl309.2.2.1 ?_
        refine z_iconst dX12_readClause_316 ?_
        refine z_icmp_ne (tgt := 251) dX12_readClause_317 (by decide) (by decide) (by decide) (fun c317 => absurd c317 (by decide)) (fun _ => ?_)
        refine ab_aload (k := 5) dX12_readClause_320 rfl ?_
        refine ab_aload_n (k := 1) dX12_readClause_322 rfl rfl ?_
        refine ab_callV (As := []) (rest := [.ref (2000 + 1)]) dX12_readClause_323 lX12_153 rfl (Nat.le_of_ble_eq_true rfl) (Nat.le_of_ble_eq_true rfl) rfl ?_
        refine c_klook ht Sl309 (fun l323 sl323 Sl323 => ?_)
        have k323 := lk_ge T z q309
        have y323 := sg_b ht q309
        have q323 := lk_le (T := T) Sl309.2.2.2
        show ab_X (d + 8) mX12_readClause 326 [(6, .int (iI ((m ||| 2 ^ k : Nat) : Int))), (0, .ref 200), (1, .int (iI 115)), (3, .int (iI (r : Int))), (4, .ref 208), (5, .ref (2000 + 1)), (7, .int (iI (k : Int)))] [.int (iI (sg T z q309)), .ref (2000 + 1)] l323 _
        refine ab_callS (As := [.ref (2000 + 1), .int (iI (sg T z q309))]) (rest := []) dX12_readClause_326 lX12_251 (Nat.le_of_ble_eq_true rfl) (Nat.le_of_ble_eq_true rfl) rfl ?_
        refine c_placeOf1 (by omega) ?_
        show ab_X (d + 8) mX12_readClause 329 [(6, .int (iI ((m ||| 2 ^ k : Nat) : Int))), (0, .ref 200), (1, .int (iI 115)), (3, .int (iI (r : Int))), (4, .ref 208), (5, .ref (2000 + 1)), (7, .int (iI (k : Int)))] [.int (iI (pof 1 (sg T z q309)))] l323 _
        refine ab_istore (ls' := [(7, .int (iI (pof 1 (sg T z q309)))), (6, .int (iI ((m ||| 2 ^ k : Nat) : Int))), (0, .ref 200), (1, .int (iI 115)), (3, .int (iI (r : Int))), (4, .ref 208), (5, .ref (2000 + 1))]) dX12_readClause_329 (by decide) rfl ?_
        refine ab_goto (tgt := 251) dX12_readClause_331 (by decide) ?_
        refine ab_sub (ls' := [(0, .ref 200), (1, .int (iI 115)), (3, .int (iI (r : Int))), (4, .ref 208), (5, .ref (2000 + 1)), (6, .int (iI ((m ||| 2 ^ k : Nat) : Int))), (7, .int (iI (pof 1 (sg T z q309))))]) (ks := [2, 3, 4, 5, 6, 1, 0]) rfl ?_
        have sl323' := sl323
        refine ih _ (by omega) q309 f' (m ||| 2 ^ k) _ _ _ rfl ?_ (fun a b c e => (sl323.1 a b c).trans ((f309 a b c (fun q => e ⟨q.1, by omega, by omega⟩)).trans (hI a b c e))) (TB_s hm hkn3) (lft_s hlf hkn hno) (fun i hi => ?_) (vOK_s hv hkn vb309) (by omega) ?_
        · exact Sl323
        · rw [sl323.1 208 _ (by omega), g3_s3 (by omega) (by omega)]
          by_cases e : i = k
          · subst e; rw [u309, if_pos rfl]
          · rw [f309 208 _ (by omega) (by omega), if_neg e]; exact V i hi
        · rw [← hR]; exact (kit_1 hk1 hno j309).symm
      · skip
        show ab_X (d + 8) mX12_readClause 312 [(6, .int (iI ((m ||| 2 ^ k : Nat) : Int))), (0, .ref 200), (1, .int (iI 115)), (3, .int (iI (r : Int))), (4, .ref 208), (5, .ref (2000 + 1)), (7, .int (iI (k : Int)))] [] e309 _
        refine ab_aload_n (k := 1) dX12_readClause_312 rfl rfl ?_
        refine z_getI dX12_readClause_313 fX12_143 rfl (Or.inl rfl) ?_
        have b1 := zv_R e309 200 11
        refine z_iconst dX12_readClause_316 ?_
        refine z_icmp_ne (tgt := 251) dX12_readClause_317 (by decide) (by omega) (by decide) (fun c317 => ?_) (fun c317 => absurd c317 (fun q => n309 (we309.symm.trans q)))
        refine ab_sub (ls' := [(0, .ref 200), (1, .int (iI 115)), (3, .int (iI (r : Int))), (4, .ref 208), (5, .ref (2000 + 1)), (6, .int (iI ((m ||| 2 ^ k : Nat) : Int))), (7, .int (iI (k : Int)))]) (ks := [1, 2, 3, 4, 5, 0, 6]) rfl ?_
        exact dl_kitems1 (by omega) we309 n309 (K0 _ _ (by rw [← hR]; exact kit_2 hk1 hno j309 n309) n309 (fun a b c e => (se309.1 a b c).trans (hI a b c e)) we309)
theorem dl_kitems2 {d : Nat} {h : ab_H} {Q : ab_Q} {w : Int} {k r m : Nat}  (hk : k < 3) (hw : zv h 200 11 = w) (hw1 : ¬ w = -1) (K : Q none h) : ab_X (d + 8) mX12_readClause 251 [(0, .ref 200), (1, .int (iI 103)), (3, .int (iI (r : Int))), (4, .ref 210), (5, .ref (2000 + 2)), (6, .int (iI (m : Int))), (7, .int (iI (k : Int)))] [] h Q := by
  have hwR := zv_R h 200 11
  rw [hw] at hwR
  refine ab_iload (k := 6) dX12_readClause_251 rfl ?_
  refine z_iconst dX12_readClause_253 ?_
  refine z_icmp_eq (tgt := 334) dX12_readClause_254 (by decide) (by omega) (by decide) (fun c254 => absurd c254 (by omega)) (fun c254 => ?_)
  refine ab_aload_n (k := 0) dX12_readClause_257 rfl rfl ?_
  refine z_getI dX12_readClause_258 fX12_143 rfl (Or.inl rfl) ?_
  refine z_is (y := w) hw ?_
  refine z_iconst dX12_readClause_261 ?_
  refine z_icmp_ne (tgt := 334) dX12_readClause_262 (by decide) (by omega) (by decide) (fun c262 => ?_) (fun c262 => absurd c262 (fun q => hw1 q))
  refine z_vret dX12_readClause_334 rfl ?_
  exact K
theorem lp_kitems2 {d : Nat} {Q : ab_Q} {h0 : ab_H} {T : Nat → Int} {z p0 r : Nat} {R : kR}  (ht : tx T z) (hr : r + 2 ≤ 8) (K1 : ∀ h' q v, R = (-1, q, v) → p0 ≤ q → vOK 2 v → eqI 210 r 2 h0 h' → (∀ i, i < 2 → zv h' 210 (r + i) = g3 v i) → MK T z h' q → Q none h') (K2 : ∀ h' q v, R = (-1, q, v) → ¬ sg T z q = 59 → ¬ sg T z q = -1 → lk T z q = q → eqI 210 r 2 h0 h' → zv h' 200 11 = (q : Int) → Q none h') (K0 : ∀ h' w, R.1 = w → ¬ w = -1 → eqI 210 r 2 h0 h' → zv h' 200 11 = w → Q none h') : ∀ (nn : Nat) (p : Nat) (f : Nat) (m : Nat) (tl : Nat → Bool) (v : V3) (h : ab_H), f = nn → (MK T z h (lk T z p)) → (eqI 210 r 2 h0 h) → (TBm m tl) → (lft 2 f tl) → (∀ i, i < 2 → zv h 210 (r + i) = g3 v i) → (vOK 2 v) → (p0 ≤ p) → (kit T z 2 f tl v p = R) → ab_X (d + 8) mX12_readClause 251 [(0, .ref 200), (1, .int (iI 103)), (3, .int (iI (r : Int))), (4, .ref 210), (5, .ref (2000 + 2)), (6, .int (iI (m : Int))), (7, .int (iI (pof 2 (sg T z p))))] [] h Q := by
  intro nn
  induction nn using Nat.strongRecOn with
  | ind nn ih =>
  intro p f m tl v h hnn Sh hI hm hlf V hv hp0 hR
  have hz := ht.1
  have hpk := lk_ge T z p
  have hpb := pof_b 2 (sg T z p)
  have hm8 := hm.1
  have hm20 : m < 1048576 := by omega
  refine ab_iload (k := 6) dX12_readClause_251 rfl ?_
  refine z_iconst dX12_readClause_253 ?_
  refine z_icmp_eq (tgt := 334) dX12_readClause_254 (by decide) (by omega) (by decide) (fun c254 => ?_) (fun c254 => ?_)
  · skip
    refine z_vret dX12_readClause_334 rfl ?_
    have eR : R = (-1, lk T z p, v) := by rw [← hR]; exact kit_n (by omega)
    exact K1 _ _ _ eR (by omega) hv hI V Sh
  · skip
    refine ab_sub (ls' := [(0, .ref 200), (1, .int (iI 103)), (3, .int (iI (r : Int))), (4, .ref 210), (5, .ref (2000 + 2)), (6, .int (iI (m : Int))), (7, .int (iI (pof 2 (sg T z p))))]) (ks := [0, 1, 2, 3, 4, 5, 6]) rfl ?_
    obtain ⟨k, hk1, hk2, hk3, hk4⟩ := pof_i (j := 2) (s := sg T z p) (by decide) (by omega)
    rw [hk1]
    have hkn : k < 2 := hk2
    have hkn3 : k < 3 := by omega
    have hkb := kl_b 2 k
    have hkm := km_b 2 k
    have zin := sg_in (T := T) (z := z) (p := p) hk4
    have hy := sg_b ht p
    refine ab_aload_n (k := 0) dX12_readClause_257 rfl rfl ?_
    refine z_getI dX12_readClause_258 fX12_143 rfl (Or.inl rfl) ?_
    refine z_is (y := (-1)) Sh.2.2.1 ?_
    refine z_iconst dX12_readClause_261 ?_
    refine z_icmp_ne (tgt := 334) dX12_readClause_262 (by decide) (by decide) (by decide) (fun c262 => absurd c262 (by decide)) (fun _ => ?_)
    refine ab_iload (k := 5) dX12_readClause_265 rfl ?_
    refine ab_iload (k := 6) dX12_readClause_267 rfl ?_
    refine ab_callS (As := [.int (iI (m : Int)), .int (iI (k : Int))]) (rest := []) dX12_readClause_269 lX12_255 (Nat.le_of_ble_eq_true rfl) (Nat.le_of_ble_eq_true rfl) rfl ?_
    refine c_has (by omega) (by omega) (fun gh => ?_) (fun gh => ?_)
    · skip
      show ab_X (d + 8) mX12_readClause 272 [(0, .ref 200), (1, .int (iI 103)), (3, .int (iI (r : Int))), (4, .ref 210), (5, .ref (2000 + 2)), (6, .int (iI (m : Int))), (7, .int (iI (k : Int)))] [.int (iI 1)] h _
      refine z_if_eq (tgt := 281) dX12_readClause_272 (by decide) (by decide) (fun c272 => absurd c272 (by decide)) (fun _ => ?_)
      refine ab_aload_n (k := 0) dX12_readClause_275 rfl rfl ?_
      refine ab_callV (As := []) (rest := []) dX12_readClause_276 lX12_149 rfl (Nat.le_of_ble_eq_true rfl) (Nat.le_of_ble_eq_true rfl) rfl ?_
      refine c_kfails ht Sh (fun e276 se276 we276 => ?_)
      show ab_X (d + 8) mX12_readClause 279 [(0, .ref 200), (1, .int (iI 103)), (3, .int (iI (r : Int))), (4, .ref 210), (5, .ref (2000 + 2)), (6, .int (iI (m : Int))), (7, .int (iI (k : Int)))] [.int (iI 0)] e276 _
      refine ab_pop dX12_readClause_279 rfl ?_
      refine z_vret dX12_readClause_280 rfl ?_
      have eR : R = (-1, lk T z p, v) := by rw [← hR]; exact kit_t hk1 (by rw [hm.2 k hkn3]; exact gh)
      exact K2 _ _ _ eR (by rw [sg_lk]; exact hk3) (by rw [sg_lk]; exact hk4) (lk_lk T z p) (fun a b c e => (se276.1 a b c).trans (hI a b c e)) we276
    · skip
      show ab_X (d + 8) mX12_readClause 272 [(0, .ref 200), (1, .int (iI 103)), (3, .int (iI (r : Int))), (4, .ref 210), (5, .ref (2000 + 2)), (6, .int (iI (m : Int))), (7, .int (iI (k : Int)))] [.int (iI 0)] h _
      refine z_if_eq (tgt := 281) dX12_readClause_272 (by decide) (by decide) (fun _ => ?_) (fun c272 => absurd c272 (by decide))
      have hno : ¬ tl k = true := fun q => gh (by rw [← hm.2 k hkn3]; exact q)
      obtain ⟨f', rfl⟩ : ∃ f', f = f' + 1 := ⟨f - 1, by
        cases f with
        | zero => exact absurd (lft_0 hlf hkn) hno
        | succ f => omega⟩
      refine ab_iload (k := 5) dX12_readClause_281 rfl ?_
      refine z_iconst dX12_readClause_283 ?_
      refine ab_iload (k := 6) dX12_readClause_284 rfl ?_
      refine ab_ishl dX12_readClause_286 ?_
      refine z_top ?_
      refine z_is (y := ((2 ^ k : Nat) : Int)) (shl1 (by omega)) ?_
      refine ab_ior dX12_readClause_287 ?_
      refine z_top ?_
      refine z_is (y := ((m ||| 2 ^ k : Nat) : Int)) (orN hm20 (p20 (by omega))) ?_
      refine ab_istore (ls' := [(6, .int (iI ((m ||| 2 ^ k : Nat) : Int))), (0, .ref 200), (1, .int (iI 103)), (3, .int (iI (r : Int))), (4, .ref 210), (5, .ref (2000 + 2)), (7, .int (iI (k : Int)))]) dX12_readClause_288 (by decide) rfl ?_
      refine ab_aload_n (k := 1) dX12_readClause_290 rfl rfl ?_
      refine ab_aload (k := 4) dX12_readClause_291 rfl ?_
      refine ab_iload_n (k := 3) dX12_readClause_293 rfl rfl ?_
      refine ab_iload (k := 6) dX12_readClause_294 rfl ?_
      refine z_iadd dX12_readClause_296 ?_
      refine z_is (y := ((r + k : Nat) : Int)) (by omega) ?_
      refine ab_iload_n (k := 2) dX12_readClause_297 rfl rfl ?_
      refine ab_iload (k := 6) dX12_readClause_298 rfl ?_
      refine ab_callS (As := [.int (iI 103), .int (iI (k : Int))]) (rest := [.int (iI ((r + k : Nat) : Int)), .ref 210, .ref 200]) dX12_readClause_300 lX12_259 (Nat.le_of_ble_eq_true rfl) (Nat.le_of_ble_eq_true rfl) rfl ?_
      refine c_kleast2 hkn ?_
      show ab_X (d + 8) mX12_readClause 303 [(6, .int (iI ((m ||| 2 ^ k : Nat) : Int))), (0, .ref 200), (1, .int (iI 103)), (3, .int (iI (r : Int))), (4, .ref 210), (5, .ref (2000 + 2)), (7, .int (iI (k : Int)))] [.int (iI (kl 2 k)), .int (iI ((r + k : Nat) : Int)), .ref 210, .ref 200] h _
      refine ab_iload_n (k := 2) dX12_readClause_303 rfl rfl ?_
      refine ab_iload (k := 6) dX12_readClause_304 rfl ?_
      refine ab_callS (As := [.int (iI 103), .int (iI (k : Int))]) (rest := [.int (iI (kl 2 k)), .int (iI ((r + k : Nat) : Int)), .ref 210, .ref 200]) dX12_readClause_306 lX12_263 (Nat.le_of_ble_eq_true rfl) (Nat.le_of_ble_eq_true rfl) rfl ?_
      refine c_kmost2 hkn ?_
      show ab_X (d + 8) mX12_readClause 309 [(6, .int (iI ((m ||| 2 ^ k : Nat) : Int))), (0, .ref 200), (1, .int (iI 103)), (3, .int (iI (r : Int))), (4, .ref 210), (5, .ref (2000 + 2)), (7, .int (iI (k : Int)))] [.int (iI (km 2 k)), .int (iI (kl 2 k)), .int (iI ((r + k : Nat) : Int)), .ref 210, .ref 200] h _
      refine ab_callV (As := [.ref 210, .int (iI ((r + k : Nat) : Int)), .int (iI (kl 2 k)), .int (iI (km 2 k))]) (rest := []) dX12_readClause_309 lX12_266 rfl (Nat.le_of_ble_eq_true rfl) (Nat.le_of_ble_eq_true rfl) rfl ?_
      refine c_kitem210 ht (by omega) (by omega) (by omega) Sh (by omega) (fun l309 q309 v309 j309 b309 vb309 f309 u309 Sl309 => ?_) (fun e309 w309 j309 n309 se309 we309 => ?_)
      · skip
        show ab_X (d + 8) mX12_readClause 312 [(6, .int (iI ((m ||| 2 ^ k : Nat) : Int))), (0, .ref 200), (1, .int (iI 103)), (3, .int (iI (r : Int))), (4, .ref 210), (5, .ref (2000 + 2)), (7, .int (iI (k : Int)))] [] l309 _
        refine ab_aload_n (k := 1) dX12_readClause_312 rfl rfl ?_
        refine z_getI dX12_readClause_313 fX12_143 rfl (Or.inl rfl) ?_
        refine z_is (y := (-1)) Sl309.2.2.1 ?_
        refine z_iconst dX12_readClause_316 ?_
        refine z_icmp_ne (tgt := 251) dX12_readClause_317 (by decide) (by decide) (by decide) (fun c317 => absurd c317 (by decide)) (fun _ => ?_)
        refine ab_aload (k := 5) dX12_readClause_320 rfl ?_
        refine ab_aload_n (k := 1) dX12_readClause_322 rfl rfl ?_
        refine ab_callV (As := []) (rest := [.ref (2000 + 2)]) dX12_readClause_323 lX12_153 rfl (Nat.le_of_ble_eq_true rfl) (Nat.le_of_ble_eq_true rfl) rfl ?_
        refine c_klook ht Sl309 (fun l323 sl323 Sl323 => ?_)
        have k323 := lk_ge T z q309
        have y323 := sg_b ht q309
        have q323 := lk_le (T := T) Sl309.2.2.2
        show ab_X (d + 8) mX12_readClause 326 [(6, .int (iI ((m ||| 2 ^ k : Nat) : Int))), (0, .ref 200), (1, .int (iI 103)), (3, .int (iI (r : Int))), (4, .ref 210), (5, .ref (2000 + 2)), (7, .int (iI (k : Int)))] [.int (iI (sg T z q309)), .ref (2000 + 2)] l323 _
        refine ab_callS (As := [.ref (2000 + 2), .int (iI (sg T z q309))]) (rest := []) dX12_readClause_326 lX12_251 (Nat.le_of_ble_eq_true rfl) (Nat.le_of_ble_eq_true rfl) rfl ?_
        refine c_placeOf2 (by omega) ?_
        show ab_X (d + 8) mX12_readClause 329 [(6, .int (iI ((m ||| 2 ^ k : Nat) : Int))), (0, .ref 200), (1, .int (iI 103)), (3, .int (iI (r : Int))), (4, .ref 210), (5, .ref (2000 + 2)), (7, .int (iI (k : Int)))] [.int (iI (pof 2 (sg T z q309)))] l323 _
        refine ab_istore (ls' := [(7, .int (iI (pof 2 (sg T z q309)))), (6, .int (iI ((m ||| 2 ^ k : Nat) : Int))), (0, .ref 200), (1, .int (iI 103)), (3, .int (iI (r : Int))), (4, .ref 210), (5, .ref (2000 + 2))]) dX12_readClause_329 (by decide) rfl ?_
        refine ab_goto (tgt := 251) dX12_readClause_331 (by decide) ?_
        refine ab_sub (ls' := [(0, .ref 200), (1, .int (iI 103)), (3, .int (iI (r : Int))), (4, .ref 210), (5, .ref (2000 + 2)), (6, .int (iI ((m ||| 2 ^ k : Nat) : Int))), (7, .int (iI (pof 2 (sg T z q309))))]) (ks := [2, 3, 4, 5, 6, 1, 0]) rfl ?_
        have sl323' := sl323
        refine ih _ (by omega) q309 f' (m ||| 2 ^ k) _ _ _ rfl ?_ (fun a b c e => (sl323.1 a b c).trans ((f309 a b c (fun q => e ⟨q.1, by omega, by omega⟩)).trans (hI a b c e))) (TB_s hm hkn3) (lft_s hlf hkn hno) (fun i hi => ?_) (vOK_s hv hkn vb309) (by omega) ?_
        · exact Sl323
        · rw [sl323.1 210 _ (by omega), g3_s3 (by omega) (by omega)]
          by_cases e : i = k
          · subst e; rw [u309, if_pos rfl]
          · rw [f309 210 _ (by omega) (by omega), if_neg e]; exact V i hi
        · rw [← hR]; exact (kit_1 hk1 hno j309).symm
      · skip
        show ab_X (d + 8) mX12_readClause 312 [(6, .int (iI ((m ||| 2 ^ k : Nat) : Int))), (0, .ref 200), (1, .int (iI 103)), (3, .int (iI (r : Int))), (4, .ref 210), (5, .ref (2000 + 2)), (7, .int (iI (k : Int)))] [] e309 _
        refine ab_aload_n (k := 1) dX12_readClause_312 rfl rfl ?_
        refine z_getI dX12_readClause_313 fX12_143 rfl (Or.inl rfl) ?_
        have b1 := zv_R e309 200 11
        refine z_iconst dX12_readClause_316 ?_
        refine z_icmp_ne (tgt := 251) dX12_readClause_317 (by decide) (by omega) (by decide) (fun c317 => ?_) (fun c317 => absurd c317 (fun q => n309 (we309.symm.trans q)))
        refine ab_sub (ls' := [(0, .ref 200), (1, .int (iI 103)), (3, .int (iI (r : Int))), (4, .ref 210), (5, .ref (2000 + 2)), (6, .int (iI ((m ||| 2 ^ k : Nat) : Int))), (7, .int (iI (k : Int)))]) (ks := [1, 2, 3, 4, 5, 0, 6]) rfl ?_
        exact dl_kitems2 (by omega) we309 n309 (K0 _ _ (by rw [← hR]; exact kit_2 hk1 hno j309 n309) n309 (fun a b c e => (se309.1 a b c).trans (hI a b c e)) we309)
def F12 (h0 h : ab_H) : Prop := (∀ a j, a ≠ 200 → a ≠ 206 → a ≠ 208 → a ≠ 210 → zv h a j = zv h0 a j) ∧ ∀ j, ¬ (8 ≤ j ∧ j ≤ 14) → ¬ j = 17 → ¬ j = 25 → ¬ j = 27 → ¬ j = 28 → zv h 200 j = zv h0 200 j
theorem F12.rf {h : ab_H} : F12 h h := ⟨fun _ _ _ _ _ _ => rfl, fun _ _ _ _ _ _ => rfl⟩
theorem F12.tr {a b c : ab_H} (x : F12 a b) (y : F12 b c) : F12 a c := ⟨fun p q r s t u => (y.1 p q r s t u).trans (x.1 p q r s t u), fun j p q r s t => (y.2 j p q r s t).trans (x.2 j p q r s t)⟩
theorem F12_2 {h h' : ab_H} (e : eq2 h h') : F12 h h' := ⟨fun a j h1 _ _ _ => e.1 a j (by omega), fun j h1 _ _ _ _ => e.1 200 j (by omega)⟩
theorem F12_11 {h h' : ab_H} (e : F11 h h') : F12 h h' := ⟨fun a j h1 _ _ _ => e.1 a j h1, fun j h1 h2 _ _ _ => e.2 j h1 h2⟩
theorem F12_z {h : ab_H} {j : Nat} {x : Int} (hj : j = 25 ∨ j = 27 ∨ j = 28) : F12 h (zp h 200 j x) := ⟨fun a i h1 _ _ _ => zv_zp_a h1, fun i _ _ a b c => zv_zp_ne (by omega)⟩
theorem F12_a {h : ab_H} {t j : Nat} {x : Int} (ht : t = 206 ∨ t = 208 ∨ t = 210) : F12 h (zp h t j x) := ⟨fun a i h1 h2 h3 h4 => zv_zp_a (by omega), fun i _ _ _ _ _ => zv_zp_a (by omega)⟩
theorem F12_I {to r n : Nat} {h h' : ab_H} (ht : to = 206 ∨ to = 208 ∨ to = 210) (e : eqI to r n h h') : F12 h h' := ⟨fun a j h1 h2 h3 h4 => e a j (by omega) (by omega), fun j h1 _ _ _ _ => e 200 j (by omega) (by omega)⟩
def prs (f : Nat → Int) (l : List (Int × Int)) : Prop := ∀ i, i < l.length → f (2 * i) = (l.getD i (0, 0)).1 ∧ f (2 * i + 1) = (l.getD i (0, 0)).2
theorem prs_s {f g : Nat → Int} {l : List (Int × Int)} {x y : Int} (h : prs f l) (h1 : g (2 * l.length) = x) (h2 : g (2 * l.length + 1) = y) (ho : ∀ i, i < 2 * l.length → g i = f i) : prs g (l ++ [(x, y)]) := fun i hi => by
  have hi2 : i < l.length + 1 := by rw [List.length_append] at hi; exact hi
  rw [List.getD_eq_getElem?_getD]
  by_cases q : i = l.length
  · subst q; rw [List.getElem?_append_right (Nat.le_refl _), Nat.sub_self]; exact ⟨h1, h2⟩
  · rw [List.getElem?_append_left (by omega), ← List.getD_eq_getElem?_getD, ho _ (by omega), ho _ (by omega)]; exact h i (by omega)
def KMc (h : ab_H) (S : kS) : Prop := (∀ i, i < 3 → zv h 206 i = g3 S.2.1 i) ∧ zv h 200 25 = (S.2.2.1.length : Int) ∧ prs (zv h 208) S.2.2.1 ∧ zv h 200 28 = (if S.1 = true then 1 else 0) ∧ zv h 200 27 = (S.2.2.2.length : Int) ∧ prs (zv h 210) S.2.2.2 ∧ (S.1 = false → S.2.1 = (12, 0, 50))
theorem KMc_2 {h h' : ab_H} {S : kS} (C : KMc h S) (e : eq2 h h') : KMc h' S := by
  obtain ⟨a, b, c, d, f, g, i⟩ := C
  exact ⟨fun k hk => (e.1 206 k (by omega)).trans (a k hk), (e.1 200 25 (by omega)).trans b, fun k hk => by rw [e.1 208 _ (by omega), e.1 208 _ (by omega)]; exact c k hk, (e.1 200 28 (by omega)).trans d, (e.1 200 27 (by omega)).trans f, fun k hk => by rw [e.1 210 _ (by omega), e.1 210 _ (by omega)]; exact g k hk, i⟩
def MQk (T : Nat → Int) (z : Nat) (h0 h : ab_H) (p : Nat) (S : kS) : Prop := F12 h0 h ∧ KMc h S ∧ kOK S ∧ MK T z h p
theorem c_mkcl0 {d : Nat} {h : ab_H} {Q : ab_Q} {T : Nat → Int} {z p : Nat} {h0 : ab_H} {S : kS}  (ht : tx T z) (hs : sg T z p = 107) (hk : S.1 = false) (Sh : MQk T z h0 h p S) (K1 : ∀ h' q S', kclF T z S p = (-1, q, S') → p < q → MQk T z h0 h' q S' → Q none h') (K2 : ∀ h' q S', kclF T z S p = (-1, q, S') → ¬ sg T z q = 59 → ¬ sg T z q = -1 → lk T z q = q → F12 h0 h' → zv h' 200 11 = (q : Int) → Q none h') (K0 : ∀ h' w, (kclF T z S p).1 = w → ¬ w = -1 → F12 h0 h' → zv h' 200 11 = w → Q none h') : ab_X (d + 8) mX12_readClause 0 (lv_args 0 [.ref 200]) [] h Q := by
  show ab_X (d + 8) mX12_readClause 0 [(0, .ref 200)] [] h Q
  have hz := ht.1
  have Sx := Sh.2.2.2
  have hpz := Sx.2.2.2
  have hl4 := Sh.2.2.1.2.2.2.1
  have hg4 := Sh.2.2.1.2.2.2.2
  have hkf : (if S.1 = true then 1 else 0 : Int) = 0 ↔ S.1 = false := by cases S.1 <;> simp
  have hkb : (if S.1 = true then 1 else 0 : Int) = 0 ∨ (if S.1 = true then 1 else 0 : Int) = 1 := by split <;> omega
  refine ab_aload_n (k := 0) dX12_readClause_0 rfl rfl ?_
  refine ab_callV (As := []) (rest := []) dX12_readClause_1 lX12_153 rfl (Nat.le_of_ble_eq_true rfl) (Nat.le_of_ble_eq_true rfl) rfl ?_
  refine c_klook ht Sx (fun l1 sl1 Sl1 => ?_)
  rw [hs]
  have k1 := lk_ge T z p
  have zin := sg_in (T := T) (z := z) (p := p) (by omega)
  show ab_X (d + 8) mX12_readClause 4 [(0, .ref 200)] [.int (iI 107)] l1 _
  refine ab_istore_n (ls' := [(1, .int (iI 107)), (0, .ref 200)]) dX12_readClause_4 rfl (by decide) rfl ?_
  refine ab_iload_n (k := 0) dX12_readClause_5 rfl rfl ?_
  refine z_bipush dX12_readClause_6 (by decide) ?_
  refine z_icmp_ne (tgt := 18) dX12_readClause_8 (by decide) (by decide) (by decide) (fun c8 => absurd c8 (by decide)) (fun _ => ?_)
  refine ab_aload_n (k := 1) dX12_readClause_11 rfl rfl ?_
  refine z_getI dX12_readClause_12 fX12_236 rfl (Or.inr rfl) ?_
  refine z_is (y := 0) (show _ = _ by rw [sl1.1 200 28 (by omega)]; exact Sh.2.1.2.2.2.1.trans (hkf.mpr hk)) ?_
  refine z_if_eq (tgt := 46) dX12_readClause_15 (by decide) (by decide) (fun _ => ?_) (fun c15 => absurd c15 (by decide))
  refine z_iconst dX12_readClause_46 ?_
  refine ab_goto (tgt := 51) dX12_readClause_47 (by decide) ?_
  refine ab_istore_n (ls' := [(2, .int (iI 1)), (1, .int (iI 107)), (0, .ref 200)]) dX12_readClause_51 rfl (by decide) rfl ?_
  refine ab_iload_n (k := 0) dX12_readClause_52 rfl rfl ?_
  refine z_if_ne (tgt := 62) dX12_readClause_53 (by decide) (by decide) (fun _ => ?_) (fun c53 => absurd c53 (by decide))
  refine ab_aload_n (k := 2) dX12_readClause_62 rfl rfl ?_
  refine ab_dup dX12_readClause_63 rfl ?_
  refine z_getI dX12_readClause_64 fX12_134 rfl (Or.inl rfl) ?_
  refine z_is (y := (((lk T z p) : Nat) : Int)) Sl1.2.1 ?_
  refine z_iconst dX12_readClause_67 ?_
  refine z_iadd dX12_readClause_68 ?_
  refine z_putI dX12_readClause_69 fX12_134 rfl rfl ?_
  obtain ⟨n69, en69⟩ : ∃ zz : ab_H, zz = zp l1 200 10 ((((lk T z p) : Nat) : Int) + 1) := ⟨_, rfl⟩
  refine z_h (h' := n69) en69.symm ?_
  have Sn69 : MK T z n69 ((lk T z p) + 1) := by rw [en69]; exact MK_at Sl1 hz (by omega) (by omega)
  have sn69 : eq2 l1 n69 := by rw [en69]; exact eq2_z (by omega)
  refine ab_iload_n (k := 1) dX12_readClause_72 rfl rfl ?_
  refine z_bipush dX12_readClause_73 (by decide) ?_
  refine z_icmp_ne (tgt := 87) dX12_readClause_75 (by decide) (by decide) (by decide) (fun _ => ?_) (fun c75 => absurd c75 (by decide))
  refine ab_iload_n (k := 1) dX12_readClause_87 rfl rfl ?_
  refine z_bipush dX12_readClause_88 (by decide) ?_
  refine z_icmp_ne (tgt := 102) dX12_readClause_90 (by decide) (by decide) (by decide) (fun _ => ?_) (fun c90 => absurd c90 (by decide))
  refine z_iconst dX12_readClause_102 ?_
  refine ab_istore_n (ls' := [(3, .int (iI 0)), (2, .int (iI 1)), (1, .int (iI 107)), (0, .ref 200)]) dX12_readClause_103 rfl (by decide) rfl ?_
  refine ab_iload_n (k := 2) dX12_readClause_104 rfl rfl ?_
  refine z_bipush dX12_readClause_105 (by decide) ?_
  refine z_icmp_ne (tgt := 117) dX12_readClause_107 (by decide) (by decide) (by decide) (fun _ => ?_) (fun c107 => absurd c107 (by decide))
  refine ab_iload_n (k := 2) dX12_readClause_117 rfl rfl ?_
  refine z_bipush dX12_readClause_118 (by decide) ?_
  refine z_icmp_ne (tgt := 130) dX12_readClause_120 (by decide) (by decide) (by decide) (fun _ => ?_) (fun c120 => absurd c120 (by decide))
  refine ab_aload_n (k := 3) dX12_readClause_130 rfl rfl ?_
  refine z_getP (b := 206) dX12_readClause_131 fX12_40 rfl rfl rfl ?_
  refine ab_astore (ls' := [(4, .ref 206), (3, .int (iI 0)), (2, .int (iI 1)), (1, .int (iI 107)), (0, .ref 200)]) dX12_readClause_134 (by decide) rfl ?_
  refine ab_iload_n (k := 3) dX12_readClause_136 rfl rfl ?_
  refine z_bipush dX12_readClause_137 (by decide) ?_
  refine z_icmp_ne (tgt := 147) dX12_readClause_139 (by decide) (by decide) (by decide) (fun c139 => absurd c139 (by decide)) (fun _ => ?_)
  refine ab_ldcs (j := 0) dX12_readClause_142 (by decide) ?_
  refine ab_goto (tgt := 160) dX12_readClause_144 (by decide) ?_
  refine ab_astore (ls' := [(5, .ref (2000 + 0)), (4, .ref 206), (3, .int (iI 0)), (2, .int (iI 1)), (1, .int (iI 107)), (0, .ref 200)]) dX12_readClause_160 (by decide) rfl ?_
  refine ab_iload_n (k := 4) dX12_readClause_162 rfl rfl ?_
  refine z_bipush dX12_readClause_163 (by decide) ?_
  refine z_icmp_ne (tgt := 173) dX12_readClause_165 (by decide) (by decide) (by decide) (fun c165 => absurd c165 (by decide)) (fun _ => ?_)
  refine ab_aload_n (k := 5) dX12_readClause_168 rfl rfl ?_
  refine z_iconst dX12_readClause_169 ?_
  refine z_putZ dX12_readClause_170 fX12_236 rfl rfl (Or.inr rfl) ?_
  obtain ⟨n170, en170⟩ : ∃ z : ab_H, z = zp n69 200 28 1 := ⟨_, rfl⟩
  rw [← en170]
  refine ab_iload_n (k := 4) dX12_readClause_173 rfl rfl ?_
  refine z_bipush dX12_readClause_174 (by decide) ?_
  refine z_icmp_ne (tgt := 205) dX12_readClause_176 (by decide) (by decide) (by decide) (fun _ => ?_) (fun c176 => absurd c176 (by decide))
  refine ab_iload_n (k := 4) dX12_readClause_205 rfl rfl ?_
  refine z_bipush dX12_readClause_206 (by decide) ?_
  refine z_icmp_ne (tgt := 237) dX12_readClause_208 (by decide) (by decide) (by decide) (fun _ => ?_) (fun c208 => absurd c208 (by decide))
  have Fn170 : F12 n69 n170 := by rw [en170]; exact F12_z (by omega)
  have Sn170 : MK T z n170 (lk T z p + 1) := by
    rw [en170]
    exact ⟨⟨by rw [zv_zp_ne (by decide)]; exact Sn69.1.1, by rw [zv_zp_ne (by decide)]; exact Sn69.1.2.1, Sn69.1.2.2.1, fun i hi => by rw [zv_zp_a (by decide)]; exact Sn69.1.2.2.2 i hi⟩, by rw [zv_zp_ne (by decide)]; exact Sn69.2.1, by rw [zv_zp_ne (by decide)]; exact Sn69.2.2.1, Sn69.2.2.2⟩
  refine z_iconst dX12_readClause_237 ?_
  refine ab_istore (ls' := [(6, .int (iI 0)), (5, .ref (2000 + 0)), (4, .ref 206), (3, .int (iI 0)), (2, .int (iI 1)), (1, .int (iI 107)), (0, .ref 200)]) dX12_readClause_238 (by decide) rfl ?_
  refine ab_aload (k := 1) dX12_readClause_240 rfl ?_
  refine ab_aload_n (k := 6) dX12_readClause_242 rfl rfl ?_
  refine ab_callV (As := []) (rest := [.ref (2000 + 0)]) dX12_readClause_243 lX12_153 rfl (Nat.le_of_ble_eq_true rfl) (Nat.le_of_ble_eq_true rfl) rfl ?_
  refine c_klook ht Sn170 (fun l243 sl243 Sl243 => ?_)
  have k243 := lk_ge T z (lk T z p + 1)
  have y243 := sg_b ht (lk T z p + 1)
  have q243 := lk_le (T := T) Sn170.2.2.2
  show ab_X (d + 8) mX12_readClause 246 [(6, .int (iI 0)), (5, .ref (2000 + 0)), (4, .ref 206), (3, .int (iI 0)), (2, .int (iI 1)), (1, .int (iI 107)), (0, .ref 200)] [.int (iI (sg T z (lk T z p + 1))), .ref (2000 + 0)] l243 _
  refine ab_callS (As := [.ref (2000 + 0), .int (iI (sg T z (lk T z p + 1)))]) (rest := []) dX12_readClause_246 lX12_251 (Nat.le_of_ble_eq_true rfl) (Nat.le_of_ble_eq_true rfl) rfl ?_
  refine c_placeOf0 (by omega) ?_
  show ab_X (d + 8) mX12_readClause 249 [(6, .int (iI 0)), (5, .ref (2000 + 0)), (4, .ref 206), (3, .int (iI 0)), (2, .int (iI 1)), (1, .int (iI 107)), (0, .ref 200)] [.int (iI (pof 0 (sg T z (lk T z p + 1))))] l243 _
  refine ab_istore (ls' := [(7, .int (iI (pof 0 (sg T z (lk T z p + 1))))), (6, .int (iI 0)), (5, .ref (2000 + 0)), (4, .ref 206), (3, .int (iI 0)), (2, .int (iI 1)), (1, .int (iI 107)), (0, .ref 200)]) dX12_readClause_249 (by decide) rfl ?_
  refine ab_sub (ls' := [(0, .ref 200), (1, .int (iI 107)), (3, .int (iI 0)), (4, .ref 206), (5, .ref (2000 + 0)), (6, .int (iI 0)), (7, .int (iI (pof 0 (sg T z (lk T z p + 1)))))]) (ks := [7, 6, 4, 3, 2, 1, 0]) rfl ?_
  have hC : KMc n69 S := KMc_2 Sh.2.1 (sl1.tr sn69)
  have hF0 : F12 h0 l243 := Sh.1.tr ((F12_2 (sl1.tr sn69)).tr (Fn170.tr (F12_2 sl243)))
  refine lp_kitems0 (h0 := l243) (p0 := lk T z p + 1) (r := 0) ht (by omega) (R := kc0 T z 0 p) (fun h' q v e b1 b2 b3 b4 b5 => ?_) (fun h' q v e b1 b2 b2' b3 b4 => ?_) (fun h' w e b1 b3 b4 => ?_) _ (lk T z p + 1) (kn 0) 0 (fun _ => false) (ku 0) _ rfl Sl243 (fun _ _ _ _ => rfl) ⟨by decide, fun k hk => by rw [tb_0]⟩ (by unfold lft; rfl) (fun i hi => by rw [sl243.1 206 _ (by omega), Nat.zero_add, en170, zv_zp_a (by decide), hC.1 i hi, hC.2.2.2.2.2.2 hk]; rfl) (ku_ok (by decide)) (Nat.le_refl _) rfl
  · have hKM : KMc h' (true, v, S.2.2.1, S.2.2.2) := by
      refine ⟨fun i hi => by have := b4 i hi; rw [Nat.zero_add] at this; exact this, ?_, fun i hi => ?_, ?_, ?_, fun i hi => ?_, fun q => absurd (show true = false from q) (by decide)⟩
      · rw [b3 200 25 (by omega) (by omega), sl243.1 200 25 (by omega), en170, zv_zp_ne (by decide)]; exact hC.2.1
      · rw [b3 208 _ (by omega) (by omega), b3 208 _ (by omega) (by omega), sl243.1 208 _ (by omega), sl243.1 208 _ (by omega), en170, zv_zp_a (by decide), zv_zp_a (by decide)]; exact hC.2.2.1 i hi
      · rw [b3 200 28 (by omega) (by omega), sl243.1 200 28 (by omega), en170, zv_zp_s (by decide)]; rfl
      · rw [b3 200 27 (by omega) (by omega), sl243.1 200 27 (by omega), en170, zv_zp_ne (by decide)]; exact hC.2.2.2.2.1
      · rw [b3 210 _ (by omega) (by omega), b3 210 _ (by omega) (by omega), sl243.1 210 _ (by omega), sl243.1 210 _ (by omega), en170, zv_zp_a (by decide), zv_zp_a (by decide)]; exact hC.2.2.2.2.2.1 i hi
    exact K1 _ _ _ (kcl_k hs hk e) (by omega) ⟨hF0.tr (F12_I (by omega) b3), hKM, kOK_k Sh.2.2.1 b2, b5⟩
  · exact K2 _ _ _ (kcl_k hs hk e) b1 b2 b2' (hF0.tr (F12_I (by omega) b3)) b4
  · exact K0 _ _ (kcl_kw hs hk e) b1 (hF0.tr (F12_I (by omega) b3)) b4
theorem c_mkcl1 {d : Nat} {h : ab_H} {Q : ab_Q} {T : Nat → Int} {z p : Nat} {h0 : ab_H} {S : kS}  (ht : tx T z) (hs : sg T z p = 115) (hk : S.2.2.1.length < 4) (Sh : MQk T z h0 h p S) (K1 : ∀ h' q S', kclF T z S p = (-1, q, S') → p < q → MQk T z h0 h' q S' → Q none h') (K2 : ∀ h' q S', kclF T z S p = (-1, q, S') → ¬ sg T z q = 59 → ¬ sg T z q = -1 → lk T z q = q → F12 h0 h' → zv h' 200 11 = (q : Int) → Q none h') (K0 : ∀ h' w, (kclF T z S p).1 = w → ¬ w = -1 → F12 h0 h' → zv h' 200 11 = w → Q none h') : ab_X (d + 8) mX12_readClause 0 (lv_args 0 [.ref 200]) [] h Q := by
  show ab_X (d + 8) mX12_readClause 0 [(0, .ref 200)] [] h Q
  have hz := ht.1
  have Sx := Sh.2.2.2
  have hpz := Sx.2.2.2
  have hl4 := Sh.2.2.1.2.2.2.1
  have hg4 := Sh.2.2.1.2.2.2.2
  have hkf : (if S.1 = true then 1 else 0 : Int) = 0 ↔ S.1 = false := by cases S.1 <;> simp
  have hkb : (if S.1 = true then 1 else 0 : Int) = 0 ∨ (if S.1 = true then 1 else 0 : Int) = 1 := by split <;> omega
  refine ab_aload_n (k := 0) dX12_readClause_0 rfl rfl ?_
  refine ab_callV (As := []) (rest := []) dX12_readClause_1 lX12_153 rfl (Nat.le_of_ble_eq_true rfl) (Nat.le_of_ble_eq_true rfl) rfl ?_
  refine c_klook ht Sx (fun l1 sl1 Sl1 => ?_)
  rw [hs]
  have k1 := lk_ge T z p
  have zin := sg_in (T := T) (z := z) (p := p) (by omega)
  show ab_X (d + 8) mX12_readClause 4 [(0, .ref 200)] [.int (iI 115)] l1 _
  refine ab_istore_n (ls' := [(1, .int (iI 115)), (0, .ref 200)]) dX12_readClause_4 rfl (by decide) rfl ?_
  refine ab_iload_n (k := 0) dX12_readClause_5 rfl rfl ?_
  refine z_bipush dX12_readClause_6 (by decide) ?_
  refine z_icmp_ne (tgt := 18) dX12_readClause_8 (by decide) (by decide) (by decide) (fun _ => ?_) (fun c8 => absurd c8 (by decide))
  refine ab_iload_n (k := 0) dX12_readClause_18 rfl rfl ?_
  refine z_bipush dX12_readClause_19 (by decide) ?_
  refine z_icmp_ne (tgt := 32) dX12_readClause_21 (by decide) (by decide) (by decide) (fun c21 => absurd c21 (by decide)) (fun _ => ?_)
  refine ab_aload_n (k := 1) dX12_readClause_24 rfl rfl ?_
  refine z_getI dX12_readClause_25 fX12_239 rfl (Or.inl rfl) ?_
  refine z_is (y := ((S.2.2.1.length : Nat) : Int)) ((sl1.1 200 25 (by omega)).trans Sh.2.1.2.1) ?_
  refine z_iconst dX12_readClause_28 ?_
  refine z_icmp_lt (tgt := 46) dX12_readClause_29 (by decide) (by omega) (by decide) (fun c29 => ?_) (fun c29 => ?_)
  · skip
    refine z_iconst dX12_readClause_46 ?_
    refine ab_goto (tgt := 51) dX12_readClause_47 (by decide) ?_
    refine ab_istore_n (ls' := [(2, .int (iI 1)), (1, .int (iI 115)), (0, .ref 200)]) dX12_readClause_51 rfl (by decide) rfl ?_
    refine ab_iload_n (k := 0) dX12_readClause_52 rfl rfl ?_
    refine z_if_ne (tgt := 62) dX12_readClause_53 (by decide) (by decide) (fun _ => ?_) (fun c53 => absurd c53 (by decide))
    refine ab_aload_n (k := 2) dX12_readClause_62 rfl rfl ?_
    refine ab_dup dX12_readClause_63 rfl ?_
    refine z_getI dX12_readClause_64 fX12_134 rfl (Or.inl rfl) ?_
    refine z_is (y := (((lk T z p) : Nat) : Int)) Sl1.2.1 ?_
    refine z_iconst dX12_readClause_67 ?_
    refine z_iadd dX12_readClause_68 ?_
    refine z_putI dX12_readClause_69 fX12_134 rfl rfl ?_
    obtain ⟨n69, en69⟩ : ∃ zz : ab_H, zz = zp l1 200 10 ((((lk T z p) : Nat) : Int) + 1) := ⟨_, rfl⟩
    refine z_h (h' := n69) en69.symm ?_
    have Sn69 : MK T z n69 ((lk T z p) + 1) := by rw [en69]; exact MK_at Sl1 hz (by omega) (by omega)
    have sn69 : eq2 l1 n69 := by rw [en69]; exact eq2_z (by omega)
    refine ab_iload_n (k := 1) dX12_readClause_72 rfl rfl ?_
    refine z_bipush dX12_readClause_73 (by decide) ?_
    refine z_icmp_ne (tgt := 87) dX12_readClause_75 (by decide) (by decide) (by decide) (fun c75 => absurd c75 (by decide)) (fun _ => ?_)
    refine z_iconst dX12_readClause_78 ?_
    refine ab_aload_n (k := 2) dX12_readClause_79 rfl rfl ?_
    refine z_getI dX12_readClause_80 fX12_239 rfl (Or.inl rfl) ?_
    refine z_is (y := ((S.2.2.1.length : Nat) : Int)) (((sn69.1 200 25 (by omega)).trans (sl1.1 200 25 (by omega))).trans Sh.2.1.2.1) ?_
    refine z_imul dX12_readClause_83 ?_
    refine z_is (y := ((2 * S.2.2.1.length : Nat) : Int)) (by omega) ?_
    refine ab_goto (tgt := 103) dX12_readClause_84 (by decide) ?_
    refine ab_istore_n (ls' := [(3, .int (iI ((2 * S.2.2.1.length : Nat) : Int))), (2, .int (iI 1)), (1, .int (iI 115)), (0, .ref 200)]) dX12_readClause_103 rfl (by decide) rfl ?_
    refine ab_iload_n (k := 2) dX12_readClause_104 rfl rfl ?_
    refine z_bipush dX12_readClause_105 (by decide) ?_
    refine z_icmp_ne (tgt := 117) dX12_readClause_107 (by decide) (by decide) (by decide) (fun c107 => absurd c107 (by decide)) (fun _ => ?_)
    refine ab_aload_n (k := 3) dX12_readClause_110 rfl rfl ?_
    refine z_getP (b := 208) dX12_readClause_111 fX12_46 rfl rfl rfl ?_
    refine ab_goto (tgt := 134) dX12_readClause_114 (by decide) ?_
    refine ab_astore (ls' := [(4, .ref 208), (3, .int (iI ((2 * S.2.2.1.length : Nat) : Int))), (2, .int (iI 1)), (1, .int (iI 115)), (0, .ref 200)]) dX12_readClause_134 (by decide) rfl ?_
    refine ab_iload_n (k := 3) dX12_readClause_136 rfl rfl ?_
    refine z_bipush dX12_readClause_137 (by decide) ?_
    refine z_icmp_ne (tgt := 147) dX12_readClause_139 (by decide) (by decide) (by decide) (fun _ => ?_) (fun c139 => absurd c139 (by decide))
    refine ab_iload_n (k := 3) dX12_readClause_147 rfl rfl ?_
    refine z_bipush dX12_readClause_148 (by decide) ?_
    refine z_icmp_ne (tgt := 158) dX12_readClause_150 (by decide) (by decide) (by decide) (fun c150 => absurd c150 (by decide)) (fun _ => ?_)
    refine ab_ldcs (j := 1) dX12_readClause_153 (by decide) ?_
    refine ab_goto (tgt := 160) dX12_readClause_155 (by decide) ?_
    refine ab_astore (ls' := [(5, .ref (2000 + 1)), (4, .ref 208), (3, .int (iI ((2 * S.2.2.1.length : Nat) : Int))), (2, .int (iI 1)), (1, .int (iI 115)), (0, .ref 200)]) dX12_readClause_160 (by decide) rfl ?_
    refine ab_iload_n (k := 4) dX12_readClause_162 rfl rfl ?_
    refine z_bipush dX12_readClause_163 (by decide) ?_
    refine z_icmp_ne (tgt := 173) dX12_readClause_165 (by decide) (by decide) (by decide) (fun _ => ?_) (fun c165 => absurd c165 (by decide))
    refine ab_iload_n (k := 4) dX12_readClause_173 rfl rfl ?_
    refine z_bipush dX12_readClause_174 (by decide) ?_
    refine z_icmp_ne (tgt := 205) dX12_readClause_176 (by decide) (by decide) (by decide) (fun c176 => absurd c176 (by decide)) (fun _ => ?_)
    refine ab_aload_n (k := 5) dX12_readClause_179 rfl rfl ?_
    refine z_getP (b := 208) dX12_readClause_180 fX12_46 rfl rfl rfl ?_
    refine ab_iload_n (k := 2) dX12_readClause_183 rfl rfl ?_
    refine z_iconst dX12_readClause_184 ?_
    refine z_iast dX12_readClause_185 rfl (by omega) (by omega) ?_
    simp only [Int.toNat_natCast]
    refine ab_aload_n (k := 5) dX12_readClause_186 rfl rfl ?_
    refine z_getP (b := 208) dX12_readClause_187 fX12_46 rfl rfl rfl ?_
    refine ab_iload_n (k := 2) dX12_readClause_190 rfl rfl ?_
    refine z_iconst dX12_readClause_191 ?_
    refine z_iadd dX12_readClause_192 ?_
    refine z_is (y := ((2 * S.2.2.1.length + 1 : Nat) : Int)) (by omega) ?_
    refine z_iconst dX12_readClause_193 ?_
    refine z_iast dX12_readClause_194 rfl (by omega) (by omega) ?_
    simp only [Int.toNat_natCast]
    refine ab_aload_n (k := 5) dX12_readClause_195 rfl rfl ?_
    refine ab_dup dX12_readClause_196 rfl ?_
    refine z_getI dX12_readClause_197 fX12_239 rfl (Or.inl rfl) ?_
    refine z_is (y := zv n69 200 25) ((zv_zp_a (by decide)).trans (zv_zp_a (by decide))) ?_
    refine z_is (y := ((S.2.2.1.length : Nat) : Int)) (((sn69.1 200 25 (by omega)).trans (sl1.1 200 25 (by omega))).trans Sh.2.1.2.1) ?_
    refine z_iconst dX12_readClause_200 ?_
    refine z_iadd dX12_readClause_201 ?_
    refine z_putI dX12_readClause_202 fX12_239 rfl rfl ?_
    obtain ⟨n202, en202⟩ : ∃ z : ab_H, z = zp (zp (zp n69 208 (2 * S.2.2.1.length) 3) 208 (2 * S.2.2.1.length + 1) 1) 200 25 (((S.2.2.1.length : Nat) : Int) + 1) := ⟨_, rfl⟩
    rw [← en202]
    refine ab_iload_n (k := 4) dX12_readClause_205 rfl rfl ?_
    refine z_bipush dX12_readClause_206 (by decide) ?_
    refine z_icmp_ne (tgt := 237) dX12_readClause_208 (by decide) (by decide) (by decide) (fun _ => ?_) (fun c208 => absurd c208 (by decide))
    have Fn202 : F12 n69 n202 := by rw [en202]; exact ((F12_a (by omega)).tr (F12_a (by omega))).tr (F12_z (by omega))
    have Sn202 : MK T z n202 (lk T z p + 1) := by
      rw [en202]
      exact ⟨⟨by rw [zv_zp_ne (by decide), zv_zp_a (by decide), zv_zp_a (by decide)]; exact Sn69.1.1, by rw [zv_zp_ne (by decide), zv_zp_a (by decide), zv_zp_a (by decide)]; exact Sn69.1.2.1, Sn69.1.2.2.1, fun i hi => by rw [zv_zp_a (by decide), zv_zp_a (by decide), zv_zp_a (by decide)]; exact Sn69.1.2.2.2 i hi⟩, by rw [zv_zp_ne (by decide), zv_zp_a (by decide), zv_zp_a (by decide)]; exact Sn69.2.1, by rw [zv_zp_ne (by decide), zv_zp_a (by decide), zv_zp_a (by decide)]; exact Sn69.2.2.1, Sn69.2.2.2⟩
    refine z_iconst dX12_readClause_237 ?_
    refine ab_istore (ls' := [(6, .int (iI 0)), (5, .ref (2000 + 1)), (4, .ref 208), (3, .int (iI ((2 * S.2.2.1.length : Nat) : Int))), (2, .int (iI 1)), (1, .int (iI 115)), (0, .ref 200)]) dX12_readClause_238 (by decide) rfl ?_
    refine ab_aload (k := 1) dX12_readClause_240 rfl ?_
    refine ab_aload_n (k := 6) dX12_readClause_242 rfl rfl ?_
    refine ab_callV (As := []) (rest := [.ref (2000 + 1)]) dX12_readClause_243 lX12_153 rfl (Nat.le_of_ble_eq_true rfl) (Nat.le_of_ble_eq_true rfl) rfl ?_
    refine c_klook ht Sn202 (fun l243 sl243 Sl243 => ?_)
    have k243 := lk_ge T z (lk T z p + 1)
    have y243 := sg_b ht (lk T z p + 1)
    have q243 := lk_le (T := T) Sn202.2.2.2
    show ab_X (d + 8) mX12_readClause 246 [(6, .int (iI 0)), (5, .ref (2000 + 1)), (4, .ref 208), (3, .int (iI ((2 * S.2.2.1.length : Nat) : Int))), (2, .int (iI 1)), (1, .int (iI 115)), (0, .ref 200)] [.int (iI (sg T z (lk T z p + 1))), .ref (2000 + 1)] l243 _
    refine ab_callS (As := [.ref (2000 + 1), .int (iI (sg T z (lk T z p + 1)))]) (rest := []) dX12_readClause_246 lX12_251 (Nat.le_of_ble_eq_true rfl) (Nat.le_of_ble_eq_true rfl) rfl ?_
    refine c_placeOf1 (by omega) ?_
    show ab_X (d + 8) mX12_readClause 249 [(6, .int (iI 0)), (5, .ref (2000 + 1)), (4, .ref 208), (3, .int (iI ((2 * S.2.2.1.length : Nat) : Int))), (2, .int (iI 1)), (1, .int (iI 115)), (0, .ref 200)] [.int (iI (pof 1 (sg T z (lk T z p + 1))))] l243 _
    refine ab_istore (ls' := [(7, .int (iI (pof 1 (sg T z (lk T z p + 1))))), (6, .int (iI 0)), (5, .ref (2000 + 1)), (4, .ref 208), (3, .int (iI ((2 * S.2.2.1.length : Nat) : Int))), (2, .int (iI 1)), (1, .int (iI 115)), (0, .ref 200)]) dX12_readClause_249 (by decide) rfl ?_
    refine ab_sub (ls' := [(0, .ref 200), (1, .int (iI 115)), (3, .int (iI ((2 * S.2.2.1.length : Nat) : Int))), (4, .ref 208), (5, .ref (2000 + 1)), (6, .int (iI 0)), (7, .int (iI (pof 1 (sg T z (lk T z p + 1)))))]) (ks := [7, 6, 4, 3, 2, 1, 0]) rfl ?_
    have hC : KMc n69 S := KMc_2 Sh.2.1 (sl1.tr sn69)
    have hF0 : F12 h0 l243 := Sh.1.tr ((F12_2 (sl1.tr sn69)).tr (Fn202.tr (F12_2 sl243)))
    refine lp_kitems1 (h0 := l243) (p0 := lk T z p + 1) (r := (2 * S.2.2.1.length)) ht (by omega) (R := kc0 T z 1 p) (fun h' q v e b1 b2 b3 b4 b5 => ?_) (fun h' q v e b1 b2 b2' b3 b4 => ?_) (fun h' w e b1 b3 b4 => ?_) _ (lk T z p + 1) (kn 1) 0 (fun _ => false) (ku 1) _ rfl Sl243 (fun _ _ _ _ => rfl) ⟨by decide, fun k hk => by rw [tb_0]⟩ (by unfold lft; rfl) (fun i hi => by
      rw [sl243.1 208 _ (by omega), en202, zv_zp_a (by decide)]
      rcases (show i = 0 ∨ i = 1 by omega) with rfl | rfl
      · rw [zv_zp_ne (by omega), Nat.add_zero, zv_zp_s (by decide)]; rfl
      · rw [zv_zp_s (by decide)]; rfl) (ku_ok (by decide)) (Nat.le_refl _) rfl
    · have hKM : KMc h' (S.1, S.2.1, S.2.2.1 ++ [(v.1, v.2.1)], S.2.2.2) := by
        exact ⟨fun i hi => by rw [b3 206 _ (by omega) (by omega), sl243.1 206 _ (by omega), en202, zv_zp_a (by decide), zv_zp_a (by decide), zv_zp_a (by decide)]; exact hC.1 i hi, by rw [b3 200 25 (by omega) (by omega), sl243.1 200 25 (by omega), en202, zv_zp_s (by omega), List.length_append]; rfl, prs_s hC.2.2.1 (by have := b4 0 (by omega); rw [Nat.add_zero] at this; exact this) (b4 1 (by omega)) (fun i hi => by rw [b3 208 _ (by omega) (by omega), sl243.1 208 _ (by omega), en202, zv_zp_a (by decide), zv_zp_ne (by omega), zv_zp_ne (by omega)]), by rw [b3 200 28 (by omega) (by omega), sl243.1 200 28 (by omega), en202, zv_zp_ne (by decide), zv_zp_a (by decide), zv_zp_a (by decide)]; exact hC.2.2.2.1, by rw [b3 200 27 (by omega) (by omega), sl243.1 200 27 (by omega), en202, zv_zp_ne (by decide), zv_zp_a (by decide), zv_zp_a (by decide)]; exact hC.2.2.2.2.1, fun i hi => by rw [b3 210 _ (by omega) (by omega), b3 210 _ (by omega) (by omega), sl243.1 210 _ (by omega), sl243.1 210 _ (by omega), en202, zv_zp_a (by decide), zv_zp_a (by decide), zv_zp_a (by decide), zv_zp_a (by decide), zv_zp_a (by decide), zv_zp_a (by decide)]; exact hC.2.2.2.2.2.1 i hi, hC.2.2.2.2.2.2⟩
      exact K1 _ _ _ (kcl_s hs hk e) (by omega) ⟨hF0.tr (F12_I (by omega) b3), hKM, kOK_s Sh.2.2.1 b2 hk, b5⟩
    · exact K2 _ _ _ (kcl_s hs hk e) b1 b2 b2' (hF0.tr (F12_I (by omega) b3)) b4
    · exact K0 _ _ (kcl_sw hs hk e) b1 (hF0.tr (F12_I (by omega) b3)) b4
  · skip
    refine ab_iload_n (k := 0) dX12_readClause_32 rfl rfl ?_
    refine z_bipush dX12_readClause_33 (by decide) ?_
    refine z_icmp_ne (tgt := 50) dX12_readClause_35 (by decide) (by decide) (by decide) (fun _ => ?_) (fun c35 => absurd c35 (by decide))
    refine z_iconst dX12_readClause_50 ?_
    refine ab_istore_n (ls' := [(2, .int (iI 0)), (1, .int (iI 115)), (0, .ref 200)]) dX12_readClause_51 rfl (by decide) rfl ?_
    refine ab_iload_n (k := 0) dX12_readClause_52 rfl rfl ?_
    refine z_if_ne (tgt := 62) dX12_readClause_53 (by decide) (by decide) (fun c53 => absurd c53 (by decide)) (fun _ => ?_)
    refine ab_aload_n (k := 2) dX12_readClause_56 rfl rfl ?_
    refine ab_callV (As := []) (rest := []) dX12_readClause_57 lX12_149 rfl (Nat.le_of_ble_eq_true rfl) (Nat.le_of_ble_eq_true rfl) rfl ?_
    refine c_kfails ht Sl1 (fun e57 se57 we57 => ?_)
    show ab_X (d + 8) mX12_readClause 60 [(2, .int (iI 0)), (1, .int (iI 115)), (0, .ref 200)] [.int (iI 0)] e57 _
    refine ab_pop dX12_readClause_60 rfl ?_
    refine z_vret dX12_readClause_61 rfl ?_
    exfalso; omega
theorem c_mkcl2 {d : Nat} {h : ab_H} {Q : ab_Q} {T : Nat → Int} {z p : Nat} {h0 : ab_H} {S : kS}  (ht : tx T z) (hs : sg T z p = 103) (hk : S.2.2.2.length < 4) (Sh : MQk T z h0 h p S) (K1 : ∀ h' q S', kclF T z S p = (-1, q, S') → p < q → MQk T z h0 h' q S' → Q none h') (K2 : ∀ h' q S', kclF T z S p = (-1, q, S') → ¬ sg T z q = 59 → ¬ sg T z q = -1 → lk T z q = q → F12 h0 h' → zv h' 200 11 = (q : Int) → Q none h') (K0 : ∀ h' w, (kclF T z S p).1 = w → ¬ w = -1 → F12 h0 h' → zv h' 200 11 = w → Q none h') : ab_X (d + 8) mX12_readClause 0 (lv_args 0 [.ref 200]) [] h Q := by
  show ab_X (d + 8) mX12_readClause 0 [(0, .ref 200)] [] h Q
  have hz := ht.1
  have Sx := Sh.2.2.2
  have hpz := Sx.2.2.2
  have hl4 := Sh.2.2.1.2.2.2.1
  have hg4 := Sh.2.2.1.2.2.2.2
  have hkf : (if S.1 = true then 1 else 0 : Int) = 0 ↔ S.1 = false := by cases S.1 <;> simp
  have hkb : (if S.1 = true then 1 else 0 : Int) = 0 ∨ (if S.1 = true then 1 else 0 : Int) = 1 := by split <;> omega
  refine ab_aload_n (k := 0) dX12_readClause_0 rfl rfl ?_
  refine ab_callV (As := []) (rest := []) dX12_readClause_1 lX12_153 rfl (Nat.le_of_ble_eq_true rfl) (Nat.le_of_ble_eq_true rfl) rfl ?_
  refine c_klook ht Sx (fun l1 sl1 Sl1 => ?_)
  rw [hs]
  have k1 := lk_ge T z p
  have zin := sg_in (T := T) (z := z) (p := p) (by omega)
  show ab_X (d + 8) mX12_readClause 4 [(0, .ref 200)] [.int (iI 103)] l1 _
  refine ab_istore_n (ls' := [(1, .int (iI 103)), (0, .ref 200)]) dX12_readClause_4 rfl (by decide) rfl ?_
  refine ab_iload_n (k := 0) dX12_readClause_5 rfl rfl ?_
  refine z_bipush dX12_readClause_6 (by decide) ?_
  refine z_icmp_ne (tgt := 18) dX12_readClause_8 (by decide) (by decide) (by decide) (fun _ => ?_) (fun c8 => absurd c8 (by decide))
  refine ab_iload_n (k := 0) dX12_readClause_18 rfl rfl ?_
  refine z_bipush dX12_readClause_19 (by decide) ?_
  refine z_icmp_ne (tgt := 32) dX12_readClause_21 (by decide) (by decide) (by decide) (fun _ => ?_) (fun c21 => absurd c21 (by decide))
  refine ab_iload_n (k := 0) dX12_readClause_32 rfl rfl ?_
  refine z_bipush dX12_readClause_33 (by decide) ?_
  refine z_icmp_ne (tgt := 50) dX12_readClause_35 (by decide) (by decide) (by decide) (fun c35 => absurd c35 (by decide)) (fun _ => ?_)
  refine ab_aload_n (k := 1) dX12_readClause_38 rfl rfl ?_
  refine z_getI dX12_readClause_39 fX12_242 rfl (Or.inl rfl) ?_
  refine z_is (y := ((S.2.2.2.length : Nat) : Int)) ((sl1.1 200 27 (by omega)).trans Sh.2.1.2.2.2.2.1) ?_
  refine z_iconst dX12_readClause_42 ?_
  refine z_icmp_ge (tgt := 50) dX12_readClause_43 (by decide) (by omega) (by decide) (fun c43 => ?_) (fun c43 => ?_)
  · skip
    refine z_iconst dX12_readClause_50 ?_
    refine ab_istore_n (ls' := [(2, .int (iI 0)), (1, .int (iI 103)), (0, .ref 200)]) dX12_readClause_51 rfl (by decide) rfl ?_
    refine ab_iload_n (k := 0) dX12_readClause_52 rfl rfl ?_
    refine z_if_ne (tgt := 62) dX12_readClause_53 (by decide) (by decide) (fun c53 => absurd c53 (by decide)) (fun _ => ?_)
    refine ab_aload_n (k := 2) dX12_readClause_56 rfl rfl ?_
    refine ab_callV (As := []) (rest := []) dX12_readClause_57 lX12_149 rfl (Nat.le_of_ble_eq_true rfl) (Nat.le_of_ble_eq_true rfl) rfl ?_
    refine c_kfails ht Sl1 (fun e57 se57 we57 => ?_)
    show ab_X (d + 8) mX12_readClause 60 [(2, .int (iI 0)), (1, .int (iI 103)), (0, .ref 200)] [.int (iI 0)] e57 _
    refine ab_pop dX12_readClause_60 rfl ?_
    refine z_vret dX12_readClause_61 rfl ?_
    exfalso; omega
  · skip
    refine z_iconst dX12_readClause_46 ?_
    refine ab_goto (tgt := 51) dX12_readClause_47 (by decide) ?_
    refine ab_istore_n (ls' := [(2, .int (iI 1)), (1, .int (iI 103)), (0, .ref 200)]) dX12_readClause_51 rfl (by decide) rfl ?_
    refine ab_iload_n (k := 0) dX12_readClause_52 rfl rfl ?_
    refine z_if_ne (tgt := 62) dX12_readClause_53 (by decide) (by decide) (fun _ => ?_) (fun c53 => absurd c53 (by decide))
    refine ab_aload_n (k := 2) dX12_readClause_62 rfl rfl ?_
    refine ab_dup dX12_readClause_63 rfl ?_
    refine z_getI dX12_readClause_64 fX12_134 rfl (Or.inl rfl) ?_
    refine z_is (y := (((lk T z p) : Nat) : Int)) Sl1.2.1 ?_
    refine z_iconst dX12_readClause_67 ?_
    refine z_iadd dX12_readClause_68 ?_
    refine z_putI dX12_readClause_69 fX12_134 rfl rfl ?_
    obtain ⟨n69, en69⟩ : ∃ zz : ab_H, zz = zp l1 200 10 ((((lk T z p) : Nat) : Int) + 1) := ⟨_, rfl⟩
    refine z_h (h' := n69) en69.symm ?_
    have Sn69 : MK T z n69 ((lk T z p) + 1) := by rw [en69]; exact MK_at Sl1 hz (by omega) (by omega)
    have sn69 : eq2 l1 n69 := by rw [en69]; exact eq2_z (by omega)
    refine ab_iload_n (k := 1) dX12_readClause_72 rfl rfl ?_
    refine z_bipush dX12_readClause_73 (by decide) ?_
    refine z_icmp_ne (tgt := 87) dX12_readClause_75 (by decide) (by decide) (by decide) (fun _ => ?_) (fun c75 => absurd c75 (by decide))
    refine ab_iload_n (k := 1) dX12_readClause_87 rfl rfl ?_
    refine z_bipush dX12_readClause_88 (by decide) ?_
    refine z_icmp_ne (tgt := 102) dX12_readClause_90 (by decide) (by decide) (by decide) (fun c90 => absurd c90 (by decide)) (fun _ => ?_)
    refine z_iconst dX12_readClause_93 ?_
    refine ab_aload_n (k := 2) dX12_readClause_94 rfl rfl ?_
    refine z_getI dX12_readClause_95 fX12_242 rfl (Or.inl rfl) ?_
    refine z_is (y := ((S.2.2.2.length : Nat) : Int)) (((sn69.1 200 27 (by omega)).trans (sl1.1 200 27 (by omega))).trans Sh.2.1.2.2.2.2.1) ?_
    refine z_imul dX12_readClause_98 ?_
    refine z_is (y := ((2 * S.2.2.2.length : Nat) : Int)) (by omega) ?_
    refine ab_goto (tgt := 103) dX12_readClause_99 (by decide) ?_
    refine ab_istore_n (ls' := [(3, .int (iI ((2 * S.2.2.2.length : Nat) : Int))), (2, .int (iI 1)), (1, .int (iI 103)), (0, .ref 200)]) dX12_readClause_103 rfl (by decide) rfl ?_
    refine ab_iload_n (k := 2) dX12_readClause_104 rfl rfl ?_
    refine z_bipush dX12_readClause_105 (by decide) ?_
    refine z_icmp_ne (tgt := 117) dX12_readClause_107 (by decide) (by decide) (by decide) (fun _ => ?_) (fun c107 => absurd c107 (by decide))
    refine ab_iload_n (k := 2) dX12_readClause_117 rfl rfl ?_
    refine z_bipush dX12_readClause_118 (by decide) ?_
    refine z_icmp_ne (tgt := 130) dX12_readClause_120 (by decide) (by decide) (by decide) (fun c120 => absurd c120 (by decide)) (fun _ => ?_)
    refine ab_aload_n (k := 3) dX12_readClause_123 rfl rfl ?_
    refine z_getP (b := 210) dX12_readClause_124 fX12_52 rfl rfl rfl ?_
    refine ab_goto (tgt := 134) dX12_readClause_127 (by decide) ?_
    refine ab_astore (ls' := [(4, .ref 210), (3, .int (iI ((2 * S.2.2.2.length : Nat) : Int))), (2, .int (iI 1)), (1, .int (iI 103)), (0, .ref 200)]) dX12_readClause_134 (by decide) rfl ?_
    refine ab_iload_n (k := 3) dX12_readClause_136 rfl rfl ?_
    refine z_bipush dX12_readClause_137 (by decide) ?_
    refine z_icmp_ne (tgt := 147) dX12_readClause_139 (by decide) (by decide) (by decide) (fun _ => ?_) (fun c139 => absurd c139 (by decide))
    refine ab_iload_n (k := 3) dX12_readClause_147 rfl rfl ?_
    refine z_bipush dX12_readClause_148 (by decide) ?_
    refine z_icmp_ne (tgt := 158) dX12_readClause_150 (by decide) (by decide) (by decide) (fun _ => ?_) (fun c150 => absurd c150 (by decide))
    refine ab_ldcs (j := 2) dX12_readClause_158 (by decide) ?_
    refine ab_astore (ls' := [(5, .ref (2000 + 2)), (4, .ref 210), (3, .int (iI ((2 * S.2.2.2.length : Nat) : Int))), (2, .int (iI 1)), (1, .int (iI 103)), (0, .ref 200)]) dX12_readClause_160 (by decide) rfl ?_
    refine ab_iload_n (k := 4) dX12_readClause_162 rfl rfl ?_
    refine z_bipush dX12_readClause_163 (by decide) ?_
    refine z_icmp_ne (tgt := 173) dX12_readClause_165 (by decide) (by decide) (by decide) (fun _ => ?_) (fun c165 => absurd c165 (by decide))
    refine ab_iload_n (k := 4) dX12_readClause_173 rfl rfl ?_
    refine z_bipush dX12_readClause_174 (by decide) ?_
    refine z_icmp_ne (tgt := 205) dX12_readClause_176 (by decide) (by decide) (by decide) (fun _ => ?_) (fun c176 => absurd c176 (by decide))
    refine ab_iload_n (k := 4) dX12_readClause_205 rfl rfl ?_
    refine z_bipush dX12_readClause_206 (by decide) ?_
    refine z_icmp_ne (tgt := 237) dX12_readClause_208 (by decide) (by decide) (by decide) (fun c208 => absurd c208 (by decide)) (fun _ => ?_)
    refine ab_aload_n (k := 5) dX12_readClause_211 rfl rfl ?_
    refine z_getP (b := 210) dX12_readClause_212 fX12_52 rfl rfl rfl ?_
    refine ab_iload_n (k := 2) dX12_readClause_215 rfl rfl ?_
    refine z_iconst dX12_readClause_216 ?_
    refine z_iast dX12_readClause_217 rfl (by omega) (by omega) ?_
    simp only [Int.toNat_natCast]
    refine ab_aload_n (k := 5) dX12_readClause_218 rfl rfl ?_
    refine z_getP (b := 210) dX12_readClause_219 fX12_52 rfl rfl rfl ?_
    refine ab_iload_n (k := 2) dX12_readClause_222 rfl rfl ?_
    refine z_iconst dX12_readClause_223 ?_
    refine z_iadd dX12_readClause_224 ?_
    refine z_is (y := ((2 * S.2.2.2.length + 1 : Nat) : Int)) (by omega) ?_
    refine z_iconst dX12_readClause_225 ?_
    refine z_iast dX12_readClause_226 rfl (by omega) (by omega) ?_
    simp only [Int.toNat_natCast]
    refine ab_aload_n (k := 5) dX12_readClause_227 rfl rfl ?_
    refine ab_dup dX12_readClause_228 rfl ?_
    refine z_getI dX12_readClause_229 fX12_242 rfl (Or.inl rfl) ?_
    refine z_is (y := zv n69 200 27) ((zv_zp_a (by decide)).trans (zv_zp_a (by decide))) ?_
    refine z_is (y := ((S.2.2.2.length : Nat) : Int)) (((sn69.1 200 27 (by omega)).trans (sl1.1 200 27 (by omega))).trans Sh.2.1.2.2.2.2.1) ?_
    refine z_iconst dX12_readClause_232 ?_
    refine z_iadd dX12_readClause_233 ?_
    refine z_putI dX12_readClause_234 fX12_242 rfl rfl ?_
    obtain ⟨n234, en234⟩ : ∃ z : ab_H, z = zp (zp (zp n69 210 (2 * S.2.2.2.length) 0) 210 (2 * S.2.2.2.length + 1) 1) 200 27 (((S.2.2.2.length : Nat) : Int) + 1) := ⟨_, rfl⟩
    rw [← en234]
    have Fn234 : F12 n69 n234 := by rw [en234]; exact ((F12_a (by omega)).tr (F12_a (by omega))).tr (F12_z (by omega))
    have Sn234 : MK T z n234 (lk T z p + 1) := by
      rw [en234]
      exact ⟨⟨by rw [zv_zp_ne (by decide), zv_zp_a (by decide), zv_zp_a (by decide)]; exact Sn69.1.1, by rw [zv_zp_ne (by decide), zv_zp_a (by decide), zv_zp_a (by decide)]; exact Sn69.1.2.1, Sn69.1.2.2.1, fun i hi => by rw [zv_zp_a (by decide), zv_zp_a (by decide), zv_zp_a (by decide)]; exact Sn69.1.2.2.2 i hi⟩, by rw [zv_zp_ne (by decide), zv_zp_a (by decide), zv_zp_a (by decide)]; exact Sn69.2.1, by rw [zv_zp_ne (by decide), zv_zp_a (by decide), zv_zp_a (by decide)]; exact Sn69.2.2.1, Sn69.2.2.2⟩
    refine z_iconst dX12_readClause_237 ?_
    refine ab_istore (ls' := [(6, .int (iI 0)), (5, .ref (2000 + 2)), (4, .ref 210), (3, .int (iI ((2 * S.2.2.2.length : Nat) : Int))), (2, .int (iI 1)), (1, .int (iI 103)), (0, .ref 200)]) dX12_readClause_238 (by decide) rfl ?_
    refine ab_aload (k := 1) dX12_readClause_240 rfl ?_
    refine ab_aload_n (k := 6) dX12_readClause_242 rfl rfl ?_
    refine ab_callV (As := []) (rest := [.ref (2000 + 2)]) dX12_readClause_243 lX12_153 rfl (Nat.le_of_ble_eq_true rfl) (Nat.le_of_ble_eq_true rfl) rfl ?_
    refine c_klook ht Sn234 (fun l243 sl243 Sl243 => ?_)
    have k243 := lk_ge T z (lk T z p + 1)
    have y243 := sg_b ht (lk T z p + 1)
    have q243 := lk_le (T := T) Sn234.2.2.2
    show ab_X (d + 8) mX12_readClause 246 [(6, .int (iI 0)), (5, .ref (2000 + 2)), (4, .ref 210), (3, .int (iI ((2 * S.2.2.2.length : Nat) : Int))), (2, .int (iI 1)), (1, .int (iI 103)), (0, .ref 200)] [.int (iI (sg T z (lk T z p + 1))), .ref (2000 + 2)] l243 _
    refine ab_callS (As := [.ref (2000 + 2), .int (iI (sg T z (lk T z p + 1)))]) (rest := []) dX12_readClause_246 lX12_251 (Nat.le_of_ble_eq_true rfl) (Nat.le_of_ble_eq_true rfl) rfl ?_
    refine c_placeOf2 (by omega) ?_
    show ab_X (d + 8) mX12_readClause 249 [(6, .int (iI 0)), (5, .ref (2000 + 2)), (4, .ref 210), (3, .int (iI ((2 * S.2.2.2.length : Nat) : Int))), (2, .int (iI 1)), (1, .int (iI 103)), (0, .ref 200)] [.int (iI (pof 2 (sg T z (lk T z p + 1))))] l243 _
    refine ab_istore (ls' := [(7, .int (iI (pof 2 (sg T z (lk T z p + 1))))), (6, .int (iI 0)), (5, .ref (2000 + 2)), (4, .ref 210), (3, .int (iI ((2 * S.2.2.2.length : Nat) : Int))), (2, .int (iI 1)), (1, .int (iI 103)), (0, .ref 200)]) dX12_readClause_249 (by decide) rfl ?_
    refine ab_sub (ls' := [(0, .ref 200), (1, .int (iI 103)), (3, .int (iI ((2 * S.2.2.2.length : Nat) : Int))), (4, .ref 210), (5, .ref (2000 + 2)), (6, .int (iI 0)), (7, .int (iI (pof 2 (sg T z (lk T z p + 1)))))]) (ks := [7, 6, 4, 3, 2, 1, 0]) rfl ?_
    have hC : KMc n69 S := KMc_2 Sh.2.1 (sl1.tr sn69)
    have hF0 : F12 h0 l243 := Sh.1.tr ((F12_2 (sl1.tr sn69)).tr (Fn234.tr (F12_2 sl243)))
    refine lp_kitems2 (h0 := l243) (p0 := lk T z p + 1) (r := (2 * S.2.2.2.length)) ht (by omega) (R := kc0 T z 2 p) (fun h' q v e b1 b2 b3 b4 b5 => ?_) (fun h' q v e b1 b2 b2' b3 b4 => ?_) (fun h' w e b1 b3 b4 => ?_) _ (lk T z p + 1) (kn 2) 0 (fun _ => false) (ku 2) _ rfl Sl243 (fun _ _ _ _ => rfl) ⟨by decide, fun k hk => by rw [tb_0]⟩ (by unfold lft; rfl) (fun i hi => by
      rw [sl243.1 210 _ (by omega), en234, zv_zp_a (by decide)]
      rcases (show i = 0 ∨ i = 1 by omega) with rfl | rfl
      · rw [zv_zp_ne (by omega), Nat.add_zero, zv_zp_s (by decide)]; rfl
      · rw [zv_zp_s (by decide)]; rfl) (ku_ok (by decide)) (Nat.le_refl _) rfl
    · have hKM : KMc h' (S.1, S.2.1, S.2.2.1, S.2.2.2 ++ [(v.1, v.2.1)]) := by
        exact ⟨fun i hi => by rw [b3 206 _ (by omega) (by omega), sl243.1 206 _ (by omega), en234, zv_zp_a (by decide), zv_zp_a (by decide), zv_zp_a (by decide)]; exact hC.1 i hi, by rw [b3 200 25 (by omega) (by omega), sl243.1 200 25 (by omega), en234, zv_zp_ne (by decide), zv_zp_a (by decide), zv_zp_a (by decide)]; exact hC.2.1, fun i hi => by rw [b3 208 _ (by omega) (by omega), b3 208 _ (by omega) (by omega), sl243.1 208 _ (by omega), sl243.1 208 _ (by omega), en234, zv_zp_a (by decide), zv_zp_a (by decide), zv_zp_a (by decide), zv_zp_a (by decide), zv_zp_a (by decide), zv_zp_a (by decide)]; exact hC.2.2.1 i hi, by rw [b3 200 28 (by omega) (by omega), sl243.1 200 28 (by omega), en234, zv_zp_ne (by decide), zv_zp_a (by decide), zv_zp_a (by decide)]; exact hC.2.2.2.1, by rw [b3 200 27 (by omega) (by omega), sl243.1 200 27 (by omega), en234, zv_zp_s (by omega), List.length_append]; rfl, prs_s hC.2.2.2.2.2.1 (by have := b4 0 (by omega); rw [Nat.add_zero] at this; exact this) (b4 1 (by omega)) (fun i hi => by rw [b3 210 _ (by omega) (by omega), sl243.1 210 _ (by omega), en234, zv_zp_a (by decide), zv_zp_ne (by omega), zv_zp_ne (by omega)]), hC.2.2.2.2.2.2⟩
      exact K1 _ _ _ (kcl_g hs hk e) (by omega) ⟨hF0.tr (F12_I (by omega) b3), hKM, kOK_g Sh.2.2.1 b2 hk, b5⟩
    · exact K2 _ _ _ (kcl_g hs hk e) b1 b2 b2' (hF0.tr (F12_I (by omega) b3)) b4
    · exact K0 _ _ (kcl_gw hs hk e) b1 (hF0.tr (F12_I (by omega) b3)) b4
theorem c_mkcl3 {d : Nat} {h : ab_H} {Q : ab_Q} {T : Nat → Int} {z p : Nat} {h0 : ab_H} {S : kS}  (ht : tx T z) (hn1 : ¬ (sg T z p = 107 ∧ S.1 = false)) (hn2 : ¬ (sg T z p = 115 ∧ S.2.2.1.length < 4)) (hn3 : ¬ (sg T z p = 103 ∧ S.2.2.2.length < 4)) (Sh : MQk T z h0 h p S) (K0 : ∀ h' w, (kclF T z S p).1 = w → ¬ w = -1 → F12 h0 h' → zv h' 200 11 = w → Q none h') : ab_X (d + 8) mX12_readClause 0 (lv_args 0 [.ref 200]) [] h Q := by
  show ab_X (d + 8) mX12_readClause 0 [(0, .ref 200)] [] h Q
  have hz := ht.1
  have Sx := Sh.2.2.2
  have hpz := Sx.2.2.2
  have hl4 := Sh.2.2.1.2.2.2.1
  have hg4 := Sh.2.2.1.2.2.2.2
  have hkf : (if S.1 = true then 1 else 0 : Int) = 0 ↔ S.1 = false := by cases S.1 <;> simp
  have hkb : (if S.1 = true then 1 else 0 : Int) = 0 ∨ (if S.1 = true then 1 else 0 : Int) = 1 := by split <;> omega
  have hn1b : sg T z p = 107 → ¬ (if S.1 = true then 1 else 0 : Int) = 0 := fun a b => hn1 ⟨a, hkf.mp b⟩
  refine ab_aload_n (k := 0) dX12_readClause_0 rfl rfl ?_
  refine ab_callV (As := []) (rest := []) dX12_readClause_1 lX12_153 rfl (Nat.le_of_ble_eq_true rfl) (Nat.le_of_ble_eq_true rfl) rfl ?_
  refine c_klook ht Sx (fun l1 sl1 Sl1 => ?_)
  have y1 := sg_b ht p
  show ab_X (d + 8) mX12_readClause 4 [(0, .ref 200)] [.int (iI (sg T z p))] l1 _
  refine ab_istore_n (ls' := [(1, .int (iI (sg T z p))), (0, .ref 200)]) dX12_readClause_4 rfl (by decide) rfl ?_
  refine ab_iload_n (k := 0) dX12_readClause_5 rfl rfl ?_
  refine z_bipush dX12_readClause_6 (by decide) ?_
  refine z_icmp_ne (tgt := 18) dX12_readClause_8 (by decide) (by omega) (by decide) (fun c8 => ?_) (fun c8 => ?_)
  · skip
    refine ab_iload_n (k := 0) dX12_readClause_18 rfl rfl ?_
    refine z_bipush dX12_readClause_19 (by decide) ?_
    refine z_icmp_ne (tgt := 32) dX12_readClause_21 (by decide) (by omega) (by decide) (fun c21 => ?_) (fun c21 => ?_)
    · skip
      refine ab_iload_n (k := 0) dX12_readClause_32 rfl rfl ?_
      refine z_bipush dX12_readClause_33 (by decide) ?_
      refine z_icmp_ne (tgt := 50) dX12_readClause_35 (by decide) (by omega) (by decide) (fun c35 => ?_) (fun c35 => ?_)
      · skip
        refine z_iconst dX12_readClause_50 ?_
        refine ab_istore_n (ls' := [(2, .int (iI 0)), (1, .int (iI (sg T z p))), (0, .ref 200)]) dX12_readClause_51 rfl (by decide) rfl ?_
        refine ab_iload_n (k := 0) dX12_readClause_52 rfl rfl ?_
        refine z_if_ne (tgt := 62) dX12_readClause_53 (by decide) (by decide) (fun c53 => absurd c53 (by decide)) (fun _ => ?_)
        refine ab_aload_n (k := 2) dX12_readClause_56 rfl rfl ?_
        refine ab_callV (As := []) (rest := []) dX12_readClause_57 lX12_149 rfl (Nat.le_of_ble_eq_true rfl) (Nat.le_of_ble_eq_true rfl) rfl ?_
        refine c_kfails ht Sl1 (fun e57 se57 we57 => ?_)
        show ab_X (d + 8) mX12_readClause 60 [(2, .int (iI 0)), (1, .int (iI (sg T z p))), (0, .ref 200)] [.int (iI 0)] e57 _
        refine ab_pop dX12_readClause_60 rfl ?_
        refine z_vret dX12_readClause_61 rfl ?_
        exact K0 _ _ (kcl_n hn1 hn2 hn3) (by omega) (Sh.1.tr (F12_2 (sl1.tr se57))) we57
      · skip
        refine ab_aload_n (k := 1) dX12_readClause_38 rfl rfl ?_
        refine z_getI dX12_readClause_39 fX12_242 rfl (Or.inl rfl) ?_
        refine z_is (y := ((S.2.2.2.length : Nat) : Int)) ((sl1.1 200 27 (by omega)).trans Sh.2.1.2.2.2.2.1) ?_
        refine z_iconst dX12_readClause_42 ?_
        refine z_icmp_ge (tgt := 50) dX12_readClause_43 (by decide) (by omega) (by decide) (fun c43 => ?_) (fun c43 => ?_)
        · skip
          refine z_iconst dX12_readClause_50 ?_
          refine ab_istore_n (ls' := [(2, .int (iI 0)), (1, .int (iI (sg T z p))), (0, .ref 200)]) dX12_readClause_51 rfl (by decide) rfl ?_
          refine ab_iload_n (k := 0) dX12_readClause_52 rfl rfl ?_
          refine z_if_ne (tgt := 62) dX12_readClause_53 (by decide) (by decide) (fun c53 => absurd c53 (by decide)) (fun _ => ?_)
          refine ab_aload_n (k := 2) dX12_readClause_56 rfl rfl ?_
          refine ab_callV (As := []) (rest := []) dX12_readClause_57 lX12_149 rfl (Nat.le_of_ble_eq_true rfl) (Nat.le_of_ble_eq_true rfl) rfl ?_
          refine c_kfails ht Sl1 (fun e57 se57 we57 => ?_)
          show ab_X (d + 8) mX12_readClause 60 [(2, .int (iI 0)), (1, .int (iI (sg T z p))), (0, .ref 200)] [.int (iI 0)] e57 _
          refine ab_pop dX12_readClause_60 rfl ?_
          refine z_vret dX12_readClause_61 rfl ?_
          exact K0 _ _ (kcl_n hn1 hn2 hn3) (by omega) (Sh.1.tr (F12_2 (sl1.tr se57))) we57
        · skip
          refine z_iconst dX12_readClause_46 ?_
          refine ab_goto (tgt := 51) dX12_readClause_47 (by decide) ?_
          refine ab_istore_n (ls' := [(2, .int (iI 1)), (1, .int (iI (sg T z p))), (0, .ref 200)]) dX12_readClause_51 rfl (by decide) rfl ?_
          refine ab_iload_n (k := 0) dX12_readClause_52 rfl rfl ?_
          refine z_if_ne (tgt := 62) dX12_readClause_53 (by decide) (by decide) (fun _ => ?_) (fun c53 => absurd c53 (by decide))
          refine ab_sub (ls' := [(0, .ref 200)]) (ks := [2]) rfl ?_
          exfalso; omega
    · skip
      refine ab_aload_n (k := 1) dX12_readClause_24 rfl rfl ?_
      refine z_getI dX12_readClause_25 fX12_239 rfl (Or.inl rfl) ?_
      refine z_is (y := ((S.2.2.1.length : Nat) : Int)) ((sl1.1 200 25 (by omega)).trans Sh.2.1.2.1) ?_
      refine z_iconst dX12_readClause_28 ?_
      refine z_icmp_lt (tgt := 46) dX12_readClause_29 (by decide) (by omega) (by decide) (fun c29 => ?_) (fun c29 => ?_)
      · skip
        refine z_iconst dX12_readClause_46 ?_
        refine ab_goto (tgt := 51) dX12_readClause_47 (by decide) ?_
        refine ab_istore_n (ls' := [(2, .int (iI 1)), (1, .int (iI (sg T z p))), (0, .ref 200)]) dX12_readClause_51 rfl (by decide) rfl ?_
        refine ab_iload_n (k := 0) dX12_readClause_52 rfl rfl ?_
        refine z_if_ne (tgt := 62) dX12_readClause_53 (by decide) (by decide) (fun _ => ?_) (fun c53 => absurd c53 (by decide))
        refine ab_sub (ls' := [(0, .ref 200)]) (ks := [2]) rfl ?_
        exfalso; omega
      · skip
        refine ab_iload_n (k := 0) dX12_readClause_32 rfl rfl ?_
        refine z_bipush dX12_readClause_33 (by decide) ?_
        refine z_icmp_ne (tgt := 50) dX12_readClause_35 (by decide) (by omega) (by decide) (fun c35 => ?_) (fun c35 => ?_)
        · skip
          refine z_iconst dX12_readClause_50 ?_
          refine ab_istore_n (ls' := [(2, .int (iI 0)), (1, .int (iI (sg T z p))), (0, .ref 200)]) dX12_readClause_51 rfl (by decide) rfl ?_
          refine ab_iload_n (k := 0) dX12_readClause_52 rfl rfl ?_
          refine z_if_ne (tgt := 62) dX12_readClause_53 (by decide) (by decide) (fun c53 => absurd c53 (by decide)) (fun _ => ?_)
          refine ab_aload_n (k := 2) dX12_readClause_56 rfl rfl ?_
          refine ab_callV (As := []) (rest := []) dX12_readClause_57 lX12_149 rfl (Nat.le_of_ble_eq_true rfl) (Nat.le_of_ble_eq_true rfl) rfl ?_
          refine c_kfails ht Sl1 (fun e57 se57 we57 => ?_)
          show ab_X (d + 8) mX12_readClause 60 [(2, .int (iI 0)), (1, .int (iI (sg T z p))), (0, .ref 200)] [.int (iI 0)] e57 _
          refine ab_pop dX12_readClause_60 rfl ?_
          refine z_vret dX12_readClause_61 rfl ?_
          exact K0 _ _ (kcl_n hn1 hn2 hn3) (by omega) (Sh.1.tr (F12_2 (sl1.tr se57))) we57
        · skip
          refine ab_aload_n (k := 1) dX12_readClause_38 rfl rfl ?_
          refine z_getI dX12_readClause_39 fX12_242 rfl (Or.inl rfl) ?_
          refine z_is (y := ((S.2.2.2.length : Nat) : Int)) ((sl1.1 200 27 (by omega)).trans Sh.2.1.2.2.2.2.1) ?_
          refine z_iconst dX12_readClause_42 ?_
          refine z_icmp_ge (tgt := 50) dX12_readClause_43 (by decide) (by omega) (by decide) (fun c43 => ?_) (fun c43 => ?_)
          · skip
            refine z_iconst dX12_readClause_50 ?_
            refine ab_istore_n (ls' := [(2, .int (iI 0)), (1, .int (iI (sg T z p))), (0, .ref 200)]) dX12_readClause_51 rfl (by decide) rfl ?_
            refine ab_iload_n (k := 0) dX12_readClause_52 rfl rfl ?_
            refine z_if_ne (tgt := 62) dX12_readClause_53 (by decide) (by decide) (fun c53 => absurd c53 (by decide)) (fun _ => ?_)
            refine ab_aload_n (k := 2) dX12_readClause_56 rfl rfl ?_
            refine ab_callV (As := []) (rest := []) dX12_readClause_57 lX12_149 rfl (Nat.le_of_ble_eq_true rfl) (Nat.le_of_ble_eq_true rfl) rfl ?_
            refine c_kfails ht Sl1 (fun e57 se57 we57 => ?_)
            show ab_X (d + 8) mX12_readClause 60 [(2, .int (iI 0)), (1, .int (iI (sg T z p))), (0, .ref 200)] [.int (iI 0)] e57 _
            refine ab_pop dX12_readClause_60 rfl ?_
            refine z_vret dX12_readClause_61 rfl ?_
            exact K0 _ _ (kcl_n hn1 hn2 hn3) (by omega) (Sh.1.tr (F12_2 (sl1.tr se57))) we57
          · skip
            refine z_iconst dX12_readClause_46 ?_
            refine ab_goto (tgt := 51) dX12_readClause_47 (by decide) ?_
            refine ab_istore_n (ls' := [(2, .int (iI 1)), (1, .int (iI (sg T z p))), (0, .ref 200)]) dX12_readClause_51 rfl (by decide) rfl ?_
            refine ab_iload_n (k := 0) dX12_readClause_52 rfl rfl ?_
            refine z_if_ne (tgt := 62) dX12_readClause_53 (by decide) (by decide) (fun _ => ?_) (fun c53 => absurd c53 (by decide))
            refine ab_sub (ls' := [(0, .ref 200)]) (ks := [2]) rfl ?_
            exfalso; omega
  · skip
    refine ab_aload_n (k := 1) dX12_readClause_11 rfl rfl ?_
    refine z_getI dX12_readClause_12 fX12_236 rfl (Or.inr rfl) ?_
    refine z_is (y := (if S.1 = true then 1 else 0 : Int)) ((sl1.1 200 28 (by omega)).trans Sh.2.1.2.2.2.1) ?_
    refine z_if_eq (tgt := 46) dX12_readClause_15 (by decide) (by omega) (fun c15 => ?_) (fun c15 => ?_)
    · skip
      refine z_iconst dX12_readClause_46 ?_
      refine ab_goto (tgt := 51) dX12_readClause_47 (by decide) ?_
      refine ab_istore_n (ls' := [(2, .int (iI 1)), (1, .int (iI (sg T z p))), (0, .ref 200)]) dX12_readClause_51 rfl (by decide) rfl ?_
      refine ab_iload_n (k := 0) dX12_readClause_52 rfl rfl ?_
      refine z_if_ne (tgt := 62) dX12_readClause_53 (by decide) (by decide) (fun _ => ?_) (fun c53 => absurd c53 (by decide))
      refine ab_sub (ls' := [(0, .ref 200)]) (ks := [2]) rfl ?_
      exfalso; omega
    · skip
      refine ab_iload_n (k := 0) dX12_readClause_18 rfl rfl ?_
      refine z_bipush dX12_readClause_19 (by decide) ?_
      refine z_icmp_ne (tgt := 32) dX12_readClause_21 (by decide) (by omega) (by decide) (fun c21 => ?_) (fun c21 => ?_)
      · skip
        refine ab_iload_n (k := 0) dX12_readClause_32 rfl rfl ?_
        refine z_bipush dX12_readClause_33 (by decide) ?_
        refine z_icmp_ne (tgt := 50) dX12_readClause_35 (by decide) (by omega) (by decide) (fun c35 => ?_) (fun c35 => ?_)
        · skip
          refine z_iconst dX12_readClause_50 ?_
          refine ab_istore_n (ls' := [(2, .int (iI 0)), (1, .int (iI (sg T z p))), (0, .ref 200)]) dX12_readClause_51 rfl (by decide) rfl ?_
          refine ab_iload_n (k := 0) dX12_readClause_52 rfl rfl ?_
          refine z_if_ne (tgt := 62) dX12_readClause_53 (by decide) (by decide) (fun c53 => absurd c53 (by decide)) (fun _ => ?_)
          refine ab_aload_n (k := 2) dX12_readClause_56 rfl rfl ?_
          refine ab_callV (As := []) (rest := []) dX12_readClause_57 lX12_149 rfl (Nat.le_of_ble_eq_true rfl) (Nat.le_of_ble_eq_true rfl) rfl ?_
          refine c_kfails ht Sl1 (fun e57 se57 we57 => ?_)
          show ab_X (d + 8) mX12_readClause 60 [(2, .int (iI 0)), (1, .int (iI (sg T z p))), (0, .ref 200)] [.int (iI 0)] e57 _
          refine ab_pop dX12_readClause_60 rfl ?_
          refine z_vret dX12_readClause_61 rfl ?_
          exact K0 _ _ (kcl_n hn1 hn2 hn3) (by omega) (Sh.1.tr (F12_2 (sl1.tr se57))) we57
        · skip
          refine ab_aload_n (k := 1) dX12_readClause_38 rfl rfl ?_
          refine z_getI dX12_readClause_39 fX12_242 rfl (Or.inl rfl) ?_
          refine z_is (y := ((S.2.2.2.length : Nat) : Int)) ((sl1.1 200 27 (by omega)).trans Sh.2.1.2.2.2.2.1) ?_
          refine z_iconst dX12_readClause_42 ?_
          refine z_icmp_ge (tgt := 50) dX12_readClause_43 (by decide) (by omega) (by decide) (fun c43 => ?_) (fun c43 => ?_)
          · skip
            refine z_iconst dX12_readClause_50 ?_
            refine ab_istore_n (ls' := [(2, .int (iI 0)), (1, .int (iI (sg T z p))), (0, .ref 200)]) dX12_readClause_51 rfl (by decide) rfl ?_
            refine ab_iload_n (k := 0) dX12_readClause_52 rfl rfl ?_
            refine z_if_ne (tgt := 62) dX12_readClause_53 (by decide) (by decide) (fun c53 => absurd c53 (by decide)) (fun _ => ?_)
            refine ab_aload_n (k := 2) dX12_readClause_56 rfl rfl ?_
            refine ab_callV (As := []) (rest := []) dX12_readClause_57 lX12_149 rfl (Nat.le_of_ble_eq_true rfl) (Nat.le_of_ble_eq_true rfl) rfl ?_
            refine c_kfails ht Sl1 (fun e57 se57 we57 => ?_)
            show ab_X (d + 8) mX12_readClause 60 [(2, .int (iI 0)), (1, .int (iI (sg T z p))), (0, .ref 200)] [.int (iI 0)] e57 _
            refine ab_pop dX12_readClause_60 rfl ?_
            refine z_vret dX12_readClause_61 rfl ?_
            exact K0 _ _ (kcl_n hn1 hn2 hn3) (by omega) (Sh.1.tr (F12_2 (sl1.tr se57))) we57
          · skip
            refine z_iconst dX12_readClause_46 ?_
            refine ab_goto (tgt := 51) dX12_readClause_47 (by decide) ?_
            refine ab_istore_n (ls' := [(2, .int (iI 1)), (1, .int (iI (sg T z p))), (0, .ref 200)]) dX12_readClause_51 rfl (by decide) rfl ?_
            refine ab_iload_n (k := 0) dX12_readClause_52 rfl rfl ?_
            refine z_if_ne (tgt := 62) dX12_readClause_53 (by decide) (by decide) (fun _ => ?_) (fun c53 => absurd c53 (by decide))
            refine ab_sub (ls' := [(0, .ref 200)]) (ks := [2]) rfl ?_
            exfalso; omega
      · skip
        refine ab_aload_n (k := 1) dX12_readClause_24 rfl rfl ?_
        refine z_getI dX12_readClause_25 fX12_239 rfl (Or.inl rfl) ?_
        refine z_is (y := ((S.2.2.1.length : Nat) : Int)) ((sl1.1 200 25 (by omega)).trans Sh.2.1.2.1) ?_
        refine z_iconst dX12_readClause_28 ?_
        refine z_icmp_lt (tgt := 46) dX12_readClause_29 (by decide) (by omega) (by decide) (fun c29 => ?_) (fun c29 => ?_)
        · skip
          refine z_iconst dX12_readClause_46 ?_
          refine ab_goto (tgt := 51) dX12_readClause_47 (by decide) ?_
          refine ab_istore_n (ls' := [(2, .int (iI 1)), (1, .int (iI (sg T z p))), (0, .ref 200)]) dX12_readClause_51 rfl (by decide) rfl ?_
          refine ab_iload_n (k := 0) dX12_readClause_52 rfl rfl ?_
          refine z_if_ne (tgt := 62) dX12_readClause_53 (by decide) (by decide) (fun _ => ?_) (fun c53 => absurd c53 (by decide))
          refine ab_sub (ls' := [(0, .ref 200)]) (ks := [2]) rfl ?_
          exfalso; omega
        · skip
          refine ab_iload_n (k := 0) dX12_readClause_32 rfl rfl ?_
          refine z_bipush dX12_readClause_33 (by decide) ?_
          refine z_icmp_ne (tgt := 50) dX12_readClause_35 (by decide) (by omega) (by decide) (fun c35 => ?_) (fun c35 => ?_)
          · skip
            refine z_iconst dX12_readClause_50 ?_
            refine ab_istore_n (ls' := [(2, .int (iI 0)), (1, .int (iI (sg T z p))), (0, .ref 200)]) dX12_readClause_51 rfl (by decide) rfl ?_
            refine ab_iload_n (k := 0) dX12_readClause_52 rfl rfl ?_
            refine z_if_ne (tgt := 62) dX12_readClause_53 (by decide) (by decide) (fun c53 => absurd c53 (by decide)) (fun _ => ?_)
            refine ab_aload_n (k := 2) dX12_readClause_56 rfl rfl ?_
            refine ab_callV (As := []) (rest := []) dX12_readClause_57 lX12_149 rfl (Nat.le_of_ble_eq_true rfl) (Nat.le_of_ble_eq_true rfl) rfl ?_
            refine c_kfails ht Sl1 (fun e57 se57 we57 => ?_)
            show ab_X (d + 8) mX12_readClause 60 [(2, .int (iI 0)), (1, .int (iI (sg T z p))), (0, .ref 200)] [.int (iI 0)] e57 _
            refine ab_pop dX12_readClause_60 rfl ?_
            refine z_vret dX12_readClause_61 rfl ?_
            exact K0 _ _ (kcl_n hn1 hn2 hn3) (by omega) (Sh.1.tr (F12_2 (sl1.tr se57))) we57
          · skip
            refine ab_aload_n (k := 1) dX12_readClause_38 rfl rfl ?_
            refine z_getI dX12_readClause_39 fX12_242 rfl (Or.inl rfl) ?_
            refine z_is (y := ((S.2.2.2.length : Nat) : Int)) ((sl1.1 200 27 (by omega)).trans Sh.2.1.2.2.2.2.1) ?_
            refine z_iconst dX12_readClause_42 ?_
            refine z_icmp_ge (tgt := 50) dX12_readClause_43 (by decide) (by omega) (by decide) (fun c43 => ?_) (fun c43 => ?_)
            · skip
              refine z_iconst dX12_readClause_50 ?_
              refine ab_istore_n (ls' := [(2, .int (iI 0)), (1, .int (iI (sg T z p))), (0, .ref 200)]) dX12_readClause_51 rfl (by decide) rfl ?_
              refine ab_iload_n (k := 0) dX12_readClause_52 rfl rfl ?_
              refine z_if_ne (tgt := 62) dX12_readClause_53 (by decide) (by decide) (fun c53 => absurd c53 (by decide)) (fun _ => ?_)
              refine ab_aload_n (k := 2) dX12_readClause_56 rfl rfl ?_
              refine ab_callV (As := []) (rest := []) dX12_readClause_57 lX12_149 rfl (Nat.le_of_ble_eq_true rfl) (Nat.le_of_ble_eq_true rfl) rfl ?_
              refine c_kfails ht Sl1 (fun e57 se57 we57 => ?_)
              show ab_X (d + 8) mX12_readClause 60 [(2, .int (iI 0)), (1, .int (iI (sg T z p))), (0, .ref 200)] [.int (iI 0)] e57 _
              refine ab_pop dX12_readClause_60 rfl ?_
              refine z_vret dX12_readClause_61 rfl ?_
              exact K0 _ _ (kcl_n hn1 hn2 hn3) (by omega) (Sh.1.tr (F12_2 (sl1.tr se57))) we57
            · skip
              refine z_iconst dX12_readClause_46 ?_
              refine ab_goto (tgt := 51) dX12_readClause_47 (by decide) ?_
              refine ab_istore_n (ls' := [(2, .int (iI 1)), (1, .int (iI (sg T z p))), (0, .ref 200)]) dX12_readClause_51 rfl (by decide) rfl ?_
              refine ab_iload_n (k := 0) dX12_readClause_52 rfl rfl ?_
              refine z_if_ne (tgt := 62) dX12_readClause_53 (by decide) (by decide) (fun _ => ?_) (fun c53 => absurd c53 (by decide))
              refine ab_sub (ls' := [(0, .ref 200)]) (ks := [2]) rfl ?_
              exfalso; omega
theorem c_mkcl {d : Nat} {h : ab_H} {Q : ab_Q} {T : Nat → Int} {z p : Nat} {h0 : ab_H} {S : kS} (ht : tx T z) (Sh : MQk T z h0 h p S) (K1 : ∀ h' q S', kclF T z S p = (-1, q, S') → p < q → MQk T z h0 h' q S' → Q none h') (K2 : ∀ h' q S', kclF T z S p = (-1, q, S') → ¬ sg T z q = 59 → ¬ sg T z q = -1 → lk T z q = q → F12 h0 h' → zv h' 200 11 = (q : Int) → Q none h') (K0 : ∀ h' w, (kclF T z S p).1 = w → ¬ w = -1 → F12 h0 h' → zv h' 200 11 = w → Q none h') : ab_X (d + 8) mX12_readClause 0 (lv_args 0 [.ref 200]) [] h Q := by
  by_cases c1 : sg T z p = 107 ∧ S.1 = false
  · exact c_mkcl0 ht c1.1 c1.2 Sh K1 K2 K0
  · by_cases c2 : sg T z p = 115 ∧ S.2.2.1.length < 4
    · exact c_mkcl1 ht c2.1 c2.2 Sh K1 K2 K0
    · by_cases c3 : sg T z p = 103 ∧ S.2.2.2.length < 4
      · exact c_mkcl2 ht c3.1 c3.2 Sh K1 K2 K0
      · exact c_mkcl3 ht c1 c2 c3 Sh K0
/-- from a clause's start -/
def krS (T : Nat → Int) (z f p : Nat) (S : kS) : Int × kS := if (kclF T z S p).1 = -1 then kRL T z f (kclF T z S p).2.1 (kclF T z S p).2.2 else ((kclF T z S p).1, S)
theorem krS_1 {T : Nat → Int} {z f p q : Nat} {S S' : kS} (e : kclF T z S p = (-1, q, S')) : krS T z f p S = kRL T z f q S' := by unfold krS; rw [e, if_pos rfl]
theorem krS_2 {T : Nat → Int} {z f p : Nat} {S : kS} {w : Int} (e : (kclF T z S p).1 = w) (hw : ¬ w = -1) : (krS T z f p S).1 = w := by unfold krS; rw [if_neg (by rw [e]; exact hw)]; exact e
theorem krS_3 {T : Nat → Int} {z f p : Nat} {S : kS} (h : sg T z p = 59) : kRL T z (f + 1) p S = krS T z f (lk T z p + 1) S := by
  show (if _ then _ else _) = _; rw [if_pos h]; rfl
theorem lp_mkread {d : Nat} {Q : ab_Q} {T : Nat → Int} {z : Nat} {h0 : ab_H} {R : Int × kS}  (ht : tx T z) (K1 : ∀ h' S', R = (-1, S') → F12 h0 h' → KMc h' S' → kOK S' → zv h' 200 11 = -1 → Q none h') (K0 : ∀ h' w, R.1 = w → ¬ w = -1 → F12 h0 h' → zv h' 200 11 = w → Q none h') : ∀ (nn : Nat) (p : Nat) (i : Nat) (S : kS) (h : ab_H), 160 - i = nn → (MQk T z h0 h p S) → (i ≤ p) → (krS T z (160 - i) p S = R) → ab_X (d + 9) mX12_readKerb 65 [(0, .ref 200)] [] h Q := by
  intro nn
  induction nn using Nat.strongRecOn with
  | ind nn ih =>
  intro p i S h hnn Qh hiq hR
  have hz := ht.1
  have Sh := Qh.2.2.2
  have hpz := Sh.2.2.2
  refine ab_aload_n (k := 0) dX12_readKerb_65 rfl rfl ?_
  refine ab_callV (As := []) (rest := []) dX12_readKerb_66 lX12_270 rfl (Nat.le_of_ble_eq_true rfl) (Nat.le_of_ble_eq_true rfl) rfl ?_
  refine c_mkcl ht Qh (fun l66 q66 S66 j66 b66 Ql66 => ?_) (fun d66 q66 S66 j66 b66 c66 d66' F66 w66 => ?_) (fun e66 w66 j66 n66 F66 we66 => ?_)
  · skip
    have Sl66 := Ql66.2.2.2
    have r66 := Sl66.2.2.2
    have k66 := lk_ge T z q66
    have hlen66 := Ql66.2.2.1.2.2.2.1
    show ab_X (d + 9) mX12_readKerb 69 [(0, .ref 200)] [] l66 _
    refine ab_aload_n (k := 0) dX12_readKerb_69 rfl rfl ?_
    refine z_getI dX12_readKerb_70 fX12_143 rfl (Or.inl rfl) ?_
    refine z_is (y := (-1)) Sl66.2.2.1 ?_
    refine z_iconst dX12_readKerb_73 ?_
    refine z_icmp_ne (tgt := 90) dX12_readKerb_74 (by decide) (by decide) (by decide) (fun c74 => absurd c74 (by decide)) (fun _ => ?_)
    refine ab_aload_n (k := 0) dX12_readKerb_77 rfl rfl ?_
    refine ab_callV (As := []) (rest := []) dX12_readKerb_78 lX12_153 rfl (Nat.le_of_ble_eq_true rfl) (Nat.le_of_ble_eq_true rfl) rfl ?_
    refine c_klook ht Sl66 (fun l78 sl78 Sl78 => ?_)
    have k78 := lk_ge T z q66
    have y78 := sg_b ht q66
    have q78 := lk_le (T := T) Sl66.2.2.2
    show ab_X (d + 9) mX12_readKerb 81 [(0, .ref 200)] [.int (iI (sg T z q66))] l78 _
    refine z_bipush dX12_readKerb_81 (by decide) ?_
    refine z_icmp_ne (tgt := 90) dX12_readKerb_83 (by decide) (by omega) (by decide) (fun c83 => ?_) (fun c83 => ?_)
    · skip
      refine z_iconst dX12_readKerb_90 ?_
      refine ab_istore_n (ls' := [(1, .int (iI 0)), (0, .ref 200)]) dX12_readKerb_91 rfl (by decide) rfl ?_
      refine ab_iload_n (k := 0) dX12_readKerb_92 rfl rfl ?_
      refine z_if_eq (tgt := 53) dX12_readKerb_93 (by decide) (by decide) (fun _ => ?_) (fun c93 => absurd c93 (by decide))
      refine ab_iload_n (k := 0) dX12_readKerb_53 rfl rfl ?_
      refine z_if_eq (tgt := 109) dX12_readKerb_54 (by decide) (by decide) (fun _ => ?_) (fun c54 => absurd c54 (by decide))
      refine ab_aload_n (k := 1) dX12_readKerb_109 rfl rfl ?_
      refine z_getI dX12_readKerb_110 fX12_143 rfl (Or.inl rfl) ?_
      refine z_is (y := (-1)) Sl78.2.2.1 ?_
      refine z_iconst dX12_readKerb_113 ?_
      refine z_icmp_ne (tgt := 137) dX12_readKerb_114 (by decide) (by decide) (by decide) (fun c114 => absurd c114 (by decide)) (fun _ => ?_)
      refine ab_aload_n (k := 1) dX12_readKerb_117 rfl rfl ?_
      refine ab_callV (As := []) (rest := []) dX12_readKerb_118 lX12_153 rfl (Nat.le_of_ble_eq_true rfl) (Nat.le_of_ble_eq_true rfl) rfl ?_
      refine c_klook ht Sl78 (fun l118 sl118 Sl118 => ?_)
      rw [sg_lk]
      show ab_X (d + 9) mX12_readKerb 121 [(1, .int (iI 0)), (0, .ref 200)] [.int (iI (sg T z q66))] l118 _
      refine z_iconst dX12_readKerb_121 ?_
      refine z_icmp_ne (tgt := 132) dX12_readKerb_122 (by decide) (by omega) (by decide) (fun c122 => ?_) (fun c122 => ?_)
      · skip
        refine ab_aload_n (k := 1) dX12_readKerb_132 rfl rfl ?_
        refine ab_callV (As := []) (rest := []) dX12_readKerb_133 lX12_149 rfl (Nat.le_of_ble_eq_true rfl) (Nat.le_of_ble_eq_true rfl) rfl ?_
        refine c_kfails ht Sl118 (fun e133 se133 we133 => ?_)
        show ab_X (d + 9) mX12_readKerb 136 [(1, .int (iI 0)), (0, .ref 200)] [.int (iI 0)] e133 _
        refine ab_pop dX12_readKerb_136 rfl ?_
        refine z_vret dX12_readKerb_137 rfl ?_
        exact K0 _ ((lk T z q66 : Nat) : Int) (by rw [← hR, krS_1 j66]; exact krl_4 (by omega) (by omega)) (by omega) (Ql66.1.tr (F12_2 ((sl78.tr sl118).tr se133))) (by rw [we133, lk_lk])
      · skip
        refine ab_aload_n (k := 1) dX12_readKerb_125 rfl rfl ?_
        refine z_getI dX12_readKerb_126 fX12_239 rfl (Or.inl rfl) ?_
        refine z_is (y := ((S66.2.2.1.length : Nat) : Int)) (((sl78.tr sl118).1 200 25 (by omega)).trans Ql66.2.1.2.1) ?_
        refine z_if_ne (tgt := 137) dX12_readKerb_129 (by decide) (by omega) (fun c129 => ?_) (fun c129 => ?_)
        · skip
          refine z_vret dX12_readKerb_137 rfl ?_
          have e3 := krl_3 (T := T) (z := z) (p := q66) (S := S66) (f := 160 - i) (by omega) (by omega)
          rw [← krS_1 (p := p) j66, hR] at e3
          exact K1 _ _ e3 (Ql66.1.tr (F12_2 (sl78.tr sl118))) (KMc_2 Ql66.2.1 (sl78.tr sl118)) Ql66.2.2.1 Sl118.2.2.1
        · skip
          refine ab_aload_n (k := 1) dX12_readKerb_132 rfl rfl ?_
          refine ab_callV (As := []) (rest := []) dX12_readKerb_133 lX12_149 rfl (Nat.le_of_ble_eq_true rfl) (Nat.le_of_ble_eq_true rfl) rfl ?_
          refine c_kfails ht Sl118 (fun e133 se133 we133 => ?_)
          show ab_X (d + 9) mX12_readKerb 136 [(1, .int (iI 0)), (0, .ref 200)] [.int (iI 0)] e133 _
          refine ab_pop dX12_readKerb_136 rfl ?_
          refine z_vret dX12_readKerb_137 rfl ?_
          exact K0 _ ((lk T z q66 : Nat) : Int) (by rw [← hR, krS_1 j66]; exact krl_4 (by omega) (by omega)) (by omega) (Ql66.1.tr (F12_2 ((sl78.tr sl118).tr se133))) (by rw [we133, lk_lk])
    · skip
      refine z_iconst dX12_readKerb_86 ?_
      refine ab_goto (tgt := 91) dX12_readKerb_87 (by decide) ?_
      refine ab_istore_n (ls' := [(1, .int (iI 1)), (0, .ref 200)]) dX12_readKerb_91 rfl (by decide) rfl ?_
      refine ab_iload_n (k := 0) dX12_readKerb_92 rfl rfl ?_
      refine z_if_eq (tgt := 53) dX12_readKerb_93 (by decide) (by decide) (fun c93 => absurd c93 (by decide)) (fun _ => ?_)
      have z96 := sg_in (T := T) (z := z) (p := q66) (by omega)
      refine ab_aload_n (k := 1) dX12_readKerb_96 rfl rfl ?_
      refine ab_dup dX12_readKerb_97 rfl ?_
      refine z_getI dX12_readKerb_98 fX12_134 rfl (Or.inl rfl) ?_
      refine z_is (y := (((lk T z q66) : Nat) : Int)) Sl78.2.1 ?_
      refine z_iconst dX12_readKerb_101 ?_
      refine z_iadd dX12_readKerb_102 ?_
      refine z_putI dX12_readKerb_103 fX12_134 rfl rfl ?_
      obtain ⟨n103, en103⟩ : ∃ zz : ab_H, zz = zp l78 200 10 ((((lk T z q66) : Nat) : Int) + 1) := ⟨_, rfl⟩
      refine z_h (h' := n103) en103.symm ?_
      have Sn103 : MK T z n103 ((lk T z q66) + 1) := by rw [en103]; exact MK_at Sl78 hz (by omega) (by omega)
      have sn103 : eq2 l78 n103 := by rw [en103]; exact eq2_z (by omega)
      refine ab_goto (tgt := 53) dX12_readKerb_106 (by decide) ?_
      refine ab_iload_n (k := 0) dX12_readKerb_53 rfl rfl ?_
      refine z_if_eq (tgt := 109) dX12_readKerb_54 (by decide) (by decide) (fun c54 => absurd c54 (by decide)) (fun _ => ?_)
      refine ab_aload_n (k := 1) dX12_readKerb_57 rfl rfl ?_
      refine z_getI dX12_readKerb_58 fX12_143 rfl (Or.inl rfl) ?_
      refine z_is (y := (-1)) Sn103.2.2.1 ?_
      refine z_iconst dX12_readKerb_61 ?_
      refine z_icmp_ne (tgt := 109) dX12_readKerb_62 (by decide) (by decide) (by decide) (fun c62 => absurd c62 (by decide)) (fun _ => ?_)
      refine ab_sub (ls' := [(0, .ref 200)]) (ks := [1]) rfl ?_
      refine ih _ (by omega) (lk T z q66 + 1) (i + 1) S66 _ rfl ⟨Ql66.1.tr (F12_2 (sl78.tr sn103)), KMc_2 Ql66.2.1 (sl78.tr sn103), Ql66.2.2.1, Sn103⟩ (by omega) ?_
      rw [← hR, krS_1 j66, show 160 - i = (160 - (i + 1)) + 1 by omega, krS_3 (by omega)]
  · skip
    show ab_X (d + 9) mX12_readKerb 69 [(0, .ref 200)] [] d66 _
    refine ab_aload_n (k := 0) dX12_readKerb_69 rfl rfl ?_
    refine z_getI dX12_readKerb_70 fX12_143 rfl (Or.inl rfl) ?_
    have b1 := zv_R d66 200 11
    refine z_iconst dX12_readKerb_73 ?_
    refine z_icmp_ne (tgt := 90) dX12_readKerb_74 (by decide) (by omega) (by decide) (fun c74 => ?_) (fun c74 => absurd c74 (fun q => by rw [w66] at q; omega))
    refine z_iconst dX12_readKerb_90 ?_
    refine ab_istore_n (ls' := [(1, .int (iI 0)), (0, .ref 200)]) dX12_readKerb_91 rfl (by decide) rfl ?_
    refine ab_iload_n (k := 0) dX12_readKerb_92 rfl rfl ?_
    refine z_if_eq (tgt := 53) dX12_readKerb_93 (by decide) (by decide) (fun _ => ?_) (fun c93 => absurd c93 (by decide))
    refine ab_iload_n (k := 0) dX12_readKerb_53 rfl rfl ?_
    refine z_if_eq (tgt := 109) dX12_readKerb_54 (by decide) (by decide) (fun _ => ?_) (fun c54 => absurd c54 (by decide))
    refine ab_aload_n (k := 1) dX12_readKerb_109 rfl rfl ?_
    refine z_getI dX12_readKerb_110 fX12_143 rfl (Or.inl rfl) ?_
    have b2 := zv_R d66 200 11
    refine z_iconst dX12_readKerb_113 ?_
    refine z_icmp_ne (tgt := 137) dX12_readKerb_114 (by decide) (by omega) (by decide) (fun c114 => ?_) (fun c114 => absurd c114 (fun q => by rw [w66] at q; omega))
    refine z_vret dX12_readKerb_137 rfl ?_
    exact K0 _ ((lk T z q66 : Nat) : Int) (by rw [← hR, krS_1 j66]; exact krl_4 b66 (fun q => c66 q.1)) (by omega) F66 (by rw [w66, d66'])
  · skip
    show ab_X (d + 9) mX12_readKerb 69 [(0, .ref 200)] [] e66 _
    refine ab_aload_n (k := 0) dX12_readKerb_69 rfl rfl ?_
    refine z_getI dX12_readKerb_70 fX12_143 rfl (Or.inl rfl) ?_
    have b3 := zv_R e66 200 11
    refine z_iconst dX12_readKerb_73 ?_
    refine z_icmp_ne (tgt := 90) dX12_readKerb_74 (by decide) (by omega) (by decide) (fun c74 => ?_) (fun c74 => absurd c74 (fun q => n66 (we66.symm.trans q)))
    refine z_iconst dX12_readKerb_90 ?_
    refine ab_istore_n (ls' := [(1, .int (iI 0)), (0, .ref 200)]) dX12_readKerb_91 rfl (by decide) rfl ?_
    refine ab_iload_n (k := 0) dX12_readKerb_92 rfl rfl ?_
    refine z_if_eq (tgt := 53) dX12_readKerb_93 (by decide) (by decide) (fun _ => ?_) (fun c93 => absurd c93 (by decide))
    refine ab_iload_n (k := 0) dX12_readKerb_53 rfl rfl ?_
    refine z_if_eq (tgt := 109) dX12_readKerb_54 (by decide) (by decide) (fun _ => ?_) (fun c54 => absurd c54 (by decide))
    refine ab_aload_n (k := 1) dX12_readKerb_109 rfl rfl ?_
    refine z_getI dX12_readKerb_110 fX12_143 rfl (Or.inl rfl) ?_
    have b4 := zv_R e66 200 11
    refine z_iconst dX12_readKerb_113 ?_
    refine z_icmp_ne (tgt := 137) dX12_readKerb_114 (by decide) (by omega) (by decide) (fun c114 => ?_) (fun c114 => absurd c114 (fun q => n66 (we66.symm.trans q)))
    refine z_vret dX12_readKerb_137 rfl ?_
    exact K0 _ w66 (by rw [← hR]; exact krS_2 j66 n66) n66 F66 we66
theorem c_mkread {d : Nat} {h : ab_H} {Q : ab_Q} {T : Nat → Int} {z : Nat}  (ht : tx T z) (hz1 : zv h 200 6 = (z : Int)) (hT : ∀ i, i < z → zv h 201 i = sby (T i)) (K1 : ∀ h' S', kRu T z = (-1, S') → F12 h h' → KMc h' S' → kOK S' → zv h' 200 11 = -1 → Q none h') (K0 : ∀ h' w, (kRu T z).1 = w → ¬ w = -1 → F12 h h' → zv h' 200 11 = w → Q none h') : ab_X (d + 9) mX12_readKerb 0 (lv_args 0 [.ref 200]) [] h Q := by
  show ab_X (d + 9) mX12_readKerb 0 [(0, .ref 200)] [] h Q
  have hz := ht.1
  refine ab_aload_n (k := 0) dX12_readKerb_0 rfl rfl ?_
  refine ab_aload_n (k := 0) dX12_readKerb_1 rfl rfl ?_
  refine z_getP (b := 201) dX12_readKerb_2 fX12_9 rfl rfl rfl ?_
  refine z_iconst dX12_readKerb_5 ?_
  refine ab_aload_n (k := 0) dX12_readKerb_6 rfl rfl ?_
  refine z_getI dX12_readKerb_7 fX12_124 rfl (Or.inl rfl) ?_
  refine z_is (y := (z : Int)) hz1 ?_
  refine ab_callV (As := [.ref 201, .int (iI 0), .int (iI (z : Int))]) (rest := []) dX12_readKerb_10 lX12_222 rfl (Nat.le_of_ble_eq_true rfl) (Nat.le_of_ble_eq_true rfl) rfl ?_
  refine c_opens201 (by decide) (by omega) (fun o10 O10 => ?_)
  show ab_X (d + 9) mX12_readKerb 13 [(0, .ref 200)] [] o10 _
  refine ab_aload_n (k := 0) dX12_readKerb_13 rfl rfl ?_
  refine z_getP (b := 206) dX12_readKerb_14 fX12_40 rfl rfl rfl ?_
  refine z_iconst dX12_readKerb_17 ?_
  refine z_bipush dX12_readKerb_18 (by decide) ?_
  refine z_iast dX12_readKerb_20 rfl (by omega) (by omega) ?_
  refine ab_aload_n (k := 0) dX12_readKerb_21 rfl rfl ?_
  refine z_getP (b := 206) dX12_readKerb_22 fX12_40 rfl rfl rfl ?_
  refine z_iconst dX12_readKerb_25 ?_
  refine z_iconst dX12_readKerb_26 ?_
  refine z_iast dX12_readKerb_27 rfl (by omega) (by omega) ?_
  refine ab_aload_n (k := 0) dX12_readKerb_28 rfl rfl ?_
  refine z_getP (b := 206) dX12_readKerb_29 fX12_40 rfl rfl rfl ?_
  refine z_iconst dX12_readKerb_32 ?_
  refine z_bipush dX12_readKerb_33 (by decide) ?_
  refine z_iast dX12_readKerb_35 rfl (by omega) (by omega) ?_
  refine ab_aload_n (k := 0) dX12_readKerb_36 rfl rfl ?_
  refine z_iconst dX12_readKerb_37 ?_
  refine z_putI dX12_readKerb_38 fX12_239 rfl rfl ?_
  refine ab_aload_n (k := 0) dX12_readKerb_41 rfl rfl ?_
  refine z_iconst dX12_readKerb_42 ?_
  refine z_putI dX12_readKerb_43 fX12_242 rfl rfl ?_
  refine ab_aload_n (k := 0) dX12_readKerb_46 rfl rfl ?_
  refine z_iconst dX12_readKerb_47 ?_
  refine z_putZ dX12_readKerb_48 fX12_236 rfl rfl (Or.inl rfl) ?_
  obtain ⟨n48, en48⟩ : ∃ zz : ab_H, zz = zp (zp (zp (zp (zp (zp o10 206 0 12) 206 1 0) 206 2 50) 200 25 0) 200 27 0) 200 28 0 := ⟨_, rfl⟩
  refine z_h (h' := n48) en48.symm ?_
  have hF : F12 h n48 := (F12_11 O10.1).tr (by rw [en48]; exact (((((F12_a (by omega)).tr (F12_a (by omega))).tr (F12_a (by omega))).tr (F12_z (by omega))).tr (F12_z (by omega))).tr (F12_z (by omega)))
  have o : ∀ j, 8 ≤ j ∧ j ≤ 11 → zv n48 200 j = zv o10 200 j := fun j hj => by rw [en48, zv_zp_ne (by omega), zv_zp_ne (by omega), zv_zp_ne (by omega), zv_zp_a (by decide), zv_zp_a (by decide), zv_zp_a (by decide)]
  have Qn48 : MQk T z h n48 0 kS0 := by
    refine ⟨hF, ⟨fun i hi => ?_, ?_, fun i hi => absurd hi (Nat.not_lt_zero i), ?_, ?_, fun i hi => absurd hi (Nat.not_lt_zero i), fun _ => rfl⟩, kOK_0, ⟨(o 9 (by omega)).trans O10.2.2.2.1, (o 8 (by omega)).trans O10.2.2.1, by rw [en48]; exact O10.2.1, fun i hi => (hF.1 201 i (by decide) (by decide) (by decide) (by decide)).trans (hT i hi)⟩, (o 10 (by omega)).trans O10.2.2.2.2.1, (o 11 (by omega)).trans O10.2.2.2.2.2, Nat.zero_le z⟩
    · rw [en48, zv_zp_a (by decide), zv_zp_a (by decide), zv_zp_a (by decide)]
      rcases (show i = 0 ∨ i = 1 ∨ i = 2 by omega) with rfl | rfl | rfl
      · rw [zv_zp_ne (by decide), zv_zp_ne (by decide), zv_zp_s (by decide)]; rfl
      · rw [zv_zp_ne (by decide), zv_zp_s (by decide)]; rfl
      · rw [zv_zp_s (by decide)]; rfl
    · rw [en48, zv_zp_ne (by decide), zv_zp_ne (by decide), zv_zp_s (by decide)]; rfl
    · rw [en48, zv_zp_s (by decide)]; rfl
    · rw [en48, zv_zp_ne (by decide), zv_zp_s (by decide)]; rfl
  refine z_iconst dX12_readKerb_51 ?_
  refine ab_istore_n (ls' := [(1, .int (iI 1)), (0, .ref 200)]) dX12_readKerb_52 rfl (by decide) rfl ?_
  refine ab_iload_n (k := 0) dX12_readKerb_53 rfl rfl ?_
  refine z_if_eq (tgt := 109) dX12_readKerb_54 (by decide) (by decide) (fun c54 => absurd c54 (by decide)) (fun _ => ?_)
  refine ab_aload_n (k := 1) dX12_readKerb_57 rfl rfl ?_
  refine z_getI dX12_readKerb_58 fX12_143 rfl (Or.inl rfl) ?_
  refine z_is (y := (-1)) Qn48.2.2.2.2.2.1 ?_
  refine z_iconst dX12_readKerb_61 ?_
  refine z_icmp_ne (tgt := 109) dX12_readKerb_62 (by decide) (by decide) (by decide) (fun c62 => absurd c62 (by decide)) (fun _ => ?_)
  refine ab_sub (ls' := [(0, .ref 200)]) (ks := [1]) rfl ?_
  exact lp_mkread ht K1 K0 _ 0 0 kS0 _ rfl Qn48 (by omega) rfl
