/-! MEANS AND FEWEST, both sides -/
def mAny (r : Nat) (t : Nat → Int) : Int := Int.tdiv (sT (fun p => t p + t (r - p)) (r + 1)) ((r : Int) + 1)
def mBeh (ob : Int) (r : Nat) (t : Nat → Int) : Int := Int.tdiv (ob * t r + (100 - ob) * mAny r t) 100
def mNext (l : Nat) (ob : Int) (n : Nat) (t : Nat → Int) : Int := if n < l then 0 else 1000000 + mBeh ob (n - l) t
def mTb (l : Nat) (ob : Int) : Nat → Nat → Int
  | 0 => fun _ => 0
  | n + 1 => fun j => if j = n then mNext l ob n (mTb l ob n) else mTb l ob n j
def tB (r : Nat) (t : Nat → Int) : Prop := ∀ j, j ≤ r → 0 ≤ t j ∧ t j ≤ 1000000 * j
theorem sT_le {f : Nat → Int} {b : Int} {n : Nat} (h : ∀ i, i < n → 0 ≤ f i ∧ f i ≤ b) : 0 ≤ sT f n ∧ sT f n ≤ b * n := sT_b h
theorem mSum_b {r : Nat} {t : Nat → Int} (h : tB r t) {k : Nat} (hk : k ≤ r + 1) : 0 ≤ sT (fun p => t p + t (r - p)) k ∧ sT (fun p => t p + t (r - p)) k ≤ (1000000 * r) * k := by
  refine sT_b (fun i hi => ?_)
  have h1 := h i (by omega)
  have h2 := h (r - i) (by omega)
  have e : ((r - i : Nat) : Int) = (r : Int) - i := by omega
  rw [e] at h2
  omega
theorem mAny_b {r : Nat} {t : Nat → Int} (h : tB r t) : 0 ≤ mAny r t ∧ mAny r t ≤ 1000000 * r := by
  have hs := mSum_b h (k := r + 1) (Nat.le_refl _)
  unfold mAny
  rw [Int.tdiv_eq_ediv_of_nonneg hs.1]
  refine ⟨Int.ediv_nonneg hs.1 (by omega), ?_⟩
  have e : ((r + 1 : Nat) : Int) = (r : Int) + 1 := by omega
  rw [e] at hs
  exact Int.le_trans (Int.ediv_le_ediv (by omega) hs.2) (by rw [Int.mul_ediv_cancel _ (by omega)]; exact Int.le_refl _)
theorem mix_b {c x y b : Int} (hc : 0 ≤ c ∧ c ≤ 100) (hx : 0 ≤ x ∧ x ≤ b) (hy : 0 ≤ y ∧ y ≤ b) : 0 ≤ c * x + (100 - c) * y ∧ c * x + (100 - c) * y ≤ 100 * b ∧ 0 ≤ c * x ∧ 0 ≤ (100 - c) * y := by
  have h1 : 0 ≤ c * x := Int.mul_nonneg hc.1 hx.1
  have h2 : 0 ≤ (100 - c) * y := Int.mul_nonneg (by omega) hy.1
  have h3 : c * x ≤ c * b := Int.mul_le_mul_of_nonneg_left hx.2 hc.1
  have h5 : (100 - c) * y ≤ (100 - c) * b := Int.mul_le_mul_of_nonneg_left hy.2 (by omega)
  have h4 : c * b + (100 - c) * b = 100 * b := by rw [← Int.add_mul]; congr 1; omega
  omega
theorem mBeh_b {ob : Int} {r : Nat} {t : Nat → Int} (ho : 0 ≤ ob ∧ ob ≤ 100) (h : tB r t) : 0 ≤ mBeh ob r t ∧ mBeh ob r t ≤ 1000000 * r := by
  have h1 := mix_b ho (h r (Nat.le_refl _)) (mAny_b h)
  unfold mBeh
  rw [Int.tdiv_eq_ediv_of_nonneg h1.1]
  omega
theorem mTb_b {l : Nat} {ob : Int} (hl : 1 ≤ l) (ho : 0 ≤ ob ∧ ob ≤ 100) : ∀ n j, j < n → 0 ≤ mTb l ob n j ∧ mTb l ob n j ≤ 1000000 * j
  | 0, j, h => absurd h (by omega)
  | n + 1, j, h => by
    show 0 ≤ (if j = n then _ else _) ∧ (if j = n then _ else _) ≤ _
    by_cases e : j = n
    · rw [if_pos e]
      unfold mNext
      by_cases q : n < l
      · rw [if_pos q]; omega
      · rw [if_neg q]
        have := mBeh_b (r := n - l) ho (fun j hj => mTb_b hl ho n j (by omega))
        have e2 : ((n - l : Nat) : Int) = (n : Int) - l := by omega
        rw [e2] at this
        omega
    · rw [if_neg e]; exact mTb_b hl ho n j (by omega)
theorem mTb_n (l : Nat) (ob : Int) (n : Nat) : mTb l ob (n + 1) n = mNext l ob n (mTb l ob n) := if_pos rfl
theorem mTb_o {l : Nat} {ob : Int} {n j : Nat} (h : j ≠ n) : mTb l ob (n + 1) j = mTb l ob n j := if_neg h
theorem mBeh_congr {ob : Int} {r : Nat} {t t' : Nat → Int} (h : ∀ j, j ≤ r → t j = t' j) : mBeh ob r t = mBeh ob r t' := by
  unfold mBeh mAny
  rw [h r (Nat.le_refl _), sT_congr (f := fun p => t p + t (r - p)) (f' := fun p => t' p + t' (r - p)) (fun i hi => by rw [h i (by omega), h (r - i) (by omega)])]
theorem lp_meanBehind {d : Nat} {Q : ab_Q} {h0 : ab_H} {r : Nat} {ob : Int} {t : Nat → Int} (hr : r ≤ 20) (ho : 0 ≤ ob ∧ ob ≤ 100) (hT : ∀ j, j ≤ r → wv h0 171 j = t j) (hB : tB r t) (K : Q (some (.long (lL (mBeh ob r t)))) h0) : ∀ (nn : Nat) (p : Nat) (a : Int) (h : ab_H), r + 1 - p = nn → (h = h0) → (p ≤ r + 1) → (a = sT (fun p => t p + t (r - p)) p) → ab_X d mX5_meanBehind 11 [(0, .ref 170), (1, .int (iI (r : Int))), (2, .int (iI ob)), (3, .long (lL a)), (5, .int (iI (p : Int)))] [] h Q := by
  intro nn
  induction nn using Nat.strongRecOn with
  | ind nn ih =>
  intro p a h hnn hh h2 ha
  subst hh
  have hsb := mSum_b hB (k := p) h2
  rw [← ha] at hsb
  have h20 : (1000000 * (r : Int)) * p ≤ 20000000 * 21 := Int.le_trans (Int.mul_le_mul_of_nonneg_right (by omega) (by omega)) (Int.mul_le_mul_of_nonneg_left (by omega) (by decide))
  have hab := mAny_b hB
  have hmx := mix_b ho (hB r (Nat.le_refl _)) hab
  have hrr := hB r (Nat.le_refl _)
  refine ab_iload (k := 4) dX5_meanBehind_11 rfl ?_
  refine ab_iload_n (k := 1) dX5_meanBehind_13 rfl rfl ?_
  refine z_icmp_gt (tgt := 43) dX5_meanBehind_14 (by decide) (by omega) (by omega) (fun c14 => ?_) (fun c14 => ?_)
  · skip
    refine ab_lload_n (k := 3) dX5_meanBehind_43 rfl rfl ?_
    refine ab_iload_n (k := 1) dX5_meanBehind_44 rfl rfl ?_
    refine z_iconst dX5_meanBehind_45 ?_
    refine z_iadd dX5_meanBehind_46 ?_
    refine z_i2l dX5_meanBehind_47 (by omega) ?_
    refine z_ldiv dX5_meanBehind_48 (by omega) (by omega) (by omega) ?_
    refine z_isl (y := mAny r t) (by rw [ha, show p = r + 1 by omega]; rfl) ?_
    refine ab_lstore (ls' := [(5, .long (lL (mAny r t))), (0, .ref 170), (1, .int (iI (r : Int))), (2, .int (iI ob)), (3, .long (lL a))]) dX5_meanBehind_49 (by decide) rfl ?_
    refine ab_iload_n (k := 3) dX5_meanBehind_51 rfl rfl ?_
    refine z_i2l dX5_meanBehind_52 (by omega) ?_
    refine ab_aload_n (k := 1) dX5_meanBehind_53 rfl rfl ?_
    refine z_getP (b := 171) dX5_meanBehind_54 fX5_9 rfl rfl rfl ?_
    refine ab_iload_n (k := 2) dX5_meanBehind_57 rfl rfl ?_
    refine z_lald dX5_meanBehind_58 rfl (by omega) (by omega) ?_
    simp only [Int.toNat_natCast]
    refine z_isl (y := t r) (hT r (Nat.le_refl _)) ?_
    refine z_lmul dX5_meanBehind_59 ?_
    refine z_bipush dX5_meanBehind_60 (by decide) ?_
    refine ab_iload_n (k := 3) dX5_meanBehind_62 rfl rfl ?_
    refine z_isub dX5_meanBehind_63 ?_
    refine z_i2l dX5_meanBehind_64 (by omega) ?_
    refine ab_lload (k := 0) dX5_meanBehind_65 rfl ?_
    refine z_lmul dX5_meanBehind_67 ?_
    refine z_ladd dX5_meanBehind_68 ?_
    refine z_ldc2 (v := 100) dX5_meanBehind_69 qX5_36 (by decide) ?_
    refine z_ldiv dX5_meanBehind_72 (by omega) (by omega) (by omega) ?_
    refine z_isl (y := mBeh ob r t) rfl ?_
    refine z_lret dX5_meanBehind_73 rfl ?_
    exact K
  · skip
    refine ab_lload_n (k := 3) dX5_meanBehind_17 rfl rfl ?_
    refine ab_aload_n (k := 0) dX5_meanBehind_18 rfl rfl ?_
    refine z_getP (b := 171) dX5_meanBehind_19 fX5_9 rfl rfl rfl ?_
    refine ab_iload (k := 4) dX5_meanBehind_22 rfl ?_
    refine z_lald dX5_meanBehind_24 rfl (by omega) (by omega) ?_
    simp only [Int.toNat_natCast]
    refine z_isl (y := t p) (hT p (by omega)) ?_
    refine ab_aload_n (k := 0) dX5_meanBehind_25 rfl rfl ?_
    refine z_getP (b := 171) dX5_meanBehind_26 fX5_9 rfl rfl rfl ?_
    refine ab_iload_n (k := 1) dX5_meanBehind_29 rfl rfl ?_
    refine ab_iload (k := 4) dX5_meanBehind_30 rfl ?_
    refine z_isub dX5_meanBehind_32 ?_
    refine z_is (y := ((r - p : Nat) : Int)) (by omega) ?_
    refine z_lald dX5_meanBehind_33 rfl (by omega) (by omega) ?_
    simp only [Int.toNat_natCast]
    refine z_isl (y := t (r - p)) (hT (r - p) (by omega)) ?_
    refine z_ladd dX5_meanBehind_34 ?_
    refine z_ladd dX5_meanBehind_35 ?_
    refine ab_lstore_n (ls' := [(3, .long (lL (a + ((t p) + (t (r - p)))))), (0, .ref 170), (1, .int (iI (r : Int))), (2, .int (iI ob)), (5, .int (iI (p : Int)))]) dX5_meanBehind_36 rfl (by decide) rfl ?_
    refine z_iinc (k := 4) (v := (p : Int) + 1) (ls' := [(5, .int (iI ((p : Int) + 1))), (3, .long (lL (a + ((t p) + (t (r - p)))))), (0, .ref 170), (1, .int (iI (r : Int))), (2, .int (iI ob))]) dX5_meanBehind_37 rfl rfl (by decide) rfl ?_
    refine ab_goto (tgt := 11) dX5_meanBehind_40 (by decide) ?_
    refine ab_sub (ls' := [(0, .ref 170), (1, .int (iI (r : Int))), (2, .int (iI ob)), (3, .long (lL (a + ((t p) + (t (r - p)))))), (5, .int (iI ((p : Int) + 1)))]) (ks := [2, 3, 4, 1, 0]) rfl ?_
    exact ih _ (by omega) (p + 1) _ h rfl rfl (by omega) (by rw [ha, sT_s])
theorem c_meanBehind {d : Nat} {h : ab_H} {Q : ab_Q} {r : Nat} {ob : Int} {t : Nat → Int} (hr : r ≤ 20) (ho : 0 ≤ ob ∧ ob ≤ 100) (hT : ∀ j, j ≤ r → wv h 171 j = t j) (hB : tB r t) (K : Q (some (.long (lL (mBeh ob r t)))) h) : ab_X d mX5_meanBehind 0 (lv_args 0 [.ref 170, .int (iI (r : Int)), .int (iI ob)]) [] h Q := by
  show ab_X d mX5_meanBehind 0 [(0, .ref 170), (1, .int (iI (r : Int))), (2, .int (iI ob))] [] h Q
  refine ab_iload_n (k := 1) dX5_meanBehind_0 rfl rfl ?_
  refine z_if_ge (tgt := 6) dX5_meanBehind_1 (by decide) (by omega) (fun c1 => ?_) (fun c1 => ?_)
  · skip
    refine z_lconst (v := 0) dX5_meanBehind_6 (by decide) ?_
    refine ab_lstore_n (ls' := [(3, .long (lL 0)), (0, .ref 170), (1, .int (iI (r : Int))), (2, .int (iI ob))]) dX5_meanBehind_7 rfl (by decide) rfl ?_
    refine z_iconst dX5_meanBehind_8 ?_
    refine ab_istore (ls' := [(5, .int (iI 0)), (3, .long (lL 0)), (0, .ref 170), (1, .int (iI (r : Int))), (2, .int (iI ob))]) dX5_meanBehind_9 (by decide) rfl ?_
    refine ab_sub (ls' := [(0, .ref 170), (1, .int (iI (r : Int))), (2, .int (iI ob)), (3, .long (lL 0)), (5, .int (iI 0))]) (ks := [2, 3, 4, 1, 0]) rfl ?_
    exact lp_meanBehind hr ho hT hB K _ 0 0 h rfl rfl (by omega) rfl
  · skip
    refine z_lconst (v := 0) dX5_meanBehind_4 (by decide) ?_
    refine z_lret dX5_meanBehind_5 rfl ?_
    exact absurd c1 (by omega)
def wmI (h0 h : ab_H) (a l : Nat) (ob : Int) (n : Nat) : Prop := sm [a] h0 h ∧ ∀ j, j < n → wv h a j = mTb l ob n j
theorem wmI_step {h0 h : ab_H} {a l n : Nat} {ob x : Int} (hl : 1 ≤ l) (ho : 0 ≤ ob ∧ ob ≤ 100) (hn : n ≤ 20) (hI : wmI h0 h a l ob n) (hx : x = mNext l ob n (mTb l ob n)) : wmI h0 (wp h a n x) a l ob (n + 1) := by
  refine ⟨hI.1.trans (sm_wp (by simp)), fun j hj => ?_⟩
  have hb := mTb_b hl ho (n + 1) n (by omega)
  rw [mTb_n, ← hx] at hb
  rw [wv_wp (by omega)]
  by_cases e : j = n
  · rw [if_pos ⟨rfl, e⟩, e, mTb_n, hx]
  · rw [if_neg (fun q => e q.2), mTb_o e]; exact hI.2 j (by omega)
theorem lp_weighMeans {d : Nat} {Q : ab_Q} {h0 : ab_H} {l : Nat} {ob : Int} (hl : 1 ≤ l) (hl2 : l ≤ 9) (ho : 0 ≤ ob ∧ ob ≤ 100) (K : ∀ h', wmI h0 h' 171 l ob 21 → Q none h') : ∀ (nn : Nat) (n : Nat) (h : ab_H), 21 - n = nn → (n ≤ 21) → (wmI h0 h 171 l ob n) → ab_X (d + 1) mX5_weighMeans 2 [(0, .ref 170), (1, .int (iI (l : Int))), (2, .int (iI ob)), (3, .int (iI (n : Int)))] [] h Q := by
  intro nn
  induction nn using Nat.strongRecOn with
  | ind nn ih =>
  intro n h hnn h2 hI
  refine ab_iload_n (k := 3) dX5_weighMeans_2 rfl rfl ?_
  refine z_bipush dX5_weighMeans_3 (by decide) ?_
  refine z_icmp_gt (tgt := 41) dX5_weighMeans_5 (by decide) (by omega) (by decide) (fun c5 => ?_) (fun c5 => ?_)
  · skip
    refine z_vret dX5_weighMeans_41 rfl ?_
    have e : n = 21 := by omega
    subst e
    exact K h hI
  · skip
    refine ab_aload_n (k := 0) dX5_weighMeans_8 rfl rfl ?_
    refine z_getP (b := 171) dX5_weighMeans_9 fX5_9 rfl rfl rfl ?_
    refine ab_iload_n (k := 3) dX5_weighMeans_12 rfl rfl ?_
    refine ab_iload_n (k := 3) dX5_weighMeans_13 rfl rfl ?_
    refine ab_iload_n (k := 1) dX5_weighMeans_14 rfl rfl ?_
    refine z_icmp_ge (tgt := 22) dX5_weighMeans_15 (by decide) (by omega) (by omega) (fun c15 => ?_) (fun c15 => ?_)
    · skip
      refine z_ldc2 (v := 1000000) dX5_weighMeans_22 qX5_30 (by decide) ?_
      refine ab_aload_n (k := 0) dX5_weighMeans_25 rfl rfl ?_
      refine ab_iload_n (k := 3) dX5_weighMeans_26 rfl rfl ?_
      refine ab_iload_n (k := 1) dX5_weighMeans_27 rfl rfl ?_
      refine z_isub dX5_weighMeans_28 ?_
      refine z_is (y := ((n - l : Nat) : Int)) (by omega) ?_
      refine ab_iload_n (k := 2) dX5_weighMeans_29 rfl rfl ?_
      refine ab_callV (As := [.int (iI ((n - l : Nat) : Int)), .int (iI ob)]) (rest := [.long (lL 1000000), .int (iI (n : Int)), .ref 171]) dX5_weighMeans_30 lX5_32 rfl (Nat.le_of_ble_eq_true rfl) (Nat.le_of_ble_eq_true rfl) rfl ?_
      refine c_meanBehind (r := n - l) (t := mTb l ob n) (by omega) ho (fun j hj => hI.2 j (by omega)) (fun j hj => mTb_b hl ho n j (by omega)) ?_
      have bm := mBeh_b (r := n - l) (t := mTb l ob n) ho (fun j hj => mTb_b hl ho n j (by omega))
      show ab_X (d + 1) mX5_weighMeans 33 [(0, .ref 170), (1, .int (iI (l : Int))), (2, .int (iI ob)), (3, .int (iI (n : Int)))] [.long (lL (mBeh ob (n - l) (mTb l ob n))), .long (lL 1000000), .int (iI (n : Int)), .ref 171] h _
      refine z_ladd dX5_weighMeans_33 ?_
      refine z_last dX5_weighMeans_34 rfl (by omega) (by omega) ?_
      simp only [Int.toNat_natCast]
      refine z_iinc (k := 3) (v := (n : Int) + 1) (ls' := [(3, .int (iI ((n : Int) + 1))), (0, .ref 170), (1, .int (iI (l : Int))), (2, .int (iI ob))]) dX5_weighMeans_35 rfl rfl (by decide) rfl ?_
      refine ab_goto (tgt := 2) dX5_weighMeans_38 (by decide) ?_
      refine ab_sub (ls' := [(0, .ref 170), (1, .int (iI (l : Int))), (2, .int (iI ob)), (3, .int (iI ((n : Int) + 1)))]) (ks := [1, 2, 3, 0]) rfl ?_
      first | exact ih _ (by omega) (n + 1) _ rfl (by omega) (wmI_step hl ho (by omega) hI (by unfold mNext; rw [if_neg (by omega)])) | exact ih _ (by omega) (n + 1) _ rfl (by omega) (wmI_step hl ho (by omega) hI (by unfold mNext; rw [if_pos (by omega)]))
    · skip
      refine z_lconst (v := 0) dX5_weighMeans_18 (by decide) ?_
      refine ab_goto (tgt := 34) dX5_weighMeans_19 (by decide) ?_
      refine z_last dX5_weighMeans_34 rfl (by omega) (by omega) ?_
      simp only [Int.toNat_natCast]
      refine z_iinc (k := 3) (v := (n : Int) + 1) (ls' := [(3, .int (iI ((n : Int) + 1))), (0, .ref 170), (1, .int (iI (l : Int))), (2, .int (iI ob))]) dX5_weighMeans_35 rfl rfl (by decide) rfl ?_
      refine ab_goto (tgt := 2) dX5_weighMeans_38 (by decide) ?_
      refine ab_sub (ls' := [(0, .ref 170), (1, .int (iI (l : Int))), (2, .int (iI ob)), (3, .int (iI ((n : Int) + 1)))]) (ks := [1, 2, 3, 0]) rfl ?_
      first | exact ih _ (by omega) (n + 1) _ rfl (by omega) (wmI_step hl ho (by omega) hI (by unfold mNext; rw [if_neg (by omega)])) | exact ih _ (by omega) (n + 1) _ rfl (by omega) (wmI_step hl ho (by omega) hI (by unfold mNext; rw [if_pos (by omega)]))
theorem c_weighMeans {d : Nat} {h : ab_H} {Q : ab_Q} {l : Nat} {ob : Int} (hl : 1 ≤ l) (hl2 : l ≤ 9) (ho : 0 ≤ ob ∧ ob ≤ 100) (K : ∀ h', wmI h h' 171 l ob 21 → Q none h') : ab_X (d + 1) mX5_weighMeans 0 (lv_args 0 [.ref 170, .int (iI (l : Int)), .int (iI ob)]) [] h Q := by
  show ab_X (d + 1) mX5_weighMeans 0 [(0, .ref 170), (1, .int (iI (l : Int))), (2, .int (iI ob))] [] h Q
  refine z_iconst dX5_weighMeans_0 ?_
  refine ab_istore_n (ls' := [(3, .int (iI 0)), (0, .ref 170), (1, .int (iI (l : Int))), (2, .int (iI ob))]) dX5_weighMeans_1 rfl (by decide) rfl ?_
  refine ab_sub (ls' := [(0, .ref 170), (1, .int (iI (l : Int))), (2, .int (iI ob)), (3, .int (iI 0))]) (ks := [1, 2, 3, 0]) rfl ?_
  exact lp_weighMeans hl hl2 ho K _ 0 h rfl (by omega) ⟨sm.refl, fun j hj => by omega⟩
theorem lp_meanOf {d : Nat} {Q : ab_Q} {h0 : ab_H} {g : Nat} {t : Nat → Int} (hg : gOK h0 g) (hT : ∀ j, j ≤ 20 → wv h0 171 j = t j) (K : Q (some (.long (lL (sT (fun i => t (zv h0 169 i).toNat) g)))) h0) : ∀ (nn : Nat) (i : Nat) (a : Int) (h : ab_H), g - i = nn → (h = h0) → (i ≤ g) → (a = sT (fun i => t (zv h0 169 i).toNat) i) → ab_X (d + 1) mX5_meanOf 5 [(0, .ref 170), (1, .ref 167), (2, .long (lL a)), (4, .int (iI (i : Int)))] [] h Q := by
  intro nn
  induction nn using Nat.strongRecOn with
  | ind nn ih =>
  intro i a h hnn hh h2 ha
  subst hh
  have hg1 := hg.1
  have hg2 := hg.2.1
  refine ab_iload (k := 3) dX5_meanOf_5 rfl ?_
  refine ab_aload_n (k := 1) dX5_meanOf_7 rfl rfl ?_
  refine z_getI dX5_meanOf_8 fX5_38 rfl (Or.inl rfl) ?_
  refine z_is (y := (g : Int)) hg1 ?_
  refine z_icmp_ge (tgt := 34) dX5_meanOf_11 (by decide) (by omega) (by omega) (fun c11 => ?_) (fun c11 => ?_)
  · skip
    refine ab_lload_n (k := 2) dX5_meanOf_34 rfl rfl ?_
    refine z_lret dX5_meanOf_35 rfl ?_
    have e : i = g := by omega
    subst e
    rw [ha]
    exact K
  · skip
    refine ab_lload_n (k := 2) dX5_meanOf_14 rfl rfl ?_
    refine ab_aload_n (k := 0) dX5_meanOf_15 rfl rfl ?_
    refine z_getP (b := 171) dX5_meanOf_16 fX5_9 rfl rfl rfl ?_
    refine ab_aload_n (k := 1) dX5_meanOf_19 rfl rfl ?_
    refine ab_iload (k := 3) dX5_meanOf_20 rfl ?_
    refine ab_callV (As := [.int (iI (i : Int))]) (rest := [.ref 171, .long (lL a)]) dX5_meanOf_22 lX5_44 rfl (Nat.le_of_ble_eq_true rfl) (Nat.le_of_ble_eq_true rfl) rfl ?_
    refine c_sizeOf (by omega) hg (fun _ => ?_) (fun q => absurd (show _ from ⟨by omega, by omega⟩) q)
    have hz := hg.2.2 i (by omega)
    show ab_X (d + 1) mX5_meanOf 25 [(0, .ref 170), (1, .ref 167), (2, .long (lL a)), (4, .int (iI (i : Int)))] [.int (iI (zv h 169 i)), .ref 171, .long (lL a)] h _
    refine z_lald dX5_meanOf_25 rfl (by omega) (by omega) ?_
    refine z_isl (y := t (zv h 169 i).toNat) (hT _ (by omega)) ?_
    refine z_ladd dX5_meanOf_26 ?_
    refine ab_lstore_n (ls' := [(2, .long (lL (a + (t (zv h 169 i).toNat)))), (0, .ref 170), (1, .ref 167), (4, .int (iI (i : Int)))]) dX5_meanOf_27 rfl (by decide) rfl ?_
    refine z_iinc (k := 3) (v := (i : Int) + 1) (ls' := [(4, .int (iI ((i : Int) + 1))), (2, .long (lL (a + (t (zv h 169 i).toNat)))), (0, .ref 170), (1, .ref 167)]) dX5_meanOf_28 rfl rfl (by decide) rfl ?_
    refine ab_goto (tgt := 5) dX5_meanOf_31 (by decide) ?_
    refine ab_sub (ls' := [(0, .ref 170), (1, .ref 167), (2, .long (lL (a + (t (zv h 169 i).toNat)))), (4, .int (iI ((i : Int) + 1)))]) (ks := [2, 3, 1, 0]) rfl ?_
    exact ih _ (by omega) (i + 1) _ h rfl rfl (by omega) (by rw [ha, sT_s])
theorem c_meanOf {d : Nat} {h : ab_H} {Q : ab_Q} {g : Nat} {t : Nat → Int} (hg : gOK h g) (hT : ∀ j, j ≤ 20 → wv h 171 j = t j) (K : Q (some (.long (lL (sT (fun i => t (zv h 169 i).toNat) g)))) h) : ab_X (d + 1) mX5_meanOf 0 (lv_args 0 [.ref 170, .ref 167]) [] h Q := by
  show ab_X (d + 1) mX5_meanOf 0 [(0, .ref 170), (1, .ref 167)] [] h Q
  refine z_lconst (v := 0) dX5_meanOf_0 (by decide) ?_
  refine ab_lstore_n (ls' := [(2, .long (lL 0)), (0, .ref 170), (1, .ref 167)]) dX5_meanOf_1 rfl (by decide) rfl ?_
  refine z_iconst dX5_meanOf_2 ?_
  refine ab_istore (ls' := [(4, .int (iI 0)), (2, .long (lL 0)), (0, .ref 170), (1, .ref 167)]) dX5_meanOf_3 (by decide) rfl ?_
  refine ab_sub (ls' := [(0, .ref 170), (1, .ref 167), (2, .long (lL 0)), (4, .int (iI 0))]) (ks := [2, 3, 1, 0]) rfl ?_
  exact lp_meanOf hg hT K _ 0 0 h rfl rfl (by omega) rfl
