/-! THE ABSTRACT RUN IN WHOLE NUMBERS -/
def iI (z : Int) : Int32 := Int32.ofInt z
def lL (z : Int) : Int64 := Int64.ofInt z
abbrev inR (z : Int) : Prop := -2147483648 ≤ z ∧ z ≤ 2147483647
abbrev inL (z : Int) : Prop := -9223372036854775808 ≤ z ∧ z ≤ 9223372036854775807
theorem iI_toInt {z : Int} (h : inR z) : (iI z).toInt = z := Int32.toInt_ofInt_of_le (by have := h.1; omega) (by have := h.2; omega)
theorem lL_toInt {z : Int} (h : inL z) : (lL z).toInt = z := Int64.toInt_ofInt_of_le (by have := h.1; omega) (by have := h.2; omega)
theorem iI_of (x : Int32) : iI x.toInt = x := Int32.ofInt_toInt x
theorem lL_of (x : Int64) : lL x.toInt = x := Int64.ofInt_toInt x
theorem inR_of (x : Int32) : inR x.toInt := ⟨by have := x.le_toInt; omega, by have := x.toInt_lt; omega⟩
theorem inL_of (x : Int64) : inL x.toInt := ⟨by have := x.le_toInt; omega, by have := x.toInt_lt; omega⟩
theorem iI_lt {a b : Int} (ha : inR a) (hb : inR b) : iI a < iI b ↔ a < b := by rw [Int32.lt_iff_toInt_lt, iI_toInt ha, iI_toInt hb]
theorem iI_le {a b : Int} (ha : inR a) (hb : inR b) : iI a ≤ iI b ↔ a ≤ b := by rw [Int32.le_iff_toInt_le, iI_toInt ha, iI_toInt hb]
theorem iI_eq {a b : Int} (ha : inR a) (hb : inR b) : iI a = iI b ↔ a = b := by rw [← Int32.toInt_inj, iI_toInt ha, iI_toInt hb]
theorem lL_lt {a b : Int} (ha : inL a) (hb : inL b) : lL a < lL b ↔ a < b := by rw [Int64.lt_iff_toInt_lt, lL_toInt ha, lL_toInt hb]
theorem lL_eq {a b : Int} (ha : inL a) (hb : inL b) : lL a = lL b ↔ a = b := by rw [← Int64.toInt_inj, lL_toInt ha, lL_toInt hb]
theorem iI_add (a b : Int) : iI a + iI b = iI (a + b) := (Int32.ofInt_add a b).symm
theorem iI_sub (a b : Int) : iI a - iI b = iI (a - b) := (Int32.ofInt_sub a b).symm
theorem iI_mul (a b : Int) : iI a * iI b = iI (a * b) := (Int32.ofInt_mul a b).symm
theorem iI_neg (a : Int) : -iI a = iI (-a) := (Int32.ofInt_neg a).symm
theorem lL_add (a b : Int) : lL a + lL b = lL (a + b) := (Int64.ofInt_add a b).symm
theorem lL_sub (a b : Int) : lL a - lL b = lL (a - b) := (Int64.ofInt_sub a b).symm
theorem lL_mul (a b : Int) : lL a * lL b = lL (a * b) := (Int64.ofInt_mul a b).symm
theorem iI_div {a b : Int} (ha : inR a) (hb : inR b) : iI a / iI b = iI (a.tdiv b) := (Int32.ofInt_tdiv (by have := ha.1; simp only [Int32.toInt_minValue]; omega) (by have := ha.2; simp only [Int32.toInt_maxValue]; omega) (by have := hb.1; simp only [Int32.toInt_minValue]; omega) (by have := hb.2; simp only [Int32.toInt_maxValue]; omega)).symm
theorem lL_div {a b : Int} (ha : inL a) (hb : inL b) : lL a / lL b = lL (a.tdiv b) := (Int64.ofInt_tdiv (by have := ha.1; simp only [Int64.toInt_minValue]; omega) (by have := ha.2; simp only [Int64.toInt_maxValue]; omega) (by have := hb.1; simp only [Int64.toInt_minValue]; omega) (by have := hb.2; simp only [Int64.toInt_maxValue]; omega)).symm
theorem iI_rem {a b : Int} (ha : inR a) (hb : inR b) : iI a - iI a / iI b * iI b = iI (a.tmod b) := by rw [iI_div ha hb, iI_mul, iI_sub, Int.tmod_def, Int.mul_comm]
theorem lL_rem {a b : Int} (ha : inL a) (hb : inL b) : lL a - lL a / lL b * lL b = lL (a.tmod b) := by rw [lL_div ha hb, lL_mul, lL_sub, Int.tmod_def, Int.mul_comm]
theorem iI_l {a : Int} (ha : inR a) : (iI a).toInt64 = lL a := by
  apply Int64.toInt.inj
  rw [Int32.toInt_toInt64, iI_toInt ha, lL_toInt ⟨by have := ha.1; omega, by have := ha.2; omega⟩]
theorem lL_i (a : Int) : (lL a).toInt32 = iI a := Int64.toInt32_ofInt
theorem iI_clamp {a : Int} (ha : inR a) : (iI a).toNatClampNeg = a.toNat := by show (iI a).toInt.toNat = _; rw [iI_toInt ha]
theorem iI_in {j : Int} {n : Nat} (h0 : 0 ≤ j) (h1 : j < n) (hn : n < 5000) : vp_in (iI j) n := by
  rw [vp_in_iff, iI_toInt ⟨by omega, by omega⟩]; exact ⟨h0, h1⟩
theorem iI_nat (n : Nat) : Int32.ofNat n = iI n := (Int32.ofInt_eq_ofNat).symm
theorem ab_kd_small (a : Nat) : (ab_kd a).2 < 5000 := by
  unfold ab_kd
  rw [List.getD_eq_getElem?_getD]
  cases h : ab_kinds[a]? with
  | none => decide
  | some q =>
    have h1 : ab_kinds.all (fun q => decide (q.2 < 5000)) = true := by decide +kernel
    have h2 := List.all_eq_true.mp h1 q (List.mem_of_getElem? h)
    exact of_decide_eq_true h2
theorem ab_kd_n {a c n : Nat} (h : ab_kd a = (c, n)) : n < 5000 := by have := ab_kd_small a; rw [h] at this; exact this
/-- the heap's numbers -/
def zv (h : ab_H) (a k : Nat) : Int := (h.1 a k).toInt
def wv (h : ab_H) (a k : Nat) : Int := (h.2.1 a k).toInt
def zp (h : ab_H) (a k : Nat) (z : Int) : ab_H := ab_pi h a k (iI z)
def wp (h : ab_H) (a k : Nat) (z : Int) : ab_H := ab_pl h a k (lL z)
theorem zv_R (h : ab_H) (a k : Nat) : inR (zv h a k) := inR_of _
theorem wv_L (h : ab_H) (a k : Nat) : inL (wv h a k) := inL_of _
theorem zv_zp {h : ab_H} {a k : Nat} {z : Int} (hz : inR z) (b j : Nat) : zv (zp h a k z) b j = if b = a ∧ j = k then z else zv h b j := by
  show (ab_up h.1 a k (iI z) b j).toInt = _
  unfold ab_up
  by_cases e : b = a
  · by_cases f : j = k
    · rw [if_pos e, if_pos f, if_pos ⟨e, f⟩, iI_toInt hz]
    · rw [if_pos e, if_neg f, if_neg (fun q => f q.2)]; rfl
  · rw [if_neg e, if_neg (fun q => e q.1)]; rfl
theorem zv_zp_ne {h : ab_H} {a k : Nat} {z : Int} {b j : Nat} (hn : ¬ (b = a ∧ j = k)) : zv (zp h a k z) b j = zv h b j := by
  show (ab_up h.1 a k (iI z) b j).toInt = _
  unfold ab_up
  by_cases e : b = a
  · rw [if_pos e, if_neg (fun q => hn ⟨e, q⟩)]; rfl
  · rw [if_neg e]; rfl
theorem zv_zp_a {h : ab_H} {a k : Nat} {z : Int} {b j : Nat} (hn : b ≠ a) : zv (zp h a k z) b j = zv h b j := zv_zp_ne (fun q => hn q.1)
theorem zv_zp_s {h : ab_H} {a k : Nat} {z : Int} (hz : inR z) : zv (zp h a k z) a k = z := by rw [zv_zp hz, if_pos ⟨rfl, rfl⟩]
theorem wv_zp (h : ab_H) (a k : Nat) (z : Int) (b j : Nat) : wv (zp h a k z) b j = wv h b j := rfl
theorem zv_wp (h : ab_H) (a k : Nat) (z : Int) (b j : Nat) : zv (wp h a k z) b j = zv h b j := rfl
theorem wv_wp {h : ab_H} {a k : Nat} {z : Int} (hz : inL z) (b j : Nat) : wv (wp h a k z) b j = if b = a ∧ j = k then z else wv h b j := by
  show (ab_up h.2.1 a k (lL z) b j).toInt = _
  unfold ab_up
  by_cases e : b = a
  · by_cases f : j = k
    · rw [if_pos e, if_pos f, if_pos ⟨e, f⟩, lL_toInt hz]
    · rw [if_pos e, if_neg f, if_neg (fun q => f q.2)]; rfl
  · rw [if_neg e, if_neg (fun q => e q.1)]; rfl
theorem wv_wp_ne {h : ab_H} {a k : Nat} {z : Int} {b j : Nat} (hn : ¬ (b = a ∧ j = k)) : wv (wp h a k z) b j = wv h b j := by
  show (ab_up h.2.1 a k (lL z) b j).toInt = _
  unfold ab_up
  by_cases e : b = a
  · rw [if_pos e, if_neg (fun q => hn ⟨e, q⟩)]; rfl
  · rw [if_neg e]; rfl
theorem zp_t (h : ab_H) (a k : Nat) (z : Int) : (zp h a k z).2.2 = h.2.2 := rfl
theorem wp_t (h : ab_H) (a k : Nat) (z : Int) : (wp h a k z).2.2 = h.2.2 := rfl
def zc (h : ab_H) (a b n : Nat) : ab_H := (ab_cp h.1 a b 0 0 n, h.2.1, h.2.2)
def wc (h : ab_H) (a b n : Nat) : ab_H := (h.1, ab_cp h.2.1 a b 0 0 n, h.2.2)
theorem zv_zc (h : ab_H) (a b n c j : Nat) : zv (zc h a b n) c j = if c = b then (if j < n then zv h a j else zv h b j) else zv h c j := by
  show (ab_cp h.1 a b 0 0 n c j).toInt = _
  unfold ab_cp
  by_cases e : c = b
  · rw [if_pos e, if_pos e]; by_cases f : j < n
    · rw [if_pos ⟨Nat.zero_le j, by omega⟩, if_pos f, Nat.zero_add, Nat.sub_zero]; rfl
    · rw [if_neg (by omega), if_neg f]; rfl
  · rw [if_neg e, if_neg e]; rfl
theorem zv_zc_a {h : ab_H} {a b n c j : Nat} (hn : c ≠ b) : zv (zc h a b n) c j = zv h c j := by rw [zv_zc, if_neg hn]
theorem wv_wc (h : ab_H) (a b n c j : Nat) : wv (wc h a b n) c j = if c = b then (if j < n then wv h a j else wv h b j) else wv h c j := by
  show (ab_cp h.2.1 a b 0 0 n c j).toInt = _
  unfold ab_cp
  by_cases e : c = b
  · rw [if_pos e, if_pos e]; by_cases f : j < n
    · rw [if_pos ⟨Nat.zero_le j, by omega⟩, if_pos f, Nat.zero_add, Nat.sub_zero]; rfl
    · rw [if_neg (by omega), if_neg f]; rfl
  · rw [if_neg e, if_neg e]; rfl
theorem wv_wp_a {h : ab_H} {a k : Nat} {z : Int} {b j : Nat} (hn : b ≠ a) : wv (wp h a k z) b j = wv h b j := wv_wp_ne (fun q => hn q.1)
theorem wv_wp_s {h : ab_H} {a k : Nat} {z : Int} (hz : inL z) : wv (wp h a k z) a k = z := by rw [wv_wp hz, if_pos ⟨rfl, rfl⟩]
section ZR
variable {d : Nat} {M : ab_M} {pc : Nat} {ls : ab_L} {st : List Value} {h : ab_H} {Q : ab_Q}
theorem z_top {x : Int32} (k : ab_X d M pc ls (.int (iI x.toInt) :: st) h Q) : ab_X d M pc ls (.int x :: st) h Q := by rw [iI_of] at k; exact k
theorem z_topl {x : Int64} (k : ab_X d M pc ls (.long (lL x.toInt) :: st) h Q) : ab_X d M pc ls (.long x :: st) h Q := by rw [lL_of] at k; exact k
theorem z_is {x y : Int} (e : x = y) (k : ab_X d M pc ls (.int (iI y) :: st) h Q) : ab_X d M pc ls (.int (iI x) :: st) h Q := by rw [e]; exact k
theorem z_isl {x y : Int} (e : x = y) (k : ab_X d M pc ls (.long (lL y) :: st) h Q) : ab_X d M pc ls (.long (lL x) :: st) h Q := by rw [e]; exact k
theorem z_h {h' : ab_H} (e : h = h') (k : ab_X d M pc ls st h' Q) : ab_X d M pc ls st h Q := by rw [e]; exact k
theorem z_iconst {n : Int} (hd : decode M.2.1 pc = .ok (.iconst n, 1)) (k : ab_X d M (pc + 1) ls (.int (iI n) :: st) h Q) : ab_X d M pc ls st h Q := ab_iconst hd rfl k
theorem z_bipush {n : Int} (hd : decode M.2.1 pc = .ok (.bipush n, 2)) (hv : (Int8.ofInt n).toInt32 = iI n) (k : ab_X d M (pc + 2) ls (.int (iI n) :: st) h Q) : ab_X d M pc ls st h Q := ab_bipush hd hv k
theorem z_sipush {n : Int} (hd : decode M.2.1 pc = .ok (.sipush n, 3)) (hv : (Int16.ofInt n).toInt32 = iI n) (k : ab_X d M (pc + 3) ls (.int (iI n) :: st) h Q) : ab_X d M pc ls st h Q := ab_sipush hd hv k
theorem z_lconst {n : Fin 2} (hd : decode M.2.1 pc = .ok (.lconst n, 1)) {v : Int} (hv : Int64.ofNat (n : Nat) = lL v) (k : ab_X d M (pc + 1) ls (.long (lL v) :: st) h Q) : ab_X d M pc ls st h Q := ab_lconst hd hv k
theorem z_ldcw {n : Nat} {v : Int} {w : Int32} (hd : decode M.2.1 pc = .ok (.ldc_w n, 3)) (hv : Cond.constant M.1.cls n w ∈ ab_T) (hw : w = iI v) (k : ab_X d M (pc + 3) ls (.int (iI v) :: st) h Q) : ab_X d M pc ls st h Q := by subst hw; exact ab_ldcw hd hv k
theorem z_ldc2 {n : Nat} {v : Int} {w : Int64} (hd : decode M.2.1 pc = .ok (.ldc2_w n, 3)) (hv : Cond.constantLong M.1.cls n w ∈ ab_T) (hw : w = lL v) (k : ab_X d M (pc + 3) ls (.long (lL v) :: st) h Q) : ab_X d M pc ls st h Q := by subst hw; exact ab_ldc2 hd hv k
theorem z_iinc {i k : Nat} {n x v : Int} {ls' : ab_L} (hd : decode M.2.1 pc = .ok (.iinc i n, 3)) (hk : ls[k]? = some (i, .int (iI x))) (hv : x + n = v) (hn : i < M.2.2.1) (hl : ab_st1 i (.int (iI v)) ls = ls') (kk : ab_X d M (pc + 3) ls' st h Q) : ab_X d M pc ls st h Q := ab_iinc hd hk (by rw [← hv]; exact iI_add x n) hn hl kk

theorem z_iadd {x y : Int} (hd : decode M.2.1 pc = .ok (.iadd, 1)) (k : ab_X d M (pc + 1) ls (.int (iI (x + y)) :: st) h Q) : ab_X d M pc ls (.int (iI y) :: .int (iI x) :: st) h Q := ab_iadd hd (by rw [iI_add]; exact k)
theorem z_isub {x y : Int} (hd : decode M.2.1 pc = .ok (.isub, 1)) (k : ab_X d M (pc + 1) ls (.int (iI (x - y)) :: st) h Q) : ab_X d M pc ls (.int (iI y) :: .int (iI x) :: st) h Q := ab_isub hd (by rw [iI_sub]; exact k)
theorem z_imul {x y : Int} (hd : decode M.2.1 pc = .ok (.imul, 1)) (k : ab_X d M (pc + 1) ls (.int (iI (x * y)) :: st) h Q) : ab_X d M pc ls (.int (iI y) :: .int (iI x) :: st) h Q := ab_imul hd (by rw [iI_mul]; exact k)
theorem z_ladd {x y : Int} (hd : decode M.2.1 pc = .ok (.ladd, 1)) (k : ab_X d M (pc + 1) ls (.long (lL (x + y)) :: st) h Q) : ab_X d M pc ls (.long (lL y) :: .long (lL x) :: st) h Q := ab_ladd hd (by rw [lL_add]; exact k)
theorem z_lsub {x y : Int} (hd : decode M.2.1 pc = .ok (.lsub, 1)) (k : ab_X d M (pc + 1) ls (.long (lL (x - y)) :: st) h Q) : ab_X d M pc ls (.long (lL y) :: .long (lL x) :: st) h Q := ab_lsub hd (by rw [lL_sub]; exact k)
theorem z_lmul {x y : Int} (hd : decode M.2.1 pc = .ok (.lmul, 1)) (k : ab_X d M (pc + 1) ls (.long (lL (x * y)) :: st) h Q) : ab_X d M pc ls (.long (lL y) :: .long (lL x) :: st) h Q := ab_lmul hd (by rw [lL_mul]; exact k)
theorem z_ineg {x : Int} (hd : decode M.2.1 pc = .ok (.ineg, 1)) (k : ab_X d M (pc + 1) ls (.int (iI (-x)) :: st) h Q) : ab_X d M pc ls (.int (iI x) :: st) h Q := ab_ineg hd (by rw [iI_neg]; exact k)
theorem z_idiv {x y : Int} (hd : decode M.2.1 pc = .ok (.idiv, 1)) (hx : inR x) (hy : inR y) (h0 : y ≠ 0) (k : ab_X d M (pc + 1) ls (.int (iI (x.tdiv y)) :: st) h Q) : ab_X d M pc ls (.int (iI y) :: .int (iI x) :: st) h Q := ab_idiv hd (fun e => h0 ((iI_eq hy (by decide)).mp e)) (by rw [iI_div hx hy]; exact k)
theorem z_irem {x y : Int} (hd : decode M.2.1 pc = .ok (.irem, 1)) (hx : inR x) (hy : inR y) (h0 : y ≠ 0) (k : ab_X d M (pc + 1) ls (.int (iI (x.tmod y)) :: st) h Q) : ab_X d M pc ls (.int (iI y) :: .int (iI x) :: st) h Q := ab_irem hd (fun e => h0 ((iI_eq hy (by decide)).mp e)) (by rw [iI_rem hx hy]; exact k)
theorem z_ldiv {x y : Int} (hd : decode M.2.1 pc = .ok (.ldiv, 1)) (hx : inL x) (hy : inL y) (h0 : y ≠ 0) (k : ab_X d M (pc + 1) ls (.long (lL (x.tdiv y)) :: st) h Q) : ab_X d M pc ls (.long (lL y) :: .long (lL x) :: st) h Q := ab_ldiv hd (fun e => h0 ((lL_eq hy (by decide)).mp e)) (by rw [lL_div hx hy]; exact k)
theorem z_lrem {x y : Int} (hd : decode M.2.1 pc = .ok (.lrem, 1)) (hx : inL x) (hy : inL y) (h0 : y ≠ 0) (k : ab_X d M (pc + 1) ls (.long (lL (x.tmod y)) :: st) h Q) : ab_X d M pc ls (.long (lL y) :: .long (lL x) :: st) h Q := ab_lrem hd (fun e => h0 ((lL_eq hy (by decide)).mp e)) (by rw [lL_rem hx hy]; exact k)
theorem z_i2l {x : Int} (hd : decode M.2.1 pc = .ok (.i2l, 1)) (hx : inR x) (k : ab_X d M (pc + 1) ls (.long (lL x) :: st) h Q) : ab_X d M pc ls (.int (iI x) :: st) h Q := ab_i2l hd (by rw [iI_l hx]; exact k)
theorem z_l2i {x : Int} (hd : decode M.2.1 pc = .ok (.l2i, 1)) (k : ab_X d M (pc + 1) ls (.int (iI x) :: st) h Q) : ab_X d M pc ls (.long (lL x) :: st) h Q := ab_l2i hd (by rw [lL_i]; exact k)
theorem z_cmp {x y : Int} (hx : inL x) (hy : inL y) : lg_cmp (lL x) (lL y) = iI (if y < x then 1 else if x = y then 0 else -1) := by
  unfold lg_cmp
  simp only [gt_iff_lt, lL_lt hy hx, lL_eq hx hy]
  by_cases a : y < x
  · rw [if_pos a, if_pos a]; rfl
  · rw [if_neg a, if_neg a]
    by_cases b : x = y
    · rw [if_pos b, if_pos b]; rfl
    · rw [if_neg b, if_neg b]; rfl
theorem z_lcmp {x y : Int} (hd : decode M.2.1 pc = .ok (.lcmp, 1)) (hx : inL x) (hy : inL y) (k1 : y < x → ab_X d M (pc + 1) ls (.int (iI 1) :: st) h Q) (k2 : x = y → ab_X d M (pc + 1) ls (.int (iI 0) :: st) h Q) (k3 : x < y → ab_X d M (pc + 1) ls (.int (iI (-1)) :: st) h Q) : ab_X d M pc ls (.long (lL y) :: .long (lL x) :: st) h Q := by
  refine ab_lcmp hd ?_
  rw [z_cmp hx hy]
  by_cases a : y < x
  · rw [if_pos a]; exact k1 a
  · rw [if_neg a]
    by_cases b : x = y
    · rw [if_pos b]; exact k2 b
    · rw [if_neg b]; exact k3 (by omega)
theorem inR0 : inR 0 := by decide
theorem z_if_eq {x off : Int} {tgt : Nat} (hd : decode M.2.1 pc = .ok (.ifCond .eq off, 3)) (ht : (pc : Int) + off = (tgt : Int)) (hx : inR x) (k1 : x = 0 → ab_X d M tgt ls st h Q) (k2 : ¬ x = 0 → ab_X d M (pc + 3) ls st h Q) : ab_X d M pc ls (.int (iI x) :: st) h Q := ab_if_eq hd ht (fun q => k1 ((iI_eq hx inR0).mp q)) (fun q => k2 (fun e => q ((iI_eq hx inR0).mpr e)))
theorem z_if_ne {x off : Int} {tgt : Nat} (hd : decode M.2.1 pc = .ok (.ifCond .ne off, 3)) (ht : (pc : Int) + off = (tgt : Int)) (hx : inR x) (k1 : ¬ x = 0 → ab_X d M tgt ls st h Q) (k2 : x = 0 → ab_X d M (pc + 3) ls st h Q) : ab_X d M pc ls (.int (iI x) :: st) h Q := ab_if_ne hd ht (fun q => k1 (fun e => q ((iI_eq hx inR0).mpr e))) (fun q => k2 ((iI_eq hx inR0).mp q))
theorem z_if_lt {x off : Int} {tgt : Nat} (hd : decode M.2.1 pc = .ok (.ifCond .lt off, 3)) (ht : (pc : Int) + off = (tgt : Int)) (hx : inR x) (k1 : x < 0 → ab_X d M tgt ls st h Q) (k2 : ¬ x < 0 → ab_X d M (pc + 3) ls st h Q) : ab_X d M pc ls (.int (iI x) :: st) h Q := ab_if_lt hd ht (fun q => k1 ((iI_lt hx inR0).mp q)) (fun q => k2 (fun e => q ((iI_lt hx inR0).mpr e)))
theorem z_if_ge {x off : Int} {tgt : Nat} (hd : decode M.2.1 pc = .ok (.ifCond .ge off, 3)) (ht : (pc : Int) + off = (tgt : Int)) (hx : inR x) (k1 : 0 ≤ x → ab_X d M tgt ls st h Q) (k2 : ¬ 0 ≤ x → ab_X d M (pc + 3) ls st h Q) : ab_X d M pc ls (.int (iI x) :: st) h Q := ab_if_ge hd ht (fun q => k1 ((iI_le inR0 hx).mp q)) (fun q => k2 (fun e => q ((iI_le inR0 hx).mpr e)))
theorem z_if_gt {x off : Int} {tgt : Nat} (hd : decode M.2.1 pc = .ok (.ifCond .gt off, 3)) (ht : (pc : Int) + off = (tgt : Int)) (hx : inR x) (k1 : 0 < x → ab_X d M tgt ls st h Q) (k2 : ¬ 0 < x → ab_X d M (pc + 3) ls st h Q) : ab_X d M pc ls (.int (iI x) :: st) h Q := ab_if_gt hd ht (fun q => k1 ((iI_lt inR0 hx).mp q)) (fun q => k2 (fun e => q ((iI_lt inR0 hx).mpr e)))
theorem z_if_le {x off : Int} {tgt : Nat} (hd : decode M.2.1 pc = .ok (.ifCond .le off, 3)) (ht : (pc : Int) + off = (tgt : Int)) (hx : inR x) (k1 : x ≤ 0 → ab_X d M tgt ls st h Q) (k2 : ¬ x ≤ 0 → ab_X d M (pc + 3) ls st h Q) : ab_X d M pc ls (.int (iI x) :: st) h Q := ab_if_le hd ht (fun q => k1 ((iI_le hx inR0).mp q)) (fun q => k2 (fun e => q ((iI_le hx inR0).mpr e)))
theorem z_icmp_eq {x y off : Int} {tgt : Nat} (hd : decode M.2.1 pc = .ok (.if_icmp .eq off, 3)) (ht : (pc : Int) + off = (tgt : Int)) (hx : inR x) (hy : inR y) (k1 : x = y → ab_X d M tgt ls st h Q) (k2 : ¬ x = y → ab_X d M (pc + 3) ls st h Q) : ab_X d M pc ls (.int (iI y) :: .int (iI x) :: st) h Q := ab_icmp_eq hd ht (fun q => k1 ((iI_eq hx hy).mp q)) (fun q => k2 (fun e => q ((iI_eq hx hy).mpr e)))
theorem z_icmp_ne {x y off : Int} {tgt : Nat} (hd : decode M.2.1 pc = .ok (.if_icmp .ne off, 3)) (ht : (pc : Int) + off = (tgt : Int)) (hx : inR x) (hy : inR y) (k1 : ¬ x = y → ab_X d M tgt ls st h Q) (k2 : x = y → ab_X d M (pc + 3) ls st h Q) : ab_X d M pc ls (.int (iI y) :: .int (iI x) :: st) h Q := ab_icmp_ne hd ht (fun q => k1 (fun e => q ((iI_eq hx hy).mpr e))) (fun q => k2 ((iI_eq hx hy).mp q))
theorem z_icmp_lt {x y off : Int} {tgt : Nat} (hd : decode M.2.1 pc = .ok (.if_icmp .lt off, 3)) (ht : (pc : Int) + off = (tgt : Int)) (hx : inR x) (hy : inR y) (k1 : x < y → ab_X d M tgt ls st h Q) (k2 : ¬ x < y → ab_X d M (pc + 3) ls st h Q) : ab_X d M pc ls (.int (iI y) :: .int (iI x) :: st) h Q := ab_icmp_lt hd ht (fun q => k1 ((iI_lt hx hy).mp q)) (fun q => k2 (fun e => q ((iI_lt hx hy).mpr e)))
theorem z_icmp_ge {x y off : Int} {tgt : Nat} (hd : decode M.2.1 pc = .ok (.if_icmp .ge off, 3)) (ht : (pc : Int) + off = (tgt : Int)) (hx : inR x) (hy : inR y) (k1 : y ≤ x → ab_X d M tgt ls st h Q) (k2 : ¬ y ≤ x → ab_X d M (pc + 3) ls st h Q) : ab_X d M pc ls (.int (iI y) :: .int (iI x) :: st) h Q := ab_icmp_ge hd ht (fun q => k1 ((iI_le hy hx).mp q)) (fun q => k2 (fun e => q ((iI_le hy hx).mpr e)))
theorem z_icmp_gt {x y off : Int} {tgt : Nat} (hd : decode M.2.1 pc = .ok (.if_icmp .gt off, 3)) (ht : (pc : Int) + off = (tgt : Int)) (hx : inR x) (hy : inR y) (k1 : y < x → ab_X d M tgt ls st h Q) (k2 : ¬ y < x → ab_X d M (pc + 3) ls st h Q) : ab_X d M pc ls (.int (iI y) :: .int (iI x) :: st) h Q := ab_icmp_gt hd ht (fun q => k1 ((iI_lt hy hx).mp q)) (fun q => k2 (fun e => q ((iI_lt hy hx).mpr e)))
theorem z_icmp_le {x y off : Int} {tgt : Nat} (hd : decode M.2.1 pc = .ok (.if_icmp .le off, 3)) (ht : (pc : Int) + off = (tgt : Int)) (hx : inR x) (hy : inR y) (k1 : x ≤ y → ab_X d M tgt ls st h Q) (k2 : ¬ x ≤ y → ab_X d M (pc + 3) ls st h Q) : ab_X d M pc ls (.int (iI y) :: .int (iI x) :: st) h Q := ab_icmp_le hd ht (fun q => k1 ((iI_le hx hy).mp q)) (fun q => k2 (fun e => q ((iI_le hx hy).mpr e)))
theorem z_getI {idx a ci k : Nat} (hd : decode M.2.1 pc = .ok (.getfield idx, 3)) (hf : ab_fl M.1.cls idx ci k) (ha : ab_kd a = (ci, 0)) (hg : ab_tag ci k = 0 ∨ ab_tag ci k = 3) (kk : ab_X d M (pc + 3) ls (.int (iI (zv h a k)) :: st) h Q) : ab_X d M pc ls (.ref a :: st) h Q := ab_getI hd hf ha hg (by rw [← iI_of (h.1 a k)]; exact kk)
theorem z_getL {idx a ci k : Nat} (hd : decode M.2.1 pc = .ok (.getfield idx, 3)) (hf : ab_fl M.1.cls idx ci k) (ha : ab_kd a = (ci, 0)) (hg : ab_tag ci k = 1) (kk : ab_X d M (pc + 3) ls (.long (lL (wv h a k)) :: st) h Q) : ab_X d M pc ls (.ref a :: st) h Q := ab_getL hd hf ha hg (by rw [← lL_of (h.2.1 a k)]; exact kk)
theorem z_getP {idx a ci k b : Nat} (hd : decode M.2.1 pc = .ok (.getfield idx, 3)) (hf : ab_fl M.1.cls idx ci k) (ha : ab_kd a = (ci, 0)) (hg : ab_tag ci k = 2) (hb : ab_P h.2.2 a k = b) (kk : ab_X d M (pc + 3) ls (.ref b :: st) h Q) : ab_X d M pc ls (.ref a :: st) h Q := by subst hb; exact ab_getP hd hf ha hg kk
theorem z_putI {idx a ci k : Nat} {x : Int} (hd : decode M.2.1 pc = .ok (.putfield idx, 3)) (hf : ab_fl M.1.cls idx ci k) (ha : ab_kd a = (ci, 0)) (hg : ab_tag ci k = 0) (kk : ab_X d M (pc + 3) ls st (zp h a k x) Q) : ab_X d M pc ls (.int (iI x) :: .ref a :: st) h Q := ab_putI hd hf ha hg kk
theorem z_putZ {idx a ci k : Nat} {x : Int} (hd : decode M.2.1 pc = .ok (.putfield idx, 3)) (hf : ab_fl M.1.cls idx ci k) (ha : ab_kd a = (ci, 0)) (hg : ab_tag ci k = 3) (hx : x = 0 ∨ x = 1) (kk : ab_X d M (pc + 3) ls st (zp h a k x) Q) : ab_X d M pc ls (.int (iI x) :: .ref a :: st) h Q := ab_putZ (x := iI x) hd hf ha hg (hx.elim (fun e => Or.inl (by rw [e]; rfl)) (fun e => Or.inr (by rw [e]; rfl))) kk
theorem z_putL {idx a ci k : Nat} {x : Int} (hd : decode M.2.1 pc = .ok (.putfield idx, 3)) (hf : ab_fl M.1.cls idx ci k) (ha : ab_kd a = (ci, 0)) (hg : ab_tag ci k = 1) (kk : ab_X d M (pc + 3) ls st (wp h a k x) Q) : ab_X d M pc ls (.long (lL x) :: .ref a :: st) h Q := ab_putL hd hf ha hg kk
theorem z_iald {a n : Nat} {j : Int} (hd : decode M.2.1 pc = .ok (.iaload, 1)) (ha : ab_kd a = (20, n)) (h0 : 0 ≤ j) (h1 : j < n) (kk : ab_X d M (pc + 1) ls (.int (iI (zv h a j.toNat)) :: st) h Q) : ab_X d M pc ls (.int (iI j) :: .ref a :: st) h Q := by
  have hn := ab_kd_n ha
  refine ab_iald hd ha (iI_in h0 h1 hn) ?_
  rw [iI_clamp ⟨by omega, by omega⟩, ← iI_of (h.1 a j.toNat)]
  exact kk
theorem z_bald {a n : Nat} {j : Int} (hd : decode M.2.1 pc = .ok (.baload, 1)) (ha : ab_kd a = (23, n) ∨ ab_kd a = (22, n)) (h0 : 0 ≤ j) (h1 : j < n) (kk : ab_X d M (pc + 1) ls (.int (iI (zv h a j.toNat)) :: st) h Q) : ab_X d M pc ls (.int (iI j) :: .ref a :: st) h Q := by
  have hn : n < 5000 := by rcases ha with ha | ha <;> exact ab_kd_n ha
  refine ab_bald hd ha (iI_in h0 h1 hn) ?_
  rw [iI_clamp ⟨by omega, by omega⟩, ← iI_of (h.1 a j.toNat)]
  exact kk
theorem z_lald {a n : Nat} {j : Int} (hd : decode M.2.1 pc = .ok (.laload, 1)) (ha : ab_kd a = (21, n)) (h0 : 0 ≤ j) (h1 : j < n) (kk : ab_X d M (pc + 1) ls (.long (lL (wv h a j.toNat)) :: st) h Q) : ab_X d M pc ls (.int (iI j) :: .ref a :: st) h Q := by
  have hn := ab_kd_n ha
  refine ab_lald hd ha (iI_in h0 h1 hn) ?_
  rw [iI_clamp ⟨by omega, by omega⟩, ← lL_of (h.2.1 a j.toNat)]
  exact kk
theorem z_aald {a n b : Nat} {j : Int} (hd : decode M.2.1 pc = .ok (.aaload, 1)) (ha : ab_kd a = (24, n) ∨ ab_kd a = (25, n) ∨ ab_kd a = (26, n)) (h0 : 0 ≤ j) (h1 : j < n) (hb : ab_P h.2.2 a j.toNat = b) (kk : ab_X d M (pc + 1) ls (.ref b :: st) h Q) : ab_X d M pc ls (.int (iI j) :: .ref a :: st) h Q := by
  have hn : n < 5000 := by rcases ha with ha | ha | ha <;> exact ab_kd_n ha
  refine ab_aald hd ha (iI_in h0 h1 hn) ?_
  rw [iI_clamp ⟨by omega, by omega⟩, hb]
  exact kk
theorem z_iast {a n : Nat} {j x : Int} (hd : decode M.2.1 pc = .ok (.iastore, 1)) (ha : ab_kd a = (20, n)) (h0 : 0 ≤ j) (h1 : j < n) (kk : ab_X d M (pc + 1) ls st (zp h a j.toNat x) Q) : ab_X d M pc ls (.int (iI x) :: .int (iI j) :: .ref a :: st) h Q := by
  have hn := ab_kd_n ha
  refine ab_iast hd ha (iI_in h0 h1 hn) ?_
  rw [iI_clamp ⟨by omega, by omega⟩]
  exact kk
theorem z_bast {a n : Nat} {j x y : Int} (hd : decode M.2.1 pc = .ok (.bastore, 1)) (ha : ab_kd a = (23, n)) (h0 : 0 ≤ j) (h1 : j < n) (hy : vp_nar .byte (iI x) = iI y) (kk : ab_X d M (pc + 1) ls st (zp h a j.toNat y) Q) : ab_X d M pc ls (.int (iI x) :: .int (iI j) :: .ref a :: st) h Q := by
  have hn := ab_kd_n ha
  refine ab_bast hd ha (iI_in h0 h1 hn) ?_
  rw [iI_clamp ⟨by omega, by omega⟩, hy]
  exact kk
theorem z_zast {a n : Nat} {j x : Int} (hd : decode M.2.1 pc = .ok (.bastore, 1)) (ha : ab_kd a = (22, n)) (h0 : 0 ≤ j) (h1 : j < n) (hx : x = 0 ∨ x = 1) (kk : ab_X d M (pc + 1) ls st (zp h a j.toNat x) Q) : ab_X d M pc ls (.int (iI x) :: .int (iI j) :: .ref a :: st) h Q := by
  have hn := ab_kd_n ha
  refine ab_zast hd ha (iI_in h0 h1 hn) ?_
  have e : vp_nar .boolean (iI x) = iI x := by rcases hx with rfl | rfl <;> rfl
  rw [iI_clamp ⟨by omega, by omega⟩, e]
  exact kk
theorem z_last {a n : Nat} {j x : Int} (hd : decode M.2.1 pc = .ok (.lastore, 1)) (ha : ab_kd a = (21, n)) (h0 : 0 ≤ j) (h1 : j < n) (kk : ab_X d M (pc + 1) ls st (wp h a j.toNat x) Q) : ab_X d M pc ls (.long (lL x) :: .int (iI j) :: .ref a :: st) h Q := by
  have hn := ab_kd_n ha
  refine ab_last hd ha (iI_in h0 h1 hn) ?_
  rw [iI_clamp ⟨by omega, by omega⟩]
  exact kk
theorem z_alen {a c n : Nat} (hd : decode M.2.1 pc = .ok (.arraylength, 1)) (ha : ab_kd a = (c, n)) (hc : c = 20 ∨ c = 21) (kk : ab_X d M (pc + 1) ls (.int (iI (n : Int)) :: st) h Q) : ab_X d M pc ls (.ref a :: st) h Q := ab_alen hd ha hc rfl (by rw [iI_nat]; exact kk)
theorem z_iret {v : Int} (hd : decode M.2.1 pc = .ok (.ireturn, 1)) (hr : M.2.2.2 = some .int) (hq : Q (some (.int (iI v))) h) : ab_X d M pc ls [.int (iI v)] h Q := ab_iret (st := []) hd hr hq
theorem z_zret {v : Int} (hd : decode M.2.1 pc = .ok (.ireturn, 1)) (hr : M.2.2.2 = some .boolean) (hv : v = 0 ∨ v = 1) (hq : Q (some (.int (iI v))) h) : ab_X d M pc ls [.int (iI v)] h Q := ab_zret (st := []) (v := iI v) hd hr (hv.elim (fun e => Or.inl (by rw [e]; rfl)) (fun e => Or.inr (by rw [e]; rfl))) hq
theorem z_lret {v : Int} (hd : decode M.2.1 pc = .ok (.lreturn, 1)) (hr : M.2.2.2 = some .long) (hq : Q (some (.long (lL v))) h) : ab_X d M pc ls [.long (lL v)] h Q := ab_lret (st := []) hd hr hq
theorem z_vret (hd : decode M.2.1 pc = .ok (.return_, 1)) (hr : M.2.2.2 = none) (hq : Q none h) : ab_X d M pc ls [] h Q := ab_vret (st := []) hd hr hq
theorem z_mmax {idx : Nat} {x y : Int} (hd : decode M.2.1 pc = .ok (.invokestatic idx, 3)) (hf : ab_math M.1.cls idx Lib.Math.max.name Lib.Math.max.code 2 .int) (hw : ab_cat st ≤ 8) (hx : inR x) (hy : inR y) (k : ab_X (d + 1) M (pc + 3) ls (.int (iI (max x y)) :: st) h Q) : ab_X (d + 1) M pc ls (.int (iI y) :: .int (iI x) :: st) h Q := by
  refine ab_mmax hd hf hw ?_
  have e : (if iI x < iI y then iI y else iI x) = iI (max x y) := by
    simp only [iI_lt hx hy]; by_cases q : x < y
    · rw [if_pos q, Int.max_eq_right (by omega)]
    · rw [if_neg q, Int.max_eq_left (by omega)]
  rw [e]; exact k
theorem z_mmin {idx : Nat} {x y : Int} (hd : decode M.2.1 pc = .ok (.invokestatic idx, 3)) (hf : ab_math M.1.cls idx Lib.Math.min.name Lib.Math.min.code 2 .int) (hw : ab_cat st ≤ 8) (hx : inR x) (hy : inR y) (k : ab_X (d + 1) M (pc + 3) ls (.int (iI (min x y)) :: st) h Q) : ab_X (d + 1) M pc ls (.int (iI y) :: .int (iI x) :: st) h Q := by
  refine ab_mmin hd hf hw ?_
  have e : (if iI y < iI x then iI y else iI x) = iI (min x y) := by
    simp only [iI_lt hy hx]; by_cases q : y < x
    · rw [if_pos q, Int.min_eq_right (by omega)]
    · rw [if_neg q, Int.min_eq_left (by omega)]
  rw [e]; exact k
theorem z_mabs {idx : Nat} {x : Int} (hd : decode M.2.1 pc = .ok (.invokestatic idx, 3)) (hf : ab_math M.1.cls idx Lib.Math.abs.name Lib.Math.abs.code 1 .int) (hw : ab_cat st ≤ 8) (hx : inR x) (k : ab_X (d + 1) M (pc + 3) ls (.int (iI (if 0 ≤ x then x else -x)) :: st) h Q) : ab_X (d + 1) M pc ls (.int (iI x) :: st) h Q := by
  refine ab_mabs hd hf hw ?_
  have e : (if (0 : Int32) ≤ iI x then iI x else 0 - iI x) = iI (if 0 ≤ x then x else -x) := by
    simp only [show ((0 : Int32) ≤ iI x) = (0 ≤ x) from propext (iI_le inR0 hx)]; by_cases q : 0 ≤ x
    · rw [if_pos q, if_pos q]
    · rw [if_neg q, if_neg q]; show iI 0 - iI x = _; rw [iI_sub]; congr 1; omega
  rw [e]; exact k
theorem z_mmaxl {idx : Nat} {x y : Int} (hd : decode M.2.1 pc = .ok (.invokestatic idx, 3)) (hf : ab_math M.1.cls idx Lib.MathLoose.max_long.x Lib.MathLoose.max_long.code 4 .long) (hw : ab_cat st ≤ 8) (hx : inL x) (hy : inL y) (k : ab_X (d + 1) M (pc + 3) ls (.long (lL (max x y)) :: st) h Q) : ab_X (d + 1) M pc ls (.long (lL y) :: .long (lL x) :: st) h Q := by
  refine ab_mmaxl hd hf hw ?_
  have e : (if lL y < lL x then lL x else lL y) = lL (max x y) := by
    simp only [lL_lt hy hx]; by_cases q : y < x
    · rw [if_pos q, Int.max_eq_left (by omega)]
    · rw [if_neg q, Int.max_eq_right (by omega)]
  rw [e]; exact k
theorem z_mminl {idx : Nat} {x y : Int} (hd : decode M.2.1 pc = .ok (.invokestatic idx, 3)) (hf : ab_math M.1.cls idx Lib.MathLoose.min_long.x Lib.MathLoose.min_long.code 4 .long) (hw : ab_cat st ≤ 8) (hx : inL x) (hy : inL y) (k : ab_X (d + 1) M (pc + 3) ls (.long (lL (min x y)) :: st) h Q) : ab_X (d + 1) M pc ls (.long (lL y) :: .long (lL x) :: st) h Q := by
  refine ab_mminl hd hf hw ?_
  have e : (if lL y < lL x then lL y else lL x) = lL (min x y) := by
    simp only [lL_lt hy hx]; by_cases q : y < x
    · rw [if_pos q, Int.min_eq_right (by omega)]
    · rw [if_neg q, Int.min_eq_left (by omega)]
  rw [e]; exact k
theorem z_swOut {df lo hi : Int} {offs : Array Int} {len : Nat} {x : Int} {tgt : Nat} (hd : decode M.2.1 pc = .ok (.tableswitch df lo hi offs, len)) (hx : inR x) (hq : x < lo ∨ hi < x) (ht : (pc : Int) + df = (tgt : Int)) (k : ab_X d M tgt ls st h Q) : ab_X d M pc ls (.int (iI x) :: st) h Q := ab_swOut hd (by rw [iI_toInt hx]; exact hq) ht k
theorem z_swIn {df lo hi : Int} {offs : Array Int} {len : Nat} {x off : Int} {tgt : Nat} (hd : decode M.2.1 pc = .ok (.tableswitch df lo hi offs, len)) (hx : inR x) (h1 : ¬ x < lo) (h2 : ¬ hi < x) (ho : offs[(x - lo).toNat]? = some off) (ht : (pc : Int) + off = (tgt : Int)) (k : ab_X d M tgt ls st h Q) : ab_X d M pc ls (.int (iI x) :: st) h Q := ab_swIn hd (by rw [iI_toInt hx]; exact h1) (by rw [iI_toInt hx]; exact h2) (by rw [iI_toInt hx]; exact ho) ht k
end ZR
