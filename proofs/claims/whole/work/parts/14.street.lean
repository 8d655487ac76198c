/-! CONTRACTS OF THE CLASS: the street's changes -/
def enI (h0 h : ab_H) (p : Nat) (s : Int) (y : Nat) : Prop := sm [37, 38] h0 h ∧ ∀ j, zv h 37 j = (if p ≤ j ∧ j < y then (p : Int) else zv h0 37 j) ∧ zv h 38 j = (if p ≤ j ∧ j < y then s else zv h0 38 j)
theorem enI_step {h0 h : ab_H} {p y : Nat} {s : Int} (hp : p ≤ y) (hp2 : p < 20) (hs : inR s) (hI : enI h0 h p s y) : enI h0 (zp (zp h 37 y (p : Int)) 38 y s) p s (y + 1) := by
  refine ⟨hI.1.trans ((sm_zp (by decide)).trans (sm_zp (by decide))), fun j => ?_⟩
  have hpR : inR (p : Int) := by omega
  rw [zv_zp_a (by decide), zv_zp hpR, zv_zp hs, zv_zp_a (b := 38) (by decide), (hI.2 j).1, (hI.2 j).2]
  refine ⟨?_, ?_⟩ <;> (repeat' split) <;> omega
theorem lp_enter {d : Nat} {Q : ab_Q} {h0 : ab_H} {p l : Nat} {s : Int} (hp : p + l ≤ 20) (hp2 : p < 20) (hs : inR s) (K : ∀ h', enI h0 h' p s (p + l) → Q none (zp h' 36 2 (zv h' 36 2 + 1))) : ∀ (n : Nat) (y : Nat) (h : ab_H), p + l - y = n → (p ≤ y) → (y ≤ p + l) → (enI h0 h p s y) → ab_X d mX9_enter 16 [(0, .ref 36), (1, .int (iI ((p : Int)))), (2, .int (iI ((l : Int)))), (3, .int (iI s)), (4, .int (iI ((y : Int))))] [] h Q := by
  intro n
  induction n using Nat.strongRecOn with
  | ind n ih =>
  intro y h hn h1 h2 hI
  refine ab_iload (k := 4) dX9_enter_16 rfl ?_
  refine ab_iload_n (k := 1) dX9_enter_18 rfl rfl ?_
  refine ab_iload_n (k := 2) dX9_enter_19 rfl rfl ?_
  refine z_iadd dX9_enter_20 ?_
  refine z_icmp_ge (tgt := 46) dX9_enter_21 (by decide) (by omega) (by omega) (fun c1 => ?_) (fun c1 => ?_)
  · skip
    refine ab_aload_n (k := 0) dX9_enter_46 rfl rfl ?_
    refine ab_dup dX9_enter_47 rfl ?_
    refine z_getI dX9_enter_48 fX9_24 rfl (Or.inl rfl) ?_
    have b2 := zv_R h 36 2
    refine z_iconst dX9_enter_51 ?_
    refine z_iadd dX9_enter_52 ?_
    refine z_putI dX9_enter_53 fX9_24 rfl rfl ?_
    refine z_vret dX9_enter_56 rfl ?_
    have e : y = p + l := by omega
    subst e
    exact K h hI
  · skip
    refine ab_aload_n (k := 0) dX9_enter_24 rfl rfl ?_
    refine z_getP (b := 37) dX9_enter_25 fX9_9 rfl rfl rfl ?_
    refine ab_iload (k := 4) dX9_enter_28 rfl ?_
    refine ab_iload_n (k := 1) dX9_enter_30 rfl rfl ?_
    refine z_iast dX9_enter_31 rfl (by omega) (by omega) ?_
    simp only [Int.toNat_natCast]
    refine ab_aload_n (k := 0) dX9_enter_32 rfl rfl ?_
    refine z_getP (b := 38) dX9_enter_33 fX9_15 rfl rfl rfl ?_
    refine ab_iload (k := 4) dX9_enter_36 rfl ?_
    refine ab_iload_n (k := 3) dX9_enter_38 rfl rfl ?_
    refine z_iast dX9_enter_39 rfl (by omega) (by omega) ?_
    simp only [Int.toNat_natCast]
    refine z_iinc (k := 4) (v := (y : Int) + 1) (ls' := [(4, .int (iI ((y : Int) + 1))), (0, .ref 36), (1, .int (iI ((p : Int)))), (2, .int (iI ((l : Int)))), (3, .int (iI s))]) dX9_enter_40 rfl rfl (by decide) rfl ?_
    refine ab_goto (tgt := 16) dX9_enter_43 (by decide) ?_
    refine ab_sub (ls' := [(0, .ref 36), (1, .int (iI ((p : Int)))), (2, .int (iI ((l : Int)))), (3, .int (iI s)), (4, .int (iI ((y : Int) + 1)))]) (ks := [1, 2, 3, 4, 0]) rfl ?_
    exact ih _ (by omega) (y + 1) _ rfl (by omega) (by omega) (enI_step h1 hp2 hs hI)
theorem c_enter {d : Nat} {h : ab_H} {Q : ab_Q} {p l : Nat} {s : Int} (hp : p + l ≤ 20) (hp2 : p < 20) (hs : inR s) (K : ∀ h', enI h h' p s (p + l) → Q none (zp h' 36 2 (zv h' 36 2 + 1))) : ab_X d mX9_enter 0 (lv_args 0 [.ref 36, .int (iI ((p : Int))), .int (iI ((l : Int))), .int (iI s)]) [] h Q := by
  show ab_X d mX9_enter 0 [(0, .ref 36), (1, .int (iI ((p : Int)))), (2, .int (iI ((l : Int)))), (3, .int (iI s))] [] h Q
  refine ab_iload_n (k := 1) dX9_enter_0 rfl rfl ?_
  refine z_if_lt (tgt := 12) dX9_enter_1 (by decide) (by omega) (fun c1 => ?_) (fun c1 => ?_)
  · skip
    refine z_vret dX9_enter_12 rfl ?_
    exact absurd c1 (by omega)
  · skip
    refine ab_iload_n (k := 1) dX9_enter_4 rfl rfl ?_
    refine z_bipush dX9_enter_5 (by decide) ?_
    refine ab_iload_n (k := 2) dX9_enter_7 rfl rfl ?_
    refine z_isub dX9_enter_8 ?_
    refine z_icmp_le (tgt := 13) dX9_enter_9 (by decide) (by omega) (by omega) (fun c2 => ?_) (fun c2 => ?_)
    · skip
      refine ab_iload_n (k := 1) dX9_enter_13 rfl rfl ?_
      refine ab_istore (ls' := [(4, .int (iI ((p : Int)))), (0, .ref 36), (1, .int (iI ((p : Int)))), (2, .int (iI ((l : Int)))), (3, .int (iI s))]) dX9_enter_14 (by decide) rfl ?_
      refine ab_sub (ls' := [(0, .ref 36), (1, .int (iI ((p : Int)))), (2, .int (iI ((l : Int)))), (3, .int (iI s)), (4, .int (iI ((p : Int))))]) (ks := [1, 2, 3, 4, 0]) rfl ?_
      exact lp_enter hp hp2 hs K _ p h rfl (Nat.le_refl p) (by omega) ⟨sm.refl, fun j => by rw [if_neg (by omega), if_neg (by omega)]; exact ⟨rfl, rfl⟩⟩
    · skip
      refine z_vret dX9_enter_12 rfl ?_
      exact absurd c2 (by omega)
