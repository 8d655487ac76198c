theorem c_hasSort {d : Nat} {h : ab_H} {Q : ab_Q} {s : Int} (hs : inR s) (k1 : 0 ≤ s ∧ s < zv h 15 3 → Q (some (.int (iI 1))) h) (k0 : ¬ (0 ≤ s ∧ s < zv h 15 3) → Q (some (.int (iI 0))) h) : ab_X d mX6_hasSort 0 (lv_args 0 [.ref 15, .int (iI s)]) [] h Q := by
  show ab_X d mX6_hasSort 0 [(0, .ref 15), (1, .int (iI s))] [] h Q
  refine ab_iload_n (k := 1) dX6_hasSort_0 rfl rfl ?_
  refine z_if_lt (tgt := 16) dX6_hasSort_1 (by decide) (by omega) (fun c1 => ?_) (fun c1 => ?_)
  · skip
    refine z_iconst dX6_hasSort_16 ?_
    refine z_zret dX6_hasSort_17 rfl (Or.inl rfl) ?_
    exact k0 (by omega)
  · skip
    refine ab_iload_n (k := 1) dX6_hasSort_4 rfl rfl ?_
    refine ab_aload_n (k := 0) dX6_hasSort_5 rfl rfl ?_
    refine z_getI dX6_hasSort_6 fX6_22 rfl (Or.inl rfl) ?_
    have b2 := zv_R h 15 3
    refine z_icmp_ge (tgt := 16) dX6_hasSort_9 (by decide) (by omega) (by omega) (fun c3 => ?_) (fun c3 => ?_)
    · skip
      refine z_iconst dX6_hasSort_16 ?_
      refine z_zret dX6_hasSort_17 rfl (Or.inl rfl) ?_
      exact k0 (by omega)
    · skip
      refine z_iconst dX6_hasSort_12 ?_
      refine ab_goto (tgt := 17) dX6_hasSort_13 (by decide) ?_
      refine z_zret dX6_hasSort_17 rfl (Or.inr rfl) ?_
      exact k1 (by omega)
theorem c_hasYard {d : Nat} {h : ab_H} {Q : ab_Q} {s : Int} (hs : inR s) (k1 : 0 ≤ s ∧ s < zv h 15 0 → Q (some (.int (iI 1))) h) (k0 : ¬ (0 ≤ s ∧ s < zv h 15 0) → Q (some (.int (iI 0))) h) : ab_X d mX6_hasYard 0 (lv_args 0 [.ref 15, .int (iI s)]) [] h Q := by
  show ab_X d mX6_hasYard 0 [(0, .ref 15), (1, .int (iI s))] [] h Q
  refine ab_iload_n (k := 1) dX6_hasYard_0 rfl rfl ?_
  refine z_if_lt (tgt := 16) dX6_hasYard_1 (by decide) (by omega) (fun c1 => ?_) (fun c1 => ?_)
  · skip
    refine z_iconst dX6_hasYard_16 ?_
    refine z_zret dX6_hasYard_17 rfl (Or.inl rfl) ?_
    exact k0 (by omega)
  · skip
    refine ab_iload_n (k := 1) dX6_hasYard_4 rfl rfl ?_
    refine ab_aload_n (k := 0) dX6_hasYard_5 rfl rfl ?_
    refine z_getI dX6_hasYard_6 fX6_26 rfl (Or.inl rfl) ?_
    have b2 := zv_R h 15 0
    refine z_icmp_ge (tgt := 16) dX6_hasYard_9 (by decide) (by omega) (by omega) (fun c3 => ?_) (fun c3 => ?_)
    · skip
      refine z_iconst dX6_hasYard_16 ?_
      refine z_zret dX6_hasYard_17 rfl (Or.inl rfl) ?_
      exact k0 (by omega)
    · skip
      refine z_iconst dX6_hasYard_12 ?_
      refine ab_goto (tgt := 17) dX6_hasYard_13 (by decide) ?_
      refine z_zret dX6_hasYard_17 rfl (Or.inr rfl) ?_
      exact k1 (by omega)
