/-! THE LAW'S LOOP -/
section LOOP
variable {p : Program} {l : Launch} {e : Env} {s : State} {m : MethodId} {below : List Frame} {meth : Method} {c : Code} {b L : Nat} {xs : Nat → Int32} {D : va_G} {cy : Nat → ClassId} {ad : Nat → Nat} {qo : Nat}
theorem law_loop (C : al_C p s m meth c b L xs D cy ad qo) (hZ : yd_Z (al_A s qo) s s.heap) (hst : l.stackTraces = false) : ∀ (f i k n : Nat) (h : ab_H) (o : Nat → Int64), i ≤ L → L < i + f → k ≤ 1000 + i → n ≤ 30000 + 6 * i → INV h → al_S p l e s m below meth c b D cy ad qo  k n 23 (al_ls b ad qo i) [] h o := by
  have hL := C.2.2.2.2
  intro f
  induction f with
  | zero => intro i k n h o h1 h2; exact absurd h2 (by omega)
  | succ f ih =>
    intro i k n h o h1 h2 hk hn I
    have hk1 : k + 1 ≤ 601024 := by omega
    have hn1 : n + 6 ≤ 7293034 := by omega
    have hk0 : k ≤ 601024 := by omega
    have hn0 : n ≤ 7293034 := by omega
    refine al_iload (q := 4) C dL_law_23 rfl ?_
    refine al_aload_n (q := 0) C dL_law_25 rfl rfl ?_
    refine al_slen C dL_law_26 ?_
    refine al_bipush (z := 6) C dL_law_27 rfl ?_
    refine al_isub C dL_law_29 ?_
    refine al_icmp_gt (tgt := 1226) C dL_law_30 (by decide) (fun _ => ?_) (fun c0 => ?_)
    · refine al_iconst (z := 1) C dL_law_1226 rfl ?_
      exact al_ret C hk0 hn0 dL_law_1227
    · have hi : i + 6 ≤ L := by
        rcases Nat.lt_or_ge L (i + 6) with q | q
        · exfalso
          apply c0
          have e1 : Int32.ofNat L - 6 = iI ((L : Int) - 6) := by rw [iI_nat, ← iI_sub]; rfl
          have e2 : nI i = iI (i : Int) := iI_nat i
          rw [e1, e2]
          exact (iI_lt (by omega) (by omega)).mpr (by omega)
        · exact q
      have K : ∀ h' o' k' n', INV h' → k' ≤ k + 1 → n' ≤ n + 6 → al_S p l e s m below meth c b D cy ad qo  k' n' 1220 (al_ls b ad qo i) [] h' o' := fun h' o' k' n' I' a1 a2 => by
        refine al_iinc (q := 4) (y := nI (i + 6)) (ls' := [(4, .int (nI (i + 6))), (0, .ref b), (1, .ref (ad 0)), (2, .ref (ad 200)), (3, .ref qo)]) C dL_law_1220 rfl (al_nI i 6) (by decide) rfl ?_
        refine al_goto (tgt := 23) C dL_law_1223 (by decide) ?_
        exact al_sub (ks := [1, 2, 3, 4, 0]) C rfl (ih (i + 6) k' n' h' o' hi (by omega) (by omega) (by omega) I')
      have K1 : ∀ h', INV h' → al_S p l e s m below meth c b D cy ad qo  k n 1220 (al_ls b ad qo i) [] h' o := fun h' I' => K h' o k n I' (by omega) (by omega)
      refine al_aload_n (q := 0) C dL_law_33 rfl rfl ?_
      refine al_iload (q := 4) C dL_law_34 rfl ?_
      refine al_sld C (nI_in (by omega) (by omega)) dL_law_36 ?_
      rw [nI_clamp (by omega)]
      refine al_bipush (z := 31) C dL_law_37 rfl ?_
      refine al_iand C dL_law_39 ?_
      obtain ⟨v, hv, ev⟩ := and31 (xs i)
      rw [ev]
      match v, hv with
      | 0, _ => exact al_swIn (off := 132) (tgt := 172) C dL_law_40 (by decide) (by decide) (by decide) (by decide) (lc_feed C hi hk0 hn0 I K1)
      | 1, _ => exact al_swIn (off := 205) (tgt := 245) C dL_law_40 (by decide) (by decide) (by decide) (by decide) (lc_end C hi hk0 hn0 I K1)
      | 2, _ => exact al_swIn (off := 230) (tgt := 270) C dL_law_40 (by decide) (by decide) (by decide) (by decide) (lc_fault C hi hk0 hn0 I K1)
      | 3, _ => exact al_swIn (off := 255) (tgt := 295) C dL_law_40 (by decide) (by decide) (by decide) (by decide) (lc_text C hi hk0 hn0 I K1)
      | 4, _ => exact al_swIn (off := 280) (tgt := 320) C dL_law_40 (by decide) (by decide) (by decide) (by decide) (lc_yard C hZ hst hi hk1 hn1 I K)
      | 5, _ => exact al_swIn (off := 348) (tgt := 388) C dL_law_40 (by decide) (by decide) (by decide) (by decide) (lc_sort C hi hk0 hn0 I K1)
      | 6, _ => exact al_swIn (off := 385) (tgt := 425) C dL_law_40 (by decide) (by decide) (by decide) (by decide) (lc_rule C hi hk0 hn0 I K1)
      | 7, _ => exact al_swIn (off := 410) (tgt := 450) C dL_law_40 (by decide) (by decide) (by decide) (by decide) (lc_obey C hi hk0 hn0 I K1)
      | 8, _ => exact al_swIn (off := 435) (tgt := 475) C dL_law_40 (by decide) (by decide) (by decide) (by decide) (lc_fits C hi hk0 hn0 I K1)
      | 9, _ => exact al_swIn (off := 472) (tgt := 512) C dL_law_40 (by decide) (by decide) (by decide) (by decide) (lc_where C hi hk0 hn0 I K1)
      | 10, _ => exact al_swIn (off := 509) (tgt := 549) C dL_law_40 (by decide) (by decide) (by decide) (by decide) (lc_park C hi hk0 hn0 I K1)
      | 11, _ => exact al_swIn (off := 546) (tgt := 586) C dL_law_40 (by decide) (by decide) (by decide) (by decide) (lc_stop C hi hk0 hn0 I K1)
      | 12, _ => exact al_swIn (off := 583) (tgt := 623) C dL_law_40 (by decide) (by decide) (by decide) (by decide) (lc_leave C hi hk0 hn0 I K1)
      | 13, _ => exact al_swIn (off := 608) (tgt := 648) C dL_law_40 (by decide) (by decide) (by decide) (by decide) (lc_run C hi hk0 hn0 I K1)
      | 14, _ => exact al_swIn (off := 677) (tgt := 717) C dL_law_40 (by decide) (by decide) (by decide) (by decide) (lc_undo C hi hk0 hn0 I K1)
      | 15, _ => exact al_swIn (off := 690) (tgt := 730) C dL_law_40 (by decide) (by decide) (by decide) (by decide) (lc_mean C hi hk0 hn0 I K1)
      | 16, _ => exact al_swIn (off := 744) (tgt := 784) C dL_law_40 (by decide) (by decide) (by decide) (by decide) (lc_likely C hi hk0 hn0 I K1)
      | 17, _ => exact al_swIn (off := 782) (tgt := 822) C dL_law_40 (by decide) (by decide) (by decide) (by decide) (lc_ends C hi hk0 hn0 I K1)
      | 18, _ => exact al_swIn (off := 819) (tgt := 859) C dL_law_40 (by decide) (by decide) (by decide) (by decide) (lc_bays C hi hk0 hn0 I K1)
      | 19, _ => exact al_swIn (off := 856) (tgt := 896) C dL_law_40 (by decide) (by decide) (by decide) (by decide) (lc_hearse C hi hk0 hn0 I K1)
      | 20, _ => exact al_swIn (off := 893) (tgt := 933) C dL_law_40 (by decide) (by decide) (by decide) (by decide) (lc_gate C hi hk0 hn0 I K1)
      | 21, _ => exact al_swIn (off := 931) (tgt := 971) C dL_law_40 (by decide) (by decide) (by decide) (by decide) (lc_came C hi hk0 hn0 I K1)
      | 22, _ => exact al_swIn (off := 945) (tgt := 985) C dL_law_40 (by decide) (by decide) (by decide) (by decide) (lc_last C hi hk0 hn0 I K1)
      | 23, _ => exact al_swIn (off := 958) (tgt := 998) C dL_law_40 (by decide) (by decide) (by decide) (by decide) (lc_seek C hi hk0 hn0 I K1)
      | 24, _ => exact al_swIn (off := 1031) (tgt := 1071) C dL_law_40 (by decide) (by decide) (by decide) (by decide) (lc_take C hi hk0 hn0 I K1)
      | 25, _ => exact al_swIn (off := 1104) (tgt := 1144) C dL_law_40 (by decide) (by decide) (by decide) (by decide) (lc_gaps C hi hk0 hn0 I K1)
      | 26, _ => exact al_swIn (off := 1129) (tgt := 1169) C dL_law_40 (by decide) (by decide) (by decide) (by decide) (lc_image C hi hk0 hn0 I K1)
      | 27, _ => exact al_swIn (off := 1142) (tgt := 1182) C dL_law_40 (by decide) (by decide) (by decide) (by decide) (lc_back C hi hk0 hn0 I K1)
      | 28, _ => exact al_swIn (off := 1155) (tgt := 1195) C dL_law_40 (by decide) (by decide) (by decide) (by decide) (lc_count C hi hk0 hn0 I K1)
      | v + 29, hv =>
        refine al_swOut (tgt := 1220) C dL_law_40 (Or.inr ?_) (by decide) (K1 h I)
        rw [nI_toInt (by omega)]
        omega
end LOOP
