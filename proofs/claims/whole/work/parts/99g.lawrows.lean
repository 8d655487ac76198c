/-! MORE ROWS OF THE LAW'S FRAME -/
theorem lg_cmp_rf (x : Int64) : lg_cmp x x = 0 := by
  unfold lg_cmp
  rw [if_neg (by simp [Int64.lt_iff_toInt_lt]), if_pos rfl]
theorem and31 (x : Int32) : ∃ v : Nat, v < 32 ∧ x &&& 31 = nI v := ⟨_, Nat.mod_lt _ (by decide), pk_and x (m := 31) 5 (by decide)⟩
abbrev al_ls (b : Nat) (ad : Nat → Nat) (qo i : Nat) : ab_L := [(0, .ref b), (1, .ref (ad 0)), (2, .ref (ad 200)), (3, .ref qo), (4, .int (nI i))]
section LAW2
variable {p : Program} {l : Launch} {e : Env} {s : State} {m : MethodId} {below : List Frame} {meth : Method} {c : Code} {b L : Nat} {xs : Nat → Int32} {D : va_G} {cy : Nat → ClassId} {ad : Nat → Nat} {qo k n : Nat}
variable {pc : Nat} {ls : ab_L} {st : List Value} {h : ab_H} {o : Nat → Int64}
theorem al_i2l {x : Int32} (C : al_C p s m meth c b L xs D cy ad qo) (hd : decode code pc = .ok (.i2l, 1)) (kk : al_S p l e s m below meth c b D cy ad qo k n (pc + 1) ls (.long x.toInt64 :: st) h o) : al_S p l e s m below meth c b D cy ad qo k n pc ls (.int x :: st) h o := by
  intro H locs lsA hP hD hS hO hls
  obtain ⟨⟨hx, hb, hr, hml, hown, hts0, hX, hbl, hlk, hgv⟩, hts, hK, hqo, hL⟩ := id C
  exact lv_i2l hx hb hd rfl (kk H locs lsA hP hD hS hO hls)
theorem al_land {x y : Int64} (C : al_C p s m meth c b L xs D cy ad qo) (hd : decode code pc = .ok (.land, 1)) (kk : al_S p l e s m below meth c b D cy ad qo k n (pc + 1) ls (.long (x &&& y) :: st) h o) : al_S p l e s m below meth c b D cy ad qo k n pc ls (.long y :: .long x :: st) h o := by
  intro H locs lsA hP hD hS hO hls
  obtain ⟨⟨hx, hb, hr, hml, hown, hts0, hX, hbl, hlk, hgv⟩, hts, hK, hqo, hL⟩ := id C
  exact lv_land hx hb hd (kk H locs lsA hP hD hS hO hls)
theorem al_lor {x y : Int64} (C : al_C p s m meth c b L xs D cy ad qo) (hd : decode code pc = .ok (.lor, 1)) (kk : al_S p l e s m below meth c b D cy ad qo k n (pc + 1) ls (.long (x ||| y) :: st) h o) : al_S p l e s m below meth c b D cy ad qo k n pc ls (.long y :: .long x :: st) h o := by
  intro H locs lsA hP hD hS hO hls
  obtain ⟨⟨hx, hb, hr, hml, hown, hts0, hX, hbl, hlk, hgv⟩, hts, hK, hqo, hL⟩ := id C
  exact lv_lor hx hb hd (kk H locs lsA hP hD hS hO hls)
theorem al_lshl {x : Int64} {y : Int32} (C : al_C p s m meth c b L xs D cy ad qo) (hd : decode code pc = .ok (.lshl, 1)) (kk : al_S p l e s m below meth c b D cy ad qo k n (pc + 1) ls (.long (x <<< (y.toInt64 &&& 63)) :: st) h o) : al_S p l e s m below meth c b D cy ad qo k n pc ls (.int y :: .long x :: st) h o := by
  intro H locs lsA hP hD hS hO hls
  obtain ⟨⟨hx, hb, hr, hml, hown, hts0, hX, hbl, hlk, hgv⟩, hts, hK, hqo, hL⟩ := id C
  exact lv_lshl hx hb hd rfl (kk H locs lsA hP hD hS hO hls)
theorem al_lcmp {x y : Int64} (C : al_C p s m meth c b L xs D cy ad qo) (hd : decode code pc = .ok (.lcmp, 1)) (kk : al_S p l e s m below meth c b D cy ad qo k n (pc + 1) ls (.int (lg_cmp x y) :: st) h o) : al_S p l e s m below meth c b D cy ad qo k n pc ls (.long y :: .long x :: st) h o := by
  intro H locs lsA hP hD hS hO hls
  obtain ⟨⟨hx, hb, hr, hml, hown, hts0, hX, hbl, hlk, hgv⟩, hts, hK, hqo, hL⟩ := id C
  exact W.lcmp hx hb hd (kk H locs lsA hP hD hS hO hls)
theorem al_ldc2 {j : Nat} {v : Int64} (C : al_C p s m meth c b L xs D cy ad qo) (hd : decode code pc = .ok (.ldc2_w j, 3)) (hv : Cond.constantLong RL j v ∈ ab_T) (kk : al_S p l e s m below meth c b D cy ad qo k n (pc + 3) ls (.long v :: st) h o) : al_S p l e s m below meth c b D cy ad qo k n pc ls st h o := by
  intro H locs lsA hP hD hS hO hls
  obtain ⟨⟨hx, hb, hr, hml, hown, hts0, hX, hbl, hlk, hgv⟩, hts, hK, hqo, hL⟩ := id C
  exact lv_ldc2 hx hb hown (hts _ hv) hd (kk H locs lsA hP hD hS hO hls)
theorem al_if_eq {x : Int32} {off : Int} {tgt : Nat} (C : al_C p s m meth c b L xs D cy ad qo) (hd : decode code pc = .ok (.ifCond .eq off, 3)) (ht : (pc : Int) + off = (tgt : Int)) (k1 : x = 0 → al_S p l e s m below meth c b D cy ad qo k n tgt ls st h o) (k2 : ¬ x = 0 → al_S p l e s m below meth c b D cy ad qo k n (pc + 3) ls st h o) : al_S p l e s m below meth c b D cy ad qo k n pc ls (.int x :: st) h o := by
  intro H locs lsA hP hD hS hO hls
  obtain ⟨⟨hx, hb, hr, hml, hown, hts0, hX, hbl, hlk, hgv⟩, hts, hK, hqo, hL⟩ := id C
  exact lv_if_eq hx hb hd ht (fun q => k1 q H locs lsA hP hD hS hO hls) (fun q => k2 q H locs lsA hP hD hS hO hls)
theorem al_if_ne {x : Int32} {off : Int} {tgt : Nat} (C : al_C p s m meth c b L xs D cy ad qo) (hd : decode code pc = .ok (.ifCond .ne off, 3)) (ht : (pc : Int) + off = (tgt : Int)) (k1 : ¬ x = 0 → al_S p l e s m below meth c b D cy ad qo k n tgt ls st h o) (k2 : x = 0 → al_S p l e s m below meth c b D cy ad qo k n (pc + 3) ls st h o) : al_S p l e s m below meth c b D cy ad qo k n pc ls (.int x :: st) h o := by
  intro H locs lsA hP hD hS hO hls
  obtain ⟨⟨hx, hb, hr, hml, hown, hts0, hX, hbl, hlk, hgv⟩, hts, hK, hqo, hL⟩ := id C
  exact lv_if_ne hx hb hd ht (fun q => k1 q H locs lsA hP hD hS hO hls) (fun q => k2 q H locs lsA hP hD hS hO hls)
theorem al_swIn {df lo hi : Int} {offs : Array Int} {len : Nat} {x : Int32} {off : Int} {tgt : Nat} (C : al_C p s m meth c b L xs D cy ad qo) (hd : decode code pc = .ok (.tableswitch df lo hi offs, len)) (h1 : ¬ x.toInt < lo) (h2 : ¬ hi < x.toInt) (ho : offs[(x.toInt - lo).toNat]? = some off) (ht : (pc : Int) + off = (tgt : Int)) (kk : al_S p l e s m below meth c b D cy ad qo k n tgt ls st h o) : al_S p l e s m below meth c b D cy ad qo k n pc ls (.int x :: st) h o := by
  intro H locs lsA hP hD hS hO hls
  obtain ⟨⟨hx, hb, hr, hml, hown, hts0, hX, hbl, hlk, hgv⟩, hts, hK, hqo, hL⟩ := id C
  exact lv_tableIn hx hb hd h1 h2 ho ht (kk H locs lsA hP hD hS hO hls)
theorem al_swOut {df lo hi : Int} {offs : Array Int} {len : Nat} {x : Int32} {tgt : Nat} (C : al_C p s m meth c b L xs D cy ad qo) (hd : decode code pc = .ok (.tableswitch df lo hi offs, len)) (h1 : x.toInt < lo ∨ hi < x.toInt) (ht : (pc : Int) + df = (tgt : Int)) (kk : al_S p l e s m below meth c b D cy ad qo k n tgt ls st h o) : al_S p l e s m below meth c b D cy ad qo k n pc ls (.int x :: st) h o := by
  intro H locs lsA hP hD hS hO hls
  obtain ⟨⟨hx, hb, hr, hml, hown, hts0, hX, hbl, hlk, hgv⟩, hts, hK, hqo, hL⟩ := id C
  exact lv_tableOut hx hb hd h1 ht (kk H locs lsA hP hD hS hO hls)
theorem al_istore {i : Nat} {x : Int32} {ls' : ab_L} (C : al_C p s m meth c b L xs D cy ad qo) (hd : decode code pc = .ok (.istore i, 2)) (hn : i < 7) (hl : ab_st1 i (.int x) ls = ls') (kk : al_S p l e s m below meth c b D cy ad qo k n (pc + 2) ls' st h o) : al_S p l e s m below meth c b D cy ad qo k n pc ls (.int x :: st) h o := by
  intro H locs lsA hP hD hS hO hls
  obtain ⟨⟨hx, hb, hr, hml, hown, hts0, hX, hbl, hlk, hgv⟩, hts, hK, hqo, hL⟩ := id C
  subst hl
  exact lv_istore hx hb hd hls hn rfl (fun ls' hl' => kk H locs ls' hP hD hS hO hl')
theorem al_out0 {i : Int32} (C : al_C p s m meth c b L xs D cy ad qo) (hi : i = 0) (hd : decode code pc = .ok (.laload, 1)) (kk : al_S p l e s m below meth c b D cy ad qo k n (pc + 1) ls (.long (o 0) :: st) h o) : al_S p l e s m below meth c b D cy ad qo k n pc ls (.int i :: .ref qo :: st) h o := by
  intro H locs lsA hP hD hS hO hls
  obtain ⟨⟨hx, hb, hr, hml, hown, hts0, hX, hbl, hlk, hgv⟩, hts, hK, hqo, hL⟩ := id C
  subst hi
  exact va_lald (D := D) (cl := vwCl) (ws := [(qo, .inl (cy 21, 1, .inr (.inl o)))]) (f := o) hx hb hK.1 (fun k9 x9 h9 => by
    have h0 : k9 < 1 := (List.getElem?_eq_some_iff.mp h9).1
    rw [show k9 = 0 by omega] at h9
    cases h9
    exact hO) 0 1 rfl rfl (by unfold vp_in; decide) hd (kk H locs lsA hP hD hS hO hls)
end LAW2
