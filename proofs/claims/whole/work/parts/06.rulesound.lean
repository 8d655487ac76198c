section ABS
variable {l : Launch} {D : va_G} {cy : Nat → ClassId} {ad : Nat → Nat} {A : Nat → Prop}
theorem ab_s_iconst : ab_r_iconst (ab_S l D cy ad A) := by
  intro d M pc ls st h Q n v hd hv kk
  intro p e R s m args below meth c H locs lsA C hP hD hS hls
  obtain ⟨hx, hb, hml, hr, hown, hts, hlk, hfr, hlo, hK⟩ := id C
  exact lv_iconst hx hb hd hv (kk p e R s m args below meth c H locs lsA C hP hD hS hls)
theorem ab_s_bipush : ab_r_bipush (ab_S l D cy ad A) := by
  intro d M pc ls st h Q n v hd hv kk
  intro p e R s m args below meth c H locs lsA C hP hD hS hls
  obtain ⟨hx, hb, hml, hr, hown, hts, hlk, hfr, hlo, hK⟩ := id C
  exact lv_bipush hx hb hd hv (kk p e R s m args below meth c H locs lsA C hP hD hS hls)
theorem ab_s_sipush : ab_r_sipush (ab_S l D cy ad A) := by
  intro d M pc ls st h Q n v hd hv kk
  intro p e R s m args below meth c H locs lsA C hP hD hS hls
  obtain ⟨hx, hb, hml, hr, hown, hts, hlk, hfr, hlo, hK⟩ := id C
  exact lv_sipush hx hb hd hv (kk p e R s m args below meth c H locs lsA C hP hD hS hls)
theorem ab_s_lconst : ab_r_lconst (ab_S l D cy ad A) := by
  intro d M pc ls st h Q n v hd hv kk
  intro p e R s m args below meth c H locs lsA C hP hD hS hls
  obtain ⟨hx, hb, hml, hr, hown, hts, hlk, hfr, hlo, hK⟩ := id C
  exact lv_lconst hx hb hd hv (kk p e R s m args below meth c H locs lsA C hP hD hS hls)
theorem ab_s_ldcw : ab_r_ldcw (ab_S l D cy ad A) := by
  intro d M pc ls st h Q n v hd hv kk
  intro p e R s m args below meth c H locs lsA C hP hD hS hls
  obtain ⟨hx, hb, hml, hr, hown, hts, hlk, hfr, hlo, hK⟩ := id C
  exact lv_ldcw hx hb hown (hts _ hv) hd (kk p e R s m args below meth c H locs lsA C hP hD hS hls)
theorem ab_s_ldc2 : ab_r_ldc2 (ab_S l D cy ad A) := by
  intro d M pc ls st h Q n v hd hv kk
  intro p e R s m args below meth c H locs lsA C hP hD hS hls
  obtain ⟨hx, hb, hml, hr, hown, hts, hlk, hfr, hlo, hK⟩ := id C
  exact lv_ldc2 hx hb hown (hts _ hv) hd (kk p e R s m args below meth c H locs lsA C hP hD hS hls)
theorem ab_s_ldcs : ab_r_ldcs (ab_S l D cy ad A) := by
  intro d M pc ls st h Q n j hd hv kk
  intro p e R s m args below meth c H locs lsA C hP hD hS hls
  obtain ⟨hx, hb, hml, hr, hown, hts, hlk, hfr, hlo, hK⟩ := id C
  exact va_ldcS hx hb hown (hK.2.2.2.2.1 _ hv) hd (kk p e R s m args below meth c H locs lsA C hP hD hS hls)
theorem ab_s_iload_n : ab_r_iload_n (ab_S l D cy ad A) := by
  intro d M pc ls st h Q j i k x hd hi hl kk
  intro p e R s m args below meth c H locs lsA C hP hD hS hls
  obtain ⟨hx, hb, hml, hr, hown, hts, hlk, hfr, hlo, hK⟩ := id C
  exact lv_iload_n hx hb hd hi (lv_at hls k (ab_lm_get hl)) (kk p e R s m args below meth c H locs lsA C hP hD hS hls)
theorem ab_s_iload : ab_r_iload (ab_S l D cy ad A) := by
  intro d M pc ls st h Q i k x hd hl kk
  intro p e R s m args below meth c H locs lsA C hP hD hS hls
  obtain ⟨hx, hb, hml, hr, hown, hts, hlk, hfr, hlo, hK⟩ := id C
  exact lv_iload hx hb hd (lv_at hls k (ab_lm_get hl)) (kk p e R s m args below meth c H locs lsA C hP hD hS hls)
theorem ab_s_istore_n : ab_r_istore_n (ab_S l D cy ad A) := by
  intro d M pc ls st h Q j i x ls' hd hi hn hl kk
  subst hl
  intro p e R s m args below meth c H locs lsA C hP hD hS hls
  obtain ⟨hx, hb, hml, hr, hown, hts, hlk, hfr, hlo, hK⟩ := id C
  exact lv_istore_n hx hb hd hi hls hn (ab_lm_st1 ad i (.int x) ls).symm (fun ls' hl' => kk p e R s m args below meth c H locs ls' C hP hD hS hl')
theorem ab_s_istore : ab_r_istore (ab_S l D cy ad A) := by
  intro d M pc ls st h Q i x ls' hd hn hl kk
  subst hl
  intro p e R s m args below meth c H locs lsA C hP hD hS hls
  obtain ⟨hx, hb, hml, hr, hown, hts, hlk, hfr, hlo, hK⟩ := id C
  exact lv_istore hx hb hd hls hn (ab_lm_st1 ad i (.int x) ls).symm (fun ls' hl' => kk p e R s m args below meth c H locs ls' C hP hD hS hl')
theorem ab_s_lload_n : ab_r_lload_n (ab_S l D cy ad A) := by
  intro d M pc ls st h Q j i k x hd hi hl kk
  intro p e R s m args below meth c H locs lsA C hP hD hS hls
  obtain ⟨hx, hb, hml, hr, hown, hts, hlk, hfr, hlo, hK⟩ := id C
  exact lv_lload_n hx hb hd hi (lv_at hls k (ab_lm_get hl)) (kk p e R s m args below meth c H locs lsA C hP hD hS hls)
theorem ab_s_lload : ab_r_lload (ab_S l D cy ad A) := by
  intro d M pc ls st h Q i k x hd hl kk
  intro p e R s m args below meth c H locs lsA C hP hD hS hls
  obtain ⟨hx, hb, hml, hr, hown, hts, hlk, hfr, hlo, hK⟩ := id C
  exact lv_lload hx hb hd (lv_at hls k (ab_lm_get hl)) (kk p e R s m args below meth c H locs lsA C hP hD hS hls)
theorem ab_s_lstore_n : ab_r_lstore_n (ab_S l D cy ad A) := by
  intro d M pc ls st h Q j i x ls' hd hi hn hl kk
  subst hl
  intro p e R s m args below meth c H locs lsA C hP hD hS hls
  obtain ⟨hx, hb, hml, hr, hown, hts, hlk, hfr, hlo, hK⟩ := id C
  exact lv_lstore_n hx hb hd hi hls hn (ab_lm_st2 ad i (.long x) ls).symm (fun ls' hl' => kk p e R s m args below meth c H locs ls' C hP hD hS hl')
theorem ab_s_lstore : ab_r_lstore (ab_S l D cy ad A) := by
  intro d M pc ls st h Q i x ls' hd hn hl kk
  subst hl
  intro p e R s m args below meth c H locs lsA C hP hD hS hls
  obtain ⟨hx, hb, hml, hr, hown, hts, hlk, hfr, hlo, hK⟩ := id C
  exact lv_lstore hx hb hd hls hn (ab_lm_st2 ad i (.long x) ls).symm (fun ls' hl' => kk p e R s m args below meth c H locs ls' C hP hD hS hl')
theorem ab_s_aload_n : ab_r_aload_n (ab_S l D cy ad A) := by
  intro d M pc ls st h Q j i k x hd hi hl kk
  intro p e R s m args below meth c H locs lsA C hP hD hS hls
  obtain ⟨hx, hb, hml, hr, hown, hts, hlk, hfr, hlo, hK⟩ := id C
  exact lv_aload_n hx hb hd hi (lv_at hls k (ab_lm_get hl)) (kk p e R s m args below meth c H locs lsA C hP hD hS hls)
theorem ab_s_aload : ab_r_aload (ab_S l D cy ad A) := by
  intro d M pc ls st h Q i k x hd hl kk
  intro p e R s m args below meth c H locs lsA C hP hD hS hls
  obtain ⟨hx, hb, hml, hr, hown, hts, hlk, hfr, hlo, hK⟩ := id C
  exact lv_aload hx hb hd (lv_at hls k (ab_lm_get hl)) (kk p e R s m args below meth c H locs lsA C hP hD hS hls)
theorem ab_s_astore_n : ab_r_astore_n (ab_S l D cy ad A) := by
  intro d M pc ls st h Q j i x ls' hd hi hn hl kk
  subst hl
  intro p e R s m args below meth c H locs lsA C hP hD hS hls
  obtain ⟨hx, hb, hml, hr, hown, hts, hlk, hfr, hlo, hK⟩ := id C
  exact lv_astore_n hx hb hd hi hls hn (ab_lm_st1 ad i (.ref x) ls).symm (fun ls' hl' => kk p e R s m args below meth c H locs ls' C hP hD hS hl')
theorem ab_s_astore : ab_r_astore (ab_S l D cy ad A) := by
  intro d M pc ls st h Q i x ls' hd hn hl kk
  subst hl
  intro p e R s m args below meth c H locs lsA C hP hD hS hls
  obtain ⟨hx, hb, hml, hr, hown, hts, hlk, hfr, hlo, hK⟩ := id C
  exact lv_astore hx hb hd hls hn (ab_lm_st1 ad i (.ref x) ls).symm (fun ls' hl' => kk p e R s m args below meth c H locs ls' C hP hD hS hl')
theorem ab_s_iinc : ab_r_iinc (ab_S l D cy ad A) := by
  intro d M pc ls st h Q i k n x v ls' hd hk hv hn hl kk
  subst hl
  intro p e R s m args below meth c H locs lsA C hP hD hS hls
  obtain ⟨hx, hb, hml, hr, hown, hts, hlk, hfr, hlo, hK⟩ := id C
  exact lv_iinc hx hb hd hls (ab_lm_get hk) hv hn (ab_lm_st1 ad i (.int v) ls).symm (fun ls' hl' => kk p e R s m args below meth c H locs ls' C hP hD hS hl')
theorem ab_s_iadd : ab_r_iadd (ab_S l D cy ad A) := by
  intro d M pc ls st h Q x y hd kk
  intro p e R s m args below meth c H locs lsA C hP hD hS hls
  obtain ⟨hx, hb, hml, hr, hown, hts, hlk, hfr, hlo, hK⟩ := id C
  exact lv_iadd hx hb hd (kk p e R s m args below meth c H locs lsA C hP hD hS hls)
theorem ab_s_isub : ab_r_isub (ab_S l D cy ad A) := by
  intro d M pc ls st h Q x y hd kk
  intro p e R s m args below meth c H locs lsA C hP hD hS hls
  obtain ⟨hx, hb, hml, hr, hown, hts, hlk, hfr, hlo, hK⟩ := id C
  exact lv_isub hx hb hd (kk p e R s m args below meth c H locs lsA C hP hD hS hls)
theorem ab_s_imul : ab_r_imul (ab_S l D cy ad A) := by
  intro d M pc ls st h Q x y hd kk
  intro p e R s m args below meth c H locs lsA C hP hD hS hls
  obtain ⟨hx, hb, hml, hr, hown, hts, hlk, hfr, hlo, hK⟩ := id C
  exact lv_imul hx hb hd (kk p e R s m args below meth c H locs lsA C hP hD hS hls)
theorem ab_s_iand : ab_r_iand (ab_S l D cy ad A) := by
  intro d M pc ls st h Q x y hd kk
  intro p e R s m args below meth c H locs lsA C hP hD hS hls
  obtain ⟨hx, hb, hml, hr, hown, hts, hlk, hfr, hlo, hK⟩ := id C
  exact lv_iand hx hb hd (kk p e R s m args below meth c H locs lsA C hP hD hS hls)
theorem ab_s_ior : ab_r_ior (ab_S l D cy ad A) := by
  intro d M pc ls st h Q x y hd kk
  intro p e R s m args below meth c H locs lsA C hP hD hS hls
  obtain ⟨hx, hb, hml, hr, hown, hts, hlk, hfr, hlo, hK⟩ := id C
  exact lv_ior hx hb hd (kk p e R s m args below meth c H locs lsA C hP hD hS hls)
theorem ab_s_ixor : ab_r_ixor (ab_S l D cy ad A) := by
  intro d M pc ls st h Q x y hd kk
  intro p e R s m args below meth c H locs lsA C hP hD hS hls
  obtain ⟨hx, hb, hml, hr, hown, hts, hlk, hfr, hlo, hK⟩ := id C
  exact lv_ixor hx hb hd (kk p e R s m args below meth c H locs lsA C hP hD hS hls)
theorem ab_s_ishl : ab_r_ishl (ab_S l D cy ad A) := by
  intro d M pc ls st h Q x y hd kk
  intro p e R s m args below meth c H locs lsA C hP hD hS hls
  obtain ⟨hx, hb, hml, hr, hown, hts, hlk, hfr, hlo, hK⟩ := id C
  exact lv_ishl hx hb hd (kk p e R s m args below meth c H locs lsA C hP hD hS hls)
theorem ab_s_ishr : ab_r_ishr (ab_S l D cy ad A) := by
  intro d M pc ls st h Q x y hd kk
  intro p e R s m args below meth c H locs lsA C hP hD hS hls
  obtain ⟨hx, hb, hml, hr, hown, hts, hlk, hfr, hlo, hK⟩ := id C
  exact lv_ishr hx hb hd (kk p e R s m args below meth c H locs lsA C hP hD hS hls)
theorem ab_s_ladd : ab_r_ladd (ab_S l D cy ad A) := by
  intro d M pc ls st h Q x y hd kk
  intro p e R s m args below meth c H locs lsA C hP hD hS hls
  obtain ⟨hx, hb, hml, hr, hown, hts, hlk, hfr, hlo, hK⟩ := id C
  exact lv_ladd hx hb hd (kk p e R s m args below meth c H locs lsA C hP hD hS hls)
theorem ab_s_lsub : ab_r_lsub (ab_S l D cy ad A) := by
  intro d M pc ls st h Q x y hd kk
  intro p e R s m args below meth c H locs lsA C hP hD hS hls
  obtain ⟨hx, hb, hml, hr, hown, hts, hlk, hfr, hlo, hK⟩ := id C
  exact lv_lsub hx hb hd (kk p e R s m args below meth c H locs lsA C hP hD hS hls)
theorem ab_s_lmul : ab_r_lmul (ab_S l D cy ad A) := by
  intro d M pc ls st h Q x y hd kk
  intro p e R s m args below meth c H locs lsA C hP hD hS hls
  obtain ⟨hx, hb, hml, hr, hown, hts, hlk, hfr, hlo, hK⟩ := id C
  exact lv_lmul hx hb hd (kk p e R s m args below meth c H locs lsA C hP hD hS hls)
theorem ab_s_land : ab_r_land (ab_S l D cy ad A) := by
  intro d M pc ls st h Q x y hd kk
  intro p e R s m args below meth c H locs lsA C hP hD hS hls
  obtain ⟨hx, hb, hml, hr, hown, hts, hlk, hfr, hlo, hK⟩ := id C
  exact lv_land hx hb hd (kk p e R s m args below meth c H locs lsA C hP hD hS hls)
theorem ab_s_lor : ab_r_lor (ab_S l D cy ad A) := by
  intro d M pc ls st h Q x y hd kk
  intro p e R s m args below meth c H locs lsA C hP hD hS hls
  obtain ⟨hx, hb, hml, hr, hown, hts, hlk, hfr, hlo, hK⟩ := id C
  exact lv_lor hx hb hd (kk p e R s m args below meth c H locs lsA C hP hD hS hls)
theorem ab_s_iushr : ab_r_iushr (ab_S l D cy ad A) := by
  intro d M pc ls st h Q x y hd kk
  intro p e R s m args below meth c H locs lsA C hP hD hS hls
  obtain ⟨hx, hb, hml, hr, hown, hts, hlk, hfr, hlo, hK⟩ := id C
  exact lv_iushr hx hb hd rfl (kk p e R s m args below meth c H locs lsA C hP hD hS hls)
theorem ab_s_lushr : ab_r_lushr (ab_S l D cy ad A) := by
  intro d M pc ls st h Q x y hd kk
  intro p e R s m args below meth c H locs lsA C hP hD hS hls
  obtain ⟨hx, hb, hml, hr, hown, hts, hlk, hfr, hlo, hK⟩ := id C
  exact lv_lushr hx hb hd rfl (kk p e R s m args below meth c H locs lsA C hP hD hS hls)
theorem ab_s_lshl : ab_r_lshl (ab_S l D cy ad A) := by
  intro d M pc ls st h Q x y hd kk
  intro p e R s m args below meth c H locs lsA C hP hD hS hls
  obtain ⟨hx, hb, hml, hr, hown, hts, hlk, hfr, hlo, hK⟩ := id C
  exact lv_lshl hx hb hd rfl (kk p e R s m args below meth c H locs lsA C hP hD hS hls)
theorem ab_s_idiv : ab_r_idiv (ab_S l D cy ad A) := by
  intro d M pc ls st h Q x y hd hy kk
  intro p e R s m args below meth c H locs lsA C hP hD hS hls
  obtain ⟨hx, hb, hml, hr, hown, hts, hlk, hfr, hlo, hK⟩ := id C
  exact lv_idiv hx hb hd hy (kk p e R s m args below meth c H locs lsA C hP hD hS hls)
theorem ab_s_irem : ab_r_irem (ab_S l D cy ad A) := by
  intro d M pc ls st h Q x y hd hy kk
  intro p e R s m args below meth c H locs lsA C hP hD hS hls
  obtain ⟨hx, hb, hml, hr, hown, hts, hlk, hfr, hlo, hK⟩ := id C
  exact lv_irem hx hb hd hy (kk p e R s m args below meth c H locs lsA C hP hD hS hls)
theorem ab_s_ldiv : ab_r_ldiv (ab_S l D cy ad A) := by
  intro d M pc ls st h Q x y hd hy kk
  intro p e R s m args below meth c H locs lsA C hP hD hS hls
  obtain ⟨hx, hb, hml, hr, hown, hts, hlk, hfr, hlo, hK⟩ := id C
  exact lv_ldiv hx hb hd hy (kk p e R s m args below meth c H locs lsA C hP hD hS hls)
theorem ab_s_lrem : ab_r_lrem (ab_S l D cy ad A) := by
  intro d M pc ls st h Q x y hd hy kk
  intro p e R s m args below meth c H locs lsA C hP hD hS hls
  obtain ⟨hx, hb, hml, hr, hown, hts, hlk, hfr, hlo, hK⟩ := id C
  exact lv_lrem hx hb hd hy (kk p e R s m args below meth c H locs lsA C hP hD hS hls)
theorem ab_s_ineg : ab_r_ineg (ab_S l D cy ad A) := by
  intro d M pc ls st h Q x hd kk
  intro p e R s m args below meth c H locs lsA C hP hD hS hls
  obtain ⟨hx, hb, hml, hr, hown, hts, hlk, hfr, hlo, hK⟩ := id C
  exact lv_ineg hx hb hd (kk p e R s m args below meth c H locs lsA C hP hD hS hls)
theorem ab_s_lcmp : ab_r_lcmp (ab_S l D cy ad A) := by
  intro d M pc ls st h Q x y hd kk
  intro p e R s m args below meth c H locs lsA C hP hD hS hls
  obtain ⟨hx, hb, hml, hr, hown, hts, hlk, hfr, hlo, hK⟩ := id C
  exact W.lcmp hx hb hd (kk p e R s m args below meth c H locs lsA C hP hD hS hls)
theorem ab_s_i2l : ab_r_i2l (ab_S l D cy ad A) := by
  intro d M pc ls st h Q x hd kk
  intro p e R s m args below meth c H locs lsA C hP hD hS hls
  obtain ⟨hx, hb, hml, hr, hown, hts, hlk, hfr, hlo, hK⟩ := id C
  exact lv_i2l hx hb hd rfl (kk p e R s m args below meth c H locs lsA C hP hD hS hls)
theorem ab_s_l2i : ab_r_l2i (ab_S l D cy ad A) := by
  intro d M pc ls st h Q x hd kk
  intro p e R s m args below meth c H locs lsA C hP hD hS hls
  obtain ⟨hx, hb, hml, hr, hown, hts, hlk, hfr, hlo, hK⟩ := id C
  exact lv_l2i hx hb hd rfl (kk p e R s m args below meth c H locs lsA C hP hD hS hls)
theorem ab_s_i2b : ab_r_i2b (ab_S l D cy ad A) := by
  intro d M pc ls st h Q x hd kk
  intro p e R s m args below meth c H locs lsA C hP hD hS hls
  obtain ⟨hx, hb, hml, hr, hown, hts, hlk, hfr, hlo, hK⟩ := id C
  exact lv_i2b hx hb hd rfl (kk p e R s m args below meth c H locs lsA C hP hD hS hls)
theorem ab_s_dup : ab_r_dup (ab_S l D cy ad A) := by
  intro d M pc ls st h Q v hd hc kk
  intro p e R s m args below meth c H locs lsA C hP hD hS hls
  obtain ⟨hx, hb, hml, hr, hown, hts, hlk, hfr, hlo, hK⟩ := id C
  exact lv_dup hx hb hd (by rw [ab_cv_cat]; exact hc) (kk p e R s m args below meth c H locs lsA C hP hD hS hls)
theorem ab_s_pop : ab_r_pop (ab_S l D cy ad A) := by
  intro d M pc ls st h Q v hd hc kk
  intro p e R s m args below meth c H locs lsA C hP hD hS hls
  obtain ⟨hx, hb, hml, hr, hown, hts, hlk, hfr, hlo, hK⟩ := id C
  exact lv_pop hx hb hd (by rw [ab_cv_cat]; exact hc) (kk p e R s m args below meth c H locs lsA C hP hD hS hls)
theorem ab_s_dup2 : ab_r_dup2 (ab_S l D cy ad A) := by
  intro d M pc ls st h Q v w hd hc hw kk
  intro p e R s m args below meth c H locs lsA C hP hD hS hls
  obtain ⟨hx, hb, hml, hr, hown, hts, hlk, hfr, hlo, hK⟩ := id C
  exact lv_dup2_11 hx hb hd (by rw [ab_cv_cat]; exact hc) (by rw [ab_cv_cat]; exact hw) (kk p e R s m args below meth c H locs lsA C hP hD hS hls)
theorem ab_s_dup2l : ab_r_dup2l (ab_S l D cy ad A) := by
  intro d M pc ls st h Q v hd hc kk
  intro p e R s m args below meth c H locs lsA C hP hD hS hls
  obtain ⟨hx, hb, hml, hr, hown, hts, hlk, hfr, hlo, hK⟩ := id C
  exact lv_dup2_2 hx hb hd (by rw [ab_cv_cat]; exact hc) (kk p e R s m args below meth c H locs lsA C hP hD hS hls)
theorem ab_s_if_eq : ab_r_if_eq (ab_S l D cy ad A) := by
  intro d M pc ls st h Q x off tgt hd ht k1 k2
  intro p e R s m args below meth c H locs lsA C hP hD hS hls
  obtain ⟨hx, hb, hml, hr, hown, hts, hlk, hfr, hlo, hK⟩ := id C
  exact lv_if_eq hx hb hd ht (fun q => k1 q p e R s m args below meth c H locs lsA C hP hD hS hls) (fun q => k2 q p e R s m args below meth c H locs lsA C hP hD hS hls)
theorem ab_s_if_ne : ab_r_if_ne (ab_S l D cy ad A) := by
  intro d M pc ls st h Q x off tgt hd ht k1 k2
  intro p e R s m args below meth c H locs lsA C hP hD hS hls
  obtain ⟨hx, hb, hml, hr, hown, hts, hlk, hfr, hlo, hK⟩ := id C
  exact lv_if_ne hx hb hd ht (fun q => k1 q p e R s m args below meth c H locs lsA C hP hD hS hls) (fun q => k2 q p e R s m args below meth c H locs lsA C hP hD hS hls)
theorem ab_s_if_lt : ab_r_if_lt (ab_S l D cy ad A) := by
  intro d M pc ls st h Q x off tgt hd ht k1 k2
  intro p e R s m args below meth c H locs lsA C hP hD hS hls
  obtain ⟨hx, hb, hml, hr, hown, hts, hlk, hfr, hlo, hK⟩ := id C
  exact lv_if_lt hx hb hd ht (fun q => k1 q p e R s m args below meth c H locs lsA C hP hD hS hls) (fun q => k2 q p e R s m args below meth c H locs lsA C hP hD hS hls)
theorem ab_s_if_ge : ab_r_if_ge (ab_S l D cy ad A) := by
  intro d M pc ls st h Q x off tgt hd ht k1 k2
  intro p e R s m args below meth c H locs lsA C hP hD hS hls
  obtain ⟨hx, hb, hml, hr, hown, hts, hlk, hfr, hlo, hK⟩ := id C
  exact lv_if_ge hx hb hd ht (fun q => k1 q p e R s m args below meth c H locs lsA C hP hD hS hls) (fun q => k2 q p e R s m args below meth c H locs lsA C hP hD hS hls)
theorem ab_s_if_gt : ab_r_if_gt (ab_S l D cy ad A) := by
  intro d M pc ls st h Q x off tgt hd ht k1 k2
  intro p e R s m args below meth c H locs lsA C hP hD hS hls
  obtain ⟨hx, hb, hml, hr, hown, hts, hlk, hfr, hlo, hK⟩ := id C
  exact lv_if_gt hx hb hd ht (fun q => k1 q p e R s m args below meth c H locs lsA C hP hD hS hls) (fun q => k2 q p e R s m args below meth c H locs lsA C hP hD hS hls)
theorem ab_s_if_le : ab_r_if_le (ab_S l D cy ad A) := by
  intro d M pc ls st h Q x off tgt hd ht k1 k2
  intro p e R s m args below meth c H locs lsA C hP hD hS hls
  obtain ⟨hx, hb, hml, hr, hown, hts, hlk, hfr, hlo, hK⟩ := id C
  exact lv_if_le hx hb hd ht (fun q => k1 q p e R s m args below meth c H locs lsA C hP hD hS hls) (fun q => k2 q p e R s m args below meth c H locs lsA C hP hD hS hls)
theorem ab_s_icmp_eq : ab_r_icmp_eq (ab_S l D cy ad A) := by
  intro d M pc ls st h Q x y off tgt hd ht k1 k2
  intro p e R s m args below meth c H locs lsA C hP hD hS hls
  obtain ⟨hx, hb, hml, hr, hown, hts, hlk, hfr, hlo, hK⟩ := id C
  exact lv_icmp_eq hx hb hd ht (fun q => k1 q p e R s m args below meth c H locs lsA C hP hD hS hls) (fun q => k2 q p e R s m args below meth c H locs lsA C hP hD hS hls)
theorem ab_s_icmp_ne : ab_r_icmp_ne (ab_S l D cy ad A) := by
  intro d M pc ls st h Q x y off tgt hd ht k1 k2
  intro p e R s m args below meth c H locs lsA C hP hD hS hls
  obtain ⟨hx, hb, hml, hr, hown, hts, hlk, hfr, hlo, hK⟩ := id C
  exact lv_icmp_ne hx hb hd ht (fun q => k1 q p e R s m args below meth c H locs lsA C hP hD hS hls) (fun q => k2 q p e R s m args below meth c H locs lsA C hP hD hS hls)
theorem ab_s_icmp_lt : ab_r_icmp_lt (ab_S l D cy ad A) := by
  intro d M pc ls st h Q x y off tgt hd ht k1 k2
  intro p e R s m args below meth c H locs lsA C hP hD hS hls
  obtain ⟨hx, hb, hml, hr, hown, hts, hlk, hfr, hlo, hK⟩ := id C
  exact lv_icmp_lt hx hb hd ht (fun q => k1 q p e R s m args below meth c H locs lsA C hP hD hS hls) (fun q => k2 q p e R s m args below meth c H locs lsA C hP hD hS hls)
theorem ab_s_icmp_ge : ab_r_icmp_ge (ab_S l D cy ad A) := by
  intro d M pc ls st h Q x y off tgt hd ht k1 k2
  intro p e R s m args below meth c H locs lsA C hP hD hS hls
  obtain ⟨hx, hb, hml, hr, hown, hts, hlk, hfr, hlo, hK⟩ := id C
  exact lv_icmp_ge hx hb hd ht (fun q => k1 q p e R s m args below meth c H locs lsA C hP hD hS hls) (fun q => k2 q p e R s m args below meth c H locs lsA C hP hD hS hls)
theorem ab_s_icmp_gt : ab_r_icmp_gt (ab_S l D cy ad A) := by
  intro d M pc ls st h Q x y off tgt hd ht k1 k2
  intro p e R s m args below meth c H locs lsA C hP hD hS hls
  obtain ⟨hx, hb, hml, hr, hown, hts, hlk, hfr, hlo, hK⟩ := id C
  exact lv_icmp_gt hx hb hd ht (fun q => k1 q p e R s m args below meth c H locs lsA C hP hD hS hls) (fun q => k2 q p e R s m args below meth c H locs lsA C hP hD hS hls)
theorem ab_s_icmp_le : ab_r_icmp_le (ab_S l D cy ad A) := by
  intro d M pc ls st h Q x y off tgt hd ht k1 k2
  intro p e R s m args below meth c H locs lsA C hP hD hS hls
  obtain ⟨hx, hb, hml, hr, hown, hts, hlk, hfr, hlo, hK⟩ := id C
  exact lv_icmp_le hx hb hd ht (fun q => k1 q p e R s m args below meth c H locs lsA C hP hD hS hls) (fun q => k2 q p e R s m args below meth c H locs lsA C hP hD hS hls)
theorem ab_s_goto : ab_r_goto (ab_S l D cy ad A) := by
  intro d M pc ls st h Q off tgt hd ht kk
  intro p e R s m args below meth c H locs lsA C hP hD hS hls
  obtain ⟨hx, hb, hml, hr, hown, hts, hlk, hfr, hlo, hK⟩ := id C
  exact lv_goto hx hb hd ht (kk p e R s m args below meth c H locs lsA C hP hD hS hls)
theorem ab_s_swOut : ab_r_swOut (ab_S l D cy ad A) := by
  intro d M pc ls st h Q df lo hi offs len x tgt hd hx1 ht kk
  intro p e R s m args below meth c H locs lsA C hP hD hS hls
  obtain ⟨hx, hb, hml, hr, hown, hts, hlk, hfr, hlo, hK⟩ := id C
  exact lv_tableOut hx hb hd hx1 ht (kk p e R s m args below meth c H locs lsA C hP hD hS hls)
theorem ab_s_swIn : ab_r_swIn (ab_S l D cy ad A) := by
  intro d M pc ls st h Q df lo hi offs len x off tgt hd h1 h2 ho ht kk
  intro p e R s m args below meth c H locs lsA C hP hD hS hls
  obtain ⟨hx, hb, hml, hr, hown, hts, hlk, hfr, hlo, hK⟩ := id C
  exact lv_tableIn hx hb hd h1 h2 ho ht (kk p e R s m args below meth c H locs lsA C hP hD hS hls)
theorem ab_lay : ∀ (ci : Nat) (q : vw_C), vwCl[ci]? = some q → ∀ w ∈ u_ws q.1 q.2.1 q.2.2, w ∈ ab_T := by
  intro ci q hq w hw
  have h : vwCl.all (fun q => (u_ws q.1 q.2.1 q.2.2).all (fun w => decide (w ∈ tables_1) && goodWord w)) = true := by decide +kernel
  have h1 := List.all_eq_true.mp h q (List.mem_of_getElem? hq)
  have h2 := List.all_eq_true.mp h1 w hw
  simp only [Bool.and_eq_true, decide_eq_true_eq] at h2
  exact ab_inT1 h2.1 h2.2
theorem ab_nf_ok : ∀ (ci : Nat) (q : vw_C), vwCl[ci]? = some q → ci < 13 ∧ ab_nf ci = q.2.2 := by
  intro ci q hq
  have hl : ci < 13 := (List.getElem?_eq_some_iff.mp hq).1
  have h : ∀ i, i < 13 → (vwCl[i]?).map (fun q => q.2.2) = some (ab_nf i) := by decide +kernel
  have h1 := h ci hl
  rw [hq] at h1
  exact ⟨hl, (Option.some.inj h1).symm⟩
/-- a field is read -/
theorem ab_getf {d : Nat} {M : ab_M} {pc : Nat} {ls : ab_L} {st : List Value} {h : ab_H} {Q : ab_Q} {idx a ci k : Nat} {v : Value} (hd : decode M.2.1 pc = .ok (.getfield idx, 3)) (hf : ab_fl M.1.cls idx ci k) (ha : ab_kd a = (ci, 0)) (hv : ab_fv ad (ab_tag ci k) h a k = ab_cv ad v)
    (kk : ab_S l D cy ad A d M (pc + 3) ls (v :: st) h Q) : ab_S l D cy ad A d M pc ls (.ref a :: st) h Q := by
  intro p e R s m args below meth c H locs lsA C hP hD hS hls
  obtain ⟨hx, hb, hml, hr, hown, hts, hlk, hfr, hlo, hK⟩ := id C
  obtain ⟨q, hq, hk, hC, hw⟩ := hf
  obtain ⟨hci, hnf⟩ := ab_nf_ok ci q hq
  have hlt : a < ab_N := ab_kd_lt ha (by omega)
  have he : (ab_W cy ad h)[a]? = some (ad a, .inr (ci, ab_F ad ci h a)) := by rw [ab_W_get hlt, ab_E_obj ha hci]
  have hg : (ab_F ad ci h a)[k]? = some (ab_cv ad v) := by rw [ab_F_get (by rw [hnf]; exact hk), hv]
  rcases hw with hw | hw
  · exact va_get hx hb hts (ab_lay ci q hq) hown hK.1 hP a he hq k hk (hts _ hw) (fun x hx' => by rw [hC] at hx'; exact hx') hg hd (kk p e R s m args below meth c H locs lsA C hP hD hS hls)
  · exact va_getN (host := "KerbSide") hx hb hts (ab_lay ci q hq) hown hK.1 hP a he hq k hk (va_Nw.use (by rfl) (hK.2.1 _ hw)) (fun x hx' => by rw [hC] at hx'; exact hx') hg hd (kk p e R s m args below meth c H locs lsA C hP hD hS hls)
theorem ab_s_getI : ab_r_getI (ab_S l D cy ad A) := by
  intro d M pc ls st h Q idx a ci k hd hf ha hg kk
  exact ab_getf hd hf ha (by rcases hg with hg | hg <;> (rw [hg]; rfl)) kk
theorem ab_s_getL : ab_r_getL (ab_S l D cy ad A) := by
  intro d M pc ls st h Q idx a ci k hd hf ha hg kk
  exact ab_getf hd hf ha (by rw [hg]; rfl) kk
theorem ab_s_getP : ab_r_getP (ab_S l D cy ad A) := by
  intro d M pc ls st h Q idx a ci k hd hf ha hg kk
  exact ab_getf hd hf ha (by rw [hg]; rfl) kk
/-- the fields' types by their tags -/
def ab_ft (d : String) : Option FieldType := parseFieldDescriptor d
theorem ab_tag_ok : ∀ (ci : Nat) (q : vw_C), vwCl[ci]? = some q → ∀ k, k < q.2.2 → (ab_tag ci k = 0 → parseFieldDescriptor (q.2.1 k).2.2.1 = some .int) ∧ (ab_tag ci k = 3 → parseFieldDescriptor (q.2.1 k).2.2.1 = some .boolean) ∧ (ab_tag ci k = 1 → parseFieldDescriptor (q.2.1 k).2.2.1 = some .long) ∧ ((ab_tag ci k = 0 ∨ ab_tag ci k = 1 ∨ ab_tag ci k = 3) → (q.2.1 k).2.2.2 = false) := by
  intro ci q hq k hk
  have hl : ci < 13 := (List.getElem?_eq_some_iff.mp hq).1
  have h : ∀ i, i < 13 → ((vwCl[i]?).map (fun q => (List.range q.2.2).all (fun k => (decide (ab_tag i k = 0 → parseFieldDescriptor (q.2.1 k).2.2.1 = some .int) && decide (ab_tag i k = 3 → parseFieldDescriptor (q.2.1 k).2.2.1 = some .boolean)) && (decide (ab_tag i k = 1 → parseFieldDescriptor (q.2.1 k).2.2.1 = some .long) && decide ((ab_tag i k = 0 ∨ ab_tag i k = 1 ∨ ab_tag i k = 3) → (q.2.1 k).2.2.2 = false))))) = some true := by decide +kernel
  have h1 := h ci hl
  rw [hq] at h1
  have h2 := List.all_eq_true.mp (Option.some.inj h1) k (List.mem_range.mpr hk)
  simp only [Bool.and_eq_true, decide_eq_true_eq] at h2
  exact ⟨h2.1.1, h2.1.2, h2.2.1, h2.2.2⟩
theorem ab_tyx : ∀ (ci : Nat) (q : vw_C), vwCl[ci]? = some q → (∃ t0 : Nat → FieldType, ∀ k, k < q.2.2 → parseFieldDescriptor (q.2.1 k).2.2.1 = some (t0 k)) ∧ ∀ a, a < q.2.2 → ∀ b, b < q.2.2 → a ≠ b → (q.2.1 a).2.1 ≠ (q.2.1 b).2.1 := by
  intro ci q hq
  have hl : ci < 13 := (List.getElem?_eq_some_iff.mp hq).1
  match ci, hl with

  | 0, _ => cases hq; exact ⟨⟨tyX0, tyX0_ok⟩, nmX0⟩
  | 1, _ => cases hq; exact ⟨⟨tyX1, tyX1_ok⟩, nmX1⟩
  | 2, _ => cases hq; exact ⟨⟨tyX2, tyX2_ok⟩, nmX2⟩
  | 3, _ => cases hq; exact ⟨⟨tyX3, tyX3_ok⟩, nmX3⟩
  | 4, _ => cases hq; exact ⟨⟨tyX4, tyX4_ok⟩, nmX4⟩
  | 5, _ => cases hq; exact ⟨⟨tyX5, tyX5_ok⟩, nmX5⟩
  | 6, _ => cases hq; exact ⟨⟨tyX6, tyX6_ok⟩, nmX6⟩
  | 7, _ => cases hq; exact ⟨⟨tyX7, tyX7_ok⟩, nmX7⟩
  | 8, _ => cases hq; exact ⟨⟨tyX8, tyX8_ok⟩, nmX8⟩
  | 9, _ => cases hq; exact ⟨⟨tyX9, tyX9_ok⟩, nmX9⟩
  | 10, _ => cases hq; exact ⟨⟨tyX10, tyX10_ok⟩, nmX10⟩
  | 11, _ => cases hq; exact ⟨⟨tyX11, tyX11_ok⟩, nmX11⟩
  | 12, _ => cases hq; exact ⟨⟨tyX12, tyX12_ok⟩, nmX12⟩
/-- a field is written -/
theorem ab_putf {d : Nat} {M : ab_M} {pc : Nat} {ls : ab_L} {st : List Value} {h h' : ab_H} {Q : ab_Q} {idx a ci k : Nat} {v : Value} {ty : FieldType} (hd : decode M.2.1 pc = .ok (.putfield idx, 3)) (hf : ab_fl M.1.cls idx ci k) (ha : ab_kd a = (ci, 0))
    (hty : ∀ q : vw_C, vwCl[ci]? = some q → k < q.2.2 → parseFieldDescriptor (q.2.1 k).2.2.1 = some ty ∧ (q.2.1 k).2.2.2 = false) (hn : narrow ty (ab_cv ad v) = ab_cv ad v) (hfit : fits ty (ab_cv ad v) = true)
    (h1 : ab_fv ad (ab_tag ci k) h' a k = ab_cv ad v) (h2 : ∀ j, j ≠ k → ab_fv ad (ab_tag ci j) h' a j = ab_fv ad (ab_tag ci j) h a j) (h3 : ∀ b, b ≠ a → h'.1 b = h.1 b ∧ h'.2.1 b = h.2.1 b ∧ ab_P h'.2.2 b = ab_P h.2.2 b)
    (kk : ab_S l D cy ad A d M (pc + 3) ls st h' Q) : ab_S l D cy ad A d M pc ls (v :: .ref a :: st) h Q := by
  intro p e R s m args below meth c H locs lsA C hP hD hS hls
  obtain ⟨hx, hb, hml, hr, hown, hts, hlk, hfr, hlo, hK⟩ := id C
  obtain ⟨q, hq, hk, hC, hw⟩ := hf
  obtain ⟨hci, hnf⟩ := ab_nf_ok ci q hq
  obtain ⟨ht1, ht2⟩ := hty q hq hk
  obtain ⟨⟨t0, hty0⟩, hnm⟩ := ab_tyx ci q hq
  have hlt : a < ab_N := ab_kd_lt ha (by omega)
  have he : (ab_W cy ad h)[a]? = some (ad a, .inr (ci, ab_F ad ci h a)) := by rw [ab_W_get hlt, ab_E_obj ha hci]
  have hl : k < (ab_F ad ci h a).length := by rw [ab_F_len, hnf]; exact hk
  have hset : (ab_W cy ad h).set a (ad a, .inr (ci, (ab_F ad ci h a).set k (ab_cv ad v))) = ab_W cy ad h' :=
    ab_W_set (by rw [ab_E_obj ha hci, ab_F_set h1 h2]) (fun b hb' => ab_E_congr (h3 b hb').1 (h3 b hb').2.1 (h3 b hb').2.2)
  rcases hw with hw | hw
  · exact va_put hx hb hts (ab_lay ci q hq) t0 hty0 hnm hown hK.1 hP hD hS a he hq k hk (hts _ hw) (fun x hx' => by rw [hC] at hx'; exact hx') ht2 ht1 hn hfit hl hd (fun H1 locs1 gP gD gS => by rw [hset] at gP gD; exact kk p e R s m args below meth c H1 locs1 lsA C gP gD gS hls)
  · exact va_putN (host := "KerbSide") hx hb hts (ab_lay ci q hq) t0 hty0 hnm hown hK.1 hP hD hS a he hq k hk (va_Nw.use (by rfl) (hK.2.1 _ hw)) (fun x hx' => by rw [hC] at hx'; exact hx') ht2 ht1 hn hfit hl hd (fun H1 locs1 gP gD gS => by rw [hset] at gP gD; exact kk p e R s m args below meth c H1 locs1 lsA C gP gD gS hls)
theorem ab_s_putI : ab_r_putI (ab_S l D cy ad A) := by
  intro d M pc ls st h Q idx a ci k x hd hf ha hg kk
  refine ab_putf (ty := .int) hd hf ha (fun q hq hk => ⟨(ab_tag_ok ci q hq k hk).1 hg, (ab_tag_ok ci q hq k hk).2.2.2 (Or.inl hg)⟩) rfl rfl ?_ ?_ ?_ kk
  · rw [hg]; show Value.int (ab_up h.1 a k x a k) = _; rw [ab_up_same]; rfl
  · intro j hj; show ab_fv ad _ (ab_up h.1 a k x, _, _) a j = _; unfold ab_fv; simp only [ab_up_idx hj]
  · intro b hb; exact ⟨ab_up_ne hb, rfl, rfl⟩
theorem ab_s_putZ : ab_r_putZ (ab_S l D cy ad A) := by
  intro d M pc ls st h Q idx a ci k x hd hf ha hg hx kk
  refine ab_putf (ty := .boolean) hd hf ha (fun q hq hk => ⟨(ab_tag_ok ci q hq k hk).2.1 hg, (ab_tag_ok ci q hq k hk).2.2.2 (Or.inr (Or.inr hg))⟩) (by rcases hx with rfl | rfl <;> rfl) (by rcases hx with rfl | rfl <;> rfl) ?_ ?_ ?_ kk
  · rw [hg]; show Value.int (ab_up h.1 a k x a k) = _; rw [ab_up_same]; rfl
  · intro j hj; show ab_fv ad _ (ab_up h.1 a k x, _, _) a j = _; unfold ab_fv; simp only [ab_up_idx hj]
  · intro b hb; exact ⟨ab_up_ne hb, rfl, rfl⟩
theorem ab_s_putL : ab_r_putL (ab_S l D cy ad A) := by
  intro d M pc ls st h Q idx a ci k x hd hf ha hg kk
  refine ab_putf (ty := .long) hd hf ha (fun q hq hk => ⟨(ab_tag_ok ci q hq k hk).2.2.1 hg, (ab_tag_ok ci q hq k hk).2.2.2 (Or.inr (Or.inl hg))⟩) rfl rfl ?_ ?_ ?_ kk
  · rw [hg]; show Value.long (ab_up h.2.1 a k x a k) = _; rw [ab_up_same]; rfl
  · intro j hj; show ab_fv ad _ (_, ab_up h.2.1 a k x, _) a j = _; unfold ab_fv; simp only [ab_up_idx hj]
  · intro b hb; exact ⟨rfl, ab_up_ne hb, rfl⟩
theorem ab_s_putT : ab_r_putT (ab_S l D cy ad A) := by
  intro d M pc ls st h Q idx b hd hf hb kk
  refine ab_putf (v := .ref b) (ty := .array .byte) (ci := 12) (k := 5) (a := 200) hd hf rfl (fun q hq hk => by cases hq; exact ⟨by decide +kernel, rfl⟩) rfl rfl ?_ ?_ ?_ kk
  · rfl
  · intro j hj
    have e : ab_P b 200 j = ab_P h.2.2 200 j := by simp [ab_P, hj]
    show ab_fv ad _ (_, _, b) 200 j = _
    unfold ab_fv
    simp only [e]
  · intro c hc
    exact ⟨rfl, rfl, by funext j; simp [ab_P, ab_pp, hc]⟩

theorem ab_s_iald : ab_r_iald (ab_S l D cy ad A) := by
  intro d M pc ls st h Q a n i hd ha hi kk
  intro p e R s m args below meth c H locs lsA C hP hD hS hls
  obtain ⟨hx, hb, hml, hr, hown, hts, hlk, hfr, hlo, hK⟩ := id C
  have he := ab_W_get (cy := cy) (ad := ad) (h := h) (ab_kd_lt ha (by decide))
  rw [ab_E_int ha (by decide)] at he
  exact va_iald hx hb hK.1 hP a 0 he rfl hi hd (kk p e R s m args below meth c H locs lsA C hP hD hS hls)
theorem ab_s_bald : ab_r_bald (ab_S l D cy ad A) := by
  intro d M pc ls st h Q a n i hd ha hi kk
  intro p e R s m args below meth c H locs lsA C hP hD hS hls
  obtain ⟨hx, hb, hml, hr, hown, hts, hlk, hfr, hlo, hK⟩ := id C
  rcases ha with ha | ha
  · have he := ab_W_get (cy := cy) (ad := ad) (h := h) (ab_kd_lt ha (by decide))
    rw [ab_E_int ha (by decide)] at he
    exact va_bald hx hb hK.1 hP a 3 he rfl hi hd (kk p e R s m args below meth c H locs lsA C hP hD hS hls)
  · have he := ab_W_get (cy := cy) (ad := ad) (h := h) (ab_kd_lt ha (by decide))
    rw [ab_E_int ha (by decide)] at he
    exact va_zald hx hb hK.1 hP a 2 he rfl hi hd (kk p e R s m args below meth c H locs lsA C hP hD hS hls)
theorem ab_s_lald : ab_r_lald (ab_S l D cy ad A) := by
  intro d M pc ls st h Q a n i hd ha hi kk
  intro p e R s m args below meth c H locs lsA C hP hD hS hls
  obtain ⟨hx, hb, hml, hr, hown, hts, hlk, hfr, hlo, hK⟩ := id C
  have he := ab_W_get (cy := cy) (ad := ad) (h := h) (ab_kd_lt ha (by decide))
  rw [ab_E_long ha] at he
  exact va_lald hx hb hK.1 hP a 1 he rfl hi hd (kk p e R s m args below meth c H locs lsA C hP hD hS hls)
theorem ab_s_aald : ab_r_aald (ab_S l D cy ad A) := by
  intro d M pc ls st h Q a n i hd ha hi kk
  intro p e R s m args below meth c H locs lsA C hP hD hS hls
  obtain ⟨hx, hb, hml, hr, hown, hts, hlk, hfr, hlo, hK⟩ := id C
  have hlt : i.toNatClampNeg < n := Nat.not_le.mp fun q => hi (Or.inr q)
  have key : ∀ (c9 t0 : Nat) (ty : FieldType), ab_kd a = (c9, n) → (c9 = 24 ∨ c9 = 25 ∨ c9 = 26) → (ab_tys cy)[t0]? = some (cy c9, ty) → ty.isReference = true → W p l e R s m args below meth c H locs 0 0 (MQ below (ab_Qc D cy ad A Q) args s 0 0 A) (F0 m pc lsA ((.int i :: .ref a :: st).map (ab_cv ad))) := by
    intro c9 t0 ty hk9 hc9 ht9 hr9
    have he := ab_W_get (cy := cy) (ad := ad) (h := h) (ab_kd_lt hk9 (by omega))
    rw [ab_E_ref hk9 hc9] at he
    exact W.aald (v := .ref (ad (ab_P h.2.2 a i.toNatClampNeg))) (ty := ty) hx hb (hP a _ he) ((hK.1.2 t0 _ ht9).1 n (fun j => va_rf (some (ad (ab_P h.2.2 a j))))) hr9 (fun q => by cases q) (by show ¬ (i < 0 ∨ (arrV _ _ _).slots.size ≤ _); rw [arrV_size]; exact hi) (by show (arrV _ _ _).slots[_]? = _; rw [arrV_read _ _ hlt]; rfl) rfl rfl hd (kk p e R s m args below meth c H locs lsA C hP hD hS hls)
  rcases ha with ha | ha | ha
  · exact key 24 4 (.object "KerbSide$Rule") ha (by decide) rfl rfl
  · exact key 25 5 (.object "KerbSide$Street") ha (by decide) rfl rfl
  · exact key 26 6 (.array .long) ha (by decide) rfl rfl
theorem ab_upd_i (h : ab_H) (a k : Nat) (x : Int32) : (ab_pi h a k x).1 a = upd (h.1 a) k x := by
  show ab_up h.1 a k x a = _
  rw [ab_up_at]; rfl
theorem ab_upd_l (h : ab_H) (a k : Nat) (x : Int64) : (ab_pl h a k x).2.1 a = vp_updL (h.2.1 a) k x := by
  show ab_up h.2.1 a k x a = _
  rw [ab_up_at]; rfl

theorem ab_s_iast : ab_r_iast (ab_S l D cy ad A) := by
  intro d M pc ls st h Q a n i x hd ha hi kk
  intro p e R s m args below meth c H locs lsA C hP hD hS hls
  obtain ⟨hx, hb, hml, hr, hown, hts, hlk, hfr, hlo, hK⟩ := id C
  have he := ab_W_get (cy := cy) (ad := ad) (h := h) (ab_kd_lt ha (by decide))
  rw [ab_E_int ha (by decide)] at he
  have hset := ab_W_set (cy := cy) (ad := ad) (h := h) (h' := ab_pi h a i.toNatClampNeg (x)) (a := a) (by rw [ab_E_int ha (by decide), ab_upd_i]) (fun b hb' => ab_E_congr (ab_up_ne hb') rfl rfl)
  exact va_iast hx hb hK.1 hP hD hS a 0 he rfl hi hd (fun H1 locs1 gP gD gS => by rw [hset] at gP gD; exact kk p e R s m args below meth c H1 locs1 lsA C gP gD gS hls)
theorem ab_s_bast : ab_r_bast (ab_S l D cy ad A) := by
  intro d M pc ls st h Q a n i x hd ha hi kk
  intro p e R s m args below meth c H locs lsA C hP hD hS hls
  obtain ⟨hx, hb, hml, hr, hown, hts, hlk, hfr, hlo, hK⟩ := id C
  have he := ab_W_get (cy := cy) (ad := ad) (h := h) (ab_kd_lt ha (by decide))
  rw [ab_E_int ha (by decide)] at he
  have hset := ab_W_set (cy := cy) (ad := ad) (h := h) (h' := ab_pi h a i.toNatClampNeg (vp_nar .byte x)) (a := a) (by rw [ab_E_int ha (by decide), ab_upd_i]) (fun b hb' => ab_E_congr (ab_up_ne hb') rfl rfl)
  exact va_bast hx hb hK.1 hP hD hS a 3 he rfl hi hd (fun H1 locs1 gP gD gS => by rw [hset] at gP gD; exact kk p e R s m args below meth c H1 locs1 lsA C gP gD gS hls)
theorem ab_s_zast : ab_r_zast (ab_S l D cy ad A) := by
  intro d M pc ls st h Q a n i x hd ha hi kk
  intro p e R s m args below meth c H locs lsA C hP hD hS hls
  obtain ⟨hx, hb, hml, hr, hown, hts, hlk, hfr, hlo, hK⟩ := id C
  have he := ab_W_get (cy := cy) (ad := ad) (h := h) (ab_kd_lt ha (by decide))
  rw [ab_E_int ha (by decide)] at he
  have hset := ab_W_set (cy := cy) (ad := ad) (h := h) (h' := ab_pi h a i.toNatClampNeg (vp_nar .boolean x)) (a := a) (by rw [ab_E_int ha (by decide), ab_upd_i]) (fun b hb' => ab_E_congr (ab_up_ne hb') rfl rfl)
  exact va_zast hx hb hK.1 hP hD hS a 2 he rfl hi hd (fun H1 locs1 gP gD gS => by rw [hset] at gP gD; exact kk p e R s m args below meth c H1 locs1 lsA C gP gD gS hls)
theorem ab_s_last : ab_r_last (ab_S l D cy ad A) := by
  intro d M pc ls st h Q a n i x hd ha hi kk
  intro p e R s m args below meth c H locs lsA C hP hD hS hls
  obtain ⟨hx, hb, hml, hr, hown, hts, hlk, hfr, hlo, hK⟩ := id C
  have he := ab_W_get (cy := cy) (ad := ad) (h := h) (ab_kd_lt ha (by decide))
  rw [ab_E_long ha] at he
  have hset := ab_W_set (cy := cy) (ad := ad) (h := h) (h' := ab_pl h a i.toNatClampNeg (x)) (a := a) (by rw [ab_E_long ha, ab_upd_l]) (fun b hb' => ab_E_congr rfl (ab_up_ne hb') rfl)
  exact va_last hx hb hK.1 hP hD hS a 1 he rfl hi hd (fun H1 locs1 gP gD gS => by rw [hset] at gP gD; exact kk p e R s m args below meth c H1 locs1 lsA C gP gD gS hls)
theorem ab_s_alen : ab_r_alen (ab_S l D cy ad A) := by
  intro d M pc ls st h Q a c9 n v hd ha hc hv kk
  intro p e R s m args below meth c H locs lsA C hP hD hS hls
  obtain ⟨hx, hb, hml, hr, hown, hts, hlk, hfr, hlo, hK⟩ := id C
  rcases hc with rfl | rfl
  · have he := ab_W_get (cy := cy) (ad := ad) (h := h) (ab_kd_lt ha (by decide))
    rw [ab_E_int ha (by decide)] at he
    exact va_alen hx hb hK.1 hP a 0 he (ty := .int) rfl hv hd (kk p e R s m args below meth c H locs lsA C hP hD hS hls)
  · have he := ab_W_get (cy := cy) (ad := ad) (h := h) (ab_kd_lt ha (by decide))
    rw [ab_E_long ha] at he
    exact va_alen hx hb hK.1 hP a 1 he (ty := .long) rfl hv hd (kk p e R s m args below meth c H locs lsA C hP hD hS hls)
theorem ab_s_gets : ab_r_gets (ab_S l D cy ad A) := by
  intro d M pc ls st h Q idx j hd hj hf kk
  intro p e R s m args below meth c H locs lsA C hP hD hS hls
  obtain ⟨hx, hb, hml, hr, hown, hts, hlk, hfr, hlo, hK⟩ := id C
  exact va_gets hx hb (hK.2.2.1 j hj).1 hS hown (hts _ hf) (fun x h => h) hd (kk p e R s m args below meth c H locs lsA C hP hD hS hls)
theorem ab_s_tald : ab_r_tald (ab_S l D cy ad A) := by
  intro d M pc ls st h Q j i hd hj hi kk
  intro p e R s m args below meth c H locs lsA C hP hD hS hls
  obtain ⟨hx, hb, hml, hr, hown, hts, hlk, hfr, hlo, hK⟩ := id C
  exact va_ti hx hb (hK.2.2.1 j hj).2 hS hi rfl hd (kk p e R s m args below meth c H locs lsA C hP hD hS hls)
theorem ab_s_tlen : ab_r_tlen (ab_S l D cy ad A) := by
  intro d M pc ls st h Q j v hd hj hv kk
  intro p e R s m args below meth c H locs lsA C hP hD hS hls
  obtain ⟨hx, hb, hml, hr, hown, hts, hlk, hfr, hlo, hK⟩ := id C
  exact va_tlen hx hb (hK.2.2.1 j hj).2 hS hv hd (kk p e R s m args below meth c H locs lsA C hP hD hS hls)

theorem ab_s_mmax : ab_r_mmax (ab_S l D cy ad A) := by
  intro d M pc ls st h Q idx x y hd hf hw kk
  intro p e R s m args below meth c H locs lsA C hP hD hS hls
  obtain ⟨hx, hb, hml, hr, hown, hts, hlk, hfr, hlo, hK⟩ := id C
  obtain ⟨f1, f2, f3, f4⟩ := hf
  have hw2 := ab_cat_map ad st
  exact va_mmax hx hb (hml.trans hls.1.symm) hown (hts _ f1) (hts _ f2) (hts _ f3) (hts _ f4) (by omega) (by omega) (Nat.zero_le _) (Nat.zero_le _) hd (kk p e R s m args below meth c H locs lsA C hP hD hS hls)
theorem ab_s_mmin : ab_r_mmin (ab_S l D cy ad A) := by
  intro d M pc ls st h Q idx x y hd hf hw kk
  intro p e R s m args below meth c H locs lsA C hP hD hS hls
  obtain ⟨hx, hb, hml, hr, hown, hts, hlk, hfr, hlo, hK⟩ := id C
  obtain ⟨f1, f2, f3, f4⟩ := hf
  have hw2 := ab_cat_map ad st
  exact va_mmin hx hb (hml.trans hls.1.symm) hown (hts _ f1) (hts _ f2) (hts _ f3) (hts _ f4) (by omega) (by omega) (Nat.zero_le _) (Nat.zero_le _) hd (kk p e R s m args below meth c H locs lsA C hP hD hS hls)
theorem ab_s_mabs : ab_r_mabs (ab_S l D cy ad A) := by
  intro d M pc ls st h Q idx x hd hf hw kk
  intro p e R s m args below meth c H locs lsA C hP hD hS hls
  obtain ⟨hx, hb, hml, hr, hown, hts, hlk, hfr, hlo, hK⟩ := id C
  obtain ⟨f1, f2, f3, f4⟩ := hf
  have hw2 := ab_cat_map ad st
  exact va_mabs hx hb (hml.trans hls.1.symm) hown (hts _ f1) (hts _ f2) (hts _ f3) (hts _ f4) (by omega) (by omega) (Nat.zero_le _) (Nat.zero_le _) hd (kk p e R s m args below meth c H locs lsA C hP hD hS hls)
theorem ab_s_mmaxl : ab_r_mmaxl (ab_S l D cy ad A) := by
  intro d M pc ls st h Q idx x y hd hf hw kk
  intro p e R s m args below meth c H locs lsA C hP hD hS hls
  obtain ⟨hx, hb, hml, hr, hown, hts, hlk, hfr, hlo, hK⟩ := id C
  obtain ⟨f1, f2, f3, f4⟩ := hf
  have hw2 := ab_cat_map ad st
  exact va_mmax_long hx hb (hml.trans hls.1.symm) hown (hts _ f1) (hts _ f2) (hts _ f3) (hts _ f4) (by omega) (by omega) (Nat.zero_le _) (Nat.zero_le _) hd (kk p e R s m args below meth c H locs lsA C hP hD hS hls)
theorem ab_s_mminl : ab_r_mminl (ab_S l D cy ad A) := by
  intro d M pc ls st h Q idx x y hd hf hw kk
  intro p e R s m args below meth c H locs lsA C hP hD hS hls
  obtain ⟨hx, hb, hml, hr, hown, hts, hlk, hfr, hlo, hK⟩ := id C
  obtain ⟨f1, f2, f3, f4⟩ := hf
  have hw2 := ab_cat_map ad st
  exact va_mmin_long hx hb (hml.trans hls.1.symm) hown (hts _ f1) (hts _ f2) (hts _ f3) (hts _ f4) (by omega) (by omega) (Nat.zero_le _) (Nat.zero_le _) hd (kk p e R s m args below meth c H locs lsA C hP hD hS hls)
theorem ab_s_acpi : ab_r_acpi (ab_S l D cy ad A) := by
  intro d M pc ls st h Q idx a b n0 n1 sp dp n hd hf hw ha hb' h1 h2 h3 h4 h5 kk
  intro p e R s m args below meth c H locs lsA C hP hD hS hls
  obtain ⟨hx, hb, hml, hr, hown, hts, hlk, hfr, hlo, hK⟩ := id C
  obtain ⟨f1, f2, f3, f4⟩ := hf
  have hw2 := ab_cat_map ad st
  have he := ab_W_get (cy := cy) (ad := ad) (h := h) (ab_kd_lt ha (by decide))
  rw [ab_E_int ha (by decide)] at he
  have he' := ab_W_get (cy := cy) (ad := ad) (h := h) (ab_kd_lt hb' (by decide))
  rw [ab_E_int hb' (by decide)] at he'
  have hnw : nativeFrameWords "java/lang/System" "arraycopy" 5 = 7 := by decide +kernel
  have hset := ab_W_set (cy := cy) (ad := ad) (h := h) (h' := (ab_cp h.1 a b sp.toNatClampNeg dp.toNatClampNeg n.toNatClampNeg, h.2.1, h.2.2)) (a := b) ((ab_E_int hb' (by decide)).trans (congrArg (fun f => Sum.inl (cy 20, n1, Sum.inl f)) (ab_cp_at h.1 a b sp.toNatClampNeg dp.toNatClampNeg n.toNatClampNeg))) (fun q hq => ab_E_congr (ab_cp_ne hq) rfl rfl)
  exact va_copyi hx hb (hml.trans hls.1.symm) hown (hts _ f1) (hts _ f2) (hts _ f3) (hts _ f4) hK.1 hP hD hS a b 0 0 he he' rfl rfl rfl h1 h2 h3 h4 h5 (fun _ _ => rfl) (by omega) (by rw [hw2, hnw]; omega) hd (fun H1 locs1 gP gD gS => by rw [hset] at gP gD; exact kk p e R s m args below meth c H1 locs1 lsA C gP gD gS hls)
theorem ab_s_acpl : ab_r_acpl (ab_S l D cy ad A) := by
  intro d M pc ls st h Q idx a b n0 n1 sp dp n hd hf hw ha hb' h1 h2 h3 h4 h5 kk
  intro p e R s m args below meth c H locs lsA C hP hD hS hls
  obtain ⟨hx, hb, hml, hr, hown, hts, hlk, hfr, hlo, hK⟩ := id C
  obtain ⟨f1, f2, f3, f4⟩ := hf
  have hw2 := ab_cat_map ad st
  have he := ab_W_get (cy := cy) (ad := ad) (h := h) (ab_kd_lt ha (by decide))
  rw [ab_E_long ha] at he
  have he' := ab_W_get (cy := cy) (ad := ad) (h := h) (ab_kd_lt hb' (by decide))
  rw [ab_E_long hb'] at he'
  have hnw : nativeFrameWords "java/lang/System" "arraycopy" 5 = 7 := by decide +kernel
  have hset := ab_W_set (cy := cy) (ad := ad) (h := h) (h' := (h.1, ab_cp h.2.1 a b sp.toNatClampNeg dp.toNatClampNeg n.toNatClampNeg, h.2.2)) (a := b) ((ab_E_long hb').trans (congrArg (fun f => Sum.inl (cy 21, n1, Sum.inr (Sum.inl f))) (ab_cp_at h.2.1 a b sp.toNatClampNeg dp.toNatClampNeg n.toNatClampNeg))) (fun q hq => ab_E_congr rfl (ab_cp_ne hq) rfl)
  exact va_copyl hx hb (hml.trans hls.1.symm) hown (hts _ f1) (hts _ f2) (hts _ f3) (hts _ f4) hK.1 hP hD hS a b 1 1 he he' rfl rfl rfl h1 h2 h3 h4 h5 (fun _ _ => rfl) (by omega) (by rw [hw2, hnw]; omega) hd (fun H1 locs1 gP gD gS => by rw [hset] at gP gD; exact kk p e R s m args below meth c H1 locs1 lsA C gP gD gS hls)
/-- a body that is met is a contract -/
def ab_Pc (D : va_G) (cy : Nat → ClassId) (ad : Nat → Nat) (A : Nat → Prop) (As : List Value) (h : ab_H) : Array Value → State → Prop := va_Pc (As.map (ab_cv ad)) (fun U => va_P D vwCl (ab_W cy ad h) U.heap ∧ va_D A (ab_W cy ad h) ∧ ab_K D cy ad A U U.heap)
theorem ab_met {d : Nat} {M : ab_M} {As : List Value} {h : ab_H} {Q : ab_Q} (hpl : plainName M.1.cls = true) (hn : (lg_sl As).length ≤ M.2.2.1) (body : ab_S l D cy ad A d M 0 (lv_args 0 As) [] h Q) : Met l M.1 (ab_ws M) (ab_rm d) (ab_Pc D cy ad A As h) (ab_Qc D cy ad A Q) 0 0 A := by
  refine Met.ofW (cc := M.2.1) (maxL := M.2.2.1) (ret := M.2.2.2) hpl rfl ?_
  intro p e s m args below meth c s₁ B hml hv
  obtain ⟨rfl, hP, hD, hK⟩ := hv
  have hts := atoms_spec (ws := ab_ws M) B.pre
  rw [lg_entry_eq]
  have hl := lv_entry (As.map (ab_cv ad)) (n := M.2.2.1) (by rw [ab_sl_len]; exact hn)
  rw [ab_lm_args] at hl
  exact body p e _ s m _ below meth c s.heap [] _ ⟨B.exec, B.bytes, hml, B.returns, findClass_of_methodNamed B.named, fun w hw => hts w (List.mem_cons_of_mem _ hw), B.notSynchronized, Nat.le_refl d, Nat.le_refl (128 * d), hK⟩ hP hD va_S.rf hl
theorem ab_blind {As : List Value} {h : ab_H} : FrameBlind (ab_Pc D cy ad A As h) := by
  intro a U g mk q
  obtain ⟨q0, qP, qD, qK⟩ := q
  exact ⟨q0, qP, qD, ab_K.same (U := U.calling g mk a) qK rfl⟩
theorem ab_goodw {M : ab_M} (h : Cond.code M.1 M.2.1 M.2.2.1 M.2.2.2 ∈ ab_T) : GoodIn ab_T (ab_ws M) := fun w hw => by
  rcases List.mem_cons.mp hw with rfl | hw
  · exact ab_good _ h
  · exact ab_good w hw
/-- behind a call -/
theorem ab_back {d : Nat} {M : ab_M} {pc : Nat} {ls : ab_L} {rest : List Value} {h : ab_H} {Q : ab_Q} {p : Program} {e : Env} {R : Room} {s : State} {m : MethodId} {args : Array Value} {below : List Frame} {meth : Method} {c : Code} {H : Heap} {locs : List Loc} {lsA : Array Slot} {st0 : List Value} {a : Array Value}
    (C : ab_C D cy ad A d M p R s m args meth c) (hD : va_D A (ab_W cy ad h)) (hS : va_S A s.heap H locs) (hls : lv_has lsA M.2.2.1 (ab_lm ad ls))
    (hr : va_Run p l e R s m args below meth c H locs 0 0 0 0 (F0 m pc lsA st0) (rest.map (ab_cv ad)) (ab_Qc D cy ad A (fun r h' => ab_S l D cy ad A d M (pc + 3) ls (r.toList ++ rest) h' Q) a) A) :
    W p l e R s m args below meth c H locs 0 0 (MQ below (ab_Qc D cy ad A Q) args s 0 0 A) (F0 m pc lsA st0) := by
  intro T hT X
  obtain ⟨v, st₀, t, T', L, h0, X', hL, e1, e2, ⟨⟨r, h', hv, hQ, hP'⟩, hz, hk⟩, st⟩ := hr T hT X
  have hv' : v = r.map (ab_cv ad) := by cases hv; rfl
  subst hv'
  rw [h0] at hz hk
  have hS' : va_S A s.heap T'.heap (locs ++ L) := ⟨Nat.le_trans hS.1 (by rw [e1]; exact hz), fun q h1 h2 => by rw [e1, hk q (Nat.lt_of_lt_of_le h1 hS.1) h2]; exact hS.2.1 q h1 h2, fun q hq => by
    rcases List.mem_append.mp hq with h | h
    · exact hS.2.2 q h
    · exact hL q h⟩
  have hst : (r.map (ab_cv ad)).toList ++ rest.map (ab_cv ad) = (r.toList ++ rest).map (ab_cv ad) := by cases r <;> simp
  obtain ⟨t2, a1, b1⟩ := hQ p e R s m args below meth c T'.heap (locs ++ L) lsA C (by rw [e1]; exact hP') (ab_D_any hD) hS' hls T' rfl X'
  rw [← hst] at a1
  exact ⟨t2, st t2 a1, b1⟩
theorem ab_s_callV : ab_r_callV (ab_S l D cy ad A) := by
  intro d M pc ls st h Q idx a ci M' As rest hd hf ha hw hn hs kk
  subst hs
  intro p e R s m args below meth c H locs lsA C hP hD hS hls
  obtain ⟨hx, hb, hml, hr, hown, hts, hlk, hfr, hlo, hK⟩ := id C
  obtain ⟨fl, ⟨g1, g2, g3, g4, g5, g6, g7⟩, f3, f4, q, hq, hqC⟩ := hf
  obtain ⟨hci, hnf⟩ := ab_nf_ok ci q hq
  have he : (ab_W cy ad h)[a]? = some (ad a, .inr (ci, ab_F ad ci h a)) := by rw [ab_W_get (ab_kd_lt ha (by omega)), ab_E_obj ha hci]
  have hM := ab_met g3 hn kk
  have hst : (As.reverse ++ Value.ref a :: rest).map (ab_cv ad) = (As.map (ab_cv ad)).reverse ++ .ref (ad a) :: rest.map (ab_cv ad) := by simp [ab_cv]
  have hrc := va_recv hK.1 hP hq he
  rw [hqC] at hrc
  have hpre : PreV s H M'.1.cls (ad a) (ab_Pc D cy ad A (.ref a :: As) h) (As.map (ab_cv ad)) := ⟨ab_blind, hrc, fun U hU hW => ⟨rfl, by rw [hU]; exact hP, hD, by rw [hU]; exact hK.moved hW hS.2.1⟩⟩
  have hw2 := ab_cat_map ad rest
  rw [hst]
  refine ab_back (h := h) (rest := rest) (a := (Value.ref (ad a) :: As.map (ab_cv ad)).toArray) C hD hS hls ?_
  have hR : (ab_rm d).frames + 1 ≤ R.frames ∧ 8 + (M'.2.2.1 + 11) + (ab_rm d).locals ≤ R.locals := ⟨hfr, by show 8 + (M'.2.2.1 + 11) + 128 * d ≤ R.locals; omega⟩
  rcases fl with fl | fl
  · exact va_runV (Ts := ab_T) (As := As.map (ab_cv ad)) ⟨hx, hb, hml, hown, hts⟩ hM ⟨callB_of As.length hts (ab_goodw g1) rfl rfl rfl (hts _ g2) (hts _ fl) ⟨g4, g5, g6⟩ hR, hts _ f3, hts _ f4⟩ hpre rfl (by simp) hls.1 rfl (lv_room (by rw [hw2]; exact hw)) hd ⟨Nat.zero_le _, Nat.zero_le _⟩
  · exact va_runVN (Ts := ab_T) (host := "KerbSide") (As := As.map (ab_cv ad)) ⟨hx, hb, hml, hown, hts⟩ hM ⟨va_cnB As.length hts (ab_goodw g1) rfl rfl rfl (hK.2.1 _ fl) (hts _ g2) ⟨g4, g5, g6⟩ hR, hts _ f3, hts _ f4⟩ hpre rfl (by simp) hls.1 rfl (lv_room (by rw [hw2]; exact hw)) hd ⟨Nat.zero_le _, Nat.zero_le _⟩
theorem ab_s_callS : ab_r_callS (ab_S l D cy ad A) := by
  intro d M pc ls st h Q idx M' As rest hd hf hw hn hs kk
  subst hs
  intro p e R s m args below meth c H locs lsA C hP hD hS hls
  obtain ⟨hx, hb, hml, hr, hown, hts, hlk, hfr, hlo, hK⟩ := id C
  obtain ⟨fl, ⟨g1, g2, g3, g4, g5, g6, g7⟩, f3⟩ := hf
  have hM := ab_met g3 hn kk
  have hst : (As.reverse ++ rest).map (ab_cv ad) = (As.map (ab_cv ad)).reverse ++ rest.map (ab_cv ad) := by simp
  have hpre : PreS s H (ab_Pc D cy ad A As h) (As.map (ab_cv ad)) := ⟨ab_blind, fun U hU hW => ⟨rfl, by rw [hU]; exact hP, hD, by rw [hU]; exact hK.moved hW hS.2.1⟩⟩
  have hw2 := ab_cat_map ad rest
  rw [hst]
  refine ab_back (h := h) (rest := rest) (a := (As.map (ab_cv ad)).toArray) C hD hS hls ?_
  have hR : (ab_rm d).frames + 1 ≤ R.frames ∧ 8 + (M'.2.2.1 + 11) + (ab_rm d).locals ≤ R.locals := ⟨hfr, by show 8 + (M'.2.2.1 + 11) + 128 * d ≤ R.locals; omega⟩
  rcases fl with fl | fl
  · exact va_runS (Ts := ab_T) (As := As.map (ab_cv ad)) ⟨hx, hb, hml, hown, hts⟩ hM ⟨callB_of As.length hts (ab_goodw g1) rfl rfl rfl (hts _ g2) (hts _ fl) ⟨g4, g5, g6⟩ hR, hts _ f3⟩ hpre rfl (by simp) hls.1 rfl (lv_room (by rw [hw2]; exact hw)) hd ⟨Nat.zero_le _, Nat.zero_le _⟩
  · exact va_runSN (Ts := ab_T) (host := "KerbSide") (As := As.map (ab_cv ad)) ⟨hx, hb, hml, hown, hts⟩ hM ⟨va_cnB As.length hts (ab_goodw g1) rfl rfl rfl (hK.2.1 _ fl) (hts _ g2) ⟨g4, g5, g6⟩ hR, hts _ f3, trivial⟩ hpre rfl (by simp) hls.1 rfl (lv_room (by rw [hw2]; exact hw)) hd ⟨Nat.zero_le _, Nat.zero_le _⟩

theorem ab_s_sgetv : ab_r_sgetv (ab_S l D cy ad A) := by
  intro d M pc ls st h Q idx j hd hj hf kk
  intro p e R s m args below meth c H locs lsA C hP hD hS hls
  obtain ⟨hx, hb, hml, hr, hown, hts, hlk, hfr, hlo, hK⟩ := id C
  exact vk_getf hx hb (hK.2.2.2.1.1 j hj).2.2.1 hS hown (hts _ hf) (fun x h => h) hd (kk p e R s m args below meth c H locs lsA C hP hD hS hls)
theorem ab_s_sgetc : ab_r_sgetc (ab_S l D cy ad A) := by
  intro d M pc ls st h Q idx j hd hj hf kk
  intro p e R s m args below meth c H locs lsA C hP hD hS hls
  obtain ⟨hx, hb, hml, hr, hown, hts, hlk, hfr, hlo, hK⟩ := id C
  exact vk_getf hx hb (hK.2.2.2.1.1 j hj).2.1 hS hown (hts _ hf) (fun x h => h) hd (kk p e R s m args below meth c H locs lsA C hP hD hS hls)
theorem ab_s_sgets : ab_r_sgets (ab_S l D cy ad A) := by
  intro d M pc ls st h Q idx hd hf kk
  intro p e R s m args below meth c H locs lsA C hP hD hS hls
  obtain ⟨hx, hb, hml, hr, hown, hts, hlk, hfr, hlo, hK⟩ := id C
  exact va_gets hx hb hK.2.2.2.2.2.1 hS hown (hts _ hf) (fun x h => h) hd (kk p e R s m args below meth c H locs lsA C hP hD hS hls)
theorem ab_s_sfmt : ab_r_sfmt (ab_S l D cy ad A) := by
  intro d M pc ls st h Q idx hd hf kk
  intro p e R s m args below meth c H locs lsA C hP hD hS hls
  obtain ⟨hx, hb, hml, hr, hown, hts, hlk, hfr, hlo, hK⟩ := id C
  rcases hK.2.2.2.2.2.2 with hz | hz
  · exact va_gets hx hb hz hS hown (hts _ hf) (fun x h => h) hd (kk .null (Or.inl rfl) p e R s m args below meth c H locs lsA C hP hD hS hls)
  · exact va_gets hx hb hz hS hown (hts _ hf) (fun x h => h) hd (kk (.ref 4000) (Or.inr rfl) p e R s m args below meth c H locs lsA C hP hD hS hls)
theorem ab_s_sbald : ab_r_sbald (ab_S l D cy ad A) := by
  intro d M pc ls st h Q j i hd hj hi kk
  intro p e R s m args below meth c H locs lsA C hP hD hS hls
  obtain ⟨hx, hb, hml, hr, hown, hts, hlk, hfr, hlo, hK⟩ := id C
  exact va_tb hx hb (hK.2.2.2.1.1 j hj).2.2.2 hS hi rfl hd (kk p e R s m args below meth c H locs lsA C hP hD hS hls)
theorem ab_s_sblen : ab_r_sblen (ab_S l D cy ad A) := by
  intro d M pc ls st h Q j v hd hj hv kk
  intro p e R s m args below meth c H locs lsA C hP hD hS hls
  obtain ⟨hx, hb, hml, hr, hown, hts, hlk, hfr, hlo, hK⟩ := id C
  exact va_tlen hx hb (hK.2.2.2.1.1 j hj).2.2.2 hS hv hd (kk p e R s m args below meth c H locs lsA C hP hD hS hls)
theorem ab_s_i2c : ab_r_i2c (ab_S l D cy ad A) := by
  intro d M pc ls st h Q x v hd hv kk
  intro p e R s m args below meth c H locs lsA C hP hD hS hls
  obtain ⟨hx, hb, hml, hr, hown, hts, hlk, hfr, hlo, hK⟩ := id C
  exact lv_i2c hx hb hd hv (kk p e R s m args below meth c H locs lsA C hP hD hS hls)
theorem ab_s_callT : ab_r_callT (ab_S l D cy ad A) := by
  intro d M pc ls st h Q idx j M' As rest hd hf hj hw hn hs kk
  subst hs
  intro p e R s m args below meth c H locs lsA C hP hD hS hls
  obtain ⟨hx, hb, hml, hr, hown, hts, hlk, hfr, hlo, hK⟩ := id C
  obtain ⟨fl, ⟨g1, g2, g3, g4, g5, g6, g7⟩, f3, f4, hC9⟩ := hf
  have hM := ab_met g3 hn kk
  have hst : (As.reverse ++ Value.ref (2000 + j) :: rest).map (ab_cv ad) = (As.map (ab_cv ad)).reverse ++ .ref (ad (2000 + j)) :: rest.map (ab_cv ad) := by simp [ab_cv]
  have hrc := vk_recv hK.2.2.2.1 hj hS
  have hpre : PreV s H M'.1.cls (ad (2000 + j)) (ab_Pc D cy ad A (.ref (2000 + j) :: As) h) (As.map (ab_cv ad)) := ⟨ab_blind, by rw [hC9]; exact hrc, fun U hU hW => ⟨rfl, by rw [hU]; exact hP, hD, by rw [hU]; exact hK.moved hW hS.2.1⟩⟩
  have hw2 := ab_cat_map ad rest
  rw [hst]
  refine ab_back (h := h) (rest := rest) (a := (Value.ref (ad (2000 + j)) :: As.map (ab_cv ad)).toArray) C hD hS hls ?_
  have hR : (ab_rm d).frames + 1 ≤ R.frames ∧ 8 + (M'.2.2.1 + 11) + (ab_rm d).locals ≤ R.locals := ⟨hfr, by show 8 + (M'.2.2.1 + 11) + 128 * d ≤ R.locals; omega⟩
  rcases fl with fl | fl
  · exact va_runV (Ts := ab_T) (As := As.map (ab_cv ad)) ⟨hx, hb, hml, hown, hts⟩ hM ⟨callB_of As.length hts (ab_goodw g1) rfl rfl rfl (hts _ g2) (hts _ fl) ⟨g4, g5, g6⟩ hR, hts _ f3, hts _ f4⟩ hpre rfl (by simp) hls.1 rfl (lv_room (by rw [hw2]; exact hw)) hd ⟨Nat.zero_le _, Nat.zero_le _⟩
  · exact va_runVN (Ts := ab_T) (host := "KerbSide") (As := As.map (ab_cv ad)) ⟨hx, hb, hml, hown, hts⟩ hM ⟨va_cnB As.length hts (ab_goodw g1) rfl rfl rfl (hK.2.1 _ fl) (hts _ g2) ⟨g4, g5, g6⟩ hR, hts _ f3, hts _ f4⟩ hpre rfl (by simp) hls.1 rfl (lv_room (by rw [hw2]; exact hw)) hd ⟨Nat.zero_le _, Nat.zero_le _⟩
theorem ab_s_iret : ab_r_iret (ab_S l D cy ad A) := by
  intro d M pc ls st h Q v hd hq0 hq
  intro p e R s m args below meth c H locs lsA C hP hD hS hls
  obtain ⟨hx, hb, hml, hr, hown, hts, hlk, hfr, hlo, hK⟩ := id C
  exact W.iret hx hb (hr.trans hq0) (fun t ht _ => ⟨⟨some (.int v), h, rfl, hq, by rw [ht]; exact hP⟩, hS.F ht⟩) hS.2.2 hd hlk
theorem ab_s_lret : ab_r_lret (ab_S l D cy ad A) := by
  intro d M pc ls st h Q v hd hq0 hq
  intro p e R s m args below meth c H locs lsA C hP hD hS hls
  obtain ⟨hx, hb, hml, hr, hown, hts, hlk, hfr, hlo, hK⟩ := id C
  exact W.lret hx hb (hr.trans hq0) (fun t ht _ => ⟨⟨some (.long v), h, rfl, hq, by rw [ht]; exact hP⟩, hS.F ht⟩) hS.2.2 hd hlk
theorem ab_s_vret : ab_r_vret (ab_S l D cy ad A) := by
  intro d M pc ls st h Q  hd hq0 hq
  intro p e R s m args below meth c H locs lsA C hP hD hS hls
  obtain ⟨hx, hb, hml, hr, hown, hts, hlk, hfr, hlo, hK⟩ := id C
  exact W.vret hx hb (hr.trans hq0) (fun t ht _ => ⟨⟨none, h, rfl, hq, by rw [ht]; exact hP⟩, hS.F ht⟩) hS.2.2 hd hlk
theorem ab_s_zret : ab_r_zret (ab_S l D cy ad A) := by
  intro d M pc ls st h Q v hd hq0 hv hq
  intro p e R s m args below meth c H locs lsA C hP hD hS hls
  obtain ⟨hx, hb, hml, hr, hown, hts, hlk, hfr, hlo, hK⟩ := id C
  exact W.zret hx hb (hr.trans hq0) (by rcases hv with rfl | rfl <;> rfl) (fun t ht _ => ⟨⟨some (.int v), h, rfl, hq, by rw [ht]; exact hP⟩, hS.F ht⟩) hS.2.2 hd hlk
theorem ab_s_tret : ab_r_tret (ab_S l D cy ad A) := by
  intro d M pc ls st h Q v ty hd hq0 hv hq
  intro p e R s m args below meth c H locs lsA C hP hD hS hls
  obtain ⟨hx, hb, hml, hr, hown, hts, hlk, hfr, hlo, hK⟩ := id C
  exact W.zret hx hb (hr.trans hq0) hv (fun t ht _ => ⟨⟨some (.int v), h, rfl, hq, by rw [ht]; exact hP⟩, hS.F ht⟩) hS.2.2 hd hlk
theorem ab_s_sub : ab_r_sub (ab_S l D cy ad A) := by
  intro d M pc ls st h Q ls' ks hl kk
  intro p e R s m args below meth c H locs lsA C hP hD hS hls
  obtain ⟨hx, hb, hml, hr, hown, hts, hlk, hfr, hlo, hK⟩ := id C
  refine kk p e R s m args below meth c H locs lsA C hP hD hS (lv_sub hls ks ?_)
  rw [← hl]
  unfold lv_pick
  show _ = List.map _ (List.filterMap _ ks)
  rw [List.map_filterMap]
  congr 1
  funext k
  exact List.getElem?_map

theorem ab_S_closed : ab_closed (ab_S l D cy ad A) := ⟨ab_s_iconst, ab_s_bipush, ab_s_sipush, ab_s_lconst, ab_s_ldcw, ab_s_ldc2, ab_s_ldcs, ab_s_iload_n, ab_s_iload, ab_s_istore_n, ab_s_istore, ab_s_lload_n, ab_s_lload, ab_s_lstore_n, ab_s_lstore, ab_s_aload_n, ab_s_aload, ab_s_astore_n, ab_s_astore, ab_s_iinc, ab_s_iadd, ab_s_isub, ab_s_imul, ab_s_iand, ab_s_ior, ab_s_ixor, ab_s_ishl, ab_s_ishr, ab_s_iushr, ab_s_idiv, ab_s_irem, ab_s_ineg, ab_s_ladd, ab_s_lsub, ab_s_lmul, ab_s_land, ab_s_lor, ab_s_ldiv, ab_s_lrem, ab_s_lushr, ab_s_lshl, ab_s_lcmp, ab_s_i2l, ab_s_l2i, ab_s_i2b, ab_s_dup, ab_s_pop, ab_s_dup2, ab_s_dup2l, ab_s_if_eq, ab_s_if_ne, ab_s_if_lt, ab_s_if_ge, ab_s_if_gt, ab_s_if_le, ab_s_icmp_eq, ab_s_icmp_ne, ab_s_icmp_lt, ab_s_icmp_ge, ab_s_icmp_gt, ab_s_icmp_le, ab_s_goto, ab_s_swOut, ab_s_swIn, ab_s_getI, ab_s_getL, ab_s_getP, ab_s_putI, ab_s_putZ, ab_s_putL, ab_s_putT, ab_s_iald, ab_s_bald, ab_s_lald, ab_s_aald, ab_s_iast, ab_s_bast, ab_s_zast, ab_s_last, ab_s_alen, ab_s_gets, ab_s_tald, ab_s_tlen, ab_s_sgetv, ab_s_sgetc, ab_s_sgets, ab_s_sfmt, ab_s_sbald, ab_s_sblen, ab_s_i2c, ab_s_callT, ab_s_tret, ab_s_mmax, ab_s_mmin, ab_s_mabs, ab_s_mmaxl, ab_s_mminl, ab_s_acpi, ab_s_acpl, ab_s_callV, ab_s_callS, ab_s_iret, ab_s_zret, ab_s_lret, ab_s_vret, ab_s_sub⟩
/-- THE BRIDGE: what the abstract run says, the machine does -/
theorem ab_sound {d : Nat} {M : ab_M} {pc : Nat} {ls : ab_L} {st : List Value} {h : ab_H} {Q : ab_Q} (k : ab_X d M pc ls st h Q) : ab_S l D cy ad A d M pc ls st h Q := k _ (ab_S_mono l D cy ad A) ab_S_closed
theorem ab_Met {d : Nat} {M : ab_M} {As : List Value} {h : ab_H} {Q : ab_Q} (hpl : plainName M.1.cls = true) (hn : (lg_sl As).length ≤ M.2.2.1) (k : ab_X d M 0 (lv_args 0 As) [] h Q) : Met l M.1 (ab_ws M) (ab_rm d) (ab_Pc D cy ad A As h) (ab_Qc D cy ad A Q) 0 0 A := ab_met hpl hn (ab_sound k)
end ABS
