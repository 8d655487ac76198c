/-! THE WORLD AT THE LOOP'S HEAD -/
def kG (u1 : List Nat) (rr : Nat → Nat × Nat × Nat × Nat) (u2 : List Nat) (ss : Nat → Nat × Nat × Nat) (u3 : List Nat) (tt : Nat → Nat) (u4 u5 : List Nat) (ad : Nat → Nat) : Nat → Nat := fun x => if x < 20 then u1.getD x 0 else if x < 36 then (if (x - 20) % 4 = 0 then (rr ((x - 20) / 4)).1 else if (x - 20) % 4 = 1 then (rr ((x - 20) / 4)).2.1 else if (x - 20) % 4 = 2 then (rr ((x - 20) / 4)).2.2.1 else (rr ((x - 20) / 4)).2.2.2) else if x < 45 then u2.getD (x - 36) 0 else if x < 165 then (if (x - 45) % 3 = 0 then (ss ((x - 45) / 3)).1 else if (x - 45) % 3 = 1 then (ss ((x - 45) / 3)).2.1 else (ss ((x - 45) / 3)).2.2) else if x < 176 then u3.getD (x - 165) 0 else if x < 197 then tt (x - 176) else if x < 200 then u4.getD (x - 197) 0 else if x < 228 then u5.getD (x - 200) 0 else ad x
theorem kG_ge {u1 : List Nat} {rr : Nat → Nat × Nat × Nat × Nat} {u2 : List Nat} {ss : Nat → Nat × Nat × Nat} {u3 : List Nat} {tt : Nat → Nat} {u4 u5 : List Nat} {ad : Nat → Nat} {x : Nat} (h : 228 ≤ x) : kG u1 rr u2 ss u3 tt u4 u5 ad x = ad x := by
  unfold kG
  rw [if_neg (by omega), if_neg (by omega), if_neg (by omega), if_neg (by omega), if_neg (by omega), if_neg (by omega), if_neg (by omega), if_neg (by omega)]
theorem ab_K.re {D : va_G} {cy : Nat → ClassId} {ad g : Nat → Nat} {A B : Nat → Prop} {s : State} {H : Heap} (h : ab_K D cy ad A s H) (hg : ∀ x, 228 ≤ x → g x = ad x) (hAB : ∀ q, B q → A q) : ab_K D cy g B s H := by
  obtain ⟨h1, h2, h3, h4, h5, h6, h7⟩ := h
  have e2 : (fun i => g (2000 + i)) = fun i => ad (2000 + i) := funext fun i => hg _ (by omega)
  have e3 : (fun i => g (3000 + i)) = fun i => ad (3000 + i) := funext fun i => hg _ (by omega)
  refine ⟨h1, h2, fun j hj => ?_, ?_, fun q hq => ?_, h6.narrow hAB, ?_⟩
  · rw [hg _ (by omega)]
    exact ⟨(h3 j hj).1.narrow hAB, (h3 j hj).2.narrow hAB⟩
  · rw [e2, e3]
    exact h4.narrow hAB
  · rw [hg _ (by omega)]
    exact h5 q hq
  · rw [hg _ (by omega)]
    exact h7.elim (fun z => Or.inl (z.narrow hAB)) (fun z => Or.inr (z.narrow hAB))
theorem yd_Dr {A : Nat → Prop} {W9 : va_W} {x : Nat × va_E} (hD : va_D A (W9 ++ [x])) : va_D (fun q => A q ∧ q ≠ x.1) W9 := by
  have le : ∀ (k : Nat) (q : Nat × va_E), W9[k]? = some q → (W9 ++ [x])[k]? = some q := fun k q hk => by
    rw [List.getElem?_append_left (List.getElem?_eq_some_iff.mp hk).1]; exact hk
  have la : (W9 ++ [x])[W9.length]? = some x := by
    rw [List.getElem?_append_right (Nat.le_refl _), Nat.sub_self]; rfl
  refine ⟨fun i j p q hi hj e => hD.1 i j p q (le i p hi) (le j q hj) e, fun k q hk => ⟨hD.2 k q (le k q hk), fun z => ?_⟩⟩
  have e1 := hD.1 k W9.length q x (le k q hk) la z
  have e2 := (List.getElem?_eq_some_iff.mp hk).1
  omega
theorem kwC_same {cy : Nat → ClassId} {a : Nat} {p1 p2 p3 p4 p5 p6 p7 p8 p9 p10 p11 p12 p13 p14 p15 p16 p17 p18 p19 p20 p21 p22 p23 p24 p25 p26 p27 p28 p29 p30 p31 p32 p33 p34 p35 p36 p37 p38 p39 p40 p41 p42 : Nat} {rr rr' : Nat → Nat × Nat × Nat × Nat} {ss ss' : Nat → Nat × Nat × Nat} {tt tt' : Nat → Nat} (h1 : ∀ i, i < 4 → rr i = rr' i) (h2 : ∀ i, i < 40 → ss i = ss' i) (h3 : ∀ i, i < 21 → tt i = tt' i) : kwC cy a p1 p2 p3 p4 p5 p6 p7 p8 p9 p10 p11 p12 p13 p14 p15 p16 p17 p18 p19 rr p20 p21 p22 p23 p24 p25 p26 p27 p28 p29 p30 ss p31 p32 p33 p34 p35 p36 p37 p38 p39 tt p40 p41 p42 = kwC cy a p1 p2 p3 p4 p5 p6 p7 p8 p9 p10 p11 p12 p13 p14 p15 p16 p17 p18 p19 rr' p20 p21 p22 p23 p24 p25 p26 p27 p28 p29 p30 ss' p31 p32 p33 p34 p35 p36 p37 p38 p39 tt' p40 p41 p42 := by
  have e1 : kkrF rr 4 = kkrF rr' 4 := by
    funext x
    unfold kkrF
    by_cases q : x < 4
    · rw [if_pos q, if_pos q, h1 x q]
    · rw [if_neg q, if_neg q]
  have e2 : kkrT cy rr 4 = kkrT cy rr' 4 := by
    unfold kkrT
    rw [List.flatMap_def, List.flatMap_def]
    exact congrArg List.flatten (List.map_congr_left (fun x hx => by rw [h1 x (List.mem_range.mp hx)]))
  have e3 : kksF ss 40 = kksF ss' 40 := by
    funext x
    unfold kksF
    by_cases q : x < 40
    · rw [if_pos q, if_pos q, h2 x q]
    · rw [if_neg q, if_neg q]
  have e4 : kksT cy ss 40 = kksT cy ss' 40 := by
    unfold kksT
    rw [List.flatMap_def, List.flatMap_def]
    exact congrArg List.flatten (List.map_congr_left (fun x hx => by rw [h2 x (List.mem_range.mp hx)]))
  have e5 : (fun i => if i < 21 then some (tt i) else none) = (fun i => if i < 21 then some (tt' i) else none) := by
    funext x
    by_cases q : x < 21
    · rw [if_pos q, if_pos q, h3 x q]
    · rw [if_neg q, if_neg q]
  have e6 : ((List.range 21).map (fun i => (tt i, .inl (cy 21, 21, .inr (.inl (fun _ => 0))))) : va_W) = (List.range 21).map (fun i => (tt' i, .inl (cy 21, 21, .inr (.inl (fun _ => 0))))) := List.map_congr_left (fun x hx => by rw [h3 x (List.mem_range.mp hx)])
  unfold kwC
  rw [e1, e2, e3, e4, e5, e6]
section KWW
variable {cy : Nat → ClassId} {ad0 : Nat → Nat} {a a2 : Nat} {p1 p2 p3 p4 p5 p6 p7 p8 p9 p10 p11 p12 p13 p14 p15 p16 p17 p18 p19 p20 p21 p22 p23 p24 p25 p26 p27 p28 p29 p30 p31 p32 p33 p34 p35 p36 p37 p38 p39 p40 p41 p42 m1 m2 m3 m4 m5 m6 m7 m8 m9 m10 m11 m12 m13 m14 m15 m16 m17 m18 m19 m20 m21 m22 m23 m24 m25 m26 m27 : Nat} {rr : Nat → Nat × Nat × Nat × Nat} {ss : Nat → Nat × Nat × Nat} {tt : Nat → Nat}
theorem kG_C : kwC cy a p1 p2 p3 p4 p5 p6 p7 p8 p9 p10 p11 p12 p13 p14 p15 p16 p17 p18 p19 rr p20 p21 p22 p23 p24 p25 p26 p27 p28 p29 p30 ss p31 p32 p33 p34 p35 p36 p37 p38 p39 tt p40 p41 p42 = kwC_eq_L.map (kf cy (kG [a, p1, p2, p3, p4, p5, p6, p7, p8, p9, p10, p11, p12, p13, p14, p15, p16, p17, p18, p19] rr [p20, p21, p22, p23, p24, p25, p26, p27, p28] ss [p29, p30, p31, p32, p33, p34, p35, p36, p37, p38, p39] tt [p40, p41, p42] [a2, m1, m2, m3, m4, m5, m6, m7, m8, m9, m10, m11, m12, m13, m14, m15, m16, m17, m18, m19, m20, m21, m22, m23, m24, m25, m26, m27] ad0)) := by
  obtain ⟨g, hg⟩ : ∃ g, g = kG [a, p1, p2, p3, p4, p5, p6, p7, p8, p9, p10, p11, p12, p13, p14, p15, p16, p17, p18, p19] rr [p20, p21, p22, p23, p24, p25, p26, p27, p28] ss [p29, p30, p31, p32, p33, p34, p35, p36, p37, p38, p39] tt [p40, p41, p42] [a2, m1, m2, m3, m4, m5, m6, m7, m8, m9, m10, m11, m12, m13, m14, m15, m16, m17, m18, m19, m20, m21, m22, m23, m24, m25, m26, m27] ad0 := ⟨_, rfl⟩
  have q1 : ∀ i, i < 4 → rr i = (g (20 + 4 * i), g (21 + 4 * i), g (22 + 4 * i), g (23 + 4 * i)) := fun i hi => by
    subst hg
    match i, hi with
    | 0, _ => rfl
    | 1, _ => rfl
    | 2, _ => rfl
    | 3, _ => rfl
    | n + 4, h => exact absurd h (by omega)
  have q2 : ∀ i, i < 40 → ss i = (g (45 + 3 * i), g (46 + 3 * i), g (47 + 3 * i)) := fun i hi => by
    subst hg
    match i, hi with
    | 0, _ => rfl
    | 1, _ => rfl
    | 2, _ => rfl
    | 3, _ => rfl
    | 4, _ => rfl
    | 5, _ => rfl
    | 6, _ => rfl
    | 7, _ => rfl
    | 8, _ => rfl
    | 9, _ => rfl
    | 10, _ => rfl
    | 11, _ => rfl
    | 12, _ => rfl
    | 13, _ => rfl
    | 14, _ => rfl
    | 15, _ => rfl
    | 16, _ => rfl
    | 17, _ => rfl
    | 18, _ => rfl
    | 19, _ => rfl
    | 20, _ => rfl
    | 21, _ => rfl
    | 22, _ => rfl
    | 23, _ => rfl
    | 24, _ => rfl
    | 25, _ => rfl
    | 26, _ => rfl
    | 27, _ => rfl
    | 28, _ => rfl
    | 29, _ => rfl
    | 30, _ => rfl
    | 31, _ => rfl
    | 32, _ => rfl
    | 33, _ => rfl
    | 34, _ => rfl
    | 35, _ => rfl
    | 36, _ => rfl
    | 37, _ => rfl
    | 38, _ => rfl
    | 39, _ => rfl
    | n + 40, h => exact absurd h (by omega)
  have q3 : ∀ i, i < 21 → tt i = g (176 + i) := fun i hi => by
    subst hg
    match i, hi with
    | 0, _ => rfl
    | 1, _ => rfl
    | 2, _ => rfl
    | 3, _ => rfl
    | 4, _ => rfl
    | 5, _ => rfl
    | 6, _ => rfl
    | 7, _ => rfl
    | 8, _ => rfl
    | 9, _ => rfl
    | 10, _ => rfl
    | 11, _ => rfl
    | 12, _ => rfl
    | 13, _ => rfl
    | 14, _ => rfl
    | 15, _ => rfl
    | 16, _ => rfl
    | 17, _ => rfl
    | 18, _ => rfl
    | 19, _ => rfl
    | 20, _ => rfl
    | n + 21, h => exact absurd h (by omega)
  rw [kwC_same q1 q2 q3, ← hg]
  have z0 : a = g 0 := by subst hg; rfl
  have zp1 : p1 = g 1 := by subst hg; rfl
  have zp2 : p2 = g 2 := by subst hg; rfl
  have zp3 : p3 = g 3 := by subst hg; rfl
  have zp4 : p4 = g 4 := by subst hg; rfl
  have zp5 : p5 = g 5 := by subst hg; rfl
  have zp6 : p6 = g 6 := by subst hg; rfl
  have zp7 : p7 = g 7 := by subst hg; rfl
  have zp8 : p8 = g 8 := by subst hg; rfl
  have zp9 : p9 = g 9 := by subst hg; rfl
  have zp10 : p10 = g 10 := by subst hg; rfl
  have zp11 : p11 = g 11 := by subst hg; rfl
  have zp12 : p12 = g 12 := by subst hg; rfl
  have zp13 : p13 = g 13 := by subst hg; rfl
  have zp14 : p14 = g 14 := by subst hg; rfl
  have zp15 : p15 = g 15 := by subst hg; rfl
  have zp16 : p16 = g 16 := by subst hg; rfl
  have zp17 : p17 = g 17 := by subst hg; rfl
  have zp18 : p18 = g 18 := by subst hg; rfl
  have zp19 : p19 = g 19 := by subst hg; rfl
  have zp20 : p20 = g 36 := by subst hg; rfl
  have zp21 : p21 = g 37 := by subst hg; rfl
  have zp22 : p22 = g 38 := by subst hg; rfl
  have zp23 : p23 = g 39 := by subst hg; rfl
  have zp24 : p24 = g 40 := by subst hg; rfl
  have zp25 : p25 = g 41 := by subst hg; rfl
  have zp26 : p26 = g 42 := by subst hg; rfl
  have zp27 : p27 = g 43 := by subst hg; rfl
  have zp28 : p28 = g 44 := by subst hg; rfl
  have zp29 : p29 = g 165 := by subst hg; rfl
  have zp30 : p30 = g 166 := by subst hg; rfl
  have zp31 : p31 = g 167 := by subst hg; rfl
  have zp32 : p32 = g 168 := by subst hg; rfl
  have zp33 : p33 = g 169 := by subst hg; rfl
  have zp34 : p34 = g 170 := by subst hg; rfl
  have zp35 : p35 = g 171 := by subst hg; rfl
  have zp36 : p36 = g 172 := by subst hg; rfl
  have zp37 : p37 = g 173 := by subst hg; rfl
  have zp38 : p38 = g 174 := by subst hg; rfl
  have zp39 : p39 = g 175 := by subst hg; rfl
  have zp40 : p40 = g 197 := by subst hg; rfl
  have zp41 : p41 = g 198 := by subst hg; rfl
  have zp42 : p42 = g 199 := by subst hg; rfl
  refine Eq.trans ?_ kwC_eq
  rw [← z0, ← zp1, ← zp2, ← zp3, ← zp4, ← zp5, ← zp6, ← zp7, ← zp8, ← zp9, ← zp10, ← zp11, ← zp12, ← zp13, ← zp14, ← zp15, ← zp16, ← zp17, ← zp18, ← zp19, ← zp20, ← zp21, ← zp22, ← zp23, ← zp24, ← zp25, ← zp26, ← zp27, ← zp28, ← zp29, ← zp30, ← zp31, ← zp32, ← zp33, ← zp34, ← zp35, ← zp36, ← zp37, ← zp38, ← zp39, ← zp40, ← zp41, ← zp42]
theorem kG_M : kwM cy ad0 a2 m1 m2 m3 m4 m5 m6 m7 m8 m9 m10 m11 m12 m13 m14 m15 m16 m17 m18 m19 m20 m21 m22 m23 m24 m25 m26 m27 = kwM_eq_L.map (kf cy (kG [a, p1, p2, p3, p4, p5, p6, p7, p8, p9, p10, p11, p12, p13, p14, p15, p16, p17, p18, p19] rr [p20, p21, p22, p23, p24, p25, p26, p27, p28] ss [p29, p30, p31, p32, p33, p34, p35, p36, p37, p38, p39] tt [p40, p41, p42] [a2, m1, m2, m3, m4, m5, m6, m7, m8, m9, m10, m11, m12, m13, m14, m15, m16, m17, m18, m19, m20, m21, m22, m23, m24, m25, m26, m27] ad0)) := by
  obtain ⟨g, hg⟩ : ∃ g, g = kG [a, p1, p2, p3, p4, p5, p6, p7, p8, p9, p10, p11, p12, p13, p14, p15, p16, p17, p18, p19] rr [p20, p21, p22, p23, p24, p25, p26, p27, p28] ss [p29, p30, p31, p32, p33, p34, p35, p36, p37, p38, p39] tt [p40, p41, p42] [a2, m1, m2, m3, m4, m5, m6, m7, m8, m9, m10, m11, m12, m13, m14, m15, m16, m17, m18, m19, m20, m21, m22, m23, m24, m25, m26, m27] ad0 := ⟨_, rfl⟩
  rw [← hg]
  have z0 : a2 = g 200 := by subst hg; rfl
  have zm1 : m1 = g 201 := by subst hg; rfl
  have zm2 : m2 = g 202 := by subst hg; rfl
  have zm3 : m3 = g 203 := by subst hg; rfl
  have zm4 : m4 = g 204 := by subst hg; rfl
  have zm5 : m5 = g 205 := by subst hg; rfl
  have zm6 : m6 = g 206 := by subst hg; rfl
  have zm7 : m7 = g 207 := by subst hg; rfl
  have zm8 : m8 = g 208 := by subst hg; rfl
  have zm9 : m9 = g 209 := by subst hg; rfl
  have zm10 : m10 = g 210 := by subst hg; rfl
  have zm11 : m11 = g 211 := by subst hg; rfl
  have zm12 : m12 = g 212 := by subst hg; rfl
  have zm13 : m13 = g 213 := by subst hg; rfl
  have zm14 : m14 = g 214 := by subst hg; rfl
  have zm15 : m15 = g 215 := by subst hg; rfl
  have zm16 : m16 = g 216 := by subst hg; rfl
  have zm17 : m17 = g 217 := by subst hg; rfl
  have zm18 : m18 = g 218 := by subst hg; rfl
  have zm19 : m19 = g 219 := by subst hg; rfl
  have zm20 : m20 = g 220 := by subst hg; rfl
  have zm21 : m21 = g 221 := by subst hg; rfl
  have zm22 : m22 = g 222 := by subst hg; rfl
  have zm23 : m23 = g 223 := by subst hg; rfl
  have zm24 : m24 = g 224 := by subst hg; rfl
  have zm25 : m25 = g 225 := by subst hg; rfl
  have zm26 : m26 = g 226 := by subst hg; rfl
  have zm27 : m27 = g 227 := by subst hg; rfl
  have y4 : ad0 (2000 + 4) = g (2000 + 4) := by subst hg; exact (kG_ge (by decide)).symm
  have y3 : ad0 (2000 + 3) = g (2000 + 3) := by subst hg; exact (kG_ge (by decide)).symm
  refine Eq.trans ?_ kwM_eq
  rw [← z0, ← zm1, ← zm2, ← zm3, ← zm4, ← zm5, ← zm6, ← zm7, ← zm8, ← zm9, ← zm10, ← zm11, ← zm12, ← zm13, ← zm14, ← zm15, ← zm16, ← zm17, ← zm18, ← zm19, ← zm20, ← zm21, ← zm22, ← zm23, ← zm24, ← zm25, ← zm26, ← zm27]
  unfold kwM
  rw [y4, y3]
theorem k_world {s : State} {D : va_G} {H : Heap} {qo : Nat} {e9 : va_E} (hP : va_P D vwCl ((kwC cy a p1 p2 p3 p4 p5 p6 p7 p8 p9 p10 p11 p12 p13 p14 p15 p16 p17 p18 p19 rr p20 p21 p22 p23 p24 p25 p26 p27 p28 p29 p30 ss p31 p32 p33 p34 p35 p36 p37 p38 p39 tt p40 p41 p42 ++ kwM cy ad0 a2 m1 m2 m3 m4 m5 m6 m7 m8 m9 m10 m11 m12 m13 m14 m15 m16 m17 m18 m19 m20 m21 m22 m23 m24 m25 m26 m27) ++ [(qo, e9)]) H) (hD : va_D (k_A s) ((kwC cy a p1 p2 p3 p4 p5 p6 p7 p8 p9 p10 p11 p12 p13 p14 p15 p16 p17 p18 p19 rr p20 p21 p22 p23 p24 p25 p26 p27 p28 p29 p30 ss p31 p32 p33 p34 p35 p36 p37 p38 p39 tt p40 p41 p42 ++ kwM cy ad0 a2 m1 m2 m3 m4 m5 m6 m7 m8 m9 m10 m11 m12 m13 m14 m15 m16 m17 m18 m19 m20 m21 m22 m23 m24 m25 m26 m27) ++ [(qo, e9)])) (hK : ab_K D cy ad0 (k_A s) s s.heap) : ∃ ad : Nat → Nat, ad 0 = a ∧ ad 200 = a2 ∧ va_P D vwCl (ab_W cy ad kh0) H ∧ va_D (al_A s qo) (ab_W cy ad kh0) ∧ ab_K D cy ad (al_A s qo) s s.heap := by
  refine ⟨kG [a, p1, p2, p3, p4, p5, p6, p7, p8, p9, p10, p11, p12, p13, p14, p15, p16, p17, p18, p19] rr [p20, p21, p22, p23, p24, p25, p26, p27, p28] ss [p29, p30, p31, p32, p33, p34, p35, p36, p37, p38, p39] tt [p40, p41, p42] [a2, m1, m2, m3, m4, m5, m6, m7, m8, m9, m10, m11, m12, m13, m14, m15, m16, m17, m18, m19, m20, m21, m22, m23, m24, m25, m26, m27] ad0, rfl, rfl, ?_, ?_, hK.re (fun x hx => kG_ge hx) (fun q h => h.1)⟩
  · rw [kG_C (ad0 := ad0) (a2 := a2) (m1 := m1) (m2 := m2) (m3 := m3) (m4 := m4) (m5 := m5) (m6 := m6) (m7 := m7) (m8 := m8) (m9 := m9) (m10 := m10) (m11 := m11) (m12 := m12) (m13 := m13) (m14 := m14) (m15 := m15) (m16 := m16) (m17 := m17) (m18 := m18) (m19 := m19) (m20 := m20) (m21 := m21) (m22 := m22) (m23 := m23) (m24 := m24) (m25 := m25) (m26 := m26) (m27 := m27), kG_M (a := a) (rr := rr) (ss := ss) (tt := tt) (p1 := p1) (p2 := p2) (p3 := p3) (p4 := p4) (p5 := p5) (p6 := p6) (p7 := p7) (p8 := p8) (p9 := p9) (p10 := p10) (p11 := p11) (p12 := p12) (p13 := p13) (p14 := p14) (p15 := p15) (p16 := p16) (p17 := p17) (p18 := p18) (p19 := p19) (p20 := p20) (p21 := p21) (p22 := p22) (p23 := p23) (p24 := p24) (p25 := p25) (p26 := p26) (p27 := p27) (p28 := p28) (p29 := p29) (p30 := p30) (p31 := p31) (p32 := p32) (p33 := p33) (p34 := p34) (p35 := p35) (p36 := p36) (p37 := p37) (p38 := p38) (p39 := p39) (p40 := p40) (p41 := p41) (p42 := p42), ← List.map_append] at hP
    exact kw_P kPS_all hP
  · have hD' := yd_Dr hD
    rw [kG_C (ad0 := ad0) (a2 := a2) (m1 := m1) (m2 := m2) (m3 := m3) (m4 := m4) (m5 := m5) (m6 := m6) (m7 := m7) (m8 := m8) (m9 := m9) (m10 := m10) (m11 := m11) (m12 := m12) (m13 := m13) (m14 := m14) (m15 := m15) (m16 := m16) (m17 := m17) (m18 := m18) (m19 := m19) (m20 := m20) (m21 := m21) (m22 := m22) (m23 := m23) (m24 := m24) (m25 := m25) (m26 := m26) (m27 := m27), kG_M (a := a) (rr := rr) (ss := ss) (tt := tt) (p1 := p1) (p2 := p2) (p3 := p3) (p4 := p4) (p5 := p5) (p6 := p6) (p7 := p7) (p8 := p8) (p9 := p9) (p10 := p10) (p11 := p11) (p12 := p12) (p13 := p13) (p14 := p14) (p15 := p15) (p16 := p16) (p17 := p17) (p18 := p18) (p19 := p19) (p20 := p20) (p21 := p21) (p22 := p22) (p23 := p23) (p24 := p24) (p25 := p25) (p26 := p26) (p27 := p27) (p28 := p28) (p29 := p29) (p30 := p30) (p31 := p31) (p32 := p32) (p33 := p33) (p34 := p34) (p35 := p35) (p36 := p36) (p37 := p37) (p38 := p38) (p39 := p39) (p40 := p40) (p41 := p41) (p42 := p42), ← List.map_append, ← List.append_nil (List.map _ _)] at hD'
    exact kw_D kPS_all hD'
end KWW
