/-! THE TEXT OF A KERB, pure -/
abbrev V3 : Type := Int × Int × Int
def g3 (v : V3) (i : Nat) : Int := if i = 0 then v.1 else if i = 1 then v.2.1 else v.2.2
def s3 (v : V3) (i : Nat) (x : Int) : V3 := if i = 0 then (x, v.2.1, v.2.2) else if i = 1 then (v.1, x, v.2.2) else (v.1, v.2.1, x)
theorem g3_s3 {v : V3} {i k : Nat} {x : Int} (hi : i < 3) (hk : k < 3) : g3 (s3 v i x) k = if k = i then x else g3 v k := by
  rcases (show i = 0 ∨ i = 1 ∨ i = 2 by omega) with rfl | rfl | rfl <;> rcases (show k = 0 ∨ k = 1 ∨ k = 2 by omega) with rfl | rfl | rfl <;> rfl
/-- items of a clause, their least and most -/
def kn (j : Nat) : Nat := if j = 0 then 3 else 2
def kl (j i : Nat) : Int := if j = 0 then (if i = 0 then 2 else 0) else if j = 1 then 1 else (if i = 0 then 0 else 1)
def km (j i : Nat) : Int := if j = 0 then (if i = 0 then 20 else 99) else if j = 1 then 9 else (if i = 0 then 19 else 9)
def ku (j : Nat) : V3 := if j = 0 then (12, 0, 50) else if j = 1 then (3, 1, 0) else (0, 1, 0)
theorem kl_b (j i : Nat) : 0 ≤ kl j i ∧ kl j i ≤ 2 := by unfold kl; (repeat' split) <;> omega
theorem km_b (j i : Nat) : 9 ≤ km j i ∧ km j i ≤ 99 := by unfold km; (repeat' split) <;> omega
theorem pof_i {j : Nat} {s : Int} (hj : j < 3) (h : ¬ pof j s = -1) : ∃ i : Nat, pof j s = (i : Int) ∧ i < kn j ∧ ¬ s = 59 ∧ ¬ s = -1 := by
  have h0 : ∀ j, j < 3 → (sch j 0 = 108 ∨ sch j 0 = 97) ∧ (sch j 1 = 113 ∨ sch j 1 = 119 ∨ sch j 1 = 108) ∧ sch 0 2 = 111 := by decide
  have h1 := h0 j hj
  unfold pof at h ⊢
  by_cases e1 : s = sch j 0
  · rw [if_pos e1]; exact ⟨0, rfl, by unfold kn; split <;> omega, by omega, by omega⟩
  · rw [if_neg e1] at h ⊢
    by_cases e2 : s = sch j 1
    · rw [if_pos e2]; exact ⟨1, rfl, by unfold kn; split <;> omega, by omega, by omega⟩
    · rw [if_neg e2] at h ⊢
      by_cases e3 : j = 0 ∧ s = sch j 2
      · rw [if_pos e3]
        refine ⟨2, rfl, by unfold kn; rw [if_pos e3.1]; omega, ?_, ?_⟩ <;> (have := e3.2; rw [e3.1] at this; omega)
      · rw [if_neg e3] at h; exact absurd rfl h
section KT
variable (T : Nat → Int) (z : Nat)
def kNm (lo hi : Int) (p : Nat) : Int × Nat × Int := if dg T z (lk T z p) then (if dg T z (nmb T z 2 (lk T z p) 0).1 then ((((nmb T z 2 (lk T z p) 0).1 : Nat) : Int), 0, 0) else if (nmb T z 2 (lk T z p) 0).2 < lo ∨ hi < (nmb T z 2 (lk T z p) 0).2 then ((((nmb T z 2 (lk T z p) 0).1 : Nat) : Int) - 1, 0, 0) else (-1, (nmb T z 2 (lk T z p) 0).1, (nmb T z 2 (lk T z p) 0).2)) else (((lk T z p : Nat) : Int), 0, 0)
abbrev kR : Type := Int × Nat × V3
def kit (j : Nat) : Nat → (Nat → Bool) → V3 → Nat → kR
  | 0, _, v, p => (-1, lk T z p, v)
  | f + 1, tl, v, p => if pof j (sg T z p) = -1 ∨ tl (pof j (sg T z p)).toNat = true then (-1, lk T z p, v) else if (kNm T z (kl j (pof j (sg T z p)).toNat) (km j (pof j (sg T z p)).toNat) (lk T z p + 1)).1 = -1 then kit j f (fun k => decide (k = (pof j (sg T z p)).toNat) || tl k) (s3 v (pof j (sg T z p)).toNat (kNm T z (kl j (pof j (sg T z p)).toNat) (km j (pof j (sg T z p)).toNat) (lk T z p + 1)).2.2) (kNm T z (kl j (pof j (sg T z p)).toNat) (km j (pof j (sg T z p)).toNat) (lk T z p + 1)).2.1 else ((kNm T z (kl j (pof j (sg T z p)).toNat) (km j (pof j (sg T z p)).toNat) (lk T z p + 1)).1, 0, v)
/-- kerb told; yards, obeying, leaving; sorts; gates -/
abbrev kS : Type := Bool × V3 × List (Int × Int) × List (Int × Int)
def kc0 (j p : Nat) : kR := kit T z j (kn j) (fun _ => false) (ku j) (lk T z p + 1)
def kclF (S : kS) (p : Nat) : Int × Nat × kS :=
  if sg T z p = 107 ∧ S.1 = false then ((kc0 T z 0 p).1, (kc0 T z 0 p).2.1, (true, (kc0 T z 0 p).2.2, S.2.2.1, S.2.2.2))
  else if sg T z p = 115 ∧ S.2.2.1.length < 4 then ((kc0 T z 1 p).1, (kc0 T z 1 p).2.1, (S.1, S.2.1, S.2.2.1 ++ [((kc0 T z 1 p).2.2.1, (kc0 T z 1 p).2.2.2.1)], S.2.2.2))
  else if sg T z p = 103 ∧ S.2.2.2.length < 4 then ((kc0 T z 2 p).1, (kc0 T z 2 p).2.1, (S.1, S.2.1, S.2.2.1, S.2.2.2 ++ [((kc0 T z 2 p).2.2.1, (kc0 T z 2 p).2.2.2.1)]))
  else (((lk T z p : Nat) : Int), 0, S)
def kRL : Nat → Nat → kS → Int × kS
  | 0, p, S => if sg T z p = -1 ∧ ¬ S.2.2.1.length = 0 then (-1, S) else (((lk T z p : Nat) : Int), S)
  | f + 1, p, S => if sg T z p = 59 then (if (kclF T z S (lk T z p + 1)).1 = -1 then kRL f (kclF T z S (lk T z p + 1)).2.1 (kclF T z S (lk T z p + 1)).2.2 else ((kclF T z S (lk T z p + 1)).1, S)) else if sg T z p = -1 ∧ ¬ S.2.2.1.length = 0 then (-1, S) else (((lk T z p : Nat) : Int), S)
def kS0 : kS := (false, (12, 0, 50), [], [])
def kRu : Int × kS := if (kclF T z kS0 0).1 = -1 then kRL T z 160 (kclF T z kS0 0).2.1 (kclF T z kS0 0).2.2 else ((kclF T z kS0 0).1, kS0)
end KT
section KL
variable {T : Nat → Int} {z p q f i j : Nat} {v : V3} {tl : Nat → Bool} {w x : Int} {S S' : kS}
theorem kit_0 : kit T z j 0 tl v p = (-1, lk T z p, v) := rfl
theorem kit_n (h : pof j (sg T z p) = -1) : kit T z j f tl v p = (-1, lk T z p, v) := by
  cases f with
  | zero => rfl
  | succ f => exact if_pos (Or.inl h)
theorem kit_t (h : pof j (sg T z p) = (i : Int)) (ht : tl i = true) : kit T z j f tl v p = (-1, lk T z p, v) := by
  cases f with
  | zero => rfl
  | succ f => exact if_pos (Or.inr (by rw [h]; exact ht))
theorem kit_1 (h : pof j (sg T z p) = (i : Int)) (ht : ¬ tl i = true) (e : kNm T z (kl j i) (km j i) (lk T z p + 1) = (-1, q, x)) : kit T z j (f + 1) tl v p = kit T z j f (fun k => decide (k = i) || tl k) (s3 v i x) q := by
  show (if _ then _ else _) = _
  rw [h, Int.toNat_natCast, if_neg (by rintro (a | a); omega; exact ht a), e, if_pos rfl]
theorem kit_2 (h : pof j (sg T z p) = (i : Int)) (ht : ¬ tl i = true) (e : (kNm T z (kl j i) (km j i) (lk T z p + 1)).1 = w) (hw : ¬ w = -1) : (kit T z j (f + 1) tl v p).1 = w := by
  show (if _ then _ else _ : kR).1 = _
  rw [h, Int.toNat_natCast, if_neg (by rintro (a | a); omega; exact ht a), if_neg (by rw [e]; exact hw)]; exact e
theorem kNm_1 {lo hi : Int} (h1 : dg T z (lk T z p)) (h2 : ¬ dg T z (nmb T z 2 (lk T z p) 0).1) (h3 : lo ≤ (nmb T z 2 (lk T z p) 0).2 ∧ (nmb T z 2 (lk T z p) 0).2 ≤ hi) : kNm T z lo hi p = (-1, (nmb T z 2 (lk T z p) 0).1, (nmb T z 2 (lk T z p) 0).2) := by
  unfold kNm; rw [if_pos h1, if_neg h2, if_neg (by omega)]
theorem kNm_2 {lo hi : Int} (h1 : dg T z (lk T z p)) (h2 : ¬ dg T z (nmb T z 2 (lk T z p) 0).1) (h3 : ¬ (lo ≤ (nmb T z 2 (lk T z p) 0).2 ∧ (nmb T z 2 (lk T z p) 0).2 ≤ hi)) : (kNm T z lo hi p).1 = (((nmb T z 2 (lk T z p) 0).1 : Nat) : Int) - 1 := by
  unfold kNm; rw [if_pos h1, if_neg h2, if_pos (by omega)]
theorem kNm_3 {lo hi : Int} (h1 : dg T z (lk T z p)) (h2 : dg T z (nmb T z 2 (lk T z p) 0).1) : (kNm T z lo hi p).1 = (((nmb T z 2 (lk T z p) 0).1 : Nat) : Int) := by
  unfold kNm; rw [if_pos h1, if_pos h2]
theorem kNm_4 {lo hi : Int} (h1 : ¬ dg T z (lk T z p)) : (kNm T z lo hi p).1 = ((lk T z p : Nat) : Int) := by
  unfold kNm; rw [if_neg h1]
theorem kcl_k (h : sg T z p = 107) (hk : S.1 = false) (e : kc0 T z 0 p = (-1, q, v)) : kclF T z S p = (-1, q, (true, v, S.2.2.1, S.2.2.2)) := by unfold kclF; rw [if_pos ⟨h, hk⟩, e]
theorem kcl_s (h : sg T z p = 115) (hk : S.2.2.1.length < 4) (e : kc0 T z 1 p = (-1, q, v)) : kclF T z S p = (-1, q, (S.1, S.2.1, S.2.2.1 ++ [(v.1, v.2.1)], S.2.2.2)) := by unfold kclF; rw [if_neg (by omega), if_pos ⟨h, hk⟩, e]
theorem kcl_g (h : sg T z p = 103) (hk : S.2.2.2.length < 4) (e : kc0 T z 2 p = (-1, q, v)) : kclF T z S p = (-1, q, (S.1, S.2.1, S.2.2.1, S.2.2.2 ++ [(v.1, v.2.1)])) := by unfold kclF; rw [if_neg (by omega), if_neg (by omega), if_pos ⟨h, hk⟩, e]
theorem kcl_kw (h : sg T z p = 107) (hk : S.1 = false) (e : (kc0 T z 0 p).1 = w) : (kclF T z S p).1 = w := by unfold kclF; rw [if_pos ⟨h, hk⟩]; exact e
theorem kcl_sw (h : sg T z p = 115) (hk : S.2.2.1.length < 4) (e : (kc0 T z 1 p).1 = w) : (kclF T z S p).1 = w := by unfold kclF; rw [if_neg (by omega), if_pos ⟨h, hk⟩]; exact e
theorem kcl_gw (h : sg T z p = 103) (hk : S.2.2.2.length < 4) (e : (kc0 T z 2 p).1 = w) : (kclF T z S p).1 = w := by unfold kclF; rw [if_neg (by omega), if_neg (by omega), if_pos ⟨h, hk⟩]; exact e
theorem kcl_n (h1 : ¬ (sg T z p = 107 ∧ S.1 = false)) (h2 : ¬ (sg T z p = 115 ∧ S.2.2.1.length < 4)) (h3 : ¬ (sg T z p = 103 ∧ S.2.2.2.length < 4)) : (kclF T z S p).1 = ((lk T z p : Nat) : Int) := by unfold kclF; rw [if_neg h1, if_neg h2, if_neg h3]
theorem krl_1 (h : sg T z p = 59) (e : kclF T z S (lk T z p + 1) = (-1, q, S')) : kRL T z (f + 1) p S = kRL T z f q S' := by show (if _ then _ else _) = _; rw [if_pos h, e, if_pos rfl]
theorem krl_2 (h : sg T z p = 59) (e : (kclF T z S (lk T z p + 1)).1 = w) (hw : ¬ w = -1) : (kRL T z (f + 1) p S).1 = w := by show (if _ then _ else _ : Int × kS).1 = _; rw [if_pos h, if_neg (by rw [e]; exact hw)]; exact e
theorem krl_3 (h : sg T z p = -1) (hs : ¬ S.2.2.1.length = 0) : kRL T z f p S = (-1, S) := by
  cases f with
  | zero => exact if_pos ⟨h, hs⟩
  | succ f => show (if _ then _ else _) = _; rw [if_neg (by omega), if_pos ⟨h, hs⟩]
theorem krl_4 (h : ¬ sg T z p = 59) (hs : ¬ (sg T z p = -1 ∧ ¬ S.2.2.1.length = 0)) : (kRL T z f p S).1 = ((lk T z p : Nat) : Int) := by
  cases f with
  | zero => show (if _ then _ else _ : Int × kS).1 = _; rw [if_neg hs]
  | succ f => show (if _ then _ else _ : Int × kS).1 = _; rw [if_neg h, if_neg hs]
theorem krl_lk : ∀ f, kRL T z f (lk T z p) S = kRL T z f p S
  | 0 => by show (if _ then _ else _) = (if _ then _ else _); rw [sg_lk, lk_lk]
  | f + 1 => by show (if _ then _ else _) = (if _ then _ else _); rw [sg_lk, lk_lk]
theorem kru_1 (e : kclF T z kS0 0 = (-1, q, S)) : kRu T z = kRL T z 160 q S := by unfold kRu; rw [e, if_pos rfl]
theorem kru_2 (e : (kclF T z kS0 0).1 = w) (hw : ¬ w = -1) : (kRu T z).1 = w := by unfold kRu; rw [if_neg (by rw [e]; exact hw)]; exact e
/-- what a read kerb is like -/
def vOK (j : Nat) (v : V3) : Prop := ∀ i, i < kn j → kl j i ≤ g3 v i ∧ g3 v i ≤ km j i
def kOK (S : kS) : Prop := vOK 0 S.2.1 ∧ (∀ s ∈ S.2.2.1, (1 ≤ s.1 ∧ s.1 ≤ 9) ∧ (1 ≤ s.2 ∧ s.2 ≤ 9)) ∧ (∀ g ∈ S.2.2.2, (0 ≤ g.1 ∧ g.1 ≤ 19) ∧ (1 ≤ g.2 ∧ g.2 ≤ 9)) ∧ S.2.2.1.length ≤ 4 ∧ S.2.2.2.length ≤ 4
theorem ku_ok {j : Nat} (hj : j < 3) : vOK j (ku j) := by
  have h : ∀ j, j < 3 → ∀ i, i < 3 → i < kn j → kl j i ≤ g3 (ku j) i ∧ g3 (ku j) i ≤ km j i := by decide
  exact fun i hi => h j hj i (by unfold kn at hi; split at hi <;> omega) hi
theorem vOK_s {j i : Nat} {v : V3} {x : Int} (h : vOK j v) (hi : i < kn j) (hx : kl j i ≤ x ∧ x ≤ km j i) : vOK j (s3 v i x) := fun k hk => by
  have hn : kn j ≤ 3 := by unfold kn; split <;> omega
  rw [g3_s3 (by omega) (by omega)]
  by_cases e : k = i
  · subst e; rw [if_pos rfl]; exact hx
  · rw [if_neg e]; exact h k hk
theorem kOK_0 : kOK kS0 := ⟨ku_ok (j := 0) (by decide), fun s hs => absurd hs (List.not_mem_nil), fun s hs => absurd hs (List.not_mem_nil), by decide, by decide⟩
end KL
