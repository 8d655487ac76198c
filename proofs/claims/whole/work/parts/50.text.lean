/-! TEXTS, pure: signs, places, what is read -/
def skp (T : Nat → Int) (z : Nat) : Nat → Nat → Nat
  | 0, p => p
  | f + 1, p => if p < z ∧ T p = 32 then skp T z f (p + 1) else p
/-- the next place that is no blank -/
def lk (T : Nat → Int) (z p : Nat) : Nat := skp T z (z - p) p
theorem lk_n {T : Nat → Int} {z p : Nat} (h : ¬ (p < z ∧ T p = 32)) : lk T z p = p := by
  unfold lk
  cases z - p with
  | zero => rfl
  | succ f => show (if _ then _ else _) = _; rw [if_neg h]
theorem lk_s {T : Nat → Int} {z p : Nat} (h : p < z ∧ T p = 32) : lk T z p = lk T z (p + 1) := by
  unfold lk
  rw [show z - p = (z - (p + 1)) + 1 by omega]
  show (if _ then _ else _) = _
  rw [if_pos h]
theorem lk_b {T : Nat → Int} {z : Nat} : ∀ (n p : Nat), z - p = n → p ≤ lk T z p ∧ (p ≤ z → lk T z p ≤ z) ∧ ¬ (lk T z p < z ∧ T (lk T z p) = 32)
  | 0, p, h => by rw [lk_n (by omega)]; exact ⟨Nat.le_refl p, fun q => q, by omega⟩
  | n + 1, p, h => by
    by_cases q : p < z ∧ T p = 32
    · rw [lk_s q]
      have := lk_b (T := T) (z := z) n (p + 1) (by omega)
      exact ⟨by omega, fun _ => this.2.1 (by omega), this.2.2⟩
    · rw [lk_n q]; exact ⟨Nat.le_refl p, fun q => q, q⟩
theorem lk_ge (T : Nat → Int) (z p : Nat) : p ≤ lk T z p := (lk_b _ p rfl).1
theorem lk_le {T : Nat → Int} {z p : Nat} (h : p ≤ z) : lk T z p ≤ z := (lk_b _ p rfl).2.1 h
theorem lk_lk (T : Nat → Int) (z p : Nat) : lk T z (lk T z p) = lk T z p := lk_n (lk_b _ p rfl).2.2
def sg (T : Nat → Int) (z p : Nat) : Int := if lk T z p < z then T (lk T z p) else -1
theorem sg_lk (T : Nat → Int) (z p : Nat) : sg T z (lk T z p) = sg T z p := by unfold sg; rw [lk_lk]
def tx (T : Nat → Int) (z : Nat) : Prop := z ≤ 160 ∧ ∀ i, i < z → 1 ≤ T i ∧ T i ≤ 255
theorem sg_b {T : Nat → Int} {z : Nat} (h : tx T z) (p : Nat) : -1 ≤ sg T z p ∧ sg T z p ≤ 255 := by
  unfold sg
  split
  · have := h.2 _ ‹_›; omega
  · omega
theorem sg_in {T : Nat → Int} {z p : Nat} (h : ¬ sg T z p = -1) : lk T z p < z := by
  unfold sg at h
  split at h
  · assumption
  · exact absurd rfl h
theorem sg_out {T : Nat → Int} {z p : Nat} (hx : tx T z) (h : sg T z p = -1) (hp : p ≤ z) : lk T z p = z := by
  unfold sg at h
  split at h
  · have := hx.2 _ ‹_›; omega
  · have := lk_le (T := T) hp; omega
theorem sg_at {T : Nat → Int} {z p : Nat} (h : lk T z p < z) : sg T z p = T (lk T z p) := by unfold sg; rw [if_pos h]
/-- what a reading gives: the fault (-1: none), the place behind it, the orders -/
abbrev pR : Type := Int × Nat × List (Int × Int)
def bad (w : Nat) : pR := ((w : Int), 0, [])
def pB (r : pR) (f : Nat → List (Int × Int) → pR) : pR := if r.1 = -1 then f r.2.1 r.2.2 else (r.1, 0, [])
theorem pB_ok {r : pR} {p : Nat} {c : List (Int × Int)} {f : Nat → List (Int × Int) → pR} (h : r = (-1, p, c)) : pB r f = f p c := by rw [h]; rfl
theorem pB_no {r : pR} {f : Nat → List (Int × Int) → pR} (h : ¬ r.1 = -1) : pB r f = (r.1, 0, []) := if_neg h
abbrev dg (T : Nat → Int) (z p : Nat) : Prop := p < z ∧ 48 ≤ T p ∧ T p ≤ 57
def nmb (T : Nat → Int) (z : Nat) : Nat → Nat → Int → Nat × Int
  | 0, p, v => (p, v)
  | m + 1, p, v => if dg T z p then nmb T z m (p + 1) (v * 10 + T p - 48) else (p, v)
theorem nmb_0 {T : Nat → Int} {z p : Nat} {v : Int} : nmb T z 0 p v = (p, v) := rfl
theorem nmb_t {T : Nat → Int} {z m p : Nat} {v : Int} (h : dg T z p) : nmb T z (m + 1) p v = nmb T z m (p + 1) (v * 10 + T p - 48) := if_pos h
theorem nmb_f {T : Nat → Int} {z m p : Nat} {v : Int} (h : ¬ dg T z p) : nmb T z m p v = (p, v) := by
  cases m with
  | zero => rfl
  | succ m => exact if_neg h
theorem nmb_p {T : Nat → Int} {z : Nat} : ∀ (m p : Nat) (v : Int), p ≤ z → p ≤ (nmb T z m p v).1 ∧ (nmb T z m p v).1 ≤ z
  | 0, p, v, h => ⟨Nat.le_refl p, h⟩
  | m + 1, p, v, h => by
    by_cases q : dg T z p
    · rw [nmb_t q]
      have := nmb_p (T := T) (z := z) m (p + 1) (v * 10 + T p - 48) (by omega)
      omega
    · rw [nmb_f q]; exact ⟨Nat.le_refl p, h⟩
theorem nmb_v {T : Nat → Int} {z : Nat} : ∀ (m p : Nat) (v : Int) (b : Int), 0 ≤ v ∧ v + 1 ≤ b → 0 ≤ (nmb T z m p v).2 ∧ (nmb T z m p v).2 + 1 ≤ b * 10 ^ m
  | 0, p, v, b, h => by rw [Int.pow_zero, Int.mul_one]; exact h
  | m + 1, p, v, b, h => by
    by_cases q : dg T z p
    · rw [nmb_t q, Int.pow_succ, Int.mul_comm (10 ^ m) 10, ← Int.mul_assoc]
      exact nmb_v m (p + 1) (v * 10 + T p - 48) (b * 10) (by omega)
    · rw [nmb_f q]
      refine ⟨h.1, Int.le_trans h.2 ?_⟩
      have h1 : (0 : Int) < 10 ^ (m + 1) := Int.pow_pos (by omega)
      have h2 : b * 1 ≤ b * 10 ^ (m + 1) := Int.mul_le_mul_of_nonneg_left (by omega) (by omega)
      omega
def pNum (T : Nat → Int) (z m p : Nat) : pR := if dg T z p then (if dg T z (nmb T z m p 0).1 then bad (nmb T z m p 0).1 else (-1, (nmb T z m p 0).1, [(0, (nmb T z m p 0).2)])) else bad p
def li (s : Int) : Int := if s = 112 then 0 else if s = 108 then 1 else if s = 98 then 2 else if s = 97 then 3 else if s = 110 then 4 else -1
def cmpo (s : Int) : Int := if s = 61 then 6 else if s = 60 then 7 else if s = 62 then 8 else -1
def opo (a b oa ob s : Int) : Int := if s = a then oa else if s = b then ob else -1
section PR
variable (T : Nat → Int) (z : Nat)
/-- behind what stands in brackets -/
def clsF (e : Int) (q : Nat) (c : List (Int × Int)) : pR := if sg T z q = e then (-1, lk T z q + 1, c) else bad (lk T z q)
def subF (sub : Option (Nat → pR)) (p : Nat) (k : Nat → List (Int × Int) → pR) : pR := match sub with
  | none => bad p
  | some f => pB (f (p + 1)) k
def atomF (sub : Option (Nat → pR)) (p : Nat) : pR :=
  if sg T z p = 91 then subF sub (lk T z p) (clsF T z 93)
  else if li (sg T z p) = -1 then pNum T z 4 (lk T z p) else (-1, lk T z p + 1, [(1, li (sg T z p))])
def seqL (next : Nat → pR) (a b oa ob : Int) : Nat → Nat → List (Int × Int) → pR
  | 0, p, c => (-1, lk T z p, c)
  | f + 1, p, c => if opo a b oa ob (sg T z p) = -1 then (-1, lk T z p, c) else pB (next (lk T z p + 1)) (fun q c1 => seqL next a b oa ob f q (c ++ (c1 ++ [(opo a b oa ob (sg T z p), 0)])))
def seqF (first next : Nat → pR) (a b oa ob : Int) (p : Nat) : pR := pB (first p) (fun q c => seqL T z next a b oa ob 160 q c)
def termF (A : Nat → pR) : Nat → pR := seqF T z A A 42 47 4 5
def sumF (A : Nat → pR) : Nat → pR := seqF T z (termF T z A) (termF T z A) 43 45 2 3
def pA : Nat → Nat → pR
  | 0 => atomF T z none
  | r + 1 => atomF T z (some (sumF T z (pA r)))
def pSm (r : Nat) : Nat → pR := sumF T z (pA T z r)
/-- a comparison, its first sum told already -/
def cmpF (S : Nat → pR) (q : Nat) (c : List (Int × Int)) : pR := if cmpo (sg T z q) = -1 then bad (lk T z q) else pB (S (lk T z q + 1)) (fun q2 c2 => (-1, q2, c ++ (c2 ++ [(cmpo (sg T z q), 0)])))
def unitF (sub : Option ((Bool → Nat → pR) × (Bool → Nat → pR))) (S : Nat → pR) (g : Bool) (p : Nat) : pR :=
  if g = true then cmpF T z S (lk T z p) []
  else if sg T z p = 33 then subF (sub.map (fun u => u.1 false)) (lk T z p) (fun q c => (-1, q, c ++ [(9, 0)]))
  else if sg T z p = 40 then subF (sub.map (fun u => u.2 false)) (lk T z p) (clsF T z 41)
  else pB (S (lk T z p)) (cmpF T z S)
def truthF (U : Bool → Nat → pR) (g : Bool) : Nat → pR := seqF T z (U g) (U false) 38 38 10 10
def condF (U : Bool → Nat → pR) (g : Bool) : Nat → pR := seqF T z (truthF T z U g) (truthF T z U false) 124 124 11 11
def pUn : Nat → Bool → Nat → pR
  | 0 => unitF T z none (pSm T z 0)
  | r + 1 => unitF T z (some (pUn r, condF T z (pUn r))) (pSm T z (r + 1))
def pCd (r : Nat) : Bool → Nat → pR := condF T z (pUn T z r)
/-- behind a clause's condition: k orders stand ahead of the clause -/
def tailF (k q : Nat) (c : List (Int × Int)) : pR := if sg T z q = 63 then pB (pSm T z 6 (lk T z q + 1)) (fun q2 c2 => (-1, q2, c ++ ((12, ((k + c.length + c2.length + 2 : Nat) : Int)) :: (c2 ++ [(13, 0)])))) else bad (lk T z q)
def bodyF (k p : Nat) : pR :=
  if sg T z p = 33 ∨ sg T z p = 40 then pB (pCd T z 6 false (lk T z p)) (tailF T z k)
  else pB (pSm T z 6 (lk T z p)) (fun q c => if cmpo (sg T z q) = -1 then (-1, lk T z q, c ++ [(13, 0)]) else pB (pCd T z 6 true (lk T z q)) (fun q2 c2 => tailF T z k q2 (c ++ c2)))
def pCl (k p : Nat) : pR := if sg T z p = 121 then (if sg T z (lk T z p + 1) = 58 then bodyF T z k (lk T z (lk T z p + 1) + 1) else bad (lk T z (lk T z p + 1))) else bad (lk T z p)
def pRL : Nat → Nat → List (Int × Int) → pR
  | 0, p, c => if sg T z p = -1 then (-1, p, c) else bad (lk T z p)
  | f + 1, p, c => if sg T z p = 59 then pB (pCl T z c.length (lk T z p + 1)) (fun q c2 => pRL f q (c ++ c2)) else if sg T z p = -1 then (-1, p, c) else bad (lk T z p)
def pRu : pR := pB (pCl T z 0 0) (fun q c => pRL T z 160 q c)
end PR
theorem seqL_n {T : Nat → Int} {z : Nat} {next : Nat → pR} {a b oa ob : Int} {p : Nat} {c : List (Int × Int)} (h : opo a b oa ob (sg T z p) = -1) : ∀ f, seqL T z next a b oa ob f p c = (-1, lk T z p, c)
  | 0 => rfl
  | f + 1 => if_pos h
theorem seqL_y {T : Nat → Int} {z : Nat} {next : Nat → pR} {a b oa ob : Int} {p f : Nat} {c : List (Int × Int)} (h : ¬ opo a b oa ob (sg T z p) = -1) : seqL T z next a b oa ob (f + 1) p c = pB (next (lk T z p + 1)) (fun q c1 => seqL T z next a b oa ob f q (c ++ (c1 ++ [(opo a b oa ob (sg T z p), 0)]))) := if_neg h
theorem bad_ne (w : Nat) : ¬ (bad w).1 = -1 := by show ¬ ((w : Int) = -1); omega
section PL
variable {T : Nat → Int} {z p q f o1 : Nat} {c c1 c2 : List (Int × Int)} {w a b oa ob o : Int}
theorem pB_w {r : pR} {k : Nat → List (Int × Int) → pR} (e : r.1 = w) (hw : ¬ w = -1) : (pB r k).1 = w := by rw [pB_no (by rw [e]; exact hw)]; exact e
theorem atom_1 {sub : Option (Nat → pR)} {g : Nat → pR} (h : sg T z p = 91) (hs : sub = some g) (e : g (lk T z p + 1) = (-1, q, c)) (x : sg T z q = 93) : atomF T z sub p = (-1, lk T z q + 1, c) := by
  unfold atomF; rw [if_pos h, hs]; show pB _ _ = _; rw [pB_ok e]; exact if_pos x
theorem atom_2 {sub : Option (Nat → pR)} {g : Nat → pR} (h : sg T z p = 91) (hs : sub = some g) (e : g (lk T z p + 1) = (-1, q, c)) (x : ¬ sg T z q = 93) : (atomF T z sub p).1 = ((lk T z q : Nat) : Int) := by
  unfold atomF; rw [if_pos h, hs]; show (pB _ _).1 = _; rw [pB_ok e]; unfold clsF; rw [if_neg x]; rfl
theorem atom_3 {sub : Option (Nat → pR)} {g : Nat → pR} (h : sg T z p = 91) (hs : sub = some g) (e : (g (lk T z p + 1)).1 = w) (hw : ¬ w = -1) : (atomF T z sub p).1 = w := by
  unfold atomF; rw [if_pos h, hs]; exact pB_w e hw
theorem atom_4 {sub : Option (Nat → pR)} (h : sg T z p = 91) (hs : sub = none) : (atomF T z sub p).1 = ((lk T z p : Nat) : Int) := by
  unfold atomF; rw [if_pos h, hs]; rfl
theorem atom_l {sub : Option (Nat → pR)} (h : ¬ sg T z p = 91) (hl : li (sg T z p) = o) (ho : ¬ o = -1) : atomF T z sub p = (-1, lk T z p + 1, [(1, o)]) := by
  unfold atomF; rw [if_neg h, hl, if_neg ho]
theorem atom_n {sub : Option (Nat → pR)} (h : ¬ sg T z p = 91) (hl : li (sg T z p) = -1) : atomF T z sub p = pNum T z 4 (lk T z p) := by
  unfold atomF; rw [if_neg h, if_pos hl]
theorem seq_1 {g next : Nat → pR} (e : g p = (-1, q, c)) : seqF T z g next a b oa ob p = seqL T z next a b oa ob 160 q c := pB_ok e
theorem seq_2 {g next : Nat → pR} (e : (g p).1 = w) (hw : ¬ w = -1) : (seqF T z g next a b oa ob p).1 = w := pB_w e hw
theorem seqL_1 {next : Nat → pR} (h : opo a b oa ob (sg T z p) = o) (ho : ¬ o = -1) (e : next (lk T z p + 1) = (-1, q, c1)) : seqL T z next a b oa ob (f + 1) p c = seqL T z next a b oa ob f q (c ++ (c1 ++ [(o, 0)])) := by
  rw [seqL_y (by rw [h]; exact ho), pB_ok e, h]
theorem seqL_2 {next : Nat → pR} (h : ¬ opo a b oa ob (sg T z p) = -1) (e : (next (lk T z p + 1)).1 = w) (hw : ¬ w = -1) : (seqL T z next a b oa ob (f + 1) p c).1 = w := by
  rw [seqL_y h]; exact pB_w e hw
theorem cmp_1 {S : Nat → pR} (h : cmpo (sg T z p) = -1) : (cmpF T z S p c).1 = ((lk T z p : Nat) : Int) := by unfold cmpF; rw [if_pos h]; rfl
theorem cmp_2 {S : Nat → pR} (h : ¬ cmpo (sg T z p) = -1) (e : S (lk T z p + 1) = (-1, q, c1)) : cmpF T z S p c = (-1, q, c ++ (c1 ++ [(cmpo (sg T z p), 0)])) := by unfold cmpF; rw [if_neg h, pB_ok e]
theorem cmp_3 {S : Nat → pR} (h : ¬ cmpo (sg T z p) = -1) (e : (S (lk T z p + 1)).1 = w) (hw : ¬ w = -1) : (cmpF T z S p c).1 = w := by unfold cmpF; rw [if_neg h]; exact pB_w e hw
theorem cmp_lk {S : Nat → pR} : cmpF T z S (lk T z p) c = cmpF T z S p c := by unfold cmpF; rw [sg_lk, lk_lk]
section UN
variable {sub : Option ((Bool → Nat → pR) × (Bool → Nat → pR))} {S : Nat → pR} {U C : Bool → Nat → pR}
theorem unit_g : unitF T z sub S true p = cmpF T z S p [] := by unfold unitF; rw [if_pos rfl, cmp_lk]
theorem unit_1 (h : sg T z p = 33) (hs : sub = some (U, C)) (e : U false (lk T z p + 1) = (-1, q, c)) : unitF T z sub S false p = (-1, q, c ++ [(9, 0)]) := by
  unfold unitF; rw [if_neg (by decide), if_pos h, hs]; exact pB_ok (f := fun q c => (-1, q, c ++ [(9, 0)])) e
theorem unit_2 (h : sg T z p = 33) (hs : sub = some (U, C)) (e : (U false (lk T z p + 1)).1 = w) (hw : ¬ w = -1) : (unitF T z sub S false p).1 = w := by
  unfold unitF; rw [if_neg (by decide), if_pos h, hs]; exact pB_w e hw
theorem unit_3 (h : sg T z p = 33 ∨ sg T z p = 40) (hs : sub = none) : (unitF T z sub S false p).1 = ((lk T z p : Nat) : Int) := by
  unfold unitF; rw [if_neg (by decide)]
  by_cases e : sg T z p = 33
  · rw [if_pos e, hs]; rfl
  · rw [if_neg e, if_pos (h.resolve_left e), hs]; rfl
theorem unit_4 (h : sg T z p = 40) (hs : sub = some (U, C)) (e : C false (lk T z p + 1) = (-1, q, c)) (x : sg T z q = 41) : unitF T z sub S false p = (-1, lk T z q + 1, c) := by
  unfold unitF; rw [if_neg (by decide), if_neg (by omega), if_pos h, hs]; show pB _ _ = _; rw [pB_ok e]; exact if_pos x
theorem unit_5 (h : sg T z p = 40) (hs : sub = some (U, C)) (e : C false (lk T z p + 1) = (-1, q, c)) (x : ¬ sg T z q = 41) : (unitF T z sub S false p).1 = ((lk T z q : Nat) : Int) := by
  unfold unitF; rw [if_neg (by decide), if_neg (by omega), if_pos h, hs]; show (pB _ _).1 = _; rw [pB_ok e]; unfold clsF; rw [if_neg x]; rfl
theorem unit_6 (h : sg T z p = 40) (hs : sub = some (U, C)) (e : (C false (lk T z p + 1)).1 = w) (hw : ¬ w = -1) : (unitF T z sub S false p).1 = w := by
  unfold unitF; rw [if_neg (by decide), if_neg (by omega), if_pos h, hs]; exact pB_w e hw
theorem unit_7 (h : ¬ sg T z p = 33) (h2 : ¬ sg T z p = 40) (e : S (lk T z p) = (-1, q, c)) : unitF T z sub S false p = cmpF T z S q c := by
  unfold unitF; rw [if_neg (by decide), if_neg h, if_neg h2, pB_ok e]
theorem unit_8 (h : ¬ sg T z p = 33) (h2 : ¬ sg T z p = 40) (e : (S (lk T z p)).1 = w) (hw : ¬ w = -1) : (unitF T z sub S false p).1 = w := by
  unfold unitF; rw [if_neg (by decide), if_neg h, if_neg h2]; exact pB_w e hw
end UN
theorem tail_1 (h : sg T z p = 63) (e : pSm T z 6 (lk T z p + 1) = (-1, q, c1)) : tailF T z o1 p c = (-1, q, c ++ ((12, ((o1 + c.length + c1.length + 2 : Nat) : Int)) :: (c1 ++ [(13, 0)]))) := by unfold tailF; rw [if_pos h, pB_ok e]
theorem tail_2 (h : sg T z p = 63) (e : (pSm T z 6 (lk T z p + 1)).1 = w) (hw : ¬ w = -1) : (tailF T z o1 p c).1 = w := by unfold tailF; rw [if_pos h]; exact pB_w e hw
theorem tail_3 (h : ¬ sg T z p = 63) : (tailF T z o1 p c).1 = ((lk T z p : Nat) : Int) := by unfold tailF; rw [if_neg h]; rfl
theorem body_1 (h : sg T z p = 33 ∨ sg T z p = 40) (e : pCd T z 6 false (lk T z p) = (-1, q, c)) : bodyF T z o1 p = tailF T z o1 q c := by unfold bodyF; rw [if_pos h, pB_ok e]
theorem body_2 (h : sg T z p = 33 ∨ sg T z p = 40) (e : (pCd T z 6 false (lk T z p)).1 = w) (hw : ¬ w = -1) : (bodyF T z o1 p).1 = w := by unfold bodyF; rw [if_pos h]; exact pB_w e hw
theorem body_3 (h : ¬ (sg T z p = 33 ∨ sg T z p = 40)) (e : (pSm T z 6 (lk T z p)).1 = w) (hw : ¬ w = -1) : (bodyF T z o1 p).1 = w := by unfold bodyF; rw [if_neg h]; exact pB_w e hw
theorem body_4 (h : ¬ (sg T z p = 33 ∨ sg T z p = 40)) (e : pSm T z 6 (lk T z p) = (-1, q, c)) (x : cmpo (sg T z q) = -1) : bodyF T z o1 p = (-1, lk T z q, c ++ [(13, 0)]) := by unfold bodyF; rw [if_neg h, pB_ok e, if_pos x]
theorem body_5 (h : ¬ (sg T z p = 33 ∨ sg T z p = 40)) (e : pSm T z 6 (lk T z p) = (-1, q, c)) (x : ¬ cmpo (sg T z q) = -1) {q2 : Nat} (e2 : pCd T z 6 true (lk T z q) = (-1, q2, c2)) : bodyF T z o1 p = tailF T z o1 q2 (c ++ c2) := by unfold bodyF; rw [if_neg h, pB_ok e, if_neg x, pB_ok e2]
theorem body_6 (h : ¬ (sg T z p = 33 ∨ sg T z p = 40)) (e : pSm T z 6 (lk T z p) = (-1, q, c)) (x : ¬ cmpo (sg T z q) = -1) (e2 : (pCd T z 6 true (lk T z q)).1 = w) (hw : ¬ w = -1) : (bodyF T z o1 p).1 = w := by unfold bodyF; rw [if_neg h, pB_ok e, if_neg x]; exact pB_w e2 hw
theorem cl_1 (h : sg T z p = 121) (x : sg T z (lk T z p + 1) = 58) : pCl T z o1 p = bodyF T z o1 (lk T z (lk T z p + 1) + 1) := by unfold pCl; rw [if_pos h, if_pos x]
theorem cl_2 (h : sg T z p = 121) (x : ¬ sg T z (lk T z p + 1) = 58) : (pCl T z o1 p).1 = ((lk T z (lk T z p + 1) : Nat) : Int) := by unfold pCl; rw [if_pos h, if_neg x]; rfl
theorem cl_3 (h : ¬ sg T z p = 121) : (pCl T z o1 p).1 = ((lk T z p : Nat) : Int) := by unfold pCl; rw [if_neg h]; rfl
theorem rl_1 (h : sg T z p = 59) (e : pCl T z c.length (lk T z p + 1) = (-1, q, c1)) : pRL T z (f + 1) p c = pRL T z f q (c ++ c1) := by
  show (if _ then _ else _) = _; rw [if_pos h, pB_ok e]
theorem rl_2 (h : sg T z p = 59) (e : (pCl T z c.length (lk T z p + 1)).1 = w) (hw : ¬ w = -1) : (pRL T z (f + 1) p c).1 = w := by
  show (if _ then _ else _ : pR).1 = _; rw [if_pos h]; exact pB_w e hw
theorem rl_3 (h : sg T z p = -1) : pRL T z f p c = (-1, p, c) := by
  cases f with
  | zero => exact if_pos h
  | succ f => show (if _ then _ else _) = _; rw [if_neg (by omega), if_pos h]
theorem rl_4 (h : ¬ sg T z p = -1) (h2 : ¬ sg T z p = 59) : (pRL T z f p c).1 = ((lk T z p : Nat) : Int) := by
  cases f with
  | zero => show (if _ then _ else _ : pR).1 = _; rw [if_neg h]; rfl
  | succ f => show (if _ then _ else _ : pR).1 = _; rw [if_neg h2, if_neg h]; rfl
theorem ru_1 (e : pCl T z 0 0 = (-1, q, c)) : pRu T z = pRL T z 160 q c := pB_ok e
theorem ru_2 (e : (pCl T z 0 0).1 = w) (hw : ¬ w = -1) : (pRu T z).1 = w := pB_w e hw
end PL
