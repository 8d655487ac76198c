/-! THE MODEL READS A RULE: at every depth; what clauses are worth, pure -/
section LV
variable {T : Nat → Int} {z t b n : Nat} {env : Nat → Int}
theorem m_sum1 {d D B : Nat} {sub : Option (Nat → pR)} (ht : tx T z) (hs1 : D < 6 → ∃ g, sub = some g ∧ mdI T z t b n env mX12_sum [.ref 200] g (D + 1) B (d + 7)) (hs0 : D = 6 → sub = none) (hB : 1 ≤ B) : mdI T z t b n env mX12_sum [.ref 200] (sumF T z (atomF T z sub)) D (B + 2) (d + 10) := by
  have hA : mdI T z t b n env mX12_atom [.ref 200] (atomF T z sub) D B (d + 8) := fun h0 h Q p x S K1 K0 => c_matom0 (d := d + 3) ht x hs1 hs0 hB S K1 K0
  have hT : mdI T z t b n env mX12_term [.ref 200] (termF T z (atomF T z sub)) D (B + 1) (d + 9) := fun h0 h Q p x S K1 K0 => c_mterm0 (d := d + 3) ht x hA hA S K1 K0
  exact fun h0 h Q p x S K1 K0 => c_msum0 (d := d + 3) ht x hT hT S K1 K0
theorem m_sum (ht : tx T z) : ∀ (r e D : Nat), D + r = 6 → mdI T z t b n env mX12_sum [.ref 200] (pSm T z r) D (2 * r + 3) (e + 3 * r + 10)
  | 0, e, D, h => m_sum1 (d := e + 3 * 0) (B := 1) ht (fun q => absurd q (by omega)) (fun _ => rfl) (Nat.le_refl 1)
  | r + 1, e, D, h => by
    have ih := m_sum ht r e (D + 1) (by omega)
    have hb : e + 3 * (r + 1) + 10 = (e + 3 * r + 3) + 10 := by omega
    have hb2 : 2 * (r + 1) + 3 = (2 * r + 3) + 2 := by omega
    rw [hb, hb2]
    exact m_sum1 (d := e + 3 * r + 3) ht (fun _ => ⟨_, rfl, ih⟩) (fun q => absurd q (by omega)) (by omega)
def mvU (T : Nat → Int) (z t b n : Nat) (env : Nat → Int) (D d B : Nat) (U : Bool → Nat → pR) : Prop := mdB T z t b n env [] mX12_unit [.ref 200] (U false) D B (d + 12) ∧ mdB T z t b n env [] mX12_condition [.ref 200, .int (iI 0), .int (iI 0)] (condF T z U false) D (B + 2) (d + 14) ∧ ∀ v0 : Int, (-1000000 ≤ v0 ∧ v0 ≤ 1000000) → mdB T z t b n env [v0] mX12_condition [.ref 200, .int (iI 1), .int (iI v0)] (condF T z U true) D (B + 2) (d + 14)
theorem m_unit1 {d D B B0 : Nat} {sub : Option ((Bool → Nat → pR) × (Bool → Nat → pR))} {S : Nat → pR} (ht : tx T z) (hS : mdI T z t b n env mX12_sum [.ref 200] S D B (d + 10)) (hS2 : mdI T z t b n env mX12_sum [.ref 200] S D B (d + 11)) (hu1 : D < 6 → ∃ U C, sub = some (U, C) ∧ mdB T z t b n env [] mX12_unit [.ref 200] (U false) (D + 1) B0 (d + 11) ∧ mdB T z t b n env [] mX12_condition [.ref 200, .int (iI 0), .int (iI 0)] (C false) (D + 1) (B0 + 2) (d + 11)) (hu0 : D = 6 → sub = none) (hB : B0 + 2 ≤ B + 1 ∧ 1 ≤ B0) : mvU T z t b n env D d (B + 1) (unitF T z sub S) := by
  have u0 : mdB T z t b n env [] mX12_unit [.ref 200] (unitF T z sub S false) D (B + 1) (d + 12) := fun h0 h Q p x X K1 K0 => c_munit0 ht x hS hu1 hu0 hB X K1 K0
  have u1 : ∀ v0 : Int, (-1000000 ≤ v0 ∧ v0 ≤ 1000000) → mdB T z t b n env [v0] mX12_compares [.ref 200, .int (iI 1), .int (iI v0)] (unitF T z sub S true) D (B + 1) (d + 12) := fun v0 hv h0 h Q p x X K1 K0 => c_mcmp1 (d := d + 1) ht x hv hS2 X (fun h' p' c' v e => K1 h' p' c' v (unit_g.trans e)) (fun h' v w e => K0 h' v w ((congrArg Prod.fst unit_g).trans e))
  have p0 : mdB T z t b n env [] mX12_part [.ref 200, .int (iI 0), .int (iI 0)] (truthF T z (unitF T z sub S) false) D (B + 1 + 1) (d + 13) := fun h0 h Q p x X K1 K0 => c_mpart0 ht x u0 u0 X K1 K0
  have p1 : ∀ v0 : Int, (-1000000 ≤ v0 ∧ v0 ≤ 1000000) → mdB T z t b n env [v0] mX12_part [.ref 200, .int (iI 1), .int (iI v0)] (truthF T z (unitF T z sub S) true) D (B + 1 + 1) (d + 13) := fun v0 hv h0 h Q p x X K1 K0 => c_mpart1 ht x (u1 v0 hv) u0 X K1 K0
  exact ⟨u0, fun h0 h Q p x X K1 K0 => c_mcondition0 ht x p0 p0 X K1 K0, fun v0 hv h0 h Q p x X K1 K0 => c_mcondition1 ht x (p1 v0 hv) p0 X K1 K0⟩
theorem m_unit (ht : tx T z) : ∀ (r e D : Nat), D + r = 6 → mvU T z t b n env D (e + 3 * r) (2 * r + 4) (pUn T z r)
  | 0, e, D, h => m_unit1 (B := 3) (B0 := 1) ht (m_sum ht 0 e D h) (m_sum ht 0 (e + 1) D h) (fun q => absurd q (by omega)) (fun _ => rfl) (by omega)
  | r + 1, e, D, h => by
    have i1 := (m_unit ht r (e + 2) (D + 1) (by omega)).1
    have i2 := (m_unit ht r e (D + 1) (by omega)).2.1
    have hs := m_sum (t := t) (b := b) (n := n) (env := env) ht (r + 1) e D h
    have hs2 := m_sum (t := t) (b := b) (n := n) (env := env) ht (r + 1) (e + 1) D h
    rw [show e + 2 + 3 * r + 12 = (e + 3 * (r + 1)) + 11 by omega] at i1
    rw [show e + 3 * r + 14 = (e + 3 * (r + 1)) + 11 by omega] at i2
    rw [show e + 1 + 3 * (r + 1) + 10 = (e + 3 * (r + 1)) + 11 by omega] at hs2
    rw [show 2 * (r + 1) + 4 = (2 * (r + 1) + 3) + 1 by omega]
    exact m_unit1 (B0 := 2 * r + 4) ht hs hs2 (fun _ => ⟨_, _, rfl, i1, i2⟩) (fun q => absurd q (by omega)) (by omega)
end LV
section WV
variable {env : Nat → Int}
theorem wrt_pln : ∀ (c : List (Int × Int)) (rest : List (Int × Int)) (i : Nat) (f : Int) (st : List Int), pln c → f ≤ (i : Int) → wrt env (c ++ rest) i f st = wrt env rest (i + c.length) f (rn env c st)
  | [], rest, i, f, st, _, _ => rfl
  | q :: c, rest, i, f, st, hp, hf => by
    have hq := hp q (List.mem_cons_self)
    have e := wrt_pln c rest (i + 1) f (sp1 env q.1 q.2 st) (fun x hx => hp x (List.mem_cons_of_mem _ hx)) (by omega)
    rw [List.cons_append, show wrt env (q :: (c ++ rest)) i f st = wrt env (c ++ rest) (i + 1) f (sp1 env q.1 q.2 st) from wrt_op (by omega) hq.2 hq.1, e, List.length_cons, show i + 1 + c.length = i + (c.length + 1) by omega]
    rfl
theorem wrt_over : ∀ (c : List (Int × Int)) (rest : List (Int × Int)) (i : Nat) (f : Int) (st : List Int), ((i + c.length : Nat) : Int) ≤ f → wrt env (c ++ rest) i f st = wrt env rest (i + c.length) f st
  | [], rest, i, f, st, _ => rfl
  | q :: c, rest, i, f, st, hf => by
    rw [List.length_cons] at hf
    have e := wrt_over c rest (i + 1) f st (by omega)
    rw [List.cons_append, show wrt env (q :: (c ++ rest)) i f st = wrt env (c ++ rest) (i + 1) f st from wrt_skip (by omega), e, List.length_cons, show i + 1 + c.length = i + (c.length + 1) by omega]
/-- a clause with k orders ahead of it: worth v if its condition holds -/
def clv (env : Nat → Int) (k : Nat) (c : List (Int × Int)) (is v : Int) : Prop := (-1000000 ≤ v ∧ v ≤ 1000000) ∧ ∀ (rest : List (Int × Int)) (f : Int), f ≤ (k : Int) → ∃ f' : Int, f' ≤ ((k + c.length : Nat) : Int) ∧ wrt env (c ++ rest) k f [] = if is = 1 then v else wrt env rest (k + c.length) f' []
theorem clv_1 {k : Nat} {c : List (Int × Int)} {v : Int} (h : evp env [] c v 15) (vb : (-1000000 ≤ v ∧ v ≤ 1000000)) : clv env k (c ++ [(13, 0)]) 1 v := by
  refine ⟨vb, fun rest f hf => ?_⟩
  refine ⟨f, by omega, ?_⟩
  rw [if_pos rfl, List.append_assoc, wrt_pln c _ k f [] h.1 hf]
  have e := h.2 [] (by decide)
  rw [show rn env c [] = rn env c ([] ++ []) from rfl, e]
  exact wrt_ans (by omega) rfl
theorem clv_2 {k : Nat} {cc c : List (Int × Int)} {is v : Int} (h1 : evp env [] cc is 18) (h2 : evp env [] c v 15) (hi : is = 0 ∨ is = 1) (vb : (-1000000 ≤ v ∧ v ≤ 1000000)) : clv env k (cc ++ ((12, ((k + cc.length + c.length + 2 : Nat) : Int)) :: (c ++ [(13, 0)]))) is v := by
  refine ⟨vb, fun rest f hf => ?_⟩
  have e1 := h1.2 [] (by decide)
  have e2 := h2.2 [] (by decide)
  have hlen : (cc ++ ((12, ((k + cc.length + c.length + 2 : Nat) : Int)) :: (c ++ [(13, 0)]))).length = cc.length + c.length + 2 := by simp only [List.length_append, List.length_cons, List.length_nil]; omega
  have hst : wrt env ((cc ++ ((12, ((k + cc.length + c.length + 2 : Nat) : Int)) :: (c ++ [(13, 0)]))) ++ rest) k f [] = wrt env ((c ++ [(13, 0)]) ++ rest) (k + cc.length + 1) (if is = 0 then ((k + cc.length + c.length + 2 : Nat) : Int) else ((k + cc.length : Nat) : Int)) [] := by
    rw [List.append_assoc, wrt_pln cc _ k f [] h1.1 hf, show rn env cc [] = rn env cc ([] ++ []) from rfl, e1, List.cons_append]
    exact wrt_unl (by omega) rfl
  rw [hst, hlen]
  rcases hi with rfl | rfl
  · refine ⟨((k + cc.length + c.length + 2 : Nat) : Int), by omega, ?_⟩
    rw [if_pos rfl, if_neg (by decide)]
    have e3 := wrt_over (env := env) (c ++ [(13, 0)]) rest (k + cc.length + 1) ((k + cc.length + c.length + 2 : Nat) : Int) [] (by rw [List.length_append, List.length_cons, List.length_nil]; omega)
    rw [e3, List.length_append, List.length_cons, List.length_nil, show k + cc.length + 1 + (c.length + (0 + 1)) = k + (cc.length + c.length + 2) by omega]
  · refine ⟨0, by omega, ?_⟩
    rw [if_neg (by decide), if_pos rfl, List.append_assoc, wrt_pln c _ _ _ [] h2.1 (by omega), show rn env c [] = rn env c ([] ++ []) from rfl, e2]
    exact wrt_ans (by omega) rfl
/-- what has been found so far -/
def fnd (env : Nat → Int) (c : List (Int × Int)) (hf fv : Int) : Prop := (hf = 0 ∧ fv = 0 ∧ ∀ rest, ∃ f' : Int, f' ≤ (c.length : Int) ∧ wrt env (c ++ rest) 0 0 [] = wrt env rest c.length f' []) ∨ (hf = 1 ∧ (-1000000 ≤ fv ∧ fv ≤ 1000000) ∧ ∀ rest, wrt env (c ++ rest) 0 0 [] = fv)
theorem fnd_0 : fnd env [] 0 0 := Or.inl ⟨rfl, rfl, fun rest => ⟨0, by decide, rfl⟩⟩
theorem fnd_b {c : List (Int × Int)} {hf fv : Int} (h : fnd env c hf fv) : hf = 0 ∨ hf = 1 := by rcases h with q | q; exact Or.inl q.1; exact Or.inr q.1
theorem fnd_s {c c2 : List (Int × Int)} {hf fv is v : Int} (h : fnd env c hf fv) (k : clv env c.length c2 is v) (hi : is = 0 ∨ is = 1) : fnd env (c ++ c2) (if hf = 0 then is else hf) (if hf = 0 ∧ is = 1 then v else fv) := by
  rcases h with ⟨rfl, rfl, h⟩ | ⟨rfl, hb, h⟩
  · rcases hi with rfl | rfl
    · refine Or.inl ⟨rfl, rfl, fun rest => ?_⟩
      obtain ⟨f, hf, e⟩ := h (c2 ++ rest)
      obtain ⟨f', hf', e'⟩ := k.2 rest f hf
      refine ⟨f', by rw [List.length_append]; exact hf', ?_⟩
      rw [List.append_assoc, e, e', if_neg (by decide), List.length_append]
    · refine Or.inr ⟨rfl, by rw [if_pos ⟨rfl, rfl⟩]; exact k.1, fun rest => ?_⟩
      obtain ⟨f, hf, e⟩ := h (c2 ++ rest)
      obtain ⟨f', hf', e'⟩ := k.2 rest f hf
      rw [List.append_assoc, e, e', if_pos rfl, if_pos ⟨rfl, rfl⟩]
  · refine Or.inr ⟨rfl, by rw [if_neg (fun q => absurd q.1 (by decide))]; exact hb, fun rest => ?_⟩
    rw [List.append_assoc, h, if_neg (fun q => absurd q.1 (by decide))]
theorem fnd_v {c : List (Int × Int)} {hf fv : Int} (h : fnd env c hf fv) : -1000000 ≤ fv ∧ fv ≤ 1000000 := by
  rcases h with ⟨_, rfl, _⟩ | ⟨_, hb, _⟩
  · decide
  · exact hb
theorem fnd_e {c : List (Int × Int)} {hf fv : Int} (h : fnd env c hf fv) : wrt env c 0 0 [] = fv := by
  rcases h with ⟨rfl, rfl, h⟩ | ⟨rfl, hb, h⟩
  · obtain ⟨f, _, e⟩ := h []
    rw [List.append_nil] at e
    rw [e]; rfl
  · have e := h []
    rw [List.append_nil] at e
    exact e
end WV
