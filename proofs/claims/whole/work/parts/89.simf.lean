/-! CALLS SIDE BY SIDE: fault -/
theorem tape_at {n k : Nat} {h h9 : ab_H} (J : RA n k h h9) : ∃ z : Nat, tx (zv h 2) z ∧ zv h 1 1 = (z : Int) ∧ zv h9 200 6 = (z : Int) ∧ ∀ i, i < z → zv h9 201 i = sby (zv h 2 i) := by
  obtain ⟨z, z1, z2, z3, z4⟩ := J.2.1
  exact ⟨z, ⟨z1, fun i hi => (z4 i hi).1⟩, z2, z3, fun i hi => (z4 i hi).2⟩
theorem F12_mF {h h' : ab_H} (f : F12 h h') : mF h h' := ⟨fun b j r => by
  unfold relM at r
  by_cases e : b = 200
  · subst e; exact f.2 j (by omega) (by omega) (by omega) (by omega) (by omega)
  · exact f.1 b j e (by omega) (by omega) (by omega), fun b j hb => f.1 b j (by omega) (by omega) (by omega) (by omega), fun l j => by rw [f.1 204 j (by decide) (by decide) (by decide) (by decide)]; exact l j⟩
theorem kF {l : List Nat} {h h' : ab_H} {z : Nat} (s : sm l h h') (hl : l.all (fun b => (okC b || b == 1) && decide (b < 200)) = true) (hz : zv h 1 1 = (z : Int)) (hz' : zv h' 1 1 = (z : Int)) : cF h h' := by
  have q : ∀ b ∈ l, (okC b = true ∨ b = 1) ∧ b < 200 := fun b hb => by
    have := List.all_eq_true.mp hl b hb
    simp only [Bool.and_eq_true, decide_eq_true_eq, Bool.or_eq_true, beq_iff_eq] at this
    exact this
  refine ⟨fun b j r => ?_, fun b j hb => s.1 b j (fun z => by have := (q b z).2; omega)⟩
  by_cases e : b ∈ l
  · have := (q b e).1
    simp only [okC, Bool.or_eq_true, Bool.and_eq_true, decide_eq_true_eq] at this
    unfold relC at r
    have e1 : b = 1 ∧ j = 1 := by omega
    obtain ⟨rfl, rfl⟩ := e1
    rw [hz, hz']
  · exact s.1 b j e
theorem lb_env {h : ab_H} (l : lb h) : ∃ env : Nat → Int, ∀ s, ¬ li s = -1 → zv h 204 s.toNat = env (li s).toNat ∧ -1000000 ≤ env (li s).toNat ∧ env (li s).toNat ≤ 1000000 := by
  refine ⟨lenv (zv h 204 112) (zv h 204 108) (zv h 204 98) (zv h 204 97) (zv h 204 110), fun s hs => ⟨?_, lenv_b (l _) (l _) (l _) (l _) (l _) _⟩⟩
  unfold li at *
  split
  · next e => subst e; rfl
  · split
    · next e => subst e; rfl
    · split
      · next e => subst e; rfl
      · split
        · next e => subst e; rfl
        · split
          · next e => subst e; rfl
          · next a b c d e => rw [if_neg a, if_neg b, if_neg c, if_neg d, if_neg e] at hs; exact absurd rfl hs
theorem s_fault {s : Int} (hs : inR s) : SIM mX11_fault mX12_fault [.int (iI s)] := fun h ⟨n, k, I⟩ => by
  by_cases e0 : s = 0
  · subst e0
    obtain ⟨z, t1, t2, t3, t4⟩ := tape_at I.1
    refine c_fault0 (d := 26) t1 t2 (fun i hi => rfl) (fun h1 s1 z1 => ?_)
    obtain ⟨h9, e9, J, I9, -⟩ := nx I (kF s1 rfl t2 z1)
    obtain ⟨z', u1, u2, u3, u4⟩ := tape_at J
    have ez : z' = z := by omega
    subst ez
    exact c_mfault0 (d := 50) e9 u1 u3 u4 (fun h2 S' j f _ _ _ => ⟨by rw [j], n, k, IN_m (F12_mF f) I9⟩) (fun h2 w j _ f _ => ⟨by rw [j], n, k, IN_m (F12_mF f) I9⟩)
  · by_cases e1 : s = 1
    · subst e1
      obtain ⟨z, t1, t2, t3, t4⟩ := tape_at I.1
      refine c_fault1 (d := 26) t1 t2 (fun i hi => rfl) (fun h1 s1 z1 => ?_)
      obtain ⟨h9, e9, J, I9, -⟩ := nx I (kF s1 rfl t2 z1)
      obtain ⟨z', u1, u2, u3, u4⟩ := tape_at J
      have ez : z' = z := by omega
      subst ez
      obtain ⟨env, hE⟩ := lb_env I9.2.2
      exact c_mfault1 (d := 25) e9 u1 u3 u4 hE (fun h2 f => ⟨rfl, n, k, IN_m (F11_mF f) I9⟩)
    · refine c_fault_ (d := 26) hs (by omega) ?_
      obtain ⟨h9, e9, J, I9, -⟩ := nx I cF.rf
      exact c_mfault_ (d := 59) e9 hs (by omega) ⟨rfl, n, k, I9⟩
