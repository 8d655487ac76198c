/-! PURE: class and model choose the same place -/
theorem fC_R {fr : Nat → Bool} {k hd nc : Int} {c : List (Int × Int)} {L p : Nat} (h : inR (dsl k hd c (p : Int) (L : Int) (runl fr p : Int) (rr fr 40 (p + L) : Int) nc)) : fC fr k hd c L nc p = dsl k hd c (p : Int) (L : Int) (runl fr p : Int) (rr fr 40 (p + L) : Int) nc := by
  unfold fC dsw; exact iI_toInt h
theorem cho_eq {fr : Nat → Bool} {n L : Nat} {k hd nc : Int} {c : List (Int × Int)} (hn : n ≤ 20) (hf : ∀ y, n ≤ y → ¬ fr y = true) (hL : 1 ≤ L ∧ L ≤ 9) (hk : 1 ≤ k ∧ k ≤ 4) (hhd : -1 ≤ hd) (hB : ∀ p ∈ pU fr L n, mil (gW fr k hd c L n nc p)) : (cbf (fC fr k hd c L nc) (pls fr L n)).1 = (mbf (gW fr k hd c L n nc) (pU fr L n)).1 := by
  rw [pU_pls hL.1 hf] at hB ⊢
  have hin : ∀ p ∈ pls fr L n, p < 21 := fun p hp => by
    have := List.mem_range.mp (List.mem_filter.mp hp).1
    omega
  have hgf : ∀ g, (∀ p ∈ pls fr L n, gW fr k hd c L n nc p = g p) → (mbf (gW fr k hd c L n nc) (pls fr L n)).1 = (mbf g (pls fr L n)).1 := fun g hg => by
    have : ∀ (l : List Nat) (s : Int × Int), (∀ p ∈ l, gW fr k hd c L n nc p = g p) → l.foldl (mstep (gW fr k hd c L n nc)) s = l.foldl (mstep g) s := by
      intro l
      induction l with
      | nil => intro s _; rfl
      | cons p l ih =>
        intro s h
        rw [List.foldl_cons, List.foldl_cons]
        have e : mstep (gW fr k hd c L n nc) s p = mstep g s p := by unfold mstep; rw [h p List.mem_cons_self]
        rw [e]; exact ih _ (fun x hx => h x (List.mem_cons_of_mem _ hx))
    unfold mbf
    rw [this _ _ hg]
  by_cases k1 : k = 1
  · subst k1
    refine best_eq (C := 0) _ _ _ (fun p hp => ?_) rfl (fun q => absurd rfl q)
    have h1 := hin p hp
    have a1 := runl_le fr p
    have a2 := rr_le fr 40 (p + L)
    have e : dsl 1 hd c (p : Int) (L : Int) (runl fr p : Int) (rr fr 40 (p + L) : Int) nc = min (runl fr p : Int) (rr fr 40 (p + L) : Int) := by unfold dsl; rw [if_pos rfl]
    rw [fC_R (by rw [e]; omega), e]
    unfold gW; rw [if_pos rfl]; omega
  · by_cases k4 : k = 4
    · subst k4
      refine best_eq (C := -((pU fr L n).length : Int)) _ _ _ (fun p hp => ?_) rfl (fun q => absurd rfl q)
      have h1 := hin p hp
      have a1 := runl_le fr p
      have a2 := rr_le fr 40 (p + L)
      have sp := spite (fr' := wout fr p L) hL (List.mem_filter.mp hp).2 hn hf (fun y => by unfold wout; exact decide_eq_true_iff)
      have e : dsl 4 hd c (p : Int) (L : Int) (runl fr p : Int) (rr fr 40 (p + L) : Int) nc = pIn (runl fr p : Int) (L : Int) + pIn (rr fr 40 (p + L) : Int) (L : Int) - pIn ((runl fr p : Int) + (L : Int) + (rr fr 40 (p + L) : Int)) (L : Int) := by unfold dsl; rw [if_neg (by decide), if_neg (by decide), if_pos rfl]
      have u1 := pU_le fr L n
      have u2 := pU_le (wout fr p L) L n
      rw [fC_R (by rw [e]; omega), e]
      unfold gW; rw [if_neg (by decide), if_pos rfl]; omega
    · by_cases k3 : k = 3 ∨ hd = -1
      · rw [hgf (fun p => -(p : Int)) (fun p _ => by unfold gW; rw [if_neg k1, if_neg k4, if_pos k3])]
        refine first_eq pls_lt (fun p hp => ?_)
        have e : dsl k hd c (p : Int) (L : Int) (runl fr p : Int) (rr fr 40 (p + L) : Int) nc = 0 := by
          unfold dsl
          rw [if_neg k1]
          by_cases q : k = 2
          · rw [if_pos q]; unfold wth; rw [if_pos (by omega)]; rfl
          · rw [if_neg q, if_neg k4]
        rw [fC_R (by rw [e]; decide), e]
      · refine best_eq (C := 0) _ _ _ (fun p hp => ?_) rfl (fun q => absurd rfl q)
        have hb := hB p hp
        unfold gW at hb ⊢
        rw [if_neg k1, if_neg k4, if_neg k3] at hb ⊢
        have e : dsl k hd c (p : Int) (L : Int) (runl fr p : Int) (rr fr 40 (p + L) : Int) nc = -(wrt (lenv (p : Int) (L : Int) (runl fr p : Int) (rr fr 40 (p + L) : Int) nc) c 0 0 []) := by
          unfold dsl wth; rw [if_neg k1, if_pos (by omega), if_neg (by omega)]
        unfold mil at hb
        rw [fC_R (by rw [e]; omega), e]
        omega
