/-! methods that give back longs have no ireturn -/
theorem decode_lt {cd : ByteArray} {pc : Nat} {x : Instr × Nat} (h : decode cd pc = .ok x) : pc < cd.size := by
  rcases Nat.lt_or_ge pc cd.size with q | q
  · exact q
  · exfalso
    have e1 : (ClassFile.Reader.u1 : ClassFile.Decoder Nat) cd pc = Except.error (ClassFile.HasTruncated.truncated pc) := by
      show (if h : pc < cd.size then _ else _ : ClassFile.Reader ClassFile.DecodeError Nat) cd pc = _
      rw [dif_neg (Nat.not_lt.mpr q)]
      rfl
    have e2 : decode cd pc = Except.error (ClassFile.HasTruncated.truncated pc) := by
      unfold decode ClassFile.Decoder.instr ClassFile.Reader.runAt
      show Except.bind (Except.bind ((ClassFile.Reader.u1 : ClassFile.Decoder Nat) cd pc) _) _ = _
      rw [e1]
      rfl
    rw [e2] at h
    cases h
theorem nr_of {cd : ByteArray} {n : Nat} (hn : cd.size = n) (h : ∀ pc, pc < n → ¬ decode cd pc = .ok (.ireturn, 1)) : ∀ pc, ¬ decode cd pc = .ok (.ireturn, 1) := fun pc e => h pc (hn ▸ decode_lt e) e
theorem nr_mean : ∀ pc, ¬ decode cX11_mean pc = .ok (.ireturn, 1) := nr_of (n := 61) (by decide +kernel) (by decide +kernel)
theorem nr_likely : ∀ pc, ¬ decode cX11_likely pc = .ok (.ireturn, 1) := nr_of (n := 58) (by decide +kernel) (by decide +kernel)
theorem nr_gate : ∀ pc, ¬ decode cX11_gate pc = .ok (.ireturn, 1) := nr_of (n := 137) (by decide +kernel) (by decide +kernel)
theorem nr_came : ∀ pc, ¬ decode cX11_came pc = .ok (.ireturn, 1) := nr_of (n := 38) (by decide +kernel) (by decide +kernel)
