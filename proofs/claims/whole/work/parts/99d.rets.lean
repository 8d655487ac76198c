/-! WHAT A RUN GIVES BACK: by the method's own type -/
def ab_rk (M : ab_M) (r : Option Value) : Prop := (M.2.2.2 = some .int ∨ M.2.2.2 = some .boolean → ∃ v : Int32, r = some (.int v)) ∧ (M.2.2.2 = some .long → (∃ v : Int64, r = some (.long v)) ∨ ∃ pc, decode M.2.1 pc = .ok (.ireturn, 1))
def ab_rR (R : ab_R) : ab_R := fun d M pc ls st h Q => R d M pc ls st h (fun r h' => Q r h' ∧ ab_rk M r)
theorem ab_rR_mono {R : ab_R} (hm : ab_mono R) : ab_mono (ab_rR R) := fun d M pc ls st h _ _ hq k => hm d M pc ls st h _ _ (fun r h' z => ⟨hq r h' z.1, z.2⟩) k
theorem ab_q_iconst {R : ab_R} (H : ab_r_iconst R) : ab_r_iconst (ab_rR R) := fun d M pc ls st h Q => H d M pc ls st h _
theorem ab_q_bipush {R : ab_R} (H : ab_r_bipush R) : ab_r_bipush (ab_rR R) := fun d M pc ls st h Q => H d M pc ls st h _
theorem ab_q_sipush {R : ab_R} (H : ab_r_sipush R) : ab_r_sipush (ab_rR R) := fun d M pc ls st h Q => H d M pc ls st h _
theorem ab_q_lconst {R : ab_R} (H : ab_r_lconst R) : ab_r_lconst (ab_rR R) := fun d M pc ls st h Q => H d M pc ls st h _
theorem ab_q_ldcw {R : ab_R} (H : ab_r_ldcw R) : ab_r_ldcw (ab_rR R) := fun d M pc ls st h Q => H d M pc ls st h _
theorem ab_q_ldc2 {R : ab_R} (H : ab_r_ldc2 R) : ab_r_ldc2 (ab_rR R) := fun d M pc ls st h Q => H d M pc ls st h _
theorem ab_q_ldcs {R : ab_R} (H : ab_r_ldcs R) : ab_r_ldcs (ab_rR R) := fun d M pc ls st h Q => H d M pc ls st h _
theorem ab_q_iload_n {R : ab_R} (H : ab_r_iload_n R) : ab_r_iload_n (ab_rR R) := fun d M pc ls st h Q => H d M pc ls st h _
theorem ab_q_iload {R : ab_R} (H : ab_r_iload R) : ab_r_iload (ab_rR R) := fun d M pc ls st h Q => H d M pc ls st h _
theorem ab_q_istore_n {R : ab_R} (H : ab_r_istore_n R) : ab_r_istore_n (ab_rR R) := fun d M pc ls st h Q => H d M pc ls st h _
theorem ab_q_istore {R : ab_R} (H : ab_r_istore R) : ab_r_istore (ab_rR R) := fun d M pc ls st h Q => H d M pc ls st h _
theorem ab_q_lload_n {R : ab_R} (H : ab_r_lload_n R) : ab_r_lload_n (ab_rR R) := fun d M pc ls st h Q => H d M pc ls st h _
theorem ab_q_lload {R : ab_R} (H : ab_r_lload R) : ab_r_lload (ab_rR R) := fun d M pc ls st h Q => H d M pc ls st h _
theorem ab_q_lstore_n {R : ab_R} (H : ab_r_lstore_n R) : ab_r_lstore_n (ab_rR R) := fun d M pc ls st h Q => H d M pc ls st h _
theorem ab_q_lstore {R : ab_R} (H : ab_r_lstore R) : ab_r_lstore (ab_rR R) := fun d M pc ls st h Q => H d M pc ls st h _
theorem ab_q_aload_n {R : ab_R} (H : ab_r_aload_n R) : ab_r_aload_n (ab_rR R) := fun d M pc ls st h Q => H d M pc ls st h _
theorem ab_q_aload {R : ab_R} (H : ab_r_aload R) : ab_r_aload (ab_rR R) := fun d M pc ls st h Q => H d M pc ls st h _
theorem ab_q_astore_n {R : ab_R} (H : ab_r_astore_n R) : ab_r_astore_n (ab_rR R) := fun d M pc ls st h Q => H d M pc ls st h _
theorem ab_q_astore {R : ab_R} (H : ab_r_astore R) : ab_r_astore (ab_rR R) := fun d M pc ls st h Q => H d M pc ls st h _
theorem ab_q_iinc {R : ab_R} (H : ab_r_iinc R) : ab_r_iinc (ab_rR R) := fun d M pc ls st h Q => H d M pc ls st h _
theorem ab_q_iadd {R : ab_R} (H : ab_r_iadd R) : ab_r_iadd (ab_rR R) := fun d M pc ls st h Q => H d M pc ls st h _
theorem ab_q_isub {R : ab_R} (H : ab_r_isub R) : ab_r_isub (ab_rR R) := fun d M pc ls st h Q => H d M pc ls st h _
theorem ab_q_imul {R : ab_R} (H : ab_r_imul R) : ab_r_imul (ab_rR R) := fun d M pc ls st h Q => H d M pc ls st h _
theorem ab_q_iand {R : ab_R} (H : ab_r_iand R) : ab_r_iand (ab_rR R) := fun d M pc ls st h Q => H d M pc ls st h _
theorem ab_q_ior {R : ab_R} (H : ab_r_ior R) : ab_r_ior (ab_rR R) := fun d M pc ls st h Q => H d M pc ls st h _
theorem ab_q_ixor {R : ab_R} (H : ab_r_ixor R) : ab_r_ixor (ab_rR R) := fun d M pc ls st h Q => H d M pc ls st h _
theorem ab_q_ishl {R : ab_R} (H : ab_r_ishl R) : ab_r_ishl (ab_rR R) := fun d M pc ls st h Q => H d M pc ls st h _
theorem ab_q_ishr {R : ab_R} (H : ab_r_ishr R) : ab_r_ishr (ab_rR R) := fun d M pc ls st h Q => H d M pc ls st h _
theorem ab_q_iushr {R : ab_R} (H : ab_r_iushr R) : ab_r_iushr (ab_rR R) := fun d M pc ls st h Q => H d M pc ls st h _
theorem ab_q_idiv {R : ab_R} (H : ab_r_idiv R) : ab_r_idiv (ab_rR R) := fun d M pc ls st h Q => H d M pc ls st h _
theorem ab_q_irem {R : ab_R} (H : ab_r_irem R) : ab_r_irem (ab_rR R) := fun d M pc ls st h Q => H d M pc ls st h _
theorem ab_q_ineg {R : ab_R} (H : ab_r_ineg R) : ab_r_ineg (ab_rR R) := fun d M pc ls st h Q => H d M pc ls st h _
theorem ab_q_ladd {R : ab_R} (H : ab_r_ladd R) : ab_r_ladd (ab_rR R) := fun d M pc ls st h Q => H d M pc ls st h _
theorem ab_q_lsub {R : ab_R} (H : ab_r_lsub R) : ab_r_lsub (ab_rR R) := fun d M pc ls st h Q => H d M pc ls st h _
theorem ab_q_lmul {R : ab_R} (H : ab_r_lmul R) : ab_r_lmul (ab_rR R) := fun d M pc ls st h Q => H d M pc ls st h _
theorem ab_q_land {R : ab_R} (H : ab_r_land R) : ab_r_land (ab_rR R) := fun d M pc ls st h Q => H d M pc ls st h _
theorem ab_q_lor {R : ab_R} (H : ab_r_lor R) : ab_r_lor (ab_rR R) := fun d M pc ls st h Q => H d M pc ls st h _
theorem ab_q_ldiv {R : ab_R} (H : ab_r_ldiv R) : ab_r_ldiv (ab_rR R) := fun d M pc ls st h Q => H d M pc ls st h _
theorem ab_q_lrem {R : ab_R} (H : ab_r_lrem R) : ab_r_lrem (ab_rR R) := fun d M pc ls st h Q => H d M pc ls st h _
theorem ab_q_lushr {R : ab_R} (H : ab_r_lushr R) : ab_r_lushr (ab_rR R) := fun d M pc ls st h Q => H d M pc ls st h _
theorem ab_q_lshl {R : ab_R} (H : ab_r_lshl R) : ab_r_lshl (ab_rR R) := fun d M pc ls st h Q => H d M pc ls st h _
theorem ab_q_lcmp {R : ab_R} (H : ab_r_lcmp R) : ab_r_lcmp (ab_rR R) := fun d M pc ls st h Q => H d M pc ls st h _
theorem ab_q_i2l {R : ab_R} (H : ab_r_i2l R) : ab_r_i2l (ab_rR R) := fun d M pc ls st h Q => H d M pc ls st h _
theorem ab_q_l2i {R : ab_R} (H : ab_r_l2i R) : ab_r_l2i (ab_rR R) := fun d M pc ls st h Q => H d M pc ls st h _
theorem ab_q_i2b {R : ab_R} (H : ab_r_i2b R) : ab_r_i2b (ab_rR R) := fun d M pc ls st h Q => H d M pc ls st h _
theorem ab_q_dup {R : ab_R} (H : ab_r_dup R) : ab_r_dup (ab_rR R) := fun d M pc ls st h Q => H d M pc ls st h _
theorem ab_q_pop {R : ab_R} (H : ab_r_pop R) : ab_r_pop (ab_rR R) := fun d M pc ls st h Q => H d M pc ls st h _
theorem ab_q_dup2 {R : ab_R} (H : ab_r_dup2 R) : ab_r_dup2 (ab_rR R) := fun d M pc ls st h Q => H d M pc ls st h _
theorem ab_q_dup2l {R : ab_R} (H : ab_r_dup2l R) : ab_r_dup2l (ab_rR R) := fun d M pc ls st h Q => H d M pc ls st h _
theorem ab_q_if_eq {R : ab_R} (H : ab_r_if_eq R) : ab_r_if_eq (ab_rR R) := fun d M pc ls st h Q => H d M pc ls st h _
theorem ab_q_if_ne {R : ab_R} (H : ab_r_if_ne R) : ab_r_if_ne (ab_rR R) := fun d M pc ls st h Q => H d M pc ls st h _
theorem ab_q_if_lt {R : ab_R} (H : ab_r_if_lt R) : ab_r_if_lt (ab_rR R) := fun d M pc ls st h Q => H d M pc ls st h _
theorem ab_q_if_ge {R : ab_R} (H : ab_r_if_ge R) : ab_r_if_ge (ab_rR R) := fun d M pc ls st h Q => H d M pc ls st h _
theorem ab_q_if_gt {R : ab_R} (H : ab_r_if_gt R) : ab_r_if_gt (ab_rR R) := fun d M pc ls st h Q => H d M pc ls st h _
theorem ab_q_if_le {R : ab_R} (H : ab_r_if_le R) : ab_r_if_le (ab_rR R) := fun d M pc ls st h Q => H d M pc ls st h _
theorem ab_q_icmp_eq {R : ab_R} (H : ab_r_icmp_eq R) : ab_r_icmp_eq (ab_rR R) := fun d M pc ls st h Q => H d M pc ls st h _
theorem ab_q_icmp_ne {R : ab_R} (H : ab_r_icmp_ne R) : ab_r_icmp_ne (ab_rR R) := fun d M pc ls st h Q => H d M pc ls st h _
theorem ab_q_icmp_lt {R : ab_R} (H : ab_r_icmp_lt R) : ab_r_icmp_lt (ab_rR R) := fun d M pc ls st h Q => H d M pc ls st h _
theorem ab_q_icmp_ge {R : ab_R} (H : ab_r_icmp_ge R) : ab_r_icmp_ge (ab_rR R) := fun d M pc ls st h Q => H d M pc ls st h _
theorem ab_q_icmp_gt {R : ab_R} (H : ab_r_icmp_gt R) : ab_r_icmp_gt (ab_rR R) := fun d M pc ls st h Q => H d M pc ls st h _
theorem ab_q_icmp_le {R : ab_R} (H : ab_r_icmp_le R) : ab_r_icmp_le (ab_rR R) := fun d M pc ls st h Q => H d M pc ls st h _
theorem ab_q_goto {R : ab_R} (H : ab_r_goto R) : ab_r_goto (ab_rR R) := fun d M pc ls st h Q => H d M pc ls st h _
theorem ab_q_swOut {R : ab_R} (H : ab_r_swOut R) : ab_r_swOut (ab_rR R) := fun d M pc ls st h Q => H d M pc ls st h _
theorem ab_q_swIn {R : ab_R} (H : ab_r_swIn R) : ab_r_swIn (ab_rR R) := fun d M pc ls st h Q => H d M pc ls st h _
theorem ab_q_getI {R : ab_R} (H : ab_r_getI R) : ab_r_getI (ab_rR R) := fun d M pc ls st h Q => H d M pc ls st h _
theorem ab_q_getL {R : ab_R} (H : ab_r_getL R) : ab_r_getL (ab_rR R) := fun d M pc ls st h Q => H d M pc ls st h _
theorem ab_q_getP {R : ab_R} (H : ab_r_getP R) : ab_r_getP (ab_rR R) := fun d M pc ls st h Q => H d M pc ls st h _
theorem ab_q_putI {R : ab_R} (H : ab_r_putI R) : ab_r_putI (ab_rR R) := fun d M pc ls st h Q => H d M pc ls st h _
theorem ab_q_putZ {R : ab_R} (H : ab_r_putZ R) : ab_r_putZ (ab_rR R) := fun d M pc ls st h Q => H d M pc ls st h _
theorem ab_q_putL {R : ab_R} (H : ab_r_putL R) : ab_r_putL (ab_rR R) := fun d M pc ls st h Q => H d M pc ls st h _
theorem ab_q_putT {R : ab_R} (H : ab_r_putT R) : ab_r_putT (ab_rR R) := fun d M pc ls st h Q => H d M pc ls st h _
theorem ab_q_iald {R : ab_R} (H : ab_r_iald R) : ab_r_iald (ab_rR R) := fun d M pc ls st h Q => H d M pc ls st h _
theorem ab_q_bald {R : ab_R} (H : ab_r_bald R) : ab_r_bald (ab_rR R) := fun d M pc ls st h Q => H d M pc ls st h _
theorem ab_q_lald {R : ab_R} (H : ab_r_lald R) : ab_r_lald (ab_rR R) := fun d M pc ls st h Q => H d M pc ls st h _
theorem ab_q_aald {R : ab_R} (H : ab_r_aald R) : ab_r_aald (ab_rR R) := fun d M pc ls st h Q => H d M pc ls st h _
theorem ab_q_iast {R : ab_R} (H : ab_r_iast R) : ab_r_iast (ab_rR R) := fun d M pc ls st h Q => H d M pc ls st h _
theorem ab_q_bast {R : ab_R} (H : ab_r_bast R) : ab_r_bast (ab_rR R) := fun d M pc ls st h Q => H d M pc ls st h _
theorem ab_q_zast {R : ab_R} (H : ab_r_zast R) : ab_r_zast (ab_rR R) := fun d M pc ls st h Q => H d M pc ls st h _
theorem ab_q_last {R : ab_R} (H : ab_r_last R) : ab_r_last (ab_rR R) := fun d M pc ls st h Q => H d M pc ls st h _
theorem ab_q_alen {R : ab_R} (H : ab_r_alen R) : ab_r_alen (ab_rR R) := fun d M pc ls st h Q => H d M pc ls st h _
theorem ab_q_gets {R : ab_R} (H : ab_r_gets R) : ab_r_gets (ab_rR R) := fun d M pc ls st h Q => H d M pc ls st h _
theorem ab_q_tald {R : ab_R} (H : ab_r_tald R) : ab_r_tald (ab_rR R) := fun d M pc ls st h Q => H d M pc ls st h _
theorem ab_q_tlen {R : ab_R} (H : ab_r_tlen R) : ab_r_tlen (ab_rR R) := fun d M pc ls st h Q => H d M pc ls st h _
theorem ab_q_sgetv {R : ab_R} (H : ab_r_sgetv R) : ab_r_sgetv (ab_rR R) := fun d M pc ls st h Q => H d M pc ls st h _
theorem ab_q_sgetc {R : ab_R} (H : ab_r_sgetc R) : ab_r_sgetc (ab_rR R) := fun d M pc ls st h Q => H d M pc ls st h _
theorem ab_q_sgets {R : ab_R} (H : ab_r_sgets R) : ab_r_sgets (ab_rR R) := fun d M pc ls st h Q => H d M pc ls st h _
theorem ab_q_sfmt {R : ab_R} (H : ab_r_sfmt R) : ab_r_sfmt (ab_rR R) := fun d M pc ls st h Q => H d M pc ls st h _
theorem ab_q_sbald {R : ab_R} (H : ab_r_sbald R) : ab_r_sbald (ab_rR R) := fun d M pc ls st h Q => H d M pc ls st h _
theorem ab_q_sblen {R : ab_R} (H : ab_r_sblen R) : ab_r_sblen (ab_rR R) := fun d M pc ls st h Q => H d M pc ls st h _
theorem ab_q_i2c {R : ab_R} (H : ab_r_i2c R) : ab_r_i2c (ab_rR R) := fun d M pc ls st h Q => H d M pc ls st h _
theorem ab_q_callT {R : ab_R} (hm : ab_mono R) (H : ab_r_callT R) : ab_r_callT (ab_rR R) := fun d M pc ls st h Q idx j M' As rest h1 h2 h3 h4 h5 h6 k => H d M pc ls st h _ idx j M' As rest h1 h2 h3 h4 h5 h6 (hm _ _ _ _ _ _ _ _ (fun r h9 z => z.1) k)
theorem ab_q_tret {R : ab_R} (H : ab_r_tret R) : ab_r_tret (ab_rR R) := fun d M pc ls st h Q v ty h1 h2 h3 q => H d M pc ls st h _ v ty h1 h2 h3 ⟨q, fun _ => ⟨v, rfl⟩, fun _ => Or.inr ⟨pc, h1⟩⟩
theorem ab_q_mmax {R : ab_R} (H : ab_r_mmax R) : ab_r_mmax (ab_rR R) := fun d M pc ls st h Q => H d M pc ls st h _
theorem ab_q_mmin {R : ab_R} (H : ab_r_mmin R) : ab_r_mmin (ab_rR R) := fun d M pc ls st h Q => H d M pc ls st h _
theorem ab_q_mabs {R : ab_R} (H : ab_r_mabs R) : ab_r_mabs (ab_rR R) := fun d M pc ls st h Q => H d M pc ls st h _
theorem ab_q_mmaxl {R : ab_R} (H : ab_r_mmaxl R) : ab_r_mmaxl (ab_rR R) := fun d M pc ls st h Q => H d M pc ls st h _
theorem ab_q_mminl {R : ab_R} (H : ab_r_mminl R) : ab_r_mminl (ab_rR R) := fun d M pc ls st h Q => H d M pc ls st h _
theorem ab_q_acpi {R : ab_R} (H : ab_r_acpi R) : ab_r_acpi (ab_rR R) := fun d M pc ls st h Q => H d M pc ls st h _
theorem ab_q_acpl {R : ab_R} (H : ab_r_acpl R) : ab_r_acpl (ab_rR R) := fun d M pc ls st h Q => H d M pc ls st h _
theorem ab_q_callV {R : ab_R} (hm : ab_mono R) (H : ab_r_callV R) : ab_r_callV (ab_rR R) := fun d M pc ls st h Q idx a ci M' As rest h1 h2 h3 h4 h5 h6 k => H d M pc ls st h _ idx a ci M' As rest h1 h2 h3 h4 h5 h6 (hm _ _ _ _ _ _ _ _ (fun r h9 z => z.1) k)
theorem ab_q_callS {R : ab_R} (hm : ab_mono R) (H : ab_r_callS R) : ab_r_callS (ab_rR R) := fun d M pc ls st h Q idx M' As rest h1 h2 h3 h4 h5 k => H d M pc ls st h _ idx M' As rest h1 h2 h3 h4 h5 (hm _ _ _ _ _ _ _ _ (fun r h9 z => z.1) k)
theorem ab_q_iret {R : ab_R} (H : ab_r_iret R) : ab_r_iret (ab_rR R) := fun d M pc ls st h Q v h1 h2 q => H d M pc ls st h _ v h1 h2 ⟨q, fun _ => ⟨v, rfl⟩, fun e => (by rw [h2] at e; cases e)⟩
theorem ab_q_zret {R : ab_R} (H : ab_r_zret R) : ab_r_zret (ab_rR R) := fun d M pc ls st h Q v h1 h2 h3 q => H d M pc ls st h _ v h1 h2 h3 ⟨q, fun _ => ⟨v, rfl⟩, fun e => (by rw [h2] at e; cases e)⟩
theorem ab_q_lret {R : ab_R} (H : ab_r_lret R) : ab_r_lret (ab_rR R) := fun d M pc ls st h Q v h1 h2 q => H d M pc ls st h _ v h1 h2 ⟨q, fun e => (by rw [h2] at e; rcases e with e | e <;> cases e), fun _ => Or.inl ⟨v, rfl⟩⟩
theorem ab_q_vret {R : ab_R} (H : ab_r_vret R) : ab_r_vret (ab_rR R) := fun d M pc ls st h Q h1 h2 q => H d M pc ls st h _ h1 h2 ⟨q, fun e => (by rw [h2] at e; rcases e with e | e <;> cases e), fun e => (by rw [h2] at e; cases e)⟩
theorem ab_q_sub {R : ab_R} (H : ab_r_sub R) : ab_r_sub (ab_rR R) := fun d M pc ls st h Q => H d M pc ls st h _
theorem ab_rR_closed {R : ab_R} (hm : ab_mono R) (hC : ab_closed R) : ab_closed (ab_rR R) := by
  obtain ⟨c0, c1, c2, c3, c4, c5, c6, c7, c8, c9, c10, c11, c12, c13, c14, c15, c16, c17, c18, c19, c20, c21, c22, c23, c24, c25, c26, c27, c28, c29, c30, c31, c32, c33, c34, c35, c36, c37, c38, c39, c40, c41, c42, c43, c44, c45, c46, c47, c48, c49, c50, c51, c52, c53, c54, c55, c56, c57, c58, c59, c60, c61, c62, c63, c64, c65, c66, c67, c68, c69, c70, c71, c72, c73, c74, c75, c76, c77, c78, c79, c80, c81, c82, c83, c84, c85, c86, c87, c88, c89, c90, c91, c92, c93, c94, c95, c96, c97, c98, c99, c100, c101, c102, c103, c104, c105⟩ := hC
  exact ⟨ab_q_iconst  c0, ab_q_bipush  c1, ab_q_sipush  c2, ab_q_lconst  c3, ab_q_ldcw  c4, ab_q_ldc2  c5, ab_q_ldcs  c6, ab_q_iload_n  c7, ab_q_iload  c8, ab_q_istore_n  c9, ab_q_istore  c10, ab_q_lload_n  c11, ab_q_lload  c12, ab_q_lstore_n  c13, ab_q_lstore  c14, ab_q_aload_n  c15, ab_q_aload  c16, ab_q_astore_n  c17, ab_q_astore  c18, ab_q_iinc  c19, ab_q_iadd  c20, ab_q_isub  c21, ab_q_imul  c22, ab_q_iand  c23, ab_q_ior  c24, ab_q_ixor  c25, ab_q_ishl  c26, ab_q_ishr  c27, ab_q_iushr  c28, ab_q_idiv  c29, ab_q_irem  c30, ab_q_ineg  c31, ab_q_ladd  c32, ab_q_lsub  c33, ab_q_lmul  c34, ab_q_land  c35, ab_q_lor  c36, ab_q_ldiv  c37, ab_q_lrem  c38, ab_q_lushr  c39, ab_q_lshl  c40, ab_q_lcmp  c41, ab_q_i2l  c42, ab_q_l2i  c43, ab_q_i2b  c44, ab_q_dup  c45, ab_q_pop  c46, ab_q_dup2  c47, ab_q_dup2l  c48, ab_q_if_eq  c49, ab_q_if_ne  c50, ab_q_if_lt  c51, ab_q_if_ge  c52, ab_q_if_gt  c53, ab_q_if_le  c54, ab_q_icmp_eq  c55, ab_q_icmp_ne  c56, ab_q_icmp_lt  c57, ab_q_icmp_ge  c58, ab_q_icmp_gt  c59, ab_q_icmp_le  c60, ab_q_goto  c61, ab_q_swOut  c62, ab_q_swIn  c63, ab_q_getI  c64, ab_q_getL  c65, ab_q_getP  c66, ab_q_putI  c67, ab_q_putZ  c68, ab_q_putL  c69, ab_q_putT  c70, ab_q_iald  c71, ab_q_bald  c72, ab_q_lald  c73, ab_q_aald  c74, ab_q_iast  c75, ab_q_bast  c76, ab_q_zast  c77, ab_q_last  c78, ab_q_alen  c79, ab_q_gets  c80, ab_q_tald  c81, ab_q_tlen  c82, ab_q_sgetv  c83, ab_q_sgetc  c84, ab_q_sgets  c85, ab_q_sfmt  c86, ab_q_sbald  c87, ab_q_sblen  c88, ab_q_i2c  c89, ab_q_callT hm c90, ab_q_tret  c91, ab_q_mmax  c92, ab_q_mmin  c93, ab_q_mabs  c94, ab_q_mmaxl  c95, ab_q_mminl  c96, ab_q_acpi  c97, ab_q_acpl  c98, ab_q_callV hm c99, ab_q_callS hm c100, ab_q_iret  c101, ab_q_zret  c102, ab_q_lret  c103, ab_q_vret  c104, ab_q_sub  c105⟩
theorem ab_ret {d : Nat} {M : ab_M} {pc : Nat} {ls : ab_L} {st : List Value} {h : ab_H} {Q : ab_Q} (k : ab_X d M pc ls st h Q) : ab_X d M pc ls st h (fun r h' => Q r h' ∧ ab_rk M r) := fun R hm hC => k (ab_rR R) (ab_rR_mono hm) (ab_rR_closed hm hC)
theorem ab_retI {d : Nat} {M : ab_M} {pc : Nat} {ls : ab_L} {st : List Value} {h : ab_H} {Q : ab_Q} (ht : M.2.2.2 = some .int ∨ M.2.2.2 = some .boolean) (k : ab_X d M pc ls st h Q) : ab_X d M pc ls st h (fun r h' => Q r h' ∧ ∃ v : Int32, r = some (.int v)) := (ab_ret k).mono (fun _ _ z => ⟨z.1, z.2.1 ht⟩)
theorem ab_retL {d : Nat} {M : ab_M} {pc : Nat} {ls : ab_L} {st : List Value} {h : ab_H} {Q : ab_Q} (ht : M.2.2.2 = some .long) (hno : ∀ pc, ¬ decode M.2.1 pc = .ok (.ireturn, 1)) (k : ab_X d M pc ls st h Q) : ab_X d M pc ls st h (fun r h' => Q r h' ∧ ∃ v : Int64, r = some (.long v)) := (ab_ret k).mono (fun _ _ z => ⟨z.1, (z.2.2 ht).elim id (fun ⟨pc, h⟩ => absurd h (hno pc))⟩)
