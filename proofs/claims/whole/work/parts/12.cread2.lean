/-! THE CLASS, its public reads: they answer, or throw -/
def IOOB : String := "java/lang/IndexOutOfBoundsException"
def ISE : String := "java/lang/IllegalStateException"
def IAE : String := "java/lang/IllegalArgumentException"
/-- it throws E over the state S -/
def eqx (E : String) (S : ST) (E' : String) (S' : ST) : Prop := E' = E ∧ S' = S
def bo1 (_ : Int) (_ : ST) : Prop := False
theorem run0_requireKind_ok {S : ST} {k : Int} (hr : rng k) (hk : 0 ≤ k ∧ k < fF S 0) (hB : B0 S) : X0_requireKind [vR 0, vI k] S (eqv S) nox := by
  refine ⟨Nat.le_of_ble_eq_true rfl, ?_⟩
  show RR _ 0 [some (vR 0), some (vI k)] [] S
  have h0 := hB.kc
  simp only [r0_requireKind_0, r0_requireKind_1, r0_requireKind_4, r0_requireKind_5, r0_requireKind_6, r0_requireKind_9, r0_requireKind_12, r0_requireKind_22, e_const, e_lconst, e_dconst, e_iload, e_kiload, e_aload, e_kaload, e_lload, e_klload, e_iinc, e_kiinc, e_istore, e_astore, e_lstore, e_dupI, e_dupR, e_dup2, e_iadd, e_isub, e_imul, e_idiv, e_irem, e_ladd, e_lmul, e_i2l, e_i2d, e_ddiv, e_icmp, e_if, e_goto, e_switch, e_tsw0, e_tsw1, e_getI, e_getA, e_putI, e_iald, e_iast, e_tnew, e_tald, e_tast, e_iret, e_zret, e_lret, e_dret, e_vret, e_throw, lg0, ls0, lt0, lg1, ls1, lo1, lt1, lg2, ls2, lo2, lt2, lg3, ls3, lo3, lt3, lg4, ls4, lo4, lt4, lg5, ls5, lo5, lt5, lg6, ls6, lo6, lt6, lg7, ls7, lo7, lt7, lg8, ls8, lo8, lo0, okI, okR, okN, e_calli1, e_calll1, e_callv1, e_xcalli1, e_xcallv1, e_acalli1, e_calli2, e_calll2, e_callv2, e_xcalli2, e_xcallv2, e_acalli2, e_calli3, e_calll3, e_callv3, e_xcalli3, e_xcallv3, e_acalli3, e_calli4, e_calll4, e_callv4, e_xcalli4, e_xcallv4, e_acalli4, e_scalli3, sh4_0, sh4_1, sh4_2, sh4_3, sh4_4, eqr, eqv, true_and, and_true, true_or, or_true, ln0_1, ln0_2, ln0_3, ln0_4, ln0_5, ln0_6, ln0_7, ln0_8, ln0_9, ln0_11, ln0_12, ln0_13]
  ((repeat' (first | apply And.intro | intro _)) <;> first | omega | trivial | rfl | (split <;> omega))
theorem run0_requireKind_no {S : ST} {k : Int} (hr : rng k) (hk : ¬ (0 ≤ k ∧ k < fF S 0)) (hB : B0 S) : X0_requireKind [vR 0, vI k] S (fun _ => False) (eqx IOOB S) := by
  refine ⟨Nat.le_of_ble_eq_true rfl, ?_⟩
  show RR _ 0 [some (vR 0), some (vI k)] [] S
  have h0 := hB.kc
  simp only [r0_requireKind_0, r0_requireKind_1, r0_requireKind_4, r0_requireKind_5, r0_requireKind_6, r0_requireKind_9, r0_requireKind_12, r0_requireKind_22, e_const, e_lconst, e_dconst, e_iload, e_kiload, e_aload, e_kaload, e_lload, e_klload, e_iinc, e_kiinc, e_istore, e_astore, e_lstore, e_dupI, e_dupR, e_dup2, e_iadd, e_isub, e_imul, e_idiv, e_irem, e_ladd, e_lmul, e_i2l, e_i2d, e_ddiv, e_icmp, e_if, e_goto, e_switch, e_tsw0, e_tsw1, e_getI, e_getA, e_putI, e_iald, e_iast, e_tnew, e_tald, e_tast, e_iret, e_zret, e_lret, e_dret, e_vret, e_throw, lg0, ls0, lt0, lg1, ls1, lo1, lt1, lg2, ls2, lo2, lt2, lg3, ls3, lo3, lt3, lg4, ls4, lo4, lt4, lg5, ls5, lo5, lt5, lg6, ls6, lo6, lt6, lg7, ls7, lo7, lt7, lg8, ls8, lo8, lo0, okI, okR, okN, e_calli1, e_calll1, e_callv1, e_xcalli1, e_xcallv1, e_acalli1, e_calli2, e_calll2, e_callv2, e_xcalli2, e_xcallv2, e_acalli2, e_calli3, e_calll3, e_callv3, e_xcalli3, e_xcallv3, e_acalli3, e_calli4, e_calll4, e_callv4, e_xcalli4, e_xcallv4, e_acalli4, e_scalli3, sh4_0, sh4_1, sh4_2, sh4_3, sh4_4, eqr, eqv, true_and, and_true, true_or, or_true, ln0_1, ln0_2, ln0_3, ln0_4, ln0_5, ln0_6, ln0_7, ln0_8, ln0_9, ln0_11, ln0_12, ln0_13]
  refine ⟨hr, fun h => ⟨rfl, rfl⟩, fun h => ⟨⟨hr, by omega, by omega⟩, fun h => ?_, fun h => ⟨rfl, rfl⟩⟩⟩
  omega
theorem run0_requireThing_ok {S : ST} {k : Int} (hr : rng k) (hk : 0 ≤ k ∧ k < fF S 10) (hB : B0 S) : X0_requireThing [vR 0, vI k] S (eqv S) nox := by
  refine ⟨Nat.le_of_ble_eq_true rfl, ?_⟩
  show RR _ 0 [some (vR 0), some (vI k)] [] S
  have h0 := hB.tc
  simp only [r0_requireThing_0, r0_requireThing_1, r0_requireThing_4, r0_requireThing_5, r0_requireThing_6, r0_requireThing_9, r0_requireThing_12, r0_requireThing_22, e_const, e_lconst, e_dconst, e_iload, e_kiload, e_aload, e_kaload, e_lload, e_klload, e_iinc, e_kiinc, e_istore, e_astore, e_lstore, e_dupI, e_dupR, e_dup2, e_iadd, e_isub, e_imul, e_idiv, e_irem, e_ladd, e_lmul, e_i2l, e_i2d, e_ddiv, e_icmp, e_if, e_goto, e_switch, e_tsw0, e_tsw1, e_getI, e_getA, e_putI, e_iald, e_iast, e_tnew, e_tald, e_tast, e_iret, e_zret, e_lret, e_dret, e_vret, e_throw, lg0, ls0, lt0, lg1, ls1, lo1, lt1, lg2, ls2, lo2, lt2, lg3, ls3, lo3, lt3, lg4, ls4, lo4, lt4, lg5, ls5, lo5, lt5, lg6, ls6, lo6, lt6, lg7, ls7, lo7, lt7, lg8, ls8, lo8, lo0, okI, okR, okN, e_calli1, e_calll1, e_callv1, e_xcalli1, e_xcallv1, e_acalli1, e_calli2, e_calll2, e_callv2, e_xcalli2, e_xcallv2, e_acalli2, e_calli3, e_calll3, e_callv3, e_xcalli3, e_xcallv3, e_acalli3, e_calli4, e_calll4, e_callv4, e_xcalli4, e_xcallv4, e_acalli4, e_scalli3, sh4_0, sh4_1, sh4_2, sh4_3, sh4_4, eqr, eqv, true_and, and_true, true_or, or_true, ln0_1, ln0_2, ln0_3, ln0_4, ln0_5, ln0_6, ln0_7, ln0_8, ln0_9, ln0_11, ln0_12, ln0_13]
  ((repeat' (first | apply And.intro | intro _)) <;> first | omega | trivial | rfl | (split <;> omega))
theorem run0_requireThing_no {S : ST} {k : Int} (hr : rng k) (hk : ¬ (0 ≤ k ∧ k < fF S 10)) (hB : B0 S) : X0_requireThing [vR 0, vI k] S (fun _ => False) (eqx IOOB S) := by
  refine ⟨Nat.le_of_ble_eq_true rfl, ?_⟩
  show RR _ 0 [some (vR 0), some (vI k)] [] S
  have h0 := hB.tc
  simp only [r0_requireThing_0, r0_requireThing_1, r0_requireThing_4, r0_requireThing_5, r0_requireThing_6, r0_requireThing_9, r0_requireThing_12, r0_requireThing_22, e_const, e_lconst, e_dconst, e_iload, e_kiload, e_aload, e_kaload, e_lload, e_klload, e_iinc, e_kiinc, e_istore, e_astore, e_lstore, e_dupI, e_dupR, e_dup2, e_iadd, e_isub, e_imul, e_idiv, e_irem, e_ladd, e_lmul, e_i2l, e_i2d, e_ddiv, e_icmp, e_if, e_goto, e_switch, e_tsw0, e_tsw1, e_getI, e_getA, e_putI, e_iald, e_iast, e_tnew, e_tald, e_tast, e_iret, e_zret, e_lret, e_dret, e_vret, e_throw, lg0, ls0, lt0, lg1, ls1, lo1, lt1, lg2, ls2, lo2, lt2, lg3, ls3, lo3, lt3, lg4, ls4, lo4, lt4, lg5, ls5, lo5, lt5, lg6, ls6, lo6, lt6, lg7, ls7, lo7, lt7, lg8, ls8, lo8, lo0, okI, okR, okN, e_calli1, e_calll1, e_callv1, e_xcalli1, e_xcallv1, e_acalli1, e_calli2, e_calll2, e_callv2, e_xcalli2, e_xcallv2, e_acalli2, e_calli3, e_calll3, e_callv3, e_xcalli3, e_xcallv3, e_acalli3, e_calli4, e_calll4, e_callv4, e_xcalli4, e_xcallv4, e_acalli4, e_scalli3, sh4_0, sh4_1, sh4_2, sh4_3, sh4_4, eqr, eqv, true_and, and_true, true_or, or_true, ln0_1, ln0_2, ln0_3, ln0_4, ln0_5, ln0_6, ln0_7, ln0_8, ln0_9, ln0_11, ln0_12, ln0_13]
  refine ⟨hr, fun h => ⟨rfl, rfl⟩, fun h => ⟨⟨hr, by omega, by omega⟩, fun h => ?_, fun h => ⟨rfl, rfl⟩⟩⟩
  omega
theorem run0_requirePlace_ok {S : ST} {k : Int} (hr : rng k) (hk : 0 ≤ k ∧ k < 20) : X0_requirePlace [vR 0, vI k] S (eqv S) nox := by
  refine ⟨Nat.le_of_ble_eq_true rfl, ?_⟩
  show RR _ 0 [some (vR 0), some (vI k)] [] S
  simp only [r0_requirePlace_0, r0_requirePlace_1, r0_requirePlace_4, r0_requirePlace_5, r0_requirePlace_7, r0_requirePlace_10, r0_requirePlace_20, e_const, e_lconst, e_dconst, e_iload, e_kiload, e_aload, e_kaload, e_lload, e_klload, e_iinc, e_kiinc, e_istore, e_astore, e_lstore, e_dupI, e_dupR, e_dup2, e_iadd, e_isub, e_imul, e_idiv, e_irem, e_ladd, e_lmul, e_i2l, e_i2d, e_ddiv, e_icmp, e_if, e_goto, e_switch, e_tsw0, e_tsw1, e_getI, e_getA, e_putI, e_iald, e_iast, e_tnew, e_tald, e_tast, e_iret, e_zret, e_lret, e_dret, e_vret, e_throw, lg0, ls0, lt0, lg1, ls1, lo1, lt1, lg2, ls2, lo2, lt2, lg3, ls3, lo3, lt3, lg4, ls4, lo4, lt4, lg5, ls5, lo5, lt5, lg6, ls6, lo6, lt6, lg7, ls7, lo7, lt7, lg8, ls8, lo8, lo0, okI, okR, okN, e_calli1, e_calll1, e_callv1, e_xcalli1, e_xcallv1, e_acalli1, e_calli2, e_calll2, e_callv2, e_xcalli2, e_xcallv2, e_acalli2, e_calli3, e_calll3, e_callv3, e_xcalli3, e_xcallv3, e_acalli3, e_calli4, e_calll4, e_callv4, e_xcalli4, e_xcallv4, e_acalli4, e_scalli3, sh4_0, sh4_1, sh4_2, sh4_3, sh4_4, eqr, eqv, true_and, and_true, true_or, or_true, ln0_1, ln0_2, ln0_3, ln0_4, ln0_5, ln0_6, ln0_7, ln0_8, ln0_9, ln0_11, ln0_12, ln0_13]
  ((repeat' (first | apply And.intro | intro _)) <;> first | omega | trivial | rfl | (split <;> omega))
theorem run0_requirePlace_no {S : ST} {k : Int} (hr : rng k) (hk : ¬ (0 ≤ k ∧ k < 20)) : X0_requirePlace [vR 0, vI k] S (fun _ => False) (eqx IOOB S) := by
  refine ⟨Nat.le_of_ble_eq_true rfl, ?_⟩
  show RR _ 0 [some (vR 0), some (vI k)] [] S
  simp only [r0_requirePlace_0, r0_requirePlace_1, r0_requirePlace_4, r0_requirePlace_5, r0_requirePlace_7, r0_requirePlace_10, r0_requirePlace_20, e_const, e_lconst, e_dconst, e_iload, e_kiload, e_aload, e_kaload, e_lload, e_klload, e_iinc, e_kiinc, e_istore, e_astore, e_lstore, e_dupI, e_dupR, e_dup2, e_iadd, e_isub, e_imul, e_idiv, e_irem, e_ladd, e_lmul, e_i2l, e_i2d, e_ddiv, e_icmp, e_if, e_goto, e_switch, e_tsw0, e_tsw1, e_getI, e_getA, e_putI, e_iald, e_iast, e_tnew, e_tald, e_tast, e_iret, e_zret, e_lret, e_dret, e_vret, e_throw, lg0, ls0, lt0, lg1, ls1, lo1, lt1, lg2, ls2, lo2, lt2, lg3, ls3, lo3, lt3, lg4, ls4, lo4, lt4, lg5, ls5, lo5, lt5, lg6, ls6, lo6, lt6, lg7, ls7, lo7, lt7, lg8, ls8, lo8, lo0, okI, okR, okN, e_calli1, e_calll1, e_callv1, e_xcalli1, e_xcallv1, e_acalli1, e_calli2, e_calll2, e_callv2, e_xcalli2, e_xcallv2, e_acalli2, e_calli3, e_calll3, e_callv3, e_xcalli3, e_xcallv3, e_acalli3, e_calli4, e_calll4, e_callv4, e_xcalli4, e_xcallv4, e_acalli4, e_scalli3, sh4_0, sh4_1, sh4_2, sh4_3, sh4_4, eqr, eqv, true_and, and_true, true_or, or_true, ln0_1, ln0_2, ln0_3, ln0_4, ln0_5, ln0_6, ln0_7, ln0_8, ln0_9, ln0_11, ln0_12, ln0_13]
  refine ⟨hr, fun h => ⟨rfl, rfl⟩, fun h => ⟨⟨hr, by omega, by omega⟩, fun h => ?_, fun h => ⟨rfl, rfl⟩⟩⟩
  omega
theorem run0_requireWhat_ok {S : ST} {w l : Int} (hr : rng w) (hl : rng l) (hk : 0 ≤ w ∧ w ≤ l) : X0_requireWhat [vR 0, vI w, vI l] S (eqv S) nox := by
  refine ⟨Nat.le_of_ble_eq_true rfl, ?_⟩
  show RR _ 0 [some (vR 0), some (vI w), some (vI l)] [] S
  simp only [r0_requireWhat_0, r0_requireWhat_1, r0_requireWhat_4, r0_requireWhat_5, r0_requireWhat_6, r0_requireWhat_9, r0_requireWhat_19, e_const, e_lconst, e_dconst, e_iload, e_kiload, e_aload, e_kaload, e_lload, e_klload, e_iinc, e_kiinc, e_istore, e_astore, e_lstore, e_dupI, e_dupR, e_dup2, e_iadd, e_isub, e_imul, e_idiv, e_irem, e_ladd, e_lmul, e_i2l, e_i2d, e_ddiv, e_icmp, e_if, e_goto, e_switch, e_tsw0, e_tsw1, e_getI, e_getA, e_putI, e_iald, e_iast, e_tnew, e_tald, e_tast, e_iret, e_zret, e_lret, e_dret, e_vret, e_throw, lg0, ls0, lt0, lg1, ls1, lo1, lt1, lg2, ls2, lo2, lt2, lg3, ls3, lo3, lt3, lg4, ls4, lo4, lt4, lg5, ls5, lo5, lt5, lg6, ls6, lo6, lt6, lg7, ls7, lo7, lt7, lg8, ls8, lo8, lo0, okI, okR, okN, e_calli1, e_calll1, e_callv1, e_xcalli1, e_xcallv1, e_acalli1, e_calli2, e_calll2, e_callv2, e_xcalli2, e_xcallv2, e_acalli2, e_calli3, e_calll3, e_callv3, e_xcalli3, e_xcallv3, e_acalli3, e_calli4, e_calll4, e_callv4, e_xcalli4, e_xcallv4, e_acalli4, e_scalli3, sh4_0, sh4_1, sh4_2, sh4_3, sh4_4, eqr, eqv, true_and, and_true, true_or, or_true, ln0_1, ln0_2, ln0_3, ln0_4, ln0_5, ln0_6, ln0_7, ln0_8, ln0_9, ln0_11, ln0_12, ln0_13]
  ((repeat' (first | apply And.intro | intro _)) <;> first | omega | trivial | rfl | (split <;> omega))
theorem run0_requireWhat_no {S : ST} {w l : Int} (hr : rng w) (hl : rng l) (hk : ¬ (0 ≤ w ∧ w ≤ l)) : X0_requireWhat [vR 0, vI w, vI l] S (fun _ => False) (eqx IOOB S) := by
  refine ⟨Nat.le_of_ble_eq_true rfl, ?_⟩
  show RR _ 0 [some (vR 0), some (vI w), some (vI l)] [] S
  simp only [r0_requireWhat_0, r0_requireWhat_1, r0_requireWhat_4, r0_requireWhat_5, r0_requireWhat_6, r0_requireWhat_9, r0_requireWhat_19, e_const, e_lconst, e_dconst, e_iload, e_kiload, e_aload, e_kaload, e_lload, e_klload, e_iinc, e_kiinc, e_istore, e_astore, e_lstore, e_dupI, e_dupR, e_dup2, e_iadd, e_isub, e_imul, e_idiv, e_irem, e_ladd, e_lmul, e_i2l, e_i2d, e_ddiv, e_icmp, e_if, e_goto, e_switch, e_tsw0, e_tsw1, e_getI, e_getA, e_putI, e_iald, e_iast, e_tnew, e_tald, e_tast, e_iret, e_zret, e_lret, e_dret, e_vret, e_throw, lg0, ls0, lt0, lg1, ls1, lo1, lt1, lg2, ls2, lo2, lt2, lg3, ls3, lo3, lt3, lg4, ls4, lo4, lt4, lg5, ls5, lo5, lt5, lg6, ls6, lo6, lt6, lg7, ls7, lo7, lt7, lg8, ls8, lo8, lo0, okI, okR, okN, e_calli1, e_calll1, e_callv1, e_xcalli1, e_xcallv1, e_acalli1, e_calli2, e_calll2, e_callv2, e_xcalli2, e_xcallv2, e_acalli2, e_calli3, e_calll3, e_callv3, e_xcalli3, e_xcallv3, e_acalli3, e_calli4, e_calll4, e_callv4, e_xcalli4, e_xcallv4, e_acalli4, e_scalli3, sh4_0, sh4_1, sh4_2, sh4_3, sh4_4, eqr, eqv, true_and, and_true, true_or, or_true, ln0_1, ln0_2, ln0_3, ln0_4, ln0_5, ln0_6, ln0_7, ln0_8, ln0_9, ln0_11, ln0_12, ln0_13]
  refine ⟨hr, fun h => ⟨rfl, rfl⟩, fun h => ⟨⟨hr, hl⟩, fun h => ?_, fun h => ⟨rfl, rfl⟩⟩⟩
  omega
/-- what is told -/
def toldV (kd pl ce of sz what : Int) : Int := if what = 0 then kd else if pl = -1 then -1 else if what = 1 then pl else if what = 2 then ce else if what = 3 then of + ce * sz else 64 * pl + (of + ce * sz)
def toldC (S : ST) (t : Nat) (what : Int) : Int := toldV (gA S 11 t) (gA S 12 t) (gA S 13 t) (gA S 7 (gA S 12 t).toNat) (gA S 1 (gA S 11 t).toNat) what
set_option maxRecDepth 100000 in
theorem run0_told_ok {S : ST} {t : Nat} {w : Int} (ht : (t : Int) < fF S 10) (hw : 0 ≤ w ∧ w ≤ 4) (hB : B0 S) : X0_told [vR 0, vI t, vI w] S (eqr (toldC S t w) S) nox := by
  refine ⟨Nat.le_of_ble_eq_true rfl, ?_⟩
  show RR _ 0 [some (vR 0), some (vI t), some (vI w), none, none, none] [] S
  have h0 := hB.tc
  have h1 := hB.th (t := t) (by omega)
  simp only [r0_told_0, r0_told_1, r0_told_2, r0_told_5, r0_told_6, r0_told_7, r0_told_8, r0_told_11, r0_told_12, r0_told_15, r0_told_16, r0_told_19, r0_told_20, r0_told_21, r0_told_22, r0_told_23, r0_told_26, r0_told_27, r0_told_28, r0_told_29, r0_told_30, r0_told_31, r0_told_34, r0_told_35, r0_told_36, r0_told_37, r0_told_40, r0_told_41, r0_told_42, r0_told_44, r0_told_45, r0_told_48, r0_told_49, r0_told_50, r0_told_52, r0_told_53, r0_told_56, r0_told_57, r0_told_60, r0_told_61, r0_told_62, r0_told_63, r0_told_64, r0_told_65, r0_told_67, r0_told_68, r0_told_96, r0_told_97, r0_told_98, r0_told_100, r0_told_101, r0_told_103, r0_told_104, r0_told_106, r0_told_107, r0_told_108, r0_told_110, r0_told_111, e_const, e_lconst, e_dconst, e_iload, e_kiload, e_aload, e_kaload, e_lload, e_klload, e_iinc, e_kiinc, e_istore, e_astore, e_lstore, e_dupI, e_dupR, e_dup2, e_iadd, e_isub, e_imul, e_idiv, e_irem, e_ladd, e_lmul, e_i2l, e_i2d, e_ddiv, e_icmp, e_if, e_goto, e_switch, e_tsw0, e_tsw1, e_getI, e_getA, e_putI, e_iald, e_iast, e_tnew, e_tald, e_tast, e_iret, e_zret, e_lret, e_dret, e_vret, e_throw, lg0, ls0, lt0, lg1, ls1, lo1, lt1, lg2, ls2, lo2, lt2, lg3, ls3, lo3, lt3, lg4, ls4, lo4, lt4, lg5, ls5, lo5, lt5, lg6, ls6, lo6, lt6, lg7, ls7, lo7, lt7, lg8, ls8, lo8, lo0, okI, okR, okN, e_calli1, e_calll1, e_callv1, e_xcalli1, e_xcallv1, e_acalli1, e_calli2, e_calll2, e_callv2, e_xcalli2, e_xcallv2, e_acalli2, e_calli3, e_calll3, e_callv3, e_xcalli3, e_xcallv3, e_acalli3, e_calli4, e_calll4, e_callv4, e_xcalli4, e_xcallv4, e_acalli4, e_scalli3, sh4_0, sh4_1, sh4_2, sh4_3, sh4_4, eqr, eqv, true_and, and_true, true_or, or_true, ln0_1, ln0_2, ln0_3, ln0_4, ln0_5, ln0_6, ln0_7, ln0_8, ln0_9, ln0_11, ln0_12, ln0_13, Int.toNat_natCast]
  refine Or.inl ⟨_, run0_requireThing_ok ⟨by omega, by omega⟩ ⟨by omega, ht⟩ hB, ?_⟩
  rintro S1 rfl
  refine Or.inl ⟨_, run0_requireWhat_ok ⟨by omega, by omega⟩ ⟨by omega, by omega⟩ hw, ?_⟩
  rintro S2 rfl
  unfold toldC toldV
  ((repeat' (first | apply And.intro | intro _)) <;> first | omega | trivial | rfl | (split <;> omega))
theorem run0_told_no {S : ST} {t w : Int} (hrt : rng t) (hrw : rng w) (hn : ¬ ((0 ≤ t ∧ t < fF S 10) ∧ 0 ≤ w ∧ w ≤ 4)) (hB : B0 S) : X0_told [vR 0, vI t, vI w] S bo1 (eqx IOOB S) := by
  refine ⟨Nat.le_of_ble_eq_true rfl, ?_⟩
  show RR _ 0 [some (vR 0), some (vI t), some (vI w), none, none, none] [] S
  simp only [r0_told_0, r0_told_1, r0_told_2, r0_told_5, r0_told_6, r0_told_7, r0_told_8, r0_told_11, r0_told_12, r0_told_15, r0_told_16, r0_told_19, r0_told_20, r0_told_21, r0_told_22, r0_told_23, r0_told_26, r0_told_27, r0_told_28, r0_told_29, r0_told_30, r0_told_31, r0_told_34, r0_told_35, r0_told_36, r0_told_37, r0_told_40, r0_told_41, r0_told_42, r0_told_44, r0_told_45, r0_told_48, r0_told_49, r0_told_50, r0_told_52, r0_told_53, r0_told_56, r0_told_57, r0_told_60, r0_told_61, r0_told_62, r0_told_63, r0_told_64, r0_told_65, r0_told_67, r0_told_68, r0_told_96, r0_told_97, r0_told_98, r0_told_100, r0_told_101, r0_told_103, r0_told_104, r0_told_106, r0_told_107, r0_told_108, r0_told_110, r0_told_111, e_const, e_lconst, e_dconst, e_iload, e_kiload, e_aload, e_kaload, e_lload, e_klload, e_iinc, e_kiinc, e_istore, e_astore, e_lstore, e_dupI, e_dupR, e_dup2, e_iadd, e_isub, e_imul, e_idiv, e_irem, e_ladd, e_lmul, e_i2l, e_i2d, e_ddiv, e_icmp, e_if, e_goto, e_switch, e_tsw0, e_tsw1, e_getI, e_getA, e_putI, e_iald, e_iast, e_tnew, e_tald, e_tast, e_iret, e_zret, e_lret, e_dret, e_vret, e_throw, lg0, ls0, lt0, lg1, ls1, lo1, lt1, lg2, ls2, lo2, lt2, lg3, ls3, lo3, lt3, lg4, ls4, lo4, lt4, lg5, ls5, lo5, lt5, lg6, ls6, lo6, lt6, lg7, ls7, lo7, lt7, lg8, ls8, lo8, lo0, okI, okR, okN, e_calli1, e_calll1, e_callv1, e_xcalli1, e_xcallv1, e_acalli1, e_calli2, e_calll2, e_callv2, e_xcalli2, e_xcallv2, e_acalli2, e_calli3, e_calll3, e_callv3, e_xcalli3, e_xcallv3, e_acalli3, e_calli4, e_calll4, e_callv4, e_xcalli4, e_xcallv4, e_acalli4, e_scalli3, sh4_0, sh4_1, sh4_2, sh4_3, sh4_4, eqr, eqv, true_and, and_true, true_or, or_true, ln0_1, ln0_2, ln0_3, ln0_4, ln0_5, ln0_6, ln0_7, ln0_8, ln0_9, ln0_11, ln0_12, ln0_13]
  by_cases ht : 0 ≤ t ∧ t < fF S 10
  · refine Or.inl ⟨_, run0_requireThing_ok hrt ht hB, ?_⟩
    rintro S1 rfl
    exact Or.inr ⟨_, run0_requireWhat_no hrw ⟨by omega, by omega⟩ (fun z => hn ⟨ht, z⟩), fun E S' z => z⟩
  · exact Or.inr ⟨_, run0_requireThing_no hrt ht hB, fun E S' z => z⟩
def trayV (kd of cs n sz what : Int) : Int := if kd = -1 then -1 else if what = 0 then kd else if what = 1 then of else if what = 2 then cs else if what = 3 then n else 64 - sz * n
def trayC (S : ST) (p : Nat) (what : Int) : Int := trayV (gA S 6 p) (gA S 7 p) (gA S 3 (gA S 6 p).toNat) (gA S 8 p) (gA S 1 (gA S 6 p).toNat) what
theorem run0_tray_ok {S : ST} {p : Nat} {w : Int} (hp : p < 20) (hw : 0 ≤ w ∧ w ≤ 4) (hB : B0 S) : X0_tray [vR 0, vI p, vI w] S (eqr (trayC S p w) S) nox := by
  refine ⟨Nat.le_of_ble_eq_true rfl, ?_⟩
  show RR _ 0 [some (vR 0), some (vI p), some (vI w), none] [] S
  have h1 := hB.pl hp
  simp only [r0_tray_0, r0_tray_1, r0_tray_2, r0_tray_5, r0_tray_6, r0_tray_7, r0_tray_8, r0_tray_11, r0_tray_12, r0_tray_15, r0_tray_16, r0_tray_17, r0_tray_18, r0_tray_19, r0_tray_20, r0_tray_23, r0_tray_24, r0_tray_25, r0_tray_26, r0_tray_56, r0_tray_57, r0_tray_58, r0_tray_59, r0_tray_62, r0_tray_63, r0_tray_64, r0_tray_65, r0_tray_66, r0_tray_69, r0_tray_70, r0_tray_71, r0_tray_72, r0_tray_73, r0_tray_76, r0_tray_77, r0_tray_78, r0_tray_79, r0_tray_81, r0_tray_82, r0_tray_85, r0_tray_86, r0_tray_87, r0_tray_88, r0_tray_91, r0_tray_92, r0_tray_93, r0_tray_94, r0_tray_95, e_const, e_lconst, e_dconst, e_iload, e_kiload, e_aload, e_kaload, e_lload, e_klload, e_iinc, e_kiinc, e_istore, e_astore, e_lstore, e_dupI, e_dupR, e_dup2, e_iadd, e_isub, e_imul, e_idiv, e_irem, e_ladd, e_lmul, e_i2l, e_i2d, e_ddiv, e_icmp, e_if, e_goto, e_switch, e_tsw0, e_tsw1, e_getI, e_getA, e_putI, e_iald, e_iast, e_tnew, e_tald, e_tast, e_iret, e_zret, e_lret, e_dret, e_vret, e_throw, lg0, ls0, lt0, lg1, ls1, lo1, lt1, lg2, ls2, lo2, lt2, lg3, ls3, lo3, lt3, lg4, ls4, lo4, lt4, lg5, ls5, lo5, lt5, lg6, ls6, lo6, lt6, lg7, ls7, lo7, lt7, lg8, ls8, lo8, lo0, okI, okR, okN, e_calli1, e_calll1, e_callv1, e_xcalli1, e_xcallv1, e_acalli1, e_calli2, e_calll2, e_callv2, e_xcalli2, e_xcallv2, e_acalli2, e_calli3, e_calll3, e_callv3, e_xcalli3, e_xcallv3, e_acalli3, e_calli4, e_calll4, e_callv4, e_xcalli4, e_xcallv4, e_acalli4, e_scalli3, sh4_0, sh4_1, sh4_2, sh4_3, sh4_4, eqr, eqv, true_and, and_true, true_or, or_true, ln0_1, ln0_2, ln0_3, ln0_4, ln0_5, ln0_6, ln0_7, ln0_8, ln0_9, ln0_11, ln0_12, ln0_13, Int.toNat_natCast]
  refine Or.inl ⟨_, run0_requirePlace_ok ⟨by omega, by omega⟩ ⟨by omega, by omega⟩, ?_⟩
  rintro S1 rfl
  refine Or.inl ⟨_, run0_requireWhat_ok ⟨by omega, by omega⟩ ⟨by omega, by omega⟩ hw, ?_⟩
  rintro S2 rfl
  unfold trayC trayV
  ((repeat' (first | apply And.intro | intro _)) <;> first | omega | trivial | rfl | (split <;> omega))
theorem run0_tray_no {S : ST} {t w : Int} (hrt : rng t) (hrw : rng w) (hn : ¬ ((0 ≤ t ∧ t < 20) ∧ 0 ≤ w ∧ w ≤ 4)) : X0_tray [vR 0, vI t, vI w] S bo1 (eqx IOOB S) := by
  refine ⟨Nat.le_of_ble_eq_true rfl, ?_⟩
  show RR _ 0 [some (vR 0), some (vI t), some (vI w), none] [] S
  simp only [r0_tray_0, r0_tray_1, r0_tray_2, r0_tray_5, r0_tray_6, r0_tray_7, r0_tray_8, r0_tray_11, r0_tray_12, r0_tray_15, r0_tray_16, r0_tray_17, r0_tray_18, r0_tray_19, r0_tray_20, r0_tray_23, r0_tray_24, r0_tray_25, r0_tray_26, r0_tray_56, r0_tray_57, r0_tray_58, r0_tray_59, r0_tray_62, r0_tray_63, r0_tray_64, r0_tray_65, r0_tray_66, r0_tray_69, r0_tray_70, r0_tray_71, r0_tray_72, r0_tray_73, r0_tray_76, r0_tray_77, r0_tray_78, r0_tray_79, r0_tray_81, r0_tray_82, r0_tray_85, r0_tray_86, r0_tray_87, r0_tray_88, r0_tray_91, r0_tray_92, r0_tray_93, r0_tray_94, r0_tray_95, e_const, e_lconst, e_dconst, e_iload, e_kiload, e_aload, e_kaload, e_lload, e_klload, e_iinc, e_kiinc, e_istore, e_astore, e_lstore, e_dupI, e_dupR, e_dup2, e_iadd, e_isub, e_imul, e_idiv, e_irem, e_ladd, e_lmul, e_i2l, e_i2d, e_ddiv, e_icmp, e_if, e_goto, e_switch, e_tsw0, e_tsw1, e_getI, e_getA, e_putI, e_iald, e_iast, e_tnew, e_tald, e_tast, e_iret, e_zret, e_lret, e_dret, e_vret, e_throw, lg0, ls0, lt0, lg1, ls1, lo1, lt1, lg2, ls2, lo2, lt2, lg3, ls3, lo3, lt3, lg4, ls4, lo4, lt4, lg5, ls5, lo5, lt5, lg6, ls6, lo6, lt6, lg7, ls7, lo7, lt7, lg8, ls8, lo8, lo0, okI, okR, okN, e_calli1, e_calll1, e_callv1, e_xcalli1, e_xcallv1, e_acalli1, e_calli2, e_calll2, e_callv2, e_xcalli2, e_xcallv2, e_acalli2, e_calli3, e_calll3, e_callv3, e_xcalli3, e_xcallv3, e_acalli3, e_calli4, e_calll4, e_callv4, e_xcalli4, e_xcallv4, e_acalli4, e_scalli3, sh4_0, sh4_1, sh4_2, sh4_3, sh4_4, eqr, eqv, true_and, and_true, true_or, or_true, ln0_1, ln0_2, ln0_3, ln0_4, ln0_5, ln0_6, ln0_7, ln0_8, ln0_9, ln0_11, ln0_12, ln0_13]
  by_cases ht : 0 ≤ t ∧ t < 20
  · refine Or.inl ⟨_, run0_requirePlace_ok hrt ht, ?_⟩
    rintro S1 rfl
    exact Or.inr ⟨_, run0_requireWhat_no hrw ⟨by omega, by omega⟩ (fun z => hn ⟨ht, z⟩), fun E S' z => z⟩
  · exact Or.inr ⟨_, run0_requirePlace_no hrt ht, fun E S' z => z⟩
def cellsC (S : ST) (p : Nat) : Int := if gA S 6 p = -1 then 0 else gA S 3 (gA S 6 p).toNat
theorem cellsC_b {S : ST} {p : Nat} (hp : p < 20) (hB : B0 S) : 0 ≤ cellsC S p ∧ cellsC S p ≤ 64 := by
  have h1 := hB.pl hp
  unfold cellsC
  split
  · omega
  · have := hB.kd (k := (gA S 6 p).toNat) (by omega)
    omega
theorem run0_cell_ok {S : ST} {p : Nat} {j : Int} (hrj : rng j) (hp : p < 20) (hj : 0 ≤ j ∧ j < cellsC S p) (hB : B0 S) : X0_cell [vR 0, vI p, vI j] S (eqr (gA S 9 (p * 64 + j.toNat)) S) nox := by
  refine ⟨Nat.le_of_ble_eq_true rfl, ?_⟩
  show RR _ 0 [some (vR 0), some (vI p), some (vI j)] [] S
  have h1 := cellsC_b hp hB
  simp only [r0_cell_0, r0_cell_1, r0_cell_2, r0_cell_5, r0_cell_6, r0_cell_9, r0_cell_10, r0_cell_11, r0_cell_12, r0_cell_15, r0_cell_18, r0_cell_28, r0_cell_29, r0_cell_32, r0_cell_33, r0_cell_35, r0_cell_36, r0_cell_37, r0_cell_38, r0_cell_39, e_const, e_lconst, e_dconst, e_iload, e_kiload, e_aload, e_kaload, e_lload, e_klload, e_iinc, e_kiinc, e_istore, e_astore, e_lstore, e_dupI, e_dupR, e_dup2, e_iadd, e_isub, e_imul, e_idiv, e_irem, e_ladd, e_lmul, e_i2l, e_i2d, e_ddiv, e_icmp, e_if, e_goto, e_switch, e_tsw0, e_tsw1, e_getI, e_getA, e_putI, e_iald, e_iast, e_tnew, e_tald, e_tast, e_iret, e_zret, e_lret, e_dret, e_vret, e_throw, lg0, ls0, lt0, lg1, ls1, lo1, lt1, lg2, ls2, lo2, lt2, lg3, ls3, lo3, lt3, lg4, ls4, lo4, lt4, lg5, ls5, lo5, lt5, lg6, ls6, lo6, lt6, lg7, ls7, lo7, lt7, lg8, ls8, lo8, lo0, okI, okR, okN, e_calli1, e_calll1, e_callv1, e_xcalli1, e_xcallv1, e_acalli1, e_calli2, e_calll2, e_callv2, e_xcalli2, e_xcallv2, e_acalli2, e_calli3, e_calll3, e_callv3, e_xcalli3, e_xcallv3, e_acalli3, e_calli4, e_calll4, e_callv4, e_xcalli4, e_xcallv4, e_acalli4, e_scalli3, sh4_0, sh4_1, sh4_2, sh4_3, sh4_4, eqr, eqv, true_and, and_true, true_or, or_true, ln0_1, ln0_2, ln0_3, ln0_4, ln0_5, ln0_6, ln0_7, ln0_8, ln0_9, ln0_11, ln0_12, ln0_13, Int.toNat_natCast]
  refine Or.inl ⟨_, run0_requirePlace_ok ⟨by omega, by omega⟩ ⟨by omega, by omega⟩, ?_⟩
  rintro S1 rfl
  refine ⟨hrj, fun h => by omega, fun h => ⟨_, run0_cellsAt hp hB, ?_⟩⟩
  rintro r S2 ⟨rfl, rfl⟩
  have e : (if gA S2 6 p = -1 then 0 else gA S2 3 (gA S2 6 p).toNat) = cellsC S2 p := rfl
  rw [e]
  have e2 : ((p : Int) * 64 + j).toNat = p * 64 + j.toNat := by omega
  rw [e2]
  ((repeat' (first | apply And.intro | intro _)) <;> first | omega | trivial | rfl | (split <;> omega))
theorem run0_cell_no {S : ST} {p j : Int} (hrp : rng p) (hrj : rng j) (hn : ¬ ((0 ≤ p ∧ p < 20) ∧ 0 ≤ j ∧ j < cellsC S p.toNat)) (hB : B0 S) : X0_cell [vR 0, vI p, vI j] S bo1 (eqx IOOB S) := by
  refine ⟨Nat.le_of_ble_eq_true rfl, ?_⟩
  show RR _ 0 [some (vR 0), some (vI p), some (vI j)] [] S
  by_cases hp : 0 ≤ p ∧ p < 20
  · obtain ⟨p, rfl⟩ : ∃ q : Nat, p = q := ⟨p.toNat, by omega⟩
    rw [Int.toNat_natCast] at hn
    have h1 := cellsC_b (S := S) (p := p) (by omega) hB
    simp only [r0_cell_0, r0_cell_1, r0_cell_2, r0_cell_5, r0_cell_6, r0_cell_9, r0_cell_10, r0_cell_11, r0_cell_12, r0_cell_15, r0_cell_18, r0_cell_28, r0_cell_29, r0_cell_32, r0_cell_33, r0_cell_35, r0_cell_36, r0_cell_37, r0_cell_38, r0_cell_39, e_const, e_lconst, e_dconst, e_iload, e_kiload, e_aload, e_kaload, e_lload, e_klload, e_iinc, e_kiinc, e_istore, e_astore, e_lstore, e_dupI, e_dupR, e_dup2, e_iadd, e_isub, e_imul, e_idiv, e_irem, e_ladd, e_lmul, e_i2l, e_i2d, e_ddiv, e_icmp, e_if, e_goto, e_switch, e_tsw0, e_tsw1, e_getI, e_getA, e_putI, e_iald, e_iast, e_tnew, e_tald, e_tast, e_iret, e_zret, e_lret, e_dret, e_vret, e_throw, lg0, ls0, lt0, lg1, ls1, lo1, lt1, lg2, ls2, lo2, lt2, lg3, ls3, lo3, lt3, lg4, ls4, lo4, lt4, lg5, ls5, lo5, lt5, lg6, ls6, lo6, lt6, lg7, ls7, lo7, lt7, lg8, ls8, lo8, lo0, okI, okR, okN, e_calli1, e_calll1, e_callv1, e_xcalli1, e_xcallv1, e_acalli1, e_calli2, e_calll2, e_callv2, e_xcalli2, e_xcallv2, e_acalli2, e_calli3, e_calll3, e_callv3, e_xcalli3, e_xcallv3, e_acalli3, e_calli4, e_calll4, e_callv4, e_xcalli4, e_xcallv4, e_acalli4, e_scalli3, sh4_0, sh4_1, sh4_2, sh4_3, sh4_4, eqr, eqv, true_and, and_true, true_or, or_true, ln0_1, ln0_2, ln0_3, ln0_4, ln0_5, ln0_6, ln0_7, ln0_8, ln0_9, ln0_11, ln0_12, ln0_13]
    refine Or.inl ⟨_, run0_requirePlace_ok hrp hp, ?_⟩
    rintro S1 rfl
    refine ⟨hrj, fun h => ⟨rfl, rfl⟩, fun h => ⟨_, run0_cellsAt (by omega) hB, ?_⟩⟩
    rintro r S2 ⟨rfl, rfl⟩
    have e : (if gA S2 6 p = -1 then 0 else gA S2 3 (gA S2 6 p).toNat) = cellsC S2 p := rfl
    rw [e]
    exact ⟨⟨hrj, by omega, by omega⟩, fun h2 => absurd ⟨hp, by omega, h2⟩ hn, fun h2 => ⟨rfl, rfl⟩⟩
  · simp only [r0_cell_0, r0_cell_1, r0_cell_2, r0_cell_5, r0_cell_6, r0_cell_9, r0_cell_10, r0_cell_11, r0_cell_12, r0_cell_15, r0_cell_18, r0_cell_28, r0_cell_29, r0_cell_32, r0_cell_33, r0_cell_35, r0_cell_36, r0_cell_37, r0_cell_38, r0_cell_39, e_const, e_lconst, e_dconst, e_iload, e_kiload, e_aload, e_kaload, e_lload, e_klload, e_iinc, e_kiinc, e_istore, e_astore, e_lstore, e_dupI, e_dupR, e_dup2, e_iadd, e_isub, e_imul, e_idiv, e_irem, e_ladd, e_lmul, e_i2l, e_i2d, e_ddiv, e_icmp, e_if, e_goto, e_switch, e_tsw0, e_tsw1, e_getI, e_getA, e_putI, e_iald, e_iast, e_tnew, e_tald, e_tast, e_iret, e_zret, e_lret, e_dret, e_vret, e_throw, lg0, ls0, lt0, lg1, ls1, lo1, lt1, lg2, ls2, lo2, lt2, lg3, ls3, lo3, lt3, lg4, ls4, lo4, lt4, lg5, ls5, lo5, lt5, lg6, ls6, lo6, lt6, lg7, ls7, lo7, lt7, lg8, ls8, lo8, lo0, okI, okR, okN, e_calli1, e_calll1, e_callv1, e_xcalli1, e_xcallv1, e_acalli1, e_calli2, e_calll2, e_callv2, e_xcalli2, e_xcallv2, e_acalli2, e_calli3, e_calll3, e_callv3, e_xcalli3, e_xcallv3, e_acalli3, e_calli4, e_calll4, e_callv4, e_xcalli4, e_xcallv4, e_acalli4, e_scalli3, sh4_0, sh4_1, sh4_2, sh4_3, sh4_4, eqr, eqv, true_and, and_true, true_or, or_true, ln0_1, ln0_2, ln0_3, ln0_4, ln0_5, ln0_6, ln0_7, ln0_8, ln0_9, ln0_11, ln0_12, ln0_13]
    exact Or.inr ⟨_, run0_requirePlace_no hrp hp, fun E S' z => z⟩
/-- what about() and count() tell -/
def abV (sz st tr em fu th fr nx what : Int) : Int := if what = 0 then sz else if what = 1 then st else if what = 2 then tr else if what = 3 then em else if what = 4 then fu else if what = 5 then th else if what = 6 then fr else nx
def abC (S : ST) (k : Nat) (what : Int) : Int := abV (gA S 1 k) (gA S 2 k) (cK (gA S 6) k 20) (cH (gA S 6) (gA S 8) k 0 20) (cH (gA S 6) (gA S 8) k (gA S 3 k) 20) (sK (gA S 6) (gA S 8) k 20) (cK (gA S 6) k 20 * gA S 3 k - sK (gA S 6) (gA S 8) k 20) (gA S 5 k) what
theorem run0_about_ok {S : ST} {k : Nat} {w : Int} (hk : (k : Int) < fF S 0) (hw : 0 ≤ w ∧ w ≤ 7) (hB : B0 S) : X0_about [vR 0, vI k, vI w] S (eqr (abC S k w) S) nox := by
  refine ⟨Nat.le_of_ble_eq_true rfl, ?_⟩
  show RR _ 0 [some (vR 0), some (vI k), some (vI w)] [] S
  have h0 := hB.kc
  have h1 := hB.kd (k := k) (by omega)
  simp only [r0_about_0, r0_about_1, r0_about_2, r0_about_5, r0_about_6, r0_about_7, r0_about_9, r0_about_12, r0_about_13, r0_about_56, r0_about_57, r0_about_60, r0_about_61, r0_about_62, r0_about_63, r0_about_64, r0_about_67, r0_about_68, r0_about_69, r0_about_70, r0_about_71, r0_about_72, r0_about_75, r0_about_76, r0_about_77, r0_about_78, r0_about_79, r0_about_82, r0_about_83, r0_about_84, r0_about_85, r0_about_86, r0_about_89, r0_about_90, r0_about_91, r0_about_94, r0_about_95, r0_about_96, r0_about_97, r0_about_100, r0_about_101, r0_about_102, r0_about_103, r0_about_106, r0_about_107, r0_about_108, r0_about_111, r0_about_112, r0_about_113, e_const, e_lconst, e_dconst, e_iload, e_kiload, e_aload, e_kaload, e_lload, e_klload, e_iinc, e_kiinc, e_istore, e_astore, e_lstore, e_dupI, e_dupR, e_dup2, e_iadd, e_isub, e_imul, e_idiv, e_irem, e_ladd, e_lmul, e_i2l, e_i2d, e_ddiv, e_icmp, e_if, e_goto, e_switch, e_tsw0, e_tsw1, e_getI, e_getA, e_putI, e_iald, e_iast, e_tnew, e_tald, e_tast, e_iret, e_zret, e_lret, e_dret, e_vret, e_throw, lg0, ls0, lt0, lg1, ls1, lo1, lt1, lg2, ls2, lo2, lt2, lg3, ls3, lo3, lt3, lg4, ls4, lo4, lt4, lg5, ls5, lo5, lt5, lg6, ls6, lo6, lt6, lg7, ls7, lo7, lt7, lg8, ls8, lo8, lo0, okI, okR, okN, e_calli1, e_calll1, e_callv1, e_xcalli1, e_xcallv1, e_acalli1, e_calli2, e_calll2, e_callv2, e_xcalli2, e_xcallv2, e_acalli2, e_calli3, e_calll3, e_callv3, e_xcalli3, e_xcallv3, e_acalli3, e_calli4, e_calll4, e_callv4, e_xcalli4, e_xcallv4, e_acalli4, e_scalli3, sh4_0, sh4_1, sh4_2, sh4_3, sh4_4, eqr, eqv, true_and, and_true, true_or, or_true, ln0_1, ln0_2, ln0_3, ln0_4, ln0_5, ln0_6, ln0_7, ln0_8, ln0_9, ln0_11, ln0_12, ln0_13, Int.toNat_natCast]
  refine Or.inl ⟨_, run0_requireKind_ok ⟨by omega, by omega⟩ ⟨by omega, hk⟩ hB, ?_⟩
  rintro S1 rfl
  refine Or.inl ⟨_, run0_requireWhat_ok ⟨by omega, by omega⟩ ⟨by omega, by omega⟩ hw, ?_⟩
  rintro S2 rfl
  have hrk : rng (k : Int) := ⟨by omega, by omega⟩
  unfold abC abV
  refine ⟨⟨by omega, by omega⟩, fun h => ?_, fun h => ⟨fun h2 => ?_, fun h2 => ⟨fun h3 => ?_, fun h3 => ⟨fun h4 => ?_, fun h4 => ⟨fun h5 => ?_, fun h5 => ⟨fun h6 => ?_, fun h6 => ⟨fun h7 => ?_, fun h7 => ?_⟩⟩⟩⟩⟩⟩⟩
  · ((repeat' (first | apply And.intro | intro _)) <;> first | omega | trivial | rfl | (split <;> omega))
  · ((repeat' (first | apply And.intro | intro _)) <;> first | omega | trivial | rfl | (split <;> omega))
  · refine ⟨_, run0_traysOf hrk hB, ?_⟩
    rintro r S3 ⟨rfl, rfl⟩
    ((repeat' (first | apply And.intro | intro _)) <;> first | omega | trivial | rfl | (split <;> omega))
  · refine ⟨_, run0_traysHolding hrk ⟨by omega, by omega⟩ hB, ?_⟩
    rintro r S3 ⟨rfl, rfl⟩
    ((repeat' (first | apply And.intro | intro _)) <;> first | omega | trivial | rfl | (split <;> omega))
  · refine ⟨⟨by omega, by omega⟩, _, run0_traysHolding hrk ⟨by omega, by omega⟩ hB, ?_⟩
    rintro r S3 ⟨rfl, rfl⟩
    ((repeat' (first | apply And.intro | intro _)) <;> first | omega | trivial | rfl | (split <;> omega))
  · refine ⟨_, run0_thingsOf hrk hB, ?_⟩
    rintro r S3 ⟨rfl, rfl⟩
    ((repeat' (first | apply And.intro | intro _)) <;> first | omega | trivial | rfl | (split <;> omega))
  · refine ⟨_, run0_freeCellsOf (by omega) hB, ?_⟩
    rintro r S3 ⟨rfl, rfl⟩
    ((repeat' (first | apply And.intro | intro _)) <;> first | omega | trivial | rfl | (split <;> omega))
  · ((repeat' (first | apply And.intro | intro _)) <;> first | omega | trivial | rfl | (split <;> omega))
theorem run0_about_no {S : ST} {t w : Int} (hrt : rng t) (hrw : rng w) (hn : ¬ ((0 ≤ t ∧ t < fF S 0) ∧ 0 ≤ w ∧ w ≤ 7)) (hB : B0 S) : X0_about [vR 0, vI t, vI w] S bo1 (eqx IOOB S) := by
  refine ⟨Nat.le_of_ble_eq_true rfl, ?_⟩
  show RR _ 0 [some (vR 0), some (vI t), some (vI w)] [] S
  simp only [r0_about_0, r0_about_1, r0_about_2, r0_about_5, r0_about_6, r0_about_7, r0_about_9, r0_about_12, r0_about_13, r0_about_56, r0_about_57, r0_about_60, r0_about_61, r0_about_62, r0_about_63, r0_about_64, r0_about_67, r0_about_68, r0_about_69, r0_about_70, r0_about_71, r0_about_72, r0_about_75, r0_about_76, r0_about_77, r0_about_78, r0_about_79, r0_about_82, r0_about_83, r0_about_84, r0_about_85, r0_about_86, r0_about_89, r0_about_90, r0_about_91, r0_about_94, r0_about_95, r0_about_96, r0_about_97, r0_about_100, r0_about_101, r0_about_102, r0_about_103, r0_about_106, r0_about_107, r0_about_108, r0_about_111, r0_about_112, r0_about_113, e_const, e_lconst, e_dconst, e_iload, e_kiload, e_aload, e_kaload, e_lload, e_klload, e_iinc, e_kiinc, e_istore, e_astore, e_lstore, e_dupI, e_dupR, e_dup2, e_iadd, e_isub, e_imul, e_idiv, e_irem, e_ladd, e_lmul, e_i2l, e_i2d, e_ddiv, e_icmp, e_if, e_goto, e_switch, e_tsw0, e_tsw1, e_getI, e_getA, e_putI, e_iald, e_iast, e_tnew, e_tald, e_tast, e_iret, e_zret, e_lret, e_dret, e_vret, e_throw, lg0, ls0, lt0, lg1, ls1, lo1, lt1, lg2, ls2, lo2, lt2, lg3, ls3, lo3, lt3, lg4, ls4, lo4, lt4, lg5, ls5, lo5, lt5, lg6, ls6, lo6, lt6, lg7, ls7, lo7, lt7, lg8, ls8, lo8, lo0, okI, okR, okN, e_calli1, e_calll1, e_callv1, e_xcalli1, e_xcallv1, e_acalli1, e_calli2, e_calll2, e_callv2, e_xcalli2, e_xcallv2, e_acalli2, e_calli3, e_calll3, e_callv3, e_xcalli3, e_xcallv3, e_acalli3, e_calli4, e_calll4, e_callv4, e_xcalli4, e_xcallv4, e_acalli4, e_scalli3, sh4_0, sh4_1, sh4_2, sh4_3, sh4_4, eqr, eqv, true_and, and_true, true_or, or_true, ln0_1, ln0_2, ln0_3, ln0_4, ln0_5, ln0_6, ln0_7, ln0_8, ln0_9, ln0_11, ln0_12, ln0_13]
  by_cases ht : 0 ≤ t ∧ t < fF S 0
  · refine Or.inl ⟨_, run0_requireKind_ok hrt ht hB, ?_⟩
    rintro S1 rfl
    exact Or.inr ⟨_, run0_requireWhat_no hrw ⟨by omega, by omega⟩ (fun z => hn ⟨ht, z⟩), fun E S' z => z⟩
  · exact Or.inr ⟨_, run0_requireKind_no hrt ht hB, fun E S' z => z⟩
def coV (kc tr th tc wa go mo what : Int) : Int := if what = 0 then kc else if what = 1 then tr else if what = 2 then th else if what = 3 then tc else if what = 4 then wa else if what = 5 then go else mo
def coC (S : ST) (what : Int) : Int := coV (fF S 0) (20 - cK (gA S 6) (-1) 20) (sm (fun k => sK (gA S 6) (gA S 8) k 20) (fF S 0).toNat) (fF S 10) (sm (wbC S) (fF S 0).toNat) (fF S 14) (fF S 15) what
theorem run0_count_ok {S : ST} {w : Int} (hw : 0 ≤ w ∧ w ≤ 6) (hB : B0 S) : X0_count [vR 0, vI w] S (eqr (coC S w) S) nox := by
  refine ⟨Nat.le_of_ble_eq_true rfl, ?_⟩
  show RR _ 0 [some (vR 0), some (vI w)] [] S
  simp only [r0_count_0, r0_count_1, r0_count_2, r0_count_4, r0_count_7, r0_count_8, r0_count_48, r0_count_49, r0_count_52, r0_count_53, r0_count_55, r0_count_56, r0_count_57, r0_count_60, r0_count_61, r0_count_62, r0_count_63, r0_count_66, r0_count_67, r0_count_68, r0_count_71, r0_count_72, r0_count_73, r0_count_76, r0_count_77, r0_count_78, r0_count_81, r0_count_82, r0_count_83, r0_count_86, e_const, e_lconst, e_dconst, e_iload, e_kiload, e_aload, e_kaload, e_lload, e_klload, e_iinc, e_kiinc, e_istore, e_astore, e_lstore, e_dupI, e_dupR, e_dup2, e_iadd, e_isub, e_imul, e_idiv, e_irem, e_ladd, e_lmul, e_i2l, e_i2d, e_ddiv, e_icmp, e_if, e_goto, e_switch, e_tsw0, e_tsw1, e_getI, e_getA, e_putI, e_iald, e_iast, e_tnew, e_tald, e_tast, e_iret, e_zret, e_lret, e_dret, e_vret, e_throw, lg0, ls0, lt0, lg1, ls1, lo1, lt1, lg2, ls2, lo2, lt2, lg3, ls3, lo3, lt3, lg4, ls4, lo4, lt4, lg5, ls5, lo5, lt5, lg6, ls6, lo6, lt6, lg7, ls7, lo7, lt7, lg8, ls8, lo8, lo0, okI, okR, okN, e_calli1, e_calll1, e_callv1, e_xcalli1, e_xcallv1, e_acalli1, e_calli2, e_calll2, e_callv2, e_xcalli2, e_xcallv2, e_acalli2, e_calli3, e_calll3, e_callv3, e_xcalli3, e_xcallv3, e_acalli3, e_calli4, e_calll4, e_callv4, e_xcalli4, e_xcallv4, e_acalli4, e_scalli3, sh4_0, sh4_1, sh4_2, sh4_3, sh4_4, eqr, eqv, true_and, and_true, true_or, or_true, ln0_1, ln0_2, ln0_3, ln0_4, ln0_5, ln0_6, ln0_7, ln0_8, ln0_9, ln0_11, ln0_12, ln0_13]
  refine Or.inl ⟨_, run0_requireWhat_ok ⟨by omega, by omega⟩ ⟨by omega, by omega⟩ hw, ?_⟩
  rintro S2 rfl
  unfold coC coV
  refine ⟨⟨by omega, by omega⟩, fun h => ?_, fun h => ⟨fun h2 => ?_, fun h2 => ⟨fun h3 => ?_, fun h3 => ⟨fun h4 => ?_, fun h4 => ⟨fun h5 => ?_, fun h5 => ⟨fun h6 => ?_, fun h6 => ?_⟩⟩⟩⟩⟩⟩
  · ((repeat' (first | apply And.intro | intro _)) <;> first | omega | trivial | rfl | (split <;> omega))
  · refine ⟨_, run0_traysOf ⟨by omega, by omega⟩ hB, ?_⟩
    rintro r S3 ⟨rfl, rfl⟩
    ((repeat' (first | apply And.intro | intro _)) <;> first | omega | trivial | rfl | (split <;> omega))
  · refine ⟨_, run0_thingsThere hB, ?_⟩
    rintro r S3 ⟨rfl, rfl⟩
    ((repeat' (first | apply And.intro | intro _)) <;> first | omega | trivial | rfl | (split <;> omega))
  · ((repeat' (first | apply And.intro | intro _)) <;> first | omega | trivial | rfl | (split <;> omega))
  · refine ⟨_, run0_wastedInAll hB, ?_⟩
    rintro r S3 ⟨rfl, rfl⟩
    ((repeat' (first | apply And.intro | intro _)) <;> first | omega | trivial | rfl | (split <;> omega))
  · ((repeat' (first | apply And.intro | intro _)) <;> first | omega | trivial | rfl | (split <;> omega))
  · ((repeat' (first | apply And.intro | intro _)) <;> first | omega | trivial | rfl | (split <;> omega))
theorem run0_count_no {S : ST} {w : Int} (hrw : rng w) (hn : ¬ (0 ≤ w ∧ w ≤ 6)) : X0_count [vR 0, vI w] S bo1 (eqx IOOB S) := by
  refine ⟨Nat.le_of_ble_eq_true rfl, ?_⟩
  show RR _ 0 [some (vR 0), some (vI w)] [] S
  simp only [r0_count_0, r0_count_1, r0_count_2, r0_count_4, r0_count_7, r0_count_8, r0_count_48, r0_count_49, r0_count_52, r0_count_53, r0_count_55, r0_count_56, r0_count_57, r0_count_60, r0_count_61, r0_count_62, r0_count_63, r0_count_66, r0_count_67, r0_count_68, r0_count_71, r0_count_72, r0_count_73, r0_count_76, r0_count_77, r0_count_78, r0_count_81, r0_count_82, r0_count_83, r0_count_86, e_const, e_lconst, e_dconst, e_iload, e_kiload, e_aload, e_kaload, e_lload, e_klload, e_iinc, e_kiinc, e_istore, e_astore, e_lstore, e_dupI, e_dupR, e_dup2, e_iadd, e_isub, e_imul, e_idiv, e_irem, e_ladd, e_lmul, e_i2l, e_i2d, e_ddiv, e_icmp, e_if, e_goto, e_switch, e_tsw0, e_tsw1, e_getI, e_getA, e_putI, e_iald, e_iast, e_tnew, e_tald, e_tast, e_iret, e_zret, e_lret, e_dret, e_vret, e_throw, lg0, ls0, lt0, lg1, ls1, lo1, lt1, lg2, ls2, lo2, lt2, lg3, ls3, lo3, lt3, lg4, ls4, lo4, lt4, lg5, ls5, lo5, lt5, lg6, ls6, lo6, lt6, lg7, ls7, lo7, lt7, lg8, ls8, lo8, lo0, okI, okR, okN, e_calli1, e_calll1, e_callv1, e_xcalli1, e_xcallv1, e_acalli1, e_calli2, e_calll2, e_callv2, e_xcalli2, e_xcallv2, e_acalli2, e_calli3, e_calll3, e_callv3, e_xcalli3, e_xcallv3, e_acalli3, e_calli4, e_calll4, e_callv4, e_xcalli4, e_xcallv4, e_acalli4, e_scalli3, sh4_0, sh4_1, sh4_2, sh4_3, sh4_4, eqr, eqv, true_and, and_true, true_or, or_true, ln0_1, ln0_2, ln0_3, ln0_4, ln0_5, ln0_6, ln0_7, ln0_8, ln0_9, ln0_11, ln0_12, ln0_13]
  exact Or.inr ⟨_, run0_requireWhat_no hrw ⟨by omega, by omega⟩ hn, fun E S' z => z⟩
theorem run0_would_ok {S : ST} {k : Nat} (hk : (k : Int) < fF S 0) (hB : B0 S) : X0_would [vR 0, vI k] S (eqr (plF (gA S 6) (gA S 8) k (gA S 3 k)) S) nox := by
  refine ⟨Nat.le_of_ble_eq_true rfl, ?_⟩
  show RR _ 0 [some (vR 0), some (vI k)] [] S
  have h0 := hB.kc
  simp only [r0_would_0, r0_would_1, r0_would_2, r0_would_5, r0_would_6, r0_would_7, r0_would_10, e_const, e_lconst, e_dconst, e_iload, e_kiload, e_aload, e_kaload, e_lload, e_klload, e_iinc, e_kiinc, e_istore, e_astore, e_lstore, e_dupI, e_dupR, e_dup2, e_iadd, e_isub, e_imul, e_idiv, e_irem, e_ladd, e_lmul, e_i2l, e_i2d, e_ddiv, e_icmp, e_if, e_goto, e_switch, e_tsw0, e_tsw1, e_getI, e_getA, e_putI, e_iald, e_iast, e_tnew, e_tald, e_tast, e_iret, e_zret, e_lret, e_dret, e_vret, e_throw, lg0, ls0, lt0, lg1, ls1, lo1, lt1, lg2, ls2, lo2, lt2, lg3, ls3, lo3, lt3, lg4, ls4, lo4, lt4, lg5, ls5, lo5, lt5, lg6, ls6, lo6, lt6, lg7, ls7, lo7, lt7, lg8, ls8, lo8, lo0, okI, okR, okN, e_calli1, e_calll1, e_callv1, e_xcalli1, e_xcallv1, e_acalli1, e_calli2, e_calll2, e_callv2, e_xcalli2, e_xcallv2, e_acalli2, e_calli3, e_calll3, e_callv3, e_xcalli3, e_xcallv3, e_acalli3, e_calli4, e_calll4, e_callv4, e_xcalli4, e_xcallv4, e_acalli4, e_scalli3, sh4_0, sh4_1, sh4_2, sh4_3, sh4_4, eqr, eqv, true_and, and_true, true_or, or_true, ln0_1, ln0_2, ln0_3, ln0_4, ln0_5, ln0_6, ln0_7, ln0_8, ln0_9, ln0_11, ln0_12, ln0_13]
  refine Or.inl ⟨_, run0_requireKind_ok ⟨by omega, by omega⟩ ⟨by omega, hk⟩ hB, ?_⟩
  rintro S1 rfl
  refine ⟨_, run0_placeFor (by omega) hB, ?_⟩
  rintro r S3 ⟨rfl, rfl⟩
  ((repeat' (first | apply And.intro | intro _)) <;> first | omega | trivial | rfl | (split <;> omega))
theorem run0_would_no {S : ST} {t : Int} (hrt : rng t) (hn : ¬ (0 ≤ t ∧ t < fF S 0)) (hB : B0 S) : X0_would [vR 0, vI t] S bo1 (eqx IOOB S) := by
  refine ⟨Nat.le_of_ble_eq_true rfl, ?_⟩
  show RR _ 0 [some (vR 0), some (vI t)] [] S
  simp only [r0_would_0, r0_would_1, r0_would_2, r0_would_5, r0_would_6, r0_would_7, r0_would_10, e_const, e_lconst, e_dconst, e_iload, e_kiload, e_aload, e_kaload, e_lload, e_klload, e_iinc, e_kiinc, e_istore, e_astore, e_lstore, e_dupI, e_dupR, e_dup2, e_iadd, e_isub, e_imul, e_idiv, e_irem, e_ladd, e_lmul, e_i2l, e_i2d, e_ddiv, e_icmp, e_if, e_goto, e_switch, e_tsw0, e_tsw1, e_getI, e_getA, e_putI, e_iald, e_iast, e_tnew, e_tald, e_tast, e_iret, e_zret, e_lret, e_dret, e_vret, e_throw, lg0, ls0, lt0, lg1, ls1, lo1, lt1, lg2, ls2, lo2, lt2, lg3, ls3, lo3, lt3, lg4, ls4, lo4, lt4, lg5, ls5, lo5, lt5, lg6, ls6, lo6, lt6, lg7, ls7, lo7, lt7, lg8, ls8, lo8, lo0, okI, okR, okN, e_calli1, e_calll1, e_callv1, e_xcalli1, e_xcallv1, e_acalli1, e_calli2, e_calll2, e_callv2, e_xcalli2, e_xcallv2, e_acalli2, e_calli3, e_calll3, e_callv3, e_xcalli3, e_xcallv3, e_acalli3, e_calli4, e_calll4, e_callv4, e_xcalli4, e_xcallv4, e_acalli4, e_scalli3, sh4_0, sh4_1, sh4_2, sh4_3, sh4_4, eqr, eqv, true_and, and_true, true_or, or_true, ln0_1, ln0_2, ln0_3, ln0_4, ln0_5, ln0_6, ln0_7, ln0_8, ln0_9, ln0_11, ln0_12, ln0_13]
  exact Or.inr ⟨_, run0_requireKind_no hrt hn hB, fun E S' z => z⟩
theorem run0_room_ok {S : ST} {k : Nat} (hk : (k : Int) < fF S 0) (hB : B0 S) : X0_room [vR 0, vI k] S (eqr (cK (gA S 6) k 20 * gA S 3 k - sK (gA S 6) (gA S 8) k 20 + cK (gA S 6) (-1) 20 * gA S 3 k) S) nox := by
  refine ⟨Nat.le_of_ble_eq_true rfl, ?_⟩
  show RR _ 0 [some (vR 0), some (vI k)] [] S
  have h0 := hB.kc
  simp only [r0_room_0, r0_room_1, r0_room_2, r0_room_5, r0_room_6, r0_room_7, r0_room_10, r0_room_11, r0_room_12, r0_room_15, r0_room_16, r0_room_19, r0_room_20, r0_room_21, r0_room_22, r0_room_23, e_const, e_lconst, e_dconst, e_iload, e_kiload, e_aload, e_kaload, e_lload, e_klload, e_iinc, e_kiinc, e_istore, e_astore, e_lstore, e_dupI, e_dupR, e_dup2, e_iadd, e_isub, e_imul, e_idiv, e_irem, e_ladd, e_lmul, e_i2l, e_i2d, e_ddiv, e_icmp, e_if, e_goto, e_switch, e_tsw0, e_tsw1, e_getI, e_getA, e_putI, e_iald, e_iast, e_tnew, e_tald, e_tast, e_iret, e_zret, e_lret, e_dret, e_vret, e_throw, lg0, ls0, lt0, lg1, ls1, lo1, lt1, lg2, ls2, lo2, lt2, lg3, ls3, lo3, lt3, lg4, ls4, lo4, lt4, lg5, ls5, lo5, lt5, lg6, ls6, lo6, lt6, lg7, ls7, lo7, lt7, lg8, ls8, lo8, lo0, okI, okR, okN, e_calli1, e_calll1, e_callv1, e_xcalli1, e_xcallv1, e_acalli1, e_calli2, e_calll2, e_callv2, e_xcalli2, e_xcallv2, e_acalli2, e_calli3, e_calll3, e_callv3, e_xcalli3, e_xcallv3, e_acalli3, e_calli4, e_calll4, e_callv4, e_xcalli4, e_xcallv4, e_acalli4, e_scalli3, sh4_0, sh4_1, sh4_2, sh4_3, sh4_4, eqr, eqv, true_and, and_true, true_or, or_true, ln0_1, ln0_2, ln0_3, ln0_4, ln0_5, ln0_6, ln0_7, ln0_8, ln0_9, ln0_11, ln0_12, ln0_13, Int.toNat_natCast]
  refine Or.inl ⟨_, run0_requireKind_ok ⟨by omega, by omega⟩ ⟨by omega, hk⟩ hB, ?_⟩
  rintro S1 rfl
  refine ⟨_, run0_freeCellsOf (by omega) hB, ?_⟩
  rintro r S2 ⟨rfl, rfl⟩
  refine ⟨_, run0_traysOf ⟨by omega, by omega⟩ hB, ?_⟩
  rintro r S3 ⟨rfl, rfl⟩
  ((repeat' (first | apply And.intro | intro _)) <;> first | omega | trivial | rfl | (split <;> omega))
theorem run0_room_no {S : ST} {t : Int} (hrt : rng t) (hn : ¬ (0 ≤ t ∧ t < fF S 0)) (hB : B0 S) : X0_room [vR 0, vI t] S bo1 (eqx IOOB S) := by
  refine ⟨Nat.le_of_ble_eq_true rfl, ?_⟩
  show RR _ 0 [some (vR 0), some (vI t)] [] S
  simp only [r0_room_0, r0_room_1, r0_room_2, r0_room_5, r0_room_6, r0_room_7, r0_room_10, r0_room_11, r0_room_12, r0_room_15, r0_room_16, r0_room_19, r0_room_20, r0_room_21, r0_room_22, r0_room_23, e_const, e_lconst, e_dconst, e_iload, e_kiload, e_aload, e_kaload, e_lload, e_klload, e_iinc, e_kiinc, e_istore, e_astore, e_lstore, e_dupI, e_dupR, e_dup2, e_iadd, e_isub, e_imul, e_idiv, e_irem, e_ladd, e_lmul, e_i2l, e_i2d, e_ddiv, e_icmp, e_if, e_goto, e_switch, e_tsw0, e_tsw1, e_getI, e_getA, e_putI, e_iald, e_iast, e_tnew, e_tald, e_tast, e_iret, e_zret, e_lret, e_dret, e_vret, e_throw, lg0, ls0, lt0, lg1, ls1, lo1, lt1, lg2, ls2, lo2, lt2, lg3, ls3, lo3, lt3, lg4, ls4, lo4, lt4, lg5, ls5, lo5, lt5, lg6, ls6, lo6, lt6, lg7, ls7, lo7, lt7, lg8, ls8, lo8, lo0, okI, okR, okN, e_calli1, e_calll1, e_callv1, e_xcalli1, e_xcallv1, e_acalli1, e_calli2, e_calll2, e_callv2, e_xcalli2, e_xcallv2, e_acalli2, e_calli3, e_calll3, e_callv3, e_xcalli3, e_xcallv3, e_acalli3, e_calli4, e_calll4, e_callv4, e_xcalli4, e_xcallv4, e_acalli4, e_scalli3, sh4_0, sh4_1, sh4_2, sh4_3, sh4_4, eqr, eqv, true_and, and_true, true_or, or_true, ln0_1, ln0_2, ln0_3, ln0_4, ln0_5, ln0_6, ln0_7, ln0_8, ln0_9, ln0_11, ln0_12, ln0_13]
  exact Or.inr ⟨_, run0_requireKind_no hrt hn hB, fun E S' z => z⟩
/-- spares: what is left, how many are spare -/
def spF (f : Nat → Int) (k c l0 : Int) : Nat → Int × Int
  | 0 => (l0, 0)
  | n + 1 => if f n = k then ((spF f k c l0 n).1 - c, if (spF f k c l0 n).1 > 0 then (spF f k c l0 n).2 else (spF f k c l0 n).2 + 1) else spF f k c l0 n
theorem spF_n {f : Nat → Int} {k c l0 : Int} {n : Nat} (h : ¬ f n = k) : spF f k c l0 (n + 1) = spF f k c l0 n := by
  show (if _ then _ else _) = _
  rw [if_neg h]
theorem spF_y {f : Nat → Int} {k c l0 : Int} {n : Nat} (h : f n = k) : spF f k c l0 (n + 1) = ((spF f k c l0 n).1 - c, if (spF f k c l0 n).1 > 0 then (spF f k c l0 n).2 else (spF f k c l0 n).2 + 1) := by
  show (if _ then _ else _) = _
  rw [if_pos h]
theorem spF_b {f : Nat → Int} {k c l0 : Int} (hc : 0 ≤ c ∧ c ≤ 64) (hl : -100000 ≤ l0 ∧ l0 ≤ 100000) : ∀ n : Nat, -100000 - 64 * (n : Int) ≤ (spF f k c l0 n).1 ∧ (spF f k c l0 n).1 ≤ 100000
  | 0 => by simp only [spF]; omega
  | n + 1 => by
    have := spF_b (f := f) (k := k) hc hl n
    by_cases h : f n = k
    · rw [spF_y h]; simp only; omega
    · rw [spF_n h]; omega
theorem run0_spares_ok {S : ST} {k : Nat} (hk : (k : Int) < fF S 0) (hB : B0 S) : X0_spares [vR 0, vI k] S (eqr (spF (gA S 6) k (gA S 3 k) (sK (gA S 6) (gA S 8) k 20) 20).2 S) nox := by
  refine ⟨Nat.le_of_ble_eq_true rfl, ?_⟩
  show RR _ 0 [some (vR 0), some (vI k), none, none, none] [] S
  have h0 := hB.kc
  have hc := hB.kd (k := k) (by omega)
  have hs := sK_b (f := gA S 6) (g := gA S 8) (k := (k : Int)) 20 (fun p hp => (hB.pl hp).2)
  have loop : ∀ i, i ≤ 20 → RR (T0_spares (eqr (spF (gA S 6) k (gA S 3 k) (sK (gA S 6) (gA S 8) k 20) 20).2 S) nox) 16 [some (vR 0), some (vI k), some (vI (spF (gA S 6) k (gA S 3 k) (sK (gA S 6) (gA S 8) k 20) i).1), some (vI (spF (gA S 6) k (gA S 3 k) (sK (gA S 6) (gA S 8) k 20) i).2), some (vI i)] [] S := by
    refine up ?_ ?_
    · rw [r0_spares_16]
      simp only [r0_spares_0, r0_spares_1, r0_spares_2, r0_spares_5, r0_spares_6, r0_spares_7, r0_spares_10, r0_spares_11, r0_spares_12, r0_spares_13, r0_spares_14, r0_spares_18, r0_spares_20, r0_spares_23, r0_spares_24, r0_spares_27, r0_spares_29, r0_spares_30, r0_spares_31, r0_spares_34, r0_spares_35, r0_spares_38, r0_spares_41, r0_spares_42, r0_spares_43, r0_spares_46, r0_spares_47, r0_spares_48, r0_spares_49, r0_spares_50, r0_spares_53, r0_spares_56, r0_spares_57, e_const, e_lconst, e_dconst, e_iload, e_kiload, e_aload, e_kaload, e_lload, e_klload, e_iinc, e_kiinc, e_istore, e_astore, e_lstore, e_dupI, e_dupR, e_dup2, e_iadd, e_isub, e_imul, e_idiv, e_irem, e_ladd, e_lmul, e_i2l, e_i2d, e_ddiv, e_icmp, e_if, e_goto, e_switch, e_tsw0, e_tsw1, e_getI, e_getA, e_putI, e_iald, e_iast, e_tnew, e_tald, e_tast, e_iret, e_zret, e_lret, e_dret, e_vret, e_throw, lg0, ls0, lt0, lg1, ls1, lo1, lt1, lg2, ls2, lo2, lt2, lg3, ls3, lo3, lt3, lg4, ls4, lo4, lt4, lg5, ls5, lo5, lt5, lg6, ls6, lo6, lt6, lg7, ls7, lo7, lt7, lg8, ls8, lo8, lo0, okI, okR, okN, e_calli1, e_calll1, e_callv1, e_xcalli1, e_xcallv1, e_acalli1, e_calli2, e_calll2, e_callv2, e_xcalli2, e_xcallv2, e_acalli2, e_calli3, e_calll3, e_callv3, e_xcalli3, e_xcallv3, e_acalli3, e_calli4, e_calll4, e_callv4, e_xcalli4, e_xcallv4, e_acalli4, e_scalli3, sh4_0, sh4_1, sh4_2, sh4_3, sh4_4, eqr, eqv, true_and, and_true, true_or, or_true, ln0_1, ln0_2, ln0_3, ln0_4, ln0_5, ln0_6, ln0_7, ln0_8, ln0_9, ln0_11, ln0_12, ln0_13]
      refine ⟨⟨⟨by omega, by omega⟩, by omega, by omega⟩, fun h => trivial, fun h => absurd h (by omega)⟩
    · intro i hi ih
      rw [r0_spares_16]
      simp only [r0_spares_0, r0_spares_1, r0_spares_2, r0_spares_5, r0_spares_6, r0_spares_7, r0_spares_10, r0_spares_11, r0_spares_12, r0_spares_13, r0_spares_14, r0_spares_18, r0_spares_20, r0_spares_23, r0_spares_24, r0_spares_27, r0_spares_29, r0_spares_30, r0_spares_31, r0_spares_34, r0_spares_35, r0_spares_38, r0_spares_41, r0_spares_42, r0_spares_43, r0_spares_46, r0_spares_47, r0_spares_48, r0_spares_49, r0_spares_50, r0_spares_53, r0_spares_56, r0_spares_57, e_const, e_lconst, e_dconst, e_iload, e_kiload, e_aload, e_kaload, e_lload, e_klload, e_iinc, e_kiinc, e_istore, e_astore, e_lstore, e_dupI, e_dupR, e_dup2, e_iadd, e_isub, e_imul, e_idiv, e_irem, e_ladd, e_lmul, e_i2l, e_i2d, e_ddiv, e_icmp, e_if, e_goto, e_switch, e_tsw0, e_tsw1, e_getI, e_getA, e_putI, e_iald, e_iast, e_tnew, e_tald, e_tast, e_iret, e_zret, e_lret, e_dret, e_vret, e_throw, lg0, ls0, lt0, lg1, ls1, lo1, lt1, lg2, ls2, lo2, lt2, lg3, ls3, lo3, lt3, lg4, ls4, lo4, lt4, lg5, ls5, lo5, lt5, lg6, ls6, lo6, lt6, lg7, ls7, lo7, lt7, lg8, ls8, lo8, lo0, okI, okR, okN, e_calli1, e_calll1, e_callv1, e_xcalli1, e_xcallv1, e_acalli1, e_calli2, e_calll2, e_callv2, e_xcalli2, e_xcallv2, e_acalli2, e_calli3, e_calll3, e_callv3, e_xcalli3, e_xcallv3, e_acalli3, e_calli4, e_calll4, e_callv4, e_xcalli4, e_xcallv4, e_acalli4, e_scalli3, sh4_0, sh4_1, sh4_2, sh4_3, sh4_4, eqr, eqv, true_and, and_true, true_or, or_true, ln0_1, ln0_2, ln0_3, ln0_4, ln0_5, ln0_6, ln0_7, ln0_8, ln0_9, ln0_11, ln0_12, ln0_13, Int.toNat_natCast]
      have h1 := hB.pl hi
      have h9 := spF_b (f := gA S 6) (k := (k : Int)) (c := gA S 3 k) (l0 := sK (gA S 6) (gA S 8) k 20) (by omega) (by omega) i
      refine ⟨⟨⟨by omega, by omega⟩, by omega, by omega⟩, fun h => by omega, fun h => ⟨⟨by omega, by omega⟩, ⟨⟨by omega, by omega⟩, by omega, by omega⟩, fun h2 => ?_, fun h2 => ⟨⟨by omega, by omega⟩, fun h3 => ⟨⟨by omega, by omega⟩, ?_⟩, fun h3 => ⟨⟨by omega, by omega⟩, ?_⟩⟩⟩⟩
      · rw [spF_n (n := i) h2] at ih
        exact ih
      · rw [spF_y (n := i) (Decidable.not_not.mp h2), if_pos h3] at ih
        exact ih
      · rw [spF_y (n := i) (Decidable.not_not.mp h2), if_neg h3] at ih
        exact ih
  simp only [r0_spares_0, r0_spares_1, r0_spares_2, r0_spares_5, r0_spares_6, r0_spares_7, r0_spares_10, r0_spares_11, r0_spares_12, r0_spares_13, r0_spares_14, r0_spares_18, r0_spares_20, r0_spares_23, r0_spares_24, r0_spares_27, r0_spares_29, r0_spares_30, r0_spares_31, r0_spares_34, r0_spares_35, r0_spares_38, r0_spares_41, r0_spares_42, r0_spares_43, r0_spares_46, r0_spares_47, r0_spares_48, r0_spares_49, r0_spares_50, r0_spares_53, r0_spares_56, r0_spares_57, e_const, e_lconst, e_dconst, e_iload, e_kiload, e_aload, e_kaload, e_lload, e_klload, e_iinc, e_kiinc, e_istore, e_astore, e_lstore, e_dupI, e_dupR, e_dup2, e_iadd, e_isub, e_imul, e_idiv, e_irem, e_ladd, e_lmul, e_i2l, e_i2d, e_ddiv, e_icmp, e_if, e_goto, e_switch, e_tsw0, e_tsw1, e_getI, e_getA, e_putI, e_iald, e_iast, e_tnew, e_tald, e_tast, e_iret, e_zret, e_lret, e_dret, e_vret, e_throw, lg0, ls0, lt0, lg1, ls1, lo1, lt1, lg2, ls2, lo2, lt2, lg3, ls3, lo3, lt3, lg4, ls4, lo4, lt4, lg5, ls5, lo5, lt5, lg6, ls6, lo6, lt6, lg7, ls7, lo7, lt7, lg8, ls8, lo8, lo0, okI, okR, okN, e_calli1, e_calll1, e_callv1, e_xcalli1, e_xcallv1, e_acalli1, e_calli2, e_calll2, e_callv2, e_xcalli2, e_xcallv2, e_acalli2, e_calli3, e_calll3, e_callv3, e_xcalli3, e_xcallv3, e_acalli3, e_calli4, e_calll4, e_callv4, e_xcalli4, e_xcallv4, e_acalli4, e_scalli3, sh4_0, sh4_1, sh4_2, sh4_3, sh4_4, eqr, eqv, true_and, and_true, true_or, or_true, ln0_1, ln0_2, ln0_3, ln0_4, ln0_5, ln0_6, ln0_7, ln0_8, ln0_9, ln0_11, ln0_12, ln0_13]
  refine Or.inl ⟨_, run0_requireKind_ok ⟨by omega, by omega⟩ ⟨by omega, hk⟩ hB, ?_⟩
  rintro S1 rfl
  refine ⟨_, run0_thingsOf ⟨by omega, by omega⟩ hB, ?_⟩
  rintro r S2 ⟨rfl, rfl⟩
  exact loop 0 (by omega)
theorem run0_spares_no {S : ST} {t : Int} (hrt : rng t) (hn : ¬ (0 ≤ t ∧ t < fF S 0)) (hB : B0 S) : X0_spares [vR 0, vI t] S bo1 (eqx IOOB S) := by
  refine ⟨Nat.le_of_ble_eq_true rfl, ?_⟩
  show RR _ 0 [some (vR 0), some (vI t), none, none, none] [] S
  simp only [r0_spares_0, r0_spares_1, r0_spares_2, r0_spares_5, r0_spares_6, r0_spares_7, r0_spares_10, r0_spares_11, r0_spares_12, r0_spares_13, r0_spares_14, r0_spares_18, r0_spares_20, r0_spares_23, r0_spares_24, r0_spares_27, r0_spares_29, r0_spares_30, r0_spares_31, r0_spares_34, r0_spares_35, r0_spares_38, r0_spares_41, r0_spares_42, r0_spares_43, r0_spares_46, r0_spares_47, r0_spares_48, r0_spares_49, r0_spares_50, r0_spares_53, r0_spares_56, r0_spares_57, e_const, e_lconst, e_dconst, e_iload, e_kiload, e_aload, e_kaload, e_lload, e_klload, e_iinc, e_kiinc, e_istore, e_astore, e_lstore, e_dupI, e_dupR, e_dup2, e_iadd, e_isub, e_imul, e_idiv, e_irem, e_ladd, e_lmul, e_i2l, e_i2d, e_ddiv, e_icmp, e_if, e_goto, e_switch, e_tsw0, e_tsw1, e_getI, e_getA, e_putI, e_iald, e_iast, e_tnew, e_tald, e_tast, e_iret, e_zret, e_lret, e_dret, e_vret, e_throw, lg0, ls0, lt0, lg1, ls1, lo1, lt1, lg2, ls2, lo2, lt2, lg3, ls3, lo3, lt3, lg4, ls4, lo4, lt4, lg5, ls5, lo5, lt5, lg6, ls6, lo6, lt6, lg7, ls7, lo7, lt7, lg8, ls8, lo8, lo0, okI, okR, okN, e_calli1, e_calll1, e_callv1, e_xcalli1, e_xcallv1, e_acalli1, e_calli2, e_calll2, e_callv2, e_xcalli2, e_xcallv2, e_acalli2, e_calli3, e_calll3, e_callv3, e_xcalli3, e_xcallv3, e_acalli3, e_calli4, e_calll4, e_callv4, e_xcalli4, e_xcallv4, e_acalli4, e_scalli3, sh4_0, sh4_1, sh4_2, sh4_3, sh4_4, eqr, eqv, true_and, and_true, true_or, or_true, ln0_1, ln0_2, ln0_3, ln0_4, ln0_5, ln0_6, ln0_7, ln0_8, ln0_9, ln0_11, ln0_12, ln0_13]
  exact Or.inr ⟨_, run0_requireKind_no hrt hn hB, fun E S' z => z⟩
/-- worst: the kind, how much -/
def woF (w : Nat → Int) : Nat → Int × Int
  | 0 => (-1, -1)
  | n + 1 => if (woF w n).2 < w n then ((n : Int), w n) else woF w n
theorem woF_y {w : Nat → Int} {n : Nat} (h : (woF w n).2 < w n) : woF w (n + 1) = ((n : Int), w n) := by
  show (if _ then _ else _) = _
  rw [if_pos h]
theorem woF_n {w : Nat → Int} {n : Nat} (h : ¬ (woF w n).2 < w n) : woF w (n + 1) = woF w n := by
  show (if _ then _ else _) = _
  rw [if_neg h]
theorem woF_b {w : Nat → Int} {N : Int} : ∀ n : Nat, (∀ k, k < n → -N ≤ w k ∧ w k ≤ N) → 1 ≤ N → -N ≤ (woF w n).2 ∧ (woF w n).2 ≤ N
  | 0, _, h => by simp only [woF]; omega
  | n + 1, hk, h => by
    have h1 := woF_b (w := w) n (fun k hk' => hk k (by omega)) h
    have h2 := hk n (by omega)
    by_cases h3 : (woF w n).2 < w n
    · rw [woF_y h3]; exact h2
    · rw [woF_n h3]; exact h1
theorem wbC_b {S : ST} {k : Nat} (hk : k < 6) (hB : B0 S) : -100000 ≤ wbC S k ∧ wbC S k ≤ 100000 := by
  have hc := hB.kd hk
  have hs := sK_b (f := gA S 6) (g := gA S 8) (k := (k : Int)) 20 (fun p hp => (hB.pl hp).2)
  have hx := cK_b (gA S 6) (k : Int) 20
  have h1 : 0 ≤ sK (gA S 6) (gA S 8) k 20 * gA S 1 k := Int.mul_nonneg hs.1 hc.1.1
  have h2 : sK (gA S 6) (gA S 8) k 20 * gA S 1 k ≤ 1280 * 32 := by
    have := Int.mul_le_mul (show sK (gA S 6) (gA S 8) k 20 ≤ 1280 by omega) hc.1.2 hc.1.1 (by decide : (0:Int) ≤ 1280)
    omega
  unfold wbC
  omega
theorem run0_worst {S : ST} (hB : B0 S) : X0_worst [vR 0] S (eqr (woF (wbC S) (fF S 0).toNat).1 S) nox := by
  refine ⟨Nat.le_of_ble_eq_true rfl, ?_⟩
  show RR _ 0 [some (vR 0), none, none, none, none] [] S
  have h0 := hB.kc
  have loop : ∀ i, i ≤ (fF S 0).toNat → ∀ z, z = none ∨ (∃ a, z = some (vI a)) → RR (T0_worst (eqr (woF (wbC S) (fF S 0).toNat).1 S) nox) 6 [some (vR 0), some (vI (woF (wbC S) i).1), some (vI (woF (wbC S) i).2), some (vI i), z] [] S := by
    refine up ?_ ?_
    · intro z _
      rw [r0_worst_6]
      simp only [r0_worst_0, r0_worst_1, r0_worst_2, r0_worst_3, r0_worst_4, r0_worst_5, r0_worst_7, r0_worst_8, r0_worst_11, r0_worst_14, r0_worst_15, r0_worst_16, r0_worst_19, r0_worst_21, r0_worst_23, r0_worst_24, r0_worst_27, r0_worst_29, r0_worst_30, r0_worst_31, r0_worst_32, r0_worst_35, r0_worst_38, r0_worst_39, e_const, e_lconst, e_dconst, e_iload, e_kiload, e_aload, e_kaload, e_lload, e_klload, e_iinc, e_kiinc, e_istore, e_astore, e_lstore, e_dupI, e_dupR, e_dup2, e_iadd, e_isub, e_imul, e_idiv, e_irem, e_ladd, e_lmul, e_i2l, e_i2d, e_ddiv, e_icmp, e_if, e_goto, e_switch, e_tsw0, e_tsw1, e_getI, e_getA, e_putI, e_iald, e_iast, e_tnew, e_tald, e_tast, e_iret, e_zret, e_lret, e_dret, e_vret, e_throw, lg0, ls0, lt0, lg1, ls1, lo1, lt1, lg2, ls2, lo2, lt2, lg3, ls3, lo3, lt3, lg4, ls4, lo4, lt4, lg5, ls5, lo5, lt5, lg6, ls6, lo6, lt6, lg7, ls7, lo7, lt7, lg8, ls8, lo8, lo0, okI, okR, okN, e_calli1, e_calll1, e_callv1, e_xcalli1, e_xcallv1, e_acalli1, e_calli2, e_calll2, e_callv2, e_xcalli2, e_xcallv2, e_acalli2, e_calli3, e_calll3, e_callv3, e_xcalli3, e_xcallv3, e_acalli3, e_calli4, e_calll4, e_callv4, e_xcalli4, e_xcallv4, e_acalli4, e_scalli3, sh4_0, sh4_1, sh4_2, sh4_3, sh4_4, eqr, eqv, true_and, and_true, true_or, or_true, ln0_1, ln0_2, ln0_3, ln0_4, ln0_5, ln0_6, ln0_7, ln0_8, ln0_9, ln0_11, ln0_12, ln0_13]
      refine ⟨⟨⟨by omega, by omega⟩, by omega, by omega⟩, fun h => trivial, fun h => absurd h (by omega)⟩
    · intro i hi ih z _
      rw [r0_worst_6]
      simp only [r0_worst_0, r0_worst_1, r0_worst_2, r0_worst_3, r0_worst_4, r0_worst_5, r0_worst_7, r0_worst_8, r0_worst_11, r0_worst_14, r0_worst_15, r0_worst_16, r0_worst_19, r0_worst_21, r0_worst_23, r0_worst_24, r0_worst_27, r0_worst_29, r0_worst_30, r0_worst_31, r0_worst_32, r0_worst_35, r0_worst_38, r0_worst_39, e_const, e_lconst, e_dconst, e_iload, e_kiload, e_aload, e_kaload, e_lload, e_klload, e_iinc, e_kiinc, e_istore, e_astore, e_lstore, e_dupI, e_dupR, e_dup2, e_iadd, e_isub, e_imul, e_idiv, e_irem, e_ladd, e_lmul, e_i2l, e_i2d, e_ddiv, e_icmp, e_if, e_goto, e_switch, e_tsw0, e_tsw1, e_getI, e_getA, e_putI, e_iald, e_iast, e_tnew, e_tald, e_tast, e_iret, e_zret, e_lret, e_dret, e_vret, e_throw, lg0, ls0, lt0, lg1, ls1, lo1, lt1, lg2, ls2, lo2, lt2, lg3, ls3, lo3, lt3, lg4, ls4, lo4, lt4, lg5, ls5, lo5, lt5, lg6, ls6, lo6, lt6, lg7, ls7, lo7, lt7, lg8, ls8, lo8, lo0, okI, okR, okN, e_calli1, e_calll1, e_callv1, e_xcalli1, e_xcallv1, e_acalli1, e_calli2, e_calll2, e_callv2, e_xcalli2, e_xcallv2, e_acalli2, e_calli3, e_calll3, e_callv3, e_xcalli3, e_xcallv3, e_acalli3, e_calli4, e_calll4, e_callv4, e_xcalli4, e_xcallv4, e_acalli4, e_scalli3, sh4_0, sh4_1, sh4_2, sh4_3, sh4_4, eqr, eqv, true_and, and_true, true_or, or_true, ln0_1, ln0_2, ln0_3, ln0_4, ln0_5, ln0_6, ln0_7, ln0_8, ln0_9, ln0_11, ln0_12, ln0_13, Int.toNat_natCast]
      refine ⟨⟨⟨by omega, by omega⟩, by omega, by omega⟩, fun h => by omega, fun h => ⟨_, run0_wastedBy (by omega) hB, ?_⟩⟩
      rintro r S1 ⟨rfl, rfl⟩
      have e : cK (gA S1 6) i 20 * 64 - sK (gA S1 6) (gA S1 8) i 20 * gA S1 1 i = wbC S1 i := rfl
      rw [e]
      have h1 := wbC_b (S := S1) (k := i) (by omega) hB
      have h2 := woF_b (w := wbC S1) (N := 100000) i (fun k hk => wbC_b (by omega) hB) (by omega)
      refine ⟨⟨⟨by omega, by omega⟩, by omega, by omega⟩, fun h3 => ?_, fun h3 => ?_⟩
      · have := ih _ (Or.inr ⟨wbC S1 i, rfl⟩)
        rw [woF_n (n := i) (by omega)] at this
        exact this
      · have := ih _ (Or.inr ⟨wbC S1 i, rfl⟩)
        rw [woF_y (n := i) (by omega)] at this
        exact this
  simp only [r0_worst_0, r0_worst_1, r0_worst_2, r0_worst_3, r0_worst_4, r0_worst_5, r0_worst_7, r0_worst_8, r0_worst_11, r0_worst_14, r0_worst_15, r0_worst_16, r0_worst_19, r0_worst_21, r0_worst_23, r0_worst_24, r0_worst_27, r0_worst_29, r0_worst_30, r0_worst_31, r0_worst_32, r0_worst_35, r0_worst_38, r0_worst_39, e_const, e_lconst, e_dconst, e_iload, e_kiload, e_aload, e_kaload, e_lload, e_klload, e_iinc, e_kiinc, e_istore, e_astore, e_lstore, e_dupI, e_dupR, e_dup2, e_iadd, e_isub, e_imul, e_idiv, e_irem, e_ladd, e_lmul, e_i2l, e_i2d, e_ddiv, e_icmp, e_if, e_goto, e_switch, e_tsw0, e_tsw1, e_getI, e_getA, e_putI, e_iald, e_iast, e_tnew, e_tald, e_tast, e_iret, e_zret, e_lret, e_dret, e_vret, e_throw, lg0, ls0, lt0, lg1, ls1, lo1, lt1, lg2, ls2, lo2, lt2, lg3, ls3, lo3, lt3, lg4, ls4, lo4, lt4, lg5, ls5, lo5, lt5, lg6, ls6, lo6, lt6, lg7, ls7, lo7, lt7, lg8, ls8, lo8, lo0, okI, okR, okN, e_calli1, e_calll1, e_callv1, e_xcalli1, e_xcallv1, e_acalli1, e_calli2, e_calll2, e_callv2, e_xcalli2, e_xcallv2, e_acalli2, e_calli3, e_calll3, e_callv3, e_xcalli3, e_xcallv3, e_acalli3, e_calli4, e_calll4, e_callv4, e_xcalli4, e_xcallv4, e_acalli4, e_scalli3, sh4_0, sh4_1, sh4_2, sh4_3, sh4_4, eqr, eqv, true_and, and_true, true_or, or_true, ln0_1, ln0_2, ln0_3, ln0_4, ln0_5, ln0_6, ln0_7, ln0_8, ln0_9, ln0_11, ln0_12, ln0_13]
  exact loop 0 (by omega) none (Or.inl rfl)
