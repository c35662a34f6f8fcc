/-! THE REFERENCE, its public reads that make nothing -/
theorem if1 {c : Prop} [Decidable c] (h : c) : (if c then (1 : Int) else 0) = 1 := if_pos h
theorem if0 {c : Prop} [Decidable c] (h : ¬ c) : (if c then (1 : Int) else 0) = 0 := if_neg h
def toldR (R : ST) (t : Nat) (what : Int) : Int := toldV (gA R 10 t) (gA R 11 t) (gA R 12 t) (gA R 6 (gA R 11 t).toNat) (gA R 2 (gA R 10 t).toNat) what
set_option maxRecDepth 100000 in
theorem run1_thingTold {R : ST} {t : Nat} {w : Int} (ht : t < 150) (hw : 0 ≤ w ∧ w ≤ 4) (hB : B1 R) : X1_thingTold [vR 0, vI t, vI w] R (eqr (toldR R t w) R) nox := by
  have h1 := hB.th ht
  refine ⟨Nat.le_of_ble_eq_true rfl, ?_⟩
  show RR _ 0 [some (vR 0), some (vI t), some (vI w), none] [] R
  simp only [r1_thingTold_0, r1_thingTold_1, r1_thingTold_4, r1_thingTold_5, r1_thingTold_8, r1_thingTold_9, r1_thingTold_10, r1_thingTold_11, r1_thingTold_12, r1_thingTold_15, r1_thingTold_16, r1_thingTold_17, r1_thingTold_18, r1_thingTold_21, r1_thingTold_22, r1_thingTold_23, r1_thingTold_24, r1_thingTold_27, r1_thingTold_28, r1_thingTold_31, r1_thingTold_32, r1_thingTold_33, r1_thingTold_34, r1_thingTold_35, r1_thingTold_38, r1_thingTold_39, r1_thingTold_40, r1_thingTold_41, r1_thingTold_44, r1_thingTold_45, r1_thingTold_48, r1_thingTold_49, r1_thingTold_50, r1_thingTold_51, r1_thingTold_52, r1_thingTold_53, r1_thingTold_54, r1_thingTold_55, r1_thingTold_56, r1_thingTold_59, r1_thingTold_60, r1_thingTold_63, r1_thingTold_64, r1_thingTold_65, r1_thingTold_68, r1_thingTold_69, r1_thingTold_70, r1_thingTold_73, r1_thingTold_74, r1_thingTold_77, r1_thingTold_78, r1_thingTold_79, r1_thingTold_82, r1_thingTold_83, r1_thingTold_84, r1_thingTold_87, r1_thingTold_88, r1_thingTold_91, r1_thingTold_93, r1_thingTold_94, r1_thingTold_97, r1_thingTold_98, r1_thingTold_99, r1_thingTold_100, r1_thingTold_101, r1_thingTold_102, e_const, e_lconst, e_dconst, e_iload, e_kiload, e_aload, e_kaload, e_lload, e_klload, e_iinc, e_kiinc, e_istore, e_astore, e_lstore, e_dupI, e_dupR, e_dup2, e_iadd, e_isub, e_imul, e_idiv, e_irem, e_ladd, e_lmul, e_i2l, e_i2d, e_ddiv, e_icmp, e_if, e_goto, e_switch, e_tsw0, e_tsw1, e_getI, e_getA, e_putI, e_iald, e_iast, e_tnew, e_tald, e_tast, e_iret, e_zret, e_lret, e_dret, e_vret, e_throw, lg0, ls0, lt0, lg1, ls1, lo1, lt1, lg2, ls2, lo2, lt2, lg3, ls3, lo3, lt3, lg4, ls4, lo4, lt4, lg5, ls5, lo5, lt5, lg6, ls6, lo6, lt6, lg7, ls7, lo7, lt7, lg8, ls8, lo8, lo0, okI, okR, okN, e_calli1, e_calll1, e_callv1, e_xcalli1, e_xcallv1, e_acalli1, e_calli2, e_calll2, e_callv2, e_xcalli2, e_xcallv2, e_acalli2, e_calli3, e_calll3, e_callv3, e_xcalli3, e_xcallv3, e_acalli3, e_calli4, e_calll4, e_callv4, e_xcalli4, e_xcallv4, e_acalli4, e_scalli3, sh4_0, sh4_1, sh4_2, sh4_3, sh4_4, eqr, eqv, true_and, and_true, true_or, or_true, ln1_2, ln1_3, ln1_4, ln1_5, ln1_6, ln1_7, ln1_8, ln1_10, ln1_11, ln1_12, Int.toNat_natCast]
  unfold toldR toldV
  ((repeat' (first | apply And.intro | intro _)) <;> first | omega | trivial | rfl | (split <;> omega))
theorem run1_told_ok {R : ST} {t : Nat} {w : Int} (ht : (t : Int) < fF R 9) (hw : 0 ≤ w ∧ w ≤ 4) (hB : B1 R) : X1_told [vR 0, vI t, vI w] R (eqr (toldR R t w) (thr R 0)) nox := by
  have h0 := hB.tc
  refine ⟨Nat.le_of_ble_eq_true rfl, ?_⟩
  show RR _ 0 [some (vR 0), some (vI t), some (vI w)] [] R
  simp only [r1_told_0, r1_told_1, r1_told_2, r1_told_5, r1_told_6, r1_told_7, r1_told_10, r1_told_13, r1_told_14, r1_told_15, r1_told_16, r1_told_19, r1_told_22, r1_told_23, r1_told_24, r1_told_25, r1_told_28, r1_told_31, r1_told_32, r1_told_33, r1_told_36, e_const, e_lconst, e_dconst, e_iload, e_kiload, e_aload, e_kaload, e_lload, e_klload, e_iinc, e_kiinc, e_istore, e_astore, e_lstore, e_dupI, e_dupR, e_dup2, e_iadd, e_isub, e_imul, e_idiv, e_irem, e_ladd, e_lmul, e_i2l, e_i2d, e_ddiv, e_icmp, e_if, e_goto, e_switch, e_tsw0, e_tsw1, e_getI, e_getA, e_putI, e_iald, e_iast, e_tnew, e_tald, e_tast, e_iret, e_zret, e_lret, e_dret, e_vret, e_throw, lg0, ls0, lt0, lg1, ls1, lo1, lt1, lg2, ls2, lo2, lt2, lg3, ls3, lo3, lt3, lg4, ls4, lo4, lt4, lg5, ls5, lo5, lt5, lg6, ls6, lo6, lt6, lg7, ls7, lo7, lt7, lg8, ls8, lo8, lo0, okI, okR, okN, e_calli1, e_calll1, e_callv1, e_xcalli1, e_xcallv1, e_acalli1, e_calli2, e_calll2, e_callv2, e_xcalli2, e_xcallv2, e_acalli2, e_calli3, e_calll3, e_callv3, e_xcalli3, e_xcallv3, e_acalli3, e_calli4, e_calll4, e_callv4, e_xcalli4, e_xcallv4, e_acalli4, e_scalli3, sh4_0, sh4_1, sh4_2, sh4_3, sh4_4, eqr, eqv, true_and, and_true, true_or, or_true, ln1_2, ln1_3, ln1_4, ln1_5, ln1_6, ln1_7, ln1_8, ln1_10, ln1_11, ln1_12]
  refine ⟨_, run1_isThing ⟨by omega, by omega⟩ (hB.thr 0), ?_⟩
  rintro r S1 ⟨rfl, rfl⟩
  rw [if1 (show 0 ≤ (t : Int) ∧ (t : Int) < fF (thr R 0) 9 from ⟨by omega, ht⟩)]
  refine ⟨⟨by omega, by omega⟩, fun h => by omega, fun _ => ⟨_, run1_isIn ⟨by omega, by omega⟩ ⟨by omega, by omega⟩ ⟨by omega, by omega⟩, ?_⟩⟩
  rintro r S2 ⟨rfl, rfl⟩
  rw [if1 hw]
  refine ⟨⟨by omega, by omega⟩, fun h => by omega, fun _ => ⟨_, run1_thingTold (by omega) hw (hB.thr 0), ?_⟩⟩
  rintro r S3 ⟨rfl, rfl⟩
  exact ⟨rfl, rfl⟩
theorem run1_told_no {R : ST} {t w : Int} (hrt : rng t) (hrw : rng w) (hn : ¬ ((0 ≤ t ∧ t < fF R 9) ∧ 0 ≤ w ∧ w ≤ 4)) (hB : B1 R) : X1_told [vR 0, vI t, vI w] R (eqr 0 (thr R 1)) nox := by
  refine ⟨Nat.le_of_ble_eq_true rfl, ?_⟩
  show RR _ 0 [some (vR 0), some (vI t), some (vI w)] [] R
  simp only [r1_told_0, r1_told_1, r1_told_2, r1_told_5, r1_told_6, r1_told_7, r1_told_10, r1_told_13, r1_told_14, r1_told_15, r1_told_16, r1_told_19, r1_told_22, r1_told_23, r1_told_24, r1_told_25, r1_told_28, r1_told_31, r1_told_32, r1_told_33, r1_told_36, e_const, e_lconst, e_dconst, e_iload, e_kiload, e_aload, e_kaload, e_lload, e_klload, e_iinc, e_kiinc, e_istore, e_astore, e_lstore, e_dupI, e_dupR, e_dup2, e_iadd, e_isub, e_imul, e_idiv, e_irem, e_ladd, e_lmul, e_i2l, e_i2d, e_ddiv, e_icmp, e_if, e_goto, e_switch, e_tsw0, e_tsw1, e_getI, e_getA, e_putI, e_iald, e_iast, e_tnew, e_tald, e_tast, e_iret, e_zret, e_lret, e_dret, e_vret, e_throw, lg0, ls0, lt0, lg1, ls1, lo1, lt1, lg2, ls2, lo2, lt2, lg3, ls3, lo3, lt3, lg4, ls4, lo4, lt4, lg5, ls5, lo5, lt5, lg6, ls6, lo6, lt6, lg7, ls7, lo7, lt7, lg8, ls8, lo8, lo0, okI, okR, okN, e_calli1, e_calll1, e_callv1, e_xcalli1, e_xcallv1, e_acalli1, e_calli2, e_calll2, e_callv2, e_xcalli2, e_xcallv2, e_acalli2, e_calli3, e_calll3, e_callv3, e_xcalli3, e_xcallv3, e_acalli3, e_calli4, e_calll4, e_callv4, e_xcalli4, e_xcallv4, e_acalli4, e_scalli3, sh4_0, sh4_1, sh4_2, sh4_3, sh4_4, eqr, eqv, true_and, and_true, true_or, or_true, ln1_2, ln1_3, ln1_4, ln1_5, ln1_6, ln1_7, ln1_8, ln1_10, ln1_11, ln1_12]
  refine ⟨_, run1_isThing hrt (hB.thr 0), ?_⟩
  rintro r S1 ⟨rfl, rfl⟩
  have tail : ∃ Q, X1_no [vR 0, vI 1] (pF R 0 0) Q nox ∧ ∀ r S', Q r S' → r = 0 ∧ S' = thr R 1 := ⟨_, run1_no, fun r S' h => ⟨h.1, h.2.trans (thr_thr R 0 1)⟩⟩
  by_cases ht : 0 ≤ t ∧ t < fF R 9
  · rw [if1 (show 0 ≤ t ∧ t < fF (thr R 0) 9 from ht)]
    refine ⟨⟨by omega, by omega⟩, fun h => by omega, fun _ => ⟨_, run1_isIn hrw ⟨by omega, by omega⟩ ⟨by omega, by omega⟩, ?_⟩⟩
    rintro r S2 ⟨rfl, rfl⟩
    rw [if0 (fun z => hn ⟨ht, z⟩)]
    exact ⟨⟨by omega, by omega⟩, fun _ => tail, fun h => absurd rfl h⟩
  · rw [if0 (show ¬ (0 ≤ t ∧ t < fF (thr R 0) 9) from ht)]
    exact ⟨⟨by omega, by omega⟩, fun _ => tail, fun h => absurd rfl h⟩
def trayR (R : ST) (p : Nat) (what : Int) : Int := trayV (gA R 5 p) (gA R 6 p) (csR R (gA R 5 p).toNat) (gA R 7 p) (gA R 2 (gA R 5 p).toNat) what
def waR (R : ST) (p : Nat) : Int := 64 - gA R 2 (gA R 5 p).toNat * gA R 7 p
theorem run1_wasted {R : ST} {p : Nat} (hp : p < 20) (hn : gA R 5 p ≠ -1) (hB : B1 R) : X1_wasted [vR 0, vI p] R (eqr (waR R p) R) nox := by
  have h0 := hB.kc
  have h1 := hB.pl hp
  refine ⟨Nat.le_of_ble_eq_true rfl, ?_⟩
  show RR _ 0 [some (vR 0), some (vI p)] [] R
  simp only [r1_wasted_0, r1_wasted_1, r1_wasted_4, r1_wasted_5, r1_wasted_6, r1_wasted_7, r1_wasted_10, r1_wasted_11, r1_wasted_14, r1_wasted_16, r1_wasted_17, r1_wasted_20, r1_wasted_21, r1_wasted_24, r1_wasted_25, r1_wasted_26, r1_wasted_27, r1_wasted_28, r1_wasted_31, r1_wasted_32, r1_wasted_33, r1_wasted_34, r1_wasted_35, e_const, e_lconst, e_dconst, e_iload, e_kiload, e_aload, e_kaload, e_lload, e_klload, e_iinc, e_kiinc, e_istore, e_astore, e_lstore, e_dupI, e_dupR, e_dup2, e_iadd, e_isub, e_imul, e_idiv, e_irem, e_ladd, e_lmul, e_i2l, e_i2d, e_ddiv, e_icmp, e_if, e_goto, e_switch, e_tsw0, e_tsw1, e_getI, e_getA, e_putI, e_iald, e_iast, e_tnew, e_tald, e_tast, e_iret, e_zret, e_lret, e_dret, e_vret, e_throw, lg0, ls0, lt0, lg1, ls1, lo1, lt1, lg2, ls2, lo2, lt2, lg3, ls3, lo3, lt3, lg4, ls4, lo4, lt4, lg5, ls5, lo5, lt5, lg6, ls6, lo6, lt6, lg7, ls7, lo7, lt7, lg8, ls8, lo8, lo0, okI, okR, okN, e_calli1, e_calll1, e_callv1, e_xcalli1, e_xcallv1, e_acalli1, e_calli2, e_calll2, e_callv2, e_xcalli2, e_xcallv2, e_acalli2, e_calli3, e_calll3, e_callv3, e_xcalli3, e_xcallv3, e_acalli3, e_calli4, e_calll4, e_callv4, e_xcalli4, e_xcallv4, e_acalli4, e_scalli3, sh4_0, sh4_1, sh4_2, sh4_3, sh4_4, eqr, eqv, true_and, and_true, true_or, or_true, ln1_2, ln1_3, ln1_4, ln1_5, ln1_6, ln1_7, ln1_8, ln1_10, ln1_11, ln1_12, Int.toNat_natCast]
  exact ⟨⟨by omega, by omega⟩, ⟨⟨by omega, by omega⟩, by omega, by omega⟩, fun h => ⟨⟨by omega, by omega⟩, ⟨by omega, by omega⟩, ⟨by omega, by omega⟩, rfl⟩, fun h => absurd hn h⟩
set_option maxRecDepth 100000 in
theorem run1_trayTold {R : ST} {p : Nat} {w : Int} (hp : p < 20) (hw : 0 ≤ w ∧ w ≤ 4) (hB : B1 R) : X1_trayTold [vR 0, vI p, vI w] R (eqr (trayR R p w) R) nox := by
  have h0 := hB.kc
  have h1 := hB.pl hp
  refine ⟨Nat.le_of_ble_eq_true rfl, ?_⟩
  show RR _ 0 [some (vR 0), some (vI p), some (vI w)] [] R
  simp only [r1_trayTold_0, r1_trayTold_1, r1_trayTold_4, r1_trayTold_5, r1_trayTold_6, r1_trayTold_7, r1_trayTold_10, r1_trayTold_11, r1_trayTold_12, r1_trayTold_13, r1_trayTold_16, r1_trayTold_17, r1_trayTold_20, r1_trayTold_21, r1_trayTold_22, r1_trayTold_25, r1_trayTold_26, r1_trayTold_27, r1_trayTold_30, r1_trayTold_31, r1_trayTold_34, r1_trayTold_35, r1_trayTold_36, r1_trayTold_39, r1_trayTold_40, r1_trayTold_41, r1_trayTold_44, r1_trayTold_45, r1_trayTold_46, r1_trayTold_49, r1_trayTold_50, r1_trayTold_51, r1_trayTold_54, r1_trayTold_57, r1_trayTold_58, r1_trayTold_59, r1_trayTold_62, r1_trayTold_63, r1_trayTold_66, r1_trayTold_67, r1_trayTold_68, r1_trayTold_71, r1_trayTold_72, r1_trayTold_73, r1_trayTold_76, e_const, e_lconst, e_dconst, e_iload, e_kiload, e_aload, e_kaload, e_lload, e_klload, e_iinc, e_kiinc, e_istore, e_astore, e_lstore, e_dupI, e_dupR, e_dup2, e_iadd, e_isub, e_imul, e_idiv, e_irem, e_ladd, e_lmul, e_i2l, e_i2d, e_ddiv, e_icmp, e_if, e_goto, e_switch, e_tsw0, e_tsw1, e_getI, e_getA, e_putI, e_iald, e_iast, e_tnew, e_tald, e_tast, e_iret, e_zret, e_lret, e_dret, e_vret, e_throw, lg0, ls0, lt0, lg1, ls1, lo1, lt1, lg2, ls2, lo2, lt2, lg3, ls3, lo3, lt3, lg4, ls4, lo4, lt4, lg5, ls5, lo5, lt5, lg6, ls6, lo6, lt6, lg7, ls7, lo7, lt7, lg8, ls8, lo8, lo0, okI, okR, okN, e_calli1, e_calll1, e_callv1, e_xcalli1, e_xcallv1, e_acalli1, e_calli2, e_calll2, e_callv2, e_xcalli2, e_xcallv2, e_acalli2, e_calli3, e_calll3, e_callv3, e_xcalli3, e_xcallv3, e_acalli3, e_calli4, e_calll4, e_callv4, e_xcalli4, e_xcallv4, e_acalli4, e_scalli3, sh4_0, sh4_1, sh4_2, sh4_3, sh4_4, eqr, eqv, true_and, and_true, true_or, or_true, ln1_2, ln1_3, ln1_4, ln1_5, ln1_6, ln1_7, ln1_8, ln1_10, ln1_11, ln1_12, Int.toNat_natCast]
  unfold trayR trayV
  by_cases h6 : gA R 5 p = -1
  · rw [if_pos h6]
    exact ⟨⟨by omega, by omega⟩, ⟨⟨by omega, by omega⟩, by omega, by omega⟩, fun h => absurd h6 h, fun h => rfl⟩
  · obtain ⟨k, hk⟩ : ∃ k : Nat, gA R 5 p = k := ⟨(gA R 5 p).toNat, by omega⟩
    have hcs := csR_b (R := R) (k := k) (by omega) hB
    rw [if_neg h6]
    simp only [hk, Int.toNat_natCast]
    refine ⟨⟨by omega, by omega⟩, ⟨⟨by omega, by omega⟩, by omega, by omega⟩, fun _ => ⟨⟨by omega, by omega⟩, fun z0 => ⟨⟨⟨by omega, by omega⟩, by omega, by omega⟩, fun z1 => ⟨⟨⟨by omega, by omega⟩, by omega, by omega⟩, fun z2 => ⟨⟨⟨by omega, by omega⟩, by omega, by omega⟩, fun z3 => ⟨_, run1_wasted hp h6 hB, ?_⟩, fun z3 => ⟨⟨by omega, by omega⟩, ?_⟩⟩, fun z2 => ⟨⟨by omega, by omega⟩, _, run1_cells (by omega) hB, ?_⟩⟩, fun z1 => ⟨⟨by omega, by omega⟩, ?_⟩⟩, fun z0 => ⟨⟨by omega, by omega⟩, ?_⟩⟩, fun h => absurd h (by omega)⟩
    · rintro r S3 ⟨rfl, rfl⟩
      rw [if_neg z0, if_neg z1, if_neg z2, if_neg z3]
      unfold waR
      rw [hk, Int.toNat_natCast]
      exact ⟨rfl, rfl⟩
    · rw [if_neg z0, if_neg z1, if_neg z2, if_pos (by omega)]
    · rintro r S3 ⟨rfl, rfl⟩
      rw [if_neg z0, if_neg z1, if_pos (by omega)]
      exact ⟨rfl, rfl⟩
    · rw [if_neg z0, if_pos (by omega)]
    · rw [if_pos (by omega)]
theorem run1_tray_ok {R : ST} {p : Nat} {w : Int} (hp : p < 20) (hw : 0 ≤ w ∧ w ≤ 4) (hB : B1 R) : X1_tray [vR 0, vI p, vI w] R (eqr (trayR R p w) (thr R 0)) nox := by
  refine ⟨Nat.le_of_ble_eq_true rfl, ?_⟩
  show RR _ 0 [some (vR 0), some (vI p), some (vI w)] [] R
  simp only [r1_tray_0, r1_tray_1, r1_tray_2, r1_tray_5, r1_tray_6, r1_tray_7, r1_tray_9, r1_tray_12, r1_tray_15, r1_tray_16, r1_tray_17, r1_tray_18, r1_tray_21, r1_tray_24, r1_tray_25, r1_tray_26, r1_tray_27, r1_tray_30, r1_tray_33, r1_tray_34, r1_tray_35, r1_tray_38, e_const, e_lconst, e_dconst, e_iload, e_kiload, e_aload, e_kaload, e_lload, e_klload, e_iinc, e_kiinc, e_istore, e_astore, e_lstore, e_dupI, e_dupR, e_dup2, e_iadd, e_isub, e_imul, e_idiv, e_irem, e_ladd, e_lmul, e_i2l, e_i2d, e_ddiv, e_icmp, e_if, e_goto, e_switch, e_tsw0, e_tsw1, e_getI, e_getA, e_putI, e_iald, e_iast, e_tnew, e_tald, e_tast, e_iret, e_zret, e_lret, e_dret, e_vret, e_throw, lg0, ls0, lt0, lg1, ls1, lo1, lt1, lg2, ls2, lo2, lt2, lg3, ls3, lo3, lt3, lg4, ls4, lo4, lt4, lg5, ls5, lo5, lt5, lg6, ls6, lo6, lt6, lg7, ls7, lo7, lt7, lg8, ls8, lo8, lo0, okI, okR, okN, e_calli1, e_calll1, e_callv1, e_xcalli1, e_xcallv1, e_acalli1, e_calli2, e_calll2, e_callv2, e_xcalli2, e_xcallv2, e_acalli2, e_calli3, e_calll3, e_callv3, e_xcalli3, e_xcallv3, e_acalli3, e_calli4, e_calll4, e_callv4, e_xcalli4, e_xcallv4, e_acalli4, e_scalli3, sh4_0, sh4_1, sh4_2, sh4_3, sh4_4, eqr, eqv, true_and, and_true, true_or, or_true, ln1_2, ln1_3, ln1_4, ln1_5, ln1_6, ln1_7, ln1_8, ln1_10, ln1_11, ln1_12]
  refine ⟨_, run1_isIn ⟨by omega, by omega⟩ ⟨by omega, by omega⟩ ⟨by omega, by omega⟩, ?_⟩
  rintro r S1 ⟨rfl, rfl⟩
  rw [if1 (show 0 ≤ (p : Int) ∧ (p : Int) ≤ 19 from ⟨by omega, by omega⟩)]
  refine ⟨⟨by omega, by omega⟩, fun h => by omega, fun _ => ⟨_, run1_isIn ⟨by omega, by omega⟩ ⟨by omega, by omega⟩ ⟨by omega, by omega⟩, ?_⟩⟩
  rintro r S2 ⟨rfl, rfl⟩
  rw [if1 hw]
  refine ⟨⟨by omega, by omega⟩, fun h => by omega, fun _ => ⟨_, run1_trayTold hp hw (hB.thr 0), ?_⟩⟩
  rintro r S3 ⟨rfl, rfl⟩
  exact ⟨rfl, rfl⟩
theorem run1_tray_no {R : ST} {t w : Int} (hrt : rng t) (hrw : rng w) (hn : ¬ ((0 ≤ t ∧ t < 20) ∧ 0 ≤ w ∧ w ≤ 4)) : X1_tray [vR 0, vI t, vI w] R (eqr 0 (thr R 1)) nox := by
  refine ⟨Nat.le_of_ble_eq_true rfl, ?_⟩
  show RR _ 0 [some (vR 0), some (vI t), some (vI w)] [] R
  simp only [r1_tray_0, r1_tray_1, r1_tray_2, r1_tray_5, r1_tray_6, r1_tray_7, r1_tray_9, r1_tray_12, r1_tray_15, r1_tray_16, r1_tray_17, r1_tray_18, r1_tray_21, r1_tray_24, r1_tray_25, r1_tray_26, r1_tray_27, r1_tray_30, r1_tray_33, r1_tray_34, r1_tray_35, r1_tray_38, e_const, e_lconst, e_dconst, e_iload, e_kiload, e_aload, e_kaload, e_lload, e_klload, e_iinc, e_kiinc, e_istore, e_astore, e_lstore, e_dupI, e_dupR, e_dup2, e_iadd, e_isub, e_imul, e_idiv, e_irem, e_ladd, e_lmul, e_i2l, e_i2d, e_ddiv, e_icmp, e_if, e_goto, e_switch, e_tsw0, e_tsw1, e_getI, e_getA, e_putI, e_iald, e_iast, e_tnew, e_tald, e_tast, e_iret, e_zret, e_lret, e_dret, e_vret, e_throw, lg0, ls0, lt0, lg1, ls1, lo1, lt1, lg2, ls2, lo2, lt2, lg3, ls3, lo3, lt3, lg4, ls4, lo4, lt4, lg5, ls5, lo5, lt5, lg6, ls6, lo6, lt6, lg7, ls7, lo7, lt7, lg8, ls8, lo8, lo0, okI, okR, okN, e_calli1, e_calll1, e_callv1, e_xcalli1, e_xcallv1, e_acalli1, e_calli2, e_calll2, e_callv2, e_xcalli2, e_xcallv2, e_acalli2, e_calli3, e_calll3, e_callv3, e_xcalli3, e_xcallv3, e_acalli3, e_calli4, e_calll4, e_callv4, e_xcalli4, e_xcallv4, e_acalli4, e_scalli3, sh4_0, sh4_1, sh4_2, sh4_3, sh4_4, eqr, eqv, true_and, and_true, true_or, or_true, ln1_2, ln1_3, ln1_4, ln1_5, ln1_6, ln1_7, ln1_8, ln1_10, ln1_11, ln1_12]
  refine ⟨_, run1_isIn hrt ⟨by omega, by omega⟩ ⟨by omega, by omega⟩, ?_⟩
  rintro r S1 ⟨rfl, rfl⟩
  have tail : ∃ Q, X1_no [vR 0, vI 1] (pF R 0 0) Q nox ∧ ∀ r S', Q r S' → r = 0 ∧ S' = thr R 1 := ⟨_, run1_no, fun r S' h => ⟨h.1, h.2.trans (thr_thr R 0 1)⟩⟩
  by_cases ht : 0 ≤ t ∧ t ≤ 19
  · rw [if1 ht]
    refine ⟨⟨by omega, by omega⟩, fun h => by omega, fun _ => ⟨_, run1_isIn hrw ⟨by omega, by omega⟩ ⟨by omega, by omega⟩, ?_⟩⟩
    rintro r S2 ⟨rfl, rfl⟩
    rw [if0 (fun z => hn ⟨⟨ht.1, by omega⟩, z⟩)]
    exact ⟨⟨by omega, by omega⟩, fun _ => tail, fun h => absurd rfl h⟩
  · rw [if0 ht]
    exact ⟨⟨by omega, by omega⟩, fun _ => tail, fun h => absurd rfl h⟩
def cellsR (R : ST) (p : Nat) : Int := if gA R 5 p = -1 then 0 else csR R (gA R 5 p).toNat
theorem run1_cell_ok {R : ST} {p : Nat} {j : Int} (hrj : rng j) (hp : p < 20) (hj : 0 ≤ j ∧ j < cellsR R p) (hB : B1 R) : X1_cell [vR 0, vI p, vI j] R (eqr (gA R 8 (64 * p + j.toNat)) (thr R 0)) nox := by
  have h0 := hB.kc
  have h1 := hB.pl hp
  have h6 : gA R 5 p ≠ -1 := fun z => by unfold cellsR at hj; rw [if_pos z] at hj; omega
  obtain ⟨k, hk⟩ : ∃ k : Nat, gA R 5 p = k := ⟨(gA R 5 p).toNat, by omega⟩
  have hcs := csR_b (R := R) (k := k) (by omega) hB
  unfold cellsR at hj
  rw [if_neg h6, hk, Int.toNat_natCast] at hj
  have hk' : gA (pF R 0 0) 5 p = k := hk
  refine ⟨Nat.le_of_ble_eq_true rfl, ?_⟩
  show RR _ 0 [some (vR 0), some (vI p), some (vI j)] [] R
  have e2 : (64 * (p : Int) + j).toNat = 64 * p + j.toNat := by omega
  rw [r1_cell_0]
  simp only [r1_cell_1, r1_cell_2, r1_cell_5, r1_cell_6, r1_cell_7, r1_cell_9, r1_cell_12, r1_cell_15, r1_cell_16, r1_cell_19, r1_cell_20, r1_cell_21, r1_cell_22, r1_cell_25, r1_cell_26, r1_cell_27, r1_cell_28, r1_cell_29, r1_cell_32, r1_cell_33, r1_cell_34, r1_cell_37, r1_cell_38, r1_cell_39, r1_cell_42, r1_cell_45, r1_cell_46, r1_cell_47, r1_cell_50, r1_cell_52, r1_cell_55, r1_cell_57, r1_cell_58, r1_cell_59, r1_cell_60, r1_cell_61, r1_cell_62, e_const, e_lconst, e_dconst, e_iload, e_kiload, e_aload, e_kaload, e_lload, e_klload, e_iinc, e_kiinc, e_istore, e_astore, e_lstore, e_dupI, e_dupR, e_dup2, e_iadd, e_isub, e_imul, e_idiv, e_irem, e_ladd, e_lmul, e_i2l, e_i2d, e_ddiv, e_icmp, e_if, e_goto, e_switch, e_tsw0, e_tsw1, e_getI, e_getA, e_putI, e_iald, e_iast, e_tnew, e_tald, e_tast, e_iret, e_zret, e_lret, e_dret, e_vret, e_throw, lg0, ls0, lt0, lg1, ls1, lo1, lt1, lg2, ls2, lo2, lt2, lg3, ls3, lo3, lt3, lg4, ls4, lo4, lt4, lg5, ls5, lo5, lt5, lg6, ls6, lo6, lt6, lg7, ls7, lo7, lt7, lg8, ls8, lo8, lo0, okI, okR, okN, e_calli1, e_calll1, e_callv1, e_xcalli1, e_xcallv1, e_acalli1, e_calli2, e_calll2, e_callv2, e_xcalli2, e_xcallv2, e_acalli2, e_calli3, e_calll3, e_callv3, e_xcalli3, e_xcallv3, e_acalli3, e_calli4, e_calll4, e_callv4, e_xcalli4, e_xcallv4, e_acalli4, e_scalli3, sh4_0, sh4_1, sh4_2, sh4_3, sh4_4, eqr, eqv, true_and, and_true, true_or, or_true, ln1_2, ln1_3, ln1_4, ln1_5, ln1_6, ln1_7, ln1_8, ln1_10, ln1_11, ln1_12, Int.toNat_natCast]
  refine ⟨_, run1_isIn ⟨by omega, by omega⟩ ⟨by omega, by omega⟩ ⟨by omega, by omega⟩, ?_⟩
  rintro r S1 ⟨rfl, rfl⟩
  rw [if1 (show 0 ≤ (p : Int) ∧ (p : Int) ≤ 19 from ⟨by omega, by omega⟩), hk']
  refine ⟨⟨by omega, by omega⟩, fun h => by omega, fun _ => ⟨⟨by omega, by omega⟩, ⟨⟨by omega, by omega⟩, by omega, by omega⟩, fun h => by omega, fun _ => ⟨⟨by omega, by omega⟩, _, run1_cells (show (k : Int) < fF (thr R 0) 1 by show (k : Int) < fF R 1; omega) (hB.thr 0), ?_⟩⟩⟩
  rintro r S2 ⟨rfl, rfl⟩
  have e3 : csR (thr R 0) k = csR R k := rfl
  rw [e3]
  refine ⟨_, run1_isIn hrj ⟨by omega, by omega⟩ ⟨by omega, by omega⟩, ?_⟩
  rintro r S3 ⟨rfl, rfl⟩
  rw [if1 (show 0 ≤ j ∧ j ≤ csR R k - 1 from ⟨by omega, by omega⟩)]
  refine ⟨⟨by omega, by omega⟩, fun _ => ?_, fun h => absurd h (by omega)⟩
  rw [r1_cell_51]
  simp only [r1_cell_1, r1_cell_2, r1_cell_5, r1_cell_6, r1_cell_7, r1_cell_9, r1_cell_12, r1_cell_15, r1_cell_16, r1_cell_19, r1_cell_20, r1_cell_21, r1_cell_22, r1_cell_25, r1_cell_26, r1_cell_27, r1_cell_28, r1_cell_29, r1_cell_32, r1_cell_33, r1_cell_34, r1_cell_37, r1_cell_38, r1_cell_39, r1_cell_42, r1_cell_45, r1_cell_46, r1_cell_47, r1_cell_50, r1_cell_52, r1_cell_55, r1_cell_57, r1_cell_58, r1_cell_59, r1_cell_60, r1_cell_61, r1_cell_62, e_const, e_lconst, e_dconst, e_iload, e_kiload, e_aload, e_kaload, e_lload, e_klload, e_iinc, e_kiinc, e_istore, e_astore, e_lstore, e_dupI, e_dupR, e_dup2, e_iadd, e_isub, e_imul, e_idiv, e_irem, e_ladd, e_lmul, e_i2l, e_i2d, e_ddiv, e_icmp, e_if, e_goto, e_switch, e_tsw0, e_tsw1, e_getI, e_getA, e_putI, e_iald, e_iast, e_tnew, e_tald, e_tast, e_iret, e_zret, e_lret, e_dret, e_vret, e_throw, lg0, ls0, lt0, lg1, ls1, lo1, lt1, lg2, ls2, lo2, lt2, lg3, ls3, lo3, lt3, lg4, ls4, lo4, lt4, lg5, ls5, lo5, lt5, lg6, ls6, lo6, lt6, lg7, ls7, lo7, lt7, lg8, ls8, lo8, lo0, okI, okR, okN, e_calli1, e_calll1, e_callv1, e_xcalli1, e_xcallv1, e_acalli1, e_calli2, e_calll2, e_callv2, e_xcalli2, e_xcallv2, e_acalli2, e_calli3, e_calll3, e_callv3, e_xcalli3, e_xcallv3, e_acalli3, e_calli4, e_calll4, e_callv4, e_xcalli4, e_xcallv4, e_acalli4, e_scalli3, sh4_0, sh4_1, sh4_2, sh4_3, sh4_4, eqr, eqv, true_and, and_true, true_or, or_true, ln1_2, ln1_3, ln1_4, ln1_5, ln1_6, ln1_7, ln1_8, ln1_10, ln1_11, ln1_12, Int.toNat_natCast, e2]
  exact ⟨⟨by omega, by omega⟩, rfl⟩
theorem run1_cell_no {R : ST} {p j : Int} (hrp : rng p) (hrj : rng j) (hn : ¬ ((0 ≤ p ∧ p < 20) ∧ 0 ≤ j ∧ j < cellsR R p.toNat)) (hB : B1 R) : X1_cell [vR 0, vI p, vI j] R (eqr 0 (thr R 1)) nox := by
  have h0 := hB.kc
  have tail : ∃ Q, X1_no [vR 0, vI 1] (pF R 0 0) Q nox ∧ ∀ r S', Q r S' → r = 0 ∧ S' = thr R 1 := ⟨_, run1_no, fun r S' h => ⟨h.1, h.2.trans (thr_thr R 0 1)⟩⟩
  refine ⟨Nat.le_of_ble_eq_true rfl, ?_⟩
  show RR _ 0 [some (vR 0), some (vI p), some (vI j)] [] R
  rw [r1_cell_0]
  simp only [r1_cell_1, r1_cell_2, r1_cell_5, r1_cell_6, r1_cell_7, r1_cell_9, r1_cell_12, r1_cell_15, r1_cell_16, r1_cell_19, r1_cell_20, r1_cell_21, r1_cell_22, r1_cell_25, r1_cell_26, r1_cell_27, r1_cell_28, r1_cell_29, r1_cell_32, r1_cell_33, r1_cell_34, r1_cell_37, r1_cell_38, r1_cell_39, r1_cell_42, r1_cell_45, r1_cell_46, r1_cell_47, r1_cell_50, r1_cell_52, r1_cell_55, r1_cell_57, r1_cell_58, r1_cell_59, r1_cell_60, r1_cell_61, r1_cell_62, e_const, e_lconst, e_dconst, e_iload, e_kiload, e_aload, e_kaload, e_lload, e_klload, e_iinc, e_kiinc, e_istore, e_astore, e_lstore, e_dupI, e_dupR, e_dup2, e_iadd, e_isub, e_imul, e_idiv, e_irem, e_ladd, e_lmul, e_i2l, e_i2d, e_ddiv, e_icmp, e_if, e_goto, e_switch, e_tsw0, e_tsw1, e_getI, e_getA, e_putI, e_iald, e_iast, e_tnew, e_tald, e_tast, e_iret, e_zret, e_lret, e_dret, e_vret, e_throw, lg0, ls0, lt0, lg1, ls1, lo1, lt1, lg2, ls2, lo2, lt2, lg3, ls3, lo3, lt3, lg4, ls4, lo4, lt4, lg5, ls5, lo5, lt5, lg6, ls6, lo6, lt6, lg7, ls7, lo7, lt7, lg8, ls8, lo8, lo0, okI, okR, okN, e_calli1, e_calll1, e_callv1, e_xcalli1, e_xcallv1, e_acalli1, e_calli2, e_calll2, e_callv2, e_xcalli2, e_xcallv2, e_acalli2, e_calli3, e_calll3, e_callv3, e_xcalli3, e_xcallv3, e_acalli3, e_calli4, e_calll4, e_callv4, e_xcalli4, e_xcallv4, e_acalli4, e_scalli3, sh4_0, sh4_1, sh4_2, sh4_3, sh4_4, eqr, eqv, true_and, and_true, true_or, or_true, ln1_2, ln1_3, ln1_4, ln1_5, ln1_6, ln1_7, ln1_8, ln1_10, ln1_11, ln1_12]
  refine ⟨_, run1_isIn hrp ⟨by omega, by omega⟩ ⟨by omega, by omega⟩, ?_⟩
  rintro r S1 ⟨rfl, rfl⟩
  by_cases hp : 0 ≤ p ∧ p ≤ 19
  · rw [if1 hp]
    obtain ⟨p, rfl⟩ : ∃ q : Nat, p = q := ⟨p.toNat, by omega⟩
    rw [Int.toNat_natCast] at hn ⊢
    have hp20 : p < 20 := by omega
    have h1 := hB.pl hp20
    by_cases h6 : gA R 5 p = -1
    · have h6' : gA (pF R 0 0) 5 p = -1 := h6
      rw [h6']
      exact ⟨⟨by omega, by omega⟩, fun h => by omega, fun _ => ⟨⟨by omega, by omega⟩, ⟨⟨by omega, by omega⟩, by omega, by omega⟩, fun _ => tail, fun h => absurd rfl h⟩⟩
    · obtain ⟨k, hk⟩ : ∃ k : Nat, gA R 5 p = k := ⟨(gA R 5 p).toNat, by omega⟩
      have hk' : gA (pF R 0 0) 5 p = k := hk
      have hcs := csR_b (R := R) (k := k) (by omega) hB
      unfold cellsR at hn
      rw [if_neg h6, hk, Int.toNat_natCast] at hn
      rw [hk']
      refine ⟨⟨by omega, by omega⟩, fun h => by omega, fun _ => ⟨⟨by omega, by omega⟩, ⟨⟨by omega, by omega⟩, by omega, by omega⟩, fun h => by omega, fun _ => ⟨⟨by omega, by omega⟩, _, run1_cells (show (k : Int) < fF (thr R 0) 1 by show (k : Int) < fF R 1; omega) (hB.thr 0), ?_⟩⟩⟩
      rintro r S2 ⟨rfl, rfl⟩
      have e3 : csR (thr R 0) k = csR R k := rfl
      rw [e3]
      refine ⟨_, run1_isIn hrj ⟨by omega, by omega⟩ ⟨by omega, by omega⟩, ?_⟩
      rintro r S3 ⟨rfl, rfl⟩
      rw [if0 (show ¬ (0 ≤ j ∧ j ≤ csR R k - 1) from fun z => hn ⟨⟨by omega, by omega⟩, z.1, by omega⟩)]
      exact ⟨⟨by omega, by omega⟩, fun h => absurd rfl h, fun _ => tail⟩
  · rw [if0 hp]
    exact ⟨⟨by omega, by omega⟩, fun _ => tail, fun h => absurd rfl h⟩
theorem run1_would_ok {R : ST} {k : Nat} (hk : (k : Int) < fF R 1) (hB : B1 R) : X1_would [vR 0, vI k] R (eqr (plF (gA R 5) (gA R 7) k (csR R k)) (thr R 0)) nox := by
  have h0 := hB.kc
  refine ⟨Nat.le_of_ble_eq_true rfl, ?_⟩
  show RR _ 0 [some (vR 0), some (vI k)] [] R
  simp only [r1_would_0, r1_would_1, r1_would_2, r1_would_5, r1_would_6, r1_would_7, r1_would_10, r1_would_13, r1_would_14, r1_would_15, r1_would_18, r1_would_21, r1_would_22, r1_would_23, r1_would_26, e_const, e_lconst, e_dconst, e_iload, e_kiload, e_aload, e_kaload, e_lload, e_klload, e_iinc, e_kiinc, e_istore, e_astore, e_lstore, e_dupI, e_dupR, e_dup2, e_iadd, e_isub, e_imul, e_idiv, e_irem, e_ladd, e_lmul, e_i2l, e_i2d, e_ddiv, e_icmp, e_if, e_goto, e_switch, e_tsw0, e_tsw1, e_getI, e_getA, e_putI, e_iald, e_iast, e_tnew, e_tald, e_tast, e_iret, e_zret, e_lret, e_dret, e_vret, e_throw, lg0, ls0, lt0, lg1, ls1, lo1, lt1, lg2, ls2, lo2, lt2, lg3, ls3, lo3, lt3, lg4, ls4, lo4, lt4, lg5, ls5, lo5, lt5, lg6, ls6, lo6, lt6, lg7, ls7, lo7, lt7, lg8, ls8, lo8, lo0, okI, okR, okN, e_calli1, e_calll1, e_callv1, e_xcalli1, e_xcallv1, e_acalli1, e_calli2, e_calll2, e_callv2, e_xcalli2, e_xcallv2, e_acalli2, e_calli3, e_calll3, e_callv3, e_xcalli3, e_xcallv3, e_acalli3, e_calli4, e_calll4, e_callv4, e_xcalli4, e_xcallv4, e_acalli4, e_scalli3, sh4_0, sh4_1, sh4_2, sh4_3, sh4_4, eqr, eqv, true_and, and_true, true_or, or_true, ln1_2, ln1_3, ln1_4, ln1_5, ln1_6, ln1_7, ln1_8, ln1_10, ln1_11, ln1_12]
  refine ⟨_, run1_isKind ⟨by omega, by omega⟩ (hB.thr 0), ?_⟩
  rintro r S1 ⟨rfl, rfl⟩
  rw [if1 (show 0 ≤ (k : Int) ∧ (k : Int) < fF (thr R 0) 1 from ⟨by omega, hk⟩)]
  refine ⟨⟨by omega, by omega⟩, fun h => by omega, fun _ => ⟨_, run1_goesTo hk (hB.thr 0), ?_⟩⟩
  rintro r S3 ⟨rfl, rfl⟩
  exact ⟨rfl, rfl⟩
theorem run1_would_no {R : ST} {t : Int} (hrt : rng t) (hn : ¬ (0 ≤ t ∧ t < fF R 1)) (hB : B1 R) : X1_would [vR 0, vI t] R (eqr 0 (thr R 1)) nox := by
  have tail : ∃ Q, X1_no [vR 0, vI 1] (pF R 0 0) Q nox ∧ ∀ r S', Q r S' → r = 0 ∧ S' = thr R 1 := ⟨_, run1_no, fun r S' h => ⟨h.1, h.2.trans (thr_thr R 0 1)⟩⟩
  refine ⟨Nat.le_of_ble_eq_true rfl, ?_⟩
  show RR _ 0 [some (vR 0), some (vI t)] [] R
  simp only [r1_would_0, r1_would_1, r1_would_2, r1_would_5, r1_would_6, r1_would_7, r1_would_10, r1_would_13, r1_would_14, r1_would_15, r1_would_18, r1_would_21, r1_would_22, r1_would_23, r1_would_26, e_const, e_lconst, e_dconst, e_iload, e_kiload, e_aload, e_kaload, e_lload, e_klload, e_iinc, e_kiinc, e_istore, e_astore, e_lstore, e_dupI, e_dupR, e_dup2, e_iadd, e_isub, e_imul, e_idiv, e_irem, e_ladd, e_lmul, e_i2l, e_i2d, e_ddiv, e_icmp, e_if, e_goto, e_switch, e_tsw0, e_tsw1, e_getI, e_getA, e_putI, e_iald, e_iast, e_tnew, e_tald, e_tast, e_iret, e_zret, e_lret, e_dret, e_vret, e_throw, lg0, ls0, lt0, lg1, ls1, lo1, lt1, lg2, ls2, lo2, lt2, lg3, ls3, lo3, lt3, lg4, ls4, lo4, lt4, lg5, ls5, lo5, lt5, lg6, ls6, lo6, lt6, lg7, ls7, lo7, lt7, lg8, ls8, lo8, lo0, okI, okR, okN, e_calli1, e_calll1, e_callv1, e_xcalli1, e_xcallv1, e_acalli1, e_calli2, e_calll2, e_callv2, e_xcalli2, e_xcallv2, e_acalli2, e_calli3, e_calll3, e_callv3, e_xcalli3, e_xcallv3, e_acalli3, e_calli4, e_calll4, e_callv4, e_xcalli4, e_xcallv4, e_acalli4, e_scalli3, sh4_0, sh4_1, sh4_2, sh4_3, sh4_4, eqr, eqv, true_and, and_true, true_or, or_true, ln1_2, ln1_3, ln1_4, ln1_5, ln1_6, ln1_7, ln1_8, ln1_10, ln1_11, ln1_12]
  refine ⟨_, run1_isKind hrt (hB.thr 0), ?_⟩
  rintro r S1 ⟨rfl, rfl⟩
  rw [if0 (show ¬ (0 ≤ t ∧ t < fF (thr R 0) 1) from hn)]
  exact ⟨⟨by omega, by omega⟩, fun _ => tail, fun h => absurd rfl h⟩
theorem run1_room_ok {R : ST} {k : Nat} (hk : (k : Int) < fF R 1) (hB : B1 R) : X1_room [vR 0, vI k] R (eqr ((cK (gA R 5) k 20 + cK (gA R 5) (-1) 20) * csR R k - sK (gA R 5) (gA R 7) k 20) (thr R 0)) nox := by
  have h0 := hB.kc
  refine ⟨Nat.le_of_ble_eq_true rfl, ?_⟩
  show RR _ 0 [some (vR 0), some (vI k)] [] R
  simp only [r1_room_0, r1_room_1, r1_room_2, r1_room_5, r1_room_6, r1_room_7, r1_room_10, r1_room_13, r1_room_14, r1_room_15, r1_room_18, r1_room_19, r1_room_20, r1_room_23, r1_room_24, r1_room_25, r1_room_26, r1_room_29, r1_room_30, r1_room_31, r1_room_32, r1_room_35, r1_room_36, r1_room_39, r1_room_40, r1_room_41, r1_room_44, e_const, e_lconst, e_dconst, e_iload, e_kiload, e_aload, e_kaload, e_lload, e_klload, e_iinc, e_kiinc, e_istore, e_astore, e_lstore, e_dupI, e_dupR, e_dup2, e_iadd, e_isub, e_imul, e_idiv, e_irem, e_ladd, e_lmul, e_i2l, e_i2d, e_ddiv, e_icmp, e_if, e_goto, e_switch, e_tsw0, e_tsw1, e_getI, e_getA, e_putI, e_iald, e_iast, e_tnew, e_tald, e_tast, e_iret, e_zret, e_lret, e_dret, e_vret, e_throw, lg0, ls0, lt0, lg1, ls1, lo1, lt1, lg2, ls2, lo2, lt2, lg3, ls3, lo3, lt3, lg4, ls4, lo4, lt4, lg5, ls5, lo5, lt5, lg6, ls6, lo6, lt6, lg7, ls7, lo7, lt7, lg8, ls8, lo8, lo0, okI, okR, okN, e_calli1, e_calll1, e_callv1, e_xcalli1, e_xcallv1, e_acalli1, e_calli2, e_calll2, e_callv2, e_xcalli2, e_xcallv2, e_acalli2, e_calli3, e_calll3, e_callv3, e_xcalli3, e_xcallv3, e_acalli3, e_calli4, e_calll4, e_callv4, e_xcalli4, e_xcallv4, e_acalli4, e_scalli3, sh4_0, sh4_1, sh4_2, sh4_3, sh4_4, eqr, eqv, true_and, and_true, true_or, or_true, ln1_2, ln1_3, ln1_4, ln1_5, ln1_6, ln1_7, ln1_8, ln1_10, ln1_11, ln1_12]
  refine ⟨_, run1_isKind ⟨by omega, by omega⟩ (hB.thr 0), ?_⟩
  rintro r S1 ⟨rfl, rfl⟩
  rw [if1 (show 0 ≤ (k : Int) ∧ (k : Int) < fF (thr R 0) 1 from ⟨by omega, hk⟩)]
  refine ⟨⟨by omega, by omega⟩, fun h => by omega, fun _ => ⟨_, run1_trays ⟨by omega, by omega⟩ (hB.thr 0), ?_⟩⟩
  rintro r S3 ⟨rfl, rfl⟩
  refine ⟨_, run1_trays ⟨by omega, by omega⟩ (hB.thr 0), ?_⟩
  rintro r S3 ⟨rfl, rfl⟩
  refine ⟨_, run1_cells hk (hB.thr 0), ?_⟩
  rintro r S3 ⟨rfl, rfl⟩
  refine ⟨_, run1_lying ⟨by omega, by omega⟩ (hB.thr 0), ?_⟩
  rintro r S3 ⟨rfl, rfl⟩
  exact ⟨rfl, rfl⟩
theorem run1_room_no {R : ST} {t : Int} (hrt : rng t) (hn : ¬ (0 ≤ t ∧ t < fF R 1)) (hB : B1 R) : X1_room [vR 0, vI t] R (eqr 0 (thr R 1)) nox := by
  have tail : ∃ Q, X1_no [vR 0, vI 1] (pF R 0 0) Q nox ∧ ∀ r S', Q r S' → r = 0 ∧ S' = thr R 1 := ⟨_, run1_no, fun r S' h => ⟨h.1, h.2.trans (thr_thr R 0 1)⟩⟩
  refine ⟨Nat.le_of_ble_eq_true rfl, ?_⟩
  show RR _ 0 [some (vR 0), some (vI t)] [] R
  simp only [r1_room_0, r1_room_1, r1_room_2, r1_room_5, r1_room_6, r1_room_7, r1_room_10, r1_room_13, r1_room_14, r1_room_15, r1_room_18, r1_room_19, r1_room_20, r1_room_23, r1_room_24, r1_room_25, r1_room_26, r1_room_29, r1_room_30, r1_room_31, r1_room_32, r1_room_35, r1_room_36, r1_room_39, r1_room_40, r1_room_41, r1_room_44, e_const, e_lconst, e_dconst, e_iload, e_kiload, e_aload, e_kaload, e_lload, e_klload, e_iinc, e_kiinc, e_istore, e_astore, e_lstore, e_dupI, e_dupR, e_dup2, e_iadd, e_isub, e_imul, e_idiv, e_irem, e_ladd, e_lmul, e_i2l, e_i2d, e_ddiv, e_icmp, e_if, e_goto, e_switch, e_tsw0, e_tsw1, e_getI, e_getA, e_putI, e_iald, e_iast, e_tnew, e_tald, e_tast, e_iret, e_zret, e_lret, e_dret, e_vret, e_throw, lg0, ls0, lt0, lg1, ls1, lo1, lt1, lg2, ls2, lo2, lt2, lg3, ls3, lo3, lt3, lg4, ls4, lo4, lt4, lg5, ls5, lo5, lt5, lg6, ls6, lo6, lt6, lg7, ls7, lo7, lt7, lg8, ls8, lo8, lo0, okI, okR, okN, e_calli1, e_calll1, e_callv1, e_xcalli1, e_xcallv1, e_acalli1, e_calli2, e_calll2, e_callv2, e_xcalli2, e_xcallv2, e_acalli2, e_calli3, e_calll3, e_callv3, e_xcalli3, e_xcallv3, e_acalli3, e_calli4, e_calll4, e_callv4, e_xcalli4, e_xcallv4, e_acalli4, e_scalli3, sh4_0, sh4_1, sh4_2, sh4_3, sh4_4, eqr, eqv, true_and, and_true, true_or, or_true, ln1_2, ln1_3, ln1_4, ln1_5, ln1_6, ln1_7, ln1_8, ln1_10, ln1_11, ln1_12]
  refine ⟨_, run1_isKind hrt (hB.thr 0), ?_⟩
  rintro r S1 ⟨rfl, rfl⟩
  rw [if0 (show ¬ (0 ≤ t ∧ t < fF (thr R 0) 1) from hn)]
  exact ⟨⟨by omega, by omega⟩, fun _ => tail, fun h => absurd rfl h⟩
theorem run1_spares_ok {R : ST} {k : Nat} (hk : (k : Int) < fF R 1) (hB : B1 R) : X1_spares [vR 0, vI k] R (eqr (cK (gA R 5) k 20 - (sK (gA R 5) (gA R 7) k 20 + csR R k - 1) / csR R k) (thr R 0)) nox := by
  have h0 := hB.kc
  have hs := sK_b (f := gA R 5) (g := gA R 7) (k := (k : Int)) 20 (fun p hp => (hB.pl hp).2)
  have hc := csR_b hk hB
  refine ⟨Nat.le_of_ble_eq_true rfl, ?_⟩
  show RR _ 0 [some (vR 0), some (vI k)] [] R
  simp only [r1_spares_0, r1_spares_1, r1_spares_2, r1_spares_5, r1_spares_6, r1_spares_7, r1_spares_10, r1_spares_13, r1_spares_14, r1_spares_15, r1_spares_18, r1_spares_19, r1_spares_20, r1_spares_21, r1_spares_24, r1_spares_25, r1_spares_26, r1_spares_29, r1_spares_30, r1_spares_31, r1_spares_34, r1_spares_35, r1_spares_36, r1_spares_37, r1_spares_38, r1_spares_39, r1_spares_42, r1_spares_43, r1_spares_44, e_const, e_lconst, e_dconst, e_iload, e_kiload, e_aload, e_kaload, e_lload, e_klload, e_iinc, e_kiinc, e_istore, e_astore, e_lstore, e_dupI, e_dupR, e_dup2, e_iadd, e_isub, e_imul, e_idiv, e_irem, e_ladd, e_lmul, e_i2l, e_i2d, e_ddiv, e_icmp, e_if, e_goto, e_switch, e_tsw0, e_tsw1, e_getI, e_getA, e_putI, e_iald, e_iast, e_tnew, e_tald, e_tast, e_iret, e_zret, e_lret, e_dret, e_vret, e_throw, lg0, ls0, lt0, lg1, ls1, lo1, lt1, lg2, ls2, lo2, lt2, lg3, ls3, lo3, lt3, lg4, ls4, lo4, lt4, lg5, ls5, lo5, lt5, lg6, ls6, lo6, lt6, lg7, ls7, lo7, lt7, lg8, ls8, lo8, lo0, okI, okR, okN, e_calli1, e_calll1, e_callv1, e_xcalli1, e_xcallv1, e_acalli1, e_calli2, e_calll2, e_callv2, e_xcalli2, e_xcallv2, e_acalli2, e_calli3, e_calll3, e_callv3, e_xcalli3, e_xcallv3, e_acalli3, e_calli4, e_calll4, e_callv4, e_xcalli4, e_xcallv4, e_acalli4, e_scalli3, sh4_0, sh4_1, sh4_2, sh4_3, sh4_4, eqr, eqv, true_and, and_true, true_or, or_true, ln1_2, ln1_3, ln1_4, ln1_5, ln1_6, ln1_7, ln1_8, ln1_10, ln1_11, ln1_12]
  refine ⟨_, run1_isKind ⟨by omega, by omega⟩ (hB.thr 0), ?_⟩
  rintro r S1 ⟨rfl, rfl⟩
  rw [if1 (show 0 ≤ (k : Int) ∧ (k : Int) < fF (thr R 0) 1 from ⟨by omega, hk⟩)]
  refine ⟨⟨by omega, by omega⟩, fun _ => ⟨_, run1_trays ⟨by omega, by omega⟩ (hB.thr 0), ?_⟩, fun h => absurd h (by omega)⟩
  rintro r S3 ⟨rfl, rfl⟩
  refine ⟨_, run1_lying ⟨by omega, by omega⟩ (hB.thr 0), ?_⟩
  rintro r S3 ⟨rfl, rfl⟩
  refine ⟨_, run1_cells hk (hB.thr 0), ?_⟩
  rintro r S3 ⟨rfl, rfl⟩
  refine ⟨_, run1_cells hk (hB.thr 0), ?_⟩
  rintro r S3 ⟨rfl, rfl⟩
  have e3 : csR (thr R 0) k = csR R k := rfl
  have e4 : sK (gA (thr R 0) 5) (gA (thr R 0) 7) k 20 = sK (gA R 5) (gA R 7) k 20 := rfl
  rw [e3, e4]
  exact ⟨⟨⟨by omega, by omega⟩, by omega, by omega⟩, rfl, rfl⟩
theorem run1_spares_no {R : ST} {t : Int} (hrt : rng t) (hn : ¬ (0 ≤ t ∧ t < fF R 1)) (hB : B1 R) : X1_spares [vR 0, vI t] R (eqr 0 (thr R 1)) nox := by
  have tail : ∃ Q, X1_no [vR 0, vI 1] (pF R 0 0) Q nox ∧ ∀ r S', Q r S' → r = 0 ∧ S' = thr R 1 := ⟨_, run1_no, fun r S' h => ⟨h.1, h.2.trans (thr_thr R 0 1)⟩⟩
  refine ⟨Nat.le_of_ble_eq_true rfl, ?_⟩
  show RR _ 0 [some (vR 0), some (vI t)] [] R
  simp only [r1_spares_0, r1_spares_1, r1_spares_2, r1_spares_5, r1_spares_6, r1_spares_7, r1_spares_10, r1_spares_13, r1_spares_14, r1_spares_15, r1_spares_18, r1_spares_19, r1_spares_20, r1_spares_21, r1_spares_24, r1_spares_25, r1_spares_26, r1_spares_29, r1_spares_30, r1_spares_31, r1_spares_34, r1_spares_35, r1_spares_36, r1_spares_37, r1_spares_38, r1_spares_39, r1_spares_42, r1_spares_43, r1_spares_44, e_const, e_lconst, e_dconst, e_iload, e_kiload, e_aload, e_kaload, e_lload, e_klload, e_iinc, e_kiinc, e_istore, e_astore, e_lstore, e_dupI, e_dupR, e_dup2, e_iadd, e_isub, e_imul, e_idiv, e_irem, e_ladd, e_lmul, e_i2l, e_i2d, e_ddiv, e_icmp, e_if, e_goto, e_switch, e_tsw0, e_tsw1, e_getI, e_getA, e_putI, e_iald, e_iast, e_tnew, e_tald, e_tast, e_iret, e_zret, e_lret, e_dret, e_vret, e_throw, lg0, ls0, lt0, lg1, ls1, lo1, lt1, lg2, ls2, lo2, lt2, lg3, ls3, lo3, lt3, lg4, ls4, lo4, lt4, lg5, ls5, lo5, lt5, lg6, ls6, lo6, lt6, lg7, ls7, lo7, lt7, lg8, ls8, lo8, lo0, okI, okR, okN, e_calli1, e_calll1, e_callv1, e_xcalli1, e_xcallv1, e_acalli1, e_calli2, e_calll2, e_callv2, e_xcalli2, e_xcallv2, e_acalli2, e_calli3, e_calll3, e_callv3, e_xcalli3, e_xcallv3, e_acalli3, e_calli4, e_calll4, e_callv4, e_xcalli4, e_xcallv4, e_acalli4, e_scalli3, sh4_0, sh4_1, sh4_2, sh4_3, sh4_4, eqr, eqv, true_and, and_true, true_or, or_true, ln1_2, ln1_3, ln1_4, ln1_5, ln1_6, ln1_7, ln1_8, ln1_10, ln1_11, ln1_12]
  refine ⟨_, run1_isKind hrt (hB.thr 0), ?_⟩
  rintro r S1 ⟨rfl, rfl⟩
  rw [if0 (show ¬ (0 ≤ t ∧ t < fF (thr R 0) 1) from hn)]
  exact ⟨⟨by omega, by omega⟩, fun h => absurd rfl h, fun _ => tail⟩
def wbR (R : ST) (k : Nat) : Int := 64 * cK (gA R 5) k 20 - gA R 2 k * sK (gA R 5) (gA R 7) k 20
theorem wbR_b {R : ST} {k : Nat} (hk : k < 6) (hB : B1 R) : -100000 ≤ wbR R k ∧ wbR R k ≤ 100000 := by
  have hc := hB.kd hk
  have hs := sK_b (f := gA R 5) (g := gA R 7) (k := (k : Int)) 20 (fun p hp => (hB.pl hp).2)
  have hx := cK_b (gA R 5) (k : Int) 20
  have h1 : 0 ≤ gA R 2 k * sK (gA R 5) (gA R 7) k 20 := Int.mul_nonneg hc.1.1 hs.1
  have h2 : gA R 2 k * sK (gA R 5) (gA R 7) k 20 ≤ 32 * 1280 := by
    have := Int.mul_le_mul hc.1.2 (show sK (gA R 5) (gA R 7) k 20 ≤ 1280 by omega) hs.1 (by decide : (0:Int) ≤ 32)
    omega
  unfold wbR
  omega
theorem run1_worst {R : ST} (hB : B1 R) : X1_worst [vR 0] R (eqr (woF (wbR R) (fF R 1).toNat).1 (thr R 0)) nox := by
  have h0 := hB.kc
  refine ⟨Nat.le_of_ble_eq_true rfl, ?_⟩
  show RR _ 0 [some (vR 0), none, none, none, none] [] R
  have loop : ∀ i, i ≤ (fF R 1).toNat → ∀ z : Option AV, RR (T1_worst (eqr (woF (wbR R) (fF R 1).toNat).1 (thr R 0)) nox) 11 [some (vR 0), some (vI (woF (wbR R) i).1), some (vI (woF (wbR R) i).2), some (vI i), z] [] (thr R 0) := by
    refine up ?_ ?_
    · intro z
      rw [r1_worst_11]
      simp only [r1_worst_0, r1_worst_1, r1_worst_2, r1_worst_5, r1_worst_6, r1_worst_7, r1_worst_8, r1_worst_9, r1_worst_10, r1_worst_12, r1_worst_13, r1_worst_16, r1_worst_19, r1_worst_21, r1_worst_22, r1_worst_23, r1_worst_26, r1_worst_27, r1_worst_28, r1_worst_31, r1_worst_32, r1_worst_33, r1_worst_34, r1_worst_35, r1_worst_38, r1_worst_39, r1_worst_40, r1_worst_42, r1_worst_44, r1_worst_45, r1_worst_48, r1_worst_51, r1_worst_53, r1_worst_54, r1_worst_55, r1_worst_56, r1_worst_59, r1_worst_62, r1_worst_63, e_const, e_lconst, e_dconst, e_iload, e_kiload, e_aload, e_kaload, e_lload, e_klload, e_iinc, e_kiinc, e_istore, e_astore, e_lstore, e_dupI, e_dupR, e_dup2, e_iadd, e_isub, e_imul, e_idiv, e_irem, e_ladd, e_lmul, e_i2l, e_i2d, e_ddiv, e_icmp, e_if, e_goto, e_switch, e_tsw0, e_tsw1, e_getI, e_getA, e_putI, e_iald, e_iast, e_tnew, e_tald, e_tast, e_iret, e_zret, e_lret, e_dret, e_vret, e_throw, lg0, ls0, lt0, lg1, ls1, lo1, lt1, lg2, ls2, lo2, lt2, lg3, ls3, lo3, lt3, lg4, ls4, lo4, lt4, lg5, ls5, lo5, lt5, lg6, ls6, lo6, lt6, lg7, ls7, lo7, lt7, lg8, ls8, lo8, lo0, okI, okR, okN, e_calli1, e_calll1, e_callv1, e_xcalli1, e_xcallv1, e_acalli1, e_calli2, e_calll2, e_callv2, e_xcalli2, e_xcallv2, e_acalli2, e_calli3, e_calll3, e_callv3, e_xcalli3, e_xcallv3, e_acalli3, e_calli4, e_calll4, e_callv4, e_xcalli4, e_xcallv4, e_acalli4, e_scalli3, sh4_0, sh4_1, sh4_2, sh4_3, sh4_4, eqr, eqv, true_and, and_true, true_or, or_true, ln1_2, ln1_3, ln1_4, ln1_5, ln1_6, ln1_7, ln1_8, ln1_10, ln1_11, ln1_12]
      have e0 : fF (thr R 0) 1 = fF R 1 := rfl
      rw [e0]
      refine ⟨⟨⟨by omega, by omega⟩, by omega, by omega⟩, fun h => trivial, fun h => absurd h (by omega)⟩
    · intro i hi ih z
      rw [r1_worst_11]
      simp only [r1_worst_0, r1_worst_1, r1_worst_2, r1_worst_5, r1_worst_6, r1_worst_7, r1_worst_8, r1_worst_9, r1_worst_10, r1_worst_12, r1_worst_13, r1_worst_16, r1_worst_19, r1_worst_21, r1_worst_22, r1_worst_23, r1_worst_26, r1_worst_27, r1_worst_28, r1_worst_31, r1_worst_32, r1_worst_33, r1_worst_34, r1_worst_35, r1_worst_38, r1_worst_39, r1_worst_40, r1_worst_42, r1_worst_44, r1_worst_45, r1_worst_48, r1_worst_51, r1_worst_53, r1_worst_54, r1_worst_55, r1_worst_56, r1_worst_59, r1_worst_62, r1_worst_63, e_const, e_lconst, e_dconst, e_iload, e_kiload, e_aload, e_kaload, e_lload, e_klload, e_iinc, e_kiinc, e_istore, e_astore, e_lstore, e_dupI, e_dupR, e_dup2, e_iadd, e_isub, e_imul, e_idiv, e_irem, e_ladd, e_lmul, e_i2l, e_i2d, e_ddiv, e_icmp, e_if, e_goto, e_switch, e_tsw0, e_tsw1, e_getI, e_getA, e_putI, e_iald, e_iast, e_tnew, e_tald, e_tast, e_iret, e_zret, e_lret, e_dret, e_vret, e_throw, lg0, ls0, lt0, lg1, ls1, lo1, lt1, lg2, ls2, lo2, lt2, lg3, ls3, lo3, lt3, lg4, ls4, lo4, lt4, lg5, ls5, lo5, lt5, lg6, ls6, lo6, lt6, lg7, ls7, lo7, lt7, lg8, ls8, lo8, lo0, okI, okR, okN, e_calli1, e_calll1, e_callv1, e_xcalli1, e_xcallv1, e_acalli1, e_calli2, e_calll2, e_callv2, e_xcalli2, e_xcallv2, e_acalli2, e_calli3, e_calll3, e_callv3, e_xcalli3, e_xcallv3, e_acalli3, e_calli4, e_calll4, e_callv4, e_xcalli4, e_xcallv4, e_acalli4, e_scalli3, sh4_0, sh4_1, sh4_2, sh4_3, sh4_4, eqr, eqv, true_and, and_true, true_or, or_true, ln1_2, ln1_3, ln1_4, ln1_5, ln1_6, ln1_7, ln1_8, ln1_10, ln1_11, ln1_12, Int.toNat_natCast]
      have e0 : fF (thr R 0) 1 = fF R 1 := rfl
      rw [e0]
      refine ⟨⟨⟨by omega, by omega⟩, by omega, by omega⟩, fun h => by omega, fun h => ⟨_, run1_trays ⟨by omega, by omega⟩ (hB.thr 0), ?_⟩⟩
      rintro r S1 ⟨rfl, rfl⟩
      refine ⟨⟨by omega, by omega⟩, _, run1_lying ⟨by omega, by omega⟩ (hB.thr 0), ?_⟩
      rintro r S1 ⟨rfl, rfl⟩
      have e : 64 * cK (gA (thr R 0) 5) i 20 - gA (thr R 0) 2 i * sK (gA (thr R 0) 5) (gA (thr R 0) 7) i 20 = wbR R i := rfl
      rw [e]
      have h1 := wbR_b (R := R) (k := i) (by omega) hB
      have h2 := woF_b (w := wbR R) (N := 100000) i (fun k hk => wbR_b (by omega) hB) (by omega)
      refine ⟨⟨⟨by omega, by omega⟩, by omega, by omega⟩, fun h3 => ?_, fun h3 => ?_⟩
      · have := ih (some (vI (wbR R i)))
        rw [woF_y (n := i) (by omega)] at this
        exact this
      · have := ih (some (vI (wbR R i)))
        rw [woF_n (n := i) (by omega)] at this
        exact this
  simp only [r1_worst_0, r1_worst_1, r1_worst_2, r1_worst_5, r1_worst_6, r1_worst_7, r1_worst_8, r1_worst_9, r1_worst_10, r1_worst_12, r1_worst_13, r1_worst_16, r1_worst_19, r1_worst_21, r1_worst_22, r1_worst_23, r1_worst_26, r1_worst_27, r1_worst_28, r1_worst_31, r1_worst_32, r1_worst_33, r1_worst_34, r1_worst_35, r1_worst_38, r1_worst_39, r1_worst_40, r1_worst_42, r1_worst_44, r1_worst_45, r1_worst_48, r1_worst_51, r1_worst_53, r1_worst_54, r1_worst_55, r1_worst_56, r1_worst_59, r1_worst_62, r1_worst_63, e_const, e_lconst, e_dconst, e_iload, e_kiload, e_aload, e_kaload, e_lload, e_klload, e_iinc, e_kiinc, e_istore, e_astore, e_lstore, e_dupI, e_dupR, e_dup2, e_iadd, e_isub, e_imul, e_idiv, e_irem, e_ladd, e_lmul, e_i2l, e_i2d, e_ddiv, e_icmp, e_if, e_goto, e_switch, e_tsw0, e_tsw1, e_getI, e_getA, e_putI, e_iald, e_iast, e_tnew, e_tald, e_tast, e_iret, e_zret, e_lret, e_dret, e_vret, e_throw, lg0, ls0, lt0, lg1, ls1, lo1, lt1, lg2, ls2, lo2, lt2, lg3, ls3, lo3, lt3, lg4, ls4, lo4, lt4, lg5, ls5, lo5, lt5, lg6, ls6, lo6, lt6, lg7, ls7, lo7, lt7, lg8, ls8, lo8, lo0, okI, okR, okN, e_calli1, e_calll1, e_callv1, e_xcalli1, e_xcallv1, e_acalli1, e_calli2, e_calll2, e_callv2, e_xcalli2, e_xcallv2, e_acalli2, e_calli3, e_calll3, e_callv3, e_xcalli3, e_xcallv3, e_acalli3, e_calli4, e_calll4, e_callv4, e_xcalli4, e_xcallv4, e_acalli4, e_scalli3, sh4_0, sh4_1, sh4_2, sh4_3, sh4_4, eqr, eqv, true_and, and_true, true_or, or_true, ln1_2, ln1_3, ln1_4, ln1_5, ln1_6, ln1_7, ln1_8, ln1_10, ln1_11, ln1_12]
  exact loop 0 (by omega) none
