/-! THE REFERENCE, what it writes: each step -/
def clR (R : ST) (p : Nat) : Nat → ST
  | 0 => R
  | n + 1 => pA (clR R p n) 8 (64 * p + n) (-1)
theorem clR_F (R : ST) (p : Nat) (a : Nat) : ∀ n, fF (clR R p n) a = fF R a
  | 0 => rfl
  | n + 1 => by
    show fF (pA (clR R p n) 8 (64 * p + n) (-1)) a = _
    rw [fF_pA, clR_F R p a n]
theorem clR_o {R : ST} {p : Nat} {a i : Nat} (h : a ≠ 8) : ∀ n, gA (clR R p n) a i = gA R a i
  | 0 => rfl
  | n + 1 => by
    show gA (pA (clR R p n) 8 (64 * p + n) (-1)) a i = _
    rw [gA_o h, clR_o h n]
theorem clR_8 {R : ST} {p : Nat} {i : Nat} : ∀ n, gA (clR R p n) 8 i = if 64 * p ≤ i ∧ i < 64 * p + n then -1 else gA R 8 i
  | 0 => by rw [if_neg (by omega)]; rfl
  | n + 1 => by
    show gA (pA (clR R p n) 8 (64 * p + n) (-1)) 8 i = _
    by_cases e : i = 64 * p + n
    · subst e; rw [gA_s, if_pos (by omega)]
    · rw [gA_i e, clR_8 n]
      by_cases h : 64 * p ≤ i ∧ i < 64 * p + n
      · rw [if_pos h, if_pos (by omega)]
      · rw [if_neg h, if_neg (by omega)]
def op1 (R : ST) (p k : Nat) : ST := pA (pA (pA R 5 p k) 6 p (gA R 4 k)) 7 p 0
def op2 (R : ST) (p k : Nat) : ST := pA (clR (op1 R p k) p 64) 4 k (gA R 4 k + gA R 3 k)
def opR (R : ST) (p k : Nat) : ST := if gA R 4 k + gA R 3 k > 64 % gA R 2 k then pA (op2 R p k) 4 k 0 else op2 R p k
theorem run1_open {R : ST} {p k : Nat} (hp : p < 20) (hk : (k : Int) < fF R 1) (hB : B1 R) : X1_open [vR 0, vI p, vI k] R (eqv (opR R p k)) nox := by
  refine ⟨Nat.le_of_ble_eq_true rfl, ?_⟩
  show RR _ 0 [some (vR 0), some (vI p), some (vI k), none] [] R
  have h0 := hB.kc
  have h2 := hB.kd (k := k) (by omega)
  have h21 := h2.2.2.2 hk
  have h3 : ∀ n, gA (clR (op1 R p k) p n) 4 k = gA R 4 k := fun n => clR_o (by decide) n
  have h4 : ∀ n, gA (clR (op1 R p k) p n) 3 k = gA R 3 k := fun n => clR_o (by decide) n
  have h5 : ∀ n, gA (clR (op1 R p k) p n) 2 k = gA R 2 k := fun n => clR_o (by decide) n
  have loop : ∀ i : Nat, i ≤ 64 → RR (T1_open (eqv (opR R p k)) nox) 28 [some (vR 0), some (vI p), some (vI k), some (vI i)] [] (clR (op1 R p k) p i) := by
    refine up ?_ ?_
    · rw [r1_open_28]
      simp only [r1_open_0, r1_open_1, r1_open_4, r1_open_5, r1_open_6, r1_open_7, r1_open_8, r1_open_11, r1_open_12, r1_open_13, r1_open_16, r1_open_17, r1_open_18, r1_open_19, r1_open_20, r1_open_23, r1_open_24, r1_open_25, r1_open_26, r1_open_27, r1_open_29, r1_open_31, r1_open_34, r1_open_35, r1_open_38, r1_open_40, r1_open_41, r1_open_42, r1_open_43, r1_open_44, r1_open_45, r1_open_46, r1_open_49, r1_open_52, r1_open_53, r1_open_56, r1_open_57, r1_open_58, r1_open_59, r1_open_60, r1_open_63, r1_open_64, r1_open_65, r1_open_66, r1_open_67, r1_open_68, r1_open_71, r1_open_72, r1_open_73, r1_open_75, r1_open_76, r1_open_79, r1_open_80, r1_open_81, r1_open_82, r1_open_85, r1_open_86, r1_open_89, r1_open_90, r1_open_91, r1_open_92, e_const, e_lconst, e_dconst, e_iload, e_kiload, e_aload, e_kaload, e_lload, e_klload, e_iinc, e_kiinc, e_istore, e_astore, e_lstore, e_dupI, e_dupR, e_dup2, e_iadd, e_isub, e_imul, e_idiv, e_irem, e_ladd, e_lmul, e_i2l, e_i2d, e_ddiv, e_icmp, e_if, e_goto, e_switch, e_tsw0, e_tsw1, e_getI, e_getA, e_putI, e_iald, e_iast, e_tnew, e_tald, e_tast, e_iret, e_zret, e_lret, e_dret, e_vret, e_throw, lg0, ls0, lt0, lg1, ls1, lo1, lt1, lg2, ls2, lo2, lt2, lg3, ls3, lo3, lt3, lg4, ls4, lo4, lt4, lg5, ls5, lo5, lt5, lg6, ls6, lo6, lt6, lg7, ls7, lo7, lt7, lg8, ls8, lo8, lo0, okI, okR, okN, e_calli1, e_calll1, e_callv1, e_xcalli1, e_xcallv1, e_acalli1, e_calli2, e_calll2, e_callv2, e_xcalli2, e_xcallv2, e_acalli2, e_calli3, e_calll3, e_callv3, e_xcalli3, e_xcallv3, e_acalli3, e_calli4, e_calll4, e_callv4, e_xcalli4, e_xcallv4, e_acalli4, e_scalli3, sh4_0, sh4_1, sh4_2, sh4_3, sh4_4, eqr, eqv, true_and, and_true, true_or, or_true, ln1_2, ln1_3, ln1_4, ln1_5, ln1_6, ln1_7, ln1_8, ln1_10, ln1_11, ln1_12, Int.toNat_natCast, gA_pA, h3, h4, h5, Nat.reduceEqDiff, false_and, and_self, reduceIte]
      have d3 : 0 ≤ 64 % gA R 2 k := Int.emod_nonneg 64 (by omega)
      have d4 : 64 % gA R 2 k < gA R 2 k := Int.emod_lt_of_pos 64 (by omega)
      refine ⟨⟨⟨by omega, by omega⟩, by omega, by omega⟩, fun _ => ⟨⟨by omega, by omega⟩, ⟨by omega, by omega⟩, ⟨by omega, by omega⟩, ⟨by omega, by omega⟩, ⟨by omega, by omega⟩, ⟨⟨by omega, by omega⟩, by omega, by omega⟩, ⟨⟨by omega, by omega⟩, by omega, by omega⟩, fun h => ?_, fun h => ⟨⟨by omega, by omega⟩, ?_⟩⟩, fun h => absurd (by omega) h⟩
      · unfold opR; rw [if_neg (by omega)]; rfl
      · unfold opR; rw [if_pos (by omega)]; rfl
    · intro i hi ih
      rw [r1_open_28]
      have e2 : ((64 : Int) * p + i).toNat = 64 * p + i := by omega
      simp only [r1_open_0, r1_open_1, r1_open_4, r1_open_5, r1_open_6, r1_open_7, r1_open_8, r1_open_11, r1_open_12, r1_open_13, r1_open_16, r1_open_17, r1_open_18, r1_open_19, r1_open_20, r1_open_23, r1_open_24, r1_open_25, r1_open_26, r1_open_27, r1_open_29, r1_open_31, r1_open_34, r1_open_35, r1_open_38, r1_open_40, r1_open_41, r1_open_42, r1_open_43, r1_open_44, r1_open_45, r1_open_46, r1_open_49, r1_open_53, r1_open_56, r1_open_57, r1_open_58, r1_open_59, r1_open_60, r1_open_63, r1_open_64, r1_open_65, r1_open_66, r1_open_67, r1_open_68, r1_open_71, r1_open_72, r1_open_73, r1_open_75, r1_open_76, r1_open_79, r1_open_80, r1_open_81, r1_open_82, r1_open_85, r1_open_86, r1_open_89, r1_open_90, r1_open_91, r1_open_92, e_const, e_lconst, e_dconst, e_iload, e_kiload, e_aload, e_kaload, e_lload, e_klload, e_iinc, e_kiinc, e_istore, e_astore, e_lstore, e_dupI, e_dupR, e_dup2, e_iadd, e_isub, e_imul, e_idiv, e_irem, e_ladd, e_lmul, e_i2l, e_i2d, e_ddiv, e_icmp, e_if, e_goto, e_switch, e_tsw0, e_tsw1, e_getI, e_getA, e_putI, e_iald, e_iast, e_tnew, e_tald, e_tast, e_iret, e_zret, e_lret, e_dret, e_vret, e_throw, lg0, ls0, lt0, lg1, ls1, lo1, lt1, lg2, ls2, lo2, lt2, lg3, ls3, lo3, lt3, lg4, ls4, lo4, lt4, lg5, ls5, lo5, lt5, lg6, ls6, lo6, lt6, lg7, ls7, lo7, lt7, lg8, ls8, lo8, lo0, okI, okR, okN, e_calli1, e_calll1, e_callv1, e_xcalli1, e_xcallv1, e_acalli1, e_calli2, e_calll2, e_callv2, e_xcalli2, e_xcallv2, e_acalli2, e_calli3, e_calll3, e_callv3, e_xcalli3, e_xcallv3, e_acalli3, e_calli4, e_calll4, e_callv4, e_xcalli4, e_xcallv4, e_acalli4, e_scalli3, sh4_0, sh4_1, sh4_2, sh4_3, sh4_4, eqr, eqv, true_and, and_true, true_or, or_true, ln1_2, ln1_3, ln1_4, ln1_5, ln1_6, ln1_7, ln1_8, ln1_10, ln1_11, ln1_12, Int.toNat_natCast, e2]
      exact ⟨⟨⟨by omega, by omega⟩, by omega, by omega⟩, fun h => by omega, fun _ => ⟨⟨by omega, by omega⟩, ih⟩⟩
  simp only [r1_open_0, r1_open_1, r1_open_4, r1_open_5, r1_open_6, r1_open_7, r1_open_8, r1_open_11, r1_open_12, r1_open_13, r1_open_16, r1_open_17, r1_open_18, r1_open_19, r1_open_20, r1_open_23, r1_open_24, r1_open_25, r1_open_26, r1_open_27, r1_open_29, r1_open_31, r1_open_34, r1_open_35, r1_open_38, r1_open_40, r1_open_41, r1_open_42, r1_open_43, r1_open_44, r1_open_45, r1_open_46, r1_open_49, r1_open_52, r1_open_53, r1_open_56, r1_open_57, r1_open_58, r1_open_59, r1_open_60, r1_open_63, r1_open_64, r1_open_65, r1_open_66, r1_open_67, r1_open_68, r1_open_71, r1_open_72, r1_open_73, r1_open_75, r1_open_76, r1_open_79, r1_open_80, r1_open_81, r1_open_82, r1_open_85, r1_open_86, r1_open_89, r1_open_90, r1_open_91, r1_open_92, e_const, e_lconst, e_dconst, e_iload, e_kiload, e_aload, e_kaload, e_lload, e_klload, e_iinc, e_kiinc, e_istore, e_astore, e_lstore, e_dupI, e_dupR, e_dup2, e_iadd, e_isub, e_imul, e_idiv, e_irem, e_ladd, e_lmul, e_i2l, e_i2d, e_ddiv, e_icmp, e_if, e_goto, e_switch, e_tsw0, e_tsw1, e_getI, e_getA, e_putI, e_iald, e_iast, e_tnew, e_tald, e_tast, e_iret, e_zret, e_lret, e_dret, e_vret, e_throw, lg0, ls0, lt0, lg1, ls1, lo1, lt1, lg2, ls2, lo2, lt2, lg3, ls3, lo3, lt3, lg4, ls4, lo4, lt4, lg5, ls5, lo5, lt5, lg6, ls6, lo6, lt6, lg7, ls7, lo7, lt7, lg8, ls8, lo8, lo0, okI, okR, okN, e_calli1, e_calll1, e_callv1, e_xcalli1, e_xcallv1, e_acalli1, e_calli2, e_calll2, e_callv2, e_xcalli2, e_xcallv2, e_acalli2, e_calli3, e_calll3, e_callv3, e_xcalli3, e_xcallv3, e_acalli3, e_calli4, e_calll4, e_callv4, e_xcalli4, e_xcallv4, e_acalli4, e_scalli3, sh4_0, sh4_1, sh4_2, sh4_3, sh4_4, eqr, eqv, true_and, and_true, true_or, or_true, ln1_2, ln1_3, ln1_4, ln1_5, ln1_6, ln1_7, ln1_8, ln1_10, ln1_11, ln1_12, Int.toNat_natCast, gA_pA, Nat.reduceEqDiff, false_and, reduceIte]
  have := loop 0 (by omega)
  exact ⟨⟨by omega, by omega⟩, ⟨by omega, by omega⟩, ⟨by omega, by omega⟩, ⟨by omega, by omega⟩, this⟩
def laR (R : ST) (t p c : Nat) : ST := pA (pA (pA (pA R 11 t p) 12 t c) 8 (64 * p + c) t) 7 p (gA R 7 p + 1)
theorem run1_lay {R : ST} {t p c : Nat} (ht : t < 150) (hp : p < 20) (hc : c < 64) : X1_lay [vR 0, vI t, vI p, vI c] R (eqv (laR R t p c)) nox := by
  refine ⟨Nat.le_of_ble_eq_true rfl, ?_⟩
  show RR _ 0 [some (vR 0), some (vI t), some (vI p), some (vI c)] [] R
  have e2 : ((64 : Int) * p + c).toNat = 64 * p + c := by omega
  simp only [r1_lay_0, r1_lay_1, r1_lay_4, r1_lay_5, r1_lay_6, r1_lay_7, r1_lay_8, r1_lay_11, r1_lay_12, r1_lay_13, r1_lay_14, r1_lay_15, r1_lay_18, r1_lay_20, r1_lay_21, r1_lay_22, r1_lay_23, r1_lay_24, r1_lay_25, r1_lay_26, r1_lay_27, r1_lay_30, r1_lay_31, r1_lay_32, r1_lay_33, r1_lay_34, r1_lay_35, r1_lay_36, e_const, e_lconst, e_dconst, e_iload, e_kiload, e_aload, e_kaload, e_lload, e_klload, e_iinc, e_kiinc, e_istore, e_astore, e_lstore, e_dupI, e_dupR, e_dup2, e_iadd, e_isub, e_imul, e_idiv, e_irem, e_ladd, e_lmul, e_i2l, e_i2d, e_ddiv, e_icmp, e_if, e_goto, e_switch, e_tsw0, e_tsw1, e_getI, e_getA, e_putI, e_iald, e_iast, e_tnew, e_tald, e_tast, e_iret, e_zret, e_lret, e_dret, e_vret, e_throw, lg0, ls0, lt0, lg1, ls1, lo1, lt1, lg2, ls2, lo2, lt2, lg3, ls3, lo3, lt3, lg4, ls4, lo4, lt4, lg5, ls5, lo5, lt5, lg6, ls6, lo6, lt6, lg7, ls7, lo7, lt7, lg8, ls8, lo8, lo0, okI, okR, okN, e_calli1, e_calll1, e_callv1, e_xcalli1, e_xcallv1, e_acalli1, e_calli2, e_calll2, e_callv2, e_xcalli2, e_xcallv2, e_acalli2, e_calli3, e_calll3, e_callv3, e_xcalli3, e_xcallv3, e_acalli3, e_calli4, e_calll4, e_callv4, e_xcalli4, e_xcallv4, e_acalli4, e_scalli3, sh4_0, sh4_1, sh4_2, sh4_3, sh4_4, eqr, eqv, true_and, and_true, true_or, or_true, ln1_2, ln1_3, ln1_4, ln1_5, ln1_6, ln1_7, ln1_8, ln1_10, ln1_11, ln1_12, Int.toNat_natCast, e2, gA_pA, Nat.reduceEqDiff, false_and, reduceIte]
  exact ⟨⟨by omega, by omega⟩, ⟨by omega, by omega⟩, ⟨by omega, by omega⟩, ⟨by omega, by omega⟩, ⟨by omega, by omega⟩, rfl⟩
def liR (R : ST) (t p c : Nat) : ST := pA (pA (pA (pA R 8 (64 * p + c) (-1)) 7 p (gA R 7 p - 1)) 11 t (-1)) 12 t (-1)
theorem run1_lift {R : ST} {t p c : Nat} (ht : t < 150) (hp : p < 20) (hc : c < 64) (h11 : gA R 11 t = p) (h12 : gA R 12 t = c) : X1_lift [vR 0, vI t] R (eqv (liR R t p c)) nox := by
  refine ⟨Nat.le_of_ble_eq_true rfl, ?_⟩
  show RR _ 0 [some (vR 0), some (vI t)] [] R
  have e2 : ((64 : Int) * p + c).toNat = 64 * p + c := by omega
  simp only [r1_lift_0, r1_lift_1, r1_lift_4, r1_lift_6, r1_lift_7, r1_lift_10, r1_lift_11, r1_lift_12, r1_lift_13, r1_lift_14, r1_lift_17, r1_lift_18, r1_lift_19, r1_lift_20, r1_lift_21, r1_lift_22, r1_lift_23, r1_lift_26, r1_lift_27, r1_lift_30, r1_lift_31, r1_lift_32, r1_lift_33, r1_lift_34, r1_lift_35, r1_lift_36, r1_lift_37, r1_lift_38, r1_lift_41, r1_lift_42, r1_lift_43, r1_lift_44, r1_lift_45, r1_lift_48, r1_lift_49, r1_lift_50, r1_lift_51, e_const, e_lconst, e_dconst, e_iload, e_kiload, e_aload, e_kaload, e_lload, e_klload, e_iinc, e_kiinc, e_istore, e_astore, e_lstore, e_dupI, e_dupR, e_dup2, e_iadd, e_isub, e_imul, e_idiv, e_irem, e_ladd, e_lmul, e_i2l, e_i2d, e_ddiv, e_icmp, e_if, e_goto, e_switch, e_tsw0, e_tsw1, e_getI, e_getA, e_putI, e_iald, e_iast, e_tnew, e_tald, e_tast, e_iret, e_zret, e_lret, e_dret, e_vret, e_throw, lg0, ls0, lt0, lg1, ls1, lo1, lt1, lg2, ls2, lo2, lt2, lg3, ls3, lo3, lt3, lg4, ls4, lo4, lt4, lg5, ls5, lo5, lt5, lg6, ls6, lo6, lt6, lg7, ls7, lo7, lt7, lg8, ls8, lo8, lo0, okI, okR, okN, e_calli1, e_calll1, e_callv1, e_xcalli1, e_xcallv1, e_acalli1, e_calli2, e_calll2, e_callv2, e_xcalli2, e_xcallv2, e_acalli2, e_calli3, e_calll3, e_callv3, e_xcalli3, e_xcallv3, e_acalli3, e_calli4, e_calll4, e_callv4, e_xcalli4, e_xcallv4, e_acalli4, e_scalli3, sh4_0, sh4_1, sh4_2, sh4_3, sh4_4, eqr, eqv, true_and, and_true, true_or, or_true, ln1_2, ln1_3, ln1_4, ln1_5, ln1_6, ln1_7, ln1_8, ln1_10, ln1_11, ln1_12, Int.toNat_natCast, h11, h12, e2, gA_pA, Nat.reduceEqDiff, false_and, reduceIte]
  exact ⟨⟨by omega, by omega⟩, ⟨by omega, by omega⟩, ⟨by omega, by omega⟩, ⟨by omega, by omega⟩, ⟨by omega, by omega⟩, ⟨by omega, by omega⟩, ⟨by omega, by omega⟩, ⟨by omega, by omega⟩, rfl⟩
theorem run1_freeCell {R : ST} {p c : Nat} (hp : p < 20) (hc : c < 64) (hB : B1 R) (h5 : gA R 5 p ≠ -1) (hf : gA R 8 (64 * p + c) = -1) (hn : ∀ j, j < c → gA R 8 (64 * p + j) ≠ -1) : X1_freeCell [vR 0, vI p] R (eqr c R) nox := by
  refine ⟨Nat.le_of_ble_eq_true rfl, ?_⟩
  show RR _ 0 [some (vR 0), some (vI p), none] [] R
  have loop : ∀ i, i ≤ c → RR (T1_freeCell (eqr c R) nox) 2 [some (vR 0), some (vI p), some (vI i)] [] R := by
    refine up ?_ ?_
    · rw [r1_freeCell_2]
      have e2 : ((64 : Int) * p + c).toNat = 64 * p + c := by omega
      simp only [r1_freeCell_0, r1_freeCell_1, r1_freeCell_3, r1_freeCell_6, r1_freeCell_8, r1_freeCell_9, r1_freeCell_10, r1_freeCell_11, r1_freeCell_12, r1_freeCell_13, r1_freeCell_14, r1_freeCell_17, r1_freeCell_20, r1_freeCell_23, r1_freeCell_24, e_const, e_lconst, e_dconst, e_iload, e_kiload, e_aload, e_kaload, e_lload, e_klload, e_iinc, e_kiinc, e_istore, e_astore, e_lstore, e_dupI, e_dupR, e_dup2, e_iadd, e_isub, e_imul, e_idiv, e_irem, e_ladd, e_lmul, e_i2l, e_i2d, e_ddiv, e_icmp, e_if, e_goto, e_switch, e_tsw0, e_tsw1, e_getI, e_getA, e_putI, e_iald, e_iast, e_tnew, e_tald, e_tast, e_iret, e_zret, e_lret, e_dret, e_vret, e_throw, lg0, ls0, lt0, lg1, ls1, lo1, lt1, lg2, ls2, lo2, lt2, lg3, ls3, lo3, lt3, lg4, ls4, lo4, lt4, lg5, ls5, lo5, lt5, lg6, ls6, lo6, lt6, lg7, ls7, lo7, lt7, lg8, ls8, lo8, lo0, okI, okR, okN, e_calli1, e_calll1, e_callv1, e_xcalli1, e_xcallv1, e_acalli1, e_calli2, e_calll2, e_callv2, e_xcalli2, e_xcallv2, e_acalli2, e_calli3, e_calll3, e_callv3, e_xcalli3, e_xcallv3, e_acalli3, e_calli4, e_calll4, e_callv4, e_xcalli4, e_xcallv4, e_acalli4, e_scalli3, sh4_0, sh4_1, sh4_2, sh4_3, sh4_4, eqr, eqv, true_and, and_true, true_or, or_true, ln1_2, ln1_3, ln1_4, ln1_5, ln1_6, ln1_7, ln1_8, ln1_10, ln1_11, ln1_12, Int.toNat_natCast, e2, hf]
      exact ⟨⟨by omega, by omega⟩, ⟨⟨by omega, by omega⟩, by omega, by omega⟩, fun _ => trivial, fun h => absurd trivial h⟩
    · intro i hi ih
      rw [r1_freeCell_2]
      have e2 : ((64 : Int) * p + i).toNat = 64 * p + i := by omega
      have h1 := hB.cl hp (show i < 64 by omega) h5
      simp only [r1_freeCell_0, r1_freeCell_1, r1_freeCell_3, r1_freeCell_6, r1_freeCell_8, r1_freeCell_9, r1_freeCell_10, r1_freeCell_11, r1_freeCell_12, r1_freeCell_13, r1_freeCell_14, r1_freeCell_17, r1_freeCell_20, r1_freeCell_23, r1_freeCell_24, e_const, e_lconst, e_dconst, e_iload, e_kiload, e_aload, e_kaload, e_lload, e_klload, e_iinc, e_kiinc, e_istore, e_astore, e_lstore, e_dupI, e_dupR, e_dup2, e_iadd, e_isub, e_imul, e_idiv, e_irem, e_ladd, e_lmul, e_i2l, e_i2d, e_ddiv, e_icmp, e_if, e_goto, e_switch, e_tsw0, e_tsw1, e_getI, e_getA, e_putI, e_iald, e_iast, e_tnew, e_tald, e_tast, e_iret, e_zret, e_lret, e_dret, e_vret, e_throw, lg0, ls0, lt0, lg1, ls1, lo1, lt1, lg2, ls2, lo2, lt2, lg3, ls3, lo3, lt3, lg4, ls4, lo4, lt4, lg5, ls5, lo5, lt5, lg6, ls6, lo6, lt6, lg7, ls7, lo7, lt7, lg8, ls8, lo8, lo0, okI, okR, okN, e_calli1, e_calll1, e_callv1, e_xcalli1, e_xcallv1, e_acalli1, e_calli2, e_calll2, e_callv2, e_xcalli2, e_xcallv2, e_acalli2, e_calli3, e_calll3, e_callv3, e_xcalli3, e_xcallv3, e_acalli3, e_calli4, e_calll4, e_callv4, e_xcalli4, e_xcallv4, e_acalli4, e_scalli3, sh4_0, sh4_1, sh4_2, sh4_3, sh4_4, eqr, eqv, true_and, and_true, true_or, or_true, ln1_2, ln1_3, ln1_4, ln1_5, ln1_6, ln1_7, ln1_8, ln1_10, ln1_11, ln1_12, Int.toNat_natCast, e2]
      exact ⟨⟨by omega, by omega⟩, ⟨⟨by omega, by omega⟩, by omega, by omega⟩, fun h => absurd h (hn i hi), fun h => ih⟩
  simp only [r1_freeCell_0, r1_freeCell_1, r1_freeCell_3, r1_freeCell_6, r1_freeCell_8, r1_freeCell_9, r1_freeCell_10, r1_freeCell_11, r1_freeCell_12, r1_freeCell_13, r1_freeCell_14, r1_freeCell_17, r1_freeCell_20, r1_freeCell_23, r1_freeCell_24, e_const, e_lconst, e_dconst, e_iload, e_kiload, e_aload, e_kaload, e_lload, e_klload, e_iinc, e_kiinc, e_istore, e_astore, e_lstore, e_dupI, e_dupR, e_dup2, e_iadd, e_isub, e_imul, e_idiv, e_irem, e_ladd, e_lmul, e_i2l, e_i2d, e_ddiv, e_icmp, e_if, e_goto, e_switch, e_tsw0, e_tsw1, e_getI, e_getA, e_putI, e_iald, e_iast, e_tnew, e_tald, e_tast, e_iret, e_zret, e_lret, e_dret, e_vret, e_throw, lg0, ls0, lt0, lg1, ls1, lo1, lt1, lg2, ls2, lo2, lt2, lg3, ls3, lo3, lt3, lg4, ls4, lo4, lt4, lg5, ls5, lo5, lt5, lg6, ls6, lo6, lt6, lg7, ls7, lo7, lt7, lg8, ls8, lo8, lo0, okI, okR, okN, e_calli1, e_calll1, e_callv1, e_xcalli1, e_xcallv1, e_acalli1, e_calli2, e_calll2, e_callv2, e_xcalli2, e_xcallv2, e_acalli2, e_calli3, e_calll3, e_callv3, e_xcalli3, e_xcallv3, e_acalli3, e_calli4, e_calll4, e_callv4, e_xcalli4, e_xcallv4, e_acalli4, e_scalli3, sh4_0, sh4_1, sh4_2, sh4_3, sh4_4, eqr, eqv, true_and, and_true, true_or, or_true, ln1_2, ln1_3, ln1_4, ln1_5, ln1_6, ln1_7, ln1_8, ln1_10, ln1_11, ln1_12]
  exact loop 0 (by omega)
theorem run1_lastThing {R : ST} {p c t : Nat} (hp : p < 20) (hc : c < 64) (ht : t < 150) (hf : gA R 8 (64 * p + c) = t) (hn : ∀ j, c < j → j < 64 → gA R 8 (64 * p + j) = -1) : X1_lastThing [vR 0, vI p] R (eqr t R) nox := by
  refine ⟨Nat.le_of_ble_eq_true rfl, ?_⟩
  show RR _ 0 [some (vR 0), some (vI p), none] [] R
  have loop : ∀ n : Nat, c + n ≤ 63 → RR (T1_lastThing (eqr t R) nox) 3 [some (vR 0), some (vI p), some (vI ((c : Int) + n))] [] R := by
    intro n
    induction n with
    | zero =>
      intro hn0
      rw [r1_lastThing_3]
      have e2 : ((64 : Int) * p + ((c : Int) + ((0 : Nat) : Int))).toNat = 64 * p + c := by omega
      simp only [r1_lastThing_0, r1_lastThing_2, r1_lastThing_4, r1_lastThing_7, r1_lastThing_9, r1_lastThing_10, r1_lastThing_11, r1_lastThing_12, r1_lastThing_13, r1_lastThing_14, r1_lastThing_15, r1_lastThing_18, r1_lastThing_21, r1_lastThing_24, r1_lastThing_25, r1_lastThing_28, r1_lastThing_30, r1_lastThing_31, r1_lastThing_32, r1_lastThing_33, r1_lastThing_34, r1_lastThing_35, e_const, e_lconst, e_dconst, e_iload, e_kiload, e_aload, e_kaload, e_lload, e_klload, e_iinc, e_kiinc, e_istore, e_astore, e_lstore, e_dupI, e_dupR, e_dup2, e_iadd, e_isub, e_imul, e_idiv, e_irem, e_ladd, e_lmul, e_i2l, e_i2d, e_ddiv, e_icmp, e_if, e_goto, e_switch, e_tsw0, e_tsw1, e_getI, e_getA, e_putI, e_iald, e_iast, e_tnew, e_tald, e_tast, e_iret, e_zret, e_lret, e_dret, e_vret, e_throw, lg0, ls0, lt0, lg1, ls1, lo1, lt1, lg2, ls2, lo2, lt2, lg3, ls3, lo3, lt3, lg4, ls4, lo4, lt4, lg5, ls5, lo5, lt5, lg6, ls6, lo6, lt6, lg7, ls7, lo7, lt7, lg8, ls8, lo8, lo0, okI, okR, okN, e_calli1, e_calll1, e_callv1, e_xcalli1, e_xcallv1, e_acalli1, e_calli2, e_calll2, e_callv2, e_xcalli2, e_xcallv2, e_acalli2, e_calli3, e_calll3, e_callv3, e_xcalli3, e_xcallv3, e_acalli3, e_calli4, e_calll4, e_callv4, e_xcalli4, e_xcallv4, e_acalli4, e_scalli3, sh4_0, sh4_1, sh4_2, sh4_3, sh4_4, eqr, eqv, true_and, and_true, true_or, or_true, ln1_2, ln1_3, ln1_4, ln1_5, ln1_6, ln1_7, ln1_8, ln1_10, ln1_11, ln1_12, Int.toNat_natCast, e2, hf]
      ((repeat' (first | apply And.intro | intro _)) <;> first | omega | trivial | rfl | (split <;> omega))
    | succ n ih =>
      intro hn0
      rw [r1_lastThing_3]
      have e2 : ((64 : Int) * p + ((c : Int) + ((n + 1 : Nat) : Int))).toNat = 64 * p + (c + (n + 1)) := by omega
      have e3 : gA R 8 (64 * p + (c + (n + 1))) = -1 := hn (c + (n + 1)) (by omega) (by omega)
      simp only [r1_lastThing_0, r1_lastThing_2, r1_lastThing_4, r1_lastThing_7, r1_lastThing_9, r1_lastThing_10, r1_lastThing_11, r1_lastThing_12, r1_lastThing_13, r1_lastThing_14, r1_lastThing_15, r1_lastThing_18, r1_lastThing_21, r1_lastThing_24, r1_lastThing_25, r1_lastThing_28, r1_lastThing_30, r1_lastThing_31, r1_lastThing_32, r1_lastThing_33, r1_lastThing_34, r1_lastThing_35, e_const, e_lconst, e_dconst, e_iload, e_kiload, e_aload, e_kaload, e_lload, e_klload, e_iinc, e_kiinc, e_istore, e_astore, e_lstore, e_dupI, e_dupR, e_dup2, e_iadd, e_isub, e_imul, e_idiv, e_irem, e_ladd, e_lmul, e_i2l, e_i2d, e_ddiv, e_icmp, e_if, e_goto, e_switch, e_tsw0, e_tsw1, e_getI, e_getA, e_putI, e_iald, e_iast, e_tnew, e_tald, e_tast, e_iret, e_zret, e_lret, e_dret, e_vret, e_throw, lg0, ls0, lt0, lg1, ls1, lo1, lt1, lg2, ls2, lo2, lt2, lg3, ls3, lo3, lt3, lg4, ls4, lo4, lt4, lg5, ls5, lo5, lt5, lg6, ls6, lo6, lt6, lg7, ls7, lo7, lt7, lg8, ls8, lo8, lo0, okI, okR, okN, e_calli1, e_calll1, e_callv1, e_xcalli1, e_xcallv1, e_acalli1, e_calli2, e_calll2, e_callv2, e_xcalli2, e_xcallv2, e_acalli2, e_calli3, e_calll3, e_callv3, e_xcalli3, e_xcallv3, e_acalli3, e_calli4, e_calll4, e_callv4, e_xcalli4, e_xcallv4, e_acalli4, e_scalli3, sh4_0, sh4_1, sh4_2, sh4_3, sh4_4, eqr, eqv, true_and, and_true, true_or, or_true, ln1_2, ln1_3, ln1_4, ln1_5, ln1_6, ln1_7, ln1_8, ln1_10, ln1_11, ln1_12, Int.toNat_natCast, e2, e3]
      have := ih (by omega)
      rw [show ((c : Int) + ((n + 1 : Nat) : Int) + (-1)) = (c : Int) + n by omega]
      exact ⟨⟨by omega, by omega⟩, ⟨⟨by omega, by omega⟩, by omega, by omega⟩, fun h => absurd rfl h, fun _ => this⟩
  simp only [r1_lastThing_0, r1_lastThing_2, r1_lastThing_4, r1_lastThing_7, r1_lastThing_9, r1_lastThing_10, r1_lastThing_11, r1_lastThing_12, r1_lastThing_13, r1_lastThing_14, r1_lastThing_15, r1_lastThing_18, r1_lastThing_21, r1_lastThing_24, r1_lastThing_25, r1_lastThing_28, r1_lastThing_30, r1_lastThing_31, r1_lastThing_32, r1_lastThing_33, r1_lastThing_34, r1_lastThing_35, e_const, e_lconst, e_dconst, e_iload, e_kiload, e_aload, e_kaload, e_lload, e_klload, e_iinc, e_kiinc, e_istore, e_astore, e_lstore, e_dupI, e_dupR, e_dup2, e_iadd, e_isub, e_imul, e_idiv, e_irem, e_ladd, e_lmul, e_i2l, e_i2d, e_ddiv, e_icmp, e_if, e_goto, e_switch, e_tsw0, e_tsw1, e_getI, e_getA, e_putI, e_iald, e_iast, e_tnew, e_tald, e_tast, e_iret, e_zret, e_lret, e_dret, e_vret, e_throw, lg0, ls0, lt0, lg1, ls1, lo1, lt1, lg2, ls2, lo2, lt2, lg3, ls3, lo3, lt3, lg4, ls4, lo4, lt4, lg5, ls5, lo5, lt5, lg6, ls6, lo6, lt6, lg7, ls7, lo7, lt7, lg8, ls8, lo8, lo0, okI, okR, okN, e_calli1, e_calll1, e_callv1, e_xcalli1, e_xcallv1, e_acalli1, e_calli2, e_calll2, e_callv2, e_xcalli2, e_xcallv2, e_acalli2, e_calli3, e_calll3, e_callv3, e_xcalli3, e_xcallv3, e_acalli3, e_calli4, e_calll4, e_callv4, e_xcalli4, e_xcallv4, e_acalli4, e_scalli3, sh4_0, sh4_1, sh4_2, sh4_3, sh4_4, eqr, eqv, true_and, and_true, true_or, or_true, ln1_2, ln1_3, ln1_4, ln1_5, ln1_6, ln1_7, ln1_8, ln1_10, ln1_11, ln1_12]
  have := loop (63 - c) (by omega)
  rw [show ((c : Int) + ((63 - c : Nat) : Int)) = 63 by omega] at this
  exact this
def drR (R : ST) (p : Nat) : ST := pF (pA R 5 p (-1)) 13 (fF R 13 + 1)
theorem run1_close {R : ST} {p : Nat} (hp : p < 20) : X1_close [vR 0, vI p] R (eqv (drR R p)) nox := by
  refine ⟨Nat.le_of_ble_eq_true rfl, ?_⟩
  show RR _ 0 [some (vR 0), some (vI p)] [] R
  simp only [r1_close_0, r1_close_1, r1_close_4, r1_close_5, r1_close_6, r1_close_7, r1_close_8, r1_close_9, r1_close_12, r1_close_13, r1_close_14, r1_close_17, e_const, e_lconst, e_dconst, e_iload, e_kiload, e_aload, e_kaload, e_lload, e_klload, e_iinc, e_kiinc, e_istore, e_astore, e_lstore, e_dupI, e_dupR, e_dup2, e_iadd, e_isub, e_imul, e_idiv, e_irem, e_ladd, e_lmul, e_i2l, e_i2d, e_ddiv, e_icmp, e_if, e_goto, e_switch, e_tsw0, e_tsw1, e_getI, e_getA, e_putI, e_iald, e_iast, e_tnew, e_tald, e_tast, e_iret, e_zret, e_lret, e_dret, e_vret, e_throw, lg0, ls0, lt0, lg1, ls1, lo1, lt1, lg2, ls2, lo2, lt2, lg3, ls3, lo3, lt3, lg4, ls4, lo4, lt4, lg5, ls5, lo5, lt5, lg6, ls6, lo6, lt6, lg7, ls7, lo7, lt7, lg8, ls8, lo8, lo0, okI, okR, okN, e_calli1, e_calll1, e_callv1, e_xcalli1, e_xcallv1, e_acalli1, e_calli2, e_calll2, e_callv2, e_xcalli2, e_xcallv2, e_acalli2, e_calli3, e_calll3, e_callv3, e_xcalli3, e_xcallv3, e_acalli3, e_calli4, e_calll4, e_callv4, e_xcalli4, e_xcallv4, e_acalli4, e_scalli3, sh4_0, sh4_1, sh4_2, sh4_3, sh4_4, eqr, eqv, true_and, and_true, true_or, or_true, ln1_2, ln1_3, ln1_4, ln1_5, ln1_6, ln1_7, ln1_8, ln1_10, ln1_11, ln1_12, Int.toNat_natCast, fF_pA]
  exact ⟨⟨by omega, by omega⟩, rfl⟩
def kiR (R : ST) (k : Nat) (z s : Int) : ST := pF (pA (pA R 2 k z) 3 k s) 1 (k + 1)
theorem run1_kind_ok {R : ST} {k : Nat} {z s : Int} (hz : 1 ≤ z ∧ z ≤ 32) (hs : 1 ≤ s ∧ s ≤ 16) (hk : fF R 1 = k) (hk6 : k < 6) : X1_kind [vR 0, vI z, vI s] R (eqr k (kiR (thr R 0) k z s)) nox := by
  have hk' : fF (pF R 0 0) 1 = k := hk
  refine ⟨Nat.le_of_ble_eq_true rfl, ?_⟩
  show RR _ 0 [some (vR 0), some (vI z), some (vI s)] [] R
  rw [r1_kind_0]
  simp only [r1_kind_1, r1_kind_2, r1_kind_5, r1_kind_6, r1_kind_7, r1_kind_9, r1_kind_12, r1_kind_15, r1_kind_16, r1_kind_17, r1_kind_19, r1_kind_22, r1_kind_25, r1_kind_26, r1_kind_27, r1_kind_30, r1_kind_31, r1_kind_32, r1_kind_35, r1_kind_37, r1_kind_40, r1_kind_41, r1_kind_42, r1_kind_45, r1_kind_46, r1_kind_47, r1_kind_50, r1_kind_51, r1_kind_54, r1_kind_55, r1_kind_56, r1_kind_57, r1_kind_60, r1_kind_61, r1_kind_64, r1_kind_65, r1_kind_66, r1_kind_67, r1_kind_68, r1_kind_71, r1_kind_72, r1_kind_73, r1_kind_76, r1_kind_77, r1_kind_80, r1_kind_81, r1_kind_82, e_const, e_lconst, e_dconst, e_iload, e_kiload, e_aload, e_kaload, e_lload, e_klload, e_iinc, e_kiinc, e_istore, e_astore, e_lstore, e_dupI, e_dupR, e_dup2, e_iadd, e_isub, e_imul, e_idiv, e_irem, e_ladd, e_lmul, e_i2l, e_i2d, e_ddiv, e_icmp, e_if, e_goto, e_switch, e_tsw0, e_tsw1, e_getI, e_getA, e_putI, e_iald, e_iast, e_tnew, e_tald, e_tast, e_iret, e_zret, e_lret, e_dret, e_vret, e_throw, lg0, ls0, lt0, lg1, ls1, lo1, lt1, lg2, ls2, lo2, lt2, lg3, ls3, lo3, lt3, lg4, ls4, lo4, lt4, lg5, ls5, lo5, lt5, lg6, ls6, lo6, lt6, lg7, ls7, lo7, lt7, lg8, ls8, lo8, lo0, okI, okR, okN, e_calli1, e_calll1, e_callv1, e_xcalli1, e_xcallv1, e_acalli1, e_calli2, e_calll2, e_callv2, e_xcalli2, e_xcallv2, e_acalli2, e_calli3, e_calll3, e_callv3, e_xcalli3, e_xcallv3, e_acalli3, e_calli4, e_calll4, e_callv4, e_xcalli4, e_xcallv4, e_acalli4, e_scalli3, sh4_0, sh4_1, sh4_2, sh4_3, sh4_4, eqr, eqv, true_and, and_true, true_or, or_true, ln1_2, ln1_3, ln1_4, ln1_5, ln1_6, ln1_7, ln1_8, ln1_10, ln1_11, ln1_12, Int.toNat_natCast, hk', fF_pA]
  refine ⟨_, run1_isIn ⟨by omega, by omega⟩ ⟨by omega, by omega⟩ ⟨by omega, by omega⟩, ?_⟩
  rintro r S1 ⟨rfl, rfl⟩
  rw [if1 hz]
  refine ⟨⟨by omega, by omega⟩, fun h => by omega, fun _ => ⟨_, run1_isIn ⟨by omega, by omega⟩ ⟨by omega, by omega⟩ ⟨by omega, by omega⟩, ?_⟩⟩
  rintro r S1 ⟨rfl, rfl⟩
  rw [if1 hs, hk']
  have h5 : kiR (thr R 0) k z s = pF (pA (pA (pF R 0 0) 2 k z) 3 k s) 1 (k + 1) := rfl
  rw [h5]
  refine ⟨⟨by omega, by omega⟩, fun _ => ⟨⟨⟨by omega, by omega⟩, by omega, by omega⟩, fun _ => ⟨⟨by omega, by omega⟩, ⟨by omega, by omega⟩, ?_, rfl⟩, fun h => absurd (by omega) h⟩, fun h => absurd (by decide) h⟩
  rw [fF_pF, if_pos rfl]
  omega
theorem run1_kind_no1 {R : ST} {z s : Int} (hrz : rng z) (hrs : rng s) (hn : ¬ ((1 ≤ z ∧ z ≤ 32) ∧ 1 ≤ s ∧ s ≤ 16)) : X1_kind [vR 0, vI z, vI s] R (eqr 0 (thr R 1)) nox := by
  have tail : ∃ Q, X1_no [vR 0, vI 1] (pF R 0 0) Q nox ∧ ∀ r S', Q r S' → r = 0 ∧ S' = thr R 1 := ⟨_, run1_no, fun r S' h => ⟨h.1, h.2.trans (thr_thr R 0 1)⟩⟩
  refine ⟨Nat.le_of_ble_eq_true rfl, ?_⟩
  show RR _ 0 [some (vR 0), some (vI z), some (vI s)] [] R
  rw [r1_kind_0]
  simp only [r1_kind_1, r1_kind_2, r1_kind_5, r1_kind_6, r1_kind_7, r1_kind_9, r1_kind_12, r1_kind_15, r1_kind_16, r1_kind_17, r1_kind_19, r1_kind_22, r1_kind_25, r1_kind_26, r1_kind_27, r1_kind_30, r1_kind_32, r1_kind_35, r1_kind_37, r1_kind_40, r1_kind_41, r1_kind_42, r1_kind_45, r1_kind_46, r1_kind_47, r1_kind_50, r1_kind_51, r1_kind_54, r1_kind_55, r1_kind_56, r1_kind_57, r1_kind_60, r1_kind_61, r1_kind_64, r1_kind_65, r1_kind_66, r1_kind_67, r1_kind_68, r1_kind_71, r1_kind_72, r1_kind_73, r1_kind_76, r1_kind_77, r1_kind_80, r1_kind_81, r1_kind_82, e_const, e_lconst, e_dconst, e_iload, e_kiload, e_aload, e_kaload, e_lload, e_klload, e_iinc, e_kiinc, e_istore, e_astore, e_lstore, e_dupI, e_dupR, e_dup2, e_iadd, e_isub, e_imul, e_idiv, e_irem, e_ladd, e_lmul, e_i2l, e_i2d, e_ddiv, e_icmp, e_if, e_goto, e_switch, e_tsw0, e_tsw1, e_getI, e_getA, e_putI, e_iald, e_iast, e_tnew, e_tald, e_tast, e_iret, e_zret, e_lret, e_dret, e_vret, e_throw, lg0, ls0, lt0, lg1, ls1, lo1, lt1, lg2, ls2, lo2, lt2, lg3, ls3, lo3, lt3, lg4, ls4, lo4, lt4, lg5, ls5, lo5, lt5, lg6, ls6, lo6, lt6, lg7, ls7, lo7, lt7, lg8, ls8, lo8, lo0, okI, okR, okN, e_calli1, e_calll1, e_callv1, e_xcalli1, e_xcallv1, e_acalli1, e_calli2, e_calll2, e_callv2, e_xcalli2, e_xcallv2, e_acalli2, e_calli3, e_calll3, e_callv3, e_xcalli3, e_xcallv3, e_acalli3, e_calli4, e_calll4, e_callv4, e_xcalli4, e_xcallv4, e_acalli4, e_scalli3, sh4_0, sh4_1, sh4_2, sh4_3, sh4_4, eqr, eqv, true_and, and_true, true_or, or_true, ln1_2, ln1_3, ln1_4, ln1_5, ln1_6, ln1_7, ln1_8, ln1_10, ln1_11, ln1_12]
  refine ⟨_, run1_isIn hrz ⟨by omega, by omega⟩ ⟨by omega, by omega⟩, ?_⟩
  rintro r S1 ⟨rfl, rfl⟩
  by_cases hz : 1 ≤ z ∧ z ≤ 32
  · rw [if1 hz]
    refine ⟨⟨by omega, by omega⟩, fun h => by omega, fun _ => ⟨_, run1_isIn hrs ⟨by omega, by omega⟩ ⟨by omega, by omega⟩, ?_⟩⟩
    rintro r S1 ⟨rfl, rfl⟩
    rw [if0 (fun w => hn ⟨hz, w⟩)]
    exact ⟨⟨by omega, by omega⟩, fun h => absurd rfl h, fun _ => tail⟩
  · rw [if0 hz]
    exact ⟨⟨by omega, by omega⟩, fun _ => tail, fun h => absurd rfl h⟩
theorem run1_kind_no2 {R : ST} {z s : Int} (hz : 1 ≤ z ∧ z ≤ 32) (hs : 1 ≤ s ∧ s ≤ 16) (hk : fF R 1 = 6) : X1_kind [vR 0, vI z, vI s] R (eqr 0 (thr R 2)) nox := by
  have hk' : fF (pF R 0 0) 1 = 6 := hk
  have tail : ∃ Q, X1_no [vR 0, vI 2] (pF R 0 0) Q nox ∧ ∀ r S', Q r S' → r = 0 ∧ S' = thr R 2 := ⟨_, run1_no, fun r S' h => ⟨h.1, h.2.trans (thr_thr R 0 2)⟩⟩
  refine ⟨Nat.le_of_ble_eq_true rfl, ?_⟩
  show RR _ 0 [some (vR 0), some (vI z), some (vI s)] [] R
  rw [r1_kind_0]
  simp only [r1_kind_1, r1_kind_2, r1_kind_5, r1_kind_6, r1_kind_7, r1_kind_9, r1_kind_12, r1_kind_15, r1_kind_16, r1_kind_17, r1_kind_19, r1_kind_22, r1_kind_25, r1_kind_26, r1_kind_27, r1_kind_30, r1_kind_31, r1_kind_32, r1_kind_35, r1_kind_37, r1_kind_40, r1_kind_41, r1_kind_42, r1_kind_45, r1_kind_47, r1_kind_50, r1_kind_51, r1_kind_54, r1_kind_55, r1_kind_56, r1_kind_57, r1_kind_60, r1_kind_61, r1_kind_64, r1_kind_65, r1_kind_66, r1_kind_67, r1_kind_68, r1_kind_71, r1_kind_72, r1_kind_73, r1_kind_76, r1_kind_77, r1_kind_80, r1_kind_81, r1_kind_82, e_const, e_lconst, e_dconst, e_iload, e_kiload, e_aload, e_kaload, e_lload, e_klload, e_iinc, e_kiinc, e_istore, e_astore, e_lstore, e_dupI, e_dupR, e_dup2, e_iadd, e_isub, e_imul, e_idiv, e_irem, e_ladd, e_lmul, e_i2l, e_i2d, e_ddiv, e_icmp, e_if, e_goto, e_switch, e_tsw0, e_tsw1, e_getI, e_getA, e_putI, e_iald, e_iast, e_tnew, e_tald, e_tast, e_iret, e_zret, e_lret, e_dret, e_vret, e_throw, lg0, ls0, lt0, lg1, ls1, lo1, lt1, lg2, ls2, lo2, lt2, lg3, ls3, lo3, lt3, lg4, ls4, lo4, lt4, lg5, ls5, lo5, lt5, lg6, ls6, lo6, lt6, lg7, ls7, lo7, lt7, lg8, ls8, lo8, lo0, okI, okR, okN, e_calli1, e_calll1, e_callv1, e_xcalli1, e_xcallv1, e_acalli1, e_calli2, e_calll2, e_callv2, e_xcalli2, e_xcallv2, e_acalli2, e_calli3, e_calll3, e_callv3, e_xcalli3, e_xcallv3, e_acalli3, e_calli4, e_calll4, e_callv4, e_xcalli4, e_xcallv4, e_acalli4, e_scalli3, sh4_0, sh4_1, sh4_2, sh4_3, sh4_4, eqr, eqv, true_and, and_true, true_or, or_true, ln1_2, ln1_3, ln1_4, ln1_5, ln1_6, ln1_7, ln1_8, ln1_10, ln1_11, ln1_12, hk']
  refine ⟨_, run1_isIn ⟨by omega, by omega⟩ ⟨by omega, by omega⟩ ⟨by omega, by omega⟩, ?_⟩
  rintro r S1 ⟨rfl, rfl⟩
  rw [if1 hz]
  refine ⟨⟨by omega, by omega⟩, fun h => by omega, fun _ => ⟨_, run1_isIn ⟨by omega, by omega⟩ ⟨by omega, by omega⟩ ⟨by omega, by omega⟩, ?_⟩⟩
  rintro r S1 ⟨rfl, rfl⟩
  rw [if1 hs, hk']
  exact ⟨⟨by omega, by omega⟩, fun _ => ⟨⟨⟨by omega, by omega⟩, by omega, by omega⟩, fun h => absurd rfl h, fun _ => tail⟩, fun h => absurd (by decide) h⟩
