/-! THE CLASS, what it writes: each step, without the invariant -/
theorem gA_pA (S : ST) (a i : Nat) (v : Int) (b j : Nat) : gA (pA S a i v) b j = if b = a ∧ j = i then v else gA S b j := rfl
theorem fF_pA (S : ST) (a i : Nat) (v : Int) (k : Nat) : fF (pA S a i v) k = fF S k := rfl
theorem gA_pF (S : ST) (a : Nat) (v : Int) (b j : Nat) : gA (pF S a v) b j = gA S b j := rfl
theorem fF_pF (S : ST) (a : Nat) (v : Int) (k : Nat) : fF (pF S a v) k = if k = a then v else fF S k := rfl
theorem gA_o {S : ST} {a i : Nat} {v : Int} {b j : Nat} (h : b ≠ a) : gA (pA S a i v) b j = gA S b j := by rw [gA_pA, if_neg (fun z => h z.1)]
theorem gA_s {S : ST} {a i : Nat} {v : Int} : gA (pA S a i v) a i = v := by rw [gA_pA, if_pos ⟨rfl, rfl⟩]
theorem gA_i {S : ST} {a i : Nat} {v : Int} {b j : Nat} (h : j ≠ i) : gA (pA S a i v) b j = gA S b j := by rw [gA_pA, if_neg (fun z => h z.2)]
/-- bounds are kept -/
theorem B0.set {S : ST} (hB : B0 S) {a i : Nat} {v : Int} (h : (a = 1 → 0 ≤ v ∧ v ≤ 32) ∧ (a = 2 → 0 ≤ v ∧ v ≤ 16) ∧ (a = 3 → 0 ≤ v ∧ v ≤ 64) ∧ (a = 4 → 0 ≤ v ∧ v ≤ 64) ∧ (a = 5 → 0 ≤ v ∧ v ≤ 64) ∧ (a = 6 → -1 ≤ v ∧ v < 6) ∧ (a = 8 → 0 ≤ v ∧ v ≤ 64) ∧ (a = 9 → -1 ≤ v ∧ v < 150) ∧ (a = 11 → 0 ≤ v ∧ v < 6) ∧ (a = 12 → -1 ≤ v ∧ v < 20) ∧ (a = 13 → 0 ≤ v ∧ v < 64)) : B0 (pA S a i v) := by
  obtain ⟨h1, h2, h3, h4, h5, h6, h8, h9, h11, h12, h13⟩ := h
  obtain ⟨b1, b2, b3, b4, b5, b6⟩ := hB
  refine ⟨b1, b2, fun k hk => ?_, fun p hp => ?_, fun j hj => ?_, fun t ht => ?_⟩
  · have := b3 k hk
    simp only [gA_pA]
    refine ⟨?_, ?_, ?_, ?_, ?_⟩ <;> split <;> first | omega | (rename_i z; have := z.1; omega)
  · have := b4 p hp
    simp only [gA_pA]
    refine ⟨?_, ?_⟩ <;> split <;> first | omega | (rename_i z; have := z.1; omega)
  · have := b5 j hj
    simp only [gA_pA]
    split <;> first | omega | (rename_i z; have := z.1; omega)
  · have := b6 t ht
    simp only [gA_pA]
    refine ⟨?_, ?_, ?_⟩ <;> split <;> first | omega | (rename_i z; have := z.1; omega)
theorem B0.setF {S : ST} (hB : B0 S) {a : Nat} {v : Int} (h : (a = 0 → 0 ≤ v ∧ v ≤ 6) ∧ (a = 10 → 0 ≤ v ∧ v ≤ 150)) : B0 (pF S a v) := by
  obtain ⟨b1, b2, b3⟩ := hB
  refine ⟨?_, ?_, b3⟩
  · simp only [fF_pF]; split <;> omega
  · simp only [fF_pF]; split <;> omega
/-- a new tray; a tray goes -/
def nxV (nx st re : Int) : Int := if nx + st > re then 0 else nx + st
def adT (S : ST) (p k : Nat) : ST := pA (pA (pA S 6 p k) 7 p (gA S 5 k)) 5 k (nxV (gA S 5 k) (gA S 2 k) (gA S 4 k))
def drT (S : ST) (p : Nat) : ST := pF (pA S 6 p (-1)) 14 (fF S 14 + 1)
theorem run0_addTray {S : ST} {p k : Nat} (hp : p < 20) (hk : k < 6) (hB : B0 S) : X0_addTray [vR 0, vI p, vI k] S (eqv (adT S p k)) nox := by
  refine ⟨Nat.le_of_ble_eq_true rfl, ?_⟩
  show RR _ 0 [some (vR 0), some (vI p), some (vI k), none] [] S
  have h2 := hB.kd hk
  simp only [r0_addTray_0, r0_addTray_1, r0_addTray_4, r0_addTray_5, r0_addTray_6, r0_addTray_7, r0_addTray_8, r0_addTray_11, r0_addTray_12, r0_addTray_13, r0_addTray_16, r0_addTray_17, r0_addTray_18, r0_addTray_19, r0_addTray_20, r0_addTray_23, r0_addTray_24, r0_addTray_25, r0_addTray_26, r0_addTray_29, r0_addTray_30, r0_addTray_31, r0_addTray_32, r0_addTray_33, r0_addTray_34, r0_addTray_37, r0_addTray_38, r0_addTray_39, r0_addTray_40, r0_addTray_43, r0_addTray_44, r0_addTray_45, r0_addTray_48, r0_addTray_49, r0_addTray_52, r0_addTray_53, r0_addTray_54, e_const, e_lconst, e_dconst, e_iload, e_kiload, e_aload, e_kaload, e_lload, e_klload, e_iinc, e_kiinc, e_istore, e_astore, e_lstore, e_dupI, e_dupR, e_dup2, e_iadd, e_isub, e_imul, e_idiv, e_irem, e_ladd, e_lmul, e_i2l, e_i2d, e_ddiv, e_icmp, e_if, e_goto, e_switch, e_tsw0, e_tsw1, e_getI, e_getA, e_putI, e_iald, e_iast, e_tnew, e_tald, e_tast, e_iret, e_zret, e_lret, e_dret, e_vret, e_throw, lg0, ls0, lt0, lg1, ls1, lo1, lt1, lg2, ls2, lo2, lt2, lg3, ls3, lo3, lt3, lg4, ls4, lo4, lt4, lg5, ls5, lo5, lt5, lg6, ls6, lo6, lt6, lg7, ls7, lo7, lt7, lg8, ls8, lo8, lo0, okI, okR, okN, e_calli1, e_calll1, e_callv1, e_xcalli1, e_xcallv1, e_acalli1, e_calli2, e_calll2, e_callv2, e_xcalli2, e_xcallv2, e_acalli2, e_calli3, e_calll3, e_callv3, e_xcalli3, e_xcallv3, e_acalli3, e_calli4, e_calll4, e_callv4, e_xcalli4, e_xcallv4, e_acalli4, e_scalli3, sh4_0, sh4_1, sh4_2, sh4_3, sh4_4, eqr, eqv, true_and, and_true, true_or, or_true, ln0_1, ln0_2, ln0_3, ln0_4, ln0_5, ln0_6, ln0_7, ln0_8, ln0_9, ln0_11, ln0_12, ln0_13, Int.toNat_natCast, gA_pA, Nat.reduceEqDiff, false_and, reduceIte]
  unfold adT nxV
  refine ⟨⟨by omega, by omega⟩, ⟨by omega, by omega⟩, ⟨by omega, by omega⟩, ⟨by omega, by omega⟩, ⟨by omega, by omega⟩, ⟨by omega, by omega⟩, ⟨⟨by omega, by omega⟩, by omega, by omega⟩, fun h => ⟨⟨by omega, by omega⟩, ?_⟩, fun h => ⟨⟨by omega, by omega⟩, ?_⟩⟩
  · rw [if_neg (by omega)]
  · rw [if_pos (by omega)]
theorem run0_dropTray {S : ST} {p : Nat} (hp : p < 20) : X0_dropTray [vR 0, vI p] S (eqv (drT S p)) nox := by
  refine ⟨Nat.le_of_ble_eq_true rfl, ?_⟩
  show RR _ 0 [some (vR 0), some (vI p)] [] S
  simp only [r0_dropTray_0, r0_dropTray_1, r0_dropTray_4, r0_dropTray_5, r0_dropTray_6, r0_dropTray_7, r0_dropTray_8, r0_dropTray_9, r0_dropTray_12, r0_dropTray_13, r0_dropTray_14, r0_dropTray_17, e_const, e_lconst, e_dconst, e_iload, e_kiload, e_aload, e_kaload, e_lload, e_klload, e_iinc, e_kiinc, e_istore, e_astore, e_lstore, e_dupI, e_dupR, e_dup2, e_iadd, e_isub, e_imul, e_idiv, e_irem, e_ladd, e_lmul, e_i2l, e_i2d, e_ddiv, e_icmp, e_if, e_goto, e_switch, e_tsw0, e_tsw1, e_getI, e_getA, e_putI, e_iald, e_iast, e_tnew, e_tald, e_tast, e_iret, e_zret, e_lret, e_dret, e_vret, e_throw, lg0, ls0, lt0, lg1, ls1, lo1, lt1, lg2, ls2, lo2, lt2, lg3, ls3, lo3, lt3, lg4, ls4, lo4, lt4, lg5, ls5, lo5, lt5, lg6, ls6, lo6, lt6, lg7, ls7, lo7, lt7, lg8, ls8, lo8, lo0, okI, okR, okN, e_calli1, e_calll1, e_callv1, e_xcalli1, e_xcallv1, e_acalli1, e_calli2, e_calll2, e_callv2, e_xcalli2, e_xcallv2, e_acalli2, e_calli3, e_calll3, e_callv3, e_xcalli3, e_xcallv3, e_acalli3, e_calli4, e_calll4, e_callv4, e_xcalli4, e_xcallv4, e_acalli4, e_scalli3, sh4_0, sh4_1, sh4_2, sh4_3, sh4_4, eqr, eqv, true_and, and_true, true_or, or_true, ln0_1, ln0_2, ln0_3, ln0_4, ln0_5, ln0_6, ln0_7, ln0_8, ln0_9, ln0_11, ln0_12, ln0_13, Int.toNat_natCast, fF_pA]
  exact ⟨⟨by omega, by omega⟩, rfl⟩
/-- a thing is laid into the cell c of the tray at p; it is lifted -/
def frB (S : ST) (p c : Nat) : Bool := decide (gA S 9 (p * 64 + c) = -1)
def laT (S : ST) (t p c : Nat) : ST := pA (pA (pA (pA S 9 (p * 64 + c) t) 8 p (gA S 8 p + 1)) 12 t p) 13 t c
theorem run0_layIn {S : ST} {t p c : Nat} (ht : t < 150) (hp : p < 20) (hB : B0 S) (hc : (c : Int) < cellsC S p) (hf : frB S p c = true) (hn : ∀ j, j < c → frB S p j = false) : X0_layIn [vR 0, vI t, vI p] S (eqv (laT S t p c)) nox := by
  refine ⟨Nat.le_of_ble_eq_true rfl, ?_⟩
  show RR _ 0 [some (vR 0), some (vI t), some (vI p), none, none] [] S
  have h1 := cellsC_b hp hB
  have key : ∀ i, i ≤ c → RR (T0_layIn (eqv (laT S t p c)) nox) 9 [some (vR 0), some (vI t), some (vI p), some (vI (cellsC S p)), some (vI i)] [] S := by
    refine up ?_ ?_
    · rw [r0_layIn_9]
      have e2 : ((p : Int) * 64 + c).toNat = p * 64 + c := by omega
      simp only [r0_layIn_0, r0_layIn_1, r0_layIn_2, r0_layIn_5, r0_layIn_6, r0_layIn_7, r0_layIn_11, r0_layIn_12, r0_layIn_15, r0_layIn_16, r0_layIn_19, r0_layIn_20, r0_layIn_22, r0_layIn_23, r0_layIn_25, r0_layIn_26, r0_layIn_27, r0_layIn_28, r0_layIn_31, r0_layIn_32, r0_layIn_35, r0_layIn_36, r0_layIn_38, r0_layIn_39, r0_layIn_41, r0_layIn_42, r0_layIn_43, r0_layIn_44, r0_layIn_45, r0_layIn_48, r0_layIn_49, r0_layIn_50, r0_layIn_51, r0_layIn_52, r0_layIn_53, r0_layIn_54, r0_layIn_55, r0_layIn_58, r0_layIn_59, r0_layIn_60, r0_layIn_61, r0_layIn_62, r0_layIn_65, r0_layIn_66, r0_layIn_68, r0_layIn_69, r0_layIn_70, r0_layIn_73, r0_layIn_76, e_const, e_lconst, e_dconst, e_iload, e_kiload, e_aload, e_kaload, e_lload, e_klload, e_iinc, e_kiinc, e_istore, e_astore, e_lstore, e_dupI, e_dupR, e_dup2, e_iadd, e_isub, e_imul, e_idiv, e_irem, e_ladd, e_lmul, e_i2l, e_i2d, e_ddiv, e_icmp, e_if, e_goto, e_switch, e_tsw0, e_tsw1, e_getI, e_getA, e_putI, e_iald, e_iast, e_tnew, e_tald, e_tast, e_iret, e_zret, e_lret, e_dret, e_vret, e_throw, lg0, ls0, lt0, lg1, ls1, lo1, lt1, lg2, ls2, lo2, lt2, lg3, ls3, lo3, lt3, lg4, ls4, lo4, lt4, lg5, ls5, lo5, lt5, lg6, ls6, lo6, lt6, lg7, ls7, lo7, lt7, lg8, ls8, lo8, lo0, okI, okR, okN, e_calli1, e_calll1, e_callv1, e_xcalli1, e_xcallv1, e_acalli1, e_calli2, e_calll2, e_callv2, e_xcalli2, e_xcallv2, e_acalli2, e_calli3, e_calll3, e_callv3, e_xcalli3, e_xcallv3, e_acalli3, e_calli4, e_calll4, e_callv4, e_xcalli4, e_xcallv4, e_acalli4, e_scalli3, sh4_0, sh4_1, sh4_2, sh4_3, sh4_4, eqr, eqv, true_and, and_true, true_or, or_true, ln0_1, ln0_2, ln0_3, ln0_4, ln0_5, ln0_6, ln0_7, ln0_8, ln0_9, ln0_11, ln0_12, ln0_13, Int.toNat_natCast, e2]
      have h3 := hB.cl (i := p * 64 + c) (by omega)
      have h4 : gA S 9 (p * 64 + c) = -1 := by simpa [frB] using hf
      refine ⟨⟨⟨by omega, by omega⟩, by omega, by omega⟩, fun h => by omega, fun h => ⟨⟨by omega, by omega⟩, ⟨⟨by omega, by omega⟩, by omega, by omega⟩, fun h5 => absurd h4 h5, fun h5 => ⟨⟨by omega, by omega⟩, ⟨by omega, by omega⟩, ⟨by omega, by omega⟩, ⟨by omega, by omega⟩, ⟨by omega, by omega⟩, rfl⟩⟩⟩
    · intro i hi ih
      rw [r0_layIn_9]
      have e2 : ((p : Int) * 64 + i).toNat = p * 64 + i := by omega
      simp only [r0_layIn_0, r0_layIn_1, r0_layIn_2, r0_layIn_5, r0_layIn_6, r0_layIn_7, r0_layIn_11, r0_layIn_12, r0_layIn_15, r0_layIn_16, r0_layIn_19, r0_layIn_20, r0_layIn_22, r0_layIn_23, r0_layIn_25, r0_layIn_26, r0_layIn_27, r0_layIn_28, r0_layIn_31, r0_layIn_32, r0_layIn_35, r0_layIn_36, r0_layIn_38, r0_layIn_39, r0_layIn_41, r0_layIn_42, r0_layIn_43, r0_layIn_44, r0_layIn_45, r0_layIn_48, r0_layIn_49, r0_layIn_50, r0_layIn_51, r0_layIn_52, r0_layIn_53, r0_layIn_54, r0_layIn_55, r0_layIn_58, r0_layIn_59, r0_layIn_60, r0_layIn_61, r0_layIn_62, r0_layIn_65, r0_layIn_66, r0_layIn_68, r0_layIn_69, r0_layIn_70, r0_layIn_73, r0_layIn_76, e_const, e_lconst, e_dconst, e_iload, e_kiload, e_aload, e_kaload, e_lload, e_klload, e_iinc, e_kiinc, e_istore, e_astore, e_lstore, e_dupI, e_dupR, e_dup2, e_iadd, e_isub, e_imul, e_idiv, e_irem, e_ladd, e_lmul, e_i2l, e_i2d, e_ddiv, e_icmp, e_if, e_goto, e_switch, e_tsw0, e_tsw1, e_getI, e_getA, e_putI, e_iald, e_iast, e_tnew, e_tald, e_tast, e_iret, e_zret, e_lret, e_dret, e_vret, e_throw, lg0, ls0, lt0, lg1, ls1, lo1, lt1, lg2, ls2, lo2, lt2, lg3, ls3, lo3, lt3, lg4, ls4, lo4, lt4, lg5, ls5, lo5, lt5, lg6, ls6, lo6, lt6, lg7, ls7, lo7, lt7, lg8, ls8, lo8, lo0, okI, okR, okN, e_calli1, e_calll1, e_callv1, e_xcalli1, e_xcallv1, e_acalli1, e_calli2, e_calll2, e_callv2, e_xcalli2, e_xcallv2, e_acalli2, e_calli3, e_calll3, e_callv3, e_xcalli3, e_xcallv3, e_acalli3, e_calli4, e_calll4, e_callv4, e_xcalli4, e_xcallv4, e_acalli4, e_scalli3, sh4_0, sh4_1, sh4_2, sh4_3, sh4_4, eqr, eqv, true_and, and_true, true_or, or_true, ln0_1, ln0_2, ln0_3, ln0_4, ln0_5, ln0_6, ln0_7, ln0_8, ln0_9, ln0_11, ln0_12, ln0_13, Int.toNat_natCast, e2]
      have h3 := hB.cl (i := p * 64 + i) (by omega)
      have h4 : gA S 9 (p * 64 + i) ≠ -1 := by simpa [frB] using hn i hi
      exact ⟨⟨⟨by omega, by omega⟩, by omega, by omega⟩, fun h => by omega, fun h => ⟨⟨by omega, by omega⟩, ⟨⟨by omega, by omega⟩, by omega, by omega⟩, fun h5 => ih, fun h5 => absurd h4 h5⟩⟩
  simp only [r0_layIn_0, r0_layIn_1, r0_layIn_2, r0_layIn_5, r0_layIn_6, r0_layIn_7, r0_layIn_11, r0_layIn_12, r0_layIn_15, r0_layIn_16, r0_layIn_19, r0_layIn_20, r0_layIn_22, r0_layIn_23, r0_layIn_25, r0_layIn_26, r0_layIn_27, r0_layIn_28, r0_layIn_31, r0_layIn_32, r0_layIn_35, r0_layIn_36, r0_layIn_38, r0_layIn_39, r0_layIn_41, r0_layIn_42, r0_layIn_43, r0_layIn_44, r0_layIn_45, r0_layIn_48, r0_layIn_49, r0_layIn_50, r0_layIn_51, r0_layIn_52, r0_layIn_53, r0_layIn_54, r0_layIn_55, r0_layIn_58, r0_layIn_59, r0_layIn_60, r0_layIn_61, r0_layIn_62, r0_layIn_65, r0_layIn_66, r0_layIn_68, r0_layIn_69, r0_layIn_70, r0_layIn_73, r0_layIn_76, e_const, e_lconst, e_dconst, e_iload, e_kiload, e_aload, e_kaload, e_lload, e_klload, e_iinc, e_kiinc, e_istore, e_astore, e_lstore, e_dupI, e_dupR, e_dup2, e_iadd, e_isub, e_imul, e_idiv, e_irem, e_ladd, e_lmul, e_i2l, e_i2d, e_ddiv, e_icmp, e_if, e_goto, e_switch, e_tsw0, e_tsw1, e_getI, e_getA, e_putI, e_iald, e_iast, e_tnew, e_tald, e_tast, e_iret, e_zret, e_lret, e_dret, e_vret, e_throw, lg0, ls0, lt0, lg1, ls1, lo1, lt1, lg2, ls2, lo2, lt2, lg3, ls3, lo3, lt3, lg4, ls4, lo4, lt4, lg5, ls5, lo5, lt5, lg6, ls6, lo6, lt6, lg7, ls7, lo7, lt7, lg8, ls8, lo8, lo0, okI, okR, okN, e_calli1, e_calll1, e_callv1, e_xcalli1, e_xcallv1, e_acalli1, e_calli2, e_calll2, e_callv2, e_xcalli2, e_xcallv2, e_acalli2, e_calli3, e_calll3, e_callv3, e_xcalli3, e_xcallv3, e_acalli3, e_calli4, e_calll4, e_callv4, e_xcalli4, e_xcallv4, e_acalli4, e_scalli3, sh4_0, sh4_1, sh4_2, sh4_3, sh4_4, eqr, eqv, true_and, and_true, true_or, or_true, ln0_1, ln0_2, ln0_3, ln0_4, ln0_5, ln0_6, ln0_7, ln0_8, ln0_9, ln0_11, ln0_12, ln0_13]
  refine ⟨_, run0_cellsAt hp hB, ?_⟩
  rintro r S1 ⟨rfl, rfl⟩
  exact key 0 (by omega)
def liT (S : ST) (t p c : Nat) : ST := pA (pA (pA S 9 (p * 64 + c) (-1)) 8 p (gA S 8 p - 1)) 12 t (-1)
theorem run0_liftOut {S : ST} {t p c : Nat} (ht : t < 150) (hp : p < 20) (hc : c < 64) (h12 : gA S 12 t = p) (h13 : gA S 13 t = c) : X0_liftOut [vR 0, vI t] S (eqv (liT S t p c)) nox := by
  refine ⟨Nat.le_of_ble_eq_true rfl, ?_⟩
  show RR _ 0 [some (vR 0), some (vI t), none] [] S
  have e2 : ((p : Int) * 64 + c).toNat = p * 64 + c := by omega
  simp only [r0_liftOut_0, r0_liftOut_1, r0_liftOut_4, r0_liftOut_5, r0_liftOut_6, r0_liftOut_7, r0_liftOut_8, r0_liftOut_11, r0_liftOut_12, r0_liftOut_14, r0_liftOut_15, r0_liftOut_16, r0_liftOut_19, r0_liftOut_20, r0_liftOut_21, r0_liftOut_22, r0_liftOut_23, r0_liftOut_24, r0_liftOut_25, r0_liftOut_28, r0_liftOut_29, r0_liftOut_30, r0_liftOut_31, r0_liftOut_32, r0_liftOut_33, r0_liftOut_34, r0_liftOut_35, r0_liftOut_38, r0_liftOut_39, r0_liftOut_40, r0_liftOut_41, e_const, e_lconst, e_dconst, e_iload, e_kiload, e_aload, e_kaload, e_lload, e_klload, e_iinc, e_kiinc, e_istore, e_astore, e_lstore, e_dupI, e_dupR, e_dup2, e_iadd, e_isub, e_imul, e_idiv, e_irem, e_ladd, e_lmul, e_i2l, e_i2d, e_ddiv, e_icmp, e_if, e_goto, e_switch, e_tsw0, e_tsw1, e_getI, e_getA, e_putI, e_iald, e_iast, e_tnew, e_tald, e_tast, e_iret, e_zret, e_lret, e_dret, e_vret, e_throw, lg0, ls0, lt0, lg1, ls1, lo1, lt1, lg2, ls2, lo2, lt2, lg3, ls3, lo3, lt3, lg4, ls4, lo4, lt4, lg5, ls5, lo5, lt5, lg6, ls6, lo6, lt6, lg7, ls7, lo7, lt7, lg8, ls8, lo8, lo0, okI, okR, okN, e_calli1, e_calll1, e_callv1, e_xcalli1, e_xcallv1, e_acalli1, e_calli2, e_calll2, e_callv2, e_xcalli2, e_xcallv2, e_acalli2, e_calli3, e_calll3, e_callv3, e_xcalli3, e_xcallv3, e_acalli3, e_calli4, e_calll4, e_callv4, e_xcalli4, e_xcallv4, e_acalli4, e_scalli3, sh4_0, sh4_1, sh4_2, sh4_3, sh4_4, eqr, eqv, true_and, and_true, true_or, or_true, ln0_1, ln0_2, ln0_3, ln0_4, ln0_5, ln0_6, ln0_7, ln0_8, ln0_9, ln0_11, ln0_12, ln0_13, Int.toNat_natCast, h12, h13, e2]
  exact ⟨⟨by omega, by omega⟩, ⟨by omega, by omega⟩, ⟨by omega, by omega⟩, ⟨by omega, by omega⟩, ⟨by omega, by omega⟩, ⟨by omega, by omega⟩, rfl⟩
/-- a new kind -/
def kiT (S : ST) (k : Nat) (z s : Int) : ST := pF (pA (pA (pA (pA S 1 k z) 2 k s) 3 k (64 / z)) 4 k (64 % z)) 0 (k + 1)
theorem run0_kind_ok {S : ST} {k : Nat} {z s : Int} (hz : 1 ≤ z ∧ z ≤ 32) (hs : 1 ≤ s ∧ s ≤ 16) (hk : fF S 0 = k) (hk6 : k < 6) : X0_kind [vR 0, vI z, vI s] S (eqr k (kiT S k z s)) nox := by
  refine ⟨Nat.le_of_ble_eq_true rfl, ?_⟩
  show RR _ 0 [some (vR 0), some (vI z), some (vI s), none] [] S
  simp only [r0_kind_0, r0_kind_1, r0_kind_2, r0_kind_5, r0_kind_6, r0_kind_8, r0_kind_11, r0_kind_21, r0_kind_22, r0_kind_23, r0_kind_26, r0_kind_27, r0_kind_29, r0_kind_32, r0_kind_42, r0_kind_43, r0_kind_46, r0_kind_48, r0_kind_51, r0_kind_61, r0_kind_62, r0_kind_65, r0_kind_66, r0_kind_67, r0_kind_70, r0_kind_71, r0_kind_72, r0_kind_73, r0_kind_74, r0_kind_77, r0_kind_78, r0_kind_79, r0_kind_80, r0_kind_81, r0_kind_84, r0_kind_85, r0_kind_87, r0_kind_88, r0_kind_89, r0_kind_90, r0_kind_91, r0_kind_94, r0_kind_95, r0_kind_97, r0_kind_98, r0_kind_99, r0_kind_100, r0_kind_101, r0_kind_102, r0_kind_105, r0_kind_106, r0_kind_107, r0_kind_110, r0_kind_111, e_const, e_lconst, e_dconst, e_iload, e_kiload, e_aload, e_kaload, e_lload, e_klload, e_iinc, e_kiinc, e_istore, e_astore, e_lstore, e_dupI, e_dupR, e_dup2, e_iadd, e_isub, e_imul, e_idiv, e_irem, e_ladd, e_lmul, e_i2l, e_i2d, e_ddiv, e_icmp, e_if, e_goto, e_switch, e_tsw0, e_tsw1, e_getI, e_getA, e_putI, e_iald, e_iast, e_tnew, e_tald, e_tast, e_iret, e_zret, e_lret, e_dret, e_vret, e_throw, lg0, ls0, lt0, lg1, ls1, lo1, lt1, lg2, ls2, lo2, lt2, lg3, ls3, lo3, lt3, lg4, ls4, lo4, lt4, lg5, ls5, lo5, lt5, lg6, ls6, lo6, lt6, lg7, ls7, lo7, lt7, lg8, ls8, lo8, lo0, okI, okR, okN, e_calli1, e_calll1, e_callv1, e_xcalli1, e_xcallv1, e_acalli1, e_calli2, e_calll2, e_callv2, e_xcalli2, e_xcallv2, e_acalli2, e_calli3, e_calll3, e_callv3, e_xcalli3, e_xcallv3, e_acalli3, e_calli4, e_calll4, e_callv4, e_xcalli4, e_xcallv4, e_acalli4, e_scalli3, sh4_0, sh4_1, sh4_2, sh4_3, sh4_4, eqr, eqv, true_and, and_true, true_or, or_true, ln0_1, ln0_2, ln0_3, ln0_4, ln0_5, ln0_6, ln0_7, ln0_8, ln0_9, ln0_11, ln0_12, ln0_13, Int.toNat_natCast, hk, fF_pA]
  have h5 : kiT S k z s = pF (pA (pA (pA (pA S 1 k z) 2 k s) 3 k (64 / z)) 4 k (64 % z)) 0 (k + 1) := rfl
  rw [h5]
  ((repeat' (first | apply And.intro | intro _)) <;> first | omega | trivial)
theorem run0_kind_no1 {S : ST} {z s : Int} (hrz : rng z) (hrs : rng s) (hn : ¬ ((1 ≤ z ∧ z ≤ 32) ∧ 1 ≤ s ∧ s ≤ 16)) (hB : B0 S) : X0_kind [vR 0, vI z, vI s] S bo1 (eqx IAE S) := by
  refine ⟨Nat.le_of_ble_eq_true rfl, ?_⟩
  show RR _ 0 [some (vR 0), some (vI z), some (vI s), none] [] S
  have h0 := hB.kc
  rw [r0_kind_0]
  simp only [r0_kind_1, r0_kind_2, r0_kind_5, r0_kind_6, r0_kind_8, r0_kind_11, r0_kind_21, r0_kind_22, r0_kind_23, r0_kind_26, r0_kind_27, r0_kind_29, r0_kind_32, r0_kind_43, r0_kind_46, r0_kind_48, r0_kind_51, r0_kind_61, r0_kind_62, r0_kind_65, r0_kind_66, r0_kind_67, r0_kind_70, r0_kind_71, r0_kind_72, r0_kind_73, r0_kind_74, r0_kind_77, r0_kind_78, r0_kind_79, r0_kind_80, r0_kind_81, r0_kind_84, r0_kind_85, r0_kind_87, r0_kind_88, r0_kind_89, r0_kind_90, r0_kind_91, r0_kind_94, r0_kind_95, r0_kind_97, r0_kind_98, r0_kind_99, r0_kind_100, r0_kind_101, r0_kind_102, r0_kind_105, r0_kind_106, r0_kind_107, r0_kind_110, r0_kind_111, e_const, e_lconst, e_dconst, e_iload, e_kiload, e_aload, e_kaload, e_lload, e_klload, e_iinc, e_kiinc, e_istore, e_astore, e_lstore, e_dupI, e_dupR, e_dup2, e_iadd, e_isub, e_imul, e_idiv, e_irem, e_ladd, e_lmul, e_i2l, e_i2d, e_ddiv, e_icmp, e_if, e_goto, e_switch, e_tsw0, e_tsw1, e_getI, e_getA, e_putI, e_iald, e_iast, e_tnew, e_tald, e_tast, e_iret, e_zret, e_lret, e_dret, e_vret, e_throw, lg0, ls0, lt0, lg1, ls1, lo1, lt1, lg2, ls2, lo2, lt2, lg3, ls3, lo3, lt3, lg4, ls4, lo4, lt4, lg5, ls5, lo5, lt5, lg6, ls6, lo6, lt6, lg7, ls7, lo7, lt7, lg8, ls8, lo8, lo0, okI, okR, okN, e_calli1, e_calll1, e_callv1, e_xcalli1, e_xcallv1, e_acalli1, e_calli2, e_calll2, e_callv2, e_xcalli2, e_xcallv2, e_acalli2, e_calli3, e_calll3, e_callv3, e_xcalli3, e_xcallv3, e_acalli3, e_calli4, e_calll4, e_callv4, e_xcalli4, e_xcallv4, e_acalli4, e_scalli3, sh4_0, sh4_1, sh4_2, sh4_3, sh4_4, eqr, eqv, true_and, and_true, true_or, or_true, ln0_1, ln0_2, ln0_3, ln0_4, ln0_5, ln0_6, ln0_7, ln0_8, ln0_9, ln0_11, ln0_12, ln0_13]
  have hx : eqx IAE S "java/lang/IllegalArgumentException" S := ⟨rfl, rfl⟩
  exact ⟨⟨hrz, by omega, by omega⟩, fun h => hx, fun h => ⟨⟨hrz, by omega, by omega⟩, fun h2 => ⟨⟨hrs, by omega, by omega⟩, fun h3 => hx, fun h3 => ⟨⟨hrs, by omega, by omega⟩, fun h4 => by omega, fun h4 => hx⟩⟩, fun h2 => hx⟩⟩
theorem run0_kind_no2 {S : ST} {z s : Int} (hz : 1 ≤ z ∧ z ≤ 32) (hs : 1 ≤ s ∧ s ≤ 16) (hk : fF S 0 = 6) : X0_kind [vR 0, vI z, vI s] S bo1 (eqx ISE S) := by
  refine ⟨Nat.le_of_ble_eq_true rfl, ?_⟩
  show RR _ 0 [some (vR 0), some (vI z), some (vI s), none] [] S
  simp only [r0_kind_0, r0_kind_1, r0_kind_2, r0_kind_5, r0_kind_6, r0_kind_8, r0_kind_11, r0_kind_21, r0_kind_22, r0_kind_23, r0_kind_26, r0_kind_27, r0_kind_29, r0_kind_32, r0_kind_42, r0_kind_43, r0_kind_46, r0_kind_48, r0_kind_51, r0_kind_62, r0_kind_65, r0_kind_66, r0_kind_67, r0_kind_70, r0_kind_71, r0_kind_72, r0_kind_73, r0_kind_74, r0_kind_77, r0_kind_78, r0_kind_79, r0_kind_80, r0_kind_81, r0_kind_84, r0_kind_85, r0_kind_87, r0_kind_88, r0_kind_89, r0_kind_90, r0_kind_91, r0_kind_94, r0_kind_95, r0_kind_97, r0_kind_98, r0_kind_99, r0_kind_100, r0_kind_101, r0_kind_102, r0_kind_105, r0_kind_106, r0_kind_107, r0_kind_110, r0_kind_111, e_const, e_lconst, e_dconst, e_iload, e_kiload, e_aload, e_kaload, e_lload, e_klload, e_iinc, e_kiinc, e_istore, e_astore, e_lstore, e_dupI, e_dupR, e_dup2, e_iadd, e_isub, e_imul, e_idiv, e_irem, e_ladd, e_lmul, e_i2l, e_i2d, e_ddiv, e_icmp, e_if, e_goto, e_switch, e_tsw0, e_tsw1, e_getI, e_getA, e_putI, e_iald, e_iast, e_tnew, e_tald, e_tast, e_iret, e_zret, e_lret, e_dret, e_vret, e_throw, lg0, ls0, lt0, lg1, ls1, lo1, lt1, lg2, ls2, lo2, lt2, lg3, ls3, lo3, lt3, lg4, ls4, lo4, lt4, lg5, ls5, lo5, lt5, lg6, ls6, lo6, lt6, lg7, ls7, lo7, lt7, lg8, ls8, lo8, lo0, okI, okR, okN, e_calli1, e_calll1, e_callv1, e_xcalli1, e_xcallv1, e_acalli1, e_calli2, e_calll2, e_callv2, e_xcalli2, e_xcallv2, e_acalli2, e_calli3, e_calll3, e_callv3, e_xcalli3, e_xcallv3, e_acalli3, e_calli4, e_calll4, e_callv4, e_xcalli4, e_xcallv4, e_acalli4, e_scalli3, sh4_0, sh4_1, sh4_2, sh4_3, sh4_4, eqr, eqv, true_and, and_true, true_or, or_true, ln0_1, ln0_2, ln0_3, ln0_4, ln0_5, ln0_6, ln0_7, ln0_8, ln0_9, ln0_11, ln0_12, ln0_13, hk]
  have hx : eqx ISE S "java/lang/IllegalStateException" S := ⟨rfl, rfl⟩
  ((repeat' (first | exact hx | apply And.intro | intro _)) <;> omega)
/-- the last cell below n that isn't free -/
def lst1 (P : Nat → Bool) : Nat → Int
  | 0 => -1
  | n + 1 => if P n then (n : Int) else lst1 P n
theorem run0_moveLast {S : ST} {t p q c c2 : Nat} (hp : p < 20) (hq : q < 20) (hB : B0 S) (hc : (c : Int) < cellsC S p) (hl : ∀ j : Nat, c < j → (j : Int) < cellsC S p → gA S 9 (p * 64 + j) = -1) (ht : gA S 9 (p * 64 + c) = t) (h12 : gA S 12 t = p) (h13 : gA S 13 t = c) (h8 : 1 ≤ gA S 8 p)
    (hc2 : (c2 : Int) < cellsC (liT S t p c) q) (hf : frB (liT S t p c) q c2 = true) (hn : ∀ j, j < c2 → frB (liT S t p c) q j = false) : X0_moveLast [vR 0, vI p, vI q] S (eqv (laT (liT S t p c) t q c2)) nox := by
  refine ⟨Nat.le_of_ble_eq_true rfl, ?_⟩
  show RR _ 0 [some (vR 0), some (vI p), some (vI q), none, none] [] S
  have h1 := cellsC_b hp hB
  have h7 := hB.cl (i := p * 64 + c) (by omega)
  have h6 := hB.pl hp
  have hB2 : B0 (liT S t p c) := by
    unfold liT
    refine B0.set (B0.set (B0.set hB ?_) ?_) ?_ <;> refine ⟨?_, ?_, ?_, ?_, ?_, ?_, ?_, ?_, ?_, ?_, ?_⟩ <;> intro h <;> omega
  have key : ∀ n : Nat, (n : Int) + 1 + c ≤ cellsC S p → ∀ z : Option AV, RR (T0_moveLast (eqv (laT (liT S t p c) t q c2)) nox) 8 [some (vR 0), some (vI p), some (vI q), some (vI ((c : Int) + n)), z] [] S := by
    intro n
    induction n with
    | zero =>
      intro hn0 z
      rw [r0_moveLast_8]
      have e2 : ((p : Int) * 64 + ((c : Int) + ((0 : Nat) : Int))).toNat = p * 64 + c := by omega
      simp only [r0_moveLast_0, r0_moveLast_1, r0_moveLast_2, r0_moveLast_5, r0_moveLast_6, r0_moveLast_7, r0_moveLast_9, r0_moveLast_12, r0_moveLast_13, r0_moveLast_16, r0_moveLast_17, r0_moveLast_19, r0_moveLast_20, r0_moveLast_21, r0_moveLast_22, r0_moveLast_23, r0_moveLast_25, r0_moveLast_27, r0_moveLast_28, r0_moveLast_31, r0_moveLast_32, r0_moveLast_34, r0_moveLast_37, r0_moveLast_38, r0_moveLast_40, r0_moveLast_41, r0_moveLast_44, r0_moveLast_45, r0_moveLast_48, r0_moveLast_51, e_const, e_lconst, e_dconst, e_iload, e_kiload, e_aload, e_kaload, e_lload, e_klload, e_iinc, e_kiinc, e_istore, e_astore, e_lstore, e_dupI, e_dupR, e_dup2, e_iadd, e_isub, e_imul, e_idiv, e_irem, e_ladd, e_lmul, e_i2l, e_i2d, e_ddiv, e_icmp, e_if, e_goto, e_switch, e_tsw0, e_tsw1, e_getI, e_getA, e_putI, e_iald, e_iast, e_tnew, e_tald, e_tast, e_iret, e_zret, e_lret, e_dret, e_vret, e_throw, lg0, ls0, lt0, lg1, ls1, lo1, lt1, lg2, ls2, lo2, lt2, lg3, ls3, lo3, lt3, lg4, ls4, lo4, lt4, lg5, ls5, lo5, lt5, lg6, ls6, lo6, lt6, lg7, ls7, lo7, lt7, lg8, ls8, lo8, lo0, okI, okR, okN, e_calli1, e_calll1, e_callv1, e_xcalli1, e_xcallv1, e_acalli1, e_calli2, e_calll2, e_callv2, e_xcalli2, e_xcallv2, e_acalli2, e_calli3, e_calll3, e_callv3, e_xcalli3, e_xcallv3, e_acalli3, e_calli4, e_calll4, e_callv4, e_xcalli4, e_xcallv4, e_acalli4, e_scalli3, sh4_0, sh4_1, sh4_2, sh4_3, sh4_4, eqr, eqv, true_and, and_true, true_or, or_true, ln0_1, ln0_2, ln0_3, ln0_4, ln0_5, ln0_6, ln0_7, ln0_8, ln0_9, ln0_11, ln0_12, ln0_13, Int.toNat_natCast, e2, ht]
      refine ⟨⟨by omega, by omega⟩, fun h => by omega, fun h => ⟨⟨by omega, by omega⟩, ⟨⟨by omega, by omega⟩, by omega, by omega⟩, fun h5 => by omega, fun h5 => ⟨_, run0_liftOut (by omega) hp (by omega) h12 h13, ?_⟩⟩⟩
      rintro S1 rfl
      refine ⟨_, run0_layIn (by omega) hq hB2 hc2 hf hn, ?_⟩
      rintro S1 rfl
      rfl
    | succ n ih =>
      intro hn0 z
      rw [r0_moveLast_8]
      have e2 : ((p : Int) * 64 + ((c : Int) + ((n + 1 : Nat) : Int))).toNat = p * 64 + (c + (n + 1)) := by omega
      have e3 : gA S 9 (p * 64 + (c + (n + 1))) = -1 := hl (c + (n + 1)) (by omega) (by omega)
      simp only [r0_moveLast_0, r0_moveLast_1, r0_moveLast_2, r0_moveLast_5, r0_moveLast_6, r0_moveLast_7, r0_moveLast_9, r0_moveLast_12, r0_moveLast_13, r0_moveLast_16, r0_moveLast_17, r0_moveLast_19, r0_moveLast_20, r0_moveLast_21, r0_moveLast_22, r0_moveLast_23, r0_moveLast_25, r0_moveLast_27, r0_moveLast_28, r0_moveLast_31, r0_moveLast_32, r0_moveLast_34, r0_moveLast_37, r0_moveLast_38, r0_moveLast_40, r0_moveLast_41, r0_moveLast_44, r0_moveLast_45, r0_moveLast_48, r0_moveLast_51, e_const, e_lconst, e_dconst, e_iload, e_kiload, e_aload, e_kaload, e_lload, e_klload, e_iinc, e_kiinc, e_istore, e_astore, e_lstore, e_dupI, e_dupR, e_dup2, e_iadd, e_isub, e_imul, e_idiv, e_irem, e_ladd, e_lmul, e_i2l, e_i2d, e_ddiv, e_icmp, e_if, e_goto, e_switch, e_tsw0, e_tsw1, e_getI, e_getA, e_putI, e_iald, e_iast, e_tnew, e_tald, e_tast, e_iret, e_zret, e_lret, e_dret, e_vret, e_throw, lg0, ls0, lt0, lg1, ls1, lo1, lt1, lg2, ls2, lo2, lt2, lg3, ls3, lo3, lt3, lg4, ls4, lo4, lt4, lg5, ls5, lo5, lt5, lg6, ls6, lo6, lt6, lg7, ls7, lo7, lt7, lg8, ls8, lo8, lo0, okI, okR, okN, e_calli1, e_calll1, e_callv1, e_xcalli1, e_xcallv1, e_acalli1, e_calli2, e_calll2, e_callv2, e_xcalli2, e_xcallv2, e_acalli2, e_calli3, e_calll3, e_callv3, e_xcalli3, e_xcallv3, e_acalli3, e_calli4, e_calll4, e_callv4, e_xcalli4, e_xcallv4, e_acalli4, e_scalli3, sh4_0, sh4_1, sh4_2, sh4_3, sh4_4, eqr, eqv, true_and, and_true, true_or, or_true, ln0_1, ln0_2, ln0_3, ln0_4, ln0_5, ln0_6, ln0_7, ln0_8, ln0_9, ln0_11, ln0_12, ln0_13, Int.toNat_natCast, e2, e3]
      refine ⟨⟨by omega, by omega⟩, fun h => by omega, fun h => ⟨⟨by omega, by omega⟩, ⟨⟨by omega, by omega⟩, by omega, by omega⟩, fun _ => ?_, fun h5 => absurd trivial h5⟩⟩
      have := ih (by omega) (some (vI (-1)))
      rw [show ((c : Int) + ((n + 1 : Nat) : Int) + (-1)) = (c : Int) + n by omega]
      exact this
  simp only [r0_moveLast_0, r0_moveLast_1, r0_moveLast_2, r0_moveLast_5, r0_moveLast_6, r0_moveLast_7, r0_moveLast_9, r0_moveLast_12, r0_moveLast_13, r0_moveLast_16, r0_moveLast_17, r0_moveLast_19, r0_moveLast_20, r0_moveLast_21, r0_moveLast_22, r0_moveLast_23, r0_moveLast_25, r0_moveLast_27, r0_moveLast_28, r0_moveLast_31, r0_moveLast_32, r0_moveLast_34, r0_moveLast_37, r0_moveLast_38, r0_moveLast_40, r0_moveLast_41, r0_moveLast_44, r0_moveLast_45, r0_moveLast_48, r0_moveLast_51, e_const, e_lconst, e_dconst, e_iload, e_kiload, e_aload, e_kaload, e_lload, e_klload, e_iinc, e_kiinc, e_istore, e_astore, e_lstore, e_dupI, e_dupR, e_dup2, e_iadd, e_isub, e_imul, e_idiv, e_irem, e_ladd, e_lmul, e_i2l, e_i2d, e_ddiv, e_icmp, e_if, e_goto, e_switch, e_tsw0, e_tsw1, e_getI, e_getA, e_putI, e_iald, e_iast, e_tnew, e_tald, e_tast, e_iret, e_zret, e_lret, e_dret, e_vret, e_throw, lg0, ls0, lt0, lg1, ls1, lo1, lt1, lg2, ls2, lo2, lt2, lg3, ls3, lo3, lt3, lg4, ls4, lo4, lt4, lg5, ls5, lo5, lt5, lg6, ls6, lo6, lt6, lg7, ls7, lo7, lt7, lg8, ls8, lo8, lo0, okI, okR, okN, e_calli1, e_calll1, e_callv1, e_xcalli1, e_xcallv1, e_acalli1, e_calli2, e_calll2, e_callv2, e_xcalli2, e_xcallv2, e_acalli2, e_calli3, e_calll3, e_callv3, e_xcalli3, e_xcallv3, e_acalli3, e_calli4, e_calll4, e_callv4, e_xcalli4, e_xcallv4, e_acalli4, e_scalli3, sh4_0, sh4_1, sh4_2, sh4_3, sh4_4, eqr, eqv, true_and, and_true, true_or, or_true, ln0_1, ln0_2, ln0_3, ln0_4, ln0_5, ln0_6, ln0_7, ln0_8, ln0_9, ln0_11, ln0_12, ln0_13]
  refine ⟨_, run0_cellsAt hp hB, ?_⟩
  rintro r S1 ⟨rfl, rfl⟩
  have := key ((cellsC S1 p).toNat - 1 - c) (by omega) none
  rw [show ((c : Int) + (((cellsC S1 p).toNat - 1 - c : Nat) : Int)) = cellsC S1 p - 1 by omega] at this
  exact this
/-- sweep: every empty tray goes -/
def swF (S : ST) : Nat → ST × Int
  | 0 => (S, 0)
  | n + 1 => if gA (swF S n).1 6 n ≠ -1 ∧ gA (swF S n).1 8 n = 0 then (drT (swF S n).1 n, (swF S n).2 + 1) else swF S n
theorem swF_y {S : ST} {n : Nat} (h : gA (swF S n).1 6 n ≠ -1 ∧ gA (swF S n).1 8 n = 0) : swF S (n + 1) = (drT (swF S n).1 n, (swF S n).2 + 1) := by
  show (if _ then _ else _) = _
  rw [if_pos h]
theorem swF_n {S : ST} {n : Nat} (h : ¬ (gA (swF S n).1 6 n ≠ -1 ∧ gA (swF S n).1 8 n = 0)) : swF S (n + 1) = swF S n := by
  show (if _ then _ else _) = _
  rw [if_neg h]
theorem drT_B0 {S : ST} {p : Nat} (hB : B0 S) : B0 (drT S p) := by
  unfold drT
  refine B0.setF (B0.set hB ?_) ?_
  · refine ⟨?_, ?_, ?_, ?_, ?_, ?_, ?_, ?_, ?_, ?_, ?_⟩ <;> intro h <;> omega
  · refine ⟨?_, ?_⟩ <;> intro h <;> omega
theorem swF_B0 {S : ST} (hB : B0 S) : ∀ n, B0 (swF S n).1
  | 0 => hB
  | n + 1 => by
    by_cases h : gA (swF S n).1 6 n ≠ -1 ∧ gA (swF S n).1 8 n = 0
    · rw [swF_y h]; exact drT_B0 (swF_B0 hB n)
    · rw [swF_n h]; exact swF_B0 hB n
theorem run0_sweep {S : ST} (hB : B0 S) : X0_sweep [vR 0] S (eqr (swF S 20).2 (swF S 20).1) nox := by
  refine ⟨Nat.le_of_ble_eq_true rfl, ?_⟩
  show RR _ 0 [some (vR 0), none, none] [] S
  have loop : ∀ i, i ≤ 20 → RR (T0_sweep (eqr (swF S 20).2 (swF S 20).1) nox) 4 [some (vR 0), some (vI (swF S i).2), some (vI i)] [] (swF S i).1 := by
    refine up ?_ ?_
    · rw [r0_sweep_4]
      simp only [r0_sweep_0, r0_sweep_1, r0_sweep_2, r0_sweep_3, r0_sweep_5, r0_sweep_7, r0_sweep_10, r0_sweep_11, r0_sweep_14, r0_sweep_15, r0_sweep_16, r0_sweep_17, r0_sweep_20, r0_sweep_21, r0_sweep_24, r0_sweep_25, r0_sweep_26, r0_sweep_29, r0_sweep_30, r0_sweep_31, r0_sweep_34, r0_sweep_37, r0_sweep_40, r0_sweep_43, r0_sweep_44, e_const, e_lconst, e_dconst, e_iload, e_kiload, e_aload, e_kaload, e_lload, e_klload, e_iinc, e_kiinc, e_istore, e_astore, e_lstore, e_dupI, e_dupR, e_dup2, e_iadd, e_isub, e_imul, e_idiv, e_irem, e_ladd, e_lmul, e_i2l, e_i2d, e_ddiv, e_icmp, e_if, e_goto, e_switch, e_tsw0, e_tsw1, e_getI, e_getA, e_putI, e_iald, e_iast, e_tnew, e_tald, e_tast, e_iret, e_zret, e_lret, e_dret, e_vret, e_throw, lg0, ls0, lt0, lg1, ls1, lo1, lt1, lg2, ls2, lo2, lt2, lg3, ls3, lo3, lt3, lg4, ls4, lo4, lt4, lg5, ls5, lo5, lt5, lg6, ls6, lo6, lt6, lg7, ls7, lo7, lt7, lg8, ls8, lo8, lo0, okI, okR, okN, e_calli1, e_calll1, e_callv1, e_xcalli1, e_xcallv1, e_acalli1, e_calli2, e_calll2, e_callv2, e_xcalli2, e_xcallv2, e_acalli2, e_calli3, e_calll3, e_callv3, e_xcalli3, e_xcallv3, e_acalli3, e_calli4, e_calll4, e_callv4, e_xcalli4, e_xcallv4, e_acalli4, e_scalli3, sh4_0, sh4_1, sh4_2, sh4_3, sh4_4, eqr, eqv, true_and, and_true, true_or, or_true, ln0_1, ln0_2, ln0_3, ln0_4, ln0_5, ln0_6, ln0_7, ln0_8, ln0_9, ln0_11, ln0_12, ln0_13]
      refine ⟨⟨⟨by omega, by omega⟩, by omega, by omega⟩, fun h => trivial, fun h => absurd h (by omega)⟩
    · intro i hi ih
      rw [r0_sweep_4]
      simp only [r0_sweep_0, r0_sweep_1, r0_sweep_2, r0_sweep_3, r0_sweep_5, r0_sweep_7, r0_sweep_10, r0_sweep_11, r0_sweep_14, r0_sweep_15, r0_sweep_16, r0_sweep_17, r0_sweep_20, r0_sweep_21, r0_sweep_24, r0_sweep_25, r0_sweep_26, r0_sweep_29, r0_sweep_30, r0_sweep_31, r0_sweep_34, r0_sweep_37, r0_sweep_40, r0_sweep_43, r0_sweep_44, e_const, e_lconst, e_dconst, e_iload, e_kiload, e_aload, e_kaload, e_lload, e_klload, e_iinc, e_kiinc, e_istore, e_astore, e_lstore, e_dupI, e_dupR, e_dup2, e_iadd, e_isub, e_imul, e_idiv, e_irem, e_ladd, e_lmul, e_i2l, e_i2d, e_ddiv, e_icmp, e_if, e_goto, e_switch, e_tsw0, e_tsw1, e_getI, e_getA, e_putI, e_iald, e_iast, e_tnew, e_tald, e_tast, e_iret, e_zret, e_lret, e_dret, e_vret, e_throw, lg0, ls0, lt0, lg1, ls1, lo1, lt1, lg2, ls2, lo2, lt2, lg3, ls3, lo3, lt3, lg4, ls4, lo4, lt4, lg5, ls5, lo5, lt5, lg6, ls6, lo6, lt6, lg7, ls7, lo7, lt7, lg8, ls8, lo8, lo0, okI, okR, okN, e_calli1, e_calll1, e_callv1, e_xcalli1, e_xcallv1, e_acalli1, e_calli2, e_calll2, e_callv2, e_xcalli2, e_xcallv2, e_acalli2, e_calli3, e_calll3, e_callv3, e_xcalli3, e_xcallv3, e_acalli3, e_calli4, e_calll4, e_callv4, e_xcalli4, e_xcallv4, e_acalli4, e_scalli3, sh4_0, sh4_1, sh4_2, sh4_3, sh4_4, eqr, eqv, true_and, and_true, true_or, or_true, ln0_1, ln0_2, ln0_3, ln0_4, ln0_5, ln0_6, ln0_7, ln0_8, ln0_9, ln0_11, ln0_12, ln0_13, Int.toNat_natCast]
      have h1 := (swF_B0 hB i).pl hi
      refine ⟨⟨⟨by omega, by omega⟩, by omega, by omega⟩, fun h => by omega, fun h => ⟨⟨by omega, by omega⟩, ⟨⟨by omega, by omega⟩, by omega, by omega⟩, fun h2 => ?_, fun h2 => ⟨⟨by omega, by omega⟩, ⟨by omega, by omega⟩, fun h3 => ?_, fun h3 => ⟨_, run0_dropTray hi, ?_⟩⟩⟩⟩
      · rw [swF_n (fun z => z.1 h2)] at ih
        exact ih
      · rw [swF_n (fun z => h3 z.2)] at ih
        exact ih
      · rintro S1 rfl
        rw [swF_y ⟨h2, Decidable.not_not.mp h3⟩] at ih
        exact ih
  simp only [r0_sweep_0, r0_sweep_1, r0_sweep_2, r0_sweep_3, r0_sweep_5, r0_sweep_7, r0_sweep_10, r0_sweep_11, r0_sweep_14, r0_sweep_15, r0_sweep_16, r0_sweep_17, r0_sweep_20, r0_sweep_21, r0_sweep_24, r0_sweep_25, r0_sweep_26, r0_sweep_29, r0_sweep_30, r0_sweep_31, r0_sweep_34, r0_sweep_37, r0_sweep_40, r0_sweep_43, r0_sweep_44, e_const, e_lconst, e_dconst, e_iload, e_kiload, e_aload, e_kaload, e_lload, e_klload, e_iinc, e_kiinc, e_istore, e_astore, e_lstore, e_dupI, e_dupR, e_dup2, e_iadd, e_isub, e_imul, e_idiv, e_irem, e_ladd, e_lmul, e_i2l, e_i2d, e_ddiv, e_icmp, e_if, e_goto, e_switch, e_tsw0, e_tsw1, e_getI, e_getA, e_putI, e_iald, e_iast, e_tnew, e_tald, e_tast, e_iret, e_zret, e_lret, e_dret, e_vret, e_throw, lg0, ls0, lt0, lg1, ls1, lo1, lt1, lg2, ls2, lo2, lt2, lg3, ls3, lo3, lt3, lg4, ls4, lo4, lt4, lg5, ls5, lo5, lt5, lg6, ls6, lo6, lt6, lg7, ls7, lo7, lt7, lg8, ls8, lo8, lo0, okI, okR, okN, e_calli1, e_calll1, e_callv1, e_xcalli1, e_xcallv1, e_acalli1, e_calli2, e_calll2, e_callv2, e_xcalli2, e_xcallv2, e_acalli2, e_calli3, e_calll3, e_callv3, e_xcalli3, e_xcallv3, e_acalli3, e_calli4, e_calll4, e_callv4, e_xcalli4, e_xcallv4, e_acalli4, e_scalli3, sh4_0, sh4_1, sh4_2, sh4_3, sh4_4, eqr, eqv, true_and, and_true, true_or, or_true, ln0_1, ln0_2, ln0_3, ln0_4, ln0_5, ln0_6, ln0_7, ln0_8, ln0_9, ln0_11, ln0_12, ln0_13]
  exact loop 0 (by omega)
