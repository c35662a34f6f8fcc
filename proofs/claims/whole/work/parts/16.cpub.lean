/-! THE CLASS: put, take, pack -/
theorem cellsC_of {S : ST} {p : Nat} (h : gA S 6 p ≠ -1) : cellsC S p = gA S 3 (gA S 6 p).toNat := by unfold cellsC; rw [if_neg h]
/-- the place for a thing of the kind k: what it is -/
theorem mp_at {f g : Nat → Int} {k c : Int} : ∀ n : Nat, (mp f g k c n).1 = -1 ∨ ∃ p : Nat, p < n ∧ (mp f g k c n).1 = p ∧ f p = k ∧ 0 < g p ∧ g p < c ∧ (mp f g k c n).2 = g p
  | 0 => Or.inl rfl
  | n + 1 => by
    by_cases h : (f n = k ∧ 0 < g n ∧ g n < c) ∧ (mp f g k c n).2 < g n
    · rw [mp_y h]
      exact Or.inr ⟨n, by omega, rfl, h.1.1, h.1.2.1, h.1.2.2, rfl⟩
    · rw [mp_n h]
      rcases mp_at n with h1 | ⟨p, h1, h2⟩
      · exact Or.inl h1
      · exact Or.inr ⟨p, by omega, h2⟩
theorem lp_at {f g : Nat → Int} {k c : Int} : ∀ n : Nat, (lp f g k c n).1 = -1 ∨ ∃ p : Nat, p < n ∧ (lp f g k c n).1 = p ∧ f p = k ∧ 0 < g p ∧ g p < c ∧ (lp f g k c n).2 = g p
  | 0 => Or.inl rfl
  | n + 1 => by
    by_cases h : (f n = k ∧ 0 < g n ∧ g n < c) ∧ g n ≤ (lp f g k c n).2
    · rw [lp_y h]
      exact Or.inr ⟨n, by omega, rfl, h.1.1, h.1.2.1, h.1.2.2, rfl⟩
    · rw [lp_n h]
      rcases lp_at n with h1 | ⟨p, h1, h2⟩
      · exact Or.inl h1
      · exact Or.inr ⟨p, by omega, h2⟩
def plC (S : ST) (k : Nat) : Int := plF (gA S 6) (gA S 8) k (gA S 3 k)
/-- of the place: no tray there; or one of the kind with a free cell -/
theorem plC_at {S : ST} {k : Nat} (hI : Inv S) (hk : (k : Int) < fF S 0) : plC S k = -1 ∨ ∃ p : Nat, p < 20 ∧ plC S k = p ∧ (gA S 6 p = -1 ∨ (gA S 6 p = k ∧ gA S 8 p < gA S 3 k)) := by
  have hc := hI.2.1 k (by have := hI.1.kc; omega) hk
  have hcb := hI.1.kd (k := k) (by have := hI.1.kc; omega)
  have hc2 : 2 ≤ gA S 3 k := by
    rw [hc.2.1]
    have : gA S 1 k ≤ 32 := hcb.1.2
    exact (Int.le_ediv_iff_mul_le (by omega)).mpr (by omega)
  unfold plC plF
  split
  · rename_i h
    rcases mp_at (f := gA S 6) (g := gA S 8) (k := (k : Int)) (c := gA S 3 k) 20 with h1 | ⟨p, h1, h2, h3, h4, h5, -⟩
    · exact absurd h1 h
    · exact Or.inr ⟨p, h1, h2, Or.inr ⟨h3, h5⟩⟩
  · split
    · rename_i h
      rcases fst1_spec (P := emB (gA S 6) (gA S 8) k) 20 with ⟨h1, -⟩ | ⟨p, h1, h2, h3, -⟩
      · exact absurd h1 h
      · have h4 : gA S 6 p = k ∧ gA S 8 p = 0 := by simpa [emB] using h3
        exact Or.inr ⟨p, h1, h2, Or.inr ⟨h4.1, by omega⟩⟩
    · rcases fst1_spec (P := baB (gA S 6)) 20 with ⟨h1, -⟩ | ⟨p, h1, h2, h3, -⟩
      · exact Or.inl h1
      · exact Or.inr ⟨p, h1, h2, Or.inl (by simpa [baB] using h3)⟩
/-- put: the tray is there at last; the thing is laid into its first free cell -/
def opT (S : ST) (p k : Nat) : ST := if gA S 6 p = -1 then adT S p k else S
theorem opT_facts {S : ST} {k p : Nat} (hI : Inv S) (hk : (k : Int) < fF S 0) (hp : p < 20) (h : gA S 6 p = -1 ∨ (gA S 6 p = k ∧ gA S 8 p < gA S 3 k)) : Inv (opT S p k) ∧ gA (opT S p k) 6 p = k ∧ gA (opT S p k) 8 p < cellsC (opT S p k) p ∧ fF (opT S p k) 10 = fF S 10 ∧ fF (opT S p k) 0 = fF S 0 := by
  have h0 := hI.1.kc
  have hc := hI.2.1 k (by omega) hk
  have hcb := hI.1.kd (k := k) (by omega)
  have hc2 : 2 ≤ gA S 3 k := by
    rw [hc.2.1]
    have : gA S 1 k ≤ 32 := hcb.1.2
    exact (Int.le_ediv_iff_mul_le (by omega)).mpr (by omega)
  unfold opT
  by_cases e : gA S 6 p = -1
  · rw [if_pos e]
    have e6 : gA (adT S p k) 6 p = k := by
      unfold adT
      rw [gA_o (by decide), gA_o (by decide), gA_s]
    have e8 : gA (adT S p k) 8 p = gA S 8 p := rfl
    have e3 : gA (adT S p k) 3 k = gA S 3 k := rfl
    have h8 : gA S 8 p = 0 := by
      rw [hI.2.2.2.1 p hp]
      refine oc_none 64 (fun c hc => ?_)
      exact Decidable.byContradiction (fun z => (hI.2.2.2.2.1 p c hp hc z).1 e)
    refine ⟨Inv_adT hI hp hk e, e6, ?_, rfl, rfl⟩
    rw [cellsC_of (by rw [e6]; omega), e6, Int.toNat_natCast, e3, e8, h8]
    omega
  · rw [if_neg e]
    have h1 : gA S 6 p = k ∧ gA S 8 p < gA S 3 k := h.resolve_left e
    refine ⟨hI, h1.1, ?_, rfl, rfl⟩
    rw [cellsC_of e, h1.1, Int.toNat_natCast]
    exact h1.2
def puT (S : ST) (t k p c : Nat) : ST := laT (nwT (opT S p k) t k) t p c
theorem run0_put_ok {S : ST} {k t p : Nat} (hI : Inv S) (hk : (k : Int) < fF S 0) (ht : fF S 10 = t) (ht2 : t < 150) (hpl : plC S k = p) : ∃ c : Nat, (c : Int) < cellsC (opT S p k) p ∧ frB (opT S p k) p c = true ∧ (∀ j, j < c → frB (opT S p k) p j = false) ∧ Inv (puT S t k p c) ∧ X0_put [vR 0, vI k] S (eqr t (puT S t k p c)) nox := by
  have h0 := hI.1.kc
  obtain ⟨q, hp, hq, h6⟩ : ∃ q : Nat, q < 20 ∧ plC S k = q ∧ (gA S 6 q = -1 ∨ (gA S 6 q = k ∧ gA S 8 q < gA S 3 k)) := by
    rcases plC_at hI hk with h | h
    · omega
    · exact h
  have e : q = p := by omega
  subst e
  obtain ⟨hI1, h61, h81, h101, h01⟩ := opT_facts hI hk hp h6
  obtain ⟨c, hc1, hc2, hc3⟩ := free_ex hI1 hp h81
  have hX := X_put (k := k) hI1 (h101.trans ht) ht2 (by rw [h01]; exact hk)
  have hcb := cellsC_b hp hI1.1
  have hI2 : Inv (puT S t k q c) := by
    refine Inv_lay hX hp hc1 ?_ ?_
    · show gA (nwT (opT S q k) t k) 11 t = gA (opT S q k) 6 q
      rw [h61]
      unfold nwT
      rw [gA_pF, gA_s]
    · exact (by simpa [frB] using hc2 : gA (opT S q k) 9 (q * 64 + c) = -1)
  refine ⟨c, hc1, hc2, hc3, hI2, Nat.le_of_ble_eq_true rfl, ?_⟩
  show RR _ 0 [some (vR 0), some (vI k), none, none] [] S
  have h6b := hI.1.pl hp
  have hlay : X0_layIn [vR 0, vI t, vI q] (nwT (opT S q k) t k) (eqv (puT S t k q c)) nox := run0_layIn ht2 hp hX.1 hc1 hc2 hc3
  rw [r0_put_0]
  simp only [r0_put_1, r0_put_2, r0_put_5, r0_put_6, r0_put_9, r0_put_12, r0_put_15, r0_put_25, r0_put_26, r0_put_27, r0_put_30, r0_put_31, r0_put_32, r0_put_33, r0_put_36, r0_put_46, r0_put_47, r0_put_50, r0_put_51, r0_put_52, r0_put_53, r0_put_56, r0_put_57, r0_put_58, r0_put_59, r0_put_63, r0_put_66, r0_put_67, r0_put_68, r0_put_71, r0_put_72, r0_put_73, r0_put_74, r0_put_75, r0_put_76, r0_put_79, r0_put_80, r0_put_81, r0_put_84, r0_put_85, r0_put_86, r0_put_87, r0_put_90, r0_put_91, e_const, e_lconst, e_dconst, e_iload, e_kiload, e_aload, e_kaload, e_lload, e_klload, e_iinc, e_kiinc, e_istore, e_astore, e_lstore, e_dupI, e_dupR, e_dup2, e_iadd, e_isub, e_imul, e_idiv, e_irem, e_ladd, e_lmul, e_i2l, e_i2d, e_ddiv, e_icmp, e_if, e_goto, e_switch, e_tsw0, e_tsw1, e_getI, e_getA, e_putI, e_iald, e_iast, e_tnew, e_tald, e_tast, e_iret, e_zret, e_lret, e_dret, e_vret, e_throw, lg0, ls0, lt0, lg1, ls1, lo1, lt1, lg2, ls2, lo2, lt2, lg3, ls3, lo3, lt3, lg4, ls4, lo4, lt4, lg5, ls5, lo5, lt5, lg6, ls6, lo6, lt6, lg7, ls7, lo7, lt7, lg8, ls8, lo8, lo0, okI, okR, okN, e_calli1, e_calll1, e_callv1, e_xcalli1, e_xcallv1, e_acalli1, e_calli2, e_calll2, e_callv2, e_xcalli2, e_xcallv2, e_acalli2, e_calli3, e_calll3, e_callv3, e_xcalli3, e_xcallv3, e_acalli3, e_calli4, e_calll4, e_callv4, e_xcalli4, e_xcallv4, e_acalli4, e_scalli3, sh4_0, sh4_1, sh4_2, sh4_3, sh4_4, eqr, eqv, true_and, and_true, true_or, or_true, ln0_1, ln0_2, ln0_3, ln0_4, ln0_5, ln0_6, ln0_7, ln0_8, ln0_9, ln0_11, ln0_12, ln0_13, Int.toNat_natCast, ht]
  refine Or.inl ⟨_, run0_requireKind_ok ⟨by omega, by omega⟩ ⟨by omega, hk⟩ hI.1, ?_⟩
  rintro S1 rfl
  refine ⟨⟨⟨by omega, by omega⟩, by omega, by omega⟩, fun _ => ⟨_, run0_placeFor (by omega) hI.1, ?_⟩, fun h => absurd h (by omega)⟩
  rintro r S2 ⟨rfl, rfl⟩
  have hq' : plF (gA S2 6) (gA S2 8) k (gA S2 3 k) = q := hq
  rw [hq', Int.toNat_natCast]
  have tail : ∀ S3 : ST, S3 = opT S2 q k → RR (T0_put (eqr (t : Int) (puT S2 t k q c)) nox) 62 [some (vR 0), some (vI k), some (vI q), none] [] S3 := by
    intro S3 h3
    have ht3 : fF S3 10 = t := by rw [h3, h101, ht]
    rw [r0_put_62]
    simp only [r0_put_0, r0_put_1, r0_put_2, r0_put_5, r0_put_6, r0_put_9, r0_put_12, r0_put_15, r0_put_25, r0_put_26, r0_put_27, r0_put_30, r0_put_31, r0_put_32, r0_put_33, r0_put_36, r0_put_46, r0_put_47, r0_put_50, r0_put_51, r0_put_52, r0_put_53, r0_put_56, r0_put_57, r0_put_58, r0_put_59, r0_put_63, r0_put_66, r0_put_67, r0_put_68, r0_put_71, r0_put_72, r0_put_73, r0_put_74, r0_put_75, r0_put_76, r0_put_79, r0_put_80, r0_put_81, r0_put_84, r0_put_85, r0_put_86, r0_put_87, r0_put_90, r0_put_91, e_const, e_lconst, e_dconst, e_iload, e_kiload, e_aload, e_kaload, e_lload, e_klload, e_iinc, e_kiinc, e_istore, e_astore, e_lstore, e_dupI, e_dupR, e_dup2, e_iadd, e_isub, e_imul, e_idiv, e_irem, e_ladd, e_lmul, e_i2l, e_i2d, e_ddiv, e_icmp, e_if, e_goto, e_switch, e_tsw0, e_tsw1, e_getI, e_getA, e_putI, e_iald, e_iast, e_tnew, e_tald, e_tast, e_iret, e_zret, e_lret, e_dret, e_vret, e_throw, lg0, ls0, lt0, lg1, ls1, lo1, lt1, lg2, ls2, lo2, lt2, lg3, ls3, lo3, lt3, lg4, ls4, lo4, lt4, lg5, ls5, lo5, lt5, lg6, ls6, lo6, lt6, lg7, ls7, lo7, lt7, lg8, ls8, lo8, lo0, okI, okR, okN, e_calli1, e_calll1, e_callv1, e_xcalli1, e_xcallv1, e_acalli1, e_calli2, e_calll2, e_callv2, e_xcalli2, e_xcallv2, e_acalli2, e_calli3, e_calll3, e_callv3, e_xcalli3, e_xcallv3, e_acalli3, e_calli4, e_calll4, e_callv4, e_xcalli4, e_xcallv4, e_acalli4, e_scalli3, sh4_0, sh4_1, sh4_2, sh4_3, sh4_4, eqr, eqv, true_and, and_true, true_or, or_true, ln0_1, ln0_2, ln0_3, ln0_4, ln0_5, ln0_6, ln0_7, ln0_8, ln0_9, ln0_11, ln0_12, ln0_13, Int.toNat_natCast, ht3, fF_pA]
    refine ⟨⟨by omega, by omega⟩, eqv (puT S2 t k q c), ?_, ?_⟩
    · rw [h3]; exact hlay
    · rintro S4 rfl
      first | rfl | exact ⟨rfl, rfl⟩
  refine ⟨⟨⟨by omega, by omega⟩, by omega, by omega⟩, fun _ => ⟨⟨by omega, by omega⟩, ⟨⟨by omega, by omega⟩, by omega, by omega⟩, fun h => tail _ ?_, fun h => ⟨_, run0_addTray hp (by omega) hI.1, ?_⟩⟩, fun h => absurd h (by omega)⟩
  · unfold opT; rw [if_neg h]
  · rintro S3 rfl
    refine tail _ ?_
    unfold opT; rw [if_pos (Decidable.not_not.mp h)]
theorem run0_put_no1 {S : ST} {k : Int} (hr : rng k) (hB : B0 S) (hn : ¬ (0 ≤ k ∧ k < fF S 0)) : X0_put [vR 0, vI k] S bo1 (eqx IOOB S) := by
  refine ⟨Nat.le_of_ble_eq_true rfl, ?_⟩
  show RR _ 0 [some (vR 0), some (vI k), none, none] [] S
  rw [r0_put_0]
  simp only [r0_put_1, r0_put_2, r0_put_6, r0_put_9, r0_put_12, r0_put_15, r0_put_25, r0_put_26, r0_put_27, r0_put_30, r0_put_31, r0_put_32, r0_put_33, r0_put_36, r0_put_46, r0_put_47, r0_put_50, r0_put_51, r0_put_52, r0_put_53, r0_put_56, r0_put_57, r0_put_58, r0_put_59, r0_put_62, r0_put_63, r0_put_66, r0_put_67, r0_put_68, r0_put_71, r0_put_72, r0_put_73, r0_put_74, r0_put_75, r0_put_76, r0_put_79, r0_put_80, r0_put_81, r0_put_84, r0_put_85, r0_put_86, r0_put_87, r0_put_90, r0_put_91, e_const, e_lconst, e_dconst, e_iload, e_kiload, e_aload, e_kaload, e_lload, e_klload, e_iinc, e_kiinc, e_istore, e_astore, e_lstore, e_dupI, e_dupR, e_dup2, e_iadd, e_isub, e_imul, e_idiv, e_irem, e_ladd, e_lmul, e_i2l, e_i2d, e_ddiv, e_icmp, e_if, e_goto, e_switch, e_tsw0, e_tsw1, e_getI, e_getA, e_putI, e_iald, e_iast, e_tnew, e_tald, e_tast, e_iret, e_zret, e_lret, e_dret, e_vret, e_throw, lg0, ls0, lt0, lg1, ls1, lo1, lt1, lg2, ls2, lo2, lt2, lg3, ls3, lo3, lt3, lg4, ls4, lo4, lt4, lg5, ls5, lo5, lt5, lg6, ls6, lo6, lt6, lg7, ls7, lo7, lt7, lg8, ls8, lo8, lo0, okI, okR, okN, e_calli1, e_calll1, e_callv1, e_xcalli1, e_xcallv1, e_acalli1, e_calli2, e_calll2, e_callv2, e_xcalli2, e_xcallv2, e_acalli2, e_calli3, e_calll3, e_callv3, e_xcalli3, e_xcallv3, e_acalli3, e_calli4, e_calll4, e_callv4, e_xcalli4, e_xcallv4, e_acalli4, e_scalli3, sh4_0, sh4_1, sh4_2, sh4_3, sh4_4, eqr, eqv, true_and, and_true, true_or, or_true, ln0_1, ln0_2, ln0_3, ln0_4, ln0_5, ln0_6, ln0_7, ln0_8, ln0_9, ln0_11, ln0_12, ln0_13]
  exact Or.inr ⟨_, run0_requireKind_no hr hn hB, fun E S' z => z⟩
theorem run0_put_no2 {S : ST} {k : Nat} (hB : B0 S) (hk : (k : Int) < fF S 0) (hn : fF S 10 ≥ 150 ∨ plC S k = -1) : X0_put [vR 0, vI k] S bo1 (eqx ISE S) := by
  have h0 := hB.kc
  have h1 := hB.tc
  refine ⟨Nat.le_of_ble_eq_true rfl, ?_⟩
  show RR _ 0 [some (vR 0), some (vI k), none, none] [] S
  rw [r0_put_0]
  simp only [r0_put_1, r0_put_2, r0_put_5, r0_put_6, r0_put_9, r0_put_12, r0_put_15, r0_put_25, r0_put_26, r0_put_27, r0_put_30, r0_put_31, r0_put_32, r0_put_33, r0_put_36, r0_put_47, r0_put_50, r0_put_51, r0_put_52, r0_put_53, r0_put_56, r0_put_57, r0_put_58, r0_put_59, r0_put_62, r0_put_63, r0_put_66, r0_put_67, r0_put_68, r0_put_71, r0_put_72, r0_put_73, r0_put_74, r0_put_75, r0_put_76, r0_put_79, r0_put_80, r0_put_81, r0_put_84, r0_put_85, r0_put_86, r0_put_87, r0_put_90, r0_put_91, e_const, e_lconst, e_dconst, e_iload, e_kiload, e_aload, e_kaload, e_lload, e_klload, e_iinc, e_kiinc, e_istore, e_astore, e_lstore, e_dupI, e_dupR, e_dup2, e_iadd, e_isub, e_imul, e_idiv, e_irem, e_ladd, e_lmul, e_i2l, e_i2d, e_ddiv, e_icmp, e_if, e_goto, e_switch, e_tsw0, e_tsw1, e_getI, e_getA, e_putI, e_iald, e_iast, e_tnew, e_tald, e_tast, e_iret, e_zret, e_lret, e_dret, e_vret, e_throw, lg0, ls0, lt0, lg1, ls1, lo1, lt1, lg2, ls2, lo2, lt2, lg3, ls3, lo3, lt3, lg4, ls4, lo4, lt4, lg5, ls5, lo5, lt5, lg6, ls6, lo6, lt6, lg7, ls7, lo7, lt7, lg8, ls8, lo8, lo0, okI, okR, okN, e_calli1, e_calll1, e_callv1, e_xcalli1, e_xcallv1, e_acalli1, e_calli2, e_calll2, e_callv2, e_xcalli2, e_xcallv2, e_acalli2, e_calli3, e_calll3, e_callv3, e_xcalli3, e_xcallv3, e_acalli3, e_calli4, e_calll4, e_callv4, e_xcalli4, e_xcallv4, e_acalli4, e_scalli3, sh4_0, sh4_1, sh4_2, sh4_3, sh4_4, eqr, eqv, true_and, and_true, true_or, or_true, ln0_1, ln0_2, ln0_3, ln0_4, ln0_5, ln0_6, ln0_7, ln0_8, ln0_9, ln0_11, ln0_12, ln0_13]
  refine Or.inl ⟨_, run0_requireKind_ok ⟨by omega, by omega⟩ ⟨by omega, hk⟩ hB, ?_⟩
  rintro S1 rfl
  have hx : eqx ISE S1 "java/lang/IllegalStateException" S1 := ⟨rfl, rfl⟩
  refine ⟨⟨⟨by omega, by omega⟩, by omega, by omega⟩, fun h => ⟨_, run0_placeFor (by omega) hB, ?_⟩, fun h => hx⟩
  rintro r S2 ⟨rfl, rfl⟩
  have hq' : plF (gA S2 6) (gA S2 8) k (gA S2 3 k) = -1 := by
    rcases hn with z | z
    · omega
    · exact z
  rw [hq']
  exact ⟨⟨⟨by omega, by omega⟩, by omega, by omega⟩, fun h => absurd rfl h, fun h => hx⟩
/-- take: whether its tray goes -/
def goB (S : ST) (t p : Nat) : Prop := gA S 8 p = 1 ∧ fst1 (emB (gA S 6) (gA S 8) (gA S 11 t)) 20 ≠ -1
theorem run0_take_ok {S : ST} {t p c : Nat} (hI : Inv S) (ht : t < 150) (htc : (t : Int) < fF S 10) (hp : p < 20) (hc : c < 64) (h12 : gA S 12 t = p) (h13 : gA S 13 t = c) : (¬ goB S t p → X0_take [vR 0, vI t] S (eqr 0 (liT S t p c)) nox) ∧ (goB S t p → X0_take [vR 0, vI t] S (eqr 1 (drT (liT S t p c) p)) nox) := by
  have h0 := hI.1.tc
  have h11 := hI.1.th ht
  have h6 := hI.1.pl hp
  have e8 : gA (liT S t p c) 8 p = gA S 8 p - 1 := by
    unfold liT
    rw [gA_o (by decide), gA_s]
  have hf := fst1_b (P := emB (gA S 6) (gA S 8) (gA S 11 t)) 20
  refine ⟨fun hg => ⟨Nat.le_of_ble_eq_true rfl, ?_⟩, fun hg => ⟨Nat.le_of_ble_eq_true rfl, ?_⟩⟩
  all_goals
    show RR _ 0 [some (vR 0), some (vI t), none, none, none] [] S
    unfold goB at hg
    simp only [r0_take_0, r0_take_1, r0_take_2, r0_take_5, r0_take_6, r0_take_9, r0_take_10, r0_take_11, r0_take_12, r0_take_13, r0_take_14, r0_take_17, r0_take_27, r0_take_28, r0_take_29, r0_take_32, r0_take_33, r0_take_34, r0_take_37, r0_take_38, r0_take_41, r0_take_42, r0_take_45, r0_take_46, r0_take_47, r0_take_48, r0_take_49, r0_take_52, r0_take_53, r0_take_56, r0_take_57, r0_take_58, r0_take_61, r0_take_62, r0_take_65, r0_take_66, r0_take_69, r0_take_70, r0_take_72, r0_take_74, r0_take_77, r0_take_78, r0_take_79, r0_take_82, r0_take_84, e_const, e_lconst, e_dconst, e_iload, e_kiload, e_aload, e_kaload, e_lload, e_klload, e_iinc, e_kiinc, e_istore, e_astore, e_lstore, e_dupI, e_dupR, e_dup2, e_iadd, e_isub, e_imul, e_idiv, e_irem, e_ladd, e_lmul, e_i2l, e_i2d, e_ddiv, e_icmp, e_if, e_goto, e_switch, e_tsw0, e_tsw1, e_getI, e_getA, e_putI, e_iald, e_iast, e_tnew, e_tald, e_tast, e_iret, e_zret, e_lret, e_dret, e_vret, e_throw, lg0, ls0, lt0, lg1, ls1, lo1, lt1, lg2, ls2, lo2, lt2, lg3, ls3, lo3, lt3, lg4, ls4, lo4, lt4, lg5, ls5, lo5, lt5, lg6, ls6, lo6, lt6, lg7, ls7, lo7, lt7, lg8, ls8, lo8, lo0, okI, okR, okN, e_calli1, e_calll1, e_callv1, e_xcalli1, e_xcallv1, e_acalli1, e_calli2, e_calll2, e_callv2, e_xcalli2, e_xcallv2, e_acalli2, e_calli3, e_calll3, e_callv3, e_xcalli3, e_xcallv3, e_acalli3, e_calli4, e_calll4, e_callv4, e_xcalli4, e_xcallv4, e_acalli4, e_scalli3, sh4_0, sh4_1, sh4_2, sh4_3, sh4_4, eqr, eqv, true_and, and_true, true_or, or_true, ln0_1, ln0_2, ln0_3, ln0_4, ln0_5, ln0_6, ln0_7, ln0_8, ln0_9, ln0_11, ln0_12, ln0_13, Int.toNat_natCast, h12]
    refine Or.inl ⟨_, run0_requireThing_ok ⟨by omega, by omega⟩ ⟨by omega, htc⟩ hI.1, ?_⟩
    rintro S1 rfl
    refine ⟨⟨by omega, by omega⟩, ⟨⟨by omega, by omega⟩, by omega, by omega⟩, fun _ => ⟨⟨by omega, by omega⟩, _, run0_firstEmpty ⟨by omega, by omega⟩ hI.1, ?_⟩, fun h => absurd h (by omega)⟩
    rintro r S2 ⟨rfl, rfl⟩
    refine ⟨⟨⟨by omega, by omega⟩, by omega, by omega⟩, fun h => ⟨_, run0_liftOut ht hp hc h12 h13, ?_⟩, fun h => ⟨_, run0_liftOut ht hp hc h12 h13, ?_⟩⟩
    · rintro S3 rfl
      simp only [h12, Int.toNat_natCast, e8]
      ((repeat' (first | apply And.intro | intro _)) <;> first | omega | trivial | rfl | (rename_i z; exact absurd trivial z) | (exact ⟨_, run0_dropTray hp, by rintro S4 rfl; first | rfl | exact ⟨rfl, rfl⟩⟩))
    · rintro S3 rfl
      simp only [h12, Int.toNat_natCast, e8]
      ((repeat' (first | apply And.intro | intro _)) <;> first | omega | trivial | rfl | (rename_i z; exact absurd trivial z) | (exact ⟨_, run0_dropTray hp, by rintro S4 rfl; first | rfl | exact ⟨rfl, rfl⟩⟩))
theorem run0_take_no1 {S : ST} {t : Int} (hr : rng t) (hB : B0 S) (hn : ¬ (0 ≤ t ∧ t < fF S 10)) : X0_take [vR 0, vI t] S bo1 (eqx IOOB S) := by
  refine ⟨Nat.le_of_ble_eq_true rfl, ?_⟩
  show RR _ 0 [some (vR 0), some (vI t), none, none, none] [] S
  rw [r0_take_0]
  simp only [r0_take_1, r0_take_2, r0_take_6, r0_take_9, r0_take_10, r0_take_11, r0_take_12, r0_take_13, r0_take_14, r0_take_17, r0_take_27, r0_take_28, r0_take_29, r0_take_32, r0_take_33, r0_take_34, r0_take_37, r0_take_38, r0_take_41, r0_take_42, r0_take_45, r0_take_46, r0_take_47, r0_take_48, r0_take_49, r0_take_52, r0_take_53, r0_take_56, r0_take_57, r0_take_58, r0_take_61, r0_take_62, r0_take_65, r0_take_66, r0_take_69, r0_take_70, r0_take_72, r0_take_74, r0_take_77, r0_take_78, r0_take_79, r0_take_82, r0_take_84, e_const, e_lconst, e_dconst, e_iload, e_kiload, e_aload, e_kaload, e_lload, e_klload, e_iinc, e_kiinc, e_istore, e_astore, e_lstore, e_dupI, e_dupR, e_dup2, e_iadd, e_isub, e_imul, e_idiv, e_irem, e_ladd, e_lmul, e_i2l, e_i2d, e_ddiv, e_icmp, e_if, e_goto, e_switch, e_tsw0, e_tsw1, e_getI, e_getA, e_putI, e_iald, e_iast, e_tnew, e_tald, e_tast, e_iret, e_zret, e_lret, e_dret, e_vret, e_throw, lg0, ls0, lt0, lg1, ls1, lo1, lt1, lg2, ls2, lo2, lt2, lg3, ls3, lo3, lt3, lg4, ls4, lo4, lt4, lg5, ls5, lo5, lt5, lg6, ls6, lo6, lt6, lg7, ls7, lo7, lt7, lg8, ls8, lo8, lo0, okI, okR, okN, e_calli1, e_calll1, e_callv1, e_xcalli1, e_xcallv1, e_acalli1, e_calli2, e_calll2, e_callv2, e_xcalli2, e_xcallv2, e_acalli2, e_calli3, e_calll3, e_callv3, e_xcalli3, e_xcallv3, e_acalli3, e_calli4, e_calll4, e_callv4, e_xcalli4, e_xcallv4, e_acalli4, e_scalli3, sh4_0, sh4_1, sh4_2, sh4_3, sh4_4, eqr, eqv, true_and, and_true, true_or, or_true, ln0_1, ln0_2, ln0_3, ln0_4, ln0_5, ln0_6, ln0_7, ln0_8, ln0_9, ln0_11, ln0_12, ln0_13]
  exact Or.inr ⟨_, run0_requireThing_no hr hn hB, fun E S' z => z⟩
theorem run0_take_no2 {S : ST} {t : Nat} (hB : B0 S) (htc : (t : Int) < fF S 10) (hn : gA S 12 t = -1) : X0_take [vR 0, vI t] S bo1 (eqx ISE S) := by
  have h0 := hB.tc
  refine ⟨Nat.le_of_ble_eq_true rfl, ?_⟩
  show RR _ 0 [some (vR 0), some (vI t), none, none, none] [] S
  rw [r0_take_0]
  simp only [r0_take_1, r0_take_2, r0_take_5, r0_take_6, r0_take_9, r0_take_10, r0_take_11, r0_take_12, r0_take_13, r0_take_14, r0_take_17, r0_take_28, r0_take_29, r0_take_32, r0_take_33, r0_take_34, r0_take_37, r0_take_38, r0_take_41, r0_take_42, r0_take_45, r0_take_46, r0_take_47, r0_take_48, r0_take_49, r0_take_52, r0_take_53, r0_take_56, r0_take_57, r0_take_58, r0_take_61, r0_take_62, r0_take_65, r0_take_66, r0_take_69, r0_take_70, r0_take_72, r0_take_74, r0_take_77, r0_take_78, r0_take_79, r0_take_82, r0_take_84, e_const, e_lconst, e_dconst, e_iload, e_kiload, e_aload, e_kaload, e_lload, e_klload, e_iinc, e_kiinc, e_istore, e_astore, e_lstore, e_dupI, e_dupR, e_dup2, e_iadd, e_isub, e_imul, e_idiv, e_irem, e_ladd, e_lmul, e_i2l, e_i2d, e_ddiv, e_icmp, e_if, e_goto, e_switch, e_tsw0, e_tsw1, e_getI, e_getA, e_putI, e_iald, e_iast, e_tnew, e_tald, e_tast, e_iret, e_zret, e_lret, e_dret, e_vret, e_throw, lg0, ls0, lt0, lg1, ls1, lo1, lt1, lg2, ls2, lo2, lt2, lg3, ls3, lo3, lt3, lg4, ls4, lo4, lt4, lg5, ls5, lo5, lt5, lg6, ls6, lo6, lt6, lg7, ls7, lo7, lt7, lg8, ls8, lo8, lo0, okI, okR, okN, e_calli1, e_calll1, e_callv1, e_xcalli1, e_xcallv1, e_acalli1, e_calli2, e_calll2, e_callv2, e_xcalli2, e_xcallv2, e_acalli2, e_calli3, e_calll3, e_callv3, e_xcalli3, e_xcallv3, e_acalli3, e_calli4, e_calll4, e_callv4, e_xcalli4, e_xcallv4, e_acalli4, e_scalli3, sh4_0, sh4_1, sh4_2, sh4_3, sh4_4, eqr, eqv, true_and, and_true, true_or, or_true, ln0_1, ln0_2, ln0_3, ln0_4, ln0_5, ln0_6, ln0_7, ln0_8, ln0_9, ln0_11, ln0_12, ln0_13, Int.toNat_natCast, hn]
  refine Or.inl ⟨_, run0_requireThing_ok ⟨by omega, by omega⟩ ⟨by omega, htc⟩ hB, ?_⟩
  rintro S1 rfl
  have hx : eqx ISE S1 "java/lang/IllegalStateException" S1 := ⟨rfl, rfl⟩
  exact ⟨⟨by omega, by omega⟩, ⟨⟨by omega, by omega⟩, by omega, by omega⟩, fun h => absurd hn h, fun h => hx⟩
