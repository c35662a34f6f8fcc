/-! THE REFERENCE: put, take, sweep -/
/-- an answer v; the reference then says what the state S' of the class says, and nothing was thrown -/
def rsl (v : Int) (S' R : ST) (r : Int) (R' : ST) : Prop := r = v ∧ Rel S' R' ∧ fF R' 0 = 0 ∧ R'.2.2 = R.2.2
theorem run1_put_ok {S R : ST} {k t p c : Nat} (hI : Inv S) (h : Rel S R) (hk : (k : Int) < fF S 0) (ht : fF S 10 = t) (ht2 : t < 150) (hpl : plC S k = p) (hc1 : (c : Int) < cellsC (opT S p k) p) (hc2 : frB (opT S p k) p c = true) (hc3 : ∀ j, j < c → frB (opT S p k) p j = false) : X1_put [vR 0, vI k] R (rsl t (puT S t k p c) R) nox := by
  have h0 := hI.1.kc
  have hB := h.b1 hI
  obtain ⟨q, hp, hq, h6⟩ : ∃ q : Nat, q < 20 ∧ plC S k = q ∧ (gA S 6 q = -1 ∨ (gA S 6 q = k ∧ gA S 8 q < gA S 3 k)) := by
    rcases plC_at hI hk with h | h
    · omega
    · exact h
  have e : q = p := by omega
  subst e
  obtain ⟨hI1, h61, h81, h101, h01⟩ := opT_facts hI hk hp h6
  have hcb := cellsC_b hp hI1.1
  have hk1 : (k : Int) < fF R 1 := by rw [h.1.1]; exact hk
  have t9 : fF R 9 = t := by rw [h.1.2.1]; exact ht
  have g5 : gA R 5 q = gA S 6 q := h.2.1.2.2.2.1 q
  have hb5 := hB.pl hp
  refine ⟨Nat.le_of_ble_eq_true rfl, ?_⟩
  show RR _ 0 [some (vR 0), some (vI k), none] [] R
  have tail : ∀ R3 : ST, Rel (opT S q k) R3 → fF R3 0 = 0 → R3.2.2 = R.2.2 → RR (T1_put (rsl t (puT S t k q c) R) nox) 62 [some (vR 0), some (vI k), some (vI q)] [] R3 := by
    intro R3 h3 h30 h32
    have e9 : fF R3 9 = t := by rw [h3.1.2.1, h101, ht]
    have hB3 := h3.b1 hI1
    have hx : gA R3 5 q ≠ -1 := by rw [h3.2.1.2.2.2.1, h61]; omega
    have cx : ∀ j, j < 64 → gA R3 8 (64 * q + j) = gA (opT S q k) 9 (q * 64 + j) := (h3.2.2.1 q hp (by rw [h61]; omega)).2
    have hB4 : B1 (pA R3 10 t k) := by
      refine ⟨hB3.1, hB3.2.1, hB3.2.2.1, hB3.2.2.2.1, fun u hu => ?_, hB3.2.2.2.2.2⟩
      have := hB3.th hu
      by_cases e : u = t
      · rw [e, gA_s]; rw [e] at this; exact ⟨by omega, this.2⟩
      · rw [gA_i e]; exact this
    have rf : X1_freeCell [vR 0, vI q] (pA R3 10 t k) (eqr c (pA R3 10 t k)) nox := by
      refine run1_freeCell hp (by omega) hB4 hx ?_ (fun j hj => ?_)
      · show gA R3 8 (64 * q + c) = -1
        rw [cx c (by omega)]
        simpa [frB] using hc2
      · show gA R3 8 (64 * q + j) ≠ -1
        rw [cx j (by omega)]
        simpa [frB] using hc3 j hj
    have hfin : Rel (puT S t k q c) (pF (laR (pA R3 10 t k) t q c) 9 ((t : Int) + 1)) := (h3.nw (t := t) (k := k)).la (by omega)
    rw [r1_put_62]
    simp only [r1_put_0, r1_put_1, r1_put_2, r1_put_5, r1_put_6, r1_put_7, r1_put_10, r1_put_13, r1_put_14, r1_put_15, r1_put_18, r1_put_19, r1_put_20, r1_put_21, r1_put_24, r1_put_25, r1_put_26, r1_put_29, r1_put_32, r1_put_35, r1_put_36, r1_put_37, r1_put_40, r1_put_41, r1_put_42, r1_put_45, r1_put_46, r1_put_47, r1_put_50, r1_put_51, r1_put_52, r1_put_53, r1_put_56, r1_put_57, r1_put_58, r1_put_59, r1_put_63, r1_put_66, r1_put_67, r1_put_70, r1_put_71, r1_put_72, r1_put_73, r1_put_74, r1_put_77, r1_put_78, r1_put_79, r1_put_80, r1_put_83, r1_put_86, r1_put_87, r1_put_88, r1_put_91, r1_put_92, r1_put_93, r1_put_96, r1_put_97, r1_put_100, r1_put_101, r1_put_102, e_const, e_lconst, e_dconst, e_iload, e_kiload, e_aload, e_kaload, e_lload, e_klload, e_iinc, e_kiinc, e_istore, e_astore, e_lstore, e_dupI, e_dupR, e_dup2, e_iadd, e_isub, e_imul, e_idiv, e_irem, e_ladd, e_lmul, e_i2l, e_i2d, e_ddiv, e_icmp, e_if, e_goto, e_switch, e_tsw0, e_tsw1, e_getI, e_getA, e_putI, e_iald, e_iast, e_tnew, e_tald, e_tast, e_iret, e_zret, e_lret, e_dret, e_vret, e_throw, lg0, ls0, lt0, lg1, ls1, lo1, lt1, lg2, ls2, lo2, lt2, lg3, ls3, lo3, lt3, lg4, ls4, lo4, lt4, lg5, ls5, lo5, lt5, lg6, ls6, lo6, lt6, lg7, ls7, lo7, lt7, lg8, ls8, lo8, lo0, okI, okR, okN, e_calli1, e_calll1, e_callv1, e_xcalli1, e_xcallv1, e_acalli1, e_calli2, e_calll2, e_callv2, e_xcalli2, e_xcallv2, e_acalli2, e_calli3, e_calll3, e_callv3, e_xcalli3, e_xcallv3, e_acalli3, e_calli4, e_calll4, e_callv4, e_xcalli4, e_xcallv4, e_acalli4, e_scalli3, sh4_0, sh4_1, sh4_2, sh4_3, sh4_4, eqr, eqv, true_and, and_true, true_or, or_true, ln1_2, ln1_3, ln1_4, ln1_5, ln1_6, ln1_7, ln1_8, ln1_10, ln1_11, ln1_12, Int.toNat_natCast, e9, fF_pA]
    refine ⟨⟨by omega, by omega⟩, _, rf, ?_⟩
    rintro r S4 ⟨rfl, rfl⟩
    refine ⟨_, run1_lay ht2 hp (by omega), ?_⟩
    rintro S5 rfl
    have e9' : fF (laR (pA R3 10 t k) t q c) 9 = t := e9
    rw [e9']
    refine ⟨?_, hfin, h30, h32⟩
    rw [fF_pF, if_pos rfl]
    omega
  rw [r1_put_0]
  simp only [r1_put_1, r1_put_2, r1_put_5, r1_put_6, r1_put_7, r1_put_10, r1_put_13, r1_put_14, r1_put_15, r1_put_18, r1_put_19, r1_put_20, r1_put_21, r1_put_24, r1_put_25, r1_put_26, r1_put_29, r1_put_32, r1_put_35, r1_put_36, r1_put_37, r1_put_40, r1_put_41, r1_put_42, r1_put_45, r1_put_46, r1_put_47, r1_put_50, r1_put_51, r1_put_52, r1_put_53, r1_put_56, r1_put_57, r1_put_58, r1_put_59, r1_put_63, r1_put_66, r1_put_67, r1_put_70, r1_put_71, r1_put_72, r1_put_73, r1_put_74, r1_put_77, r1_put_78, r1_put_79, r1_put_80, r1_put_83, r1_put_86, r1_put_87, r1_put_88, r1_put_91, r1_put_92, r1_put_93, r1_put_96, r1_put_97, r1_put_100, r1_put_101, r1_put_102, e_const, e_lconst, e_dconst, e_iload, e_kiload, e_aload, e_kaload, e_lload, e_klload, e_iinc, e_kiinc, e_istore, e_astore, e_lstore, e_dupI, e_dupR, e_dup2, e_iadd, e_isub, e_imul, e_idiv, e_irem, e_ladd, e_lmul, e_i2l, e_i2d, e_ddiv, e_icmp, e_if, e_goto, e_switch, e_tsw0, e_tsw1, e_getI, e_getA, e_putI, e_iald, e_iast, e_tnew, e_tald, e_tast, e_iret, e_zret, e_lret, e_dret, e_vret, e_throw, lg0, ls0, lt0, lg1, ls1, lo1, lt1, lg2, ls2, lo2, lt2, lg3, ls3, lo3, lt3, lg4, ls4, lo4, lt4, lg5, ls5, lo5, lt5, lg6, ls6, lo6, lt6, lg7, ls7, lo7, lt7, lg8, ls8, lo8, lo0, okI, okR, okN, e_calli1, e_calll1, e_callv1, e_xcalli1, e_xcallv1, e_acalli1, e_calli2, e_calll2, e_callv2, e_xcalli2, e_xcallv2, e_acalli2, e_calli3, e_calll3, e_callv3, e_xcalli3, e_xcallv3, e_acalli3, e_calli4, e_calll4, e_callv4, e_xcalli4, e_xcallv4, e_acalli4, e_scalli3, sh4_0, sh4_1, sh4_2, sh4_3, sh4_4, eqr, eqv, true_and, and_true, true_or, or_true, ln1_2, ln1_3, ln1_4, ln1_5, ln1_6, ln1_7, ln1_8, ln1_10, ln1_11, ln1_12]
  refine ⟨_, run1_isKind ⟨by omega, by omega⟩ (hB.thr 0), ?_⟩
  rintro r S1 ⟨rfl, rfl⟩
  rw [if1 (show 0 ≤ (k : Int) ∧ (k : Int) < fF (thr R 0) 1 from ⟨by omega, hk1⟩)]
  refine ⟨⟨by omega, by omega⟩, fun _ => ⟨_, run1_goesTo hk1 (hB.thr 0), ?_⟩, fun h => absurd (by decide) h⟩
  rintro r S3 ⟨rfl, rfl⟩
  have e9 : fF (thr R 0) 9 = t := t9
  have eP : plF (gA (thr R 0) 5) (gA (thr R 0) 7) k (csR (thr R 0) k) = q := ((h.thr 0).pl hI hk).trans hq
  have e5 : gA (thr R 0) 5 q = gA S 6 q := g5
  rw [eP, e9, Int.toNat_natCast, e5]
  have h6b := hI.1.pl hp
  refine ⟨⟨⟨by omega, by omega⟩, by omega, by omega⟩, fun z => absurd z (by omega), fun _ => ⟨⟨⟨by omega, by omega⟩, by omega, by omega⟩, fun _ => ⟨⟨by omega, by omega⟩, ⟨⟨by omega, by omega⟩, by omega, by omega⟩, fun z => tail _ ?_ rfl rfl, fun z => ⟨_, run1_open hp hk1 (hB.thr 0), ?_⟩⟩, fun z => absurd (by omega) z⟩⟩
  · unfold opT; rw [if_neg z]; exact h.thr 0
  · rintro S3 rfl
    refine tail _ ?_ ?_ ?_
    · unfold opT; rw [if_pos (Decidable.not_not.mp z)]
      exact (h.thr 0).ad hI hp hk (Decidable.not_not.mp z)
    · rw [opR_F]; rfl
    · rw [opR_2]; rfl
theorem run1_put_no1 {R : ST} {k : Int} (hr : rng k) (hn : ¬ (0 ≤ k ∧ k < fF R 1)) (hB : B1 R) : X1_put [vR 0, vI k] R (eqr 0 (thr R 1)) nox := by
  have tail : ∃ Q, X1_no [vR 0, vI 1] (pF R 0 0) Q nox ∧ ∀ r S', Q r S' → r = 0 ∧ S' = thr R 1 := ⟨_, run1_no, fun r S' h => ⟨h.1, h.2.trans (thr_thr R 0 1)⟩⟩
  refine ⟨Nat.le_of_ble_eq_true rfl, ?_⟩
  show RR _ 0 [some (vR 0), some (vI k), none] [] R
  rw [r1_put_0]
  simp only [r1_put_1, r1_put_2, r1_put_5, r1_put_6, r1_put_7, r1_put_10, r1_put_13, r1_put_14, r1_put_15, r1_put_18, r1_put_20, r1_put_21, r1_put_24, r1_put_25, r1_put_26, r1_put_29, r1_put_32, r1_put_35, r1_put_36, r1_put_37, r1_put_40, r1_put_41, r1_put_42, r1_put_45, r1_put_46, r1_put_47, r1_put_50, r1_put_51, r1_put_52, r1_put_53, r1_put_56, r1_put_57, r1_put_58, r1_put_59, r1_put_62, r1_put_63, r1_put_66, r1_put_67, r1_put_70, r1_put_71, r1_put_72, r1_put_73, r1_put_74, r1_put_77, r1_put_78, r1_put_79, r1_put_80, r1_put_83, r1_put_86, r1_put_87, r1_put_88, r1_put_91, r1_put_92, r1_put_93, r1_put_96, r1_put_97, r1_put_100, r1_put_101, r1_put_102, e_const, e_lconst, e_dconst, e_iload, e_kiload, e_aload, e_kaload, e_lload, e_klload, e_iinc, e_kiinc, e_istore, e_astore, e_lstore, e_dupI, e_dupR, e_dup2, e_iadd, e_isub, e_imul, e_idiv, e_irem, e_ladd, e_lmul, e_i2l, e_i2d, e_ddiv, e_icmp, e_if, e_goto, e_switch, e_tsw0, e_tsw1, e_getI, e_getA, e_putI, e_iald, e_iast, e_tnew, e_tald, e_tast, e_iret, e_zret, e_lret, e_dret, e_vret, e_throw, lg0, ls0, lt0, lg1, ls1, lo1, lt1, lg2, ls2, lo2, lt2, lg3, ls3, lo3, lt3, lg4, ls4, lo4, lt4, lg5, ls5, lo5, lt5, lg6, ls6, lo6, lt6, lg7, ls7, lo7, lt7, lg8, ls8, lo8, lo0, okI, okR, okN, e_calli1, e_calll1, e_callv1, e_xcalli1, e_xcallv1, e_acalli1, e_calli2, e_calll2, e_callv2, e_xcalli2, e_xcallv2, e_acalli2, e_calli3, e_calll3, e_callv3, e_xcalli3, e_xcallv3, e_acalli3, e_calli4, e_calll4, e_callv4, e_xcalli4, e_xcallv4, e_acalli4, e_scalli3, sh4_0, sh4_1, sh4_2, sh4_3, sh4_4, eqr, eqv, true_and, and_true, true_or, or_true, ln1_2, ln1_3, ln1_4, ln1_5, ln1_6, ln1_7, ln1_8, ln1_10, ln1_11, ln1_12]
  refine ⟨_, run1_isKind hr (hB.thr 0), ?_⟩
  rintro r S1 ⟨rfl, rfl⟩
  rw [if0 (show ¬ (0 ≤ k ∧ k < fF (thr R 0) 1) from hn)]
  exact ⟨⟨by omega, by omega⟩, fun h => absurd rfl h, fun _ => tail⟩
theorem run1_put_no2 {S R : ST} {k : Nat} (hI : Inv S) (h : Rel S R) (hk : (k : Int) < fF S 0) (hn : fF S 10 ≥ 150 ∨ plC S k = -1) : X1_put [vR 0, vI k] R (eqr 0 (thr R 2)) nox := by
  have tail : ∃ Q, X1_no [vR 0, vI 2] (pF R 0 0) Q nox ∧ ∀ r S', Q r S' → r = 0 ∧ S' = thr R 2 := ⟨_, run1_no, fun r S' h => ⟨h.1, h.2.trans (thr_thr R 0 2)⟩⟩
  have h0 := hI.1.kc
  have h1 := hI.1.tc
  have hB := h.b1 hI
  have hk1 : (k : Int) < fF R 1 := by rw [h.1.1]; exact hk
  refine ⟨Nat.le_of_ble_eq_true rfl, ?_⟩
  show RR _ 0 [some (vR 0), some (vI k), none] [] R
  rw [r1_put_0]
  simp only [r1_put_1, r1_put_2, r1_put_5, r1_put_6, r1_put_7, r1_put_10, r1_put_13, r1_put_14, r1_put_15, r1_put_18, r1_put_19, r1_put_20, r1_put_21, r1_put_24, r1_put_25, r1_put_26, r1_put_29, r1_put_32, r1_put_35, r1_put_36, r1_put_37, r1_put_40, r1_put_41, r1_put_42, r1_put_45, r1_put_47, r1_put_50, r1_put_51, r1_put_52, r1_put_53, r1_put_56, r1_put_57, r1_put_58, r1_put_59, r1_put_62, r1_put_63, r1_put_66, r1_put_67, r1_put_70, r1_put_71, r1_put_72, r1_put_73, r1_put_74, r1_put_77, r1_put_78, r1_put_79, r1_put_80, r1_put_83, r1_put_86, r1_put_87, r1_put_88, r1_put_91, r1_put_92, r1_put_93, r1_put_96, r1_put_97, r1_put_100, r1_put_101, r1_put_102, e_const, e_lconst, e_dconst, e_iload, e_kiload, e_aload, e_kaload, e_lload, e_klload, e_iinc, e_kiinc, e_istore, e_astore, e_lstore, e_dupI, e_dupR, e_dup2, e_iadd, e_isub, e_imul, e_idiv, e_irem, e_ladd, e_lmul, e_i2l, e_i2d, e_ddiv, e_icmp, e_if, e_goto, e_switch, e_tsw0, e_tsw1, e_getI, e_getA, e_putI, e_iald, e_iast, e_tnew, e_tald, e_tast, e_iret, e_zret, e_lret, e_dret, e_vret, e_throw, lg0, ls0, lt0, lg1, ls1, lo1, lt1, lg2, ls2, lo2, lt2, lg3, ls3, lo3, lt3, lg4, ls4, lo4, lt4, lg5, ls5, lo5, lt5, lg6, ls6, lo6, lt6, lg7, ls7, lo7, lt7, lg8, ls8, lo8, lo0, okI, okR, okN, e_calli1, e_calll1, e_callv1, e_xcalli1, e_xcallv1, e_acalli1, e_calli2, e_calll2, e_callv2, e_xcalli2, e_xcallv2, e_acalli2, e_calli3, e_calll3, e_callv3, e_xcalli3, e_xcallv3, e_acalli3, e_calli4, e_calll4, e_callv4, e_xcalli4, e_xcallv4, e_acalli4, e_scalli3, sh4_0, sh4_1, sh4_2, sh4_3, sh4_4, eqr, eqv, true_and, and_true, true_or, or_true, ln1_2, ln1_3, ln1_4, ln1_5, ln1_6, ln1_7, ln1_8, ln1_10, ln1_11, ln1_12]
  refine ⟨_, run1_isKind ⟨by omega, by omega⟩ (hB.thr 0), ?_⟩
  rintro r S1 ⟨rfl, rfl⟩
  rw [if1 (show 0 ≤ (k : Int) ∧ (k : Int) < fF (thr R 0) 1 from ⟨by omega, hk1⟩)]
  refine ⟨⟨by omega, by omega⟩, fun _ => ⟨_, run1_goesTo hk1 (hB.thr 0), ?_⟩, fun h => absurd (by decide) h⟩
  rintro r S3 ⟨rfl, rfl⟩
  have e9 : fF (thr R 0) 9 = fF S 10 := h.1.2.1
  have eP : plF (gA (thr R 0) 5) (gA (thr R 0) 7) k (csR (thr R 0) k) = plC S k := (h.thr 0).pl hI hk
  rw [eP, e9]
  have hpc := plC_at hI hk
  have hpb : -1 ≤ plC S k ∧ plC S k < 20 := by rcases hpc with z | ⟨p, z1, z2, -⟩ <;> omega
  refine ⟨⟨⟨by omega, by omega⟩, by omega, by omega⟩, fun _ => tail, fun z => ⟨⟨⟨by omega, by omega⟩, by omega, by omega⟩, fun y => absurd hn (by omega), fun _ => tail⟩⟩
theorem cH_set {f g g' : Nat → Int} {k : Int} {p : Nat} (hf : f p = k) (h1 : g p ≠ 0) (h2 : g' p = 0) (ho : ∀ q, q ≠ p → g' q = g q) : ∀ n : Nat, cH f g' k 0 n = cH f g k 0 n + if p < n then 1 else 0
  | 0 => by rw [if_neg (by omega)]; rfl
  | n + 1 => by
    have ih := cH_set hf h1 h2 ho n
    by_cases e : n = p
    · have e2 : ¬ p < n := by omega
      rw [if_neg e2] at ih
      rw [cH_y (by rw [e]; exact ⟨hf, h2⟩), cH_n (by rw [e]; exact fun z => h1 z.2), ih, if_pos (by omega)]
      omega
    · have e3 : (p < n + 1) = (p < n) := propext ⟨fun _ => by omega, fun _ => by omega⟩
      simp only [e3]
      by_cases w : f n = k ∧ g n = 0
      · rw [cH_y w, cH_y (by rw [ho n e]; exact w), ih]; omega
      · rw [cH_n w, cH_n (by rw [ho n e]; exact w), ih]
theorem fst1_s {P : Nat → Bool} (n : Nat) : fst1 P (n + 1) = if fst1 P n ≠ -1 then fst1 P n else if P n then (n : Int) else -1 := rfl
theorem cH_fst {f g : Nat → Int} {k : Int} : ∀ n : Nat, (fst1 (emB f g k) n = -1 ↔ cH f g k 0 n = 0)
  | 0 => ⟨fun _ => rfl, fun _ => rfl⟩
  | n + 1 => by
    have ih := cH_fst (f := f) (g := g) (k := k) n
    have hb := cH_b f g k 0 n
    have fb := fst1_b (P := emB f g k) n
    by_cases w : f n = k ∧ g n = 0
    · rw [cH_y w]
      have e : emB f g k n = true := by simp [emB, w]
      refine ⟨fun z => ?_, fun z => by omega⟩
      rw [fst1_s] at z
      by_cases q : fst1 (emB f g k) n = -1
      · rw [if_neg (fun y => y q), if_pos e] at z; omega
      · rw [if_pos q] at z; omega
    · rw [cH_n w, ← ih]
      have e : emB f g k n = false := by simp only [emB, Bool.and_eq_false_iff, decide_eq_false_iff_not]; omega
      rw [fst1_s, e]
      by_cases q : fst1 (emB f g k) n = -1
      · rw [if_neg (fun y => y q)]; simp [q]
      · rw [if_pos q]
theorem run1_take_ok {S R : ST} {t p c : Nat} (hI : Inv S) (h : Rel S R) (ht : t < 150) (htc : (t : Int) < fF S 10) (hp : p < 20) (hc : c < 64) (h12 : gA S 12 t = p) (h13 : gA S 13 t = c) (h9 : gA S 9 (p * 64 + c) = t) : (¬ goB S t p → X1_take [vR 0, vI t] R (rsl 0 (liT S t p c) R) nox) ∧ (goB S t p → X1_take [vR 0, vI t] R (rsl 1 (drT (liT S t p c) p) R) nox) := by
  have h0 := hI.1.tc
  have hB := h.b1 hI
  have h1 := hI.1.kc
  have ht9 : (t : Int) < fF R 9 := by rw [h.1.2.1]; exact htc
  have e11 : gA R 11 t = p := by rw [h.2.1.2.2.2.2.2.2]; exact h12
  have e12 : gA R 12 t = c := by rw [(h.2.2.2 t ht).2 (by omega), h13]
  have hR1 : Rel (liT S t p c) (liR (pF R 0 0) t p c) := (h.thr 0).li hc
  obtain ⟨hX, hx12⟩ := X_of_lift hI ht htc hp hc h12 h13 h9
  have hI1 : Inv (liT S t p c) := Inv_of_X hX hx12
  have hB1 := hR1.b1 hI1
  have hcl := hI.2.2.2.2.1 p c hp hc (by omega)
  unfold clOk at hcl
  rw [h9, Int.toNat_natCast] at hcl
  obtain ⟨k, hk⟩ : ∃ k : Nat, gA S 6 p = k := ⟨(gA S 6 p).toNat, by have := hI.1.pl hp; have := hcl.1; omega⟩
  have e5 : gA (liR (pF R 0 0) t p c) 5 p = k := by rw [hR1.2.1.2.2.2.1]; exact hk
  have e7 : gA (liR (pF R 0 0) t p c) 7 p = gA S 8 p - 1 := by
    rw [hR1.2.1.2.2.2.2.1]
    unfold liT
    rw [gA_o (by decide), gA_s]
  have hkk := hI.2.2.1 p hp
  have e8b := hI1.1.pl hp
  have e8 : gA (liT S t p c) 8 p = gA S 8 p - 1 := by
    unfold liT
    rw [gA_o (by decide), gA_s]
  have hcH := cH_b (gA (liR (pF R 0 0) t p c) 5) (gA (liR (pF R 0 0) t p c) 7) k 0 20
  have go : goB S t p ↔ (gA S 8 p - 1 = 0 ∧ 2 ≤ cH (gA (liR (pF R 0 0) t p c) 5) (gA (liR (pF R 0 0) t p c) 7) k 0 20) := by
    have ek : gA S 11 t = k := hcl.2.2.2.2.2.trans hk
    have e67 : gA (liR (pF R 0 0) t p c) 7 = gA (liT S t p c) 8 := hR1.f7
    have e66 : gA (liR (pF R 0 0) t p c) 5 = gA S 6 := hR1.f5
    unfold goB
    rw [ek, e67, e66]
    have o8 : ∀ q, q ≠ p → gA (liT S t p c) 8 q = gA S 8 q := fun q hq => by
      unfold liT
      rw [gA_o (by decide), gA_i hq, gA_o (by decide)]
    have hH := cH_b (gA S 6) (gA S 8) k 0 20
    have hF := cH_fst (f := gA S 6) (g := gA S 8) (k := (k : Int)) 20
    by_cases e1 : gA S 8 p = 1
    · rw [cH_set hk (by omega) (by rw [e8]; omega) o8 20, if_pos hp]
      constructor
      · rintro ⟨-, z⟩
        have : cH (gA S 6) (gA S 8) k 0 20 ≠ 0 := fun y => z (hF.mpr y)
        omega
      · rintro ⟨-, z⟩
        exact ⟨e1, fun y => by have := hF.mp y; omega⟩
    · exact ⟨fun z => absurd z.1 e1, fun z => absurd z.1 (by omega)⟩
  have fin : R.2.2 = R.2.2 := rfl
  refine ⟨fun hg => ⟨Nat.le_of_ble_eq_true rfl, ?_⟩, fun hg => ⟨Nat.le_of_ble_eq_true rfl, ?_⟩⟩
  all_goals
    rw [go] at hg
    show RR _ 0 [some (vR 0), some (vI t), none] [] R
    simp only [r1_take_0, r1_take_1, r1_take_2, r1_take_3, r1_take_6, r1_take_9, r1_take_10, r1_take_13, r1_take_14, r1_take_17, r1_take_18, r1_take_19, r1_take_20, r1_take_23, r1_take_24, r1_take_27, r1_take_28, r1_take_31, r1_take_32, r1_take_35, r1_take_38, r1_take_39, r1_take_40, r1_take_41, r1_take_44, r1_take_45, r1_take_46, r1_take_47, r1_take_48, r1_take_49, r1_take_52, r1_take_53, r1_take_56, r1_take_57, r1_take_58, r1_take_61, r1_take_62, r1_take_63, r1_take_66, r1_take_67, r1_take_68, r1_take_71, r1_take_72, r1_take_75, r1_take_76, r1_take_77, r1_take_78, r1_take_79, r1_take_82, r1_take_83, e_const, e_lconst, e_dconst, e_iload, e_kiload, e_aload, e_kaload, e_lload, e_klload, e_iinc, e_kiinc, e_istore, e_astore, e_lstore, e_dupI, e_dupR, e_dup2, e_iadd, e_isub, e_imul, e_idiv, e_irem, e_ladd, e_lmul, e_i2l, e_i2d, e_ddiv, e_icmp, e_if, e_goto, e_switch, e_tsw0, e_tsw1, e_getI, e_getA, e_putI, e_iald, e_iast, e_tnew, e_tald, e_tast, e_iret, e_zret, e_lret, e_dret, e_vret, e_throw, lg0, ls0, lt0, lg1, ls1, lo1, lt1, lg2, ls2, lo2, lt2, lg3, ls3, lo3, lt3, lg4, ls4, lo4, lt4, lg5, ls5, lo5, lt5, lg6, ls6, lo6, lt6, lg7, ls7, lo7, lt7, lg8, ls8, lo8, lo0, okI, okR, okN, e_calli1, e_calll1, e_callv1, e_xcalli1, e_xcallv1, e_acalli1, e_calli2, e_calll2, e_callv2, e_xcalli2, e_xcallv2, e_acalli2, e_calli3, e_calll3, e_callv3, e_xcalli3, e_xcallv3, e_acalli3, e_calli4, e_calll4, e_callv4, e_xcalli4, e_xcallv4, e_acalli4, e_scalli3, sh4_0, sh4_1, sh4_2, sh4_3, sh4_4, eqr, eqv, true_and, and_true, true_or, or_true, ln1_2, ln1_3, ln1_4, ln1_5, ln1_6, ln1_7, ln1_8, ln1_10, ln1_11, ln1_12, Int.toNat_natCast, e11]
    refine ⟨_, run1_isThing ⟨by omega, by omega⟩ hB, ?_⟩
    rintro r S1 ⟨rfl, rfl⟩
    have f11 : gA (pF S1 0 0) 11 t = p := e11
    rw [if1 (show 0 ≤ (t : Int) ∧ (t : Int) < fF S1 9 from ⟨by omega, ht9⟩), e11, f11, Int.toNat_natCast]
    refine ⟨⟨by omega, by omega⟩, fun _ => ⟨⟨by omega, by omega⟩, ⟨⟨by omega, by omega⟩, by omega, by omega⟩, fun _ => ⟨⟨by show -2147483648 ≤ (0 : Int); omega, by show (0 : Int) < 2147483648; omega⟩, fun _ => ⟨⟨by omega, by omega⟩, _, run1_lift ht hp hc e11 e12, ?_⟩, fun z => absurd rfl z⟩, fun z => absurd (by omega) z⟩, fun z => absurd (by decide) z⟩
    rintro S2 rfl
    have e7' : gA (liR (pF S1 0 0) t p c) 7 p = gA S 8 p - 1 := e7
    have e5' : gA (liR (pF S1 0 0) t p c) 5 p = k := e5
    rw [e7', e5']
  · refine ⟨⟨by omega, by omega⟩, ⟨by omega, by omega⟩, fun z => ⟨rfl, hR1, rfl, rfl⟩, fun z => ⟨⟨by omega, by omega⟩, _, run1_empties ⟨by omega, by omega⟩ hB1, ?_⟩⟩
    rintro r S2 ⟨rfl, rfl⟩
    exact ⟨⟨⟨by omega, by omega⟩, by omega, by omega⟩, fun z2 => absurd ⟨by omega, z2⟩ hg, fun z2 => ⟨rfl, hR1, rfl, rfl⟩⟩
  · refine ⟨⟨by omega, by omega⟩, ⟨by omega, by omega⟩, fun z => by omega, fun z => ⟨⟨by omega, by omega⟩, _, run1_empties ⟨by omega, by omega⟩ hB1, ?_⟩⟩
    rintro r S2 ⟨rfl, rfl⟩
    refine ⟨⟨⟨by omega, by omega⟩, by omega, by omega⟩, fun z2 => ⟨_, run1_close hp, ?_⟩, fun z2 => absurd hg.2 z2⟩
    rintro S3 rfl
    exact ⟨rfl, hR1.dr, rfl, rfl⟩
theorem run1_take_no1 {R : ST} {t : Int} (hr : rng t) (hn : ¬ (0 ≤ t ∧ t < fF R 9)) (hB : B1 R) : X1_take [vR 0, vI t] R (eqr 0 (thr R 1)) nox := by
  refine ⟨Nat.le_of_ble_eq_true rfl, ?_⟩
  show RR _ 0 [some (vR 0), some (vI t), none] [] R
  simp only [r1_take_0, r1_take_1, r1_take_2, r1_take_3, r1_take_6, r1_take_9, r1_take_10, r1_take_14, r1_take_17, r1_take_18, r1_take_19, r1_take_20, r1_take_23, r1_take_24, r1_take_27, r1_take_28, r1_take_31, r1_take_32, r1_take_35, r1_take_38, r1_take_39, r1_take_41, r1_take_44, r1_take_45, r1_take_46, r1_take_47, r1_take_48, r1_take_49, r1_take_52, r1_take_53, r1_take_56, r1_take_57, r1_take_58, r1_take_61, r1_take_62, r1_take_63, r1_take_66, r1_take_67, r1_take_68, r1_take_71, r1_take_72, r1_take_75, r1_take_76, r1_take_77, r1_take_78, r1_take_79, r1_take_82, r1_take_83, e_const, e_lconst, e_dconst, e_iload, e_kiload, e_aload, e_kaload, e_lload, e_klload, e_iinc, e_kiinc, e_istore, e_astore, e_lstore, e_dupI, e_dupR, e_dup2, e_iadd, e_isub, e_imul, e_idiv, e_irem, e_ladd, e_lmul, e_i2l, e_i2d, e_ddiv, e_icmp, e_if, e_goto, e_switch, e_tsw0, e_tsw1, e_getI, e_getA, e_putI, e_iald, e_iast, e_tnew, e_tald, e_tast, e_iret, e_zret, e_lret, e_dret, e_vret, e_throw, lg0, ls0, lt0, lg1, ls1, lo1, lt1, lg2, ls2, lo2, lt2, lg3, ls3, lo3, lt3, lg4, ls4, lo4, lt4, lg5, ls5, lo5, lt5, lg6, ls6, lo6, lt6, lg7, ls7, lo7, lt7, lg8, ls8, lo8, lo0, okI, okR, okN, e_calli1, e_calll1, e_callv1, e_xcalli1, e_xcallv1, e_acalli1, e_calli2, e_calll2, e_callv2, e_xcalli2, e_xcallv2, e_acalli2, e_calli3, e_calll3, e_callv3, e_xcalli3, e_xcallv3, e_acalli3, e_calli4, e_calll4, e_callv4, e_xcalli4, e_xcallv4, e_acalli4, e_scalli3, sh4_0, sh4_1, sh4_2, sh4_3, sh4_4, eqr, eqv, true_and, and_true, true_or, or_true, ln1_2, ln1_3, ln1_4, ln1_5, ln1_6, ln1_7, ln1_8, ln1_10, ln1_11, ln1_12]
  refine ⟨_, run1_isThing hr hB, ?_⟩
  rintro r S1 ⟨rfl, rfl⟩
  rw [if0 hn]
  refine ⟨⟨by omega, by omega⟩, fun z => absurd rfl z, fun _ => ⟨⟨by show -2147483648 ≤ (1 : Int); omega, by show (1 : Int) < 2147483648; omega⟩, fun z => absurd (show (1 : Int) = 0 from z) (by decide), fun _ => rfl⟩⟩
theorem run1_take_no2 {S R : ST} {t : Nat} (hI : Inv S) (h : Rel S R) (htc : (t : Int) < fF S 10) (hn : gA S 12 t = -1) : X1_take [vR 0, vI t] R (eqr 0 (thr R 2)) nox := by
  have h0 := hI.1.tc
  have hB := h.b1 hI
  have ht9 : (t : Int) < fF R 9 := by rw [h.1.2.1]; exact htc
  have e11 : gA R 11 t = -1 := by rw [h.2.1.2.2.2.2.2.2]; exact hn
  refine ⟨Nat.le_of_ble_eq_true rfl, ?_⟩
  show RR _ 0 [some (vR 0), some (vI t), none] [] R
  simp only [r1_take_0, r1_take_1, r1_take_2, r1_take_3, r1_take_6, r1_take_9, r1_take_10, r1_take_13, r1_take_14, r1_take_17, r1_take_18, r1_take_19, r1_take_20, r1_take_23, r1_take_24, r1_take_27, r1_take_28, r1_take_31, r1_take_32, r1_take_35, r1_take_38, r1_take_39, r1_take_41, r1_take_44, r1_take_45, r1_take_46, r1_take_47, r1_take_48, r1_take_49, r1_take_52, r1_take_53, r1_take_56, r1_take_57, r1_take_58, r1_take_61, r1_take_62, r1_take_63, r1_take_66, r1_take_67, r1_take_68, r1_take_71, r1_take_72, r1_take_75, r1_take_76, r1_take_77, r1_take_78, r1_take_79, r1_take_82, r1_take_83, e_const, e_lconst, e_dconst, e_iload, e_kiload, e_aload, e_kaload, e_lload, e_klload, e_iinc, e_kiinc, e_istore, e_astore, e_lstore, e_dupI, e_dupR, e_dup2, e_iadd, e_isub, e_imul, e_idiv, e_irem, e_ladd, e_lmul, e_i2l, e_i2d, e_ddiv, e_icmp, e_if, e_goto, e_switch, e_tsw0, e_tsw1, e_getI, e_getA, e_putI, e_iald, e_iast, e_tnew, e_tald, e_tast, e_iret, e_zret, e_lret, e_dret, e_vret, e_throw, lg0, ls0, lt0, lg1, ls1, lo1, lt1, lg2, ls2, lo2, lt2, lg3, ls3, lo3, lt3, lg4, ls4, lo4, lt4, lg5, ls5, lo5, lt5, lg6, ls6, lo6, lt6, lg7, ls7, lo7, lt7, lg8, ls8, lo8, lo0, okI, okR, okN, e_calli1, e_calll1, e_callv1, e_xcalli1, e_xcallv1, e_acalli1, e_calli2, e_calll2, e_callv2, e_xcalli2, e_xcallv2, e_acalli2, e_calli3, e_calll3, e_callv3, e_xcalli3, e_xcallv3, e_acalli3, e_calli4, e_calll4, e_callv4, e_xcalli4, e_xcallv4, e_acalli4, e_scalli3, sh4_0, sh4_1, sh4_2, sh4_3, sh4_4, eqr, eqv, true_and, and_true, true_or, or_true, ln1_2, ln1_3, ln1_4, ln1_5, ln1_6, ln1_7, ln1_8, ln1_10, ln1_11, ln1_12, Int.toNat_natCast]
  refine ⟨_, run1_isThing ⟨by omega, by omega⟩ hB, ?_⟩
  rintro r S1 ⟨rfl, rfl⟩
  rw [if1 (show 0 ≤ (t : Int) ∧ (t : Int) < fF S1 9 from ⟨by omega, ht9⟩), e11]
  refine ⟨⟨by omega, by omega⟩, fun _ => ⟨⟨by omega, by omega⟩, ⟨⟨by omega, by omega⟩, by omega, by omega⟩, fun z => absurd rfl z, fun _ => ⟨⟨by show -2147483648 ≤ (2 : Int); omega, by show (2 : Int) < 2147483648; omega⟩, fun z => absurd (show (2 : Int) = 0 from z) (by decide), fun _ => rfl⟩⟩, fun z => absurd (by decide) z⟩
theorem Inv_swF {S : ST} (hI : Inv S) : ∀ n, n ≤ 20 → Inv (swF S n).1
  | 0, _ => hI
  | n + 1, hn => by
    by_cases h : gA (swF S n).1 6 n ≠ -1 ∧ gA (swF S n).1 8 n = 0
    · rw [swF_y h]; exact Inv_drT (Inv_swF hI n (by omega)) (by omega) h.2
    · rw [swF_n h]; exact Inv_swF hI n (by omega)
theorem swF_14 {S : ST} : ∀ n, fF (swF S n).1 14 = fF S 14 + (swF S n).2
  | 0 => (Int.add_zero _).symm
  | n + 1 => by
    have ih := swF_14 (S := S) n
    by_cases h : gA (swF S n).1 6 n ≠ -1 ∧ gA (swF S n).1 8 n = 0
    · rw [swF_y h]
      show fF (swF S n).1 14 + 1 = fF S 14 + ((swF S n).2 + 1)
      omega
    · rw [swF_n h]; exact ih
theorem run1_sweep {S R : ST} (hI : Inv S) (h : Rel S R) : X1_sweep [vR 0] R (rsl (swF S 20).2 (swF S 20).1 R) nox := by
  refine ⟨Nat.le_of_ble_eq_true rfl, ?_⟩
  show RR _ 0 [some (vR 0), none, none] [] R
  have h13 : fF R 13 = fF S 14 := h.1.2.2.1
  have loop : ∀ i, i ≤ 20 → ∀ R2 : ST, Rel (swF S i).1 R2 → fF R2 0 = 0 → R2.2.2 = R.2.2 → RR (T1_sweep (rsl (swF S 20).2 (swF S 20).1 R) nox) 12 [some (vR 0), some (vI (fF R 13)), some (vI i)] [] R2 := by
    refine up ?_ ?_
    · intro R2 h1 h2 h3
      rw [r1_sweep_12]
      simp only [r1_sweep_0, r1_sweep_1, r1_sweep_2, r1_sweep_5, r1_sweep_6, r1_sweep_9, r1_sweep_10, r1_sweep_11, r1_sweep_13, r1_sweep_15, r1_sweep_18, r1_sweep_19, r1_sweep_22, r1_sweep_23, r1_sweep_24, r1_sweep_25, r1_sweep_28, r1_sweep_29, r1_sweep_32, r1_sweep_33, r1_sweep_34, r1_sweep_37, r1_sweep_38, r1_sweep_39, r1_sweep_42, r1_sweep_45, r1_sweep_48, r1_sweep_49, r1_sweep_52, r1_sweep_53, r1_sweep_54, e_const, e_lconst, e_dconst, e_iload, e_kiload, e_aload, e_kaload, e_lload, e_klload, e_iinc, e_kiinc, e_istore, e_astore, e_lstore, e_dupI, e_dupR, e_dup2, e_iadd, e_isub, e_imul, e_idiv, e_irem, e_ladd, e_lmul, e_i2l, e_i2d, e_ddiv, e_icmp, e_if, e_goto, e_switch, e_tsw0, e_tsw1, e_getI, e_getA, e_putI, e_iald, e_iast, e_tnew, e_tald, e_tast, e_iret, e_zret, e_lret, e_dret, e_vret, e_throw, lg0, ls0, lt0, lg1, ls1, lo1, lt1, lg2, ls2, lo2, lt2, lg3, ls3, lo3, lt3, lg4, ls4, lo4, lt4, lg5, ls5, lo5, lt5, lg6, ls6, lo6, lt6, lg7, ls7, lo7, lt7, lg8, ls8, lo8, lo0, okI, okR, okN, e_calli1, e_calll1, e_callv1, e_xcalli1, e_xcallv1, e_acalli1, e_calli2, e_calll2, e_callv2, e_xcalli2, e_xcallv2, e_acalli2, e_calli3, e_calll3, e_callv3, e_xcalli3, e_xcallv3, e_acalli3, e_calli4, e_calll4, e_callv4, e_xcalli4, e_xcallv4, e_acalli4, e_scalli3, sh4_0, sh4_1, sh4_2, sh4_3, sh4_4, eqr, eqv, true_and, and_true, true_or, or_true, ln1_2, ln1_3, ln1_4, ln1_5, ln1_6, ln1_7, ln1_8, ln1_10, ln1_11, ln1_12]
      refine ⟨⟨⟨by omega, by omega⟩, by omega, by omega⟩, fun _ => ⟨?_, h1, h2, h3⟩, fun z => absurd z (by omega)⟩
      have := swF_14 (S := S) 20
      have e := h1.1.2.2.1
      omega
    · intro i hi ih R2 h1 h2 h3
      rw [r1_sweep_12]
      simp only [r1_sweep_0, r1_sweep_1, r1_sweep_2, r1_sweep_5, r1_sweep_6, r1_sweep_9, r1_sweep_10, r1_sweep_11, r1_sweep_13, r1_sweep_15, r1_sweep_18, r1_sweep_19, r1_sweep_22, r1_sweep_23, r1_sweep_24, r1_sweep_25, r1_sweep_28, r1_sweep_29, r1_sweep_32, r1_sweep_33, r1_sweep_34, r1_sweep_37, r1_sweep_38, r1_sweep_39, r1_sweep_42, r1_sweep_45, r1_sweep_48, r1_sweep_49, r1_sweep_52, r1_sweep_53, r1_sweep_54, e_const, e_lconst, e_dconst, e_iload, e_kiload, e_aload, e_kaload, e_lload, e_klload, e_iinc, e_kiinc, e_istore, e_astore, e_lstore, e_dupI, e_dupR, e_dup2, e_iadd, e_isub, e_imul, e_idiv, e_irem, e_ladd, e_lmul, e_i2l, e_i2d, e_ddiv, e_icmp, e_if, e_goto, e_switch, e_tsw0, e_tsw1, e_getI, e_getA, e_putI, e_iald, e_iast, e_tnew, e_tald, e_tast, e_iret, e_zret, e_lret, e_dret, e_vret, e_throw, lg0, ls0, lt0, lg1, ls1, lo1, lt1, lg2, ls2, lo2, lt2, lg3, ls3, lo3, lt3, lg4, ls4, lo4, lt4, lg5, ls5, lo5, lt5, lg6, ls6, lo6, lt6, lg7, ls7, lo7, lt7, lg8, ls8, lo8, lo0, okI, okR, okN, e_calli1, e_calll1, e_callv1, e_xcalli1, e_xcallv1, e_acalli1, e_calli2, e_calll2, e_callv2, e_xcalli2, e_xcallv2, e_acalli2, e_calli3, e_calll3, e_callv3, e_xcalli3, e_xcallv3, e_acalli3, e_calli4, e_calll4, e_callv4, e_xcalli4, e_xcallv4, e_acalli4, e_scalli3, sh4_0, sh4_1, sh4_2, sh4_3, sh4_4, eqr, eqv, true_and, and_true, true_or, or_true, ln1_2, ln1_3, ln1_4, ln1_5, ln1_6, ln1_7, ln1_8, ln1_10, ln1_11, ln1_12, Int.toNat_natCast]
      have hI2 := Inv_swF hI i (by omega)
      have hB2 := h1.b1 hI2
      have hb := hB2.pl hi
      have h0 := hI2.1.kc
      have h01 := h1.1.1
      have e5 := h1.2.1.2.2.2.1 i
      have e7 := h1.2.1.2.2.2.2.1 i
      rw [e5, e7] at hb
      rw [e5, e7]
      refine ⟨⟨⟨by omega, by omega⟩, by omega, by omega⟩, fun z => by omega, fun z => ⟨⟨by omega, by omega⟩, ⟨⟨by omega, by omega⟩, by omega, by omega⟩, fun z2 => ?_, fun z2 => ⟨⟨by omega, by omega⟩, ⟨by omega, by omega⟩, fun z3 => ?_, fun z3 => ⟨_, run1_close hi, ?_⟩⟩⟩⟩
      · refine ih R2 ?_ h2 h3
        rw [swF_n (fun y => y.1 z2)]; exact h1
      · refine ih R2 ?_ h2 h3
        rw [swF_n (fun y => z3 y.2)]; exact h1
      · rintro R3 rfl
        refine ih _ ?_ h2 h3
        rw [swF_y ⟨z2, Decidable.not_not.mp z3⟩]
        exact h1.dr
  simp only [r1_sweep_0, r1_sweep_1, r1_sweep_2, r1_sweep_5, r1_sweep_6, r1_sweep_9, r1_sweep_10, r1_sweep_11, r1_sweep_13, r1_sweep_15, r1_sweep_18, r1_sweep_19, r1_sweep_22, r1_sweep_23, r1_sweep_24, r1_sweep_25, r1_sweep_28, r1_sweep_29, r1_sweep_32, r1_sweep_33, r1_sweep_34, r1_sweep_37, r1_sweep_38, r1_sweep_39, r1_sweep_42, r1_sweep_45, r1_sweep_48, r1_sweep_49, r1_sweep_52, r1_sweep_53, r1_sweep_54, e_const, e_lconst, e_dconst, e_iload, e_kiload, e_aload, e_kaload, e_lload, e_klload, e_iinc, e_kiinc, e_istore, e_astore, e_lstore, e_dupI, e_dupR, e_dup2, e_iadd, e_isub, e_imul, e_idiv, e_irem, e_ladd, e_lmul, e_i2l, e_i2d, e_ddiv, e_icmp, e_if, e_goto, e_switch, e_tsw0, e_tsw1, e_getI, e_getA, e_putI, e_iald, e_iast, e_tnew, e_tald, e_tast, e_iret, e_zret, e_lret, e_dret, e_vret, e_throw, lg0, ls0, lt0, lg1, ls1, lo1, lt1, lg2, ls2, lo2, lt2, lg3, ls3, lo3, lt3, lg4, ls4, lo4, lt4, lg5, ls5, lo5, lt5, lg6, ls6, lo6, lt6, lg7, ls7, lo7, lt7, lg8, ls8, lo8, lo0, okI, okR, okN, e_calli1, e_calll1, e_callv1, e_xcalli1, e_xcallv1, e_acalli1, e_calli2, e_calll2, e_callv2, e_xcalli2, e_xcallv2, e_acalli2, e_calli3, e_calll3, e_callv3, e_xcalli3, e_xcallv3, e_acalli3, e_calli4, e_calll4, e_callv4, e_xcalli4, e_xcallv4, e_acalli4, e_scalli3, sh4_0, sh4_1, sh4_2, sh4_3, sh4_4, eqr, eqv, true_and, and_true, true_or, or_true, ln1_2, ln1_3, ln1_4, ln1_5, ln1_6, ln1_7, ln1_8, ln1_10, ln1_11, ln1_12]
  exact loop 0 (by omega) _ (h.thr 0) rfl rfl
