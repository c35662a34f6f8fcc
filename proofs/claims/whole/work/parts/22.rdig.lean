/-! THE REFERENCE, its reads that make a row -/
theorem gA_t (F : Nat → Int) (G : Nat → Nat → Int) (x : Option (Nat × (Nat → Int)) × Nat × Nat) (k i : Nat) : gA (F, G, x) k i = G k i := rfl
theorem fF_t (F : Nat → Int) (G : Nat → Nat → Int) (x : Option (Nat × (Nat → Int)) × Nat × Nat) (k : Nat) : fF (F, G, x) k = F k := rfl
theorem tnew_e (F : Nat → Int) (G : Nat → Nat → Int) (a b n : Nat) : tnew (F, G, none, a, b) n = (F, G, some (n, fun _ => 0), a + 1, b + n) := rfl
theorem tput_e (F : Nat → Int) (G : Nat → Nat → Int) (n : Nat) (f : Nat → Int) (k : Nat × Nat) (i : Nat) (v : Int) : tput (F, G, some (n, f), k) i v = (F, G, some (n, fun j => if j = i then v else f j), k) := rfl
theorem tlen_e (F : Nat → Int) (G : Nat → Nat → Int) (n : Nat) (f : Nat → Int) (k : Nat × Nat) : tlen (F, G, some (n, f), k) = n := rfl
theorem tget_e (F : Nat → Int) (G : Nat → Nat → Int) (n : Nat) (f : Nat → Int) (k : Nat × Nat) (i : Nat) : tget (F, G, some (n, f), k) i = f i := rfl
/-- a state that holds no row of its own, counted from 0 -/
def cl0 (R : ST) : Prop := R.2.2 = (none, 0, 0)
theorem cl0_e {R : ST} (h : cl0 R) : R = (R.1, R.2.1, none, 0, 0) := by
  obtain ⟨F, G, x⟩ := R
  have h2 : x = (none, 0, 0) := h
  rw [h2]
/-- the answer is v; the state, but for the rows made and their count, is S -/
def eqc (v : Int) (S : ST) (r : Int) (S' : ST) : Prop := r = v ∧ S'.1 = S.1 ∧ S'.2.1 = S.2.1
def abR (R : ST) (k : Nat) (what : Int) : Int := abV (gA R 2 k) (gA R 3 k) (cK (gA R 5) k 20) (cH (gA R 5) (gA R 7) k 0 20) (cH (gA R 5) (gA R 7) k (csR R k) 20) (sK (gA R 5) (gA R 7) k 20) (cK (gA R 5) k 20 * csR R k - sK (gA R 5) (gA R 7) k 20) (gA R 4 k) what
theorem no99 {l : LV} (h : ∀ v ∈ l, v = none ∨ v = some (vR 0) ∨ ∃ a, v = some (vI a)) : ∀ v ∈ l, v ≠ some (vR 99) := by
  intro v hv e
  rcases h v hv with z | z | ⟨a, z⟩
  · rw [z] at e; cases e
  · rw [z] at e
    have h2 : vR 0 = vR 99 := Option.some.inj e
    have h3 := Sum.inr.inj (Sum.inr.inj (Sum.inr.inj h2))
    omega
  · rw [z] at e
    have h2 : vI a = vR 99 := Option.some.inj e
    cases h2
set_option maxHeartbeats 2000000 in
theorem run1_kindTold {R : ST} {k : Nat} {w : Int} (hc : cl0 R) (hk : (k : Int) < fF R 1) (hw : 0 ≤ w ∧ w ≤ 7) (hB : B1 R) : X1_kindTold [vR 0, vI k, vI w] R (eqc (abR R k w) R) nox := by
  refine ⟨Nat.le_of_ble_eq_true rfl, ?_⟩
  show RR _ 0 [some (vR 0), some (vI k), some (vI w), none] [] R
  rw [cl0_e hc] at hB hk ⊢
  generalize R.1 = F at *
  generalize R.2.1 = G at *
  have h0 := hB.kc
  have hrk : rng (k : Int) := ⟨by omega, by omega⟩
  simp only [r1_kindTold_0, r1_kindTold_2, r1_kindTold_4, r1_kindTold_5, r1_kindTold_6, r1_kindTold_7, r1_kindTold_10, r1_kindTold_11, r1_kindTold_12, r1_kindTold_13, r1_kindTold_14, r1_kindTold_15, r1_kindTold_16, r1_kindTold_19, r1_kindTold_20, r1_kindTold_21, r1_kindTold_22, r1_kindTold_23, r1_kindTold_24, r1_kindTold_25, r1_kindTold_26, r1_kindTold_29, r1_kindTold_30, r1_kindTold_31, r1_kindTold_32, r1_kindTold_33, r1_kindTold_34, r1_kindTold_37, r1_kindTold_38, r1_kindTold_39, r1_kindTold_40, r1_kindTold_41, r1_kindTold_42, r1_kindTold_45, r1_kindTold_46, r1_kindTold_47, r1_kindTold_48, r1_kindTold_49, r1_kindTold_50, r1_kindTold_53, r1_kindTold_54, r1_kindTold_55, r1_kindTold_57, r1_kindTold_58, r1_kindTold_59, r1_kindTold_62, r1_kindTold_63, r1_kindTold_64, r1_kindTold_67, r1_kindTold_68, r1_kindTold_69, r1_kindTold_70, r1_kindTold_73, r1_kindTold_74, r1_kindTold_75, r1_kindTold_76, r1_kindTold_78, r1_kindTold_79, r1_kindTold_82, r1_kindTold_83, r1_kindTold_84, r1_kindTold_85, r1_kindTold_86, r1_kindTold_87, r1_kindTold_88, r1_kindTold_89, e_const, e_lconst, e_dconst, e_iload, e_kiload, e_aload, e_kaload, e_lload, e_klload, e_iinc, e_kiinc, e_istore, e_astore, e_lstore, e_dupI, e_dupR, e_dup2, e_iadd, e_isub, e_imul, e_idiv, e_irem, e_ladd, e_lmul, e_i2l, e_i2d, e_ddiv, e_icmp, e_if, e_goto, e_switch, e_tsw0, e_tsw1, e_getI, e_getA, e_putI, e_iald, e_iast, e_tnew, e_tald, e_tast, e_iret, e_zret, e_lret, e_dret, e_vret, e_throw, lg0, ls0, lt0, lg1, ls1, lo1, lt1, lg2, ls2, lo2, lt2, lg3, ls3, lo3, lt3, lg4, ls4, lo4, lt4, lg5, ls5, lo5, lt5, lg6, ls6, lo6, lt6, lg7, ls7, lo7, lt7, lg8, ls8, lo8, lo0, okI, okR, okN, e_calli1, e_calll1, e_callv1, e_xcalli1, e_xcallv1, e_acalli1, e_calli2, e_calll2, e_callv2, e_xcalli2, e_xcallv2, e_acalli2, e_calli3, e_calll3, e_callv3, e_xcalli3, e_xcallv3, e_acalli3, e_calli4, e_calll4, e_callv4, e_xcalli4, e_xcallv4, e_acalli4, e_scalli3, sh4_0, sh4_1, sh4_2, sh4_3, sh4_4, eqr, eqv, true_and, and_true, true_or, or_true, ln1_2, ln1_3, ln1_4, ln1_5, ln1_6, ln1_7, ln1_8, ln1_10, ln1_11, ln1_12, tnew_e, tput_e, tlen_e, gA_t, Int.toNat_natCast]
  refine ⟨⟨rfl, by decide, no99 (al (Or.inr (Or.inl rfl)) <| al (Or.inr (Or.inr ⟨_, rfl⟩)) <| al (Or.inr (Or.inr ⟨_, rfl⟩)) <| al (Or.inl rfl) <| an), by decide, by decide⟩, ⟨by omega, by omega⟩, ⟨by decide, by decide, by decide⟩, ⟨by omega, by omega⟩, ⟨by decide, by decide, by decide⟩, ?_⟩
  refine ⟨_, run1_trays hrk hB, ?_⟩
  rintro r S1 ⟨rfl, rfl⟩
  simp only [tput_e, tlen_e]
  refine ⟨⟨by decide, by decide, by decide⟩, _, run1_empties hrk hB, ?_⟩
  rintro r S1 ⟨rfl, rfl⟩
  simp only [tput_e, tlen_e]
  refine ⟨⟨by decide, by decide, by decide⟩, _, run1_full hk hB, ?_⟩
  rintro r S1 ⟨rfl, rfl⟩
  simp only [tput_e, tlen_e]
  refine ⟨⟨by decide, by decide, by decide⟩, _, run1_lying hrk hB, ?_⟩
  rintro r S1 ⟨rfl, rfl⟩
  simp only [tput_e, tlen_e]
  refine ⟨⟨by decide, by decide, by decide⟩, _, run1_trays hrk hB, ?_⟩
  rintro r S1 ⟨rfl, rfl⟩
  refine ⟨_, run1_cells hk hB, ?_⟩
  rintro r S1 ⟨rfl, rfl⟩
  refine ⟨_, run1_lying hrk hB, ?_⟩
  rintro r S1 ⟨rfl, rfl⟩
  simp only [tput_e, tlen_e, gA_t, Int.toNat_natCast]
  refine ⟨⟨by decide, by decide, by decide⟩, ⟨by omega, by omega⟩, ⟨by decide, by decide, by decide⟩, ⟨by omega, by omega, by decide⟩, ?_, rfl, rfl⟩
  obtain ⟨n, rfl⟩ : ∃ n : Nat, w = n := ⟨w.toNat, by omega⟩
  rw [Int.toNat_natCast, tget_e]
  unfold abR abV
  rcases (show n = 0 ∨ n = 1 ∨ n = 2 ∨ n = 3 ∨ n = 4 ∨ n = 5 ∨ n = 6 ∨ n = 7 by omega) with rfl | rfl | rfl | rfl | rfl | rfl | rfl | rfl <;> rfl
/-- added over the trays that are there -/
def sN (f w : Nat → Int) : Nat → Int
  | 0 => 0
  | n + 1 => if f n = -1 then sN f w n else sN f w n + w n
theorem sN_y {f w : Nat → Int} {n : Nat} (h : f n = -1) : sN f w (n + 1) = sN f w n := by
  show (if _ then _ else _) = _
  rw [if_pos h]
theorem sN_n {f w : Nat → Int} {n : Nat} (h : ¬ f n = -1) : sN f w (n + 1) = sN f w n + w n := by
  show (if _ then _ else _) = _
  rw [if_neg h]
def coR (R : ST) (what : Int) : Int := coV (fF R 1) (sN (gA R 5) (fun _ => 1) 20) (sN (gA R 5) (gA R 7) 20) (fF R 9) (sN (gA R 5) (waR R) 20) (fF R 13) (fF R 14) what
set_option maxHeartbeats 2000000 in
theorem run1_counted {R : ST} {w : Int} (hc : cl0 R) (hw : 0 ≤ w ∧ w ≤ 6) (hB : B1 R) : X1_counted [vR 0, vI w] R (eqc (coR R w) R) nox := by
  have h0 := hB.kc
  refine ⟨Nat.le_of_ble_eq_true rfl, ?_⟩
  show RR _ 0 [some (vR 0), some (vI w), none, none, none, none] [] R
  have loop : ∀ i, i ≤ 20 → RR (T1_counted (eqc (coR R w) R) nox) 10 [some (vR 0), some (vI w), some (vI (sN (gA R 5) (fun _ => 1) i)), some (vI (sN (gA R 5) (gA R 7) i)), some (vI (sN (gA R 5) (waR R) i)), some (vI i)] [] R := by
    refine up ?_ ?_
    · rw [r1_counted_10]
      have e := cl0_e hc
      have hco : coR R w = coV (fF R 1) (sN (gA R 5) (fun _ => 1) 20) (sN (gA R 5) (gA R 7) 20) (fF R 9) (sN (gA R 5) (waR R) 20) (fF R 13) (fF R 14) w := rfl
      generalize sN (gA R 5) (fun _ => 1) 20 = t1 at hco ⊢
      generalize sN (gA R 5) (gA R 7) 20 = t2 at hco ⊢
      generalize sN (gA R 5) (waR R) 20 = t3 at hco ⊢
      rw [hco]
      rw [e]
      generalize R.1 = F at *
      generalize R.2.1 = G at *
      simp only [r1_counted_0, r1_counted_1, r1_counted_2, r1_counted_3, r1_counted_4, r1_counted_5, r1_counted_7, r1_counted_8, r1_counted_12, r1_counted_14, r1_counted_17, r1_counted_18, r1_counted_21, r1_counted_23, r1_counted_24, r1_counted_25, r1_counted_28, r1_counted_31, r1_counted_34, r1_counted_35, r1_counted_36, r1_counted_39, r1_counted_41, r1_counted_42, r1_counted_43, r1_counted_44, r1_counted_46, r1_counted_47, r1_counted_49, r1_counted_52, r1_counted_53, r1_counted_55, r1_counted_58, r1_counted_61, r1_counted_63, r1_counted_65, r1_counted_66, r1_counted_67, r1_counted_68, r1_counted_71, r1_counted_72, r1_counted_73, r1_counted_74, r1_counted_75, r1_counted_76, r1_counted_77, r1_counted_78, r1_counted_79, r1_counted_80, r1_counted_81, r1_counted_82, r1_counted_83, r1_counted_86, r1_counted_87, r1_counted_88, r1_counted_89, r1_counted_91, r1_counted_92, r1_counted_93, r1_counted_94, r1_counted_95, r1_counted_98, r1_counted_99, r1_counted_100, r1_counted_102, r1_counted_103, r1_counted_106, r1_counted_107, r1_counted_109, r1_counted_111, r1_counted_112, r1_counted_113, e_const, e_lconst, e_dconst, e_iload, e_kiload, e_aload, e_kaload, e_lload, e_klload, e_iinc, e_kiinc, e_istore, e_astore, e_lstore, e_dupI, e_dupR, e_dup2, e_iadd, e_isub, e_imul, e_idiv, e_irem, e_ladd, e_lmul, e_i2l, e_i2d, e_ddiv, e_icmp, e_if, e_goto, e_switch, e_tsw0, e_tsw1, e_getI, e_getA, e_putI, e_iald, e_iast, e_tnew, e_tald, e_tast, e_iret, e_zret, e_lret, e_dret, e_vret, e_throw, lg0, ls0, lt0, lg1, ls1, lo1, lt1, lg2, ls2, lo2, lt2, lg3, ls3, lo3, lt3, lg4, ls4, lo4, lt4, lg5, ls5, lo5, lt5, lg6, ls6, lo6, lt6, lg7, ls7, lo7, lt7, lg8, ls8, lo8, lo0, okI, okR, okN, e_calli1, e_calll1, e_callv1, e_xcalli1, e_xcallv1, e_acalli1, e_calli2, e_calll2, e_callv2, e_xcalli2, e_xcallv2, e_acalli2, e_calli3, e_calll3, e_callv3, e_xcalli3, e_xcallv3, e_acalli3, e_calli4, e_calll4, e_callv4, e_xcalli4, e_xcallv4, e_acalli4, e_scalli3, sh4_0, sh4_1, sh4_2, sh4_3, sh4_4, eqr, eqv, true_and, and_true, true_or, or_true, ln1_2, ln1_3, ln1_4, ln1_5, ln1_6, ln1_7, ln1_8, ln1_10, ln1_11, ln1_12, tnew_e, tput_e, tlen_e, fF_t]
      refine ⟨⟨⟨by omega, by omega⟩, by omega, by omega⟩, fun _ => ⟨⟨rfl, by decide, no99 (al (Or.inr (Or.inl rfl)) <| al (Or.inr (Or.inr ⟨_, rfl⟩)) <| al (Or.inr (Or.inr ⟨_, rfl⟩)) <| al (Or.inr (Or.inr ⟨_, rfl⟩)) <| al (Or.inr (Or.inr ⟨_, rfl⟩)) <| al (Or.inr (Or.inr ⟨_, rfl⟩)) <| an), by decide, by decide⟩, ⟨by decide, by decide, by decide⟩, ⟨by decide, by decide, by decide⟩, ⟨by decide, by decide, by decide⟩, ⟨by decide, by decide, by decide⟩, ⟨by decide, by decide, by decide⟩, ⟨by decide, by decide, by decide⟩, ⟨by decide, by decide, by decide⟩, ⟨by omega, by omega, by decide⟩, ?_, rfl, rfl⟩, fun h => absurd h (by omega)⟩
      obtain ⟨n, rfl⟩ : ∃ n : Nat, w = n := ⟨w.toNat, by omega⟩
      rw [Int.toNat_natCast, tget_e]
      unfold coV
      rcases (show n = 0 ∨ n = 1 ∨ n = 2 ∨ n = 3 ∨ n = 4 ∨ n = 5 ∨ n = 6 by omega) with rfl | rfl | rfl | rfl | rfl | rfl | rfl <;> rfl
    · intro i hi ih
      rw [r1_counted_10]
      have h1 := hB.pl hi
      simp only [r1_counted_0, r1_counted_1, r1_counted_2, r1_counted_3, r1_counted_4, r1_counted_5, r1_counted_7, r1_counted_8, r1_counted_12, r1_counted_14, r1_counted_17, r1_counted_18, r1_counted_21, r1_counted_23, r1_counted_24, r1_counted_25, r1_counted_28, r1_counted_31, r1_counted_34, r1_counted_35, r1_counted_36, r1_counted_39, r1_counted_41, r1_counted_42, r1_counted_43, r1_counted_44, r1_counted_46, r1_counted_47, r1_counted_49, r1_counted_52, r1_counted_53, r1_counted_55, r1_counted_58, r1_counted_61, r1_counted_63, r1_counted_65, r1_counted_66, r1_counted_67, r1_counted_68, r1_counted_71, r1_counted_72, r1_counted_73, r1_counted_74, r1_counted_75, r1_counted_76, r1_counted_77, r1_counted_78, r1_counted_79, r1_counted_80, r1_counted_81, r1_counted_82, r1_counted_83, r1_counted_86, r1_counted_87, r1_counted_88, r1_counted_89, r1_counted_91, r1_counted_92, r1_counted_93, r1_counted_94, r1_counted_95, r1_counted_98, r1_counted_99, r1_counted_100, r1_counted_102, r1_counted_103, r1_counted_106, r1_counted_107, r1_counted_109, r1_counted_111, r1_counted_112, r1_counted_113, e_const, e_lconst, e_dconst, e_iload, e_kiload, e_aload, e_kaload, e_lload, e_klload, e_iinc, e_kiinc, e_istore, e_astore, e_lstore, e_dupI, e_dupR, e_dup2, e_iadd, e_isub, e_imul, e_idiv, e_irem, e_ladd, e_lmul, e_i2l, e_i2d, e_ddiv, e_icmp, e_if, e_goto, e_switch, e_tsw0, e_tsw1, e_getI, e_getA, e_putI, e_iald, e_iast, e_tnew, e_tald, e_tast, e_iret, e_zret, e_lret, e_dret, e_vret, e_throw, lg0, ls0, lt0, lg1, ls1, lo1, lt1, lg2, ls2, lo2, lt2, lg3, ls3, lo3, lt3, lg4, ls4, lo4, lt4, lg5, ls5, lo5, lt5, lg6, ls6, lo6, lt6, lg7, ls7, lo7, lt7, lg8, ls8, lo8, lo0, okI, okR, okN, e_calli1, e_calll1, e_callv1, e_xcalli1, e_xcallv1, e_acalli1, e_calli2, e_calll2, e_callv2, e_xcalli2, e_xcallv2, e_acalli2, e_calli3, e_calll3, e_callv3, e_xcalli3, e_xcallv3, e_acalli3, e_calli4, e_calll4, e_callv4, e_xcalli4, e_xcallv4, e_acalli4, e_scalli3, sh4_0, sh4_1, sh4_2, sh4_3, sh4_4, eqr, eqv, true_and, and_true, true_or, or_true, ln1_2, ln1_3, ln1_4, ln1_5, ln1_6, ln1_7, ln1_8, ln1_10, ln1_11, ln1_12, Int.toNat_natCast]
      refine ⟨⟨⟨by omega, by omega⟩, by omega, by omega⟩, fun h => by omega, fun h => ⟨⟨by omega, by omega⟩, ⟨⟨by omega, by omega⟩, by omega, by omega⟩, fun h2 => ⟨⟨by omega, by omega⟩, _, run1_wasted hi h2 hB, ?_⟩, fun h2 => ?_⟩⟩
      · rintro r S1 ⟨rfl, rfl⟩
        rw [sN_n h2, sN_n h2, sN_n h2] at ih
        exact ih
      · rw [sN_y (Decidable.not_not.mp h2), sN_y (Decidable.not_not.mp h2), sN_y (Decidable.not_not.mp h2)] at ih
        exact ih
  simp only [r1_counted_0, r1_counted_1, r1_counted_2, r1_counted_3, r1_counted_4, r1_counted_5, r1_counted_7, r1_counted_8, r1_counted_12, r1_counted_14, r1_counted_17, r1_counted_18, r1_counted_21, r1_counted_23, r1_counted_24, r1_counted_25, r1_counted_28, r1_counted_31, r1_counted_34, r1_counted_35, r1_counted_36, r1_counted_39, r1_counted_41, r1_counted_42, r1_counted_43, r1_counted_44, r1_counted_46, r1_counted_47, r1_counted_49, r1_counted_52, r1_counted_53, r1_counted_55, r1_counted_58, r1_counted_61, r1_counted_63, r1_counted_65, r1_counted_66, r1_counted_67, r1_counted_68, r1_counted_71, r1_counted_72, r1_counted_73, r1_counted_74, r1_counted_75, r1_counted_76, r1_counted_77, r1_counted_78, r1_counted_79, r1_counted_80, r1_counted_81, r1_counted_82, r1_counted_83, r1_counted_86, r1_counted_87, r1_counted_88, r1_counted_89, r1_counted_91, r1_counted_92, r1_counted_93, r1_counted_94, r1_counted_95, r1_counted_98, r1_counted_99, r1_counted_100, r1_counted_102, r1_counted_103, r1_counted_106, r1_counted_107, r1_counted_109, r1_counted_111, r1_counted_112, r1_counted_113, e_const, e_lconst, e_dconst, e_iload, e_kiload, e_aload, e_kaload, e_lload, e_klload, e_iinc, e_kiinc, e_istore, e_astore, e_lstore, e_dupI, e_dupR, e_dup2, e_iadd, e_isub, e_imul, e_idiv, e_irem, e_ladd, e_lmul, e_i2l, e_i2d, e_ddiv, e_icmp, e_if, e_goto, e_switch, e_tsw0, e_tsw1, e_getI, e_getA, e_putI, e_iald, e_iast, e_tnew, e_tald, e_tast, e_iret, e_zret, e_lret, e_dret, e_vret, e_throw, lg0, ls0, lt0, lg1, ls1, lo1, lt1, lg2, ls2, lo2, lt2, lg3, ls3, lo3, lt3, lg4, ls4, lo4, lt4, lg5, ls5, lo5, lt5, lg6, ls6, lo6, lt6, lg7, ls7, lo7, lt7, lg8, ls8, lo8, lo0, okI, okR, okN, e_calli1, e_calll1, e_callv1, e_xcalli1, e_xcallv1, e_acalli1, e_calli2, e_calll2, e_callv2, e_xcalli2, e_xcallv2, e_acalli2, e_calli3, e_calll3, e_callv3, e_xcalli3, e_xcallv3, e_acalli3, e_calli4, e_calll4, e_callv4, e_xcalli4, e_xcallv4, e_acalli4, e_scalli3, sh4_0, sh4_1, sh4_2, sh4_3, sh4_4, eqr, eqv, true_and, and_true, true_or, or_true, ln1_2, ln1_3, ln1_4, ln1_5, ln1_6, ln1_7, ln1_8, ln1_10, ln1_11, ln1_12]
  exact loop 0 (by omega)
theorem glue_e {S S' : ST} {k m : Nat} (h1 : S'.1 = S.1) (h2 : S'.2.1 = S.2.1) : glue S S' k m = (S.1, S.2.1, none, S.2.2.2.1 + k, S.2.2.2.2 + m) := by
  unfold glue
  rw [h1, h2]
theorem cl0_cut (S : ST) : cl0 (cut0 S) := rfl
theorem run1_about_ok {R : ST} {k : Nat} {w : Int} (hc : cl0 R) (hk : (k : Int) < fF R 1) (hw : 0 ≤ w ∧ w ≤ 7) (hB : B1 R) : X1_about [vR 0, vI k, vI w] R (eqc (abR R k w) (thr R 0)) nox := by
  have h0 := hB.kc
  refine ⟨Nat.le_of_ble_eq_true rfl, ?_⟩
  show RR _ 0 [some (vR 0), some (vI k), some (vI w)] [] R
  simp only [r1_about_0, r1_about_1, r1_about_2, r1_about_5, r1_about_6, r1_about_7, r1_about_10, r1_about_13, r1_about_14, r1_about_15, r1_about_17, r1_about_20, r1_about_23, r1_about_24, r1_about_25, r1_about_26, r1_about_29, r1_about_32, r1_about_33, r1_about_34, r1_about_37, e_const, e_lconst, e_dconst, e_iload, e_kiload, e_aload, e_kaload, e_lload, e_klload, e_iinc, e_kiinc, e_istore, e_astore, e_lstore, e_dupI, e_dupR, e_dup2, e_iadd, e_isub, e_imul, e_idiv, e_irem, e_ladd, e_lmul, e_i2l, e_i2d, e_ddiv, e_icmp, e_if, e_goto, e_switch, e_tsw0, e_tsw1, e_getI, e_getA, e_putI, e_iald, e_iast, e_tnew, e_tald, e_tast, e_iret, e_zret, e_lret, e_dret, e_vret, e_throw, lg0, ls0, lt0, lg1, ls1, lo1, lt1, lg2, ls2, lo2, lt2, lg3, ls3, lo3, lt3, lg4, ls4, lo4, lt4, lg5, ls5, lo5, lt5, lg6, ls6, lo6, lt6, lg7, ls7, lo7, lt7, lg8, ls8, lo8, lo0, okI, okR, okN, e_calli1, e_calll1, e_callv1, e_xcalli1, e_xcallv1, e_acalli1, e_calli2, e_calll2, e_callv2, e_xcalli2, e_xcallv2, e_acalli2, e_calli3, e_calll3, e_callv3, e_xcalli3, e_xcallv3, e_acalli3, e_calli4, e_calll4, e_callv4, e_xcalli4, e_xcallv4, e_acalli4, e_scalli3, sh4_0, sh4_1, sh4_2, sh4_3, sh4_4, eqr, eqv, true_and, and_true, true_or, or_true, ln1_2, ln1_3, ln1_4, ln1_5, ln1_6, ln1_7, ln1_8, ln1_10, ln1_11, ln1_12]
  refine ⟨_, run1_isKind ⟨by omega, by omega⟩ (hB.thr 0), ?_⟩
  rintro r S1 ⟨rfl, rfl⟩
  rw [if1 (show 0 ≤ (k : Int) ∧ (k : Int) < fF (thr R 0) 1 from ⟨by omega, hk⟩)]
  refine ⟨⟨by omega, by omega⟩, fun h => by omega, fun _ => ⟨_, run1_isIn ⟨by omega, by omega⟩ ⟨by omega, by omega⟩ ⟨by omega, by omega⟩, ?_⟩⟩
  rintro r S2 ⟨rfl, rfl⟩
  rw [if1 hw]
  have e : R.2.2 = (none, 0, 0) := hc
  refine ⟨⟨by omega, by omega⟩, fun h => by omega, fun _ => ⟨⟨by show R.2.2.1 = none; rw [e], by show R.2.2.2.1 + 1 ≤ 1; rw [e]; decide, by show R.2.2.2.2 + 8 ≤ 8; rw [e]; decide⟩, _, run1_kindTold (cl0_cut _) hk hw hB, ?_⟩⟩
  rintro r S3 ⟨rfl, h1, h2⟩
  exact ⟨rfl, h1, h2⟩
theorem run1_about_no {R : ST} {t w : Int} (hrt : rng t) (hrw : rng w) (hn : ¬ ((0 ≤ t ∧ t < fF R 1) ∧ 0 ≤ w ∧ w ≤ 7)) (hB : B1 R) : X1_about [vR 0, vI t, vI w] R (eqc 0 (thr R 1)) nox := by
  refine ⟨Nat.le_of_ble_eq_true rfl, ?_⟩
  show RR _ 0 [some (vR 0), some (vI t), some (vI w)] [] R
  simp only [r1_about_0, r1_about_1, r1_about_2, r1_about_5, r1_about_6, r1_about_7, r1_about_10, r1_about_13, r1_about_14, r1_about_15, r1_about_17, r1_about_20, r1_about_23, r1_about_24, r1_about_25, r1_about_26, r1_about_29, r1_about_32, r1_about_33, r1_about_34, r1_about_37, e_const, e_lconst, e_dconst, e_iload, e_kiload, e_aload, e_kaload, e_lload, e_klload, e_iinc, e_kiinc, e_istore, e_astore, e_lstore, e_dupI, e_dupR, e_dup2, e_iadd, e_isub, e_imul, e_idiv, e_irem, e_ladd, e_lmul, e_i2l, e_i2d, e_ddiv, e_icmp, e_if, e_goto, e_switch, e_tsw0, e_tsw1, e_getI, e_getA, e_putI, e_iald, e_iast, e_tnew, e_tald, e_tast, e_iret, e_zret, e_lret, e_dret, e_vret, e_throw, lg0, ls0, lt0, lg1, ls1, lo1, lt1, lg2, ls2, lo2, lt2, lg3, ls3, lo3, lt3, lg4, ls4, lo4, lt4, lg5, ls5, lo5, lt5, lg6, ls6, lo6, lt6, lg7, ls7, lo7, lt7, lg8, ls8, lo8, lo0, okI, okR, okN, e_calli1, e_calll1, e_callv1, e_xcalli1, e_xcallv1, e_acalli1, e_calli2, e_calll2, e_callv2, e_xcalli2, e_xcallv2, e_acalli2, e_calli3, e_calll3, e_callv3, e_xcalli3, e_xcallv3, e_acalli3, e_calli4, e_calll4, e_callv4, e_xcalli4, e_xcallv4, e_acalli4, e_scalli3, sh4_0, sh4_1, sh4_2, sh4_3, sh4_4, eqr, eqv, true_and, and_true, true_or, or_true, ln1_2, ln1_3, ln1_4, ln1_5, ln1_6, ln1_7, ln1_8, ln1_10, ln1_11, ln1_12]
  refine ⟨_, run1_isKind hrt (hB.thr 0), ?_⟩
  rintro r S1 ⟨rfl, rfl⟩
  have tail : ∃ Q, X1_no [vR 0, vI 1] (pF R 0 0) Q nox ∧ ∀ r S', Q r S' → eqc 0 (thr R 1) r S' := ⟨_, run1_no, fun r S' h => by
    obtain ⟨rfl, rfl⟩ := h
    show eqc 0 (thr R 1) 0 (pF (pF R 0 0) 0 1)
    rw [thr_thr]
    exact ⟨rfl, rfl, rfl⟩⟩
  by_cases ht : 0 ≤ t ∧ t < fF R 1
  · rw [if1 (show 0 ≤ t ∧ t < fF (thr R 0) 1 from ht)]
    refine ⟨⟨by omega, by omega⟩, fun h => by omega, fun _ => ⟨_, run1_isIn hrw ⟨by omega, by omega⟩ ⟨by omega, by omega⟩, ?_⟩⟩
    rintro r S2 ⟨rfl, rfl⟩
    rw [if0 (fun z => hn ⟨ht, z⟩)]
    exact ⟨⟨by omega, by omega⟩, fun _ => tail, fun h => absurd rfl h⟩
  · rw [if0 (show ¬ (0 ≤ t ∧ t < fF (thr R 0) 1) from ht)]
    exact ⟨⟨by omega, by omega⟩, fun _ => tail, fun h => absurd rfl h⟩
theorem run1_count_ok {R : ST} {w : Int} (hc : cl0 R) (hw : 0 ≤ w ∧ w ≤ 6) (hB : B1 R) : X1_count [vR 0, vI w] R (eqc (coR R w) (thr R 0)) nox := by
  refine ⟨Nat.le_of_ble_eq_true rfl, ?_⟩
  show RR _ 0 [some (vR 0), some (vI w)] [] R
  simp only [r1_count_0, r1_count_1, r1_count_2, r1_count_5, r1_count_6, r1_count_7, r1_count_9, r1_count_12, r1_count_15, r1_count_16, r1_count_17, r1_count_20, r1_count_23, r1_count_24, r1_count_25, r1_count_28, e_const, e_lconst, e_dconst, e_iload, e_kiload, e_aload, e_kaload, e_lload, e_klload, e_iinc, e_kiinc, e_istore, e_astore, e_lstore, e_dupI, e_dupR, e_dup2, e_iadd, e_isub, e_imul, e_idiv, e_irem, e_ladd, e_lmul, e_i2l, e_i2d, e_ddiv, e_icmp, e_if, e_goto, e_switch, e_tsw0, e_tsw1, e_getI, e_getA, e_putI, e_iald, e_iast, e_tnew, e_tald, e_tast, e_iret, e_zret, e_lret, e_dret, e_vret, e_throw, lg0, ls0, lt0, lg1, ls1, lo1, lt1, lg2, ls2, lo2, lt2, lg3, ls3, lo3, lt3, lg4, ls4, lo4, lt4, lg5, ls5, lo5, lt5, lg6, ls6, lo6, lt6, lg7, ls7, lo7, lt7, lg8, ls8, lo8, lo0, okI, okR, okN, e_calli1, e_calll1, e_callv1, e_xcalli1, e_xcallv1, e_acalli1, e_calli2, e_calll2, e_callv2, e_xcalli2, e_xcallv2, e_acalli2, e_calli3, e_calll3, e_callv3, e_xcalli3, e_xcallv3, e_acalli3, e_calli4, e_calll4, e_callv4, e_xcalli4, e_xcallv4, e_acalli4, e_scalli3, sh4_0, sh4_1, sh4_2, sh4_3, sh4_4, eqr, eqv, true_and, and_true, true_or, or_true, ln1_2, ln1_3, ln1_4, ln1_5, ln1_6, ln1_7, ln1_8, ln1_10, ln1_11, ln1_12]
  refine ⟨_, run1_isIn ⟨by omega, by omega⟩ ⟨by omega, by omega⟩ ⟨by omega, by omega⟩, ?_⟩
  rintro r S2 ⟨rfl, rfl⟩
  rw [if1 hw]
  have e : R.2.2 = (none, 0, 0) := hc
  refine ⟨⟨by omega, by omega⟩, fun h => by omega, fun _ => ⟨⟨by show R.2.2.1 = none; rw [e], by show R.2.2.2.1 + 1 ≤ 1; rw [e]; decide, by show R.2.2.2.2 + 7 ≤ 7; rw [e]; decide⟩, _, run1_counted (cl0_cut _) hw hB, ?_⟩⟩
  rintro r S3 ⟨rfl, h1, h2⟩
  exact ⟨rfl, h1, h2⟩
theorem run1_count_no {R : ST} {w : Int} (hrw : rng w) (hn : ¬ (0 ≤ w ∧ w ≤ 6)) : X1_count [vR 0, vI w] R (eqc 0 (thr R 1)) nox := by
  refine ⟨Nat.le_of_ble_eq_true rfl, ?_⟩
  show RR _ 0 [some (vR 0), some (vI w)] [] R
  simp only [r1_count_0, r1_count_1, r1_count_2, r1_count_5, r1_count_6, r1_count_7, r1_count_9, r1_count_12, r1_count_15, r1_count_16, r1_count_17, r1_count_20, r1_count_23, r1_count_24, r1_count_25, r1_count_28, e_const, e_lconst, e_dconst, e_iload, e_kiload, e_aload, e_kaload, e_lload, e_klload, e_iinc, e_kiinc, e_istore, e_astore, e_lstore, e_dupI, e_dupR, e_dup2, e_iadd, e_isub, e_imul, e_idiv, e_irem, e_ladd, e_lmul, e_i2l, e_i2d, e_ddiv, e_icmp, e_if, e_goto, e_switch, e_tsw0, e_tsw1, e_getI, e_getA, e_putI, e_iald, e_iast, e_tnew, e_tald, e_tast, e_iret, e_zret, e_lret, e_dret, e_vret, e_throw, lg0, ls0, lt0, lg1, ls1, lo1, lt1, lg2, ls2, lo2, lt2, lg3, ls3, lo3, lt3, lg4, ls4, lo4, lt4, lg5, ls5, lo5, lt5, lg6, ls6, lo6, lt6, lg7, ls7, lo7, lt7, lg8, ls8, lo8, lo0, okI, okR, okN, e_calli1, e_calll1, e_callv1, e_xcalli1, e_xcallv1, e_acalli1, e_calli2, e_calll2, e_callv2, e_xcalli2, e_xcallv2, e_acalli2, e_calli3, e_calll3, e_callv3, e_xcalli3, e_xcallv3, e_acalli3, e_calli4, e_calll4, e_callv4, e_xcalli4, e_xcallv4, e_acalli4, e_scalli3, sh4_0, sh4_1, sh4_2, sh4_3, sh4_4, eqr, eqv, true_and, and_true, true_or, or_true, ln1_2, ln1_3, ln1_4, ln1_5, ln1_6, ln1_7, ln1_8, ln1_10, ln1_11, ln1_12]
  have tail : ∃ Q, X1_no [vR 0, vI 1] (pF R 0 0) Q nox ∧ ∀ r S', Q r S' → eqc 0 (thr R 1) r S' := ⟨_, run1_no, fun r S' h => by
    obtain ⟨rfl, rfl⟩ := h
    show eqc 0 (thr R 1) 0 (pF (pF R 0 0) 0 1)
    rw [thr_thr]
    exact ⟨rfl, rfl, rfl⟩⟩
  refine ⟨_, run1_isIn hrw ⟨by omega, by omega⟩ ⟨by omega, by omega⟩, ?_⟩
  rintro r S2 ⟨rfl, rfl⟩
  rw [if0 hn]
  exact ⟨⟨by omega, by omega⟩, fun _ => tail, fun h => absurd rfl h⟩
def eqcd (v : UInt64) (S : ST) (r : UInt64) (S' : ST) : Prop := r = v ∧ S'.1 = S.1 ∧ S'.2.1 = S.2.1
def eqcl (v : Int64) (S : ST) (r : Int64) (S' : ST) : Prop := r = v ∧ S'.1 = S.1 ∧ S'.2.1 = S.2.1
theorem sN_b {f : Nat → Int} : ∀ n : Nat, 0 ≤ sN f (fun _ => 1) n ∧ sN f (fun _ => 1) n ≤ n
  | 0 => ⟨Int.le_refl _, Int.le_refl _⟩
  | n + 1 => by
    have := sN_b (f := f) n
    by_cases h : f n = -1
    · rw [sN_y h]; omega
    · rw [sN_n h]; omega
theorem run1_mean {R : ST} (hc : cl0 R) (hB : B1 R) (hN : sN (gA R 5) (fun _ => 1) 20 ≠ 0 → vf_n64 (FP.ddiv (FP.i2d (iI (sN (gA R 5) (gA R 7) 20))) (FP.i2d (iI (sN (gA R 5) (fun _ => 1) 20))))) : X1_mean [vR 0] R (eqcd (meV (sN (gA R 5) (gA R 7) 20) (sN (gA R 5) (fun _ => 1) 20)) (thr R 0)) nox := by
  have e : R.2.2 = (none, 0, 0) := hc
  have hb := sN_b (f := gA R 5) 20
  refine ⟨Nat.le_of_ble_eq_true rfl, ?_⟩
  show RR _ 0 [some (vR 0)] [] R
  have e1 : coR (cut0 (thr R 0)) 1 = sN (gA R 5) (fun _ => 1) 20 := rfl
  have e2 : coR (cut0 (thr R 0)) 2 = sN (gA R 5) (gA R 7) 20 := rfl
  simp only [r1_mean_0, r1_mean_1, r1_mean_2, r1_mean_5, r1_mean_6, r1_mean_7, r1_mean_10, r1_mean_13, r1_mean_14, r1_mean_17, r1_mean_18, r1_mean_19, r1_mean_22, r1_mean_23, r1_mean_24, r1_mean_25, r1_mean_28, r1_mean_29, r1_mean_30, e_const, e_lconst, e_dconst, e_iload, e_kiload, e_aload, e_kaload, e_lload, e_klload, e_iinc, e_kiinc, e_istore, e_astore, e_lstore, e_dupI, e_dupR, e_dup2, e_iadd, e_isub, e_imul, e_idiv, e_irem, e_ladd, e_lmul, e_i2l, e_i2d, e_ddiv, e_icmp, e_if, e_goto, e_switch, e_tsw0, e_tsw1, e_getI, e_getA, e_putI, e_iald, e_iast, e_tnew, e_tald, e_tast, e_iret, e_zret, e_lret, e_dret, e_vret, e_throw, lg0, ls0, lt0, lg1, ls1, lo1, lt1, lg2, ls2, lo2, lt2, lg3, ls3, lo3, lt3, lg4, ls4, lo4, lt4, lg5, ls5, lo5, lt5, lg6, ls6, lo6, lt6, lg7, ls7, lo7, lt7, lg8, ls8, lo8, lo0, okI, okR, okN, e_calli1, e_calll1, e_callv1, e_xcalli1, e_xcallv1, e_acalli1, e_calli2, e_calll2, e_callv2, e_xcalli2, e_xcallv2, e_acalli2, e_calli3, e_calll3, e_callv3, e_xcalli3, e_xcallv3, e_acalli3, e_calli4, e_calll4, e_callv4, e_xcalli4, e_xcallv4, e_acalli4, e_scalli3, sh4_0, sh4_1, sh4_2, sh4_3, sh4_4, eqr, eqv, true_and, and_true, true_or, or_true, ln1_2, ln1_3, ln1_4, ln1_5, ln1_6, ln1_7, ln1_8, ln1_10, ln1_11, ln1_12]
  refine ⟨⟨by show R.2.2.1 = none; rw [e], by show R.2.2.2.1 + 1 ≤ 3; rw [e]; decide, by show R.2.2.2.2 + 7 ≤ 21; rw [e]; decide⟩, _, run1_counted (cl0_cut _) ⟨by decide, by decide⟩ hB, ?_⟩
  rintro r S1 ⟨rfl, h1, h2⟩
  have g1 : glue (thr R 0) S1 1 7 = ((thr R 0).1, R.2.1, none, 1, 7) := by
    rw [glue_e (S := thr R 0) h1 h2]
    show ((thr R 0).1, R.2.1, none, R.2.2.2.1 + 1, R.2.2.2.2 + 7) = _
    rw [e]
  rw [g1, e1]
  unfold meV
  refine ⟨⟨by omega, by omega⟩, fun h => ?_, fun h => ⟨by rw [if_pos (Decidable.not_not.mp h)], rfl, rfl⟩⟩
  refine ⟨⟨rfl, Nat.le_of_ble_eq_true rfl, Nat.le_of_ble_eq_true rfl⟩, _, run1_counted (cl0_cut _) ⟨by decide, by decide⟩ hB, ?_⟩
  rintro r S2 ⟨rfl, h3, h4⟩
  have g2 : glue ((thr R 0).1, R.2.1, none, 1, 7) S2 1 7 = ((thr R 0).1, R.2.1, none, 2, 14) := by
    rw [glue_e (S := ((thr R 0).1, R.2.1, none, 1, 7)) h3 h4]
  rw [g2]
  refine ⟨⟨rfl, Nat.le_of_ble_eq_true rfl, Nat.le_of_ble_eq_true rfl⟩, _, run1_counted (cl0_cut _) ⟨by decide, by decide⟩ hB, ?_⟩
  rintro r S3 ⟨rfl, h5, h6⟩
  rw [if_neg h]
  exact ⟨hN h, rfl, h5, h6⟩
/-- the checksum, as the reference joins it -/
def dgpR (R : ST) (p : Nat) (d : Int64) : Int64 := f31 (fun c => gA R 8 (64 * p + c)) (cellsR R p).toNat (f31 (fun w => trayR R p w) 5 d)
def dkR (R : ST) : Nat → Int64 → Int64
  | 0, d => d
  | n + 1, d => f31 (fun w => abR R n w) 8 (dkR R n d)
def dpR (R : ST) : Nat → Int64 → Int64
  | 0, d => d
  | n + 1, d => dgpR R n (dpR R n d)
def dgR (R : ST) : Int64 := dpR R 20 (dkR R (fF R 1).toNat (f31 (fun w => coR R w) 7 1381))
theorem cellsR_b {R : ST} {p : Nat} (hp : p < 20) (hB : B1 R) : 0 ≤ cellsR R p ∧ cellsR R p ≤ 64 := by
  have h1 := hB.pl hp
  have h0 := hB.kc
  unfold cellsR
  split
  · omega
  · have := csR_b (R := R) (k := (gA R 5 p).toNat) (by omega) hB
    omega
def stD (F : Nat → Int) (G : Nat → Nat → Int) (a b : Nat) : ST := (F, G, none, a, b)
set_option maxHeartbeats 2000000 in
theorem run1_digest {R : ST} (hc : cl0 R) (hB : B1 R) : X1_digest [vR 0] R (eqcl (dgR R) (thr R 0)) nox := by
  have e : R.2.2 = (none, 0, 0) := hc
  have h0 := hB.kc
  refine ⟨Nat.le_of_ble_eq_true rfl, ?_⟩
  show RR _ 0 [some (vR 0), none, none, none, none] [] R
  obtain ⟨F, hF⟩ : ∃ F, F = (thr R 0).1 := ⟨_, rfl⟩
  obtain ⟨G, hG⟩ : ∃ G, G = R.2.1 := ⟨_, rfl⟩
  have hst : ∀ a b : Nat, B1 (stD F G a b) := fun a b => by rw [hF, hG]; exact hB
  have hkc : ∀ a b : Nat, fF (stD F G a b) 1 = fF R 1 := fun a b => by rw [hF]; rfl
  have f5 : ∀ a b p : Nat, gA (stD F G a b) 5 p = gA R 5 p := fun a b p => by rw [hG]; rfl
  have f8 : ∀ a b p : Nat, gA (stD F G a b) 8 p = gA R 8 p := fun a b p => by rw [hG]; rfl
  have fco : ∀ (a b : Nat) (w : Int), coR (cut0 (stD F G a b)) w = coR R w := fun a b w => by rw [hF, hG]; rfl
  have fab : ∀ (a b k : Nat) (w : Int), abR (cut0 (stD F G a b)) k w = abR R k w := fun a b k w => by rw [hF, hG]; rfl
  have ftr : ∀ (a b p : Nat) (w : Int), trayR (stD F G a b) p w = trayR R p w := fun a b p w => by rw [hG]; rfl
  have fcs : ∀ (a b k : Nat), csR (stD F G a b) k = csR R k := fun a b k => by rw [hG]; rfl
  have gl : ∀ (a b m : Nat) (S' : ST), S'.1 = F → S'.2.1 = G → glue (stD F G a b) S' 1 m = stD F G (a + 1) (b + m) := fun a b m S' h1 h2 => by
    unfold glue stD
    rw [h1, h2]
  have end0 : ∀ a b : Nat, eqcl (dgR R) (thr R 0) (dgR R) (stD F G a b) := fun a b => ⟨rfl, hF, hG⟩
  -- the places
  have loop4 : ∀ i, i ≤ 20 → ∀ (z : Option AV) (a b : Nat), RR (T1_digest (eqcl (dgR R) (thr R 0)) nox) 85 [some (vR 0), some (vL (dpR R i (dkR R (fF R 1).toNat (f31 (fun w => coR R w) 7 1381)))), none, some (vI i), z] [] (stD F G a b) := by
    refine up ?_ ?_
    · intro z a b
      rw [r1_digest_85]
      simp only [r1_digest_0, r1_digest_1, r1_digest_2, r1_digest_5, r1_digest_8, r1_digest_9, r1_digest_10, r1_digest_12, r1_digest_14, r1_digest_17, r1_digest_18, r1_digest_21, r1_digest_22, r1_digest_23, r1_digest_24, r1_digest_27, r1_digest_28, r1_digest_29, r1_digest_30, r1_digest_33, r1_digest_36, r1_digest_37, r1_digest_39, r1_digest_40, r1_digest_43, r1_digest_46, r1_digest_47, r1_digest_51, r1_digest_53, r1_digest_56, r1_digest_57, r1_digest_60, r1_digest_61, r1_digest_62, r1_digest_63, r1_digest_65, r1_digest_68, r1_digest_69, r1_digest_70, r1_digest_71, r1_digest_74, r1_digest_77, r1_digest_80, r1_digest_83, r1_digest_84, r1_digest_86, r1_digest_88, r1_digest_91, r1_digest_92, r1_digest_96, r1_digest_97, r1_digest_100, r1_digest_101, r1_digest_104, r1_digest_105, r1_digest_106, r1_digest_107, r1_digest_109, r1_digest_112, r1_digest_113, r1_digest_114, r1_digest_115, r1_digest_118, r1_digest_121, r1_digest_122, r1_digest_125, r1_digest_128, r1_digest_129, r1_digest_130, r1_digest_131, r1_digest_134, r1_digest_136, r1_digest_137, r1_digest_138, r1_digest_141, r1_digest_142, r1_digest_143, r1_digest_146, r1_digest_149, r1_digest_150, r1_digest_153, r1_digest_154, r1_digest_155, r1_digest_158, r1_digest_160, r1_digest_161, r1_digest_162, r1_digest_164, r1_digest_165, r1_digest_166, r1_digest_167, r1_digest_168, r1_digest_169, r1_digest_172, r1_digest_175, r1_digest_178, r1_digest_181, r1_digest_182, e_const, e_lconst, e_dconst, e_iload, e_kiload, e_aload, e_kaload, e_lload, e_klload, e_iinc, e_kiinc, e_istore, e_astore, e_lstore, e_dupI, e_dupR, e_dup2, e_iadd, e_isub, e_imul, e_idiv, e_irem, e_ladd, e_lmul, e_i2l, e_i2d, e_ddiv, e_icmp, e_if, e_goto, e_switch, e_tsw0, e_tsw1, e_getI, e_getA, e_putI, e_iald, e_iast, e_tnew, e_tald, e_tast, e_iret, e_zret, e_lret, e_dret, e_vret, e_throw, lg0, ls0, lt0, lg1, ls1, lo1, lt1, lg2, ls2, lo2, lt2, lg3, ls3, lo3, lt3, lg4, ls4, lo4, lt4, lg5, ls5, lo5, lt5, lg6, ls6, lo6, lt6, lg7, ls7, lo7, lt7, lg8, ls8, lo8, lo0, okI, okR, okN, e_calli1, e_calll1, e_callv1, e_xcalli1, e_xcallv1, e_acalli1, e_calli2, e_calll2, e_callv2, e_xcalli2, e_xcallv2, e_acalli2, e_calli3, e_calll3, e_callv3, e_xcalli3, e_xcallv3, e_acalli3, e_calli4, e_calll4, e_callv4, e_xcalli4, e_xcallv4, e_acalli4, e_scalli3, sh4_0, sh4_1, sh4_2, sh4_3, sh4_4, eqr, eqv, true_and, and_true, true_or, or_true, ln1_2, ln1_3, ln1_4, ln1_5, ln1_6, ln1_7, ln1_8, ln1_10, ln1_11, ln1_12]
      exact ⟨⟨⟨by omega, by omega⟩, by omega, by omega⟩, fun h => end0 a b, fun h => absurd h (by omega)⟩
    · intro p hp ih z a b
      have hcb := cellsR_b hp hB
      have h1 := hB.pl hp
      have loop6 : ∀ i, i ≤ (cellsR R p).toNat → RR (T1_digest (eqcl (dgR R) (thr R 0)) nox) 124 [some (vR 0), some (vL (f31 (fun c => gA R 8 (64 * p + c)) i (f31 (fun w => trayR R p w) 5 (dpR R p (dkR R (fF R 1).toNat (f31 (fun w => coR R w) 7 1381)))))), none, some (vI p), some (vI i)] [] (stD F G a b) := by
        refine up ?_ ?_
        · rw [r1_digest_124]
          simp only [r1_digest_0, r1_digest_1, r1_digest_2, r1_digest_5, r1_digest_8, r1_digest_9, r1_digest_10, r1_digest_12, r1_digest_14, r1_digest_17, r1_digest_18, r1_digest_21, r1_digest_22, r1_digest_23, r1_digest_24, r1_digest_27, r1_digest_28, r1_digest_29, r1_digest_30, r1_digest_33, r1_digest_36, r1_digest_37, r1_digest_39, r1_digest_40, r1_digest_43, r1_digest_46, r1_digest_47, r1_digest_51, r1_digest_53, r1_digest_56, r1_digest_57, r1_digest_60, r1_digest_61, r1_digest_62, r1_digest_63, r1_digest_65, r1_digest_68, r1_digest_69, r1_digest_70, r1_digest_71, r1_digest_74, r1_digest_77, r1_digest_80, r1_digest_83, r1_digest_84, r1_digest_86, r1_digest_88, r1_digest_91, r1_digest_92, r1_digest_96, r1_digest_97, r1_digest_100, r1_digest_101, r1_digest_104, r1_digest_105, r1_digest_106, r1_digest_107, r1_digest_109, r1_digest_112, r1_digest_113, r1_digest_114, r1_digest_115, r1_digest_118, r1_digest_121, r1_digest_122, r1_digest_125, r1_digest_128, r1_digest_129, r1_digest_130, r1_digest_131, r1_digest_134, r1_digest_136, r1_digest_137, r1_digest_138, r1_digest_141, r1_digest_142, r1_digest_143, r1_digest_146, r1_digest_149, r1_digest_150, r1_digest_153, r1_digest_154, r1_digest_155, r1_digest_158, r1_digest_160, r1_digest_161, r1_digest_162, r1_digest_164, r1_digest_165, r1_digest_166, r1_digest_167, r1_digest_168, r1_digest_169, r1_digest_172, r1_digest_175, r1_digest_178, r1_digest_181, r1_digest_182, e_const, e_lconst, e_dconst, e_iload, e_kiload, e_aload, e_kaload, e_lload, e_klload, e_iinc, e_kiinc, e_istore, e_astore, e_lstore, e_dupI, e_dupR, e_dup2, e_iadd, e_isub, e_imul, e_idiv, e_irem, e_ladd, e_lmul, e_i2l, e_i2d, e_ddiv, e_icmp, e_if, e_goto, e_switch, e_tsw0, e_tsw1, e_getI, e_getA, e_putI, e_iald, e_iast, e_tnew, e_tald, e_tast, e_iret, e_zret, e_lret, e_dret, e_vret, e_throw, lg0, ls0, lt0, lg1, ls1, lo1, lt1, lg2, ls2, lo2, lt2, lg3, ls3, lo3, lt3, lg4, ls4, lo4, lt4, lg5, ls5, lo5, lt5, lg6, ls6, lo6, lt6, lg7, ls7, lo7, lt7, lg8, ls8, lo8, lo0, okI, okR, okN, e_calli1, e_calll1, e_callv1, e_xcalli1, e_xcallv1, e_acalli1, e_calli2, e_calll2, e_callv2, e_xcalli2, e_xcallv2, e_acalli2, e_calli3, e_calll3, e_callv3, e_xcalli3, e_xcallv3, e_acalli3, e_calli4, e_calll4, e_callv4, e_xcalli4, e_xcallv4, e_acalli4, e_scalli3, sh4_0, sh4_1, sh4_2, sh4_3, sh4_4, eqr, eqv, true_and, and_true, true_or, or_true, ln1_2, ln1_3, ln1_4, ln1_5, ln1_6, ln1_7, ln1_8, ln1_10, ln1_11, ln1_12, Int.toNat_natCast, f5]
          by_cases h6 : gA R 5 p = -1
          · exact ⟨⟨by omega, by omega⟩, ⟨⟨by omega, by omega⟩, by omega, by omega⟩, fun _ => ih _ a b, fun h => absurd h6 h⟩
          · obtain ⟨k, hk⟩ : ∃ k : Nat, gA R 5 p = k := ⟨(gA R 5 p).toNat, by omega⟩
            have hcs := csR_b (R := R) (k := k) (by omega) hB
            have ec : cellsR R p = csR R k := by unfold cellsR; rw [if_neg h6, hk, Int.toNat_natCast]
            rw [hk]
            refine ⟨⟨by omega, by omega⟩, ⟨⟨by omega, by omega⟩, by omega, by omega⟩, fun h => absurd h (by omega), fun _ => ⟨⟨by omega, by omega⟩, _, run1_cells (by rw [hkc]; omega) (hst a b), ?_⟩⟩
            rintro r S1 ⟨rfl, rfl⟩
            rw [fcs]
            exact ⟨⟨⟨by omega, by omega⟩, by omega, by omega⟩, fun _ => ih _ a b, fun h => absurd h (by omega)⟩
        · intro i hi ih6
          rw [r1_digest_124]
          have h6 : gA R 5 p ≠ -1 := fun z => by unfold cellsR at hi; rw [if_pos z] at hi; exact absurd hi (Nat.not_lt_zero i)
          obtain ⟨k, hk⟩ : ∃ k : Nat, gA R 5 p = k := ⟨(gA R 5 p).toNat, by omega⟩
          have hcs := csR_b (R := R) (k := k) (by omega) hB
          have ec : cellsR R p = csR R k := by unfold cellsR; rw [if_neg h6, hk, Int.toNat_natCast]
          have e2 : (64 * (p : Int) + i).toNat = 64 * p + i := by omega
          simp only [r1_digest_0, r1_digest_1, r1_digest_2, r1_digest_5, r1_digest_8, r1_digest_9, r1_digest_10, r1_digest_12, r1_digest_14, r1_digest_17, r1_digest_18, r1_digest_21, r1_digest_22, r1_digest_23, r1_digest_24, r1_digest_27, r1_digest_28, r1_digest_29, r1_digest_30, r1_digest_33, r1_digest_36, r1_digest_37, r1_digest_39, r1_digest_40, r1_digest_43, r1_digest_46, r1_digest_47, r1_digest_51, r1_digest_53, r1_digest_56, r1_digest_57, r1_digest_60, r1_digest_61, r1_digest_62, r1_digest_63, r1_digest_65, r1_digest_68, r1_digest_69, r1_digest_70, r1_digest_71, r1_digest_74, r1_digest_77, r1_digest_80, r1_digest_83, r1_digest_84, r1_digest_86, r1_digest_88, r1_digest_91, r1_digest_92, r1_digest_96, r1_digest_97, r1_digest_100, r1_digest_101, r1_digest_104, r1_digest_105, r1_digest_106, r1_digest_107, r1_digest_109, r1_digest_112, r1_digest_113, r1_digest_114, r1_digest_115, r1_digest_118, r1_digest_121, r1_digest_122, r1_digest_125, r1_digest_128, r1_digest_129, r1_digest_130, r1_digest_131, r1_digest_134, r1_digest_136, r1_digest_137, r1_digest_138, r1_digest_141, r1_digest_142, r1_digest_143, r1_digest_146, r1_digest_149, r1_digest_150, r1_digest_153, r1_digest_154, r1_digest_155, r1_digest_158, r1_digest_160, r1_digest_161, r1_digest_162, r1_digest_164, r1_digest_165, r1_digest_166, r1_digest_167, r1_digest_168, r1_digest_169, r1_digest_172, r1_digest_175, r1_digest_178, r1_digest_181, r1_digest_182, e_const, e_lconst, e_dconst, e_iload, e_kiload, e_aload, e_kaload, e_lload, e_klload, e_iinc, e_kiinc, e_istore, e_astore, e_lstore, e_dupI, e_dupR, e_dup2, e_iadd, e_isub, e_imul, e_idiv, e_irem, e_ladd, e_lmul, e_i2l, e_i2d, e_ddiv, e_icmp, e_if, e_goto, e_switch, e_tsw0, e_tsw1, e_getI, e_getA, e_putI, e_iald, e_iast, e_tnew, e_tald, e_tast, e_iret, e_zret, e_lret, e_dret, e_vret, e_throw, lg0, ls0, lt0, lg1, ls1, lo1, lt1, lg2, ls2, lo2, lt2, lg3, ls3, lo3, lt3, lg4, ls4, lo4, lt4, lg5, ls5, lo5, lt5, lg6, ls6, lo6, lt6, lg7, ls7, lo7, lt7, lg8, ls8, lo8, lo0, okI, okR, okN, e_calli1, e_calll1, e_callv1, e_xcalli1, e_xcallv1, e_acalli1, e_calli2, e_calll2, e_callv2, e_xcalli2, e_xcallv2, e_acalli2, e_calli3, e_calll3, e_callv3, e_xcalli3, e_xcallv3, e_acalli3, e_calli4, e_calll4, e_callv4, e_xcalli4, e_xcallv4, e_acalli4, e_scalli3, sh4_0, sh4_1, sh4_2, sh4_3, sh4_4, eqr, eqv, true_and, and_true, true_or, or_true, ln1_2, ln1_3, ln1_4, ln1_5, ln1_6, ln1_7, ln1_8, ln1_10, ln1_11, ln1_12, Int.toNat_natCast, f5, hk, e2]
          refine ⟨⟨by omega, by omega⟩, ⟨⟨by omega, by omega⟩, by omega, by omega⟩, fun h => absurd h (by omega), fun _ => ⟨⟨by omega, by omega⟩, _, run1_cells (by rw [hkc]; omega) (hst a b), ?_⟩⟩
          rintro r S1 ⟨rfl, rfl⟩
          rw [fcs, f8]
          exact ⟨⟨⟨by omega, by omega⟩, by omega, by omega⟩, fun h => absurd h (by omega), fun _ => ⟨⟨by omega, by omega⟩, ih6⟩⟩
      have loop5 : ∀ i, i ≤ 5 → RR (T1_digest (eqcl (dgR R) (thr R 0)) nox) 94 [some (vR 0), some (vL (f31 (fun w => trayR R p w) i (dpR R p (dkR R (fF R 1).toNat (f31 (fun w => coR R w) 7 1381))))), none, some (vI p), some (vI i)] [] (stD F G a b) := by
        refine up ?_ ?_
        · rw [r1_digest_94]
          simp only [r1_digest_0, r1_digest_1, r1_digest_2, r1_digest_5, r1_digest_8, r1_digest_9, r1_digest_10, r1_digest_12, r1_digest_14, r1_digest_17, r1_digest_18, r1_digest_21, r1_digest_22, r1_digest_23, r1_digest_24, r1_digest_27, r1_digest_28, r1_digest_29, r1_digest_30, r1_digest_33, r1_digest_36, r1_digest_37, r1_digest_39, r1_digest_40, r1_digest_43, r1_digest_46, r1_digest_47, r1_digest_51, r1_digest_53, r1_digest_56, r1_digest_57, r1_digest_60, r1_digest_61, r1_digest_62, r1_digest_63, r1_digest_65, r1_digest_68, r1_digest_69, r1_digest_70, r1_digest_71, r1_digest_74, r1_digest_77, r1_digest_80, r1_digest_83, r1_digest_84, r1_digest_86, r1_digest_88, r1_digest_91, r1_digest_92, r1_digest_96, r1_digest_97, r1_digest_100, r1_digest_101, r1_digest_104, r1_digest_105, r1_digest_106, r1_digest_107, r1_digest_109, r1_digest_112, r1_digest_113, r1_digest_114, r1_digest_115, r1_digest_118, r1_digest_121, r1_digest_122, r1_digest_125, r1_digest_128, r1_digest_129, r1_digest_130, r1_digest_131, r1_digest_134, r1_digest_136, r1_digest_137, r1_digest_138, r1_digest_141, r1_digest_142, r1_digest_143, r1_digest_146, r1_digest_149, r1_digest_150, r1_digest_153, r1_digest_154, r1_digest_155, r1_digest_158, r1_digest_160, r1_digest_161, r1_digest_162, r1_digest_164, r1_digest_165, r1_digest_166, r1_digest_167, r1_digest_168, r1_digest_169, r1_digest_172, r1_digest_175, r1_digest_178, r1_digest_181, r1_digest_182, e_const, e_lconst, e_dconst, e_iload, e_kiload, e_aload, e_kaload, e_lload, e_klload, e_iinc, e_kiinc, e_istore, e_astore, e_lstore, e_dupI, e_dupR, e_dup2, e_iadd, e_isub, e_imul, e_idiv, e_irem, e_ladd, e_lmul, e_i2l, e_i2d, e_ddiv, e_icmp, e_if, e_goto, e_switch, e_tsw0, e_tsw1, e_getI, e_getA, e_putI, e_iald, e_iast, e_tnew, e_tald, e_tast, e_iret, e_zret, e_lret, e_dret, e_vret, e_throw, lg0, ls0, lt0, lg1, ls1, lo1, lt1, lg2, ls2, lo2, lt2, lg3, ls3, lo3, lt3, lg4, ls4, lo4, lt4, lg5, ls5, lo5, lt5, lg6, ls6, lo6, lt6, lg7, ls7, lo7, lt7, lg8, ls8, lo8, lo0, okI, okR, okN, e_calli1, e_calll1, e_callv1, e_xcalli1, e_xcallv1, e_acalli1, e_calli2, e_calll2, e_callv2, e_xcalli2, e_xcallv2, e_acalli2, e_calli3, e_calll3, e_callv3, e_xcalli3, e_xcallv3, e_acalli3, e_calli4, e_calll4, e_callv4, e_xcalli4, e_xcallv4, e_acalli4, e_scalli3, sh4_0, sh4_1, sh4_2, sh4_3, sh4_4, eqr, eqv, true_and, and_true, true_or, or_true, ln1_2, ln1_3, ln1_4, ln1_5, ln1_6, ln1_7, ln1_8, ln1_10, ln1_11, ln1_12]
          exact ⟨⟨⟨by omega, by omega⟩, by omega, by omega⟩, fun h => loop6 0 (by omega), fun h => absurd h (by omega)⟩
        · intro i hi ih5
          rw [r1_digest_94]
          simp only [r1_digest_0, r1_digest_1, r1_digest_2, r1_digest_5, r1_digest_8, r1_digest_9, r1_digest_10, r1_digest_12, r1_digest_14, r1_digest_17, r1_digest_18, r1_digest_21, r1_digest_22, r1_digest_23, r1_digest_24, r1_digest_27, r1_digest_28, r1_digest_29, r1_digest_30, r1_digest_33, r1_digest_36, r1_digest_37, r1_digest_39, r1_digest_40, r1_digest_43, r1_digest_46, r1_digest_47, r1_digest_51, r1_digest_53, r1_digest_56, r1_digest_57, r1_digest_60, r1_digest_61, r1_digest_62, r1_digest_63, r1_digest_65, r1_digest_68, r1_digest_69, r1_digest_70, r1_digest_71, r1_digest_74, r1_digest_77, r1_digest_80, r1_digest_83, r1_digest_84, r1_digest_86, r1_digest_88, r1_digest_91, r1_digest_92, r1_digest_96, r1_digest_97, r1_digest_100, r1_digest_101, r1_digest_104, r1_digest_105, r1_digest_106, r1_digest_107, r1_digest_109, r1_digest_112, r1_digest_113, r1_digest_114, r1_digest_115, r1_digest_118, r1_digest_121, r1_digest_122, r1_digest_125, r1_digest_128, r1_digest_129, r1_digest_130, r1_digest_131, r1_digest_134, r1_digest_136, r1_digest_137, r1_digest_138, r1_digest_141, r1_digest_142, r1_digest_143, r1_digest_146, r1_digest_149, r1_digest_150, r1_digest_153, r1_digest_154, r1_digest_155, r1_digest_158, r1_digest_160, r1_digest_161, r1_digest_162, r1_digest_164, r1_digest_165, r1_digest_166, r1_digest_167, r1_digest_168, r1_digest_169, r1_digest_172, r1_digest_175, r1_digest_178, r1_digest_181, r1_digest_182, e_const, e_lconst, e_dconst, e_iload, e_kiload, e_aload, e_kaload, e_lload, e_klload, e_iinc, e_kiinc, e_istore, e_astore, e_lstore, e_dupI, e_dupR, e_dup2, e_iadd, e_isub, e_imul, e_idiv, e_irem, e_ladd, e_lmul, e_i2l, e_i2d, e_ddiv, e_icmp, e_if, e_goto, e_switch, e_tsw0, e_tsw1, e_getI, e_getA, e_putI, e_iald, e_iast, e_tnew, e_tald, e_tast, e_iret, e_zret, e_lret, e_dret, e_vret, e_throw, lg0, ls0, lt0, lg1, ls1, lo1, lt1, lg2, ls2, lo2, lt2, lg3, ls3, lo3, lt3, lg4, ls4, lo4, lt4, lg5, ls5, lo5, lt5, lg6, ls6, lo6, lt6, lg7, ls7, lo7, lt7, lg8, ls8, lo8, lo0, okI, okR, okN, e_calli1, e_calll1, e_callv1, e_xcalli1, e_xcallv1, e_acalli1, e_calli2, e_calll2, e_callv2, e_xcalli2, e_xcallv2, e_acalli2, e_calli3, e_calll3, e_callv3, e_xcalli3, e_xcallv3, e_acalli3, e_calli4, e_calll4, e_callv4, e_xcalli4, e_xcallv4, e_acalli4, e_scalli3, sh4_0, sh4_1, sh4_2, sh4_3, sh4_4, eqr, eqv, true_and, and_true, true_or, or_true, ln1_2, ln1_3, ln1_4, ln1_5, ln1_6, ln1_7, ln1_8, ln1_10, ln1_11, ln1_12]
          refine ⟨⟨⟨by omega, by omega⟩, by omega, by omega⟩, fun h => absurd h (by omega), fun _ => ⟨_, run1_trayTold hp (by omega) (hst a b), ?_⟩⟩
          rintro r S1 ⟨rfl, rfl⟩
          rw [ftr]
          exact ih5
      rw [r1_digest_85]
      simp only [r1_digest_0, r1_digest_1, r1_digest_2, r1_digest_5, r1_digest_8, r1_digest_9, r1_digest_10, r1_digest_12, r1_digest_14, r1_digest_17, r1_digest_18, r1_digest_21, r1_digest_22, r1_digest_23, r1_digest_24, r1_digest_27, r1_digest_28, r1_digest_29, r1_digest_30, r1_digest_33, r1_digest_36, r1_digest_37, r1_digest_39, r1_digest_40, r1_digest_43, r1_digest_46, r1_digest_47, r1_digest_51, r1_digest_53, r1_digest_56, r1_digest_57, r1_digest_60, r1_digest_61, r1_digest_62, r1_digest_63, r1_digest_65, r1_digest_68, r1_digest_69, r1_digest_70, r1_digest_71, r1_digest_74, r1_digest_77, r1_digest_80, r1_digest_83, r1_digest_84, r1_digest_86, r1_digest_88, r1_digest_91, r1_digest_92, r1_digest_96, r1_digest_97, r1_digest_100, r1_digest_101, r1_digest_104, r1_digest_105, r1_digest_106, r1_digest_107, r1_digest_109, r1_digest_112, r1_digest_113, r1_digest_114, r1_digest_115, r1_digest_118, r1_digest_121, r1_digest_122, r1_digest_125, r1_digest_128, r1_digest_129, r1_digest_130, r1_digest_131, r1_digest_134, r1_digest_136, r1_digest_137, r1_digest_138, r1_digest_141, r1_digest_142, r1_digest_143, r1_digest_146, r1_digest_149, r1_digest_150, r1_digest_153, r1_digest_154, r1_digest_155, r1_digest_158, r1_digest_160, r1_digest_161, r1_digest_162, r1_digest_164, r1_digest_165, r1_digest_166, r1_digest_167, r1_digest_168, r1_digest_169, r1_digest_172, r1_digest_175, r1_digest_178, r1_digest_181, r1_digest_182, e_const, e_lconst, e_dconst, e_iload, e_kiload, e_aload, e_kaload, e_lload, e_klload, e_iinc, e_kiinc, e_istore, e_astore, e_lstore, e_dupI, e_dupR, e_dup2, e_iadd, e_isub, e_imul, e_idiv, e_irem, e_ladd, e_lmul, e_i2l, e_i2d, e_ddiv, e_icmp, e_if, e_goto, e_switch, e_tsw0, e_tsw1, e_getI, e_getA, e_putI, e_iald, e_iast, e_tnew, e_tald, e_tast, e_iret, e_zret, e_lret, e_dret, e_vret, e_throw, lg0, ls0, lt0, lg1, ls1, lo1, lt1, lg2, ls2, lo2, lt2, lg3, ls3, lo3, lt3, lg4, ls4, lo4, lt4, lg5, ls5, lo5, lt5, lg6, ls6, lo6, lt6, lg7, ls7, lo7, lt7, lg8, ls8, lo8, lo0, okI, okR, okN, e_calli1, e_calll1, e_callv1, e_xcalli1, e_xcallv1, e_acalli1, e_calli2, e_calll2, e_callv2, e_xcalli2, e_xcallv2, e_acalli2, e_calli3, e_calll3, e_callv3, e_xcalli3, e_xcallv3, e_acalli3, e_calli4, e_calll4, e_callv4, e_xcalli4, e_xcallv4, e_acalli4, e_scalli3, sh4_0, sh4_1, sh4_2, sh4_3, sh4_4, eqr, eqv, true_and, and_true, true_or, or_true, ln1_2, ln1_3, ln1_4, ln1_5, ln1_6, ln1_7, ln1_8, ln1_10, ln1_11, ln1_12]
      exact ⟨⟨⟨by omega, by omega⟩, by omega, by omega⟩, fun h => absurd h (by omega), fun h => loop5 0 (by omega)⟩
  -- the kinds
  have loop2 : ∀ k, k ≤ (fF R 1).toNat → ∀ (z : Option AV) (a b : Nat), a = 7 + 8 * k → b = 49 + 64 * k → RR (T1_digest (eqcl (dgR R) (thr R 0)) nox) 38 [some (vR 0), some (vL (dkR R k (f31 (fun w => coR R w) 7 1381))), none, some (vI k), z] [] (stD F G a b) := by
    refine up ?_ ?_
    · intro z a b ha hb
      rw [r1_digest_38]
      simp only [r1_digest_0, r1_digest_1, r1_digest_2, r1_digest_5, r1_digest_8, r1_digest_9, r1_digest_10, r1_digest_12, r1_digest_14, r1_digest_17, r1_digest_18, r1_digest_21, r1_digest_22, r1_digest_23, r1_digest_24, r1_digest_27, r1_digest_28, r1_digest_29, r1_digest_30, r1_digest_33, r1_digest_36, r1_digest_37, r1_digest_39, r1_digest_40, r1_digest_43, r1_digest_46, r1_digest_47, r1_digest_51, r1_digest_53, r1_digest_56, r1_digest_57, r1_digest_60, r1_digest_61, r1_digest_62, r1_digest_63, r1_digest_65, r1_digest_68, r1_digest_69, r1_digest_70, r1_digest_71, r1_digest_74, r1_digest_77, r1_digest_80, r1_digest_83, r1_digest_84, r1_digest_86, r1_digest_88, r1_digest_91, r1_digest_92, r1_digest_96, r1_digest_97, r1_digest_100, r1_digest_101, r1_digest_104, r1_digest_105, r1_digest_106, r1_digest_107, r1_digest_109, r1_digest_112, r1_digest_113, r1_digest_114, r1_digest_115, r1_digest_118, r1_digest_121, r1_digest_122, r1_digest_125, r1_digest_128, r1_digest_129, r1_digest_130, r1_digest_131, r1_digest_134, r1_digest_136, r1_digest_137, r1_digest_138, r1_digest_141, r1_digest_142, r1_digest_143, r1_digest_146, r1_digest_149, r1_digest_150, r1_digest_153, r1_digest_154, r1_digest_155, r1_digest_158, r1_digest_160, r1_digest_161, r1_digest_162, r1_digest_164, r1_digest_165, r1_digest_166, r1_digest_167, r1_digest_168, r1_digest_169, r1_digest_172, r1_digest_175, r1_digest_178, r1_digest_181, r1_digest_182, e_const, e_lconst, e_dconst, e_iload, e_kiload, e_aload, e_kaload, e_lload, e_klload, e_iinc, e_kiinc, e_istore, e_astore, e_lstore, e_dupI, e_dupR, e_dup2, e_iadd, e_isub, e_imul, e_idiv, e_irem, e_ladd, e_lmul, e_i2l, e_i2d, e_ddiv, e_icmp, e_if, e_goto, e_switch, e_tsw0, e_tsw1, e_getI, e_getA, e_putI, e_iald, e_iast, e_tnew, e_tald, e_tast, e_iret, e_zret, e_lret, e_dret, e_vret, e_throw, lg0, ls0, lt0, lg1, ls1, lo1, lt1, lg2, ls2, lo2, lt2, lg3, ls3, lo3, lt3, lg4, ls4, lo4, lt4, lg5, ls5, lo5, lt5, lg6, ls6, lo6, lt6, lg7, ls7, lo7, lt7, lg8, ls8, lo8, lo0, okI, okR, okN, e_calli1, e_calll1, e_callv1, e_xcalli1, e_xcallv1, e_acalli1, e_calli2, e_calll2, e_callv2, e_xcalli2, e_xcallv2, e_acalli2, e_calli3, e_calll3, e_callv3, e_xcalli3, e_xcallv3, e_acalli3, e_calli4, e_calll4, e_callv4, e_xcalli4, e_xcallv4, e_acalli4, e_scalli3, sh4_0, sh4_1, sh4_2, sh4_3, sh4_4, eqr, eqv, true_and, and_true, true_or, or_true, ln1_2, ln1_3, ln1_4, ln1_5, ln1_6, ln1_7, ln1_8, ln1_10, ln1_11, ln1_12, hkc]
      exact ⟨⟨⟨by omega, by omega⟩, by omega, by omega⟩, fun h => loop4 0 (by omega) z a b, fun h => absurd h (by omega)⟩
    · intro k hk ih z a b ha hb
      have loop3 : ∀ i, i ≤ 8 → ∀ a b : Nat, a = 7 + 8 * k + i → b = 49 + 64 * k + 8 * i → RR (T1_digest (eqcl (dgR R) (thr R 0)) nox) 49 [some (vR 0), some (vL (f31 (fun w => abR R k w) i (dkR R k (f31 (fun w => coR R w) 7 1381)))), none, some (vI k), some (vI i)] [] (stD F G a b) := by
        refine up ?_ ?_
        · intro a b ha hb
          rw [r1_digest_49]
          simp only [r1_digest_0, r1_digest_1, r1_digest_2, r1_digest_5, r1_digest_8, r1_digest_9, r1_digest_10, r1_digest_12, r1_digest_14, r1_digest_17, r1_digest_18, r1_digest_21, r1_digest_22, r1_digest_23, r1_digest_24, r1_digest_27, r1_digest_28, r1_digest_29, r1_digest_30, r1_digest_33, r1_digest_36, r1_digest_37, r1_digest_39, r1_digest_40, r1_digest_43, r1_digest_46, r1_digest_47, r1_digest_51, r1_digest_53, r1_digest_56, r1_digest_57, r1_digest_60, r1_digest_61, r1_digest_62, r1_digest_63, r1_digest_65, r1_digest_68, r1_digest_69, r1_digest_70, r1_digest_71, r1_digest_74, r1_digest_77, r1_digest_80, r1_digest_83, r1_digest_84, r1_digest_86, r1_digest_88, r1_digest_91, r1_digest_92, r1_digest_96, r1_digest_97, r1_digest_100, r1_digest_101, r1_digest_104, r1_digest_105, r1_digest_106, r1_digest_107, r1_digest_109, r1_digest_112, r1_digest_113, r1_digest_114, r1_digest_115, r1_digest_118, r1_digest_121, r1_digest_122, r1_digest_125, r1_digest_128, r1_digest_129, r1_digest_130, r1_digest_131, r1_digest_134, r1_digest_136, r1_digest_137, r1_digest_138, r1_digest_141, r1_digest_142, r1_digest_143, r1_digest_146, r1_digest_149, r1_digest_150, r1_digest_153, r1_digest_154, r1_digest_155, r1_digest_158, r1_digest_160, r1_digest_161, r1_digest_162, r1_digest_164, r1_digest_165, r1_digest_166, r1_digest_167, r1_digest_168, r1_digest_169, r1_digest_172, r1_digest_175, r1_digest_178, r1_digest_181, r1_digest_182, e_const, e_lconst, e_dconst, e_iload, e_kiload, e_aload, e_kaload, e_lload, e_klload, e_iinc, e_kiinc, e_istore, e_astore, e_lstore, e_dupI, e_dupR, e_dup2, e_iadd, e_isub, e_imul, e_idiv, e_irem, e_ladd, e_lmul, e_i2l, e_i2d, e_ddiv, e_icmp, e_if, e_goto, e_switch, e_tsw0, e_tsw1, e_getI, e_getA, e_putI, e_iald, e_iast, e_tnew, e_tald, e_tast, e_iret, e_zret, e_lret, e_dret, e_vret, e_throw, lg0, ls0, lt0, lg1, ls1, lo1, lt1, lg2, ls2, lo2, lt2, lg3, ls3, lo3, lt3, lg4, ls4, lo4, lt4, lg5, ls5, lo5, lt5, lg6, ls6, lo6, lt6, lg7, ls7, lo7, lt7, lg8, ls8, lo8, lo0, okI, okR, okN, e_calli1, e_calll1, e_callv1, e_xcalli1, e_xcallv1, e_acalli1, e_calli2, e_calll2, e_callv2, e_xcalli2, e_xcallv2, e_acalli2, e_calli3, e_calll3, e_callv3, e_xcalli3, e_xcallv3, e_acalli3, e_calli4, e_calll4, e_callv4, e_xcalli4, e_xcallv4, e_acalli4, e_scalli3, sh4_0, sh4_1, sh4_2, sh4_3, sh4_4, eqr, eqv, true_and, and_true, true_or, or_true, ln1_2, ln1_3, ln1_4, ln1_5, ln1_6, ln1_7, ln1_8, ln1_10, ln1_11, ln1_12]
          exact ⟨⟨⟨by omega, by omega⟩, by omega, by omega⟩, fun h => ih _ a b (by omega) (by omega), fun h => absurd h (by omega)⟩
        · intro i hi ih3 a b ha hb
          rw [r1_digest_49]
          simp only [r1_digest_0, r1_digest_1, r1_digest_2, r1_digest_5, r1_digest_8, r1_digest_9, r1_digest_10, r1_digest_12, r1_digest_14, r1_digest_17, r1_digest_18, r1_digest_21, r1_digest_22, r1_digest_23, r1_digest_24, r1_digest_27, r1_digest_28, r1_digest_29, r1_digest_30, r1_digest_33, r1_digest_36, r1_digest_37, r1_digest_39, r1_digest_40, r1_digest_43, r1_digest_46, r1_digest_47, r1_digest_51, r1_digest_53, r1_digest_56, r1_digest_57, r1_digest_60, r1_digest_61, r1_digest_62, r1_digest_63, r1_digest_65, r1_digest_68, r1_digest_69, r1_digest_70, r1_digest_71, r1_digest_74, r1_digest_77, r1_digest_80, r1_digest_83, r1_digest_84, r1_digest_86, r1_digest_88, r1_digest_91, r1_digest_92, r1_digest_96, r1_digest_97, r1_digest_100, r1_digest_101, r1_digest_104, r1_digest_105, r1_digest_106, r1_digest_107, r1_digest_109, r1_digest_112, r1_digest_113, r1_digest_114, r1_digest_115, r1_digest_118, r1_digest_121, r1_digest_122, r1_digest_125, r1_digest_128, r1_digest_129, r1_digest_130, r1_digest_131, r1_digest_134, r1_digest_136, r1_digest_137, r1_digest_138, r1_digest_141, r1_digest_142, r1_digest_143, r1_digest_146, r1_digest_149, r1_digest_150, r1_digest_153, r1_digest_154, r1_digest_155, r1_digest_158, r1_digest_160, r1_digest_161, r1_digest_162, r1_digest_164, r1_digest_165, r1_digest_166, r1_digest_167, r1_digest_168, r1_digest_169, r1_digest_172, r1_digest_175, r1_digest_178, r1_digest_181, r1_digest_182, e_const, e_lconst, e_dconst, e_iload, e_kiload, e_aload, e_kaload, e_lload, e_klload, e_iinc, e_kiinc, e_istore, e_astore, e_lstore, e_dupI, e_dupR, e_dup2, e_iadd, e_isub, e_imul, e_idiv, e_irem, e_ladd, e_lmul, e_i2l, e_i2d, e_ddiv, e_icmp, e_if, e_goto, e_switch, e_tsw0, e_tsw1, e_getI, e_getA, e_putI, e_iald, e_iast, e_tnew, e_tald, e_tast, e_iret, e_zret, e_lret, e_dret, e_vret, e_throw, lg0, ls0, lt0, lg1, ls1, lo1, lt1, lg2, ls2, lo2, lt2, lg3, ls3, lo3, lt3, lg4, ls4, lo4, lt4, lg5, ls5, lo5, lt5, lg6, ls6, lo6, lt6, lg7, ls7, lo7, lt7, lg8, ls8, lo8, lo0, okI, okR, okN, e_calli1, e_calll1, e_callv1, e_xcalli1, e_xcallv1, e_acalli1, e_calli2, e_calll2, e_callv2, e_xcalli2, e_xcallv2, e_acalli2, e_calli3, e_calll3, e_callv3, e_xcalli3, e_xcallv3, e_acalli3, e_calli4, e_calll4, e_callv4, e_xcalli4, e_xcallv4, e_acalli4, e_scalli3, sh4_0, sh4_1, sh4_2, sh4_3, sh4_4, eqr, eqv, true_and, and_true, true_or, or_true, ln1_2, ln1_3, ln1_4, ln1_5, ln1_6, ln1_7, ln1_8, ln1_10, ln1_11, ln1_12]
          refine ⟨⟨⟨by omega, by omega⟩, by omega, by omega⟩, fun h => absurd h (by omega), fun _ => ⟨⟨rfl, by show a + 1 ≤ 55; omega, by show b + 8 ≤ 433; omega⟩, _, run1_kindTold (cl0_cut _) (by show (k : Int) < fF (stD F G a b) 1; rw [hkc]; omega) (by omega) (hst 0 0), ?_⟩⟩
          rintro r S1 ⟨rfl, h1, h2⟩
          rw [gl a b 8 S1 h1 h2, fab]
          exact ih3 (a + 1) (b + 8) (by omega) (by omega)
      rw [r1_digest_38]
      simp only [r1_digest_0, r1_digest_1, r1_digest_2, r1_digest_5, r1_digest_8, r1_digest_9, r1_digest_10, r1_digest_12, r1_digest_14, r1_digest_17, r1_digest_18, r1_digest_21, r1_digest_22, r1_digest_23, r1_digest_24, r1_digest_27, r1_digest_28, r1_digest_29, r1_digest_30, r1_digest_33, r1_digest_36, r1_digest_37, r1_digest_39, r1_digest_40, r1_digest_43, r1_digest_46, r1_digest_47, r1_digest_51, r1_digest_53, r1_digest_56, r1_digest_57, r1_digest_60, r1_digest_61, r1_digest_62, r1_digest_63, r1_digest_65, r1_digest_68, r1_digest_69, r1_digest_70, r1_digest_71, r1_digest_74, r1_digest_77, r1_digest_80, r1_digest_83, r1_digest_84, r1_digest_86, r1_digest_88, r1_digest_91, r1_digest_92, r1_digest_96, r1_digest_97, r1_digest_100, r1_digest_101, r1_digest_104, r1_digest_105, r1_digest_106, r1_digest_107, r1_digest_109, r1_digest_112, r1_digest_113, r1_digest_114, r1_digest_115, r1_digest_118, r1_digest_121, r1_digest_122, r1_digest_125, r1_digest_128, r1_digest_129, r1_digest_130, r1_digest_131, r1_digest_134, r1_digest_136, r1_digest_137, r1_digest_138, r1_digest_141, r1_digest_142, r1_digest_143, r1_digest_146, r1_digest_149, r1_digest_150, r1_digest_153, r1_digest_154, r1_digest_155, r1_digest_158, r1_digest_160, r1_digest_161, r1_digest_162, r1_digest_164, r1_digest_165, r1_digest_166, r1_digest_167, r1_digest_168, r1_digest_169, r1_digest_172, r1_digest_175, r1_digest_178, r1_digest_181, r1_digest_182, e_const, e_lconst, e_dconst, e_iload, e_kiload, e_aload, e_kaload, e_lload, e_klload, e_iinc, e_kiinc, e_istore, e_astore, e_lstore, e_dupI, e_dupR, e_dup2, e_iadd, e_isub, e_imul, e_idiv, e_irem, e_ladd, e_lmul, e_i2l, e_i2d, e_ddiv, e_icmp, e_if, e_goto, e_switch, e_tsw0, e_tsw1, e_getI, e_getA, e_putI, e_iald, e_iast, e_tnew, e_tald, e_tast, e_iret, e_zret, e_lret, e_dret, e_vret, e_throw, lg0, ls0, lt0, lg1, ls1, lo1, lt1, lg2, ls2, lo2, lt2, lg3, ls3, lo3, lt3, lg4, ls4, lo4, lt4, lg5, ls5, lo5, lt5, lg6, ls6, lo6, lt6, lg7, ls7, lo7, lt7, lg8, ls8, lo8, lo0, okI, okR, okN, e_calli1, e_calll1, e_callv1, e_xcalli1, e_xcallv1, e_acalli1, e_calli2, e_calll2, e_callv2, e_xcalli2, e_xcallv2, e_acalli2, e_calli3, e_calll3, e_callv3, e_xcalli3, e_xcallv3, e_acalli3, e_calli4, e_calll4, e_callv4, e_xcalli4, e_xcallv4, e_acalli4, e_scalli3, sh4_0, sh4_1, sh4_2, sh4_3, sh4_4, eqr, eqv, true_and, and_true, true_or, or_true, ln1_2, ln1_3, ln1_4, ln1_5, ln1_6, ln1_7, ln1_8, ln1_10, ln1_11, ln1_12, hkc]
      exact ⟨⟨⟨by omega, by omega⟩, by omega, by omega⟩, fun h => absurd h (by omega), fun h => loop3 0 (by omega) a b (by omega) (by omega)⟩
  -- what count tells
  have loop1 : ∀ i, i ≤ 7 → ∀ a b : Nat, a = i → b = 7 * i → RR (T1_digest (eqcl (dgR R) (thr R 0)) nox) 11 [some (vR 0), some (vL (f31 (fun w => coR R w) i 1381)), none, some (vI i), none] [] (stD F G a b) := by
    refine up ?_ ?_
    · intro a b ha hb
      rw [r1_digest_11]
      simp only [r1_digest_0, r1_digest_1, r1_digest_2, r1_digest_5, r1_digest_8, r1_digest_9, r1_digest_10, r1_digest_12, r1_digest_14, r1_digest_17, r1_digest_18, r1_digest_21, r1_digest_22, r1_digest_23, r1_digest_24, r1_digest_27, r1_digest_28, r1_digest_29, r1_digest_30, r1_digest_33, r1_digest_36, r1_digest_37, r1_digest_39, r1_digest_40, r1_digest_43, r1_digest_46, r1_digest_47, r1_digest_51, r1_digest_53, r1_digest_56, r1_digest_57, r1_digest_60, r1_digest_61, r1_digest_62, r1_digest_63, r1_digest_65, r1_digest_68, r1_digest_69, r1_digest_70, r1_digest_71, r1_digest_74, r1_digest_77, r1_digest_80, r1_digest_83, r1_digest_84, r1_digest_86, r1_digest_88, r1_digest_91, r1_digest_92, r1_digest_96, r1_digest_97, r1_digest_100, r1_digest_101, r1_digest_104, r1_digest_105, r1_digest_106, r1_digest_107, r1_digest_109, r1_digest_112, r1_digest_113, r1_digest_114, r1_digest_115, r1_digest_118, r1_digest_121, r1_digest_122, r1_digest_125, r1_digest_128, r1_digest_129, r1_digest_130, r1_digest_131, r1_digest_134, r1_digest_136, r1_digest_137, r1_digest_138, r1_digest_141, r1_digest_142, r1_digest_143, r1_digest_146, r1_digest_149, r1_digest_150, r1_digest_153, r1_digest_154, r1_digest_155, r1_digest_158, r1_digest_160, r1_digest_161, r1_digest_162, r1_digest_164, r1_digest_165, r1_digest_166, r1_digest_167, r1_digest_168, r1_digest_169, r1_digest_172, r1_digest_175, r1_digest_178, r1_digest_181, r1_digest_182, e_const, e_lconst, e_dconst, e_iload, e_kiload, e_aload, e_kaload, e_lload, e_klload, e_iinc, e_kiinc, e_istore, e_astore, e_lstore, e_dupI, e_dupR, e_dup2, e_iadd, e_isub, e_imul, e_idiv, e_irem, e_ladd, e_lmul, e_i2l, e_i2d, e_ddiv, e_icmp, e_if, e_goto, e_switch, e_tsw0, e_tsw1, e_getI, e_getA, e_putI, e_iald, e_iast, e_tnew, e_tald, e_tast, e_iret, e_zret, e_lret, e_dret, e_vret, e_throw, lg0, ls0, lt0, lg1, ls1, lo1, lt1, lg2, ls2, lo2, lt2, lg3, ls3, lo3, lt3, lg4, ls4, lo4, lt4, lg5, ls5, lo5, lt5, lg6, ls6, lo6, lt6, lg7, ls7, lo7, lt7, lg8, ls8, lo8, lo0, okI, okR, okN, e_calli1, e_calll1, e_callv1, e_xcalli1, e_xcallv1, e_acalli1, e_calli2, e_calll2, e_callv2, e_xcalli2, e_xcallv2, e_acalli2, e_calli3, e_calll3, e_callv3, e_xcalli3, e_xcallv3, e_acalli3, e_calli4, e_calll4, e_callv4, e_xcalli4, e_xcallv4, e_acalli4, e_scalli3, sh4_0, sh4_1, sh4_2, sh4_3, sh4_4, eqr, eqv, true_and, and_true, true_or, or_true, ln1_2, ln1_3, ln1_4, ln1_5, ln1_6, ln1_7, ln1_8, ln1_10, ln1_11, ln1_12]
      exact ⟨⟨⟨by omega, by omega⟩, by omega, by omega⟩, fun h => loop2 0 (by omega) none a b (by omega) (by omega), fun h => absurd h (by omega)⟩
    · intro i hi ih a b ha hb
      rw [r1_digest_11]
      simp only [r1_digest_0, r1_digest_1, r1_digest_2, r1_digest_5, r1_digest_8, r1_digest_9, r1_digest_10, r1_digest_12, r1_digest_14, r1_digest_17, r1_digest_18, r1_digest_21, r1_digest_22, r1_digest_23, r1_digest_24, r1_digest_27, r1_digest_28, r1_digest_29, r1_digest_30, r1_digest_33, r1_digest_36, r1_digest_37, r1_digest_39, r1_digest_40, r1_digest_43, r1_digest_46, r1_digest_47, r1_digest_51, r1_digest_53, r1_digest_56, r1_digest_57, r1_digest_60, r1_digest_61, r1_digest_62, r1_digest_63, r1_digest_65, r1_digest_68, r1_digest_69, r1_digest_70, r1_digest_71, r1_digest_74, r1_digest_77, r1_digest_80, r1_digest_83, r1_digest_84, r1_digest_86, r1_digest_88, r1_digest_91, r1_digest_92, r1_digest_96, r1_digest_97, r1_digest_100, r1_digest_101, r1_digest_104, r1_digest_105, r1_digest_106, r1_digest_107, r1_digest_109, r1_digest_112, r1_digest_113, r1_digest_114, r1_digest_115, r1_digest_118, r1_digest_121, r1_digest_122, r1_digest_125, r1_digest_128, r1_digest_129, r1_digest_130, r1_digest_131, r1_digest_134, r1_digest_136, r1_digest_137, r1_digest_138, r1_digest_141, r1_digest_142, r1_digest_143, r1_digest_146, r1_digest_149, r1_digest_150, r1_digest_153, r1_digest_154, r1_digest_155, r1_digest_158, r1_digest_160, r1_digest_161, r1_digest_162, r1_digest_164, r1_digest_165, r1_digest_166, r1_digest_167, r1_digest_168, r1_digest_169, r1_digest_172, r1_digest_175, r1_digest_178, r1_digest_181, r1_digest_182, e_const, e_lconst, e_dconst, e_iload, e_kiload, e_aload, e_kaload, e_lload, e_klload, e_iinc, e_kiinc, e_istore, e_astore, e_lstore, e_dupI, e_dupR, e_dup2, e_iadd, e_isub, e_imul, e_idiv, e_irem, e_ladd, e_lmul, e_i2l, e_i2d, e_ddiv, e_icmp, e_if, e_goto, e_switch, e_tsw0, e_tsw1, e_getI, e_getA, e_putI, e_iald, e_iast, e_tnew, e_tald, e_tast, e_iret, e_zret, e_lret, e_dret, e_vret, e_throw, lg0, ls0, lt0, lg1, ls1, lo1, lt1, lg2, ls2, lo2, lt2, lg3, ls3, lo3, lt3, lg4, ls4, lo4, lt4, lg5, ls5, lo5, lt5, lg6, ls6, lo6, lt6, lg7, ls7, lo7, lt7, lg8, ls8, lo8, lo0, okI, okR, okN, e_calli1, e_calll1, e_callv1, e_xcalli1, e_xcallv1, e_acalli1, e_calli2, e_calll2, e_callv2, e_xcalli2, e_xcallv2, e_acalli2, e_calli3, e_calll3, e_callv3, e_xcalli3, e_xcallv3, e_acalli3, e_calli4, e_calll4, e_callv4, e_xcalli4, e_xcallv4, e_acalli4, e_scalli3, sh4_0, sh4_1, sh4_2, sh4_3, sh4_4, eqr, eqv, true_and, and_true, true_or, or_true, ln1_2, ln1_3, ln1_4, ln1_5, ln1_6, ln1_7, ln1_8, ln1_10, ln1_11, ln1_12]
      refine ⟨⟨⟨by omega, by omega⟩, by omega, by omega⟩, fun h => absurd h (by omega), fun _ => ⟨⟨rfl, by show a + 1 ≤ 55; omega, by show b + 7 ≤ 433; omega⟩, _, run1_counted (cl0_cut _) (by omega) (hst 0 0), ?_⟩⟩
      rintro r S1 ⟨rfl, h1, h2⟩
      rw [gl a b 7 S1 h1 h2, fco]
      exact ih (a + 1) (b + 7) (by omega) (by omega)
  simp only [r1_digest_0, r1_digest_1, r1_digest_2, r1_digest_5, r1_digest_8, r1_digest_9, r1_digest_10, r1_digest_12, r1_digest_14, r1_digest_17, r1_digest_18, r1_digest_21, r1_digest_22, r1_digest_23, r1_digest_24, r1_digest_27, r1_digest_28, r1_digest_29, r1_digest_30, r1_digest_33, r1_digest_36, r1_digest_37, r1_digest_39, r1_digest_40, r1_digest_43, r1_digest_46, r1_digest_47, r1_digest_51, r1_digest_53, r1_digest_56, r1_digest_57, r1_digest_60, r1_digest_61, r1_digest_62, r1_digest_63, r1_digest_65, r1_digest_68, r1_digest_69, r1_digest_70, r1_digest_71, r1_digest_74, r1_digest_77, r1_digest_80, r1_digest_83, r1_digest_84, r1_digest_86, r1_digest_88, r1_digest_91, r1_digest_92, r1_digest_96, r1_digest_97, r1_digest_100, r1_digest_101, r1_digest_104, r1_digest_105, r1_digest_106, r1_digest_107, r1_digest_109, r1_digest_112, r1_digest_113, r1_digest_114, r1_digest_115, r1_digest_118, r1_digest_121, r1_digest_122, r1_digest_125, r1_digest_128, r1_digest_129, r1_digest_130, r1_digest_131, r1_digest_134, r1_digest_136, r1_digest_137, r1_digest_138, r1_digest_141, r1_digest_142, r1_digest_143, r1_digest_146, r1_digest_149, r1_digest_150, r1_digest_153, r1_digest_154, r1_digest_155, r1_digest_158, r1_digest_160, r1_digest_161, r1_digest_162, r1_digest_164, r1_digest_165, r1_digest_166, r1_digest_167, r1_digest_168, r1_digest_169, r1_digest_172, r1_digest_175, r1_digest_178, r1_digest_181, r1_digest_182, e_const, e_lconst, e_dconst, e_iload, e_kiload, e_aload, e_kaload, e_lload, e_klload, e_iinc, e_kiinc, e_istore, e_astore, e_lstore, e_dupI, e_dupR, e_dup2, e_iadd, e_isub, e_imul, e_idiv, e_irem, e_ladd, e_lmul, e_i2l, e_i2d, e_ddiv, e_icmp, e_if, e_goto, e_switch, e_tsw0, e_tsw1, e_getI, e_getA, e_putI, e_iald, e_iast, e_tnew, e_tald, e_tast, e_iret, e_zret, e_lret, e_dret, e_vret, e_throw, lg0, ls0, lt0, lg1, ls1, lo1, lt1, lg2, ls2, lo2, lt2, lg3, ls3, lo3, lt3, lg4, ls4, lo4, lt4, lg5, ls5, lo5, lt5, lg6, ls6, lo6, lt6, lg7, ls7, lo7, lt7, lg8, ls8, lo8, lo0, okI, okR, okN, e_calli1, e_calll1, e_callv1, e_xcalli1, e_xcallv1, e_acalli1, e_calli2, e_calll2, e_callv2, e_xcalli2, e_xcallv2, e_acalli2, e_calli3, e_calll3, e_callv3, e_xcalli3, e_xcallv3, e_acalli3, e_calli4, e_calll4, e_callv4, e_xcalli4, e_xcallv4, e_acalli4, e_scalli3, sh4_0, sh4_1, sh4_2, sh4_3, sh4_4, eqr, eqv, true_and, and_true, true_or, or_true, ln1_2, ln1_3, ln1_4, ln1_5, ln1_6, ln1_7, ln1_8, ln1_10, ln1_11, ln1_12]
  have e9 : pF R 0 0 = stD F G 0 0 := by
    rw [hF, hG]
    show ((thr R 0).1, R.2.1, R.2.2) = _
    rw [e]
    rfl
  rw [e9]
  exact loop1 0 (by omega) 0 0 rfl rfl
