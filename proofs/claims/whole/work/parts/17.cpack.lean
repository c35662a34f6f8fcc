/-! THE CLASS: pack -/
theorem lst1_at {P : Nat → Bool} {c : Nat} (hc : P c = true) : ∀ n : Nat, c < n → (∀ j, c < j → j < n → P j = false) → lst1 P n = c
  | 0, h, _ => absurd h (by omega)
  | n + 1, h, hn => by
    unfold lst1
    by_cases e : c = n
    · subst e; rw [if_pos hc]
    · rw [if_neg (by rw [hn n (by omega) (by omega)]; decide)]
      exact lst1_at hc n (by omega) (fun j h1 h2 => hn j h1 (by omega))
def ocB (S : ST) (p c : Nat) : Bool := !frB S p c
/-- one move, from the place p to the place q: the cell and the thing, the new cell, the state -/
def mvC (S : ST) (p : Nat) : Nat := (lst1 (ocB S p) 64).toNat
def mvH (S : ST) (p : Nat) : Nat := (gA S 9 (p * 64 + mvC S p)).toNat
def mvL (S : ST) (p : Nat) : ST := liT S (mvH S p) p (mvC S p)
def mvD (S : ST) (p q : Nat) : Nat := (fst1 (frB (mvL S p) q) 64).toNat
def mvT (S : ST) (p q : Nat) : ST := laT (mvL S p) (mvH S p) q (mvD S p q)
def paB (S : ST) (k p : Nat) : Prop := gA S 6 p = k ∧ 0 < gA S 8 p ∧ gA S 8 p < gA S 3 k
theorem mv_ok {S : ST} {k p q : Nat} (hI : Inv S) (hp : p < 20) (hq : q < 20) (hk : (k : Int) < fF S 0) (hpp : paB S k p) (hqq : paB S k q) (hne : p ≠ q) :
    Inv (mvT S p q) ∧ X0_moveLast [vR 0, vI p, vI q] S (eqv (mvT S p q)) nox ∧ (mvC S p < 64 ∧ mvH S p < 150 ∧ (mvH S p : Int) < fF S 10 ∧ gA S 9 (p * 64 + mvC S p) = mvH S p ∧ gA S 12 (mvH S p) = p ∧ gA S 13 (mvH S p) = mvC S p ∧ (∀ j, mvC S p < j → j < 64 → frB S p j = true)) ∧ (mvD S p q < 64 ∧ frB (mvL S p) q (mvD S p q) = true ∧ ∀ j, j < mvD S p q → frB (mvL S p) q j = false) ∧
      (∀ j, gA (mvT S p q) 8 j = if j = q then gA S 8 q + 1 else if j = p then gA S 8 p - 1 else gA S 8 j) := by
  obtain ⟨c, t, h1, h2, h3, h4, h5, h6, h7, h8, h9⟩ := last_ex hI hp hpp.2.1
  have eC : mvC S p = c := by
    unfold mvC
    rw [lst1_at (c := c) (by simp [ocB, frB]; omega) 64 h2 (fun j ha hb => by simp [ocB, frB, h9 j ha hb])]
    rfl
  have eH : mvH S p = t := by unfold mvH; rw [eC, h5]; rfl
  have eL : mvL S p = liT S t p c := by unfold mvL; rw [eC, eH]
  obtain ⟨hX, h12⟩ := X_of_lift hI h3 h4 hp h2 h6 h7 h5
  have hI1 := Inv_of_X hX h12
  have e8 : gA (liT S t p c) 8 q = gA S 8 q := by
    unfold liT
    rw [gA_o (by decide), gA_i (fun z => hne z.symm), gA_o (by decide)]
  have eC2 : cellsC (liT S t p c) q = gA S 3 k := by
    have e6 : gA (liT S t p c) 6 q = gA S 6 q := rfl
    have e3 : gA (liT S t p c) 3 k = gA S 3 k := rfl
    rw [cellsC_of (by rw [e6, hqq.1]; omega), e6, hqq.1, Int.toNat_natCast, e3]
  obtain ⟨c2, g1, g2, g3⟩ := free_ex hI1 hq (by rw [e8, eC2]; exact hqq.2.2)
  have hb := cellsC_b hq hI1.1
  have eD : mvD S p q = c2 := by
    unfold mvD
    rw [eL, fst1_at g3 g2 (n := 64) (by omega)]
    rfl
  have eT : mvT S p q = laT (liT S t p c) t q c2 := by unfold mvT; rw [eL, eH, eD]
  have h8' : 1 ≤ gA S 8 p := hpp.2.1
  rw [eT, eC, eH, eD, eL]
  refine ⟨Inv_lay hX hq g1 ?_ (by simpa [frB] using g2), ?_, ⟨h2, h3, h4, h5, h6, h7, fun j ha hb => by simp [frB, h9 j ha hb]⟩, ⟨by omega, g2, g3⟩, fun j => ?_⟩
  · show gA S 11 t = gA S 6 q
    rw [h8, hpp.1, hqq.1]
  · exact run0_moveLast hp hq hI.1 h1 (fun j ha hb => h9 j ha (by have := cellsC_b hp hI.1; omega)) h5 h6 h7 h8' g1 g2 g3
  · have e2 : gA (laT (liT S t p c) t q c2) 8 j = if j = q then gA (liT S t p c) 8 q + 1 else gA (liT S t p c) 8 j := by
      unfold laT
      by_cases e : j = q <;> simp [e, gA_pA]
    rw [e2, e8]
    by_cases e : j = q
    · rw [if_pos e, if_pos e]
    · rw [if_neg e, if_neg e]
      unfold liT
      by_cases e3 : j = p <;> simp [e3, gA_pA]
/-- the places that pack chooses -/
def pkP (S : ST) (k : Nat) : Int := (lp (gA S 6) (gA S 8) k (gA S 3 k) 20).1
def pkQ (S : ST) (k : Nat) : Int := (mp (gA S 6) (gA S 8) k (gA S 3 k) 20).1
def pkF (k : Nat) : Nat → ST → ST × Int
  | 0, S => (S, 0)
  | n + 1, S => if pkP S k = -1 ∨ pkQ S k = -1 ∨ pkP S k = pkQ S k then (S, 0) else ((pkF k n (mvT S (pkP S k).toNat (pkQ S k).toNat)).1, (pkF k n (mvT S (pkP S k).toNat (pkQ S k).toNat)).2 + 1)
theorem pkF_s {k n : Nat} {S : ST} (h : pkP S k = -1 ∨ pkQ S k = -1 ∨ pkP S k = pkQ S k) : pkF k (n + 1) S = (S, 0) := by
  show (if _ then _ else _) = _
  rw [if_pos h]
theorem pkF_g {k n : Nat} {S : ST} (h : ¬ (pkP S k = -1 ∨ pkQ S k = -1 ∨ pkP S k = pkQ S k)) : pkF k (n + 1) S = ((pkF k n (mvT S (pkP S k).toNat (pkQ S k).toNat)).1, (pkF k n (mvT S (pkP S k).toNat (pkQ S k).toNat)).2 + 1) := by
  show (if _ then _ else _) = _
  rw [if_neg h]
theorem pk_at {S : ST} {k : Nat} (h : ¬ (pkP S k = -1 ∨ pkQ S k = -1 ∨ pkP S k = pkQ S k)) : ∃ p q : Nat, p < 20 ∧ q < 20 ∧ pkP S k = p ∧ pkQ S k = q ∧ p ≠ q ∧ paB S k p ∧ paB S k q ∧ (lp (gA S 6) (gA S 8) k (gA S 3 k) 20).2 = gA S 8 p ∧ (mp (gA S 6) (gA S 8) k (gA S 3 k) 20).2 = gA S 8 q := by
  rcases lp_at (f := gA S 6) (g := gA S 8) (k := (k : Int)) (c := gA S 3 k) 20 with h1 | ⟨p, h1, h2, h3, h4, h5, h6⟩
  · exact absurd (Or.inl h1) h
  rcases mp_at (f := gA S 6) (g := gA S 8) (k := (k : Int)) (c := gA S 3 k) 20 with g1 | ⟨q, g1, g2, g3, g4, g5, g6⟩
  · exact absurd (Or.inr (Or.inl g1)) h
  refine ⟨p, q, h1, g1, h2, g2, fun e => h (Or.inr (Or.inr ?_)), ⟨h3, h4, h5⟩, ⟨g3, g4, g5⟩, h6, g6⟩
  show (lp _ _ _ _ 20).1 = (mp _ _ _ _ 20).1
  rw [h2, g2, e]
theorem run0_pack_no {S : ST} {k : Int} (hr : rng k) (hB : B0 S) (hn : ¬ (0 ≤ k ∧ k < fF S 0)) : X0_pack [vR 0, vI k] S bo1 (eqx IOOB S) := by
  refine ⟨Nat.le_of_ble_eq_true rfl, ?_⟩
  show RR _ 0 [some (vR 0), some (vI k), none, none, none] [] S
  rw [r0_pack_0]
  simp only [r0_pack_1, r0_pack_2, r0_pack_5, r0_pack_6, r0_pack_8, r0_pack_11, r0_pack_14, r0_pack_15, r0_pack_16, r0_pack_19, r0_pack_20, r0_pack_21, r0_pack_22, r0_pack_25, r0_pack_27, r0_pack_28, r0_pack_29, r0_pack_32, r0_pack_34, r0_pack_35, r0_pack_38, r0_pack_39, r0_pack_41, r0_pack_44, r0_pack_47, r0_pack_48, r0_pack_49, r0_pack_51, r0_pack_54, r0_pack_57, r0_pack_60, r0_pack_61, r0_pack_62, r0_pack_65, r0_pack_66, r0_pack_67, r0_pack_70, r0_pack_71, e_const, e_lconst, e_dconst, e_iload, e_kiload, e_aload, e_kaload, e_lload, e_klload, e_iinc, e_kiinc, e_istore, e_astore, e_lstore, e_dupI, e_dupR, e_dup2, e_iadd, e_isub, e_imul, e_idiv, e_irem, e_ladd, e_lmul, e_i2l, e_i2d, e_ddiv, e_icmp, e_if, e_goto, e_switch, e_tsw0, e_tsw1, e_getI, e_getA, e_putI, e_iald, e_iast, e_tnew, e_tald, e_tast, e_iret, e_zret, e_lret, e_dret, e_vret, e_throw, lg0, ls0, lt0, lg1, ls1, lo1, lt1, lg2, ls2, lo2, lt2, lg3, ls3, lo3, lt3, lg4, ls4, lo4, lt4, lg5, ls5, lo5, lt5, lg6, ls6, lo6, lt6, lg7, ls7, lo7, lt7, lg8, ls8, lo8, lo0, okI, okR, okN, e_calli1, e_calll1, e_callv1, e_xcalli1, e_xcallv1, e_acalli1, e_calli2, e_calll2, e_callv2, e_xcalli2, e_xcallv2, e_acalli2, e_calli3, e_calll3, e_callv3, e_xcalli3, e_xcallv3, e_acalli3, e_calli4, e_calll4, e_callv4, e_xcalli4, e_xcallv4, e_acalli4, e_scalli3, sh4_0, sh4_1, sh4_2, sh4_3, sh4_4, eqr, eqv, true_and, and_true, true_or, or_true, ln0_1, ln0_2, ln0_3, ln0_4, ln0_5, ln0_6, ln0_7, ln0_8, ln0_9, ln0_11, ln0_12, ln0_13]
  exact Or.inr ⟨_, run0_requireKind_no hr hn hB, fun E S' z => z⟩
def pkS (S : ST) (k : Nat) : ST := pF (pkF k 150 S).1 15 (fF (pkF k 150 S).1 15 + (pkF k 150 S).2)
theorem run0_pack_ok {S : ST} {k : Nat} (hI : Inv S) (hk : (k : Int) < fF S 0) : X0_pack [vR 0, vI k] S (eqr (pkF k 150 S).2 (pkS S k)) nox := by
  have h0 := hI.1.kc
  refine ⟨Nat.le_of_ble_eq_true rfl, ?_⟩
  show RR _ 0 [some (vR 0), some (vI k), none, none, none] [] S
  have loop : ∀ (n m : Nat) (S : ST) (Q : Int → ST → Prop), m + n = 150 → Inv S → (k : Int) < fF S 0 → Q ((m : Int) + (pkF k n S).2) (pF (pkF k n S).1 15 (fF (pkF k n S).1 15 + ((m : Int) + (pkF k n S).2))) → ∀ z1 z2 : Option AV, RR (T0_pack Q nox) 7 [some (vR 0), some (vI k), some (vI m), z1, z2] [] S := by
    intro n
    induction n with
    | zero =>
      intro m S Q hm hI hk hQ z1 z2
      rw [r0_pack_7]
      simp only [r0_pack_0, r0_pack_1, r0_pack_2, r0_pack_5, r0_pack_6, r0_pack_8, r0_pack_11, r0_pack_14, r0_pack_15, r0_pack_16, r0_pack_19, r0_pack_20, r0_pack_21, r0_pack_22, r0_pack_25, r0_pack_27, r0_pack_28, r0_pack_29, r0_pack_32, r0_pack_34, r0_pack_35, r0_pack_38, r0_pack_39, r0_pack_41, r0_pack_44, r0_pack_47, r0_pack_48, r0_pack_49, r0_pack_51, r0_pack_54, r0_pack_57, r0_pack_60, r0_pack_61, r0_pack_62, r0_pack_65, r0_pack_66, r0_pack_67, r0_pack_70, r0_pack_71, e_const, e_lconst, e_dconst, e_iload, e_kiload, e_aload, e_kaload, e_lload, e_klload, e_iinc, e_kiinc, e_istore, e_astore, e_lstore, e_dupI, e_dupR, e_dup2, e_iadd, e_isub, e_imul, e_idiv, e_irem, e_ladd, e_lmul, e_i2l, e_i2d, e_ddiv, e_icmp, e_if, e_goto, e_switch, e_tsw0, e_tsw1, e_getI, e_getA, e_putI, e_iald, e_iast, e_tnew, e_tald, e_tast, e_iret, e_zret, e_lret, e_dret, e_vret, e_throw, lg0, ls0, lt0, lg1, ls1, lo1, lt1, lg2, ls2, lo2, lt2, lg3, ls3, lo3, lt3, lg4, ls4, lo4, lt4, lg5, ls5, lo5, lt5, lg6, ls6, lo6, lt6, lg7, ls7, lo7, lt7, lg8, ls8, lo8, lo0, okI, okR, okN, e_calli1, e_calll1, e_callv1, e_xcalli1, e_xcallv1, e_acalli1, e_calli2, e_calll2, e_callv2, e_xcalli2, e_xcallv2, e_acalli2, e_calli3, e_calll3, e_callv3, e_xcalli3, e_xcallv3, e_acalli3, e_calli4, e_calll4, e_callv4, e_xcalli4, e_xcallv4, e_acalli4, e_scalli3, sh4_0, sh4_1, sh4_2, sh4_3, sh4_4, eqr, eqv, true_and, and_true, true_or, or_true, ln0_1, ln0_2, ln0_3, ln0_4, ln0_5, ln0_6, ln0_7, ln0_8, ln0_9, ln0_11, ln0_12, ln0_13]
      simp only [pkF, Int.add_zero] at hQ
      exact ⟨⟨⟨by omega, by omega⟩, by omega, by omega⟩, fun h => hQ, fun h => absurd h (by omega)⟩
    | succ n ih =>
      intro m S Q hm hI hk hQ z1 z2
      have h0 := hI.1.kc
      rw [r0_pack_7]
      simp only [r0_pack_0, r0_pack_1, r0_pack_2, r0_pack_5, r0_pack_6, r0_pack_8, r0_pack_11, r0_pack_14, r0_pack_15, r0_pack_16, r0_pack_19, r0_pack_20, r0_pack_21, r0_pack_22, r0_pack_25, r0_pack_27, r0_pack_28, r0_pack_29, r0_pack_32, r0_pack_34, r0_pack_35, r0_pack_38, r0_pack_39, r0_pack_41, r0_pack_44, r0_pack_47, r0_pack_48, r0_pack_49, r0_pack_51, r0_pack_54, r0_pack_57, r0_pack_60, r0_pack_61, r0_pack_62, r0_pack_65, r0_pack_66, r0_pack_67, r0_pack_70, r0_pack_71, e_const, e_lconst, e_dconst, e_iload, e_kiload, e_aload, e_kaload, e_lload, e_klload, e_iinc, e_kiinc, e_istore, e_astore, e_lstore, e_dupI, e_dupR, e_dup2, e_iadd, e_isub, e_imul, e_idiv, e_irem, e_ladd, e_lmul, e_i2l, e_i2d, e_ddiv, e_icmp, e_if, e_goto, e_switch, e_tsw0, e_tsw1, e_getI, e_getA, e_putI, e_iald, e_iast, e_tnew, e_tald, e_tast, e_iret, e_zret, e_lret, e_dret, e_vret, e_throw, lg0, ls0, lt0, lg1, ls1, lo1, lt1, lg2, ls2, lo2, lt2, lg3, ls3, lo3, lt3, lg4, ls4, lo4, lt4, lg5, ls5, lo5, lt5, lg6, ls6, lo6, lt6, lg7, ls7, lo7, lt7, lg8, ls8, lo8, lo0, okI, okR, okN, e_calli1, e_calll1, e_callv1, e_xcalli1, e_xcallv1, e_acalli1, e_calli2, e_calll2, e_callv2, e_xcalli2, e_xcallv2, e_acalli2, e_calli3, e_calll3, e_callv3, e_xcalli3, e_xcallv3, e_acalli3, e_calli4, e_calll4, e_callv4, e_xcalli4, e_xcallv4, e_acalli4, e_scalli3, sh4_0, sh4_1, sh4_2, sh4_3, sh4_4, eqr, eqv, true_and, and_true, true_or, or_true, ln0_1, ln0_2, ln0_3, ln0_4, ln0_5, ln0_6, ln0_7, ln0_8, ln0_9, ln0_11, ln0_12, ln0_13]
      have hcb := hI.1.kd (k := k) (by omega)
      have b1 := lp_b (f := gA S 6) (g := gA S 8) (k := (k : Int)) (c := gA S 3 k) (by omega) 20
      have b2 := mp_b (f := gA S 6) (g := gA S 8) (k := (k : Int)) (c := gA S 3 k) (by omega) 20
      refine ⟨⟨⟨by omega, by omega⟩, by omega, by omega⟩, fun h => absurd h (by omega), fun _ => ⟨_, run0_leastPartly (by omega) hI.1, ?_⟩⟩
      rintro r S1 ⟨rfl, rfl⟩
      refine ⟨_, run0_mostPartly (by omega) hI.1, ?_⟩
      rintro r S2 ⟨rfl, rfl⟩
      have stop : (pkP S2 k = -1 ∨ pkQ S2 k = -1 ∨ pkP S2 k = pkQ S2 k) → Q (m : Int) (pF S2 15 (fF S2 15 + m)) := by
        intro h
        rw [pkF_s h] at hQ
        simp only [Int.add_zero] at hQ
        exact hQ
      refine ⟨⟨⟨by omega, by omega⟩, by omega, by omega⟩, fun h => stop (Or.inl h), fun h => ⟨⟨⟨by omega, by omega⟩, by omega, by omega⟩, fun h2 => stop (Or.inr (Or.inl h2)), fun h2 => ⟨⟨⟨by omega, by omega⟩, by omega, by omega⟩, fun h3 => ?_, fun h3 => stop (Or.inr (Or.inr (Decidable.not_not.mp h3)))⟩⟩⟩
      have hgo : ¬ (pkP S2 k = -1 ∨ pkQ S2 k = -1 ∨ pkP S2 k = pkQ S2 k) := by
        rintro (z | z | z)
        · exact h z
        · exact h2 z
        · exact h3 z
      obtain ⟨p, q, hp, hq, e1, e2, hne, hpp, hqq, -, -⟩ := pk_at hgo
      obtain ⟨hI2, hrun, -⟩ := mv_ok hI hp hq hk hpp hqq hne
      rw [pkF_g hgo, e1, e2, Int.toNat_natCast, Int.toNat_natCast] at hQ
      have e1' : (lp (gA S2 6) (gA S2 8) k (gA S2 3 k) 20).1 = p := e1
      have e2' : (mp (gA S2 6) (gA S2 8) k (gA S2 3 k) 20).1 = q := e2
      rw [e1', e2']
      refine ⟨_, hrun, ?_⟩
      rintro S3 rfl
      have := ih (m + 1) (mvT S2 p q) Q (by omega) hI2 hk (by
        have e3 : (((m + 1 : Nat) : Int) + (pkF k n (mvT S2 p q)).2) = (m : Int) + ((pkF k n (mvT S2 p q)).2 + 1) := by omega
        rw [e3]
        exact hQ) (some (vI p)) (some (vI q))
      exact this
  simp only [r0_pack_0, r0_pack_1, r0_pack_2, r0_pack_5, r0_pack_6, r0_pack_8, r0_pack_11, r0_pack_14, r0_pack_15, r0_pack_16, r0_pack_19, r0_pack_20, r0_pack_21, r0_pack_22, r0_pack_25, r0_pack_27, r0_pack_28, r0_pack_29, r0_pack_32, r0_pack_34, r0_pack_35, r0_pack_38, r0_pack_39, r0_pack_41, r0_pack_44, r0_pack_47, r0_pack_48, r0_pack_49, r0_pack_51, r0_pack_54, r0_pack_57, r0_pack_60, r0_pack_61, r0_pack_62, r0_pack_65, r0_pack_66, r0_pack_67, r0_pack_70, r0_pack_71, e_const, e_lconst, e_dconst, e_iload, e_kiload, e_aload, e_kaload, e_lload, e_klload, e_iinc, e_kiinc, e_istore, e_astore, e_lstore, e_dupI, e_dupR, e_dup2, e_iadd, e_isub, e_imul, e_idiv, e_irem, e_ladd, e_lmul, e_i2l, e_i2d, e_ddiv, e_icmp, e_if, e_goto, e_switch, e_tsw0, e_tsw1, e_getI, e_getA, e_putI, e_iald, e_iast, e_tnew, e_tald, e_tast, e_iret, e_zret, e_lret, e_dret, e_vret, e_throw, lg0, ls0, lt0, lg1, ls1, lo1, lt1, lg2, ls2, lo2, lt2, lg3, ls3, lo3, lt3, lg4, ls4, lo4, lt4, lg5, ls5, lo5, lt5, lg6, ls6, lo6, lt6, lg7, ls7, lo7, lt7, lg8, ls8, lo8, lo0, okI, okR, okN, e_calli1, e_calll1, e_callv1, e_xcalli1, e_xcallv1, e_acalli1, e_calli2, e_calll2, e_callv2, e_xcalli2, e_xcallv2, e_acalli2, e_calli3, e_calll3, e_callv3, e_xcalli3, e_xcallv3, e_acalli3, e_calli4, e_calll4, e_callv4, e_xcalli4, e_xcallv4, e_acalli4, e_scalli3, sh4_0, sh4_1, sh4_2, sh4_3, sh4_4, eqr, eqv, true_and, and_true, true_or, or_true, ln0_1, ln0_2, ln0_3, ln0_4, ln0_5, ln0_6, ln0_7, ln0_8, ln0_9, ln0_11, ln0_12, ln0_13]
  refine Or.inl ⟨_, run0_requireKind_ok ⟨by omega, by omega⟩ ⟨by omega, hk⟩ hI.1, ?_⟩
  rintro S1 rfl
  refine loop 150 0 S1 _ rfl hI hk ?_ none none
  have e : ((0 : Nat) : Int) + (pkF k 150 S1).2 = (pkF k 150 S1).2 := by omega
  rw [e]
  exact ⟨rfl, rfl⟩
