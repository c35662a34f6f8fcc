/-! THE CONSTRUCTORS -/
def SZ : ST := (fun _ => 0, fun _ _ => 0, none, 0, 0)
def clA (S : ST) (a : Nat) : Nat → ST
  | 0 => S
  | n + 1 => pA (clA S a n) a n (-1)
theorem clA_F (S : ST) (a b : Nat) : ∀ n, fF (clA S a n) b = fF S b
  | 0 => rfl
  | n + 1 => by
    show fF (pA (clA S a n) a n (-1)) b = _
    rw [fF_pA, clA_F S a b n]
theorem clA_A (S : ST) (a b i : Nat) : ∀ n, gA (clA S a n) b i = if b = a ∧ i < n then -1 else gA S b i
  | 0 => by rw [if_neg (by omega)]; rfl
  | n + 1 => by
    show gA (pA (clA S a n) a n (-1)) b i = _
    rw [gA_pA, clA_A S a b i n]
    by_cases h : b = a ∧ i = n
    · rw [if_pos h, if_pos ⟨h.1, by omega⟩]
    · rw [if_neg h]
      by_cases h2 : b = a ∧ i < n
      · rw [if_pos h2, if_pos ⟨h2.1, by omega⟩]
      · rw [if_neg h2, if_neg (fun z => by omega)]
def SI0 : ST := clA (clA SZ 6 20) 9 1280
def SI1 : ST := clA SZ 5 20
theorem SI0_A (b i : Nat) : gA SI0 b i = if (b = 9 ∧ i < 1280) ∨ (b = 6 ∧ i < 20) then -1 else 0 := by
  unfold SI0
  rw [clA_A, clA_A]
  by_cases h : b = 9 ∧ i < 1280
  · rw [if_pos h, if_pos (Or.inl h)]
  · rw [if_neg h]
    by_cases h2 : b = 6 ∧ i < 20
    · rw [if_pos h2, if_pos (Or.inr h2)]
    · rw [if_neg h2, if_neg (fun z => z.elim h h2)]; rfl
theorem SI0_F (b : Nat) : fF SI0 b = 0 := by unfold SI0; rw [clA_F, clA_F]; rfl
theorem SI1_A (b i : Nat) : gA SI1 b i = if b = 5 ∧ i < 20 then -1 else 0 := by
  unfold SI1
  rw [clA_A]
  rfl
theorem SI1_F (b : Nat) : fF SI1 b = 0 := by unfold SI1; rw [clA_F]; rfl
theorem clA_2 (S : ST) (a : Nat) : ∀ n, (clA S a n).2.2 = S.2.2
  | 0 => rfl
  | n + 1 => clA_2 S a n
theorem Inv_SI0 : Inv SI0 := by
  have a0 : ∀ b i, (b ≠ 9 ∧ b ≠ 6) → gA SI0 b i = 0 := fun b i h => by rw [SI0_A, if_neg (by omega)]
  have a6 : ∀ i, i < 20 → gA SI0 6 i = -1 := fun i h => by rw [SI0_A, if_pos (by omega)]
  have a9 : ∀ i, i < 1280 → gA SI0 9 i = -1 := fun i h => by rw [SI0_A, if_pos (by omega)]
  refine ⟨⟨by rw [SI0_F]; omega, by rw [SI0_F]; omega, fun k hk => ?_, fun p hp => ?_, fun i hi => ?_, fun t ht => ?_⟩, fun k hk hk2 => ?_, fun p hp => ?_, fun p hp => ?_, fun p c hp hc hn => ?_, fun t ht ht2 => ?_, ?_⟩
  · rw [a0 1 k (by omega), a0 2 k (by omega), a0 3 k (by omega), a0 4 k (by omega), a0 5 k (by omega)]; omega
  · rw [a6 p hp, a0 8 p (by omega)]; omega
  · rw [a9 i hi]; omega
  · rw [a0 11 t (by omega), a0 12 t (by omega), a0 13 t (by omega)]; omega
  · rw [SI0_F] at hk2; omega
  · rw [a6 p hp, SI0_F]; omega
  · rw [a0 8 p (by omega)]
    exact (oc_none 64 (fun c hc => a9 _ (by omega))).symm
  · exact absurd (a9 _ (by omega)) hn
  · rw [SI0_F] at ht2; omega
  · have : gA SI0 8 = fun _ => 0 := funext fun p => a0 8 p (by omega)
    rw [this, SI0_F]
    decide
theorem Rel_SI : Rel SI0 SI1 := by
  have z : ∀ a b : Nat, (a ≠ 9 ∧ a ≠ 6) → b ≠ 5 → ∀ i, gA SI1 b i = gA SI0 a i := fun a b h1 h2 i => by rw [SI0_A, SI1_A, if_neg (by omega), if_neg (by omega)]
  refine ⟨⟨by rw [SI0_F, SI1_F], by rw [SI0_F, SI1_F], by rw [SI0_F, SI1_F], by rw [SI0_F, SI1_F]⟩, ⟨z 1 2 (by omega) (by omega), z 2 3 (by omega) (by omega), z 5 4 (by omega) (by omega), fun i => ?_, z 8 7 (by omega) (by omega), z 11 10 (by omega) (by omega), z 12 11 (by omega) (by omega)⟩, fun p hp hn => ?_, fun t ht => ⟨?_, fun _ => z 13 12 (by omega) (by omega) t⟩⟩
  · rw [SI0_A, SI1_A]
    by_cases h : i < 20
    · rw [if_pos ⟨rfl, h⟩, if_pos (Or.inr ⟨rfl, h⟩)]
    · rw [if_neg (fun w => h w.2), if_neg (by omega)]
  · exact absurd (by rw [SI0_A, if_pos (by omega)]) hn
  · rw [SI1_A, if_neg (by omega)]; omega
theorem Bo_SI : Bo SI0 SI1 := ⟨Inv_SI0, Rel_SI, rfl⟩
def T0i (Q : ST → Prop) : List (Nat × AI) := [(104, i_const (0) 105), (105, i_istore 1 106), (106, i_iload 1 107), (107, i_const 20 109), (109, i_icmp (fun a b => a ≥ b) 125 112), (112, i_aload 0 113), (113, i_getA 6 116), (116, i_iload 1 117), (117, i_const (-1) 118), (118, i_iast ln0 119), (119, i_iinc 1 1 122), (122, i_goto 106), (125, i_const (0) 126), (126, i_istore 1 127), (127, i_iload 1 128), (128, i_const 1280 131), (131, i_icmp (fun a b => a ≥ b) 147 134), (134, i_aload 0 135), (135, i_getA 9 138), (138, i_iload 1 139), (139, i_const (-1) 140), (140, i_iast ln0 141), (141, i_iinc 1 1 144), (144, i_goto 127), (147, i_vret Q)]
theorem mo0i (Q : ST → Prop) : ∀ e ∈ T0i Q, Mono e.2 := al (m_const _ _) <| al (m_istore _ _) <| al (m_iload _ _) <| al (m_const _ _) <| al (m_icmp _ _ _) <| al (m_aload _ _) <| al (m_getA _ _) <| al (m_iload _ _) <| al (m_const _ _) <| al (m_iast _ _) <| al (m_iinc _ _ _) <| al (m_goto _) <| al (m_const _ _) <| al (m_istore _ _) <| al (m_iload _ _) <| al (m_const _ _) <| al (m_icmp _ _ _) <| al (m_aload _ _) <| al (m_getA _ _) <| al (m_iload _ _) <| al (m_const _ _) <| al (m_iast _ _) <| al (m_iinc _ _ _) <| al (m_goto _) <| al (m_vret _) <| an
theorem r0i_104 {Q : ST → Prop} {lv : LV} {st : List AV} {S : ST} : RR (T0i Q) 104 lv st S = i_const (0) 105 lv st S (RR (T0i Q)) := RR_at (mo0i Q) rfl lv st S
theorem r0i_105 {Q : ST → Prop} {lv : LV} {st : List AV} {S : ST} : RR (T0i Q) 105 lv st S = i_istore 1 106 lv st S (RR (T0i Q)) := RR_at (mo0i Q) rfl lv st S
theorem r0i_106 {Q : ST → Prop} {lv : LV} {st : List AV} {S : ST} : RR (T0i Q) 106 lv st S = i_iload 1 107 lv st S (RR (T0i Q)) := RR_at (mo0i Q) rfl lv st S
theorem r0i_107 {Q : ST → Prop} {lv : LV} {st : List AV} {S : ST} : RR (T0i Q) 107 lv st S = i_const 20 109 lv st S (RR (T0i Q)) := RR_at (mo0i Q) rfl lv st S
theorem r0i_109 {Q : ST → Prop} {lv : LV} {st : List AV} {S : ST} : RR (T0i Q) 109 lv st S = i_icmp (fun a b => a ≥ b) 125 112 lv st S (RR (T0i Q)) := RR_at (mo0i Q) rfl lv st S
theorem r0i_112 {Q : ST → Prop} {lv : LV} {st : List AV} {S : ST} : RR (T0i Q) 112 lv st S = i_aload 0 113 lv st S (RR (T0i Q)) := RR_at (mo0i Q) rfl lv st S
theorem r0i_113 {Q : ST → Prop} {lv : LV} {st : List AV} {S : ST} : RR (T0i Q) 113 lv st S = i_getA 6 116 lv st S (RR (T0i Q)) := RR_at (mo0i Q) rfl lv st S
theorem r0i_116 {Q : ST → Prop} {lv : LV} {st : List AV} {S : ST} : RR (T0i Q) 116 lv st S = i_iload 1 117 lv st S (RR (T0i Q)) := RR_at (mo0i Q) rfl lv st S
theorem r0i_117 {Q : ST → Prop} {lv : LV} {st : List AV} {S : ST} : RR (T0i Q) 117 lv st S = i_const (-1) 118 lv st S (RR (T0i Q)) := RR_at (mo0i Q) rfl lv st S
theorem r0i_118 {Q : ST → Prop} {lv : LV} {st : List AV} {S : ST} : RR (T0i Q) 118 lv st S = i_iast ln0 119 lv st S (RR (T0i Q)) := RR_at (mo0i Q) rfl lv st S
theorem r0i_119 {Q : ST → Prop} {lv : LV} {st : List AV} {S : ST} : RR (T0i Q) 119 lv st S = i_iinc 1 1 122 lv st S (RR (T0i Q)) := RR_at (mo0i Q) rfl lv st S
theorem r0i_122 {Q : ST → Prop} {lv : LV} {st : List AV} {S : ST} : RR (T0i Q) 122 lv st S = i_goto 106 lv st S (RR (T0i Q)) := RR_at (mo0i Q) rfl lv st S
theorem r0i_125 {Q : ST → Prop} {lv : LV} {st : List AV} {S : ST} : RR (T0i Q) 125 lv st S = i_const (0) 126 lv st S (RR (T0i Q)) := RR_at (mo0i Q) rfl lv st S
theorem r0i_126 {Q : ST → Prop} {lv : LV} {st : List AV} {S : ST} : RR (T0i Q) 126 lv st S = i_istore 1 127 lv st S (RR (T0i Q)) := RR_at (mo0i Q) rfl lv st S
theorem r0i_127 {Q : ST → Prop} {lv : LV} {st : List AV} {S : ST} : RR (T0i Q) 127 lv st S = i_iload 1 128 lv st S (RR (T0i Q)) := RR_at (mo0i Q) rfl lv st S
theorem r0i_128 {Q : ST → Prop} {lv : LV} {st : List AV} {S : ST} : RR (T0i Q) 128 lv st S = i_const 1280 131 lv st S (RR (T0i Q)) := RR_at (mo0i Q) rfl lv st S
theorem r0i_131 {Q : ST → Prop} {lv : LV} {st : List AV} {S : ST} : RR (T0i Q) 131 lv st S = i_icmp (fun a b => a ≥ b) 147 134 lv st S (RR (T0i Q)) := RR_at (mo0i Q) rfl lv st S
theorem r0i_134 {Q : ST → Prop} {lv : LV} {st : List AV} {S : ST} : RR (T0i Q) 134 lv st S = i_aload 0 135 lv st S (RR (T0i Q)) := RR_at (mo0i Q) rfl lv st S
theorem r0i_135 {Q : ST → Prop} {lv : LV} {st : List AV} {S : ST} : RR (T0i Q) 135 lv st S = i_getA 9 138 lv st S (RR (T0i Q)) := RR_at (mo0i Q) rfl lv st S
theorem r0i_138 {Q : ST → Prop} {lv : LV} {st : List AV} {S : ST} : RR (T0i Q) 138 lv st S = i_iload 1 139 lv st S (RR (T0i Q)) := RR_at (mo0i Q) rfl lv st S
theorem r0i_139 {Q : ST → Prop} {lv : LV} {st : List AV} {S : ST} : RR (T0i Q) 139 lv st S = i_const (-1) 140 lv st S (RR (T0i Q)) := RR_at (mo0i Q) rfl lv st S
theorem r0i_140 {Q : ST → Prop} {lv : LV} {st : List AV} {S : ST} : RR (T0i Q) 140 lv st S = i_iast ln0 141 lv st S (RR (T0i Q)) := RR_at (mo0i Q) rfl lv st S
theorem r0i_141 {Q : ST → Prop} {lv : LV} {st : List AV} {S : ST} : RR (T0i Q) 141 lv st S = i_iinc 1 1 144 lv st S (RR (T0i Q)) := RR_at (mo0i Q) rfl lv st S
theorem r0i_144 {Q : ST → Prop} {lv : LV} {st : List AV} {S : ST} : RR (T0i Q) 144 lv st S = i_goto 127 lv st S (RR (T0i Q)) := RR_at (mo0i Q) rfl lv st S
theorem r0i_147 {Q : ST → Prop} {lv : LV} {st : List AV} {S : ST} : RR (T0i Q) 147 lv st S = i_vret Q lv st S (RR (T0i Q)) := RR_at (mo0i Q) rfl lv st S
set_option maxRecDepth 20000 in
theorem run0_ini : RR (T0i (eqv SI0)) 104 [some (vR 0), none] [] SZ := by
  have loop1 : ∀ i : Nat, i ≤ 1280 → RR (T0i (eqv SI0)) 127 [some (vR 0), some (vI i)] [] (clA (clA SZ 6 20) 9 i) := by
    refine up ?_ ?_
    · rw [r0i_127]
      simp only [r0i_104, r0i_105, r0i_106, r0i_107, r0i_109, r0i_112, r0i_113, r0i_116, r0i_117, r0i_118, r0i_119, r0i_122, r0i_125, r0i_126, r0i_128, r0i_131, r0i_134, r0i_135, r0i_138, r0i_139, r0i_140, r0i_141, r0i_144, r0i_147, e_const, e_lconst, e_dconst, e_iload, e_kiload, e_aload, e_kaload, e_lload, e_klload, e_iinc, e_kiinc, e_istore, e_astore, e_lstore, e_dupI, e_dupR, e_dup2, e_iadd, e_isub, e_imul, e_idiv, e_irem, e_ladd, e_lmul, e_i2l, e_i2d, e_ddiv, e_icmp, e_if, e_goto, e_switch, e_tsw0, e_tsw1, e_getI, e_getA, e_putI, e_iald, e_iast, e_tnew, e_tald, e_tast, e_iret, e_zret, e_lret, e_dret, e_vret, e_throw, lg0, ls0, lt0, lg1, ls1, lo1, lt1, lg2, ls2, lo2, lt2, lg3, ls3, lo3, lt3, lg4, ls4, lo4, lt4, lg5, ls5, lo5, lt5, lg6, ls6, lo6, lt6, lg7, ls7, lo7, lt7, lg8, ls8, lo8, lo0, okI, okR, okN, e_calli1, e_calll1, e_callv1, e_xcalli1, e_xcallv1, e_acalli1, e_calli2, e_calll2, e_callv2, e_xcalli2, e_xcallv2, e_acalli2, e_calli3, e_calll3, e_callv3, e_xcalli3, e_xcallv3, e_acalli3, e_calli4, e_calll4, e_callv4, e_xcalli4, e_xcallv4, e_acalli4, e_scalli3, sh4_0, sh4_1, sh4_2, sh4_3, sh4_4, eqr, eqv, true_and, and_true, true_or, or_true, ln0_1, ln0_2, ln0_3, ln0_4, ln0_5, ln0_6, ln0_7, ln0_8, ln0_9, ln0_11, ln0_12, ln0_13, Int.toNat_natCast]
      refine ⟨⟨⟨by omega, by omega⟩, by omega, by omega⟩, fun _ => rfl, fun z => absurd (by omega) z⟩
    · intro i hi ih
      rw [r0i_127]
      simp only [r0i_104, r0i_105, r0i_106, r0i_107, r0i_109, r0i_112, r0i_113, r0i_116, r0i_117, r0i_118, r0i_119, r0i_122, r0i_125, r0i_126, r0i_128, r0i_131, r0i_134, r0i_135, r0i_138, r0i_139, r0i_140, r0i_141, r0i_144, r0i_147, e_const, e_lconst, e_dconst, e_iload, e_kiload, e_aload, e_kaload, e_lload, e_klload, e_iinc, e_kiinc, e_istore, e_astore, e_lstore, e_dupI, e_dupR, e_dup2, e_iadd, e_isub, e_imul, e_idiv, e_irem, e_ladd, e_lmul, e_i2l, e_i2d, e_ddiv, e_icmp, e_if, e_goto, e_switch, e_tsw0, e_tsw1, e_getI, e_getA, e_putI, e_iald, e_iast, e_tnew, e_tald, e_tast, e_iret, e_zret, e_lret, e_dret, e_vret, e_throw, lg0, ls0, lt0, lg1, ls1, lo1, lt1, lg2, ls2, lo2, lt2, lg3, ls3, lo3, lt3, lg4, ls4, lo4, lt4, lg5, ls5, lo5, lt5, lg6, ls6, lo6, lt6, lg7, ls7, lo7, lt7, lg8, ls8, lo8, lo0, okI, okR, okN, e_calli1, e_calll1, e_callv1, e_xcalli1, e_xcallv1, e_acalli1, e_calli2, e_calll2, e_callv2, e_xcalli2, e_xcallv2, e_acalli2, e_calli3, e_calll3, e_callv3, e_xcalli3, e_xcallv3, e_acalli3, e_calli4, e_calll4, e_callv4, e_xcalli4, e_xcallv4, e_acalli4, e_scalli3, sh4_0, sh4_1, sh4_2, sh4_3, sh4_4, eqr, eqv, true_and, and_true, true_or, or_true, ln0_1, ln0_2, ln0_3, ln0_4, ln0_5, ln0_6, ln0_7, ln0_8, ln0_9, ln0_11, ln0_12, ln0_13, Int.toNat_natCast]
      exact ⟨⟨⟨by omega, by omega⟩, by omega, by omega⟩, fun z => absurd z (by omega), fun _ => ⟨⟨by omega, by omega⟩, ih⟩⟩
  have loop0 : ∀ i : Nat, i ≤ 20 → RR (T0i (eqv SI0)) 106 [some (vR 0), some (vI i)] [] (clA SZ 6 i) := by
    refine up ?_ ?_
    · rw [r0i_106]
      simp only [r0i_104, r0i_105, r0i_107, r0i_109, r0i_112, r0i_113, r0i_116, r0i_117, r0i_118, r0i_119, r0i_122, r0i_125, r0i_126, r0i_128, r0i_131, r0i_134, r0i_135, r0i_138, r0i_139, r0i_140, r0i_141, r0i_144, r0i_147, e_const, e_lconst, e_dconst, e_iload, e_kiload, e_aload, e_kaload, e_lload, e_klload, e_iinc, e_kiinc, e_istore, e_astore, e_lstore, e_dupI, e_dupR, e_dup2, e_iadd, e_isub, e_imul, e_idiv, e_irem, e_ladd, e_lmul, e_i2l, e_i2d, e_ddiv, e_icmp, e_if, e_goto, e_switch, e_tsw0, e_tsw1, e_getI, e_getA, e_putI, e_iald, e_iast, e_tnew, e_tald, e_tast, e_iret, e_zret, e_lret, e_dret, e_vret, e_throw, lg0, ls0, lt0, lg1, ls1, lo1, lt1, lg2, ls2, lo2, lt2, lg3, ls3, lo3, lt3, lg4, ls4, lo4, lt4, lg5, ls5, lo5, lt5, lg6, ls6, lo6, lt6, lg7, ls7, lo7, lt7, lg8, ls8, lo8, lo0, okI, okR, okN, e_calli1, e_calll1, e_callv1, e_xcalli1, e_xcallv1, e_acalli1, e_calli2, e_calll2, e_callv2, e_xcalli2, e_xcallv2, e_acalli2, e_calli3, e_calll3, e_callv3, e_xcalli3, e_xcallv3, e_acalli3, e_calli4, e_calll4, e_callv4, e_xcalli4, e_xcallv4, e_acalli4, e_scalli3, sh4_0, sh4_1, sh4_2, sh4_3, sh4_4, eqr, eqv, true_and, and_true, true_or, or_true, ln0_1, ln0_2, ln0_3, ln0_4, ln0_5, ln0_6, ln0_7, ln0_8, ln0_9, ln0_11, ln0_12, ln0_13, Int.toNat_natCast]
      refine ⟨⟨⟨by omega, by omega⟩, by omega, by omega⟩, fun _ => loop1 0 (by omega), fun z => absurd (by omega) z⟩
    · intro i hi ih
      rw [r0i_106]
      simp only [r0i_104, r0i_105, r0i_107, r0i_109, r0i_112, r0i_113, r0i_116, r0i_117, r0i_118, r0i_119, r0i_122, r0i_125, r0i_126, r0i_128, r0i_131, r0i_134, r0i_135, r0i_138, r0i_139, r0i_140, r0i_141, r0i_144, r0i_147, e_const, e_lconst, e_dconst, e_iload, e_kiload, e_aload, e_kaload, e_lload, e_klload, e_iinc, e_kiinc, e_istore, e_astore, e_lstore, e_dupI, e_dupR, e_dup2, e_iadd, e_isub, e_imul, e_idiv, e_irem, e_ladd, e_lmul, e_i2l, e_i2d, e_ddiv, e_icmp, e_if, e_goto, e_switch, e_tsw0, e_tsw1, e_getI, e_getA, e_putI, e_iald, e_iast, e_tnew, e_tald, e_tast, e_iret, e_zret, e_lret, e_dret, e_vret, e_throw, lg0, ls0, lt0, lg1, ls1, lo1, lt1, lg2, ls2, lo2, lt2, lg3, ls3, lo3, lt3, lg4, ls4, lo4, lt4, lg5, ls5, lo5, lt5, lg6, ls6, lo6, lt6, lg7, ls7, lo7, lt7, lg8, ls8, lo8, lo0, okI, okR, okN, e_calli1, e_calll1, e_callv1, e_xcalli1, e_xcallv1, e_acalli1, e_calli2, e_calll2, e_callv2, e_xcalli2, e_xcallv2, e_acalli2, e_calli3, e_calll3, e_callv3, e_xcalli3, e_xcallv3, e_acalli3, e_calli4, e_calll4, e_callv4, e_xcalli4, e_xcallv4, e_acalli4, e_scalli3, sh4_0, sh4_1, sh4_2, sh4_3, sh4_4, eqr, eqv, true_and, and_true, true_or, or_true, ln0_1, ln0_2, ln0_3, ln0_4, ln0_5, ln0_6, ln0_7, ln0_8, ln0_9, ln0_11, ln0_12, ln0_13, Int.toNat_natCast]
      exact ⟨⟨⟨by omega, by omega⟩, by omega, by omega⟩, fun z => absurd z (by omega), fun _ => ⟨⟨by omega, by omega⟩, ih⟩⟩
  simp only [r0i_104, r0i_105, r0i_107, r0i_109, r0i_112, r0i_113, r0i_116, r0i_117, r0i_118, r0i_119, r0i_122, r0i_125, r0i_126, r0i_127, r0i_128, r0i_131, r0i_134, r0i_135, r0i_138, r0i_139, r0i_140, r0i_141, r0i_144, r0i_147, e_const, e_lconst, e_dconst, e_iload, e_kiload, e_aload, e_kaload, e_lload, e_klload, e_iinc, e_kiinc, e_istore, e_astore, e_lstore, e_dupI, e_dupR, e_dup2, e_iadd, e_isub, e_imul, e_idiv, e_irem, e_ladd, e_lmul, e_i2l, e_i2d, e_ddiv, e_icmp, e_if, e_goto, e_switch, e_tsw0, e_tsw1, e_getI, e_getA, e_putI, e_iald, e_iast, e_tnew, e_tald, e_tast, e_iret, e_zret, e_lret, e_dret, e_vret, e_throw, lg0, ls0, lt0, lg1, ls1, lo1, lt1, lg2, ls2, lo2, lt2, lg3, ls3, lo3, lt3, lg4, ls4, lo4, lt4, lg5, ls5, lo5, lt5, lg6, ls6, lo6, lt6, lg7, ls7, lo7, lt7, lg8, ls8, lo8, lo0, okI, okR, okN, e_calli1, e_calll1, e_callv1, e_xcalli1, e_xcallv1, e_acalli1, e_calli2, e_calll2, e_callv2, e_xcalli2, e_xcallv2, e_acalli2, e_calli3, e_calll3, e_callv3, e_xcalli3, e_xcallv3, e_acalli3, e_calli4, e_calll4, e_callv4, e_xcalli4, e_xcallv4, e_acalli4, e_scalli3, sh4_0, sh4_1, sh4_2, sh4_3, sh4_4, eqr, eqv, true_and, and_true, true_or, or_true, ln0_1, ln0_2, ln0_3, ln0_4, ln0_5, ln0_6, ln0_7, ln0_8, ln0_9, ln0_11, ln0_12, ln0_13, Int.toNat_natCast]
  exact loop0 0 (by omega)
theorem iniS0 {p : Program} {l : Launch} {e : Env} {R : Room} {s : State} {m : MethodId} {args : Array Value} {below : List Frame} {meth : Method} {c : Code} {Q : State → Prop} {D : va_G} {cA : ClassId} {A : Nat → Prop} {AD : (Nat → Nat) → Prop} {rel : Nat × Nat → Nat → Nat → Prop} {Qi : ST → Prop} (hx : p.tables.exec = Jvm.exec) (hb : c.code = cX0_init) (hml : c.maxLocals = 2) (hown : s.vm.findClass RX0 = some m.cls) (hts : ∀ w ∈ wsX0_init, w.before args s = true) (hA : ∀ q : Nat, s.heap.size ≤ q → A q) (hK : va_K D vwCl [(cA, .int)] s) (hE : ∀ pc, decode cX0_init pc = .ok (.return_, 1) → ∀ lv st S, i_vret Qi lv st S (OK p l e R s m args below meth c Q D cA A 0 ly0 ja0 AD rel 2) → OK p l e R s m args below meth c Q D cA A 0 ly0 ja0 AD rel 2 pc lv st S) : ∀ z ∈ T0i Qi, ∀ lv st S, z.2 lv st S (OK p l e R s m args below meth c Q D cA A 0 ly0 ja0 AD rel 2) → OK p l e R s m args below meth c Q D cA A 0 ly0 ja0 AD rel 2 z.1 lv st S := by
  have hinw : ∀ w ∈ u_ws RX0 TX0 16, w ∈ wsX0_init := fun w h => List.mem_cons_of_mem _ (List.mem_append_right _ h)
  exact al (s_iconst hx hb dX0_init_104 rfl) <| al (s_istore_n hx hb (i := 1) rfl dX0_init_105 rfl (by decide)) <| al (s_iload_n hx hb (i := 1) rfl dX0_init_106 rfl) <| al (s_bipush hx hb dX0_init_107 rfl (by decide)) <| al (s_icmp_ge hx hb (t := 125) rfl dX0_init_109 rfl) <| al (s_aload_n hx hb (i := 0) rfl dX0_init_112 rfl) <| al (s_getA (N := 16) hx hb hts hinw hown hK rfl (k := 6) (by decide) (hts (.fieldLink RX0 25 "CellTrays" "trayKind" "[I") (by decide +kernel)) rfl dX0_init_113 rfl rfl (by decide)) <| al (s_iload_n hx hb (i := 1) rfl dX0_init_116 rfl) <| al (s_iconst hx hb dX0_init_117 rfl) <| al (s_iast hx hb hK hln0 hu0 dX0_init_118 rfl) <| al (s_iinc hx hb dX0_init_119 rfl (by decide)) <| al (s_goto hx hb (t := 106) rfl dX0_init_122) <| al (s_iconst hx hb dX0_init_125 rfl) <| al (s_istore_n hx hb (i := 1) rfl dX0_init_126 rfl (by decide)) <| al (s_iload_n hx hb (i := 1) rfl dX0_init_127 rfl) <| al (s_sipush hx hb dX0_init_128 rfl (by decide)) <| al (s_icmp_ge hx hb (t := 147) rfl dX0_init_131 rfl) <| al (s_aload_n hx hb (i := 0) rfl dX0_init_134 rfl) <| al (s_getA (N := 16) hx hb hts hinw hown hK rfl (k := 9) (by decide) (hts (.fieldLink RX0 34 "CellTrays" "cellThing" "[I") (by decide +kernel)) rfl dX0_init_135 rfl rfl (by decide)) <| al (s_iload_n hx hb (i := 1) rfl dX0_init_138 rfl) <| al (s_iconst hx hb dX0_init_139 rfl) <| al (s_iast hx hb hK hln0 hu0 dX0_init_140 rfl) <| al (s_iinc hx hb dX0_init_141 rfl (by decide)) <| al (s_goto hx hb (t := 127) rfl dX0_init_144) <| al (hE _ dX0_init_147) <| an
def T1i (Q : ST → Prop) : List (Nat × AI) := [(88, i_const (0) 89), (89, i_istore 1 90), (90, i_iload 1 91), (91, i_const 20 93), (93, i_icmp (fun a b => a ≥ b) 109 96), (96, i_aload 0 97), (97, i_getA 5 100), (100, i_iload 1 101), (101, i_const (-1) 102), (102, i_iast ln1 103), (103, i_iinc 1 1 106), (106, i_goto 90), (109, i_vret Q)]
theorem mo1i (Q : ST → Prop) : ∀ e ∈ T1i Q, Mono e.2 := al (m_const _ _) <| al (m_istore _ _) <| al (m_iload _ _) <| al (m_const _ _) <| al (m_icmp _ _ _) <| al (m_aload _ _) <| al (m_getA _ _) <| al (m_iload _ _) <| al (m_const _ _) <| al (m_iast _ _) <| al (m_iinc _ _ _) <| al (m_goto _) <| al (m_vret _) <| an
theorem r1i_88 {Q : ST → Prop} {lv : LV} {st : List AV} {S : ST} : RR (T1i Q) 88 lv st S = i_const (0) 89 lv st S (RR (T1i Q)) := RR_at (mo1i Q) rfl lv st S
theorem r1i_89 {Q : ST → Prop} {lv : LV} {st : List AV} {S : ST} : RR (T1i Q) 89 lv st S = i_istore 1 90 lv st S (RR (T1i Q)) := RR_at (mo1i Q) rfl lv st S
theorem r1i_90 {Q : ST → Prop} {lv : LV} {st : List AV} {S : ST} : RR (T1i Q) 90 lv st S = i_iload 1 91 lv st S (RR (T1i Q)) := RR_at (mo1i Q) rfl lv st S
theorem r1i_91 {Q : ST → Prop} {lv : LV} {st : List AV} {S : ST} : RR (T1i Q) 91 lv st S = i_const 20 93 lv st S (RR (T1i Q)) := RR_at (mo1i Q) rfl lv st S
theorem r1i_93 {Q : ST → Prop} {lv : LV} {st : List AV} {S : ST} : RR (T1i Q) 93 lv st S = i_icmp (fun a b => a ≥ b) 109 96 lv st S (RR (T1i Q)) := RR_at (mo1i Q) rfl lv st S
theorem r1i_96 {Q : ST → Prop} {lv : LV} {st : List AV} {S : ST} : RR (T1i Q) 96 lv st S = i_aload 0 97 lv st S (RR (T1i Q)) := RR_at (mo1i Q) rfl lv st S
theorem r1i_97 {Q : ST → Prop} {lv : LV} {st : List AV} {S : ST} : RR (T1i Q) 97 lv st S = i_getA 5 100 lv st S (RR (T1i Q)) := RR_at (mo1i Q) rfl lv st S
theorem r1i_100 {Q : ST → Prop} {lv : LV} {st : List AV} {S : ST} : RR (T1i Q) 100 lv st S = i_iload 1 101 lv st S (RR (T1i Q)) := RR_at (mo1i Q) rfl lv st S
theorem r1i_101 {Q : ST → Prop} {lv : LV} {st : List AV} {S : ST} : RR (T1i Q) 101 lv st S = i_const (-1) 102 lv st S (RR (T1i Q)) := RR_at (mo1i Q) rfl lv st S
theorem r1i_102 {Q : ST → Prop} {lv : LV} {st : List AV} {S : ST} : RR (T1i Q) 102 lv st S = i_iast ln1 103 lv st S (RR (T1i Q)) := RR_at (mo1i Q) rfl lv st S
theorem r1i_103 {Q : ST → Prop} {lv : LV} {st : List AV} {S : ST} : RR (T1i Q) 103 lv st S = i_iinc 1 1 106 lv st S (RR (T1i Q)) := RR_at (mo1i Q) rfl lv st S
theorem r1i_106 {Q : ST → Prop} {lv : LV} {st : List AV} {S : ST} : RR (T1i Q) 106 lv st S = i_goto 90 lv st S (RR (T1i Q)) := RR_at (mo1i Q) rfl lv st S
theorem r1i_109 {Q : ST → Prop} {lv : LV} {st : List AV} {S : ST} : RR (T1i Q) 109 lv st S = i_vret Q lv st S (RR (T1i Q)) := RR_at (mo1i Q) rfl lv st S
set_option maxRecDepth 20000 in
theorem run1_ini : RR (T1i (eqv SI1)) 88 [some (vR 0), none] [] SZ := by
  have loop0 : ∀ i : Nat, i ≤ 20 → RR (T1i (eqv SI1)) 90 [some (vR 0), some (vI i)] [] (clA SZ 5 i) := by
    refine up ?_ ?_
    · rw [r1i_90]
      simp only [r1i_88, r1i_89, r1i_91, r1i_93, r1i_96, r1i_97, r1i_100, r1i_101, r1i_102, r1i_103, r1i_106, r1i_109, e_const, e_lconst, e_dconst, e_iload, e_kiload, e_aload, e_kaload, e_lload, e_klload, e_iinc, e_kiinc, e_istore, e_astore, e_lstore, e_dupI, e_dupR, e_dup2, e_iadd, e_isub, e_imul, e_idiv, e_irem, e_ladd, e_lmul, e_i2l, e_i2d, e_ddiv, e_icmp, e_if, e_goto, e_switch, e_tsw0, e_tsw1, e_getI, e_getA, e_putI, e_iald, e_iast, e_tnew, e_tald, e_tast, e_iret, e_zret, e_lret, e_dret, e_vret, e_throw, lg0, ls0, lt0, lg1, ls1, lo1, lt1, lg2, ls2, lo2, lt2, lg3, ls3, lo3, lt3, lg4, ls4, lo4, lt4, lg5, ls5, lo5, lt5, lg6, ls6, lo6, lt6, lg7, ls7, lo7, lt7, lg8, ls8, lo8, lo0, okI, okR, okN, e_calli1, e_calll1, e_callv1, e_xcalli1, e_xcallv1, e_acalli1, e_calli2, e_calll2, e_callv2, e_xcalli2, e_xcallv2, e_acalli2, e_calli3, e_calll3, e_callv3, e_xcalli3, e_xcallv3, e_acalli3, e_calli4, e_calll4, e_callv4, e_xcalli4, e_xcallv4, e_acalli4, e_scalli3, sh4_0, sh4_1, sh4_2, sh4_3, sh4_4, eqr, eqv, true_and, and_true, true_or, or_true, ln1_2, ln1_3, ln1_4, ln1_5, ln1_6, ln1_7, ln1_8, ln1_10, ln1_11, ln1_12, Int.toNat_natCast]
      refine ⟨⟨⟨by omega, by omega⟩, by omega, by omega⟩, fun _ => rfl, fun z => absurd (by omega) z⟩
    · intro i hi ih
      rw [r1i_90]
      simp only [r1i_88, r1i_89, r1i_91, r1i_93, r1i_96, r1i_97, r1i_100, r1i_101, r1i_102, r1i_103, r1i_106, r1i_109, e_const, e_lconst, e_dconst, e_iload, e_kiload, e_aload, e_kaload, e_lload, e_klload, e_iinc, e_kiinc, e_istore, e_astore, e_lstore, e_dupI, e_dupR, e_dup2, e_iadd, e_isub, e_imul, e_idiv, e_irem, e_ladd, e_lmul, e_i2l, e_i2d, e_ddiv, e_icmp, e_if, e_goto, e_switch, e_tsw0, e_tsw1, e_getI, e_getA, e_putI, e_iald, e_iast, e_tnew, e_tald, e_tast, e_iret, e_zret, e_lret, e_dret, e_vret, e_throw, lg0, ls0, lt0, lg1, ls1, lo1, lt1, lg2, ls2, lo2, lt2, lg3, ls3, lo3, lt3, lg4, ls4, lo4, lt4, lg5, ls5, lo5, lt5, lg6, ls6, lo6, lt6, lg7, ls7, lo7, lt7, lg8, ls8, lo8, lo0, okI, okR, okN, e_calli1, e_calll1, e_callv1, e_xcalli1, e_xcallv1, e_acalli1, e_calli2, e_calll2, e_callv2, e_xcalli2, e_xcallv2, e_acalli2, e_calli3, e_calll3, e_callv3, e_xcalli3, e_xcallv3, e_acalli3, e_calli4, e_calll4, e_callv4, e_xcalli4, e_xcallv4, e_acalli4, e_scalli3, sh4_0, sh4_1, sh4_2, sh4_3, sh4_4, eqr, eqv, true_and, and_true, true_or, or_true, ln1_2, ln1_3, ln1_4, ln1_5, ln1_6, ln1_7, ln1_8, ln1_10, ln1_11, ln1_12, Int.toNat_natCast]
      exact ⟨⟨⟨by omega, by omega⟩, by omega, by omega⟩, fun z => absurd z (by omega), fun _ => ⟨⟨by omega, by omega⟩, ih⟩⟩
  simp only [r1i_88, r1i_89, r1i_91, r1i_93, r1i_96, r1i_97, r1i_100, r1i_101, r1i_102, r1i_103, r1i_106, r1i_109, e_const, e_lconst, e_dconst, e_iload, e_kiload, e_aload, e_kaload, e_lload, e_klload, e_iinc, e_kiinc, e_istore, e_astore, e_lstore, e_dupI, e_dupR, e_dup2, e_iadd, e_isub, e_imul, e_idiv, e_irem, e_ladd, e_lmul, e_i2l, e_i2d, e_ddiv, e_icmp, e_if, e_goto, e_switch, e_tsw0, e_tsw1, e_getI, e_getA, e_putI, e_iald, e_iast, e_tnew, e_tald, e_tast, e_iret, e_zret, e_lret, e_dret, e_vret, e_throw, lg0, ls0, lt0, lg1, ls1, lo1, lt1, lg2, ls2, lo2, lt2, lg3, ls3, lo3, lt3, lg4, ls4, lo4, lt4, lg5, ls5, lo5, lt5, lg6, ls6, lo6, lt6, lg7, ls7, lo7, lt7, lg8, ls8, lo8, lo0, okI, okR, okN, e_calli1, e_calll1, e_callv1, e_xcalli1, e_xcallv1, e_acalli1, e_calli2, e_calll2, e_callv2, e_xcalli2, e_xcallv2, e_acalli2, e_calli3, e_calll3, e_callv3, e_xcalli3, e_xcallv3, e_acalli3, e_calli4, e_calll4, e_callv4, e_xcalli4, e_xcallv4, e_acalli4, e_scalli3, sh4_0, sh4_1, sh4_2, sh4_3, sh4_4, eqr, eqv, true_and, and_true, true_or, or_true, ln1_2, ln1_3, ln1_4, ln1_5, ln1_6, ln1_7, ln1_8, ln1_10, ln1_11, ln1_12, Int.toNat_natCast]
  exact loop0 0 (by omega)
theorem iniS1 {p : Program} {l : Launch} {e : Env} {R : Room} {s : State} {m : MethodId} {args : Array Value} {below : List Frame} {meth : Method} {c : Code} {Q : State → Prop} {D : va_G} {cA : ClassId} {A : Nat → Prop} {AD : (Nat → Nat) → Prop} {rel : Nat × Nat → Nat → Nat → Prop} {Qi : ST → Prop} (hx : p.tables.exec = Jvm.exec) (hb : c.code = cX1_init) (hml : c.maxLocals = 2) (hown : s.vm.findClass RX1 = some m.cls) (hts : ∀ w ∈ wsX1_init, w.before args s = true) (hA : ∀ q : Nat, s.heap.size ≤ q → A q) (hK : va_K D vwCl [(cA, .int)] s) (hE : ∀ pc, decode cX1_init pc = .ok (.return_, 1) → ∀ lv st S, i_vret Qi lv st S (OK p l e R s m args below meth c Q D cA A 1 ly1 ja1 AD rel 2) → OK p l e R s m args below meth c Q D cA A 1 ly1 ja1 AD rel 2 pc lv st S) : ∀ z ∈ T1i Qi, ∀ lv st S, z.2 lv st S (OK p l e R s m args below meth c Q D cA A 1 ly1 ja1 AD rel 2) → OK p l e R s m args below meth c Q D cA A 1 ly1 ja1 AD rel 2 z.1 lv st S := by
  have hinw : ∀ w ∈ u_ws RX1 TX1 15, w ∈ wsX1_init := fun w h => List.mem_cons_of_mem _ (List.mem_append_right _ h)
  exact al (s_iconst hx hb dX1_init_88 rfl) <| al (s_istore_n hx hb (i := 1) rfl dX1_init_89 rfl (by decide)) <| al (s_iload_n hx hb (i := 1) rfl dX1_init_90 rfl) <| al (s_bipush hx hb dX1_init_91 rfl (by decide)) <| al (s_icmp_ge hx hb (t := 109) rfl dX1_init_93 rfl) <| al (s_aload_n hx hb (i := 0) rfl dX1_init_96 rfl) <| al (s_getA (N := 15) hx hb hts hinw hown hK rfl (k := 5) (by decide) (hts (.fieldLink RX1 19 "CellTraysModel" "of" "[I") (by decide +kernel)) rfl dX1_init_97 rfl rfl (by decide)) <| al (s_iload_n hx hb (i := 1) rfl dX1_init_100 rfl) <| al (s_iconst hx hb dX1_init_101 rfl) <| al (s_iast hx hb hK hln1 hu1 dX1_init_102 rfl) <| al (s_iinc hx hb dX1_init_103 rfl (by decide)) <| al (s_goto hx hb (t := 90) rfl dX1_init_106) <| al (hE _ dX1_init_109) <| an
