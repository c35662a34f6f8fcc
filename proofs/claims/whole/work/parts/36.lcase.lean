/-! THE LAW'S BODY: each block, run -/
abbrev lvL (i : Nat) (y5 y6 y7 y8 : Option AV) : LV := [some (vR 3), some (vR 0), some (vR 1), some (vR 2), some (vI i), y5, y6, y7, y8]
/-- what a block owes: at its end both sides are as they should be, and it made little -/
def jOut (G : LPT) (i cl sl : Nat) : Prop := ∀ (y5 y6 y7 y8 : Option AV) (S R : ST) (o : Nat → Int64) (cl2 sl2 : Nat), Bo S R → cl2 ≤ cl + 60 → sl2 ≤ sl + 500 → G 936 (lvL i y5 y6 y7 y8) [] (S, R, o, cl2, sl2)
theorem i32r (x : Int32) : rng x.toInt := ⟨Int32.le_toInt x, Int32.toInt_lt x⟩
theorem nat_p1 (i : Nat) : ((i : Int) + 1).toNat = i + 1 := by omega
theorem nat_p2 (i : Nat) : ((i : Int) + 2).toNat = i + 2 := by omega
theorem dl5 {P : LPT} {n : Nat} {d : UInt64} {a0 a1 a2 a3 a4 : Option AV} {l : LV} {st : List AV} {S : LST} : ji_dload 5 n (a0 :: a1 :: a2 :: a3 :: a4 :: some (vD d) :: l) st S P = P n (a0 :: a1 :: a2 :: a3 :: a4 :: some (vD d) :: l) (vD d :: st) S := rfl
theorem dl7 {P : LPT} {n : Nat} {d : UInt64} {a0 a1 a2 a3 a4 a5 a6 : Option AV} {l : LV} {st : List AV} {S : LST} : ji_dload 7 n (a0 :: a1 :: a2 :: a3 :: a4 :: a5 :: a6 :: some (vD d) :: l) st S P = P n (a0 :: a1 :: a2 :: a3 :: a4 :: a5 :: a6 :: some (vD d) :: l) (vD d :: st) S := rfl
theorem jc0 {G : LPT} {xs : Nat → Int32} {L i cl sl : Nat} {S R : ST} {o : Nat → Int64} {y5 y6 y7 y8 : Option AV} (hi : i + 3 ≤ L) (hL : L ≤ 1536) (hc : cl + 60 ≤ 601024) (hs : sl + 500 ≤ 7293034) (h : Bo S R) (hG : jOut G i cl sl) : jRR (jT0 G xs L) 116 (lvL i y5 y6 y7 y8) [] (S, R, o, cl, sl) := by
  have hp := pair_kind h (i32r (xs (i + 1))) (i32r (xs (i + 2)))
  simp only [jr0_116, jr0_117, jr0_118, jr0_120, jr0_121, jr0_122, jr0_123, jr0_124, jr0_126, jr0_127, jr0_128, jr0_129, jr0_130, jr0_133, jr0_135, jr0_136, jr0_137, jr0_139, jr0_140, jr0_141, jr0_142, jr0_143, jr0_145, jr0_146, jr0_147, jr0_148, jr0_151, jr0_153, jr0_154, jr0_157, jr0_159, jr0_162, jr0_163, jr0_164, jr0_166, jr0_169, jr0_170, jr0_171, jr0_172, jr0_174, jr0_175, jr0_176, jr0_179, jr0_180, jr0_181, jr0_936, je_const, je_lconst, je_dconst, je_iload, je_kiload, je_aload, je_kaload, je_lload, je_klload, je_iinc, je_kiinc, je_istore, je_astore, je_lstore, je_dupI, je_dupR, je_iadd, je_isub, je_i2l, je_icmp, je_if, je_goto, je_switch, je_tsw0, je_tsw1, je_slen, je_sald, je_and15, je_oald, je_lcmp, je_dcmp, je_dstore, je_tret, je_w1, je_w2, je_c0, je_r0, je_r1, je_r2, je_a1, je_a2, je_cd0, je_cj0, je_ad0, je_aj0, je_ex, lg0, ls0, lt0, lg1, ls1, lo1, lt1, lg2, ls2, lo2, lt2, lg3, ls3, lo3, lt3, lg4, ls4, lo4, lt4, lg5, ls5, lo5, lt5, lg6, ls6, lo6, lt6, lg7, ls7, lo7, lt7, lg8, ls8, lo8, lo0, okI, okR, okN, sh4_0, sh4_1, sh4_2, sh4_3, sh4_4, true_and, and_true, true_or, or_true, Int.toNat_natCast, nat_p1, nat_p2, jwB, jcB, jrB, jaB, jcdB, jcjB, jadB, jajB, List.map]
  rcases hp with ⟨v, S', Q, h0, h1, h2⟩ | ⟨⟨E, q⟩, hq, Q, hk, h0, h1, h2⟩
  · refine ⟨⟨by omega, by omega⟩, ⟨by omega, by omega⟩, ⟨by omega, by omega⟩, Or.inl ⟨_, h0, ?_⟩⟩
    rintro r S1 o1 ⟨rfl, rfl⟩ ho
    refine ⟨⟨by omega, by omega⟩, ⟨by omega, by omega⟩, _, h1, ?_⟩
    rintro r2 R1 hq2
    obtain ⟨rfl, h3, h4⟩ := h2 _ _ hq2
    refine ⟨_, run1_thrown, ?_⟩
    rintro r3 R2 ⟨rfl, rfl⟩
    rw [show fF R2 0 = 0 from h4]
    exact ⟨⟨⟨by omega, by omega⟩, ⟨by omega, by omega⟩⟩, fun _ => ⟨⟨by omega, by omega⟩, fun z => absurd rfl z, fun _ => ⟨ho, ⟨by omega, by omega⟩, fun _ => hG _ _ _ _ _ _ _ _ _ h3 (by omega) (by omega), fun z => absurd trivial z⟩⟩, fun z => absurd rfl z⟩
  · refine ⟨⟨by omega, by omega⟩, ⟨by omega, by omega⟩, ⟨by omega, by omega⟩, Or.inr ⟨(E, q), hq, h0, ⟨by omega, by omega⟩, ⟨by omega, by omega⟩, _, h1, ?_⟩⟩
    rintro r2 R1 hq2
    obtain ⟨h3, h4⟩ := h2 _ _ hq2
    refine ⟨_, run1_thrown, ?_⟩
    rintro r3 R2 ⟨rfl, rfl⟩
    dsimp only at h4 hk ⊢
    rw [show fF R2 0 = q from h4]
    exact ⟨⟨⟨by omega, by omega⟩, ⟨by omega, by omega⟩⟩, fun _ => ⟨⟨by omega, by omega⟩, fun _ => hG _ _ _ _ _ _ _ _ _ h3 (by omega) (by omega), fun z => absurd (show q ≠ 0 by omega) z⟩, fun z => absurd rfl z⟩
theorem jc1 {G : LPT} {xs : Nat → Int32} {L i cl sl : Nat} {S R : ST} {o : Nat → Int64} {y5 y6 y7 y8 : Option AV} (hi : i + 3 ≤ L) (hL : L ≤ 1536) (hc : cl + 60 ≤ 601024) (hs : sl + 500 ≤ 7293034) (h : Bo S R) (hG : jOut G i cl sl) : jRR (jT1 G xs L) 184 (lvL i y5 y6 y7 y8) [] (S, R, o, cl, sl) := by
  have hp := pair_put h (i32r (xs (i + 1)))
  simp only [jr1_184, jr1_185, jr1_186, jr1_188, jr1_189, jr1_190, jr1_191, jr1_192, jr1_195, jr1_197, jr1_198, jr1_199, jr1_201, jr1_202, jr1_203, jr1_204, jr1_207, jr1_209, jr1_210, jr1_213, jr1_215, jr1_218, jr1_219, jr1_220, jr1_222, jr1_225, jr1_226, jr1_227, jr1_228, jr1_230, jr1_231, jr1_232, jr1_235, jr1_236, jr1_237, jr1_936, je_const, je_lconst, je_dconst, je_iload, je_kiload, je_aload, je_kaload, je_lload, je_klload, je_iinc, je_kiinc, je_istore, je_astore, je_lstore, je_dupI, je_dupR, je_iadd, je_isub, je_i2l, je_icmp, je_if, je_goto, je_switch, je_tsw0, je_tsw1, je_slen, je_sald, je_and15, je_oald, je_lcmp, je_dcmp, je_dstore, je_tret, je_w1, je_w2, je_c0, je_r0, je_r1, je_r2, je_a1, je_a2, je_cd0, je_cj0, je_ad0, je_aj0, je_ex, lg0, ls0, lt0, lg1, ls1, lo1, lt1, lg2, ls2, lo2, lt2, lg3, ls3, lo3, lt3, lg4, ls4, lo4, lt4, lg5, ls5, lo5, lt5, lg6, ls6, lo6, lt6, lg7, ls7, lo7, lt7, lg8, ls8, lo8, lo0, okI, okR, okN, sh4_0, sh4_1, sh4_2, sh4_3, sh4_4, true_and, and_true, true_or, or_true, Int.toNat_natCast, nat_p1, nat_p2, jwB, jcB, jrB, jaB, jcdB, jcjB, jadB, jajB, List.map]
  rcases hp with ⟨v, S', Q, h0, h1, h2⟩ | ⟨⟨E, q⟩, hq, Q, hk, h0, h1, h2⟩
  · refine ⟨⟨by omega, by omega⟩, ⟨by omega, by omega⟩, Or.inl ⟨_, h0, ?_⟩⟩
    rintro r S1 o1 ⟨rfl, rfl⟩ ho
    refine ⟨⟨by omega, by omega⟩, _, h1, ?_⟩
    rintro r2 R1 hq2
    obtain ⟨rfl, h3, h4⟩ := h2 _ _ hq2
    refine ⟨_, run1_thrown, ?_⟩
    rintro r3 R2 ⟨rfl, rfl⟩
    rw [show fF R2 0 = 0 from h4]
    exact ⟨⟨⟨by omega, by omega⟩, ⟨by omega, by omega⟩⟩, fun _ => ⟨⟨by omega, by omega⟩, fun z => absurd rfl z, fun _ => ⟨ho, ⟨by omega, by omega⟩, fun _ => hG _ _ _ _ _ _ _ _ _ h3 (by omega) (by omega), fun z => absurd trivial z⟩⟩, fun z => absurd rfl z⟩
  · refine ⟨⟨by omega, by omega⟩, ⟨by omega, by omega⟩, Or.inr ⟨(E, q), hq, h0, ⟨by omega, by omega⟩, _, h1, ?_⟩⟩
    rintro r2 R1 hq2
    obtain ⟨h3, h4⟩ := h2 _ _ hq2
    refine ⟨_, run1_thrown, ?_⟩
    rintro r3 R2 ⟨rfl, rfl⟩
    dsimp only at h4 hk ⊢
    rw [show fF R2 0 = q from h4]
    exact ⟨⟨⟨by omega, by omega⟩, ⟨by omega, by omega⟩⟩, fun _ => ⟨⟨by omega, by omega⟩, fun _ => hG _ _ _ _ _ _ _ _ _ h3 (by omega) (by omega), fun z => absurd (show q ≠ 0 by omega) z⟩, fun z => absurd rfl z⟩
theorem jc2 {G : LPT} {xs : Nat → Int32} {L i cl sl : Nat} {S R : ST} {o : Nat → Int64} {y5 y6 y7 y8 : Option AV} (hi : i + 3 ≤ L) (hL : L ≤ 1536) (hc : cl + 60 ≤ 601024) (hs : sl + 500 ≤ 7293034) (h : Bo S R) (hG : jOut G i cl sl) : jRR (jT2 G xs L) 240 (lvL i y5 y6 y7 y8) [] (S, R, o, cl, sl) := by
  have hp := pair_take h (i32r (xs (i + 1)))
  simp only [jr2_240, jr2_241, jr2_242, jr2_244, jr2_245, jr2_246, jr2_247, jr2_248, jr2_251, jr2_253, jr2_254, jr2_255, jr2_257, jr2_258, jr2_259, jr2_260, jr2_263, jr2_265, jr2_266, jr2_269, jr2_271, jr2_274, jr2_275, jr2_276, jr2_278, jr2_281, jr2_282, jr2_283, jr2_284, jr2_286, jr2_289, jr2_290, jr2_293, jr2_294, jr2_295, jr2_298, jr2_299, jr2_300, jr2_936, je_const, je_lconst, je_dconst, je_iload, je_kiload, je_aload, je_kaload, je_lload, je_klload, je_iinc, je_kiinc, je_istore, je_astore, je_lstore, je_dupI, je_dupR, je_iadd, je_isub, je_i2l, je_icmp, je_if, je_goto, je_switch, je_tsw0, je_tsw1, je_slen, je_sald, je_and15, je_oald, je_lcmp, je_dcmp, je_dstore, je_tret, je_w1, je_w2, je_c0, je_r0, je_r1, je_r2, je_a1, je_a2, je_cd0, je_cj0, je_ad0, je_aj0, je_ex, lg0, ls0, lt0, lg1, ls1, lo1, lt1, lg2, ls2, lo2, lt2, lg3, ls3, lo3, lt3, lg4, ls4, lo4, lt4, lg5, ls5, lo5, lt5, lg6, ls6, lo6, lt6, lg7, ls7, lo7, lt7, lg8, ls8, lo8, lo0, okI, okR, okN, sh4_0, sh4_1, sh4_2, sh4_3, sh4_4, true_and, and_true, true_or, or_true, Int.toNat_natCast, nat_p1, nat_p2, jwB, jcB, jrB, jaB, jcdB, jcjB, jadB, jajB, List.map]
  rcases hp with ⟨v, S', Q, hv, h0, h1, h2⟩ | ⟨⟨E, q⟩, hq, Q, hk, h0, h1, h2⟩
  · refine ⟨⟨by omega, by omega⟩, ⟨by omega, by omega⟩, Or.inl ⟨_, h0, ?_⟩⟩
    rintro r S1 o1 ⟨rfl, rfl⟩ ho
    refine ⟨⟨by omega, by omega⟩, _, h1, ?_⟩
    rintro r2 R1 hq2
    obtain ⟨rfl, h3, h4⟩ := h2 _ _ hq2
    refine ⟨_, run1_thrown, ?_⟩
    rintro r3 R2 ⟨rfl, rfl⟩
    rw [show fF R2 0 = 0 from h4]
    have z0 : iI 0 = 0 := iI_0
    have z1 : ¬ iI 1 = 0 := by decide
    refine ⟨⟨⟨by omega, by omega⟩, ⟨by omega, by omega⟩⟩, fun _ => ⟨⟨by omega, by omega⟩, fun z => absurd rfl z, fun _ => ⟨⟨by omega, by omega⟩, fun z => ⟨?_, ⟨by omega, by omega⟩, fun _ => hG _ _ _ _ _ _ _ _ _ h3 (by omega) (by omega), fun z => absurd trivial z⟩, fun z => ⟨?_, ⟨by omega, by omega⟩, fun _ => hG _ _ _ _ _ _ _ _ _ h3 (by omega) (by omega), fun z => absurd trivial z⟩⟩⟩, fun z => absurd rfl z⟩
    · rw [ho, z]; unfold zL; rw [if_pos z0]
    · rw [ho, hv.resolve_left z]; unfold zL; rw [if_neg z1]
  · refine ⟨⟨by omega, by omega⟩, ⟨by omega, by omega⟩, Or.inr ⟨(E, q), hq, h0, ⟨by omega, by omega⟩, _, h1, ?_⟩⟩
    rintro r2 R1 hq2
    obtain ⟨h3, h4⟩ := h2 _ _ hq2
    refine ⟨_, run1_thrown, ?_⟩
    rintro r3 R2 ⟨rfl, rfl⟩
    dsimp only at h4 hk ⊢
    rw [show fF R2 0 = q from h4]
    exact ⟨⟨⟨by omega, by omega⟩, ⟨by omega, by omega⟩⟩, fun _ => ⟨⟨by omega, by omega⟩, fun _ => hG _ _ _ _ _ _ _ _ _ h3 (by omega) (by omega), fun z => absurd (show q ≠ 0 by omega) z⟩, fun z => absurd rfl z⟩
theorem jc3 {G : LPT} {xs : Nat → Int32} {L i cl sl : Nat} {S R : ST} {o : Nat → Int64} {y5 y6 y7 y8 : Option AV} (hi : i + 3 ≤ L) (hL : L ≤ 1536) (hc : cl + 60 ≤ 601024) (hs : sl + 500 ≤ 7293034) (h : Bo S R) (hG : jOut G i cl sl) : jRR (jT3 G xs L) 303 (lvL i y5 y6 y7 y8) [] (S, R, o, cl, sl) := by
  obtain ⟨v, S', Q, hv, h0, h1, h2⟩ := two_sweep h
  simp only [jr3_303, jr3_304, jr3_307, jr3_308, jr3_311, jr3_314, jr3_315, jr3_936, je_const, je_lconst, je_dconst, je_iload, je_kiload, je_aload, je_kaload, je_lload, je_klload, je_iinc, je_kiinc, je_istore, je_astore, je_lstore, je_dupI, je_dupR, je_iadd, je_isub, je_i2l, je_icmp, je_if, je_goto, je_switch, je_tsw0, je_tsw1, je_slen, je_sald, je_and15, je_oald, je_lcmp, je_dcmp, je_dstore, je_tret, je_w1, je_w2, je_c0, je_r0, je_r1, je_r2, je_a1, je_a2, je_cd0, je_cj0, je_ad0, je_aj0, je_ex, lg0, ls0, lt0, lg1, ls1, lo1, lt1, lg2, ls2, lo2, lt2, lg3, ls3, lo3, lt3, lg4, ls4, lo4, lt4, lg5, ls5, lo5, lt5, lg6, ls6, lo6, lt6, lg7, ls7, lo7, lt7, lg8, ls8, lo8, lo0, okI, okR, okN, sh4_0, sh4_1, sh4_2, sh4_3, sh4_4, true_and, and_true, true_or, or_true, Int.toNat_natCast, nat_p1, nat_p2, jwB, jcB, jrB, jaB, jcdB, jcjB, jadB, jajB, List.map]
  refine ⟨_, h0, ?_⟩
  rintro r S1 ⟨rfl, rfl⟩
  refine ⟨_, h1, ?_⟩
  rintro r2 R1 hq
  obtain ⟨rfl, h3⟩ := h2 _ _ hq
  exact ⟨⟨hv, hv⟩, fun _ => hG _ _ _ _ _ _ _ _ _ h3 (by omega) (by omega), fun z => absurd rfl z⟩
theorem jc4 {G : LPT} {xs : Nat → Int32} {L i cl sl : Nat} {S R : ST} {o : Nat → Int64} {y5 y6 y7 y8 : Option AV} (hi : i + 3 ≤ L) (hL : L ≤ 1536) (hc : cl + 60 ≤ 601024) (hs : sl + 500 ≤ 7293034) (h : Bo S R) (hG : jOut G i cl sl) : jRR (jT4 G xs L) 316 (lvL i y5 y6 y7 y8) [] (S, R, o, cl, sl) := by
  have hp := pair_pack h (i32r (xs (i + 1)))
  simp only [jr4_316, jr4_317, jr4_318, jr4_320, jr4_321, jr4_322, jr4_323, jr4_324, jr4_327, jr4_329, jr4_330, jr4_331, jr4_333, jr4_334, jr4_335, jr4_336, jr4_339, jr4_341, jr4_342, jr4_345, jr4_347, jr4_350, jr4_351, jr4_352, jr4_354, jr4_357, jr4_358, jr4_359, jr4_360, jr4_362, jr4_363, jr4_364, jr4_367, jr4_368, jr4_369, jr4_936, je_const, je_lconst, je_dconst, je_iload, je_kiload, je_aload, je_kaload, je_lload, je_klload, je_iinc, je_kiinc, je_istore, je_astore, je_lstore, je_dupI, je_dupR, je_iadd, je_isub, je_i2l, je_icmp, je_if, je_goto, je_switch, je_tsw0, je_tsw1, je_slen, je_sald, je_and15, je_oald, je_lcmp, je_dcmp, je_dstore, je_tret, je_w1, je_w2, je_c0, je_r0, je_r1, je_r2, je_a1, je_a2, je_cd0, je_cj0, je_ad0, je_aj0, je_ex, lg0, ls0, lt0, lg1, ls1, lo1, lt1, lg2, ls2, lo2, lt2, lg3, ls3, lo3, lt3, lg4, ls4, lo4, lt4, lg5, ls5, lo5, lt5, lg6, ls6, lo6, lt6, lg7, ls7, lo7, lt7, lg8, ls8, lo8, lo0, okI, okR, okN, sh4_0, sh4_1, sh4_2, sh4_3, sh4_4, true_and, and_true, true_or, or_true, Int.toNat_natCast, nat_p1, nat_p2, jwB, jcB, jrB, jaB, jcdB, jcjB, jadB, jajB, List.map]
  rcases hp with ⟨v, S', Q, h0, h1, h2⟩ | ⟨⟨E, q⟩, hq, Q, hk, h0, h1, h2⟩
  · refine ⟨⟨by omega, by omega⟩, ⟨by omega, by omega⟩, Or.inl ⟨_, h0, ?_⟩⟩
    rintro r S1 o1 ⟨rfl, rfl⟩ ho
    refine ⟨⟨by omega, by omega⟩, _, h1, ?_⟩
    rintro r2 R1 hq2
    obtain ⟨rfl, h3, h4⟩ := h2 _ _ hq2
    refine ⟨_, run1_thrown, ?_⟩
    rintro r3 R2 ⟨rfl, rfl⟩
    rw [show fF R2 0 = 0 from h4]
    exact ⟨⟨⟨by omega, by omega⟩, ⟨by omega, by omega⟩⟩, fun _ => ⟨⟨by omega, by omega⟩, fun z => absurd rfl z, fun _ => ⟨ho, ⟨by omega, by omega⟩, fun _ => hG _ _ _ _ _ _ _ _ _ h3 (by omega) (by omega), fun z => absurd trivial z⟩⟩, fun z => absurd rfl z⟩
  · refine ⟨⟨by omega, by omega⟩, ⟨by omega, by omega⟩, Or.inr ⟨(E, q), hq, h0, ⟨by omega, by omega⟩, _, h1, ?_⟩⟩
    rintro r2 R1 hq2
    obtain ⟨h3, h4⟩ := h2 _ _ hq2
    refine ⟨_, run1_thrown, ?_⟩
    rintro r3 R2 ⟨rfl, rfl⟩
    dsimp only at h4 hk ⊢
    rw [show fF R2 0 = q from h4]
    exact ⟨⟨⟨by omega, by omega⟩, ⟨by omega, by omega⟩⟩, fun _ => ⟨⟨by omega, by omega⟩, fun _ => hG _ _ _ _ _ _ _ _ _ h3 (by omega) (by omega), fun z => absurd (show q ≠ 0 by omega) z⟩, fun z => absurd rfl z⟩
theorem jc5 {G : LPT} {xs : Nat → Int32} {L i cl sl : Nat} {S R : ST} {o : Nat → Int64} {y5 y6 y7 y8 : Option AV} (hi : i + 3 ≤ L) (hL : L ≤ 1536) (hc : cl + 60 ≤ 601024) (hs : sl + 500 ≤ 7293034) (h : Bo S R) (hG : jOut G i cl sl) : jRR (jT5 G xs L) 372 (lvL i y5 y6 y7 y8) [] (S, R, o, cl, sl) := by
  have hp := pair_told h (i32r (xs (i + 1))) (i32r (xs (i + 2)))
  simp only [jr5_372, jr5_373, jr5_374, jr5_376, jr5_377, jr5_378, jr5_379, jr5_380, jr5_382, jr5_383, jr5_384, jr5_385, jr5_386, jr5_389, jr5_391, jr5_392, jr5_393, jr5_395, jr5_396, jr5_397, jr5_398, jr5_399, jr5_401, jr5_402, jr5_403, jr5_404, jr5_407, jr5_409, jr5_410, jr5_413, jr5_415, jr5_418, jr5_419, jr5_420, jr5_422, jr5_425, jr5_426, jr5_427, jr5_428, jr5_430, jr5_431, jr5_432, jr5_435, jr5_436, jr5_437, jr5_936, je_const, je_lconst, je_dconst, je_iload, je_kiload, je_aload, je_kaload, je_lload, je_klload, je_iinc, je_kiinc, je_istore, je_astore, je_lstore, je_dupI, je_dupR, je_iadd, je_isub, je_i2l, je_icmp, je_if, je_goto, je_switch, je_tsw0, je_tsw1, je_slen, je_sald, je_and15, je_oald, je_lcmp, je_dcmp, je_dstore, je_tret, je_w1, je_w2, je_c0, je_r0, je_r1, je_r2, je_a1, je_a2, je_cd0, je_cj0, je_ad0, je_aj0, je_ex, lg0, ls0, lt0, lg1, ls1, lo1, lt1, lg2, ls2, lo2, lt2, lg3, ls3, lo3, lt3, lg4, ls4, lo4, lt4, lg5, ls5, lo5, lt5, lg6, ls6, lo6, lt6, lg7, ls7, lo7, lt7, lg8, ls8, lo8, lo0, okI, okR, okN, sh4_0, sh4_1, sh4_2, sh4_3, sh4_4, true_and, and_true, true_or, or_true, Int.toNat_natCast, nat_p1, nat_p2, jwB, jcB, jrB, jaB, jcdB, jcjB, jadB, jajB, List.map]
  rcases hp with ⟨v, S', Q, h0, h1, h2⟩ | ⟨⟨E, q⟩, hq, Q, hk, h0, h1, h2⟩
  · refine ⟨⟨by omega, by omega⟩, ⟨by omega, by omega⟩, ⟨by omega, by omega⟩, Or.inl ⟨_, h0, ?_⟩⟩
    rintro r S1 o1 ⟨rfl, rfl⟩ ho
    refine ⟨⟨by omega, by omega⟩, ⟨by omega, by omega⟩, _, h1, ?_⟩
    rintro r2 R1 hq2
    obtain ⟨rfl, h3, h4⟩ := h2 _ _ hq2
    refine ⟨_, run1_thrown, ?_⟩
    rintro r3 R2 ⟨rfl, rfl⟩
    rw [show fF R2 0 = 0 from h4]
    exact ⟨⟨⟨by omega, by omega⟩, ⟨by omega, by omega⟩⟩, fun _ => ⟨⟨by omega, by omega⟩, fun z => absurd rfl z, fun _ => ⟨ho, ⟨by omega, by omega⟩, fun _ => hG _ _ _ _ _ _ _ _ _ h3 (by omega) (by omega), fun z => absurd trivial z⟩⟩, fun z => absurd rfl z⟩
  · refine ⟨⟨by omega, by omega⟩, ⟨by omega, by omega⟩, ⟨by omega, by omega⟩, Or.inr ⟨(E, q), hq, h0, ⟨by omega, by omega⟩, ⟨by omega, by omega⟩, _, h1, ?_⟩⟩
    rintro r2 R1 hq2
    obtain ⟨h3, h4⟩ := h2 _ _ hq2
    refine ⟨_, run1_thrown, ?_⟩
    rintro r3 R2 ⟨rfl, rfl⟩
    dsimp only at h4 hk ⊢
    rw [show fF R2 0 = q from h4]
    exact ⟨⟨⟨by omega, by omega⟩, ⟨by omega, by omega⟩⟩, fun _ => ⟨⟨by omega, by omega⟩, fun _ => hG _ _ _ _ _ _ _ _ _ h3 (by omega) (by omega), fun z => absurd (show q ≠ 0 by omega) z⟩, fun z => absurd rfl z⟩
theorem jc6 {G : LPT} {xs : Nat → Int32} {L i cl sl : Nat} {S R : ST} {o : Nat → Int64} {y5 y6 y7 y8 : Option AV} (hi : i + 3 ≤ L) (hL : L ≤ 1536) (hc : cl + 60 ≤ 601024) (hs : sl + 500 ≤ 7293034) (h : Bo S R) (hG : jOut G i cl sl) : jRR (jT6 G xs L) 440 (lvL i y5 y6 y7 y8) [] (S, R, o, cl, sl) := by
  have hp := pair_tray h (i32r (xs (i + 1))) (i32r (xs (i + 2)))
  simp only [jr6_440, jr6_441, jr6_442, jr6_444, jr6_445, jr6_446, jr6_447, jr6_448, jr6_450, jr6_451, jr6_452, jr6_453, jr6_454, jr6_457, jr6_459, jr6_460, jr6_461, jr6_463, jr6_464, jr6_465, jr6_466, jr6_467, jr6_469, jr6_470, jr6_471, jr6_472, jr6_475, jr6_477, jr6_478, jr6_481, jr6_483, jr6_486, jr6_487, jr6_488, jr6_490, jr6_493, jr6_494, jr6_495, jr6_496, jr6_498, jr6_499, jr6_500, jr6_503, jr6_504, jr6_505, jr6_936, je_const, je_lconst, je_dconst, je_iload, je_kiload, je_aload, je_kaload, je_lload, je_klload, je_iinc, je_kiinc, je_istore, je_astore, je_lstore, je_dupI, je_dupR, je_iadd, je_isub, je_i2l, je_icmp, je_if, je_goto, je_switch, je_tsw0, je_tsw1, je_slen, je_sald, je_and15, je_oald, je_lcmp, je_dcmp, je_dstore, je_tret, je_w1, je_w2, je_c0, je_r0, je_r1, je_r2, je_a1, je_a2, je_cd0, je_cj0, je_ad0, je_aj0, je_ex, lg0, ls0, lt0, lg1, ls1, lo1, lt1, lg2, ls2, lo2, lt2, lg3, ls3, lo3, lt3, lg4, ls4, lo4, lt4, lg5, ls5, lo5, lt5, lg6, ls6, lo6, lt6, lg7, ls7, lo7, lt7, lg8, ls8, lo8, lo0, okI, okR, okN, sh4_0, sh4_1, sh4_2, sh4_3, sh4_4, true_and, and_true, true_or, or_true, Int.toNat_natCast, nat_p1, nat_p2, jwB, jcB, jrB, jaB, jcdB, jcjB, jadB, jajB, List.map]
  rcases hp with ⟨v, S', Q, h0, h1, h2⟩ | ⟨⟨E, q⟩, hq, Q, hk, h0, h1, h2⟩
  · refine ⟨⟨by omega, by omega⟩, ⟨by omega, by omega⟩, ⟨by omega, by omega⟩, Or.inl ⟨_, h0, ?_⟩⟩
    rintro r S1 o1 ⟨rfl, rfl⟩ ho
    refine ⟨⟨by omega, by omega⟩, ⟨by omega, by omega⟩, _, h1, ?_⟩
    rintro r2 R1 hq2
    obtain ⟨rfl, h3, h4⟩ := h2 _ _ hq2
    refine ⟨_, run1_thrown, ?_⟩
    rintro r3 R2 ⟨rfl, rfl⟩
    rw [show fF R2 0 = 0 from h4]
    exact ⟨⟨⟨by omega, by omega⟩, ⟨by omega, by omega⟩⟩, fun _ => ⟨⟨by omega, by omega⟩, fun z => absurd rfl z, fun _ => ⟨ho, ⟨by omega, by omega⟩, fun _ => hG _ _ _ _ _ _ _ _ _ h3 (by omega) (by omega), fun z => absurd trivial z⟩⟩, fun z => absurd rfl z⟩
  · refine ⟨⟨by omega, by omega⟩, ⟨by omega, by omega⟩, ⟨by omega, by omega⟩, Or.inr ⟨(E, q), hq, h0, ⟨by omega, by omega⟩, ⟨by omega, by omega⟩, _, h1, ?_⟩⟩
    rintro r2 R1 hq2
    obtain ⟨h3, h4⟩ := h2 _ _ hq2
    refine ⟨_, run1_thrown, ?_⟩
    rintro r3 R2 ⟨rfl, rfl⟩
    dsimp only at h4 hk ⊢
    rw [show fF R2 0 = q from h4]
    exact ⟨⟨⟨by omega, by omega⟩, ⟨by omega, by omega⟩⟩, fun _ => ⟨⟨by omega, by omega⟩, fun _ => hG _ _ _ _ _ _ _ _ _ h3 (by omega) (by omega), fun z => absurd (show q ≠ 0 by omega) z⟩, fun z => absurd rfl z⟩
theorem jc7 {G : LPT} {xs : Nat → Int32} {L i cl sl : Nat} {S R : ST} {o : Nat → Int64} {y5 y6 y7 y8 : Option AV} (hi : i + 3 ≤ L) (hL : L ≤ 1536) (hc : cl + 60 ≤ 601024) (hs : sl + 500 ≤ 7293034) (h : Bo S R) (hG : jOut G i cl sl) : jRR (jT7 G xs L) 508 (lvL i y5 y6 y7 y8) [] (S, R, o, cl, sl) := by
  have hp := pair_cell h (i32r (xs (i + 1))) (i32r (xs (i + 2)))
  simp only [jr7_508, jr7_509, jr7_510, jr7_512, jr7_513, jr7_514, jr7_515, jr7_516, jr7_518, jr7_519, jr7_520, jr7_521, jr7_522, jr7_525, jr7_527, jr7_528, jr7_529, jr7_531, jr7_532, jr7_533, jr7_534, jr7_535, jr7_537, jr7_538, jr7_539, jr7_540, jr7_543, jr7_545, jr7_546, jr7_549, jr7_551, jr7_554, jr7_555, jr7_556, jr7_558, jr7_561, jr7_562, jr7_563, jr7_564, jr7_566, jr7_567, jr7_568, jr7_571, jr7_572, jr7_573, jr7_936, je_const, je_lconst, je_dconst, je_iload, je_kiload, je_aload, je_kaload, je_lload, je_klload, je_iinc, je_kiinc, je_istore, je_astore, je_lstore, je_dupI, je_dupR, je_iadd, je_isub, je_i2l, je_icmp, je_if, je_goto, je_switch, je_tsw0, je_tsw1, je_slen, je_sald, je_and15, je_oald, je_lcmp, je_dcmp, je_dstore, je_tret, je_w1, je_w2, je_c0, je_r0, je_r1, je_r2, je_a1, je_a2, je_cd0, je_cj0, je_ad0, je_aj0, je_ex, lg0, ls0, lt0, lg1, ls1, lo1, lt1, lg2, ls2, lo2, lt2, lg3, ls3, lo3, lt3, lg4, ls4, lo4, lt4, lg5, ls5, lo5, lt5, lg6, ls6, lo6, lt6, lg7, ls7, lo7, lt7, lg8, ls8, lo8, lo0, okI, okR, okN, sh4_0, sh4_1, sh4_2, sh4_3, sh4_4, true_and, and_true, true_or, or_true, Int.toNat_natCast, nat_p1, nat_p2, jwB, jcB, jrB, jaB, jcdB, jcjB, jadB, jajB, List.map]
  rcases hp with ⟨v, S', Q, h0, h1, h2⟩ | ⟨⟨E, q⟩, hq, Q, hk, h0, h1, h2⟩
  · refine ⟨⟨by omega, by omega⟩, ⟨by omega, by omega⟩, ⟨by omega, by omega⟩, Or.inl ⟨_, h0, ?_⟩⟩
    rintro r S1 o1 ⟨rfl, rfl⟩ ho
    refine ⟨⟨by omega, by omega⟩, ⟨by omega, by omega⟩, _, h1, ?_⟩
    rintro r2 R1 hq2
    obtain ⟨rfl, h3, h4⟩ := h2 _ _ hq2
    refine ⟨_, run1_thrown, ?_⟩
    rintro r3 R2 ⟨rfl, rfl⟩
    rw [show fF R2 0 = 0 from h4]
    exact ⟨⟨⟨by omega, by omega⟩, ⟨by omega, by omega⟩⟩, fun _ => ⟨⟨by omega, by omega⟩, fun z => absurd rfl z, fun _ => ⟨ho, ⟨by omega, by omega⟩, fun _ => hG _ _ _ _ _ _ _ _ _ h3 (by omega) (by omega), fun z => absurd trivial z⟩⟩, fun z => absurd rfl z⟩
  · refine ⟨⟨by omega, by omega⟩, ⟨by omega, by omega⟩, ⟨by omega, by omega⟩, Or.inr ⟨(E, q), hq, h0, ⟨by omega, by omega⟩, ⟨by omega, by omega⟩, _, h1, ?_⟩⟩
    rintro r2 R1 hq2
    obtain ⟨h3, h4⟩ := h2 _ _ hq2
    refine ⟨_, run1_thrown, ?_⟩
    rintro r3 R2 ⟨rfl, rfl⟩
    dsimp only at h4 hk ⊢
    rw [show fF R2 0 = q from h4]
    exact ⟨⟨⟨by omega, by omega⟩, ⟨by omega, by omega⟩⟩, fun _ => ⟨⟨by omega, by omega⟩, fun _ => hG _ _ _ _ _ _ _ _ _ h3 (by omega) (by omega), fun z => absurd (show q ≠ 0 by omega) z⟩, fun z => absurd rfl z⟩
theorem jc8 {G : LPT} {xs : Nat → Int32} {L i cl sl : Nat} {S R : ST} {o : Nat → Int64} {y5 y6 y7 y8 : Option AV} (hi : i + 3 ≤ L) (hL : L ≤ 1536) (hc : cl + 60 ≤ 601024) (hs : sl + 500 ≤ 7293034) (h : Bo S R) (hG : jOut G i cl sl) : jRR (jT8 G xs L) 576 (lvL i y5 y6 y7 y8) [] (S, R, o, cl, sl) := by
  have hp := pair_about h (i32r (xs (i + 1))) (i32r (xs (i + 2)))
  simp only [jr8_576, jr8_577, jr8_578, jr8_580, jr8_581, jr8_582, jr8_583, jr8_584, jr8_586, jr8_587, jr8_588, jr8_589, jr8_590, jr8_593, jr8_595, jr8_596, jr8_597, jr8_599, jr8_600, jr8_601, jr8_602, jr8_603, jr8_605, jr8_606, jr8_607, jr8_608, jr8_611, jr8_613, jr8_614, jr8_617, jr8_619, jr8_622, jr8_623, jr8_624, jr8_626, jr8_629, jr8_630, jr8_631, jr8_632, jr8_634, jr8_635, jr8_636, jr8_639, jr8_640, jr8_641, jr8_936, je_const, je_lconst, je_dconst, je_iload, je_kiload, je_aload, je_kaload, je_lload, je_klload, je_iinc, je_kiinc, je_istore, je_astore, je_lstore, je_dupI, je_dupR, je_iadd, je_isub, je_i2l, je_icmp, je_if, je_goto, je_switch, je_tsw0, je_tsw1, je_slen, je_sald, je_and15, je_oald, je_lcmp, je_dcmp, je_dstore, je_tret, je_w1, je_w2, je_c0, je_r0, je_r1, je_r2, je_a1, je_a2, je_cd0, je_cj0, je_ad0, je_aj0, je_ex, lg0, ls0, lt0, lg1, ls1, lo1, lt1, lg2, ls2, lo2, lt2, lg3, ls3, lo3, lt3, lg4, ls4, lo4, lt4, lg5, ls5, lo5, lt5, lg6, ls6, lo6, lt6, lg7, ls7, lo7, lt7, lg8, ls8, lo8, lo0, okI, okR, okN, sh4_0, sh4_1, sh4_2, sh4_3, sh4_4, true_and, and_true, true_or, or_true, Int.toNat_natCast, nat_p1, nat_p2, jwB, jcB, jrB, jaB, jcdB, jcjB, jadB, jajB, List.map]
  rcases hp with ⟨v, S', Q, h0, h1, h2⟩ | ⟨⟨E, q⟩, hq, Q, hk, h0, h1, h2⟩
  · refine ⟨⟨by omega, by omega⟩, ⟨by omega, by omega⟩, ⟨by omega, by omega⟩, Or.inl ⟨_, h0, ?_⟩⟩
    rintro r S1 o1 ⟨rfl, rfl⟩ ho
    refine ⟨⟨by omega, by omega⟩, ⟨by omega, by omega⟩, ⟨h.2.2, by omega, by omega⟩, _, h1, ?_⟩
    rintro r2 R1 hq2
    obtain ⟨rfl, h3, h4⟩ := h2 _ _ hq2
    refine ⟨_, run1_thrown, ?_⟩
    rintro r3 R2 ⟨rfl, rfl⟩
    rw [show fF (dropT R1) 0 = 0 from h4]
    exact ⟨⟨⟨by omega, by omega⟩, ⟨by omega, by omega⟩⟩, fun _ => ⟨⟨by omega, by omega⟩, fun z => absurd rfl z, fun _ => ⟨ho, ⟨by omega, by omega⟩, fun _ => hG _ _ _ _ _ _ _ _ _ h3 (by omega) (by omega), fun z => absurd trivial z⟩⟩, fun z => absurd rfl z⟩
  · refine ⟨⟨by omega, by omega⟩, ⟨by omega, by omega⟩, ⟨by omega, by omega⟩, Or.inr ⟨(E, q), hq, h0, ⟨by omega, by omega⟩, ⟨by omega, by omega⟩, ⟨h.2.2, by omega, by omega⟩, _, h1, ?_⟩⟩
    rintro r2 R1 hq2
    obtain ⟨h3, h4⟩ := h2 _ _ hq2
    refine ⟨_, run1_thrown, ?_⟩
    rintro r3 R2 ⟨rfl, rfl⟩
    dsimp only at h4 hk ⊢
    rw [show fF (dropT R1) 0 = q from h4]
    exact ⟨⟨⟨by omega, by omega⟩, ⟨by omega, by omega⟩⟩, fun _ => ⟨⟨by omega, by omega⟩, fun _ => hG _ _ _ _ _ _ _ _ _ h3 (by omega) (by omega), fun z => absurd (show q ≠ 0 by omega) z⟩, fun z => absurd rfl z⟩
theorem jc9 {G : LPT} {xs : Nat → Int32} {L i cl sl : Nat} {S R : ST} {o : Nat → Int64} {y5 y6 y7 y8 : Option AV} (hi : i + 3 ≤ L) (hL : L ≤ 1536) (hc : cl + 60 ≤ 601024) (hs : sl + 500 ≤ 7293034) (h : Bo S R) (hG : jOut G i cl sl) : jRR (jT9 G xs L) 644 (lvL i y5 y6 y7 y8) [] (S, R, o, cl, sl) := by
  have hp := pair_count h (i32r (xs (i + 1)))
  simp only [jr9_644, jr9_645, jr9_646, jr9_648, jr9_649, jr9_650, jr9_651, jr9_652, jr9_655, jr9_657, jr9_658, jr9_659, jr9_661, jr9_662, jr9_663, jr9_664, jr9_667, jr9_669, jr9_670, jr9_673, jr9_675, jr9_678, jr9_679, jr9_680, jr9_682, jr9_685, jr9_686, jr9_687, jr9_688, jr9_690, jr9_691, jr9_692, jr9_695, jr9_696, jr9_697, jr9_936, je_const, je_lconst, je_dconst, je_iload, je_kiload, je_aload, je_kaload, je_lload, je_klload, je_iinc, je_kiinc, je_istore, je_astore, je_lstore, je_dupI, je_dupR, je_iadd, je_isub, je_i2l, je_icmp, je_if, je_goto, je_switch, je_tsw0, je_tsw1, je_slen, je_sald, je_and15, je_oald, je_lcmp, je_dcmp, je_dstore, je_tret, je_w1, je_w2, je_c0, je_r0, je_r1, je_r2, je_a1, je_a2, je_cd0, je_cj0, je_ad0, je_aj0, je_ex, lg0, ls0, lt0, lg1, ls1, lo1, lt1, lg2, ls2, lo2, lt2, lg3, ls3, lo3, lt3, lg4, ls4, lo4, lt4, lg5, ls5, lo5, lt5, lg6, ls6, lo6, lt6, lg7, ls7, lo7, lt7, lg8, ls8, lo8, lo0, okI, okR, okN, sh4_0, sh4_1, sh4_2, sh4_3, sh4_4, true_and, and_true, true_or, or_true, Int.toNat_natCast, nat_p1, nat_p2, jwB, jcB, jrB, jaB, jcdB, jcjB, jadB, jajB, List.map]
  rcases hp with ⟨v, S', Q, h0, h1, h2⟩ | ⟨⟨E, q⟩, hq, Q, hk, h0, h1, h2⟩
  · refine ⟨⟨by omega, by omega⟩, ⟨by omega, by omega⟩, Or.inl ⟨_, h0, ?_⟩⟩
    rintro r S1 o1 ⟨rfl, rfl⟩ ho
    refine ⟨⟨by omega, by omega⟩, ⟨h.2.2, by omega, by omega⟩, _, h1, ?_⟩
    rintro r2 R1 hq2
    obtain ⟨rfl, h3, h4⟩ := h2 _ _ hq2
    refine ⟨_, run1_thrown, ?_⟩
    rintro r3 R2 ⟨rfl, rfl⟩
    rw [show fF (dropT R1) 0 = 0 from h4]
    exact ⟨⟨⟨by omega, by omega⟩, ⟨by omega, by omega⟩⟩, fun _ => ⟨⟨by omega, by omega⟩, fun z => absurd rfl z, fun _ => ⟨ho, ⟨by omega, by omega⟩, fun _ => hG _ _ _ _ _ _ _ _ _ h3 (by omega) (by omega), fun z => absurd trivial z⟩⟩, fun z => absurd rfl z⟩
  · refine ⟨⟨by omega, by omega⟩, ⟨by omega, by omega⟩, Or.inr ⟨(E, q), hq, h0, ⟨by omega, by omega⟩, ⟨h.2.2, by omega, by omega⟩, _, h1, ?_⟩⟩
    rintro r2 R1 hq2
    obtain ⟨h3, h4⟩ := h2 _ _ hq2
    refine ⟨_, run1_thrown, ?_⟩
    rintro r3 R2 ⟨rfl, rfl⟩
    dsimp only at h4 hk ⊢
    rw [show fF (dropT R1) 0 = q from h4]
    exact ⟨⟨⟨by omega, by omega⟩, ⟨by omega, by omega⟩⟩, fun _ => ⟨⟨by omega, by omega⟩, fun _ => hG _ _ _ _ _ _ _ _ _ h3 (by omega) (by omega), fun z => absurd (show q ≠ 0 by omega) z⟩, fun z => absurd rfl z⟩
theorem jc10 {G : LPT} {xs : Nat → Int32} {L i cl sl : Nat} {S R : ST} {o : Nat → Int64} {y5 y6 y7 y8 : Option AV} (hi : i + 3 ≤ L) (hL : L ≤ 1536) (hc : cl + 60 ≤ 601024) (hs : sl + 500 ≤ 7293034) (h : Bo S R) (hG : jOut G i cl sl) : jRR (jT10 G xs L) 700 (lvL i y5 y6 y7 y8) [] (S, R, o, cl, sl) := by
  have hp := pair_would h (i32r (xs (i + 1)))
  simp only [jr10_700, jr10_701, jr10_702, jr10_704, jr10_705, jr10_706, jr10_707, jr10_708, jr10_711, jr10_713, jr10_714, jr10_715, jr10_717, jr10_718, jr10_719, jr10_720, jr10_723, jr10_725, jr10_726, jr10_729, jr10_731, jr10_734, jr10_735, jr10_736, jr10_738, jr10_741, jr10_742, jr10_743, jr10_744, jr10_746, jr10_747, jr10_748, jr10_751, jr10_752, jr10_753, jr10_936, je_const, je_lconst, je_dconst, je_iload, je_kiload, je_aload, je_kaload, je_lload, je_klload, je_iinc, je_kiinc, je_istore, je_astore, je_lstore, je_dupI, je_dupR, je_iadd, je_isub, je_i2l, je_icmp, je_if, je_goto, je_switch, je_tsw0, je_tsw1, je_slen, je_sald, je_and15, je_oald, je_lcmp, je_dcmp, je_dstore, je_tret, je_w1, je_w2, je_c0, je_r0, je_r1, je_r2, je_a1, je_a2, je_cd0, je_cj0, je_ad0, je_aj0, je_ex, lg0, ls0, lt0, lg1, ls1, lo1, lt1, lg2, ls2, lo2, lt2, lg3, ls3, lo3, lt3, lg4, ls4, lo4, lt4, lg5, ls5, lo5, lt5, lg6, ls6, lo6, lt6, lg7, ls7, lo7, lt7, lg8, ls8, lo8, lo0, okI, okR, okN, sh4_0, sh4_1, sh4_2, sh4_3, sh4_4, true_and, and_true, true_or, or_true, Int.toNat_natCast, nat_p1, nat_p2, jwB, jcB, jrB, jaB, jcdB, jcjB, jadB, jajB, List.map]
  rcases hp with ⟨v, S', Q, h0, h1, h2⟩ | ⟨⟨E, q⟩, hq, Q, hk, h0, h1, h2⟩
  · refine ⟨⟨by omega, by omega⟩, ⟨by omega, by omega⟩, Or.inl ⟨_, h0, ?_⟩⟩
    rintro r S1 o1 ⟨rfl, rfl⟩ ho
    refine ⟨⟨by omega, by omega⟩, _, h1, ?_⟩
    rintro r2 R1 hq2
    obtain ⟨rfl, h3, h4⟩ := h2 _ _ hq2
    refine ⟨_, run1_thrown, ?_⟩
    rintro r3 R2 ⟨rfl, rfl⟩
    rw [show fF R2 0 = 0 from h4]
    exact ⟨⟨⟨by omega, by omega⟩, ⟨by omega, by omega⟩⟩, fun _ => ⟨⟨by omega, by omega⟩, fun z => absurd rfl z, fun _ => ⟨ho, ⟨by omega, by omega⟩, fun _ => hG _ _ _ _ _ _ _ _ _ h3 (by omega) (by omega), fun z => absurd trivial z⟩⟩, fun z => absurd rfl z⟩
  · refine ⟨⟨by omega, by omega⟩, ⟨by omega, by omega⟩, Or.inr ⟨(E, q), hq, h0, ⟨by omega, by omega⟩, _, h1, ?_⟩⟩
    rintro r2 R1 hq2
    obtain ⟨h3, h4⟩ := h2 _ _ hq2
    refine ⟨_, run1_thrown, ?_⟩
    rintro r3 R2 ⟨rfl, rfl⟩
    dsimp only at h4 hk ⊢
    rw [show fF R2 0 = q from h4]
    exact ⟨⟨⟨by omega, by omega⟩, ⟨by omega, by omega⟩⟩, fun _ => ⟨⟨by omega, by omega⟩, fun _ => hG _ _ _ _ _ _ _ _ _ h3 (by omega) (by omega), fun z => absurd (show q ≠ 0 by omega) z⟩, fun z => absurd rfl z⟩
theorem jc11 {G : LPT} {xs : Nat → Int32} {L i cl sl : Nat} {S R : ST} {o : Nat → Int64} {y5 y6 y7 y8 : Option AV} (hi : i + 3 ≤ L) (hL : L ≤ 1536) (hc : cl + 60 ≤ 601024) (hs : sl + 500 ≤ 7293034) (h : Bo S R) (hG : jOut G i cl sl) : jRR (jT11 G xs L) 756 (lvL i y5 y6 y7 y8) [] (S, R, o, cl, sl) := by
  have hp := pair_spares h (i32r (xs (i + 1)))
  simp only [jr11_756, jr11_757, jr11_758, jr11_760, jr11_761, jr11_762, jr11_763, jr11_764, jr11_767, jr11_769, jr11_770, jr11_771, jr11_773, jr11_774, jr11_775, jr11_776, jr11_779, jr11_781, jr11_782, jr11_785, jr11_787, jr11_790, jr11_791, jr11_792, jr11_794, jr11_797, jr11_798, jr11_799, jr11_800, jr11_802, jr11_803, jr11_804, jr11_807, jr11_808, jr11_809, jr11_936, je_const, je_lconst, je_dconst, je_iload, je_kiload, je_aload, je_kaload, je_lload, je_klload, je_iinc, je_kiinc, je_istore, je_astore, je_lstore, je_dupI, je_dupR, je_iadd, je_isub, je_i2l, je_icmp, je_if, je_goto, je_switch, je_tsw0, je_tsw1, je_slen, je_sald, je_and15, je_oald, je_lcmp, je_dcmp, je_dstore, je_tret, je_w1, je_w2, je_c0, je_r0, je_r1, je_r2, je_a1, je_a2, je_cd0, je_cj0, je_ad0, je_aj0, je_ex, lg0, ls0, lt0, lg1, ls1, lo1, lt1, lg2, ls2, lo2, lt2, lg3, ls3, lo3, lt3, lg4, ls4, lo4, lt4, lg5, ls5, lo5, lt5, lg6, ls6, lo6, lt6, lg7, ls7, lo7, lt7, lg8, ls8, lo8, lo0, okI, okR, okN, sh4_0, sh4_1, sh4_2, sh4_3, sh4_4, true_and, and_true, true_or, or_true, Int.toNat_natCast, nat_p1, nat_p2, jwB, jcB, jrB, jaB, jcdB, jcjB, jadB, jajB, List.map]
  rcases hp with ⟨v, S', Q, h0, h1, h2⟩ | ⟨⟨E, q⟩, hq, Q, hk, h0, h1, h2⟩
  · refine ⟨⟨by omega, by omega⟩, ⟨by omega, by omega⟩, Or.inl ⟨_, h0, ?_⟩⟩
    rintro r S1 o1 ⟨rfl, rfl⟩ ho
    refine ⟨⟨by omega, by omega⟩, _, h1, ?_⟩
    rintro r2 R1 hq2
    obtain ⟨rfl, h3, h4⟩ := h2 _ _ hq2
    refine ⟨_, run1_thrown, ?_⟩
    rintro r3 R2 ⟨rfl, rfl⟩
    rw [show fF R2 0 = 0 from h4]
    exact ⟨⟨⟨by omega, by omega⟩, ⟨by omega, by omega⟩⟩, fun _ => ⟨⟨by omega, by omega⟩, fun z => absurd rfl z, fun _ => ⟨ho, ⟨by omega, by omega⟩, fun _ => hG _ _ _ _ _ _ _ _ _ h3 (by omega) (by omega), fun z => absurd trivial z⟩⟩, fun z => absurd rfl z⟩
  · refine ⟨⟨by omega, by omega⟩, ⟨by omega, by omega⟩, Or.inr ⟨(E, q), hq, h0, ⟨by omega, by omega⟩, _, h1, ?_⟩⟩
    rintro r2 R1 hq2
    obtain ⟨h3, h4⟩ := h2 _ _ hq2
    refine ⟨_, run1_thrown, ?_⟩
    rintro r3 R2 ⟨rfl, rfl⟩
    dsimp only at h4 hk ⊢
    rw [show fF R2 0 = q from h4]
    exact ⟨⟨⟨by omega, by omega⟩, ⟨by omega, by omega⟩⟩, fun _ => ⟨⟨by omega, by omega⟩, fun _ => hG _ _ _ _ _ _ _ _ _ h3 (by omega) (by omega), fun z => absurd (show q ≠ 0 by omega) z⟩, fun z => absurd rfl z⟩
theorem jc12 {G : LPT} {xs : Nat → Int32} {L i cl sl : Nat} {S R : ST} {o : Nat → Int64} {y5 y6 y7 y8 : Option AV} (hi : i + 3 ≤ L) (hL : L ≤ 1536) (hc : cl + 60 ≤ 601024) (hs : sl + 500 ≤ 7293034) (h : Bo S R) (hG : jOut G i cl sl) : jRR (jT12 G xs L) 812 (lvL i y5 y6 y7 y8) [] (S, R, o, cl, sl) := by
  have hp := pair_room h (i32r (xs (i + 1)))
  simp only [jr12_812, jr12_813, jr12_814, jr12_816, jr12_817, jr12_818, jr12_819, jr12_820, jr12_823, jr12_825, jr12_826, jr12_827, jr12_829, jr12_830, jr12_831, jr12_832, jr12_835, jr12_837, jr12_838, jr12_841, jr12_843, jr12_846, jr12_847, jr12_848, jr12_850, jr12_853, jr12_854, jr12_855, jr12_856, jr12_858, jr12_859, jr12_860, jr12_863, jr12_864, jr12_865, jr12_936, je_const, je_lconst, je_dconst, je_iload, je_kiload, je_aload, je_kaload, je_lload, je_klload, je_iinc, je_kiinc, je_istore, je_astore, je_lstore, je_dupI, je_dupR, je_iadd, je_isub, je_i2l, je_icmp, je_if, je_goto, je_switch, je_tsw0, je_tsw1, je_slen, je_sald, je_and15, je_oald, je_lcmp, je_dcmp, je_dstore, je_tret, je_w1, je_w2, je_c0, je_r0, je_r1, je_r2, je_a1, je_a2, je_cd0, je_cj0, je_ad0, je_aj0, je_ex, lg0, ls0, lt0, lg1, ls1, lo1, lt1, lg2, ls2, lo2, lt2, lg3, ls3, lo3, lt3, lg4, ls4, lo4, lt4, lg5, ls5, lo5, lt5, lg6, ls6, lo6, lt6, lg7, ls7, lo7, lt7, lg8, ls8, lo8, lo0, okI, okR, okN, sh4_0, sh4_1, sh4_2, sh4_3, sh4_4, true_and, and_true, true_or, or_true, Int.toNat_natCast, nat_p1, nat_p2, jwB, jcB, jrB, jaB, jcdB, jcjB, jadB, jajB, List.map]
  rcases hp with ⟨v, S', Q, h0, h1, h2⟩ | ⟨⟨E, q⟩, hq, Q, hk, h0, h1, h2⟩
  · refine ⟨⟨by omega, by omega⟩, ⟨by omega, by omega⟩, Or.inl ⟨_, h0, ?_⟩⟩
    rintro r S1 o1 ⟨rfl, rfl⟩ ho
    refine ⟨⟨by omega, by omega⟩, _, h1, ?_⟩
    rintro r2 R1 hq2
    obtain ⟨rfl, h3, h4⟩ := h2 _ _ hq2
    refine ⟨_, run1_thrown, ?_⟩
    rintro r3 R2 ⟨rfl, rfl⟩
    rw [show fF R2 0 = 0 from h4]
    exact ⟨⟨⟨by omega, by omega⟩, ⟨by omega, by omega⟩⟩, fun _ => ⟨⟨by omega, by omega⟩, fun z => absurd rfl z, fun _ => ⟨ho, ⟨by omega, by omega⟩, fun _ => hG _ _ _ _ _ _ _ _ _ h3 (by omega) (by omega), fun z => absurd trivial z⟩⟩, fun z => absurd rfl z⟩
  · refine ⟨⟨by omega, by omega⟩, ⟨by omega, by omega⟩, Or.inr ⟨(E, q), hq, h0, ⟨by omega, by omega⟩, _, h1, ?_⟩⟩
    rintro r2 R1 hq2
    obtain ⟨h3, h4⟩ := h2 _ _ hq2
    refine ⟨_, run1_thrown, ?_⟩
    rintro r3 R2 ⟨rfl, rfl⟩
    dsimp only at h4 hk ⊢
    rw [show fF R2 0 = q from h4]
    exact ⟨⟨⟨by omega, by omega⟩, ⟨by omega, by omega⟩⟩, fun _ => ⟨⟨by omega, by omega⟩, fun _ => hG _ _ _ _ _ _ _ _ _ h3 (by omega) (by omega), fun z => absurd (show q ≠ 0 by omega) z⟩, fun z => absurd rfl z⟩
theorem jc13 {G : LPT} {xs : Nat → Int32} {L i cl sl : Nat} {S R : ST} {o : Nat → Int64} {y5 y6 y7 y8 : Option AV} (hi : i + 3 ≤ L) (hL : L ≤ 1536) (hc : cl + 60 ≤ 601024) (hs : sl + 500 ≤ 7293034) (h : Bo S R) (hG : jOut G i cl sl) : jRR (jT13 G xs L) 868 (lvL i y5 y6 y7 y8) [] (S, R, o, cl, sl) := by
  obtain ⟨v, S', Q, hv, h0, h1, h2⟩ := two_worst h
  simp only [jr13_868, jr13_869, jr13_872, jr13_873, jr13_876, jr13_879, jr13_880, jr13_936, je_const, je_lconst, je_dconst, je_iload, je_kiload, je_aload, je_kaload, je_lload, je_klload, je_iinc, je_kiinc, je_istore, je_astore, je_lstore, je_dupI, je_dupR, je_iadd, je_isub, je_i2l, je_icmp, je_if, je_goto, je_switch, je_tsw0, je_tsw1, je_slen, je_sald, je_and15, je_oald, je_lcmp, je_dcmp, je_dstore, je_tret, je_w1, je_w2, je_c0, je_r0, je_r1, je_r2, je_a1, je_a2, je_cd0, je_cj0, je_ad0, je_aj0, je_ex, lg0, ls0, lt0, lg1, ls1, lo1, lt1, lg2, ls2, lo2, lt2, lg3, ls3, lo3, lt3, lg4, ls4, lo4, lt4, lg5, ls5, lo5, lt5, lg6, ls6, lo6, lt6, lg7, ls7, lo7, lt7, lg8, ls8, lo8, lo0, okI, okR, okN, sh4_0, sh4_1, sh4_2, sh4_3, sh4_4, true_and, and_true, true_or, or_true, Int.toNat_natCast, nat_p1, nat_p2, jwB, jcB, jrB, jaB, jcdB, jcjB, jadB, jajB, List.map]
  refine ⟨_, h0, ?_⟩
  rintro r S1 ⟨rfl, rfl⟩
  refine ⟨_, h1, ?_⟩
  rintro r2 R1 hq
  obtain ⟨rfl, h3⟩ := h2 _ _ hq
  exact ⟨⟨hv, hv⟩, fun _ => hG _ _ _ _ _ _ _ _ _ h3 (by omega) (by omega), fun z => absurd rfl z⟩
theorem jc14 {G : LPT} {xs : Nat → Int32} {L i cl sl : Nat} {S R : ST} {o : Nat → Int64} {y5 y6 y7 y8 : Option AV} (hi : i + 3 ≤ L) (hL : L ≤ 1536) (hc : cl + 60 ≤ 601024) (hs : sl + 500 ≤ 7293034) (h : Bo S R) (hG : jOut G i cl sl) : jRR (jT14 G xs L) 881 (lvL i y5 y6 y7 y8) [] (S, R, o, cl, sl) := by
  obtain ⟨v, Q, hv, h0, h1, h2⟩ := two_mean h
  simp only [jr14_881, jr14_882, jr14_885, jr14_887, jr14_888, jr14_891, jr14_893, jr14_895, jr14_897, jr14_898, jr14_901, jr14_903, jr14_905, jr14_906, jr14_909, jr14_911, jr14_913, jr14_914, jr14_917, jr14_918, jr14_919, jr14_936, je_const, je_lconst, je_dconst, je_iload, je_kiload, je_aload, je_kaload, je_lload, je_klload, je_iinc, je_kiinc, je_istore, je_astore, je_lstore, je_dupI, je_dupR, je_iadd, je_isub, je_i2l, je_icmp, je_if, je_goto, je_switch, je_tsw0, je_tsw1, je_slen, je_sald, je_and15, je_oald, je_lcmp, je_dcmp, je_dstore, je_tret, je_w1, je_w2, je_c0, je_r0, je_r1, je_r2, je_a1, je_a2, je_cd0, je_cj0, je_ad0, je_aj0, je_ex, lg0, ls0, lt0, lg1, ls1, lo1, lt1, lg2, ls2, lo2, lt2, lg3, ls3, lo3, lt3, lg4, ls4, lo4, lt4, lg5, ls5, lo5, lt5, lg6, ls6, lo6, lt6, lg7, ls7, lo7, lt7, lg8, ls8, lo8, lo0, okI, okR, okN, sh4_0, sh4_1, sh4_2, sh4_3, sh4_4, true_and, and_true, true_or, or_true, Int.toNat_natCast, nat_p1, nat_p2, jwB, jcB, jrB, jaB, jcdB, jcjB, jadB, jajB, List.map, dl5, dl7]
  refine ⟨_, h0, ?_⟩
  rintro v1 S1 ⟨rfl, rfl⟩
  refine ⟨⟨h.2.2, by omega, by omega⟩, _, h1, ?_⟩
  rintro r2 R1 hq
  obtain ⟨rfl, h3⟩ := h2 _ _ hq
  exact ⟨⟨rfl, hv⟩, ⟨by omega, by omega⟩, fun _ => hG _ _ _ _ _ _ _ _ _ h3 (by omega) (by omega), fun z => absurd trivial z⟩
theorem jc15 {G : LPT} {xs : Nat → Int32} {L i cl sl : Nat} {S R : ST} {o : Nat → Int64} {y5 y6 y7 y8 : Option AV} (hi : i + 3 ≤ L) (hL : L ≤ 1536) (hc : cl + 60 ≤ 601024) (hs : sl + 500 ≤ 7293034) (h : Bo S R) (hG : jOut G i cl sl) : jRR (jT15 G xs L) 922 (lvL i y5 y6 y7 y8) [] (S, R, o, cl, sl) := by
  obtain ⟨v, Q, h0, h1, h2⟩ := two_digest h
  simp only [jr15_922, jr15_923, jr15_926, jr15_927, jr15_930, jr15_931, jr15_934, jr15_935, jr15_936, je_const, je_lconst, je_dconst, je_iload, je_kiload, je_aload, je_kaload, je_lload, je_klload, je_iinc, je_kiinc, je_istore, je_astore, je_lstore, je_dupI, je_dupR, je_iadd, je_isub, je_i2l, je_icmp, je_if, je_goto, je_switch, je_tsw0, je_tsw1, je_slen, je_sald, je_and15, je_oald, je_lcmp, je_dcmp, je_dstore, je_tret, je_w1, je_w2, je_c0, je_r0, je_r1, je_r2, je_a1, je_a2, je_cd0, je_cj0, je_ad0, je_aj0, je_ex, lg0, ls0, lt0, lg1, ls1, lo1, lt1, lg2, ls2, lo2, lt2, lg3, ls3, lo3, lt3, lg4, ls4, lo4, lt4, lg5, ls5, lo5, lt5, lg6, ls6, lo6, lt6, lg7, ls7, lo7, lt7, lg8, ls8, lo8, lo0, okI, okR, okN, sh4_0, sh4_1, sh4_2, sh4_3, sh4_4, true_and, and_true, true_or, or_true, Int.toNat_natCast, nat_p1, nat_p2, jwB, jcB, jrB, jaB, jcdB, jcjB, jadB, jajB, List.map]
  refine ⟨_, h0, ?_⟩
  rintro v1 S1 ⟨rfl, rfl⟩
  refine ⟨⟨h.2.2, by omega, by omega⟩, _, h1, ?_⟩
  rintro r2 R1 hq
  obtain ⟨rfl, h3⟩ := h2 _ _ hq
  exact ⟨rfl, ⟨by omega, by omega⟩, fun _ => hG _ _ _ _ _ _ _ _ _ h3 (by omega) (by omega), fun z => absurd trivial z⟩
