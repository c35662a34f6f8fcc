/-! THE REFERENCE: pack -/
theorem mp_max {f g : Nat → Int} {k c : Int} : ∀ n j : Nat, j < n → f j = k ∧ 0 < g j ∧ g j < c → g j ≤ (mp f g k c n).2
  | 0, j, hj, _ => absurd hj (by omega)
  | n + 1, j, hj, h => by
    by_cases z : (f n = k ∧ 0 < g n ∧ g n < c) ∧ (mp f g k c n).2 < g n
    · rw [mp_y z]
      by_cases e : j = n
      · rw [e]; exact Int.le_refl _
      · have := mp_max n j (by omega) h
        show g j ≤ g n
        omega
    · rw [mp_n z]
      by_cases e : j = n
      · rw [e] at h ⊢
        omega
      · exact mp_max n j (by omega) h
theorem lp_min {f g : Nat → Int} {k c : Int} : ∀ n j : Nat, j < n → f j = k ∧ 0 < g j ∧ g j < c → (lp f g k c n).2 ≤ g j
  | 0, j, hj, _ => absurd hj (by omega)
  | n + 1, j, hj, h => by
    by_cases z : (f n = k ∧ 0 < g n ∧ g n < c) ∧ g n ≤ (lp f g k c n).2
    · rw [lp_y z]
      by_cases e : j = n
      · rw [e]; exact Int.le_refl _
      · have := lp_min n j (by omega) h
        show g n ≤ g j
        omega
    · rw [lp_n z]
      by_cases e : j = n
      · rw [e] at h ⊢
        omega
      · exact lp_min n j (by omega) h
theorem pk_no {f g : Nat → Int} {k c : Int} (hc : c ≤ 64) : (mp f g k c 20).1 = -1 ↔ (lp f g k c 20).1 = -1 := by
  constructor
  · intro h
    have h2 := mp_no 20 h
    rcases lp_at (f := f) (g := g) (k := k) (c := c) 20 with z | ⟨p, p1, p2, p3, p4, p5, -⟩
    · exact z
    · have := mp_max (f := f) (g := g) (k := k) (c := c) 20 p p1 ⟨p3, p4, p5⟩
      omega
  · intro h
    have h2 := lp_no 20 h
    rcases mp_at (f := f) (g := g) (k := k) (c := c) 20 with z | ⟨p, p1, p2, p3, p4, p5, -⟩
    · exact z
    · have := lp_min (f := f) (g := g) (k := k) (c := c) 20 p p1 ⟨p3, p4, p5⟩
      omega
theorem pk_stop {S : ST} {k : Nat} (hc : gA S 3 k ≤ 64) : (pkP S k = -1 ∨ pkQ S k = -1 ∨ pkP S k = pkQ S k) ↔ pkQ S k = pkP S k := by
  have h := pk_no (f := gA S 6) (g := gA S 8) (k := (k : Int)) (c := gA S 3 k) hc
  have h1 : pkQ S k = -1 ↔ pkP S k = -1 := h
  constructor
  · rintro (z | z | z)
    · rw [z, h1.mpr z]
    · rw [z, h1.mp z]
    · exact z.symm
  · intro z
    exact Or.inr (Or.inr z.symm)
/-- what is still to be moved, at most -/
def paS (S : ST) (k p : Nat) : Int := if gA S 6 p = k ∧ 0 < gA S 8 p ∧ gA S 8 p < gA S 3 k then gA S 8 p else 0
def pkM (S : ST) (k : Nat) : Int := sm (paS S k) 20 - (mp (gA S 6) (gA S 8) k (gA S 3 k) 20).2
theorem sm_set2 {g h : Nat → Int} {i j : Nat} (hij : i ≠ j) (ho : ∀ c, c ≠ i → c ≠ j → h c = g c) (n : Nat) (hi : i < n) (hj : j < n) : sm h n = sm g n - g i - g j + h i + h j := by
  have h1 := sm_set (g := g) (h := fun c => if c = i then h i else g c) (i := i) (fun c hc => by simp [hc]) n hi
  have h2 := sm_set (g := fun c => if c = i then h i else g c) (h := h) (i := j) (fun c hc => by
    by_cases e : c = i
    · simp [e]
    · simp only [if_neg e]; exact ho c e hc) n hj
  have e1 : (if i = i then h i else g i) = h i := if_pos rfl
  have e2 : (if j = i then h i else g j) = g j := if_neg (fun z => hij z.symm)
  rw [e1] at h1
  rw [e2] at h2
  omega
theorem pkM_step {S S' : ST} {k p q : Nat} (hp : p < 20) (hq : q < 20) (hne : p ≠ q) (hpp : paB S k p) (hqq : paB S k q) (hm : (mp (gA S 6) (gA S 8) k (gA S 3 k) 20).2 = gA S 8 q) (h6 : ∀ j, gA S' 6 j = gA S 6 j) (h3 : gA S' 3 k = gA S 3 k) (h8 : ∀ j, gA S' 8 j = if j = q then gA S 8 q + 1 else if j = p then gA S 8 p - 1 else gA S 8 j) (hc : gA S 3 k ≤ 64) : pkM S' k ≤ pkM S k - 1 := by
  have hs := sm_set2 (g := paS S k) (h := paS S' k) hne (fun c h1 h2 => by
    unfold paS
    rw [h6, h3, h8, if_neg h2, if_neg h1]) 20 hp hq
  have a1 : paS S k p = gA S 8 p := if_pos hpp
  have a2 : paS S k q = gA S 8 q := if_pos hqq
  have b1 : paS S' k p = gA S 8 p - 1 := by
    unfold paS
    rw [h6, h3, h8, if_neg hne, if_pos rfl]
    by_cases e : gA S 8 p = 1
    · rw [if_neg (by omega)]; omega
    · rw [if_pos ⟨hpp.1, by have := hpp.2.1; omega, by have := hpp.2.2; omega⟩]
  have hb := mp_b (f := gA S' 6) (g := gA S' 8) (k := (k : Int)) (c := gA S' 3 k) (by omega) 20
  unfold pkM
  rw [hm, hs, a1, a2, b1]
  by_cases e : gA S 8 q + 1 < gA S 3 k
  · have hx := mp_max (f := gA S' 6) (g := gA S' 8) (k := (k : Int)) (c := gA S' 3 k) 20 q hq ⟨by rw [h6]; exact hqq.1, by rw [h8, if_pos rfl]; have := hqq.2.1; omega, by rw [h8, h3, if_pos rfl]; exact e⟩
    rw [h8, if_pos rfl] at hx
    have b2 : paS S' k q = gA S 8 q + 1 := by
      unfold paS
      rw [h6, h3, h8, if_pos rfl, if_pos ⟨hqq.1, by have := hqq.2.1; omega, e⟩]
    rw [b2]
    omega
  · have b2 : paS S' k q = 0 := by
      unfold paS
      rw [h6, h3, h8, if_pos rfl, if_neg (fun z => e z.2.2)]
    rw [b2]
    omega
theorem sm_le {f g : Nat → Int} : ∀ n : Nat, (∀ c, c < n → f c ≤ g c) → sm f n ≤ sm g n
  | 0, _ => Int.le_refl _
  | n + 1, h => by
    have h1 := sm_le n (fun c hc => h c (by omega))
    have h2 := h n (by omega)
    show sm f n + f n ≤ sm g n + g n
    omega
theorem sm_mem {f : Nat → Int} : ∀ n j : Nat, (∀ c, c < n → 0 ≤ f c) → j < n → f j ≤ sm f n ∧ 0 ≤ sm f n
  | 0, j, _, h => absurd h (by omega)
  | n + 1, j, h0, h => by
    have h3 := h0 n (by omega)
    have h4 : 0 ≤ sm f n := by
      cases n with
      | zero => exact Int.le_refl _
      | succ m => exact (sm_mem (m + 1) m (fun c hc => h0 c (by omega)) (by omega)).2
    show f j ≤ sm f n + f n ∧ 0 ≤ sm f n + f n
    by_cases e : j = n
    · rw [e]; omega
    · have := (sm_mem n j (fun c hc => h0 c (by omega)) (by omega)).1
      omega
theorem pkM_0 {S : ST} {k : Nat} (hI : Inv S) (hk : (k : Int) < fF S 0) : pkM S k ≤ 150 := by
  have h0 := hI.1.kc
  have h1 := hI.1.tc
  have hkd := hI.1.kd (k := k) (by omega)
  have hb := mp_b (f := gA S 6) (g := gA S 8) (k := (k : Int)) (c := gA S 3 k) (by omega) 20
  have hs := sm_le (f := paS S k) (g := gA S 8) 20 (fun c hc => by
    have := (hI.1.pl hc).2.1
    unfold paS
    split <;> omega)
  have := hI.2.2.2.2.2.2
  unfold pkM
  omega
theorem pkM_go {S : ST} {k p q : Nat} (hp : p < 20) (hq : q < 20) (hne : p ≠ q) (hpp : paB S k p) (hqq : paB S k q) (hm : (mp (gA S 6) (gA S 8) k (gA S 3 k) 20).2 = gA S 8 q) (h0 : ∀ c, c < 20 → 0 ≤ gA S 8 c) : 1 ≤ pkM S k := by
  have hs := sm_set (g := paS S k) (h := fun c => if c = q then 0 else paS S k c) (i := q) (fun c hc => by simp [hc]) 20 hq
  have hx : ∀ c, c < 20 → 0 ≤ paS S k c := fun c hc => by
    have := h0 c hc
    unfold paS
    split <;> omega
  have hy := (sm_mem (f := fun c => if c = q then 0 else paS S k c) 20 p (fun c hc => by
    by_cases e : c = q
    · simp [e]
    · simp only [if_neg e]; exact hx c hc) hp).1
  have e1 : (if q = q then 0 else paS S k q) = 0 := if_pos rfl
  have e2 : (if p = q then 0 else paS S k p) = paS S k p := if_neg hne
  have a1 : paS S k p = gA S 8 p := if_pos hpp
  have a2 : paS S k q = gA S 8 q := if_pos hqq
  rw [e1, a2] at hs
  rw [e2, a1] at hy
  have := hpp.2.1
  unfold pkM
  omega
theorem run1_pack_no {R : ST} {k : Int} (hr : rng k) (hn : ¬ (0 ≤ k ∧ k < fF R 1)) (hB : B1 R) : X1_pack [vR 0, vI k] R (eqr 0 (thr R 1)) nox := by
  have tail : ∃ Q, X1_no [vR 0, vI 1] (pF R 0 0) Q nox ∧ ∀ r S', Q r S' → r = 0 ∧ S' = thr R 1 := ⟨_, run1_no, fun r S' h => ⟨h.1, h.2.trans (thr_thr R 0 1)⟩⟩
  refine ⟨Nat.le_of_ble_eq_true rfl, ?_⟩
  show RR _ 0 [some (vR 0), some (vI k), none, none, none] [] R
  rw [r1_pack_0]
  simp only [r1_pack_1, r1_pack_2, r1_pack_5, r1_pack_6, r1_pack_7, r1_pack_10, r1_pack_13, r1_pack_14, r1_pack_15, r1_pack_18, r1_pack_20, r1_pack_23, r1_pack_24, r1_pack_25, r1_pack_26, r1_pack_29, r1_pack_30, r1_pack_31, r1_pack_34, r1_pack_37, r1_pack_38, r1_pack_39, r1_pack_42, r1_pack_43, r1_pack_44, r1_pack_45, r1_pack_46, r1_pack_49, r1_pack_52, r1_pack_54, r1_pack_55, r1_pack_57, r1_pack_60, r1_pack_61, r1_pack_63, r1_pack_64, r1_pack_65, r1_pack_66, r1_pack_69, r1_pack_72, r1_pack_73, r1_pack_74, r1_pack_77, r1_pack_78, r1_pack_79, r1_pack_82, r1_pack_85, r1_pack_86, r1_pack_89, r1_pack_90, r1_pack_91, e_const, e_lconst, e_dconst, e_iload, e_kiload, e_aload, e_kaload, e_lload, e_klload, e_iinc, e_kiinc, e_istore, e_astore, e_lstore, e_dupI, e_dupR, e_dup2, e_iadd, e_isub, e_imul, e_idiv, e_irem, e_ladd, e_lmul, e_i2l, e_i2d, e_ddiv, e_icmp, e_if, e_goto, e_switch, e_tsw0, e_tsw1, e_getI, e_getA, e_putI, e_iald, e_iast, e_tnew, e_tald, e_tast, e_iret, e_zret, e_lret, e_dret, e_vret, e_throw, lg0, ls0, lt0, lg1, ls1, lo1, lt1, lg2, ls2, lo2, lt2, lg3, ls3, lo3, lt3, lg4, ls4, lo4, lt4, lg5, ls5, lo5, lt5, lg6, ls6, lo6, lt6, lg7, ls7, lo7, lt7, lg8, ls8, lo8, lo0, okI, okR, okN, e_calli1, e_calll1, e_callv1, e_xcalli1, e_xcallv1, e_acalli1, e_calli2, e_calll2, e_callv2, e_xcalli2, e_xcallv2, e_acalli2, e_calli3, e_calll3, e_callv3, e_xcalli3, e_xcallv3, e_acalli3, e_calli4, e_calll4, e_callv4, e_xcalli4, e_xcallv4, e_acalli4, e_scalli3, sh4_0, sh4_1, sh4_2, sh4_3, sh4_4, eqr, eqv, true_and, and_true, true_or, or_true, ln1_2, ln1_3, ln1_4, ln1_5, ln1_6, ln1_7, ln1_8, ln1_10, ln1_11, ln1_12]
  refine ⟨_, run1_isKind hr (hB.thr 0), ?_⟩
  rintro r S1 ⟨rfl, rfl⟩
  rw [if0 (show ¬ (0 ≤ k ∧ k < fF (thr R 0) 1) from hn)]
  exact ⟨⟨by omega, by omega⟩, fun h => absurd rfl h, fun _ => tail⟩
theorem pF_pF (S : ST) (a : Nat) (v w : Int) : pF (pF S a v) a w = pF S a w := by
  unfold pF
  refine Prod.ext ?_ rfl
  funext j
  by_cases h : j = a <;> simp [h]
theorem run1_pack_ok {S R : ST} {k : Nat} (hI : Inv S) (h : Rel S R) (hk : (k : Int) < fF S 0) : X1_pack [vR 0, vI k] R (rsl (pkF k 150 S).2 (pkS S k) R) nox := by
  have hB := h.b1 hI
  have h0 := hI.1.kc
  have hk1 : (k : Int) < fF R 1 := by rw [h.1.1]; exact hk
  refine ⟨Nat.le_of_ble_eq_true rfl, ?_⟩
  show RR _ 0 [some (vR 0), some (vI k), none, none, none] [] R
  have fl : ∀ (S1 R1 : ST) (v : Int), Inv S1 → (k : Int) < fF S1 0 → Rel (pF S1 15 v) R1 → X1_fullest [vR 0, vI k] R1 (eqr (pkQ S1 k) R1) nox ∧ X1_leanest [vR 0, vI k] R1 (eqr (pkP S1 k) R1) nox ∧ (-1 ≤ pkQ S1 k ∧ pkQ S1 k < 20) ∧ (-1 ≤ pkP S1 k ∧ pkP S1 k < 20) := by
    intro S1 R1 v hI1 hk1 h1
    have hI1' : Inv (pF S1 15 v) := Inv_mv hI1
    have hB1 := h1.b1 hI1'
    have hkd := hI1.1.kd (k := k) (by have := hI1.1.kc; omega)
    have a1 := run1_fullest (R := R1) (k := k) (by rw [h1.1.1]; exact hk1) hB1
    have a2 := run1_leanest (R := R1) (k := k) (by rw [h1.1.1]; exact hk1) hB1
    have b1 := mp_b (f := gA S1 6) (g := gA S1 8) (k := (k : Int)) (c := gA S1 3 k) (by omega) 20
    have b2 := lp_b (f := gA S1 6) (g := gA S1 8) (k := (k : Int)) (c := gA S1 3 k) (by omega) 20
    rw [h1.cs hI1' hk1, h1.f5, h1.f7] at a1 a2
    exact ⟨a1, a2, b1.1, b2.1⟩
  have stp : ∀ (n m : Nat) (S1 R1 : ST) (Q : Int → ST → Prop), Inv S1 → (k : Int) < fF S1 0 → pkQ S1 k = pkP S1 k → Rel (pF S1 15 (fF S1 15 + m)) R1 → fF R1 0 = 0 → R1.2.2 = R.2.2 → (∀ R2 : ST, Rel (pF (pkF k n S1).1 15 (fF (pkF k n S1).1 15 + ((m : Int) + (pkF k n S1).2))) R2 → fF R2 0 = 0 → R2.2.2 = R.2.2 → Q ((m : Int) + (pkF k n S1).2) R2) → ∀ z1 z2 : Option AV, RR (T1_pack Q nox) 24 [some (vR 0), some (vI k), some (vI (fF S1 15)), z1, z2] [] R1 := by
    intro n m S1 R1 Q hI1 hk1 he h1 h10 h12 hQ z1 z2
    have hkd := hI1.1.kd (k := k) (by have := hI1.1.kc; omega)
    have eF : pkF k n S1 = (S1, 0) := by
      cases n with
      | zero => rfl
      | succ n => exact pkF_s ((pk_stop (by omega)).mpr he)
    rw [eF] at hQ
    simp only [Int.add_zero] at hQ
    obtain ⟨a1, a2, b1, b2⟩ := fl S1 R1 _ hI1 hk1 h1
    rw [r1_pack_24]
    simp only [r1_pack_0, r1_pack_1, r1_pack_2, r1_pack_5, r1_pack_6, r1_pack_7, r1_pack_10, r1_pack_13, r1_pack_14, r1_pack_15, r1_pack_18, r1_pack_19, r1_pack_20, r1_pack_23, r1_pack_25, r1_pack_26, r1_pack_29, r1_pack_30, r1_pack_31, r1_pack_34, r1_pack_37, r1_pack_38, r1_pack_39, r1_pack_42, r1_pack_43, r1_pack_44, r1_pack_45, r1_pack_46, r1_pack_49, r1_pack_52, r1_pack_54, r1_pack_55, r1_pack_57, r1_pack_60, r1_pack_61, r1_pack_63, r1_pack_64, r1_pack_65, r1_pack_66, r1_pack_69, r1_pack_72, r1_pack_73, r1_pack_74, r1_pack_77, r1_pack_78, r1_pack_79, r1_pack_82, r1_pack_85, r1_pack_86, r1_pack_89, r1_pack_90, r1_pack_91, e_const, e_lconst, e_dconst, e_iload, e_kiload, e_aload, e_kaload, e_lload, e_klload, e_iinc, e_kiinc, e_istore, e_astore, e_lstore, e_dupI, e_dupR, e_dup2, e_iadd, e_isub, e_imul, e_idiv, e_irem, e_ladd, e_lmul, e_i2l, e_i2d, e_ddiv, e_icmp, e_if, e_goto, e_switch, e_tsw0, e_tsw1, e_getI, e_getA, e_putI, e_iald, e_iast, e_tnew, e_tald, e_tast, e_iret, e_zret, e_lret, e_dret, e_vret, e_throw, lg0, ls0, lt0, lg1, ls1, lo1, lt1, lg2, ls2, lo2, lt2, lg3, ls3, lo3, lt3, lg4, ls4, lo4, lt4, lg5, ls5, lo5, lt5, lg6, ls6, lo6, lt6, lg7, ls7, lo7, lt7, lg8, ls8, lo8, lo0, okI, okR, okN, e_calli1, e_calll1, e_callv1, e_xcalli1, e_xcallv1, e_acalli1, e_calli2, e_calll2, e_callv2, e_xcalli2, e_xcallv2, e_acalli2, e_calli3, e_calll3, e_callv3, e_xcalli3, e_xcallv3, e_acalli3, e_calli4, e_calll4, e_callv4, e_xcalli4, e_xcallv4, e_acalli4, e_scalli3, sh4_0, sh4_1, sh4_2, sh4_3, sh4_4, eqr, eqv, true_and, and_true, true_or, or_true, ln1_2, ln1_3, ln1_4, ln1_5, ln1_6, ln1_7, ln1_8, ln1_10, ln1_11, ln1_12]
    refine ⟨_, a1, ?_⟩
    rintro r S2 ⟨rfl, rfl⟩
    refine ⟨_, a2, ?_⟩
    rintro r S3 ⟨rfl, rfl⟩
    refine ⟨⟨⟨by omega, by omega⟩, by omega, by omega⟩, fun _ => ?_, fun z => absurd he z⟩
    have e14 : fF S3 14 = fF S1 15 + m := h1.1.2.2.2
    rw [show fF S3 14 - fF S1 15 = (m : Int) by omega]
    exact hQ _ h1 h10 h12
  have loop : ∀ (n m : Nat) (S1 R1 : ST) (Q : Int → ST → Prop), Inv S1 → (k : Int) < fF S1 0 → pkM S1 k ≤ n → Rel (pF S1 15 (fF S1 15 + m)) R1 → fF R1 0 = 0 → R1.2.2 = R.2.2 → (∀ R2 : ST, Rel (pF (pkF k n S1).1 15 (fF (pkF k n S1).1 15 + ((m : Int) + (pkF k n S1).2))) R2 → fF R2 0 = 0 → R2.2.2 = R.2.2 → Q ((m : Int) + (pkF k n S1).2) R2) → ∀ z1 z2 : Option AV, RR (T1_pack Q nox) 24 [some (vR 0), some (vI k), some (vI (fF S1 15)), z1, z2] [] R1 := by
    intro n
    induction n with
    | zero =>
      intro m S1 R1 Q hI1 hk1 hM h1 h10 h12 hQ z1 z2
      by_cases he : pkQ S1 k = pkP S1 k
      · exact stp 0 m S1 R1 Q hI1 hk1 he h1 h10 h12 hQ z1 z2
      · have hkd := hI1.1.kd (k := k) (by have := hI1.1.kc; omega)
        obtain ⟨p, q, hp, hq, e1, e2, hne, hpp, hqq, -, hm⟩ := pk_at (fun z => he ((pk_stop (S := S1) (k := k) (by omega)).mp z))
        have := pkM_go hp hq hne hpp hqq hm (fun c hc => (hI1.1.pl hc).2.1)
        omega
    | succ n ih =>
      intro m S1 R1 Q hI1 hk1 hM h1 h10 h12 hQ z1 z2
      by_cases he : pkQ S1 k = pkP S1 k
      · exact stp (n + 1) m S1 R1 Q hI1 hk1 he h1 h10 h12 hQ z1 z2
      have hkd := hI1.1.kd (k := k) (by have := hI1.1.kc; omega)
      have hgo := fun z => he ((pk_stop (S := S1) (k := k) (by omega)).mp z)
      obtain ⟨p, q, hp, hq, e1, e2, hne, hpp, hqq, -, hm⟩ := pk_at hgo
      obtain ⟨hI2, -, ⟨c1, c2, c3, c4, c5, c6, c7⟩, ⟨d1, d2, d3⟩, h8⟩ := mv_ok hI1 hp hq hk1 hpp hqq hne
      have hM2 := pkM_step (S' := mvT S1 p q) hp hq hne hpp hqq hm (fun _ => rfl) rfl h8 (by omega)
      rw [pkF_g hgo, e1, e2, Int.toNat_natCast, Int.toNat_natCast] at hQ
      obtain ⟨a1, a2, b1, b2⟩ := fl S1 R1 _ hI1 hk1 h1
      have hI1' : Inv (pF S1 15 (fF S1 15 + m)) := Inv_mv hI1
      have hB1 := h1.b1 hI1'
      have hL : Rel (pF (mvL S1 p) 15 (fF S1 15 + m)) (liR R1 (mvH S1 p) p (mvC S1 p)) := h1.li (t := mvH S1 p) (p := p) c1
      obtain ⟨hX, hx12⟩ := X_of_lift hI1 c2 c3 hp c1 c5 c6 c4
      have hI3 : Inv (mvL S1 p) := Inv_of_X hX hx12
      have hI3' : Inv (pF (mvL S1 p) 15 (fF S1 15 + m)) := Inv_mv hI3
      have hB3 := hL.b1 hI3'
      have hLa : Rel (pF (mvT S1 p q) 15 (fF S1 15 + m)) (laR (liR R1 (mvH S1 p) p (mvC S1 p)) (mvH S1 p) q (mvD S1 p q)) := hL.la (t := mvH S1 p) (p := q) d1
      have hp6 : gA S1 6 p ≠ -1 := by rw [hpp.1]; omega
      have hq6 : gA S1 6 q ≠ -1 := by rw [hqq.1]; omega
      have r8 : ∀ j, j < 64 → gA R1 8 (64 * p + j) = gA S1 9 (p * 64 + j) := (h1.2.2.1 p hp hp6).2
      have r9 : ∀ j, j < 64 → gA (liR R1 (mvH S1 p) p (mvC S1 p)) 8 (64 * q + j) = gA (mvL S1 p) 9 (q * 64 + j) := (hL.2.2.1 q hq hq6).2
      have x1 : X1_lastThing [vR 0, vI p] R1 (eqr (mvH S1 p) R1) nox := run1_lastThing hp c1 c2 (by rw [r8 _ c1]; exact c4) (fun j hj hj2 => by rw [r8 j hj2]; simpa [frB] using c7 j hj hj2)
      have x2 := run1_lift (R := R1) (t := mvH S1 p) (p := p) (c := mvC S1 p) c2 hp c1 (by rw [h1.2.1.2.2.2.2.2.2]; exact c5) (by rw [(h1.2.2.2 _ c2).2 (by show gA S1 12 _ ≠ -1; omega)]; exact c6)
      have x3 : X1_freeCell [vR 0, vI q] (liR R1 (mvH S1 p) p (mvC S1 p)) (eqr (mvD S1 p q) (liR R1 (mvH S1 p) p (mvC S1 p))) nox := run1_freeCell hq d1 hB3 (by rw [hL.2.1.2.2.2.1]; exact hq6) (by rw [r9 _ d1]; simpa [frB] using d2) (fun j hj => by rw [r9 j (by omega)]; simpa [frB] using d3 j hj)
      rw [e2] at a1
      rw [e1] at a2
      rw [r1_pack_24]
      simp only [r1_pack_0, r1_pack_1, r1_pack_2, r1_pack_5, r1_pack_6, r1_pack_7, r1_pack_10, r1_pack_13, r1_pack_14, r1_pack_15, r1_pack_18, r1_pack_19, r1_pack_20, r1_pack_23, r1_pack_25, r1_pack_26, r1_pack_29, r1_pack_30, r1_pack_31, r1_pack_34, r1_pack_37, r1_pack_38, r1_pack_39, r1_pack_42, r1_pack_43, r1_pack_44, r1_pack_45, r1_pack_46, r1_pack_49, r1_pack_52, r1_pack_54, r1_pack_55, r1_pack_57, r1_pack_60, r1_pack_61, r1_pack_63, r1_pack_64, r1_pack_65, r1_pack_66, r1_pack_69, r1_pack_72, r1_pack_73, r1_pack_74, r1_pack_77, r1_pack_78, r1_pack_79, r1_pack_82, r1_pack_85, r1_pack_86, r1_pack_89, r1_pack_90, r1_pack_91, e_const, e_lconst, e_dconst, e_iload, e_kiload, e_aload, e_kaload, e_lload, e_klload, e_iinc, e_kiinc, e_istore, e_astore, e_lstore, e_dupI, e_dupR, e_dup2, e_iadd, e_isub, e_imul, e_idiv, e_irem, e_ladd, e_lmul, e_i2l, e_i2d, e_ddiv, e_icmp, e_if, e_goto, e_switch, e_tsw0, e_tsw1, e_getI, e_getA, e_putI, e_iald, e_iast, e_tnew, e_tald, e_tast, e_iret, e_zret, e_lret, e_dret, e_vret, e_throw, lg0, ls0, lt0, lg1, ls1, lo1, lt1, lg2, ls2, lo2, lt2, lg3, ls3, lo3, lt3, lg4, ls4, lo4, lt4, lg5, ls5, lo5, lt5, lg6, ls6, lo6, lt6, lg7, ls7, lo7, lt7, lg8, ls8, lo8, lo0, okI, okR, okN, e_calli1, e_calll1, e_callv1, e_xcalli1, e_xcallv1, e_acalli1, e_calli2, e_calll2, e_callv2, e_xcalli2, e_xcallv2, e_acalli2, e_calli3, e_calll3, e_callv3, e_xcalli3, e_xcallv3, e_acalli3, e_calli4, e_calll4, e_callv4, e_xcalli4, e_xcallv4, e_acalli4, e_scalli3, sh4_0, sh4_1, sh4_2, sh4_3, sh4_4, eqr, eqv, true_and, and_true, true_or, or_true, ln1_2, ln1_3, ln1_4, ln1_5, ln1_6, ln1_7, ln1_8, ln1_10, ln1_11, ln1_12]
      refine ⟨_, a1, ?_⟩
      rintro r S2 ⟨rfl, rfl⟩
      refine ⟨_, a2, ?_⟩
      rintro r S3 ⟨rfl, rfl⟩
      refine ⟨⟨⟨by omega, by omega⟩, by omega, by omega⟩, fun z => by omega, fun _ => ⟨_, a1, ?_⟩⟩
      rintro r S4 ⟨rfl, rfl⟩
      refine ⟨_, a2, ?_⟩
      rintro r S5 ⟨rfl, rfl⟩
      refine ⟨_, x1, ?_⟩
      rintro r S6 ⟨rfl, rfl⟩
      refine ⟨_, x2, ?_⟩
      rintro S7 rfl
      refine ⟨_, x3, ?_⟩
      rintro r S8 ⟨rfl, rfl⟩
      refine ⟨_, run1_lay c2 hq d1, ?_⟩
      rintro S9 rfl
      have e14 : fF S6 14 = fF S1 15 + m := h1.1.2.2.2
      have hN := hLa.mv (fF S1 15 + m + 1)
      rw [pF_pF] at hN
      have e15 : fF (laR (liR S6 (mvH S1 p) p (mvC S1 p)) (mvH S1 p) q (mvD S1 p q)) 14 = fF S1 15 + m := e14
      rw [e15]
      have := ih (m + 1) (mvT S1 p q) (pF (laR (liR S6 (mvH S1 p) p (mvC S1 p)) (mvH S1 p) q (mvD S1 p q)) 14 (fF S1 15 + m + 1)) Q hI2 hk1 (by omega) (by
        have e16 : fF (mvT S1 p q) 15 + ((m + 1 : Nat) : Int) = fF S1 15 + m + 1 := by
          show fF S1 15 + ((m + 1 : Nat) : Int) = _
          omega
        rw [e16]
        exact hN) h10 h12 (by
        have e3 : (((m + 1 : Nat) : Int) + (pkF k n (mvT S1 p q)).2) = (m : Int) + ((pkF k n (mvT S1 p q)).2 + 1) := by omega
        rw [e3]
        exact hQ) (some (vI q)) (some (vI (mvH S1 p)))
      exact this
  rw [r1_pack_0]
  simp only [r1_pack_1, r1_pack_2, r1_pack_5, r1_pack_6, r1_pack_7, r1_pack_10, r1_pack_13, r1_pack_14, r1_pack_15, r1_pack_18, r1_pack_19, r1_pack_20, r1_pack_23, r1_pack_25, r1_pack_26, r1_pack_29, r1_pack_30, r1_pack_31, r1_pack_34, r1_pack_37, r1_pack_38, r1_pack_39, r1_pack_42, r1_pack_43, r1_pack_44, r1_pack_45, r1_pack_46, r1_pack_49, r1_pack_52, r1_pack_54, r1_pack_55, r1_pack_57, r1_pack_60, r1_pack_61, r1_pack_63, r1_pack_64, r1_pack_65, r1_pack_66, r1_pack_69, r1_pack_72, r1_pack_73, r1_pack_74, r1_pack_77, r1_pack_78, r1_pack_79, r1_pack_82, r1_pack_85, r1_pack_86, r1_pack_89, r1_pack_90, r1_pack_91, e_const, e_lconst, e_dconst, e_iload, e_kiload, e_aload, e_kaload, e_lload, e_klload, e_iinc, e_kiinc, e_istore, e_astore, e_lstore, e_dupI, e_dupR, e_dup2, e_iadd, e_isub, e_imul, e_idiv, e_irem, e_ladd, e_lmul, e_i2l, e_i2d, e_ddiv, e_icmp, e_if, e_goto, e_switch, e_tsw0, e_tsw1, e_getI, e_getA, e_putI, e_iald, e_iast, e_tnew, e_tald, e_tast, e_iret, e_zret, e_lret, e_dret, e_vret, e_throw, lg0, ls0, lt0, lg1, ls1, lo1, lt1, lg2, ls2, lo2, lt2, lg3, ls3, lo3, lt3, lg4, ls4, lo4, lt4, lg5, ls5, lo5, lt5, lg6, ls6, lo6, lt6, lg7, ls7, lo7, lt7, lg8, ls8, lo8, lo0, okI, okR, okN, e_calli1, e_calll1, e_callv1, e_xcalli1, e_xcallv1, e_acalli1, e_calli2, e_calll2, e_callv2, e_xcalli2, e_xcallv2, e_acalli2, e_calli3, e_calll3, e_callv3, e_xcalli3, e_xcallv3, e_acalli3, e_calli4, e_calll4, e_callv4, e_xcalli4, e_xcallv4, e_acalli4, e_scalli3, sh4_0, sh4_1, sh4_2, sh4_3, sh4_4, eqr, eqv, true_and, and_true, true_or, or_true, ln1_2, ln1_3, ln1_4, ln1_5, ln1_6, ln1_7, ln1_8, ln1_10, ln1_11, ln1_12]
  refine ⟨_, run1_isKind ⟨by omega, by omega⟩ (hB.thr 0), ?_⟩
  rintro r S1 ⟨rfl, rfl⟩
  rw [if1 (show 0 ≤ (k : Int) ∧ (k : Int) < fF (thr R 0) 1 from ⟨by omega, hk1⟩)]
  refine ⟨⟨by omega, by omega⟩, fun _ => ?_, fun z => absurd (by decide) z⟩
  have e14 : fF (pF R 0 0) 14 = fF S 15 := h.1.2.2.2
  rw [e14]
  have hS : Rel (pF S 15 (fF S 15 + ((0 : Nat) : Int))) (thr R 0) := by
    refine (h.thr 0).cg ?_ rfl rfl rfl
    funext j
    show (if j = 15 then fF S 15 + ((0 : Nat) : Int) else S.1 j) = S.1 j
    by_cases e : j = 15
    · rw [if_pos e, e]; exact Int.add_zero _
    · rw [if_neg e]
  refine loop 150 0 S _ _ hI hk (pkM_0 hI hk) hS rfl rfl (fun R2 z1 z2 z3 => ?_) none none
  have e : ((0 : Nat) : Int) + (pkF k 150 S).2 = (pkF k 150 S).2 := by omega
  rw [e] at z1 ⊢
  exact ⟨rfl, z1, z2, z3⟩
