/-! THE REFERENCE, its private reads -/
def B1 (R : ST) : Prop := (0 ≤ fF R 1 ∧ fF R 1 ≤ 6) ∧ (0 ≤ fF R 9 ∧ fF R 9 ≤ 150) ∧ (∀ k : Nat, k < 6 → (0 ≤ gA R 2 k ∧ gA R 2 k ≤ 32) ∧ (0 ≤ gA R 3 k ∧ gA R 3 k ≤ 16) ∧ (0 ≤ gA R 4 k ∧ gA R 4 k ≤ 64) ∧ ((k : Int) < fF R 1 → 1 ≤ gA R 2 k)) ∧ (∀ p : Nat, p < 20 → (-1 ≤ gA R 5 p ∧ gA R 5 p < fF R 1) ∧ (0 ≤ gA R 7 p ∧ gA R 7 p ≤ 64)) ∧ (∀ t : Nat, t < 150 → (0 ≤ gA R 10 t ∧ gA R 10 t < 6) ∧ (-1 ≤ gA R 11 t ∧ gA R 11 t < 20) ∧ (-1 ≤ gA R 12 t ∧ gA R 12 t < 64)) ∧ (∀ p c : Nat, p < 20 → c < 64 → gA R 5 p ≠ -1 → -1 ≤ gA R 8 (64 * p + c) ∧ gA R 8 (64 * p + c) < 150)
theorem B1.kc {R : ST} (h : B1 R) : 0 ≤ fF R 1 ∧ fF R 1 ≤ 6 := h.1
theorem B1.tc {R : ST} (h : B1 R) : 0 ≤ fF R 9 ∧ fF R 9 ≤ 150 := h.2.1
theorem B1.kd {R : ST} (h : B1 R) {k : Nat} (hk : k < 6) : (0 ≤ gA R 2 k ∧ gA R 2 k ≤ 32) ∧ (0 ≤ gA R 3 k ∧ gA R 3 k ≤ 16) ∧ (0 ≤ gA R 4 k ∧ gA R 4 k ≤ 64) ∧ ((k : Int) < fF R 1 → 1 ≤ gA R 2 k) := h.2.2.1 k hk
theorem B1.pl {R : ST} (h : B1 R) {p : Nat} (hp : p < 20) : (-1 ≤ gA R 5 p ∧ gA R 5 p < fF R 1) ∧ (0 ≤ gA R 7 p ∧ gA R 7 p ≤ 64) := h.2.2.2.1 p hp
theorem B1.th {R : ST} (h : B1 R) {t : Nat} (ht : t < 150) : (0 ≤ gA R 10 t ∧ gA R 10 t < 6) ∧ (-1 ≤ gA R 11 t ∧ gA R 11 t < 20) ∧ (-1 ≤ gA R 12 t ∧ gA R 12 t < 64) := h.2.2.2.2.1 t ht
theorem B1.cl {R : ST} (h : B1 R) {p c : Nat} (hp : p < 20) (hc : c < 64) (hn : gA R 5 p ≠ -1) : -1 ≤ gA R 8 (64 * p + c) ∧ gA R 8 (64 * p + c) < 150 := h.2.2.2.2.2 p c hp hc hn
abbrev thr (R : ST) (n : Int) : ST := pF R 0 n
theorem B1.thr {R : ST} (h : B1 R) (n : Int) : B1 (thr R n) := h
theorem thr_thr (R : ST) (m n : Int) : pF (pF R 0 m) 0 n = pF R 0 n := by
  unfold pF
  refine Prod.ext ?_ rfl
  funext j
  by_cases h : j = 0 <;> simp [h]
theorem run1_isIn {R : ST} {v lo hi : Int} (h1 : rng v) (h2 : rng lo) (h3 : rng hi) : X1_isIn [vI v, vI lo, vI hi] R (eqr (if lo ≤ v ∧ v ≤ hi then 1 else 0) R) nox := by
  refine ⟨Nat.le_of_ble_eq_true rfl, ?_⟩
  show RR _ 0 [some (vI v), some (vI lo), some (vI hi)] [] R
  simp only [r1_isIn_0, r1_isIn_1, r1_isIn_2, r1_isIn_5, r1_isIn_6, r1_isIn_7, r1_isIn_10, r1_isIn_11, r1_isIn_14, r1_isIn_15, e_const, e_lconst, e_dconst, e_iload, e_kiload, e_aload, e_kaload, e_lload, e_klload, e_iinc, e_kiinc, e_istore, e_astore, e_lstore, e_dupI, e_dupR, e_dup2, e_iadd, e_isub, e_imul, e_idiv, e_irem, e_ladd, e_lmul, e_i2l, e_i2d, e_ddiv, e_icmp, e_if, e_goto, e_switch, e_tsw0, e_tsw1, e_getI, e_getA, e_putI, e_iald, e_iast, e_tnew, e_tald, e_tast, e_iret, e_zret, e_lret, e_dret, e_vret, e_throw, lg0, ls0, lt0, lg1, ls1, lo1, lt1, lg2, ls2, lo2, lt2, lg3, ls3, lo3, lt3, lg4, ls4, lo4, lt4, lg5, ls5, lo5, lt5, lg6, ls6, lo6, lt6, lg7, ls7, lo7, lt7, lg8, ls8, lo8, lo0, okI, okR, okN, e_calli1, e_calll1, e_callv1, e_xcalli1, e_xcallv1, e_acalli1, e_calli2, e_calll2, e_callv2, e_xcalli2, e_xcallv2, e_acalli2, e_calli3, e_calll3, e_callv3, e_xcalli3, e_xcallv3, e_acalli3, e_calli4, e_calll4, e_callv4, e_xcalli4, e_xcallv4, e_acalli4, e_scalli3, sh4_0, sh4_1, sh4_2, sh4_3, sh4_4, eqr, eqv, true_and, and_true, true_or, or_true, ln1_2, ln1_3, ln1_4, ln1_5, ln1_6, ln1_7, ln1_8, ln1_10, ln1_11, ln1_12]
  ((repeat' (first | apply And.intro | intro _)) <;> first | omega | trivial | rfl | (split <;> omega))
theorem run1_isKind {R : ST} {k : Int} (hk : rng k) (hB : B1 R) : X1_isKind [vR 0, vI k] R (eqr (if 0 ≤ k ∧ k < fF R 1 then 1 else 0) R) nox := by
  have h0 := hB.kc
  refine ⟨Nat.le_of_ble_eq_true rfl, ?_⟩
  show RR _ 0 [some (vR 0), some (vI k)] [] R
  simp only [r1_isKind_0, r1_isKind_1, r1_isKind_2, r1_isKind_3, r1_isKind_6, r1_isKind_7, r1_isKind_8, r1_isKind_11, e_const, e_lconst, e_dconst, e_iload, e_kiload, e_aload, e_kaload, e_lload, e_klload, e_iinc, e_kiinc, e_istore, e_astore, e_lstore, e_dupI, e_dupR, e_dup2, e_iadd, e_isub, e_imul, e_idiv, e_irem, e_ladd, e_lmul, e_i2l, e_i2d, e_ddiv, e_icmp, e_if, e_goto, e_switch, e_tsw0, e_tsw1, e_getI, e_getA, e_putI, e_iald, e_iast, e_tnew, e_tald, e_tast, e_iret, e_zret, e_lret, e_dret, e_vret, e_throw, lg0, ls0, lt0, lg1, ls1, lo1, lt1, lg2, ls2, lo2, lt2, lg3, ls3, lo3, lt3, lg4, ls4, lo4, lt4, lg5, ls5, lo5, lt5, lg6, ls6, lo6, lt6, lg7, ls7, lo7, lt7, lg8, ls8, lo8, lo0, okI, okR, okN, e_calli1, e_calll1, e_callv1, e_xcalli1, e_xcallv1, e_acalli1, e_calli2, e_calll2, e_callv2, e_xcalli2, e_xcallv2, e_acalli2, e_calli3, e_calll3, e_callv3, e_xcalli3, e_xcallv3, e_acalli3, e_calli4, e_calll4, e_callv4, e_xcalli4, e_xcallv4, e_acalli4, e_scalli3, sh4_0, sh4_1, sh4_2, sh4_3, sh4_4, eqr, eqv, true_and, and_true, true_or, or_true, ln1_2, ln1_3, ln1_4, ln1_5, ln1_6, ln1_7, ln1_8, ln1_10, ln1_11, ln1_12]
  refine ⟨_, run1_isIn hk ⟨by omega, by omega⟩ ⟨by omega, by omega⟩, ?_⟩
  rintro r S1 ⟨rfl, rfl⟩
  have e : (if 0 ≤ k ∧ k ≤ fF S1 1 - 1 then (1 : Int) else 0) = if 0 ≤ k ∧ k < fF S1 1 then 1 else 0 := by
    by_cases h : 0 ≤ k ∧ k < fF S1 1
    · rw [if_pos h, if_pos ⟨h.1, by omega⟩]
    · rw [if_neg h, if_neg (fun z => h ⟨z.1, by omega⟩)]
  rw [e]
  refine ⟨?_, rfl, rfl⟩
  split <;> omega
theorem run1_isThing {R : ST} {k : Int} (hk : rng k) (hB : B1 R) : X1_isThing [vR 0, vI k] R (eqr (if 0 ≤ k ∧ k < fF R 9 then 1 else 0) R) nox := by
  have h0 := hB.tc
  refine ⟨Nat.le_of_ble_eq_true rfl, ?_⟩
  show RR _ 0 [some (vR 0), some (vI k)] [] R
  simp only [r1_isThing_0, r1_isThing_1, r1_isThing_2, r1_isThing_3, r1_isThing_6, r1_isThing_7, r1_isThing_8, r1_isThing_11, e_const, e_lconst, e_dconst, e_iload, e_kiload, e_aload, e_kaload, e_lload, e_klload, e_iinc, e_kiinc, e_istore, e_astore, e_lstore, e_dupI, e_dupR, e_dup2, e_iadd, e_isub, e_imul, e_idiv, e_irem, e_ladd, e_lmul, e_i2l, e_i2d, e_ddiv, e_icmp, e_if, e_goto, e_switch, e_tsw0, e_tsw1, e_getI, e_getA, e_putI, e_iald, e_iast, e_tnew, e_tald, e_tast, e_iret, e_zret, e_lret, e_dret, e_vret, e_throw, lg0, ls0, lt0, lg1, ls1, lo1, lt1, lg2, ls2, lo2, lt2, lg3, ls3, lo3, lt3, lg4, ls4, lo4, lt4, lg5, ls5, lo5, lt5, lg6, ls6, lo6, lt6, lg7, ls7, lo7, lt7, lg8, ls8, lo8, lo0, okI, okR, okN, e_calli1, e_calll1, e_callv1, e_xcalli1, e_xcallv1, e_acalli1, e_calli2, e_calll2, e_callv2, e_xcalli2, e_xcallv2, e_acalli2, e_calli3, e_calll3, e_callv3, e_xcalli3, e_xcallv3, e_acalli3, e_calli4, e_calll4, e_callv4, e_xcalli4, e_xcallv4, e_acalli4, e_scalli3, sh4_0, sh4_1, sh4_2, sh4_3, sh4_4, eqr, eqv, true_and, and_true, true_or, or_true, ln1_2, ln1_3, ln1_4, ln1_5, ln1_6, ln1_7, ln1_8, ln1_10, ln1_11, ln1_12]
  refine ⟨_, run1_isIn hk ⟨by omega, by omega⟩ ⟨by omega, by omega⟩, ?_⟩
  rintro r S1 ⟨rfl, rfl⟩
  have e : (if 0 ≤ k ∧ k ≤ fF S1 9 - 1 then (1 : Int) else 0) = if 0 ≤ k ∧ k < fF S1 9 then 1 else 0 := by
    by_cases h : 0 ≤ k ∧ k < fF S1 9
    · rw [if_pos h, if_pos ⟨h.1, by omega⟩]
    · rw [if_neg h, if_neg (fun z => h ⟨z.1, by omega⟩)]
  rw [e]
  refine ⟨?_, rfl, rfl⟩
  split <;> omega
theorem run1_no {R : ST} {n : Int} : X1_no [vR 0, vI n] R (eqr 0 (thr R n)) nox := by
  refine ⟨Nat.le_of_ble_eq_true rfl, ?_⟩
  show RR _ 0 [some (vR 0), some (vI n)] [] R
  simp only [r1_no_0, r1_no_1, r1_no_2, r1_no_5, r1_no_6, e_const, e_lconst, e_dconst, e_iload, e_kiload, e_aload, e_kaload, e_lload, e_klload, e_iinc, e_kiinc, e_istore, e_astore, e_lstore, e_dupI, e_dupR, e_dup2, e_iadd, e_isub, e_imul, e_idiv, e_irem, e_ladd, e_lmul, e_i2l, e_i2d, e_ddiv, e_icmp, e_if, e_goto, e_switch, e_tsw0, e_tsw1, e_getI, e_getA, e_putI, e_iald, e_iast, e_tnew, e_tald, e_tast, e_iret, e_zret, e_lret, e_dret, e_vret, e_throw, lg0, ls0, lt0, lg1, ls1, lo1, lt1, lg2, ls2, lo2, lt2, lg3, ls3, lo3, lt3, lg4, ls4, lo4, lt4, lg5, ls5, lo5, lt5, lg6, ls6, lo6, lt6, lg7, ls7, lo7, lt7, lg8, ls8, lo8, lo0, okI, okR, okN, e_calli1, e_calll1, e_callv1, e_xcalli1, e_xcallv1, e_acalli1, e_calli2, e_calll2, e_callv2, e_xcalli2, e_xcallv2, e_acalli2, e_calli3, e_calll3, e_callv3, e_xcalli3, e_xcallv3, e_acalli3, e_calli4, e_calll4, e_callv4, e_xcalli4, e_xcallv4, e_acalli4, e_scalli3, sh4_0, sh4_1, sh4_2, sh4_3, sh4_4, eqr, eqv, true_and, and_true, true_or, or_true, ln1_2, ln1_3, ln1_4, ln1_5, ln1_6, ln1_7, ln1_8, ln1_10, ln1_11, ln1_12]
theorem run1_thrown {R : ST} : X1_thrown [vR 0] R (eqr (fF R 0) R) nox := by
  refine ⟨Nat.le_of_ble_eq_true rfl, ?_⟩
  show RR _ 0 [some (vR 0)] [] R
  simp only [r1_thrown_0, r1_thrown_1, r1_thrown_4, e_const, e_lconst, e_dconst, e_iload, e_kiload, e_aload, e_kaload, e_lload, e_klload, e_iinc, e_kiinc, e_istore, e_astore, e_lstore, e_dupI, e_dupR, e_dup2, e_iadd, e_isub, e_imul, e_idiv, e_irem, e_ladd, e_lmul, e_i2l, e_i2d, e_ddiv, e_icmp, e_if, e_goto, e_switch, e_tsw0, e_tsw1, e_getI, e_getA, e_putI, e_iald, e_iast, e_tnew, e_tald, e_tast, e_iret, e_zret, e_lret, e_dret, e_vret, e_throw, lg0, ls0, lt0, lg1, ls1, lo1, lt1, lg2, ls2, lo2, lt2, lg3, ls3, lo3, lt3, lg4, ls4, lo4, lt4, lg5, ls5, lo5, lt5, lg6, ls6, lo6, lt6, lg7, ls7, lo7, lt7, lg8, ls8, lo8, lo0, okI, okR, okN, e_calli1, e_calll1, e_callv1, e_xcalli1, e_xcallv1, e_acalli1, e_calli2, e_calll2, e_callv2, e_xcalli2, e_xcallv2, e_acalli2, e_calli3, e_calll3, e_callv3, e_xcalli3, e_xcallv3, e_acalli3, e_calli4, e_calll4, e_callv4, e_xcalli4, e_xcallv4, e_acalli4, e_scalli3, sh4_0, sh4_1, sh4_2, sh4_3, sh4_4, eqr, eqv, true_and, and_true, true_or, or_true, ln1_2, ln1_3, ln1_4, ln1_5, ln1_6, ln1_7, ln1_8, ln1_10, ln1_11, ln1_12]
def csR (R : ST) (k : Nat) : Int := 64 / gA R 2 k
theorem csR_b {R : ST} {k : Nat} (hk : (k : Int) < fF R 1) (hB : B1 R) : 2 ≤ csR R k ∧ csR R k ≤ 64 ∧ 1 ≤ gA R 2 k := by
  have h0 := hB.kc
  have h1 := hB.kd (k := k) (by omega)
  have h2 := h1.2.2.2 hk
  refine ⟨(Int.le_ediv_iff_mul_le (by omega)).mpr (by omega), Int.ediv_le_self _ (by decide), h2⟩
theorem run1_cells {R : ST} {k : Nat} (hk : (k : Int) < fF R 1) (hB : B1 R) : X1_cells [vR 0, vI k] R (eqr (csR R k) R) nox := by
  have h0 := hB.kc
  have h1 := hB.kd (k := k) (by omega)
  have h2 := h1.2.2.2 hk
  refine ⟨Nat.le_of_ble_eq_true rfl, ?_⟩
  show RR _ 0 [some (vR 0), some (vI k)] [] R
  simp only [r1_cells_0, r1_cells_2, r1_cells_3, r1_cells_6, r1_cells_7, r1_cells_8, r1_cells_9, e_const, e_lconst, e_dconst, e_iload, e_kiload, e_aload, e_kaload, e_lload, e_klload, e_iinc, e_kiinc, e_istore, e_astore, e_lstore, e_dupI, e_dupR, e_dup2, e_iadd, e_isub, e_imul, e_idiv, e_irem, e_ladd, e_lmul, e_i2l, e_i2d, e_ddiv, e_icmp, e_if, e_goto, e_switch, e_tsw0, e_tsw1, e_getI, e_getA, e_putI, e_iald, e_iast, e_tnew, e_tald, e_tast, e_iret, e_zret, e_lret, e_dret, e_vret, e_throw, lg0, ls0, lt0, lg1, ls1, lo1, lt1, lg2, ls2, lo2, lt2, lg3, ls3, lo3, lt3, lg4, ls4, lo4, lt4, lg5, ls5, lo5, lt5, lg6, ls6, lo6, lt6, lg7, ls7, lo7, lt7, lg8, ls8, lo8, lo0, okI, okR, okN, e_calli1, e_calll1, e_callv1, e_xcalli1, e_xcallv1, e_acalli1, e_calli2, e_calll2, e_callv2, e_xcalli2, e_xcallv2, e_acalli2, e_calli3, e_calll3, e_callv3, e_xcalli3, e_xcallv3, e_acalli3, e_calli4, e_calll4, e_callv4, e_xcalli4, e_xcallv4, e_acalli4, e_scalli3, sh4_0, sh4_1, sh4_2, sh4_3, sh4_4, eqr, eqv, true_and, and_true, true_or, or_true, ln1_2, ln1_3, ln1_4, ln1_5, ln1_6, ln1_7, ln1_8, ln1_10, ln1_11, ln1_12, Int.toNat_natCast]
  exact ⟨⟨by omega, by omega⟩, ⟨⟨by omega, by omega⟩, by omega, by omega⟩, rfl⟩
theorem run1_isEmpty {R : ST} {p : Nat} {k : Int} (hp : p < 20) (hk : rng k) (hB : B1 R) : X1_isEmpty [vR 0, vI p, vI k] R (eqr (if gA R 5 p = k ∧ gA R 7 p = 0 then 1 else 0) R) nox := by
  have h0 := hB.kc
  have h1 := hB.pl hp
  refine ⟨Nat.le_of_ble_eq_true rfl, ?_⟩
  show RR _ 0 [some (vR 0), some (vI p), some (vI k)] [] R
  simp only [r1_isEmpty_0, r1_isEmpty_1, r1_isEmpty_4, r1_isEmpty_5, r1_isEmpty_6, r1_isEmpty_7, r1_isEmpty_10, r1_isEmpty_11, r1_isEmpty_14, r1_isEmpty_15, r1_isEmpty_16, r1_isEmpty_19, r1_isEmpty_20, r1_isEmpty_23, r1_isEmpty_24, e_const, e_lconst, e_dconst, e_iload, e_kiload, e_aload, e_kaload, e_lload, e_klload, e_iinc, e_kiinc, e_istore, e_astore, e_lstore, e_dupI, e_dupR, e_dup2, e_iadd, e_isub, e_imul, e_idiv, e_irem, e_ladd, e_lmul, e_i2l, e_i2d, e_ddiv, e_icmp, e_if, e_goto, e_switch, e_tsw0, e_tsw1, e_getI, e_getA, e_putI, e_iald, e_iast, e_tnew, e_tald, e_tast, e_iret, e_zret, e_lret, e_dret, e_vret, e_throw, lg0, ls0, lt0, lg1, ls1, lo1, lt1, lg2, ls2, lo2, lt2, lg3, ls3, lo3, lt3, lg4, ls4, lo4, lt4, lg5, ls5, lo5, lt5, lg6, ls6, lo6, lt6, lg7, ls7, lo7, lt7, lg8, ls8, lo8, lo0, okI, okR, okN, e_calli1, e_calll1, e_callv1, e_xcalli1, e_xcallv1, e_acalli1, e_calli2, e_calll2, e_callv2, e_xcalli2, e_xcallv2, e_acalli2, e_calli3, e_calll3, e_callv3, e_xcalli3, e_xcallv3, e_acalli3, e_calli4, e_calll4, e_callv4, e_xcalli4, e_xcallv4, e_acalli4, e_scalli3, sh4_0, sh4_1, sh4_2, sh4_3, sh4_4, eqr, eqv, true_and, and_true, true_or, or_true, ln1_2, ln1_3, ln1_4, ln1_5, ln1_6, ln1_7, ln1_8, ln1_10, ln1_11, ln1_12, Int.toNat_natCast]
  ((repeat' (first | apply And.intro | intro _)) <;> first | omega | trivial | rfl | (split <;> omega))
theorem run1_isPartly {R : ST} {p k : Nat} (hp : p < 20) (hk : (k : Int) < fF R 1) (hB : B1 R) : X1_isPartly [vR 0, vI p, vI k] R (eqr (if gA R 5 p = k ∧ 0 < gA R 7 p ∧ gA R 7 p < csR R k then 1 else 0) R) nox := by
  have h0 := hB.kc
  have h1 := hB.pl hp
  have h2 := csR_b hk hB
  refine ⟨Nat.le_of_ble_eq_true rfl, ?_⟩
  show RR _ 0 [some (vR 0), some (vI p), some (vI k)] [] R
  simp only [r1_isPartly_0, r1_isPartly_1, r1_isPartly_4, r1_isPartly_5, r1_isPartly_6, r1_isPartly_7, r1_isPartly_10, r1_isPartly_11, r1_isPartly_14, r1_isPartly_15, r1_isPartly_16, r1_isPartly_19, r1_isPartly_20, r1_isPartly_23, r1_isPartly_24, r1_isPartly_25, r1_isPartly_26, r1_isPartly_27, r1_isPartly_30, r1_isPartly_33, r1_isPartly_34, r1_isPartly_37, r1_isPartly_38, e_const, e_lconst, e_dconst, e_iload, e_kiload, e_aload, e_kaload, e_lload, e_klload, e_iinc, e_kiinc, e_istore, e_astore, e_lstore, e_dupI, e_dupR, e_dup2, e_iadd, e_isub, e_imul, e_idiv, e_irem, e_ladd, e_lmul, e_i2l, e_i2d, e_ddiv, e_icmp, e_if, e_goto, e_switch, e_tsw0, e_tsw1, e_getI, e_getA, e_putI, e_iald, e_iast, e_tnew, e_tald, e_tast, e_iret, e_zret, e_lret, e_dret, e_vret, e_throw, lg0, ls0, lt0, lg1, ls1, lo1, lt1, lg2, ls2, lo2, lt2, lg3, ls3, lo3, lt3, lg4, ls4, lo4, lt4, lg5, ls5, lo5, lt5, lg6, ls6, lo6, lt6, lg7, ls7, lo7, lt7, lg8, ls8, lo8, lo0, okI, okR, okN, e_calli1, e_calll1, e_callv1, e_xcalli1, e_xcallv1, e_acalli1, e_calli2, e_calll2, e_callv2, e_xcalli2, e_xcallv2, e_acalli2, e_calli3, e_calll3, e_callv3, e_xcalli3, e_xcallv3, e_acalli3, e_calli4, e_calll4, e_callv4, e_xcalli4, e_xcallv4, e_acalli4, e_scalli3, sh4_0, sh4_1, sh4_2, sh4_3, sh4_4, eqr, eqv, true_and, and_true, true_or, or_true, ln1_2, ln1_3, ln1_4, ln1_5, ln1_6, ln1_7, ln1_8, ln1_10, ln1_11, ln1_12, Int.toNat_natCast]
  refine ⟨⟨by omega, by omega⟩, ⟨⟨by omega, by omega⟩, by omega, by omega⟩, fun h => ?_, fun h => ⟨⟨by omega, by omega⟩, ⟨by omega, by omega⟩, fun h3 => ?_, fun h3 => ⟨⟨by omega, by omega⟩, _, run1_cells hk hB, ?_⟩⟩⟩
  · ((repeat' (first | apply And.intro | intro _)) <;> first | omega | trivial | rfl | (split <;> omega))
  · ((repeat' (first | apply And.intro | intro _)) <;> first | omega | trivial | rfl | (split <;> omega))
  · rintro r S1 ⟨rfl, rfl⟩
    ((repeat' (first | apply And.intro | intro _)) <;> first | omega | trivial | rfl | (split <;> omega))
/-- of several the best one: what the class's own choice says of it -/
theorem mp_no {f g : Nat → Int} {k c : Int} : ∀ n : Nat, (mp f g k c n).1 = -1 → (mp f g k c n).2 = 0
  | 0, _ => rfl
  | n + 1, h => by
    by_cases z : (f n = k ∧ 0 < g n ∧ g n < c) ∧ (mp f g k c n).2 < g n
    · rw [mp_y z] at h; have h2 : (n : Int) = -1 := h; omega
    · rw [mp_n z] at h ⊢; exact mp_no n h
theorem lp_no {f g : Nat → Int} {k c : Int} : ∀ n : Nat, (lp f g k c n).1 = -1 → (lp f g k c n).2 = 64
  | 0, _ => rfl
  | n + 1, h => by
    by_cases z : (f n = k ∧ 0 < g n ∧ g n < c) ∧ g n ≤ (lp f g k c n).2
    · rw [lp_y z] at h; have h2 : (n : Int) = -1 := h; omega
    · rw [lp_n z] at h ⊢; exact lp_no n h
theorem run1_fullest {R : ST} {k : Nat} (hk : (k : Int) < fF R 1) (hB : B1 R) : X1_fullest [vR 0, vI k] R (eqr (mp (gA R 5) (gA R 7) k (csR R k) 20).1 R) nox := by
  have hc := csR_b hk hB
  refine ⟨Nat.le_of_ble_eq_true rfl, ?_⟩
  show RR _ 0 [some (vR 0), some (vI k), none, none] [] R
  have loop : ∀ i, i ≤ 20 → RR (T1_fullest (eqr (mp (gA R 5) (gA R 7) k (csR R k) 20).1 R) nox) 4 [some (vR 0), some (vI k), some (vI (mp (gA R 5) (gA R 7) k (csR R k) i).1), some (vI i)] [] R := by
    refine up ?_ ?_
    · rw [r1_fullest_4]
      simp only [r1_fullest_0, r1_fullest_1, r1_fullest_2, r1_fullest_3, r1_fullest_5, r1_fullest_7, r1_fullest_10, r1_fullest_11, r1_fullest_12, r1_fullest_13, r1_fullest_16, r1_fullest_19, r1_fullest_20, r1_fullest_21, r1_fullest_24, r1_fullest_25, r1_fullest_28, r1_fullest_29, r1_fullest_30, r1_fullest_31, r1_fullest_34, r1_fullest_35, r1_fullest_36, r1_fullest_39, r1_fullest_40, r1_fullest_41, r1_fullest_44, r1_fullest_47, r1_fullest_48, e_const, e_lconst, e_dconst, e_iload, e_kiload, e_aload, e_kaload, e_lload, e_klload, e_iinc, e_kiinc, e_istore, e_astore, e_lstore, e_dupI, e_dupR, e_dup2, e_iadd, e_isub, e_imul, e_idiv, e_irem, e_ladd, e_lmul, e_i2l, e_i2d, e_ddiv, e_icmp, e_if, e_goto, e_switch, e_tsw0, e_tsw1, e_getI, e_getA, e_putI, e_iald, e_iast, e_tnew, e_tald, e_tast, e_iret, e_zret, e_lret, e_dret, e_vret, e_throw, lg0, ls0, lt0, lg1, ls1, lo1, lt1, lg2, ls2, lo2, lt2, lg3, ls3, lo3, lt3, lg4, ls4, lo4, lt4, lg5, ls5, lo5, lt5, lg6, ls6, lo6, lt6, lg7, ls7, lo7, lt7, lg8, ls8, lo8, lo0, okI, okR, okN, e_calli1, e_calll1, e_callv1, e_xcalli1, e_xcallv1, e_acalli1, e_calli2, e_calll2, e_callv2, e_xcalli2, e_xcallv2, e_acalli2, e_calli3, e_calll3, e_callv3, e_xcalli3, e_xcallv3, e_acalli3, e_calli4, e_calll4, e_callv4, e_xcalli4, e_xcallv4, e_acalli4, e_scalli3, sh4_0, sh4_1, sh4_2, sh4_3, sh4_4, eqr, eqv, true_and, and_true, true_or, or_true, ln1_2, ln1_3, ln1_4, ln1_5, ln1_6, ln1_7, ln1_8, ln1_10, ln1_11, ln1_12]
      exact ⟨⟨⟨by omega, by omega⟩, by omega, by omega⟩, fun h => trivial, fun h => absurd h (by omega)⟩
    · intro i hi ih
      rw [r1_fullest_4]
      simp only [r1_fullest_0, r1_fullest_1, r1_fullest_2, r1_fullest_3, r1_fullest_5, r1_fullest_7, r1_fullest_10, r1_fullest_11, r1_fullest_12, r1_fullest_13, r1_fullest_16, r1_fullest_19, r1_fullest_20, r1_fullest_21, r1_fullest_24, r1_fullest_25, r1_fullest_28, r1_fullest_29, r1_fullest_30, r1_fullest_31, r1_fullest_34, r1_fullest_35, r1_fullest_36, r1_fullest_39, r1_fullest_40, r1_fullest_41, r1_fullest_44, r1_fullest_47, r1_fullest_48, e_const, e_lconst, e_dconst, e_iload, e_kiload, e_aload, e_kaload, e_lload, e_klload, e_iinc, e_kiinc, e_istore, e_astore, e_lstore, e_dupI, e_dupR, e_dup2, e_iadd, e_isub, e_imul, e_idiv, e_irem, e_ladd, e_lmul, e_i2l, e_i2d, e_ddiv, e_icmp, e_if, e_goto, e_switch, e_tsw0, e_tsw1, e_getI, e_getA, e_putI, e_iald, e_iast, e_tnew, e_tald, e_tast, e_iret, e_zret, e_lret, e_dret, e_vret, e_throw, lg0, ls0, lt0, lg1, ls1, lo1, lt1, lg2, ls2, lo2, lt2, lg3, ls3, lo3, lt3, lg4, ls4, lo4, lt4, lg5, ls5, lo5, lt5, lg6, ls6, lo6, lt6, lg7, ls7, lo7, lt7, lg8, ls8, lo8, lo0, okI, okR, okN, e_calli1, e_calll1, e_callv1, e_xcalli1, e_xcallv1, e_acalli1, e_calli2, e_calll2, e_callv2, e_xcalli2, e_xcallv2, e_acalli2, e_calli3, e_calll3, e_callv3, e_xcalli3, e_xcallv3, e_acalli3, e_calli4, e_calll4, e_callv4, e_xcalli4, e_xcallv4, e_acalli4, e_scalli3, sh4_0, sh4_1, sh4_2, sh4_3, sh4_4, eqr, eqv, true_and, and_true, true_or, or_true, ln1_2, ln1_3, ln1_4, ln1_5, ln1_6, ln1_7, ln1_8, ln1_10, ln1_11, ln1_12, Int.toNat_natCast]
      have h1 := hB.pl hi
      have h9 := mp_b (f := gA R 5) (g := gA R 7) (k := (k : Int)) (c := csR R k) (by omega) i
      have h8 := mp_no (f := gA R 5) (g := gA R 7) (k := (k : Int)) (c := csR R k) i
      have h7 := mp_at (f := gA R 5) (g := gA R 7) (k := (k : Int)) (c := csR R k) i
      refine ⟨⟨⟨by omega, by omega⟩, by omega, by omega⟩, fun h => by omega, fun h => ⟨_, run1_isPartly hi hk hB, ?_⟩⟩
      rintro r S1 ⟨rfl, rfl⟩
      by_cases hp : gA S1 5 i = k ∧ 0 < gA S1 7 i ∧ gA S1 7 i < csR S1 k
      · rw [if_pos hp]
        refine ⟨⟨by omega, by omega⟩, fun h => by omega, fun _ => ⟨⟨⟨by omega, by omega⟩, by omega, by omega⟩, fun h2 => ?_, fun h2 => ?_⟩⟩
        · rw [mp_y (n := i) ⟨hp, by have := h8 h2; omega⟩] at ih
          exact ih
        · rcases h7 with z | ⟨q, q1, q2, q3, q4, q5, q6⟩
          · exact absurd z h2
          · rw [q2, Int.toNat_natCast]
            refine ⟨⟨by omega, by omega⟩, ⟨by omega, by omega⟩, ⟨⟨by omega, by omega⟩, by omega, by omega⟩, fun h3 => ?_, fun h3 => ?_⟩
            · rw [mp_n (n := i) (fun z => by omega), q2] at ih
              exact ih
            · rw [mp_y (n := i) ⟨hp, by omega⟩] at ih
              exact ih
      · rw [if_neg hp]
        refine ⟨⟨by omega, by omega⟩, fun _ => ?_, fun h => absurd rfl h⟩
        rw [mp_n (n := i) (fun z => hp z.1)] at ih
        exact ih
  simp only [r1_fullest_0, r1_fullest_1, r1_fullest_2, r1_fullest_3, r1_fullest_5, r1_fullest_7, r1_fullest_10, r1_fullest_11, r1_fullest_12, r1_fullest_13, r1_fullest_16, r1_fullest_19, r1_fullest_20, r1_fullest_21, r1_fullest_24, r1_fullest_25, r1_fullest_28, r1_fullest_29, r1_fullest_30, r1_fullest_31, r1_fullest_34, r1_fullest_35, r1_fullest_36, r1_fullest_39, r1_fullest_40, r1_fullest_41, r1_fullest_44, r1_fullest_47, r1_fullest_48, e_const, e_lconst, e_dconst, e_iload, e_kiload, e_aload, e_kaload, e_lload, e_klload, e_iinc, e_kiinc, e_istore, e_astore, e_lstore, e_dupI, e_dupR, e_dup2, e_iadd, e_isub, e_imul, e_idiv, e_irem, e_ladd, e_lmul, e_i2l, e_i2d, e_ddiv, e_icmp, e_if, e_goto, e_switch, e_tsw0, e_tsw1, e_getI, e_getA, e_putI, e_iald, e_iast, e_tnew, e_tald, e_tast, e_iret, e_zret, e_lret, e_dret, e_vret, e_throw, lg0, ls0, lt0, lg1, ls1, lo1, lt1, lg2, ls2, lo2, lt2, lg3, ls3, lo3, lt3, lg4, ls4, lo4, lt4, lg5, ls5, lo5, lt5, lg6, ls6, lo6, lt6, lg7, ls7, lo7, lt7, lg8, ls8, lo8, lo0, okI, okR, okN, e_calli1, e_calll1, e_callv1, e_xcalli1, e_xcallv1, e_acalli1, e_calli2, e_calll2, e_callv2, e_xcalli2, e_xcallv2, e_acalli2, e_calli3, e_calll3, e_callv3, e_xcalli3, e_xcallv3, e_acalli3, e_calli4, e_calll4, e_callv4, e_xcalli4, e_xcallv4, e_acalli4, e_scalli3, sh4_0, sh4_1, sh4_2, sh4_3, sh4_4, eqr, eqv, true_and, and_true, true_or, or_true, ln1_2, ln1_3, ln1_4, ln1_5, ln1_6, ln1_7, ln1_8, ln1_10, ln1_11, ln1_12]
  exact loop 0 (by omega)
theorem run1_leanest {R : ST} {k : Nat} (hk : (k : Int) < fF R 1) (hB : B1 R) : X1_leanest [vR 0, vI k] R (eqr (lp (gA R 5) (gA R 7) k (csR R k) 20).1 R) nox := by
  have hc := csR_b hk hB
  refine ⟨Nat.le_of_ble_eq_true rfl, ?_⟩
  show RR _ 0 [some (vR 0), some (vI k), none, none] [] R
  have loop : ∀ i, i ≤ 20 → RR (T1_leanest (eqr (lp (gA R 5) (gA R 7) k (csR R k) 20).1 R) nox) 4 [some (vR 0), some (vI k), some (vI (lp (gA R 5) (gA R 7) k (csR R k) i).1), some (vI i)] [] R := by
    refine up ?_ ?_
    · rw [r1_leanest_4]
      simp only [r1_leanest_0, r1_leanest_1, r1_leanest_2, r1_leanest_3, r1_leanest_5, r1_leanest_7, r1_leanest_10, r1_leanest_11, r1_leanest_12, r1_leanest_13, r1_leanest_16, r1_leanest_19, r1_leanest_20, r1_leanest_21, r1_leanest_24, r1_leanest_25, r1_leanest_28, r1_leanest_29, r1_leanest_30, r1_leanest_31, r1_leanest_34, r1_leanest_35, r1_leanest_36, r1_leanest_39, r1_leanest_40, r1_leanest_41, r1_leanest_44, r1_leanest_47, r1_leanest_48, e_const, e_lconst, e_dconst, e_iload, e_kiload, e_aload, e_kaload, e_lload, e_klload, e_iinc, e_kiinc, e_istore, e_astore, e_lstore, e_dupI, e_dupR, e_dup2, e_iadd, e_isub, e_imul, e_idiv, e_irem, e_ladd, e_lmul, e_i2l, e_i2d, e_ddiv, e_icmp, e_if, e_goto, e_switch, e_tsw0, e_tsw1, e_getI, e_getA, e_putI, e_iald, e_iast, e_tnew, e_tald, e_tast, e_iret, e_zret, e_lret, e_dret, e_vret, e_throw, lg0, ls0, lt0, lg1, ls1, lo1, lt1, lg2, ls2, lo2, lt2, lg3, ls3, lo3, lt3, lg4, ls4, lo4, lt4, lg5, ls5, lo5, lt5, lg6, ls6, lo6, lt6, lg7, ls7, lo7, lt7, lg8, ls8, lo8, lo0, okI, okR, okN, e_calli1, e_calll1, e_callv1, e_xcalli1, e_xcallv1, e_acalli1, e_calli2, e_calll2, e_callv2, e_xcalli2, e_xcallv2, e_acalli2, e_calli3, e_calll3, e_callv3, e_xcalli3, e_xcallv3, e_acalli3, e_calli4, e_calll4, e_callv4, e_xcalli4, e_xcallv4, e_acalli4, e_scalli3, sh4_0, sh4_1, sh4_2, sh4_3, sh4_4, eqr, eqv, true_and, and_true, true_or, or_true, ln1_2, ln1_3, ln1_4, ln1_5, ln1_6, ln1_7, ln1_8, ln1_10, ln1_11, ln1_12]
      exact ⟨⟨⟨by omega, by omega⟩, by omega, by omega⟩, fun h => trivial, fun h => absurd h (by omega)⟩
    · intro i hi ih
      rw [r1_leanest_4]
      simp only [r1_leanest_0, r1_leanest_1, r1_leanest_2, r1_leanest_3, r1_leanest_5, r1_leanest_7, r1_leanest_10, r1_leanest_11, r1_leanest_12, r1_leanest_13, r1_leanest_16, r1_leanest_19, r1_leanest_20, r1_leanest_21, r1_leanest_24, r1_leanest_25, r1_leanest_28, r1_leanest_29, r1_leanest_30, r1_leanest_31, r1_leanest_34, r1_leanest_35, r1_leanest_36, r1_leanest_39, r1_leanest_40, r1_leanest_41, r1_leanest_44, r1_leanest_47, r1_leanest_48, e_const, e_lconst, e_dconst, e_iload, e_kiload, e_aload, e_kaload, e_lload, e_klload, e_iinc, e_kiinc, e_istore, e_astore, e_lstore, e_dupI, e_dupR, e_dup2, e_iadd, e_isub, e_imul, e_idiv, e_irem, e_ladd, e_lmul, e_i2l, e_i2d, e_ddiv, e_icmp, e_if, e_goto, e_switch, e_tsw0, e_tsw1, e_getI, e_getA, e_putI, e_iald, e_iast, e_tnew, e_tald, e_tast, e_iret, e_zret, e_lret, e_dret, e_vret, e_throw, lg0, ls0, lt0, lg1, ls1, lo1, lt1, lg2, ls2, lo2, lt2, lg3, ls3, lo3, lt3, lg4, ls4, lo4, lt4, lg5, ls5, lo5, lt5, lg6, ls6, lo6, lt6, lg7, ls7, lo7, lt7, lg8, ls8, lo8, lo0, okI, okR, okN, e_calli1, e_calll1, e_callv1, e_xcalli1, e_xcallv1, e_acalli1, e_calli2, e_calll2, e_callv2, e_xcalli2, e_xcallv2, e_acalli2, e_calli3, e_calll3, e_callv3, e_xcalli3, e_xcallv3, e_acalli3, e_calli4, e_calll4, e_callv4, e_xcalli4, e_xcallv4, e_acalli4, e_scalli3, sh4_0, sh4_1, sh4_2, sh4_3, sh4_4, eqr, eqv, true_and, and_true, true_or, or_true, ln1_2, ln1_3, ln1_4, ln1_5, ln1_6, ln1_7, ln1_8, ln1_10, ln1_11, ln1_12, Int.toNat_natCast]
      have h1 := hB.pl hi
      have h9 := lp_b (f := gA R 5) (g := gA R 7) (k := (k : Int)) (c := csR R k) (by omega) i
      have h8 := lp_no (f := gA R 5) (g := gA R 7) (k := (k : Int)) (c := csR R k) i
      have h7 := lp_at (f := gA R 5) (g := gA R 7) (k := (k : Int)) (c := csR R k) i
      refine ⟨⟨⟨by omega, by omega⟩, by omega, by omega⟩, fun h => by omega, fun h => ⟨_, run1_isPartly hi hk hB, ?_⟩⟩
      rintro r S1 ⟨rfl, rfl⟩
      by_cases hp : gA S1 5 i = k ∧ 0 < gA S1 7 i ∧ gA S1 7 i < csR S1 k
      · rw [if_pos hp]
        refine ⟨⟨by omega, by omega⟩, fun h => by omega, fun _ => ⟨⟨⟨by omega, by omega⟩, by omega, by omega⟩, fun h2 => ?_, fun h2 => ?_⟩⟩
        · rw [lp_y (n := i) ⟨hp, by have := h8 h2; omega⟩] at ih
          exact ih
        · rcases h7 with z | ⟨q, q1, q2, q3, q4, q5, q6⟩
          · exact absurd z h2
          · rw [q2, Int.toNat_natCast]
            refine ⟨⟨by omega, by omega⟩, ⟨by omega, by omega⟩, ⟨⟨by omega, by omega⟩, by omega, by omega⟩, fun h3 => ?_, fun h3 => ?_⟩
            · rw [lp_n (n := i) (fun z => by omega), q2] at ih
              exact ih
            · rw [lp_y (n := i) ⟨hp, by omega⟩] at ih
              exact ih
      · rw [if_neg hp]
        refine ⟨⟨by omega, by omega⟩, fun _ => ?_, fun h => absurd rfl h⟩
        rw [lp_n (n := i) (fun z => hp z.1)] at ih
        exact ih
  simp only [r1_leanest_0, r1_leanest_1, r1_leanest_2, r1_leanest_3, r1_leanest_5, r1_leanest_7, r1_leanest_10, r1_leanest_11, r1_leanest_12, r1_leanest_13, r1_leanest_16, r1_leanest_19, r1_leanest_20, r1_leanest_21, r1_leanest_24, r1_leanest_25, r1_leanest_28, r1_leanest_29, r1_leanest_30, r1_leanest_31, r1_leanest_34, r1_leanest_35, r1_leanest_36, r1_leanest_39, r1_leanest_40, r1_leanest_41, r1_leanest_44, r1_leanest_47, r1_leanest_48, e_const, e_lconst, e_dconst, e_iload, e_kiload, e_aload, e_kaload, e_lload, e_klload, e_iinc, e_kiinc, e_istore, e_astore, e_lstore, e_dupI, e_dupR, e_dup2, e_iadd, e_isub, e_imul, e_idiv, e_irem, e_ladd, e_lmul, e_i2l, e_i2d, e_ddiv, e_icmp, e_if, e_goto, e_switch, e_tsw0, e_tsw1, e_getI, e_getA, e_putI, e_iald, e_iast, e_tnew, e_tald, e_tast, e_iret, e_zret, e_lret, e_dret, e_vret, e_throw, lg0, ls0, lt0, lg1, ls1, lo1, lt1, lg2, ls2, lo2, lt2, lg3, ls3, lo3, lt3, lg4, ls4, lo4, lt4, lg5, ls5, lo5, lt5, lg6, ls6, lo6, lt6, lg7, ls7, lo7, lt7, lg8, ls8, lo8, lo0, okI, okR, okN, e_calli1, e_calll1, e_callv1, e_xcalli1, e_xcallv1, e_acalli1, e_calli2, e_calll2, e_callv2, e_xcalli2, e_xcallv2, e_acalli2, e_calli3, e_calll3, e_callv3, e_xcalli3, e_xcallv3, e_acalli3, e_calli4, e_calll4, e_callv4, e_xcalli4, e_xcallv4, e_acalli4, e_scalli3, sh4_0, sh4_1, sh4_2, sh4_3, sh4_4, eqr, eqv, true_and, and_true, true_or, or_true, ln1_2, ln1_3, ln1_4, ln1_5, ln1_6, ln1_7, ln1_8, ln1_10, ln1_11, ln1_12]
  exact loop 0 (by omega)
theorem run1_firstEmpty {R : ST} {k : Int} (hk : rng k) (hB : B1 R) : X1_firstEmpty [vR 0, vI k] R (eqr (fst1 (emB (gA R 5) (gA R 7) k) 20) R) nox := by
  refine ⟨Nat.le_of_ble_eq_true rfl, ?_⟩
  show RR _ 0 [some (vR 0), some (vI k), none] [] R
  have loop : ∀ i, i ≤ 20 → (∀ j, j < i → emB (gA R 5) (gA R 7) k j = false) → RR (T1_firstEmpty (eqr (fst1 (emB (gA R 5) (gA R 7) k) 20) R) nox) 2 [some (vR 0), some (vI k), some (vI i)] [] R := by
    refine up ?_ ?_
    · intro hno
      rw [r1_firstEmpty_2]
      simp only [r1_firstEmpty_0, r1_firstEmpty_1, r1_firstEmpty_3, r1_firstEmpty_5, r1_firstEmpty_8, r1_firstEmpty_9, r1_firstEmpty_10, r1_firstEmpty_11, r1_firstEmpty_14, r1_firstEmpty_17, r1_firstEmpty_18, r1_firstEmpty_19, r1_firstEmpty_22, r1_firstEmpty_25, r1_firstEmpty_26, e_const, e_lconst, e_dconst, e_iload, e_kiload, e_aload, e_kaload, e_lload, e_klload, e_iinc, e_kiinc, e_istore, e_astore, e_lstore, e_dupI, e_dupR, e_dup2, e_iadd, e_isub, e_imul, e_idiv, e_irem, e_ladd, e_lmul, e_i2l, e_i2d, e_ddiv, e_icmp, e_if, e_goto, e_switch, e_tsw0, e_tsw1, e_getI, e_getA, e_putI, e_iald, e_iast, e_tnew, e_tald, e_tast, e_iret, e_zret, e_lret, e_dret, e_vret, e_throw, lg0, ls0, lt0, lg1, ls1, lo1, lt1, lg2, ls2, lo2, lt2, lg3, ls3, lo3, lt3, lg4, ls4, lo4, lt4, lg5, ls5, lo5, lt5, lg6, ls6, lo6, lt6, lg7, ls7, lo7, lt7, lg8, ls8, lo8, lo0, okI, okR, okN, e_calli1, e_calll1, e_callv1, e_xcalli1, e_xcallv1, e_acalli1, e_calli2, e_calll2, e_callv2, e_xcalli2, e_xcallv2, e_acalli2, e_calli3, e_calll3, e_callv3, e_xcalli3, e_xcallv3, e_acalli3, e_calli4, e_calll4, e_callv4, e_xcalli4, e_xcallv4, e_acalli4, e_scalli3, sh4_0, sh4_1, sh4_2, sh4_3, sh4_4, eqr, eqv, true_and, and_true, true_or, or_true, ln1_2, ln1_3, ln1_4, ln1_5, ln1_6, ln1_7, ln1_8, ln1_10, ln1_11, ln1_12]
      rw [fst1_no hno]
      ((repeat' (first | apply And.intro | intro _)) <;> first | omega | trivial | rfl | (split <;> omega))
    · intro i hi ih hno
      rw [r1_firstEmpty_2]
      simp only [r1_firstEmpty_0, r1_firstEmpty_1, r1_firstEmpty_3, r1_firstEmpty_5, r1_firstEmpty_8, r1_firstEmpty_9, r1_firstEmpty_10, r1_firstEmpty_11, r1_firstEmpty_14, r1_firstEmpty_17, r1_firstEmpty_18, r1_firstEmpty_19, r1_firstEmpty_22, r1_firstEmpty_25, r1_firstEmpty_26, e_const, e_lconst, e_dconst, e_iload, e_kiload, e_aload, e_kaload, e_lload, e_klload, e_iinc, e_kiinc, e_istore, e_astore, e_lstore, e_dupI, e_dupR, e_dup2, e_iadd, e_isub, e_imul, e_idiv, e_irem, e_ladd, e_lmul, e_i2l, e_i2d, e_ddiv, e_icmp, e_if, e_goto, e_switch, e_tsw0, e_tsw1, e_getI, e_getA, e_putI, e_iald, e_iast, e_tnew, e_tald, e_tast, e_iret, e_zret, e_lret, e_dret, e_vret, e_throw, lg0, ls0, lt0, lg1, ls1, lo1, lt1, lg2, ls2, lo2, lt2, lg3, ls3, lo3, lt3, lg4, ls4, lo4, lt4, lg5, ls5, lo5, lt5, lg6, ls6, lo6, lt6, lg7, ls7, lo7, lt7, lg8, ls8, lo8, lo0, okI, okR, okN, e_calli1, e_calll1, e_callv1, e_xcalli1, e_xcallv1, e_acalli1, e_calli2, e_calll2, e_callv2, e_xcalli2, e_xcallv2, e_acalli2, e_calli3, e_calll3, e_callv3, e_xcalli3, e_xcallv3, e_acalli3, e_calli4, e_calll4, e_callv4, e_xcalli4, e_xcallv4, e_acalli4, e_scalli3, sh4_0, sh4_1, sh4_2, sh4_3, sh4_4, eqr, eqv, true_and, and_true, true_or, or_true, ln1_2, ln1_3, ln1_4, ln1_5, ln1_6, ln1_7, ln1_8, ln1_10, ln1_11, ln1_12, Int.toNat_natCast]
      have no : emB (gA R 5) (gA R 7) k i = false → ∀ j, j < i + 1 → emB (gA R 5) (gA R 7) k j = false := fun h j hj => by
        rcases Nat.lt_succ_iff_lt_or_eq.mp hj with q | rfl
        · exact hno j q
        · exact h
      refine ⟨⟨⟨by omega, by omega⟩, by omega, by omega⟩, fun h => by omega, fun h => ⟨_, run1_isEmpty hi hk hB, ?_⟩⟩
      rintro r S1 ⟨rfl, rfl⟩
      by_cases hp : gA S1 5 i = k ∧ gA S1 7 i = 0
      · rw [if_pos hp]
        exact ⟨⟨by omega, by omega⟩, fun h => by omega, fun _ => ⟨(fst1_at hno (by simp [emB, hp]) hi).symm, rfl⟩⟩
      · rw [if_neg hp]
        exact ⟨⟨by omega, by omega⟩, fun _ => ih (no (by simp only [emB, Bool.and_eq_false_iff, decide_eq_false_iff_not]; omega)), fun h => absurd rfl h⟩
  simp only [r1_firstEmpty_0, r1_firstEmpty_1, r1_firstEmpty_3, r1_firstEmpty_5, r1_firstEmpty_8, r1_firstEmpty_9, r1_firstEmpty_10, r1_firstEmpty_11, r1_firstEmpty_14, r1_firstEmpty_17, r1_firstEmpty_18, r1_firstEmpty_19, r1_firstEmpty_22, r1_firstEmpty_25, r1_firstEmpty_26, e_const, e_lconst, e_dconst, e_iload, e_kiload, e_aload, e_kaload, e_lload, e_klload, e_iinc, e_kiinc, e_istore, e_astore, e_lstore, e_dupI, e_dupR, e_dup2, e_iadd, e_isub, e_imul, e_idiv, e_irem, e_ladd, e_lmul, e_i2l, e_i2d, e_ddiv, e_icmp, e_if, e_goto, e_switch, e_tsw0, e_tsw1, e_getI, e_getA, e_putI, e_iald, e_iast, e_tnew, e_tald, e_tast, e_iret, e_zret, e_lret, e_dret, e_vret, e_throw, lg0, ls0, lt0, lg1, ls1, lo1, lt1, lg2, ls2, lo2, lt2, lg3, ls3, lo3, lt3, lg4, ls4, lo4, lt4, lg5, ls5, lo5, lt5, lg6, ls6, lo6, lt6, lg7, ls7, lo7, lt7, lg8, ls8, lo8, lo0, okI, okR, okN, e_calli1, e_calll1, e_callv1, e_xcalli1, e_xcallv1, e_acalli1, e_calli2, e_calll2, e_callv2, e_xcalli2, e_xcallv2, e_acalli2, e_calli3, e_calll3, e_callv3, e_xcalli3, e_xcallv3, e_acalli3, e_calli4, e_calll4, e_callv4, e_xcalli4, e_xcallv4, e_acalli4, e_scalli3, sh4_0, sh4_1, sh4_2, sh4_3, sh4_4, eqr, eqv, true_and, and_true, true_or, or_true, ln1_2, ln1_3, ln1_4, ln1_5, ln1_6, ln1_7, ln1_8, ln1_10, ln1_11, ln1_12]
  exact loop 0 (by omega) (fun j hj => absurd hj (by omega))
theorem run1_firstFree {R : ST} (hB : B1 R) : X1_firstFree [vR 0] R (eqr (fst1 (baB (gA R 5)) 20) R) nox := by
  have h0 := hB.kc
  refine ⟨Nat.le_of_ble_eq_true rfl, ?_⟩
  show RR _ 0 [some (vR 0), none] [] R
  have loop : ∀ i, i ≤ 20 → (∀ j, j < i → baB (gA R 5) j = false) → RR (T1_firstFree (eqr (fst1 (baB (gA R 5)) 20) R) nox) 2 [some (vR 0), some (vI i)] [] R := by
    refine up ?_ ?_
    · intro hno
      rw [r1_firstFree_2]
      simp only [r1_firstFree_0, r1_firstFree_1, r1_firstFree_3, r1_firstFree_5, r1_firstFree_8, r1_firstFree_9, r1_firstFree_12, r1_firstFree_13, r1_firstFree_14, r1_firstFree_15, r1_firstFree_18, r1_firstFree_19, r1_firstFree_20, r1_firstFree_23, r1_firstFree_26, r1_firstFree_27, e_const, e_lconst, e_dconst, e_iload, e_kiload, e_aload, e_kaload, e_lload, e_klload, e_iinc, e_kiinc, e_istore, e_astore, e_lstore, e_dupI, e_dupR, e_dup2, e_iadd, e_isub, e_imul, e_idiv, e_irem, e_ladd, e_lmul, e_i2l, e_i2d, e_ddiv, e_icmp, e_if, e_goto, e_switch, e_tsw0, e_tsw1, e_getI, e_getA, e_putI, e_iald, e_iast, e_tnew, e_tald, e_tast, e_iret, e_zret, e_lret, e_dret, e_vret, e_throw, lg0, ls0, lt0, lg1, ls1, lo1, lt1, lg2, ls2, lo2, lt2, lg3, ls3, lo3, lt3, lg4, ls4, lo4, lt4, lg5, ls5, lo5, lt5, lg6, ls6, lo6, lt6, lg7, ls7, lo7, lt7, lg8, ls8, lo8, lo0, okI, okR, okN, e_calli1, e_calll1, e_callv1, e_xcalli1, e_xcallv1, e_acalli1, e_calli2, e_calll2, e_callv2, e_xcalli2, e_xcallv2, e_acalli2, e_calli3, e_calll3, e_callv3, e_xcalli3, e_xcallv3, e_acalli3, e_calli4, e_calll4, e_callv4, e_xcalli4, e_xcallv4, e_acalli4, e_scalli3, sh4_0, sh4_1, sh4_2, sh4_3, sh4_4, eqr, eqv, true_and, and_true, true_or, or_true, ln1_2, ln1_3, ln1_4, ln1_5, ln1_6, ln1_7, ln1_8, ln1_10, ln1_11, ln1_12]
      rw [fst1_no hno]
      ((repeat' (first | apply And.intro | intro _)) <;> first | omega | trivial | rfl | (split <;> omega))
    · intro i hi ih hno
      rw [r1_firstFree_2]
      simp only [r1_firstFree_0, r1_firstFree_1, r1_firstFree_3, r1_firstFree_5, r1_firstFree_8, r1_firstFree_9, r1_firstFree_12, r1_firstFree_13, r1_firstFree_14, r1_firstFree_15, r1_firstFree_18, r1_firstFree_19, r1_firstFree_20, r1_firstFree_23, r1_firstFree_26, r1_firstFree_27, e_const, e_lconst, e_dconst, e_iload, e_kiload, e_aload, e_kaload, e_lload, e_klload, e_iinc, e_kiinc, e_istore, e_astore, e_lstore, e_dupI, e_dupR, e_dup2, e_iadd, e_isub, e_imul, e_idiv, e_irem, e_ladd, e_lmul, e_i2l, e_i2d, e_ddiv, e_icmp, e_if, e_goto, e_switch, e_tsw0, e_tsw1, e_getI, e_getA, e_putI, e_iald, e_iast, e_tnew, e_tald, e_tast, e_iret, e_zret, e_lret, e_dret, e_vret, e_throw, lg0, ls0, lt0, lg1, ls1, lo1, lt1, lg2, ls2, lo2, lt2, lg3, ls3, lo3, lt3, lg4, ls4, lo4, lt4, lg5, ls5, lo5, lt5, lg6, ls6, lo6, lt6, lg7, ls7, lo7, lt7, lg8, ls8, lo8, lo0, okI, okR, okN, e_calli1, e_calll1, e_callv1, e_xcalli1, e_xcallv1, e_acalli1, e_calli2, e_calll2, e_callv2, e_xcalli2, e_xcallv2, e_acalli2, e_calli3, e_calll3, e_callv3, e_xcalli3, e_xcallv3, e_acalli3, e_calli4, e_calll4, e_callv4, e_xcalli4, e_xcallv4, e_acalli4, e_scalli3, sh4_0, sh4_1, sh4_2, sh4_3, sh4_4, eqr, eqv, true_and, and_true, true_or, or_true, ln1_2, ln1_3, ln1_4, ln1_5, ln1_6, ln1_7, ln1_8, ln1_10, ln1_11, ln1_12, Int.toNat_natCast]
      have h1 := hB.pl hi
      refine ⟨⟨⟨by omega, by omega⟩, by omega, by omega⟩, fun h => by omega, fun h => ⟨⟨by omega, by omega⟩, ⟨⟨by omega, by omega⟩, by omega, by omega⟩, fun h2 => ?_, fun h2 => ?_⟩⟩
      · refine ih (fun j hj => ?_)
        rcases Nat.lt_succ_iff_lt_or_eq.mp hj with q | rfl
        · exact hno j q
        · simp [baB, h2]
      · exact (fst1_at hno (by simp [baB, Decidable.not_not.mp h2]) hi).symm
  simp only [r1_firstFree_0, r1_firstFree_1, r1_firstFree_3, r1_firstFree_5, r1_firstFree_8, r1_firstFree_9, r1_firstFree_12, r1_firstFree_13, r1_firstFree_14, r1_firstFree_15, r1_firstFree_18, r1_firstFree_19, r1_firstFree_20, r1_firstFree_23, r1_firstFree_26, r1_firstFree_27, e_const, e_lconst, e_dconst, e_iload, e_kiload, e_aload, e_kaload, e_lload, e_klload, e_iinc, e_kiinc, e_istore, e_astore, e_lstore, e_dupI, e_dupR, e_dup2, e_iadd, e_isub, e_imul, e_idiv, e_irem, e_ladd, e_lmul, e_i2l, e_i2d, e_ddiv, e_icmp, e_if, e_goto, e_switch, e_tsw0, e_tsw1, e_getI, e_getA, e_putI, e_iald, e_iast, e_tnew, e_tald, e_tast, e_iret, e_zret, e_lret, e_dret, e_vret, e_throw, lg0, ls0, lt0, lg1, ls1, lo1, lt1, lg2, ls2, lo2, lt2, lg3, ls3, lo3, lt3, lg4, ls4, lo4, lt4, lg5, ls5, lo5, lt5, lg6, ls6, lo6, lt6, lg7, ls7, lo7, lt7, lg8, ls8, lo8, lo0, okI, okR, okN, e_calli1, e_calll1, e_callv1, e_xcalli1, e_xcallv1, e_acalli1, e_calli2, e_calll2, e_callv2, e_xcalli2, e_xcallv2, e_acalli2, e_calli3, e_calll3, e_callv3, e_xcalli3, e_xcallv3, e_acalli3, e_calli4, e_calll4, e_callv4, e_xcalli4, e_xcallv4, e_acalli4, e_scalli3, sh4_0, sh4_1, sh4_2, sh4_3, sh4_4, eqr, eqv, true_and, and_true, true_or, or_true, ln1_2, ln1_3, ln1_4, ln1_5, ln1_6, ln1_7, ln1_8, ln1_10, ln1_11, ln1_12]
  exact loop 0 (by omega) (fun j hj => absurd hj (by omega))
theorem run1_goesTo {R : ST} {k : Nat} (hk : (k : Int) < fF R 1) (hB : B1 R) : X1_goesTo [vR 0, vI k] R (eqr (plF (gA R 5) (gA R 7) k (csR R k)) R) nox := by
  have h0 := hB.kc
  have hc := csR_b hk hB
  have h9 := mp_b (f := gA R 5) (g := gA R 7) (k := (k : Int)) (c := csR R k) (by omega) 20
  have h8 := fst1_b (P := emB (gA R 5) (gA R 7) k) 20
  refine ⟨Nat.le_of_ble_eq_true rfl, ?_⟩
  show RR _ 0 [some (vR 0), some (vI k), none, none] [] R
  simp only [r1_goesTo_0, r1_goesTo_1, r1_goesTo_2, r1_goesTo_5, r1_goesTo_6, r1_goesTo_7, r1_goesTo_8, r1_goesTo_11, r1_goesTo_12, r1_goesTo_13, r1_goesTo_14, r1_goesTo_17, r1_goesTo_18, r1_goesTo_21, r1_goesTo_22, r1_goesTo_23, r1_goesTo_26, r1_goesTo_27, r1_goesTo_30, r1_goesTo_31, r1_goesTo_34, e_const, e_lconst, e_dconst, e_iload, e_kiload, e_aload, e_kaload, e_lload, e_klload, e_iinc, e_kiinc, e_istore, e_astore, e_lstore, e_dupI, e_dupR, e_dup2, e_iadd, e_isub, e_imul, e_idiv, e_irem, e_ladd, e_lmul, e_i2l, e_i2d, e_ddiv, e_icmp, e_if, e_goto, e_switch, e_tsw0, e_tsw1, e_getI, e_getA, e_putI, e_iald, e_iast, e_tnew, e_tald, e_tast, e_iret, e_zret, e_lret, e_dret, e_vret, e_throw, lg0, ls0, lt0, lg1, ls1, lo1, lt1, lg2, ls2, lo2, lt2, lg3, ls3, lo3, lt3, lg4, ls4, lo4, lt4, lg5, ls5, lo5, lt5, lg6, ls6, lo6, lt6, lg7, ls7, lo7, lt7, lg8, ls8, lo8, lo0, okI, okR, okN, e_calli1, e_calll1, e_callv1, e_xcalli1, e_xcallv1, e_acalli1, e_calli2, e_calll2, e_callv2, e_xcalli2, e_xcallv2, e_acalli2, e_calli3, e_calll3, e_callv3, e_xcalli3, e_xcallv3, e_acalli3, e_calli4, e_calll4, e_callv4, e_xcalli4, e_xcallv4, e_acalli4, e_scalli3, sh4_0, sh4_1, sh4_2, sh4_3, sh4_4, eqr, eqv, true_and, and_true, true_or, or_true, ln1_2, ln1_3, ln1_4, ln1_5, ln1_6, ln1_7, ln1_8, ln1_10, ln1_11, ln1_12]
  refine ⟨_, run1_fullest hk hB, ?_⟩
  rintro r S1 ⟨rfl, rfl⟩
  refine ⟨_, run1_firstEmpty ⟨by omega, by omega⟩ hB, ?_⟩
  rintro r S2 ⟨rfl, rfl⟩
  unfold plF
  refine ⟨⟨⟨by omega, by omega⟩, by omega, by omega⟩, fun h => ⟨⟨⟨by omega, by omega⟩, by omega, by omega⟩, fun h2 => ⟨_, run1_firstFree hB, ?_⟩, fun h2 => ?_⟩, fun h => ?_⟩
  · rintro r S3 ⟨rfl, rfl⟩
    rw [if_neg (fun z => z h), if_neg (fun z => z h2)]
    exact ⟨rfl, rfl⟩
  · rw [if_neg (fun z => z h), if_pos h2]
    exact ⟨rfl, rfl⟩
  · rw [if_pos h]
    exact ⟨rfl, rfl⟩
theorem run1_empties {R : ST} {k : Int} (hk : rng k) (hB : B1 R) : X1_empties [vR 0, vI k] R (eqr (cH (gA R 5) (gA R 7) k 0 20) R) nox := by
  refine ⟨Nat.le_of_ble_eq_true rfl, ?_⟩
  show RR _ 0 [some (vR 0), some (vI k), none, none] [] R
  have loop : ∀ i, i ≤ 20 → RR (T1_empties (eqr (cH (gA R 5) (gA R 7) k 0 20) R) nox) 4 [some (vR 0), some (vI k), some (vI (cH (gA R 5) (gA R 7) k 0 i)), some (vI i)] [] R := by
    refine up ?_ ?_
    · rw [r1_empties_4]
      simp only [r1_empties_0, r1_empties_1, r1_empties_2, r1_empties_3, r1_empties_5, r1_empties_7, r1_empties_10, r1_empties_11, r1_empties_12, r1_empties_13, r1_empties_14, r1_empties_17, r1_empties_20, r1_empties_21, r1_empties_24, r1_empties_25, r1_empties_26, r1_empties_27, r1_empties_30, r1_empties_33, r1_empties_34, e_const, e_lconst, e_dconst, e_iload, e_kiload, e_aload, e_kaload, e_lload, e_klload, e_iinc, e_kiinc, e_istore, e_astore, e_lstore, e_dupI, e_dupR, e_dup2, e_iadd, e_isub, e_imul, e_idiv, e_irem, e_ladd, e_lmul, e_i2l, e_i2d, e_ddiv, e_icmp, e_if, e_goto, e_switch, e_tsw0, e_tsw1, e_getI, e_getA, e_putI, e_iald, e_iast, e_tnew, e_tald, e_tast, e_iret, e_zret, e_lret, e_dret, e_vret, e_throw, lg0, ls0, lt0, lg1, ls1, lo1, lt1, lg2, ls2, lo2, lt2, lg3, ls3, lo3, lt3, lg4, ls4, lo4, lt4, lg5, ls5, lo5, lt5, lg6, ls6, lo6, lt6, lg7, ls7, lo7, lt7, lg8, ls8, lo8, lo0, okI, okR, okN, e_calli1, e_calll1, e_callv1, e_xcalli1, e_xcallv1, e_acalli1, e_calli2, e_calll2, e_callv2, e_xcalli2, e_xcallv2, e_acalli2, e_calli3, e_calll3, e_callv3, e_xcalli3, e_xcallv3, e_acalli3, e_calli4, e_calll4, e_callv4, e_xcalli4, e_xcallv4, e_acalli4, e_scalli3, sh4_0, sh4_1, sh4_2, sh4_3, sh4_4, eqr, eqv, true_and, and_true, true_or, or_true, ln1_2, ln1_3, ln1_4, ln1_5, ln1_6, ln1_7, ln1_8, ln1_10, ln1_11, ln1_12]
      exact ⟨⟨⟨by omega, by omega⟩, by omega, by omega⟩, fun h => trivial, fun h => absurd h (by omega)⟩
    · intro i hi ih
      rw [r1_empties_4]
      simp only [r1_empties_0, r1_empties_1, r1_empties_2, r1_empties_3, r1_empties_5, r1_empties_7, r1_empties_10, r1_empties_11, r1_empties_12, r1_empties_13, r1_empties_14, r1_empties_17, r1_empties_20, r1_empties_21, r1_empties_24, r1_empties_25, r1_empties_26, r1_empties_27, r1_empties_30, r1_empties_33, r1_empties_34, e_const, e_lconst, e_dconst, e_iload, e_kiload, e_aload, e_kaload, e_lload, e_klload, e_iinc, e_kiinc, e_istore, e_astore, e_lstore, e_dupI, e_dupR, e_dup2, e_iadd, e_isub, e_imul, e_idiv, e_irem, e_ladd, e_lmul, e_i2l, e_i2d, e_ddiv, e_icmp, e_if, e_goto, e_switch, e_tsw0, e_tsw1, e_getI, e_getA, e_putI, e_iald, e_iast, e_tnew, e_tald, e_tast, e_iret, e_zret, e_lret, e_dret, e_vret, e_throw, lg0, ls0, lt0, lg1, ls1, lo1, lt1, lg2, ls2, lo2, lt2, lg3, ls3, lo3, lt3, lg4, ls4, lo4, lt4, lg5, ls5, lo5, lt5, lg6, ls6, lo6, lt6, lg7, ls7, lo7, lt7, lg8, ls8, lo8, lo0, okI, okR, okN, e_calli1, e_calll1, e_callv1, e_xcalli1, e_xcallv1, e_acalli1, e_calli2, e_calll2, e_callv2, e_xcalli2, e_xcallv2, e_acalli2, e_calli3, e_calll3, e_callv3, e_xcalli3, e_xcallv3, e_acalli3, e_calli4, e_calll4, e_callv4, e_xcalli4, e_xcallv4, e_acalli4, e_scalli3, sh4_0, sh4_1, sh4_2, sh4_3, sh4_4, eqr, eqv, true_and, and_true, true_or, or_true, ln1_2, ln1_3, ln1_4, ln1_5, ln1_6, ln1_7, ln1_8, ln1_10, ln1_11, ln1_12, Int.toNat_natCast]
      refine ⟨⟨⟨by omega, by omega⟩, by omega, by omega⟩, fun h => by omega, fun h => ⟨_, run1_isEmpty hi hk hB, ?_⟩⟩
      rintro r S1 ⟨rfl, rfl⟩
      by_cases hp : gA S1 5 i = k ∧ gA S1 7 i = 0
      · rw [if_pos hp]
        rw [cH_y (n := i) hp] at ih
        exact ⟨⟨by omega, by omega⟩, fun h => by omega, fun _ => ih⟩
      · rw [if_neg hp]
        rw [cH_n (n := i) hp, ← Int.add_zero (cH _ _ _ _ i)] at ih
        exact ⟨⟨by omega, by omega⟩, fun _ => ih, fun h => absurd rfl h⟩
  simp only [r1_empties_0, r1_empties_1, r1_empties_2, r1_empties_3, r1_empties_5, r1_empties_7, r1_empties_10, r1_empties_11, r1_empties_12, r1_empties_13, r1_empties_14, r1_empties_17, r1_empties_20, r1_empties_21, r1_empties_24, r1_empties_25, r1_empties_26, r1_empties_27, r1_empties_30, r1_empties_33, r1_empties_34, e_const, e_lconst, e_dconst, e_iload, e_kiload, e_aload, e_kaload, e_lload, e_klload, e_iinc, e_kiinc, e_istore, e_astore, e_lstore, e_dupI, e_dupR, e_dup2, e_iadd, e_isub, e_imul, e_idiv, e_irem, e_ladd, e_lmul, e_i2l, e_i2d, e_ddiv, e_icmp, e_if, e_goto, e_switch, e_tsw0, e_tsw1, e_getI, e_getA, e_putI, e_iald, e_iast, e_tnew, e_tald, e_tast, e_iret, e_zret, e_lret, e_dret, e_vret, e_throw, lg0, ls0, lt0, lg1, ls1, lo1, lt1, lg2, ls2, lo2, lt2, lg3, ls3, lo3, lt3, lg4, ls4, lo4, lt4, lg5, ls5, lo5, lt5, lg6, ls6, lo6, lt6, lg7, ls7, lo7, lt7, lg8, ls8, lo8, lo0, okI, okR, okN, e_calli1, e_calll1, e_callv1, e_xcalli1, e_xcallv1, e_acalli1, e_calli2, e_calll2, e_callv2, e_xcalli2, e_xcallv2, e_acalli2, e_calli3, e_calll3, e_callv3, e_xcalli3, e_xcallv3, e_acalli3, e_calli4, e_calll4, e_callv4, e_xcalli4, e_xcallv4, e_acalli4, e_scalli3, sh4_0, sh4_1, sh4_2, sh4_3, sh4_4, eqr, eqv, true_and, and_true, true_or, or_true, ln1_2, ln1_3, ln1_4, ln1_5, ln1_6, ln1_7, ln1_8, ln1_10, ln1_11, ln1_12]
  exact loop 0 (by omega)
theorem run1_trays {R : ST} {k : Int} (hk : rng k) (hB : B1 R) : X1_trays [vR 0, vI k] R (eqr (cK (gA R 5) k 20) R) nox := by
  have h0 := hB.kc
  refine ⟨Nat.le_of_ble_eq_true rfl, ?_⟩
  show RR _ 0 [some (vR 0), some (vI k), none, none] [] R
  have loop : ∀ i, i ≤ 20 → RR (T1_trays (eqr (cK (gA R 5) k 20) R) nox) 4 [some (vR 0), some (vI k), some (vI (cK (gA R 5) k i)), some (vI i)] [] R := by
    refine up ?_ ?_
    · rw [r1_trays_4]
      simp only [r1_trays_0, r1_trays_1, r1_trays_2, r1_trays_3, r1_trays_5, r1_trays_7, r1_trays_10, r1_trays_11, r1_trays_12, r1_trays_15, r1_trays_16, r1_trays_17, r1_trays_18, r1_trays_21, r1_trays_22, r1_trays_25, r1_trays_26, r1_trays_27, r1_trays_28, r1_trays_31, r1_trays_34, r1_trays_35, e_const, e_lconst, e_dconst, e_iload, e_kiload, e_aload, e_kaload, e_lload, e_klload, e_iinc, e_kiinc, e_istore, e_astore, e_lstore, e_dupI, e_dupR, e_dup2, e_iadd, e_isub, e_imul, e_idiv, e_irem, e_ladd, e_lmul, e_i2l, e_i2d, e_ddiv, e_icmp, e_if, e_goto, e_switch, e_tsw0, e_tsw1, e_getI, e_getA, e_putI, e_iald, e_iast, e_tnew, e_tald, e_tast, e_iret, e_zret, e_lret, e_dret, e_vret, e_throw, lg0, ls0, lt0, lg1, ls1, lo1, lt1, lg2, ls2, lo2, lt2, lg3, ls3, lo3, lt3, lg4, ls4, lo4, lt4, lg5, ls5, lo5, lt5, lg6, ls6, lo6, lt6, lg7, ls7, lo7, lt7, lg8, ls8, lo8, lo0, okI, okR, okN, e_calli1, e_calll1, e_callv1, e_xcalli1, e_xcallv1, e_acalli1, e_calli2, e_calll2, e_callv2, e_xcalli2, e_xcallv2, e_acalli2, e_calli3, e_calll3, e_callv3, e_xcalli3, e_xcallv3, e_acalli3, e_calli4, e_calll4, e_callv4, e_xcalli4, e_xcallv4, e_acalli4, e_scalli3, sh4_0, sh4_1, sh4_2, sh4_3, sh4_4, eqr, eqv, true_and, and_true, true_or, or_true, ln1_2, ln1_3, ln1_4, ln1_5, ln1_6, ln1_7, ln1_8, ln1_10, ln1_11, ln1_12]
      exact ⟨⟨⟨by omega, by omega⟩, by omega, by omega⟩, fun h => trivial, fun h => absurd h (by omega)⟩
    · intro i hi ih
      rw [r1_trays_4]
      simp only [r1_trays_0, r1_trays_1, r1_trays_2, r1_trays_3, r1_trays_5, r1_trays_7, r1_trays_10, r1_trays_11, r1_trays_12, r1_trays_15, r1_trays_16, r1_trays_17, r1_trays_18, r1_trays_21, r1_trays_22, r1_trays_25, r1_trays_26, r1_trays_27, r1_trays_28, r1_trays_31, r1_trays_34, r1_trays_35, e_const, e_lconst, e_dconst, e_iload, e_kiload, e_aload, e_kaload, e_lload, e_klload, e_iinc, e_kiinc, e_istore, e_astore, e_lstore, e_dupI, e_dupR, e_dup2, e_iadd, e_isub, e_imul, e_idiv, e_irem, e_ladd, e_lmul, e_i2l, e_i2d, e_ddiv, e_icmp, e_if, e_goto, e_switch, e_tsw0, e_tsw1, e_getI, e_getA, e_putI, e_iald, e_iast, e_tnew, e_tald, e_tast, e_iret, e_zret, e_lret, e_dret, e_vret, e_throw, lg0, ls0, lt0, lg1, ls1, lo1, lt1, lg2, ls2, lo2, lt2, lg3, ls3, lo3, lt3, lg4, ls4, lo4, lt4, lg5, ls5, lo5, lt5, lg6, ls6, lo6, lt6, lg7, ls7, lo7, lt7, lg8, ls8, lo8, lo0, okI, okR, okN, e_calli1, e_calll1, e_callv1, e_xcalli1, e_xcallv1, e_acalli1, e_calli2, e_calll2, e_callv2, e_xcalli2, e_xcallv2, e_acalli2, e_calli3, e_calll3, e_callv3, e_xcalli3, e_xcallv3, e_acalli3, e_calli4, e_calll4, e_callv4, e_xcalli4, e_xcallv4, e_acalli4, e_scalli3, sh4_0, sh4_1, sh4_2, sh4_3, sh4_4, eqr, eqv, true_and, and_true, true_or, or_true, ln1_2, ln1_3, ln1_4, ln1_5, ln1_6, ln1_7, ln1_8, ln1_10, ln1_11, ln1_12, Int.toNat_natCast]
      have h1 := hB.pl hi
      refine ⟨⟨⟨by omega, by omega⟩, by omega, by omega⟩, fun h => by omega, fun h => ⟨⟨by omega, by omega⟩, ⟨⟨by omega, by omega⟩, hk⟩, fun h2 => ?_, fun h2 => ?_⟩⟩
      · rw [cK_n h2, ← Int.add_zero (cK _ _ i)] at ih
        exact ih
      · rw [cK_y (Decidable.not_not.mp h2)] at ih
        exact ih
  simp only [r1_trays_0, r1_trays_1, r1_trays_2, r1_trays_3, r1_trays_5, r1_trays_7, r1_trays_10, r1_trays_11, r1_trays_12, r1_trays_15, r1_trays_16, r1_trays_17, r1_trays_18, r1_trays_21, r1_trays_22, r1_trays_25, r1_trays_26, r1_trays_27, r1_trays_28, r1_trays_31, r1_trays_34, r1_trays_35, e_const, e_lconst, e_dconst, e_iload, e_kiload, e_aload, e_kaload, e_lload, e_klload, e_iinc, e_kiinc, e_istore, e_astore, e_lstore, e_dupI, e_dupR, e_dup2, e_iadd, e_isub, e_imul, e_idiv, e_irem, e_ladd, e_lmul, e_i2l, e_i2d, e_ddiv, e_icmp, e_if, e_goto, e_switch, e_tsw0, e_tsw1, e_getI, e_getA, e_putI, e_iald, e_iast, e_tnew, e_tald, e_tast, e_iret, e_zret, e_lret, e_dret, e_vret, e_throw, lg0, ls0, lt0, lg1, ls1, lo1, lt1, lg2, ls2, lo2, lt2, lg3, ls3, lo3, lt3, lg4, ls4, lo4, lt4, lg5, ls5, lo5, lt5, lg6, ls6, lo6, lt6, lg7, ls7, lo7, lt7, lg8, ls8, lo8, lo0, okI, okR, okN, e_calli1, e_calll1, e_callv1, e_xcalli1, e_xcallv1, e_acalli1, e_calli2, e_calll2, e_callv2, e_xcalli2, e_xcallv2, e_acalli2, e_calli3, e_calll3, e_callv3, e_xcalli3, e_xcallv3, e_acalli3, e_calli4, e_calll4, e_callv4, e_xcalli4, e_xcallv4, e_acalli4, e_scalli3, sh4_0, sh4_1, sh4_2, sh4_3, sh4_4, eqr, eqv, true_and, and_true, true_or, or_true, ln1_2, ln1_3, ln1_4, ln1_5, ln1_6, ln1_7, ln1_8, ln1_10, ln1_11, ln1_12]
  exact loop 0 (by omega)
theorem run1_lying {R : ST} {k : Int} (hk : rng k) (hB : B1 R) : X1_lying [vR 0, vI k] R (eqr (sK (gA R 5) (gA R 7) k 20) R) nox := by
  have h0 := hB.kc
  refine ⟨Nat.le_of_ble_eq_true rfl, ?_⟩
  show RR _ 0 [some (vR 0), some (vI k), none, none] [] R
  have loop : ∀ i, i ≤ 20 → RR (T1_lying (eqr (sK (gA R 5) (gA R 7) k 20) R) nox) 4 [some (vR 0), some (vI k), some (vI (sK (gA R 5) (gA R 7) k i)), some (vI i)] [] R := by
    refine up ?_ ?_
    · rw [r1_lying_4]
      simp only [r1_lying_0, r1_lying_1, r1_lying_2, r1_lying_3, r1_lying_5, r1_lying_7, r1_lying_10, r1_lying_11, r1_lying_12, r1_lying_15, r1_lying_16, r1_lying_17, r1_lying_18, r1_lying_21, r1_lying_22, r1_lying_25, r1_lying_26, r1_lying_27, r1_lying_30, r1_lying_31, r1_lying_32, r1_lying_33, r1_lying_36, r1_lying_39, r1_lying_40, e_const, e_lconst, e_dconst, e_iload, e_kiload, e_aload, e_kaload, e_lload, e_klload, e_iinc, e_kiinc, e_istore, e_astore, e_lstore, e_dupI, e_dupR, e_dup2, e_iadd, e_isub, e_imul, e_idiv, e_irem, e_ladd, e_lmul, e_i2l, e_i2d, e_ddiv, e_icmp, e_if, e_goto, e_switch, e_tsw0, e_tsw1, e_getI, e_getA, e_putI, e_iald, e_iast, e_tnew, e_tald, e_tast, e_iret, e_zret, e_lret, e_dret, e_vret, e_throw, lg0, ls0, lt0, lg1, ls1, lo1, lt1, lg2, ls2, lo2, lt2, lg3, ls3, lo3, lt3, lg4, ls4, lo4, lt4, lg5, ls5, lo5, lt5, lg6, ls6, lo6, lt6, lg7, ls7, lo7, lt7, lg8, ls8, lo8, lo0, okI, okR, okN, e_calli1, e_calll1, e_callv1, e_xcalli1, e_xcallv1, e_acalli1, e_calli2, e_calll2, e_callv2, e_xcalli2, e_xcallv2, e_acalli2, e_calli3, e_calll3, e_callv3, e_xcalli3, e_xcallv3, e_acalli3, e_calli4, e_calll4, e_callv4, e_xcalli4, e_xcallv4, e_acalli4, e_scalli3, sh4_0, sh4_1, sh4_2, sh4_3, sh4_4, eqr, eqv, true_and, and_true, true_or, or_true, ln1_2, ln1_3, ln1_4, ln1_5, ln1_6, ln1_7, ln1_8, ln1_10, ln1_11, ln1_12]
      exact ⟨⟨⟨by omega, by omega⟩, by omega, by omega⟩, fun h => trivial, fun h => absurd h (by omega)⟩
    · intro i hi ih
      rw [r1_lying_4]
      simp only [r1_lying_0, r1_lying_1, r1_lying_2, r1_lying_3, r1_lying_5, r1_lying_7, r1_lying_10, r1_lying_11, r1_lying_12, r1_lying_15, r1_lying_16, r1_lying_17, r1_lying_18, r1_lying_21, r1_lying_22, r1_lying_25, r1_lying_26, r1_lying_27, r1_lying_30, r1_lying_31, r1_lying_32, r1_lying_33, r1_lying_36, r1_lying_39, r1_lying_40, e_const, e_lconst, e_dconst, e_iload, e_kiload, e_aload, e_kaload, e_lload, e_klload, e_iinc, e_kiinc, e_istore, e_astore, e_lstore, e_dupI, e_dupR, e_dup2, e_iadd, e_isub, e_imul, e_idiv, e_irem, e_ladd, e_lmul, e_i2l, e_i2d, e_ddiv, e_icmp, e_if, e_goto, e_switch, e_tsw0, e_tsw1, e_getI, e_getA, e_putI, e_iald, e_iast, e_tnew, e_tald, e_tast, e_iret, e_zret, e_lret, e_dret, e_vret, e_throw, lg0, ls0, lt0, lg1, ls1, lo1, lt1, lg2, ls2, lo2, lt2, lg3, ls3, lo3, lt3, lg4, ls4, lo4, lt4, lg5, ls5, lo5, lt5, lg6, ls6, lo6, lt6, lg7, ls7, lo7, lt7, lg8, ls8, lo8, lo0, okI, okR, okN, e_calli1, e_calll1, e_callv1, e_xcalli1, e_xcallv1, e_acalli1, e_calli2, e_calll2, e_callv2, e_xcalli2, e_xcallv2, e_acalli2, e_calli3, e_calll3, e_callv3, e_xcalli3, e_xcallv3, e_acalli3, e_calli4, e_calll4, e_callv4, e_xcalli4, e_xcallv4, e_acalli4, e_scalli3, sh4_0, sh4_1, sh4_2, sh4_3, sh4_4, eqr, eqv, true_and, and_true, true_or, or_true, ln1_2, ln1_3, ln1_4, ln1_5, ln1_6, ln1_7, ln1_8, ln1_10, ln1_11, ln1_12, Int.toNat_natCast]
      have h1 := hB.pl hi
      refine ⟨⟨⟨by omega, by omega⟩, by omega, by omega⟩, fun h => by omega, fun h => ⟨⟨by omega, by omega⟩, ⟨⟨by omega, by omega⟩, hk⟩, fun h2 => ?_, fun h2 => ⟨⟨by omega, by omega⟩, ?_⟩⟩⟩
      · rw [sK_n h2, ← Int.add_zero (sK _ _ _ i)] at ih
        exact ih
      · rw [sK_y (Decidable.not_not.mp h2)] at ih
        exact ih
  simp only [r1_lying_0, r1_lying_1, r1_lying_2, r1_lying_3, r1_lying_5, r1_lying_7, r1_lying_10, r1_lying_11, r1_lying_12, r1_lying_15, r1_lying_16, r1_lying_17, r1_lying_18, r1_lying_21, r1_lying_22, r1_lying_25, r1_lying_26, r1_lying_27, r1_lying_30, r1_lying_31, r1_lying_32, r1_lying_33, r1_lying_36, r1_lying_39, r1_lying_40, e_const, e_lconst, e_dconst, e_iload, e_kiload, e_aload, e_kaload, e_lload, e_klload, e_iinc, e_kiinc, e_istore, e_astore, e_lstore, e_dupI, e_dupR, e_dup2, e_iadd, e_isub, e_imul, e_idiv, e_irem, e_ladd, e_lmul, e_i2l, e_i2d, e_ddiv, e_icmp, e_if, e_goto, e_switch, e_tsw0, e_tsw1, e_getI, e_getA, e_putI, e_iald, e_iast, e_tnew, e_tald, e_tast, e_iret, e_zret, e_lret, e_dret, e_vret, e_throw, lg0, ls0, lt0, lg1, ls1, lo1, lt1, lg2, ls2, lo2, lt2, lg3, ls3, lo3, lt3, lg4, ls4, lo4, lt4, lg5, ls5, lo5, lt5, lg6, ls6, lo6, lt6, lg7, ls7, lo7, lt7, lg8, ls8, lo8, lo0, okI, okR, okN, e_calli1, e_calll1, e_callv1, e_xcalli1, e_xcallv1, e_acalli1, e_calli2, e_calll2, e_callv2, e_xcalli2, e_xcallv2, e_acalli2, e_calli3, e_calll3, e_callv3, e_xcalli3, e_xcallv3, e_acalli3, e_calli4, e_calll4, e_callv4, e_xcalli4, e_xcallv4, e_acalli4, e_scalli3, sh4_0, sh4_1, sh4_2, sh4_3, sh4_4, eqr, eqv, true_and, and_true, true_or, or_true, ln1_2, ln1_3, ln1_4, ln1_5, ln1_6, ln1_7, ln1_8, ln1_10, ln1_11, ln1_12]
  exact loop 0 (by omega)
theorem run1_full {R : ST} {k : Nat} (hk : (k : Int) < fF R 1) (hB : B1 R) : X1_full [vR 0, vI k] R (eqr (cH (gA R 5) (gA R 7) k (csR R k) 20) R) nox := by
  have h0 := hB.kc
  have hc := csR_b hk hB
  refine ⟨Nat.le_of_ble_eq_true rfl, ?_⟩
  show RR _ 0 [some (vR 0), some (vI k), none, none] [] R
  have loop : ∀ i, i ≤ 20 → RR (T1_full (eqr (cH (gA R 5) (gA R 7) k (csR R k) 20) R) nox) 4 [some (vR 0), some (vI k), some (vI (cH (gA R 5) (gA R 7) k (csR R k) i)), some (vI i)] [] R := by
    refine up ?_ ?_
    · rw [r1_full_4]
      simp only [r1_full_0, r1_full_1, r1_full_2, r1_full_3, r1_full_5, r1_full_7, r1_full_10, r1_full_11, r1_full_12, r1_full_15, r1_full_16, r1_full_17, r1_full_18, r1_full_21, r1_full_22, r1_full_25, r1_full_26, r1_full_27, r1_full_28, r1_full_29, r1_full_32, r1_full_35, r1_full_36, r1_full_39, r1_full_40, r1_full_41, r1_full_42, r1_full_45, r1_full_48, r1_full_49, e_const, e_lconst, e_dconst, e_iload, e_kiload, e_aload, e_kaload, e_lload, e_klload, e_iinc, e_kiinc, e_istore, e_astore, e_lstore, e_dupI, e_dupR, e_dup2, e_iadd, e_isub, e_imul, e_idiv, e_irem, e_ladd, e_lmul, e_i2l, e_i2d, e_ddiv, e_icmp, e_if, e_goto, e_switch, e_tsw0, e_tsw1, e_getI, e_getA, e_putI, e_iald, e_iast, e_tnew, e_tald, e_tast, e_iret, e_zret, e_lret, e_dret, e_vret, e_throw, lg0, ls0, lt0, lg1, ls1, lo1, lt1, lg2, ls2, lo2, lt2, lg3, ls3, lo3, lt3, lg4, ls4, lo4, lt4, lg5, ls5, lo5, lt5, lg6, ls6, lo6, lt6, lg7, ls7, lo7, lt7, lg8, ls8, lo8, lo0, okI, okR, okN, e_calli1, e_calll1, e_callv1, e_xcalli1, e_xcallv1, e_acalli1, e_calli2, e_calll2, e_callv2, e_xcalli2, e_xcallv2, e_acalli2, e_calli3, e_calll3, e_callv3, e_xcalli3, e_xcallv3, e_acalli3, e_calli4, e_calll4, e_callv4, e_xcalli4, e_xcallv4, e_acalli4, e_scalli3, sh4_0, sh4_1, sh4_2, sh4_3, sh4_4, eqr, eqv, true_and, and_true, true_or, or_true, ln1_2, ln1_3, ln1_4, ln1_5, ln1_6, ln1_7, ln1_8, ln1_10, ln1_11, ln1_12]
      exact ⟨⟨⟨by omega, by omega⟩, by omega, by omega⟩, fun h => trivial, fun h => absurd h (by omega)⟩
    · intro i hi ih
      rw [r1_full_4]
      simp only [r1_full_0, r1_full_1, r1_full_2, r1_full_3, r1_full_5, r1_full_7, r1_full_10, r1_full_11, r1_full_12, r1_full_15, r1_full_16, r1_full_17, r1_full_18, r1_full_21, r1_full_22, r1_full_25, r1_full_26, r1_full_27, r1_full_28, r1_full_29, r1_full_32, r1_full_35, r1_full_36, r1_full_39, r1_full_40, r1_full_41, r1_full_42, r1_full_45, r1_full_48, r1_full_49, e_const, e_lconst, e_dconst, e_iload, e_kiload, e_aload, e_kaload, e_lload, e_klload, e_iinc, e_kiinc, e_istore, e_astore, e_lstore, e_dupI, e_dupR, e_dup2, e_iadd, e_isub, e_imul, e_idiv, e_irem, e_ladd, e_lmul, e_i2l, e_i2d, e_ddiv, e_icmp, e_if, e_goto, e_switch, e_tsw0, e_tsw1, e_getI, e_getA, e_putI, e_iald, e_iast, e_tnew, e_tald, e_tast, e_iret, e_zret, e_lret, e_dret, e_vret, e_throw, lg0, ls0, lt0, lg1, ls1, lo1, lt1, lg2, ls2, lo2, lt2, lg3, ls3, lo3, lt3, lg4, ls4, lo4, lt4, lg5, ls5, lo5, lt5, lg6, ls6, lo6, lt6, lg7, ls7, lo7, lt7, lg8, ls8, lo8, lo0, okI, okR, okN, e_calli1, e_calll1, e_callv1, e_xcalli1, e_xcallv1, e_acalli1, e_calli2, e_calll2, e_callv2, e_xcalli2, e_xcallv2, e_acalli2, e_calli3, e_calll3, e_callv3, e_xcalli3, e_xcallv3, e_acalli3, e_calli4, e_calll4, e_callv4, e_xcalli4, e_xcallv4, e_acalli4, e_scalli3, sh4_0, sh4_1, sh4_2, sh4_3, sh4_4, eqr, eqv, true_and, and_true, true_or, or_true, ln1_2, ln1_3, ln1_4, ln1_5, ln1_6, ln1_7, ln1_8, ln1_10, ln1_11, ln1_12, Int.toNat_natCast]
      have h1 := hB.pl hi
      refine ⟨⟨⟨by omega, by omega⟩, by omega, by omega⟩, fun h => by omega, fun h => ⟨⟨by omega, by omega⟩, ⟨⟨by omega, by omega⟩, by omega, by omega⟩, fun h2 => ?_, fun h2 => ⟨⟨by omega, by omega⟩, _, run1_cells hk hB, ?_⟩⟩⟩
      · rw [cH_n (fun z => h2 z.1), ← Int.add_zero (cH _ _ _ _ i)] at ih
        exact ih
      · rintro r S1 ⟨rfl, rfl⟩
        refine ⟨⟨⟨by omega, by omega⟩, by omega, by omega⟩, fun h3 => ?_, fun h3 => ?_⟩
        · rw [cH_n (fun z => h3 z.2), ← Int.add_zero (cH _ _ _ _ i)] at ih
          exact ih
        · rw [cH_y ⟨Decidable.not_not.mp h2, Decidable.not_not.mp h3⟩] at ih
          exact ih
  simp only [r1_full_0, r1_full_1, r1_full_2, r1_full_3, r1_full_5, r1_full_7, r1_full_10, r1_full_11, r1_full_12, r1_full_15, r1_full_16, r1_full_17, r1_full_18, r1_full_21, r1_full_22, r1_full_25, r1_full_26, r1_full_27, r1_full_28, r1_full_29, r1_full_32, r1_full_35, r1_full_36, r1_full_39, r1_full_40, r1_full_41, r1_full_42, r1_full_45, r1_full_48, r1_full_49, e_const, e_lconst, e_dconst, e_iload, e_kiload, e_aload, e_kaload, e_lload, e_klload, e_iinc, e_kiinc, e_istore, e_astore, e_lstore, e_dupI, e_dupR, e_dup2, e_iadd, e_isub, e_imul, e_idiv, e_irem, e_ladd, e_lmul, e_i2l, e_i2d, e_ddiv, e_icmp, e_if, e_goto, e_switch, e_tsw0, e_tsw1, e_getI, e_getA, e_putI, e_iald, e_iast, e_tnew, e_tald, e_tast, e_iret, e_zret, e_lret, e_dret, e_vret, e_throw, lg0, ls0, lt0, lg1, ls1, lo1, lt1, lg2, ls2, lo2, lt2, lg3, ls3, lo3, lt3, lg4, ls4, lo4, lt4, lg5, ls5, lo5, lt5, lg6, ls6, lo6, lt6, lg7, ls7, lo7, lt7, lg8, ls8, lo8, lo0, okI, okR, okN, e_calli1, e_calll1, e_callv1, e_xcalli1, e_xcallv1, e_acalli1, e_calli2, e_calll2, e_callv2, e_xcalli2, e_xcallv2, e_acalli2, e_calli3, e_calll3, e_callv3, e_xcalli3, e_xcallv3, e_acalli3, e_calli4, e_calll4, e_callv4, e_xcalli4, e_xcallv4, e_acalli4, e_scalli3, sh4_0, sh4_1, sh4_2, sh4_3, sh4_4, eqr, eqv, true_and, and_true, true_or, or_true, ln1_2, ln1_3, ln1_4, ln1_5, ln1_6, ln1_7, ln1_8, ln1_10, ln1_11, ln1_12]
  exact loop 0 (by omega)
