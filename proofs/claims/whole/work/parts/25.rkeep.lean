/-! THE CLASS AND THE REFERENCE: what changes them alike -/
theorem Rel.thr {S R : ST} (h : Rel S R) (n : Int) : Rel S (thr R n) := h
theorem Rel.cg {S R S' R' : ST} (h : Rel S R) (e1 : S'.1 = S.1) (e2 : S'.2.1 = S.2.1) (e3 : R'.1 = R.1) (e4 : R'.2.1 = R.2.1) : Rel S' R' := by
  obtain ⟨a, b, x⟩ := S
  obtain ⟨a', b', x'⟩ := S'
  obtain ⟨c, d, y⟩ := R
  obtain ⟨c', d', y'⟩ := R'
  cases e1; cases e2; cases e3; cases e4
  exact h
theorem Inv.cg {S S' : ST} (h : Inv S) (e1 : S'.1 = S.1) (e2 : S'.2.1 = S.2.1) : Inv S' := by
  obtain ⟨a, b, x⟩ := S
  obtain ⟨a', b', x'⟩ := S'
  cases e1; cases e2
  exact h
theorem Rel.la {S R : ST} (h : Rel S R) {t p c : Nat} (hc : c < 64) : Rel (laT S t p c) (laR R t p c) := by
  obtain ⟨e, ⟨g2, g3, g4, g5, g7, g10, g11⟩, h3, h4⟩ := h
  refine ⟨e, ⟨g2, g3, g4, g5, fun i => ?_, g10, fun i => ?_⟩, fun q hq hn => ⟨(h3 q hq hn).1, fun d hd => ?_⟩, fun u hu => ?_⟩
  · unfold laR laT
    by_cases e : i = p <;> simp [e, gA_pA, g7]
  · unfold laR laT
    by_cases e : i = t <;> simp [e, gA_pA, g11]
  · have g8 := (h3 q hq hn).2 d hd
    unfold laR laT
    by_cases e : q * 64 + d = p * 64 + c
    · have e2 : 64 * q + d = 64 * p + c := by omega
      simp [e, e2, gA_pA]
    · have e2 : ¬ 64 * q + d = 64 * p + c := by omega
      simp [e, e2, gA_pA, g8]
  · have h5 := h4 u hu
    unfold laR laT
    by_cases e : u = t
    · simp [e, gA_pA]; omega
    · simp [e, gA_pA]; exact h5
theorem Rel.li {S R : ST} (h : Rel S R) {t p c : Nat} (hc : c < 64) : Rel (liT S t p c) (liR R t p c) := by
  obtain ⟨e, ⟨g2, g3, g4, g5, g7, g10, g11⟩, h3, h4⟩ := h
  refine ⟨e, ⟨g2, g3, g4, g5, fun i => ?_, g10, fun i => ?_⟩, fun q hq hn => ⟨(h3 q hq hn).1, fun d hd => ?_⟩, fun u hu => ?_⟩
  · unfold liR liT
    by_cases e : i = p <;> simp [e, gA_pA, g7]
  · unfold liR liT
    by_cases e : i = t <;> simp [e, gA_pA, g11]
  · have g8 := (h3 q hq hn).2 d hd
    unfold liR liT
    by_cases e : q * 64 + d = p * 64 + c
    · have e2 : 64 * q + d = 64 * p + c := by omega
      simp [e, e2, gA_pA]
    · have e2 : ¬ 64 * q + d = 64 * p + c := by omega
      simp [e, e2, gA_pA, g8]
  · have h5 := h4 u hu
    unfold liR liT
    by_cases e : u = t
    · simp [e, gA_pA]
    · simp [e, gA_pA]; exact h5
theorem Rel.dr {S R : ST} (h : Rel S R) {p : Nat} : Rel (drT S p) (drR R p) := by
  obtain ⟨⟨e1, e9, e13, e14⟩, ⟨g2, g3, g4, g5, g7, g10, g11⟩, h3, h4⟩ := h
  refine ⟨⟨e1, e9, ?_, e14⟩, ⟨g2, g3, g4, fun i => ?_, g7, g10, g11⟩, fun q hq hn => ?_, h4⟩
  · show fF R 13 + 1 = fF S 14 + 1
    rw [e13]
  · unfold drR drT
    by_cases e : i = p <;> simp [e, gA_pA, gA_pF, g5]
  · have e : q ≠ p := by
      intro e
      apply hn
      unfold drT
      simp [e, gA_pA, gA_pF]
    have hn' : gA S 6 q ≠ -1 := by
      intro z
      apply hn
      unfold drT
      simp [e, gA_pA, gA_pF, z]
    exact h3 q hq hn'
theorem Rel.ki {S R : ST} (h : Rel S R) {k : Nat} {z s : Int} : Rel (kiT S k z s) (kiR R k z s) := by
  obtain ⟨⟨e1, e9, e13, e14⟩, ⟨g2, g3, g4, g5, g7, g10, g11⟩, h3, h4⟩ := h
  refine ⟨⟨rfl, e9, e13, e14⟩, ⟨fun i => ?_, fun i => ?_, g4, g5, g7, g10, g11⟩, h3, h4⟩
  · unfold kiR kiT
    by_cases e : i = k <;> simp [e, gA_pA, gA_pF, g2]
  · unfold kiR kiT
    by_cases e : i = k <;> simp [e, gA_pA, gA_pF, g3]
theorem Rel.mv {S R : ST} (h : Rel S R) (v : Int) : Rel (pF S 15 v) (pF R 14 v) := by
  obtain ⟨⟨e1, e9, e13, e14⟩, h2⟩ := h
  exact ⟨⟨e1, e9, e13, rfl⟩, h2⟩
theorem Rel.nw {S R : ST} (h : Rel S R) {t k : Nat} : Rel (nwT S t k) (pF (pA R 10 t k) 9 ((t : Int) + 1)) := by
  obtain ⟨⟨e1, e9, e13, e14⟩, ⟨g2, g3, g4, g5, g7, g10, g11⟩, h3, h4⟩ := h
  refine ⟨⟨e1, rfl, e13, e14⟩, ⟨g2, g3, g4, g5, g7, fun i => ?_, g11⟩, h3, h4⟩
  unfold nwT
  by_cases e : i = t <;> simp [e, gA_pA, gA_pF, g10]
theorem opR_2 (R : ST) (p k : Nat) : (opR R p k).2.2 = R.2.2 := by
  have hc : ∀ n, (clR (op1 R p k) p n).2.2 = R.2.2 := by
    intro n
    induction n with
    | zero => rfl
    | succ n ih => exact ih
  unfold opR
  split
  · exact hc 64
  · exact hc 64
theorem opR_F (R : ST) (p k a : Nat) : fF (opR R p k) a = fF R a := by
  have hc : fF (clR (op1 R p k) p 64) a = fF R a := (clR_F (op1 R p k) p a 64).trans rfl
  unfold opR op2
  split
  · rw [fF_pA, fF_pA, hc]
  · rw [fF_pA, hc]
theorem opR_A {R : ST} {p k a i : Nat} (h : a ≠ 4) : gA (opR R p k) a i = gA (clR (op1 R p k) p 64) a i := by
  unfold opR op2
  split
  · rw [gA_o h, gA_o h]
  · rw [gA_o h]
theorem opR_o {R : ST} {p k a i : Nat} (h : a ≠ 4) (h8 : a ≠ 8) : gA (opR R p k) a i = gA (op1 R p k) a i := by
  rw [opR_A h, clR_o h8]
theorem Rel.ad {S R : ST} (h : Rel S R) (hI : Inv S) {p k : Nat} (hp : p < 20) (hk : (k : Int) < fF S 0) (h6 : gA S 6 p = -1) : Rel (adT S p k) (opR R p k) := by
  have h0 := hI.1.kc
  have hkd := hI.2.1 k (by omega) hk
  have h8 : gA S 8 p = 0 := by
    rw [hI.2.2.2.1 p hp]
    refine oc_none 64 (fun c hc => ?_)
    exact Decidable.byContradiction (fun z => (hI.2.2.2.2.1 p c hp hc z).1 h6)
  have h9 : ∀ c, c < 64 → gA S 9 (p * 64 + c) = -1 := fun c hc => Decidable.byContradiction (fun z => (hI.2.2.2.2.1 p c hp hc z).1 h6)
  obtain ⟨⟨e1, e9, e13, e14⟩, ⟨g2, g3, g4, g5, g7, g10, g11⟩, h3, h4⟩ := h
  have f6 : ∀ q, gA (adT S p k) 6 q = if q = p then (k : Int) else gA S 6 q := fun q => by
    unfold adT
    by_cases e : q = p <;> simp [e, gA_pA]
  refine ⟨⟨?_, ?_, ?_, ?_⟩, ⟨fun i => ?_, fun i => ?_, fun i => ?_, fun i => ?_, fun i => ?_, fun i => ?_, fun i => ?_⟩, fun q hq hn => ⟨?_, fun d hd => ?_⟩, fun u hu => ?_⟩
  · rw [opR_F]; exact e1
  · rw [opR_F]; exact e9
  · rw [opR_F]; exact e13
  · rw [opR_F]; exact e14
  · rw [opR_o (by decide) (by decide)]; exact g2 i
  · rw [opR_o (by decide) (by decide)]; exact g3 i
  · have ha : gA (adT S p k) 5 i = if i = k then nxV (gA S 5 k) (gA S 2 k) (gA S 4 k) else gA S 5 i := by
      unfold adT
      by_cases e : i = k <;> simp [e, gA_pA]
    have hb : ∀ v, gA (pA (clR (op1 R p k) p 64) 4 k v) 4 i = if i = k then v else gA R 4 i := fun v => by
      by_cases e : i = k
      · rw [if_pos e, e, gA_s]
      · rw [if_neg e, gA_i e, clR_o (by decide)]; rfl
    have hc : ∀ v w, gA (pA (pA (clR (op1 R p k) p 64) 4 k v) 4 k w) 4 i = if i = k then w else gA R 4 i := fun v w => by
      by_cases e : i = k
      · rw [if_pos e, e, gA_s]
      · rw [if_neg e, gA_i e, hb, if_neg e]
    rw [ha]
    unfold opR op2 nxV
    by_cases w : gA R 4 k + gA R 3 k > 64 % gA R 2 k
    · rw [if_pos w, hc]
      rw [g2, g3, g4, ← hkd.2.2] at w
      rw [if_pos w, g4]
    · rw [if_neg w, hb]
      rw [g2, g3, g4, ← hkd.2.2] at w
      rw [if_neg w, g4, g4, g3]
  · rw [opR_o (by decide) (by decide), f6]
    unfold op1
    by_cases e : i = p <;> simp [e, gA_pA, g5]
  · rw [opR_o (by decide) (by decide)]
    show _ = gA S 8 i
    unfold op1
    by_cases e : i = p
    · rw [e, gA_s, h8]
    · rw [gA_i e]; exact g7 i
  · rw [opR_o (by decide) (by decide)]; exact g10 i
  · rw [opR_o (by decide) (by decide)]; exact g11 i
  · rw [f6] at hn
    rw [opR_o (by decide) (by decide)]
    unfold op1 adT
    by_cases e : q = p
    · simp [e, gA_pA, g4]
    · rw [if_neg e] at hn
      have := (h3 q hq hn).1
      simp [e, gA_pA, this]
  · rw [f6] at hn
    rw [opR_A (by decide), clR_8]
    show _ = gA S 9 (q * 64 + d)
    by_cases e : q = p
    · rw [if_pos (by omega), e, h9 d hd]
    · rw [if_neg e] at hn
      rw [if_neg (by omega)]
      exact (h3 q hq hn).2 d hd
  · rw [opR_o (by decide) (by decide)]
    exact h4 u hu
