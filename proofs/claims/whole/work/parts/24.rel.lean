/-! THE CLASS AND THE REFERENCE say the same -/
def Rel (S R : ST) : Prop := (fF R 1 = fF S 0 ∧ fF R 9 = fF S 10 ∧ fF R 13 = fF S 14 ∧ fF R 14 = fF S 15) ∧ ((∀ i, gA R 2 i = gA S 1 i) ∧ (∀ i, gA R 3 i = gA S 2 i) ∧ (∀ i, gA R 4 i = gA S 5 i) ∧ (∀ i, gA R 5 i = gA S 6 i) ∧ (∀ i, gA R 7 i = gA S 8 i) ∧ (∀ i, gA R 10 i = gA S 11 i) ∧ (∀ i, gA R 11 i = gA S 12 i)) ∧ (∀ p : Nat, p < 20 → gA S 6 p ≠ -1 → gA R 6 p = gA S 7 p ∧ ∀ c : Nat, c < 64 → gA R 8 (64 * p + c) = gA S 9 (p * 64 + c)) ∧ (∀ t : Nat, t < 150 → (-1 ≤ gA R 12 t ∧ gA R 12 t < 64) ∧ (gA S 12 t ≠ -1 → gA R 12 t = gA S 13 t))
theorem Rel.f5 {S R : ST} (h : Rel S R) : gA R 5 = gA S 6 := funext h.2.1.2.2.2.1
theorem Rel.f7 {S R : ST} (h : Rel S R) : gA R 7 = gA S 8 := funext h.2.1.2.2.2.2.1
theorem Rel.b1 {S R : ST} (h : Rel S R) (hI : Inv S) : B1 R := by
  obtain ⟨⟨e1, e9, e13, e14⟩, ⟨g2, g3, g4, g5, g7, g10, g11⟩, h3, h4⟩ := h
  obtain ⟨hB, k1, k2, k3, k4, k5, k6⟩ := hI
  have h0 := hB.kc
  have h1 := hB.tc
  refine ⟨by rw [e1]; exact h0, by rw [e9]; exact h1, fun k hk => ?_, fun p hp => ?_, fun t ht => ?_, fun p c hp hc hn => ?_⟩
  · have := hB.kd hk
    rw [e1, g2, g3, g4]
    exact ⟨this.1, this.2.1, this.2.2.2.2, fun h => (k1 k hk h).1⟩
  · have := hB.pl hp
    have h2 := k2 p hp
    rw [e1, g5, g7]
    omega
  · have := hB.th ht
    have h2 := (h4 t ht).1
    rw [g10, g11]
    omega
  · rw [g5] at hn
    rw [(h3 p hp hn).2 c hc]
    exact hB.cl (by omega)
theorem Rel.cs {S R : ST} (h : Rel S R) (hI : Inv S) {k : Nat} (hk : (k : Int) < fF S 0) : csR R k = gA S 3 k := by
  have h0 := hI.1.kc
  have h1 := hI.2.1 k (by omega) hk
  unfold csR
  rw [h.2.1.1, h1.2.1]
theorem Rel.told {S R : ST} (h : Rel S R) (hI : Inv S) {t : Nat} (ht : (t : Int) < fF S 10) (w : Int) : toldR R t w = toldC S t w := by
  obtain ⟨⟨e1, e9, e13, e14⟩, ⟨g2, g3, g4, g5, g7, g10, g11⟩, h3, h4⟩ := h
  have h1 := hI.1.tc
  have ht2 : t < 150 := by omega
  have hth := hI.1.th ht2
  unfold toldR toldC toldV
  rw [g10, g11, g2]
  by_cases e : gA S 12 t = -1
  · rw [e, if_pos rfl, if_pos rfl]
  · obtain ⟨p, hp⟩ : ∃ p : Nat, gA S 12 t = p := ⟨(gA S 12 t).toNat, by omega⟩
    obtain ⟨c, hc⟩ : ∃ c : Nat, gA S 13 t = c := ⟨(gA S 13 t).toNat, by omega⟩
    have h5 := (hI.2.2.2.2.2.1 t ht2 ht).2 e
    rw [hp, hc, Int.toNat_natCast, Int.toNat_natCast] at h5
    have h6 := hI.2.2.2.2.1 p c (by omega) (by omega) (by omega)
    have h7 := (h3 p (by omega) h6.1).1
    rw [(h4 t ht2).2 e, hp, Int.toNat_natCast, h7]
theorem Rel.tray {S R : ST} (h : Rel S R) (hI : Inv S) {p : Nat} (hp : p < 20) (w : Int) : trayR R p w = trayC S p w := by
  have h0 := hI.1.pl hp
  have h2 := hI.2.2.1 p hp
  have hc := fun hk : gA S 6 p ≠ -1 => h.cs hI (k := (gA S 6 p).toNat) (by omega)
  obtain ⟨⟨e1, e9, e13, e14⟩, ⟨g2, g3, g4, g5, g7, g10, g11⟩, h3, h4⟩ := h
  unfold trayR trayC trayV
  rw [g5, g7, g2]
  by_cases e : gA S 6 p = -1
  · rw [if_pos e, if_pos e]
  · rw [hc e, (h3 p hp e).1]
theorem Rel.cells {S R : ST} (h : Rel S R) (hI : Inv S) {p : Nat} (hp : p < 20) : cellsR R p = cellsC S p := by
  have h0 := hI.1.pl hp
  have h2 := hI.2.2.1 p hp
  unfold cellsR cellsC
  rw [h.2.1.2.2.2.1]
  by_cases e : gA S 6 p = -1
  · rw [if_pos e, if_pos e]
  · rw [if_neg e, if_neg e, h.cs hI (by omega)]
theorem Rel.cell {S R : ST} (h : Rel S R) (hI : Inv S) {p c : Nat} (hp : p < 20) (hc : (c : Int) < cellsC S p) : gA R 8 (64 * p + c) = gA S 9 (p * 64 + c) := by
  have h0 := cellsC_b hp hI.1
  refine (h.2.2.1 p hp (fun e => ?_)).2 c (by omega)
  unfold cellsC at hc
  rw [if_pos e] at hc
  omega
theorem Rel.ab {S R : ST} (h : Rel S R) (hI : Inv S) {k : Nat} (hk : (k : Int) < fF S 0) (w : Int) : abR R k w = abC S k w := by
  unfold abR abC
  rw [h.cs hI hk, h.f5, h.f7, h.2.1.1, h.2.1.2.1, h.2.1.2.2.1]
theorem Rel.wb {S R : ST} (h : Rel S R) (k : Nat) : wbR R k = wbC S k := by
  unfold wbR wbC
  rw [h.f5, h.f7, h.2.1.1, Int.mul_comm 64, Int.mul_comm (gA S 1 k)]
theorem sm_one {F F' : Nat → Int} {j : Nat} {d : Int} (h : ∀ k, F' k = F k + if k = j then d else 0) : ∀ n : Nat, sm F' n = sm F n + if j < n then d else 0
  | 0 => by rw [if_neg (by omega)]; rfl
  | n + 1 => by
    show sm F' n + F' n = sm F n + F n + _
    rw [sm_one h n, h n]
    by_cases e : n = j
    · rw [if_neg (by omega), if_pos e, if_pos (by omega)]; omega
    · rw [if_neg e]
      by_cases e2 : j < n
      · rw [if_pos e2, if_pos (by omega)]; omega
      · rw [if_neg e2, if_neg (by omega)]; omega
theorem sm_two {f g z : Nat → Int} {kc : Nat} : ∀ n : Nat, (∀ p, p < n → -1 ≤ f p ∧ f p < kc) → sm (fun k => cK f k n * 64 - sK f g k n * z k) kc = sN f (fun p => 64 - z (f p).toNat * g p) n ∧ sm (fun k => sK f g k n) kc = sN f g n ∧ (n : Int) - cK f (-1) n = sN f (fun _ => 1) n
  | 0, _ => by
    have e : ∀ F : Nat → Int, (∀ k, F k = 0) → ∀ m : Nat, sm F m = 0 := by
      intro F hF m
      induction m with
      | zero => rfl
      | succ m ih => show sm F m + F m = 0; rw [ih, hF]; rfl
    refine ⟨e _ (fun k => ?_) kc, e _ (fun k => rfl) kc, rfl⟩
    show (0 : Int) * 64 - 0 * z k = 0
    omega
  | n + 1, h => by
    obtain ⟨h1, h2, h3⟩ := sm_two (f := f) (g := g) (z := z) (kc := kc) n (fun p hp => h p (by omega))
    have hn := h n (by omega)
    by_cases e : f n = -1
    · have a1 : ∀ k : Nat, cK f k (n + 1) = cK f k n := fun k => cK_n (by omega)
      have a2 : ∀ k : Nat, sK f g k (n + 1) = sK f g k n := fun k => sK_n (by omega)
      simp only [a1, a2, cK_y e, sN_y e]
      refine ⟨h1, h2, ?_⟩
      omega
    · obtain ⟨j, hj⟩ : ∃ j : Nat, f n = j := ⟨(f n).toNat, by omega⟩
      have a1 : ∀ k : Nat, cK f k (n + 1) = cK f k n + if k = j then 1 else 0 := fun k => by
        by_cases q : k = j
        · rw [if_pos q, cK_y (by omega)]
        · rw [if_neg q, cK_n (by omega)]; omega
      have a2 : ∀ k : Nat, sK f g k (n + 1) = sK f g k n + if k = j then g n else 0 := fun k => by
        by_cases q : k = j
        · rw [if_pos q, sK_y (by omega)]
        · rw [if_neg q, sK_n (by omega)]; omega
      refine ⟨?_, ?_, ?_⟩
      · rw [sN_n e, ← h1, sm_one (j := j) (d := 64 - z j * g n) (F := fun k => cK f k n * 64 - sK f g k n * z k) (fun k => ?_) kc, if_pos (by omega), hj, Int.toNat_natCast]
        show cK f k (n + 1) * 64 - sK f g k (n + 1) * z k = cK f k n * 64 - sK f g k n * z k + _
        rw [a1, a2]
        by_cases q : k = j
        · rw [if_pos q, if_pos q, if_pos q, Int.add_mul, Int.add_mul, q, Int.mul_comm (g n)]; omega
        · rw [if_neg q, if_neg q, if_neg q]; simp only [Int.add_zero]
      · rw [sN_n e, ← h2, sm_one (j := j) (d := g n) (F := fun k => sK f g k n) (fun k => a2 k) kc, if_pos (by omega)]
      · rw [sN_n e, cK_n e]; omega
theorem Rel.bnd {S : ST} (hI : Inv S) {kc : Nat} (hk : fF S 0 = kc) (p : Nat) (hp : p < 20) : -1 ≤ gA S 6 p ∧ gA S 6 p < kc := by
  have h0 := hI.1.pl hp
  have h2 := hI.2.2.1 p hp
  omega
theorem Rel.three {S R : ST} (h : Rel S R) (hI : Inv S) : sN (gA R 5) (fun _ => 1) 20 = 20 - cK (gA S 6) (-1) 20 ∧ sN (gA R 5) (gA R 7) 20 = sm (fun k => sK (gA S 6) (gA S 8) k 20) (fF S 0).toNat ∧ sN (gA R 5) (waR R) 20 = sm (wbC S) (fF S 0).toNat := by
  have h0 := hI.1.kc
  obtain ⟨kc, hk⟩ : ∃ kc : Nat, fF S 0 = kc := ⟨(fF S 0).toNat, by omega⟩
  obtain ⟨a, b, c⟩ := sm_two (f := gA S 6) (g := gA S 8) (z := gA S 1) 20 (Rel.bnd hI hk)
  rw [hk, Int.toNat_natCast, h.f5, h.f7]
  refine ⟨by rw [← c]; rfl, b.symm, ?_⟩
  have e : waR R = fun p => 64 - gA S 1 (gA S 6 p).toNat * gA S 8 p := by
    funext p
    unfold waR
    rw [h.f5, h.f7, h.2.1.1]
  rw [e, ← a]
  rfl
theorem Rel.co {S R : ST} (h : Rel S R) (hI : Inv S) (w : Int) : coR R w = coC S w := by
  obtain ⟨a, b, c⟩ := h.three hI
  unfold coR coC
  rw [a, b, c, h.1.1, h.1.2.1, h.1.2.2.1, h.1.2.2.2]
theorem Rel.room {S R : ST} (h : Rel S R) (hI : Inv S) {k : Nat} (hk : (k : Int) < fF S 0) : (cK (gA R 5) k 20 + cK (gA R 5) (-1) 20) * csR R k - sK (gA R 5) (gA R 7) k 20 = cK (gA S 6) k 20 * gA S 3 k - sK (gA S 6) (gA S 8) k 20 + cK (gA S 6) (-1) 20 * gA S 3 k := by
  rw [h.cs hI hk, h.f5, h.f7, Int.add_mul]
  omega
theorem woF_cong {f g : Nat → Int} (h : ∀ k, f k = g k) (n : Nat) : woF f n = woF g n := by rw [funext h]
theorem Rel.worst {S R : ST} (h : Rel S R) : (woF (wbR R) (fF R 1).toNat).1 = (woF (wbC S) (fF S 0).toNat).1 := by
  rw [h.1.1, woF_cong h.wb]
theorem Rel.pl {S R : ST} (h : Rel S R) (hI : Inv S) {k : Nat} (hk : (k : Int) < fF S 0) : plF (gA R 5) (gA R 7) k (csR R k) = plC S k := by
  rw [h.cs hI hk, h.f5, h.f7]
  rfl
theorem f31_cong {f g : Nat → Int} : ∀ (n : Nat) (d : Int64), (∀ c, c < n → f c = g c) → f31 f n d = f31 g n d
  | 0, _, _ => rfl
  | n + 1, d, h => by
    show f31 f n d * 31 + _ = f31 g n d * 31 + _
    rw [f31_cong n d (fun c hc => h c (by omega)), h n (by omega)]
theorem Rel.dk {S R : ST} (h : Rel S R) (hI : Inv S) : ∀ (n : Nat) (d : Int64), (n : Int) ≤ fF S 0 → dkR R n d = dkC S n d
  | 0, _, _ => rfl
  | n + 1, d, hn => by
    show f31 _ 8 (dkR R n d) = f31 _ 8 (dkC S n d)
    rw [h.dk hI n d (by omega)]
    exact f31_cong 8 _ (fun c _ => h.ab hI (by omega) c)
theorem Rel.dp {S R : ST} (h : Rel S R) (hI : Inv S) : ∀ (n : Nat) (d : Int64), n ≤ 20 → dpR R n d = dpC S n d
  | 0, _, _ => rfl
  | n + 1, d, hn => by
    show dgpR R n (dpR R n d) = dplC S n (dpC S n d)
    rw [h.dp hI n d (by omega)]
    unfold dgpR dplC
    have hb := cellsC_b (p := n) (by omega) hI.1
    rw [h.cells hI (by omega), f31_cong 5 _ (fun c _ => h.tray hI (by omega) c)]
    exact f31_cong _ _ (fun c hc => h.cell hI (by omega) (by omega))
theorem Rel.dg {S R : ST} (h : Rel S R) (hI : Inv S) : dgR R = dgC S := by
  have h0 := hI.1.kc
  unfold dgR dgC
  rw [h.1.1, f31_cong 7 _ (fun c _ => h.co hI c), h.dk hI _ _ (by omega), h.dp hI _ _ (by omega)]
/-- spares -/
theorem spF_e {f : Nat → Int} {k c l0 : Int} (hc : 0 < c) (hl : 0 ≤ l0) : ∀ n : Nat, (spF f k c l0 n).1 = l0 - c * cK f k n ∧ (spF f k c l0 n).2 = if cK f k n ≤ (l0 + c - 1) / c then 0 else cK f k n - (l0 + c - 1) / c
  | 0 => by
    have h0 : 0 ≤ (l0 + c - 1) / c := Int.ediv_nonneg (by omega) (by omega)
    have e : cK f k 0 = 0 := rfl
    rw [e, if_pos h0]
    simp [spF]
  | n + 1 => by
    obtain ⟨h1, h2⟩ := spF_e (f := f) (k := k) hc hl n
    by_cases e : f n = k
    · have m1 := Int.mul_ediv_add_emod (l0 + c - 1) c
      have m2 := Int.emod_nonneg (l0 + c - 1) (show c ≠ 0 by omega)
      have m3 := Int.emod_lt_of_pos (l0 + c - 1) hc
      rw [spF_y e, cK_y e, h1, h2]
      generalize (l0 + c - 1) % c = q at m1 m2 m3
      generalize hd : (l0 + c - 1) / c = d at m1 ⊢
      generalize cK f k n = x
      refine ⟨by simp only; rw [Int.mul_add]; omega, ?_⟩
      simp only
      have hx : l0 - c * x > 0 ↔ x < d := by
        constructor
        · intro z
          refine Decidable.byContradiction (fun w => ?_)
          have : c * d ≤ c * x := Int.mul_le_mul_of_nonneg_left (by omega) (by omega)
          omega
        · intro z
          have : c * (x + 1) ≤ c * d := Int.mul_le_mul_of_nonneg_left (by omega) (by omega)
          rw [Int.mul_add] at this
          omega
      by_cases w : x < d
      · rw [if_pos (hx.mpr w), if_pos (by omega), if_pos (by omega)]
      · have e3 : ¬ x + 1 ≤ d := by omega
        rw [if_neg (fun z => w (hx.mp z)), if_neg e3]
        by_cases w2 : x ≤ d
        · rw [if_pos w2]; omega
        · rw [if_neg w2]; omega
    · rw [spF_n e, cK_n e]
      exact ⟨h1, h2⟩
theorem oc_le {g : Nat → Int} {m : Nat} (hg : ∀ c, m ≤ c → g c = -1) : ∀ n : Nat, oc g n ≤ m
  | 0 => by simp [oc]
  | n + 1 => by
    by_cases e : m ≤ n
    · unfold oc
      rw [if_pos (hg n e)]
      have := oc_le hg n
      omega
    · have := (oc_b g (n + 1)).2
      omega
theorem Inv.top {S : ST} (hI : Inv S) {p k : Nat} (hp : p < 20) (hk : gA S 6 p = k) : gA S 8 p ≤ gA S 3 k := by
  have h0 := hI.1.pl hp
  have h1 := hI.1.kd (k := k) (by omega)
  rw [hI.2.2.2.1 p hp]
  have e : oc (rowC S p) 64 = oc (fun c => if c < 64 then rowC S p c else -1) 64 := oc_cong 64 (fun c hc => by simp [hc])
  rw [e]
  have := oc_le (g := fun c => if c < 64 then rowC S p c else -1) (m := (gA S 3 k).toNat) (fun c hc => by
    show (if c < 64 then rowC S p c else -1) = -1
    by_cases h64 : c < 64
    · rw [if_pos h64]
      refine Decidable.byContradiction (fun z => ?_)
      have := (hI.2.2.2.2.1 p c hp h64 z).2.1
      rw [hk, Int.toNat_natCast] at this
      omega
    · rw [if_neg h64]) 64
  omega
theorem sK_le {f g : Nat → Int} {k c : Int} : ∀ n : Nat, (∀ p, p < n → f p = k → g p ≤ c) → sK f g k n ≤ c * cK f k n
  | 0, _ => by
    show (0 : Int) ≤ c * 0
    omega
  | n + 1, h => by
    have h1 := sK_le n (fun p hp => h p (by omega))
    by_cases e : f n = k
    · rw [sK_y e, cK_y e, Int.mul_add]
      have := h n (by omega) e
      omega
    · rw [sK_n e, cK_n e]
      exact h1
theorem Rel.spares {S R : ST} (h : Rel S R) (hI : Inv S) {k : Nat} (hk : (k : Int) < fF S 0) : cK (gA R 5) k 20 - (sK (gA R 5) (gA R 7) k 20 + csR R k - 1) / csR R k = (spF (gA S 6) k (gA S 3 k) (sK (gA S 6) (gA S 8) k 20) 20).2 := by
  have hB1 := h.b1 hI
  have hcb := csR_b (R := R) (k := k) (by rw [h.1.1]; exact hk) hB1
  rw [h.cs hI hk, h.f5, h.f7]
  rw [h.cs hI hk] at hcb
  have hs := sK_b (f := gA S 6) (g := gA S 8) (k := (k : Int)) 20 (fun p hp => (hI.1.pl hp).2)
  have hl := sK_le (f := gA S 6) (g := gA S 8) (k := (k : Int)) (c := gA S 3 k) 20 (fun p hp e => hI.top hp e)
  rw [(spF_e (f := gA S 6) (k := (k : Int)) (c := gA S 3 k) (by omega) hs.1 20).2]
  have hd : (sK (gA S 6) (gA S 8) k 20 + gA S 3 k - 1) / gA S 3 k ≤ cK (gA S 6) k 20 := by
    refine Int.le_of_lt_add_one (Int.ediv_lt_of_lt_mul (by omega) ?_)
    rw [Int.add_mul, Int.mul_comm (cK _ _ _)]
    omega
  generalize (sK (gA S 6) (gA S 8) k 20 + gA S 3 k - 1) / gA S 3 k = d at hd ⊢
  by_cases w : cK (gA S 6) k 20 ≤ d
  · rw [if_pos w]; omega
  · rw [if_neg w]
