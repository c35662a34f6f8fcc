/-! THE CLASS'S INVARIANT -/
def oc (g : Nat → Int) : Nat → Int
  | 0 => 0
  | n + 1 => oc g n + (if g n = -1 then 0 else 1)
theorem oc_b (g : Nat → Int) : ∀ n : Nat, 0 ≤ oc g n ∧ oc g n ≤ n
  | 0 => ⟨Int.le_refl _, Int.le_refl _⟩
  | n + 1 => by
    have := oc_b g n
    unfold oc
    split <;> omega
theorem oc_cong {g h : Nat → Int} : ∀ n : Nat, (∀ c, c < n → g c = h c) → oc g n = oc h n
  | 0, _ => rfl
  | n + 1, e => by
    unfold oc
    rw [oc_cong n (fun c hc => e c (by omega)), e n (by omega)]
theorem oc_set {g h : Nat → Int} {i : Nat} (ho : ∀ c, c ≠ i → h c = g c) : ∀ n : Nat, i < n → oc h n = oc g n - (if g i = -1 then 0 else 1) + (if h i = -1 then 0 else 1)
  | 0, hi => absurd hi (by omega)
  | n + 1, hi => by
    unfold oc
    by_cases e : i = n
    · subst e
      rw [oc_cong (g := h) (h := g) i (fun c hc => ho c (by omega))]
      omega
    · rw [oc_set ho n (by omega), ho n (fun z => e z.symm)]
      omega
theorem oc_all {g : Nat → Int} : ∀ n : Nat, (∀ c, c < n → g c ≠ -1) → oc g n = n
  | 0, _ => rfl
  | n + 1, h => by
    unfold oc
    rw [oc_all n (fun c hc => h c (by omega)), if_neg (h n (by omega))]
    rfl
theorem oc_none {g : Nat → Int} : ∀ n : Nat, (∀ c, c < n → g c = -1) → oc g n = 0
  | 0, _ => rfl
  | n + 1, h => by
    unfold oc
    rw [oc_none n (fun c hc => h c (by omega)), if_pos (h n (by omega))]
    rfl
theorem oc_mono {g : Nat → Int} (m : Nat) : ∀ n : Nat, oc g m ≤ oc g (m + n)
  | 0 => Int.le_refl _
  | n + 1 => by
    have := oc_mono (g := g) m n
    show _ ≤ oc g (m + n) + _
    split <;> omega
theorem oc_last {g : Nat → Int} : ∀ n : Nat, 0 < oc g n → ∃ c, c < n ∧ g c ≠ -1 ∧ ∀ j, c < j → j < n → g j = -1
  | 0, h => absurd h (by simp [oc])
  | n + 1, h => by
    by_cases e : g n = -1
    · have h2 : 0 < oc g n := by unfold oc at h; rw [if_pos e] at h; omega
      obtain ⟨c, h3, h4, h5⟩ := oc_last n h2
      refine ⟨c, by omega, h4, fun j hj hjn => ?_⟩
      by_cases q : j = n
      · rw [q]; exact e
      · exact h5 j hj (by omega)
    · exact ⟨n, by omega, e, fun j hj hjn => by omega⟩
theorem sm_cong {f g : Nat → Int} : ∀ n : Nat, (∀ c, c < n → f c = g c) → sm f n = sm g n
  | 0, _ => rfl
  | n + 1, e => by
    unfold sm
    rw [sm_cong n (fun c hc => e c (by omega)), e n (by omega)]
theorem sm_set {g h : Nat → Int} {i : Nat} (ho : ∀ c, c ≠ i → h c = g c) : ∀ n : Nat, i < n → sm h n = sm g n - g i + h i
  | 0, hi => absurd hi (by omega)
  | n + 1, hi => by
    unfold sm
    by_cases e : i = n
    · subst e
      rw [sm_cong (f := h) (g := g) i (fun c hc => ho c (by omega))]
      omega
    · rw [sm_set ho n (by omega), ho n (fun z => e z.symm)]
      omega
/-- the row of the place p -/
def rowC (S : ST) (p : Nat) : Nat → Int := fun c => gA S 9 (p * 64 + c)
def kdOk (S : ST) : Prop := ∀ k : Nat, k < 6 → (k : Int) < fF S 0 → 1 ≤ gA S 1 k ∧ gA S 3 k = 64 / gA S 1 k ∧ gA S 4 k = 64 % gA S 1 k
/-- what a taken cell says -/
def clOk (S : ST) (p c : Nat) : Prop := gA S 6 p ≠ -1 ∧ (c : Int) < gA S 3 (gA S 6 p).toNat ∧ gA S 9 (p * 64 + c) < fF S 10 ∧ gA S 12 (gA S 9 (p * 64 + c)).toNat = p ∧ gA S 13 (gA S 9 (p * 64 + c)).toNat = c ∧ gA S 11 (gA S 9 (p * 64 + c)).toNat = gA S 6 p
/-- .. and a thing that is there -/
def thOk (S : ST) (t : Nat) : Prop := gA S 11 t < fF S 0 ∧ (gA S 12 t ≠ -1 → gA S 9 ((gA S 12 t).toNat * 64 + (gA S 13 t).toNat) = t)
def Inv (S : ST) : Prop := B0 S ∧ kdOk S ∧ (∀ p, p < 20 → gA S 6 p < fF S 0) ∧ (∀ p, p < 20 → gA S 8 p = oc (rowC S p) 64) ∧ (∀ p c, p < 20 → c < 64 → gA S 9 (p * 64 + c) ≠ -1 → clOk S p c) ∧ (∀ t : Nat, t < 150 → (t : Int) < fF S 10 → thOk S t) ∧ sm (gA S 8) 20 ≤ fF S 10
/-- the invariant but for the thing t, which lies nowhere -/
def InvX (S : ST) (t : Nat) : Prop := B0 S ∧ kdOk S ∧ (∀ p, p < 20 → gA S 6 p < fF S 0) ∧ (∀ p, p < 20 → gA S 8 p = oc (rowC S p) 64) ∧ (∀ p c, p < 20 → c < 64 → gA S 9 (p * 64 + c) ≠ -1 → clOk S p c ∧ gA S 9 (p * 64 + c) ≠ t) ∧ (∀ u : Nat, u < 150 → (u : Int) < fF S 10 → u ≠ t → thOk S u) ∧ sm (gA S 8) 20 + 1 ≤ fF S 10 ∧ t < 150 ∧ (t : Int) < fF S 10 ∧ gA S 11 t < fF S 0
theorem Inv_of_X {S : ST} {t : Nat} (h : InvX S t) (h12 : gA S 12 t = -1) : Inv S := by
  obtain ⟨h1, h2, h3, h4, h5, h6, h7, h8, h9, h10⟩ := h
  refine ⟨h1, h2, h3, h4, fun p c hp hc hn => (h5 p c hp hc hn).1, fun u hu hut => ?_, by omega⟩
  by_cases e : u = t
  · subst e
    exact ⟨h10, fun z => absurd h12 z⟩
  · exact h6 u hu hut e
theorem posI {p c q d : Nat} (hc : c < 64) (hd : d < 64) (h : ¬ (q = p ∧ d = c)) : q * 64 + d ≠ p * 64 + c := by
  intro z
  apply h
  omega
theorem X_of_lift {S : ST} {t p c : Nat} (h : Inv S) (ht : t < 150) (htc : (t : Int) < fF S 10) (hp : p < 20) (hc : c < 64) (h12 : gA S 12 t = p) (h13 : gA S 13 t = c) (h9 : gA S 9 (p * 64 + c) = t) : InvX (liT S t p c) t ∧ gA (liT S t p c) 12 t = -1 := by
  obtain ⟨hB, h2, h3, h4, h5, h6, h7⟩ := h
  have f6 : ∀ q, gA (liT S t p c) 6 q = gA S 6 q := fun q => rfl
  have f1 : ∀ q, gA (liT S t p c) 1 q = gA S 1 q := fun q => rfl
  have f3 : ∀ q, gA (liT S t p c) 3 q = gA S 3 q := fun q => rfl
  have f11 : ∀ q, gA (liT S t p c) 11 q = gA S 11 q := fun q => rfl
  have f13 : ∀ q, gA (liT S t p c) 13 q = gA S 13 q := fun q => rfl
  have f10 : fF (liT S t p c) 10 = fF S 10 := rfl
  have f12 : ∀ q, gA (liT S t p c) 12 q = if q = t then -1 else gA S 12 q := fun q => by
    unfold liT
    rw [gA_pA]
    by_cases e : q = t <;> simp [e, gA_pA]
  have f9 : ∀ q, gA (liT S t p c) 9 q = if q = p * 64 + c then -1 else gA S 9 q := fun q => by
    unfold liT
    by_cases e : q = p * 64 + c <;> simp [e, gA_pA]
  have f8 : ∀ q, gA (liT S t p c) 8 q = if q = p then gA S 8 p - 1 else gA S 8 q := fun q => by
    unfold liT
    by_cases e : q = p <;> simp [e, gA_pA]
  have hoc : ∀ q, q < 20 → gA (liT S t p c) 8 q = oc (rowC (liT S t p c) q) 64 := by
    intro q hq
    rw [f8]
    by_cases e : q = p
    · rw [if_pos e]
      subst e
      have h1 := oc_set (g := rowC S q) (h := rowC (liT S t q c) q) (i := c) (fun d hd => by
        show gA (liT S t q c) 9 (q * 64 + d) = gA S 9 (q * 64 + d)
        rw [f9, if_neg (by omega)]) 64 hc
      have h2' : rowC S q c ≠ -1 := by show gA S 9 (q * 64 + c) ≠ -1; omega
      have h3' : rowC (liT S t q c) q c = -1 := by show gA (liT S t q c) 9 (q * 64 + c) = -1; rw [f9, if_pos rfl]
      rw [if_neg h2', if_pos h3'] at h1
      have := h4 q hq
      omega
    · rw [if_neg e, h4 q hq]
      refine (oc_cong 64 (fun d hd => ?_)).symm
      show gA (liT S t p c) 9 (q * 64 + d) = gA S 9 (q * 64 + d)
      rw [f9, if_neg (posI hc hd (fun z => e z.1))]
  have h8b : 1 ≤ gA S 8 p := by
    have h1 := h4 p hp
    have h8' := oc_mono (g := rowC S p) (c + 1) (63 - c)
    rw [show c + 1 + (63 - c) = 64 by omega] at h8'
    have h9' : oc (rowC S p) (c + 1) = oc (rowC S p) c + 1 := by
      show oc (rowC S p) c + _ = _
      rw [if_neg (show ¬ rowC S p c = -1 by show ¬ gA S 9 (p * 64 + c) = -1; omega)]
    have := oc_b (rowC S p) c
    omega
  have hB2 : B0 (liT S t p c) := by
    have h6' := hB.pl hp
    unfold liT
    refine B0.set (B0.set (B0.set hB ?_) ?_) ?_ <;> refine ⟨?_, ?_, ?_, ?_, ?_, ?_, ?_, ?_, ?_, ?_, ?_⟩ <;> intro h <;> omega
  have hsum : sm (gA (liT S t p c) 8) 20 + 1 ≤ fF S 10 := by
    have h1 := sm_set (g := gA S 8) (h := gA (liT S t p c) 8) (i := p) (fun q hq => by rw [f8, if_neg hq]) 20 hp
    rw [f8 p, if_pos rfl] at h1
    omega
  refine ⟨⟨hB2, h2, h3, hoc, fun q d hq hd hn => ?_, fun u hu hut hne => ?_, hsum, ht, htc, (h6 t ht htc).1⟩, by rw [f12, if_pos rfl]⟩
  · rw [f9] at hn
    by_cases e : q * 64 + d = p * 64 + c
    · rw [if_pos e] at hn; exact absurd rfl hn
    · rw [if_neg e] at hn
      have h10 := h5 q d hq hd hn
      have hcl := hB.cl (i := q * 64 + d) (by omega)
      have hne : gA S 9 (q * 64 + d) ≠ t := by
        intro z
        obtain ⟨-, -, -, a, b, -⟩ := h10
        rw [z, Int.toNat_natCast, h12] at a
        rw [z, Int.toNat_natCast, h13] at b
        exact e (by omega)
      have hne2 : (gA S 9 (q * 64 + d)).toNat ≠ t := by omega
      have e9 : gA (liT S t p c) 9 (q * 64 + d) = gA S 9 (q * 64 + d) := by rw [f9, if_neg e]
      refine ⟨?_, by rw [e9]; exact hne⟩
      unfold clOk
      rw [e9, f12, if_neg hne2]
      exact h10
  · have h10 := h6 u hu hut
    refine ⟨h10.1, fun z => ?_⟩
    rw [f12, if_neg hne] at z ⊢
    have h11 := h10.2 z
    have hne2 : (gA S 12 u).toNat * 64 + (gA S 13 u).toNat ≠ p * 64 + c := by
      intro w
      rw [w, h9] at h11
      omega
    rw [f13, f9, if_neg hne2]
    exact h11
theorem Inv_lay {S : ST} {t p c : Nat} (h : InvX S t) (hp : p < 20) (hc : (c : Int) < cellsC S p) (hk : gA S 11 t = gA S 6 p) (h9 : gA S 9 (p * 64 + c) = -1) : Inv (laT S t p c) := by
  obtain ⟨hB, h2, h3, h4, h5, h6, h7, ht, htc, h11⟩ := h
  have hcb := cellsC_b hp hB
  have hc64 : c < 64 := by omega
  have h6p : gA S 6 p ≠ -1 := by
    intro z
    unfold cellsC at hc
    rw [if_pos z] at hc
    omega
  have hc3 : (c : Int) < gA S 3 (gA S 6 p).toNat := by
    unfold cellsC at hc
    rw [if_neg h6p] at hc
    exact hc
  have f6 : ∀ q, gA (laT S t p c) 6 q = gA S 6 q := fun q => rfl
  have f3 : ∀ q, gA (laT S t p c) 3 q = gA S 3 q := fun q => rfl
  have f11 : ∀ q, gA (laT S t p c) 11 q = gA S 11 q := fun q => rfl
  have f10 : fF (laT S t p c) 10 = fF S 10 := rfl
  have f0 : fF (laT S t p c) 0 = fF S 0 := rfl
  have f13 : ∀ q, gA (laT S t p c) 13 q = if q = t then (c : Int) else gA S 13 q := fun q => by
    unfold laT
    by_cases e : q = t <;> simp [e, gA_pA]
  have f12 : ∀ q, gA (laT S t p c) 12 q = if q = t then (p : Int) else gA S 12 q := fun q => by
    unfold laT
    by_cases e : q = t <;> simp [e, gA_pA]
  have f9 : ∀ q, gA (laT S t p c) 9 q = if q = p * 64 + c then (t : Int) else gA S 9 q := fun q => by
    unfold laT
    by_cases e : q = p * 64 + c <;> simp [e, gA_pA]
  have f8 : ∀ q, gA (laT S t p c) 8 q = if q = p then gA S 8 p + 1 else gA S 8 q := fun q => by
    unfold laT
    by_cases e : q = p <;> simp [e, gA_pA]
  have hoc : ∀ q, q < 20 → gA (laT S t p c) 8 q = oc (rowC (laT S t p c) q) 64 := by
    intro q hq
    rw [f8]
    by_cases e : q = p
    · rw [if_pos e]
      subst e
      have h1 := oc_set (g := rowC S q) (h := rowC (laT S t q c) q) (i := c) (fun d hd => by
        show gA (laT S t q c) 9 (q * 64 + d) = gA S 9 (q * 64 + d)
        rw [f9, if_neg (by omega)]) 64 hc64
      have h2' : rowC S q c = -1 := h9
      have h3' : ¬ rowC (laT S t q c) q c = -1 := by show ¬ gA (laT S t q c) 9 (q * 64 + c) = -1; rw [f9, if_pos rfl]; omega
      rw [if_pos h2', if_neg h3'] at h1
      have := h4 q hq
      omega
    · rw [if_neg e, h4 q hq]
      refine (oc_cong 64 (fun d hd => ?_)).symm
      show gA (laT S t p c) 9 (q * 64 + d) = gA S 9 (q * 64 + d)
      rw [f9, if_neg (posI hc64 hd (fun z => e z.1))]
  have h8b : gA S 8 p + 1 ≤ 64 := by
    have h1 := hoc p hp
    rw [f8, if_pos rfl] at h1
    have := oc_b (rowC (laT S t p c) p) 64
    omega
  have hB2 : B0 (laT S t p c) := by
    have h6' := hB.pl hp
    have h0 := hB.tc
    unfold laT
    refine B0.set (B0.set (B0.set (B0.set hB ?_) ?_) ?_) ?_ <;> refine ⟨?_, ?_, ?_, ?_, ?_, ?_, ?_, ?_, ?_, ?_, ?_⟩ <;> intro h <;> omega
  have hsum : sm (gA (laT S t p c) 8) 20 ≤ fF S 10 := by
    have h1 := sm_set (g := gA S 8) (h := gA (laT S t p c) 8) (i := p) (fun q hq => by rw [f8, if_neg hq]) 20 hp
    rw [f8 p, if_pos rfl] at h1
    omega
  refine ⟨hB2, h2, h3, hoc, fun q d hq hd hn => ?_, fun u hu hut => ?_, hsum⟩
  · by_cases e : q * 64 + d = p * 64 + c
    · have e1 : q = p := by omega
      have e2 : d = c := by omega
      subst e1
      subst e2
      have e9 : gA (laT S t q d) 9 (q * 64 + d) = t := by rw [f9, if_pos rfl]
      unfold clOk
      rw [e9, Int.toNat_natCast, f12, if_pos rfl, f13, if_pos rfl]
      exact ⟨h6p, hc3, htc, rfl, rfl, hk⟩
    · have e9 : gA (laT S t p c) 9 (q * 64 + d) = gA S 9 (q * 64 + d) := by rw [f9, if_neg e]
      rw [e9] at hn
      obtain ⟨h10, hne⟩ := h5 q d hq hd hn
      have hcl := hB.cl (i := q * 64 + d) (by omega)
      have hne2 : (gA S 9 (q * 64 + d)).toNat ≠ t := by omega
      unfold clOk
      rw [e9, f12, if_neg hne2, f13, if_neg hne2]
      exact h10
  · by_cases e : u = t
    · subst e
      refine ⟨h11, fun _ => ?_⟩
      rw [f12, if_pos rfl, f13, if_pos rfl, Int.toNat_natCast, Int.toNat_natCast, f9, if_pos rfl]
    · have h10 := h6 u hu hut e
      refine ⟨h10.1, fun z => ?_⟩
      rw [f12, if_neg e] at z ⊢
      rw [f13, if_neg e]
      have h12 := h10.2 z
      have hne2 : (gA S 12 u).toNat * 64 + (gA S 13 u).toNat ≠ p * 64 + c := by
        intro w
        rw [w, h9] at h12
        omega
      rw [f9, if_neg hne2]
      exact h12
/-- a thing more, that lies nowhere yet -/
def nwT (S : ST) (t k : Nat) : ST := pF (pA S 11 t k) 10 ((t : Int) + 1)
theorem X_put {S : ST} {t k : Nat} (h : Inv S) (ht : fF S 10 = t) (ht2 : t < 150) (hk : (k : Int) < fF S 0) : InvX (nwT S t k) t := by
  obtain ⟨hB, h2, h3, h4, h5, h6, h7⟩ := h
  have h0 := hB.kc
  have f11 : ∀ q, gA (nwT S t k) 11 q = if q = t then (k : Int) else gA S 11 q := fun q => by
    unfold nwT
    by_cases e : q = t <;> simp [e, gA_pA, gA_pF]
  have f10 : fF (nwT S t k) 10 = (t : Int) + 1 := rfl
  have hB2 : B0 (nwT S t k) := by
    unfold nwT
    refine B0.setF (B0.set hB ?_) ?_
    · refine ⟨?_, ?_, ?_, ?_, ?_, ?_, ?_, ?_, ?_, ?_, ?_⟩ <;> intro h <;> omega
    · refine ⟨?_, ?_⟩ <;> intro h <;> omega
  refine ⟨hB2, h2, h3, h4, fun q d hq hd hn => ?_, fun u hu hut hne => ?_, ?_, ht2, by rw [f10]; omega, by rw [f11, if_pos rfl]; exact hk⟩
  · have h10 := h5 q d hq hd hn
    have hcl := hB.cl (i := q * 64 + d) (by omega)
    have hlt : gA S 9 (q * 64 + d) < fF S 10 := h10.2.2.1
    have hn' : gA S 9 (q * 64 + d) ≠ -1 := hn
    refine ⟨⟨h10.1, h10.2.1, ?_, h10.2.2.2.1, h10.2.2.2.2.1, ?_⟩, ?_⟩
    · rw [f10]; show gA S 9 (q * 64 + d) < _; omega
    · rw [f11, if_neg (by show (gA S 9 (q * 64 + d)).toNat ≠ t; omega)]
      exact h10.2.2.2.2.2
    · show gA S 9 (q * 64 + d) ≠ t
      omega
  · rw [f10] at hut
    have h10 := h6 u hu (by omega)
    refine ⟨?_, h10.2⟩
    rw [f11, if_neg hne]
    exact h10.1
  · rw [f10]
    show sm (gA S 8) 20 + 1 ≤ _
    omega
theorem Inv_adT {S : ST} {p k : Nat} (h : Inv S) (hp : p < 20) (hk : (k : Int) < fF S 0) (h6 : gA S 6 p = -1) : Inv (adT S p k) := by
  obtain ⟨hB, h2, h3, h4, h5, h6', h7⟩ := h
  have h0 := hB.kc
  have hkd := hB.kd (k := k) (by omega)
  have f6 : ∀ q, gA (adT S p k) 6 q = if q = p then (k : Int) else gA S 6 q := fun q => by
    unfold adT
    by_cases e : q = p <;> simp [e, gA_pA]
  have hB2 : B0 (adT S p k) := by
    unfold adT nxV
    refine B0.set (B0.set (B0.set hB ?_) ?_) ?_ <;> refine ⟨?_, ?_, ?_, ?_, ?_, ?_, ?_, ?_, ?_, ?_, ?_⟩ <;> intro h <;> first | omega | (split <;> omega)
  refine ⟨hB2, h2, fun q hq => ?_, h4, fun q d hq hd hn => ?_, h6', h7⟩
  · rw [f6]
    split
    · exact hk
    · exact h3 q hq
  · have h10 := h5 q d hq hd hn
    have hne : q ≠ p := fun e => by rw [e] at h10; exact h10.1 h6
    unfold clOk
    rw [f6, if_neg hne]
    exact h10
theorem Inv_drT {S : ST} {p : Nat} (h : Inv S) (hp : p < 20) (h8 : gA S 8 p = 0) : Inv (drT S p) := by
  obtain ⟨hB, h2, h3, h4, h5, h6', h7⟩ := h
  have h0 := hB.kc
  have f6 : ∀ q, gA (drT S p) 6 q = if q = p then (-1 : Int) else gA S 6 q := fun q => by
    unfold drT
    by_cases e : q = p <;> simp [e, gA_pA, gA_pF]
  refine ⟨drT_B0 hB, h2, fun q hq => ?_, h4, fun q d hq hd hn => ?_, h6', h7⟩
  · show gA (drT S p) 6 q < fF S 0
    rw [f6]
    split
    · omega
    · exact h3 q hq
  · have h10 := h5 q d hq hd hn
    have hne : q ≠ p := by
      intro e
      subst e
      have h1 := h4 q hq
      rw [h8] at h1
      have h8' := oc_mono (g := rowC S q) (d + 1) (63 - d)
      rw [show d + 1 + (63 - d) = 64 by omega] at h8'
      have h9' : oc (rowC S q) (d + 1) = oc (rowC S q) d + 1 := by
        show oc (rowC S q) d + _ = _
        rw [if_neg (show ¬ rowC S q d = -1 from hn)]
      have := oc_b (rowC S q) d
      omega
    unfold clOk
    rw [f6, if_neg hne]
    exact h10
theorem Inv_kiT {S : ST} {k : Nat} {z s : Int} (h : Inv S) (hk : fF S 0 = k) (hk6 : k < 6) (hz : 1 ≤ z ∧ z ≤ 32) (hs : 1 ≤ s ∧ s ≤ 16) : Inv (kiT S k z s) := by
  obtain ⟨hB, h2, h3, h4, h5, h6', h7⟩ := h
  have f0 : fF (kiT S k z s) 0 = (k : Int) + 1 := rfl
  have f1 : ∀ q, gA (kiT S k z s) 1 q = if q = k then z else gA S 1 q := fun q => by
    unfold kiT
    by_cases e : q = k <;> simp [e, gA_pA, gA_pF]
  have f3 : ∀ q, gA (kiT S k z s) 3 q = if q = k then 64 / z else gA S 3 q := fun q => by
    unfold kiT
    by_cases e : q = k <;> simp [e, gA_pA, gA_pF]
  have f4 : ∀ q, gA (kiT S k z s) 4 q = if q = k then 64 % z else gA S 4 q := fun q => by
    unfold kiT
    by_cases e : q = k <;> simp [e, gA_pA, gA_pF]
  have d1 : 0 ≤ 64 / z := Int.ediv_nonneg (by decide) (by omega)
  have d2 : 64 / z ≤ 64 := Int.ediv_le_self z (by decide)
  have d3 : 0 ≤ 64 % z := Int.emod_nonneg 64 (by omega)
  have d4 : 64 % z < z := Int.emod_lt_of_pos 64 (by omega)
  have hB2 : B0 (kiT S k z s) := by
    unfold kiT
    refine B0.setF (B0.set (B0.set (B0.set (B0.set hB ?_) ?_) ?_) ?_) ?_
    · refine ⟨?_, ?_, ?_, ?_, ?_, ?_, ?_, ?_, ?_, ?_, ?_⟩ <;> intro h <;> omega
    · refine ⟨?_, ?_, ?_, ?_, ?_, ?_, ?_, ?_, ?_, ?_, ?_⟩ <;> intro h <;> omega
    · refine ⟨?_, ?_, ?_, ?_, ?_, ?_, ?_, ?_, ?_, ?_, ?_⟩ <;> intro h <;> omega
    · refine ⟨?_, ?_, ?_, ?_, ?_, ?_, ?_, ?_, ?_, ?_, ?_⟩ <;> intro h <;> omega
    · refine ⟨?_, ?_⟩ <;> intro h <;> omega
  refine ⟨hB2, fun j hj hjk => ?_, fun q hq => ?_, h4, fun q d hq hd hn => ?_, fun u hu hut => ?_, h7⟩
  · rw [f0] at hjk
    rw [f1, f3, f4]
    by_cases e : j = k
    · rw [if_pos e, if_pos e, if_pos e]
      exact ⟨hz.1, rfl, rfl⟩
    · rw [if_neg e, if_neg e, if_neg e]
      exact h2 j hj (by omega)
  · have := h3 q hq
    rw [f0]
    show gA S 6 q < _
    omega
  · have h10 := h5 q d hq hd hn
    have h11 := h3 q hq
    have h12 := hB.pl hq
    have hne : (gA S 6 q).toNat ≠ k := by have := h10.1; omega
    refine ⟨h10.1, ?_, h10.2.2⟩
    show (d : Int) < gA (kiT S k z s) 3 (gA S 6 q).toNat
    rw [f3, if_neg hne]
    exact h10.2.1
  · have h10 := h6' u hu hut
    refine ⟨?_, h10.2⟩
    have := h10.1
    rw [f0]
    show gA S 11 u < _
    omega
theorem Inv_mv {S : ST} {v : Int} (h : Inv S) : Inv (pF S 15 v) := by
  obtain ⟨hB, h2, h3, h4, h5, h6, h7⟩ := h
  refine ⟨B0.setF hB ⟨fun h => by omega, fun h => by omega⟩, h2, h3, h4, h5, h6, h7⟩
/-- a tray with room has a free cell, the first of them; one that is taken has a last thing -/
theorem free_ex {S : ST} {p : Nat} (h : Inv S) (hp : p < 20) (h8 : gA S 8 p < cellsC S p) : ∃ c : Nat, (c : Int) < cellsC S p ∧ frB S p c = true ∧ ∀ j, j < c → frB S p j = false := by
  have hb := cellsC_b hp h.1
  rcases fst1_spec (P := frB S p) (cellsC S p).toNat with ⟨-, hno⟩ | ⟨c, h1, -, h3, h4⟩
  · have h1 := oc_all (g := rowC S p) (cellsC S p).toNat (fun c hc => by simpa [frB, rowC] using hno c hc)
    have h2 := oc_mono (g := rowC S p) (cellsC S p).toNat (64 - (cellsC S p).toNat)
    rw [show (cellsC S p).toNat + (64 - (cellsC S p).toNat) = 64 by omega] at h2
    have h3 := h.2.2.2.1 p hp
    omega
  · exact ⟨c, by omega, h3, h4⟩
theorem last_ex {S : ST} {p : Nat} (h : Inv S) (hp : p < 20) (h8 : 0 < gA S 8 p) : ∃ c t : Nat, (c : Int) < cellsC S p ∧ c < 64 ∧ t < 150 ∧ (t : Int) < fF S 10 ∧ gA S 9 (p * 64 + c) = t ∧ gA S 12 t = p ∧ gA S 13 t = c ∧ gA S 11 t = gA S 6 p ∧ (∀ j : Nat, c < j → j < 64 → gA S 9 (p * 64 + j) = -1) := by
  rw [h.2.2.2.1 p hp] at h8
  obtain ⟨c, h1, h2, h3⟩ := oc_last 64 h8
  have h4 : gA S 9 (p * 64 + c) ≠ -1 := h2
  obtain ⟨h5, h6, h7, h9, h10, h11⟩ := h.2.2.2.2.1 p c hp h1 h4
  have hcl := h.1.cl (i := p * 64 + c) (by omega)
  obtain ⟨t, ht⟩ : ∃ t : Nat, gA S 9 (p * 64 + c) = t := ⟨(gA S 9 (p * 64 + c)).toNat, by omega⟩
  rw [ht, Int.toNat_natCast] at h9 h10 h11
  refine ⟨c, t, ?_, h1, by omega, by omega, ht, h9, h10, h11, h3⟩
  unfold cellsC
  rw [if_neg h5]
  exact h6
