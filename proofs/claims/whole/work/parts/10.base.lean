/-! PURE: numbers read off a state -/
theorem up {N : Nat} {P : Nat → Prop} (h0 : P N) (hs : ∀ i, i < N → P (i + 1) → P i) : ∀ i, i ≤ N → P i := by
  have key : ∀ n i, i + n = N → P i := by
    intro n
    induction n with
    | zero => intro i hi; rw [show i = N by omega]; exact h0
    | succ n ih => intro i hi; exact hs i (by omega) (ih (i + 1) (by omega))
  exact fun i hi => key (N - i) i (by omega)
/-- how many p below n have f p = k; of those that have g p = t; their g added -/
def cK (f : Nat → Int) (k : Int) : Nat → Int
  | 0 => 0
  | n + 1 => cK f k n + (if f n = k then 1 else 0)
def cH (f g : Nat → Int) (k t : Int) : Nat → Int
  | 0 => 0
  | n + 1 => cH f g k t n + (if f n = k ∧ g n = t then 1 else 0)
def sK (f g : Nat → Int) (k : Int) : Nat → Int
  | 0 => 0
  | n + 1 => sK f g k n + (if f n = k then g n else 0)
theorem cK_y {f : Nat → Int} {k : Int} {n : Nat} (h : f n = k) : cK f k (n + 1) = cK f k n + 1 := by simp [cK, h]
theorem cK_n {f : Nat → Int} {k : Int} {n : Nat} (h : ¬ f n = k) : cK f k (n + 1) = cK f k n := by simp [cK, h]
theorem cH_y {f g : Nat → Int} {k t : Int} {n : Nat} (h : f n = k ∧ g n = t) : cH f g k t (n + 1) = cH f g k t n + 1 := by simp [cH, h]
theorem cH_n {f g : Nat → Int} {k t : Int} {n : Nat} (h : ¬ (f n = k ∧ g n = t)) : cH f g k t (n + 1) = cH f g k t n := by simp [cH, h]
theorem sK_y {f g : Nat → Int} {k : Int} {n : Nat} (h : f n = k) : sK f g k (n + 1) = sK f g k n + g n := by simp [sK, h]
theorem sK_n {f g : Nat → Int} {k : Int} {n : Nat} (h : ¬ f n = k) : sK f g k (n + 1) = sK f g k n := by simp [sK, h]
/-- bounds of what a method's counts can be -/
theorem cK_b (f : Nat → Int) (k : Int) : ∀ n : Nat, 0 ≤ cK f k n ∧ cK f k n ≤ n
  | 0 => ⟨Int.le_refl _, Int.le_refl _⟩
  | n + 1 => by
    have := cK_b f k n
    unfold cK
    split <;> omega
theorem cH_b (f g : Nat → Int) (k t : Int) : ∀ n : Nat, 0 ≤ cH f g k t n ∧ cH f g k t n ≤ n
  | 0 => ⟨Int.le_refl _, Int.le_refl _⟩
  | n + 1 => by
    have := cH_b f g k t n
    unfold cH
    split <;> omega
theorem sK_b {f g : Nat → Int} {k : Int} : ∀ n : Nat, (∀ p, p < n → 0 ≤ g p ∧ g p ≤ 64) → 0 ≤ sK f g k n ∧ sK f g k n ≤ 64 * n
  | 0, _ => ⟨Int.le_refl _, Int.le_refl _⟩
  | n + 1, h => by
    have h1 := sK_b (f := f) (g := g) (k := k) n (fun p hp => h p (by omega))
    have h2 := h n (by omega)
    unfold sK
    split <;> omega
/-- the partly taken one with the most, the first of several; with the fewest, the last of several -/
def mp (f g : Nat → Int) (k c : Int) : Nat → Int × Int
  | 0 => (-1, 0)
  | n + 1 => if (f n = k ∧ 0 < g n ∧ g n < c) ∧ (mp f g k c n).2 < g n then ((n : Int), g n) else mp f g k c n
def lp (f g : Nat → Int) (k c : Int) : Nat → Int × Int
  | 0 => (-1, 64)
  | n + 1 => if (f n = k ∧ 0 < g n ∧ g n < c) ∧ g n ≤ (lp f g k c n).2 then ((n : Int), g n) else lp f g k c n
theorem mp_y {f g : Nat → Int} {k c : Int} {n : Nat} (h : (f n = k ∧ 0 < g n ∧ g n < c) ∧ (mp f g k c n).2 < g n) : mp f g k c (n + 1) = ((n : Int), g n) := by simp [mp, h]
theorem mp_n {f g : Nat → Int} {k c : Int} {n : Nat} (h : ¬ ((f n = k ∧ 0 < g n ∧ g n < c) ∧ (mp f g k c n).2 < g n)) : mp f g k c (n + 1) = mp f g k c n := by
  show (if _ then _ else _) = _
  rw [if_neg h]
theorem lp_y {f g : Nat → Int} {k c : Int} {n : Nat} (h : (f n = k ∧ 0 < g n ∧ g n < c) ∧ g n ≤ (lp f g k c n).2) : lp f g k c (n + 1) = ((n : Int), g n) := by simp [lp, h]
theorem lp_n {f g : Nat → Int} {k c : Int} {n : Nat} (h : ¬ ((f n = k ∧ 0 < g n ∧ g n < c) ∧ g n ≤ (lp f g k c n).2)) : lp f g k c (n + 1) = lp f g k c n := by
  show (if _ then _ else _) = _
  rw [if_neg h]
theorem mp_b {f g : Nat → Int} {k c : Int} (hc : c ≤ 64) : ∀ n : Nat, (-1 ≤ (mp f g k c n).1 ∧ (mp f g k c n).1 < n) ∧ 0 ≤ (mp f g k c n).2 ∧ (mp f g k c n).2 ≤ 64
  | 0 => ⟨⟨by simp [mp], by simp [mp]⟩, by simp [mp], by simp [mp]⟩
  | n + 1 => by
    have := mp_b (f := f) (g := g) (k := k) hc n
    unfold mp
    split
    · simp only; omega
    · omega
theorem lp_b {f g : Nat → Int} {k c : Int} (hc : c ≤ 64) : ∀ n : Nat, (-1 ≤ (lp f g k c n).1 ∧ (lp f g k c n).1 < n) ∧ 0 ≤ (lp f g k c n).2 ∧ (lp f g k c n).2 ≤ 64
  | 0 => ⟨⟨by simp [lp], by simp [lp]⟩, by simp [lp], by simp [lp]⟩
  | n + 1 => by
    have := lp_b (f := f) (g := g) (k := k) hc n
    unfold lp
    split
    · simp only; omega
    · omega
/-- the first place below n with P; -1 -/
def fst1 (P : Nat → Bool) : Nat → Int
  | 0 => -1
  | n + 1 => if fst1 P n ≠ -1 then fst1 P n else if P n then (n : Int) else -1
theorem fst1_no {P : Nat → Bool} : ∀ {n : Nat}, (∀ j, j < n → P j = false) → fst1 P n = -1
  | 0, _ => rfl
  | n + 1, h => by
    have h1 := fst1_no (P := P) (n := n) (fun j hj => h j (by omega))
    simp [fst1, h1, h n (by omega)]
theorem fst1_at {P : Nat → Bool} {i : Nat} (h : ∀ j, j < i → P j = false) (hi : P i = true) : ∀ {n : Nat}, i < n → fst1 P n = i
  | 0, hn => absurd hn (by omega)
  | n + 1, hn => by
    by_cases e : i = n
    · subst e
      have h1 := fst1_no h
      simp [fst1, h1, hi]
    · have h1 := fst1_at h hi (n := n) (by omega)
      unfold fst1
      rw [h1, if_pos (by omega)]
theorem fst1_b {P : Nat → Bool} : ∀ n : Nat, -1 ≤ fst1 P n ∧ fst1 P n < n
  | 0 => ⟨by simp [fst1], by simp [fst1]⟩
  | n + 1 => by
    have := fst1_b (P := P) n
    unfold fst1
    split
    · omega
    · split <;> omega
/-- what fst1 says -/
theorem fst1_spec {P : Nat → Bool} : ∀ n : Nat, (fst1 P n = -1 ∧ ∀ j, j < n → P j = false) ∨ ∃ i : Nat, i < n ∧ fst1 P n = i ∧ P i = true ∧ ∀ j, j < i → P j = false
  | 0 => Or.inl ⟨rfl, fun j hj => absurd hj (by omega)⟩
  | n + 1 => by
    rcases fst1_spec (P := P) n with ⟨h1, h2⟩ | ⟨i, h1, h2, h3, h4⟩
    · cases hn : P n with
      | false => exact Or.inl ⟨by simp [fst1, h1, hn], fun j hj => by rcases Nat.lt_succ_iff_lt_or_eq.mp hj with q | rfl; exact h2 j q; exact hn⟩
      | true => exact Or.inr ⟨n, by omega, by simp [fst1, h1, hn], hn, h2⟩
    · exact Or.inr ⟨i, by omega, fst1_at h4 h3 (by omega), h3, h4⟩
/-- the class's state stays in bounds -/
def B0 (S : ST) : Prop := (0 ≤ fF S 0 ∧ fF S 0 ≤ 6) ∧ (0 ≤ fF S 10 ∧ fF S 10 ≤ 150) ∧ (∀ k, k < 6 → (0 ≤ gA S 1 k ∧ gA S 1 k ≤ 32) ∧ (0 ≤ gA S 2 k ∧ gA S 2 k ≤ 16) ∧ (0 ≤ gA S 3 k ∧ gA S 3 k ≤ 64) ∧ (0 ≤ gA S 4 k ∧ gA S 4 k ≤ 64) ∧ (0 ≤ gA S 5 k ∧ gA S 5 k ≤ 64)) ∧ (∀ p, p < 20 → (-1 ≤ gA S 6 p ∧ gA S 6 p < 6) ∧ (0 ≤ gA S 8 p ∧ gA S 8 p ≤ 64)) ∧ (∀ i, i < 1280 → -1 ≤ gA S 9 i ∧ gA S 9 i < 150) ∧ (∀ t, t < 150 → (0 ≤ gA S 11 t ∧ gA S 11 t < 6) ∧ (-1 ≤ gA S 12 t ∧ gA S 12 t < 20) ∧ (0 ≤ gA S 13 t ∧ gA S 13 t < 64))
theorem B0.kc {S : ST} (h : B0 S) : 0 ≤ fF S 0 ∧ fF S 0 ≤ 6 := h.1
theorem B0.tc {S : ST} (h : B0 S) : 0 ≤ fF S 10 ∧ fF S 10 ≤ 150 := h.2.1
theorem B0.kd {S : ST} (h : B0 S) {k : Nat} (hk : k < 6) : (0 ≤ gA S 1 k ∧ gA S 1 k ≤ 32) ∧ (0 ≤ gA S 2 k ∧ gA S 2 k ≤ 16) ∧ (0 ≤ gA S 3 k ∧ gA S 3 k ≤ 64) ∧ (0 ≤ gA S 4 k ∧ gA S 4 k ≤ 64) ∧ (0 ≤ gA S 5 k ∧ gA S 5 k ≤ 64) := h.2.2.1 k hk
theorem B0.pl {S : ST} (h : B0 S) {p : Nat} (hp : p < 20) : (-1 ≤ gA S 6 p ∧ gA S 6 p < 6) ∧ (0 ≤ gA S 8 p ∧ gA S 8 p ≤ 64) := h.2.2.2.1 p hp
theorem B0.cl {S : ST} (h : B0 S) {i : Nat} (hi : i < 1280) : -1 ≤ gA S 9 i ∧ gA S 9 i < 150 := h.2.2.2.2.1 i hi
theorem B0.th {S : ST} (h : B0 S) {t : Nat} (ht : t < 150) : (0 ≤ gA S 11 t ∧ gA S 11 t < 6) ∧ (-1 ≤ gA S 12 t ∧ gA S 12 t < 20) ∧ (0 ≤ gA S 13 t ∧ gA S 13 t < 64) := h.2.2.2.2.2 t ht
/-- the answer is v, the state is S; for a method without an answer: the state is S -/
def eqr (v : Int) (S : ST) (r : Int) (S' : ST) : Prop := r = v ∧ S' = S
def eqv (S : ST) (S' : ST) : Prop := S' = S
