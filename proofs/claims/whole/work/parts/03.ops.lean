/-! ABSTRACT OPERATIONS: numbers are whole (Int), an object is its int fields and its int arrays by field number; an operation says what must hold so that P holds of what follows. -/
abbrev AV : Type := Int ⊕ (Int64 ⊕ (UInt64 ⊕ Nat))
def vI (a : Int) : AV := .inl a
def vL (x : Int64) : AV := .inr (.inl x)
def vD (x : UInt64) : AV := .inr (.inr (.inl x))
def vR (k : Nat) : AV := .inr (.inr (.inr k))
abbrev ST : Type := (Nat → Int) × (Nat → Nat → Int) × Option (Nat × (Nat → Int)) × Nat × Nat
def fF (S : ST) (k : Nat) : Int := S.1 k
def gA (S : ST) (k i : Nat) : Int := S.2.1 k i
def pF (S : ST) (k : Nat) (v : Int) : ST := (fun j => if j = k then v else S.1 j, S.2)
def pA (S : ST) (k i : Nat) (v : Int) : ST := (S.1, fun k' i' => if k' = k ∧ i' = i then v else S.2.1 k' i', S.2.2)
abbrev LV : Type := List (Option AV)
abbrev PT : Type := Nat → LV → List AV → ST → Prop
abbrev AI : Type := LV → List AV → ST → PT → Prop
abbrev rng (a : Int) : Prop := -2147483648 ≤ a ∧ a < 2147483648
def lget (lv : LV) (i : Nat) : Option AV := (lv[i]?).getD none
def lset (lv : LV) (i : Nat) (v : AV) : LV := lv.set i (some v)
def bot1 {α : Type} : α → ST → Prop := fun _ _ => False
/-! the table of a method, and what it runs to: the least P that its operations keep -/
def Mono (a : AI) : Prop := ∀ (P P' : PT), (∀ pc lv st S, P pc lv st S → P' pc lv st S) → ∀ lv st S, a lv st S P → a lv st S P'
def fls : AI := fun _ _ _ _ => False
def tab : List (Nat × AI) → Nat → AI
  | [], _ => fls
  | (k, a) :: r, pc => if pc = k then a else tab r pc
def RR (T : List (Nat × AI)) : PT := fun pc lv st S => ∃ _u : Unit, ∀ P : PT, (∀ pc lv st S, tab T pc lv st S P → P pc lv st S) → P pc lv st S
theorem m_fls : Mono fls := fun _ _ _ _ _ _ h => h
theorem al {α : Type} {p : α → Prop} {e : α} {l : List α} (h : p e) (t : ∀ x ∈ l, p x) : ∀ x ∈ e :: l, p x := by
  intro x hx
  rcases List.mem_cons.mp hx with rfl | hx
  · exact h
  · exact t x hx
theorem an {α : Type} {p : α → Prop} : ∀ x ∈ ([] : List α), p x := fun _ h => by cases h
theorem tab_mono {T : List (Nat × AI)} (h : ∀ e ∈ T, Mono e.2) (pc : Nat) : Mono (tab T pc) := by
  induction T with
  | nil => exact m_fls
  | cons e r ih =>
    obtain ⟨k, a⟩ := e
    unfold tab
    by_cases hk : pc = k
    · rw [if_pos hk]; exact h (k, a) List.mem_cons_self
    · rw [if_neg hk]; exact ih (fun e he => h e (List.mem_cons_of_mem _ he))
theorem tab_closed {T : List (Nat × AI)} {P : PT} (h : ∀ e ∈ T, ∀ lv st S, e.2 lv st S P → P e.1 lv st S) : ∀ pc lv st S, tab T pc lv st S P → P pc lv st S := by
  induction T with
  | nil => intro pc lv st S q; exact q.elim
  | cons e r ih =>
    obtain ⟨k, a⟩ := e
    intro pc lv st S q
    unfold tab at q
    by_cases hk : pc = k
    · rw [if_pos hk] at q; subst hk; exact h (pc, a) List.mem_cons_self lv st S q
    · rw [if_neg hk] at q; exact ih (fun e he => h e (List.mem_cons_of_mem _ he)) pc lv st S q
theorem RR_closed {T : List (Nat × AI)} (h : ∀ e ∈ T, Mono e.2) : ∀ pc lv st S, tab T pc lv st S (RR T) → RR T pc lv st S :=
  fun pc lv st S q => ⟨(), fun P hP => hP pc lv st S (tab_mono h pc _ _ (fun _ _ _ _ r => r.elim (fun _ f => f P hP)) lv st S q)⟩
theorem RR_fix {T : List (Nat × AI)} (h : ∀ e ∈ T, Mono e.2) (pc : Nat) (lv : LV) (st : List AV) (S : ST) : RR T pc lv st S = tab T pc lv st S (RR T) := by
  refine propext ⟨fun q => q.elim (fun _ f => f (fun pc lv st S => tab T pc lv st S (RR T)) (fun pc lv st S r => ?_)), RR_closed h pc lv st S⟩
  exact tab_mono h pc _ _ (fun _ _ _ _ z => RR_closed h _ _ _ _ z) lv st S r
/-- one row of a table, as an equation -/
theorem RR_at {T : List (Nat × AI)} (h : ∀ e ∈ T, Mono e.2) {pc : Nat} {a : AI} (ha : tab T pc = a) (lv : LV) (st : List AV) (S : ST) : RR T pc lv st S = a lv st S (RR T) := by
  rw [RR_fix h, ha]
/-! operations -/
def i_const (v : Int) (n : Nat) : AI := fun lv st S P => P n lv (vI v :: st) S
def i_lconst (v : Int64) (n : Nat) : AI := fun lv st S P => P n lv (vL v :: st) S
def i_dconst (v : UInt64) (n : Nat) : AI := fun lv st S P => P n lv (vD v :: st) S
def k_iload (n : Nat) (lv : LV) (st : List AV) (S : ST) (P : PT) : Option AV → Prop
  | some (.inl a) => P n lv (vI a :: st) S
  | _ => False
def i_iload (i n : Nat) : AI := fun lv st S P => k_iload n lv st S P (lget lv i)
def k_aload (n : Nat) (lv : LV) (st : List AV) (S : ST) (P : PT) : Option AV → Prop
  | some (.inr (.inr (.inr k))) => P n lv (vR k :: st) S
  | _ => False
def i_aload (i n : Nat) : AI := fun lv st S P => k_aload n lv st S P (lget lv i)
def k_lload (n : Nat) (lv : LV) (st : List AV) (S : ST) (P : PT) : Option AV → Prop
  | some (.inr (.inl x)) => P n lv (vL x :: st) S
  | _ => False
def i_lload (i n : Nat) : AI := fun lv st S P => k_lload n lv st S P (lget lv i)
def k_iinc (i : Nat) (d : Int) (n : Nat) (lv : LV) (st : List AV) (S : ST) (P : PT) : Option AV → Prop
  | some (.inl a) => P n (lset lv i (vI (a + d))) st S
  | _ => False
/-- no long or double stands just below the place i -/
def ok1 : Option AV → Prop
  | some (.inr (.inl _)) => False
  | some (.inr (.inr (.inl _))) => False
  | _ => True
def lok (lv : LV) : Nat → Prop
  | 0 => True
  | i + 1 => ok1 (lget lv i)
def lset2 (lv : LV) (i : Nat) (v : AV) : LV := (lv.set i (some v)).set (i + 1) none
def i_iinc (i : Nat) (d : Int) (n : Nat) : AI := fun lv st S P => k_iinc i d n lv st S P (lget lv i)
def i_istore (i n : Nat) : AI := fun lv st S P => match st with
  | .inl a :: r => lok lv i ∧ P n (lset lv i (vI a)) r S
  | _ => False
def i_astore (i n : Nat) : AI := fun lv st S P => match st with
  | .inr (.inr (.inr k)) :: r => lok lv i ∧ P n (lset lv i (vR k)) r S
  | _ => False
def i_lstore (i n : Nat) : AI := fun lv st S P => match st with
  | .inr (.inl x) :: r => lok lv i ∧ P n (lset2 lv i (vL x)) r S
  | _ => False
def i_dup (n : Nat) : AI := fun lv st S P => match st with
  | .inl a :: r => P n lv (vI a :: vI a :: r) S
  | .inr (.inr (.inr k)) :: r => P n lv (vR k :: vR k :: r) S
  | _ => False
def i_dup2 (n : Nat) : AI := fun lv st S P => match st with
  | .inl a :: .inr (.inr (.inr k)) :: r => P n lv (vI a :: vR k :: vI a :: vR k :: r) S
  | _ => False
def i_iadd (n : Nat) : AI := fun lv st S P => match st with
  | .inl b :: .inl a :: r => P n lv (vI (a + b) :: r) S
  | _ => False
def i_isub (n : Nat) : AI := fun lv st S P => match st with
  | .inl b :: .inl a :: r => P n lv (vI (a - b) :: r) S
  | _ => False
def i_imul (n : Nat) : AI := fun lv st S P => match st with
  | .inl b :: .inl a :: r => P n lv (vI (a * b) :: r) S
  | _ => False
def i_idiv (n : Nat) : AI := fun lv st S P => match st with
  | .inl b :: .inl a :: r => ((0 ≤ a ∧ a < 2147483648) ∧ 0 < b ∧ b < 2147483648) ∧ P n lv (vI (a / b) :: r) S
  | _ => False
def i_irem (n : Nat) : AI := fun lv st S P => match st with
  | .inl b :: .inl a :: r => ((0 ≤ a ∧ a < 2147483648) ∧ 0 < b ∧ b < 2147483648) ∧ P n lv (vI (a % b) :: r) S
  | _ => False
def i_ladd (n : Nat) : AI := fun lv st S P => match st with
  | .inr (.inl b) :: .inr (.inl a) :: r => P n lv (vL (a + b) :: r) S
  | _ => False
def i_lmul (n : Nat) : AI := fun lv st S P => match st with
  | .inr (.inl b) :: .inr (.inl a) :: r => P n lv (vL (a * b) :: r) S
  | _ => False
def iI (a : Int) : Int32 := Int32.ofInt a
def i_i2l (n : Nat) : AI := fun lv st S P => match st with
  | .inl a :: r => P n lv (vL (iI a).toInt64 :: r) S
  | _ => False
def i_i2d (n : Nat) : AI := fun lv st S P => match st with
  | .inl a :: r => P n lv (vD (FP.i2d (iI a)) :: r) S
  | _ => False
def i_ddiv (n : Nat) : AI := fun lv st S P => match st with
  | .inr (.inr (.inl b)) :: .inr (.inr (.inl a)) :: r => vf_n64 (FP.ddiv a b) ∧ P n lv (vD (FP.ddiv a b) :: r) S
  | _ => False
/-- compare two ints: what is asked of them, where it goes on if so, if not -/
def i_icmp (f : Int → Int → Prop) (t n : Nat) : AI := fun lv st S P => match st with
  | .inl b :: .inl a :: r => (rng a ∧ rng b) ∧ (f a b → P t lv r S) ∧ (¬ f a b → P n lv r S)
  | _ => False
def i_if (f : Int → Prop) (t n : Nat) : AI := fun lv st S P => match st with
  | .inl a :: r => rng a ∧ (f a → P t lv r S) ∧ (¬ f a → P n lv r S)
  | _ => False
def i_goto (t : Nat) : AI := fun lv st S P => P t lv st S
def tsw (P : PT) (lv : LV) (r : List AV) (S : ST) (a : Int) (d : Nat) : List (Int × Nat) → Prop
  | [] => P d lv r S
  | (k, t) :: q => (a = k → P t lv r S) ∧ (a ≠ k → tsw P lv r S a d q)
def i_switch (ts : List (Int × Nat)) (d : Nat) : AI := fun lv st S P => match st with
  | .inl a :: r => rng a ∧ tsw P lv r S a d ts
  | _ => False
def i_getI (k n : Nat) : AI := fun lv st S P => match st with
  | .inr (.inr (.inr 0)) :: r => P n lv (vI (fF S k) :: r) S
  | _ => False
def i_getA (k n : Nat) : AI := fun lv st S P => match st with
  | .inr (.inr (.inr 0)) :: r => P n lv (vR k :: r) S
  | _ => False
def i_putI (k n : Nat) : AI := fun lv st S P => match st with
  | .inl v :: .inr (.inr (.inr 0)) :: r => P n lv r (pF S k v)
  | _ => False
def i_iald (ln : Nat → Nat) (n : Nat) : AI := fun lv st S P => match st with
  | .inl i :: .inr (.inr (.inr k)) :: r => (0 ≤ i ∧ i < ln k) ∧ P n lv (vI (gA S k i.toNat) :: r) S
  | _ => False
def i_iast (ln : Nat → Nat) (n : Nat) : AI := fun lv st S P => match st with
  | .inl v :: .inl i :: .inr (.inr (.inr k)) :: r => (0 ≤ i ∧ i < ln k) ∧ P n lv r (pA S k i.toNat v)
  | _ => False
/-- a row of its own, made by the method (one at most): number 99 -/
def tput (S : ST) (i : Nat) (v : Int) : ST := (S.1, S.2.1, S.2.2.1.map (fun q => (q.1, fun j => if j = i then v else q.2 j)), S.2.2.2)
def tnew (S : ST) (n : Nat) : ST := (S.1, S.2.1, some (n, fun _ => 0), S.2.2.2.1 + 1, S.2.2.2.2 + n)
def tget (S : ST) (i : Nat) : Int := match S.2.2.1 with
  | some q => q.2 i
  | none => 0
def tlen (S : ST) : Nat := match S.2.2.1 with
  | some q => q.1
  | none => 0
def i_tnew (w K M n : Nat) : AI := fun lv st S P => match st with
  | [.inl a] => (a = (w : Int) ∧ S.2.2.1 = none ∧ w ≤ 100 ∧ (∀ v ∈ lv, v ≠ some (vR 99)) ∧ S.2.2.2.1 + 1 ≤ K ∧ S.2.2.2.2 + w ≤ M) ∧ P n lv [vR 99] (tnew S w)
  | _ => False
def i_tald (n : Nat) : AI := fun lv st S P => match st with
  | .inl i :: .inr (.inr (.inr 99)) :: r => (0 ≤ i ∧ i < tlen S ∧ tlen S ≤ 100) ∧ P n lv (vI (tget S i.toNat) :: r) S
  | _ => False
def i_tast (n : Nat) : AI := fun lv st S P => match st with
  | .inl v :: .inl i :: .inr (.inr (.inr 99)) :: r => (0 ≤ i ∧ i < tlen S ∧ tlen S ≤ 100) ∧ P n lv r (tput S i.toNat v)
  | _ => False
/-! ends -/
def i_iret (Q : Int → ST → Prop) : AI := fun _ st S _ => match st with
  | [.inl v] => Q v S
  | _ => False
def i_zret (Q : Int → ST → Prop) : AI := fun _ st S _ => match st with
  | [.inl v] => (v = 0 ∨ v = 1) ∧ Q v S
  | _ => False
def i_lret (Q : Int64 → ST → Prop) : AI := fun _ st S _ => match st with
  | [.inr (.inl v)] => Q v S
  | _ => False
def i_dret (Q : UInt64 → ST → Prop) : AI := fun _ st S _ => match st with
  | [.inr (.inr (.inl v))] => Q v S
  | _ => False
def i_vret (Q : ST → Prop) : AI := fun _ st S _ => match st with
  | [] => Q S
  | _ => False
def i_throw (Qx : String → ST → Prop) (E : String) : AI := fun _ st S _ => match st with
  | [] => Qx E S
  | _ => False
/-! calls: n arguments above the receiver (w of them all, the receiver too, taken off the stack); what the callee runs to stands in X -/
abbrev RI : Type := List AV → ST → (Int → ST → Prop) → (String → ST → Prop) → Prop
abbrev RJ : Type := List AV → ST → (Int64 → ST → Prop) → (String → ST → Prop) → Prop
abbrev RD : Type := List AV → ST → (UInt64 → ST → Prop) → (String → ST → Prop) → Prop
abbrev RV : Type := List AV → ST → (ST → Prop) → (String → ST → Prop) → Prop
def nox : String → ST → Prop := fun _ _ => False
/-- the receiver is the object; not much stands below -/
def isR0 : List AV → Prop
  | .inr (.inr (.inr 0)) :: _ => True
  | _ => False
def sh4 : List AV → Prop
  | [] => True
  | [_] => True
  | [_, _] => True
  | [_, _, _] => True
  | [_, _, _, _] => True
  | _ => False
def i_calli (X : RI) (w n : Nat) : AI := fun lv st S P => (isR0 (st.take w).reverse ∧ w ≤ st.length) ∧ sh4 (st.drop w) ∧ ∃ Q, X (st.take w).reverse S Q nox ∧ ∀ r S', Q r S' → P n lv (vI r :: st.drop w) S'
def i_calll (X : RJ) (w n : Nat) : AI := fun lv st S P => (isR0 (st.take w).reverse ∧ w ≤ st.length) ∧ sh4 (st.drop w) ∧ ∃ Q, X (st.take w).reverse S Q nox ∧ ∀ r S', Q r S' → P n lv (vL r :: st.drop w) S'
def i_callv (X : RV) (w n : Nat) : AI := fun lv st S P => (isR0 (st.take w).reverse ∧ w ≤ st.length) ∧ sh4 (st.drop w) ∧ ∃ Q, X (st.take w).reverse S Q nox ∧ ∀ S', Q S' → P n lv (st.drop w) S'
/-- .. of a static one -/
def i_scalli (X : RI) (w n : Nat) : AI := fun lv st S P => w ≤ st.length ∧ sh4 (st.drop w) ∧ ∃ Q, X (st.take w).reverse S Q nox ∧ ∀ r S', Q r S' → P n lv (vI r :: st.drop w) S'
/-- .. of a method that may throw: it either returns, or throws -/
def i_xcalli (X : RI) (Qx : String → ST → Prop) (w n : Nat) : AI := fun lv st S P => (isR0 (st.take w).reverse ∧ w ≤ st.length) ∧ sh4 (st.drop w) ∧ ((∃ Q, X (st.take w).reverse S Q nox ∧ ∀ r S', Q r S' → P n lv (vI r :: st.drop w) S') ∨ (∃ Q, X (st.take w).reverse S (fun _ _ => False) Q ∧ ∀ E S', Q E S' → Qx E S'))
def i_xcallv (X : RV) (Qx : String → ST → Prop) (w n : Nat) : AI := fun lv st S P => (isR0 (st.take w).reverse ∧ w ≤ st.length) ∧ sh4 (st.drop w) ∧ ((∃ Q, X (st.take w).reverse S Q nox ∧ ∀ S', Q S' → P n lv (st.drop w) S') ∨ (∃ Q, X (st.take w).reverse S (fun _ => False) Q ∧ ∀ E S', Q E S' → Qx E S'))
/-- .. of a method that makes rows: k of them, of m places -/
def cut0 (S : ST) : ST := (S.1, S.2.1, none, 0, 0)
def glue (S S' : ST) (k m : Nat) : ST := (S'.1, S'.2.1, none, S.2.2.2.1 + k, S.2.2.2.2 + m)
def i_acalli (X : RI) (k m K M w n : Nat) : AI := fun lv st S P => (isR0 (st.take w).reverse ∧ w ≤ st.length) ∧ sh4 (st.drop w) ∧ (S.2.2.1 = none ∧ S.2.2.2.1 + k ≤ K ∧ S.2.2.2.2 + m ≤ M) ∧ ∃ Q, X (st.take w).reverse (cut0 S) Q nox ∧ ∀ r S', Q r S' → P n lv (vI r :: st.drop w) (glue S S' k m)
/-! every operation keeps the order of P -/
theorem m_const (v : Int) (n : Nat) : Mono (i_const v n) := fun _ _ h _ _ _ q => h _ _ _ _ q
theorem m_lconst (v : Int64) (n : Nat) : Mono (i_lconst v n) := fun _ _ h _ _ _ q => h _ _ _ _ q
theorem m_dconst (v : UInt64) (n : Nat) : Mono (i_dconst v n) := fun _ _ h _ _ _ q => h _ _ _ _ q
theorem m_goto (t : Nat) : Mono (i_goto t) := fun _ _ h _ _ _ q => h _ _ _ _ q
theorem m_iload (i n : Nat) : Mono (i_iload i n) := by
  intro P P' h lv st S q
  unfold i_iload at q ⊢
  generalize lget lv i = o at q ⊢
  unfold k_iload at q ⊢
  split at q
  · exact h _ _ _ _ q
  · exact q.elim
theorem m_aload (i n : Nat) : Mono (i_aload i n) := by
  intro P P' h lv st S q
  unfold i_aload at q ⊢
  generalize lget lv i = o at q ⊢
  unfold k_aload at q ⊢
  split at q
  · exact h _ _ _ _ q
  · exact q.elim
theorem m_lload (i n : Nat) : Mono (i_lload i n) := by
  intro P P' h lv st S q
  unfold i_lload at q ⊢
  generalize lget lv i = o at q ⊢
  unfold k_lload at q ⊢
  split at q
  · exact h _ _ _ _ q
  · exact q.elim
theorem m_iinc (i : Nat) (d : Int) (n : Nat) : Mono (i_iinc i d n) := by
  intro P P' h lv st S q
  unfold i_iinc at q ⊢
  generalize lget lv i = o at q ⊢
  unfold k_iinc at q ⊢
  split at q
  · exact h _ _ _ _ q
  · exact q.elim
theorem m_istore (i n : Nat) : Mono (i_istore i n) := by
  intro P P' h lv st S q
  unfold i_istore at q ⊢
  split at q <;> first | exact h _ _ _ _ q | exact ⟨q.1, h _ _ _ _ q.2⟩ | exact ⟨q.1, fun z => h _ _ _ _ (q.2.1 z), fun z => h _ _ _ _ (q.2.2 z)⟩ | exact q | exact q.elim
theorem m_astore (i n : Nat) : Mono (i_astore i n) := by
  intro P P' h lv st S q
  unfold i_astore at q ⊢
  split at q <;> first | exact h _ _ _ _ q | exact ⟨q.1, h _ _ _ _ q.2⟩ | exact ⟨q.1, fun z => h _ _ _ _ (q.2.1 z), fun z => h _ _ _ _ (q.2.2 z)⟩ | exact q | exact q.elim
theorem m_lstore (i n : Nat) : Mono (i_lstore i n) := by
  intro P P' h lv st S q
  unfold i_lstore at q ⊢
  split at q <;> first | exact h _ _ _ _ q | exact ⟨q.1, h _ _ _ _ q.2⟩ | exact ⟨q.1, fun z => h _ _ _ _ (q.2.1 z), fun z => h _ _ _ _ (q.2.2 z)⟩ | exact q | exact q.elim
theorem m_dup (n : Nat) : Mono (i_dup n) := by
  intro P P' h lv st S q
  unfold i_dup at q ⊢
  split at q <;> first | exact h _ _ _ _ q | exact ⟨q.1, h _ _ _ _ q.2⟩ | exact ⟨q.1, fun z => h _ _ _ _ (q.2.1 z), fun z => h _ _ _ _ (q.2.2 z)⟩ | exact q | exact q.elim
theorem m_dup2 (n : Nat) : Mono (i_dup2 n) := by
  intro P P' h lv st S q
  unfold i_dup2 at q ⊢
  split at q <;> first | exact h _ _ _ _ q | exact ⟨q.1, h _ _ _ _ q.2⟩ | exact ⟨q.1, fun z => h _ _ _ _ (q.2.1 z), fun z => h _ _ _ _ (q.2.2 z)⟩ | exact q | exact q.elim
theorem m_iadd (n : Nat) : Mono (i_iadd n) := by
  intro P P' h lv st S q
  unfold i_iadd at q ⊢
  split at q <;> first | exact h _ _ _ _ q | exact ⟨q.1, h _ _ _ _ q.2⟩ | exact ⟨q.1, fun z => h _ _ _ _ (q.2.1 z), fun z => h _ _ _ _ (q.2.2 z)⟩ | exact q | exact q.elim
theorem m_isub (n : Nat) : Mono (i_isub n) := by
  intro P P' h lv st S q
  unfold i_isub at q ⊢
  split at q <;> first | exact h _ _ _ _ q | exact ⟨q.1, h _ _ _ _ q.2⟩ | exact ⟨q.1, fun z => h _ _ _ _ (q.2.1 z), fun z => h _ _ _ _ (q.2.2 z)⟩ | exact q | exact q.elim
theorem m_imul (n : Nat) : Mono (i_imul n) := by
  intro P P' h lv st S q
  unfold i_imul at q ⊢
  split at q <;> first | exact h _ _ _ _ q | exact ⟨q.1, h _ _ _ _ q.2⟩ | exact ⟨q.1, fun z => h _ _ _ _ (q.2.1 z), fun z => h _ _ _ _ (q.2.2 z)⟩ | exact q | exact q.elim
theorem m_idiv (n : Nat) : Mono (i_idiv n) := by
  intro P P' h lv st S q
  unfold i_idiv at q ⊢
  split at q <;> first | exact h _ _ _ _ q | exact ⟨q.1, h _ _ _ _ q.2⟩ | exact ⟨q.1, fun z => h _ _ _ _ (q.2.1 z), fun z => h _ _ _ _ (q.2.2 z)⟩ | exact q | exact q.elim
theorem m_irem (n : Nat) : Mono (i_irem n) := by
  intro P P' h lv st S q
  unfold i_irem at q ⊢
  split at q <;> first | exact h _ _ _ _ q | exact ⟨q.1, h _ _ _ _ q.2⟩ | exact ⟨q.1, fun z => h _ _ _ _ (q.2.1 z), fun z => h _ _ _ _ (q.2.2 z)⟩ | exact q | exact q.elim
theorem m_ladd (n : Nat) : Mono (i_ladd n) := by
  intro P P' h lv st S q
  unfold i_ladd at q ⊢
  split at q <;> first | exact h _ _ _ _ q | exact ⟨q.1, h _ _ _ _ q.2⟩ | exact ⟨q.1, fun z => h _ _ _ _ (q.2.1 z), fun z => h _ _ _ _ (q.2.2 z)⟩ | exact q | exact q.elim
theorem m_lmul (n : Nat) : Mono (i_lmul n) := by
  intro P P' h lv st S q
  unfold i_lmul at q ⊢
  split at q <;> first | exact h _ _ _ _ q | exact ⟨q.1, h _ _ _ _ q.2⟩ | exact ⟨q.1, fun z => h _ _ _ _ (q.2.1 z), fun z => h _ _ _ _ (q.2.2 z)⟩ | exact q | exact q.elim
theorem m_i2l (n : Nat) : Mono (i_i2l n) := by
  intro P P' h lv st S q
  unfold i_i2l at q ⊢
  split at q <;> first | exact h _ _ _ _ q | exact ⟨q.1, h _ _ _ _ q.2⟩ | exact ⟨q.1, fun z => h _ _ _ _ (q.2.1 z), fun z => h _ _ _ _ (q.2.2 z)⟩ | exact q | exact q.elim
theorem m_i2d (n : Nat) : Mono (i_i2d n) := by
  intro P P' h lv st S q
  unfold i_i2d at q ⊢
  split at q <;> first | exact h _ _ _ _ q | exact ⟨q.1, h _ _ _ _ q.2⟩ | exact ⟨q.1, fun z => h _ _ _ _ (q.2.1 z), fun z => h _ _ _ _ (q.2.2 z)⟩ | exact q | exact q.elim
theorem m_ddiv (n : Nat) : Mono (i_ddiv n) := by
  intro P P' h lv st S q
  unfold i_ddiv at q ⊢
  split at q <;> first | exact h _ _ _ _ q | exact ⟨q.1, h _ _ _ _ q.2⟩ | exact ⟨q.1, fun z => h _ _ _ _ (q.2.1 z), fun z => h _ _ _ _ (q.2.2 z)⟩ | exact q | exact q.elim
theorem m_tald (n : Nat) : Mono (i_tald n) := by
  intro P P' h lv st S q
  unfold i_tald at q ⊢
  split at q <;> first | exact h _ _ _ _ q | exact ⟨q.1, h _ _ _ _ q.2⟩ | exact ⟨q.1, fun z => h _ _ _ _ (q.2.1 z), fun z => h _ _ _ _ (q.2.2 z)⟩ | exact q | exact q.elim
theorem m_tast (n : Nat) : Mono (i_tast n) := by
  intro P P' h lv st S q
  unfold i_tast at q ⊢
  split at q <;> first | exact h _ _ _ _ q | exact ⟨q.1, h _ _ _ _ q.2⟩ | exact ⟨q.1, fun z => h _ _ _ _ (q.2.1 z), fun z => h _ _ _ _ (q.2.2 z)⟩ | exact q | exact q.elim
theorem m_icmp (f : Int → Int → Prop) (t n : Nat) : Mono (i_icmp f t n) := by
  intro P P' h lv st S q
  unfold i_icmp at q ⊢
  split at q <;> first | exact h _ _ _ _ q | exact ⟨q.1, h _ _ _ _ q.2⟩ | exact ⟨q.1, fun z => h _ _ _ _ (q.2.1 z), fun z => h _ _ _ _ (q.2.2 z)⟩ | exact q | exact q.elim
theorem m_if (f : Int → Prop) (t n : Nat) : Mono (i_if f t n) := by
  intro P P' h lv st S q
  unfold i_if at q ⊢
  split at q <;> first | exact h _ _ _ _ q | exact ⟨q.1, h _ _ _ _ q.2⟩ | exact ⟨q.1, fun z => h _ _ _ _ (q.2.1 z), fun z => h _ _ _ _ (q.2.2 z)⟩ | exact q | exact q.elim
theorem m_getI (k n : Nat) : Mono (i_getI k n) := by
  intro P P' h lv st S q
  unfold i_getI at q ⊢
  split at q <;> first | exact h _ _ _ _ q | exact ⟨q.1, h _ _ _ _ q.2⟩ | exact ⟨q.1, fun z => h _ _ _ _ (q.2.1 z), fun z => h _ _ _ _ (q.2.2 z)⟩ | exact q | exact q.elim
theorem m_getA (k n : Nat) : Mono (i_getA k n) := by
  intro P P' h lv st S q
  unfold i_getA at q ⊢
  split at q <;> first | exact h _ _ _ _ q | exact ⟨q.1, h _ _ _ _ q.2⟩ | exact ⟨q.1, fun z => h _ _ _ _ (q.2.1 z), fun z => h _ _ _ _ (q.2.2 z)⟩ | exact q | exact q.elim
theorem m_putI (k n : Nat) : Mono (i_putI k n) := by
  intro P P' h lv st S q
  unfold i_putI at q ⊢
  split at q <;> first | exact h _ _ _ _ q | exact ⟨q.1, h _ _ _ _ q.2⟩ | exact ⟨q.1, fun z => h _ _ _ _ (q.2.1 z), fun z => h _ _ _ _ (q.2.2 z)⟩ | exact q | exact q.elim
theorem m_iald (ln : Nat → Nat) (n : Nat) : Mono (i_iald ln n) := by
  intro P P' h lv st S q
  unfold i_iald at q ⊢
  split at q <;> first | exact h _ _ _ _ q | exact ⟨q.1, h _ _ _ _ q.2⟩ | exact ⟨q.1, fun z => h _ _ _ _ (q.2.1 z), fun z => h _ _ _ _ (q.2.2 z)⟩ | exact q | exact q.elim
theorem m_iast (ln : Nat → Nat) (n : Nat) : Mono (i_iast ln n) := by
  intro P P' h lv st S q
  unfold i_iast at q ⊢
  split at q <;> first | exact h _ _ _ _ q | exact ⟨q.1, h _ _ _ _ q.2⟩ | exact ⟨q.1, fun z => h _ _ _ _ (q.2.1 z), fun z => h _ _ _ _ (q.2.2 z)⟩ | exact q | exact q.elim
theorem m_tnew (w K M n : Nat) : Mono (i_tnew w K M n) := by
  intro P P' h lv st S q
  unfold i_tnew at q ⊢
  split at q <;> first | exact h _ _ _ _ q | exact ⟨q.1, h _ _ _ _ q.2⟩ | exact ⟨q.1, fun z => h _ _ _ _ (q.2.1 z), fun z => h _ _ _ _ (q.2.2 z)⟩ | exact q | exact q.elim
theorem m_iret (Q : Int → ST → Prop) : Mono (i_iret Q) := by
  intro P P' h lv st S q
  unfold i_iret at q ⊢
  split at q <;> first | exact h _ _ _ _ q | exact ⟨q.1, h _ _ _ _ q.2⟩ | exact ⟨q.1, fun z => h _ _ _ _ (q.2.1 z), fun z => h _ _ _ _ (q.2.2 z)⟩ | exact q | exact q.elim
theorem m_zret (Q : Int → ST → Prop) : Mono (i_zret Q) := by
  intro P P' h lv st S q
  unfold i_zret at q ⊢
  split at q <;> first | exact h _ _ _ _ q | exact ⟨q.1, h _ _ _ _ q.2⟩ | exact ⟨q.1, fun z => h _ _ _ _ (q.2.1 z), fun z => h _ _ _ _ (q.2.2 z)⟩ | exact q | exact q.elim
theorem m_lret (Q : Int64 → ST → Prop) : Mono (i_lret Q) := by
  intro P P' h lv st S q
  unfold i_lret at q ⊢
  split at q <;> first | exact h _ _ _ _ q | exact ⟨q.1, h _ _ _ _ q.2⟩ | exact ⟨q.1, fun z => h _ _ _ _ (q.2.1 z), fun z => h _ _ _ _ (q.2.2 z)⟩ | exact q | exact q.elim
theorem m_dret (Q : UInt64 → ST → Prop) : Mono (i_dret Q) := by
  intro P P' h lv st S q
  unfold i_dret at q ⊢
  split at q <;> first | exact h _ _ _ _ q | exact ⟨q.1, h _ _ _ _ q.2⟩ | exact ⟨q.1, fun z => h _ _ _ _ (q.2.1 z), fun z => h _ _ _ _ (q.2.2 z)⟩ | exact q | exact q.elim
theorem m_vret (Q : ST → Prop) : Mono (i_vret Q) := by
  intro P P' h lv st S q
  unfold i_vret at q ⊢
  split at q <;> first | exact h _ _ _ _ q | exact ⟨q.1, h _ _ _ _ q.2⟩ | exact ⟨q.1, fun z => h _ _ _ _ (q.2.1 z), fun z => h _ _ _ _ (q.2.2 z)⟩ | exact q | exact q.elim
theorem tsw_mono {P P' : PT} (h : ∀ pc lv st S, P pc lv st S → P' pc lv st S) (lv : LV) (r : List AV) (S : ST) (a : Int) (d : Nat) : ∀ ts, tsw P lv r S a d ts → tsw P' lv r S a d ts
  | [], q => h _ _ _ _ q
  | (_, _) :: ts, q => ⟨fun z => h _ _ _ _ (q.1 z), fun z => tsw_mono h lv r S a d ts (q.2 z)⟩
theorem m_switch (ts : List (Int × Nat)) (d : Nat) : Mono (i_switch ts d) := by
  intro P P' h lv st S q
  unfold i_switch at q ⊢
  split at q
  · exact ⟨q.1, tsw_mono h _ _ _ _ _ _ q.2⟩
  · exact q.elim
theorem m_throw (Qx : String → ST → Prop) (E : String) : Mono (i_throw Qx E) := fun _ _ _ _ _ _ q => q
theorem m_calli (X : RI) (w n : Nat) : Mono (i_calli X w n) := fun _ _ h _ _ _ ⟨g1, g2, Q, a, b⟩ => ⟨g1, g2, Q, a, fun r S' z => h _ _ _ _ (b r S' z)⟩
theorem m_scalli (X : RI) (w n : Nat) : Mono (i_scalli X w n) := fun _ _ h _ _ _ ⟨g1, g2, Q, a, b⟩ => ⟨g1, g2, Q, a, fun r S' z => h _ _ _ _ (b r S' z)⟩
theorem m_calll (X : RJ) (w n : Nat) : Mono (i_calll X w n) := fun _ _ h _ _ _ ⟨g1, g2, Q, a, b⟩ => ⟨g1, g2, Q, a, fun r S' z => h _ _ _ _ (b r S' z)⟩
theorem m_callv (X : RV) (w n : Nat) : Mono (i_callv X w n) := fun _ _ h _ _ _ ⟨g1, g2, Q, a, b⟩ => ⟨g1, g2, Q, a, fun S' z => h _ _ _ _ (b S' z)⟩
theorem m_xcalli (X : RI) (Qx : String → ST → Prop) (w n : Nat) : Mono (i_xcalli X Qx w n) := fun _ _ h _ _ _ ⟨g1, g2, q⟩ => ⟨g1, g2, q.elim (fun ⟨Q, a, b⟩ => Or.inl ⟨Q, a, fun r S' z => h _ _ _ _ (b r S' z)⟩) (fun z => Or.inr z)⟩
theorem m_xcallv (X : RV) (Qx : String → ST → Prop) (w n : Nat) : Mono (i_xcallv X Qx w n) := fun _ _ h _ _ _ ⟨g1, g2, q⟩ => ⟨g1, g2, q.elim (fun ⟨Q, a, b⟩ => Or.inl ⟨Q, a, fun S' z => h _ _ _ _ (b S' z)⟩) (fun z => Or.inr z)⟩
theorem m_acalli (X : RI) (k m K M w n : Nat) : Mono (i_acalli X k m K M w n) := fun _ _ h _ _ _ ⟨g1, g2, g, Q, a, b⟩ => ⟨g1, g2, g, Q, a, fun r S' z => h _ _ _ _ (b r S' z)⟩
/-! the operations as equations, for the evaluator -/
theorem e_const {v : Int} {n : Nat} {lv : LV} {st : List AV} {S : ST} {P : PT} : i_const v n lv st S P = (P n lv (vI v :: st) S) := rfl
theorem e_lconst {v : Int64} {n : Nat} {lv : LV} {st : List AV} {S : ST} {P : PT} : i_lconst v n lv st S P = (P n lv (vL v :: st) S) := rfl
theorem e_dconst {v : UInt64} {n : Nat} {lv : LV} {st : List AV} {S : ST} {P : PT} : i_dconst v n lv st S P = (P n lv (vD v :: st) S) := rfl
theorem e_iload {i n : Nat} {lv : LV} {st : List AV} {S : ST} {P : PT} : i_iload i n lv st S P = (k_iload n lv st S P (lget lv i)) := rfl
theorem e_kiload {n : Nat} {a : Int} {lv : LV} {st : List AV} {S : ST} {P : PT} : k_iload n lv st S P (some (vI a)) = (P n lv (vI a :: st) S) := rfl
theorem e_aload {i n : Nat} {lv : LV} {st : List AV} {S : ST} {P : PT} : i_aload i n lv st S P = (k_aload n lv st S P (lget lv i)) := rfl
theorem e_kaload {n : Nat} {a : Nat} {lv : LV} {st : List AV} {S : ST} {P : PT} : k_aload n lv st S P (some (vR a)) = (P n lv (vR a :: st) S) := rfl
theorem e_lload {i n : Nat} {lv : LV} {st : List AV} {S : ST} {P : PT} : i_lload i n lv st S P = (k_lload n lv st S P (lget lv i)) := rfl
theorem e_klload {n : Nat} {a : Int64} {lv : LV} {st : List AV} {S : ST} {P : PT} : k_lload n lv st S P (some (vL a)) = (P n lv (vL a :: st) S) := rfl
theorem e_iinc {i n : Nat} {d : Int} {lv : LV} {st : List AV} {S : ST} {P : PT} : i_iinc i d n lv st S P = (k_iinc i d n lv st S P (lget lv i)) := rfl
theorem e_kiinc {i n : Nat} {a d : Int} {lv : LV} {st : List AV} {S : ST} {P : PT} : k_iinc i d n lv st S P (some (vI a)) = (P n (lset lv i (vI (a + d))) st S) := rfl
theorem e_istore {i n : Nat} {a : Int} {lv : LV} {st : List AV} {S : ST} {P : PT} : i_istore i n lv (vI a :: st) S P = (lok lv i ∧ P n (lset lv i (vI a)) st S) := rfl
theorem e_astore {i n : Nat} {a : Nat} {lv : LV} {st : List AV} {S : ST} {P : PT} : i_astore i n lv (vR a :: st) S P = (lok lv i ∧ P n (lset lv i (vR a)) st S) := rfl
theorem e_lstore {i n : Nat} {a : Int64} {lv : LV} {st : List AV} {S : ST} {P : PT} : i_lstore i n lv (vL a :: st) S P = (lok lv i ∧ P n (lset2 lv i (vL a)) st S) := rfl
theorem e_dupI {n : Nat} {a : Int} {lv : LV} {st : List AV} {S : ST} {P : PT} : i_dup n lv (vI a :: st) S P = (P n lv (vI a :: vI a :: st) S) := rfl
theorem e_dupR {n : Nat} {a : Nat} {lv : LV} {st : List AV} {S : ST} {P : PT} : i_dup n lv (vR a :: st) S P = (P n lv (vR a :: vR a :: st) S) := rfl
theorem e_dup2 {n k : Nat} {a : Int} {lv : LV} {st : List AV} {S : ST} {P : PT} : i_dup2 n lv (vI a :: vR k :: st) S P = (P n lv (vI a :: vR k :: vI a :: vR k :: st) S) := rfl
theorem e_iadd {n : Nat} {a b : Int} {lv : LV} {st : List AV} {S : ST} {P : PT} : i_iadd n lv (vI b :: vI a :: st) S P = (P n lv (vI (a + b) :: st) S) := rfl
theorem e_isub {n : Nat} {a b : Int} {lv : LV} {st : List AV} {S : ST} {P : PT} : i_isub n lv (vI b :: vI a :: st) S P = (P n lv (vI (a - b) :: st) S) := rfl
theorem e_imul {n : Nat} {a b : Int} {lv : LV} {st : List AV} {S : ST} {P : PT} : i_imul n lv (vI b :: vI a :: st) S P = (P n lv (vI (a * b) :: st) S) := rfl
theorem e_idiv {n : Nat} {a b : Int} {lv : LV} {st : List AV} {S : ST} {P : PT} : i_idiv n lv (vI b :: vI a :: st) S P = (((0 ≤ a ∧ a < 2147483648) ∧ 0 < b ∧ b < 2147483648) ∧ P n lv (vI (a / b) :: st) S) := rfl
theorem e_irem {n : Nat} {a b : Int} {lv : LV} {st : List AV} {S : ST} {P : PT} : i_irem n lv (vI b :: vI a :: st) S P = (((0 ≤ a ∧ a < 2147483648) ∧ 0 < b ∧ b < 2147483648) ∧ P n lv (vI (a % b) :: st) S) := rfl
theorem e_ladd {n : Nat} {a b : Int64} {lv : LV} {st : List AV} {S : ST} {P : PT} : i_ladd n lv (vL b :: vL a :: st) S P = (P n lv (vL (a + b) :: st) S) := rfl
theorem e_lmul {n : Nat} {a b : Int64} {lv : LV} {st : List AV} {S : ST} {P : PT} : i_lmul n lv (vL b :: vL a :: st) S P = (P n lv (vL (a * b) :: st) S) := rfl
theorem e_i2l {n : Nat} {a : Int} {lv : LV} {st : List AV} {S : ST} {P : PT} : i_i2l n lv (vI a :: st) S P = (P n lv (vL (iI a).toInt64 :: st) S) := rfl
theorem e_i2d {n : Nat} {a : Int} {lv : LV} {st : List AV} {S : ST} {P : PT} : i_i2d n lv (vI a :: st) S P = (P n lv (vD (FP.i2d (iI a)) :: st) S) := rfl
theorem e_ddiv {n : Nat} {a b : UInt64} {lv : LV} {st : List AV} {S : ST} {P : PT} : i_ddiv n lv (vD b :: vD a :: st) S P = (vf_n64 (FP.ddiv a b) ∧ P n lv (vD (FP.ddiv a b) :: st) S) := rfl
theorem e_icmp {f : Int → Int → Prop} {t n : Nat} {a b : Int} {lv : LV} {st : List AV} {S : ST} {P : PT} : i_icmp f t n lv (vI b :: vI a :: st) S P = ((rng a ∧ rng b) ∧ (f a b → P t lv st S) ∧ (¬ f a b → P n lv st S)) := rfl
theorem e_if {f : Int → Prop} {t n : Nat} {a : Int} {lv : LV} {st : List AV} {S : ST} {P : PT} : i_if f t n lv (vI a :: st) S P = (rng a ∧ (f a → P t lv st S) ∧ (¬ f a → P n lv st S)) := rfl
theorem e_goto {t : Nat} {lv : LV} {st : List AV} {S : ST} {P : PT} : i_goto t lv st S P = (P t lv st S) := rfl
theorem e_switch {ts : List (Int × Nat)} {d : Nat} {a : Int} {lv : LV} {st : List AV} {S : ST} {P : PT} : i_switch ts d lv (vI a :: st) S P = (rng a ∧ tsw P lv st S a d ts) := rfl
theorem e_tsw0 {d : Nat} {a : Int} {lv : LV} {st : List AV} {S : ST} {P : PT} : tsw P lv st S a d [] = (P d lv st S) := rfl
theorem e_tsw1 {ts : List (Int × Nat)} {d t : Nat} {a k : Int} {lv : LV} {st : List AV} {S : ST} {P : PT} : tsw P lv st S a d ((k, t) :: ts) = ((a = k → P t lv st S) ∧ (a ≠ k → tsw P lv st S a d ts)) := rfl
theorem e_getI {k n : Nat} {lv : LV} {st : List AV} {S : ST} {P : PT} : i_getI k n lv (vR 0 :: st) S P = (P n lv (vI (fF S k) :: st) S) := rfl
theorem e_getA {k n : Nat} {lv : LV} {st : List AV} {S : ST} {P : PT} : i_getA k n lv (vR 0 :: st) S P = (P n lv (vR k :: st) S) := rfl
theorem e_putI {k n : Nat} {v : Int} {lv : LV} {st : List AV} {S : ST} {P : PT} : i_putI k n lv (vI v :: vR 0 :: st) S P = (P n lv st (pF S k v)) := rfl
theorem e_iald {ln : Nat → Nat} {k n : Nat} {i : Int} {lv : LV} {st : List AV} {S : ST} {P : PT} : i_iald ln n lv (vI i :: vR k :: st) S P = ((0 ≤ i ∧ i < ln k) ∧ P n lv (vI (gA S k i.toNat) :: st) S) := rfl
theorem e_iast {ln : Nat → Nat} {k n : Nat} {i v : Int} {lv : LV} {st : List AV} {S : ST} {P : PT} : i_iast ln n lv (vI v :: vI i :: vR k :: st) S P = ((0 ≤ i ∧ i < ln k) ∧ P n lv st (pA S k i.toNat v)) := rfl
theorem e_tnew {w K M n : Nat} {a : Int} {lv : LV} {S : ST} {P : PT} : i_tnew w K M n lv [vI a] S P = ((a = (w : Int) ∧ S.2.2.1 = none ∧ w ≤ 100 ∧ (∀ v ∈ lv, v ≠ some (vR 99)) ∧ S.2.2.2.1 + 1 ≤ K ∧ S.2.2.2.2 + w ≤ M) ∧ P n lv [vR 99] (tnew S w)) := rfl
theorem e_tald {n : Nat} {i : Int} {lv : LV} {st : List AV} {S : ST} {P : PT} : i_tald n lv (vI i :: vR 99 :: st) S P = ((0 ≤ i ∧ i < tlen S ∧ tlen S ≤ 100) ∧ P n lv (vI (tget S i.toNat) :: st) S) := rfl
theorem e_tast {n : Nat} {i v : Int} {lv : LV} {st : List AV} {S : ST} {P : PT} : i_tast n lv (vI v :: vI i :: vR 99 :: st) S P = ((0 ≤ i ∧ i < tlen S ∧ tlen S ≤ 100) ∧ P n lv st (tput S i.toNat v)) := rfl
theorem e_iret {Q : Int → ST → Prop} {v : Int} {lv : LV} {S : ST} {P : PT} : i_iret Q lv [vI v] S P = (Q v S) := rfl
theorem e_zret {Q : Int → ST → Prop} {v : Int} {lv : LV} {S : ST} {P : PT} : i_zret Q lv [vI v] S P = ((v = 0 ∨ v = 1) ∧ Q v S) := rfl
theorem e_lret {Q : Int64 → ST → Prop} {v : Int64} {lv : LV} {S : ST} {P : PT} : i_lret Q lv [vL v] S P = (Q v S) := rfl
theorem e_dret {Q : UInt64 → ST → Prop} {v : UInt64} {lv : LV} {S : ST} {P : PT} : i_dret Q lv [vD v] S P = (Q v S) := rfl
theorem e_vret {Q : ST → Prop} {lv : LV} {S : ST} {P : PT} : i_vret Q lv [] S P = (Q S) := rfl
theorem e_throw {Qx : String → ST → Prop} {E : String} {lv : LV} {S : ST} {P : PT} : i_throw Qx E lv [] S P = (Qx E S) := rfl
theorem lg0 {a0 : Option AV} {l : LV} : lget (a0 :: l) 0 = (a0) := rfl
theorem ls0 {v : AV} {a0 : Option AV} {l : LV} : lset (a0 :: l) 0 v = (some v :: l) := rfl
theorem lt0 {v : AV} {a0 a1 : Option AV} {l : LV} : lset2 (a0 :: a1 :: l) 0 v = (some v :: none :: l) := rfl
theorem lg1 {a0 a1 : Option AV} {l : LV} : lget (a0 :: a1 :: l) 1 = (a1) := rfl
theorem ls1 {v : AV} {a0 a1 : Option AV} {l : LV} : lset (a0 :: a1 :: l) 1 v = (a0 :: some v :: l) := rfl
theorem lo1 {a0 a1 : Option AV} {l : LV} : lok (a0 :: a1 :: l) 1 = (ok1 a0) := rfl
theorem lt1 {v : AV} {a0 a1 a2 : Option AV} {l : LV} : lset2 (a0 :: a1 :: a2 :: l) 1 v = (a0 :: some v :: none :: l) := rfl
theorem lg2 {a0 a1 a2 : Option AV} {l : LV} : lget (a0 :: a1 :: a2 :: l) 2 = (a2) := rfl
theorem ls2 {v : AV} {a0 a1 a2 : Option AV} {l : LV} : lset (a0 :: a1 :: a2 :: l) 2 v = (a0 :: a1 :: some v :: l) := rfl
theorem lo2 {a0 a1 a2 : Option AV} {l : LV} : lok (a0 :: a1 :: a2 :: l) 2 = (ok1 a1) := rfl
theorem lt2 {v : AV} {a0 a1 a2 a3 : Option AV} {l : LV} : lset2 (a0 :: a1 :: a2 :: a3 :: l) 2 v = (a0 :: a1 :: some v :: none :: l) := rfl
theorem lg3 {a0 a1 a2 a3 : Option AV} {l : LV} : lget (a0 :: a1 :: a2 :: a3 :: l) 3 = (a3) := rfl
theorem ls3 {v : AV} {a0 a1 a2 a3 : Option AV} {l : LV} : lset (a0 :: a1 :: a2 :: a3 :: l) 3 v = (a0 :: a1 :: a2 :: some v :: l) := rfl
theorem lo3 {a0 a1 a2 a3 : Option AV} {l : LV} : lok (a0 :: a1 :: a2 :: a3 :: l) 3 = (ok1 a2) := rfl
theorem lt3 {v : AV} {a0 a1 a2 a3 a4 : Option AV} {l : LV} : lset2 (a0 :: a1 :: a2 :: a3 :: a4 :: l) 3 v = (a0 :: a1 :: a2 :: some v :: none :: l) := rfl
theorem lg4 {a0 a1 a2 a3 a4 : Option AV} {l : LV} : lget (a0 :: a1 :: a2 :: a3 :: a4 :: l) 4 = (a4) := rfl
theorem ls4 {v : AV} {a0 a1 a2 a3 a4 : Option AV} {l : LV} : lset (a0 :: a1 :: a2 :: a3 :: a4 :: l) 4 v = (a0 :: a1 :: a2 :: a3 :: some v :: l) := rfl
theorem lo4 {a0 a1 a2 a3 a4 : Option AV} {l : LV} : lok (a0 :: a1 :: a2 :: a3 :: a4 :: l) 4 = (ok1 a3) := rfl
theorem lt4 {v : AV} {a0 a1 a2 a3 a4 a5 : Option AV} {l : LV} : lset2 (a0 :: a1 :: a2 :: a3 :: a4 :: a5 :: l) 4 v = (a0 :: a1 :: a2 :: a3 :: some v :: none :: l) := rfl
theorem lg5 {a0 a1 a2 a3 a4 a5 : Option AV} {l : LV} : lget (a0 :: a1 :: a2 :: a3 :: a4 :: a5 :: l) 5 = (a5) := rfl
theorem ls5 {v : AV} {a0 a1 a2 a3 a4 a5 : Option AV} {l : LV} : lset (a0 :: a1 :: a2 :: a3 :: a4 :: a5 :: l) 5 v = (a0 :: a1 :: a2 :: a3 :: a4 :: some v :: l) := rfl
theorem lo5 {a0 a1 a2 a3 a4 a5 : Option AV} {l : LV} : lok (a0 :: a1 :: a2 :: a3 :: a4 :: a5 :: l) 5 = (ok1 a4) := rfl
theorem lt5 {v : AV} {a0 a1 a2 a3 a4 a5 a6 : Option AV} {l : LV} : lset2 (a0 :: a1 :: a2 :: a3 :: a4 :: a5 :: a6 :: l) 5 v = (a0 :: a1 :: a2 :: a3 :: a4 :: some v :: none :: l) := rfl
theorem lg6 {a0 a1 a2 a3 a4 a5 a6 : Option AV} {l : LV} : lget (a0 :: a1 :: a2 :: a3 :: a4 :: a5 :: a6 :: l) 6 = (a6) := rfl
theorem ls6 {v : AV} {a0 a1 a2 a3 a4 a5 a6 : Option AV} {l : LV} : lset (a0 :: a1 :: a2 :: a3 :: a4 :: a5 :: a6 :: l) 6 v = (a0 :: a1 :: a2 :: a3 :: a4 :: a5 :: some v :: l) := rfl
theorem lo6 {a0 a1 a2 a3 a4 a5 a6 : Option AV} {l : LV} : lok (a0 :: a1 :: a2 :: a3 :: a4 :: a5 :: a6 :: l) 6 = (ok1 a5) := rfl
theorem lt6 {v : AV} {a0 a1 a2 a3 a4 a5 a6 a7 : Option AV} {l : LV} : lset2 (a0 :: a1 :: a2 :: a3 :: a4 :: a5 :: a6 :: a7 :: l) 6 v = (a0 :: a1 :: a2 :: a3 :: a4 :: a5 :: some v :: none :: l) := rfl
theorem lg7 {a0 a1 a2 a3 a4 a5 a6 a7 : Option AV} {l : LV} : lget (a0 :: a1 :: a2 :: a3 :: a4 :: a5 :: a6 :: a7 :: l) 7 = (a7) := rfl
theorem ls7 {v : AV} {a0 a1 a2 a3 a4 a5 a6 a7 : Option AV} {l : LV} : lset (a0 :: a1 :: a2 :: a3 :: a4 :: a5 :: a6 :: a7 :: l) 7 v = (a0 :: a1 :: a2 :: a3 :: a4 :: a5 :: a6 :: some v :: l) := rfl
theorem lo7 {a0 a1 a2 a3 a4 a5 a6 a7 : Option AV} {l : LV} : lok (a0 :: a1 :: a2 :: a3 :: a4 :: a5 :: a6 :: a7 :: l) 7 = (ok1 a6) := rfl
theorem lt7 {v : AV} {a0 a1 a2 a3 a4 a5 a6 a7 a8 : Option AV} {l : LV} : lset2 (a0 :: a1 :: a2 :: a3 :: a4 :: a5 :: a6 :: a7 :: a8 :: l) 7 v = (a0 :: a1 :: a2 :: a3 :: a4 :: a5 :: a6 :: some v :: none :: l) := rfl
theorem lg8 {a0 a1 a2 a3 a4 a5 a6 a7 a8 : Option AV} {l : LV} : lget (a0 :: a1 :: a2 :: a3 :: a4 :: a5 :: a6 :: a7 :: a8 :: l) 8 = (a8) := rfl
theorem ls8 {v : AV} {a0 a1 a2 a3 a4 a5 a6 a7 a8 : Option AV} {l : LV} : lset (a0 :: a1 :: a2 :: a3 :: a4 :: a5 :: a6 :: a7 :: a8 :: l) 8 v = (a0 :: a1 :: a2 :: a3 :: a4 :: a5 :: a6 :: a7 :: some v :: l) := rfl
theorem lo8 {a0 a1 a2 a3 a4 a5 a6 a7 a8 : Option AV} {l : LV} : lok (a0 :: a1 :: a2 :: a3 :: a4 :: a5 :: a6 :: a7 :: a8 :: l) 8 = (ok1 a7) := rfl
theorem lo0 {lv : LV} : lok lv 0 = (True) := rfl
theorem okI {a : Int} : ok1 (some (vI a)) = (True) := rfl
theorem okR {a : Nat} : ok1 (some (vR a)) = (True) := rfl
theorem okN  : ok1 none = (True) := rfl
theorem e_calli1 {X : RI} {n : Nat} {lv : LV} {st : List AV} {S : ST} {P : PT} : i_calli X 1 n lv (vR 0 :: st) S P = (sh4 st ∧ ∃ Q, X [vR 0] S Q nox ∧ ∀ r S', Q r S' → P n lv (vI r :: st) S') := propext (and_iff_right ⟨trivial, by simp⟩)
theorem e_calll1 {X : RJ} {n : Nat} {lv : LV} {st : List AV} {S : ST} {P : PT} : i_calll X 1 n lv (vR 0 :: st) S P = (sh4 st ∧ ∃ Q, X [vR 0] S Q nox ∧ ∀ r S', Q r S' → P n lv (vL r :: st) S') := propext (and_iff_right ⟨trivial, by simp⟩)
theorem e_callv1 {X : RV} {n : Nat} {lv : LV} {st : List AV} {S : ST} {P : PT} : i_callv X 1 n lv (vR 0 :: st) S P = (sh4 st ∧ ∃ Q, X [vR 0] S Q nox ∧ ∀ S', Q S' → P n lv st S') := propext (and_iff_right ⟨trivial, by simp⟩)
theorem e_xcalli1 {X : RI} {Qx : String → ST → Prop} {n : Nat} {lv : LV} {st : List AV} {S : ST} {P : PT} : i_xcalli X Qx 1 n lv (vR 0 :: st) S P = (sh4 st ∧ ((∃ Q, X [vR 0] S Q nox ∧ ∀ r S', Q r S' → P n lv (vI r :: st) S') ∨ (∃ Q, X [vR 0] S (fun _ _ => False) Q ∧ ∀ E S', Q E S' → Qx E S'))) := propext (and_iff_right ⟨trivial, by simp⟩)
theorem e_xcallv1 {X : RV} {Qx : String → ST → Prop} {n : Nat} {lv : LV} {st : List AV} {S : ST} {P : PT} : i_xcallv X Qx 1 n lv (vR 0 :: st) S P = (sh4 st ∧ ((∃ Q, X [vR 0] S Q nox ∧ ∀ S', Q S' → P n lv st S') ∨ (∃ Q, X [vR 0] S (fun _ => False) Q ∧ ∀ E S', Q E S' → Qx E S'))) := propext (and_iff_right ⟨trivial, by simp⟩)
theorem e_acalli1 {X : RI} {k m K M : Nat} {n : Nat} {lv : LV} {st : List AV} {S : ST} {P : PT} : i_acalli X k m K M 1 n lv (vR 0 :: st) S P = (sh4 st ∧ ((S.2.2.1 = none ∧ S.2.2.2.1 + k ≤ K ∧ S.2.2.2.2 + m ≤ M) ∧ ∃ Q, X [vR 0] (cut0 S) Q nox ∧ ∀ r S', Q r S' → P n lv (vI r :: st) (glue S S' k m))) := propext (and_iff_right ⟨trivial, by simp⟩)
theorem e_calli2 {X : RI} {a : AV} {n : Nat} {lv : LV} {st : List AV} {S : ST} {P : PT} : i_calli X 2 n lv (a :: vR 0 :: st) S P = (sh4 st ∧ ∃ Q, X [vR 0, a] S Q nox ∧ ∀ r S', Q r S' → P n lv (vI r :: st) S') := propext (and_iff_right ⟨trivial, by simp⟩)
theorem e_calll2 {X : RJ} {a : AV} {n : Nat} {lv : LV} {st : List AV} {S : ST} {P : PT} : i_calll X 2 n lv (a :: vR 0 :: st) S P = (sh4 st ∧ ∃ Q, X [vR 0, a] S Q nox ∧ ∀ r S', Q r S' → P n lv (vL r :: st) S') := propext (and_iff_right ⟨trivial, by simp⟩)
theorem e_callv2 {X : RV} {a : AV} {n : Nat} {lv : LV} {st : List AV} {S : ST} {P : PT} : i_callv X 2 n lv (a :: vR 0 :: st) S P = (sh4 st ∧ ∃ Q, X [vR 0, a] S Q nox ∧ ∀ S', Q S' → P n lv st S') := propext (and_iff_right ⟨trivial, by simp⟩)
theorem e_xcalli2 {X : RI} {Qx : String → ST → Prop} {a : AV} {n : Nat} {lv : LV} {st : List AV} {S : ST} {P : PT} : i_xcalli X Qx 2 n lv (a :: vR 0 :: st) S P = (sh4 st ∧ ((∃ Q, X [vR 0, a] S Q nox ∧ ∀ r S', Q r S' → P n lv (vI r :: st) S') ∨ (∃ Q, X [vR 0, a] S (fun _ _ => False) Q ∧ ∀ E S', Q E S' → Qx E S'))) := propext (and_iff_right ⟨trivial, by simp⟩)
theorem e_xcallv2 {X : RV} {Qx : String → ST → Prop} {a : AV} {n : Nat} {lv : LV} {st : List AV} {S : ST} {P : PT} : i_xcallv X Qx 2 n lv (a :: vR 0 :: st) S P = (sh4 st ∧ ((∃ Q, X [vR 0, a] S Q nox ∧ ∀ S', Q S' → P n lv st S') ∨ (∃ Q, X [vR 0, a] S (fun _ => False) Q ∧ ∀ E S', Q E S' → Qx E S'))) := propext (and_iff_right ⟨trivial, by simp⟩)
theorem e_acalli2 {X : RI} {k m K M : Nat} {a : AV} {n : Nat} {lv : LV} {st : List AV} {S : ST} {P : PT} : i_acalli X k m K M 2 n lv (a :: vR 0 :: st) S P = (sh4 st ∧ ((S.2.2.1 = none ∧ S.2.2.2.1 + k ≤ K ∧ S.2.2.2.2 + m ≤ M) ∧ ∃ Q, X [vR 0, a] (cut0 S) Q nox ∧ ∀ r S', Q r S' → P n lv (vI r :: st) (glue S S' k m))) := propext (and_iff_right ⟨trivial, by simp⟩)
theorem e_calli3 {X : RI} {a b : AV} {n : Nat} {lv : LV} {st : List AV} {S : ST} {P : PT} : i_calli X 3 n lv (a :: b :: vR 0 :: st) S P = (sh4 st ∧ ∃ Q, X [vR 0, b, a] S Q nox ∧ ∀ r S', Q r S' → P n lv (vI r :: st) S') := propext (and_iff_right ⟨trivial, by simp⟩)
theorem e_calll3 {X : RJ} {a b : AV} {n : Nat} {lv : LV} {st : List AV} {S : ST} {P : PT} : i_calll X 3 n lv (a :: b :: vR 0 :: st) S P = (sh4 st ∧ ∃ Q, X [vR 0, b, a] S Q nox ∧ ∀ r S', Q r S' → P n lv (vL r :: st) S') := propext (and_iff_right ⟨trivial, by simp⟩)
theorem e_callv3 {X : RV} {a b : AV} {n : Nat} {lv : LV} {st : List AV} {S : ST} {P : PT} : i_callv X 3 n lv (a :: b :: vR 0 :: st) S P = (sh4 st ∧ ∃ Q, X [vR 0, b, a] S Q nox ∧ ∀ S', Q S' → P n lv st S') := propext (and_iff_right ⟨trivial, by simp⟩)
theorem e_xcalli3 {X : RI} {Qx : String → ST → Prop} {a b : AV} {n : Nat} {lv : LV} {st : List AV} {S : ST} {P : PT} : i_xcalli X Qx 3 n lv (a :: b :: vR 0 :: st) S P = (sh4 st ∧ ((∃ Q, X [vR 0, b, a] S Q nox ∧ ∀ r S', Q r S' → P n lv (vI r :: st) S') ∨ (∃ Q, X [vR 0, b, a] S (fun _ _ => False) Q ∧ ∀ E S', Q E S' → Qx E S'))) := propext (and_iff_right ⟨trivial, by simp⟩)
theorem e_xcallv3 {X : RV} {Qx : String → ST → Prop} {a b : AV} {n : Nat} {lv : LV} {st : List AV} {S : ST} {P : PT} : i_xcallv X Qx 3 n lv (a :: b :: vR 0 :: st) S P = (sh4 st ∧ ((∃ Q, X [vR 0, b, a] S Q nox ∧ ∀ S', Q S' → P n lv st S') ∨ (∃ Q, X [vR 0, b, a] S (fun _ => False) Q ∧ ∀ E S', Q E S' → Qx E S'))) := propext (and_iff_right ⟨trivial, by simp⟩)
theorem e_acalli3 {X : RI} {k m K M : Nat} {a b : AV} {n : Nat} {lv : LV} {st : List AV} {S : ST} {P : PT} : i_acalli X k m K M 3 n lv (a :: b :: vR 0 :: st) S P = (sh4 st ∧ ((S.2.2.1 = none ∧ S.2.2.2.1 + k ≤ K ∧ S.2.2.2.2 + m ≤ M) ∧ ∃ Q, X [vR 0, b, a] (cut0 S) Q nox ∧ ∀ r S', Q r S' → P n lv (vI r :: st) (glue S S' k m))) := propext (and_iff_right ⟨trivial, by simp⟩)
theorem e_calli4 {X : RI} {a b d : AV} {n : Nat} {lv : LV} {st : List AV} {S : ST} {P : PT} : i_calli X 4 n lv (a :: b :: d :: vR 0 :: st) S P = (sh4 st ∧ ∃ Q, X [vR 0, d, b, a] S Q nox ∧ ∀ r S', Q r S' → P n lv (vI r :: st) S') := propext (and_iff_right ⟨trivial, by simp⟩)
theorem e_calll4 {X : RJ} {a b d : AV} {n : Nat} {lv : LV} {st : List AV} {S : ST} {P : PT} : i_calll X 4 n lv (a :: b :: d :: vR 0 :: st) S P = (sh4 st ∧ ∃ Q, X [vR 0, d, b, a] S Q nox ∧ ∀ r S', Q r S' → P n lv (vL r :: st) S') := propext (and_iff_right ⟨trivial, by simp⟩)
theorem e_callv4 {X : RV} {a b d : AV} {n : Nat} {lv : LV} {st : List AV} {S : ST} {P : PT} : i_callv X 4 n lv (a :: b :: d :: vR 0 :: st) S P = (sh4 st ∧ ∃ Q, X [vR 0, d, b, a] S Q nox ∧ ∀ S', Q S' → P n lv st S') := propext (and_iff_right ⟨trivial, by simp⟩)
theorem e_xcalli4 {X : RI} {Qx : String → ST → Prop} {a b d : AV} {n : Nat} {lv : LV} {st : List AV} {S : ST} {P : PT} : i_xcalli X Qx 4 n lv (a :: b :: d :: vR 0 :: st) S P = (sh4 st ∧ ((∃ Q, X [vR 0, d, b, a] S Q nox ∧ ∀ r S', Q r S' → P n lv (vI r :: st) S') ∨ (∃ Q, X [vR 0, d, b, a] S (fun _ _ => False) Q ∧ ∀ E S', Q E S' → Qx E S'))) := propext (and_iff_right ⟨trivial, by simp⟩)
theorem e_xcallv4 {X : RV} {Qx : String → ST → Prop} {a b d : AV} {n : Nat} {lv : LV} {st : List AV} {S : ST} {P : PT} : i_xcallv X Qx 4 n lv (a :: b :: d :: vR 0 :: st) S P = (sh4 st ∧ ((∃ Q, X [vR 0, d, b, a] S Q nox ∧ ∀ S', Q S' → P n lv st S') ∨ (∃ Q, X [vR 0, d, b, a] S (fun _ => False) Q ∧ ∀ E S', Q E S' → Qx E S'))) := propext (and_iff_right ⟨trivial, by simp⟩)
theorem e_acalli4 {X : RI} {k m K M : Nat} {a b d : AV} {n : Nat} {lv : LV} {st : List AV} {S : ST} {P : PT} : i_acalli X k m K M 4 n lv (a :: b :: d :: vR 0 :: st) S P = (sh4 st ∧ ((S.2.2.1 = none ∧ S.2.2.2.1 + k ≤ K ∧ S.2.2.2.2 + m ≤ M) ∧ ∃ Q, X [vR 0, d, b, a] (cut0 S) Q nox ∧ ∀ r S', Q r S' → P n lv (vI r :: st) (glue S S' k m))) := propext (and_iff_right ⟨trivial, by simp⟩)
theorem e_scalli3 {X : RI} {a b d : AV} {n : Nat} {lv : LV} {st : List AV} {S : ST} {P : PT} : i_scalli X 3 n lv (a :: b :: d :: st) S P = (sh4 st ∧ ∃ Q, X [d, b, a] S Q nox ∧ ∀ r S', Q r S' → P n lv (vI r :: st) S') := propext (and_iff_right (by simp))
theorem sh4_0  : sh4 [] = True := rfl
theorem sh4_1 {a : AV} : sh4 [a] = True := rfl
theorem sh4_2 {a b : AV} : sh4 [a, b] = True := rfl
theorem sh4_3 {a b d : AV} : sh4 [a, b, d] = True := rfl
theorem sh4_4 {a b d g : AV} : sh4 [a, b, d, g] = True := rfl
