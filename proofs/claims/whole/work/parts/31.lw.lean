/-! THE LAW'S BODY: the abstract operations again, over the state of both sides -/
abbrev LST : Type := ST × ST × (Nat → Int64) × Nat × Nat
abbrev LPT : Type := Nat → LV → List AV → LST → Prop
abbrev LAI : Type := LV → List AV → LST → LPT → Prop
def jMono (a : LAI) : Prop := ∀ (P P' : LPT), (∀ pc lv st S, P pc lv st S → P' pc lv st S) → ∀ lv st S, a lv st S P → a lv st S P'
def jfls : LAI := fun _ _ _ _ => False
def jtab : List (Nat × LAI) → Nat → LAI
  | [], _ => jfls
  | (k, a) :: r, pc => if pc = k then a else jtab r pc
def jRR (T : List (Nat × LAI)) : LPT := fun pc lv st S => ∃ _u : Unit, ∀ P : LPT, (∀ pc lv st S, jtab T pc lv st S P → P pc lv st S) → P pc lv st S
theorem jm_fls : jMono jfls := fun _ _ _ _ _ _ h => h
theorem jtab_mono {T : List (Nat × LAI)} (h : ∀ e ∈ T, jMono e.2) (pc : Nat) : jMono (jtab T pc) := by
  induction T with
  | nil => exact jm_fls
  | cons e r ih =>
    obtain ⟨k, a⟩ := e
    unfold jtab
    by_cases hk : pc = k
    · rw [if_pos hk]; exact h (k, a) List.mem_cons_self
    · rw [if_neg hk]; exact ih (fun e he => h e (List.mem_cons_of_mem _ he))
theorem jtab_closed {T : List (Nat × LAI)} {P : LPT} (h : ∀ e ∈ T, ∀ lv st S, e.2 lv st S P → P e.1 lv st S) : ∀ pc lv st S, jtab T pc lv st S P → P pc lv st S := by
  induction T with
  | nil => intro pc lv st S q; exact q.elim
  | cons e r ih =>
    obtain ⟨k, a⟩ := e
    intro pc lv st S q
    unfold jtab at q
    by_cases hk : pc = k
    · rw [if_pos hk] at q; subst hk; exact h (pc, a) List.mem_cons_self lv st S q
    · rw [if_neg hk] at q; exact ih (fun e he => h e (List.mem_cons_of_mem _ he)) pc lv st S q
theorem jRR_closed {T : List (Nat × LAI)} (h : ∀ e ∈ T, jMono e.2) : ∀ pc lv st S, jtab T pc lv st S (jRR T) → jRR T pc lv st S :=
  fun pc lv st S q => ⟨(), fun P hP => hP pc lv st S (jtab_mono h pc _ _ (fun _ _ _ _ r => r.elim (fun _ f => f P hP)) lv st S q)⟩
theorem jRR_fix {T : List (Nat × LAI)} (h : ∀ e ∈ T, jMono e.2) (pc : Nat) (lv : LV) (st : List AV) (S : LST) : jRR T pc lv st S = jtab T pc lv st S (jRR T) := by
  refine propext ⟨fun q => q.elim (fun _ f => f (fun pc lv st S => jtab T pc lv st S (jRR T)) (fun pc lv st S r => ?_)), jRR_closed h pc lv st S⟩
  exact jtab_mono h pc _ _ (fun _ _ _ _ z => jRR_closed h _ _ _ _ z) lv st S r
/-- one row of a table, as an equation -/
theorem jRR_at {T : List (Nat × LAI)} (h : ∀ e ∈ T, jMono e.2) {pc : Nat} {a : LAI} (ha : jtab T pc = a) (lv : LV) (st : List AV) (S : LST) : jRR T pc lv st S = a lv st S (jRR T) := by
  rw [jRR_fix h, ha]
def ji_const (v : Int) (n : Nat) : LAI := fun lv st S P => P n lv (vI v :: st) S
def ji_lconst (v : Int64) (n : Nat) : LAI := fun lv st S P => P n lv (vL v :: st) S
def ji_dconst (v : UInt64) (n : Nat) : LAI := fun lv st S P => P n lv (vD v :: st) S
def jk_iload (n : Nat) (lv : LV) (st : List AV) (S : LST) (P : LPT) : Option AV → Prop
  | some (.inl a) => P n lv (vI a :: st) S
  | _ => False
def ji_iload (i n : Nat) : LAI := fun lv st S P => jk_iload n lv st S P (lget lv i)
def jk_aload (n : Nat) (lv : LV) (st : List AV) (S : LST) (P : LPT) : Option AV → Prop
  | some (.inr (.inr (.inr k))) => P n lv (vR k :: st) S
  | _ => False
def ji_aload (i n : Nat) : LAI := fun lv st S P => jk_aload n lv st S P (lget lv i)
def jk_lload (n : Nat) (lv : LV) (st : List AV) (S : LST) (P : LPT) : Option AV → Prop
  | some (.inr (.inl x)) => P n lv (vL x :: st) S
  | _ => False
def ji_lload (i n : Nat) : LAI := fun lv st S P => jk_lload n lv st S P (lget lv i)
def jk_iinc (i : Nat) (d : Int) (n : Nat) (lv : LV) (st : List AV) (S : LST) (P : LPT) : Option AV → Prop
  | some (.inl a) => P n (lset lv i (vI (a + d))) st S
  | _ => False
def ji_iinc (i : Nat) (d : Int) (n : Nat) : LAI := fun lv st S P => jk_iinc i d n lv st S P (lget lv i)
def ji_istore (i n : Nat) : LAI := fun lv st S P => match st with
  | .inl a :: r => lok lv i ∧ P n (lset lv i (vI a)) r S
  | _ => False
def ji_astore (i n : Nat) : LAI := fun lv st S P => match st with
  | .inr (.inr (.inr k)) :: r => lok lv i ∧ P n (lset lv i (vR k)) r S
  | _ => False
def ji_lstore (i n : Nat) : LAI := fun lv st S P => match st with
  | .inr (.inl x) :: r => lok lv i ∧ P n (lset2 lv i (vL x)) r S
  | _ => False
def ji_dup (n : Nat) : LAI := fun lv st S P => match st with
  | .inl a :: r => P n lv (vI a :: vI a :: r) S
  | .inr (.inr (.inr k)) :: r => P n lv (vR k :: vR k :: r) S
  | _ => False
def ji_iadd (n : Nat) : LAI := fun lv st S P => match st with
  | .inl b :: .inl a :: r => P n lv (vI (a + b) :: r) S
  | _ => False
def ji_isub (n : Nat) : LAI := fun lv st S P => match st with
  | .inl b :: .inl a :: r => P n lv (vI (a - b) :: r) S
  | _ => False
def ji_i2l (n : Nat) : LAI := fun lv st S P => match st with
  | .inl a :: r => P n lv (vL (iI a).toInt64 :: r) S
  | _ => False
/-- compare two ints: what is asked of them, where it goes on if so, if not -/
def ji_icmp (f : Int → Int → Prop) (t n : Nat) : LAI := fun lv st S P => match st with
  | .inl b :: .inl a :: r => (rng a ∧ rng b) ∧ (f a b → P t lv r S) ∧ (¬ f a b → P n lv r S)
  | _ => False
def ji_if (f : Int → Prop) (t n : Nat) : LAI := fun lv st S P => match st with
  | .inl a :: r => rng a ∧ (f a → P t lv r S) ∧ (¬ f a → P n lv r S)
  | _ => False
def ji_goto (t : Nat) : LAI := fun lv st S P => P t lv st S
def jtsw (P : LPT) (lv : LV) (r : List AV) (S : LST) (a : Int) (d : Nat) : List (Int × Nat) → Prop
  | [] => P d lv r S
  | (k, t) :: q => (a = k → P t lv r S) ∧ (a ≠ k → jtsw P lv r S a d q)
def ji_switch (ts : List (Int × Nat)) (d : Nat) : LAI := fun lv st S P => match st with
  | .inl a :: r => rng a ∧ jtsw P lv r S a d ts
  | _ => False
theorem jm_const (v : Int) (n : Nat) : jMono (ji_const v n) := fun _ _ h _ _ _ q => h _ _ _ _ q
theorem jm_lconst (v : Int64) (n : Nat) : jMono (ji_lconst v n) := fun _ _ h _ _ _ q => h _ _ _ _ q
theorem jm_dconst (v : UInt64) (n : Nat) : jMono (ji_dconst v n) := fun _ _ h _ _ _ q => h _ _ _ _ q
theorem jm_goto (t : Nat) : jMono (ji_goto t) := fun _ _ h _ _ _ q => h _ _ _ _ q
theorem jm_iload (i n : Nat) : jMono (ji_iload i n) := by
  intro P P' h lv st S q
  unfold ji_iload at q ⊢
  generalize lget lv i = o at q ⊢
  unfold jk_iload at q ⊢
  split at q
  · exact h _ _ _ _ q
  · exact q.elim
theorem jm_aload (i n : Nat) : jMono (ji_aload i n) := by
  intro P P' h lv st S q
  unfold ji_aload at q ⊢
  generalize lget lv i = o at q ⊢
  unfold jk_aload at q ⊢
  split at q
  · exact h _ _ _ _ q
  · exact q.elim
theorem jm_lload (i n : Nat) : jMono (ji_lload i n) := by
  intro P P' h lv st S q
  unfold ji_lload at q ⊢
  generalize lget lv i = o at q ⊢
  unfold jk_lload at q ⊢
  split at q
  · exact h _ _ _ _ q
  · exact q.elim
theorem jm_iinc (i : Nat) (d : Int) (n : Nat) : jMono (ji_iinc i d n) := by
  intro P P' h lv st S q
  unfold ji_iinc at q ⊢
  generalize lget lv i = o at q ⊢
  unfold jk_iinc at q ⊢
  split at q
  · exact h _ _ _ _ q
  · exact q.elim
theorem jm_istore (i n : Nat) : jMono (ji_istore i n) := by
  intro P P' h lv st S q
  unfold ji_istore at q ⊢
  split at q <;> first | exact h _ _ _ _ q | exact ⟨q.1, h _ _ _ _ q.2⟩ | exact ⟨q.1, fun z => h _ _ _ _ (q.2.1 z), fun z => h _ _ _ _ (q.2.2 z)⟩ | exact q | exact q.elim
theorem jm_astore (i n : Nat) : jMono (ji_astore i n) := by
  intro P P' h lv st S q
  unfold ji_astore at q ⊢
  split at q <;> first | exact h _ _ _ _ q | exact ⟨q.1, h _ _ _ _ q.2⟩ | exact ⟨q.1, fun z => h _ _ _ _ (q.2.1 z), fun z => h _ _ _ _ (q.2.2 z)⟩ | exact q | exact q.elim
theorem jm_lstore (i n : Nat) : jMono (ji_lstore i n) := by
  intro P P' h lv st S q
  unfold ji_lstore at q ⊢
  split at q <;> first | exact h _ _ _ _ q | exact ⟨q.1, h _ _ _ _ q.2⟩ | exact ⟨q.1, fun z => h _ _ _ _ (q.2.1 z), fun z => h _ _ _ _ (q.2.2 z)⟩ | exact q | exact q.elim
theorem jm_dup (n : Nat) : jMono (ji_dup n) := by
  intro P P' h lv st S q
  unfold ji_dup at q ⊢
  split at q <;> first | exact h _ _ _ _ q | exact ⟨q.1, h _ _ _ _ q.2⟩ | exact ⟨q.1, fun z => h _ _ _ _ (q.2.1 z), fun z => h _ _ _ _ (q.2.2 z)⟩ | exact q | exact q.elim
theorem jm_iadd (n : Nat) : jMono (ji_iadd n) := by
  intro P P' h lv st S q
  unfold ji_iadd at q ⊢
  split at q <;> first | exact h _ _ _ _ q | exact ⟨q.1, h _ _ _ _ q.2⟩ | exact ⟨q.1, fun z => h _ _ _ _ (q.2.1 z), fun z => h _ _ _ _ (q.2.2 z)⟩ | exact q | exact q.elim
theorem jm_isub (n : Nat) : jMono (ji_isub n) := by
  intro P P' h lv st S q
  unfold ji_isub at q ⊢
  split at q <;> first | exact h _ _ _ _ q | exact ⟨q.1, h _ _ _ _ q.2⟩ | exact ⟨q.1, fun z => h _ _ _ _ (q.2.1 z), fun z => h _ _ _ _ (q.2.2 z)⟩ | exact q | exact q.elim
theorem jm_i2l (n : Nat) : jMono (ji_i2l n) := by
  intro P P' h lv st S q
  unfold ji_i2l at q ⊢
  split at q <;> first | exact h _ _ _ _ q | exact ⟨q.1, h _ _ _ _ q.2⟩ | exact ⟨q.1, fun z => h _ _ _ _ (q.2.1 z), fun z => h _ _ _ _ (q.2.2 z)⟩ | exact q | exact q.elim
theorem jm_icmp (f : Int → Int → Prop) (t n : Nat) : jMono (ji_icmp f t n) := by
  intro P P' h lv st S q
  unfold ji_icmp at q ⊢
  split at q <;> first | exact h _ _ _ _ q | exact ⟨q.1, h _ _ _ _ q.2⟩ | exact ⟨q.1, fun z => h _ _ _ _ (q.2.1 z), fun z => h _ _ _ _ (q.2.2 z)⟩ | exact q | exact q.elim
theorem jm_if (f : Int → Prop) (t n : Nat) : jMono (ji_if f t n) := by
  intro P P' h lv st S q
  unfold ji_if at q ⊢
  split at q <;> first | exact h _ _ _ _ q | exact ⟨q.1, h _ _ _ _ q.2⟩ | exact ⟨q.1, fun z => h _ _ _ _ (q.2.1 z), fun z => h _ _ _ _ (q.2.2 z)⟩ | exact q | exact q.elim
theorem jtsw_mono {P P' : LPT} (h : ∀ pc lv st S, P pc lv st S → P' pc lv st S) (lv : LV) (r : List AV) (S : LST) (a : Int) (d : Nat) : ∀ ts, jtsw P lv r S a d ts → jtsw P' lv r S a d ts
  | [], q => h _ _ _ _ q
  | (_, _) :: ts, q => ⟨fun z => h _ _ _ _ (q.1 z), fun z => jtsw_mono h lv r S a d ts (q.2 z)⟩
theorem jm_switch (ts : List (Int × Nat)) (d : Nat) : jMono (ji_switch ts d) := by
  intro P P' h lv st S q
  unfold ji_switch at q ⊢
  split at q
  · exact ⟨q.1, jtsw_mono h _ _ _ _ _ _ q.2⟩
  · exact q.elim
theorem je_const {v : Int} {n : Nat} {lv : LV} {st : List AV} {S : LST} {P : LPT} : ji_const v n lv st S P = (P n lv (vI v :: st) S) := rfl
theorem je_lconst {v : Int64} {n : Nat} {lv : LV} {st : List AV} {S : LST} {P : LPT} : ji_lconst v n lv st S P = (P n lv (vL v :: st) S) := rfl
theorem je_dconst {v : UInt64} {n : Nat} {lv : LV} {st : List AV} {S : LST} {P : LPT} : ji_dconst v n lv st S P = (P n lv (vD v :: st) S) := rfl
theorem je_iload {i n : Nat} {lv : LV} {st : List AV} {S : LST} {P : LPT} : ji_iload i n lv st S P = (jk_iload n lv st S P (lget lv i)) := rfl
theorem je_kiload {n : Nat} {a : Int} {lv : LV} {st : List AV} {S : LST} {P : LPT} : jk_iload n lv st S P (some (vI a)) = (P n lv (vI a :: st) S) := rfl
theorem je_aload {i n : Nat} {lv : LV} {st : List AV} {S : LST} {P : LPT} : ji_aload i n lv st S P = (jk_aload n lv st S P (lget lv i)) := rfl
theorem je_kaload {n : Nat} {a : Nat} {lv : LV} {st : List AV} {S : LST} {P : LPT} : jk_aload n lv st S P (some (vR a)) = (P n lv (vR a :: st) S) := rfl
theorem je_lload {i n : Nat} {lv : LV} {st : List AV} {S : LST} {P : LPT} : ji_lload i n lv st S P = (jk_lload n lv st S P (lget lv i)) := rfl
theorem je_klload {n : Nat} {a : Int64} {lv : LV} {st : List AV} {S : LST} {P : LPT} : jk_lload n lv st S P (some (vL a)) = (P n lv (vL a :: st) S) := rfl
theorem je_iinc {i n : Nat} {d : Int} {lv : LV} {st : List AV} {S : LST} {P : LPT} : ji_iinc i d n lv st S P = (jk_iinc i d n lv st S P (lget lv i)) := rfl
theorem je_kiinc {i n : Nat} {a d : Int} {lv : LV} {st : List AV} {S : LST} {P : LPT} : jk_iinc i d n lv st S P (some (vI a)) = (P n (lset lv i (vI (a + d))) st S) := rfl
theorem je_istore {i n : Nat} {a : Int} {lv : LV} {st : List AV} {S : LST} {P : LPT} : ji_istore i n lv (vI a :: st) S P = (lok lv i ∧ P n (lset lv i (vI a)) st S) := rfl
theorem je_astore {i n : Nat} {a : Nat} {lv : LV} {st : List AV} {S : LST} {P : LPT} : ji_astore i n lv (vR a :: st) S P = (lok lv i ∧ P n (lset lv i (vR a)) st S) := rfl
theorem je_lstore {i n : Nat} {a : Int64} {lv : LV} {st : List AV} {S : LST} {P : LPT} : ji_lstore i n lv (vL a :: st) S P = (lok lv i ∧ P n (lset2 lv i (vL a)) st S) := rfl
theorem je_dupI {n : Nat} {a : Int} {lv : LV} {st : List AV} {S : LST} {P : LPT} : ji_dup n lv (vI a :: st) S P = (P n lv (vI a :: vI a :: st) S) := rfl
theorem je_dupR {n : Nat} {a : Nat} {lv : LV} {st : List AV} {S : LST} {P : LPT} : ji_dup n lv (vR a :: st) S P = (P n lv (vR a :: vR a :: st) S) := rfl
theorem je_iadd {n : Nat} {a b : Int} {lv : LV} {st : List AV} {S : LST} {P : LPT} : ji_iadd n lv (vI b :: vI a :: st) S P = (P n lv (vI (a + b) :: st) S) := rfl
theorem je_isub {n : Nat} {a b : Int} {lv : LV} {st : List AV} {S : LST} {P : LPT} : ji_isub n lv (vI b :: vI a :: st) S P = (P n lv (vI (a - b) :: st) S) := rfl
theorem je_i2l {n : Nat} {a : Int} {lv : LV} {st : List AV} {S : LST} {P : LPT} : ji_i2l n lv (vI a :: st) S P = (P n lv (vL (iI a).toInt64 :: st) S) := rfl
theorem je_icmp {f : Int → Int → Prop} {t n : Nat} {a b : Int} {lv : LV} {st : List AV} {S : LST} {P : LPT} : ji_icmp f t n lv (vI b :: vI a :: st) S P = ((rng a ∧ rng b) ∧ (f a b → P t lv st S) ∧ (¬ f a b → P n lv st S)) := rfl
theorem je_if {f : Int → Prop} {t n : Nat} {a : Int} {lv : LV} {st : List AV} {S : LST} {P : LPT} : ji_if f t n lv (vI a :: st) S P = (rng a ∧ (f a → P t lv st S) ∧ (¬ f a → P n lv st S)) := rfl
theorem je_goto {t : Nat} {lv : LV} {st : List AV} {S : LST} {P : LPT} : ji_goto t lv st S P = (P t lv st S) := rfl
theorem je_switch {ts : List (Int × Nat)} {d : Nat} {a : Int} {lv : LV} {st : List AV} {S : LST} {P : LPT} : ji_switch ts d lv (vI a :: st) S P = (rng a ∧ jtsw P lv st S a d ts) := rfl
theorem je_tsw0 {d : Nat} {a : Int} {lv : LV} {st : List AV} {S : LST} {P : LPT} : jtsw P lv st S a d [] = (P d lv st S) := rfl
theorem je_tsw1 {ts : List (Int × Nat)} {d t : Nat} {a k : Int} {lv : LV} {st : List AV} {S : LST} {P : LPT} : jtsw P lv st S a d ((k, t) :: ts) = ((a = k → P t lv st S) ∧ (a ≠ k → jtsw P lv st S a d ts)) := rfl
def LOK (p : Program) (l : Launch) (e : Env) (R : Room) (s : State) (m : MethodId) (args : Array Value) (below : List Frame) (meth : Method) (c : Code) (Q : State → Prop) (D : va_G) (cA : (Nat → Nat) → LST → va_W) (A : Nat → Prop) (ci : Nat) (ly : List Bool) (ja : List (Nat × Nat)) (AD : (Nat → Nat) → Prop) (rel : Nat × Nat → Nat → Nat → Prop) (nL : Nat) : LPT := fun pc lv st S =>
  ∀ (ad : Nat → Nat), AD ad → ∀ (H : Heap) (locs : List Loc) (ls : Array Slot) (cells slots : Nat), rel S.2.2.2 cells slots → va_P D vwCl (cA ad S) H → va_D A (cA ad S) → va_S A s.heap H locs → LR ad nL lv ls →
    W p l e R s m args below meth c H locs cells slots Q (F0 m pc ls (st.map (conc ad)))
section SND
variable {p : Program} {l : Launch} {e : Env} {R : Room} {s : State} {m : MethodId} {args : Array Value} {below : List Frame} {meth : Method} {c : Code} {Q : State → Prop}
variable {D : va_G} {cA : (Nat → Nat) → LST → va_W} {A : Nat → Prop} {ci : Nat} {ly : List Bool} {ja : List (Nat × Nat)} {AD : (Nat → Nat) → Prop} {rel : Nat × Nat → Nat → Nat → Prop} {nL : Nat}
variable {cc : ByteArray} {pc n : Nat}
theorem js_iconst (hx : p.tables.exec = Jvm.exec) (hb : c.code = cc) {v : Int} (hd : decode cc pc = .ok (.iconst v, 1)) (hn : n = pc + 1) : ∀ lv st S, ji_const v n lv st S (LOK p l e R s m args below meth c Q D cA A ci ly ja AD rel nL) → (LOK p l e R s m args below meth c Q D cA A ci ly ja AD rel nL) pc lv st S := by
  intro lv st S h
  subst hn
  intro ad ha H locs ls cells slots hr hP hD hS hL
  exact lv_iconst hx hb hd rfl (h ad ha H locs ls cells slots hr hP hD hS hL)
theorem js_bipush (hx : p.tables.exec = Jvm.exec) (hb : c.code = cc) {v : Int} (hd : decode cc pc = .ok (.bipush v, 2)) (hn : n = pc + 2) (hv : (Int8.ofInt v).toInt32 = iI v) : ∀ lv st S, ji_const v n lv st S (LOK p l e R s m args below meth c Q D cA A ci ly ja AD rel nL) → (LOK p l e R s m args below meth c Q D cA A ci ly ja AD rel nL) pc lv st S := by
  intro lv st S h
  subst hn
  intro ad ha H locs ls cells slots hr hP hD hS hL
  exact lv_bipush hx hb hd hv (h ad ha H locs ls cells slots hr hP hD hS hL)
theorem js_iload_n (hx : p.tables.exec = Jvm.exec) (hb : c.code = cc) {i : Nat} {k : Fin 4} (hk : (k : Nat) = i) (hd : decode cc pc = .ok (.iload_n k, 1)) (hn : n = pc + 1) : ∀ lv st S, ji_iload i n lv st S (LOK p l e R s m args below meth c Q D cA A ci ly ja AD rel nL) → (LOK p l e R s m args below meth c Q D cA A ci ly ja AD rel nL) pc lv st S := by
  intro lv st S h
  subst hn
  change jk_iload _ lv st S _ (lget lv i) at h
  rcases hg : lget lv i with _ | (a | x | d | k9)
  all_goals rw [hg] at h
  · exact h.elim
  · intro ad ha H locs ls cells slots hr hP hD hS hL
    exact lv_iload_n hx hb hd hk (hL.2.2 _ _ hg) (h ad ha H locs ls cells slots hr hP hD hS hL)
  · exact h.elim
  · exact h.elim
  · exact h.elim
theorem js_iload (hx : p.tables.exec = Jvm.exec) (hb : c.code = cc) {i : Nat} (hd : decode cc pc = .ok (.iload i, 2)) (hn : n = pc + 2) : ∀ lv st S, ji_iload i n lv st S (LOK p l e R s m args below meth c Q D cA A ci ly ja AD rel nL) → (LOK p l e R s m args below meth c Q D cA A ci ly ja AD rel nL) pc lv st S := by
  intro lv st S h
  subst hn
  change jk_iload _ lv st S _ (lget lv i) at h
  rcases hg : lget lv i with _ | (a | x | d | k9)
  all_goals rw [hg] at h
  · exact h.elim
  · intro ad ha H locs ls cells slots hr hP hD hS hL
    exact lv_iload hx hb hd (hL.2.2 _ _ hg) (h ad ha H locs ls cells slots hr hP hD hS hL)
  · exact h.elim
  · exact h.elim
  · exact h.elim
theorem js_aload_n (hx : p.tables.exec = Jvm.exec) (hb : c.code = cc) {i : Nat} {k : Fin 4} (hk : (k : Nat) = i) (hd : decode cc pc = .ok (.aload_n k, 1)) (hn : n = pc + 1) : ∀ lv st S, ji_aload i n lv st S (LOK p l e R s m args below meth c Q D cA A ci ly ja AD rel nL) → (LOK p l e R s m args below meth c Q D cA A ci ly ja AD rel nL) pc lv st S := by
  intro lv st S h
  subst hn
  change jk_aload _ lv st S _ (lget lv i) at h
  rcases hg : lget lv i with _ | (a | x | d | k9)
  all_goals rw [hg] at h
  · exact h.elim
  · exact h.elim
  · exact h.elim
  · exact h.elim
  · intro ad ha H locs ls cells slots hr hP hD hS hL
    exact lv_aload_n hx hb hd hk (hL.2.2 _ _ hg) (h ad ha H locs ls cells slots hr hP hD hS hL)
theorem js_aload (hx : p.tables.exec = Jvm.exec) (hb : c.code = cc) {i : Nat} (hd : decode cc pc = .ok (.aload i, 2)) (hn : n = pc + 2) : ∀ lv st S, ji_aload i n lv st S (LOK p l e R s m args below meth c Q D cA A ci ly ja AD rel nL) → (LOK p l e R s m args below meth c Q D cA A ci ly ja AD rel nL) pc lv st S := by
  intro lv st S h
  subst hn
  change jk_aload _ lv st S _ (lget lv i) at h
  rcases hg : lget lv i with _ | (a | x | d | k9)
  all_goals rw [hg] at h
  · exact h.elim
  · exact h.elim
  · exact h.elim
  · exact h.elim
  · intro ad ha H locs ls cells slots hr hP hD hS hL
    exact lv_aload hx hb hd (hL.2.2 _ _ hg) (h ad ha H locs ls cells slots hr hP hD hS hL)
theorem js_istore_n (hx : p.tables.exec = Jvm.exec) (hb : c.code = cc) {i : Nat} {k : Fin 4} (hk : (k : Nat) = i) (hd : decode cc pc = .ok (.istore_n k, 1)) (hn : n = pc + 1) (hi : i < nL) : ∀ lv st S, ji_istore i n lv st S (LOK p l e R s m args below meth c Q D cA A ci ly ja AD rel nL) → (LOK p l e R s m args below meth c Q D cA A ci ly ja AD rel nL) pc lv st S := by
  intro lv st S h
  subst hn
  rcases st with _ | ⟨a | x | d | k9, r⟩
  · exact h.elim
  · obtain ⟨hok, h⟩ := h
    intro ad ha H locs ls cells slots hr hP hD hS hL
    exact lv_istore_n hx hb hd hk hL.has (by omega) rfl (fun ls' hl' => h ad ha H locs ls' cells slots hr hP hD hS (LR.st1 hok hl'))
  · exact h.elim
  · exact h.elim
  · exact h.elim
theorem js_istore (hx : p.tables.exec = Jvm.exec) (hb : c.code = cc) {i : Nat} (hd : decode cc pc = .ok (.istore i, 2)) (hn : n = pc + 2) (hi : i < nL) : ∀ lv st S, ji_istore i n lv st S (LOK p l e R s m args below meth c Q D cA A ci ly ja AD rel nL) → (LOK p l e R s m args below meth c Q D cA A ci ly ja AD rel nL) pc lv st S := by
  intro lv st S h
  subst hn
  rcases st with _ | ⟨a | x | d | k9, r⟩
  · exact h.elim
  · obtain ⟨hok, h⟩ := h
    intro ad ha H locs ls cells slots hr hP hD hS hL
    exact lv_istore hx hb hd hL.has (by omega) rfl (fun ls' hl' => h ad ha H locs ls' cells slots hr hP hD hS (LR.st1 hok hl'))
  · exact h.elim
  · exact h.elim
  · exact h.elim
theorem js_astore_n (hx : p.tables.exec = Jvm.exec) (hb : c.code = cc) {i : Nat} {k : Fin 4} (hk : (k : Nat) = i) (hd : decode cc pc = .ok (.astore_n k, 1)) (hn : n = pc + 1) (hi : i < nL) : ∀ lv st S, ji_astore i n lv st S (LOK p l e R s m args below meth c Q D cA A ci ly ja AD rel nL) → (LOK p l e R s m args below meth c Q D cA A ci ly ja AD rel nL) pc lv st S := by
  intro lv st S h
  subst hn
  rcases st with _ | ⟨a | x | d | k9, r⟩
  · exact h.elim
  · exact h.elim
  · exact h.elim
  · exact h.elim
  · obtain ⟨hok, h⟩ := h
    intro ad ha H locs ls cells slots hr hP hD hS hL
    exact lv_astore_n hx hb hd hk hL.has (by omega) rfl (fun ls' hl' => h ad ha H locs ls' cells slots hr hP hD hS (LR.st1 hok hl'))
theorem js_iinc (hx : p.tables.exec = Jvm.exec) (hb : c.code = cc) {i : Nat} {d : Int} (hd : decode cc pc = .ok (.iinc i d, 3)) (hn : n = pc + 3) (hi : i < nL) : ∀ lv st S, ji_iinc i d n lv st S (LOK p l e R s m args below meth c Q D cA A ci ly ja AD rel nL) → (LOK p l e R s m args below meth c Q D cA A ci ly ja AD rel nL) pc lv st S := by
  intro lv st S h
  subst hn
  change jk_iinc i d _ lv st S _ (lget lv i) at h
  rcases hg : lget lv i with _ | (a | x | d9 | k9)
  all_goals rw [hg] at h
  · exact h.elim
  · intro ad ha H locs ls cells slots hr hP hD hS hL
    have hL2 := hL.has
    obtain ⟨k, hk⟩ : ∃ k, (prs ad lv)[k]? = some (i, Value.int (iI a)) := List.getElem?_of_mem (mem_prs.mpr ⟨_, hg, rfl⟩)
    exact lv_iinc (v := iI (a + d)) hx hb hd hL2 hk (iI_add a d) hi rfl (fun ls' hl' => h ad ha H locs ls' cells slots hr hP hD hS (LR.st1 (v := vI (a + d)) (hL.lok hg) hl'))
  · exact h.elim
  · exact h.elim
  · exact h.elim
theorem js_dup (hx : p.tables.exec = Jvm.exec) (hb : c.code = cc) (hd : decode cc pc = .ok (.dup, 1)) (hn : n = pc + 1) : ∀ lv st S, ji_dup n lv st S (LOK p l e R s m args below meth c Q D cA A ci ly ja AD rel nL) → (LOK p l e R s m args below meth c Q D cA A ci ly ja AD rel nL) pc lv st S := by
  intro lv st S h
  subst hn
  rcases st with _ | ⟨a | x | d | k9, r⟩
  · exact h.elim
  · intro ad ha H locs ls cells slots hr hP hD hS hL
    exact lv_dup hx hb hd rfl (h ad ha H locs ls cells slots hr hP hD hS hL)
  · exact h.elim
  · exact h.elim
  · intro ad ha H locs ls cells slots hr hP hD hS hL
    exact lv_dup hx hb hd rfl (h ad ha H locs ls cells slots hr hP hD hS hL)
theorem js_iadd (hx : p.tables.exec = Jvm.exec) (hb : c.code = cc) (hd : decode cc pc = .ok (.iadd, 1)) (hn : n = pc + 1) : ∀ lv st S, ji_iadd n lv st S (LOK p l e R s m args below meth c Q D cA A ci ly ja AD rel nL) → (LOK p l e R s m args below meth c Q D cA A ci ly ja AD rel nL) pc lv st S := by
  intro lv st S h
  subst hn
  rcases st with _ | ⟨b | b | b | b, st⟩
  · exact h.elim
  · rcases st with _ | ⟨a | a | a | a, r⟩
    · exact h.elim
    · intro ad ha H locs ls cells slots hr hP hD hS hL
      refine lv_iadd hx hb hd ?_
      rw [iI_add]
      exact h ad ha H locs ls cells slots hr hP hD hS hL
    · exact h.elim
    · exact h.elim
    · exact h.elim
  · exact h.elim
  · exact h.elim
  · exact h.elim
theorem js_isub (hx : p.tables.exec = Jvm.exec) (hb : c.code = cc) (hd : decode cc pc = .ok (.isub, 1)) (hn : n = pc + 1) : ∀ lv st S, ji_isub n lv st S (LOK p l e R s m args below meth c Q D cA A ci ly ja AD rel nL) → (LOK p l e R s m args below meth c Q D cA A ci ly ja AD rel nL) pc lv st S := by
  intro lv st S h
  subst hn
  rcases st with _ | ⟨b | b | b | b, st⟩
  · exact h.elim
  · rcases st with _ | ⟨a | a | a | a, r⟩
    · exact h.elim
    · intro ad ha H locs ls cells slots hr hP hD hS hL
      refine lv_isub hx hb hd ?_
      rw [iI_sub]
      exact h ad ha H locs ls cells slots hr hP hD hS hL
    · exact h.elim
    · exact h.elim
    · exact h.elim
  · exact h.elim
  · exact h.elim
  · exact h.elim
theorem js_i2l (hx : p.tables.exec = Jvm.exec) (hb : c.code = cc) (hd : decode cc pc = .ok (.i2l, 1)) (hn : n = pc + 1) : ∀ lv st S, ji_i2l n lv st S (LOK p l e R s m args below meth c Q D cA A ci ly ja AD rel nL) → (LOK p l e R s m args below meth c Q D cA A ci ly ja AD rel nL) pc lv st S := by
  intro lv st S h
  subst hn
  rcases st with _ | ⟨a | x | d | k9, r⟩
  · exact h.elim
  · intro ad ha H locs ls cells slots hr hP hD hS hL
    exact lv_i2l hx hb hd rfl (h ad ha H locs ls cells slots hr hP hD hS hL)
  · exact h.elim
  · exact h.elim
  · exact h.elim
theorem js_icmp_eq (hx : p.tables.exec = Jvm.exec) (hb : c.code = cc) {off : Int} {t : Nat} (htg : (pc : Int) + off = (t : Int)) (hd : decode cc pc = .ok (.if_icmp .eq off, 3)) (hn : n = pc + 3) : ∀ lv st S, ji_icmp (fun a b => a = b) t n lv st S (LOK p l e R s m args below meth c Q D cA A ci ly ja AD rel nL) → (LOK p l e R s m args below meth c Q D cA A ci ly ja AD rel nL) pc lv st S := by
  intro lv st S h
  subst hn
  rcases st with _ | ⟨b | b | b | b, st⟩
  · exact h.elim
  · rcases st with _ | ⟨a | a | a | a, r⟩
    · exact h.elim
    · obtain ⟨⟨hr1, hr2⟩, ht, hf⟩ := h
      intro ad ha H locs ls cells slots hr hP hD hS hL
      exact lv_icmp_eq hx hb hd htg (fun z => ht ((iI_eq hr1 hr2).mp z) ad ha H locs ls cells slots hr hP hD hS hL) (fun z => hf (fun y => z ((iI_eq hr1 hr2).mpr y)) ad ha H locs ls cells slots hr hP hD hS hL)
    · exact h.elim
    · exact h.elim
    · exact h.elim
  · exact h.elim
  · exact h.elim
  · exact h.elim
theorem js_if_eq (hx : p.tables.exec = Jvm.exec) (hb : c.code = cc) {off : Int} {t : Nat} (htg : (pc : Int) + off = (t : Int)) (hd : decode cc pc = .ok (.ifCond .eq off, 3)) (hn : n = pc + 3) : ∀ lv st S, ji_if (fun a => a = 0) t n lv st S (LOK p l e R s m args below meth c Q D cA A ci ly ja AD rel nL) → (LOK p l e R s m args below meth c Q D cA A ci ly ja AD rel nL) pc lv st S := by
  intro lv st S h
  subst hn
  rcases st with _ | ⟨a | x | d | k9, r⟩
  · exact h.elim
  · obtain ⟨hr1, ht, hf⟩ := h
    intro ad ha H locs ls cells slots hr hP hD hS hL
    refine lv_if_eq hx hb hd htg (fun z => ?_) (fun z => ?_)
    · rw [← iI_0] at z
      exact ht ((iI_eq hr1 rng0).mp z) ad ha H locs ls cells slots hr hP hD hS hL
    · rw [← iI_0] at z
      exact hf (fun y => z ((iI_eq hr1 rng0).mpr y)) ad ha H locs ls cells slots hr hP hD hS hL
  · exact h.elim
  · exact h.elim
  · exact h.elim
theorem js_icmp_ne (hx : p.tables.exec = Jvm.exec) (hb : c.code = cc) {off : Int} {t : Nat} (htg : (pc : Int) + off = (t : Int)) (hd : decode cc pc = .ok (.if_icmp .ne off, 3)) (hn : n = pc + 3) : ∀ lv st S, ji_icmp (fun a b => a ≠ b) t n lv st S (LOK p l e R s m args below meth c Q D cA A ci ly ja AD rel nL) → (LOK p l e R s m args below meth c Q D cA A ci ly ja AD rel nL) pc lv st S := by
  intro lv st S h
  subst hn
  rcases st with _ | ⟨b | b | b | b, st⟩
  · exact h.elim
  · rcases st with _ | ⟨a | a | a | a, r⟩
    · exact h.elim
    · obtain ⟨⟨hr1, hr2⟩, ht, hf⟩ := h
      intro ad ha H locs ls cells slots hr hP hD hS hL
      exact lv_icmp_ne hx hb hd htg (fun z => ht ((not_congr (iI_eq hr1 hr2)).mp z) ad ha H locs ls cells slots hr hP hD hS hL) (fun z => hf (fun y => y ((iI_eq hr1 hr2).mp z)) ad ha H locs ls cells slots hr hP hD hS hL)
    · exact h.elim
    · exact h.elim
    · exact h.elim
  · exact h.elim
  · exact h.elim
  · exact h.elim
theorem js_if_ne (hx : p.tables.exec = Jvm.exec) (hb : c.code = cc) {off : Int} {t : Nat} (htg : (pc : Int) + off = (t : Int)) (hd : decode cc pc = .ok (.ifCond .ne off, 3)) (hn : n = pc + 3) : ∀ lv st S, ji_if (fun a => a ≠ 0) t n lv st S (LOK p l e R s m args below meth c Q D cA A ci ly ja AD rel nL) → (LOK p l e R s m args below meth c Q D cA A ci ly ja AD rel nL) pc lv st S := by
  intro lv st S h
  subst hn
  rcases st with _ | ⟨a | x | d | k9, r⟩
  · exact h.elim
  · obtain ⟨hr1, ht, hf⟩ := h
    intro ad ha H locs ls cells slots hr hP hD hS hL
    refine lv_if_ne hx hb hd htg (fun z => ?_) (fun z => ?_)
    · rw [← iI_0] at z
      exact ht ((not_congr (iI_eq hr1 rng0)).mp z) ad ha H locs ls cells slots hr hP hD hS hL
    · rw [← iI_0] at z
      exact hf (fun y => y ((iI_eq hr1 rng0).mp z)) ad ha H locs ls cells slots hr hP hD hS hL
  · exact h.elim
  · exact h.elim
  · exact h.elim
theorem js_icmp_lt (hx : p.tables.exec = Jvm.exec) (hb : c.code = cc) {off : Int} {t : Nat} (htg : (pc : Int) + off = (t : Int)) (hd : decode cc pc = .ok (.if_icmp .lt off, 3)) (hn : n = pc + 3) : ∀ lv st S, ji_icmp (fun a b => a < b) t n lv st S (LOK p l e R s m args below meth c Q D cA A ci ly ja AD rel nL) → (LOK p l e R s m args below meth c Q D cA A ci ly ja AD rel nL) pc lv st S := by
  intro lv st S h
  subst hn
  rcases st with _ | ⟨b | b | b | b, st⟩
  · exact h.elim
  · rcases st with _ | ⟨a | a | a | a, r⟩
    · exact h.elim
    · obtain ⟨⟨hr1, hr2⟩, ht, hf⟩ := h
      intro ad ha H locs ls cells slots hr hP hD hS hL
      exact lv_icmp_lt hx hb hd htg (fun z => ht ((iI_lt hr1 hr2).mp z) ad ha H locs ls cells slots hr hP hD hS hL) (fun z => hf (fun y => z ((iI_lt hr1 hr2).mpr y)) ad ha H locs ls cells slots hr hP hD hS hL)
    · exact h.elim
    · exact h.elim
    · exact h.elim
  · exact h.elim
  · exact h.elim
  · exact h.elim
theorem js_if_lt (hx : p.tables.exec = Jvm.exec) (hb : c.code = cc) {off : Int} {t : Nat} (htg : (pc : Int) + off = (t : Int)) (hd : decode cc pc = .ok (.ifCond .lt off, 3)) (hn : n = pc + 3) : ∀ lv st S, ji_if (fun a => a < 0) t n lv st S (LOK p l e R s m args below meth c Q D cA A ci ly ja AD rel nL) → (LOK p l e R s m args below meth c Q D cA A ci ly ja AD rel nL) pc lv st S := by
  intro lv st S h
  subst hn
  rcases st with _ | ⟨a | x | d | k9, r⟩
  · exact h.elim
  · obtain ⟨hr1, ht, hf⟩ := h
    intro ad ha H locs ls cells slots hr hP hD hS hL
    refine lv_if_lt hx hb hd htg (fun z => ?_) (fun z => ?_)
    · rw [← iI_0] at z
      exact ht ((iI_lt hr1 rng0).mp z) ad ha H locs ls cells slots hr hP hD hS hL
    · rw [← iI_0] at z
      exact hf (fun y => z ((iI_lt hr1 rng0).mpr y)) ad ha H locs ls cells slots hr hP hD hS hL
  · exact h.elim
  · exact h.elim
  · exact h.elim
theorem js_icmp_ge (hx : p.tables.exec = Jvm.exec) (hb : c.code = cc) {off : Int} {t : Nat} (htg : (pc : Int) + off = (t : Int)) (hd : decode cc pc = .ok (.if_icmp .ge off, 3)) (hn : n = pc + 3) : ∀ lv st S, ji_icmp (fun a b => a ≥ b) t n lv st S (LOK p l e R s m args below meth c Q D cA A ci ly ja AD rel nL) → (LOK p l e R s m args below meth c Q D cA A ci ly ja AD rel nL) pc lv st S := by
  intro lv st S h
  subst hn
  rcases st with _ | ⟨b | b | b | b, st⟩
  · exact h.elim
  · rcases st with _ | ⟨a | a | a | a, r⟩
    · exact h.elim
    · obtain ⟨⟨hr1, hr2⟩, ht, hf⟩ := h
      intro ad ha H locs ls cells slots hr hP hD hS hL
      exact lv_icmp_ge hx hb hd htg (fun z => ht ((iI_le hr2 hr1).mp z) ad ha H locs ls cells slots hr hP hD hS hL) (fun z => hf (fun y => z ((iI_le hr2 hr1).mpr y)) ad ha H locs ls cells slots hr hP hD hS hL)
    · exact h.elim
    · exact h.elim
    · exact h.elim
  · exact h.elim
  · exact h.elim
  · exact h.elim
theorem js_if_ge (hx : p.tables.exec = Jvm.exec) (hb : c.code = cc) {off : Int} {t : Nat} (htg : (pc : Int) + off = (t : Int)) (hd : decode cc pc = .ok (.ifCond .ge off, 3)) (hn : n = pc + 3) : ∀ lv st S, ji_if (fun a => a ≥ 0) t n lv st S (LOK p l e R s m args below meth c Q D cA A ci ly ja AD rel nL) → (LOK p l e R s m args below meth c Q D cA A ci ly ja AD rel nL) pc lv st S := by
  intro lv st S h
  subst hn
  rcases st with _ | ⟨a | x | d | k9, r⟩
  · exact h.elim
  · obtain ⟨hr1, ht, hf⟩ := h
    intro ad ha H locs ls cells slots hr hP hD hS hL
    refine lv_if_ge hx hb hd htg (fun z => ?_) (fun z => ?_)
    · rw [← iI_0] at z
      exact ht ((iI_le rng0 hr1).mp z) ad ha H locs ls cells slots hr hP hD hS hL
    · rw [← iI_0] at z
      exact hf (fun y => z ((iI_le rng0 hr1).mpr y)) ad ha H locs ls cells slots hr hP hD hS hL
  · exact h.elim
  · exact h.elim
  · exact h.elim
theorem js_icmp_gt (hx : p.tables.exec = Jvm.exec) (hb : c.code = cc) {off : Int} {t : Nat} (htg : (pc : Int) + off = (t : Int)) (hd : decode cc pc = .ok (.if_icmp .gt off, 3)) (hn : n = pc + 3) : ∀ lv st S, ji_icmp (fun a b => a > b) t n lv st S (LOK p l e R s m args below meth c Q D cA A ci ly ja AD rel nL) → (LOK p l e R s m args below meth c Q D cA A ci ly ja AD rel nL) pc lv st S := by
  intro lv st S h
  subst hn
  rcases st with _ | ⟨b | b | b | b, st⟩
  · exact h.elim
  · rcases st with _ | ⟨a | a | a | a, r⟩
    · exact h.elim
    · obtain ⟨⟨hr1, hr2⟩, ht, hf⟩ := h
      intro ad ha H locs ls cells slots hr hP hD hS hL
      exact lv_icmp_gt hx hb hd htg (fun z => ht ((iI_lt hr2 hr1).mp z) ad ha H locs ls cells slots hr hP hD hS hL) (fun z => hf (fun y => z ((iI_lt hr2 hr1).mpr y)) ad ha H locs ls cells slots hr hP hD hS hL)
    · exact h.elim
    · exact h.elim
    · exact h.elim
  · exact h.elim
  · exact h.elim
  · exact h.elim
theorem js_if_gt (hx : p.tables.exec = Jvm.exec) (hb : c.code = cc) {off : Int} {t : Nat} (htg : (pc : Int) + off = (t : Int)) (hd : decode cc pc = .ok (.ifCond .gt off, 3)) (hn : n = pc + 3) : ∀ lv st S, ji_if (fun a => a > 0) t n lv st S (LOK p l e R s m args below meth c Q D cA A ci ly ja AD rel nL) → (LOK p l e R s m args below meth c Q D cA A ci ly ja AD rel nL) pc lv st S := by
  intro lv st S h
  subst hn
  rcases st with _ | ⟨a | x | d | k9, r⟩
  · exact h.elim
  · obtain ⟨hr1, ht, hf⟩ := h
    intro ad ha H locs ls cells slots hr hP hD hS hL
    refine lv_if_gt hx hb hd htg (fun z => ?_) (fun z => ?_)
    · rw [← iI_0] at z
      exact ht ((iI_lt rng0 hr1).mp z) ad ha H locs ls cells slots hr hP hD hS hL
    · rw [← iI_0] at z
      exact hf (fun y => z ((iI_lt rng0 hr1).mpr y)) ad ha H locs ls cells slots hr hP hD hS hL
  · exact h.elim
  · exact h.elim
  · exact h.elim
theorem js_icmp_le (hx : p.tables.exec = Jvm.exec) (hb : c.code = cc) {off : Int} {t : Nat} (htg : (pc : Int) + off = (t : Int)) (hd : decode cc pc = .ok (.if_icmp .le off, 3)) (hn : n = pc + 3) : ∀ lv st S, ji_icmp (fun a b => a ≤ b) t n lv st S (LOK p l e R s m args below meth c Q D cA A ci ly ja AD rel nL) → (LOK p l e R s m args below meth c Q D cA A ci ly ja AD rel nL) pc lv st S := by
  intro lv st S h
  subst hn
  rcases st with _ | ⟨b | b | b | b, st⟩
  · exact h.elim
  · rcases st with _ | ⟨a | a | a | a, r⟩
    · exact h.elim
    · obtain ⟨⟨hr1, hr2⟩, ht, hf⟩ := h
      intro ad ha H locs ls cells slots hr hP hD hS hL
      exact lv_icmp_le hx hb hd htg (fun z => ht ((iI_le hr1 hr2).mp z) ad ha H locs ls cells slots hr hP hD hS hL) (fun z => hf (fun y => z ((iI_le hr1 hr2).mpr y)) ad ha H locs ls cells slots hr hP hD hS hL)
    · exact h.elim
    · exact h.elim
    · exact h.elim
  · exact h.elim
  · exact h.elim
  · exact h.elim
theorem js_if_le (hx : p.tables.exec = Jvm.exec) (hb : c.code = cc) {off : Int} {t : Nat} (htg : (pc : Int) + off = (t : Int)) (hd : decode cc pc = .ok (.ifCond .le off, 3)) (hn : n = pc + 3) : ∀ lv st S, ji_if (fun a => a ≤ 0) t n lv st S (LOK p l e R s m args below meth c Q D cA A ci ly ja AD rel nL) → (LOK p l e R s m args below meth c Q D cA A ci ly ja AD rel nL) pc lv st S := by
  intro lv st S h
  subst hn
  rcases st with _ | ⟨a | x | d | k9, r⟩
  · exact h.elim
  · obtain ⟨hr1, ht, hf⟩ := h
    intro ad ha H locs ls cells slots hr hP hD hS hL
    refine lv_if_le hx hb hd htg (fun z => ?_) (fun z => ?_)
    · rw [← iI_0] at z
      exact ht ((iI_le hr1 rng0).mp z) ad ha H locs ls cells slots hr hP hD hS hL
    · rw [← iI_0] at z
      exact hf (fun y => z ((iI_le hr1 rng0).mpr y)) ad ha H locs ls cells slots hr hP hD hS hL
  · exact h.elim
  · exact h.elim
  · exact h.elim
theorem js_goto (hx : p.tables.exec = Jvm.exec) (hb : c.code = cc) {off : Int} {t : Nat} (htg : (pc : Int) + off = (t : Int)) (hd : decode cc pc = .ok (.goto off, 3)) : ∀ lv st S, ji_goto t lv st S (LOK p l e R s m args below meth c Q D cA A ci ly ja AD rel nL) → (LOK p l e R s m args below meth c Q D cA A ci ly ja AD rel nL) pc lv st S := by
  intro lv st S h
  intro ad ha H locs ls cells slots hr hP hD hS hL
  exact lv_goto hx hb hd htg (h ad ha H locs ls cells slots hr hP hD hS hL)
theorem js_switch (hx : p.tables.exec = Jvm.exec) (hb : c.code = cc) {dflt lo hi : Int} {offs : Array Int} {len d : Nat} {ts : List (Int × Nat)} (hd : decode cc pc = .ok (.tableswitch dflt lo hi offs, len)) (hdf : (pc : Int) + dflt = (d : Int)) (hts : ∀ q ∈ ts, lo ≤ q.1 ∧ q.1 ≤ hi ∧ ∃ off, offs[(q.1 - lo).toNat]? = some off ∧ (pc : Int) + off = (q.2 : Int)) (hall : ∀ a : Int, lo ≤ a → a ≤ hi → ∃ q ∈ ts, q.1 = a) : ∀ lv st S, ji_switch ts d lv st S (LOK p l e R s m args below meth c Q D cA A ci ly ja AD rel nL) → (LOK p l e R s m args below meth c Q D cA A ci ly ja AD rel nL) pc lv st S := by
  intro lv st S h
  rcases st with _ | ⟨a | x | d | k9, r⟩
  · exact h.elim
  · obtain ⟨hr1, h⟩ := h
    intro ad ha H locs ls cells slots hr hP hD hS hL
    have key : ∀ ts' : List (Int × Nat), (∀ q ∈ ts', q ∈ ts) → jtsw (LOK p l e R s m args below meth c Q D cA A ci ly ja AD rel nL) lv r S a d ts' → (∃ q ∈ ts', q.1 = a ∧ (LOK p l e R s m args below meth c Q D cA A ci ly ja AD rel nL) q.2 lv r S) ∨ ((∀ q ∈ ts', q.1 ≠ a) ∧ (LOK p l e R s m args below meth c Q D cA A ci ly ja AD rel nL) d lv r S) := by
      intro ts'
      induction ts' with
      | nil => intro _ z; exact Or.inr ⟨fun q hq => (by cases hq), z⟩
      | cons q qs ih =>
        intro hm z
        obtain ⟨k, t⟩ := q
        by_cases hk : a = k
        · exact Or.inl ⟨(k, t), List.mem_cons_self, hk.symm, z.1 hk⟩
        · rcases ih (fun q hq => hm q (List.mem_cons_of_mem _ hq)) (z.2 hk) with ⟨q, h1, h2⟩ | ⟨h1, h2⟩
          · exact Or.inl ⟨q, List.mem_cons_of_mem _ h1, h2⟩
          · refine Or.inr ⟨fun q hq => ?_, h2⟩
            rcases List.mem_cons.mp hq with rfl | hq
            · exact fun e => hk e.symm
            · exact h1 q hq
    have hai : (iI a).toInt = a := iI_toInt hr1
    rcases key ts (fun q hq => hq) h with ⟨q, hq, hqa, hw⟩ | ⟨hno, hw⟩
    · obtain ⟨h1, h2, off, h3, h4⟩ := hts q hq
      subst hqa
      exact lv_tableIn hx hb hd (by rw [hai]; omega) (by rw [hai]; omega) (by rw [hai]; exact h3) h4 (hw ad ha H locs ls cells slots hr hP hD hS hL)
    · refine lv_tableOut hx hb hd ?_ hdf (hw ad ha H locs ls cells slots hr hP hD hS hL)
      rw [hai]
      rcases Int.lt_or_le a lo with q | q
      · exact Or.inl q
      · rcases Int.lt_or_le hi a with q2 | q2
        · exact Or.inr q2
        · obtain ⟨z, hz, hza⟩ := hall a q q2
          exact absurd hza (hno z hz)
  · exact h.elim
  · exact h.elim
  · exact h.elim
/-! the law's own: the script, its number of a call, the row of the answer, numbers that must be one -/
def ji_slen (L : Nat) (n : Nat) : LAI := fun lv st S P => match st with
  | .inr (.inr (.inr 3)) :: r => P n lv (vI L :: r) S
  | _ => False
def ji_sald (xs : Nat → Int32) (L : Nat) (n : Nat) : LAI := fun lv st S P => match st with
  | .inl i :: .inr (.inr (.inr 3)) :: r => (0 ≤ i ∧ i < L) ∧ P n lv (vI (xs i.toNat).toInt :: r) S
  | _ => False
def ji_and15 (n : Nat) : LAI := fun lv st S P => match st with
  | .inl 15 :: .inl _ :: r => ∀ b : Int, 0 ≤ b ∧ b < 16 → P n lv (vI b :: r) S
  | _ => False
def ji_oald (n : Nat) : LAI := fun lv st S P => match st with
  | .inl 0 :: .inr (.inr (.inr 2)) :: r => P n lv (vL (S.2.2.1 0) :: r) S
  | _ => False
def ji_lcmp (n : Nat) : LAI := fun lv st S P => match st with
  | .inr (.inl b) :: .inr (.inl a) :: r => a = b ∧ P n lv (vI 0 :: r) S
  | _ => False
def ji_dcmp (n : Nat) : LAI := fun lv st S P => match st with
  | .inr (.inr (.inl b)) :: .inr (.inr (.inl a)) :: r => (a = b ∧ FP.dcmp a b = some .eq) ∧ P n lv (vI 0 :: r) S
  | _ => False
def ji_dload (i n : Nat) : LAI := fun lv st S P => match lget lv i with
  | some (.inr (.inr (.inl d))) => P n lv (vD d :: st) S
  | _ => False
def ji_dstore (i n : Nat) : LAI := fun lv st S P => match st with
  | .inr (.inr (.inl d)) :: r => lok lv i ∧ P n (lset2 lv i (vD d)) r S
  | _ => False
def ji_tret : LAI := fun _ st _ _ => match st with
  | [.inl 1] => True
  | _ => False
theorem jm_slen (L n : Nat) : jMono (ji_slen L n) := by
  intro P P' h lv st S q
  unfold ji_slen at q ⊢
  split at q <;> first | exact h _ _ _ _ q | exact q.elim
theorem jm_sald (xs : Nat → Int32) (L n : Nat) : jMono (ji_sald xs L n) := by
  intro P P' h lv st S q
  unfold ji_sald at q ⊢
  split at q <;> first | exact ⟨q.1, h _ _ _ _ q.2⟩ | exact q.elim
theorem jm_and15 (n : Nat) : jMono (ji_and15 n) := by
  intro P P' h lv st S q
  unfold ji_and15 at q ⊢
  split at q <;> first | exact fun b hb => h _ _ _ _ (q b hb) | exact q.elim
theorem jm_oald (n : Nat) : jMono (ji_oald n) := by
  intro P P' h lv st S q
  unfold ji_oald at q ⊢
  split at q <;> first | exact h _ _ _ _ q | exact q.elim
theorem jm_lcmp (n : Nat) : jMono (ji_lcmp n) := by
  intro P P' h lv st S q
  unfold ji_lcmp at q ⊢
  split at q <;> first | exact ⟨q.1, h _ _ _ _ q.2⟩ | exact q.elim
theorem jm_dcmp (n : Nat) : jMono (ji_dcmp n) := by
  intro P P' h lv st S q
  unfold ji_dcmp at q ⊢
  split at q <;> first | exact ⟨q.1, h _ _ _ _ q.2⟩ | exact q.elim
theorem jm_dload (i n : Nat) : jMono (ji_dload i n) := by
  intro P P' h lv st S q
  unfold ji_dload at q ⊢
  split at q <;> first | exact h _ _ _ _ q | exact q.elim
theorem jm_dstore (i n : Nat) : jMono (ji_dstore i n) := by
  intro P P' h lv st S q
  unfold ji_dstore at q ⊢
  split at q <;> first | exact ⟨q.1, h _ _ _ _ q.2⟩ | exact q.elim
theorem jm_tret : jMono ji_tret := fun _ _ _ _ _ _ q => q
theorem je_slen {L n : Nat} {lv : LV} {st : List AV} {S : LST} {P : LPT} : ji_slen L n lv (vR 3 :: st) S P = P n lv (vI L :: st) S := rfl
theorem je_sald {xs : Nat → Int32} {L n : Nat} {i : Int} {lv : LV} {st : List AV} {S : LST} {P : LPT} : ji_sald xs L n lv (vI i :: vR 3 :: st) S P = ((0 ≤ i ∧ i < L) ∧ P n lv (vI (xs i.toNat).toInt :: st) S) := rfl
theorem je_and15 {n : Nat} {a : Int} {lv : LV} {st : List AV} {S : LST} {P : LPT} : ji_and15 n lv (vI 15 :: vI a :: st) S P = ∀ b : Int, 0 ≤ b ∧ b < 16 → P n lv (vI b :: st) S := rfl
theorem je_oald {n : Nat} {lv : LV} {st : List AV} {S : LST} {P : LPT} : ji_oald n lv (vI 0 :: vR 2 :: st) S P = P n lv (vL (S.2.2.1 0) :: st) S := rfl
theorem je_lcmp {n : Nat} {a b : Int64} {lv : LV} {st : List AV} {S : LST} {P : LPT} : ji_lcmp n lv (vL b :: vL a :: st) S P = (a = b ∧ P n lv (vI 0 :: st) S) := rfl
theorem je_dcmp {n : Nat} {a b : UInt64} {lv : LV} {st : List AV} {S : LST} {P : LPT} : ji_dcmp n lv (vD b :: vD a :: st) S P = ((a = b ∧ FP.dcmp a b = some .eq) ∧ P n lv (vI 0 :: st) S) := rfl
theorem je_dstore {i n : Nat} {d : UInt64} {lv : LV} {st : List AV} {S : LST} {P : LPT} : ji_dstore i n lv (vD d :: st) S P = (lok lv i ∧ P n (lset2 lv i (vD d)) st S) := rfl
theorem je_tret {lv : LV} {S : LST} {P : LPT} : ji_tret lv [vI 1] S P = True := rfl
end SND
