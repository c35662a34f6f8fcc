/-! FROM A TABLE TO A CONTRACT -/
def lvA : List AV → LV
  | [] => []
  | .inl a :: r => some (.inl a) :: lvA r
  | .inr (.inl x) :: r => some (.inr (.inl x)) :: none :: lvA r
  | .inr (.inr (.inl x)) :: r => some (.inr (.inr (.inl x))) :: none :: lvA r
  | .inr (.inr (.inr k)) :: r => some (.inr (.inr (.inr k))) :: lvA r
def eLV (n : Nat) (av : List AV) : LV := lvA av ++ List.replicate (n - (lvA av).length) none
theorem lvA_len {ad : Nat → Nat} : ∀ av : List AV, (lg_sl (av.map (conc ad))).length = (lvA av).length
  | [] => rfl
  | .inl a :: r => by
    have := lvA_len (ad := ad) r
    simp only [lvA, List.length_cons, ← this]
    rfl
  | .inr (.inl x) :: r => by
    have := lvA_len (ad := ad) r
    simp only [lvA, List.length_cons, ← this]
    rfl
  | .inr (.inr (.inl x)) :: r => by
    have := lvA_len (ad := ad) r
    simp only [lvA, List.length_cons, ← this]
    rfl
  | .inr (.inr (.inr k)) :: r => by
    have := lvA_len (ad := ad) r
    simp only [lvA, List.length_cons, ← this]
    rfl
theorem lvA_mem {ad : Nat → Nat} : ∀ (av : List AV) (i j : Nat) (v : AV), (lvA av)[j]? = some (some v) → (i + j, conc ad v) ∈ lv_args i (av.map (conc ad))
  | [], i, j, v, h => by simp [lvA] at h
  | .inl a :: r, i, j, v, h => by
    cases j with
    | zero => simp [lvA] at h; subst h; exact List.mem_cons_self
    | succ j =>
      have h2 : (lvA r)[j]? = some (some v) := h
      have := lvA_mem (ad := ad) r (i + 1) j v h2
      rw [show i + (j + 1) = i + 1 + j by omega]
      exact List.mem_cons_of_mem _ this
  | .inr (.inl x) :: r, i, j, v, h => by
    match j, h with
    | 0, h => simp [lvA] at h; subst h; exact List.mem_cons_self
    | 1, h => simp [lvA] at h
    | j + 2, h =>
      have h2 : (lvA r)[j]? = some (some v) := h
      have := lvA_mem (ad := ad) r (i + 2) j v h2
      rw [show i + (j + 2) = i + 2 + j by omega]
      exact List.mem_cons_of_mem _ this
  | .inr (.inr (.inl x)) :: r, i, j, v, h => by
    match j, h with
    | 0, h => simp [lvA] at h; subst h; exact List.mem_cons_self
    | 1, h => simp [lvA] at h
    | j + 2, h =>
      have h2 : (lvA r)[j]? = some (some v) := h
      have := lvA_mem (ad := ad) r (i + 2) j v h2
      rw [show i + (j + 2) = i + 2 + j by omega]
      exact List.mem_cons_of_mem _ this
  | .inr (.inr (.inr k)) :: r, i, j, v, h => by
    cases j with
    | zero => simp [lvA] at h; subst h; exact List.mem_cons_self
    | succ j =>
      have h2 : (lvA r)[j]? = some (some v) := h
      have := lvA_mem (ad := ad) r (i + 1) j v h2
      rw [show i + (j + 1) = i + 1 + j by omega]
      exact List.mem_cons_of_mem _ this
theorem eLV_LR {ad : Nat → Nat} {n : Nat} {av : List AV} {ls : Array Slot} (h : lv_has ls n (lv_args 0 (av.map (conc ad)))) : LR ad n (eLV n av) ls := by
  refine ⟨h.1, h.2.1, fun i v hv => ?_⟩
  have h1 : (lvA av)[i]? = some (some v) := by
    unfold lget eLV at hv
    rcases Nat.lt_or_ge i (lvA av).length with q | q
    · rw [List.getElem?_append_left q] at hv
      rw [List.getElem?_eq_getElem q] at hv ⊢
      exact congrArg some hv
    · rw [List.getElem?_append_right q, List.getElem?_replicate] at hv
      split at hv <;> cases hv
  have h2 := h.2.2 _ (lvA_mem (ad := ad) av 0 i v h1)
  rw [Nat.zero_add] at h2
  exact h2
/-- what a method's body stands on -/
def CtxF (p : Program) (m : MethodId) (c : Code) (s : State) (args : Array Value) (meth : Method) (cc : ByteArray) (nL : Nat) (ret : Option FieldType) (ws : List Cond) (C : String) : Prop :=
  (CallFix p m c cc nL s args ws C) ∧ meth.locks = false ∧ meth.sig.returnType = ret
/-- a table is sound for a method -/
def SndT (own : String) (strs : List (Nat × String)) (ci : Nat) (ly : List Bool) (ja : List (Nat × Nat)) (cc : ByteArray) (nL : Nat) (ret : Option FieldType) (ws : List Cond) (Fr Lo : Nat) (Qx : String → ST → Prop) (hE : PT → Prop) (relok : Room → (Nat × Nat → Nat → Nat → Prop) → ((Nat → Nat) → Prop) → Prop) (T : List (Nat × AI)) : Prop :=
  ∀ (p : Program) (l : Launch) (e : Env) (R : Room) (s : State) (m : MethodId) (args : Array Value) (below : List Frame) (meth : Method) (c : Code) (Q : State → Prop) (D : va_G) (cA : ClassId) (A : Nat → Prop) (AD : (Nat → Nat) → Prop) (rel : Nat × Nat → Nat → Nat → Prop), CtxF p m c s args meth cc nL ret ws own → Fr ≤ R.frames → Lo ≤ R.locals → va_K D vwCl [(cA, .int)] s → (∀ q, s.heap.size ≤ q → A q) → relok R rel AD → TC own strs l R s args below meth c Q D cA A ci ly ja AD rel Qx → hE (OK p l e R s m args below meth c Q D cA A ci ly ja AD rel nL) →
    ∀ e9 ∈ T, ∀ lv st S, e9.2 lv st S (OK p l e R s m args below meth c Q D cA A ci ly ja AD rel nL) → OK p l e R s m args below meth c Q D cA A ci ly ja AD rel nL e9.1 lv st S
/-- the count stays within the room -/
def relP : Room → (Nat × Nat → Nat → Nat → Prop) → ((Nat → Nat) → Prop) → Prop := fun R rel _ => ∀ k c n, rel k c n → c ≤ R.cells ∧ n ≤ R.slots
def relQ (K M : Nat) : Room → (Nat × Nat → Nat → Nat → Prop) → ((Nat → Nat) → Prop) → Prop := fun R rel AD => rel = relA K M ∧ K ≤ R.cells ∧ M ≤ R.slots ∧ ∀ ad q, AD ad → AD (va_up ad 99 q)
def EI (cc : ByteArray) (Q : Int → ST → Prop) (P : PT) : Prop := ∀ pc lv st S, decode cc pc = .ok (.ireturn, 1) → i_iret Q lv st S P → P pc lv st S
def EZ (cc : ByteArray) (Q : Int → ST → Prop) (P : PT) : Prop := ∀ pc lv st S, decode cc pc = .ok (.ireturn, 1) → i_zret Q lv st S P → P pc lv st S
def EJ (cc : ByteArray) (Q : Int64 → ST → Prop) (P : PT) : Prop := ∀ pc lv st S, decode cc pc = .ok (.lreturn, 1) → i_lret Q lv st S P → P pc lv st S
def ED (cc : ByteArray) (Q : UInt64 → ST → Prop) (P : PT) : Prop := ∀ pc lv st S, decode cc pc = .ok (.dreturn, 1) → i_dret Q lv st S P → P pc lv st S
def EV (cc : ByteArray) (Q : ST → Prop) (P : PT) : Prop := ∀ pc lv st S, decode cc pc = .ok (.return_, 1) → i_vret Q lv st S P → P pc lv st S
def XI (n : Nat) (T : (Int → ST → Prop) → (String → ST → Prop) → List (Nat × AI)) : RI := fun av S Q Qx => (lvA av).length ≤ n ∧ RR (T Q Qx) 0 (eLV n av) [] S
def XJ (n : Nat) (T : (Int64 → ST → Prop) → (String → ST → Prop) → List (Nat × AI)) : RJ := fun av S Q Qx => (lvA av).length ≤ n ∧ RR (T Q Qx) 0 (eLV n av) [] S
def XD (n : Nat) (T : (UInt64 → ST → Prop) → (String → ST → Prop) → List (Nat × AI)) : RD := fun av S Q Qx => (lvA av).length ≤ n ∧ RR (T Q Qx) 0 (eLV n av) [] S
def XV (n : Nat) (T : (ST → Prop) → (String → ST → Prop) → List (Nat × AI)) : RV := fun av S Q Qx => (lvA av).length ≤ n ∧ RR (T Q Qx) 0 (eLV n av) [] S
theorem nEI {cc : ByteArray} {P : PT} : EI cc (fun _ _ => False) P := by
  intro pc lv st S9 _ h
  rcases st with _ | ⟨v | v | v | v, _ | ⟨w9, r⟩⟩ <;> exact (show False from h).elim
theorem nEZ {cc : ByteArray} {P : PT} : EZ cc (fun _ _ => False) P := by
  intro pc lv st S9 _ h
  rcases st with _ | ⟨v | v | v | v, _ | ⟨w9, r⟩⟩ <;> first | exact (show False from h).elim | exact (show False from h.2).elim
theorem nEV {cc : ByteArray} {P : PT} : EV cc (fun _ => False) P := by
  intro pc lv st S9 _ h
  rcases st with _ | ⟨v, r⟩ <;> exact (show False from h).elim
section ASM
variable {ci : Nat} {ly : List Bool} {ja : List (Nat × Nat)} {C : String} {strs : List (Nat × String)} {y : MethodName} {ws ws' : List Cond} {rm : Room} {cc : ByteArray} {maxL Fr Lo : Nat}
theorem mk_I (T : (Int → ST → Prop) → (String → ST → Prop) → List (Nat × AI)) (hy : plainName y.cls = true) (hyc : y.cls = C) (hw : ws = Cond.code y cc maxL (some .int) :: ws') (hc0 : rm.cells = 0) (hs0 : rm.slots = 0) (hFr : Fr ≤ rm.frames) (hLo : Lo ≤ rm.locals) (hS : ∀ Q, SndT C strs ci ly ja cc maxL (some .int) ws Fr Lo nox (EI cc Q) relP (T Q nox)) : CtI ci ly ja y ws rm (XI maxL T) := by
  intro l D cA ad av S Q sz hX
  obtain ⟨hlen, hX⟩ := hX
  refine Met.ofW (cc := cc) (maxL := maxL) (ret := some .int) hy hw ?_
  intro p e s m args below meth c s₁ B hml hv
  obtain ⟨rfl, hsz, hP, hK, hD0⟩ := hv
  have hx := B.exec
  have hb := B.bytes
  have hr := B.returns
  have hts := atoms_spec (ws := ws) B.pre
  have hown : s.vm.findClass C = some m.cls := hyc ▸ findClass_of_methodNamed B.named
  have hlocks := B.notSynchronized
  subst hsz
  have hD := hD0.self (sz := s.heap.size)
  have hA : ∀ q : Nat, s.heap.size ≤ q → va_A (wdO cA ci ly ja ad S) s.heap.size q := fun q h => Or.inr h
  have hS0 : va_S (va_A (wdO cA ci ly ja ad S) s.heap.size) s.heap s.heap [] := va_S.rf
  have hl := lv_entry (av.map (conc ad)) (n := maxL) (by rw [lvA_len]; exact hlen)
  rw [lg_entry_eq]
  generalize (lg_sl (av.map (conc ad)) ++ List.replicate (maxL - (lg_sl (av.map (conc ad))).length) Slot.unset).toArray = ls at hl ⊢
  have key := hS Q p l e (headSpec ws rm).room s m _ below meth c _ D cA _ (fun a => a = ad) (fun k c n => k = S.2.2.2 ∧ c = 0 ∧ n = 0) ⟨⟨hx, hb, hml, hown, hts⟩, hlocks, hr⟩ hFr hLo hK hA (fun k c n h => ⟨by rw [h.2.1]; exact Nat.zero_le _, by rw [h.2.2]; exact Nat.zero_le _⟩) (Or.inl rfl) (s_iret (ad0 := ad) (k0 := S.2.2.2) hx hb hr hlocks hK rfl (fun a h => h) (fun k c n h => h))
  exact hX.elim (fun _ f => f _ (tab_closed key) ad rfl s.heap [] ls 0 0 ⟨rfl, rfl, rfl⟩ hP hD hS0 (eLV_LR hl))
theorem mk_Z (T : (Int → ST → Prop) → (String → ST → Prop) → List (Nat × AI)) (hy : plainName y.cls = true) (hyc : y.cls = C) (hw : ws = Cond.code y cc maxL (some .boolean) :: ws') (hc0 : rm.cells = 0) (hs0 : rm.slots = 0) (hFr : Fr ≤ rm.frames) (hLo : Lo ≤ rm.locals) (hS : ∀ Q, SndT C strs ci ly ja cc maxL (some .boolean) ws Fr Lo nox (EZ cc Q) relP (T Q nox)) : CtI ci ly ja y ws rm (XI maxL T) := by
  intro l D cA ad av S Q sz hX
  obtain ⟨hlen, hX⟩ := hX
  refine Met.ofW (cc := cc) (maxL := maxL) (ret := some .boolean) hy hw ?_
  intro p e s m args below meth c s₁ B hml hv
  obtain ⟨rfl, hsz, hP, hK, hD0⟩ := hv
  have hx := B.exec
  have hb := B.bytes
  have hr := B.returns
  have hts := atoms_spec (ws := ws) B.pre
  have hown : s.vm.findClass C = some m.cls := hyc ▸ findClass_of_methodNamed B.named
  have hlocks := B.notSynchronized
  subst hsz
  have hD := hD0.self (sz := s.heap.size)
  have hA : ∀ q : Nat, s.heap.size ≤ q → va_A (wdO cA ci ly ja ad S) s.heap.size q := fun q h => Or.inr h
  have hS0 : va_S (va_A (wdO cA ci ly ja ad S) s.heap.size) s.heap s.heap [] := va_S.rf
  have hl := lv_entry (av.map (conc ad)) (n := maxL) (by rw [lvA_len]; exact hlen)
  rw [lg_entry_eq]
  generalize (lg_sl (av.map (conc ad)) ++ List.replicate (maxL - (lg_sl (av.map (conc ad))).length) Slot.unset).toArray = ls at hl ⊢
  have key := hS Q p l e (headSpec ws rm).room s m _ below meth c _ D cA _ (fun a => a = ad) (fun k c n => k = S.2.2.2 ∧ c = 0 ∧ n = 0) ⟨⟨hx, hb, hml, hown, hts⟩, hlocks, hr⟩ hFr hLo hK hA (fun k c n h => ⟨by rw [h.2.1]; exact Nat.zero_le _, by rw [h.2.2]; exact Nat.zero_le _⟩) (Or.inl rfl) (s_zret (ad0 := ad) (k0 := S.2.2.2) hx hb hr hlocks hK rfl (fun a h => h) (fun k c n h => h))
  exact hX.elim (fun _ f => f _ (tab_closed key) ad rfl s.heap [] ls 0 0 ⟨rfl, rfl, rfl⟩ hP hD hS0 (eLV_LR hl))
theorem mk_J (T : (Int64 → ST → Prop) → (String → ST → Prop) → List (Nat × AI)) (hy : plainName y.cls = true) (hyc : y.cls = C) (hw : ws = Cond.code y cc maxL (some .long) :: ws') (hc0 : rm.cells = 0) (hs0 : rm.slots = 0) (hFr : Fr ≤ rm.frames) (hLo : Lo ≤ rm.locals) (hS : ∀ Q, SndT C strs ci ly ja cc maxL (some .long) ws Fr Lo nox (EJ cc Q) relP (T Q nox)) : CtJ ci ly ja y ws rm (XJ maxL T) := by
  intro l D cA ad av S Q sz hX
  obtain ⟨hlen, hX⟩ := hX
  refine Met.ofW (cc := cc) (maxL := maxL) (ret := some .long) hy hw ?_
  intro p e s m args below meth c s₁ B hml hv
  obtain ⟨rfl, hsz, hP, hK, hD0⟩ := hv
  have hx := B.exec
  have hb := B.bytes
  have hr := B.returns
  have hts := atoms_spec (ws := ws) B.pre
  have hown : s.vm.findClass C = some m.cls := hyc ▸ findClass_of_methodNamed B.named
  have hlocks := B.notSynchronized
  subst hsz
  have hD := hD0.self (sz := s.heap.size)
  have hA : ∀ q : Nat, s.heap.size ≤ q → va_A (wdO cA ci ly ja ad S) s.heap.size q := fun q h => Or.inr h
  have hS0 : va_S (va_A (wdO cA ci ly ja ad S) s.heap.size) s.heap s.heap [] := va_S.rf
  have hl := lv_entry (av.map (conc ad)) (n := maxL) (by rw [lvA_len]; exact hlen)
  rw [lg_entry_eq]
  generalize (lg_sl (av.map (conc ad)) ++ List.replicate (maxL - (lg_sl (av.map (conc ad))).length) Slot.unset).toArray = ls at hl ⊢
  have key := hS Q p l e (headSpec ws rm).room s m _ below meth c _ D cA _ (fun a => a = ad) (fun k c n => k = S.2.2.2 ∧ c = 0 ∧ n = 0) ⟨⟨hx, hb, hml, hown, hts⟩, hlocks, hr⟩ hFr hLo hK hA (fun k c n h => ⟨by rw [h.2.1]; exact Nat.zero_le _, by rw [h.2.2]; exact Nat.zero_le _⟩) (Or.inl rfl) (s_lret (ad0 := ad) (k0 := S.2.2.2) hx hb hr hlocks hK rfl (fun a h => h) (fun k c n h => h))
  exact hX.elim (fun _ f => f _ (tab_closed key) ad rfl s.heap [] ls 0 0 ⟨rfl, rfl, rfl⟩ hP hD hS0 (eLV_LR hl))
theorem mk_D (T : (UInt64 → ST → Prop) → (String → ST → Prop) → List (Nat × AI)) (hy : plainName y.cls = true) (hyc : y.cls = C) (hw : ws = Cond.code y cc maxL (some .double) :: ws') (hc0 : rm.cells = 0) (hs0 : rm.slots = 0) (hFr : Fr ≤ rm.frames) (hLo : Lo ≤ rm.locals) (hS : ∀ Q, SndT C strs ci ly ja cc maxL (some .double) ws Fr Lo nox (ED cc Q) relP (T Q nox)) : CtD ci ly ja y ws rm (XD maxL T) := by
  intro l D cA ad av S Q sz hX
  obtain ⟨hlen, hX⟩ := hX
  refine Met.ofW (cc := cc) (maxL := maxL) (ret := some .double) hy hw ?_
  intro p e s m args below meth c s₁ B hml hv
  obtain ⟨rfl, hsz, hP, hK, hD0⟩ := hv
  have hx := B.exec
  have hb := B.bytes
  have hr := B.returns
  have hts := atoms_spec (ws := ws) B.pre
  have hown : s.vm.findClass C = some m.cls := hyc ▸ findClass_of_methodNamed B.named
  have hlocks := B.notSynchronized
  subst hsz
  have hD := hD0.self (sz := s.heap.size)
  have hA : ∀ q : Nat, s.heap.size ≤ q → va_A (wdO cA ci ly ja ad S) s.heap.size q := fun q h => Or.inr h
  have hS0 : va_S (va_A (wdO cA ci ly ja ad S) s.heap.size) s.heap s.heap [] := va_S.rf
  have hl := lv_entry (av.map (conc ad)) (n := maxL) (by rw [lvA_len]; exact hlen)
  rw [lg_entry_eq]
  generalize (lg_sl (av.map (conc ad)) ++ List.replicate (maxL - (lg_sl (av.map (conc ad))).length) Slot.unset).toArray = ls at hl ⊢
  have key := hS Q p l e (headSpec ws rm).room s m _ below meth c _ D cA _ (fun a => a = ad) (fun k c n => k = S.2.2.2 ∧ c = 0 ∧ n = 0) ⟨⟨hx, hb, hml, hown, hts⟩, hlocks, hr⟩ hFr hLo hK hA (fun k c n h => ⟨by rw [h.2.1]; exact Nat.zero_le _, by rw [h.2.2]; exact Nat.zero_le _⟩) (Or.inl rfl) (s_dret (ad0 := ad) (k0 := S.2.2.2) hx hb hr hlocks hK rfl (fun a h => h) (fun k c n h => h))
  exact hX.elim (fun _ f => f _ (tab_closed key) ad rfl s.heap [] ls 0 0 ⟨rfl, rfl, rfl⟩ hP hD hS0 (eLV_LR hl))
theorem mk_V (T : (ST → Prop) → (String → ST → Prop) → List (Nat × AI)) (hy : plainName y.cls = true) (hyc : y.cls = C) (hw : ws = Cond.code y cc maxL (none) :: ws') (hc0 : rm.cells = 0) (hs0 : rm.slots = 0) (hFr : Fr ≤ rm.frames) (hLo : Lo ≤ rm.locals) (hS : ∀ Q, SndT C strs ci ly ja cc maxL (none) ws Fr Lo nox (EV cc Q) relP (T Q nox)) : CtV ci ly ja y ws rm (XV maxL T) := by
  intro l D cA ad av S Q sz hX
  obtain ⟨hlen, hX⟩ := hX
  refine Met.ofW (cc := cc) (maxL := maxL) (ret := none) hy hw ?_
  intro p e s m args below meth c s₁ B hml hv
  obtain ⟨rfl, hsz, hP, hK, hD0⟩ := hv
  have hx := B.exec
  have hb := B.bytes
  have hr := B.returns
  have hts := atoms_spec (ws := ws) B.pre
  have hown : s.vm.findClass C = some m.cls := hyc ▸ findClass_of_methodNamed B.named
  have hlocks := B.notSynchronized
  subst hsz
  have hD := hD0.self (sz := s.heap.size)
  have hA : ∀ q : Nat, s.heap.size ≤ q → va_A (wdO cA ci ly ja ad S) s.heap.size q := fun q h => Or.inr h
  have hS0 : va_S (va_A (wdO cA ci ly ja ad S) s.heap.size) s.heap s.heap [] := va_S.rf
  have hl := lv_entry (av.map (conc ad)) (n := maxL) (by rw [lvA_len]; exact hlen)
  rw [lg_entry_eq]
  generalize (lg_sl (av.map (conc ad)) ++ List.replicate (maxL - (lg_sl (av.map (conc ad))).length) Slot.unset).toArray = ls at hl ⊢
  have key := hS Q p l e (headSpec ws rm).room s m _ below meth c _ D cA _ (fun a => a = ad) (fun k c n => k = S.2.2.2 ∧ c = 0 ∧ n = 0) ⟨⟨hx, hb, hml, hown, hts⟩, hlocks, hr⟩ hFr hLo hK hA (fun k c n h => ⟨by rw [h.2.1]; exact Nat.zero_le _, by rw [h.2.2]; exact Nat.zero_le _⟩) (Or.inl rfl) (s_vret (ad0 := ad) (k0 := S.2.2.2) hx hb hr hlocks hK rfl (fun a h => h) (fun k c n h => h))
  exact hX.elim (fun _ f => f _ (tab_closed key) ad rfl s.heap [] ls 0 0 ⟨rfl, rfl, rfl⟩ hP hD hS0 (eLV_LR hl))
theorem mk_Ia {K M : Nat} (T : (Int → ST → Prop) → (String → ST → Prop) → List (Nat × AI)) (hy : plainName y.cls = true) (hyc : y.cls = C) (hw : ws = Cond.code y cc maxL (some .int) :: ws') (hc0 : K ≤ rm.cells) (hs0 : M ≤ rm.slots) (hFr : Fr ≤ rm.frames) (hLo : Lo ≤ rm.locals) (hly9 : ly.length ≤ 99) (hja : ∀ z ∈ ja, z.1 < 99) (hS : ∀ Q, SndT C strs ci ly ja cc maxL (some .int) ws Fr Lo nox (EI cc Q) (relQ K M) (T Q nox)) : CtAI ci ly ja y ws rm K M (XI maxL T) := by
  intro l D cA ad av S Q sz hX
  obtain ⟨hlen, hX⟩ := hX
  refine Met.ofW (cc := cc) (maxL := maxL) (ret := some .int) hy hw ?_
  intro p e s m args below meth c s₁ B hml hv
  obtain ⟨rfl, hsz, hP, hK, hD0⟩ := hv
  have hx := B.exec
  have hb := B.bytes
  have hr := B.returns
  have hts := atoms_spec (ws := ws) B.pre
  have hown : s.vm.findClass C = some m.cls := hyc ▸ findClass_of_methodNamed B.named
  have hlocks := B.notSynchronized
  subst hsz
  have hD := hD0.self (sz := s.heap.size)
  have hA : ∀ q : Nat, s.heap.size ≤ q → va_A (wdO cA ci ly ja ad (cut0 S)) s.heap.size q := fun q h => Or.inr h
  have hS0 : va_S (va_A (wdO cA ci ly ja ad (cut0 S)) s.heap.size) s.heap s.heap [] := va_S.rf
  have hl := lv_entry (av.map (conc ad)) (n := maxL) (by rw [lvA_len]; exact hlen)
  rw [lg_entry_eq]
  generalize (lg_sl (av.map (conc ad)) ++ List.replicate (maxL - (lg_sl (av.map (conc ad))).length) Slot.unset).toArray = ls at hl ⊢
  have key := hS Q p l e (headSpec ws rm).room s m _ below meth c _ D cA _ (fun a => ∀ k, k < 99 → a k = ad k) (relA K M) ⟨⟨hx, hb, hml, hown, hts⟩, hlocks, hr⟩ hFr hLo hK hA ⟨rfl, hc0, hs0, fun a q h k hk => by rw [← h k hk]; simp [va_up]; omega⟩ (Or.inl rfl) (s_ireta (ad0 := ad) hx hb hr hlocks hK rfl (fun a h => h) rfl hly9 hja)
  exact hX.elim (fun _ f => f _ (tab_closed key) ad (fun _ _ => rfl) s.heap [] ls 0 0 ⟨rfl, rfl, Nat.zero_le _, Nat.zero_le _⟩ hP hD hS0 (eLV_LR hl))
theorem mk_Ja {K M : Nat} (T : (Int64 → ST → Prop) → (String → ST → Prop) → List (Nat × AI)) (hy : plainName y.cls = true) (hyc : y.cls = C) (hw : ws = Cond.code y cc maxL (some .long) :: ws') (hc0 : K ≤ rm.cells) (hs0 : M ≤ rm.slots) (hFr : Fr ≤ rm.frames) (hLo : Lo ≤ rm.locals) (hly9 : ly.length ≤ 99) (hja : ∀ z ∈ ja, z.1 < 99) (hS : ∀ Q, SndT C strs ci ly ja cc maxL (some .long) ws Fr Lo nox (EJ cc Q) (relQ K M) (T Q nox)) : CtAJ ci ly ja y ws rm K M (XJ maxL T) := by
  intro l D cA ad av S Q sz hX
  obtain ⟨hlen, hX⟩ := hX
  refine Met.ofW (cc := cc) (maxL := maxL) (ret := some .long) hy hw ?_
  intro p e s m args below meth c s₁ B hml hv
  obtain ⟨rfl, hsz, hP, hK, hD0⟩ := hv
  have hx := B.exec
  have hb := B.bytes
  have hr := B.returns
  have hts := atoms_spec (ws := ws) B.pre
  have hown : s.vm.findClass C = some m.cls := hyc ▸ findClass_of_methodNamed B.named
  have hlocks := B.notSynchronized
  subst hsz
  have hD := hD0.self (sz := s.heap.size)
  have hA : ∀ q : Nat, s.heap.size ≤ q → va_A (wdO cA ci ly ja ad (cut0 S)) s.heap.size q := fun q h => Or.inr h
  have hS0 : va_S (va_A (wdO cA ci ly ja ad (cut0 S)) s.heap.size) s.heap s.heap [] := va_S.rf
  have hl := lv_entry (av.map (conc ad)) (n := maxL) (by rw [lvA_len]; exact hlen)
  rw [lg_entry_eq]
  generalize (lg_sl (av.map (conc ad)) ++ List.replicate (maxL - (lg_sl (av.map (conc ad))).length) Slot.unset).toArray = ls at hl ⊢
  have key := hS Q p l e (headSpec ws rm).room s m _ below meth c _ D cA _ (fun a => ∀ k, k < 99 → a k = ad k) (relA K M) ⟨⟨hx, hb, hml, hown, hts⟩, hlocks, hr⟩ hFr hLo hK hA ⟨rfl, hc0, hs0, fun a q h k hk => by rw [← h k hk]; simp [va_up]; omega⟩ (Or.inl rfl) (s_lreta (ad0 := ad) hx hb hr hlocks hK rfl (fun a h => h) rfl hly9 hja)
  exact hX.elim (fun _ f => f _ (tab_closed key) ad (fun _ _ => rfl) s.heap [] ls 0 0 ⟨rfl, rfl, Nat.zero_le _, Nat.zero_le _⟩ hP hD hS0 (eLV_LR hl))
theorem mk_Da {K M : Nat} (T : (UInt64 → ST → Prop) → (String → ST → Prop) → List (Nat × AI)) (hy : plainName y.cls = true) (hyc : y.cls = C) (hw : ws = Cond.code y cc maxL (some .double) :: ws') (hc0 : K ≤ rm.cells) (hs0 : M ≤ rm.slots) (hFr : Fr ≤ rm.frames) (hLo : Lo ≤ rm.locals) (hly9 : ly.length ≤ 99) (hja : ∀ z ∈ ja, z.1 < 99) (hS : ∀ Q, SndT C strs ci ly ja cc maxL (some .double) ws Fr Lo nox (ED cc Q) (relQ K M) (T Q nox)) : CtAD ci ly ja y ws rm K M (XD maxL T) := by
  intro l D cA ad av S Q sz hX
  obtain ⟨hlen, hX⟩ := hX
  refine Met.ofW (cc := cc) (maxL := maxL) (ret := some .double) hy hw ?_
  intro p e s m args below meth c s₁ B hml hv
  obtain ⟨rfl, hsz, hP, hK, hD0⟩ := hv
  have hx := B.exec
  have hb := B.bytes
  have hr := B.returns
  have hts := atoms_spec (ws := ws) B.pre
  have hown : s.vm.findClass C = some m.cls := hyc ▸ findClass_of_methodNamed B.named
  have hlocks := B.notSynchronized
  subst hsz
  have hD := hD0.self (sz := s.heap.size)
  have hA : ∀ q : Nat, s.heap.size ≤ q → va_A (wdO cA ci ly ja ad (cut0 S)) s.heap.size q := fun q h => Or.inr h
  have hS0 : va_S (va_A (wdO cA ci ly ja ad (cut0 S)) s.heap.size) s.heap s.heap [] := va_S.rf
  have hl := lv_entry (av.map (conc ad)) (n := maxL) (by rw [lvA_len]; exact hlen)
  rw [lg_entry_eq]
  generalize (lg_sl (av.map (conc ad)) ++ List.replicate (maxL - (lg_sl (av.map (conc ad))).length) Slot.unset).toArray = ls at hl ⊢
  have key := hS Q p l e (headSpec ws rm).room s m _ below meth c _ D cA _ (fun a => ∀ k, k < 99 → a k = ad k) (relA K M) ⟨⟨hx, hb, hml, hown, hts⟩, hlocks, hr⟩ hFr hLo hK hA ⟨rfl, hc0, hs0, fun a q h k hk => by rw [← h k hk]; simp [va_up]; omega⟩ (Or.inl rfl) (s_dreta (ad0 := ad) hx hb hr hlocks hK rfl (fun a h => h) rfl hly9 hja)
  exact hX.elim (fun _ f => f _ (tab_closed key) ad (fun _ _ => rfl) s.heap [] ls 0 0 ⟨rfl, rfl, Nat.zero_le _, Nat.zero_le _⟩ hP hD hS0 (eLV_LR hl))
theorem mk_Ix (T : (Int → ST → Prop) → (String → ST → Prop) → List (Nat × AI)) (hy : plainName y.cls = true) (hyc : y.cls = C) (hw : ws = Cond.code y cc maxL (some .int) :: ws') (hc0 : rm.cells = 1) (hs0 : rm.slots = 6) (hFr : Fr ≤ rm.frames) (hLo : Lo ≤ rm.locals) (hFr6 : 6 ≤ rm.frames) (hLo82 : 82 ≤ rm.locals) (hS : ∀ Qx, SndT C strs ci ly ja cc maxL (some .int) ws Fr Lo Qx (EI cc (fun _ _ => False)) relP (T (fun _ _ => False) Qx)) : CtXI C strs ci ly ja y ws rm (XI maxL T) := by
  intro l hlt D cA ad av S Q sz hX
  obtain ⟨hlen, hX⟩ := hX
  refine vx_ofW (cc := cc) (maxL := maxL) (ret := some .int) hy hw ?_
  intro p e s m args below meth c s₁ B hml hnt hv
  obtain ⟨rfl, ⟨hsz, hP, hK, hD0⟩, hXE⟩ := hv
  have hx := B.exec
  have hb := B.bytes
  have hr := B.returns
  have hts := atoms_spec (ws := ws) B.pre
  have hown : s.vm.findClass C = some m.cls := hyc ▸ findClass_of_methodNamed B.named
  have hlocks := B.notSynchronized
  subst hsz
  have hD := hD0.self (sz := s.heap.size)
  have hA : ∀ q : Nat, s.heap.size ≤ q → va_A (wdO cA ci ly ja ad S) s.heap.size q := fun q h => Or.inr h
  have hS0 : va_S (va_A (wdO cA ci ly ja ad S) s.heap.size) s.heap s.heap [] := va_S.rf
  have hl := lv_entry (av.map (conc ad)) (n := maxL) (by rw [lvA_len]; exact hlen)
  rw [lg_entry_eq]
  generalize (lg_sl (av.map (conc ad)) ++ List.replicate (maxL - (lg_sl (av.map (conc ad))).length) Slot.unset).toArray = ls at hl ⊢
  have key := hS Q p l e (headSpec ws rm).room s m _ below meth c _ D cA _ (fun a => a = ad) (fun k c n => k = S.2.2.2 ∧ c = 0 ∧ n = 0) ⟨⟨hx, hb, hml, hown, hts⟩, hlocks, hr⟩ hFr hLo hK hA (fun k c n h => ⟨by rw [h.2.1]; exact Nat.zero_le _, by rw [h.2.2]; exact Nat.zero_le _⟩) (Or.inr ⟨ad, S.2.2.2, (va_Qi (fun (_ : Int32) (_ : ST) => False) (AtW D cA ci ly ja ad (va_A (wdO cA ci ly ja ad S) s.heap.size)) (va_A (wdO cA ci ly ja ad S) s.heap.size)), rfl, fun a h => h, fun k c n h => h, hXE, hnt, hlt, hlocks, hFr6, hLo82, Nat.le_of_eq hc0.symm, Nat.le_of_eq hs0.symm⟩) (nEI)
  exact hX.elim (fun _ f => f _ (tab_closed key) ad rfl s.heap [] ls 0 0 ⟨rfl, rfl, rfl⟩ hP hD hS0 (eLV_LR hl))
theorem mk_Zx (T : (Int → ST → Prop) → (String → ST → Prop) → List (Nat × AI)) (hy : plainName y.cls = true) (hyc : y.cls = C) (hw : ws = Cond.code y cc maxL (some .boolean) :: ws') (hc0 : rm.cells = 1) (hs0 : rm.slots = 6) (hFr : Fr ≤ rm.frames) (hLo : Lo ≤ rm.locals) (hFr6 : 6 ≤ rm.frames) (hLo82 : 82 ≤ rm.locals) (hS : ∀ Qx, SndT C strs ci ly ja cc maxL (some .boolean) ws Fr Lo Qx (EZ cc (fun _ _ => False)) relP (T (fun _ _ => False) Qx)) : CtXI C strs ci ly ja y ws rm (XI maxL T) := by
  intro l hlt D cA ad av S Q sz hX
  obtain ⟨hlen, hX⟩ := hX
  refine vx_ofW (cc := cc) (maxL := maxL) (ret := some .boolean) hy hw ?_
  intro p e s m args below meth c s₁ B hml hnt hv
  obtain ⟨rfl, ⟨hsz, hP, hK, hD0⟩, hXE⟩ := hv
  have hx := B.exec
  have hb := B.bytes
  have hr := B.returns
  have hts := atoms_spec (ws := ws) B.pre
  have hown : s.vm.findClass C = some m.cls := hyc ▸ findClass_of_methodNamed B.named
  have hlocks := B.notSynchronized
  subst hsz
  have hD := hD0.self (sz := s.heap.size)
  have hA : ∀ q : Nat, s.heap.size ≤ q → va_A (wdO cA ci ly ja ad S) s.heap.size q := fun q h => Or.inr h
  have hS0 : va_S (va_A (wdO cA ci ly ja ad S) s.heap.size) s.heap s.heap [] := va_S.rf
  have hl := lv_entry (av.map (conc ad)) (n := maxL) (by rw [lvA_len]; exact hlen)
  rw [lg_entry_eq]
  generalize (lg_sl (av.map (conc ad)) ++ List.replicate (maxL - (lg_sl (av.map (conc ad))).length) Slot.unset).toArray = ls at hl ⊢
  have key := hS Q p l e (headSpec ws rm).room s m _ below meth c _ D cA _ (fun a => a = ad) (fun k c n => k = S.2.2.2 ∧ c = 0 ∧ n = 0) ⟨⟨hx, hb, hml, hown, hts⟩, hlocks, hr⟩ hFr hLo hK hA (fun k c n h => ⟨by rw [h.2.1]; exact Nat.zero_le _, by rw [h.2.2]; exact Nat.zero_le _⟩) (Or.inr ⟨ad, S.2.2.2, (va_Qi (fun (_ : Int32) (_ : ST) => False) (AtW D cA ci ly ja ad (va_A (wdO cA ci ly ja ad S) s.heap.size)) (va_A (wdO cA ci ly ja ad S) s.heap.size)), rfl, fun a h => h, fun k c n h => h, hXE, hnt, hlt, hlocks, hFr6, hLo82, Nat.le_of_eq hc0.symm, Nat.le_of_eq hs0.symm⟩) (nEZ)
  exact hX.elim (fun _ f => f _ (tab_closed key) ad rfl s.heap [] ls 0 0 ⟨rfl, rfl, rfl⟩ hP hD hS0 (eLV_LR hl))
theorem mk_Vx (T : (ST → Prop) → (String → ST → Prop) → List (Nat × AI)) (hy : plainName y.cls = true) (hyc : y.cls = C) (hw : ws = Cond.code y cc maxL (none) :: ws') (hc0 : rm.cells = 1) (hs0 : rm.slots = 6) (hFr : Fr ≤ rm.frames) (hLo : Lo ≤ rm.locals) (hFr6 : 6 ≤ rm.frames) (hLo82 : 82 ≤ rm.locals) (hS : ∀ Qx, SndT C strs ci ly ja cc maxL (none) ws Fr Lo Qx (EV cc (fun _ => False)) relP (T (fun _ => False) Qx)) : CtXV C strs ci ly ja y ws rm (XV maxL T) := by
  intro l hlt D cA ad av S Q sz hX
  obtain ⟨hlen, hX⟩ := hX
  refine vx_ofW (cc := cc) (maxL := maxL) (ret := none) hy hw ?_
  intro p e s m args below meth c s₁ B hml hnt hv
  obtain ⟨rfl, ⟨hsz, hP, hK, hD0⟩, hXE⟩ := hv
  have hx := B.exec
  have hb := B.bytes
  have hr := B.returns
  have hts := atoms_spec (ws := ws) B.pre
  have hown : s.vm.findClass C = some m.cls := hyc ▸ findClass_of_methodNamed B.named
  have hlocks := B.notSynchronized
  subst hsz
  have hD := hD0.self (sz := s.heap.size)
  have hA : ∀ q : Nat, s.heap.size ≤ q → va_A (wdO cA ci ly ja ad S) s.heap.size q := fun q h => Or.inr h
  have hS0 : va_S (va_A (wdO cA ci ly ja ad S) s.heap.size) s.heap s.heap [] := va_S.rf
  have hl := lv_entry (av.map (conc ad)) (n := maxL) (by rw [lvA_len]; exact hlen)
  rw [lg_entry_eq]
  generalize (lg_sl (av.map (conc ad)) ++ List.replicate (maxL - (lg_sl (av.map (conc ad))).length) Slot.unset).toArray = ls at hl ⊢
  have key := hS Q p l e (headSpec ws rm).room s m _ below meth c _ D cA _ (fun a => a = ad) (fun k c n => k = S.2.2.2 ∧ c = 0 ∧ n = 0) ⟨⟨hx, hb, hml, hown, hts⟩, hlocks, hr⟩ hFr hLo hK hA (fun k c n h => ⟨by rw [h.2.1]; exact Nat.zero_le _, by rw [h.2.2]; exact Nat.zero_le _⟩) (Or.inr ⟨ad, S.2.2.2, (va_Qv (fun (_ : ST) => False) (AtW D cA ci ly ja ad (va_A (wdO cA ci ly ja ad S) s.heap.size)) (va_A (wdO cA ci ly ja ad S) s.heap.size)), rfl, fun a h => h, fun k c n h => h, hXE, hnt, hlt, hlocks, hFr6, hLo82, Nat.le_of_eq hc0.symm, Nat.le_of_eq hs0.symm⟩) (nEV)
  exact hX.elim (fun _ f => f _ (tab_closed key) ad rfl s.heap [] ls 0 0 ⟨rfl, rfl, rfl⟩ hP hD hS0 (eLV_LR hl))
end ASM
