/-! THE OPERATIONS OVER THE MACHINE: what the heap holds for an abstract state, and each operation's law -/
theorem iI_add (a b : Int) : iI a + iI b = iI (a + b) := (Int32.ofInt_add a b).symm
theorem iI_sub (a b : Int) : iI a - iI b = iI (a - b) := (Int32.ofInt_sub a b).symm
theorem iI_mul (a b : Int) : iI a * iI b = iI (a * b) := (Int32.ofInt_mul a b).symm
theorem iI_toInt {a : Int} (h : rng a) : (iI a).toInt = a := Int32.toInt_ofInt_of_le (by have := h.1; omega) (by have := h.2; omega)
theorem iI_lt {a b : Int} (ha : rng a) (hb : rng b) : iI a < iI b ↔ a < b := by rw [Int32.lt_iff_toInt_lt, iI_toInt ha, iI_toInt hb]
theorem iI_le {a b : Int} (ha : rng a) (hb : rng b) : iI a ≤ iI b ↔ a ≤ b := by rw [Int32.le_iff_toInt_le, iI_toInt ha, iI_toInt hb]
theorem iI_eq {a b : Int} (ha : rng a) (hb : rng b) : iI a = iI b ↔ a = b := by
  refine ⟨fun h => ?_, fun h => by rw [h]⟩
  rw [← iI_toInt ha, ← iI_toInt hb, h]
theorem rng0 : rng 0 := ⟨by decide, by decide⟩
theorem iI_0 : iI 0 = 0 := by decide
theorem iI_in {a : Int} {n : Nat} (h0 : 0 ≤ a) (h1 : a < n) (hn : n ≤ 2000) : vp_in (iI a) n := vp_in_iff.mpr (by rw [iI_toInt ⟨by omega, by omega⟩]; exact ⟨h0, h1⟩)
theorem iI_cl {a : Int} (h0 : 0 ≤ a) (h1 : a < 2147483648) : (iI a).toNatClampNeg = a.toNat := by
  have h : (iI a).toInt = a := iI_toInt ⟨by omega, by omega⟩
  show (iI a).toInt.toNat = a.toNat
  rw [h]
theorem iI_div {a b : Int} (ha : 0 ≤ a ∧ a < 2147483648) (hb : 0 < b ∧ b < 2147483648) : iI a / iI b = iI (a / b) := by
  have h2 : a / b ≤ a := Int.ediv_le_self b ha.1
  have h3 : 0 ≤ a / b := Int.ediv_nonneg ha.1 (by omega)
  have e1 : (iI a).toInt = a := iI_toInt ⟨by omega, by omega⟩
  have e2 : (iI b).toInt = b := iI_toInt ⟨by omega, by omega⟩
  have e3 : (iI (a / b)).toInt = a / b := iI_toInt ⟨by omega, by omega⟩
  have h9 : (-1 : Int32).toInt = -1 := by decide
  have hne : iI b ≠ -1 := by
    intro h
    have := congrArg Int32.toInt h
    rw [e2, h9] at this
    omega
  rw [← Int32.toInt_inj, Int32.toInt_div_of_ne_right _ _ hne, e1, e2, e3, Int.tdiv_eq_ediv_of_nonneg ha.1]
theorem iI_ne0 {b : Int} (hb : 0 < b ∧ b < 2147483648) : ¬ iI b = 0 := by
  intro h
  rw [← iI_0] at h
  have := (iI_eq (a := b) (b := 0) ⟨by omega, by omega⟩ rng0).mp h
  omega
theorem iI_rem {a b : Int} (ha : 0 ≤ a ∧ a < 2147483648) (hb : 0 < b ∧ b < 2147483648) : iI a - iI a / iI b * iI b = iI (a % b) := by
  rw [iI_div ha hb, iI_mul, iI_sub]
  congr 1
  have := Int.emod_add_mul_ediv a b
  rw [Int.mul_comm] at this
  omega
/-- what an abstract value is: an object or row by its number's address -/
def conc (ad : Nat → Nat) : AV → Value
  | .inl a => .int (iI a)
  | .inr (.inl x) => .long x
  | .inr (.inr (.inl d)) => .double d
  | .inr (.inr (.inr k)) => .ref (ad k)
theorem lget_lt {lv : LV} {i : Nat} {v : AV} (h : lget lv i = some v) : i < lv.length := by
  rcases Nat.lt_or_ge i lv.length with q | q
  · exact q
  · unfold lget at h
    rw [List.getElem?_eq_none q] at h
    cases h
def LR (ad : Nat → Nat) (nL : Nat) (lv : LV) (ls : Array Slot) : Prop := ls.size = nL ∧ lv_wf ls ∧ ∀ (i : Nat) (v : AV), lget lv i = some v → ls[i]? = some (.val (conc ad v))
def prs (ad : Nat → Nat) (lv : LV) : List (Nat × Value) := (List.range lv.length).filterMap (fun i => (lget lv i).map (fun v => (i, conc ad v)))
theorem mem_prs {ad : Nat → Nat} {lv : LV} {q : Nat × Value} : q ∈ prs ad lv ↔ ∃ v, lget lv q.1 = some v ∧ q.2 = conc ad v := by
  unfold prs
  rw [List.mem_filterMap]
  constructor
  · rintro ⟨i, -, h⟩
    cases hv : lget lv i with
    | none => rw [hv] at h; cases h
    | some v =>
      rw [hv] at h
      cases h
      exact ⟨v, hv, rfl⟩
  · rintro ⟨v, h1, h2⟩
    refine ⟨q.1, List.mem_range.mpr (lget_lt h1), ?_⟩
    rw [h1, Option.map_some, ← h2]
theorem LR.has {ad : Nat → Nat} {nL : Nat} {lv : LV} {ls : Array Slot} (h : LR ad nL lv ls) : lv_has ls nL (prs ad lv) := by
  refine ⟨h.1, h.2.1, fun q hq => ?_⟩
  obtain ⟨v, h1, h2⟩ := mem_prs.mp hq
  rw [h2]
  exact h.2.2 _ _ h1
theorem lget_lset {lv : LV} {i : Nat} {v w : AV} {j : Nat} (h : lget (lset lv i v) j = some w) : (j = i ∧ w = v) ∨ (j ≠ i ∧ lget lv j = some w) := by
  unfold lset lget at h
  rw [List.getElem?_set] at h
  by_cases hj : i = j
  · subst hj
    rw [if_pos rfl] at h
    by_cases hl : i < lv.length
    · rw [if_pos hl] at h
      exact Or.inl ⟨rfl, (Option.some.inj h).symm⟩
    · rw [if_neg hl] at h
      cases h
  · rw [if_neg hj] at h
    exact Or.inr ⟨fun q => hj q.symm, h⟩
theorem lget_lset2 {lv : LV} {i : Nat} {v w : AV} {j : Nat} (h : lget (lset2 lv i v) j = some w) : (j = i ∧ w = v) ∨ (j ≠ i ∧ j ≠ i + 1 ∧ lget lv j = some w) := by
  unfold lset2 at h
  have h1 : j ≠ i + 1 := by
    intro q
    subst q
    unfold lget at h
    rw [List.getElem?_set] at h
    by_cases hl : i + 1 < (lv.set i (some v)).length
    · rw [if_pos rfl, if_pos hl] at h; cases h
    · rw [if_pos rfl, if_neg hl] at h; cases h
  have h2 : lget (lset lv i v) j = some w := by
    unfold lset
    unfold lget at h ⊢
    rw [List.getElem?_set_ne (fun q => h1 q.symm)] at h
    exact h
  rcases lget_lset h2 with q | q
  · exact Or.inl q
  · exact Or.inr ⟨q.1, h1, q.2⟩
theorem cat_ok {ad : Nat → Nat} {v : AV} (h : ok1 (some v)) : (conc ad v).category = 1 := by
  rcases v with a | x | d | k
  · rfl
  · exact h.elim
  · exact h.elim
  · rfl
theorem LR.st1 {ad : Nat → Nat} {nL : Nat} {lv : LV} {ls' : Array Slot} {i : Nat} {v : AV} (hok : lok lv i) (h : lv_has ls' nL ((i, conc ad v) :: (prs ad lv).filter (fun q => !(q.1 == i) && !(q.1 + 1 == i && q.2.category == 2)))) : LR ad nL (lset lv i v) ls' := by
  refine ⟨h.1, h.2.1, fun j w hj => ?_⟩
  rcases lget_lset hj with ⟨rfl, rfl⟩ | ⟨hne, hg⟩
  · exact h.2.2 _ List.mem_cons_self
  · refine h.2.2 (j, conc ad w) (List.mem_cons_of_mem _ (List.mem_filter.mpr ⟨mem_prs.mpr ⟨w, hg, rfl⟩, ?_⟩))
    have h1 : (j == i) = false := by simpa using hne
    by_cases hji : j + 1 = i
    · subst hji
      have hc := cat_ok (ad := ad) (v := w) (by rw [← hg]; exact hok)
      simp [h1, hc]
    · simp [h1, hji]
theorem LR.st2 {ad : Nat → Nat} {nL : Nat} {lv : LV} {ls' : Array Slot} {i : Nat} {v : AV} (hok : lok lv i) (h : lv_has ls' nL ((i, conc ad v) :: (prs ad lv).filter (fun q => !(q.1 == i) && (!(q.1 == i + 1) && !(q.1 + 1 == i && q.2.category == 2))))) : LR ad nL (lset2 lv i v) ls' := by
  refine ⟨h.1, h.2.1, fun j w hj => ?_⟩
  rcases lget_lset2 hj with ⟨rfl, rfl⟩ | ⟨hne, hne2, hg⟩
  · exact h.2.2 _ List.mem_cons_self
  · refine h.2.2 (j, conc ad w) (List.mem_cons_of_mem _ (List.mem_filter.mpr ⟨mem_prs.mpr ⟨w, hg, rfl⟩, ?_⟩))
    have h1 : (j == i) = false := by simpa using hne
    have h2 : (j == i + 1) = false := by simpa using hne2
    by_cases hji : j + 1 = i
    · subst hji
      have hc := cat_ok (ad := ad) (v := w) (by rw [← hg]; exact hok)
      simp [hc]
      omega
    · simp [h1, h2, hji]
/-- an int where it stands: nothing of two words just below -/
theorem LR.lok {ad : Nat → Nat} {nL : Nat} {lv : LV} {ls : Array Slot} (h : LR ad nL lv ls) {i : Nat} {u : AV} (hu : lget lv i = some u) : lok lv i := by
  cases i with
  | zero => trivial
  | succ i =>
    show ok1 (lget lv i)
    cases hg : lget lv i with
    | none => trivial
    | some w =>
      have h1 := h.2.2 _ _ hu
      have h2 := h.2.2 _ _ hg
      rcases w with a | x | d | k
      · trivial
      · have h3 := h.2.1.1 i _ h2 rfl
        rw [h1] at h3; cases h3
      · have h3 := h.2.1.1 i _ h2 rfl
        rw [h1] at h3; cases h3
      · trivial
/-! the world: the object, its rows, the row made meanwhile -/
def tw (cA : ClassId) (ad : Nat → Nat) (S : ST) : va_W := match S.2.2.1 with
  | none => []
  | some q => [(ad 99, .inl (cA, q.1, .inl (fun i => iI (q.2 i))))]
def o_f (ad : Nat → Nat) (S : ST) (ly : List Bool) : List Value := ly.mapIdx (fun j b => bif b then .ref (ad j) else .int (iI (fF S j)))
def o_r (cA : ClassId) (ad : Nat → Nat) (S : ST) (q : Nat × Nat) : Nat × va_E := (ad q.1, .inl (cA, q.2, .inl (fun i => iI (gA S q.1 i))))
def wdO (cA : ClassId) (ci : Nat) (ly : List Bool) (ja : List (Nat × Nat)) (ad : Nat → Nat) (S : ST) : va_W := (ad 0, .inr (ci, o_f ad S ly)) :: (ja.map (o_r cA ad S) ++ tw cA ad S)
theorem o_f_get {ad : Nat → Nat} {S : ST} {ly : List Bool} {k : Nat} {b : Bool} (h : ly[k]? = some b) : (o_f ad S ly)[k]? = some (bif b then .ref (ad k) else .int (iI (fF S k))) := by
  unfold o_f
  rw [List.getElem?_mapIdx, h]
  rfl
theorem o_f_set {ad : Nat → Nat} {S : ST} {ly : List Bool} {k : Nat} {v : Int} (h : ly[k]? = some false) : (o_f ad S ly).set k (.int (iI v)) = o_f ad (pF S k v) ly := by
  unfold o_f
  apply List.ext_getElem?
  intro i
  rw [List.getElem?_set]
  simp only [List.getElem?_mapIdx]
  by_cases hi : k = i
  · subst hi
    rw [if_pos rfl, h, if_pos (by rw [List.length_mapIdx]; exact (List.getElem?_eq_some_iff.mp h).1)]
    simp [fF, pF]
  · rw [if_neg hi]
    cases ly[i]? with
    | none => rfl
    | some b => cases b <;> simp [fF, pF, Ne.symm hi]
theorem o_r_keep {cA : ClassId} {ad : Nat → Nat} {S : ST} {k i : Nat} {v : Int} {q : Nat × Nat} (h : q.1 ≠ k) : o_r cA ad (pA S k i v) q = o_r cA ad S q := by
  unfold o_r
  have : (fun i' => iI (gA (pA S k i v) q.1 i')) = fun i' => iI (gA S q.1 i') := by
    funext i'
    simp [gA, pA, h]
  rw [this]
theorem o_r_set {cA : ClassId} {ad : Nat → Nat} {S : ST} {i : Nat} {v : Int} {q : Nat × Nat} : o_r cA ad (pA S q.1 i v) q = (ad q.1, .inl (cA, q.2, .inl (upd (fun i => iI (gA S q.1 i)) i (iI v)))) := by
  unfold o_r
  have : (fun i' => iI (gA (pA S q.1 i v) q.1 i')) = upd (fun i => iI (gA S q.1 i)) i (iI v) := by
    funext i'
    by_cases h : i' = i <;> simp [gA, pA, upd, h]
  rw [this]
theorem wd_set {cA : ClassId} {ci : Nat} {ly : List Bool} {ja : List (Nat × Nat)} {ad : Nat → Nat} {S : ST} {t k n i : Nat} {v : Int} (ht : ja[t]? = some (k, n)) (hu : ∀ (a b : Nat) (q q' : Nat × Nat), ja[a]? = some q → ja[b]? = some q' → q.1 = q'.1 → a = b) :
    (wdO cA ci ly ja ad S).set (t + 1) (ad k, .inl (cA, n, .inl (upd (fun i => iI (gA S k i)) i (iI v)))) = wdO cA ci ly ja ad (pA S k i v) := by
  unfold wdO
  rw [List.set_cons_succ, List.set_append_left _ _ (by rw [List.length_map]; exact (List.getElem?_eq_some_iff.mp ht).1)]
  congr 2
  apply List.ext_getElem?
  intro j
  rw [List.getElem?_set]
  simp only [List.getElem?_map]
  by_cases hj : t = j
  · subst hj
    rw [if_pos rfl, if_pos (by rw [List.length_map]; exact (List.getElem?_eq_some_iff.mp ht).1), ht]
    exact congrArg some (o_r_set (q := (k, n))).symm
  · rw [if_neg hj]
    cases hq : ja[j]? with
    | none => rfl
    | some q => exact congrArg some (o_r_keep (fun e => hj (hu t j (k, n) q ht hq e.symm))).symm
theorem wd_get {cA : ClassId} {ci : Nat} {ly : List Bool} {ja : List (Nat × Nat)} {ad : Nat → Nat} {S : ST} {t k n : Nat} (ht : ja[t]? = some (k, n)) : (wdO cA ci ly ja ad S)[t + 1]? = some (ad k, .inl (cA, n, .inl (fun i => iI (gA S k i)))) := by
  unfold wdO
  rw [List.getElem?_cons_succ, List.getElem?_append_left (by rw [List.length_map]; exact (List.getElem?_eq_some_iff.mp ht).1), List.getElem?_map, ht]
  rfl
theorem wd_tget {cA : ClassId} {ci : Nat} {ly : List Bool} {ja : List (Nat × Nat)} {ad : Nat → Nat} {S : ST} {q : Nat × (Nat → Int)} (ht : S.2.2.1 = some q) : (wdO cA ci ly ja ad S)[ja.length + 1]? = some (ad 99, .inl (cA, q.1, .inl (fun i => iI (q.2 i)))) := by
  unfold wdO tw
  rw [List.getElem?_cons_succ, List.getElem?_append_right (by rw [List.length_map]; exact Nat.le_refl _), List.length_map, Nat.sub_self, ht]
  rfl
theorem wd_tset {cA : ClassId} {ci : Nat} {ly : List Bool} {ja : List (Nat × Nat)} {ad : Nat → Nat} {S : ST} {q : Nat × (Nat → Int)} {i : Nat} {v : Int} (ht : S.2.2.1 = some q) : (wdO cA ci ly ja ad S).set (ja.length + 1) (ad 99, .inl (cA, q.1, .inl (upd (fun i => iI (q.2 i)) i (iI v)))) = wdO cA ci ly ja ad (tput S i v) := by
  have h1 : (tput S i v).2.2.1 = some (q.1, fun j => if j = i then v else q.2 j) := by
    show S.2.2.1.map _ = _
    rw [ht]; rfl
  have h2 : (fun j => iI (if j = i then v else q.2 j)) = upd (fun i => iI (q.2 i)) i (iI v) := by
    funext j
    by_cases h : j = i <;> simp [upd, h]
  unfold wdO tw
  rw [h1, ht, List.set_cons_succ, List.set_append_right _ _ (by rw [List.length_map]; exact Nat.le_refl _), List.length_map, Nat.sub_self]
  show _ = (ad 0, _) :: (ja.map (o_r cA ad (tput S i v)) ++ [(ad 99, .inl (cA, q.1, .inl (fun j => iI (if j = i then v else q.2 j))))])
  rw [h2]
  rfl
/-! what P is over the machine -/
theorem lget_mem {lv : LV} {i : Nat} {v : AV} (h : lget lv i = some v) : some v ∈ lv := by
  unfold lget at h
  cases hg : lv[i]? with
  | none => rw [hg] at h; cases h
  | some o =>
    rw [hg] at h
    have h2 : o = some v := h
    subst h2
    exact List.mem_of_getElem? hg
/-- the count of what the method has made: none, or as the abstract state has it -/
def rel0 (k0 : Nat × Nat) : Nat × Nat → Nat → Nat → Prop := fun k c n => k = k0 ∧ c = 0 ∧ n = 0
def relA (K M : Nat) : Nat × Nat → Nat → Nat → Prop := fun k c n => c = k.1 ∧ n = k.2 ∧ c ≤ K ∧ n ≤ M
def OK (p : Program) (l : Launch) (e : Env) (R : Room) (s : State) (m : MethodId) (args : Array Value) (below : List Frame) (meth : Method) (c : Code) (Q : State → Prop) (D : va_G) (cA : ClassId) (A : Nat → Prop) (ci : Nat) (ly : List Bool) (ja : List (Nat × Nat)) (AD : (Nat → Nat) → Prop) (rel : Nat × Nat → Nat → Nat → Prop) (nL : Nat) : PT := fun pc lv st S =>
  ∀ (ad : Nat → Nat), AD ad → ∀ (H : Heap) (locs : List Loc) (ls : Array Slot) (cells slots : Nat), rel S.2.2.2 cells slots → va_P D vwCl (wdO cA ci ly ja ad S) H → va_D A (wdO cA ci ly ja ad S) → va_S A s.heap H locs → LR ad nL lv ls →
    W p l e R s m args below meth c H locs cells slots Q (F0 m pc ls (st.map (conc ad)))
section SND
variable {p : Program} {l : Launch} {e : Env} {R : Room} {s : State} {m : MethodId} {args : Array Value} {below : List Frame} {meth : Method} {c : Code} {Q : State → Prop}
variable {D : va_G} {cA : ClassId} {A : Nat → Prop} {ci : Nat} {ly : List Bool} {ja : List (Nat × Nat)} {AD : (Nat → Nat) → Prop} {rel : Nat × Nat → Nat → Nat → Prop} {nL : Nat}
variable {cc : ByteArray} {pc n : Nat}
theorem s_iconst (hx : p.tables.exec = Jvm.exec) (hb : c.code = cc) {v : Int} (hd : decode cc pc = .ok (.iconst v, 1)) (hn : n = pc + 1) : ∀ lv st S, i_const v n lv st S (OK p l e R s m args below meth c Q D cA A ci ly ja AD rel nL) → (OK p l e R s m args below meth c Q D cA A ci ly ja AD rel nL) pc lv st S := by
  intro lv st S h
  subst hn
  intro ad ha H locs ls cells slots hr hP hD hS hL
  exact lv_iconst hx hb hd rfl (h ad ha H locs ls cells slots hr hP hD hS hL)
theorem s_bipush (hx : p.tables.exec = Jvm.exec) (hb : c.code = cc) {v : Int} (hd : decode cc pc = .ok (.bipush v, 2)) (hn : n = pc + 2) (hv : (Int8.ofInt v).toInt32 = iI v) : ∀ lv st S, i_const v n lv st S (OK p l e R s m args below meth c Q D cA A ci ly ja AD rel nL) → (OK p l e R s m args below meth c Q D cA A ci ly ja AD rel nL) pc lv st S := by
  intro lv st S h
  subst hn
  intro ad ha H locs ls cells slots hr hP hD hS hL
  exact lv_bipush hx hb hd hv (h ad ha H locs ls cells slots hr hP hD hS hL)
theorem s_sipush (hx : p.tables.exec = Jvm.exec) (hb : c.code = cc) {v : Int} (hd : decode cc pc = .ok (.sipush v, 3)) (hn : n = pc + 3) (hv : (Int16.ofInt v).toInt32 = iI v) : ∀ lv st S, i_const v n lv st S (OK p l e R s m args below meth c Q D cA A ci ly ja AD rel nL) → (OK p l e R s m args below meth c Q D cA A ci ly ja AD rel nL) pc lv st S := by
  intro lv st S h
  subst hn
  intro ad ha H locs ls cells slots hr hP hD hS hL
  exact lv_sipush hx hb hd hv (h ad ha H locs ls cells slots hr hP hD hS hL)
theorem s_dconst0 (hx : p.tables.exec = Jvm.exec) (hb : c.code = cc) (hd : decode cc pc = .ok (.dconst 0, 1)) (hn : n = pc + 1) : ∀ lv st S, i_dconst FP.dconst0 n lv st S (OK p l e R s m args below meth c Q D cA A ci ly ja AD rel nL) → (OK p l e R s m args below meth c Q D cA A ci ly ja AD rel nL) pc lv st S := by
  intro lv st S h
  subst hn
  intro ad ha H locs ls cells slots hr hP hD hS hL
  exact lv_dconst0 hx hb hd (h ad ha H locs ls cells slots hr hP hD hS hL)
theorem s_ldc2 (hx : p.tables.exec = Jvm.exec) (hb : c.code = cc) {own : String} {index : Nat} {v : Int64} (hown : s.vm.findClass own = some m.cls) (hc : (Jvm.Cond.constantLong own index v).before args s = true) (hd : decode cc pc = .ok (.ldc2_w index, 3)) (hn : n = pc + 3) : ∀ lv st S, i_lconst v n lv st S (OK p l e R s m args below meth c Q D cA A ci ly ja AD rel nL) → (OK p l e R s m args below meth c Q D cA A ci ly ja AD rel nL) pc lv st S := by
  intro lv st S h
  subst hn
  intro ad ha H locs ls cells slots hr hP hD hS hL
  exact lv_ldc2 hx hb hown hc hd (h ad ha H locs ls cells slots hr hP hD hS hL)
theorem s_iload_n (hx : p.tables.exec = Jvm.exec) (hb : c.code = cc) {i : Nat} {k : Fin 4} (hk : (k : Nat) = i) (hd : decode cc pc = .ok (.iload_n k, 1)) (hn : n = pc + 1) : ∀ lv st S, i_iload i n lv st S (OK p l e R s m args below meth c Q D cA A ci ly ja AD rel nL) → (OK p l e R s m args below meth c Q D cA A ci ly ja AD rel nL) pc lv st S := by
  intro lv st S h
  subst hn
  change k_iload _ lv st S _ (lget lv i) at h
  rcases hg : lget lv i with _ | (a | x | d | k9)
  all_goals rw [hg] at h
  · exact h.elim
  · intro ad ha H locs ls cells slots hr hP hD hS hL
    exact lv_iload_n hx hb hd hk (hL.2.2 _ _ hg) (h ad ha H locs ls cells slots hr hP hD hS hL)
  · exact h.elim
  · exact h.elim
  · exact h.elim
theorem s_iload (hx : p.tables.exec = Jvm.exec) (hb : c.code = cc) {i : Nat} (hd : decode cc pc = .ok (.iload i, 2)) (hn : n = pc + 2) : ∀ lv st S, i_iload i n lv st S (OK p l e R s m args below meth c Q D cA A ci ly ja AD rel nL) → (OK p l e R s m args below meth c Q D cA A ci ly ja AD rel nL) pc lv st S := by
  intro lv st S h
  subst hn
  change k_iload _ lv st S _ (lget lv i) at h
  rcases hg : lget lv i with _ | (a | x | d | k9)
  all_goals rw [hg] at h
  · exact h.elim
  · intro ad ha H locs ls cells slots hr hP hD hS hL
    exact lv_iload hx hb hd (hL.2.2 _ _ hg) (h ad ha H locs ls cells slots hr hP hD hS hL)
  · exact h.elim
  · exact h.elim
  · exact h.elim
theorem s_aload_n (hx : p.tables.exec = Jvm.exec) (hb : c.code = cc) {i : Nat} {k : Fin 4} (hk : (k : Nat) = i) (hd : decode cc pc = .ok (.aload_n k, 1)) (hn : n = pc + 1) : ∀ lv st S, i_aload i n lv st S (OK p l e R s m args below meth c Q D cA A ci ly ja AD rel nL) → (OK p l e R s m args below meth c Q D cA A ci ly ja AD rel nL) pc lv st S := by
  intro lv st S h
  subst hn
  change k_aload _ lv st S _ (lget lv i) at h
  rcases hg : lget lv i with _ | (a | x | d | k9)
  all_goals rw [hg] at h
  · exact h.elim
  · exact h.elim
  · exact h.elim
  · exact h.elim
  · intro ad ha H locs ls cells slots hr hP hD hS hL
    exact lv_aload_n hx hb hd hk (hL.2.2 _ _ hg) (h ad ha H locs ls cells slots hr hP hD hS hL)
theorem s_aload (hx : p.tables.exec = Jvm.exec) (hb : c.code = cc) {i : Nat} (hd : decode cc pc = .ok (.aload i, 2)) (hn : n = pc + 2) : ∀ lv st S, i_aload i n lv st S (OK p l e R s m args below meth c Q D cA A ci ly ja AD rel nL) → (OK p l e R s m args below meth c Q D cA A ci ly ja AD rel nL) pc lv st S := by
  intro lv st S h
  subst hn
  change k_aload _ lv st S _ (lget lv i) at h
  rcases hg : lget lv i with _ | (a | x | d | k9)
  all_goals rw [hg] at h
  · exact h.elim
  · exact h.elim
  · exact h.elim
  · exact h.elim
  · intro ad ha H locs ls cells slots hr hP hD hS hL
    exact lv_aload hx hb hd (hL.2.2 _ _ hg) (h ad ha H locs ls cells slots hr hP hD hS hL)
theorem s_lload_n (hx : p.tables.exec = Jvm.exec) (hb : c.code = cc) {i : Nat} {k : Fin 4} (hk : (k : Nat) = i) (hd : decode cc pc = .ok (.lload_n k, 1)) (hn : n = pc + 1) : ∀ lv st S, i_lload i n lv st S (OK p l e R s m args below meth c Q D cA A ci ly ja AD rel nL) → (OK p l e R s m args below meth c Q D cA A ci ly ja AD rel nL) pc lv st S := by
  intro lv st S h
  subst hn
  change k_lload _ lv st S _ (lget lv i) at h
  rcases hg : lget lv i with _ | (a | x | d | k9)
  all_goals rw [hg] at h
  · exact h.elim
  · exact h.elim
  · intro ad ha H locs ls cells slots hr hP hD hS hL
    exact lv_lload_n hx hb hd hk (hL.2.2 _ _ hg) (h ad ha H locs ls cells slots hr hP hD hS hL)
  · exact h.elim
  · exact h.elim
theorem s_lload (hx : p.tables.exec = Jvm.exec) (hb : c.code = cc) {i : Nat} (hd : decode cc pc = .ok (.lload i, 2)) (hn : n = pc + 2) : ∀ lv st S, i_lload i n lv st S (OK p l e R s m args below meth c Q D cA A ci ly ja AD rel nL) → (OK p l e R s m args below meth c Q D cA A ci ly ja AD rel nL) pc lv st S := by
  intro lv st S h
  subst hn
  change k_lload _ lv st S _ (lget lv i) at h
  rcases hg : lget lv i with _ | (a | x | d | k9)
  all_goals rw [hg] at h
  · exact h.elim
  · exact h.elim
  · intro ad ha H locs ls cells slots hr hP hD hS hL
    exact lv_lload hx hb hd (hL.2.2 _ _ hg) (h ad ha H locs ls cells slots hr hP hD hS hL)
  · exact h.elim
  · exact h.elim
theorem s_istore_n (hx : p.tables.exec = Jvm.exec) (hb : c.code = cc) {i : Nat} {k : Fin 4} (hk : (k : Nat) = i) (hd : decode cc pc = .ok (.istore_n k, 1)) (hn : n = pc + 1) (hi : i < nL) : ∀ lv st S, i_istore i n lv st S (OK p l e R s m args below meth c Q D cA A ci ly ja AD rel nL) → (OK p l e R s m args below meth c Q D cA A ci ly ja AD rel nL) pc lv st S := by
  intro lv st S h
  subst hn
  rcases st with _ | ⟨a | x | d | k9, r⟩
  · exact h.elim
  · obtain ⟨hok, h⟩ := h
    intro ad ha H locs ls cells slots hr hP hD hS hL
    exact lv_istore_n hx hb hd hk hL.has (by omega) rfl (fun ls' hl' => h ad ha H locs ls' cells slots hr hP hD hS (LR.st1 hok hl'))
  · exact h.elim
  · exact h.elim
  · exact h.elim
theorem s_istore (hx : p.tables.exec = Jvm.exec) (hb : c.code = cc) {i : Nat} (hd : decode cc pc = .ok (.istore i, 2)) (hn : n = pc + 2) (hi : i < nL) : ∀ lv st S, i_istore i n lv st S (OK p l e R s m args below meth c Q D cA A ci ly ja AD rel nL) → (OK p l e R s m args below meth c Q D cA A ci ly ja AD rel nL) pc lv st S := by
  intro lv st S h
  subst hn
  rcases st with _ | ⟨a | x | d | k9, r⟩
  · exact h.elim
  · obtain ⟨hok, h⟩ := h
    intro ad ha H locs ls cells slots hr hP hD hS hL
    exact lv_istore hx hb hd hL.has (by omega) rfl (fun ls' hl' => h ad ha H locs ls' cells slots hr hP hD hS (LR.st1 hok hl'))
  · exact h.elim
  · exact h.elim
  · exact h.elim
theorem s_astore_n (hx : p.tables.exec = Jvm.exec) (hb : c.code = cc) {i : Nat} {k : Fin 4} (hk : (k : Nat) = i) (hd : decode cc pc = .ok (.astore_n k, 1)) (hn : n = pc + 1) (hi : i < nL) : ∀ lv st S, i_astore i n lv st S (OK p l e R s m args below meth c Q D cA A ci ly ja AD rel nL) → (OK p l e R s m args below meth c Q D cA A ci ly ja AD rel nL) pc lv st S := by
  intro lv st S h
  subst hn
  rcases st with _ | ⟨a | x | d | k9, r⟩
  · exact h.elim
  · exact h.elim
  · exact h.elim
  · exact h.elim
  · obtain ⟨hok, h⟩ := h
    intro ad ha H locs ls cells slots hr hP hD hS hL
    exact lv_astore_n hx hb hd hk hL.has (by omega) rfl (fun ls' hl' => h ad ha H locs ls' cells slots hr hP hD hS (LR.st1 hok hl'))
theorem s_astore (hx : p.tables.exec = Jvm.exec) (hb : c.code = cc) {i : Nat} (hd : decode cc pc = .ok (.astore i, 2)) (hn : n = pc + 2) (hi : i < nL) : ∀ lv st S, i_astore i n lv st S (OK p l e R s m args below meth c Q D cA A ci ly ja AD rel nL) → (OK p l e R s m args below meth c Q D cA A ci ly ja AD rel nL) pc lv st S := by
  intro lv st S h
  subst hn
  rcases st with _ | ⟨a | x | d | k9, r⟩
  · exact h.elim
  · exact h.elim
  · exact h.elim
  · exact h.elim
  · obtain ⟨hok, h⟩ := h
    intro ad ha H locs ls cells slots hr hP hD hS hL
    exact lv_astore hx hb hd hL.has (by omega) rfl (fun ls' hl' => h ad ha H locs ls' cells slots hr hP hD hS (LR.st1 hok hl'))
theorem s_lstore_n (hx : p.tables.exec = Jvm.exec) (hb : c.code = cc) {i : Nat} {k : Fin 4} (hk : (k : Nat) = i) (hd : decode cc pc = .ok (.lstore_n k, 1)) (hn : n = pc + 1) (hi : i + 1 < nL) : ∀ lv st S, i_lstore i n lv st S (OK p l e R s m args below meth c Q D cA A ci ly ja AD rel nL) → (OK p l e R s m args below meth c Q D cA A ci ly ja AD rel nL) pc lv st S := by
  intro lv st S h
  subst hn
  rcases st with _ | ⟨a | x | d | k9, r⟩
  · exact h.elim
  · exact h.elim
  · obtain ⟨hok, h⟩ := h
    intro ad ha H locs ls cells slots hr hP hD hS hL
    exact lv_lstore_n hx hb hd hk hL.has (by omega) rfl (fun ls' hl' => h ad ha H locs ls' cells slots hr hP hD hS (LR.st2 hok hl'))
  · exact h.elim
  · exact h.elim
theorem s_lstore (hx : p.tables.exec = Jvm.exec) (hb : c.code = cc) {i : Nat} (hd : decode cc pc = .ok (.lstore i, 2)) (hn : n = pc + 2) (hi : i + 1 < nL) : ∀ lv st S, i_lstore i n lv st S (OK p l e R s m args below meth c Q D cA A ci ly ja AD rel nL) → (OK p l e R s m args below meth c Q D cA A ci ly ja AD rel nL) pc lv st S := by
  intro lv st S h
  subst hn
  rcases st with _ | ⟨a | x | d | k9, r⟩
  · exact h.elim
  · exact h.elim
  · obtain ⟨hok, h⟩ := h
    intro ad ha H locs ls cells slots hr hP hD hS hL
    exact lv_lstore hx hb hd hL.has (by omega) rfl (fun ls' hl' => h ad ha H locs ls' cells slots hr hP hD hS (LR.st2 hok hl'))
  · exact h.elim
  · exact h.elim
theorem s_iinc (hx : p.tables.exec = Jvm.exec) (hb : c.code = cc) {i : Nat} {d : Int} (hd : decode cc pc = .ok (.iinc i d, 3)) (hn : n = pc + 3) (hi : i < nL) : ∀ lv st S, i_iinc i d n lv st S (OK p l e R s m args below meth c Q D cA A ci ly ja AD rel nL) → (OK p l e R s m args below meth c Q D cA A ci ly ja AD rel nL) pc lv st S := by
  intro lv st S h
  subst hn
  change k_iinc i d _ lv st S _ (lget lv i) at h
  rcases hg : lget lv i with _ | (a | x | d9 | k9)
  all_goals rw [hg] at h
  · exact h.elim
  · intro ad ha H locs ls cells slots hr hP hD hS hL
    have hL2 := hL.has
    obtain ⟨k, hk⟩ : ∃ k, (prs ad lv)[k]? = some (i, Value.int (iI a)) := List.getElem?_of_mem (mem_prs.mpr ⟨_, hg, rfl⟩)
    exact lv_iinc (v := iI (a + d)) hx hb hd hL2 hk (iI_add a d) hi rfl (fun ls' hl' => h ad ha H locs ls' cells slots hr hP hD hS (LR.st1 (v := vI (a + d)) (hL.lok hg) hl'))
  · exact h.elim
  · exact h.elim
  · exact h.elim
theorem s_dup (hx : p.tables.exec = Jvm.exec) (hb : c.code = cc) (hd : decode cc pc = .ok (.dup, 1)) (hn : n = pc + 1) : ∀ lv st S, i_dup n lv st S (OK p l e R s m args below meth c Q D cA A ci ly ja AD rel nL) → (OK p l e R s m args below meth c Q D cA A ci ly ja AD rel nL) pc lv st S := by
  intro lv st S h
  subst hn
  rcases st with _ | ⟨a | x | d | k9, r⟩
  · exact h.elim
  · intro ad ha H locs ls cells slots hr hP hD hS hL
    exact lv_dup hx hb hd rfl (h ad ha H locs ls cells slots hr hP hD hS hL)
  · exact h.elim
  · exact h.elim
  · intro ad ha H locs ls cells slots hr hP hD hS hL
    exact lv_dup hx hb hd rfl (h ad ha H locs ls cells slots hr hP hD hS hL)
theorem s_iadd (hx : p.tables.exec = Jvm.exec) (hb : c.code = cc) (hd : decode cc pc = .ok (.iadd, 1)) (hn : n = pc + 1) : ∀ lv st S, i_iadd n lv st S (OK p l e R s m args below meth c Q D cA A ci ly ja AD rel nL) → (OK p l e R s m args below meth c Q D cA A ci ly ja AD rel nL) pc lv st S := by
  intro lv st S h
  subst hn
  rcases st with _ | ⟨b | b | b | b, st⟩
  · exact h.elim
  · rcases st with _ | ⟨a | a | a | a, r⟩
    · exact h.elim
    · intro ad ha H locs ls cells slots hr hP hD hS hL
      refine lv_iadd hx hb hd ?_
      rw [iI_add]
      exact h ad ha H locs ls cells slots hr hP hD hS hL
    · exact h.elim
    · exact h.elim
    · exact h.elim
  · exact h.elim
  · exact h.elim
  · exact h.elim
theorem s_isub (hx : p.tables.exec = Jvm.exec) (hb : c.code = cc) (hd : decode cc pc = .ok (.isub, 1)) (hn : n = pc + 1) : ∀ lv st S, i_isub n lv st S (OK p l e R s m args below meth c Q D cA A ci ly ja AD rel nL) → (OK p l e R s m args below meth c Q D cA A ci ly ja AD rel nL) pc lv st S := by
  intro lv st S h
  subst hn
  rcases st with _ | ⟨b | b | b | b, st⟩
  · exact h.elim
  · rcases st with _ | ⟨a | a | a | a, r⟩
    · exact h.elim
    · intro ad ha H locs ls cells slots hr hP hD hS hL
      refine lv_isub hx hb hd ?_
      rw [iI_sub]
      exact h ad ha H locs ls cells slots hr hP hD hS hL
    · exact h.elim
    · exact h.elim
    · exact h.elim
  · exact h.elim
  · exact h.elim
  · exact h.elim
theorem s_imul (hx : p.tables.exec = Jvm.exec) (hb : c.code = cc) (hd : decode cc pc = .ok (.imul, 1)) (hn : n = pc + 1) : ∀ lv st S, i_imul n lv st S (OK p l e R s m args below meth c Q D cA A ci ly ja AD rel nL) → (OK p l e R s m args below meth c Q D cA A ci ly ja AD rel nL) pc lv st S := by
  intro lv st S h
  subst hn
  rcases st with _ | ⟨b | b | b | b, st⟩
  · exact h.elim
  · rcases st with _ | ⟨a | a | a | a, r⟩
    · exact h.elim
    · intro ad ha H locs ls cells slots hr hP hD hS hL
      refine lv_imul hx hb hd ?_
      rw [iI_mul]
      exact h ad ha H locs ls cells slots hr hP hD hS hL
    · exact h.elim
    · exact h.elim
    · exact h.elim
  · exact h.elim
  · exact h.elim
  · exact h.elim
theorem s_idiv (hx : p.tables.exec = Jvm.exec) (hb : c.code = cc) (hd : decode cc pc = .ok (.idiv, 1)) (hn : n = pc + 1) : ∀ lv st S, i_idiv n lv st S (OK p l e R s m args below meth c Q D cA A ci ly ja AD rel nL) → (OK p l e R s m args below meth c Q D cA A ci ly ja AD rel nL) pc lv st S := by
  intro lv st S h
  subst hn
  rcases st with _ | ⟨b | b | b | b, st⟩
  · exact h.elim
  · rcases st with _ | ⟨a | a | a | a, r⟩
    · exact h.elim
    · obtain ⟨⟨ha', hb'⟩, h⟩ := h
      intro ad ha H locs ls cells slots hr hP hD hS hL
      refine lv_idiv hx hb hd (iI_ne0 hb') ?_
      rw [iI_div ha' hb']
      exact h ad ha H locs ls cells slots hr hP hD hS hL
    · exact h.elim
    · exact h.elim
    · exact h.elim
  · exact h.elim
  · exact h.elim
  · exact h.elim
theorem s_irem (hx : p.tables.exec = Jvm.exec) (hb : c.code = cc) (hd : decode cc pc = .ok (.irem, 1)) (hn : n = pc + 1) : ∀ lv st S, i_irem n lv st S (OK p l e R s m args below meth c Q D cA A ci ly ja AD rel nL) → (OK p l e R s m args below meth c Q D cA A ci ly ja AD rel nL) pc lv st S := by
  intro lv st S h
  subst hn
  rcases st with _ | ⟨b | b | b | b, st⟩
  · exact h.elim
  · rcases st with _ | ⟨a | a | a | a, r⟩
    · exact h.elim
    · obtain ⟨⟨ha', hb'⟩, h⟩ := h
      intro ad ha H locs ls cells slots hr hP hD hS hL
      refine lv_irem hx hb hd (iI_ne0 hb') ?_
      rw [iI_rem ha' hb']
      exact h ad ha H locs ls cells slots hr hP hD hS hL
    · exact h.elim
    · exact h.elim
    · exact h.elim
  · exact h.elim
  · exact h.elim
  · exact h.elim
theorem s_ladd (hx : p.tables.exec = Jvm.exec) (hb : c.code = cc) (hd : decode cc pc = .ok (.ladd, 1)) (hn : n = pc + 1) : ∀ lv st S, i_ladd n lv st S (OK p l e R s m args below meth c Q D cA A ci ly ja AD rel nL) → (OK p l e R s m args below meth c Q D cA A ci ly ja AD rel nL) pc lv st S := by
  intro lv st S h
  subst hn
  rcases st with _ | ⟨b | b | b | b, st⟩
  · exact h.elim
  · exact h.elim
  · rcases st with _ | ⟨a | a | a | a, r⟩
    · exact h.elim
    · exact h.elim
    · intro ad ha H locs ls cells slots hr hP hD hS hL
      exact lv_ladd hx hb hd (h ad ha H locs ls cells slots hr hP hD hS hL)
    · exact h.elim
    · exact h.elim
  · exact h.elim
  · exact h.elim
theorem s_lmul (hx : p.tables.exec = Jvm.exec) (hb : c.code = cc) (hd : decode cc pc = .ok (.lmul, 1)) (hn : n = pc + 1) : ∀ lv st S, i_lmul n lv st S (OK p l e R s m args below meth c Q D cA A ci ly ja AD rel nL) → (OK p l e R s m args below meth c Q D cA A ci ly ja AD rel nL) pc lv st S := by
  intro lv st S h
  subst hn
  rcases st with _ | ⟨b | b | b | b, st⟩
  · exact h.elim
  · exact h.elim
  · rcases st with _ | ⟨a | a | a | a, r⟩
    · exact h.elim
    · exact h.elim
    · intro ad ha H locs ls cells slots hr hP hD hS hL
      exact lv_lmul hx hb hd (h ad ha H locs ls cells slots hr hP hD hS hL)
    · exact h.elim
    · exact h.elim
  · exact h.elim
  · exact h.elim
theorem s_ddiv (hx : p.tables.exec = Jvm.exec) (hb : c.code = cc) (hd : decode cc pc = .ok (.ddiv, 1)) (hn : n = pc + 1) : ∀ lv st S, i_ddiv n lv st S (OK p l e R s m args below meth c Q D cA A ci ly ja AD rel nL) → (OK p l e R s m args below meth c Q D cA A ci ly ja AD rel nL) pc lv st S := by
  intro lv st S h
  subst hn
  rcases st with _ | ⟨b | b | b | b, st⟩
  · exact h.elim
  · exact h.elim
  · exact h.elim
  · rcases st with _ | ⟨a | a | a | a, r⟩
    · exact h.elim
    · exact h.elim
    · exact h.elim
    · obtain ⟨hne, h⟩ := h
      intro ad ha H locs ls cells slots hr hP hD hS hL
      exact lv_ddiv hx hb hd hne (h ad ha H locs ls cells slots hr hP hD hS hL)
    · exact h.elim
  · exact h.elim
theorem s_i2l (hx : p.tables.exec = Jvm.exec) (hb : c.code = cc) (hd : decode cc pc = .ok (.i2l, 1)) (hn : n = pc + 1) : ∀ lv st S, i_i2l n lv st S (OK p l e R s m args below meth c Q D cA A ci ly ja AD rel nL) → (OK p l e R s m args below meth c Q D cA A ci ly ja AD rel nL) pc lv st S := by
  intro lv st S h
  subst hn
  rcases st with _ | ⟨a | x | d | k9, r⟩
  · exact h.elim
  · intro ad ha H locs ls cells slots hr hP hD hS hL
    exact lv_i2l hx hb hd rfl (h ad ha H locs ls cells slots hr hP hD hS hL)
  · exact h.elim
  · exact h.elim
  · exact h.elim
theorem s_i2d (hx : p.tables.exec = Jvm.exec) (hb : c.code = cc) (hd : decode cc pc = .ok (.i2d, 1)) (hn : n = pc + 1) : ∀ lv st S, i_i2d n lv st S (OK p l e R s m args below meth c Q D cA A ci ly ja AD rel nL) → (OK p l e R s m args below meth c Q D cA A ci ly ja AD rel nL) pc lv st S := by
  intro lv st S h
  subst hn
  rcases st with _ | ⟨a | x | d | k9, r⟩
  · exact h.elim
  · intro ad ha H locs ls cells slots hr hP hD hS hL
    exact lv_i2d hx hb hd (h ad ha H locs ls cells slots hr hP hD hS hL)
  · exact h.elim
  · exact h.elim
  · exact h.elim
theorem s_dup2 (hx : p.tables.exec = Jvm.exec) (hb : c.code = cc) (hd : decode cc pc = .ok (.dup2, 1)) (hn : n = pc + 1) : ∀ lv st S, i_dup2 n lv st S (OK p l e R s m args below meth c Q D cA A ci ly ja AD rel nL) → (OK p l e R s m args below meth c Q D cA A ci ly ja AD rel nL) pc lv st S := by
  intro lv st S h
  subst hn
  rcases st with _ | ⟨b | b | b | b, st⟩
  · exact h.elim
  · rcases st with _ | ⟨a | a | a | a, r⟩
    · exact h.elim
    · exact h.elim
    · exact h.elim
    · exact h.elim
    · intro ad ha H locs ls cells slots hr hP hD hS hL
      exact lv_dup2_11 hx hb hd rfl rfl (h ad ha H locs ls cells slots hr hP hD hS hL)
  · exact h.elim
  · exact h.elim
  · exact h.elim
theorem s_icmp_eq (hx : p.tables.exec = Jvm.exec) (hb : c.code = cc) {off : Int} {t : Nat} (htg : (pc : Int) + off = (t : Int)) (hd : decode cc pc = .ok (.if_icmp .eq off, 3)) (hn : n = pc + 3) : ∀ lv st S, i_icmp (fun a b => a = b) t n lv st S (OK p l e R s m args below meth c Q D cA A ci ly ja AD rel nL) → (OK p l e R s m args below meth c Q D cA A ci ly ja AD rel nL) pc lv st S := by
  intro lv st S h
  subst hn
  rcases st with _ | ⟨b | b | b | b, st⟩
  · exact h.elim
  · rcases st with _ | ⟨a | a | a | a, r⟩
    · exact h.elim
    · obtain ⟨⟨hr1, hr2⟩, ht, hf⟩ := h
      intro ad ha H locs ls cells slots hr hP hD hS hL
      exact lv_icmp_eq hx hb hd htg (fun z => ht ((iI_eq hr1 hr2).mp z) ad ha H locs ls cells slots hr hP hD hS hL) (fun z => hf (fun y => z ((iI_eq hr1 hr2).mpr y)) ad ha H locs ls cells slots hr hP hD hS hL)
    · exact h.elim
    · exact h.elim
    · exact h.elim
  · exact h.elim
  · exact h.elim
  · exact h.elim
theorem s_if_eq (hx : p.tables.exec = Jvm.exec) (hb : c.code = cc) {off : Int} {t : Nat} (htg : (pc : Int) + off = (t : Int)) (hd : decode cc pc = .ok (.ifCond .eq off, 3)) (hn : n = pc + 3) : ∀ lv st S, i_if (fun a => a = 0) t n lv st S (OK p l e R s m args below meth c Q D cA A ci ly ja AD rel nL) → (OK p l e R s m args below meth c Q D cA A ci ly ja AD rel nL) pc lv st S := by
  intro lv st S h
  subst hn
  rcases st with _ | ⟨a | x | d | k9, r⟩
  · exact h.elim
  · obtain ⟨hr1, ht, hf⟩ := h
    intro ad ha H locs ls cells slots hr hP hD hS hL
    refine lv_if_eq hx hb hd htg (fun z => ?_) (fun z => ?_)
    · rw [← iI_0] at z
      exact ht ((iI_eq hr1 rng0).mp z) ad ha H locs ls cells slots hr hP hD hS hL
    · rw [← iI_0] at z
      exact hf (fun y => z ((iI_eq hr1 rng0).mpr y)) ad ha H locs ls cells slots hr hP hD hS hL
  · exact h.elim
  · exact h.elim
  · exact h.elim
theorem s_icmp_ne (hx : p.tables.exec = Jvm.exec) (hb : c.code = cc) {off : Int} {t : Nat} (htg : (pc : Int) + off = (t : Int)) (hd : decode cc pc = .ok (.if_icmp .ne off, 3)) (hn : n = pc + 3) : ∀ lv st S, i_icmp (fun a b => a ≠ b) t n lv st S (OK p l e R s m args below meth c Q D cA A ci ly ja AD rel nL) → (OK p l e R s m args below meth c Q D cA A ci ly ja AD rel nL) pc lv st S := by
  intro lv st S h
  subst hn
  rcases st with _ | ⟨b | b | b | b, st⟩
  · exact h.elim
  · rcases st with _ | ⟨a | a | a | a, r⟩
    · exact h.elim
    · obtain ⟨⟨hr1, hr2⟩, ht, hf⟩ := h
      intro ad ha H locs ls cells slots hr hP hD hS hL
      exact lv_icmp_ne hx hb hd htg (fun z => ht ((not_congr (iI_eq hr1 hr2)).mp z) ad ha H locs ls cells slots hr hP hD hS hL) (fun z => hf (fun y => y ((iI_eq hr1 hr2).mp z)) ad ha H locs ls cells slots hr hP hD hS hL)
    · exact h.elim
    · exact h.elim
    · exact h.elim
  · exact h.elim
  · exact h.elim
  · exact h.elim
theorem s_if_ne (hx : p.tables.exec = Jvm.exec) (hb : c.code = cc) {off : Int} {t : Nat} (htg : (pc : Int) + off = (t : Int)) (hd : decode cc pc = .ok (.ifCond .ne off, 3)) (hn : n = pc + 3) : ∀ lv st S, i_if (fun a => a ≠ 0) t n lv st S (OK p l e R s m args below meth c Q D cA A ci ly ja AD rel nL) → (OK p l e R s m args below meth c Q D cA A ci ly ja AD rel nL) pc lv st S := by
  intro lv st S h
  subst hn
  rcases st with _ | ⟨a | x | d | k9, r⟩
  · exact h.elim
  · obtain ⟨hr1, ht, hf⟩ := h
    intro ad ha H locs ls cells slots hr hP hD hS hL
    refine lv_if_ne hx hb hd htg (fun z => ?_) (fun z => ?_)
    · rw [← iI_0] at z
      exact ht ((not_congr (iI_eq hr1 rng0)).mp z) ad ha H locs ls cells slots hr hP hD hS hL
    · rw [← iI_0] at z
      exact hf (fun y => y ((iI_eq hr1 rng0).mp z)) ad ha H locs ls cells slots hr hP hD hS hL
  · exact h.elim
  · exact h.elim
  · exact h.elim
theorem s_icmp_lt (hx : p.tables.exec = Jvm.exec) (hb : c.code = cc) {off : Int} {t : Nat} (htg : (pc : Int) + off = (t : Int)) (hd : decode cc pc = .ok (.if_icmp .lt off, 3)) (hn : n = pc + 3) : ∀ lv st S, i_icmp (fun a b => a < b) t n lv st S (OK p l e R s m args below meth c Q D cA A ci ly ja AD rel nL) → (OK p l e R s m args below meth c Q D cA A ci ly ja AD rel nL) pc lv st S := by
  intro lv st S h
  subst hn
  rcases st with _ | ⟨b | b | b | b, st⟩
  · exact h.elim
  · rcases st with _ | ⟨a | a | a | a, r⟩
    · exact h.elim
    · obtain ⟨⟨hr1, hr2⟩, ht, hf⟩ := h
      intro ad ha H locs ls cells slots hr hP hD hS hL
      exact lv_icmp_lt hx hb hd htg (fun z => ht ((iI_lt hr1 hr2).mp z) ad ha H locs ls cells slots hr hP hD hS hL) (fun z => hf (fun y => z ((iI_lt hr1 hr2).mpr y)) ad ha H locs ls cells slots hr hP hD hS hL)
    · exact h.elim
    · exact h.elim
    · exact h.elim
  · exact h.elim
  · exact h.elim
  · exact h.elim
theorem s_if_lt (hx : p.tables.exec = Jvm.exec) (hb : c.code = cc) {off : Int} {t : Nat} (htg : (pc : Int) + off = (t : Int)) (hd : decode cc pc = .ok (.ifCond .lt off, 3)) (hn : n = pc + 3) : ∀ lv st S, i_if (fun a => a < 0) t n lv st S (OK p l e R s m args below meth c Q D cA A ci ly ja AD rel nL) → (OK p l e R s m args below meth c Q D cA A ci ly ja AD rel nL) pc lv st S := by
  intro lv st S h
  subst hn
  rcases st with _ | ⟨a | x | d | k9, r⟩
  · exact h.elim
  · obtain ⟨hr1, ht, hf⟩ := h
    intro ad ha H locs ls cells slots hr hP hD hS hL
    refine lv_if_lt hx hb hd htg (fun z => ?_) (fun z => ?_)
    · rw [← iI_0] at z
      exact ht ((iI_lt hr1 rng0).mp z) ad ha H locs ls cells slots hr hP hD hS hL
    · rw [← iI_0] at z
      exact hf (fun y => z ((iI_lt hr1 rng0).mpr y)) ad ha H locs ls cells slots hr hP hD hS hL
  · exact h.elim
  · exact h.elim
  · exact h.elim
theorem s_icmp_ge (hx : p.tables.exec = Jvm.exec) (hb : c.code = cc) {off : Int} {t : Nat} (htg : (pc : Int) + off = (t : Int)) (hd : decode cc pc = .ok (.if_icmp .ge off, 3)) (hn : n = pc + 3) : ∀ lv st S, i_icmp (fun a b => a ≥ b) t n lv st S (OK p l e R s m args below meth c Q D cA A ci ly ja AD rel nL) → (OK p l e R s m args below meth c Q D cA A ci ly ja AD rel nL) pc lv st S := by
  intro lv st S h
  subst hn
  rcases st with _ | ⟨b | b | b | b, st⟩
  · exact h.elim
  · rcases st with _ | ⟨a | a | a | a, r⟩
    · exact h.elim
    · obtain ⟨⟨hr1, hr2⟩, ht, hf⟩ := h
      intro ad ha H locs ls cells slots hr hP hD hS hL
      exact lv_icmp_ge hx hb hd htg (fun z => ht ((iI_le hr2 hr1).mp z) ad ha H locs ls cells slots hr hP hD hS hL) (fun z => hf (fun y => z ((iI_le hr2 hr1).mpr y)) ad ha H locs ls cells slots hr hP hD hS hL)
    · exact h.elim
    · exact h.elim
    · exact h.elim
  · exact h.elim
  · exact h.elim
  · exact h.elim
theorem s_if_ge (hx : p.tables.exec = Jvm.exec) (hb : c.code = cc) {off : Int} {t : Nat} (htg : (pc : Int) + off = (t : Int)) (hd : decode cc pc = .ok (.ifCond .ge off, 3)) (hn : n = pc + 3) : ∀ lv st S, i_if (fun a => a ≥ 0) t n lv st S (OK p l e R s m args below meth c Q D cA A ci ly ja AD rel nL) → (OK p l e R s m args below meth c Q D cA A ci ly ja AD rel nL) pc lv st S := by
  intro lv st S h
  subst hn
  rcases st with _ | ⟨a | x | d | k9, r⟩
  · exact h.elim
  · obtain ⟨hr1, ht, hf⟩ := h
    intro ad ha H locs ls cells slots hr hP hD hS hL
    refine lv_if_ge hx hb hd htg (fun z => ?_) (fun z => ?_)
    · rw [← iI_0] at z
      exact ht ((iI_le rng0 hr1).mp z) ad ha H locs ls cells slots hr hP hD hS hL
    · rw [← iI_0] at z
      exact hf (fun y => z ((iI_le rng0 hr1).mpr y)) ad ha H locs ls cells slots hr hP hD hS hL
  · exact h.elim
  · exact h.elim
  · exact h.elim
theorem s_icmp_gt (hx : p.tables.exec = Jvm.exec) (hb : c.code = cc) {off : Int} {t : Nat} (htg : (pc : Int) + off = (t : Int)) (hd : decode cc pc = .ok (.if_icmp .gt off, 3)) (hn : n = pc + 3) : ∀ lv st S, i_icmp (fun a b => a > b) t n lv st S (OK p l e R s m args below meth c Q D cA A ci ly ja AD rel nL) → (OK p l e R s m args below meth c Q D cA A ci ly ja AD rel nL) pc lv st S := by
  intro lv st S h
  subst hn
  rcases st with _ | ⟨b | b | b | b, st⟩
  · exact h.elim
  · rcases st with _ | ⟨a | a | a | a, r⟩
    · exact h.elim
    · obtain ⟨⟨hr1, hr2⟩, ht, hf⟩ := h
      intro ad ha H locs ls cells slots hr hP hD hS hL
      exact lv_icmp_gt hx hb hd htg (fun z => ht ((iI_lt hr2 hr1).mp z) ad ha H locs ls cells slots hr hP hD hS hL) (fun z => hf (fun y => z ((iI_lt hr2 hr1).mpr y)) ad ha H locs ls cells slots hr hP hD hS hL)
    · exact h.elim
    · exact h.elim
    · exact h.elim
  · exact h.elim
  · exact h.elim
  · exact h.elim
theorem s_if_gt (hx : p.tables.exec = Jvm.exec) (hb : c.code = cc) {off : Int} {t : Nat} (htg : (pc : Int) + off = (t : Int)) (hd : decode cc pc = .ok (.ifCond .gt off, 3)) (hn : n = pc + 3) : ∀ lv st S, i_if (fun a => a > 0) t n lv st S (OK p l e R s m args below meth c Q D cA A ci ly ja AD rel nL) → (OK p l e R s m args below meth c Q D cA A ci ly ja AD rel nL) pc lv st S := by
  intro lv st S h
  subst hn
  rcases st with _ | ⟨a | x | d | k9, r⟩
  · exact h.elim
  · obtain ⟨hr1, ht, hf⟩ := h
    intro ad ha H locs ls cells slots hr hP hD hS hL
    refine lv_if_gt hx hb hd htg (fun z => ?_) (fun z => ?_)
    · rw [← iI_0] at z
      exact ht ((iI_lt rng0 hr1).mp z) ad ha H locs ls cells slots hr hP hD hS hL
    · rw [← iI_0] at z
      exact hf (fun y => z ((iI_lt rng0 hr1).mpr y)) ad ha H locs ls cells slots hr hP hD hS hL
  · exact h.elim
  · exact h.elim
  · exact h.elim
theorem s_icmp_le (hx : p.tables.exec = Jvm.exec) (hb : c.code = cc) {off : Int} {t : Nat} (htg : (pc : Int) + off = (t : Int)) (hd : decode cc pc = .ok (.if_icmp .le off, 3)) (hn : n = pc + 3) : ∀ lv st S, i_icmp (fun a b => a ≤ b) t n lv st S (OK p l e R s m args below meth c Q D cA A ci ly ja AD rel nL) → (OK p l e R s m args below meth c Q D cA A ci ly ja AD rel nL) pc lv st S := by
  intro lv st S h
  subst hn
  rcases st with _ | ⟨b | b | b | b, st⟩
  · exact h.elim
  · rcases st with _ | ⟨a | a | a | a, r⟩
    · exact h.elim
    · obtain ⟨⟨hr1, hr2⟩, ht, hf⟩ := h
      intro ad ha H locs ls cells slots hr hP hD hS hL
      exact lv_icmp_le hx hb hd htg (fun z => ht ((iI_le hr1 hr2).mp z) ad ha H locs ls cells slots hr hP hD hS hL) (fun z => hf (fun y => z ((iI_le hr1 hr2).mpr y)) ad ha H locs ls cells slots hr hP hD hS hL)
    · exact h.elim
    · exact h.elim
    · exact h.elim
  · exact h.elim
  · exact h.elim
  · exact h.elim
theorem s_if_le (hx : p.tables.exec = Jvm.exec) (hb : c.code = cc) {off : Int} {t : Nat} (htg : (pc : Int) + off = (t : Int)) (hd : decode cc pc = .ok (.ifCond .le off, 3)) (hn : n = pc + 3) : ∀ lv st S, i_if (fun a => a ≤ 0) t n lv st S (OK p l e R s m args below meth c Q D cA A ci ly ja AD rel nL) → (OK p l e R s m args below meth c Q D cA A ci ly ja AD rel nL) pc lv st S := by
  intro lv st S h
  subst hn
  rcases st with _ | ⟨a | x | d | k9, r⟩
  · exact h.elim
  · obtain ⟨hr1, ht, hf⟩ := h
    intro ad ha H locs ls cells slots hr hP hD hS hL
    refine lv_if_le hx hb hd htg (fun z => ?_) (fun z => ?_)
    · rw [← iI_0] at z
      exact ht ((iI_le hr1 rng0).mp z) ad ha H locs ls cells slots hr hP hD hS hL
    · rw [← iI_0] at z
      exact hf (fun y => z ((iI_le hr1 rng0).mpr y)) ad ha H locs ls cells slots hr hP hD hS hL
  · exact h.elim
  · exact h.elim
  · exact h.elim
theorem s_goto (hx : p.tables.exec = Jvm.exec) (hb : c.code = cc) {off : Int} {t : Nat} (htg : (pc : Int) + off = (t : Int)) (hd : decode cc pc = .ok (.goto off, 3)) : ∀ lv st S, i_goto t lv st S (OK p l e R s m args below meth c Q D cA A ci ly ja AD rel nL) → (OK p l e R s m args below meth c Q D cA A ci ly ja AD rel nL) pc lv st S := by
  intro lv st S h
  intro ad ha H locs ls cells slots hr hP hD hS hL
  exact lv_goto hx hb hd htg (h ad ha H locs ls cells slots hr hP hD hS hL)
theorem s_switch (hx : p.tables.exec = Jvm.exec) (hb : c.code = cc) {dflt lo hi : Int} {offs : Array Int} {len d : Nat} {ts : List (Int × Nat)} (hd : decode cc pc = .ok (.tableswitch dflt lo hi offs, len)) (hdf : (pc : Int) + dflt = (d : Int)) (hts : ∀ q ∈ ts, lo ≤ q.1 ∧ q.1 ≤ hi ∧ ∃ off, offs[(q.1 - lo).toNat]? = some off ∧ (pc : Int) + off = (q.2 : Int)) (hall : ∀ a : Int, lo ≤ a → a ≤ hi → ∃ q ∈ ts, q.1 = a) : ∀ lv st S, i_switch ts d lv st S (OK p l e R s m args below meth c Q D cA A ci ly ja AD rel nL) → (OK p l e R s m args below meth c Q D cA A ci ly ja AD rel nL) pc lv st S := by
  intro lv st S h
  rcases st with _ | ⟨a | x | d | k9, r⟩
  · exact h.elim
  · obtain ⟨hr1, h⟩ := h
    intro ad ha H locs ls cells slots hr hP hD hS hL
    have key : ∀ ts' : List (Int × Nat), (∀ q ∈ ts', q ∈ ts) → tsw (OK p l e R s m args below meth c Q D cA A ci ly ja AD rel nL) lv r S a d ts' → (∃ q ∈ ts', q.1 = a ∧ (OK p l e R s m args below meth c Q D cA A ci ly ja AD rel nL) q.2 lv r S) ∨ ((∀ q ∈ ts', q.1 ≠ a) ∧ (OK p l e R s m args below meth c Q D cA A ci ly ja AD rel nL) d lv r S) := by
      intro ts'
      induction ts' with
      | nil => intro _ z; exact Or.inr ⟨fun q hq => (by cases hq), z⟩
      | cons q qs ih =>
        intro hm z
        obtain ⟨k, t⟩ := q
        by_cases hk : a = k
        · exact Or.inl ⟨(k, t), List.mem_cons_self, hk.symm, z.1 hk⟩
        · rcases ih (fun q hq => hm q (List.mem_cons_of_mem _ hq)) (z.2 hk) with ⟨q, h1, h2⟩ | ⟨h1, h2⟩
          · exact Or.inl ⟨q, List.mem_cons_of_mem _ h1, h2⟩
          · refine Or.inr ⟨fun q hq => ?_, h2⟩
            rcases List.mem_cons.mp hq with rfl | hq
            · exact fun e => hk e.symm
            · exact h1 q hq
    have hai : (iI a).toInt = a := iI_toInt hr1
    rcases key ts (fun q hq => hq) h with ⟨q, hq, hqa, hw⟩ | ⟨hno, hw⟩
    · obtain ⟨h1, h2, off, h3, h4⟩ := hts q hq
      subst hqa
      exact lv_tableIn hx hb hd (by rw [hai]; omega) (by rw [hai]; omega) (by rw [hai]; exact h3) h4 (hw ad ha H locs ls cells slots hr hP hD hS hL)
    · refine lv_tableOut hx hb hd ?_ hdf (hw ad ha H locs ls cells slots hr hP hD hS hL)
      rw [hai]
      rcases Int.lt_or_le a lo with q | q
      · exact Or.inl q
      · rcases Int.lt_or_le hi a with q2 | q2
        · exact Or.inr q2
        · obtain ⟨z, hz, hza⟩ := hall a q q2
          exact absurd hza (hno z hz)
  · exact h.elim
  · exact h.elim
  · exact h.elim
theorem s_getI (hx : p.tables.exec = Jvm.exec) (hb : c.code = cc) {C : String} {T : u_T} {N index k : Nat} {Ts : List Cond} (hts : ∀ w ∈ Ts, w.before args s = true) (hin : ∀ w ∈ u_ws C T N, w ∈ Ts) (hown : s.vm.findClass C = some m.cls) (hK : va_K D vwCl [(cA, .int)] s) (hc : vwCl[ci]? = some (C, T, N)) (hk : k < N) (hlink : (Cond.fieldLink C index C (T k).2.1 (T k).2.2.1).before args s = true) (hsame : (T k).1 = C) (hd : decode cc pc = .ok (.getfield index, 3)) (hn : n = pc + 3) (hly : ly[k]? = some false) : ∀ lv st S, i_getI k n lv st S (OK p l e R s m args below meth c Q D cA A ci ly ja AD rel nL) → (OK p l e R s m args below meth c Q D cA A ci ly ja AD rel nL) pc lv st S := by
  intro lv st S h
  subst hn
  rcases st with _ | ⟨a | x | d | k9, r⟩
  · exact h.elim
  · exact h.elim
  · exact h.elim
  · exact h.elim
  · cases k9 with
    | succ k8 => exact h.elim
    | zero =>
      intro ad ha H locs ls cells slots hr hP hD hS hL
      exact va_get hx hb hts hin hown hK hP 0 rfl hc k hk hlink (fun _ h9 => by rw [hsame] at h9; exact h9) (o_f_get hly) hd (h ad ha H locs ls cells slots hr hP hD hS hL)
theorem s_getA (hx : p.tables.exec = Jvm.exec) (hb : c.code = cc) {C : String} {T : u_T} {N index k : Nat} {Ts : List Cond} (hts : ∀ w ∈ Ts, w.before args s = true) (hin : ∀ w ∈ u_ws C T N, w ∈ Ts) (hown : s.vm.findClass C = some m.cls) (hK : va_K D vwCl [(cA, .int)] s) (hc : vwCl[ci]? = some (C, T, N)) (hk : k < N) (hlink : (Cond.fieldLink C index C (T k).2.1 (T k).2.2.1).before args s = true) (hsame : (T k).1 = C) (hd : decode cc pc = .ok (.getfield index, 3)) (hn : n = pc + 3) (hly : ly[k]? = some true) (hk9 : k < 99) : ∀ lv st S, i_getA k n lv st S (OK p l e R s m args below meth c Q D cA A ci ly ja AD rel nL) → (OK p l e R s m args below meth c Q D cA A ci ly ja AD rel nL) pc lv st S := by
  intro lv st S h
  subst hn
  rcases st with _ | ⟨a | x | d | k9, r⟩
  · exact h.elim
  · exact h.elim
  · exact h.elim
  · exact h.elim
  · cases k9 with
    | succ k8 => exact h.elim
    | zero =>
      intro ad ha H locs ls cells slots hr hP hD hS hL
      exact va_get hx hb hts hin hown hK hP 0 rfl hc k hk hlink (fun _ h9 => by rw [hsame] at h9; exact h9) (o_f_get hly) hd (h ad ha H locs ls cells slots hr hP hD hS hL)
theorem s_putI (hx : p.tables.exec = Jvm.exec) (hb : c.code = cc) {C : String} {T : u_T} {N index k : Nat} {Ts : List Cond} (hts : ∀ w ∈ Ts, w.before args s = true) (hin : ∀ w ∈ u_ws C T N, w ∈ Ts) (hown : s.vm.findClass C = some m.cls) (hK : va_K D vwCl [(cA, .int)] s) (hc : vwCl[ci]? = some (C, T, N)) (hk : k < N) (hlink : (Cond.fieldLink C index C (T k).2.1 (T k).2.2.1).before args s = true) (hsame : (T k).1 = C) (ty0 : Nat → FieldType) (hty : ∀ k, k < N → parseFieldDescriptor (T k).2.2.1 = some (ty0 k)) (hnm : ∀ a, a < N → ∀ b, b < N → a ≠ b → (T a).2.1 ≠ (T b).2.1) (hfin : (T k).2.2.2 = false) (hdsc : parseFieldDescriptor (T k).2.2.1 = some .int) (hd : decode cc pc = .ok (.putfield index, 3)) (hn : n = pc + 3) (hly : ly[k]? = some false) : ∀ lv st S, i_putI k n lv st S (OK p l e R s m args below meth c Q D cA A ci ly ja AD rel nL) → (OK p l e R s m args below meth c Q D cA A ci ly ja AD rel nL) pc lv st S := by
  intro lv st S h
  subst hn
  rcases st with _ | ⟨v | x | d | k9, st⟩
  · exact h.elim
  · rcases st with _ | ⟨a | x | d | k9, r⟩
    · exact h.elim
    · exact h.elim
    · exact h.elim
    · exact h.elim
    · cases k9 with
      | succ k8 => exact h.elim
      | zero =>
        intro ad ha H locs ls cells slots hr hP hD hS hL
        refine va_put hx hb hts hin ty0 hty hnm hown hK hP hD hS 0 rfl hc k hk hlink (fun _ h9 => by rw [hsame] at h9; exact h9) hfin (ty := .int) (v := .int (iI v)) hdsc rfl rfl (by unfold o_f; rw [List.length_mapIdx]; exact (List.getElem?_eq_some_iff.mp hly).1) hd (fun H1 locs1 hP1 hD1 hS1 => ?_)
        have hw : (wdO cA ci ly ja ad S).set 0 (ad 0, .inr (ci, (o_f ad S ly).set k (.int (iI v)))) = wdO cA ci ly ja ad (pF S k v) := by
          rw [o_f_set hly]; rfl
        rw [hw] at hP1 hD1
        exact h ad ha H1 locs1 ls cells slots hr hP1 hD1 hS1 hL
  · exact h.elim
  · exact h.elim
  · exact h.elim
theorem s_iald (hx : p.tables.exec = Jvm.exec) (hb : c.code = cc) {ln : Nat → Nat} (hK : va_K D vwCl [(cA, .int)] s) (hln : ∀ k : Nat, 0 < ln k → ln k ≤ 2000 ∧ ∃ t : Nat, ja[t]? = some (k, ln k)) (hd : decode cc pc = .ok (.iaload, 1)) (hn : n = pc + 1) : ∀ lv st S, i_iald ln n lv st S (OK p l e R s m args below meth c Q D cA A ci ly ja AD rel nL) → (OK p l e R s m args below meth c Q D cA A ci ly ja AD rel nL) pc lv st S := by
  intro lv st S h
  subst hn
  rcases st with _ | ⟨i | x | d | k9, st⟩
  · exact h.elim
  · skip
    rcases st with _ | ⟨a | x | d | k, r⟩
    · exact h.elim
    · exact h.elim
    · exact h.elim
    · exact h.elim
    · obtain ⟨⟨h0, h1⟩, h⟩ := h
      intro ad ha H locs ls cells slots hr hP hD hS hL
      obtain ⟨h2, t, ht⟩ := hln k (by omega)
      refine va_iald hx hb hK hP (t + 1) 0 (wd_get ht) rfl (iI_in h0 h1 h2) hd ?_
      rw [iI_cl h0 (by omega)]
      exact h ad ha H locs ls cells slots hr hP hD hS hL
  · exact h.elim
  · exact h.elim
  · exact h.elim
theorem s_iast (hx : p.tables.exec = Jvm.exec) (hb : c.code = cc) {ln : Nat → Nat} (hK : va_K D vwCl [(cA, .int)] s) (hln : ∀ k : Nat, 0 < ln k → ln k ≤ 2000 ∧ ∃ t : Nat, ja[t]? = some (k, ln k)) (hu : ∀ (a b : Nat) (q q' : Nat × Nat), ja[a]? = some q → ja[b]? = some q' → q.1 = q'.1 → a = b) (hd : decode cc pc = .ok (.iastore, 1)) (hn : n = pc + 1) : ∀ lv st S, i_iast ln n lv st S (OK p l e R s m args below meth c Q D cA A ci ly ja AD rel nL) → (OK p l e R s m args below meth c Q D cA A ci ly ja AD rel nL) pc lv st S := by
  intro lv st S h
  subst hn
  rcases st with _ | ⟨v | x | d | k9, st⟩
  · exact h.elim
  · skip
    rcases st with _ | ⟨i | x | d | k9, st⟩
    · exact h.elim
    · skip
      rcases st with _ | ⟨a | x | d | k, r⟩
      · exact h.elim
      · exact h.elim
      · exact h.elim
      · exact h.elim
      · obtain ⟨⟨h0, h1⟩, h⟩ := h
        intro ad ha H locs ls cells slots hr hP hD hS hL
        obtain ⟨h2, t, ht⟩ := hln k (by omega)
        refine va_iast hx hb hK hP hD hS (t + 1) 0 (wd_get ht) rfl (iI_in h0 h1 h2) hd (fun H1 locs1 hP1 hD1 hS1 => ?_)
        rw [iI_cl h0 (by omega), wd_set ht hu] at hP1 hD1
        exact h ad ha H1 locs1 ls cells slots hr hP1 hD1 hS1 hL
    · exact h.elim
    · exact h.elim
    · exact h.elim
  · exact h.elim
  · exact h.elim
  · exact h.elim
theorem s_tald (hx : p.tables.exec = Jvm.exec) (hb : c.code = cc) (hK : va_K D vwCl [(cA, .int)] s) (hd : decode cc pc = .ok (.iaload, 1)) (hn : n = pc + 1) : ∀ lv st S, i_tald n lv st S (OK p l e R s m args below meth c Q D cA A ci ly ja AD rel nL) → (OK p l e R s m args below meth c Q D cA A ci ly ja AD rel nL) pc lv st S := by
  intro lv st S h
  subst hn
  unfold i_tald at h
  split at h
  · rename_i i r
    obtain ⟨⟨h0, h1⟩, h⟩ := h
    intro ad ha H locs ls cells slots hr hP hD hS hL
    have hlt : ∃ q, S.2.2.1 = some q ∧ i < (q.1 : Int) ∧ q.1 ≤ 2000 ∧ tget S i.toNat = q.2 i.toNat := by
      unfold tlen at h1
      cases hq : S.2.2.1 with
      | none => rw [hq] at h1; have h3 := h1.1; simp only at h3; omega
      | some q => rw [hq] at h1; exact ⟨q, rfl, h1.1, by have h3 : (q.1 : Nat) ≤ 100 := h1.2; omega, by unfold tget; rw [hq]⟩
    obtain ⟨q, hq, hi, hsz, hg⟩ := hlt
    refine va_iald hx hb hK hP (ja.length + 1) 0 (wd_tget hq) rfl (iI_in h0 hi hsz) hd ?_
    rw [iI_cl h0 (by omega), ← hg]
    exact h ad ha H locs ls cells slots hr hP hD hS hL
  · exact h.elim
theorem s_tast (hx : p.tables.exec = Jvm.exec) (hb : c.code = cc) (hK : va_K D vwCl [(cA, .int)] s) (hd : decode cc pc = .ok (.iastore, 1)) (hn : n = pc + 1) : ∀ lv st S, i_tast n lv st S (OK p l e R s m args below meth c Q D cA A ci ly ja AD rel nL) → (OK p l e R s m args below meth c Q D cA A ci ly ja AD rel nL) pc lv st S := by
  intro lv st S h
  subst hn
  unfold i_tast at h
  split at h
  · rename_i v i r
    obtain ⟨⟨h0, h1⟩, h⟩ := h
    intro ad ha H locs ls cells slots hr hP hD hS hL
    have hlt : ∃ q, S.2.2.1 = some q ∧ i < (q.1 : Int) ∧ q.1 ≤ 2000 ∧ tget S i.toNat = q.2 i.toNat := by
      unfold tlen at h1
      cases hq : S.2.2.1 with
      | none => rw [hq] at h1; have h3 := h1.1; simp only at h3; omega
      | some q => rw [hq] at h1; exact ⟨q, rfl, h1.1, by have h3 : (q.1 : Nat) ≤ 100 := h1.2; omega, by unfold tget; rw [hq]⟩
    obtain ⟨q, hq, hi, hsz, hg⟩ := hlt
    refine va_iast hx hb hK hP hD hS (ja.length + 1) 0 (wd_tget hq) rfl (iI_in h0 hi hsz) hd (fun H1 locs1 hP1 hD1 hS1 => ?_)
    rw [iI_cl h0 (by omega), wd_tset hq] at hP1 hD1
    exact h ad ha H1 locs1 ls cells slots hr hP1 hD1 hS1 hL
  · exact h.elim
theorem s_tnew (hx : p.tables.exec = Jvm.exec) (hb : c.code = cc) {w K M : Nat} (hAD : ∀ ad q, AD ad → AD (va_up ad 99 q)) (hK : va_K D vwCl [(cA, .int)] s) (hA : ∀ q, s.heap.size ≤ q → A q) (hRc : K ≤ R.cells) (hRs : M ≤ R.slots) (hrel : rel = relA K M) (harr : (Cond.arrayClass .int).before args s = true) (hly9 : ly.length ≤ 99) (hja : ∀ z ∈ ja, z.1 ≠ 99) (hd : decode cc pc = .ok (.newarray .int, 2)) (hn : n = pc + 2) : ∀ lv st S, i_tnew w K M n lv st S (OK p l e R s m args below meth c Q D cA A ci ly ja AD rel nL) → (OK p l e R s m args below meth c Q D cA A ci ly ja AD rel nL) pc lv st S := by
  intro lv st S h
  subst hn
  unfold i_tnew at h
  split at h
  · rename_i a
    obtain ⟨⟨rfl, hT, hw, hlv, hc1, hc2⟩, h⟩ := h
    intro ad ha H locs ls cells slots hr hP hD hS hL
    subst hrel
    obtain ⟨rfl, rfl, hc3, hc4⟩ := hr
    refine va_newa hx hb (atype := .int) (ty := .int) (a0 := (w, .inl (fun _ => iI 0))) harr rfl hK hP hD hS hA (fun _ => by rw [iI_0]; rfl) (N' := w) (by rw [← iI_0, iI_lt ⟨by omega, by omega⟩ rng0]; omega) (by rw [iI_cl (by omega) (by omega)]; omega) (by show w * 4 ≤ _; omega) (by omega) (by omega) hd (fun q cA' H1 hK1 hP1 hD1 hS1 => ?_)
    have hcA : cA' = cA := by
      have h1 : s.vm.findClass ("[" ++ FieldType.int.toString) = some cA' := (hK1.2 1 (cA', .int) rfl).2
      have h2 : s.vm.findClass ("[" ++ FieldType.int.toString) = some cA := (hK.2 0 (cA, .int) rfl).2
      exact Option.some.inj (h1.symm.trans h2)
    subst hcA
    have hcc : ∀ v : AV, v ≠ vR 99 → conc (va_up ad 99 q) v = conc ad v := by
      intro v hv
      rcases v with a | x | d | k9
      · rfl
      · rfl
      · rfl
      · have hk : k9 ≠ 99 := fun e => hv (by subst e; rfl)
        show Value.ref (va_up ad 99 q k9) = Value.ref (ad k9)
        simp [va_up, hk]
    have hw2 : wdO cA' ci ly ja ad S ++ [(q, .inl (cA', (w, .inl (fun _ => iI 0))))] = wdO cA' ci ly ja (va_up ad 99 q) (tnew S w) := by
      unfold wdO tw
      rw [hT]
      have e1 : o_f (va_up ad 99 q) (tnew S w) ly = o_f ad S ly := by
        unfold o_f
        apply List.ext_getElem?
        intro i
        simp only [List.getElem?_mapIdx]
        cases hb9 : ly[i]? with
        | none => rfl
        | some b =>
          cases b with
          | false => rfl
          | true =>
            have hi : i ≠ 99 := fun e => by
              subst e
              have := (List.getElem?_eq_some_iff.mp hb9).1
              omega
            simp [va_up, hi]
      have e2 : ja.map (o_r cA' (va_up ad 99 q) (tnew S w)) = ja.map (o_r cA' ad S) := by
        apply List.map_congr_left
        intro z hz
        have hi := hja z hz
        unfold o_r
        simp [va_up, hi, gA, tnew]
      rw [e1, e2]
      have e3 : va_up ad 99 q 0 = ad 0 := by simp [va_up]
      have e4 : va_up ad 99 q 99 = q := by simp [va_up]
      simp only [tnew, e3, e4, List.append_nil, List.cons_append, List.append_assoc]
    rw [hw2] at hP1 hD1
    have hk99 : va_up ad 99 q 99 = q := by simp [va_up]
    have h9 := h (va_up ad 99 q) (hAD ad q ha) H1 locs ls _ _ ⟨rfl, rfl, hc1, hc2⟩ hP1 hD1 hS1 ⟨hL.1, hL.2.1, fun i v hv => by
      have h5 := hL.2.2 i v hv
      rw [hcc v (fun e => hlv (some v) (by
        have h6 := lget_mem hv
        exact h6) (by rw [e]))]
      exact h5⟩
    have h10 : List.map (conc (va_up ad 99 q)) [vR 99] = [Value.ref q] := by
      show [Value.ref (va_up ad 99 q 99)] = _
      rw [hk99]
    rw [h10] at h9
    exact h9
  · exact h.elim
end SND
