/-! THE LAW'S WORLD: pieces side by side; one of them changes -/
theorem nth_l {α : Type} {a b : List α} {i : Nat} {x : α} (h : a[i]? = some x) : (a ++ b)[i]? = some x := by
  rw [List.getElem?_append_left (List.getElem?_eq_some_iff.mp h).1]; exact h
theorem nth_r {α : Type} {a b : List α} {i : Nat} {x : α} (h : b[i]? = some x) : (a ++ b)[a.length + i]? = some x := by
  rw [List.getElem?_append_right (Nat.le_add_right _ _), Nat.add_sub_cancel_left]; exact h
section WLD
variable {D : va_G} {cl : List vw_C} {A : Nat → Prop} {a b b' c : va_W} {H H1 : Heap}
theorem wP_l (h : va_P D cl (a ++ b) H) : va_P D cl a H := fun k q hq => h k q (nth_l hq)
theorem wP_r (h : va_P D cl (a ++ b) H) : va_P D cl b H := fun k q hq => h _ q (nth_r hq)
theorem wD_l (h : va_D A (a ++ b)) : va_D A a := ⟨fun i j p q hi hj e => h.1 i j p q (nth_l hi) (nth_l hj) e, fun k q hq => h.2 k q (nth_l hq)⟩
theorem wD_r (h : va_D A (a ++ b)) : va_D A b := ⟨fun i j p q hi hj e => by have := h.1 _ _ p q (nth_r (a := a) hi) (nth_r (a := a) hj) e; omega, fun k q hq => h.2 _ q (nth_r hq)⟩
theorem wD_x (h : va_D A (a ++ b)) {i j : Nat} {p q : Nat × va_E} (hi : a[i]? = some p) (hj : b[j]? = some q) : p.1 ≠ q.1 := by
  intro e
  have h1 := h.1 i (a.length + j) p q (nth_l hi) (nth_r hj) e
  have h2 := (List.getElem?_eq_some_iff.mp hi).1
  omega
theorem w_mid (hP : va_P D cl (a ++ (b ++ c)) H) (hD : va_D A (a ++ (b ++ c))) (hA : ∀ q, H.size ≤ q → A q) (hP1 : va_P D cl b' H1) (hD1 : va_D (va_A b H.size) b') (hk : ∀ q : Nat, q < H.size → ¬ va_A b H.size q → H1[q]? = H[q]?) : va_P D cl (a ++ (b' ++ c)) H1 ∧ va_D A (a ++ (b' ++ c)) := by
  have na : ∀ (i : Nat) (p : Nat × va_E), a[i]? = some p → ¬ va_A b H.size p.1 := by
    rintro i p hi (⟨k, e, hk2⟩ | h2)
    · exact wD_x (q := (p.1, e)) hD hi (nth_l hk2) rfl
    · have := (wP_l hP i p hi).lt
      omega
  have nc : ∀ (i : Nat) (p : Nat × va_E), c[i]? = some p → ¬ va_A b H.size p.1 := by
    rintro i p hi (⟨k, e, hk2⟩ | h2)
    · exact wD_x (p := (p.1, e)) (wD_r hD) hk2 hi rfl
    · have := (wP_r (wP_r hP) i p hi).lt
      omega
  have bA : va_D A b' := hD1.weaken (fun k q hq z => by
    rcases z with ⟨k2, e, hk2⟩ | h2
    · exact hD.2 _ (q.1, e) (nth_r (nth_l hk2))
    · exact hA _ h2)
  refine ⟨(va_P.kept (wP_l hP) (fun k q hq => hk _ (wP_l hP k q hq).lt (na k q hq))).app (hP1.app (va_P.kept (wP_r (wP_r hP)) (fun k q hq => hk _ (wP_r (wP_r hP) k q hq).lt (nc k q hq)))), (wD_l hD).app (bA.app (wD_r (wD_r hD)) (fun i j p q hi hj e => ?_)) (fun i j p q hi hj e => ?_)⟩
  · exact nc j q hj (e ▸ hD1.2 i p hi)
  · by_cases z : j < b'.length
    · rw [List.getElem?_append_left z] at hj
      exact na i p hi (e ▸ hD1.2 j q hj)
    · rw [List.getElem?_append_right (by omega)] at hj
      exact wD_x hD hi (nth_r hj) e
theorem w_rt (hP : va_P D cl (a ++ b) H) (hD : va_D A (a ++ b)) (hA : ∀ q, H.size ≤ q → A q) (hP1 : va_P D cl b' H1) (hD1 : va_D (va_A b H.size) b') (hk : ∀ q : Nat, q < H.size → ¬ va_A b H.size q → H1[q]? = H[q]?) : va_P D cl (a ++ b') H1 ∧ va_D A (a ++ b') := by
  have := w_mid (a := a) (b := b) (c := []) (b' := b') (by rw [List.append_nil]; exact hP) (by rw [List.append_nil]; exact hD) hA hP1 hD1 hk
  rw [List.append_nil] at this
  exact this
theorem w_lt (hP : va_P D cl (b ++ c) H) (hD : va_D A (b ++ c)) (hA : ∀ q, H.size ≤ q → A q) (hP1 : va_P D cl b' H1) (hD1 : va_D (va_A b H.size) b') (hk : ∀ q : Nat, q < H.size → ¬ va_A b H.size q → H1[q]? = H[q]?) : va_P D cl (b' ++ c) H1 ∧ va_D A (b' ++ c) := w_mid (a := []) (b := b) (c := c) hP hD hA hP1 hD1 hk
/-- what a piece may write is of the whole's -/
theorem wA_mid (hD : va_D A (a ++ (b ++ c))) (hA : ∀ q, H.size ≤ q → A q) : ∀ q, va_A b H.size q → A q := by
  rintro q (⟨k, e, hk⟩ | h)
  · exact hD.2 _ (q, e) (nth_r (nth_l hk))
  · exact hA q h
end WLD
/-- the row of the answer, and a class beside it -/
def ouE (cJ : ClassId) (ao : Nat) (o : Nat → Int64) : Nat × va_E := (ao, .inl (cJ, 1, .inr (.inl o)))
def wrW (cA cJ : ClassId) (ad : Nat → Nat) (ao : Nat) (S : ST) (o : Nat → Int64) : va_W := [ouE cJ ao o] ++ wdO cA 0 ly0 ja0 ad S
def ncs : List (String × String) := [("java/lang/IllegalStateException", "java/lang/IllegalArgumentException"), ("java/lang/IllegalStateException", "java/lang/IndexOutOfBoundsException")]
def PreW (D : va_G) (cA cJ : ClassId) (ad : Nat → Nat) (ao : Nat) (S : ST) (o : Nat → Int64) (sz : Nat) (U : State) : Prop := U.heap.size = sz ∧ va_P D vwCl (wrW cA cJ ad ao S o) U.heap ∧ va_K D vwCl [(cA, .int), (cJ, .long)] U ∧ va_D (fun _ => True) (wrW cA cJ ad ao S o) ∧ XEv RX0 xstrs (va_A (wrW cA cJ ad ao S o) sz) U ∧ ∀ q ∈ ncs, va_Nc q.1 q.2 U
def AtX (D : va_G) (cA cJ : ClassId) (ad : Nat → Nat) (ao : Nat) (A : Nat → Prop) (u : ST × (Nat → Int64)) (t : State) : Prop := va_P D vwCl (wrW cA cJ ad ao u.1 u.2) t.heap ∧ va_D A (wrW cA cJ ad ao u.1 u.2)
theorem preW_blind {D : va_G} {cA cJ : ClassId} {ad : Nat → Nat} {ao : Nat} {S : ST} {o : Nat → Int64} {sz : Nat} {av : List Value} : FrameBlind (va_Pc av (PreW D cA cJ ad ao S o sz)) := by
  intro a U g mk q
  obtain ⟨q0, q1, qP, qK, qD, qX, qN⟩ := q
  exact ⟨q0, q1, qP, va_K.moved (u := U) (U := U.calling g mk a) (Vm.Alike.refl U.vm) qK, qD, qX.calling, fun z hz => va_Nc.moved (u := U) (U := U.calling g mk a) (Vm.Alike.refl U.vm) (qN z hz)⟩
/-- the contracts of the law's own helpers: the class answers; it throws, and they answer k -/
def zI (a : Int) : Int64 := (iI a).toInt64
def zL (a : Int) : Int64 := if iI a = 0 then 0 else 1
def CtWok (n : Nat) (y : MethodName) (ws : List Cond) (rm : Room) (X : RI) (zf : Int → Int64) : Prop := ∀ (l : Launch), l.stackTraces = false → ∀ (D : va_G) (cA cJ : ClassId) (ad : Nat → Nat) (ao : Nat) (is : List Int) (S : ST) (o : Nat → Int64) (Q : Int → ST → Prop) (sz : Nat), is.length = n → X (vR 0 :: is.map vI) S Q nox →
  Met l y ws rm (va_Pc (.ref (ad 0) :: (is.map (fun i => Value.int (iI i)) ++ [.ref ao])) (PreW D cA cJ ad ao S o sz)) (va_Qi (fun (r : Int32) (u : ST × (Nat → Int64)) => r = 0 ∧ ∃ a : Int, Q a u.1 ∧ u.2 0 = zf a ∧ u.1.2.2.2 = S.2.2.2) (AtX D cA cJ ad ao (va_A (wrW cA cJ ad ao S o) sz)) (va_A (wrW cA cJ ad ao S o) sz)) 1 6 (va_A (wrW cA cJ ad ao S o) sz)
def CtWno (n : Nat) (y : MethodName) (ws : List Cond) (rm : Room) (X : RI) (E : String) (k : Int) : Prop := ∀ (l : Launch), l.stackTraces = false → ∀ (D : va_G) (cA cJ : ClassId) (ad : Nat → Nat) (ao : Nat) (is : List Int) (S : ST) (o : Nat → Int64) (sz : Nat), is.length = n → X (vR 0 :: is.map vI) S bo1 (eqx E S) →
  Met l y ws rm (va_Pc (.ref (ad 0) :: (is.map (fun i => Value.int (iI i)) ++ [.ref ao])) (PreW D cA cJ ad ao S o sz)) (va_Qi (fun (r : Int32) (u : ST × (Nat → Int64)) => r = iI k ∧ u = (S, o)) (AtX D cA cJ ad ao (va_A (wrW cA cJ ad ao S o) sz)) (va_A (wrW cA cJ ad ao S o) sz)) 1 6 (va_A (wrW cA cJ ad ao S o) sz)
theorem nw_at {w : Cond} {U : State} {args : Array Value} (ht : w.onTables = true) (h : va_Nw w U) : w.before args U = true := va_tabs ht rfl h
