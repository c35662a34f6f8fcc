/-! THE LAW'S BODY: its own operations over the machine; its calls -/
def wLw (cA cJ : ClassId) (ad0 : Nat → Nat) (ao : Nat) (ad1 : Nat → Nat) : (Nat → Nat) → LST → va_W := fun _ S => wrW cA cJ ad0 ao S.1 S.2.2.1 ++ wdO cA 1 ly1 ja1 ad1 S.2.1
def jwB (X : RI) (zf : Int → Int64) (es : List (String × Int)) (K M n : Nat) (is : List Int) (lv : LV) (r : List AV) (S : LST) (P : LPT) : Prop := sh4 r ∧ (S.2.2.2.1 + 1 ≤ K ∧ S.2.2.2.2 + 6 ≤ M) ∧ ((∃ Q, X (vR 0 :: is.map vI) S.1 Q nox ∧ ∀ v S' o', Q v S' → o' 0 = zf v → P n lv (vI 0 :: r) (S', S.2.1, o', S.2.2.2.1 + 1, S.2.2.2.2 + 6)) ∨ ∃ q ∈ es, X (vR 0 :: is.map vI) S.1 bo1 (eqx q.1 S.1) ∧ P n lv (vI q.2 :: r) (S.1, S.2.1, S.2.2.1, S.2.2.2.1 + 1, S.2.2.2.2 + 6))
theorem jwB_m {X : RI} {zf : Int → Int64} {es : List (String × Int)} {K M n : Nat} {is : List Int} {lv : LV} {r : List AV} {S : LST} {P P' : LPT} (h : ∀ pc lv st S, P pc lv st S → P' pc lv st S) (q : jwB X zf es K M n is lv r S P) : jwB X zf es K M n is lv r S P' := ⟨q.1, q.2.1, q.2.2.elim (fun ⟨Q, a, b⟩ => Or.inl ⟨Q, a, fun v S' o' h1 h2 => h _ _ _ _ (b v S' o' h1 h2)⟩) (fun ⟨z, a, b, d⟩ => Or.inr ⟨z, a, b, h _ _ _ _ d⟩)⟩
/-- the class (side 0) or the reference (side 1) is called: an int, a double, a long; with rows made -/
def jcB (X : RI) (n : Nat) (is : List Int) (lv : LV) (r : List AV) (S : LST) (P : LPT) : Prop := sh4 r ∧ ∃ Q, X (vR 0 :: is.map vI) S.1 Q nox ∧ ∀ v S', Q v S' → P n lv (vI v :: r) (S', S.2)
def jrB (X : RI) (n : Nat) (is : List Int) (lv : LV) (r : List AV) (S : LST) (P : LPT) : Prop := sh4 r ∧ ∃ Q, X (vR 0 :: is.map vI) S.2.1 Q nox ∧ ∀ v R', Q v R' → P n lv (vI v :: r) (S.1, R', S.2.2)
def jaB (X : RI) (k w K M n : Nat) (is : List Int) (lv : LV) (r : List AV) (S : LST) (P : LPT) : Prop := sh4 r ∧ (S.2.1.2.2.1 = none ∧ S.2.2.2.1 + k ≤ K ∧ S.2.2.2.2 + w ≤ M) ∧ ∃ Q, X (vR 0 :: is.map vI) (cut0 S.2.1) Q nox ∧ ∀ v R', Q v R' → P n lv (vI v :: r) (S.1, dropT R', S.2.2.1, S.2.2.2.1 + k, S.2.2.2.2 + w)
def jcdB (X : RD) (n : Nat) (lv : LV) (r : List AV) (S : LST) (P : LPT) : Prop := sh4 r ∧ ∃ Q, X [vR 0] S.1 Q nox ∧ ∀ v S', Q v S' → P n lv (vD v :: r) (S', S.2)
def jcjB (X : RJ) (n : Nat) (lv : LV) (r : List AV) (S : LST) (P : LPT) : Prop := sh4 r ∧ ∃ Q, X [vR 0] S.1 Q nox ∧ ∀ v S', Q v S' → P n lv (vL v :: r) (S', S.2)
def jadB (X : RD) (k w K M n : Nat) (lv : LV) (r : List AV) (S : LST) (P : LPT) : Prop := sh4 r ∧ (S.2.1.2.2.1 = none ∧ S.2.2.2.1 + k ≤ K ∧ S.2.2.2.2 + w ≤ M) ∧ ∃ Q, X [vR 0] (cut0 S.2.1) Q nox ∧ ∀ v R', Q v R' → P n lv (vD v :: r) (S.1, dropT R', S.2.2.1, S.2.2.2.1 + k, S.2.2.2.2 + w)
def jajB (X : RJ) (k w K M n : Nat) (lv : LV) (r : List AV) (S : LST) (P : LPT) : Prop := sh4 r ∧ (S.2.1.2.2.1 = none ∧ S.2.2.2.1 + k ≤ K ∧ S.2.2.2.2 + w ≤ M) ∧ ∃ Q, X [vR 0] (cut0 S.2.1) Q nox ∧ ∀ v R', Q v R' → P n lv (vL v :: r) (S.1, dropT R', S.2.2.1, S.2.2.2.1 + k, S.2.2.2.2 + w)
theorem jcB_m {X : RI} {n : Nat} {is : List Int} {lv : LV} {r : List AV} {S : LST} {P P' : LPT} (h : ∀ pc lv st S, P pc lv st S → P' pc lv st S) (q : jcB X n is lv r S P) : jcB X n is lv r S P' := ⟨q.1, q.2.elim (fun Q w => ⟨Q, w.1, fun v S' z => h _ _ _ _ (w.2 v S' z)⟩)⟩
theorem jrB_m {X : RI} {n : Nat} {is : List Int} {lv : LV} {r : List AV} {S : LST} {P P' : LPT} (h : ∀ pc lv st S, P pc lv st S → P' pc lv st S) (q : jrB X n is lv r S P) : jrB X n is lv r S P' := ⟨q.1, q.2.elim (fun Q w => ⟨Q, w.1, fun v S' z => h _ _ _ _ (w.2 v S' z)⟩)⟩
theorem jaB_m {X : RI} {k w K M n : Nat} {is : List Int} {lv : LV} {r : List AV} {S : LST} {P P' : LPT} (h : ∀ pc lv st S, P pc lv st S → P' pc lv st S) (q : jaB X k w K M n is lv r S P) : jaB X k w K M n is lv r S P' := ⟨q.1, q.2.1, q.2.2.elim (fun Q w => ⟨Q, w.1, fun v S' z => h _ _ _ _ (w.2 v S' z)⟩)⟩
theorem jcdB_m {X : RD} {n : Nat} {lv : LV} {r : List AV} {S : LST} {P P' : LPT} (h : ∀ pc lv st S, P pc lv st S → P' pc lv st S) (q : jcdB X n lv r S P) : jcdB X n lv r S P' := ⟨q.1, q.2.elim (fun Q w => ⟨Q, w.1, fun v S' z => h _ _ _ _ (w.2 v S' z)⟩)⟩
theorem jcjB_m {X : RJ} {n : Nat} {lv : LV} {r : List AV} {S : LST} {P P' : LPT} (h : ∀ pc lv st S, P pc lv st S → P' pc lv st S) (q : jcjB X n lv r S P) : jcjB X n lv r S P' := ⟨q.1, q.2.elim (fun Q w => ⟨Q, w.1, fun v S' z => h _ _ _ _ (w.2 v S' z)⟩)⟩
theorem jadB_m {X : RD} {k w K M n : Nat} {lv : LV} {r : List AV} {S : LST} {P P' : LPT} (h : ∀ pc lv st S, P pc lv st S → P' pc lv st S) (q : jadB X k w K M n lv r S P) : jadB X k w K M n lv r S P' := ⟨q.1, q.2.1, q.2.2.elim (fun Q w => ⟨Q, w.1, fun v S' z => h _ _ _ _ (w.2 v S' z)⟩)⟩
theorem jajB_m {X : RJ} {k w K M n : Nat} {lv : LV} {r : List AV} {S : LST} {P P' : LPT} (h : ∀ pc lv st S, P pc lv st S → P' pc lv st S) (q : jajB X k w K M n lv r S P) : jajB X k w K M n lv r S P' := ⟨q.1, q.2.1, q.2.2.elim (fun Q w => ⟨Q, w.1, fun v S' z => h _ _ _ _ (w.2 v S' z)⟩)⟩
def j_w1 (X : RI) (zf : Int → Int64) (es : List (String × Int)) (K M n : Nat) : LAI := fun lv st S P => match st with
  | .inr (.inr (.inr 2)) :: .inl a :: .inr (.inr (.inr 0)) :: r => jwB X zf es K M n [a] lv r S P
  | _ => False
theorem jm_w1 (X : RI) (zf : Int → Int64) (es : List (String × Int)) (K M n : Nat) : jMono (j_w1 X zf es K M n) := by
  intro P P' h lv st S q
  unfold j_w1 at q ⊢
  split at q <;> first | exact jwB_m h q | exact q.elim
theorem je_w1 {X : RI} {zf : Int → Int64} {es : List (String × Int)} {K M n : Nat} {a : Int} {lv : LV} {r : List AV} {S : LST} {P : LPT} : j_w1 X zf es K M n lv (vR 2 :: vI a :: vR 0 :: r) S P = jwB X zf es K M n [a] lv r S P := rfl
def j_w2 (X : RI) (zf : Int → Int64) (es : List (String × Int)) (K M n : Nat) : LAI := fun lv st S P => match st with
  | .inr (.inr (.inr 2)) :: .inl b :: .inl a :: .inr (.inr (.inr 0)) :: r => jwB X zf es K M n [a, b] lv r S P
  | _ => False
theorem jm_w2 (X : RI) (zf : Int → Int64) (es : List (String × Int)) (K M n : Nat) : jMono (j_w2 X zf es K M n) := by
  intro P P' h lv st S q
  unfold j_w2 at q ⊢
  split at q <;> first | exact jwB_m h q | exact q.elim
theorem je_w2 {X : RI} {zf : Int → Int64} {es : List (String × Int)} {K M n : Nat} {a b : Int} {lv : LV} {r : List AV} {S : LST} {P : LPT} : j_w2 X zf es K M n lv (vR 2 :: vI b :: vI a :: vR 0 :: r) S P = jwB X zf es K M n [a, b] lv r S P := rfl
def j_c0 (X : RI) (n : Nat) : LAI := fun lv st S P => match st with
  | .inr (.inr (.inr 0)) :: r => jcB X n [] lv r S P
  | _ => False
theorem jm_c0 (X : RI) (n : Nat) : jMono (j_c0 X n) := by
  intro P P' h lv st S q
  unfold j_c0 at q ⊢
  split at q <;> first | exact jcB_m h q | exact q.elim
theorem je_c0 {X : RI} {n : Nat} {lv : LV} {r : List AV} {S : LST} {P : LPT} : j_c0 X n lv (vR 0 :: r) S P = jcB X n [] lv r S P := rfl
def j_r0 (X : RI) (n : Nat) : LAI := fun lv st S P => match st with
  | .inr (.inr (.inr 1)) :: r => jrB X n [] lv r S P
  | _ => False
theorem jm_r0 (X : RI) (n : Nat) : jMono (j_r0 X n) := by
  intro P P' h lv st S q
  unfold j_r0 at q ⊢
  split at q <;> first | exact jrB_m h q | exact q.elim
theorem je_r0 {X : RI} {n : Nat} {lv : LV} {r : List AV} {S : LST} {P : LPT} : j_r0 X n lv (vR 1 :: r) S P = jrB X n [] lv r S P := rfl
def j_r1 (X : RI) (n : Nat) : LAI := fun lv st S P => match st with
  | .inl a :: .inr (.inr (.inr 1)) :: r => jrB X n [a] lv r S P
  | _ => False
theorem jm_r1 (X : RI) (n : Nat) : jMono (j_r1 X n) := by
  intro P P' h lv st S q
  unfold j_r1 at q ⊢
  split at q <;> first | exact jrB_m h q | exact q.elim
theorem je_r1 {X : RI} {n : Nat} {a : Int} {lv : LV} {r : List AV} {S : LST} {P : LPT} : j_r1 X n lv (vI a :: vR 1 :: r) S P = jrB X n [a] lv r S P := rfl
def j_r2 (X : RI) (n : Nat) : LAI := fun lv st S P => match st with
  | .inl b :: .inl a :: .inr (.inr (.inr 1)) :: r => jrB X n [a, b] lv r S P
  | _ => False
theorem jm_r2 (X : RI) (n : Nat) : jMono (j_r2 X n) := by
  intro P P' h lv st S q
  unfold j_r2 at q ⊢
  split at q <;> first | exact jrB_m h q | exact q.elim
theorem je_r2 {X : RI} {n : Nat} {a b : Int} {lv : LV} {r : List AV} {S : LST} {P : LPT} : j_r2 X n lv (vI b :: vI a :: vR 1 :: r) S P = jrB X n [a, b] lv r S P := rfl
def j_a1 (X : RI) (k w K M n : Nat) : LAI := fun lv st S P => match st with
  | .inl a :: .inr (.inr (.inr 1)) :: r => jaB X k w K M n [a] lv r S P
  | _ => False
theorem jm_a1 (X : RI) (k w K M n : Nat) : jMono (j_a1 X k w K M n) := by
  intro P P' h lv st S q
  unfold j_a1 at q ⊢
  split at q <;> first | exact jaB_m h q | exact q.elim
theorem je_a1 {X : RI} {k w K M n : Nat} {a : Int} {lv : LV} {r : List AV} {S : LST} {P : LPT} : j_a1 X k w K M n lv (vI a :: vR 1 :: r) S P = jaB X k w K M n [a] lv r S P := rfl
def j_a2 (X : RI) (k w K M n : Nat) : LAI := fun lv st S P => match st with
  | .inl b :: .inl a :: .inr (.inr (.inr 1)) :: r => jaB X k w K M n [a, b] lv r S P
  | _ => False
theorem jm_a2 (X : RI) (k w K M n : Nat) : jMono (j_a2 X k w K M n) := by
  intro P P' h lv st S q
  unfold j_a2 at q ⊢
  split at q <;> first | exact jaB_m h q | exact q.elim
theorem je_a2 {X : RI} {k w K M n : Nat} {a b : Int} {lv : LV} {r : List AV} {S : LST} {P : LPT} : j_a2 X k w K M n lv (vI b :: vI a :: vR 1 :: r) S P = jaB X k w K M n [a, b] lv r S P := rfl
def j_cd0 (X : RD) (n : Nat) : LAI := fun lv st S P => match st with
  | .inr (.inr (.inr 0)) :: r => jcdB X n lv r S P
  | _ => False
theorem jm_cd0 (X : RD) (n : Nat) : jMono (j_cd0 X n) := by
  intro P P' h lv st S q
  unfold j_cd0 at q ⊢
  split at q <;> first | exact jcdB_m h q | exact q.elim
theorem je_cd0 {X : RD} {n : Nat} {lv : LV} {r : List AV} {S : LST} {P : LPT} : j_cd0 X n lv (vR 0 :: r) S P = jcdB X n lv r S P := rfl
def j_cj0 (X : RJ) (n : Nat) : LAI := fun lv st S P => match st with
  | .inr (.inr (.inr 0)) :: r => jcjB X n lv r S P
  | _ => False
theorem jm_cj0 (X : RJ) (n : Nat) : jMono (j_cj0 X n) := by
  intro P P' h lv st S q
  unfold j_cj0 at q ⊢
  split at q <;> first | exact jcjB_m h q | exact q.elim
theorem je_cj0 {X : RJ} {n : Nat} {lv : LV} {r : List AV} {S : LST} {P : LPT} : j_cj0 X n lv (vR 0 :: r) S P = jcjB X n lv r S P := rfl
def j_ad0 (X : RD) (k w K M n : Nat) : LAI := fun lv st S P => match st with
  | .inr (.inr (.inr 1)) :: r => jadB X k w K M n lv r S P
  | _ => False
theorem jm_ad0 (X : RD) (k w K M n : Nat) : jMono (j_ad0 X k w K M n) := by
  intro P P' h lv st S q
  unfold j_ad0 at q ⊢
  split at q <;> first | exact jadB_m h q | exact q.elim
theorem je_ad0 {X : RD} {k w K M n : Nat} {lv : LV} {r : List AV} {S : LST} {P : LPT} : j_ad0 X k w K M n lv (vR 1 :: r) S P = jadB X k w K M n lv r S P := rfl
def j_aj0 (X : RJ) (k w K M n : Nat) : LAI := fun lv st S P => match st with
  | .inr (.inr (.inr 1)) :: r => jajB X k w K M n lv r S P
  | _ => False
theorem jm_aj0 (X : RJ) (k w K M n : Nat) : jMono (j_aj0 X k w K M n) := by
  intro P P' h lv st S q
  unfold j_aj0 at q ⊢
  split at q <;> first | exact jajB_m h q | exact q.elim
theorem je_aj0 {X : RJ} {k w K M n : Nat} {lv : LV} {r : List AV} {S : LST} {P : LPT} : j_aj0 X k w K M n lv (vR 1 :: r) S P = jajB X k w K M n lv r S P := rfl
theorem W_lcmp {p : Program} {l : Launch} {e : Env} {R : Room} {s : State} {m : MethodId} {args : Array Value} {below : List Frame} {meth : Method} {c : Code} {H : Heap} {locs : List Loc} {cells slots : Nat} {Q : State → Prop} {pc : Nat} {ls : Array Slot} {rest : List Value} {cc : ByteArray} (hexec : p.tables.exec = Jvm.exec) (hb : c.code = cc) {x : Int64} (hdg : decode cc pc = .ok (.lcmp, 1)) (k : W p l e R s m args below meth c H locs cells slots Q (F0 m (pc + 1) ls (.int 0 :: rest))) : W p l e R s m args below meth c H locs cells slots Q (F0 m pc ls (.long x :: .long x :: rest)) := by
  intro T hT X
  obtain ⟨t, a, b⟩ := k T hT X
  refine ⟨t, ?_, b⟩
  jvm_step X.here [X.here.top, hexec, hb, hdg]
  exact a
theorem and15_b (x : Int32) : ∃ b : Int, (0 ≤ b ∧ b < 16) ∧ x &&& iI 15 = iI b := by
  have h : (x &&& iI 15).toBitVec.toNat < 16 := by
    show (x.toBitVec &&& (iI 15).toBitVec).toNat < 16
    rw [BitVec.toNat_and]
    have : (iI 15).toBitVec.toNat = 15 := by decide
    rw [this]
    exact Nat.lt_of_le_of_lt Nat.and_le_right (by decide)
  refine ⟨((x &&& iI 15).toBitVec.toNat : Int), ⟨Int.natCast_nonneg _, by omega⟩, ?_⟩
  generalize x &&& iI 15 = y at h ⊢
  apply Int32.toBitVec_inj.mp
  show y.toBitVec = BitVec.ofInt 32 _
  apply BitVec.eq_of_toNat_eq
  rw [BitVec.ofInt_natCast, BitVec.toNat_ofNat]
  omega
section LCALL
variable {p : Program} {l : Launch} {e : Env} {R : Room} {s : State} {m : MethodId} {args : Array Value} {below : List Frame} {meth : Method} {c : Code} {Q : State → Prop}
variable {D : va_G} {cA cJ : ClassId} {A : Nat → Prop} {ci : Nat} {ly : List Bool} {ja : List (Nat × Nat)} {AD : (Nat → Nat) → Prop} {rel : Nat × Nat → Nat → Nat → Prop} {nL : Nat} {K M : Nat}
variable {cc : ByteArray} {pc n : Nat} {ad0 ad1 : Nat → Nat} {ao b : Nat}
theorem js_slen (hx : p.tables.exec = Jvm.exec) (hb : c.code = cc) (hg : ∀ ad, AD ad → ad 0 = ad0 0 ∧ ad 1 = ad1 0 ∧ ad 2 = ao ∧ ad 3 = b) {L : Nat} {xs : Nat → Int32} (hX : va_X b L xs s s.heap) (hbl : b < s.heap.size) (hbA : ¬ A b) (hL : L ≤ 1536) (hd : decode cc pc = .ok (.arraylength, 1)) (hn : n = pc + 1) : ∀ lv st S, ji_slen L n lv st S (LOK p l e R s m args below meth c Q D (wLw cA cJ ad0 ao ad1) A ci ly ja AD (relA K M) nL) → (LOK p l e R s m args below meth c Q D (wLw cA cJ ad0 ao ad1) A ci ly ja AD (relA K M) nL) pc lv st S := by
  intro lv st S h
  subst hn
  unfold ji_slen at h
  split at h
  · intro ad ha H locs ls cells slots hr hP hD hS hL
    have ee := (hg ad ha).2.2.2
    show W _ _ _ _ _ _ _ _ _ _ _ _ _ _ _ (F0 m pc ls (.ref (ad 3) :: _))
    rw [ee]
    exact va_slen hx hb hX hbl hbA hS hd (h ad ha H locs ls cells slots hr hP hD hS hL)
  · exact h.elim
theorem js_sald (hx : p.tables.exec = Jvm.exec) (hb : c.code = cc) (hg : ∀ ad, AD ad → ad 0 = ad0 0 ∧ ad 1 = ad1 0 ∧ ad 2 = ao ∧ ad 3 = b) {L : Nat} {xs : Nat → Int32} (hX : va_X b L xs s s.heap) (hbl : b < s.heap.size) (hbA : ¬ A b) (hL9 : L ≤ 1536) (hd : decode cc pc = .ok (.iaload, 1)) (hn : n = pc + 1) : ∀ lv st S, ji_sald xs L n lv st S (LOK p l e R s m args below meth c Q D (wLw cA cJ ad0 ao ad1) A ci ly ja AD (relA K M) nL) → (LOK p l e R s m args below meth c Q D (wLw cA cJ ad0 ao ad1) A ci ly ja AD (relA K M) nL) pc lv st S := by
  intro lv st S h
  subst hn
  unfold ji_sald at h
  split at h
  · rename_i i r
    obtain ⟨⟨h1, h2⟩, h⟩ := h
    intro ad ha H locs ls cells slots hr hP hD hS hL
    have ee := (hg ad ha).2.2.2
    show W _ _ _ _ _ _ _ _ _ _ _ _ _ _ _ (F0 m pc ls (.int (iI i) :: .ref (ad 3) :: _))
    rw [ee]
    refine va_sld hx hb hX hbl hbA hS (iI_in h1 h2 (by omega)) hd ?_
    rw [iI_cl h1 (by omega)]
    have h9 := h ad ha H locs ls cells slots hr hP hD hS hL
    have e2 : iI (xs i.toNat).toInt = xs i.toNat := Int32.ofInt_toInt _
    have h8 : W p l e R s m args below meth c H locs cells slots Q (F0 m (pc + 1) ls (.int (iI (xs i.toNat).toInt) :: _)) := h9
    rw [e2] at h8
    exact h8
  · exact h.elim
theorem js_and15 (hx : p.tables.exec = Jvm.exec) (hb : c.code = cc) (hd : decode cc pc = .ok (.iand, 1)) (hn : n = pc + 1) : ∀ lv st S, ji_and15 n lv st S (LOK p l e R s m args below meth c Q D (wLw cA cJ ad0 ao ad1) A ci ly ja AD (relA K M) nL) → (LOK p l e R s m args below meth c Q D (wLw cA cJ ad0 ao ad1) A ci ly ja AD (relA K M) nL) pc lv st S := by
  intro lv st S h
  subst hn
  unfold ji_and15 at h
  split at h
  · rename_i a r
    intro ad ha H locs ls cells slots hr hP hD hS hL
    refine lv_iand hx hb hd ?_
    obtain ⟨b9, hb9, e9⟩ := and15_b (iI a)
    rw [e9]
    exact h b9 hb9 ad ha H locs ls cells slots hr hP hD hS hL
  · exact h.elim
theorem js_oald (hx : p.tables.exec = Jvm.exec) (hb : c.code = cc) (hg : ∀ ad, AD ad → ad 0 = ad0 0 ∧ ad 1 = ad1 0 ∧ ad 2 = ao ∧ ad 3 = b) (hK : va_K D vwCl [(cA, .int), (cJ, .long)] s) (hd : decode cc pc = .ok (.laload, 1)) (hn : n = pc + 1) : ∀ lv st S, ji_oald n lv st S (LOK p l e R s m args below meth c Q D (wLw cA cJ ad0 ao ad1) A ci ly ja AD (relA K M) nL) → (LOK p l e R s m args below meth c Q D (wLw cA cJ ad0 ao ad1) A ci ly ja AD (relA K M) nL) pc lv st S := by
  intro lv st S h
  subst hn
  unfold ji_oald at h
  split at h
  · intro ad ha H locs ls cells slots hr hP hD hS hL
    have ee := (hg ad ha).2.2.1
    show W _ _ _ _ _ _ _ _ _ _ _ _ _ _ _ (F0 m pc ls (.int (iI 0) :: .ref (ad 2) :: _))
    rw [ee]
    refine va_lald hx hb hK hP 0 1 (n := 1) (f := S.2.2.1) rfl rfl (iI_in (a := 0) (Int.le_refl _) (by decide) (by decide)) hd ?_
    exact h ad ha H locs ls cells slots hr hP hD hS hL
  · exact h.elim
theorem js_lcmp (hx : p.tables.exec = Jvm.exec) (hb : c.code = cc) (hd : decode cc pc = .ok (.lcmp, 1)) (hn : n = pc + 1) : ∀ lv st S, ji_lcmp n lv st S (LOK p l e R s m args below meth c Q D (wLw cA cJ ad0 ao ad1) A ci ly ja AD (relA K M) nL) → (LOK p l e R s m args below meth c Q D (wLw cA cJ ad0 ao ad1) A ci ly ja AD (relA K M) nL) pc lv st S := by
  intro lv st S h
  subst hn
  unfold ji_lcmp at h
  split at h
  · obtain ⟨rfl, h⟩ := h
    intro ad ha H locs ls cells slots hr hP hD hS hL
    refine W_lcmp hx hb hd ?_
    exact h ad ha H locs ls cells slots hr hP hD hS hL
  · exact h.elim
theorem js_dcmp (hx : p.tables.exec = Jvm.exec) (hb : c.code = cc) {op : CmpOp} (hd : decode cc pc = .ok (.dcmp op, 1)) (hn : n = pc + 1) : ∀ lv st S, ji_dcmp n lv st S (LOK p l e R s m args below meth c Q D (wLw cA cJ ad0 ao ad1) A ci ly ja AD (relA K M) nL) → (LOK p l e R s m args below meth c Q D (wLw cA cJ ad0 ao ad1) A ci ly ja AD (relA K M) nL) pc lv st S := by
  intro lv st S h
  subst hn
  unfold ji_dcmp at h
  split at h
  · obtain ⟨⟨rfl, h1⟩, h⟩ := h
    intro ad ha H locs ls cells slots hr hP hD hS hL
    refine lv_dcmp hx hb hd ?_
    rw [h1]
    have e9 : Op.cmpValue (some .eq) op = 0 := by cases op <;> rfl
    rw [e9]
    exact h ad ha H locs ls cells slots hr hP hD hS hL
  · exact h.elim
theorem js_dload (hx : p.tables.exec = Jvm.exec) (hb : c.code = cc) {i : Nat} (hd : decode cc pc = .ok (.dload i, 2)) (hn : n = pc + 2) : ∀ lv st S, ji_dload i n lv st S (LOK p l e R s m args below meth c Q D (wLw cA cJ ad0 ao ad1) A ci ly ja AD (relA K M) nL) → (LOK p l e R s m args below meth c Q D (wLw cA cJ ad0 ao ad1) A ci ly ja AD (relA K M) nL) pc lv st S := by
  intro lv st S h
  subst hn
  unfold ji_dload at h
  split at h
  · rename_i d hg
    intro ad ha H locs ls cells slots hr hP hD hS hL
    exact lv_dload hx hb hd (hL.2.2 _ _ hg) (h ad ha H locs ls cells slots hr hP hD hS hL)
  · exact h.elim
theorem js_dstore (hx : p.tables.exec = Jvm.exec) (hb : c.code = cc) {i : Nat} (hd : decode cc pc = .ok (.dstore i, 2)) (hn : n = pc + 2) (hi : i + 1 < nL) : ∀ lv st S, ji_dstore i n lv st S (LOK p l e R s m args below meth c Q D (wLw cA cJ ad0 ao ad1) A ci ly ja AD (relA K M) nL) → (LOK p l e R s m args below meth c Q D (wLw cA cJ ad0 ao ad1) A ci ly ja AD (relA K M) nL) pc lv st S := by
  intro lv st S h
  subst hn
  unfold ji_dstore at h
  split at h
  · obtain ⟨hok, h⟩ := h
    intro ad ha H locs ls cells slots hr hP hD hS hL
    exact lv_dstore hx hb hd hL.has (by omega) rfl (fun ls' hl' => h ad ha H locs ls' cells slots hr hP hD hS (LR.st2 hok hl'))
  · exact h.elim
theorem js_lconst (hx : p.tables.exec = Jvm.exec) (hb : c.code = cc) {k : Fin 2} {v : Int64} (hv : Int64.ofNat (k : Nat) = v) (hd : decode cc pc = .ok (.lconst k, 1)) (hn : n = pc + 1) : ∀ lv st S, ji_lconst v n lv st S (LOK p l e R s m args below meth c Q D (wLw cA cJ ad0 ao ad1) A ci ly ja AD (relA K M) nL) → (LOK p l e R s m args below meth c Q D (wLw cA cJ ad0 ao ad1) A ci ly ja AD (relA K M) nL) pc lv st S := by
  intro lv st S h
  subst hn
  intro ad ha H locs ls cells slots hr hP hD hS hL
  exact lv_lconst hx hb hd hv (h ad ha H locs ls cells slots hr hP hD hS hL)
theorem js_w1 {Ts : List Cond} {own : String} (S0 : CallFix p m c cc nL s args Ts own) (hA : ∀ q, s.heap.size ≤ q → A q) (hK : va_K D vwCl [(cA, .int), (cJ, .long)] s) (hRc : K ≤ R.cells) (hRs : M ≤ R.slots) (hg : ∀ ad, AD ad → ad 0 = ad0 0 ∧ ad 1 = ad1 0 ∧ ad 2 = ao ∧ ad 3 = b) (hlt : l.stackTraces = false) (hXE : XEv RX0 xstrs A s) (hN : ∀ q ∈ ncs, va_Nc q.1 q.2 s) {index maxL : Nat} {y : MethodName} {bytes : ByteArray} {ret : Option FieldType} {ws : List Cond} {rm : Room} {hh : List (Nat × Nat × Nat × Nat)} {X : RI} {zf : Int → Int64} {es : List (String × Int)} (hC : CtWok 1 y ws rm X zf) (hCx : ∀ q ∈ es, CtWno 1 y ws rm X q.1 q.2) (cw : vx_CSW R s args own index y bytes maxL ret hh ws rm 1 6 3) (hd : decode cc pc = .ok (.invokestatic index, 3)) (hn : n = pc + 3) : ∀ lv st S, j_w1 X zf es K M n lv st S (LOK p l e R s m args below meth c Q D (wLw cA cJ ad0 ao ad1) A ci ly ja AD (relA K M) nL) → (LOK p l e R s m args below meth c Q D (wLw cA cJ ad0 ao ad1) A ci ly ja AD (relA K M) nL) pc lv st S := by
  intro lv st S h
  subst hn
  unfold j_w1 at h
  split at h
  · rename_i a r
    obtain ⟨h3, ⟨hc1, hc2⟩, h⟩ := h
    intro ad ha H locs ls cells slots hr hP hD hS hL
    obtain ⟨g0, g1, g2, g3⟩ := hg ad ha
    obtain ⟨rfl, rfl, hb1, hb2⟩ := hr
    have hAq : ∀ q, Array.size H ≤ q → A q := fun q z => hA q (Nat.le_trans hS.1 z)
    have hF : ∀ q, va_A (wrW cA cJ ad0 ao S.1 S.2.2.1) H.size q → A q := wA_mid (a := []) (b := wrW cA cJ ad0 ao S.1 S.2.2.1) (c := wdO cA 1 ly1 ja1 ad1 S.2.1) hD hAq
    show W _ _ _ _ _ _ _ _ _ _ _ _ _ _ _ (F0 m pc ls (.ref (ad 2) :: .int (iI a) :: .ref (ad 0) :: _))
    rw [g2, g0]
    rcases h with ⟨Qc, hX, hk⟩ | ⟨z, hz, hX, hk⟩
    · refine va_calli (vx_runSW (As := [.ref (ad0 0), .int (iI a), .ref ao]) (rest := r.map (conc ad)) S0 (hC l hlt D cA cJ ad0 ao [a] S.1 S.2.2.1 Qc H.size rfl hX) cw ⟨preW_blind, fun U hU hW => ⟨rfl, by rw [hU], by rw [hU]; exact wP_l hP, va_K.moved hW.alike hK, (wD_l hD).weaken (fun _ _ _ _ => trivial), hXE.at hS hU hW hF, fun q hq => (hN q hq).moved hW.alike⟩⟩ rfl rfl hL.1 rfl (lv_room (sh4_sum h3)) hd ⟨by omega, by omega⟩) hS (fun q _ z => hF q z) hF (fun r9 u t H1 locs1 ht hvm hw1 hB hz1 hk1 hS1 => ?_)
      obtain ⟨rfl, v, hq, ho, hku⟩ := hw1
      obtain ⟨hP1, hD1⟩ := hB
      rw [ht] at hP1
      obtain ⟨hPn, hDn⟩ := w_lt hP hD hAq hP1 hD1 hk1
      rw [← iI_0]
      exact hk v u.1 u.2 hq ho ad ha H1 locs1 ls _ _ ⟨rfl, rfl, hc1, hc2⟩ hPn hDn hS1 hL
    · refine va_calli (vx_runSW (As := [.ref (ad0 0), .int (iI a), .ref ao]) (rest := r.map (conc ad)) S0 (hCx z hz l hlt D cA cJ ad0 ao [a] S.1 S.2.2.1 H.size rfl hX) cw ⟨preW_blind, fun U hU hW => ⟨rfl, by rw [hU], by rw [hU]; exact wP_l hP, va_K.moved hW.alike hK, (wD_l hD).weaken (fun _ _ _ _ => trivial), hXE.at hS hU hW hF, fun q hq => (hN q hq).moved hW.alike⟩⟩ rfl rfl hL.1 rfl (lv_room (sh4_sum h3)) hd ⟨by omega, by omega⟩) hS (fun q _ z => hF q z) hF (fun r9 u t H1 locs1 ht hvm hw1 hB hz1 hk1 hS1 => ?_)
      obtain ⟨rfl, rfl⟩ := hw1
      obtain ⟨hP1, hD1⟩ := hB
      rw [ht] at hP1
      obtain ⟨hPn, hDn⟩ := w_lt hP hD hAq hP1 hD1 hk1
      exact hk ad ha H1 locs1 ls _ _ ⟨rfl, rfl, hc1, hc2⟩ hPn hDn hS1 hL
  · exact h.elim
theorem js_w2 {Ts : List Cond} {own : String} (S0 : CallFix p m c cc nL s args Ts own) (hA : ∀ q, s.heap.size ≤ q → A q) (hK : va_K D vwCl [(cA, .int), (cJ, .long)] s) (hRc : K ≤ R.cells) (hRs : M ≤ R.slots) (hg : ∀ ad, AD ad → ad 0 = ad0 0 ∧ ad 1 = ad1 0 ∧ ad 2 = ao ∧ ad 3 = b) (hlt : l.stackTraces = false) (hXE : XEv RX0 xstrs A s) (hN : ∀ q ∈ ncs, va_Nc q.1 q.2 s) {index maxL : Nat} {y : MethodName} {bytes : ByteArray} {ret : Option FieldType} {ws : List Cond} {rm : Room} {hh : List (Nat × Nat × Nat × Nat)} {X : RI} {zf : Int → Int64} {es : List (String × Int)} (hC : CtWok 2 y ws rm X zf) (hCx : ∀ q ∈ es, CtWno 2 y ws rm X q.1 q.2) (cw : vx_CSW R s args own index y bytes maxL ret hh ws rm 1 6 4) (hd : decode cc pc = .ok (.invokestatic index, 3)) (hn : n = pc + 3) : ∀ lv st S, j_w2 X zf es K M n lv st S (LOK p l e R s m args below meth c Q D (wLw cA cJ ad0 ao ad1) A ci ly ja AD (relA K M) nL) → (LOK p l e R s m args below meth c Q D (wLw cA cJ ad0 ao ad1) A ci ly ja AD (relA K M) nL) pc lv st S := by
  intro lv st S h
  subst hn
  unfold j_w2 at h
  split at h
  · rename_i b a r
    obtain ⟨h3, ⟨hc1, hc2⟩, h⟩ := h
    intro ad ha H locs ls cells slots hr hP hD hS hL
    obtain ⟨g0, g1, g2, g3⟩ := hg ad ha
    obtain ⟨rfl, rfl, hb1, hb2⟩ := hr
    have hAq : ∀ q, Array.size H ≤ q → A q := fun q z => hA q (Nat.le_trans hS.1 z)
    have hF : ∀ q, va_A (wrW cA cJ ad0 ao S.1 S.2.2.1) H.size q → A q := wA_mid (a := []) (b := wrW cA cJ ad0 ao S.1 S.2.2.1) (c := wdO cA 1 ly1 ja1 ad1 S.2.1) hD hAq
    show W _ _ _ _ _ _ _ _ _ _ _ _ _ _ _ (F0 m pc ls (.ref (ad 2) :: .int (iI b) :: .int (iI a) :: .ref (ad 0) :: _))
    rw [g2, g0]
    rcases h with ⟨Qc, hX, hk⟩ | ⟨z, hz, hX, hk⟩
    · refine va_calli (vx_runSW (As := [.ref (ad0 0), .int (iI a), .int (iI b), .ref ao]) (rest := r.map (conc ad)) S0 (hC l hlt D cA cJ ad0 ao [a, b] S.1 S.2.2.1 Qc H.size rfl hX) cw ⟨preW_blind, fun U hU hW => ⟨rfl, by rw [hU], by rw [hU]; exact wP_l hP, va_K.moved hW.alike hK, (wD_l hD).weaken (fun _ _ _ _ => trivial), hXE.at hS hU hW hF, fun q hq => (hN q hq).moved hW.alike⟩⟩ rfl rfl hL.1 rfl (lv_room (sh4_sum h3)) hd ⟨by omega, by omega⟩) hS (fun q _ z => hF q z) hF (fun r9 u t H1 locs1 ht hvm hw1 hB hz1 hk1 hS1 => ?_)
      obtain ⟨rfl, v, hq, ho, hku⟩ := hw1
      obtain ⟨hP1, hD1⟩ := hB
      rw [ht] at hP1
      obtain ⟨hPn, hDn⟩ := w_lt hP hD hAq hP1 hD1 hk1
      rw [← iI_0]
      exact hk v u.1 u.2 hq ho ad ha H1 locs1 ls _ _ ⟨rfl, rfl, hc1, hc2⟩ hPn hDn hS1 hL
    · refine va_calli (vx_runSW (As := [.ref (ad0 0), .int (iI a), .int (iI b), .ref ao]) (rest := r.map (conc ad)) S0 (hCx z hz l hlt D cA cJ ad0 ao [a, b] S.1 S.2.2.1 H.size rfl hX) cw ⟨preW_blind, fun U hU hW => ⟨rfl, by rw [hU], by rw [hU]; exact wP_l hP, va_K.moved hW.alike hK, (wD_l hD).weaken (fun _ _ _ _ => trivial), hXE.at hS hU hW hF, fun q hq => (hN q hq).moved hW.alike⟩⟩ rfl rfl hL.1 rfl (lv_room (sh4_sum h3)) hd ⟨by omega, by omega⟩) hS (fun q _ z => hF q z) hF (fun r9 u t H1 locs1 ht hvm hw1 hB hz1 hk1 hS1 => ?_)
      obtain ⟨rfl, rfl⟩ := hw1
      obtain ⟨hP1, hD1⟩ := hB
      rw [ht] at hP1
      obtain ⟨hPn, hDn⟩ := w_lt hP hD hAq hP1 hD1 hk1
      exact hk ad ha H1 locs1 ls _ _ ⟨rfl, rfl, hc1, hc2⟩ hPn hDn hS1 hL
  · exact h.elim
theorem js_c0 {Ts : List Cond} {own : String} (S0 : CallFix p m c cc nL s args Ts own) (hA : ∀ q, s.heap.size ≤ q → A q) (hK : va_K D vwCl [(cA, .int), (cJ, .long)] s) (hRc : K ≤ R.cells) (hRs : M ≤ R.slots) (hg : ∀ ad, AD ad → ad 0 = ad0 0 ∧ ad 1 = ad1 0 ∧ ad 2 = ao ∧ ad 3 = b) {index maxL : Nat} {y : MethodName} {bytes : ByteArray} {ret : Option FieldType} {ws : List Cond} {rm : Room} {X : RI} (hC : CtI 0 ly0 ja0 y ws rm X) (cw : CallW R s args own RX0 index y bytes maxL ret ws rm 0 0 0) (hd : decode cc pc = .ok (.invokevirtual index, 3)) (hn : n = pc + 3) : ∀ lv st S, j_c0 X n lv st S (LOK p l e R s m args below meth c Q D (wLw cA cJ ad0 ao ad1) A ci ly ja AD (relA K M) nL) → (LOK p l e R s m args below meth c Q D (wLw cA cJ ad0 ao ad1) A ci ly ja AD (relA K M) nL) pc lv st S := by
  intro lv st S h
  subst hn
  unfold j_c0 at h
  split at h
  · rename_i r
    obtain ⟨h3, Qc, hX, hk⟩ := h
    intro ad ha H locs ls cells slots hr hP hD hS hL
    obtain ⟨g0, g1, g2, g3⟩ := hg ad ha
    obtain ⟨rfl, rfl, hb1, hb2⟩ := hr
    have hAq : ∀ q, Array.size H ≤ q → A q := fun q z => hA q (Nat.le_trans hS.1 z)
    have hK1 : va_K D vwCl [(cA, .int)] s := hK.sub [0] rfl
    have hP0 : va_P D vwCl (wdO cA 0 ly0 ja0 ad0 S.1) H := wP_r (a := [ouE cJ ao S.2.2.1]) (wP_l hP)
    have hD0 : va_D A (wdO cA 0 ly0 ja0 ad0 S.1) := wD_r (a := [ouE cJ ao S.2.2.1]) (wD_l hD)
    have hP' : va_P D vwCl ([ouE cJ ao S.2.2.1] ++ (wdO cA 0 ly0 ja0 ad0 S.1 ++ wdO cA 1 ly1 ja1 ad1 S.2.1)) H := hP
    have hD' : va_D A ([ouE cJ ao S.2.2.1] ++ (wdO cA 0 ly0 ja0 ad0 S.1 ++ wdO cA 1 ly1 ja1 ad1 S.2.1)) := hD
    have hF : ∀ q, va_A (wdO cA 0 ly0 ja0 ad0 S.1) H.size q → A q := wA_mid hD' hAq
    show W _ _ _ _ _ _ _ _ _ _ _ _ _ _ _ (F0 m pc ls (.ref (ad 0) :: _))
    rw [g0]
    refine va_calli (va_runV (As := []) (rest := r.map (conc ad)) S0 (hC l D cA ad0 (vR 0 :: []) S.1 Qc H.size hX) cw ⟨pre0_blind, va_recv hK1 hP0 (q := (RX0, TX0, 16)) (ci := 0) (q0 := 0) rfl rfl, fun U hU hW => ⟨rfl, by rw [hU], by rw [hU]; exact hP0, va_K.moved hW.alike hK1, hD0.weaken (fun _ _ _ _ => trivial)⟩⟩ rfl rfl hL.1 rfl (lv_room (sh4_sum h3)) hd ⟨by omega, by omega⟩) hS (fun q _ z => hF q z) hF (fun r9 u t H1 locs1 ht hvm hw1 hB hz1 hk1 hS1 => ?_)
    obtain ⟨⟨v, rfl, hq⟩, hku⟩ := hw1
    obtain ⟨hP1, hK2, hD1⟩ := hB
    rw [ht] at hP1
    obtain ⟨hPn, hDn⟩ := w_mid hP' hD' hAq hP1 hD1 hk1
    exact hk v u hq ad ha H1 locs1 ls _ _ ⟨rfl, rfl, hb1, hb2⟩ hPn hDn hS1 hL
  · exact h.elim
theorem js_cd0 {Ts : List Cond} {own : String} (S0 : CallFix p m c cc nL s args Ts own) (hA : ∀ q, s.heap.size ≤ q → A q) (hK : va_K D vwCl [(cA, .int), (cJ, .long)] s) (hRc : K ≤ R.cells) (hRs : M ≤ R.slots) (hg : ∀ ad, AD ad → ad 0 = ad0 0 ∧ ad 1 = ad1 0 ∧ ad 2 = ao ∧ ad 3 = b) {index maxL : Nat} {y : MethodName} {bytes : ByteArray} {ret : Option FieldType} {ws : List Cond} {rm : Room} {X : RD} (hC : CtD 0 ly0 ja0 y ws rm X) (cw : CallW R s args own RX0 index y bytes maxL ret ws rm 0 0 0) (hd : decode cc pc = .ok (.invokevirtual index, 3)) (hn : n = pc + 3) : ∀ lv st S, j_cd0 X n lv st S (LOK p l e R s m args below meth c Q D (wLw cA cJ ad0 ao ad1) A ci ly ja AD (relA K M) nL) → (LOK p l e R s m args below meth c Q D (wLw cA cJ ad0 ao ad1) A ci ly ja AD (relA K M) nL) pc lv st S := by
  intro lv st S h
  subst hn
  unfold j_cd0 at h
  split at h
  · rename_i r
    obtain ⟨h3, Qc, hX, hk⟩ := h
    intro ad ha H locs ls cells slots hr hP hD hS hL
    obtain ⟨g0, g1, g2, g3⟩ := hg ad ha
    obtain ⟨rfl, rfl, hb1, hb2⟩ := hr
    have hAq : ∀ q, Array.size H ≤ q → A q := fun q z => hA q (Nat.le_trans hS.1 z)
    have hK1 : va_K D vwCl [(cA, .int)] s := hK.sub [0] rfl
    have hP0 : va_P D vwCl (wdO cA 0 ly0 ja0 ad0 S.1) H := wP_r (a := [ouE cJ ao S.2.2.1]) (wP_l hP)
    have hD0 : va_D A (wdO cA 0 ly0 ja0 ad0 S.1) := wD_r (a := [ouE cJ ao S.2.2.1]) (wD_l hD)
    have hP' : va_P D vwCl ([ouE cJ ao S.2.2.1] ++ (wdO cA 0 ly0 ja0 ad0 S.1 ++ wdO cA 1 ly1 ja1 ad1 S.2.1)) H := hP
    have hD' : va_D A ([ouE cJ ao S.2.2.1] ++ (wdO cA 0 ly0 ja0 ad0 S.1 ++ wdO cA 1 ly1 ja1 ad1 S.2.1)) := hD
    have hF : ∀ q, va_A (wdO cA 0 ly0 ja0 ad0 S.1) H.size q → A q := wA_mid hD' hAq
    show W _ _ _ _ _ _ _ _ _ _ _ _ _ _ _ (F0 m pc ls (.ref (ad 0) :: _))
    rw [g0]
    refine va_calld (va_runV (As := []) (rest := r.map (conc ad)) S0 (hC l D cA ad0 (vR 0 :: []) S.1 Qc H.size hX) cw ⟨pre0_blind, va_recv hK1 hP0 (q := (RX0, TX0, 16)) (ci := 0) (q0 := 0) rfl rfl, fun U hU hW => ⟨rfl, by rw [hU], by rw [hU]; exact hP0, va_K.moved hW.alike hK1, hD0.weaken (fun _ _ _ _ => trivial)⟩⟩ rfl rfl hL.1 rfl (lv_room (sh4_sum h3)) hd ⟨by omega, by omega⟩) hS (fun q _ z => hF q z) hF (fun r9 u t H1 locs1 ht hvm hw1 hB hz1 hk1 hS1 => ?_)
    obtain ⟨hq, hku⟩ := hw1
    obtain ⟨hP1, hK2, hD1⟩ := hB
    rw [ht] at hP1
    obtain ⟨hPn, hDn⟩ := w_mid hP' hD' hAq hP1 hD1 hk1
    exact hk r9 u hq ad ha H1 locs1 ls _ _ ⟨rfl, rfl, hb1, hb2⟩ hPn hDn hS1 hL
  · exact h.elim
theorem js_cj0 {Ts : List Cond} {own : String} (S0 : CallFix p m c cc nL s args Ts own) (hA : ∀ q, s.heap.size ≤ q → A q) (hK : va_K D vwCl [(cA, .int), (cJ, .long)] s) (hRc : K ≤ R.cells) (hRs : M ≤ R.slots) (hg : ∀ ad, AD ad → ad 0 = ad0 0 ∧ ad 1 = ad1 0 ∧ ad 2 = ao ∧ ad 3 = b) {index maxL : Nat} {y : MethodName} {bytes : ByteArray} {ret : Option FieldType} {ws : List Cond} {rm : Room} {X : RJ} (hC : CtJ 0 ly0 ja0 y ws rm X) (cw : CallW R s args own RX0 index y bytes maxL ret ws rm 0 0 0) (hd : decode cc pc = .ok (.invokevirtual index, 3)) (hn : n = pc + 3) : ∀ lv st S, j_cj0 X n lv st S (LOK p l e R s m args below meth c Q D (wLw cA cJ ad0 ao ad1) A ci ly ja AD (relA K M) nL) → (LOK p l e R s m args below meth c Q D (wLw cA cJ ad0 ao ad1) A ci ly ja AD (relA K M) nL) pc lv st S := by
  intro lv st S h
  subst hn
  unfold j_cj0 at h
  split at h
  · rename_i r
    obtain ⟨h3, Qc, hX, hk⟩ := h
    intro ad ha H locs ls cells slots hr hP hD hS hL
    obtain ⟨g0, g1, g2, g3⟩ := hg ad ha
    obtain ⟨rfl, rfl, hb1, hb2⟩ := hr
    have hAq : ∀ q, Array.size H ≤ q → A q := fun q z => hA q (Nat.le_trans hS.1 z)
    have hK1 : va_K D vwCl [(cA, .int)] s := hK.sub [0] rfl
    have hP0 : va_P D vwCl (wdO cA 0 ly0 ja0 ad0 S.1) H := wP_r (a := [ouE cJ ao S.2.2.1]) (wP_l hP)
    have hD0 : va_D A (wdO cA 0 ly0 ja0 ad0 S.1) := wD_r (a := [ouE cJ ao S.2.2.1]) (wD_l hD)
    have hP' : va_P D vwCl ([ouE cJ ao S.2.2.1] ++ (wdO cA 0 ly0 ja0 ad0 S.1 ++ wdO cA 1 ly1 ja1 ad1 S.2.1)) H := hP
    have hD' : va_D A ([ouE cJ ao S.2.2.1] ++ (wdO cA 0 ly0 ja0 ad0 S.1 ++ wdO cA 1 ly1 ja1 ad1 S.2.1)) := hD
    have hF : ∀ q, va_A (wdO cA 0 ly0 ja0 ad0 S.1) H.size q → A q := wA_mid hD' hAq
    show W _ _ _ _ _ _ _ _ _ _ _ _ _ _ _ (F0 m pc ls (.ref (ad 0) :: _))
    rw [g0]
    refine va_calll (va_runV (As := []) (rest := r.map (conc ad)) S0 (hC l D cA ad0 (vR 0 :: []) S.1 Qc H.size hX) cw ⟨pre0_blind, va_recv hK1 hP0 (q := (RX0, TX0, 16)) (ci := 0) (q0 := 0) rfl rfl, fun U hU hW => ⟨rfl, by rw [hU], by rw [hU]; exact hP0, va_K.moved hW.alike hK1, hD0.weaken (fun _ _ _ _ => trivial)⟩⟩ rfl rfl hL.1 rfl (lv_room (sh4_sum h3)) hd ⟨by omega, by omega⟩) hS (fun q _ z => hF q z) hF (fun r9 u t H1 locs1 ht hvm hw1 hB hz1 hk1 hS1 => ?_)
    obtain ⟨hq, hku⟩ := hw1
    obtain ⟨hP1, hK2, hD1⟩ := hB
    rw [ht] at hP1
    obtain ⟨hPn, hDn⟩ := w_mid hP' hD' hAq hP1 hD1 hk1
    exact hk r9 u hq ad ha H1 locs1 ls _ _ ⟨rfl, rfl, hb1, hb2⟩ hPn hDn hS1 hL
  · exact h.elim
theorem js_r0 {Ts : List Cond} {own : String} (S0 : CallFix p m c cc nL s args Ts own) (hA : ∀ q, s.heap.size ≤ q → A q) (hK : va_K D vwCl [(cA, .int), (cJ, .long)] s) (hRc : K ≤ R.cells) (hRs : M ≤ R.slots) (hg : ∀ ad, AD ad → ad 0 = ad0 0 ∧ ad 1 = ad1 0 ∧ ad 2 = ao ∧ ad 3 = b) {index maxL : Nat} {y : MethodName} {bytes : ByteArray} {ret : Option FieldType} {ws : List Cond} {rm : Room} {X : RI} (hC : CtI 1 ly1 ja1 y ws rm X) (cw : CallW R s args own RX1 index y bytes maxL ret ws rm 0 0 0) (hd : decode cc pc = .ok (.invokevirtual index, 3)) (hn : n = pc + 3) : ∀ lv st S, j_r0 X n lv st S (LOK p l e R s m args below meth c Q D (wLw cA cJ ad0 ao ad1) A ci ly ja AD (relA K M) nL) → (LOK p l e R s m args below meth c Q D (wLw cA cJ ad0 ao ad1) A ci ly ja AD (relA K M) nL) pc lv st S := by
  intro lv st S h
  subst hn
  unfold j_r0 at h
  split at h
  · rename_i r
    obtain ⟨h3, Qc, hX, hk⟩ := h
    intro ad ha H locs ls cells slots hr hP hD hS hL
    obtain ⟨g0, g1, g2, g3⟩ := hg ad ha
    obtain ⟨rfl, rfl, hb1, hb2⟩ := hr
    have hAq : ∀ q, Array.size H ≤ q → A q := fun q z => hA q (Nat.le_trans hS.1 z)
    have hK1 : va_K D vwCl [(cA, .int)] s := hK.sub [0] rfl
    have hP0 : va_P D vwCl (wdO cA 1 ly1 ja1 ad1 S.2.1) H := wP_r hP
    have hD0 : va_D A (wdO cA 1 ly1 ja1 ad1 S.2.1) := wD_r hD
    have hF : ∀ q, va_A (wdO cA 1 ly1 ja1 ad1 S.2.1) H.size q → A q := wA_mid (c := []) (by rw [List.append_nil]; exact hD) hAq
    show W _ _ _ _ _ _ _ _ _ _ _ _ _ _ _ (F0 m pc ls (.ref (ad 1) :: _))
    rw [g1]
    refine va_calli (va_runV (As := []) (rest := r.map (conc ad)) S0 (hC l D cA ad1 (vR 0 :: []) S.2.1 Qc H.size hX) cw ⟨pre0_blind, va_recv hK1 hP0 (q := (RX1, TX1, 15)) (ci := 1) (q0 := 0) rfl rfl, fun U hU hW => ⟨rfl, by rw [hU], by rw [hU]; exact hP0, va_K.moved hW.alike hK1, hD0.weaken (fun _ _ _ _ => trivial)⟩⟩ rfl rfl hL.1 rfl (lv_room (sh4_sum h3)) hd ⟨by omega, by omega⟩) hS (fun q _ z => hF q z) hF (fun r9 u t H1 locs1 ht hvm hw1 hB hz1 hk1 hS1 => ?_)
    obtain ⟨⟨v, rfl, hq⟩, hku⟩ := hw1
    obtain ⟨hP1, hK2, hD1⟩ := hB
    rw [ht] at hP1
    obtain ⟨hPn, hDn⟩ := w_rt hP hD hAq hP1 hD1 hk1
    exact hk v u hq ad ha H1 locs1 ls _ _ ⟨rfl, rfl, hb1, hb2⟩ hPn hDn hS1 hL
  · exact h.elim
theorem js_r1 {Ts : List Cond} {own : String} (S0 : CallFix p m c cc nL s args Ts own) (hA : ∀ q, s.heap.size ≤ q → A q) (hK : va_K D vwCl [(cA, .int), (cJ, .long)] s) (hRc : K ≤ R.cells) (hRs : M ≤ R.slots) (hg : ∀ ad, AD ad → ad 0 = ad0 0 ∧ ad 1 = ad1 0 ∧ ad 2 = ao ∧ ad 3 = b) {index maxL : Nat} {y : MethodName} {bytes : ByteArray} {ret : Option FieldType} {ws : List Cond} {rm : Room} {X : RI} (hC : CtI 1 ly1 ja1 y ws rm X) (cw : CallW R s args own RX1 index y bytes maxL ret ws rm 0 0 1) (hd : decode cc pc = .ok (.invokevirtual index, 3)) (hn : n = pc + 3) : ∀ lv st S, j_r1 X n lv st S (LOK p l e R s m args below meth c Q D (wLw cA cJ ad0 ao ad1) A ci ly ja AD (relA K M) nL) → (LOK p l e R s m args below meth c Q D (wLw cA cJ ad0 ao ad1) A ci ly ja AD (relA K M) nL) pc lv st S := by
  intro lv st S h
  subst hn
  unfold j_r1 at h
  split at h
  · rename_i a r
    obtain ⟨h3, Qc, hX, hk⟩ := h
    intro ad ha H locs ls cells slots hr hP hD hS hL
    obtain ⟨g0, g1, g2, g3⟩ := hg ad ha
    obtain ⟨rfl, rfl, hb1, hb2⟩ := hr
    have hAq : ∀ q, Array.size H ≤ q → A q := fun q z => hA q (Nat.le_trans hS.1 z)
    have hK1 : va_K D vwCl [(cA, .int)] s := hK.sub [0] rfl
    have hP0 : va_P D vwCl (wdO cA 1 ly1 ja1 ad1 S.2.1) H := wP_r hP
    have hD0 : va_D A (wdO cA 1 ly1 ja1 ad1 S.2.1) := wD_r hD
    have hF : ∀ q, va_A (wdO cA 1 ly1 ja1 ad1 S.2.1) H.size q → A q := wA_mid (c := []) (by rw [List.append_nil]; exact hD) hAq
    show W _ _ _ _ _ _ _ _ _ _ _ _ _ _ _ (F0 m pc ls (.int (iI a) :: .ref (ad 1) :: _))
    rw [g1]
    refine va_calli (va_runV (As := [.int (iI a)]) (rest := r.map (conc ad)) S0 (hC l D cA ad1 (vR 0 :: [vI a]) S.2.1 Qc H.size hX) cw ⟨pre0_blind, va_recv hK1 hP0 (q := (RX1, TX1, 15)) (ci := 1) (q0 := 0) rfl rfl, fun U hU hW => ⟨rfl, by rw [hU], by rw [hU]; exact hP0, va_K.moved hW.alike hK1, hD0.weaken (fun _ _ _ _ => trivial)⟩⟩ rfl rfl hL.1 rfl (lv_room (sh4_sum h3)) hd ⟨by omega, by omega⟩) hS (fun q _ z => hF q z) hF (fun r9 u t H1 locs1 ht hvm hw1 hB hz1 hk1 hS1 => ?_)
    obtain ⟨⟨v, rfl, hq⟩, hku⟩ := hw1
    obtain ⟨hP1, hK2, hD1⟩ := hB
    rw [ht] at hP1
    obtain ⟨hPn, hDn⟩ := w_rt hP hD hAq hP1 hD1 hk1
    exact hk v u hq ad ha H1 locs1 ls _ _ ⟨rfl, rfl, hb1, hb2⟩ hPn hDn hS1 hL
  · exact h.elim
theorem js_r2 {Ts : List Cond} {own : String} (S0 : CallFix p m c cc nL s args Ts own) (hA : ∀ q, s.heap.size ≤ q → A q) (hK : va_K D vwCl [(cA, .int), (cJ, .long)] s) (hRc : K ≤ R.cells) (hRs : M ≤ R.slots) (hg : ∀ ad, AD ad → ad 0 = ad0 0 ∧ ad 1 = ad1 0 ∧ ad 2 = ao ∧ ad 3 = b) {index maxL : Nat} {y : MethodName} {bytes : ByteArray} {ret : Option FieldType} {ws : List Cond} {rm : Room} {X : RI} (hC : CtI 1 ly1 ja1 y ws rm X) (cw : CallW R s args own RX1 index y bytes maxL ret ws rm 0 0 2) (hd : decode cc pc = .ok (.invokevirtual index, 3)) (hn : n = pc + 3) : ∀ lv st S, j_r2 X n lv st S (LOK p l e R s m args below meth c Q D (wLw cA cJ ad0 ao ad1) A ci ly ja AD (relA K M) nL) → (LOK p l e R s m args below meth c Q D (wLw cA cJ ad0 ao ad1) A ci ly ja AD (relA K M) nL) pc lv st S := by
  intro lv st S h
  subst hn
  unfold j_r2 at h
  split at h
  · rename_i b a r
    obtain ⟨h3, Qc, hX, hk⟩ := h
    intro ad ha H locs ls cells slots hr hP hD hS hL
    obtain ⟨g0, g1, g2, g3⟩ := hg ad ha
    obtain ⟨rfl, rfl, hb1, hb2⟩ := hr
    have hAq : ∀ q, Array.size H ≤ q → A q := fun q z => hA q (Nat.le_trans hS.1 z)
    have hK1 : va_K D vwCl [(cA, .int)] s := hK.sub [0] rfl
    have hP0 : va_P D vwCl (wdO cA 1 ly1 ja1 ad1 S.2.1) H := wP_r hP
    have hD0 : va_D A (wdO cA 1 ly1 ja1 ad1 S.2.1) := wD_r hD
    have hF : ∀ q, va_A (wdO cA 1 ly1 ja1 ad1 S.2.1) H.size q → A q := wA_mid (c := []) (by rw [List.append_nil]; exact hD) hAq
    show W _ _ _ _ _ _ _ _ _ _ _ _ _ _ _ (F0 m pc ls (.int (iI b) :: .int (iI a) :: .ref (ad 1) :: _))
    rw [g1]
    refine va_calli (va_runV (As := [.int (iI a), .int (iI b)]) (rest := r.map (conc ad)) S0 (hC l D cA ad1 (vR 0 :: [vI a, vI b]) S.2.1 Qc H.size hX) cw ⟨pre0_blind, va_recv hK1 hP0 (q := (RX1, TX1, 15)) (ci := 1) (q0 := 0) rfl rfl, fun U hU hW => ⟨rfl, by rw [hU], by rw [hU]; exact hP0, va_K.moved hW.alike hK1, hD0.weaken (fun _ _ _ _ => trivial)⟩⟩ rfl rfl hL.1 rfl (lv_room (sh4_sum h3)) hd ⟨by omega, by omega⟩) hS (fun q _ z => hF q z) hF (fun r9 u t H1 locs1 ht hvm hw1 hB hz1 hk1 hS1 => ?_)
    obtain ⟨⟨v, rfl, hq⟩, hku⟩ := hw1
    obtain ⟨hP1, hK2, hD1⟩ := hB
    rw [ht] at hP1
    obtain ⟨hPn, hDn⟩ := w_rt hP hD hAq hP1 hD1 hk1
    exact hk v u hq ad ha H1 locs1 ls _ _ ⟨rfl, rfl, hb1, hb2⟩ hPn hDn hS1 hL
  · exact h.elim
theorem js_a1 {Ts : List Cond} {own : String} (S0 : CallFix p m c cc nL s args Ts own) (hA : ∀ q, s.heap.size ≤ q → A q) (hK : va_K D vwCl [(cA, .int), (cJ, .long)] s) (hRc : K ≤ R.cells) (hRs : M ≤ R.slots) (hg : ∀ ad, AD ad → ad 0 = ad0 0 ∧ ad 1 = ad1 0 ∧ ad 2 = ao ∧ ad 3 = b) {index maxL : Nat} {y : MethodName} {bytes : ByteArray} {ret : Option FieldType} {ws : List Cond} {rm : Room} {X : RI} {k w : Nat} (hC : CtAI 1 ly1 ja1 y ws rm k w X) (cw : CallW R s args own RX1 index y bytes maxL ret ws rm k w 1) (hd : decode cc pc = .ok (.invokevirtual index, 3)) (hn : n = pc + 3) : ∀ lv st S, j_a1 X k w K M n lv st S (LOK p l e R s m args below meth c Q D (wLw cA cJ ad0 ao ad1) A ci ly ja AD (relA K M) nL) → (LOK p l e R s m args below meth c Q D (wLw cA cJ ad0 ao ad1) A ci ly ja AD (relA K M) nL) pc lv st S := by
  intro lv st S h
  subst hn
  unfold j_a1 at h
  split at h
  · rename_i a r
    obtain ⟨h3, h9, Qc, hX, hk⟩ := h
    intro ad ha H locs ls cells slots hr hP hD hS hL
    obtain ⟨g0, g1, g2, g3⟩ := hg ad ha
    obtain ⟨rfl, rfl, hb1, hb2⟩ := hr
    have hAq : ∀ q, Array.size H ≤ q → A q := fun q z => hA q (Nat.le_trans hS.1 z)
    have hK1 : va_K D vwCl [(cA, .int)] s := hK.sub [0] rfl
    obtain ⟨hT, hc1, hc2⟩ := h9
    have hP : va_P D vwCl (wrW cA cJ ad0 ao S.1 S.2.2.1 ++ wdO cA 1 ly1 ja1 ad1 (cut0 S.2.1)) H := by rw [← wd_cut hT]; exact hP
    have hD : va_D A (wrW cA cJ ad0 ao S.1 S.2.2.1 ++ wdO cA 1 ly1 ja1 ad1 (cut0 S.2.1)) := by rw [← wd_cut hT]; exact hD
    have hP0 : va_P D vwCl (wdO cA 1 ly1 ja1 ad1 (cut0 S.2.1)) H := wP_r hP
    have hD0 : va_D A (wdO cA 1 ly1 ja1 ad1 (cut0 S.2.1)) := wD_r hD
    have hF : ∀ q, va_A (wdO cA 1 ly1 ja1 ad1 (cut0 S.2.1)) H.size q → A q := wA_mid (c := []) (by rw [List.append_nil]; exact hD) hAq
    show W _ _ _ _ _ _ _ _ _ _ _ _ _ _ _ (F0 m pc ls (.int (iI a) :: .ref (ad 1) :: _))
    rw [g1]
    refine va_calli (va_runV (As := [.int (iI a)]) (rest := r.map (conc ad)) S0 (hC l D cA ad1 (vR 0 :: [vI a]) S.2.1 Qc H.size hX) cw ⟨pre0_blind, va_recv hK1 hP0 (q := (RX1, TX1, 15)) (ci := 1) (q0 := 0) rfl rfl, fun U hU hW => ⟨rfl, by rw [hU], by rw [hU]; exact hP0, va_K.moved hW.alike hK1, hD0.weaken (fun _ _ _ _ => trivial)⟩⟩ rfl rfl hL.1 rfl (lv_room (sh4_sum h3)) hd ⟨by omega, by omega⟩) hS (fun q _ z => hF q z) hF (fun r9 u t H1 locs1 ht hvm hw1 hB hz1 hk1 hS1 => ?_)
    obtain ⟨v, rfl, hq⟩ := hw1
    obtain ⟨hP1, hK2, hD1⟩ := hB
    rw [ht] at hP1
    obtain ⟨hPn, hDn⟩ := w_rt hP hD hAq hP1 hD1 hk1
    exact hk v u hq ad ha H1 locs1 ls _ _ ⟨rfl, rfl, hc1, hc2⟩ hPn hDn hS1 hL
  · exact h.elim
theorem js_a2 {Ts : List Cond} {own : String} (S0 : CallFix p m c cc nL s args Ts own) (hA : ∀ q, s.heap.size ≤ q → A q) (hK : va_K D vwCl [(cA, .int), (cJ, .long)] s) (hRc : K ≤ R.cells) (hRs : M ≤ R.slots) (hg : ∀ ad, AD ad → ad 0 = ad0 0 ∧ ad 1 = ad1 0 ∧ ad 2 = ao ∧ ad 3 = b) {index maxL : Nat} {y : MethodName} {bytes : ByteArray} {ret : Option FieldType} {ws : List Cond} {rm : Room} {X : RI} {k w : Nat} (hC : CtAI 1 ly1 ja1 y ws rm k w X) (cw : CallW R s args own RX1 index y bytes maxL ret ws rm k w 2) (hd : decode cc pc = .ok (.invokevirtual index, 3)) (hn : n = pc + 3) : ∀ lv st S, j_a2 X k w K M n lv st S (LOK p l e R s m args below meth c Q D (wLw cA cJ ad0 ao ad1) A ci ly ja AD (relA K M) nL) → (LOK p l e R s m args below meth c Q D (wLw cA cJ ad0 ao ad1) A ci ly ja AD (relA K M) nL) pc lv st S := by
  intro lv st S h
  subst hn
  unfold j_a2 at h
  split at h
  · rename_i b a r
    obtain ⟨h3, h9, Qc, hX, hk⟩ := h
    intro ad ha H locs ls cells slots hr hP hD hS hL
    obtain ⟨g0, g1, g2, g3⟩ := hg ad ha
    obtain ⟨rfl, rfl, hb1, hb2⟩ := hr
    have hAq : ∀ q, Array.size H ≤ q → A q := fun q z => hA q (Nat.le_trans hS.1 z)
    have hK1 : va_K D vwCl [(cA, .int)] s := hK.sub [0] rfl
    obtain ⟨hT, hc1, hc2⟩ := h9
    have hP : va_P D vwCl (wrW cA cJ ad0 ao S.1 S.2.2.1 ++ wdO cA 1 ly1 ja1 ad1 (cut0 S.2.1)) H := by rw [← wd_cut hT]; exact hP
    have hD : va_D A (wrW cA cJ ad0 ao S.1 S.2.2.1 ++ wdO cA 1 ly1 ja1 ad1 (cut0 S.2.1)) := by rw [← wd_cut hT]; exact hD
    have hP0 : va_P D vwCl (wdO cA 1 ly1 ja1 ad1 (cut0 S.2.1)) H := wP_r hP
    have hD0 : va_D A (wdO cA 1 ly1 ja1 ad1 (cut0 S.2.1)) := wD_r hD
    have hF : ∀ q, va_A (wdO cA 1 ly1 ja1 ad1 (cut0 S.2.1)) H.size q → A q := wA_mid (c := []) (by rw [List.append_nil]; exact hD) hAq
    show W _ _ _ _ _ _ _ _ _ _ _ _ _ _ _ (F0 m pc ls (.int (iI b) :: .int (iI a) :: .ref (ad 1) :: _))
    rw [g1]
    refine va_calli (va_runV (As := [.int (iI a), .int (iI b)]) (rest := r.map (conc ad)) S0 (hC l D cA ad1 (vR 0 :: [vI a, vI b]) S.2.1 Qc H.size hX) cw ⟨pre0_blind, va_recv hK1 hP0 (q := (RX1, TX1, 15)) (ci := 1) (q0 := 0) rfl rfl, fun U hU hW => ⟨rfl, by rw [hU], by rw [hU]; exact hP0, va_K.moved hW.alike hK1, hD0.weaken (fun _ _ _ _ => trivial)⟩⟩ rfl rfl hL.1 rfl (lv_room (sh4_sum h3)) hd ⟨by omega, by omega⟩) hS (fun q _ z => hF q z) hF (fun r9 u t H1 locs1 ht hvm hw1 hB hz1 hk1 hS1 => ?_)
    obtain ⟨v, rfl, hq⟩ := hw1
    obtain ⟨hP1, hK2, hD1⟩ := hB
    rw [ht] at hP1
    obtain ⟨hPn, hDn⟩ := w_rt hP hD hAq hP1 hD1 hk1
    exact hk v u hq ad ha H1 locs1 ls _ _ ⟨rfl, rfl, hc1, hc2⟩ hPn hDn hS1 hL
  · exact h.elim
theorem js_ad0 {Ts : List Cond} {own : String} (S0 : CallFix p m c cc nL s args Ts own) (hA : ∀ q, s.heap.size ≤ q → A q) (hK : va_K D vwCl [(cA, .int), (cJ, .long)] s) (hRc : K ≤ R.cells) (hRs : M ≤ R.slots) (hg : ∀ ad, AD ad → ad 0 = ad0 0 ∧ ad 1 = ad1 0 ∧ ad 2 = ao ∧ ad 3 = b) {index maxL : Nat} {y : MethodName} {bytes : ByteArray} {ret : Option FieldType} {ws : List Cond} {rm : Room} {X : RD} {k w : Nat} (hC : CtAD 1 ly1 ja1 y ws rm k w X) (cw : CallW R s args own RX1 index y bytes maxL ret ws rm k w 0) (hd : decode cc pc = .ok (.invokevirtual index, 3)) (hn : n = pc + 3) : ∀ lv st S, j_ad0 X k w K M n lv st S (LOK p l e R s m args below meth c Q D (wLw cA cJ ad0 ao ad1) A ci ly ja AD (relA K M) nL) → (LOK p l e R s m args below meth c Q D (wLw cA cJ ad0 ao ad1) A ci ly ja AD (relA K M) nL) pc lv st S := by
  intro lv st S h
  subst hn
  unfold j_ad0 at h
  split at h
  · rename_i r
    obtain ⟨h3, h9, Qc, hX, hk⟩ := h
    intro ad ha H locs ls cells slots hr hP hD hS hL
    obtain ⟨g0, g1, g2, g3⟩ := hg ad ha
    obtain ⟨rfl, rfl, hb1, hb2⟩ := hr
    have hAq : ∀ q, Array.size H ≤ q → A q := fun q z => hA q (Nat.le_trans hS.1 z)
    have hK1 : va_K D vwCl [(cA, .int)] s := hK.sub [0] rfl
    obtain ⟨hT, hc1, hc2⟩ := h9
    have hP : va_P D vwCl (wrW cA cJ ad0 ao S.1 S.2.2.1 ++ wdO cA 1 ly1 ja1 ad1 (cut0 S.2.1)) H := by rw [← wd_cut hT]; exact hP
    have hD : va_D A (wrW cA cJ ad0 ao S.1 S.2.2.1 ++ wdO cA 1 ly1 ja1 ad1 (cut0 S.2.1)) := by rw [← wd_cut hT]; exact hD
    have hP0 : va_P D vwCl (wdO cA 1 ly1 ja1 ad1 (cut0 S.2.1)) H := wP_r hP
    have hD0 : va_D A (wdO cA 1 ly1 ja1 ad1 (cut0 S.2.1)) := wD_r hD
    have hF : ∀ q, va_A (wdO cA 1 ly1 ja1 ad1 (cut0 S.2.1)) H.size q → A q := wA_mid (c := []) (by rw [List.append_nil]; exact hD) hAq
    show W _ _ _ _ _ _ _ _ _ _ _ _ _ _ _ (F0 m pc ls (.ref (ad 1) :: _))
    rw [g1]
    refine va_calld (va_runV (As := []) (rest := r.map (conc ad)) S0 (hC l D cA ad1 (vR 0 :: []) S.2.1 Qc H.size hX) cw ⟨pre0_blind, va_recv hK1 hP0 (q := (RX1, TX1, 15)) (ci := 1) (q0 := 0) rfl rfl, fun U hU hW => ⟨rfl, by rw [hU], by rw [hU]; exact hP0, va_K.moved hW.alike hK1, hD0.weaken (fun _ _ _ _ => trivial)⟩⟩ rfl rfl hL.1 rfl (lv_room (sh4_sum h3)) hd ⟨by omega, by omega⟩) hS (fun q _ z => hF q z) hF (fun r9 u t H1 locs1 ht hvm hw1 hB hz1 hk1 hS1 => ?_)
    have hq := hw1
    obtain ⟨hP1, hK2, hD1⟩ := hB
    rw [ht] at hP1
    obtain ⟨hPn, hDn⟩ := w_rt hP hD hAq hP1 hD1 hk1
    exact hk r9 u hq ad ha H1 locs1 ls _ _ ⟨rfl, rfl, hc1, hc2⟩ hPn hDn hS1 hL
  · exact h.elim
theorem js_aj0 {Ts : List Cond} {own : String} (S0 : CallFix p m c cc nL s args Ts own) (hA : ∀ q, s.heap.size ≤ q → A q) (hK : va_K D vwCl [(cA, .int), (cJ, .long)] s) (hRc : K ≤ R.cells) (hRs : M ≤ R.slots) (hg : ∀ ad, AD ad → ad 0 = ad0 0 ∧ ad 1 = ad1 0 ∧ ad 2 = ao ∧ ad 3 = b) {index maxL : Nat} {y : MethodName} {bytes : ByteArray} {ret : Option FieldType} {ws : List Cond} {rm : Room} {X : RJ} {k w : Nat} (hC : CtAJ 1 ly1 ja1 y ws rm k w X) (cw : CallW R s args own RX1 index y bytes maxL ret ws rm k w 0) (hd : decode cc pc = .ok (.invokevirtual index, 3)) (hn : n = pc + 3) : ∀ lv st S, j_aj0 X k w K M n lv st S (LOK p l e R s m args below meth c Q D (wLw cA cJ ad0 ao ad1) A ci ly ja AD (relA K M) nL) → (LOK p l e R s m args below meth c Q D (wLw cA cJ ad0 ao ad1) A ci ly ja AD (relA K M) nL) pc lv st S := by
  intro lv st S h
  subst hn
  unfold j_aj0 at h
  split at h
  · rename_i r
    obtain ⟨h3, h9, Qc, hX, hk⟩ := h
    intro ad ha H locs ls cells slots hr hP hD hS hL
    obtain ⟨g0, g1, g2, g3⟩ := hg ad ha
    obtain ⟨rfl, rfl, hb1, hb2⟩ := hr
    have hAq : ∀ q, Array.size H ≤ q → A q := fun q z => hA q (Nat.le_trans hS.1 z)
    have hK1 : va_K D vwCl [(cA, .int)] s := hK.sub [0] rfl
    obtain ⟨hT, hc1, hc2⟩ := h9
    have hP : va_P D vwCl (wrW cA cJ ad0 ao S.1 S.2.2.1 ++ wdO cA 1 ly1 ja1 ad1 (cut0 S.2.1)) H := by rw [← wd_cut hT]; exact hP
    have hD : va_D A (wrW cA cJ ad0 ao S.1 S.2.2.1 ++ wdO cA 1 ly1 ja1 ad1 (cut0 S.2.1)) := by rw [← wd_cut hT]; exact hD
    have hP0 : va_P D vwCl (wdO cA 1 ly1 ja1 ad1 (cut0 S.2.1)) H := wP_r hP
    have hD0 : va_D A (wdO cA 1 ly1 ja1 ad1 (cut0 S.2.1)) := wD_r hD
    have hF : ∀ q, va_A (wdO cA 1 ly1 ja1 ad1 (cut0 S.2.1)) H.size q → A q := wA_mid (c := []) (by rw [List.append_nil]; exact hD) hAq
    show W _ _ _ _ _ _ _ _ _ _ _ _ _ _ _ (F0 m pc ls (.ref (ad 1) :: _))
    rw [g1]
    refine va_calll (va_runV (As := []) (rest := r.map (conc ad)) S0 (hC l D cA ad1 (vR 0 :: []) S.2.1 Qc H.size hX) cw ⟨pre0_blind, va_recv hK1 hP0 (q := (RX1, TX1, 15)) (ci := 1) (q0 := 0) rfl rfl, fun U hU hW => ⟨rfl, by rw [hU], by rw [hU]; exact hP0, va_K.moved hW.alike hK1, hD0.weaken (fun _ _ _ _ => trivial)⟩⟩ rfl rfl hL.1 rfl (lv_room (sh4_sum h3)) hd ⟨by omega, by omega⟩) hS (fun q _ z => hF q z) hF (fun r9 u t H1 locs1 ht hvm hw1 hB hz1 hk1 hS1 => ?_)
    have hq := hw1
    obtain ⟨hP1, hK2, hD1⟩ := hB
    rw [ht] at hP1
    obtain ⟨hPn, hDn⟩ := w_rt hP hD hAq hP1 hD1 hk1
    exact hk r9 u hq ad ha H1 locs1 ls _ _ ⟨rfl, rfl, hc1, hc2⟩ hPn hDn hS1 hL
  · exact h.elim
end LCALL
