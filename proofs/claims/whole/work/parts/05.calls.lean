/-! CONTRACTS over the abstract states, calls, ends, throws -/
def AtW (D : va_G) (cA : ClassId) (ci : Nat) (ly : List Bool) (ja : List (Nat × Nat)) (ad : Nat → Nat) (A : Nat → Prop) (u : ST) (t : State) : Prop := va_P D vwCl (wdO cA ci ly ja ad u) t.heap ∧ va_K D vwCl [(cA, .int)] t ∧ va_D A (wdO cA ci ly ja ad u)
def Pre0 (D : va_G) (cA : ClassId) (ci : Nat) (ly : List Bool) (ja : List (Nat × Nat)) (ad : Nat → Nat) (S : ST) (sz : Nat) (U : State) : Prop := U.heap.size = sz ∧ va_P D vwCl (wdO cA ci ly ja ad S) U.heap ∧ va_K D vwCl [(cA, .int)] U ∧ va_D (fun _ => True) (wdO cA ci ly ja ad S)
def xws : List Cond := [.castable "java/lang/IllegalArgumentException" "java/lang/IllegalArgumentException", .castable "java/lang/IllegalStateException" "java/lang/IllegalStateException", .castable "java/lang/IndexOutOfBoundsException" "java/lang/IndexOutOfBoundsException", .declares (Bundle.initS "java/lang/RuntimeException"), .declares (Bundle.initS "java/lang/Exception"), .declares (Bundle.initS Bundle.tN)]
theorem xws_tab : ∀ w ∈ xws, w.onTables = true := by decide +kernel
theorem xws_warm {s U : State} (hW : s.WarmedH U.vm) : ∀ w ∈ xws, va_Nw w s → va_Nw w U := al (va_Nw.warmC hW) <| al (va_Nw.warmC hW) <| al (va_Nw.warmC hW) <| al (va_Nw.warmD hW) <| al (va_Nw.warmD hW) <| al (va_Nw.warmD hW) <| an
/-- what a throw wants of the start: Throwable's two statics, the texts' own objects -/
def XEv (own : String) (strs : List (Nat × String)) (A : Nat → Prop) (U : State) : Prop := vx_Zq Bundle.tN "UNASSIGNED_STACK" Bundle.steD A U U.heap ∧ vx_Zq Bundle.tN "SUPPRESSED_SENTINEL" Bundle.listD A U U.heap ∧ (∀ q ∈ strs, ∃ a, vk_R own q.1 q.2 a U) ∧ ∀ w ∈ xws, va_Nw w U
theorem XEv.calling {own : String} {strs : List (Nat × String)} {A : Nat → Prop} {U : State} {g : JFrame} {mk : MethodId} {a : Array Value} (h : XEv own strs A U) : XEv own strs A (U.calling g mk a) :=
  ⟨vx_Zq.moved (u := U) (U := U.calling g mk a) (Vm.Alike.refl U.vm) h.1, vx_Zq.moved (u := U) (U := U.calling g mk a) (Vm.Alike.refl U.vm) h.2.1, fun q hq => by obtain ⟨z, hz⟩ := h.2.2.1 q hq; exact ⟨z, vk_R.same (u := U) (U := U.calling g mk a) rfl hz⟩, fun w hw => va_tabs (A := #[]) (u := U) (xws_tab w hw) rfl (h.2.2.2 w hw)⟩
theorem XEv.at {own : String} {strs : List (Nat × String)} {A B : Nat → Prop} {s U : State} {H : Heap} {locs : List Loc} (h : XEv own strs A s) (hS : va_S A s.heap H locs) (hU : U.heap = H) (hW : s.WarmedH U.vm) (hB : ∀ q, B q → A q) : XEv own strs B U := by
  refine ⟨?_, ?_, fun q hq => by obtain ⟨z, hz⟩ := h.2.2.1 q hq; exact ⟨z, vk_R.warm hW hz⟩, fun w hw => xws_warm hW w hw (h.2.2.2 w hw)⟩
  · rw [hU]; exact (vx_Zq.moved hW.alike (vx_Zq.kept h.1 hS.2.1)).narrow hB
  · rw [hU]; exact (vx_Zq.moved hW.alike (vx_Zq.kept h.2.1 hS.2.1)).narrow hB
/-- a method that returns an int, a long, a double, nothing: whatever its table runs to -/
def CtI (ci : Nat) (ly : List Bool) (ja : List (Nat × Nat)) (y : MethodName) (ws : List Cond) (rm : Room) (X : RI) : Prop := ∀ (l : Launch) (D : va_G) (cA : ClassId) (ad : Nat → Nat) (av : List AV) (S : ST) (Q : Int → ST → Prop) (sz : Nat), X av S Q nox →
  Met l y ws rm (va_Pc (av.map (conc ad)) (Pre0 D cA ci ly ja ad S sz)) (va_Qi (fun (r : Int32) (u : ST) => (∃ a : Int, r = iI a ∧ Q a u) ∧ u.2.2.2 = S.2.2.2) (AtW D cA ci ly ja ad (va_A (wdO cA ci ly ja ad S) sz)) (va_A (wdO cA ci ly ja ad S) sz)) 0 0 (va_A (wdO cA ci ly ja ad S) sz)
def CtJ (ci : Nat) (ly : List Bool) (ja : List (Nat × Nat)) (y : MethodName) (ws : List Cond) (rm : Room) (X : RJ) : Prop := ∀ (l : Launch) (D : va_G) (cA : ClassId) (ad : Nat → Nat) (av : List AV) (S : ST) (Q : Int64 → ST → Prop) (sz : Nat), X av S Q nox →
  Met l y ws rm (va_Pc (av.map (conc ad)) (Pre0 D cA ci ly ja ad S sz)) (va_Ql (fun (r : Int64) (u : ST) => Q r u ∧ u.2.2.2 = S.2.2.2) (AtW D cA ci ly ja ad (va_A (wdO cA ci ly ja ad S) sz)) (va_A (wdO cA ci ly ja ad S) sz)) 0 0 (va_A (wdO cA ci ly ja ad S) sz)
def CtD (ci : Nat) (ly : List Bool) (ja : List (Nat × Nat)) (y : MethodName) (ws : List Cond) (rm : Room) (X : RD) : Prop := ∀ (l : Launch) (D : va_G) (cA : ClassId) (ad : Nat → Nat) (av : List AV) (S : ST) (Q : UInt64 → ST → Prop) (sz : Nat), X av S Q nox →
  Met l y ws rm (va_Pc (av.map (conc ad)) (Pre0 D cA ci ly ja ad S sz)) (va_Qd (fun (r : UInt64) (u : ST) => Q r u ∧ u.2.2.2 = S.2.2.2) (AtW D cA ci ly ja ad (va_A (wdO cA ci ly ja ad S) sz)) (va_A (wdO cA ci ly ja ad S) sz)) 0 0 (va_A (wdO cA ci ly ja ad S) sz)
def CtV (ci : Nat) (ly : List Bool) (ja : List (Nat × Nat)) (y : MethodName) (ws : List Cond) (rm : Room) (X : RV) : Prop := ∀ (l : Launch) (D : va_G) (cA : ClassId) (ad : Nat → Nat) (av : List AV) (S : ST) (Q : ST → Prop) (sz : Nat), X av S Q nox →
  Met l y ws rm (va_Pc (av.map (conc ad)) (Pre0 D cA ci ly ja ad S sz)) (va_Qv (fun (u : ST) => Q u ∧ u.2.2.2 = S.2.2.2) (AtW D cA ci ly ja ad (va_A (wdO cA ci ly ja ad S) sz)) (va_A (wdO cA ci ly ja ad S) sz)) 0 0 (va_A (wdO cA ci ly ja ad S) sz)
/-- .. that makes rows: they are forgotten at its end -/
def dropT (u : ST) : ST := (u.1, u.2.1, none, u.2.2.2)
def CtAI (ci : Nat) (ly : List Bool) (ja : List (Nat × Nat)) (y : MethodName) (ws : List Cond) (rm : Room) (K M : Nat) (X : RI) : Prop := ∀ (l : Launch) (D : va_G) (cA : ClassId) (ad : Nat → Nat) (av : List AV) (S : ST) (Q : Int → ST → Prop) (sz : Nat), X av (cut0 S) Q nox →
  Met l y ws rm (va_Pc (av.map (conc ad)) (Pre0 D cA ci ly ja ad (cut0 S) sz)) (va_Qi (fun (r : Int32) (u : ST) => ∃ a : Int, r = iI a ∧ Q a u) (fun u => AtW D cA ci ly ja ad (va_A (wdO cA ci ly ja ad (cut0 S)) sz) (dropT u)) (va_A (wdO cA ci ly ja ad (cut0 S)) sz)) K M (va_A (wdO cA ci ly ja ad (cut0 S)) sz)
def CtAJ (ci : Nat) (ly : List Bool) (ja : List (Nat × Nat)) (y : MethodName) (ws : List Cond) (rm : Room) (K M : Nat) (X : RJ) : Prop := ∀ (l : Launch) (D : va_G) (cA : ClassId) (ad : Nat → Nat) (av : List AV) (S : ST) (Q : Int64 → ST → Prop) (sz : Nat), X av (cut0 S) Q nox →
  Met l y ws rm (va_Pc (av.map (conc ad)) (Pre0 D cA ci ly ja ad (cut0 S) sz)) (va_Ql (fun (r : Int64) (u : ST) => Q r u) (fun u => AtW D cA ci ly ja ad (va_A (wdO cA ci ly ja ad (cut0 S)) sz) (dropT u)) (va_A (wdO cA ci ly ja ad (cut0 S)) sz)) K M (va_A (wdO cA ci ly ja ad (cut0 S)) sz)
def CtAD (ci : Nat) (ly : List Bool) (ja : List (Nat × Nat)) (y : MethodName) (ws : List Cond) (rm : Room) (K M : Nat) (X : RD) : Prop := ∀ (l : Launch) (D : va_G) (cA : ClassId) (ad : Nat → Nat) (av : List AV) (S : ST) (Q : UInt64 → ST → Prop) (sz : Nat), X av (cut0 S) Q nox →
  Met l y ws rm (va_Pc (av.map (conc ad)) (Pre0 D cA ci ly ja ad (cut0 S) sz)) (va_Qd (fun (r : UInt64) (u : ST) => Q r u) (fun u => AtW D cA ci ly ja ad (va_A (wdO cA ci ly ja ad (cut0 S)) sz) (dropT u)) (va_A (wdO cA ci ly ja ad (cut0 S)) sz)) K M (va_A (wdO cA ci ly ja ad (cut0 S)) sz)
/-- .. that throws -/
def CtXI (own : String) (strs : List (Nat × String)) (ci : Nat) (ly : List Bool) (ja : List (Nat × Nat)) (y : MethodName) (ws : List Cond) (rm : Room) (X : RI) : Prop := ∀ (l : Launch), l.stackTraces = false → ∀ (D : va_G) (cA : ClassId) (ad : Nat → Nat) (av : List AV) (S : ST) (Q : String → ST → Prop) (sz : Nat), X av S (fun _ _ => False) Q →
  vx_Met l y ws rm (va_Pc (av.map (conc ad)) (fun U => Pre0 D cA ci ly ja ad S sz U ∧ XEv own strs (va_A (wdO cA ci ly ja ad S) sz) U)) (va_Qi (fun (_ : Int32) (_ : ST) => False) (AtW D cA ci ly ja ad (va_A (wdO cA ci ly ja ad S) sz)) (va_A (wdO cA ci ly ja ad S) sz)) (vx_X (fun q : String × ST => Q q.1 q.2 ∧ q.2.2.2.2 = S.2.2.2) (fun E q t => E = q.1 ∧ AtW D cA ci ly ja ad (va_A (wdO cA ci ly ja ad S) sz) q.2 t) (va_A (wdO cA ci ly ja ad S) sz)) 1 6 (va_A (wdO cA ci ly ja ad S) sz)
def CtXV (own : String) (strs : List (Nat × String)) (ci : Nat) (ly : List Bool) (ja : List (Nat × Nat)) (y : MethodName) (ws : List Cond) (rm : Room) (X : RV) : Prop := ∀ (l : Launch), l.stackTraces = false → ∀ (D : va_G) (cA : ClassId) (ad : Nat → Nat) (av : List AV) (S : ST) (Q : String → ST → Prop) (sz : Nat), X av S (fun _ => False) Q →
  vx_Met l y ws rm (va_Pc (av.map (conc ad)) (fun U => Pre0 D cA ci ly ja ad S sz U ∧ XEv own strs (va_A (wdO cA ci ly ja ad S) sz) U)) (va_Qv (fun (_ : ST) => False) (AtW D cA ci ly ja ad (va_A (wdO cA ci ly ja ad S) sz)) (va_A (wdO cA ci ly ja ad S) sz)) (vx_X (fun q : String × ST => Q q.1 q.2 ∧ q.2.2.2.2 = S.2.2.2) (fun E q t => E = q.1 ∧ AtW D cA ci ly ja ad (va_A (wdO cA ci ly ja ad S) sz) q.2 t) (va_A (wdO cA ci ly ja ad S) sz)) 1 6 (va_A (wdO cA ci ly ja ad S) sz)
theorem pre0_blind {D : va_G} {cA : ClassId} {ci : Nat} {ly : List Bool} {ja : List (Nat × Nat)} {ad : Nat → Nat} {S : ST} {sz : Nat} {av : List Value} : FrameBlind (va_Pc av (Pre0 D cA ci ly ja ad S sz)) := by
  intro a U g mk q
  obtain ⟨q0, q1, qP, qK, qD⟩ := q
  exact ⟨q0, q1, qP, va_K.moved (u := U) (U := U.calling g mk a) (Vm.Alike.refl U.vm) qK, qD⟩
theorem prex_blind {D : va_G} {cA : ClassId} {ci : Nat} {ly : List Bool} {ja : List (Nat × Nat)} {ad : Nat → Nat} {S : ST} {sz : Nat} {av : List Value} {own : String} {strs : List (Nat × String)} {A : Nat → Prop} : FrameBlind (va_Pc av (fun U => Pre0 D cA ci ly ja ad S sz U ∧ XEv own strs A U)) := by
  intro a U g mk q
  obtain ⟨q0, ⟨q1, qP, qK, qD⟩, qX⟩ := q
  exact ⟨q0, ⟨q1, qP, va_K.moved (u := U) (U := U.calling g mk a) (Vm.Alike.refl U.vm) qK, qD⟩, qX.calling⟩
theorem isR0_of {st : List AV} (h : isR0 st) : ∃ as, st = vR 0 :: as := by
  rcases st with _ | ⟨a | x | d | k, as⟩
  · exact h.elim
  · exact h.elim
  · exact h.elim
  · exact h.elim
  · cases k with
    | zero => exact ⟨as, rfl⟩
    | succ k => exact h.elim
theorem cat_le (ad : Nat → Nat) (v : AV) : (conc ad v).category ≤ 2 := by
  rcases v with a | x | d | k <;> exact Nat.le_of_ble_eq_true rfl
theorem sh4_sum {ad : Nat → Nat} {st : List AV} (h : sh4 st) : ((st.map (conc ad)).map fun v => v.category).sum ≤ 8 := by
  have c := cat_le ad
  rcases st with _ | ⟨a, _ | ⟨b, _ | ⟨d, _ | ⟨g, _ | ⟨z, r⟩⟩⟩⟩⟩
  · simp
  · have := c a; simp; omega
  · have := c a; have := c b; simp; omega
  · have := c a; have := c b; have := c d; simp; omega
  · have := c a; have := c b; have := c d; have := c g; simp; omega
  · exact h.elim
/-- the stack at a call -/
theorem call_st {ad : Nat → Nat} {st as : List AV} {w nA : Nat} (hw : w = nA + 1) (has : (st.take w).reverse = vR 0 :: as) (hl : w ≤ st.length) : as.length = nA ∧ st.map (conc ad) = (as.map (conc ad)).reverse ++ Value.ref (ad 0) :: (st.drop w).map (conc ad) := by
  have h1 : st.take w = as.reverse ++ [vR 0] := by
    have := congrArg List.reverse has
    rw [List.reverse_reverse, List.reverse_cons] at this
    exact this
  refine ⟨?_, ?_⟩
  · have := congrArg List.length has
    rw [List.length_reverse, List.length_take, List.length_cons] at this
    omega
  · have h2 : st = (as.reverse ++ [vR 0]) ++ st.drop w := by rw [← h1]; exact (List.take_append_drop w st).symm
    have h3 := congrArg (List.map (conc ad)) h2
    rw [List.map_append, List.map_append, List.map_reverse, List.append_assoc] at h3
    exact h3
theorem scall_st {ad : Nat → Nat} {st as : List AV} {w : Nat} (has : (st.take w).reverse = as) (hl : w ≤ st.length) : as.length = w ∧ st.map (conc ad) = (as.map (conc ad)).reverse ++ (st.drop w).map (conc ad) := by
  have h1 : st.take w = as.reverse := by rw [← has, List.reverse_reverse]
  refine ⟨by rw [← has, List.length_reverse, List.length_take]; omega, ?_⟩
  have h2 : st = as.reverse ++ st.drop w := by rw [← h1]; exact (List.take_append_drop w st).symm
  have h3 := congrArg (List.map (conc ad)) h2
  rw [List.map_append, List.map_reverse] at h3
  exact h3
section CALLS
variable {p : Program} {l : Launch} {e : Env} {R : Room} {s : State} {m : MethodId} {args : Array Value} {below : List Frame} {meth : Method} {c : Code} {Q : State → Prop}
variable {D : va_G} {cA : ClassId} {A : Nat → Prop} {ci : Nat} {ly : List Bool} {ja : List (Nat × Nat)} {AD : (Nat → Nat) → Prop} {rel : Nat × Nat → Nat → Nat → Prop} {nL : Nat}
variable {cc : ByteArray} {pc n : Nat}
theorem own_free {H : Heap} {locs : List Loc} {ws : va_W} (hA : ∀ q, s.heap.size ≤ q → A q) (hD : va_D A ws) (hS : va_S A s.heap H locs) : ∀ q, va_A ws H.size q → A q := by
  intro q hq
  rcases hq with ⟨k, e, hk⟩ | h
  · exact hD.2 k (q, e) hk
  · exact hA q (Nat.le_trans hS.1 h)
theorem s_calli {Ts : List Cond} {own C : String} {T : u_T} {N index maxL w nA : Nat} {y : MethodName} {bytes : ByteArray} {ret : Option FieldType} {ws : List Cond} {rm : Room} (S0 : CallFix p m c cc nL s args Ts own) (hA : ∀ q, s.heap.size ≤ q → A q) (hK : va_K D vwCl [(cA, .int)] s) (hrR : ∀ k c n, rel k c n → c ≤ R.cells ∧ n ≤ R.slots) (hw : w = nA + 1) {X : RI} (hC : CtI ci ly ja y ws rm X) (cw : CallW R s args own C index y bytes maxL ret ws rm 0 0 nA) (hcl : vwCl[ci]? = some (C, T, N)) (hd : decode cc pc = .ok (.invokevirtual index, 3)) (hn : n = pc + 3) : ∀ lv st S, i_calli X w n lv st S (OK p l e R s m args below meth c Q D cA A ci ly ja AD rel nL) → (OK p l e R s m args below meth c Q D cA A ci ly ja AD rel nL) pc lv st S := by
  intro lv st S h
  obtain ⟨⟨h1, h2⟩, h3, Qc, hX, hk⟩ := h
  subst hn
  obtain ⟨as, has⟩ := isR0_of h1
  rw [has] at hX
  intro ad ha H locs ls cells slots hr hP hD hS hL
  obtain ⟨hlen, hst⟩ := call_st (ad := ad) hw has h2
  have hF := own_free hA hD hS
  have hbd := hrR _ _ _ hr
  rw [hst]
  refine va_calli (va_runV (As := as.map (conc ad)) (rest := (st.drop w).map (conc ad)) S0 (hC l D cA ad (vR 0 :: as) S Qc H.size hX) cw ⟨pre0_blind, va_recv hK hP hcl rfl (q0 := 0), fun U hU hW => ⟨rfl, by rw [hU], by rw [hU]; exact hP, va_K.moved hW.alike hK, hD.weaken (fun _ _ _ _ => trivial)⟩⟩ rfl (by rw [List.length_map]; exact hlen) hL.1 rfl (lv_room (sh4_sum h3)) hd ⟨hbd.1, hbd.2⟩) hS (fun q _ z => hF q z) hF (fun r u t H1 locs1 ht hvm hw1 hB hz1 hk1 hS1 => ?_)
  obtain ⟨⟨a, rfl, hq⟩, hku⟩ := hw1
  obtain ⟨hP1, hK1, hD1⟩ := hB
  rw [ht] at hP1
  exact hk a u hq ad ha H1 locs1 ls cells slots (by rw [hku]; exact hr) hP1 (hD1.weaken (fun k q _ z => hF q.1 z)) hS1 hL
theorem s_calll {Ts : List Cond} {own C : String} {T : u_T} {N index maxL w nA : Nat} {y : MethodName} {bytes : ByteArray} {ret : Option FieldType} {ws : List Cond} {rm : Room} (S0 : CallFix p m c cc nL s args Ts own) (hA : ∀ q, s.heap.size ≤ q → A q) (hK : va_K D vwCl [(cA, .int)] s) (hrR : ∀ k c n, rel k c n → c ≤ R.cells ∧ n ≤ R.slots) (hw : w = nA + 1) {X : RJ} (hC : CtJ ci ly ja y ws rm X) (cw : CallW R s args own C index y bytes maxL ret ws rm 0 0 nA) (hcl : vwCl[ci]? = some (C, T, N)) (hd : decode cc pc = .ok (.invokevirtual index, 3)) (hn : n = pc + 3) : ∀ lv st S, i_calll X w n lv st S (OK p l e R s m args below meth c Q D cA A ci ly ja AD rel nL) → (OK p l e R s m args below meth c Q D cA A ci ly ja AD rel nL) pc lv st S := by
  intro lv st S h
  obtain ⟨⟨h1, h2⟩, h3, Qc, hX, hk⟩ := h
  subst hn
  obtain ⟨as, has⟩ := isR0_of h1
  rw [has] at hX
  intro ad ha H locs ls cells slots hr hP hD hS hL
  obtain ⟨hlen, hst⟩ := call_st (ad := ad) hw has h2
  have hF := own_free hA hD hS
  have hbd := hrR _ _ _ hr
  rw [hst]
  refine va_calll (va_runV (As := as.map (conc ad)) (rest := (st.drop w).map (conc ad)) S0 (hC l D cA ad (vR 0 :: as) S Qc H.size hX) cw ⟨pre0_blind, va_recv hK hP hcl rfl (q0 := 0), fun U hU hW => ⟨rfl, by rw [hU], by rw [hU]; exact hP, va_K.moved hW.alike hK, hD.weaken (fun _ _ _ _ => trivial)⟩⟩ rfl (by rw [List.length_map]; exact hlen) hL.1 rfl (lv_room (sh4_sum h3)) hd ⟨hbd.1, hbd.2⟩) hS (fun q _ z => hF q z) hF (fun r u t H1 locs1 ht hvm hw1 hB hz1 hk1 hS1 => ?_)
  obtain ⟨hq, hku⟩ := hw1
  obtain ⟨hP1, hK1, hD1⟩ := hB
  rw [ht] at hP1
  exact hk r u hq ad ha H1 locs1 ls cells slots (by rw [hku]; exact hr) hP1 (hD1.weaken (fun k q _ z => hF q.1 z)) hS1 hL
theorem s_callv {Ts : List Cond} {own C : String} {T : u_T} {N index maxL w nA : Nat} {y : MethodName} {bytes : ByteArray} {ret : Option FieldType} {ws : List Cond} {rm : Room} (S0 : CallFix p m c cc nL s args Ts own) (hA : ∀ q, s.heap.size ≤ q → A q) (hK : va_K D vwCl [(cA, .int)] s) (hrR : ∀ k c n, rel k c n → c ≤ R.cells ∧ n ≤ R.slots) (hw : w = nA + 1) {X : RV} (hC : CtV ci ly ja y ws rm X) (cw : CallW R s args own C index y bytes maxL ret ws rm 0 0 nA) (hcl : vwCl[ci]? = some (C, T, N)) (hd : decode cc pc = .ok (.invokevirtual index, 3)) (hn : n = pc + 3) : ∀ lv st S, i_callv X w n lv st S (OK p l e R s m args below meth c Q D cA A ci ly ja AD rel nL) → (OK p l e R s m args below meth c Q D cA A ci ly ja AD rel nL) pc lv st S := by
  intro lv st S h
  obtain ⟨⟨h1, h2⟩, h3, Qc, hX, hk⟩ := h
  subst hn
  obtain ⟨as, has⟩ := isR0_of h1
  rw [has] at hX
  intro ad ha H locs ls cells slots hr hP hD hS hL
  obtain ⟨hlen, hst⟩ := call_st (ad := ad) hw has h2
  have hF := own_free hA hD hS
  have hbd := hrR _ _ _ hr
  rw [hst]
  refine va_callv (va_runV (As := as.map (conc ad)) (rest := (st.drop w).map (conc ad)) S0 (hC l D cA ad (vR 0 :: as) S Qc H.size hX) cw ⟨pre0_blind, va_recv hK hP hcl rfl (q0 := 0), fun U hU hW => ⟨rfl, by rw [hU], by rw [hU]; exact hP, va_K.moved hW.alike hK, hD.weaken (fun _ _ _ _ => trivial)⟩⟩ rfl (by rw [List.length_map]; exact hlen) hL.1 rfl (lv_room (sh4_sum h3)) hd ⟨hbd.1, hbd.2⟩) hS (fun q _ z => hF q z) hF (fun u t H1 locs1 ht hvm hw1 hB hz1 hk1 hS1 => ?_)
  obtain ⟨hq, hku⟩ := hw1
  obtain ⟨hP1, hK1, hD1⟩ := hB
  rw [ht] at hP1
  exact hk u hq ad ha H1 locs1 ls cells slots (by rw [hku]; exact hr) hP1 (hD1.weaken (fun k q _ z => hF q.1 z)) hS1 hL
theorem s_scalli {Ts : List Cond} {own : String} {index maxL w : Nat} {y : MethodName} {bytes : ByteArray} {ret : Option FieldType} {ws : List Cond} {rm : Room} (S0 : CallFix p m c cc nL s args Ts own) (hA : ∀ q, s.heap.size ≤ q → A q) (hK : va_K D vwCl [(cA, .int)] s) (hrR : ∀ k c n, rel k c n → c ≤ R.cells ∧ n ≤ R.slots) {X : RI} (hC : CtI ci ly ja y ws rm X) (cw : CallB R s args own index y bytes maxL ret ws rm 0 0 w ∧ (Cond.static y).before args s = true) (hd : decode cc pc = .ok (.invokestatic index, 3)) (hn : n = pc + 3) : ∀ lv st S, i_scalli X w n lv st S (OK p l e R s m args below meth c Q D cA A ci ly ja AD rel nL) → (OK p l e R s m args below meth c Q D cA A ci ly ja AD rel nL) pc lv st S := by
  intro lv st S h
  obtain ⟨h2, h3, Qc, hX, hk⟩ := h
  subst hn
  obtain ⟨as, has⟩ : ∃ as, (st.take w).reverse = as := ⟨_, rfl⟩
  rw [has] at hX
  intro ad ha H locs ls cells slots hr hP hD hS hL
  obtain ⟨hlen, hst⟩ := scall_st (ad := ad) has h2
  have hF := own_free hA hD hS
  have hbd := hrR _ _ _ hr
  rw [hst]
  refine va_calli (va_runS (As := as.map (conc ad)) (rest := (st.drop w).map (conc ad)) S0 (hC l D cA ad as S Qc H.size hX) cw ⟨pre0_blind, fun U hU hW => ⟨rfl, by rw [hU], by rw [hU]; exact hP, va_K.moved hW.alike hK, hD.weaken (fun _ _ _ _ => trivial)⟩⟩ rfl (by rw [List.length_map]; exact hlen) hL.1 rfl (lv_room (sh4_sum h3)) hd ⟨hbd.1, hbd.2⟩) hS (fun q _ z => hF q z) hF (fun r u t H1 locs1 ht hvm hw1 hB hz1 hk1 hS1 => ?_)
  obtain ⟨⟨a, rfl, hq⟩, hku⟩ := hw1
  obtain ⟨hP1, hK1, hD1⟩ := hB
  rw [ht] at hP1
  exact hk a u hq ad ha H1 locs1 ls cells slots (by rw [hku]; exact hr) hP1 (hD1.weaken (fun k q _ z => hF q.1 z)) hS1 hL
theorem wd_cut {ad : Nat → Nat} {S : ST} (h : S.2.2.1 = none) : wdO cA ci ly ja ad S = wdO cA ci ly ja ad (cut0 S) := by
  unfold wdO tw
  rw [h]
  rfl
theorem wd_glue {ad : Nat → Nat} {S u : ST} {k m : Nat} : wdO cA ci ly ja ad (glue S u k m) = wdO cA ci ly ja ad (dropT u) := rfl
theorem s_acalli {Ts : List Cond} {own C : String} {T : u_T} {N index maxL w nA : Nat} {y : MethodName} {bytes : ByteArray} {ret : Option FieldType} {ws : List Cond} {rm : Room} {k9 m9 K M : Nat} (S0 : CallFix p m c cc nL s args Ts own) (hA : ∀ q, s.heap.size ≤ q → A q) (hK : va_K D vwCl [(cA, .int)] s) (hrel : rel = relA K M) (hRc : K ≤ R.cells) (hRs : M ≤ R.slots) (hw : w = nA + 1) {X : RI} (hC : CtAI ci ly ja y ws rm k9 m9 X) (cw : CallW R s args own C index y bytes maxL ret ws rm k9 m9 nA) (hcl : vwCl[ci]? = some (C, T, N)) (hd : decode cc pc = .ok (.invokevirtual index, 3)) (hn : n = pc + 3) : ∀ lv st S, i_acalli X k9 m9 K M w n lv st S (OK p l e R s m args below meth c Q D cA A ci ly ja AD rel nL) → (OK p l e R s m args below meth c Q D cA A ci ly ja AD rel nL) pc lv st S := by
  intro lv st S h
  obtain ⟨⟨h1, h2⟩, h3, ⟨hT, hg1, hg2⟩, Qc, hX, hk⟩ := h
  subst hn
  subst hrel
  obtain ⟨as, has⟩ := isR0_of h1
  rw [has] at hX
  intro ad ha H locs ls cells slots hr hP hD hS hL
  obtain ⟨hlen, hst⟩ := call_st (ad := ad) hw has h2
  rw [wd_cut hT] at hP hD
  have hF := own_free hA hD hS
  obtain ⟨rfl, rfl, hb1, hb2⟩ := hr
  rw [hst]
  refine va_calli (va_runV (As := as.map (conc ad)) (rest := (st.drop w).map (conc ad)) S0 (hC l D cA ad (vR 0 :: as) S Qc H.size hX) cw ⟨pre0_blind, va_recv hK hP hcl rfl (q0 := 0), fun U hU hW => ⟨rfl, by rw [hU], by rw [hU]; exact hP, va_K.moved hW.alike hK, hD.weaken (fun _ _ _ _ => trivial)⟩⟩ rfl (by rw [List.length_map]; exact hlen) hL.1 rfl (lv_room (sh4_sum h3)) hd ⟨by omega, by omega⟩) hS (fun q _ z => hF q z) hF (fun r u t H1 locs1 ht hvm hw1 hB hz1 hk1 hS1 => ?_)
  obtain ⟨a, rfl, hq⟩ := hw1
  obtain ⟨hP1, hK1, hD1⟩ := hB
  rw [ht] at hP1
  exact hk a u hq ad ha H1 locs1 ls _ _ ⟨rfl, rfl, hg1, hg2⟩ hP1 (hD1.weaken (fun k q _ z => hF q.1 z)) hS1 hL
/-- the two ways in which a method of the class is walked: nothing is thrown; or it may throw -/
def TC (own : String) (strs : List (Nat × String)) (l : Launch) (R : Room) (s : State) (args : Array Value) (below : List Frame) (meth : Method) (c : Code) (Q : State → Prop) (D : va_G) (cA : ClassId) (A : Nat → Prop) (ci : Nat) (ly : List Bool) (ja : List (Nat × Nat)) (AD : (Nat → Nat) → Prop) (rel : Nat × Nat → Nat → Nat → Prop) (Qx : String → ST → Prop) : Prop :=
  Qx = nox ∨ ∃ (ad0 : Nat → Nat) (k0 : Nat × Nat) (Qc : Array Value → State → Outcome → State → Prop), Q = vx_MQ below Qc (vx_X (fun q : String × ST => Qx q.1 q.2 ∧ q.2.2.2.2 = k0) (fun E q t => E = q.1 ∧ AtW D cA ci ly ja ad0 A q.2 t) A) args s 1 6 A ∧ (∀ ad, AD ad → ad = ad0) ∧ (∀ k c n, rel k c n → k = k0 ∧ c = 0 ∧ n = 0) ∧ XEv own strs A s ∧ (∀ x ∈ c.exceptionTable.toList, False) ∧ l.stackTraces = false ∧ meth.locks = false ∧ 6 ≤ R.frames ∧ 82 ≤ R.locals ∧ 1 ≤ R.cells ∧ 6 ≤ R.slots
theorem nox_of {Q9 : String → ST → Prop} (h : ∀ E S', Q9 E S' → nox E S') : Q9 = nox := by
  funext E S'
  exact propext ⟨fun z => h E S' z, fun z => z.elim⟩
theorem s_xcalli {Ts : List Cond} {own C : String} {T : u_T} {N index maxL w nA : Nat} {y : MethodName} {bytes : ByteArray} {ret : Option FieldType} {ws : List Cond} {rm : Room} {rmx : Room} {strs : List (Nat × String)} {Qx : String → ST → Prop} (S0 : CallFix p m c cc nL s args Ts own) (hA : ∀ q, s.heap.size ≤ q → A q) (hK : va_K D vwCl [(cA, .int)] s) (hrR : ∀ k c n, rel k c n → c ≤ R.cells ∧ n ≤ R.slots) (hT : TC own strs l R s args below meth c Q D cA A ci ly ja AD rel Qx) (hw : w = nA + 1) {X : RI} (hC : CtI ci ly ja y ws rm X) (hCx : CtXI own strs ci ly ja y ws rmx X) (cw : CallW R s args own C index y bytes maxL ret ws rm 0 0 nA) (cwx : CallW R s args own C index y bytes maxL ret ws rmx 1 6 nA) (hcl : vwCl[ci]? = some (C, T, N)) (hd : decode cc pc = .ok (.invokevirtual index, 3)) (hn : n = pc + 3) : ∀ lv st S, i_xcalli X Qx w n lv st S (OK p l e R s m args below meth c Q D cA A ci ly ja AD rel nL) → (OK p l e R s m args below meth c Q D cA A ci ly ja AD rel nL) pc lv st S := by
  intro lv st S h
  obtain ⟨⟨h1, h2⟩, h3, h⟩ := h
  subst hn
  obtain ⟨as, has⟩ := isR0_of h1
  rw [has] at h
  have left : (∃ Qc, X (vR 0 :: as) S Qc nox ∧ ∀ r u, Qc r u → (OK p l e R s m args below meth c Q D cA A ci ly ja AD rel nL) (pc + 3) lv (vI r :: st.drop w) u) → (OK p l e R s m args below meth c Q D cA A ci ly ja AD rel nL) pc lv st S := by
    rintro ⟨Qc, hX, hk⟩
    intro ad ha H locs ls cells slots hr hP hD hS hL
    obtain ⟨hlen, hst⟩ := call_st (ad := ad) hw has h2
    have hF := own_free hA hD hS
    have hbd := hrR _ _ _ hr
    rw [hst]
    refine va_calli (va_runV (As := as.map (conc ad)) (rest := (st.drop w).map (conc ad)) S0 (hC l D cA ad (vR 0 :: as) S Qc H.size hX) cw ⟨pre0_blind, va_recv hK hP hcl rfl (q0 := 0), fun U hU hW => ⟨rfl, by rw [hU], by rw [hU]; exact hP, va_K.moved hW.alike hK, hD.weaken (fun _ _ _ _ => trivial)⟩⟩ rfl (by rw [List.length_map]; exact hlen) hL.1 rfl (lv_room (sh4_sum h3)) hd ⟨hbd.1, hbd.2⟩) hS (fun q _ z => hF q z) hF (fun r u t H1 locs1 ht hvm hw1 hB hz1 hk1 hS1 => ?_)
    obtain ⟨⟨a, rfl, hq⟩, hku⟩ := hw1
    obtain ⟨hP1, hK1, hD1⟩ := hB
    rw [ht] at hP1
    exact hk a u hq ad ha H1 locs1 ls cells slots (by rw [hku]; exact hr) hP1 (hD1.weaken (fun k q _ z => hF q.1 z)) hS1 hL
  rcases h with h | ⟨Q9, hX, hk⟩
  · exact left h
  · rcases hT with rfl | ⟨ad0, k0, Qc0, rfl, hAD, hrel, hXE, hnt, hlt, hlk, hR1, hR2, hR3, hR4⟩
    · rw [nox_of hk] at hX
      exact left ⟨_, hX, fun r u z => z.elim⟩
    · intro ad ha H locs ls cells slots hr hP hD hS hL
      have hae := hAD ad ha
      subst hae
      obtain ⟨hlen, hst⟩ := call_st (ad := ad) hw has h2
      have hF := own_free hA hD hS
      obtain ⟨hk0, rfl, rfl⟩ := hrel _ _ _ hr
      rw [hst]
      refine vx_calli (vx_runV (As := as.map (conc ad)) (rest := (st.drop w).map (conc ad)) S0 (hCx l hlt D cA ad (vR 0 :: as) S Q9 H.size hX) cwx ⟨prex_blind, va_recv hK hP hcl rfl (q0 := 0), fun U hU hW => ⟨rfl, ⟨by rw [hU], by rw [hU]; exact hP, va_K.moved hW.alike hK, hD.weaken (fun _ _ _ _ => trivial)⟩, hXE.at hS hU hW hF⟩⟩ rfl (by rw [List.length_map]; exact hlen) hL.1 rfl (lv_room (sh4_sum h3)) hd ⟨by omega, by omega⟩) hS (fun q _ z => hF q z) hF (fun q _ z => hF q z) (fun E ce q9 u t H1 locs1 ht hvm hpx hBX hz1 hk1 hS1 hce hcv hcl9 => ?_) (fun r u t H1 locs1 ht hvm hw1 hB hz1 hk1 hS1 => hw1.elim)
      obtain ⟨hq, hku⟩ := hpx
      obtain ⟨rfl, hP1, hK1, hD1⟩ := hBX
      rw [ht] at hP1
      refine vx_out (fun x hx => (hnt x hx).elim) hlk hce hcv hcl9 (fun t1 ht1 hal => ⟨u, ⟨hk _ _ hq, by rw [hku, hk0]⟩, ⟨rfl, by rw [ht1]; exact hP1, va_K.moved hal hK, hD1.weaken (fun k q _ z => hF q.1 z)⟩, hS1.F ht1⟩) hS1.2.2 (by omega) (by omega)
theorem s_xcallv {Ts : List Cond} {own C : String} {T : u_T} {N index maxL w nA : Nat} {y : MethodName} {bytes : ByteArray} {ret : Option FieldType} {ws : List Cond} {rm : Room} {rmx : Room} {strs : List (Nat × String)} {Qx : String → ST → Prop} (S0 : CallFix p m c cc nL s args Ts own) (hA : ∀ q, s.heap.size ≤ q → A q) (hK : va_K D vwCl [(cA, .int)] s) (hrR : ∀ k c n, rel k c n → c ≤ R.cells ∧ n ≤ R.slots) (hT : TC own strs l R s args below meth c Q D cA A ci ly ja AD rel Qx) (hw : w = nA + 1) {X : RV} (hC : CtV ci ly ja y ws rm X) (hCx : CtXV own strs ci ly ja y ws rmx X) (cw : CallW R s args own C index y bytes maxL ret ws rm 0 0 nA) (cwx : CallW R s args own C index y bytes maxL ret ws rmx 1 6 nA) (hcl : vwCl[ci]? = some (C, T, N)) (hd : decode cc pc = .ok (.invokevirtual index, 3)) (hn : n = pc + 3) : ∀ lv st S, i_xcallv X Qx w n lv st S (OK p l e R s m args below meth c Q D cA A ci ly ja AD rel nL) → (OK p l e R s m args below meth c Q D cA A ci ly ja AD rel nL) pc lv st S := by
  intro lv st S h
  obtain ⟨⟨h1, h2⟩, h3, h⟩ := h
  subst hn
  obtain ⟨as, has⟩ := isR0_of h1
  rw [has] at h
  have left : (∃ Qc, X (vR 0 :: as) S Qc nox ∧ ∀ u, Qc u → (OK p l e R s m args below meth c Q D cA A ci ly ja AD rel nL) (pc + 3) lv (st.drop w) u) → (OK p l e R s m args below meth c Q D cA A ci ly ja AD rel nL) pc lv st S := by
    rintro ⟨Qc, hX, hk⟩
    intro ad ha H locs ls cells slots hr hP hD hS hL
    obtain ⟨hlen, hst⟩ := call_st (ad := ad) hw has h2
    have hF := own_free hA hD hS
    have hbd := hrR _ _ _ hr
    rw [hst]
    refine va_callv (va_runV (As := as.map (conc ad)) (rest := (st.drop w).map (conc ad)) S0 (hC l D cA ad (vR 0 :: as) S Qc H.size hX) cw ⟨pre0_blind, va_recv hK hP hcl rfl (q0 := 0), fun U hU hW => ⟨rfl, by rw [hU], by rw [hU]; exact hP, va_K.moved hW.alike hK, hD.weaken (fun _ _ _ _ => trivial)⟩⟩ rfl (by rw [List.length_map]; exact hlen) hL.1 rfl (lv_room (sh4_sum h3)) hd ⟨hbd.1, hbd.2⟩) hS (fun q _ z => hF q z) hF (fun u t H1 locs1 ht hvm hw1 hB hz1 hk1 hS1 => ?_)
    obtain ⟨hq, hku⟩ := hw1
    obtain ⟨hP1, hK1, hD1⟩ := hB
    rw [ht] at hP1
    exact hk u hq ad ha H1 locs1 ls cells slots (by rw [hku]; exact hr) hP1 (hD1.weaken (fun k q _ z => hF q.1 z)) hS1 hL
  rcases h with h | ⟨Q9, hX, hk⟩
  · exact left h
  · rcases hT with rfl | ⟨ad0, k0, Qc0, rfl, hAD, hrel, hXE, hnt, hlt, hlk, hR1, hR2, hR3, hR4⟩
    · rw [nox_of hk] at hX
      exact left ⟨_, hX, fun u z => z.elim⟩
    · intro ad ha H locs ls cells slots hr hP hD hS hL
      have hae := hAD ad ha
      subst hae
      obtain ⟨hlen, hst⟩ := call_st (ad := ad) hw has h2
      have hF := own_free hA hD hS
      obtain ⟨hk0, rfl, rfl⟩ := hrel _ _ _ hr
      rw [hst]
      refine vx_callv (vx_runV (As := as.map (conc ad)) (rest := (st.drop w).map (conc ad)) S0 (hCx l hlt D cA ad (vR 0 :: as) S Q9 H.size hX) cwx ⟨prex_blind, va_recv hK hP hcl rfl (q0 := 0), fun U hU hW => ⟨rfl, ⟨by rw [hU], by rw [hU]; exact hP, va_K.moved hW.alike hK, hD.weaken (fun _ _ _ _ => trivial)⟩, hXE.at hS hU hW hF⟩⟩ rfl (by rw [List.length_map]; exact hlen) hL.1 rfl (lv_room (sh4_sum h3)) hd ⟨by omega, by omega⟩) hS (fun q _ z => hF q z) hF (fun q _ z => hF q z) (fun E ce q9 u t H1 locs1 ht hvm hpx hBX hz1 hk1 hS1 hce hcv hcl9 => ?_) (fun u t H1 locs1 ht hvm hw1 hB hz1 hk1 hS1 => hw1.elim)
      obtain ⟨hq, hku⟩ := hpx
      obtain ⟨rfl, hP1, hK1, hD1⟩ := hBX
      rw [ht] at hP1
      refine vx_out (fun x hx => (hnt x hx).elim) hlk hce hcv hcl9 (fun t1 ht1 hal => ⟨u, ⟨hk _ _ hq, by rw [hku, hk0]⟩, ⟨rfl, by rw [ht1]; exact hP1, va_K.moved hal hK, hD1.weaken (fun k q _ z => hF q.1 z)⟩, hS1.F ht1⟩) hS1.2.2 (by omega) (by omega)
theorem s_throw {own E text : String} {strs : List (Nat × String)} {names : List String} {ik is ic : Nat} {Qx : String → ST → Prop} (hx : p.tables.exec = Jvm.exec) (hb : c.code = cc) (hml : c.maxLocals = nL) (hK : va_K D vwCl [(cA, .int)] s) (hT : TC own strs l R s args below meth c Q D cA A ci ly ja AD rel Qx) (hown : s.vm.findClass own = some m.cls) (hcls : Bundle.fit E = true) (hnames : ∀ n ∈ names, Bundle.fit n = true) (hn3 : names.length = 2)
    (hk : (Cond.classLink own ik E).before args s = true) (hini : (Cond.initialized E).before args s = true) (hstr : (is, text) ∈ strs) (hat : ∀ w ∈ vx_atS own ic E names, goodWord w = true → w.before args s = true) (hng : ∀ w ∈ vx_atS own ic E names, goodWord w = true ∨ w ∈ xws) (hgood : ∀ w ∈ Cond.classLink own ik E :: Cond.initialized E :: vx_atS own ic E names, vx_ot w = true)
    (d0 : decode cc pc = .ok (.new ik, 3)) (d3 : decode cc (pc + 3) = .ok (.dup, 1)) (d4 : decode cc (pc + 4) = .ok (.ldc is, 2)) (d6 : decode cc (pc + 6) = .ok (.invokespecial ic, 3)) (d9 : decode cc (pc + 9) = .ok (.athrow, 1)) : ∀ lv st S, i_throw Qx E lv st S (OK p l e R s m args below meth c Q D cA A ci ly ja AD rel nL) → (OK p l e R s m args below meth c Q D cA A ci ly ja AD rel nL) pc lv st S := by
  intro lv st S h
  rcases st with _ | ⟨v, r⟩
  · rcases hT with rfl | ⟨ad0, k0, Qc0, rfl, hAD, hrel, hXE, hnt, hlt, hlk, hR1, hR2, hR3, hR4⟩
    · exact h.elim
    · intro ad ha H locs ls cells slots hr hP hD hS hL
      have hae := hAD ad ha
      subst hae
      obtain ⟨hk0, rfl, rfl⟩ := hrel _ _ _ hr
      obtain ⟨sa, hsa⟩ := hXE.2.2.1 _ hstr
      have hat9 : ∀ w ∈ vx_atS own ic E names, w.before args s = true := fun w hw => by
        rcases hng w hw with h9 | h9
        · exact hat w hw h9
        · exact va_tabs (A := #[]) (u := s) (xws_tab w h9) rfl (hXE.2.2.2 w h9)
      refine vx_throwS hx hb hlt hown hcls hnames hk hini hsa hat9 hgood hXE.1 hXE.2.1 hS (hL.1.trans hml.symm) d0 d3 d4 d6 d9 (fun x hx => (hnt x hx).elim) (by omega) (by rw [hn3]; exact Nat.le_trans (Nat.le_of_ble_eq_true rfl) hR2) (by omega) (by omega) hlk (fun t hal hz hk1 => ⟨(E, S), ⟨h, hk0⟩, ⟨rfl, fun k q hq => (hP k q hq).kept (hk1 _ (hP k q hq).lt), va_K.moved hal hK, hD⟩, Nat.le_trans hS.1 hz, fun q h1 h2 => by rw [hk1 q (Nat.lt_of_lt_of_le h1 hS.1)]; exact hS.2.1 q h1 h2⟩) hS.2.2 (by omega) (by omega)
  · exact h.elim
/-! ends -/
theorem va_P_left {cl : List vw_C} {a b : va_W} {H : Heap} (h : va_P D cl (a ++ b) H) : va_P D cl a H := fun k q hq => h k q (by rw [List.getElem?_append_left (List.getElem?_eq_some_iff.mp hq).1]; exact hq)
theorem va_D_left {a b : va_W} (h : va_D A (a ++ b)) : va_D A a := by
  have up : ∀ (k : Nat) (q : Nat × va_E), a[k]? = some q → (a ++ b)[k]? = some q := fun k q hq => by rw [List.getElem?_append_left (List.getElem?_eq_some_iff.mp hq).1]; exact hq
  exact ⟨fun i j p q hp hq e => h.1 i j p q (up i p hp) (up j q hq) e, fun k q hq => h.2 k q (up k q hq)⟩
theorem wd_drop {ad ad0 : Nat → Nat} {S : ST} (h : ∀ k, k < 99 → ad k = ad0 k) (hly9 : ly.length ≤ 99) (hja : ∀ z ∈ ja, z.1 < 99) : wdO cA ci ly ja ad S = wdO cA ci ly ja ad0 (dropT S) ++ tw cA ad S := by
  have e1 : o_f ad S ly = o_f ad0 (dropT S) ly := by
    unfold o_f
    apply List.ext_getElem?
    intro i
    simp only [List.getElem?_mapIdx]
    cases hb9 : ly[i]? with
    | none => rfl
    | some b =>
      cases b with
      | false => rfl
      | true =>
        have hi : i < ly.length := (List.getElem?_eq_some_iff.mp hb9).1
        simp [h i (by omega)]
  have e2 : ja.map (o_r cA ad S) = ja.map (o_r cA ad0 (dropT S)) := by
    apply List.map_congr_left
    intro z hz
    unfold o_r
    rw [h z.1 (hja z hz)]
    rfl
  have e3 : tw cA ad0 (dropT S) = [] := rfl
  have e4 : ad 0 = ad0 0 := h 0 (by omega)
  unfold wdO
  rw [e1, e2, e3, e4, List.append_nil, List.cons_append]
theorem s_iret {ad0 : Nat → Nat} {k0 : Nat × Nat} {Qi : Int → ST → Prop} (hx : p.tables.exec = Jvm.exec) (hb : c.code = cc) (hret : meth.sig.returnType = some .int) (hlk : meth.locks = false) (hK : va_K D vwCl [(cA, .int)] s) (hQ : Q = MQ below (va_Qi (fun (r : Int32) (u : ST) => (∃ a : Int, r = iI a ∧ Qi a u) ∧ u.2.2.2 = k0) (AtW D cA ci ly ja ad0 A) A) args s 0 0 A) (hAD : ∀ ad, AD ad → ad = ad0) (hrel : ∀ k c n, rel k c n → k = k0 ∧ c = 0 ∧ n = 0) : ∀ pc lv st S, decode cc pc = .ok (.ireturn, 1) → i_iret Qi lv st S (OK p l e R s m args below meth c Q D cA A ci ly ja AD rel nL) → (OK p l e R s m args below meth c Q D cA A ci ly ja AD rel nL) pc lv st S := by
  intro pc lv st S hd h
  subst hQ
  rcases st with _ | ⟨v | v | v | v, r⟩
  · exact h.elim
  · rcases r with _ | ⟨w9, r⟩
    · intro ad ha H locs ls cells slots hr hP hD hS hL
      have hae := hAD ad ha
      subst hae
      obtain ⟨hk0, rfl, rfl⟩ := hrel _ _ _ hr
      exact W.iret (v := iI v) hx hb hret (fun t ht hW => ⟨⟨iI v, S, rfl, ⟨⟨v, rfl, h⟩, hk0⟩, by rw [ht]; exact hP, va_K.moved hW.alike hK, hD⟩, hS.F ht⟩) hS.2.2 hd hlk
    · exact h.elim
  · exact h.elim
  · exact h.elim
  · exact h.elim
theorem s_ireta {ad0 : Nat → Nat} {K M : Nat} {Qi : Int → ST → Prop} (hx : p.tables.exec = Jvm.exec) (hb : c.code = cc) (hret : meth.sig.returnType = some .int) (hlk : meth.locks = false) (hK : va_K D vwCl [(cA, .int)] s) (hQ : Q = MQ below (va_Qi (fun (r : Int32) (u : ST) => ∃ a : Int, r = iI a ∧ Qi a u) (fun u => AtW D cA ci ly ja ad0 A (dropT u)) A) args s K M A) (hAD : ∀ ad, AD ad → ∀ k, k < 99 → ad k = ad0 k) (hrel : rel = relA K M) (hly9 : ly.length ≤ 99) (hja : ∀ z ∈ ja, z.1 < 99) : ∀ pc lv st S, decode cc pc = .ok (.ireturn, 1) → i_iret Qi lv st S (OK p l e R s m args below meth c Q D cA A ci ly ja AD rel nL) → (OK p l e R s m args below meth c Q D cA A ci ly ja AD rel nL) pc lv st S := by
  intro pc lv st S hd h
  subst hQ
  rcases st with _ | ⟨v | v | v | v, r⟩
  · exact h.elim
  · rcases r with _ | ⟨w9, r⟩
    · intro ad ha H locs ls cells slots hr hP hD hS hL
      subst hrel
      obtain ⟨rfl, rfl, hb1, hb2⟩ := hr
      have hwd : wdO cA ci ly ja ad S = wdO cA ci ly ja ad0 (dropT S) ++ tw cA ad S := wd_drop (hAD ad ha) hly9 hja
      rw [hwd] at hP hD
      have hP9 := va_P_left hP
      have hD9 := va_D_left hD
      refine W.widen (k := K) (n := M) hb1 hb2 ?_
      exact W.iret (v := iI v) hx hb hret (fun t ht hW => ⟨⟨iI v, S, rfl, ⟨v, rfl, h⟩, by rw [ht]; exact hP9, va_K.moved hW.alike hK, hD9⟩, hS.F ht⟩) hS.2.2 hd hlk
    · exact h.elim
  · exact h.elim
  · exact h.elim
  · exact h.elim
theorem s_zret {ad0 : Nat → Nat} {k0 : Nat × Nat} {Qi : Int → ST → Prop} (hx : p.tables.exec = Jvm.exec) (hb : c.code = cc) (hret : meth.sig.returnType = some .boolean) (hlk : meth.locks = false) (hK : va_K D vwCl [(cA, .int)] s) (hQ : Q = MQ below (va_Qi (fun (r : Int32) (u : ST) => (∃ a : Int, r = iI a ∧ Qi a u) ∧ u.2.2.2 = k0) (AtW D cA ci ly ja ad0 A) A) args s 0 0 A) (hAD : ∀ ad, AD ad → ad = ad0) (hrel : ∀ k c n, rel k c n → k = k0 ∧ c = 0 ∧ n = 0) : ∀ pc lv st S, decode cc pc = .ok (.ireturn, 1) → i_zret Qi lv st S (OK p l e R s m args below meth c Q D cA A ci ly ja AD rel nL) → (OK p l e R s m args below meth c Q D cA A ci ly ja AD rel nL) pc lv st S := by
  intro pc lv st S hd h
  subst hQ
  rcases st with _ | ⟨v | v | v | v, r⟩
  · exact h.elim
  · rcases r with _ | ⟨w9, r⟩
    · have hz : ∀ {z : Int}, z = 0 ∨ z = 1 → narrow .boolean (.int (iI z)) = .int (iI z) := fun {z} hz => by rcases hz with rfl | rfl <;> decide
      intro ad ha H locs ls cells slots hr hP hD hS hL
      have hae := hAD ad ha
      subst hae
      obtain ⟨hk0, rfl, rfl⟩ := hrel _ _ _ hr
      exact W.zret (v := iI v) hx hb hret (hz h.1) (fun t ht hW => ⟨⟨iI v, S, rfl, ⟨⟨v, rfl, h.2⟩, hk0⟩, by rw [ht]; exact hP, va_K.moved hW.alike hK, hD⟩, hS.F ht⟩) hS.2.2 hd hlk
    · exact h.elim
  · exact h.elim
  · exact h.elim
  · exact h.elim
theorem s_lret {ad0 : Nat → Nat} {k0 : Nat × Nat} {Qi : Int64 → ST → Prop} (hx : p.tables.exec = Jvm.exec) (hb : c.code = cc) (hret : meth.sig.returnType = some .long) (hlk : meth.locks = false) (hK : va_K D vwCl [(cA, .int)] s) (hQ : Q = MQ below (va_Ql (fun (r : Int64) (u : ST) => Qi r u ∧ u.2.2.2 = k0) (AtW D cA ci ly ja ad0 A) A) args s 0 0 A) (hAD : ∀ ad, AD ad → ad = ad0) (hrel : ∀ k c n, rel k c n → k = k0 ∧ c = 0 ∧ n = 0) : ∀ pc lv st S, decode cc pc = .ok (.lreturn, 1) → i_lret Qi lv st S (OK p l e R s m args below meth c Q D cA A ci ly ja AD rel nL) → (OK p l e R s m args below meth c Q D cA A ci ly ja AD rel nL) pc lv st S := by
  intro pc lv st S hd h
  subst hQ
  rcases st with _ | ⟨v | v | v | v, r⟩
  · exact h.elim
  · exact h.elim
  · rcases r with _ | ⟨w9, r⟩
    · intro ad ha H locs ls cells slots hr hP hD hS hL
      have hae := hAD ad ha
      subst hae
      obtain ⟨hk0, rfl, rfl⟩ := hrel _ _ _ hr
      exact W.lret (v := v) hx hb hret (fun t ht hW => ⟨⟨v, S, rfl, ⟨h, hk0⟩, by rw [ht]; exact hP, va_K.moved hW.alike hK, hD⟩, hS.F ht⟩) hS.2.2 hd hlk
    · exact h.elim
  · exact h.elim
  · exact h.elim
theorem s_lreta {ad0 : Nat → Nat} {K M : Nat} {Qi : Int64 → ST → Prop} (hx : p.tables.exec = Jvm.exec) (hb : c.code = cc) (hret : meth.sig.returnType = some .long) (hlk : meth.locks = false) (hK : va_K D vwCl [(cA, .int)] s) (hQ : Q = MQ below (va_Ql (fun (r : Int64) (u : ST) => Qi r u) (fun u => AtW D cA ci ly ja ad0 A (dropT u)) A) args s K M A) (hAD : ∀ ad, AD ad → ∀ k, k < 99 → ad k = ad0 k) (hrel : rel = relA K M) (hly9 : ly.length ≤ 99) (hja : ∀ z ∈ ja, z.1 < 99) : ∀ pc lv st S, decode cc pc = .ok (.lreturn, 1) → i_lret Qi lv st S (OK p l e R s m args below meth c Q D cA A ci ly ja AD rel nL) → (OK p l e R s m args below meth c Q D cA A ci ly ja AD rel nL) pc lv st S := by
  intro pc lv st S hd h
  subst hQ
  rcases st with _ | ⟨v | v | v | v, r⟩
  · exact h.elim
  · exact h.elim
  · rcases r with _ | ⟨w9, r⟩
    · intro ad ha H locs ls cells slots hr hP hD hS hL
      subst hrel
      obtain ⟨rfl, rfl, hb1, hb2⟩ := hr
      have hwd : wdO cA ci ly ja ad S = wdO cA ci ly ja ad0 (dropT S) ++ tw cA ad S := wd_drop (hAD ad ha) hly9 hja
      rw [hwd] at hP hD
      have hP9 := va_P_left hP
      have hD9 := va_D_left hD
      refine W.widen (k := K) (n := M) hb1 hb2 ?_
      exact W.lret (v := v) hx hb hret (fun t ht hW => ⟨⟨v, S, rfl, h, by rw [ht]; exact hP9, va_K.moved hW.alike hK, hD9⟩, hS.F ht⟩) hS.2.2 hd hlk
    · exact h.elim
  · exact h.elim
  · exact h.elim
theorem s_dret {ad0 : Nat → Nat} {k0 : Nat × Nat} {Qi : UInt64 → ST → Prop} (hx : p.tables.exec = Jvm.exec) (hb : c.code = cc) (hret : meth.sig.returnType = some .double) (hlk : meth.locks = false) (hK : va_K D vwCl [(cA, .int)] s) (hQ : Q = MQ below (va_Qd (fun (r : UInt64) (u : ST) => Qi r u ∧ u.2.2.2 = k0) (AtW D cA ci ly ja ad0 A) A) args s 0 0 A) (hAD : ∀ ad, AD ad → ad = ad0) (hrel : ∀ k c n, rel k c n → k = k0 ∧ c = 0 ∧ n = 0) : ∀ pc lv st S, decode cc pc = .ok (.dreturn, 1) → i_dret Qi lv st S (OK p l e R s m args below meth c Q D cA A ci ly ja AD rel nL) → (OK p l e R s m args below meth c Q D cA A ci ly ja AD rel nL) pc lv st S := by
  intro pc lv st S hd h
  subst hQ
  rcases st with _ | ⟨v | v | v | v, r⟩
  · exact h.elim
  · exact h.elim
  · exact h.elim
  · rcases r with _ | ⟨w9, r⟩
    · intro ad ha H locs ls cells slots hr hP hD hS hL
      have hae := hAD ad ha
      subst hae
      obtain ⟨hk0, rfl, rfl⟩ := hrel _ _ _ hr
      exact W.dret (v := v) hx hb hret (fun t ht hW => ⟨⟨v, S, rfl, ⟨h, hk0⟩, by rw [ht]; exact hP, va_K.moved hW.alike hK, hD⟩, hS.F ht⟩) hS.2.2 hd hlk
    · exact h.elim
  · exact h.elim
theorem s_dreta {ad0 : Nat → Nat} {K M : Nat} {Qi : UInt64 → ST → Prop} (hx : p.tables.exec = Jvm.exec) (hb : c.code = cc) (hret : meth.sig.returnType = some .double) (hlk : meth.locks = false) (hK : va_K D vwCl [(cA, .int)] s) (hQ : Q = MQ below (va_Qd (fun (r : UInt64) (u : ST) => Qi r u) (fun u => AtW D cA ci ly ja ad0 A (dropT u)) A) args s K M A) (hAD : ∀ ad, AD ad → ∀ k, k < 99 → ad k = ad0 k) (hrel : rel = relA K M) (hly9 : ly.length ≤ 99) (hja : ∀ z ∈ ja, z.1 < 99) : ∀ pc lv st S, decode cc pc = .ok (.dreturn, 1) → i_dret Qi lv st S (OK p l e R s m args below meth c Q D cA A ci ly ja AD rel nL) → (OK p l e R s m args below meth c Q D cA A ci ly ja AD rel nL) pc lv st S := by
  intro pc lv st S hd h
  subst hQ
  rcases st with _ | ⟨v | v | v | v, r⟩
  · exact h.elim
  · exact h.elim
  · exact h.elim
  · rcases r with _ | ⟨w9, r⟩
    · intro ad ha H locs ls cells slots hr hP hD hS hL
      subst hrel
      obtain ⟨rfl, rfl, hb1, hb2⟩ := hr
      have hwd : wdO cA ci ly ja ad S = wdO cA ci ly ja ad0 (dropT S) ++ tw cA ad S := wd_drop (hAD ad ha) hly9 hja
      rw [hwd] at hP hD
      have hP9 := va_P_left hP
      have hD9 := va_D_left hD
      refine W.widen (k := K) (n := M) hb1 hb2 ?_
      exact W.dret (v := v) hx hb hret (fun t ht hW => ⟨⟨v, S, rfl, h, by rw [ht]; exact hP9, va_K.moved hW.alike hK, hD9⟩, hS.F ht⟩) hS.2.2 hd hlk
    · exact h.elim
  · exact h.elim
theorem s_vret {ad0 : Nat → Nat} {k0 : Nat × Nat} {Qi : ST → Prop} (hx : p.tables.exec = Jvm.exec) (hb : c.code = cc) (hret : meth.sig.returnType = none) (hlk : meth.locks = false) (hK : va_K D vwCl [(cA, .int)] s) (hQ : Q = MQ below (va_Qv (fun (u : ST) => Qi u ∧ u.2.2.2 = k0) (AtW D cA ci ly ja ad0 A) A) args s 0 0 A) (hAD : ∀ ad, AD ad → ad = ad0) (hrel : ∀ k c n, rel k c n → k = k0 ∧ c = 0 ∧ n = 0) : ∀ pc lv st S, decode cc pc = .ok (.return_, 1) → i_vret Qi lv st S (OK p l e R s m args below meth c Q D cA A ci ly ja AD rel nL) → (OK p l e R s m args below meth c Q D cA A ci ly ja AD rel nL) pc lv st S := by
  intro pc lv st S hd h
  subst hQ
  rcases st with _ | ⟨v, r⟩
  · intro ad ha H locs ls cells slots hr hP hD hS hL
    have hae := hAD ad ha
    subst hae
    obtain ⟨hk0, rfl, rfl⟩ := hrel _ _ _ hr
    exact W.vret hx hb hret (fun t ht hW => ⟨⟨S, rfl, ⟨h, hk0⟩, by rw [ht]; exact hP, va_K.moved hW.alike hK, hD⟩, hS.F ht⟩) hS.2.2 hd hlk
  · exact h.elim
end CALLS
