/-! THE START -/
theorem w_rot {D : va_G} {cl : List vw_C} {A : Nat → Prop} {a b : va_W} {H : Heap} (hP : va_P D cl (a ++ b) H) (hD : va_D A (a ++ b)) : va_P D cl (b ++ a) H ∧ va_D A (b ++ a) :=
  ⟨(wP_r hP).app (wP_l hP), (wD_r hD).app (wD_l hD) (fun _ _ _ _ hi hj => (wD_x hD hj hi).symm)⟩
theorem arr_of {ty : FieldType} {s : State} {args : Array Value} (h : (Cond.arrayClass ty).before args s = true) (hne : ∀ C, ty ≠ .object C) : ∃ cA : ClassId, ArrOfT s cA ty ∧ va_RA s cA ty := by
  obtain ⟨cA, kA, comp, h1, h2, h3⟩ := Cond.arrayClass_spec h
  refine ⟨cA, fun n z => ⟨fun k h => (by cases h), kA, h2, comp, h3⟩, ?_⟩
  cases ty with
  | object C => exact absurd rfl (hne C)
  | _ => exact h1
theorem str_of {own tx : String} {k : Nat} {s : State} {args : Array Value} (h1 : (Cond.stringRef own k tx).before args s = true) (h2 : (Cond.exactly (Term.string own k) "java/lang/String").before args s = true) : ∃ a, vk_R own k tx a s := by
  obtain ⟨a, -, -, -, h3, -⟩ := Cond.exactly_spec h2
  exact ⟨a, vk_R.of h1 h3⟩
set_option maxHeartbeats 4000000 in
set_option maxRecDepth 100000 in
theorem ev_start {s : State} {b : Nat} (hts : ∀ w ∈ lw_tbl, w.before #[Value.ref b] s = true) (hgv : (Jvm.Cond.and given_1 narrow_1).before #[Value.ref b] s = true) : XEv RX0 xstrs (fun q : Nat => s.heap.size ≤ q) s ∧ ∀ q ∈ ncs, va_Nc q.1 q.2 s := by
  have hgs := flat_of_before _ hgv
  have hA : ∀ a : Nat, a < s.heap.size → ¬ (fun q : Nat => s.heap.size ≤ q) a := fun a h => Nat.not_le.mpr h
  refine ⟨⟨vx_Zqof (hts _ (by decide +kernel)) (hts _ (by decide +kernel)) (hgs _ (by decide +kernel)) hA, vx_Zqof (hts _ (by decide +kernel)) (hts _ (by decide +kernel)) (hgs _ (by decide +kernel)) hA, ?_, ?_⟩, ?_⟩
  · intro q hq
    have h1 : Cond.stringRef RX0 q.1 q.2 ∈ lw_tbl := by
      have : ∀ q ∈ xstrs, Cond.stringRef RX0 q.1 q.2 ∈ lw_tbl := by decide +kernel
      exact this q hq
    have h2 : ∀ q ∈ xstrs, (Cond.exactly (Term.string RX0 q.1) "java/lang/String").before #[Value.ref b] s = true := by
      have h3 : ∀ q ∈ xstrs, Cond.exactly (Term.string RX0 q.1) "java/lang/String" ∈ flatC (Jvm.Cond.and given_1 narrow_1) := by decide +kernel
      exact fun q hq => hgs _ (h3 q hq)
    exact str_of (hts _ h1) (h2 q hq)
  · have h4 : ∀ w ∈ xws, w ∈ lw_tbl := by decide +kernel
    exact fun w hw => va_tabs (xws_tab w hw) rfl (hts w (h4 w hw))
  · have h5 : ∀ q ∈ ncs, Cond.not (.castable q.1 q.2) ∈ flatC (Jvm.Cond.and given_1 narrow_1) := by decide +kernel
    exact fun q hq => va_Nc.of (hgs _ (h5 q hq))
set_option maxHeartbeats 8000000 in
set_option maxRecDepth 100000 in
theorem whole_start {p : Program} {e : Env} {s : State} {m : MethodId} {below : List Frame} {meth : Method} {c : Code} (l : Launch) (hflags : l.flags = flags0) {b L : Nat} {xs : Nat → Int32} (hL : L ≤ 1536) (C0 : lw_At p s m meth c b L xs) : W p l e room_1 s m #[Value.ref b] below meth c s.heap [] 0 0 (lw_Z below #[Value.ref b] s) (entryFrame m ([Value.ref b] : List Value).toArray 9) := by
  obtain ⟨hx, hb0, hr, hml, hown0, hts0, hX, hbl, hlocks, hgv⟩ := id C0
  have hb : c.code = cL_law := hb0
  have hown : s.vm.findClass RL = some m.cls := hown0
  obtain ⟨hXE, hN⟩ := ev_start hts0 hgv
  have hlt : l.stackTraces = false := by unfold Launch.stackTraces; rw [hflags]; decide
  have hts : ∀ w ∈ wsL_law, w.before #[Value.ref b] s = true := fun w h => hts0 w (wsL_law_in w h)
  obtain ⟨A, hAe⟩ : ∃ A : Nat → Prop, A = fun q : Nat => s.heap.size ≤ q := ⟨_, rfl⟩
  rw [← hAe] at hXE
  have hA : ∀ q : Nat, s.heap.size ≤ q → A q := fun q h => by rw [hAe]; exact h
  have hbA : ¬ A b := by rw [hAe]; exact Nat.not_le.mpr hbl
  have hAl : ∀ q, A q → s.heap.size ≤ q := fun q h => by rw [hAe] at h; exact h
  clear hAe
  obtain ⟨c0, iS0, hKn0⟩ := u_known (C := RX0) (T := TX0) (N := 16) (n := 16) hts inlX0 (hts0 (.instantiable RX0 16) (by decide +kernel))
  obtain ⟨c1, iS1, hKn1⟩ := u_known (C := RX1) (T := TX1) (N := 15) (n := 15) hts inlX1 (hts0 (.instantiable RX1 15) (by decide +kernel))
  obtain ⟨dC, dI, hKc⟩ : ∃ (dC : Nat → ClassId) (dI : Nat → Nat → Nat), ∀ (k : Nat) (q : vw_C), vwCl[k]? = some q → u_Kn s q.1 q.2.1 q.2.2 (dC k) (dI k) := by
    refine ⟨fun k => if k = 0 then c0 else c1, fun k => if k = 0 then iS0 else iS1, ?_⟩
    intro k q hq
    match k, hq with
    | 0, hq => cases hq; exact hKn0
    | 1, hq => cases hq; exact hKn1
    | k + 2, hq => simp [vwCl] at hq
  have harI : (Cond.arrayClass .int).before #[Value.ref b] s = true := hts0 _ (by decide +kernel)
  have harJ : (Cond.arrayClass .long).before #[Value.ref b] s = true := hts0 _ (by decide +kernel)
  obtain ⟨cA, hcA⟩ := arr_of harI (fun C h => by cases h)
  obtain ⟨cJ, hcJ⟩ := arr_of harJ (fun C h => by cases h)
  have hK : va_K (dC, dI) vwCl [(cA, .int), (cJ, .long)] s := ⟨hKc, fun k q h => by
    match k, h with
    | 0, h => cases h; exact hcA
    | 1, h => cases h; exact hcJ
    | k + 2, h => simp at h⟩
  have hK1 : va_K (dC, dI) vwCl [(cA, .int)] s := hK.sub [0] rfl
  have hS : va_S A s.heap s.heap [] := va_S.rf
  have hP : va_P (dC, dI) vwCl [] s.heap := fun k q h => by simp at h
  have hD : va_D A [] := ⟨fun i j p q h => by simp at h, fun k q h => by simp at h⟩
  have hl := lv_entry ([.ref b]) (n := 9) (Nat.le_of_ble_eq_true rfl)
  rw [lg_entry_eq]
  generalize (lg_sl ([.ref b]) ++ List.replicate (9 - (lg_sl ([.ref b])).length) Slot.unset).toArray = ls at hl ⊢
  have hl : lv_has ls 9 [(0, .ref b)] := hl
  refine va_new (ci := 0) (fs := zf0) (C := RX0) (T := TX0) (N := 16) hx hb hts inlX0 tyX0 tyX0_ok hown (hts0 (.classLink RL 8 RX0) (by decide +kernel)) (hts0 (.instantiable RX0 16) (by decide +kernel)) (hts0 (.initialized RX0) (by decide +kernel)) hK hP hD hS hA rfl (by decide) (Nat.le_of_ble_eq_true rfl) (Nat.le_of_ble_eq_true rfl) dL_law_0 (fun q0 H hP hD hS => ?_)
  refine lv_dup hx hb dL_law_3 rfl ?_
  have hP : va_P (dC, dI) vwCl [(q0, .inr (0, zf0))] H := hP
  have hD : va_D A [(q0, .inr (0, zf0))] := hD
  have hAq : ∀ q, Array.size H ≤ q → A q := fun q z => hA q (Nat.le_trans hS.1 z)
  have hF : ∀ q, va_A [(q0, .inr (0, zf0))] H.size q → A q := wA_mid (a := []) (c := []) (by rw [List.append_nil]; exact hD) hAq
  refine va_callv (va_runI (As := []) (rest := [.ref q0]) ⟨hx, hb, hml, hown, hts⟩ (ini0 l (dC, dI) cA q0 H.size) (cwI 0 hts gL_law_X0_init rfl rfl rfl (hts0 (.initialized RX0) (by decide +kernel)) (hts0 (.methodLink RL 54 yX0_init) (by decide +kernel)) (hts0 (.instanceMethod yX0_init) (by decide +kernel)) rfl (by decide +kernel) ⟨Nat.le_of_ble_eq_true rfl, Nat.le_of_ble_eq_true rfl⟩) ⟨fun a U g mk q => by obtain ⟨q0, q1, qP, qK, qD⟩ := q; exact ⟨q0, q1, qP, va_K.moved (u := U) (U := U.calling g mk a) (Vm.Alike.refl U.vm) qK, qD⟩, fun U hU hW => ⟨rfl, by rw [hU], by rw [hU]; exact hP, va_K.moved hW.alike hK1, hD.weaken (fun _ _ _ _ => trivial)⟩⟩ rfl rfl hl.1 rfl (lv_room (Nat.le_of_ble_eq_true rfl)) dL_law_4 ⟨Nat.le_of_ble_eq_true rfl, Nat.le_of_ble_eq_true rfl⟩) hS (fun q _ h => hF q h) hF (fun u0 t H1 locs1 ht hvm hu0 hB hz1 hk1 hS => ?_)
  obtain ⟨hP1, hD1⟩ := hB
  rw [ht] at hP1
  obtain ⟨hP, hD⟩ := w_rt (a := []) hP hD hAq hP1 hD1 hk1
  have hP : va_P (dC, dI) vwCl (wdO cA 0 ly0 ja0 u0 SI0) H1 := hP
  have hD : va_D A (wdO cA 0 ly0 ja0 u0 SI0) := hD
  clear hP1 hD1 hk1 hF hAq ht hvm
  refine lv_astore_n (lv' := [(1, .ref q0), (0, .ref b)]) hx hb dL_law_7 rfl hl (by decide) rfl (fun ls hl => ?_)
  refine va_new (ci := 1) (fs := zf1) (C := RX1) (T := TX1) (N := 15) hx hb hts inlX1 tyX1 tyX1_ok hown (hts0 (.classLink RL 55 RX1) (by decide +kernel)) (hts0 (.instantiable RX1 15) (by decide +kernel)) (hts0 (.initialized RX1) (by decide +kernel)) hK hP hD hS hA rfl (by decide) (Nat.le_of_ble_eq_true rfl) (Nat.le_of_ble_eq_true rfl) dL_law_8 (fun q1 H2 hP hD hS => ?_)
  refine lv_dup hx hb dL_law_11 rfl ?_
  have hAq : ∀ q, Array.size H2 ≤ q → A q := fun q z => hA q (Nat.le_trans hS.1 z)
  have hPc : va_P (dC, dI) vwCl [(q1, .inr (1, zf1))] H2 := wP_r hP
  have hDc : va_D A [(q1, .inr (1, zf1))] := wD_r hD
  have hF : ∀ q, va_A [(q1, .inr (1, zf1))] H2.size q → A q := wA_mid (a := wdO cA 0 ly0 ja0 u0 SI0) (c := []) (by rw [List.append_nil]; exact hD) hAq
  refine va_callv (va_runI (As := []) (rest := [.ref q1]) ⟨hx, hb, hml, hown, hts⟩ (ini1 l (dC, dI) cA q1 H2.size) (cwI 0 hts gL_law_X1_init rfl rfl rfl (hts0 (.initialized RX1) (by decide +kernel)) (hts0 (.methodLink RL 57 yX1_init) (by decide +kernel)) (hts0 (.instanceMethod yX1_init) (by decide +kernel)) rfl (by decide +kernel) ⟨Nat.le_of_ble_eq_true rfl, Nat.le_of_ble_eq_true rfl⟩) ⟨fun a U g mk q => by obtain ⟨q0, q1, qP, qK, qD⟩ := q; exact ⟨q0, q1, qP, va_K.moved (u := U) (U := U.calling g mk a) (Vm.Alike.refl U.vm) qK, qD⟩, fun U hU hW => ⟨rfl, by rw [hU], by rw [hU]; exact hPc, va_K.moved hW.alike hK1, hDc.weaken (fun _ _ _ _ => trivial)⟩⟩ rfl rfl hl.1 rfl (lv_room (Nat.le_of_ble_eq_true rfl)) dL_law_12 ⟨Nat.le_of_ble_eq_true rfl, Nat.le_of_ble_eq_true rfl⟩) hS (fun q _ h => hF q h) hF (fun u1 t H3 locs3 ht hvm hu1 hB hz1 hk1 hS => ?_)
  obtain ⟨hP1, hD1⟩ := hB
  rw [ht] at hP1
  obtain ⟨hP, hD⟩ := w_rt hP hD hAq hP1 hD1 hk1
  clear hP1 hD1 hk1 hF hAq ht hvm hPc hDc
  refine lv_astore_n (lv' := [(2, .ref q1), (1, .ref q0), (0, .ref b)]) hx hb dL_law_15 rfl hl (by decide) rfl (fun ls hl => ?_)
  refine lv_iconst (v := iI 1) hx hb dL_law_16 rfl ?_
  refine va_newa hx hb (atype := .long) (ty := .long) (a0 := (1, .inr (.inl (fun _ => 0)))) harJ rfl hK hP hD hS hA (fun _ => rfl) (N' := 1) (by decide) (by rw [iI_cl (by decide) (by decide)]; rfl) (Nat.le_of_ble_eq_true rfl) (Nat.le_of_ble_eq_true rfl) (Nat.le_of_ble_eq_true rfl) dL_law_17 (fun q2 cJ' H4 hK4 hP hD hS => ?_)
  have hcJ' : cJ = cJ' := by
    have h1 : s.vm.findClass ("[" ++ FieldType.long.toString) = some cJ' := (hK4.2 2 (cJ', .long) rfl).2
    have h2 : s.vm.findClass ("[" ++ FieldType.long.toString) = some cJ := (hK.2 1 (cJ, .long) rfl).2
    exact Option.some.inj (h2.symm.trans h1)
  subst hcJ'
  clear hK4
  obtain ⟨hP, hD⟩ := w_rot hP hD
  refine lv_astore_n (lv' := [(3, .ref q2), (2, .ref q1), (1, .ref q0), (0, .ref b)]) hx hb dL_law_19 rfl hl (by decide) rfl (fun ls hl => ?_)
  refine lv_iconst (v := iI 0) hx hb dL_law_20 rfl ?_
  refine lv_istore (lv' := [(4, .int (iI 0)), (3, .ref q2), (2, .ref q1), (1, .ref q0), (0, .ref b)]) hx hb dL_law_21 hl (by decide) rfl (fun ls hl => ?_)
  obtain ⟨adL, h0, h1, h2, h3⟩ : ∃ adL : Nat → Nat, adL 0 = u0 0 ∧ adL 1 = u1 0 ∧ adL 2 = q2 ∧ adL 3 = b := ⟨fun k => match k with | 0 => u0 0 | 1 => u1 0 | 2 => q2 | _ => b, rfl, rfl, rfl, rfl⟩
  have hu0' : u0 0 = q0 := hu0
  have hu1' : u1 0 = q1 := hu1
  have hLC : LCx p l s m #[Value.ref b] c (dC, dI) cA cJ A (fun a => a = adL) u0 u1 q2 b L xs := ⟨hx, hb, hml, hown, hts, hA, hK, fun ad h => by rw [h]; exact ⟨h0, h1, h2, h3⟩, hlt, hXE, hN, hX, hbl, hbA, hL⟩
  have hE : ∀ pc, decode cL_law pc = .ok (.ireturn, 1) → ∀ lv st S, ji_tret lv st S (LKK p l e s m #[Value.ref b] below meth c (lw_Z below #[Value.ref b] s) (dC, dI) cA cJ A (fun a => a = adL) u0 u1 q2) → LKK p l e s m #[Value.ref b] below meth c (lw_Z below #[Value.ref b] s) (dC, dI) cA cJ A (fun a => a = adL) u0 u1 q2 pc lv st S := by
    intro pc hd lv st S h
    unfold ji_tret at h
    split at h
    · intro ad ha H9 locs9 ls9 cells slots hr9 hP9 hD9 hS9 hL9
      obtain ⟨rfl, rfl, g1, g2⟩ := hr9
      refine W.widen (k := 601024) (n := 7293034) g1 g2 ?_
      refine va_forget (fun q hq => hAl _ (hS9.2.2 q hq)) ?_
      exact W.base (lw_ret (d0 := s.drawn) (Drawn.sameBut.refl s.drawn lw_cs) hx hb0 hr hlocks hd)
    · exact h.elim
  have hLR : LR adL 9 (lvL 0 none none none none) ls := by
    refine ⟨hl.1, hl.2.1, fun i v hv => ?_⟩
    match i, hv with
    | 0, hv => cases hv; show _ = some (Slot.val (.ref (adL 3))); rw [h3]; exact lv_at hl 4 rfl
    | 1, hv => cases hv; show _ = some (Slot.val (.ref (adL 0))); rw [h0, hu0']; exact lv_at hl 3 rfl
    | 2, hv => cases hv; show _ = some (Slot.val (.ref (adL 1))); rw [h1, hu1']; exact lv_at hl 2 rfl
    | 3, hv => cases hv; show _ = some (Slot.val (.ref (adL 2))); rw [h2]; exact lv_at hl 1 rfl
    | 4, hv => cases hv; exact lv_at hl 0 rfl
    | 5, hv => cases hv
    | 6, hv => cases hv
    | 7, hv => cases hv
    | 8, hv => cases hv
    | i + 9, hv => cases hv
  have hP : va_P (dC, dI) vwCl (wLw cA cJ u0 q2 u1 adL (SI0, SI1, fun _ => 0, 25, 3660)) H4 := hP
  have hD : va_D A (wLw cA cJ u0 q2 u1 adL (SI0, SI1, fun _ => 0, 25, 3660)) := hD
  exact lawLoop hLC hE L 0 25 3660 SI0 SI1 (fun _ => 0) none none none none (by omega) (by omega) (by omega) (by omega) Bo_SI adL rfl H4 _ ls _ _ ⟨rfl, rfl, by omega, by omega⟩ hP hD hS hLR
