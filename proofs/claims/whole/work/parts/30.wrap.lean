/-! THE LAW'S OWN HELPERS: they answer 0 and lay down the class's answer; or they answer what was thrown -/
abbrev rmW_kind : Room := { frames := 7, cells := 1, slots := 6, locals := 105 }
set_option maxRecDepth 20000 in
theorem wL_kind_ok : CtWok 2 yL_kind wsL_kind rmW_kind X0_kind zI := by
  intro l hlt D cA cJ ad ao is S o Q sz hn hX
  rcases is with _ | ⟨a, _ | ⟨b, _ | ⟨z, r⟩⟩⟩
  · exact absurd hn (by simp)
  · exact absurd hn (by simp)
  rotate_left
  · exact absurd hn (by simp)
  refine va_MetW (cc := cL_kind) (maxL := 5) (ret := some .int) (by decide) rfl ?_
  intro p e s m args below meth c s₁ B hml hv
  obtain ⟨rfl, hsz, hP, hK, hD0, hXE, hN⟩ := hv
  have hx := B.exec
  have hb := B.bytes
  have hr := B.returns
  have hts := atoms_spec (ws := wsL_kind) B.pre
  have hown : s.vm.findClass RL = some m.cls := findClass_of_methodNamed B.named
  have hlocks := B.notSynchronized
  subst hsz
  have hD := hD0.self (sz := s.heap.size)
  have hA : ∀ q : Nat, s.heap.size ≤ q → va_A (wrW cA cJ ad ao S o) s.heap.size q := fun q h => Or.inr h
  have hS0 : va_S (va_A (wrW cA cJ ad ao S o) s.heap.size) s.heap s.heap [] := va_S.rf
  have hF : ∀ q, va_A (wdO cA 0 ly0 ja0 ad S) s.heap.size q → va_A (wrW cA cJ ad ao S o) s.heap.size q := by
    rintro q (⟨k, e, hk⟩ | h)
    · exact Or.inl ⟨_, e, nth_r (a := [ouE cJ ao o]) hk⟩
    · exact Or.inr h
  have hl := lv_entry [Value.ref (ad 0), .int (iI a), .int (iI b), .ref ao] (n := 5) (Nat.le_of_ble_eq_true rfl)
  show W _ _ _ _ _ _ _ _ _ _ _ _ _ _ _ (entryFrame m ([Value.ref (ad 0), .int (iI a), .int (iI b), .ref ao] : List Value).toArray 5)
  rw [lg_entry_eq]
  generalize (lg_sl [Value.ref (ad 0), .int (iI a), .int (iI b), .ref ao] ++ List.replicate (5 - (lg_sl [Value.ref (ad 0), .int (iI a), .int (iI b), .ref ao]).length) Slot.unset).toArray = ls at hl ⊢
  have hK1 : va_K D vwCl [(cA, .int)] s := hK.sub [0] rfl
  have hP0 : va_P D vwCl (wdO cA 0 ly0 ja0 ad S) s.heap := wP_r (a := [ouE cJ ao o]) hP
  have hD1 := wD_r (a := [ouE cJ ao o]) hD
  refine lv_aload_n hx hb dL_kind_0 rfl (lv_at hl 3 rfl) ?_
  refine lv_iconst hx hb dL_kind_1 rfl ?_
  refine lv_aload_n hx hb dL_kind_2 rfl (lv_at hl 0 rfl) ?_
  refine lv_iload_n hx hb dL_kind_3 rfl (lv_at hl 1 rfl) ?_
  refine lv_iload_n hx hb dL_kind_4 rfl (lv_at hl 2 rfl) ?_
  refine va_calli (va_runV (As := [.int (iI a), .int (iI b)]) (rest := [.int (Int32.ofInt 0), .ref ao]) ⟨hx, hb, hml, hown, hts⟩ (ct0_kind l D cA ad (vR 0 :: [vI a, vI b]) S Q s.heap.size hX) (cwV 2 hts gL_kind_X0_kind rfl (rm := rm0_kind) rfl rfl (by decide +kernel) ⟨Nat.le_of_ble_eq_true rfl, Nat.le_of_ble_eq_true rfl⟩) ⟨pre0_blind, va_recv hK1 hP0 (q := (RX0, TX0, 16)) (ci := 0) (q0 := 0) rfl rfl, fun U hU hW => ⟨rfl, by rw [hU], by rw [hU]; exact hP0, va_K.moved hW.alike hK1, hD1.weaken (fun _ _ _ _ => trivial)⟩⟩ rfl rfl hl.1 rfl (Nat.le_of_ble_eq_true rfl) dL_kind_5 ⟨Nat.zero_le _, Nat.zero_le _⟩) hS0 (fun q _ z => hF q z) hF (fun r u t H1 locs1 ht hvm hw1 hB hz1 hk1 hS1 => ?_)
  obtain ⟨⟨v, rfl, hq⟩, hku⟩ := hw1
  obtain ⟨hP1, hK2, hD2⟩ := hB
  rw [ht] at hP1
  obtain ⟨hPn, hDn⟩ := w_rt (a := [ouE cJ ao o]) hP hD hA hP1 hD2 hk1
  refine lv_i2l hx hb dL_kind_8 rfl ?_
  refine va_last hx hb hK hPn hDn hS1 0 1 rfl rfl (iI_in (a := 0) (Int.le_refl _) (by decide) (by decide)) dL_kind_9 (fun H2 locs2 hP2 hD3 hS2 => ?_)
  refine lv_goto hx hb dL_kind_10 (tgt := 21) rfl ?_
  refine lv_iconst hx hb dL_kind_21 rfl ?_
  refine W.widen (k := 1) (n := 6) (Nat.le_of_ble_eq_true rfl) (Nat.le_of_ble_eq_true rfl) ?_
  exact W.iret (v := 0) hx hb hr (fun t ht hW => ⟨⟨0, (u, vp_updL o 0 (iI v).toInt64), rfl, ⟨rfl, v, hq, rfl, hku⟩, by rw [ht]; exact hP2, hD3⟩, hS2.F ht⟩) hS2.2.2 dL_kind_22 hlocks
set_option maxRecDepth 20000 in
theorem wL_kind_no1 : CtWno 2 yL_kind wsL_kind rmW_kind X0_kind "java/lang/IllegalArgumentException" 1 := by
  intro l hlt D cA cJ ad ao is S o sz hn hX
  rcases is with _ | ⟨a, _ | ⟨b, _ | ⟨z, r⟩⟩⟩
  · exact absurd hn (by simp)
  · exact absurd hn (by simp)
  rotate_left
  · exact absurd hn (by simp)
  refine va_MetW (cc := cL_kind) (maxL := 5) (ret := some .int) (by decide) rfl ?_
  intro p e s m args below meth c s₁ B hml hv
  obtain ⟨rfl, hsz, hP, hK, hD0, hXE, hN⟩ := hv
  have hx := B.exec
  have hb := B.bytes
  have hr := B.returns
  have hts := atoms_spec (ws := wsL_kind) B.pre
  have hown : s.vm.findClass RL = some m.cls := findClass_of_methodNamed B.named
  have hlocks := B.notSynchronized
  subst hsz
  have hD := hD0.self (sz := s.heap.size)
  have hA : ∀ q : Nat, s.heap.size ≤ q → va_A (wrW cA cJ ad ao S o) s.heap.size q := fun q h => Or.inr h
  have hS0 : va_S (va_A (wrW cA cJ ad ao S o) s.heap.size) s.heap s.heap [] := va_S.rf
  have hF : ∀ q, va_A (wdO cA 0 ly0 ja0 ad S) s.heap.size q → va_A (wrW cA cJ ad ao S o) s.heap.size q := by
    rintro q (⟨k, e, hk⟩ | h)
    · exact Or.inl ⟨_, e, nth_r (a := [ouE cJ ao o]) hk⟩
    · exact Or.inr h
  have hl := lv_entry [Value.ref (ad 0), .int (iI a), .int (iI b), .ref ao] (n := 5) (Nat.le_of_ble_eq_true rfl)
  show W _ _ _ _ _ _ _ _ _ _ _ _ _ _ _ (entryFrame m ([Value.ref (ad 0), .int (iI a), .int (iI b), .ref ao] : List Value).toArray 5)
  rw [lg_entry_eq]
  generalize (lg_sl [Value.ref (ad 0), .int (iI a), .int (iI b), .ref ao] ++ List.replicate (5 - (lg_sl [Value.ref (ad 0), .int (iI a), .int (iI b), .ref ao]).length) Slot.unset).toArray = ls at hl ⊢
  have hK1 : va_K D vwCl [(cA, .int)] s := hK.sub [0] rfl
  have hP0 : va_P D vwCl (wdO cA 0 ly0 ja0 ad S) s.heap := wP_r (a := [ouE cJ ao o]) hP
  have hD1 := wD_r (a := [ouE cJ ao o]) hD
  refine lv_aload_n hx hb dL_kind_0 rfl (lv_at hl 3 rfl) ?_
  refine lv_iconst hx hb dL_kind_1 rfl ?_
  refine lv_aload_n hx hb dL_kind_2 rfl (lv_at hl 0 rfl) ?_
  refine lv_iload_n hx hb dL_kind_3 rfl (lv_at hl 1 rfl) ?_
  refine lv_iload_n hx hb dL_kind_4 rfl (lv_at hl 2 rfl) ?_
  refine vx_calli (vx_runV (As := [.int (iI a), .int (iI b)]) (rest := [.int (Int32.ofInt 0), .ref ao]) ⟨hx, hb, hml, hown, hts⟩ (cx0_kind l hlt D cA ad (vR 0 :: [vI a, vI b]) S (eqx "java/lang/IllegalArgumentException" S) s.heap.size hX) (cwV 2 hts gL_kind_X0_kind rfl (rm := rmx0_kind) rfl rfl (by decide +kernel) ⟨Nat.le_of_ble_eq_true rfl, Nat.le_of_ble_eq_true rfl⟩) ⟨prex_blind, va_recv hK1 hP0 (q := (RX0, TX0, 16)) (ci := 0) (q0 := 0) rfl rfl, fun U hU hW => ⟨rfl, ⟨by rw [hU], by rw [hU]; exact hP0, va_K.moved hW.alike hK1, hD1.weaken (fun _ _ _ _ => trivial)⟩, hXE.at hS0 hU hW hF⟩⟩ rfl rfl hl.1 rfl (Nat.le_of_ble_eq_true rfl) dL_kind_5 ⟨Nat.le_of_ble_eq_true rfl, Nat.le_of_ble_eq_true rfl⟩) hS0 (fun q _ z => hF q z) hF (fun q _ z => hF q z) (fun E9 ce q9 u t H1 locs1 ht hvm hpx hBX hz1 hk1 hS1 hce hcv hcl9 => ?_) (fun r u t H1 locs1 ht hvm hw1 hB hz1 hk1 hS1 => hw1.elim)
  obtain ⟨u1, u2⟩ := u
  obtain ⟨⟨e1, e2⟩, hku⟩ := hpx
  obtain ⟨e3, hP1, hK2, hD2⟩ := hBX
  dsimp only at e1 e2 e3 hP1 hD2
  subst e1
  subst e2
  subst e3
  rw [ht] at hP1
  obtain ⟨hPn, hDn⟩ := w_rt (a := [ouE cJ ao o]) hP hD hA hP1 hD2 hk1
  refine vx_catch (name := "java/lang/IllegalArgumentException") hown [] ⟨0, 10, 13, 13⟩ [⟨0, 10, 17, 15⟩] (by rw [vx_table (x := yL_kind) (y := yL_kind) (bytes := cL_kind) (maxL' := 5) (ret' := some .int) (hh := [(0, 10, 13, 13), (0, 10, 17, 15)]) B (hts _ List.mem_cons_self)]; rfl) (fun z hz => by cases hz) rfl (Nat.succ_ne_zero _) (hts (.classLink RL 13 "java/lang/IllegalArgumentException") (by decide +kernel)) (nw_at rfl (hXE.2.2.2 _ (List.mem_of_getElem? (i := 0) rfl))) hce hcv hcl9 ?_
  refine lv_astore hx hb dL_kind_13 hl (by decide) rfl (fun ls' hl' => ?_)
  refine lv_iconst hx hb dL_kind_15 rfl ?_
  exact W.iret (v := iI 1) hx hb hr (fun t ht hW => ⟨⟨iI 1, (_, o), rfl, ⟨rfl, rfl⟩, by rw [ht]; exact hPn, hDn⟩, hS1.F ht⟩) hS1.2.2 dL_kind_16 hlocks
set_option maxRecDepth 20000 in
theorem wL_kind_no2 : CtWno 2 yL_kind wsL_kind rmW_kind X0_kind "java/lang/IllegalStateException" 2 := by
  intro l hlt D cA cJ ad ao is S o sz hn hX
  rcases is with _ | ⟨a, _ | ⟨b, _ | ⟨z, r⟩⟩⟩
  · exact absurd hn (by simp)
  · exact absurd hn (by simp)
  rotate_left
  · exact absurd hn (by simp)
  refine va_MetW (cc := cL_kind) (maxL := 5) (ret := some .int) (by decide) rfl ?_
  intro p e s m args below meth c s₁ B hml hv
  obtain ⟨rfl, hsz, hP, hK, hD0, hXE, hN⟩ := hv
  have hx := B.exec
  have hb := B.bytes
  have hr := B.returns
  have hts := atoms_spec (ws := wsL_kind) B.pre
  have hown : s.vm.findClass RL = some m.cls := findClass_of_methodNamed B.named
  have hlocks := B.notSynchronized
  subst hsz
  have hD := hD0.self (sz := s.heap.size)
  have hA : ∀ q : Nat, s.heap.size ≤ q → va_A (wrW cA cJ ad ao S o) s.heap.size q := fun q h => Or.inr h
  have hS0 : va_S (va_A (wrW cA cJ ad ao S o) s.heap.size) s.heap s.heap [] := va_S.rf
  have hF : ∀ q, va_A (wdO cA 0 ly0 ja0 ad S) s.heap.size q → va_A (wrW cA cJ ad ao S o) s.heap.size q := by
    rintro q (⟨k, e, hk⟩ | h)
    · exact Or.inl ⟨_, e, nth_r (a := [ouE cJ ao o]) hk⟩
    · exact Or.inr h
  have hl := lv_entry [Value.ref (ad 0), .int (iI a), .int (iI b), .ref ao] (n := 5) (Nat.le_of_ble_eq_true rfl)
  show W _ _ _ _ _ _ _ _ _ _ _ _ _ _ _ (entryFrame m ([Value.ref (ad 0), .int (iI a), .int (iI b), .ref ao] : List Value).toArray 5)
  rw [lg_entry_eq]
  generalize (lg_sl [Value.ref (ad 0), .int (iI a), .int (iI b), .ref ao] ++ List.replicate (5 - (lg_sl [Value.ref (ad 0), .int (iI a), .int (iI b), .ref ao]).length) Slot.unset).toArray = ls at hl ⊢
  have hK1 : va_K D vwCl [(cA, .int)] s := hK.sub [0] rfl
  have hP0 : va_P D vwCl (wdO cA 0 ly0 ja0 ad S) s.heap := wP_r (a := [ouE cJ ao o]) hP
  have hD1 := wD_r (a := [ouE cJ ao o]) hD
  refine lv_aload_n hx hb dL_kind_0 rfl (lv_at hl 3 rfl) ?_
  refine lv_iconst hx hb dL_kind_1 rfl ?_
  refine lv_aload_n hx hb dL_kind_2 rfl (lv_at hl 0 rfl) ?_
  refine lv_iload_n hx hb dL_kind_3 rfl (lv_at hl 1 rfl) ?_
  refine lv_iload_n hx hb dL_kind_4 rfl (lv_at hl 2 rfl) ?_
  refine vx_calli (vx_runV (As := [.int (iI a), .int (iI b)]) (rest := [.int (Int32.ofInt 0), .ref ao]) ⟨hx, hb, hml, hown, hts⟩ (cx0_kind l hlt D cA ad (vR 0 :: [vI a, vI b]) S (eqx "java/lang/IllegalStateException" S) s.heap.size hX) (cwV 2 hts gL_kind_X0_kind rfl (rm := rmx0_kind) rfl rfl (by decide +kernel) ⟨Nat.le_of_ble_eq_true rfl, Nat.le_of_ble_eq_true rfl⟩) ⟨prex_blind, va_recv hK1 hP0 (q := (RX0, TX0, 16)) (ci := 0) (q0 := 0) rfl rfl, fun U hU hW => ⟨rfl, ⟨by rw [hU], by rw [hU]; exact hP0, va_K.moved hW.alike hK1, hD1.weaken (fun _ _ _ _ => trivial)⟩, hXE.at hS0 hU hW hF⟩⟩ rfl rfl hl.1 rfl (Nat.le_of_ble_eq_true rfl) dL_kind_5 ⟨Nat.le_of_ble_eq_true rfl, Nat.le_of_ble_eq_true rfl⟩) hS0 (fun q _ z => hF q z) hF (fun q _ z => hF q z) (fun E9 ce q9 u t H1 locs1 ht hvm hpx hBX hz1 hk1 hS1 hce hcv hcl9 => ?_) (fun r u t H1 locs1 ht hvm hw1 hB hz1 hk1 hS1 => hw1.elim)
  obtain ⟨u1, u2⟩ := u
  obtain ⟨⟨e1, e2⟩, hku⟩ := hpx
  obtain ⟨e3, hP1, hK2, hD2⟩ := hBX
  dsimp only at e1 e2 e3 hP1 hD2
  subst e1
  subst e2
  subst e3
  rw [ht] at hP1
  obtain ⟨hPn, hDn⟩ := w_rt (a := [ouE cJ ao o]) hP hD hA hP1 hD2 hk1
  refine vx_catch (name := "java/lang/IllegalStateException") hown [⟨0, 10, 13, 13⟩] ⟨0, 10, 17, 15⟩ [] (by rw [vx_table (x := yL_kind) (y := yL_kind) (bytes := cL_kind) (maxL' := 5) (ret' := some .int) (hh := [(0, 10, 13, 13), (0, 10, 17, 15)]) B (hts _ List.mem_cons_self)]; rfl) (fun z hz => by cases List.mem_singleton.mp hz; exact Or.inr ⟨Nat.succ_ne_zero _, "java/lang/IllegalArgumentException", hts (.classLink RL 13 "java/lang/IllegalArgumentException") (by decide +kernel), hN ("java/lang/IllegalStateException", "java/lang/IllegalArgumentException") (List.mem_of_getElem? (i := 0) rfl)⟩) rfl (Nat.succ_ne_zero _) (hts (.classLink RL 15 "java/lang/IllegalStateException") (by decide +kernel)) (nw_at rfl (hXE.2.2.2 _ (List.mem_of_getElem? (i := 1) rfl))) hce hcv hcl9 ?_
  refine lv_astore hx hb dL_kind_17 hl (by decide) rfl (fun ls' hl' => ?_)
  refine lv_iconst hx hb dL_kind_19 rfl ?_
  exact W.iret (v := iI 2) hx hb hr (fun t ht hW => ⟨⟨iI 2, (_, o), rfl, ⟨rfl, rfl⟩, by rw [ht]; exact hPn, hDn⟩, hS1.F ht⟩) hS1.2.2 dL_kind_20 hlocks
abbrev rmW_put : Room := { frames := 8, cells := 1, slots := 6, locals := 126 }
set_option maxRecDepth 20000 in
theorem wL_put_ok : CtWok 1 yL_put wsL_put rmW_put X0_put zI := by
  intro l hlt D cA cJ ad ao is S o Q sz hn hX
  rcases is with _ | ⟨a, _ | ⟨z, r⟩⟩
  · exact absurd hn (by simp)
  rotate_left
  · exact absurd hn (by simp)
  refine va_MetW (cc := cL_put) (maxL := 4) (ret := some .int) (by decide) rfl ?_
  intro p e s m args below meth c s₁ B hml hv
  obtain ⟨rfl, hsz, hP, hK, hD0, hXE, hN⟩ := hv
  have hx := B.exec
  have hb := B.bytes
  have hr := B.returns
  have hts := atoms_spec (ws := wsL_put) B.pre
  have hown : s.vm.findClass RL = some m.cls := findClass_of_methodNamed B.named
  have hlocks := B.notSynchronized
  subst hsz
  have hD := hD0.self (sz := s.heap.size)
  have hA : ∀ q : Nat, s.heap.size ≤ q → va_A (wrW cA cJ ad ao S o) s.heap.size q := fun q h => Or.inr h
  have hS0 : va_S (va_A (wrW cA cJ ad ao S o) s.heap.size) s.heap s.heap [] := va_S.rf
  have hF : ∀ q, va_A (wdO cA 0 ly0 ja0 ad S) s.heap.size q → va_A (wrW cA cJ ad ao S o) s.heap.size q := by
    rintro q (⟨k, e, hk⟩ | h)
    · exact Or.inl ⟨_, e, nth_r (a := [ouE cJ ao o]) hk⟩
    · exact Or.inr h
  have hl := lv_entry [Value.ref (ad 0), .int (iI a), .ref ao] (n := 4) (Nat.le_of_ble_eq_true rfl)
  show W _ _ _ _ _ _ _ _ _ _ _ _ _ _ _ (entryFrame m ([Value.ref (ad 0), .int (iI a), .ref ao] : List Value).toArray 4)
  rw [lg_entry_eq]
  generalize (lg_sl [Value.ref (ad 0), .int (iI a), .ref ao] ++ List.replicate (4 - (lg_sl [Value.ref (ad 0), .int (iI a), .ref ao]).length) Slot.unset).toArray = ls at hl ⊢
  have hK1 : va_K D vwCl [(cA, .int)] s := hK.sub [0] rfl
  have hP0 : va_P D vwCl (wdO cA 0 ly0 ja0 ad S) s.heap := wP_r (a := [ouE cJ ao o]) hP
  have hD1 := wD_r (a := [ouE cJ ao o]) hD
  refine lv_aload_n hx hb dL_put_0 rfl (lv_at hl 2 rfl) ?_
  refine lv_iconst hx hb dL_put_1 rfl ?_
  refine lv_aload_n hx hb dL_put_2 rfl (lv_at hl 0 rfl) ?_
  refine lv_iload_n hx hb dL_put_3 rfl (lv_at hl 1 rfl) ?_
  refine va_calli (va_runV (As := [.int (iI a)]) (rest := [.int (Int32.ofInt 0), .ref ao]) ⟨hx, hb, hml, hown, hts⟩ (ct0_put l D cA ad (vR 0 :: [vI a]) S Q s.heap.size hX) (cwV 1 hts gL_put_X0_put rfl (rm := rm0_put) rfl rfl (by decide +kernel) ⟨Nat.le_of_ble_eq_true rfl, Nat.le_of_ble_eq_true rfl⟩) ⟨pre0_blind, va_recv hK1 hP0 (q := (RX0, TX0, 16)) (ci := 0) (q0 := 0) rfl rfl, fun U hU hW => ⟨rfl, by rw [hU], by rw [hU]; exact hP0, va_K.moved hW.alike hK1, hD1.weaken (fun _ _ _ _ => trivial)⟩⟩ rfl rfl hl.1 rfl (Nat.le_of_ble_eq_true rfl) dL_put_4 ⟨Nat.zero_le _, Nat.zero_le _⟩) hS0 (fun q _ z => hF q z) hF (fun r u t H1 locs1 ht hvm hw1 hB hz1 hk1 hS1 => ?_)
  obtain ⟨⟨v, rfl, hq⟩, hku⟩ := hw1
  obtain ⟨hP1, hK2, hD2⟩ := hB
  rw [ht] at hP1
  obtain ⟨hPn, hDn⟩ := w_rt (a := [ouE cJ ao o]) hP hD hA hP1 hD2 hk1
  refine lv_i2l hx hb dL_put_7 rfl ?_
  refine va_last hx hb hK hPn hDn hS1 0 1 rfl rfl (iI_in (a := 0) (Int.le_refl _) (by decide) (by decide)) dL_put_8 (fun H2 locs2 hP2 hD3 hS2 => ?_)
  refine lv_goto hx hb dL_put_9 (tgt := 18) rfl ?_
  refine lv_iconst hx hb dL_put_18 rfl ?_
  refine W.widen (k := 1) (n := 6) (Nat.le_of_ble_eq_true rfl) (Nat.le_of_ble_eq_true rfl) ?_
  exact W.iret (v := 0) hx hb hr (fun t ht hW => ⟨⟨0, (u, vp_updL o 0 (iI v).toInt64), rfl, ⟨rfl, v, hq, rfl, hku⟩, by rw [ht]; exact hP2, hD3⟩, hS2.F ht⟩) hS2.2.2 dL_put_19 hlocks
set_option maxRecDepth 20000 in
theorem wL_put_no1 : CtWno 1 yL_put wsL_put rmW_put X0_put "java/lang/IndexOutOfBoundsException" 1 := by
  intro l hlt D cA cJ ad ao is S o sz hn hX
  rcases is with _ | ⟨a, _ | ⟨z, r⟩⟩
  · exact absurd hn (by simp)
  rotate_left
  · exact absurd hn (by simp)
  refine va_MetW (cc := cL_put) (maxL := 4) (ret := some .int) (by decide) rfl ?_
  intro p e s m args below meth c s₁ B hml hv
  obtain ⟨rfl, hsz, hP, hK, hD0, hXE, hN⟩ := hv
  have hx := B.exec
  have hb := B.bytes
  have hr := B.returns
  have hts := atoms_spec (ws := wsL_put) B.pre
  have hown : s.vm.findClass RL = some m.cls := findClass_of_methodNamed B.named
  have hlocks := B.notSynchronized
  subst hsz
  have hD := hD0.self (sz := s.heap.size)
  have hA : ∀ q : Nat, s.heap.size ≤ q → va_A (wrW cA cJ ad ao S o) s.heap.size q := fun q h => Or.inr h
  have hS0 : va_S (va_A (wrW cA cJ ad ao S o) s.heap.size) s.heap s.heap [] := va_S.rf
  have hF : ∀ q, va_A (wdO cA 0 ly0 ja0 ad S) s.heap.size q → va_A (wrW cA cJ ad ao S o) s.heap.size q := by
    rintro q (⟨k, e, hk⟩ | h)
    · exact Or.inl ⟨_, e, nth_r (a := [ouE cJ ao o]) hk⟩
    · exact Or.inr h
  have hl := lv_entry [Value.ref (ad 0), .int (iI a), .ref ao] (n := 4) (Nat.le_of_ble_eq_true rfl)
  show W _ _ _ _ _ _ _ _ _ _ _ _ _ _ _ (entryFrame m ([Value.ref (ad 0), .int (iI a), .ref ao] : List Value).toArray 4)
  rw [lg_entry_eq]
  generalize (lg_sl [Value.ref (ad 0), .int (iI a), .ref ao] ++ List.replicate (4 - (lg_sl [Value.ref (ad 0), .int (iI a), .ref ao]).length) Slot.unset).toArray = ls at hl ⊢
  have hK1 : va_K D vwCl [(cA, .int)] s := hK.sub [0] rfl
  have hP0 : va_P D vwCl (wdO cA 0 ly0 ja0 ad S) s.heap := wP_r (a := [ouE cJ ao o]) hP
  have hD1 := wD_r (a := [ouE cJ ao o]) hD
  refine lv_aload_n hx hb dL_put_0 rfl (lv_at hl 2 rfl) ?_
  refine lv_iconst hx hb dL_put_1 rfl ?_
  refine lv_aload_n hx hb dL_put_2 rfl (lv_at hl 0 rfl) ?_
  refine lv_iload_n hx hb dL_put_3 rfl (lv_at hl 1 rfl) ?_
  refine vx_calli (vx_runV (As := [.int (iI a)]) (rest := [.int (Int32.ofInt 0), .ref ao]) ⟨hx, hb, hml, hown, hts⟩ (cx0_put l hlt D cA ad (vR 0 :: [vI a]) S (eqx "java/lang/IndexOutOfBoundsException" S) s.heap.size hX) (cwV 1 hts gL_put_X0_put rfl (rm := rmx0_put) rfl rfl (by decide +kernel) ⟨Nat.le_of_ble_eq_true rfl, Nat.le_of_ble_eq_true rfl⟩) ⟨prex_blind, va_recv hK1 hP0 (q := (RX0, TX0, 16)) (ci := 0) (q0 := 0) rfl rfl, fun U hU hW => ⟨rfl, ⟨by rw [hU], by rw [hU]; exact hP0, va_K.moved hW.alike hK1, hD1.weaken (fun _ _ _ _ => trivial)⟩, hXE.at hS0 hU hW hF⟩⟩ rfl rfl hl.1 rfl (Nat.le_of_ble_eq_true rfl) dL_put_4 ⟨Nat.le_of_ble_eq_true rfl, Nat.le_of_ble_eq_true rfl⟩) hS0 (fun q _ z => hF q z) hF (fun q _ z => hF q z) (fun E9 ce q9 u t H1 locs1 ht hvm hpx hBX hz1 hk1 hS1 hce hcv hcl9 => ?_) (fun r u t H1 locs1 ht hvm hw1 hB hz1 hk1 hS1 => hw1.elim)
  obtain ⟨u1, u2⟩ := u
  obtain ⟨⟨e1, e2⟩, hku⟩ := hpx
  obtain ⟨e3, hP1, hK2, hD2⟩ := hBX
  dsimp only at e1 e2 e3 hP1 hD2
  subst e1
  subst e2
  subst e3
  rw [ht] at hP1
  obtain ⟨hPn, hDn⟩ := w_rt (a := [ouE cJ ao o]) hP hD hA hP1 hD2 hk1
  refine vx_catch (name := "java/lang/IndexOutOfBoundsException") hown [] ⟨0, 9, 12, 21⟩ [⟨0, 9, 15, 15⟩] (by rw [vx_table (x := yL_put) (y := yL_put) (bytes := cL_put) (maxL' := 4) (ret' := some .int) (hh := [(0, 9, 12, 21), (0, 9, 15, 15)]) B (hts _ List.mem_cons_self)]; rfl) (fun z hz => by cases hz) rfl (Nat.succ_ne_zero _) (hts (.classLink RL 21 "java/lang/IndexOutOfBoundsException") (by decide +kernel)) (nw_at rfl (hXE.2.2.2 _ (List.mem_of_getElem? (i := 2) rfl))) hce hcv hcl9 ?_
  refine lv_astore_n hx hb dL_put_12 rfl hl (by decide) rfl (fun ls' hl' => ?_)
  refine lv_iconst hx hb dL_put_13 rfl ?_
  exact W.iret (v := iI 1) hx hb hr (fun t ht hW => ⟨⟨iI 1, (_, o), rfl, ⟨rfl, rfl⟩, by rw [ht]; exact hPn, hDn⟩, hS1.F ht⟩) hS1.2.2 dL_put_14 hlocks
set_option maxRecDepth 20000 in
theorem wL_put_no2 : CtWno 1 yL_put wsL_put rmW_put X0_put "java/lang/IllegalStateException" 2 := by
  intro l hlt D cA cJ ad ao is S o sz hn hX
  rcases is with _ | ⟨a, _ | ⟨z, r⟩⟩
  · exact absurd hn (by simp)
  rotate_left
  · exact absurd hn (by simp)
  refine va_MetW (cc := cL_put) (maxL := 4) (ret := some .int) (by decide) rfl ?_
  intro p e s m args below meth c s₁ B hml hv
  obtain ⟨rfl, hsz, hP, hK, hD0, hXE, hN⟩ := hv
  have hx := B.exec
  have hb := B.bytes
  have hr := B.returns
  have hts := atoms_spec (ws := wsL_put) B.pre
  have hown : s.vm.findClass RL = some m.cls := findClass_of_methodNamed B.named
  have hlocks := B.notSynchronized
  subst hsz
  have hD := hD0.self (sz := s.heap.size)
  have hA : ∀ q : Nat, s.heap.size ≤ q → va_A (wrW cA cJ ad ao S o) s.heap.size q := fun q h => Or.inr h
  have hS0 : va_S (va_A (wrW cA cJ ad ao S o) s.heap.size) s.heap s.heap [] := va_S.rf
  have hF : ∀ q, va_A (wdO cA 0 ly0 ja0 ad S) s.heap.size q → va_A (wrW cA cJ ad ao S o) s.heap.size q := by
    rintro q (⟨k, e, hk⟩ | h)
    · exact Or.inl ⟨_, e, nth_r (a := [ouE cJ ao o]) hk⟩
    · exact Or.inr h
  have hl := lv_entry [Value.ref (ad 0), .int (iI a), .ref ao] (n := 4) (Nat.le_of_ble_eq_true rfl)
  show W _ _ _ _ _ _ _ _ _ _ _ _ _ _ _ (entryFrame m ([Value.ref (ad 0), .int (iI a), .ref ao] : List Value).toArray 4)
  rw [lg_entry_eq]
  generalize (lg_sl [Value.ref (ad 0), .int (iI a), .ref ao] ++ List.replicate (4 - (lg_sl [Value.ref (ad 0), .int (iI a), .ref ao]).length) Slot.unset).toArray = ls at hl ⊢
  have hK1 : va_K D vwCl [(cA, .int)] s := hK.sub [0] rfl
  have hP0 : va_P D vwCl (wdO cA 0 ly0 ja0 ad S) s.heap := wP_r (a := [ouE cJ ao o]) hP
  have hD1 := wD_r (a := [ouE cJ ao o]) hD
  refine lv_aload_n hx hb dL_put_0 rfl (lv_at hl 2 rfl) ?_
  refine lv_iconst hx hb dL_put_1 rfl ?_
  refine lv_aload_n hx hb dL_put_2 rfl (lv_at hl 0 rfl) ?_
  refine lv_iload_n hx hb dL_put_3 rfl (lv_at hl 1 rfl) ?_
  refine vx_calli (vx_runV (As := [.int (iI a)]) (rest := [.int (Int32.ofInt 0), .ref ao]) ⟨hx, hb, hml, hown, hts⟩ (cx0_put l hlt D cA ad (vR 0 :: [vI a]) S (eqx "java/lang/IllegalStateException" S) s.heap.size hX) (cwV 1 hts gL_put_X0_put rfl (rm := rmx0_put) rfl rfl (by decide +kernel) ⟨Nat.le_of_ble_eq_true rfl, Nat.le_of_ble_eq_true rfl⟩) ⟨prex_blind, va_recv hK1 hP0 (q := (RX0, TX0, 16)) (ci := 0) (q0 := 0) rfl rfl, fun U hU hW => ⟨rfl, ⟨by rw [hU], by rw [hU]; exact hP0, va_K.moved hW.alike hK1, hD1.weaken (fun _ _ _ _ => trivial)⟩, hXE.at hS0 hU hW hF⟩⟩ rfl rfl hl.1 rfl (Nat.le_of_ble_eq_true rfl) dL_put_4 ⟨Nat.le_of_ble_eq_true rfl, Nat.le_of_ble_eq_true rfl⟩) hS0 (fun q _ z => hF q z) hF (fun q _ z => hF q z) (fun E9 ce q9 u t H1 locs1 ht hvm hpx hBX hz1 hk1 hS1 hce hcv hcl9 => ?_) (fun r u t H1 locs1 ht hvm hw1 hB hz1 hk1 hS1 => hw1.elim)
  obtain ⟨u1, u2⟩ := u
  obtain ⟨⟨e1, e2⟩, hku⟩ := hpx
  obtain ⟨e3, hP1, hK2, hD2⟩ := hBX
  dsimp only at e1 e2 e3 hP1 hD2
  subst e1
  subst e2
  subst e3
  rw [ht] at hP1
  obtain ⟨hPn, hDn⟩ := w_rt (a := [ouE cJ ao o]) hP hD hA hP1 hD2 hk1
  refine vx_catch (name := "java/lang/IllegalStateException") hown [⟨0, 9, 12, 21⟩] ⟨0, 9, 15, 15⟩ [] (by rw [vx_table (x := yL_put) (y := yL_put) (bytes := cL_put) (maxL' := 4) (ret' := some .int) (hh := [(0, 9, 12, 21), (0, 9, 15, 15)]) B (hts _ List.mem_cons_self)]; rfl) (fun z hz => by cases List.mem_singleton.mp hz; exact Or.inr ⟨Nat.succ_ne_zero _, "java/lang/IndexOutOfBoundsException", hts (.classLink RL 21 "java/lang/IndexOutOfBoundsException") (by decide +kernel), hN ("java/lang/IllegalStateException", "java/lang/IndexOutOfBoundsException") (List.mem_of_getElem? (i := 1) rfl)⟩) rfl (Nat.succ_ne_zero _) (hts (.classLink RL 15 "java/lang/IllegalStateException") (by decide +kernel)) (nw_at rfl (hXE.2.2.2 _ (List.mem_of_getElem? (i := 1) rfl))) hce hcv hcl9 ?_
  refine lv_astore_n hx hb dL_put_15 rfl hl (by decide) rfl (fun ls' hl' => ?_)
  refine lv_iconst hx hb dL_put_16 rfl ?_
  exact W.iret (v := iI 2) hx hb hr (fun t ht hW => ⟨⟨iI 2, (_, o), rfl, ⟨rfl, rfl⟩, by rw [ht]; exact hPn, hDn⟩, hS1.F ht⟩) hS1.2.2 dL_put_17 hlocks
abbrev rmW_take : Room := { frames := 8, cells := 1, slots := 6, locals := 127 }
set_option maxRecDepth 20000 in
theorem wL_take_ok : CtWok 1 yL_take wsL_take rmW_take X0_take zL := by
  intro l hlt D cA cJ ad ao is S o Q sz hn hX
  rcases is with _ | ⟨a, _ | ⟨z, r⟩⟩
  · exact absurd hn (by simp)
  rotate_left
  · exact absurd hn (by simp)
  refine va_MetW (cc := cL_take) (maxL := 4) (ret := some .int) (by decide) rfl ?_
  intro p e s m args below meth c s₁ B hml hv
  obtain ⟨rfl, hsz, hP, hK, hD0, hXE, hN⟩ := hv
  have hx := B.exec
  have hb := B.bytes
  have hr := B.returns
  have hts := atoms_spec (ws := wsL_take) B.pre
  have hown : s.vm.findClass RL = some m.cls := findClass_of_methodNamed B.named
  have hlocks := B.notSynchronized
  subst hsz
  have hD := hD0.self (sz := s.heap.size)
  have hA : ∀ q : Nat, s.heap.size ≤ q → va_A (wrW cA cJ ad ao S o) s.heap.size q := fun q h => Or.inr h
  have hS0 : va_S (va_A (wrW cA cJ ad ao S o) s.heap.size) s.heap s.heap [] := va_S.rf
  have hF : ∀ q, va_A (wdO cA 0 ly0 ja0 ad S) s.heap.size q → va_A (wrW cA cJ ad ao S o) s.heap.size q := by
    rintro q (⟨k, e, hk⟩ | h)
    · exact Or.inl ⟨_, e, nth_r (a := [ouE cJ ao o]) hk⟩
    · exact Or.inr h
  have hl := lv_entry [Value.ref (ad 0), .int (iI a), .ref ao] (n := 4) (Nat.le_of_ble_eq_true rfl)
  show W _ _ _ _ _ _ _ _ _ _ _ _ _ _ _ (entryFrame m ([Value.ref (ad 0), .int (iI a), .ref ao] : List Value).toArray 4)
  rw [lg_entry_eq]
  generalize (lg_sl [Value.ref (ad 0), .int (iI a), .ref ao] ++ List.replicate (4 - (lg_sl [Value.ref (ad 0), .int (iI a), .ref ao]).length) Slot.unset).toArray = ls at hl ⊢
  have hK1 : va_K D vwCl [(cA, .int)] s := hK.sub [0] rfl
  have hP0 : va_P D vwCl (wdO cA 0 ly0 ja0 ad S) s.heap := wP_r (a := [ouE cJ ao o]) hP
  have hD1 := wD_r (a := [ouE cJ ao o]) hD
  refine lv_aload_n hx hb dL_take_0 rfl (lv_at hl 2 rfl) ?_
  refine lv_iconst hx hb dL_take_1 rfl ?_
  refine lv_aload_n hx hb dL_take_2 rfl (lv_at hl 0 rfl) ?_
  refine lv_iload_n hx hb dL_take_3 rfl (lv_at hl 1 rfl) ?_
  refine va_calli (va_runV (As := [.int (iI a)]) (rest := [.int (Int32.ofInt 0), .ref ao]) ⟨hx, hb, hml, hown, hts⟩ (ct0_take l D cA ad (vR 0 :: [vI a]) S Q s.heap.size hX) (cwV 1 hts gL_take_X0_take rfl (rm := rm0_take) rfl rfl (by decide +kernel) ⟨Nat.le_of_ble_eq_true rfl, Nat.le_of_ble_eq_true rfl⟩) ⟨pre0_blind, va_recv hK1 hP0 (q := (RX0, TX0, 16)) (ci := 0) (q0 := 0) rfl rfl, fun U hU hW => ⟨rfl, by rw [hU], by rw [hU]; exact hP0, va_K.moved hW.alike hK1, hD1.weaken (fun _ _ _ _ => trivial)⟩⟩ rfl rfl hl.1 rfl (Nat.le_of_ble_eq_true rfl) dL_take_4 ⟨Nat.zero_le _, Nat.zero_le _⟩) hS0 (fun q _ z => hF q z) hF (fun r u t H1 locs1 ht hvm hw1 hB hz1 hk1 hS1 => ?_)
  obtain ⟨⟨v, rfl, hq⟩, hku⟩ := hw1
  obtain ⟨hP1, hK2, hD2⟩ := hB
  rw [ht] at hP1
  obtain ⟨hPn, hDn⟩ := w_rt (a := [ouE cJ ao o]) hP hD hA hP1 hD2 hk1
  refine lv_if_eq hx hb dL_take_7 (tgt := 14) rfl (fun z => ?_) (fun z => ?_)
  · refine lv_lconst (v := 0) hx hb dL_take_14 rfl ?_
    refine va_last hx hb hK hPn hDn hS1 0 1 rfl rfl (iI_in (a := 0) (Int.le_refl _) (by decide) (by decide)) dL_take_15 (fun H2 locs2 hP2 hD3 hS2 => ?_)
    refine lv_goto hx hb dL_take_16 (tgt := 25) rfl ?_
    refine lv_iconst hx hb dL_take_25 rfl ?_
    refine W.widen (k := 1) (n := 6) (Nat.le_of_ble_eq_true rfl) (Nat.le_of_ble_eq_true rfl) ?_
    exact W.iret (v := 0) hx hb hr (fun t ht hW => ⟨⟨0, (u, vp_updL o 0 0), rfl, ⟨rfl, v, hq, by show (0 : Int64) = zL v; unfold zL; rw [if_pos z], hku⟩, by rw [ht]; exact hP2, hD3⟩, hS2.F ht⟩) hS2.2.2 dL_take_26 hlocks
  · refine lv_lconst (v := 1) hx hb dL_take_10 rfl ?_
    refine lv_goto hx hb dL_take_11 (tgt := 15) rfl ?_
    refine va_last hx hb hK hPn hDn hS1 0 1 rfl rfl (iI_in (a := 0) (Int.le_refl _) (by decide) (by decide)) dL_take_15 (fun H2 locs2 hP2 hD3 hS2 => ?_)
    refine lv_goto hx hb dL_take_16 (tgt := 25) rfl ?_
    refine lv_iconst hx hb dL_take_25 rfl ?_
    refine W.widen (k := 1) (n := 6) (Nat.le_of_ble_eq_true rfl) (Nat.le_of_ble_eq_true rfl) ?_
    exact W.iret (v := 0) hx hb hr (fun t ht hW => ⟨⟨0, (u, vp_updL o 0 1), rfl, ⟨rfl, v, hq, by show (1 : Int64) = zL v; unfold zL; rw [if_neg z], hku⟩, by rw [ht]; exact hP2, hD3⟩, hS2.F ht⟩) hS2.2.2 dL_take_26 hlocks
set_option maxRecDepth 20000 in
theorem wL_take_no1 : CtWno 1 yL_take wsL_take rmW_take X0_take "java/lang/IndexOutOfBoundsException" 1 := by
  intro l hlt D cA cJ ad ao is S o sz hn hX
  rcases is with _ | ⟨a, _ | ⟨z, r⟩⟩
  · exact absurd hn (by simp)
  rotate_left
  · exact absurd hn (by simp)
  refine va_MetW (cc := cL_take) (maxL := 4) (ret := some .int) (by decide) rfl ?_
  intro p e s m args below meth c s₁ B hml hv
  obtain ⟨rfl, hsz, hP, hK, hD0, hXE, hN⟩ := hv
  have hx := B.exec
  have hb := B.bytes
  have hr := B.returns
  have hts := atoms_spec (ws := wsL_take) B.pre
  have hown : s.vm.findClass RL = some m.cls := findClass_of_methodNamed B.named
  have hlocks := B.notSynchronized
  subst hsz
  have hD := hD0.self (sz := s.heap.size)
  have hA : ∀ q : Nat, s.heap.size ≤ q → va_A (wrW cA cJ ad ao S o) s.heap.size q := fun q h => Or.inr h
  have hS0 : va_S (va_A (wrW cA cJ ad ao S o) s.heap.size) s.heap s.heap [] := va_S.rf
  have hF : ∀ q, va_A (wdO cA 0 ly0 ja0 ad S) s.heap.size q → va_A (wrW cA cJ ad ao S o) s.heap.size q := by
    rintro q (⟨k, e, hk⟩ | h)
    · exact Or.inl ⟨_, e, nth_r (a := [ouE cJ ao o]) hk⟩
    · exact Or.inr h
  have hl := lv_entry [Value.ref (ad 0), .int (iI a), .ref ao] (n := 4) (Nat.le_of_ble_eq_true rfl)
  show W _ _ _ _ _ _ _ _ _ _ _ _ _ _ _ (entryFrame m ([Value.ref (ad 0), .int (iI a), .ref ao] : List Value).toArray 4)
  rw [lg_entry_eq]
  generalize (lg_sl [Value.ref (ad 0), .int (iI a), .ref ao] ++ List.replicate (4 - (lg_sl [Value.ref (ad 0), .int (iI a), .ref ao]).length) Slot.unset).toArray = ls at hl ⊢
  have hK1 : va_K D vwCl [(cA, .int)] s := hK.sub [0] rfl
  have hP0 : va_P D vwCl (wdO cA 0 ly0 ja0 ad S) s.heap := wP_r (a := [ouE cJ ao o]) hP
  have hD1 := wD_r (a := [ouE cJ ao o]) hD
  refine lv_aload_n hx hb dL_take_0 rfl (lv_at hl 2 rfl) ?_
  refine lv_iconst hx hb dL_take_1 rfl ?_
  refine lv_aload_n hx hb dL_take_2 rfl (lv_at hl 0 rfl) ?_
  refine lv_iload_n hx hb dL_take_3 rfl (lv_at hl 1 rfl) ?_
  refine vx_calli (vx_runV (As := [.int (iI a)]) (rest := [.int (Int32.ofInt 0), .ref ao]) ⟨hx, hb, hml, hown, hts⟩ (cx0_take l hlt D cA ad (vR 0 :: [vI a]) S (eqx "java/lang/IndexOutOfBoundsException" S) s.heap.size hX) (cwV 1 hts gL_take_X0_take rfl (rm := rmx0_take) rfl rfl (by decide +kernel) ⟨Nat.le_of_ble_eq_true rfl, Nat.le_of_ble_eq_true rfl⟩) ⟨prex_blind, va_recv hK1 hP0 (q := (RX0, TX0, 16)) (ci := 0) (q0 := 0) rfl rfl, fun U hU hW => ⟨rfl, ⟨by rw [hU], by rw [hU]; exact hP0, va_K.moved hW.alike hK1, hD1.weaken (fun _ _ _ _ => trivial)⟩, hXE.at hS0 hU hW hF⟩⟩ rfl rfl hl.1 rfl (Nat.le_of_ble_eq_true rfl) dL_take_4 ⟨Nat.le_of_ble_eq_true rfl, Nat.le_of_ble_eq_true rfl⟩) hS0 (fun q _ z => hF q z) hF (fun q _ z => hF q z) (fun E9 ce q9 u t H1 locs1 ht hvm hpx hBX hz1 hk1 hS1 hce hcv hcl9 => ?_) (fun r u t H1 locs1 ht hvm hw1 hB hz1 hk1 hS1 => hw1.elim)
  obtain ⟨u1, u2⟩ := u
  obtain ⟨⟨e1, e2⟩, hku⟩ := hpx
  obtain ⟨e3, hP1, hK2, hD2⟩ := hBX
  dsimp only at e1 e2 e3 hP1 hD2
  subst e1
  subst e2
  subst e3
  rw [ht] at hP1
  obtain ⟨hPn, hDn⟩ := w_rt (a := [ouE cJ ao o]) hP hD hA hP1 hD2 hk1
  refine vx_catch (name := "java/lang/IndexOutOfBoundsException") hown [] ⟨0, 16, 19, 21⟩ [⟨0, 16, 22, 15⟩] (by rw [vx_table (x := yL_take) (y := yL_take) (bytes := cL_take) (maxL' := 4) (ret' := some .int) (hh := [(0, 16, 19, 21), (0, 16, 22, 15)]) B (hts _ List.mem_cons_self)]; rfl) (fun z hz => by cases hz) rfl (Nat.succ_ne_zero _) (hts (.classLink RL 21 "java/lang/IndexOutOfBoundsException") (by decide +kernel)) (nw_at rfl (hXE.2.2.2 _ (List.mem_of_getElem? (i := 2) rfl))) hce hcv hcl9 ?_
  refine lv_astore_n hx hb dL_take_19 rfl hl (by decide) rfl (fun ls' hl' => ?_)
  refine lv_iconst hx hb dL_take_20 rfl ?_
  exact W.iret (v := iI 1) hx hb hr (fun t ht hW => ⟨⟨iI 1, (_, o), rfl, ⟨rfl, rfl⟩, by rw [ht]; exact hPn, hDn⟩, hS1.F ht⟩) hS1.2.2 dL_take_21 hlocks
set_option maxRecDepth 20000 in
theorem wL_take_no2 : CtWno 1 yL_take wsL_take rmW_take X0_take "java/lang/IllegalStateException" 2 := by
  intro l hlt D cA cJ ad ao is S o sz hn hX
  rcases is with _ | ⟨a, _ | ⟨z, r⟩⟩
  · exact absurd hn (by simp)
  rotate_left
  · exact absurd hn (by simp)
  refine va_MetW (cc := cL_take) (maxL := 4) (ret := some .int) (by decide) rfl ?_
  intro p e s m args below meth c s₁ B hml hv
  obtain ⟨rfl, hsz, hP, hK, hD0, hXE, hN⟩ := hv
  have hx := B.exec
  have hb := B.bytes
  have hr := B.returns
  have hts := atoms_spec (ws := wsL_take) B.pre
  have hown : s.vm.findClass RL = some m.cls := findClass_of_methodNamed B.named
  have hlocks := B.notSynchronized
  subst hsz
  have hD := hD0.self (sz := s.heap.size)
  have hA : ∀ q : Nat, s.heap.size ≤ q → va_A (wrW cA cJ ad ao S o) s.heap.size q := fun q h => Or.inr h
  have hS0 : va_S (va_A (wrW cA cJ ad ao S o) s.heap.size) s.heap s.heap [] := va_S.rf
  have hF : ∀ q, va_A (wdO cA 0 ly0 ja0 ad S) s.heap.size q → va_A (wrW cA cJ ad ao S o) s.heap.size q := by
    rintro q (⟨k, e, hk⟩ | h)
    · exact Or.inl ⟨_, e, nth_r (a := [ouE cJ ao o]) hk⟩
    · exact Or.inr h
  have hl := lv_entry [Value.ref (ad 0), .int (iI a), .ref ao] (n := 4) (Nat.le_of_ble_eq_true rfl)
  show W _ _ _ _ _ _ _ _ _ _ _ _ _ _ _ (entryFrame m ([Value.ref (ad 0), .int (iI a), .ref ao] : List Value).toArray 4)
  rw [lg_entry_eq]
  generalize (lg_sl [Value.ref (ad 0), .int (iI a), .ref ao] ++ List.replicate (4 - (lg_sl [Value.ref (ad 0), .int (iI a), .ref ao]).length) Slot.unset).toArray = ls at hl ⊢
  have hK1 : va_K D vwCl [(cA, .int)] s := hK.sub [0] rfl
  have hP0 : va_P D vwCl (wdO cA 0 ly0 ja0 ad S) s.heap := wP_r (a := [ouE cJ ao o]) hP
  have hD1 := wD_r (a := [ouE cJ ao o]) hD
  refine lv_aload_n hx hb dL_take_0 rfl (lv_at hl 2 rfl) ?_
  refine lv_iconst hx hb dL_take_1 rfl ?_
  refine lv_aload_n hx hb dL_take_2 rfl (lv_at hl 0 rfl) ?_
  refine lv_iload_n hx hb dL_take_3 rfl (lv_at hl 1 rfl) ?_
  refine vx_calli (vx_runV (As := [.int (iI a)]) (rest := [.int (Int32.ofInt 0), .ref ao]) ⟨hx, hb, hml, hown, hts⟩ (cx0_take l hlt D cA ad (vR 0 :: [vI a]) S (eqx "java/lang/IllegalStateException" S) s.heap.size hX) (cwV 1 hts gL_take_X0_take rfl (rm := rmx0_take) rfl rfl (by decide +kernel) ⟨Nat.le_of_ble_eq_true rfl, Nat.le_of_ble_eq_true rfl⟩) ⟨prex_blind, va_recv hK1 hP0 (q := (RX0, TX0, 16)) (ci := 0) (q0 := 0) rfl rfl, fun U hU hW => ⟨rfl, ⟨by rw [hU], by rw [hU]; exact hP0, va_K.moved hW.alike hK1, hD1.weaken (fun _ _ _ _ => trivial)⟩, hXE.at hS0 hU hW hF⟩⟩ rfl rfl hl.1 rfl (Nat.le_of_ble_eq_true rfl) dL_take_4 ⟨Nat.le_of_ble_eq_true rfl, Nat.le_of_ble_eq_true rfl⟩) hS0 (fun q _ z => hF q z) hF (fun q _ z => hF q z) (fun E9 ce q9 u t H1 locs1 ht hvm hpx hBX hz1 hk1 hS1 hce hcv hcl9 => ?_) (fun r u t H1 locs1 ht hvm hw1 hB hz1 hk1 hS1 => hw1.elim)
  obtain ⟨u1, u2⟩ := u
  obtain ⟨⟨e1, e2⟩, hku⟩ := hpx
  obtain ⟨e3, hP1, hK2, hD2⟩ := hBX
  dsimp only at e1 e2 e3 hP1 hD2
  subst e1
  subst e2
  subst e3
  rw [ht] at hP1
  obtain ⟨hPn, hDn⟩ := w_rt (a := [ouE cJ ao o]) hP hD hA hP1 hD2 hk1
  refine vx_catch (name := "java/lang/IllegalStateException") hown [⟨0, 16, 19, 21⟩] ⟨0, 16, 22, 15⟩ [] (by rw [vx_table (x := yL_take) (y := yL_take) (bytes := cL_take) (maxL' := 4) (ret' := some .int) (hh := [(0, 16, 19, 21), (0, 16, 22, 15)]) B (hts _ List.mem_cons_self)]; rfl) (fun z hz => by cases List.mem_singleton.mp hz; exact Or.inr ⟨Nat.succ_ne_zero _, "java/lang/IndexOutOfBoundsException", hts (.classLink RL 21 "java/lang/IndexOutOfBoundsException") (by decide +kernel), hN ("java/lang/IllegalStateException", "java/lang/IndexOutOfBoundsException") (List.mem_of_getElem? (i := 1) rfl)⟩) rfl (Nat.succ_ne_zero _) (hts (.classLink RL 15 "java/lang/IllegalStateException") (by decide +kernel)) (nw_at rfl (hXE.2.2.2 _ (List.mem_of_getElem? (i := 1) rfl))) hce hcv hcl9 ?_
  refine lv_astore_n hx hb dL_take_22 rfl hl (by decide) rfl (fun ls' hl' => ?_)
  refine lv_iconst hx hb dL_take_23 rfl ?_
  exact W.iret (v := iI 2) hx hb hr (fun t ht hW => ⟨⟨iI 2, (_, o), rfl, ⟨rfl, rfl⟩, by rw [ht]; exact hPn, hDn⟩, hS1.F ht⟩) hS1.2.2 dL_take_24 hlocks
abbrev rmW_pack : Room := { frames := 8, cells := 1, slots := 6, locals := 127 }
set_option maxRecDepth 20000 in
theorem wL_pack_ok : CtWok 1 yL_pack wsL_pack rmW_pack X0_pack zI := by
  intro l hlt D cA cJ ad ao is S o Q sz hn hX
  rcases is with _ | ⟨a, _ | ⟨z, r⟩⟩
  · exact absurd hn (by simp)
  rotate_left
  · exact absurd hn (by simp)
  refine va_MetW (cc := cL_pack) (maxL := 4) (ret := some .int) (by decide) rfl ?_
  intro p e s m args below meth c s₁ B hml hv
  obtain ⟨rfl, hsz, hP, hK, hD0, hXE, hN⟩ := hv
  have hx := B.exec
  have hb := B.bytes
  have hr := B.returns
  have hts := atoms_spec (ws := wsL_pack) B.pre
  have hown : s.vm.findClass RL = some m.cls := findClass_of_methodNamed B.named
  have hlocks := B.notSynchronized
  subst hsz
  have hD := hD0.self (sz := s.heap.size)
  have hA : ∀ q : Nat, s.heap.size ≤ q → va_A (wrW cA cJ ad ao S o) s.heap.size q := fun q h => Or.inr h
  have hS0 : va_S (va_A (wrW cA cJ ad ao S o) s.heap.size) s.heap s.heap [] := va_S.rf
  have hF : ∀ q, va_A (wdO cA 0 ly0 ja0 ad S) s.heap.size q → va_A (wrW cA cJ ad ao S o) s.heap.size q := by
    rintro q (⟨k, e, hk⟩ | h)
    · exact Or.inl ⟨_, e, nth_r (a := [ouE cJ ao o]) hk⟩
    · exact Or.inr h
  have hl := lv_entry [Value.ref (ad 0), .int (iI a), .ref ao] (n := 4) (Nat.le_of_ble_eq_true rfl)
  show W _ _ _ _ _ _ _ _ _ _ _ _ _ _ _ (entryFrame m ([Value.ref (ad 0), .int (iI a), .ref ao] : List Value).toArray 4)
  rw [lg_entry_eq]
  generalize (lg_sl [Value.ref (ad 0), .int (iI a), .ref ao] ++ List.replicate (4 - (lg_sl [Value.ref (ad 0), .int (iI a), .ref ao]).length) Slot.unset).toArray = ls at hl ⊢
  have hK1 : va_K D vwCl [(cA, .int)] s := hK.sub [0] rfl
  have hP0 : va_P D vwCl (wdO cA 0 ly0 ja0 ad S) s.heap := wP_r (a := [ouE cJ ao o]) hP
  have hD1 := wD_r (a := [ouE cJ ao o]) hD
  refine lv_aload_n hx hb dL_pack_0 rfl (lv_at hl 2 rfl) ?_
  refine lv_iconst hx hb dL_pack_1 rfl ?_
  refine lv_aload_n hx hb dL_pack_2 rfl (lv_at hl 0 rfl) ?_
  refine lv_iload_n hx hb dL_pack_3 rfl (lv_at hl 1 rfl) ?_
  refine va_calli (va_runV (As := [.int (iI a)]) (rest := [.int (Int32.ofInt 0), .ref ao]) ⟨hx, hb, hml, hown, hts⟩ (ct0_pack l D cA ad (vR 0 :: [vI a]) S Q s.heap.size hX) (cwV 1 hts gL_pack_X0_pack rfl (rm := rm0_pack) rfl rfl (by decide +kernel) ⟨Nat.le_of_ble_eq_true rfl, Nat.le_of_ble_eq_true rfl⟩) ⟨pre0_blind, va_recv hK1 hP0 (q := (RX0, TX0, 16)) (ci := 0) (q0 := 0) rfl rfl, fun U hU hW => ⟨rfl, by rw [hU], by rw [hU]; exact hP0, va_K.moved hW.alike hK1, hD1.weaken (fun _ _ _ _ => trivial)⟩⟩ rfl rfl hl.1 rfl (Nat.le_of_ble_eq_true rfl) dL_pack_4 ⟨Nat.zero_le _, Nat.zero_le _⟩) hS0 (fun q _ z => hF q z) hF (fun r u t H1 locs1 ht hvm hw1 hB hz1 hk1 hS1 => ?_)
  obtain ⟨⟨v, rfl, hq⟩, hku⟩ := hw1
  obtain ⟨hP1, hK2, hD2⟩ := hB
  rw [ht] at hP1
  obtain ⟨hPn, hDn⟩ := w_rt (a := [ouE cJ ao o]) hP hD hA hP1 hD2 hk1
  refine lv_i2l hx hb dL_pack_7 rfl ?_
  refine va_last hx hb hK hPn hDn hS1 0 1 rfl rfl (iI_in (a := 0) (Int.le_refl _) (by decide) (by decide)) dL_pack_8 (fun H2 locs2 hP2 hD3 hS2 => ?_)
  refine lv_goto hx hb dL_pack_9 (tgt := 15) rfl ?_
  refine lv_iconst hx hb dL_pack_15 rfl ?_
  refine W.widen (k := 1) (n := 6) (Nat.le_of_ble_eq_true rfl) (Nat.le_of_ble_eq_true rfl) ?_
  exact W.iret (v := 0) hx hb hr (fun t ht hW => ⟨⟨0, (u, vp_updL o 0 (iI v).toInt64), rfl, ⟨rfl, v, hq, rfl, hku⟩, by rw [ht]; exact hP2, hD3⟩, hS2.F ht⟩) hS2.2.2 dL_pack_16 hlocks
set_option maxRecDepth 20000 in
theorem wL_pack_no1 : CtWno 1 yL_pack wsL_pack rmW_pack X0_pack "java/lang/IndexOutOfBoundsException" 1 := by
  intro l hlt D cA cJ ad ao is S o sz hn hX
  rcases is with _ | ⟨a, _ | ⟨z, r⟩⟩
  · exact absurd hn (by simp)
  rotate_left
  · exact absurd hn (by simp)
  refine va_MetW (cc := cL_pack) (maxL := 4) (ret := some .int) (by decide) rfl ?_
  intro p e s m args below meth c s₁ B hml hv
  obtain ⟨rfl, hsz, hP, hK, hD0, hXE, hN⟩ := hv
  have hx := B.exec
  have hb := B.bytes
  have hr := B.returns
  have hts := atoms_spec (ws := wsL_pack) B.pre
  have hown : s.vm.findClass RL = some m.cls := findClass_of_methodNamed B.named
  have hlocks := B.notSynchronized
  subst hsz
  have hD := hD0.self (sz := s.heap.size)
  have hA : ∀ q : Nat, s.heap.size ≤ q → va_A (wrW cA cJ ad ao S o) s.heap.size q := fun q h => Or.inr h
  have hS0 : va_S (va_A (wrW cA cJ ad ao S o) s.heap.size) s.heap s.heap [] := va_S.rf
  have hF : ∀ q, va_A (wdO cA 0 ly0 ja0 ad S) s.heap.size q → va_A (wrW cA cJ ad ao S o) s.heap.size q := by
    rintro q (⟨k, e, hk⟩ | h)
    · exact Or.inl ⟨_, e, nth_r (a := [ouE cJ ao o]) hk⟩
    · exact Or.inr h
  have hl := lv_entry [Value.ref (ad 0), .int (iI a), .ref ao] (n := 4) (Nat.le_of_ble_eq_true rfl)
  show W _ _ _ _ _ _ _ _ _ _ _ _ _ _ _ (entryFrame m ([Value.ref (ad 0), .int (iI a), .ref ao] : List Value).toArray 4)
  rw [lg_entry_eq]
  generalize (lg_sl [Value.ref (ad 0), .int (iI a), .ref ao] ++ List.replicate (4 - (lg_sl [Value.ref (ad 0), .int (iI a), .ref ao]).length) Slot.unset).toArray = ls at hl ⊢
  have hK1 : va_K D vwCl [(cA, .int)] s := hK.sub [0] rfl
  have hP0 : va_P D vwCl (wdO cA 0 ly0 ja0 ad S) s.heap := wP_r (a := [ouE cJ ao o]) hP
  have hD1 := wD_r (a := [ouE cJ ao o]) hD
  refine lv_aload_n hx hb dL_pack_0 rfl (lv_at hl 2 rfl) ?_
  refine lv_iconst hx hb dL_pack_1 rfl ?_
  refine lv_aload_n hx hb dL_pack_2 rfl (lv_at hl 0 rfl) ?_
  refine lv_iload_n hx hb dL_pack_3 rfl (lv_at hl 1 rfl) ?_
  refine vx_calli (vx_runV (As := [.int (iI a)]) (rest := [.int (Int32.ofInt 0), .ref ao]) ⟨hx, hb, hml, hown, hts⟩ (cx0_pack l hlt D cA ad (vR 0 :: [vI a]) S (eqx "java/lang/IndexOutOfBoundsException" S) s.heap.size hX) (cwV 1 hts gL_pack_X0_pack rfl (rm := rmx0_pack) rfl rfl (by decide +kernel) ⟨Nat.le_of_ble_eq_true rfl, Nat.le_of_ble_eq_true rfl⟩) ⟨prex_blind, va_recv hK1 hP0 (q := (RX0, TX0, 16)) (ci := 0) (q0 := 0) rfl rfl, fun U hU hW => ⟨rfl, ⟨by rw [hU], by rw [hU]; exact hP0, va_K.moved hW.alike hK1, hD1.weaken (fun _ _ _ _ => trivial)⟩, hXE.at hS0 hU hW hF⟩⟩ rfl rfl hl.1 rfl (Nat.le_of_ble_eq_true rfl) dL_pack_4 ⟨Nat.le_of_ble_eq_true rfl, Nat.le_of_ble_eq_true rfl⟩) hS0 (fun q _ z => hF q z) hF (fun q _ z => hF q z) (fun E9 ce q9 u t H1 locs1 ht hvm hpx hBX hz1 hk1 hS1 hce hcv hcl9 => ?_) (fun r u t H1 locs1 ht hvm hw1 hB hz1 hk1 hS1 => hw1.elim)
  obtain ⟨u1, u2⟩ := u
  obtain ⟨⟨e1, e2⟩, hku⟩ := hpx
  obtain ⟨e3, hP1, hK2, hD2⟩ := hBX
  dsimp only at e1 e2 e3 hP1 hD2
  subst e1
  subst e2
  subst e3
  rw [ht] at hP1
  obtain ⟨hPn, hDn⟩ := w_rt (a := [ouE cJ ao o]) hP hD hA hP1 hD2 hk1
  refine vx_catch (name := "java/lang/IndexOutOfBoundsException") hown [] ⟨0, 9, 12, 21⟩ [] (by rw [vx_table (x := yL_pack) (y := yL_pack) (bytes := cL_pack) (maxL' := 4) (ret' := some .int) (hh := [(0, 9, 12, 21)]) B (hts _ List.mem_cons_self)]; rfl) (fun z hz => by cases hz) rfl (Nat.succ_ne_zero _) (hts (.classLink RL 21 "java/lang/IndexOutOfBoundsException") (by decide +kernel)) (nw_at rfl (hXE.2.2.2 _ (List.mem_of_getElem? (i := 2) rfl))) hce hcv hcl9 ?_
  refine lv_astore_n hx hb dL_pack_12 rfl hl (by decide) rfl (fun ls' hl' => ?_)
  refine lv_iconst hx hb dL_pack_13 rfl ?_
  exact W.iret (v := iI 1) hx hb hr (fun t ht hW => ⟨⟨iI 1, (_, o), rfl, ⟨rfl, rfl⟩, by rw [ht]; exact hPn, hDn⟩, hS1.F ht⟩) hS1.2.2 dL_pack_14 hlocks
abbrev rmW_told : Room := { frames := 8, cells := 1, slots := 6, locals := 129 }
set_option maxRecDepth 20000 in
theorem wL_told_ok : CtWok 2 yL_told wsL_told rmW_told X0_told zI := by
  intro l hlt D cA cJ ad ao is S o Q sz hn hX
  rcases is with _ | ⟨a, _ | ⟨b, _ | ⟨z, r⟩⟩⟩
  · exact absurd hn (by simp)
  · exact absurd hn (by simp)
  rotate_left
  · exact absurd hn (by simp)
  refine va_MetW (cc := cL_told) (maxL := 5) (ret := some .int) (by decide) rfl ?_
  intro p e s m args below meth c s₁ B hml hv
  obtain ⟨rfl, hsz, hP, hK, hD0, hXE, hN⟩ := hv
  have hx := B.exec
  have hb := B.bytes
  have hr := B.returns
  have hts := atoms_spec (ws := wsL_told) B.pre
  have hown : s.vm.findClass RL = some m.cls := findClass_of_methodNamed B.named
  have hlocks := B.notSynchronized
  subst hsz
  have hD := hD0.self (sz := s.heap.size)
  have hA : ∀ q : Nat, s.heap.size ≤ q → va_A (wrW cA cJ ad ao S o) s.heap.size q := fun q h => Or.inr h
  have hS0 : va_S (va_A (wrW cA cJ ad ao S o) s.heap.size) s.heap s.heap [] := va_S.rf
  have hF : ∀ q, va_A (wdO cA 0 ly0 ja0 ad S) s.heap.size q → va_A (wrW cA cJ ad ao S o) s.heap.size q := by
    rintro q (⟨k, e, hk⟩ | h)
    · exact Or.inl ⟨_, e, nth_r (a := [ouE cJ ao o]) hk⟩
    · exact Or.inr h
  have hl := lv_entry [Value.ref (ad 0), .int (iI a), .int (iI b), .ref ao] (n := 5) (Nat.le_of_ble_eq_true rfl)
  show W _ _ _ _ _ _ _ _ _ _ _ _ _ _ _ (entryFrame m ([Value.ref (ad 0), .int (iI a), .int (iI b), .ref ao] : List Value).toArray 5)
  rw [lg_entry_eq]
  generalize (lg_sl [Value.ref (ad 0), .int (iI a), .int (iI b), .ref ao] ++ List.replicate (5 - (lg_sl [Value.ref (ad 0), .int (iI a), .int (iI b), .ref ao]).length) Slot.unset).toArray = ls at hl ⊢
  have hK1 : va_K D vwCl [(cA, .int)] s := hK.sub [0] rfl
  have hP0 : va_P D vwCl (wdO cA 0 ly0 ja0 ad S) s.heap := wP_r (a := [ouE cJ ao o]) hP
  have hD1 := wD_r (a := [ouE cJ ao o]) hD
  refine lv_aload_n hx hb dL_told_0 rfl (lv_at hl 3 rfl) ?_
  refine lv_iconst hx hb dL_told_1 rfl ?_
  refine lv_aload_n hx hb dL_told_2 rfl (lv_at hl 0 rfl) ?_
  refine lv_iload_n hx hb dL_told_3 rfl (lv_at hl 1 rfl) ?_
  refine lv_iload_n hx hb dL_told_4 rfl (lv_at hl 2 rfl) ?_
  refine va_calli (va_runV (As := [.int (iI a), .int (iI b)]) (rest := [.int (Int32.ofInt 0), .ref ao]) ⟨hx, hb, hml, hown, hts⟩ (ct0_told l D cA ad (vR 0 :: [vI a, vI b]) S Q s.heap.size hX) (cwV 2 hts gL_told_X0_told rfl (rm := rm0_told) rfl rfl (by decide +kernel) ⟨Nat.le_of_ble_eq_true rfl, Nat.le_of_ble_eq_true rfl⟩) ⟨pre0_blind, va_recv hK1 hP0 (q := (RX0, TX0, 16)) (ci := 0) (q0 := 0) rfl rfl, fun U hU hW => ⟨rfl, by rw [hU], by rw [hU]; exact hP0, va_K.moved hW.alike hK1, hD1.weaken (fun _ _ _ _ => trivial)⟩⟩ rfl rfl hl.1 rfl (Nat.le_of_ble_eq_true rfl) dL_told_5 ⟨Nat.zero_le _, Nat.zero_le _⟩) hS0 (fun q _ z => hF q z) hF (fun r u t H1 locs1 ht hvm hw1 hB hz1 hk1 hS1 => ?_)
  obtain ⟨⟨v, rfl, hq⟩, hku⟩ := hw1
  obtain ⟨hP1, hK2, hD2⟩ := hB
  rw [ht] at hP1
  obtain ⟨hPn, hDn⟩ := w_rt (a := [ouE cJ ao o]) hP hD hA hP1 hD2 hk1
  refine lv_i2l hx hb dL_told_8 rfl ?_
  refine va_last hx hb hK hPn hDn hS1 0 1 rfl rfl (iI_in (a := 0) (Int.le_refl _) (by decide) (by decide)) dL_told_9 (fun H2 locs2 hP2 hD3 hS2 => ?_)
  refine lv_goto hx hb dL_told_10 (tgt := 17) rfl ?_
  refine lv_iconst hx hb dL_told_17 rfl ?_
  refine W.widen (k := 1) (n := 6) (Nat.le_of_ble_eq_true rfl) (Nat.le_of_ble_eq_true rfl) ?_
  exact W.iret (v := 0) hx hb hr (fun t ht hW => ⟨⟨0, (u, vp_updL o 0 (iI v).toInt64), rfl, ⟨rfl, v, hq, rfl, hku⟩, by rw [ht]; exact hP2, hD3⟩, hS2.F ht⟩) hS2.2.2 dL_told_18 hlocks
set_option maxRecDepth 20000 in
theorem wL_told_no1 : CtWno 2 yL_told wsL_told rmW_told X0_told "java/lang/IndexOutOfBoundsException" 1 := by
  intro l hlt D cA cJ ad ao is S o sz hn hX
  rcases is with _ | ⟨a, _ | ⟨b, _ | ⟨z, r⟩⟩⟩
  · exact absurd hn (by simp)
  · exact absurd hn (by simp)
  rotate_left
  · exact absurd hn (by simp)
  refine va_MetW (cc := cL_told) (maxL := 5) (ret := some .int) (by decide) rfl ?_
  intro p e s m args below meth c s₁ B hml hv
  obtain ⟨rfl, hsz, hP, hK, hD0, hXE, hN⟩ := hv
  have hx := B.exec
  have hb := B.bytes
  have hr := B.returns
  have hts := atoms_spec (ws := wsL_told) B.pre
  have hown : s.vm.findClass RL = some m.cls := findClass_of_methodNamed B.named
  have hlocks := B.notSynchronized
  subst hsz
  have hD := hD0.self (sz := s.heap.size)
  have hA : ∀ q : Nat, s.heap.size ≤ q → va_A (wrW cA cJ ad ao S o) s.heap.size q := fun q h => Or.inr h
  have hS0 : va_S (va_A (wrW cA cJ ad ao S o) s.heap.size) s.heap s.heap [] := va_S.rf
  have hF : ∀ q, va_A (wdO cA 0 ly0 ja0 ad S) s.heap.size q → va_A (wrW cA cJ ad ao S o) s.heap.size q := by
    rintro q (⟨k, e, hk⟩ | h)
    · exact Or.inl ⟨_, e, nth_r (a := [ouE cJ ao o]) hk⟩
    · exact Or.inr h
  have hl := lv_entry [Value.ref (ad 0), .int (iI a), .int (iI b), .ref ao] (n := 5) (Nat.le_of_ble_eq_true rfl)
  show W _ _ _ _ _ _ _ _ _ _ _ _ _ _ _ (entryFrame m ([Value.ref (ad 0), .int (iI a), .int (iI b), .ref ao] : List Value).toArray 5)
  rw [lg_entry_eq]
  generalize (lg_sl [Value.ref (ad 0), .int (iI a), .int (iI b), .ref ao] ++ List.replicate (5 - (lg_sl [Value.ref (ad 0), .int (iI a), .int (iI b), .ref ao]).length) Slot.unset).toArray = ls at hl ⊢
  have hK1 : va_K D vwCl [(cA, .int)] s := hK.sub [0] rfl
  have hP0 : va_P D vwCl (wdO cA 0 ly0 ja0 ad S) s.heap := wP_r (a := [ouE cJ ao o]) hP
  have hD1 := wD_r (a := [ouE cJ ao o]) hD
  refine lv_aload_n hx hb dL_told_0 rfl (lv_at hl 3 rfl) ?_
  refine lv_iconst hx hb dL_told_1 rfl ?_
  refine lv_aload_n hx hb dL_told_2 rfl (lv_at hl 0 rfl) ?_
  refine lv_iload_n hx hb dL_told_3 rfl (lv_at hl 1 rfl) ?_
  refine lv_iload_n hx hb dL_told_4 rfl (lv_at hl 2 rfl) ?_
  refine vx_calli (vx_runV (As := [.int (iI a), .int (iI b)]) (rest := [.int (Int32.ofInt 0), .ref ao]) ⟨hx, hb, hml, hown, hts⟩ (cx0_told l hlt D cA ad (vR 0 :: [vI a, vI b]) S (eqx "java/lang/IndexOutOfBoundsException" S) s.heap.size hX) (cwV 2 hts gL_told_X0_told rfl (rm := rmx0_told) rfl rfl (by decide +kernel) ⟨Nat.le_of_ble_eq_true rfl, Nat.le_of_ble_eq_true rfl⟩) ⟨prex_blind, va_recv hK1 hP0 (q := (RX0, TX0, 16)) (ci := 0) (q0 := 0) rfl rfl, fun U hU hW => ⟨rfl, ⟨by rw [hU], by rw [hU]; exact hP0, va_K.moved hW.alike hK1, hD1.weaken (fun _ _ _ _ => trivial)⟩, hXE.at hS0 hU hW hF⟩⟩ rfl rfl hl.1 rfl (Nat.le_of_ble_eq_true rfl) dL_told_5 ⟨Nat.le_of_ble_eq_true rfl, Nat.le_of_ble_eq_true rfl⟩) hS0 (fun q _ z => hF q z) hF (fun q _ z => hF q z) (fun E9 ce q9 u t H1 locs1 ht hvm hpx hBX hz1 hk1 hS1 hce hcv hcl9 => ?_) (fun r u t H1 locs1 ht hvm hw1 hB hz1 hk1 hS1 => hw1.elim)
  obtain ⟨u1, u2⟩ := u
  obtain ⟨⟨e1, e2⟩, hku⟩ := hpx
  obtain ⟨e3, hP1, hK2, hD2⟩ := hBX
  dsimp only at e1 e2 e3 hP1 hD2
  subst e1
  subst e2
  subst e3
  rw [ht] at hP1
  obtain ⟨hPn, hDn⟩ := w_rt (a := [ouE cJ ao o]) hP hD hA hP1 hD2 hk1
  refine vx_catch (name := "java/lang/IndexOutOfBoundsException") hown [] ⟨0, 10, 13, 21⟩ [] (by rw [vx_table (x := yL_told) (y := yL_told) (bytes := cL_told) (maxL' := 5) (ret' := some .int) (hh := [(0, 10, 13, 21)]) B (hts _ List.mem_cons_self)]; rfl) (fun z hz => by cases hz) rfl (Nat.succ_ne_zero _) (hts (.classLink RL 21 "java/lang/IndexOutOfBoundsException") (by decide +kernel)) (nw_at rfl (hXE.2.2.2 _ (List.mem_of_getElem? (i := 2) rfl))) hce hcv hcl9 ?_
  refine lv_astore hx hb dL_told_13 hl (by decide) rfl (fun ls' hl' => ?_)
  refine lv_iconst hx hb dL_told_15 rfl ?_
  exact W.iret (v := iI 1) hx hb hr (fun t ht hW => ⟨⟨iI 1, (_, o), rfl, ⟨rfl, rfl⟩, by rw [ht]; exact hPn, hDn⟩, hS1.F ht⟩) hS1.2.2 dL_told_16 hlocks
abbrev rmW_tray : Room := { frames := 8, cells := 1, slots := 6, locals := 127 }
set_option maxRecDepth 20000 in
theorem wL_tray_ok : CtWok 2 yL_tray wsL_tray rmW_tray X0_tray zI := by
  intro l hlt D cA cJ ad ao is S o Q sz hn hX
  rcases is with _ | ⟨a, _ | ⟨b, _ | ⟨z, r⟩⟩⟩
  · exact absurd hn (by simp)
  · exact absurd hn (by simp)
  rotate_left
  · exact absurd hn (by simp)
  refine va_MetW (cc := cL_tray) (maxL := 5) (ret := some .int) (by decide) rfl ?_
  intro p e s m args below meth c s₁ B hml hv
  obtain ⟨rfl, hsz, hP, hK, hD0, hXE, hN⟩ := hv
  have hx := B.exec
  have hb := B.bytes
  have hr := B.returns
  have hts := atoms_spec (ws := wsL_tray) B.pre
  have hown : s.vm.findClass RL = some m.cls := findClass_of_methodNamed B.named
  have hlocks := B.notSynchronized
  subst hsz
  have hD := hD0.self (sz := s.heap.size)
  have hA : ∀ q : Nat, s.heap.size ≤ q → va_A (wrW cA cJ ad ao S o) s.heap.size q := fun q h => Or.inr h
  have hS0 : va_S (va_A (wrW cA cJ ad ao S o) s.heap.size) s.heap s.heap [] := va_S.rf
  have hF : ∀ q, va_A (wdO cA 0 ly0 ja0 ad S) s.heap.size q → va_A (wrW cA cJ ad ao S o) s.heap.size q := by
    rintro q (⟨k, e, hk⟩ | h)
    · exact Or.inl ⟨_, e, nth_r (a := [ouE cJ ao o]) hk⟩
    · exact Or.inr h
  have hl := lv_entry [Value.ref (ad 0), .int (iI a), .int (iI b), .ref ao] (n := 5) (Nat.le_of_ble_eq_true rfl)
  show W _ _ _ _ _ _ _ _ _ _ _ _ _ _ _ (entryFrame m ([Value.ref (ad 0), .int (iI a), .int (iI b), .ref ao] : List Value).toArray 5)
  rw [lg_entry_eq]
  generalize (lg_sl [Value.ref (ad 0), .int (iI a), .int (iI b), .ref ao] ++ List.replicate (5 - (lg_sl [Value.ref (ad 0), .int (iI a), .int (iI b), .ref ao]).length) Slot.unset).toArray = ls at hl ⊢
  have hK1 : va_K D vwCl [(cA, .int)] s := hK.sub [0] rfl
  have hP0 : va_P D vwCl (wdO cA 0 ly0 ja0 ad S) s.heap := wP_r (a := [ouE cJ ao o]) hP
  have hD1 := wD_r (a := [ouE cJ ao o]) hD
  refine lv_aload_n hx hb dL_tray_0 rfl (lv_at hl 3 rfl) ?_
  refine lv_iconst hx hb dL_tray_1 rfl ?_
  refine lv_aload_n hx hb dL_tray_2 rfl (lv_at hl 0 rfl) ?_
  refine lv_iload_n hx hb dL_tray_3 rfl (lv_at hl 1 rfl) ?_
  refine lv_iload_n hx hb dL_tray_4 rfl (lv_at hl 2 rfl) ?_
  refine va_calli (va_runV (As := [.int (iI a), .int (iI b)]) (rest := [.int (Int32.ofInt 0), .ref ao]) ⟨hx, hb, hml, hown, hts⟩ (ct0_tray l D cA ad (vR 0 :: [vI a, vI b]) S Q s.heap.size hX) (cwV 2 hts gL_tray_X0_tray rfl (rm := rm0_tray) rfl rfl (by decide +kernel) ⟨Nat.le_of_ble_eq_true rfl, Nat.le_of_ble_eq_true rfl⟩) ⟨pre0_blind, va_recv hK1 hP0 (q := (RX0, TX0, 16)) (ci := 0) (q0 := 0) rfl rfl, fun U hU hW => ⟨rfl, by rw [hU], by rw [hU]; exact hP0, va_K.moved hW.alike hK1, hD1.weaken (fun _ _ _ _ => trivial)⟩⟩ rfl rfl hl.1 rfl (Nat.le_of_ble_eq_true rfl) dL_tray_5 ⟨Nat.zero_le _, Nat.zero_le _⟩) hS0 (fun q _ z => hF q z) hF (fun r u t H1 locs1 ht hvm hw1 hB hz1 hk1 hS1 => ?_)
  obtain ⟨⟨v, rfl, hq⟩, hku⟩ := hw1
  obtain ⟨hP1, hK2, hD2⟩ := hB
  rw [ht] at hP1
  obtain ⟨hPn, hDn⟩ := w_rt (a := [ouE cJ ao o]) hP hD hA hP1 hD2 hk1
  refine lv_i2l hx hb dL_tray_8 rfl ?_
  refine va_last hx hb hK hPn hDn hS1 0 1 rfl rfl (iI_in (a := 0) (Int.le_refl _) (by decide) (by decide)) dL_tray_9 (fun H2 locs2 hP2 hD3 hS2 => ?_)
  refine lv_goto hx hb dL_tray_10 (tgt := 17) rfl ?_
  refine lv_iconst hx hb dL_tray_17 rfl ?_
  refine W.widen (k := 1) (n := 6) (Nat.le_of_ble_eq_true rfl) (Nat.le_of_ble_eq_true rfl) ?_
  exact W.iret (v := 0) hx hb hr (fun t ht hW => ⟨⟨0, (u, vp_updL o 0 (iI v).toInt64), rfl, ⟨rfl, v, hq, rfl, hku⟩, by rw [ht]; exact hP2, hD3⟩, hS2.F ht⟩) hS2.2.2 dL_tray_18 hlocks
set_option maxRecDepth 20000 in
theorem wL_tray_no1 : CtWno 2 yL_tray wsL_tray rmW_tray X0_tray "java/lang/IndexOutOfBoundsException" 1 := by
  intro l hlt D cA cJ ad ao is S o sz hn hX
  rcases is with _ | ⟨a, _ | ⟨b, _ | ⟨z, r⟩⟩⟩
  · exact absurd hn (by simp)
  · exact absurd hn (by simp)
  rotate_left
  · exact absurd hn (by simp)
  refine va_MetW (cc := cL_tray) (maxL := 5) (ret := some .int) (by decide) rfl ?_
  intro p e s m args below meth c s₁ B hml hv
  obtain ⟨rfl, hsz, hP, hK, hD0, hXE, hN⟩ := hv
  have hx := B.exec
  have hb := B.bytes
  have hr := B.returns
  have hts := atoms_spec (ws := wsL_tray) B.pre
  have hown : s.vm.findClass RL = some m.cls := findClass_of_methodNamed B.named
  have hlocks := B.notSynchronized
  subst hsz
  have hD := hD0.self (sz := s.heap.size)
  have hA : ∀ q : Nat, s.heap.size ≤ q → va_A (wrW cA cJ ad ao S o) s.heap.size q := fun q h => Or.inr h
  have hS0 : va_S (va_A (wrW cA cJ ad ao S o) s.heap.size) s.heap s.heap [] := va_S.rf
  have hF : ∀ q, va_A (wdO cA 0 ly0 ja0 ad S) s.heap.size q → va_A (wrW cA cJ ad ao S o) s.heap.size q := by
    rintro q (⟨k, e, hk⟩ | h)
    · exact Or.inl ⟨_, e, nth_r (a := [ouE cJ ao o]) hk⟩
    · exact Or.inr h
  have hl := lv_entry [Value.ref (ad 0), .int (iI a), .int (iI b), .ref ao] (n := 5) (Nat.le_of_ble_eq_true rfl)
  show W _ _ _ _ _ _ _ _ _ _ _ _ _ _ _ (entryFrame m ([Value.ref (ad 0), .int (iI a), .int (iI b), .ref ao] : List Value).toArray 5)
  rw [lg_entry_eq]
  generalize (lg_sl [Value.ref (ad 0), .int (iI a), .int (iI b), .ref ao] ++ List.replicate (5 - (lg_sl [Value.ref (ad 0), .int (iI a), .int (iI b), .ref ao]).length) Slot.unset).toArray = ls at hl ⊢
  have hK1 : va_K D vwCl [(cA, .int)] s := hK.sub [0] rfl
  have hP0 : va_P D vwCl (wdO cA 0 ly0 ja0 ad S) s.heap := wP_r (a := [ouE cJ ao o]) hP
  have hD1 := wD_r (a := [ouE cJ ao o]) hD
  refine lv_aload_n hx hb dL_tray_0 rfl (lv_at hl 3 rfl) ?_
  refine lv_iconst hx hb dL_tray_1 rfl ?_
  refine lv_aload_n hx hb dL_tray_2 rfl (lv_at hl 0 rfl) ?_
  refine lv_iload_n hx hb dL_tray_3 rfl (lv_at hl 1 rfl) ?_
  refine lv_iload_n hx hb dL_tray_4 rfl (lv_at hl 2 rfl) ?_
  refine vx_calli (vx_runV (As := [.int (iI a), .int (iI b)]) (rest := [.int (Int32.ofInt 0), .ref ao]) ⟨hx, hb, hml, hown, hts⟩ (cx0_tray l hlt D cA ad (vR 0 :: [vI a, vI b]) S (eqx "java/lang/IndexOutOfBoundsException" S) s.heap.size hX) (cwV 2 hts gL_tray_X0_tray rfl (rm := rmx0_tray) rfl rfl (by decide +kernel) ⟨Nat.le_of_ble_eq_true rfl, Nat.le_of_ble_eq_true rfl⟩) ⟨prex_blind, va_recv hK1 hP0 (q := (RX0, TX0, 16)) (ci := 0) (q0 := 0) rfl rfl, fun U hU hW => ⟨rfl, ⟨by rw [hU], by rw [hU]; exact hP0, va_K.moved hW.alike hK1, hD1.weaken (fun _ _ _ _ => trivial)⟩, hXE.at hS0 hU hW hF⟩⟩ rfl rfl hl.1 rfl (Nat.le_of_ble_eq_true rfl) dL_tray_5 ⟨Nat.le_of_ble_eq_true rfl, Nat.le_of_ble_eq_true rfl⟩) hS0 (fun q _ z => hF q z) hF (fun q _ z => hF q z) (fun E9 ce q9 u t H1 locs1 ht hvm hpx hBX hz1 hk1 hS1 hce hcv hcl9 => ?_) (fun r u t H1 locs1 ht hvm hw1 hB hz1 hk1 hS1 => hw1.elim)
  obtain ⟨u1, u2⟩ := u
  obtain ⟨⟨e1, e2⟩, hku⟩ := hpx
  obtain ⟨e3, hP1, hK2, hD2⟩ := hBX
  dsimp only at e1 e2 e3 hP1 hD2
  subst e1
  subst e2
  subst e3
  rw [ht] at hP1
  obtain ⟨hPn, hDn⟩ := w_rt (a := [ouE cJ ao o]) hP hD hA hP1 hD2 hk1
  refine vx_catch (name := "java/lang/IndexOutOfBoundsException") hown [] ⟨0, 10, 13, 21⟩ [] (by rw [vx_table (x := yL_tray) (y := yL_tray) (bytes := cL_tray) (maxL' := 5) (ret' := some .int) (hh := [(0, 10, 13, 21)]) B (hts _ List.mem_cons_self)]; rfl) (fun z hz => by cases hz) rfl (Nat.succ_ne_zero _) (hts (.classLink RL 21 "java/lang/IndexOutOfBoundsException") (by decide +kernel)) (nw_at rfl (hXE.2.2.2 _ (List.mem_of_getElem? (i := 2) rfl))) hce hcv hcl9 ?_
  refine lv_astore hx hb dL_tray_13 hl (by decide) rfl (fun ls' hl' => ?_)
  refine lv_iconst hx hb dL_tray_15 rfl ?_
  exact W.iret (v := iI 1) hx hb hr (fun t ht hW => ⟨⟨iI 1, (_, o), rfl, ⟨rfl, rfl⟩, by rw [ht]; exact hPn, hDn⟩, hS1.F ht⟩) hS1.2.2 dL_tray_16 hlocks
abbrev rmW_cell : Room := { frames := 8, cells := 1, slots := 6, locals := 125 }
set_option maxRecDepth 20000 in
theorem wL_cell_ok : CtWok 2 yL_cell wsL_cell rmW_cell X0_cell zI := by
  intro l hlt D cA cJ ad ao is S o Q sz hn hX
  rcases is with _ | ⟨a, _ | ⟨b, _ | ⟨z, r⟩⟩⟩
  · exact absurd hn (by simp)
  · exact absurd hn (by simp)
  rotate_left
  · exact absurd hn (by simp)
  refine va_MetW (cc := cL_cell) (maxL := 5) (ret := some .int) (by decide) rfl ?_
  intro p e s m args below meth c s₁ B hml hv
  obtain ⟨rfl, hsz, hP, hK, hD0, hXE, hN⟩ := hv
  have hx := B.exec
  have hb := B.bytes
  have hr := B.returns
  have hts := atoms_spec (ws := wsL_cell) B.pre
  have hown : s.vm.findClass RL = some m.cls := findClass_of_methodNamed B.named
  have hlocks := B.notSynchronized
  subst hsz
  have hD := hD0.self (sz := s.heap.size)
  have hA : ∀ q : Nat, s.heap.size ≤ q → va_A (wrW cA cJ ad ao S o) s.heap.size q := fun q h => Or.inr h
  have hS0 : va_S (va_A (wrW cA cJ ad ao S o) s.heap.size) s.heap s.heap [] := va_S.rf
  have hF : ∀ q, va_A (wdO cA 0 ly0 ja0 ad S) s.heap.size q → va_A (wrW cA cJ ad ao S o) s.heap.size q := by
    rintro q (⟨k, e, hk⟩ | h)
    · exact Or.inl ⟨_, e, nth_r (a := [ouE cJ ao o]) hk⟩
    · exact Or.inr h
  have hl := lv_entry [Value.ref (ad 0), .int (iI a), .int (iI b), .ref ao] (n := 5) (Nat.le_of_ble_eq_true rfl)
  show W _ _ _ _ _ _ _ _ _ _ _ _ _ _ _ (entryFrame m ([Value.ref (ad 0), .int (iI a), .int (iI b), .ref ao] : List Value).toArray 5)
  rw [lg_entry_eq]
  generalize (lg_sl [Value.ref (ad 0), .int (iI a), .int (iI b), .ref ao] ++ List.replicate (5 - (lg_sl [Value.ref (ad 0), .int (iI a), .int (iI b), .ref ao]).length) Slot.unset).toArray = ls at hl ⊢
  have hK1 : va_K D vwCl [(cA, .int)] s := hK.sub [0] rfl
  have hP0 : va_P D vwCl (wdO cA 0 ly0 ja0 ad S) s.heap := wP_r (a := [ouE cJ ao o]) hP
  have hD1 := wD_r (a := [ouE cJ ao o]) hD
  refine lv_aload_n hx hb dL_cell_0 rfl (lv_at hl 3 rfl) ?_
  refine lv_iconst hx hb dL_cell_1 rfl ?_
  refine lv_aload_n hx hb dL_cell_2 rfl (lv_at hl 0 rfl) ?_
  refine lv_iload_n hx hb dL_cell_3 rfl (lv_at hl 1 rfl) ?_
  refine lv_iload_n hx hb dL_cell_4 rfl (lv_at hl 2 rfl) ?_
  refine va_calli (va_runV (As := [.int (iI a), .int (iI b)]) (rest := [.int (Int32.ofInt 0), .ref ao]) ⟨hx, hb, hml, hown, hts⟩ (ct0_cell l D cA ad (vR 0 :: [vI a, vI b]) S Q s.heap.size hX) (cwV 2 hts gL_cell_X0_cell rfl (rm := rm0_cell) rfl rfl (by decide +kernel) ⟨Nat.le_of_ble_eq_true rfl, Nat.le_of_ble_eq_true rfl⟩) ⟨pre0_blind, va_recv hK1 hP0 (q := (RX0, TX0, 16)) (ci := 0) (q0 := 0) rfl rfl, fun U hU hW => ⟨rfl, by rw [hU], by rw [hU]; exact hP0, va_K.moved hW.alike hK1, hD1.weaken (fun _ _ _ _ => trivial)⟩⟩ rfl rfl hl.1 rfl (Nat.le_of_ble_eq_true rfl) dL_cell_5 ⟨Nat.zero_le _, Nat.zero_le _⟩) hS0 (fun q _ z => hF q z) hF (fun r u t H1 locs1 ht hvm hw1 hB hz1 hk1 hS1 => ?_)
  obtain ⟨⟨v, rfl, hq⟩, hku⟩ := hw1
  obtain ⟨hP1, hK2, hD2⟩ := hB
  rw [ht] at hP1
  obtain ⟨hPn, hDn⟩ := w_rt (a := [ouE cJ ao o]) hP hD hA hP1 hD2 hk1
  refine lv_i2l hx hb dL_cell_8 rfl ?_
  refine va_last hx hb hK hPn hDn hS1 0 1 rfl rfl (iI_in (a := 0) (Int.le_refl _) (by decide) (by decide)) dL_cell_9 (fun H2 locs2 hP2 hD3 hS2 => ?_)
  refine lv_goto hx hb dL_cell_10 (tgt := 17) rfl ?_
  refine lv_iconst hx hb dL_cell_17 rfl ?_
  refine W.widen (k := 1) (n := 6) (Nat.le_of_ble_eq_true rfl) (Nat.le_of_ble_eq_true rfl) ?_
  exact W.iret (v := 0) hx hb hr (fun t ht hW => ⟨⟨0, (u, vp_updL o 0 (iI v).toInt64), rfl, ⟨rfl, v, hq, rfl, hku⟩, by rw [ht]; exact hP2, hD3⟩, hS2.F ht⟩) hS2.2.2 dL_cell_18 hlocks
set_option maxRecDepth 20000 in
theorem wL_cell_no1 : CtWno 2 yL_cell wsL_cell rmW_cell X0_cell "java/lang/IndexOutOfBoundsException" 1 := by
  intro l hlt D cA cJ ad ao is S o sz hn hX
  rcases is with _ | ⟨a, _ | ⟨b, _ | ⟨z, r⟩⟩⟩
  · exact absurd hn (by simp)
  · exact absurd hn (by simp)
  rotate_left
  · exact absurd hn (by simp)
  refine va_MetW (cc := cL_cell) (maxL := 5) (ret := some .int) (by decide) rfl ?_
  intro p e s m args below meth c s₁ B hml hv
  obtain ⟨rfl, hsz, hP, hK, hD0, hXE, hN⟩ := hv
  have hx := B.exec
  have hb := B.bytes
  have hr := B.returns
  have hts := atoms_spec (ws := wsL_cell) B.pre
  have hown : s.vm.findClass RL = some m.cls := findClass_of_methodNamed B.named
  have hlocks := B.notSynchronized
  subst hsz
  have hD := hD0.self (sz := s.heap.size)
  have hA : ∀ q : Nat, s.heap.size ≤ q → va_A (wrW cA cJ ad ao S o) s.heap.size q := fun q h => Or.inr h
  have hS0 : va_S (va_A (wrW cA cJ ad ao S o) s.heap.size) s.heap s.heap [] := va_S.rf
  have hF : ∀ q, va_A (wdO cA 0 ly0 ja0 ad S) s.heap.size q → va_A (wrW cA cJ ad ao S o) s.heap.size q := by
    rintro q (⟨k, e, hk⟩ | h)
    · exact Or.inl ⟨_, e, nth_r (a := [ouE cJ ao o]) hk⟩
    · exact Or.inr h
  have hl := lv_entry [Value.ref (ad 0), .int (iI a), .int (iI b), .ref ao] (n := 5) (Nat.le_of_ble_eq_true rfl)
  show W _ _ _ _ _ _ _ _ _ _ _ _ _ _ _ (entryFrame m ([Value.ref (ad 0), .int (iI a), .int (iI b), .ref ao] : List Value).toArray 5)
  rw [lg_entry_eq]
  generalize (lg_sl [Value.ref (ad 0), .int (iI a), .int (iI b), .ref ao] ++ List.replicate (5 - (lg_sl [Value.ref (ad 0), .int (iI a), .int (iI b), .ref ao]).length) Slot.unset).toArray = ls at hl ⊢
  have hK1 : va_K D vwCl [(cA, .int)] s := hK.sub [0] rfl
  have hP0 : va_P D vwCl (wdO cA 0 ly0 ja0 ad S) s.heap := wP_r (a := [ouE cJ ao o]) hP
  have hD1 := wD_r (a := [ouE cJ ao o]) hD
  refine lv_aload_n hx hb dL_cell_0 rfl (lv_at hl 3 rfl) ?_
  refine lv_iconst hx hb dL_cell_1 rfl ?_
  refine lv_aload_n hx hb dL_cell_2 rfl (lv_at hl 0 rfl) ?_
  refine lv_iload_n hx hb dL_cell_3 rfl (lv_at hl 1 rfl) ?_
  refine lv_iload_n hx hb dL_cell_4 rfl (lv_at hl 2 rfl) ?_
  refine vx_calli (vx_runV (As := [.int (iI a), .int (iI b)]) (rest := [.int (Int32.ofInt 0), .ref ao]) ⟨hx, hb, hml, hown, hts⟩ (cx0_cell l hlt D cA ad (vR 0 :: [vI a, vI b]) S (eqx "java/lang/IndexOutOfBoundsException" S) s.heap.size hX) (cwV 2 hts gL_cell_X0_cell rfl (rm := rmx0_cell) rfl rfl (by decide +kernel) ⟨Nat.le_of_ble_eq_true rfl, Nat.le_of_ble_eq_true rfl⟩) ⟨prex_blind, va_recv hK1 hP0 (q := (RX0, TX0, 16)) (ci := 0) (q0 := 0) rfl rfl, fun U hU hW => ⟨rfl, ⟨by rw [hU], by rw [hU]; exact hP0, va_K.moved hW.alike hK1, hD1.weaken (fun _ _ _ _ => trivial)⟩, hXE.at hS0 hU hW hF⟩⟩ rfl rfl hl.1 rfl (Nat.le_of_ble_eq_true rfl) dL_cell_5 ⟨Nat.le_of_ble_eq_true rfl, Nat.le_of_ble_eq_true rfl⟩) hS0 (fun q _ z => hF q z) hF (fun q _ z => hF q z) (fun E9 ce q9 u t H1 locs1 ht hvm hpx hBX hz1 hk1 hS1 hce hcv hcl9 => ?_) (fun r u t H1 locs1 ht hvm hw1 hB hz1 hk1 hS1 => hw1.elim)
  obtain ⟨u1, u2⟩ := u
  obtain ⟨⟨e1, e2⟩, hku⟩ := hpx
  obtain ⟨e3, hP1, hK2, hD2⟩ := hBX
  dsimp only at e1 e2 e3 hP1 hD2
  subst e1
  subst e2
  subst e3
  rw [ht] at hP1
  obtain ⟨hPn, hDn⟩ := w_rt (a := [ouE cJ ao o]) hP hD hA hP1 hD2 hk1
  refine vx_catch (name := "java/lang/IndexOutOfBoundsException") hown [] ⟨0, 10, 13, 21⟩ [] (by rw [vx_table (x := yL_cell) (y := yL_cell) (bytes := cL_cell) (maxL' := 5) (ret' := some .int) (hh := [(0, 10, 13, 21)]) B (hts _ List.mem_cons_self)]; rfl) (fun z hz => by cases hz) rfl (Nat.succ_ne_zero _) (hts (.classLink RL 21 "java/lang/IndexOutOfBoundsException") (by decide +kernel)) (nw_at rfl (hXE.2.2.2 _ (List.mem_of_getElem? (i := 2) rfl))) hce hcv hcl9 ?_
  refine lv_astore hx hb dL_cell_13 hl (by decide) rfl (fun ls' hl' => ?_)
  refine lv_iconst hx hb dL_cell_15 rfl ?_
  exact W.iret (v := iI 1) hx hb hr (fun t ht hW => ⟨⟨iI 1, (_, o), rfl, ⟨rfl, rfl⟩, by rw [ht]; exact hPn, hDn⟩, hS1.F ht⟩) hS1.2.2 dL_cell_16 hlocks
abbrev rmW_about : Room := { frames := 8, cells := 1, slots := 6, locals := 126 }
set_option maxRecDepth 20000 in
theorem wL_about_ok : CtWok 2 yL_about wsL_about rmW_about X0_about zI := by
  intro l hlt D cA cJ ad ao is S o Q sz hn hX
  rcases is with _ | ⟨a, _ | ⟨b, _ | ⟨z, r⟩⟩⟩
  · exact absurd hn (by simp)
  · exact absurd hn (by simp)
  rotate_left
  · exact absurd hn (by simp)
  refine va_MetW (cc := cL_about) (maxL := 5) (ret := some .int) (by decide) rfl ?_
  intro p e s m args below meth c s₁ B hml hv
  obtain ⟨rfl, hsz, hP, hK, hD0, hXE, hN⟩ := hv
  have hx := B.exec
  have hb := B.bytes
  have hr := B.returns
  have hts := atoms_spec (ws := wsL_about) B.pre
  have hown : s.vm.findClass RL = some m.cls := findClass_of_methodNamed B.named
  have hlocks := B.notSynchronized
  subst hsz
  have hD := hD0.self (sz := s.heap.size)
  have hA : ∀ q : Nat, s.heap.size ≤ q → va_A (wrW cA cJ ad ao S o) s.heap.size q := fun q h => Or.inr h
  have hS0 : va_S (va_A (wrW cA cJ ad ao S o) s.heap.size) s.heap s.heap [] := va_S.rf
  have hF : ∀ q, va_A (wdO cA 0 ly0 ja0 ad S) s.heap.size q → va_A (wrW cA cJ ad ao S o) s.heap.size q := by
    rintro q (⟨k, e, hk⟩ | h)
    · exact Or.inl ⟨_, e, nth_r (a := [ouE cJ ao o]) hk⟩
    · exact Or.inr h
  have hl := lv_entry [Value.ref (ad 0), .int (iI a), .int (iI b), .ref ao] (n := 5) (Nat.le_of_ble_eq_true rfl)
  show W _ _ _ _ _ _ _ _ _ _ _ _ _ _ _ (entryFrame m ([Value.ref (ad 0), .int (iI a), .int (iI b), .ref ao] : List Value).toArray 5)
  rw [lg_entry_eq]
  generalize (lg_sl [Value.ref (ad 0), .int (iI a), .int (iI b), .ref ao] ++ List.replicate (5 - (lg_sl [Value.ref (ad 0), .int (iI a), .int (iI b), .ref ao]).length) Slot.unset).toArray = ls at hl ⊢
  have hK1 : va_K D vwCl [(cA, .int)] s := hK.sub [0] rfl
  have hP0 : va_P D vwCl (wdO cA 0 ly0 ja0 ad S) s.heap := wP_r (a := [ouE cJ ao o]) hP
  have hD1 := wD_r (a := [ouE cJ ao o]) hD
  refine lv_aload_n hx hb dL_about_0 rfl (lv_at hl 3 rfl) ?_
  refine lv_iconst hx hb dL_about_1 rfl ?_
  refine lv_aload_n hx hb dL_about_2 rfl (lv_at hl 0 rfl) ?_
  refine lv_iload_n hx hb dL_about_3 rfl (lv_at hl 1 rfl) ?_
  refine lv_iload_n hx hb dL_about_4 rfl (lv_at hl 2 rfl) ?_
  refine va_calli (va_runV (As := [.int (iI a), .int (iI b)]) (rest := [.int (Int32.ofInt 0), .ref ao]) ⟨hx, hb, hml, hown, hts⟩ (ct0_about l D cA ad (vR 0 :: [vI a, vI b]) S Q s.heap.size hX) (cwV 2 hts gL_about_X0_about rfl (rm := rm0_about) rfl rfl (by decide +kernel) ⟨Nat.le_of_ble_eq_true rfl, Nat.le_of_ble_eq_true rfl⟩) ⟨pre0_blind, va_recv hK1 hP0 (q := (RX0, TX0, 16)) (ci := 0) (q0 := 0) rfl rfl, fun U hU hW => ⟨rfl, by rw [hU], by rw [hU]; exact hP0, va_K.moved hW.alike hK1, hD1.weaken (fun _ _ _ _ => trivial)⟩⟩ rfl rfl hl.1 rfl (Nat.le_of_ble_eq_true rfl) dL_about_5 ⟨Nat.zero_le _, Nat.zero_le _⟩) hS0 (fun q _ z => hF q z) hF (fun r u t H1 locs1 ht hvm hw1 hB hz1 hk1 hS1 => ?_)
  obtain ⟨⟨v, rfl, hq⟩, hku⟩ := hw1
  obtain ⟨hP1, hK2, hD2⟩ := hB
  rw [ht] at hP1
  obtain ⟨hPn, hDn⟩ := w_rt (a := [ouE cJ ao o]) hP hD hA hP1 hD2 hk1
  refine lv_i2l hx hb dL_about_8 rfl ?_
  refine va_last hx hb hK hPn hDn hS1 0 1 rfl rfl (iI_in (a := 0) (Int.le_refl _) (by decide) (by decide)) dL_about_9 (fun H2 locs2 hP2 hD3 hS2 => ?_)
  refine lv_goto hx hb dL_about_10 (tgt := 17) rfl ?_
  refine lv_iconst hx hb dL_about_17 rfl ?_
  refine W.widen (k := 1) (n := 6) (Nat.le_of_ble_eq_true rfl) (Nat.le_of_ble_eq_true rfl) ?_
  exact W.iret (v := 0) hx hb hr (fun t ht hW => ⟨⟨0, (u, vp_updL o 0 (iI v).toInt64), rfl, ⟨rfl, v, hq, rfl, hku⟩, by rw [ht]; exact hP2, hD3⟩, hS2.F ht⟩) hS2.2.2 dL_about_18 hlocks
set_option maxRecDepth 20000 in
theorem wL_about_no1 : CtWno 2 yL_about wsL_about rmW_about X0_about "java/lang/IndexOutOfBoundsException" 1 := by
  intro l hlt D cA cJ ad ao is S o sz hn hX
  rcases is with _ | ⟨a, _ | ⟨b, _ | ⟨z, r⟩⟩⟩
  · exact absurd hn (by simp)
  · exact absurd hn (by simp)
  rotate_left
  · exact absurd hn (by simp)
  refine va_MetW (cc := cL_about) (maxL := 5) (ret := some .int) (by decide) rfl ?_
  intro p e s m args below meth c s₁ B hml hv
  obtain ⟨rfl, hsz, hP, hK, hD0, hXE, hN⟩ := hv
  have hx := B.exec
  have hb := B.bytes
  have hr := B.returns
  have hts := atoms_spec (ws := wsL_about) B.pre
  have hown : s.vm.findClass RL = some m.cls := findClass_of_methodNamed B.named
  have hlocks := B.notSynchronized
  subst hsz
  have hD := hD0.self (sz := s.heap.size)
  have hA : ∀ q : Nat, s.heap.size ≤ q → va_A (wrW cA cJ ad ao S o) s.heap.size q := fun q h => Or.inr h
  have hS0 : va_S (va_A (wrW cA cJ ad ao S o) s.heap.size) s.heap s.heap [] := va_S.rf
  have hF : ∀ q, va_A (wdO cA 0 ly0 ja0 ad S) s.heap.size q → va_A (wrW cA cJ ad ao S o) s.heap.size q := by
    rintro q (⟨k, e, hk⟩ | h)
    · exact Or.inl ⟨_, e, nth_r (a := [ouE cJ ao o]) hk⟩
    · exact Or.inr h
  have hl := lv_entry [Value.ref (ad 0), .int (iI a), .int (iI b), .ref ao] (n := 5) (Nat.le_of_ble_eq_true rfl)
  show W _ _ _ _ _ _ _ _ _ _ _ _ _ _ _ (entryFrame m ([Value.ref (ad 0), .int (iI a), .int (iI b), .ref ao] : List Value).toArray 5)
  rw [lg_entry_eq]
  generalize (lg_sl [Value.ref (ad 0), .int (iI a), .int (iI b), .ref ao] ++ List.replicate (5 - (lg_sl [Value.ref (ad 0), .int (iI a), .int (iI b), .ref ao]).length) Slot.unset).toArray = ls at hl ⊢
  have hK1 : va_K D vwCl [(cA, .int)] s := hK.sub [0] rfl
  have hP0 : va_P D vwCl (wdO cA 0 ly0 ja0 ad S) s.heap := wP_r (a := [ouE cJ ao o]) hP
  have hD1 := wD_r (a := [ouE cJ ao o]) hD
  refine lv_aload_n hx hb dL_about_0 rfl (lv_at hl 3 rfl) ?_
  refine lv_iconst hx hb dL_about_1 rfl ?_
  refine lv_aload_n hx hb dL_about_2 rfl (lv_at hl 0 rfl) ?_
  refine lv_iload_n hx hb dL_about_3 rfl (lv_at hl 1 rfl) ?_
  refine lv_iload_n hx hb dL_about_4 rfl (lv_at hl 2 rfl) ?_
  refine vx_calli (vx_runV (As := [.int (iI a), .int (iI b)]) (rest := [.int (Int32.ofInt 0), .ref ao]) ⟨hx, hb, hml, hown, hts⟩ (cx0_about l hlt D cA ad (vR 0 :: [vI a, vI b]) S (eqx "java/lang/IndexOutOfBoundsException" S) s.heap.size hX) (cwV 2 hts gL_about_X0_about rfl (rm := rmx0_about) rfl rfl (by decide +kernel) ⟨Nat.le_of_ble_eq_true rfl, Nat.le_of_ble_eq_true rfl⟩) ⟨prex_blind, va_recv hK1 hP0 (q := (RX0, TX0, 16)) (ci := 0) (q0 := 0) rfl rfl, fun U hU hW => ⟨rfl, ⟨by rw [hU], by rw [hU]; exact hP0, va_K.moved hW.alike hK1, hD1.weaken (fun _ _ _ _ => trivial)⟩, hXE.at hS0 hU hW hF⟩⟩ rfl rfl hl.1 rfl (Nat.le_of_ble_eq_true rfl) dL_about_5 ⟨Nat.le_of_ble_eq_true rfl, Nat.le_of_ble_eq_true rfl⟩) hS0 (fun q _ z => hF q z) hF (fun q _ z => hF q z) (fun E9 ce q9 u t H1 locs1 ht hvm hpx hBX hz1 hk1 hS1 hce hcv hcl9 => ?_) (fun r u t H1 locs1 ht hvm hw1 hB hz1 hk1 hS1 => hw1.elim)
  obtain ⟨u1, u2⟩ := u
  obtain ⟨⟨e1, e2⟩, hku⟩ := hpx
  obtain ⟨e3, hP1, hK2, hD2⟩ := hBX
  dsimp only at e1 e2 e3 hP1 hD2
  subst e1
  subst e2
  subst e3
  rw [ht] at hP1
  obtain ⟨hPn, hDn⟩ := w_rt (a := [ouE cJ ao o]) hP hD hA hP1 hD2 hk1
  refine vx_catch (name := "java/lang/IndexOutOfBoundsException") hown [] ⟨0, 10, 13, 21⟩ [] (by rw [vx_table (x := yL_about) (y := yL_about) (bytes := cL_about) (maxL' := 5) (ret' := some .int) (hh := [(0, 10, 13, 21)]) B (hts _ List.mem_cons_self)]; rfl) (fun z hz => by cases hz) rfl (Nat.succ_ne_zero _) (hts (.classLink RL 21 "java/lang/IndexOutOfBoundsException") (by decide +kernel)) (nw_at rfl (hXE.2.2.2 _ (List.mem_of_getElem? (i := 2) rfl))) hce hcv hcl9 ?_
  refine lv_astore hx hb dL_about_13 hl (by decide) rfl (fun ls' hl' => ?_)
  refine lv_iconst hx hb dL_about_15 rfl ?_
  exact W.iret (v := iI 1) hx hb hr (fun t ht hW => ⟨⟨iI 1, (_, o), rfl, ⟨rfl, rfl⟩, by rw [ht]; exact hPn, hDn⟩, hS1.F ht⟩) hS1.2.2 dL_about_16 hlocks
abbrev rmW_count : Room := { frames := 8, cells := 1, slots := 6, locals := 125 }
set_option maxRecDepth 20000 in
theorem wL_count_ok : CtWok 1 yL_count wsL_count rmW_count X0_count zI := by
  intro l hlt D cA cJ ad ao is S o Q sz hn hX
  rcases is with _ | ⟨a, _ | ⟨z, r⟩⟩
  · exact absurd hn (by simp)
  rotate_left
  · exact absurd hn (by simp)
  refine va_MetW (cc := cL_count) (maxL := 4) (ret := some .int) (by decide) rfl ?_
  intro p e s m args below meth c s₁ B hml hv
  obtain ⟨rfl, hsz, hP, hK, hD0, hXE, hN⟩ := hv
  have hx := B.exec
  have hb := B.bytes
  have hr := B.returns
  have hts := atoms_spec (ws := wsL_count) B.pre
  have hown : s.vm.findClass RL = some m.cls := findClass_of_methodNamed B.named
  have hlocks := B.notSynchronized
  subst hsz
  have hD := hD0.self (sz := s.heap.size)
  have hA : ∀ q : Nat, s.heap.size ≤ q → va_A (wrW cA cJ ad ao S o) s.heap.size q := fun q h => Or.inr h
  have hS0 : va_S (va_A (wrW cA cJ ad ao S o) s.heap.size) s.heap s.heap [] := va_S.rf
  have hF : ∀ q, va_A (wdO cA 0 ly0 ja0 ad S) s.heap.size q → va_A (wrW cA cJ ad ao S o) s.heap.size q := by
    rintro q (⟨k, e, hk⟩ | h)
    · exact Or.inl ⟨_, e, nth_r (a := [ouE cJ ao o]) hk⟩
    · exact Or.inr h
  have hl := lv_entry [Value.ref (ad 0), .int (iI a), .ref ao] (n := 4) (Nat.le_of_ble_eq_true rfl)
  show W _ _ _ _ _ _ _ _ _ _ _ _ _ _ _ (entryFrame m ([Value.ref (ad 0), .int (iI a), .ref ao] : List Value).toArray 4)
  rw [lg_entry_eq]
  generalize (lg_sl [Value.ref (ad 0), .int (iI a), .ref ao] ++ List.replicate (4 - (lg_sl [Value.ref (ad 0), .int (iI a), .ref ao]).length) Slot.unset).toArray = ls at hl ⊢
  have hK1 : va_K D vwCl [(cA, .int)] s := hK.sub [0] rfl
  have hP0 : va_P D vwCl (wdO cA 0 ly0 ja0 ad S) s.heap := wP_r (a := [ouE cJ ao o]) hP
  have hD1 := wD_r (a := [ouE cJ ao o]) hD
  refine lv_aload_n hx hb dL_count_0 rfl (lv_at hl 2 rfl) ?_
  refine lv_iconst hx hb dL_count_1 rfl ?_
  refine lv_aload_n hx hb dL_count_2 rfl (lv_at hl 0 rfl) ?_
  refine lv_iload_n hx hb dL_count_3 rfl (lv_at hl 1 rfl) ?_
  refine va_calli (va_runV (As := [.int (iI a)]) (rest := [.int (Int32.ofInt 0), .ref ao]) ⟨hx, hb, hml, hown, hts⟩ (ct0_count l D cA ad (vR 0 :: [vI a]) S Q s.heap.size hX) (cwV 1 hts gL_count_X0_count rfl (rm := rm0_count) rfl rfl (by decide +kernel) ⟨Nat.le_of_ble_eq_true rfl, Nat.le_of_ble_eq_true rfl⟩) ⟨pre0_blind, va_recv hK1 hP0 (q := (RX0, TX0, 16)) (ci := 0) (q0 := 0) rfl rfl, fun U hU hW => ⟨rfl, by rw [hU], by rw [hU]; exact hP0, va_K.moved hW.alike hK1, hD1.weaken (fun _ _ _ _ => trivial)⟩⟩ rfl rfl hl.1 rfl (Nat.le_of_ble_eq_true rfl) dL_count_4 ⟨Nat.zero_le _, Nat.zero_le _⟩) hS0 (fun q _ z => hF q z) hF (fun r u t H1 locs1 ht hvm hw1 hB hz1 hk1 hS1 => ?_)
  obtain ⟨⟨v, rfl, hq⟩, hku⟩ := hw1
  obtain ⟨hP1, hK2, hD2⟩ := hB
  rw [ht] at hP1
  obtain ⟨hPn, hDn⟩ := w_rt (a := [ouE cJ ao o]) hP hD hA hP1 hD2 hk1
  refine lv_i2l hx hb dL_count_7 rfl ?_
  refine va_last hx hb hK hPn hDn hS1 0 1 rfl rfl (iI_in (a := 0) (Int.le_refl _) (by decide) (by decide)) dL_count_8 (fun H2 locs2 hP2 hD3 hS2 => ?_)
  refine lv_goto hx hb dL_count_9 (tgt := 15) rfl ?_
  refine lv_iconst hx hb dL_count_15 rfl ?_
  refine W.widen (k := 1) (n := 6) (Nat.le_of_ble_eq_true rfl) (Nat.le_of_ble_eq_true rfl) ?_
  exact W.iret (v := 0) hx hb hr (fun t ht hW => ⟨⟨0, (u, vp_updL o 0 (iI v).toInt64), rfl, ⟨rfl, v, hq, rfl, hku⟩, by rw [ht]; exact hP2, hD3⟩, hS2.F ht⟩) hS2.2.2 dL_count_16 hlocks
set_option maxRecDepth 20000 in
theorem wL_count_no1 : CtWno 1 yL_count wsL_count rmW_count X0_count "java/lang/IndexOutOfBoundsException" 1 := by
  intro l hlt D cA cJ ad ao is S o sz hn hX
  rcases is with _ | ⟨a, _ | ⟨z, r⟩⟩
  · exact absurd hn (by simp)
  rotate_left
  · exact absurd hn (by simp)
  refine va_MetW (cc := cL_count) (maxL := 4) (ret := some .int) (by decide) rfl ?_
  intro p e s m args below meth c s₁ B hml hv
  obtain ⟨rfl, hsz, hP, hK, hD0, hXE, hN⟩ := hv
  have hx := B.exec
  have hb := B.bytes
  have hr := B.returns
  have hts := atoms_spec (ws := wsL_count) B.pre
  have hown : s.vm.findClass RL = some m.cls := findClass_of_methodNamed B.named
  have hlocks := B.notSynchronized
  subst hsz
  have hD := hD0.self (sz := s.heap.size)
  have hA : ∀ q : Nat, s.heap.size ≤ q → va_A (wrW cA cJ ad ao S o) s.heap.size q := fun q h => Or.inr h
  have hS0 : va_S (va_A (wrW cA cJ ad ao S o) s.heap.size) s.heap s.heap [] := va_S.rf
  have hF : ∀ q, va_A (wdO cA 0 ly0 ja0 ad S) s.heap.size q → va_A (wrW cA cJ ad ao S o) s.heap.size q := by
    rintro q (⟨k, e, hk⟩ | h)
    · exact Or.inl ⟨_, e, nth_r (a := [ouE cJ ao o]) hk⟩
    · exact Or.inr h
  have hl := lv_entry [Value.ref (ad 0), .int (iI a), .ref ao] (n := 4) (Nat.le_of_ble_eq_true rfl)
  show W _ _ _ _ _ _ _ _ _ _ _ _ _ _ _ (entryFrame m ([Value.ref (ad 0), .int (iI a), .ref ao] : List Value).toArray 4)
  rw [lg_entry_eq]
  generalize (lg_sl [Value.ref (ad 0), .int (iI a), .ref ao] ++ List.replicate (4 - (lg_sl [Value.ref (ad 0), .int (iI a), .ref ao]).length) Slot.unset).toArray = ls at hl ⊢
  have hK1 : va_K D vwCl [(cA, .int)] s := hK.sub [0] rfl
  have hP0 : va_P D vwCl (wdO cA 0 ly0 ja0 ad S) s.heap := wP_r (a := [ouE cJ ao o]) hP
  have hD1 := wD_r (a := [ouE cJ ao o]) hD
  refine lv_aload_n hx hb dL_count_0 rfl (lv_at hl 2 rfl) ?_
  refine lv_iconst hx hb dL_count_1 rfl ?_
  refine lv_aload_n hx hb dL_count_2 rfl (lv_at hl 0 rfl) ?_
  refine lv_iload_n hx hb dL_count_3 rfl (lv_at hl 1 rfl) ?_
  refine vx_calli (vx_runV (As := [.int (iI a)]) (rest := [.int (Int32.ofInt 0), .ref ao]) ⟨hx, hb, hml, hown, hts⟩ (cx0_count l hlt D cA ad (vR 0 :: [vI a]) S (eqx "java/lang/IndexOutOfBoundsException" S) s.heap.size hX) (cwV 1 hts gL_count_X0_count rfl (rm := rmx0_count) rfl rfl (by decide +kernel) ⟨Nat.le_of_ble_eq_true rfl, Nat.le_of_ble_eq_true rfl⟩) ⟨prex_blind, va_recv hK1 hP0 (q := (RX0, TX0, 16)) (ci := 0) (q0 := 0) rfl rfl, fun U hU hW => ⟨rfl, ⟨by rw [hU], by rw [hU]; exact hP0, va_K.moved hW.alike hK1, hD1.weaken (fun _ _ _ _ => trivial)⟩, hXE.at hS0 hU hW hF⟩⟩ rfl rfl hl.1 rfl (Nat.le_of_ble_eq_true rfl) dL_count_4 ⟨Nat.le_of_ble_eq_true rfl, Nat.le_of_ble_eq_true rfl⟩) hS0 (fun q _ z => hF q z) hF (fun q _ z => hF q z) (fun E9 ce q9 u t H1 locs1 ht hvm hpx hBX hz1 hk1 hS1 hce hcv hcl9 => ?_) (fun r u t H1 locs1 ht hvm hw1 hB hz1 hk1 hS1 => hw1.elim)
  obtain ⟨u1, u2⟩ := u
  obtain ⟨⟨e1, e2⟩, hku⟩ := hpx
  obtain ⟨e3, hP1, hK2, hD2⟩ := hBX
  dsimp only at e1 e2 e3 hP1 hD2
  subst e1
  subst e2
  subst e3
  rw [ht] at hP1
  obtain ⟨hPn, hDn⟩ := w_rt (a := [ouE cJ ao o]) hP hD hA hP1 hD2 hk1
  refine vx_catch (name := "java/lang/IndexOutOfBoundsException") hown [] ⟨0, 9, 12, 21⟩ [] (by rw [vx_table (x := yL_count) (y := yL_count) (bytes := cL_count) (maxL' := 4) (ret' := some .int) (hh := [(0, 9, 12, 21)]) B (hts _ List.mem_cons_self)]; rfl) (fun z hz => by cases hz) rfl (Nat.succ_ne_zero _) (hts (.classLink RL 21 "java/lang/IndexOutOfBoundsException") (by decide +kernel)) (nw_at rfl (hXE.2.2.2 _ (List.mem_of_getElem? (i := 2) rfl))) hce hcv hcl9 ?_
  refine lv_astore_n hx hb dL_count_12 rfl hl (by decide) rfl (fun ls' hl' => ?_)
  refine lv_iconst hx hb dL_count_13 rfl ?_
  exact W.iret (v := iI 1) hx hb hr (fun t ht hW => ⟨⟨iI 1, (_, o), rfl, ⟨rfl, rfl⟩, by rw [ht]; exact hPn, hDn⟩, hS1.F ht⟩) hS1.2.2 dL_count_14 hlocks
abbrev rmW_would : Room := { frames := 8, cells := 1, slots := 6, locals := 124 }
set_option maxRecDepth 20000 in
theorem wL_would_ok : CtWok 1 yL_would wsL_would rmW_would X0_would zI := by
  intro l hlt D cA cJ ad ao is S o Q sz hn hX
  rcases is with _ | ⟨a, _ | ⟨z, r⟩⟩
  · exact absurd hn (by simp)
  rotate_left
  · exact absurd hn (by simp)
  refine va_MetW (cc := cL_would) (maxL := 4) (ret := some .int) (by decide) rfl ?_
  intro p e s m args below meth c s₁ B hml hv
  obtain ⟨rfl, hsz, hP, hK, hD0, hXE, hN⟩ := hv
  have hx := B.exec
  have hb := B.bytes
  have hr := B.returns
  have hts := atoms_spec (ws := wsL_would) B.pre
  have hown : s.vm.findClass RL = some m.cls := findClass_of_methodNamed B.named
  have hlocks := B.notSynchronized
  subst hsz
  have hD := hD0.self (sz := s.heap.size)
  have hA : ∀ q : Nat, s.heap.size ≤ q → va_A (wrW cA cJ ad ao S o) s.heap.size q := fun q h => Or.inr h
  have hS0 : va_S (va_A (wrW cA cJ ad ao S o) s.heap.size) s.heap s.heap [] := va_S.rf
  have hF : ∀ q, va_A (wdO cA 0 ly0 ja0 ad S) s.heap.size q → va_A (wrW cA cJ ad ao S o) s.heap.size q := by
    rintro q (⟨k, e, hk⟩ | h)
    · exact Or.inl ⟨_, e, nth_r (a := [ouE cJ ao o]) hk⟩
    · exact Or.inr h
  have hl := lv_entry [Value.ref (ad 0), .int (iI a), .ref ao] (n := 4) (Nat.le_of_ble_eq_true rfl)
  show W _ _ _ _ _ _ _ _ _ _ _ _ _ _ _ (entryFrame m ([Value.ref (ad 0), .int (iI a), .ref ao] : List Value).toArray 4)
  rw [lg_entry_eq]
  generalize (lg_sl [Value.ref (ad 0), .int (iI a), .ref ao] ++ List.replicate (4 - (lg_sl [Value.ref (ad 0), .int (iI a), .ref ao]).length) Slot.unset).toArray = ls at hl ⊢
  have hK1 : va_K D vwCl [(cA, .int)] s := hK.sub [0] rfl
  have hP0 : va_P D vwCl (wdO cA 0 ly0 ja0 ad S) s.heap := wP_r (a := [ouE cJ ao o]) hP
  have hD1 := wD_r (a := [ouE cJ ao o]) hD
  refine lv_aload_n hx hb dL_would_0 rfl (lv_at hl 2 rfl) ?_
  refine lv_iconst hx hb dL_would_1 rfl ?_
  refine lv_aload_n hx hb dL_would_2 rfl (lv_at hl 0 rfl) ?_
  refine lv_iload_n hx hb dL_would_3 rfl (lv_at hl 1 rfl) ?_
  refine va_calli (va_runV (As := [.int (iI a)]) (rest := [.int (Int32.ofInt 0), .ref ao]) ⟨hx, hb, hml, hown, hts⟩ (ct0_would l D cA ad (vR 0 :: [vI a]) S Q s.heap.size hX) (cwV 1 hts gL_would_X0_would rfl (rm := rm0_would) rfl rfl (by decide +kernel) ⟨Nat.le_of_ble_eq_true rfl, Nat.le_of_ble_eq_true rfl⟩) ⟨pre0_blind, va_recv hK1 hP0 (q := (RX0, TX0, 16)) (ci := 0) (q0 := 0) rfl rfl, fun U hU hW => ⟨rfl, by rw [hU], by rw [hU]; exact hP0, va_K.moved hW.alike hK1, hD1.weaken (fun _ _ _ _ => trivial)⟩⟩ rfl rfl hl.1 rfl (Nat.le_of_ble_eq_true rfl) dL_would_4 ⟨Nat.zero_le _, Nat.zero_le _⟩) hS0 (fun q _ z => hF q z) hF (fun r u t H1 locs1 ht hvm hw1 hB hz1 hk1 hS1 => ?_)
  obtain ⟨⟨v, rfl, hq⟩, hku⟩ := hw1
  obtain ⟨hP1, hK2, hD2⟩ := hB
  rw [ht] at hP1
  obtain ⟨hPn, hDn⟩ := w_rt (a := [ouE cJ ao o]) hP hD hA hP1 hD2 hk1
  refine lv_i2l hx hb dL_would_7 rfl ?_
  refine va_last hx hb hK hPn hDn hS1 0 1 rfl rfl (iI_in (a := 0) (Int.le_refl _) (by decide) (by decide)) dL_would_8 (fun H2 locs2 hP2 hD3 hS2 => ?_)
  refine lv_goto hx hb dL_would_9 (tgt := 15) rfl ?_
  refine lv_iconst hx hb dL_would_15 rfl ?_
  refine W.widen (k := 1) (n := 6) (Nat.le_of_ble_eq_true rfl) (Nat.le_of_ble_eq_true rfl) ?_
  exact W.iret (v := 0) hx hb hr (fun t ht hW => ⟨⟨0, (u, vp_updL o 0 (iI v).toInt64), rfl, ⟨rfl, v, hq, rfl, hku⟩, by rw [ht]; exact hP2, hD3⟩, hS2.F ht⟩) hS2.2.2 dL_would_16 hlocks
set_option maxRecDepth 20000 in
theorem wL_would_no1 : CtWno 1 yL_would wsL_would rmW_would X0_would "java/lang/IndexOutOfBoundsException" 1 := by
  intro l hlt D cA cJ ad ao is S o sz hn hX
  rcases is with _ | ⟨a, _ | ⟨z, r⟩⟩
  · exact absurd hn (by simp)
  rotate_left
  · exact absurd hn (by simp)
  refine va_MetW (cc := cL_would) (maxL := 4) (ret := some .int) (by decide) rfl ?_
  intro p e s m args below meth c s₁ B hml hv
  obtain ⟨rfl, hsz, hP, hK, hD0, hXE, hN⟩ := hv
  have hx := B.exec
  have hb := B.bytes
  have hr := B.returns
  have hts := atoms_spec (ws := wsL_would) B.pre
  have hown : s.vm.findClass RL = some m.cls := findClass_of_methodNamed B.named
  have hlocks := B.notSynchronized
  subst hsz
  have hD := hD0.self (sz := s.heap.size)
  have hA : ∀ q : Nat, s.heap.size ≤ q → va_A (wrW cA cJ ad ao S o) s.heap.size q := fun q h => Or.inr h
  have hS0 : va_S (va_A (wrW cA cJ ad ao S o) s.heap.size) s.heap s.heap [] := va_S.rf
  have hF : ∀ q, va_A (wdO cA 0 ly0 ja0 ad S) s.heap.size q → va_A (wrW cA cJ ad ao S o) s.heap.size q := by
    rintro q (⟨k, e, hk⟩ | h)
    · exact Or.inl ⟨_, e, nth_r (a := [ouE cJ ao o]) hk⟩
    · exact Or.inr h
  have hl := lv_entry [Value.ref (ad 0), .int (iI a), .ref ao] (n := 4) (Nat.le_of_ble_eq_true rfl)
  show W _ _ _ _ _ _ _ _ _ _ _ _ _ _ _ (entryFrame m ([Value.ref (ad 0), .int (iI a), .ref ao] : List Value).toArray 4)
  rw [lg_entry_eq]
  generalize (lg_sl [Value.ref (ad 0), .int (iI a), .ref ao] ++ List.replicate (4 - (lg_sl [Value.ref (ad 0), .int (iI a), .ref ao]).length) Slot.unset).toArray = ls at hl ⊢
  have hK1 : va_K D vwCl [(cA, .int)] s := hK.sub [0] rfl
  have hP0 : va_P D vwCl (wdO cA 0 ly0 ja0 ad S) s.heap := wP_r (a := [ouE cJ ao o]) hP
  have hD1 := wD_r (a := [ouE cJ ao o]) hD
  refine lv_aload_n hx hb dL_would_0 rfl (lv_at hl 2 rfl) ?_
  refine lv_iconst hx hb dL_would_1 rfl ?_
  refine lv_aload_n hx hb dL_would_2 rfl (lv_at hl 0 rfl) ?_
  refine lv_iload_n hx hb dL_would_3 rfl (lv_at hl 1 rfl) ?_
  refine vx_calli (vx_runV (As := [.int (iI a)]) (rest := [.int (Int32.ofInt 0), .ref ao]) ⟨hx, hb, hml, hown, hts⟩ (cx0_would l hlt D cA ad (vR 0 :: [vI a]) S (eqx "java/lang/IndexOutOfBoundsException" S) s.heap.size hX) (cwV 1 hts gL_would_X0_would rfl (rm := rmx0_would) rfl rfl (by decide +kernel) ⟨Nat.le_of_ble_eq_true rfl, Nat.le_of_ble_eq_true rfl⟩) ⟨prex_blind, va_recv hK1 hP0 (q := (RX0, TX0, 16)) (ci := 0) (q0 := 0) rfl rfl, fun U hU hW => ⟨rfl, ⟨by rw [hU], by rw [hU]; exact hP0, va_K.moved hW.alike hK1, hD1.weaken (fun _ _ _ _ => trivial)⟩, hXE.at hS0 hU hW hF⟩⟩ rfl rfl hl.1 rfl (Nat.le_of_ble_eq_true rfl) dL_would_4 ⟨Nat.le_of_ble_eq_true rfl, Nat.le_of_ble_eq_true rfl⟩) hS0 (fun q _ z => hF q z) hF (fun q _ z => hF q z) (fun E9 ce q9 u t H1 locs1 ht hvm hpx hBX hz1 hk1 hS1 hce hcv hcl9 => ?_) (fun r u t H1 locs1 ht hvm hw1 hB hz1 hk1 hS1 => hw1.elim)
  obtain ⟨u1, u2⟩ := u
  obtain ⟨⟨e1, e2⟩, hku⟩ := hpx
  obtain ⟨e3, hP1, hK2, hD2⟩ := hBX
  dsimp only at e1 e2 e3 hP1 hD2
  subst e1
  subst e2
  subst e3
  rw [ht] at hP1
  obtain ⟨hPn, hDn⟩ := w_rt (a := [ouE cJ ao o]) hP hD hA hP1 hD2 hk1
  refine vx_catch (name := "java/lang/IndexOutOfBoundsException") hown [] ⟨0, 9, 12, 21⟩ [] (by rw [vx_table (x := yL_would) (y := yL_would) (bytes := cL_would) (maxL' := 4) (ret' := some .int) (hh := [(0, 9, 12, 21)]) B (hts _ List.mem_cons_self)]; rfl) (fun z hz => by cases hz) rfl (Nat.succ_ne_zero _) (hts (.classLink RL 21 "java/lang/IndexOutOfBoundsException") (by decide +kernel)) (nw_at rfl (hXE.2.2.2 _ (List.mem_of_getElem? (i := 2) rfl))) hce hcv hcl9 ?_
  refine lv_astore_n hx hb dL_would_12 rfl hl (by decide) rfl (fun ls' hl' => ?_)
  refine lv_iconst hx hb dL_would_13 rfl ?_
  exact W.iret (v := iI 1) hx hb hr (fun t ht hW => ⟨⟨iI 1, (_, o), rfl, ⟨rfl, rfl⟩, by rw [ht]; exact hPn, hDn⟩, hS1.F ht⟩) hS1.2.2 dL_would_14 hlocks
abbrev rmW_spares : Room := { frames := 8, cells := 1, slots := 6, locals := 127 }
set_option maxRecDepth 20000 in
theorem wL_spares_ok : CtWok 1 yL_spares wsL_spares rmW_spares X0_spares zI := by
  intro l hlt D cA cJ ad ao is S o Q sz hn hX
  rcases is with _ | ⟨a, _ | ⟨z, r⟩⟩
  · exact absurd hn (by simp)
  rotate_left
  · exact absurd hn (by simp)
  refine va_MetW (cc := cL_spares) (maxL := 4) (ret := some .int) (by decide) rfl ?_
  intro p e s m args below meth c s₁ B hml hv
  obtain ⟨rfl, hsz, hP, hK, hD0, hXE, hN⟩ := hv
  have hx := B.exec
  have hb := B.bytes
  have hr := B.returns
  have hts := atoms_spec (ws := wsL_spares) B.pre
  have hown : s.vm.findClass RL = some m.cls := findClass_of_methodNamed B.named
  have hlocks := B.notSynchronized
  subst hsz
  have hD := hD0.self (sz := s.heap.size)
  have hA : ∀ q : Nat, s.heap.size ≤ q → va_A (wrW cA cJ ad ao S o) s.heap.size q := fun q h => Or.inr h
  have hS0 : va_S (va_A (wrW cA cJ ad ao S o) s.heap.size) s.heap s.heap [] := va_S.rf
  have hF : ∀ q, va_A (wdO cA 0 ly0 ja0 ad S) s.heap.size q → va_A (wrW cA cJ ad ao S o) s.heap.size q := by
    rintro q (⟨k, e, hk⟩ | h)
    · exact Or.inl ⟨_, e, nth_r (a := [ouE cJ ao o]) hk⟩
    · exact Or.inr h
  have hl := lv_entry [Value.ref (ad 0), .int (iI a), .ref ao] (n := 4) (Nat.le_of_ble_eq_true rfl)
  show W _ _ _ _ _ _ _ _ _ _ _ _ _ _ _ (entryFrame m ([Value.ref (ad 0), .int (iI a), .ref ao] : List Value).toArray 4)
  rw [lg_entry_eq]
  generalize (lg_sl [Value.ref (ad 0), .int (iI a), .ref ao] ++ List.replicate (4 - (lg_sl [Value.ref (ad 0), .int (iI a), .ref ao]).length) Slot.unset).toArray = ls at hl ⊢
  have hK1 : va_K D vwCl [(cA, .int)] s := hK.sub [0] rfl
  have hP0 : va_P D vwCl (wdO cA 0 ly0 ja0 ad S) s.heap := wP_r (a := [ouE cJ ao o]) hP
  have hD1 := wD_r (a := [ouE cJ ao o]) hD
  refine lv_aload_n hx hb dL_spares_0 rfl (lv_at hl 2 rfl) ?_
  refine lv_iconst hx hb dL_spares_1 rfl ?_
  refine lv_aload_n hx hb dL_spares_2 rfl (lv_at hl 0 rfl) ?_
  refine lv_iload_n hx hb dL_spares_3 rfl (lv_at hl 1 rfl) ?_
  refine va_calli (va_runV (As := [.int (iI a)]) (rest := [.int (Int32.ofInt 0), .ref ao]) ⟨hx, hb, hml, hown, hts⟩ (ct0_spares l D cA ad (vR 0 :: [vI a]) S Q s.heap.size hX) (cwV 1 hts gL_spares_X0_spares rfl (rm := rm0_spares) rfl rfl (by decide +kernel) ⟨Nat.le_of_ble_eq_true rfl, Nat.le_of_ble_eq_true rfl⟩) ⟨pre0_blind, va_recv hK1 hP0 (q := (RX0, TX0, 16)) (ci := 0) (q0 := 0) rfl rfl, fun U hU hW => ⟨rfl, by rw [hU], by rw [hU]; exact hP0, va_K.moved hW.alike hK1, hD1.weaken (fun _ _ _ _ => trivial)⟩⟩ rfl rfl hl.1 rfl (Nat.le_of_ble_eq_true rfl) dL_spares_4 ⟨Nat.zero_le _, Nat.zero_le _⟩) hS0 (fun q _ z => hF q z) hF (fun r u t H1 locs1 ht hvm hw1 hB hz1 hk1 hS1 => ?_)
  obtain ⟨⟨v, rfl, hq⟩, hku⟩ := hw1
  obtain ⟨hP1, hK2, hD2⟩ := hB
  rw [ht] at hP1
  obtain ⟨hPn, hDn⟩ := w_rt (a := [ouE cJ ao o]) hP hD hA hP1 hD2 hk1
  refine lv_i2l hx hb dL_spares_7 rfl ?_
  refine va_last hx hb hK hPn hDn hS1 0 1 rfl rfl (iI_in (a := 0) (Int.le_refl _) (by decide) (by decide)) dL_spares_8 (fun H2 locs2 hP2 hD3 hS2 => ?_)
  refine lv_goto hx hb dL_spares_9 (tgt := 15) rfl ?_
  refine lv_iconst hx hb dL_spares_15 rfl ?_
  refine W.widen (k := 1) (n := 6) (Nat.le_of_ble_eq_true rfl) (Nat.le_of_ble_eq_true rfl) ?_
  exact W.iret (v := 0) hx hb hr (fun t ht hW => ⟨⟨0, (u, vp_updL o 0 (iI v).toInt64), rfl, ⟨rfl, v, hq, rfl, hku⟩, by rw [ht]; exact hP2, hD3⟩, hS2.F ht⟩) hS2.2.2 dL_spares_16 hlocks
set_option maxRecDepth 20000 in
theorem wL_spares_no1 : CtWno 1 yL_spares wsL_spares rmW_spares X0_spares "java/lang/IndexOutOfBoundsException" 1 := by
  intro l hlt D cA cJ ad ao is S o sz hn hX
  rcases is with _ | ⟨a, _ | ⟨z, r⟩⟩
  · exact absurd hn (by simp)
  rotate_left
  · exact absurd hn (by simp)
  refine va_MetW (cc := cL_spares) (maxL := 4) (ret := some .int) (by decide) rfl ?_
  intro p e s m args below meth c s₁ B hml hv
  obtain ⟨rfl, hsz, hP, hK, hD0, hXE, hN⟩ := hv
  have hx := B.exec
  have hb := B.bytes
  have hr := B.returns
  have hts := atoms_spec (ws := wsL_spares) B.pre
  have hown : s.vm.findClass RL = some m.cls := findClass_of_methodNamed B.named
  have hlocks := B.notSynchronized
  subst hsz
  have hD := hD0.self (sz := s.heap.size)
  have hA : ∀ q : Nat, s.heap.size ≤ q → va_A (wrW cA cJ ad ao S o) s.heap.size q := fun q h => Or.inr h
  have hS0 : va_S (va_A (wrW cA cJ ad ao S o) s.heap.size) s.heap s.heap [] := va_S.rf
  have hF : ∀ q, va_A (wdO cA 0 ly0 ja0 ad S) s.heap.size q → va_A (wrW cA cJ ad ao S o) s.heap.size q := by
    rintro q (⟨k, e, hk⟩ | h)
    · exact Or.inl ⟨_, e, nth_r (a := [ouE cJ ao o]) hk⟩
    · exact Or.inr h
  have hl := lv_entry [Value.ref (ad 0), .int (iI a), .ref ao] (n := 4) (Nat.le_of_ble_eq_true rfl)
  show W _ _ _ _ _ _ _ _ _ _ _ _ _ _ _ (entryFrame m ([Value.ref (ad 0), .int (iI a), .ref ao] : List Value).toArray 4)
  rw [lg_entry_eq]
  generalize (lg_sl [Value.ref (ad 0), .int (iI a), .ref ao] ++ List.replicate (4 - (lg_sl [Value.ref (ad 0), .int (iI a), .ref ao]).length) Slot.unset).toArray = ls at hl ⊢
  have hK1 : va_K D vwCl [(cA, .int)] s := hK.sub [0] rfl
  have hP0 : va_P D vwCl (wdO cA 0 ly0 ja0 ad S) s.heap := wP_r (a := [ouE cJ ao o]) hP
  have hD1 := wD_r (a := [ouE cJ ao o]) hD
  refine lv_aload_n hx hb dL_spares_0 rfl (lv_at hl 2 rfl) ?_
  refine lv_iconst hx hb dL_spares_1 rfl ?_
  refine lv_aload_n hx hb dL_spares_2 rfl (lv_at hl 0 rfl) ?_
  refine lv_iload_n hx hb dL_spares_3 rfl (lv_at hl 1 rfl) ?_
  refine vx_calli (vx_runV (As := [.int (iI a)]) (rest := [.int (Int32.ofInt 0), .ref ao]) ⟨hx, hb, hml, hown, hts⟩ (cx0_spares l hlt D cA ad (vR 0 :: [vI a]) S (eqx "java/lang/IndexOutOfBoundsException" S) s.heap.size hX) (cwV 1 hts gL_spares_X0_spares rfl (rm := rmx0_spares) rfl rfl (by decide +kernel) ⟨Nat.le_of_ble_eq_true rfl, Nat.le_of_ble_eq_true rfl⟩) ⟨prex_blind, va_recv hK1 hP0 (q := (RX0, TX0, 16)) (ci := 0) (q0 := 0) rfl rfl, fun U hU hW => ⟨rfl, ⟨by rw [hU], by rw [hU]; exact hP0, va_K.moved hW.alike hK1, hD1.weaken (fun _ _ _ _ => trivial)⟩, hXE.at hS0 hU hW hF⟩⟩ rfl rfl hl.1 rfl (Nat.le_of_ble_eq_true rfl) dL_spares_4 ⟨Nat.le_of_ble_eq_true rfl, Nat.le_of_ble_eq_true rfl⟩) hS0 (fun q _ z => hF q z) hF (fun q _ z => hF q z) (fun E9 ce q9 u t H1 locs1 ht hvm hpx hBX hz1 hk1 hS1 hce hcv hcl9 => ?_) (fun r u t H1 locs1 ht hvm hw1 hB hz1 hk1 hS1 => hw1.elim)
  obtain ⟨u1, u2⟩ := u
  obtain ⟨⟨e1, e2⟩, hku⟩ := hpx
  obtain ⟨e3, hP1, hK2, hD2⟩ := hBX
  dsimp only at e1 e2 e3 hP1 hD2
  subst e1
  subst e2
  subst e3
  rw [ht] at hP1
  obtain ⟨hPn, hDn⟩ := w_rt (a := [ouE cJ ao o]) hP hD hA hP1 hD2 hk1
  refine vx_catch (name := "java/lang/IndexOutOfBoundsException") hown [] ⟨0, 9, 12, 21⟩ [] (by rw [vx_table (x := yL_spares) (y := yL_spares) (bytes := cL_spares) (maxL' := 4) (ret' := some .int) (hh := [(0, 9, 12, 21)]) B (hts _ List.mem_cons_self)]; rfl) (fun z hz => by cases hz) rfl (Nat.succ_ne_zero _) (hts (.classLink RL 21 "java/lang/IndexOutOfBoundsException") (by decide +kernel)) (nw_at rfl (hXE.2.2.2 _ (List.mem_of_getElem? (i := 2) rfl))) hce hcv hcl9 ?_
  refine lv_astore_n hx hb dL_spares_12 rfl hl (by decide) rfl (fun ls' hl' => ?_)
  refine lv_iconst hx hb dL_spares_13 rfl ?_
  exact W.iret (v := iI 1) hx hb hr (fun t ht hW => ⟨⟨iI 1, (_, o), rfl, ⟨rfl, rfl⟩, by rw [ht]; exact hPn, hDn⟩, hS1.F ht⟩) hS1.2.2 dL_spares_14 hlocks
abbrev rmW_room : Room := { frames := 8, cells := 1, slots := 6, locals := 124 }
set_option maxRecDepth 20000 in
theorem wL_room_ok : CtWok 1 yL_room wsL_room rmW_room X0_room zI := by
  intro l hlt D cA cJ ad ao is S o Q sz hn hX
  rcases is with _ | ⟨a, _ | ⟨z, r⟩⟩
  · exact absurd hn (by simp)
  rotate_left
  · exact absurd hn (by simp)
  refine va_MetW (cc := cL_room) (maxL := 4) (ret := some .int) (by decide) rfl ?_
  intro p e s m args below meth c s₁ B hml hv
  obtain ⟨rfl, hsz, hP, hK, hD0, hXE, hN⟩ := hv
  have hx := B.exec
  have hb := B.bytes
  have hr := B.returns
  have hts := atoms_spec (ws := wsL_room) B.pre
  have hown : s.vm.findClass RL = some m.cls := findClass_of_methodNamed B.named
  have hlocks := B.notSynchronized
  subst hsz
  have hD := hD0.self (sz := s.heap.size)
  have hA : ∀ q : Nat, s.heap.size ≤ q → va_A (wrW cA cJ ad ao S o) s.heap.size q := fun q h => Or.inr h
  have hS0 : va_S (va_A (wrW cA cJ ad ao S o) s.heap.size) s.heap s.heap [] := va_S.rf
  have hF : ∀ q, va_A (wdO cA 0 ly0 ja0 ad S) s.heap.size q → va_A (wrW cA cJ ad ao S o) s.heap.size q := by
    rintro q (⟨k, e, hk⟩ | h)
    · exact Or.inl ⟨_, e, nth_r (a := [ouE cJ ao o]) hk⟩
    · exact Or.inr h
  have hl := lv_entry [Value.ref (ad 0), .int (iI a), .ref ao] (n := 4) (Nat.le_of_ble_eq_true rfl)
  show W _ _ _ _ _ _ _ _ _ _ _ _ _ _ _ (entryFrame m ([Value.ref (ad 0), .int (iI a), .ref ao] : List Value).toArray 4)
  rw [lg_entry_eq]
  generalize (lg_sl [Value.ref (ad 0), .int (iI a), .ref ao] ++ List.replicate (4 - (lg_sl [Value.ref (ad 0), .int (iI a), .ref ao]).length) Slot.unset).toArray = ls at hl ⊢
  have hK1 : va_K D vwCl [(cA, .int)] s := hK.sub [0] rfl
  have hP0 : va_P D vwCl (wdO cA 0 ly0 ja0 ad S) s.heap := wP_r (a := [ouE cJ ao o]) hP
  have hD1 := wD_r (a := [ouE cJ ao o]) hD
  refine lv_aload_n hx hb dL_room_0 rfl (lv_at hl 2 rfl) ?_
  refine lv_iconst hx hb dL_room_1 rfl ?_
  refine lv_aload_n hx hb dL_room_2 rfl (lv_at hl 0 rfl) ?_
  refine lv_iload_n hx hb dL_room_3 rfl (lv_at hl 1 rfl) ?_
  refine va_calli (va_runV (As := [.int (iI a)]) (rest := [.int (Int32.ofInt 0), .ref ao]) ⟨hx, hb, hml, hown, hts⟩ (ct0_room l D cA ad (vR 0 :: [vI a]) S Q s.heap.size hX) (cwV 1 hts gL_room_X0_room rfl (rm := rm0_room) rfl rfl (by decide +kernel) ⟨Nat.le_of_ble_eq_true rfl, Nat.le_of_ble_eq_true rfl⟩) ⟨pre0_blind, va_recv hK1 hP0 (q := (RX0, TX0, 16)) (ci := 0) (q0 := 0) rfl rfl, fun U hU hW => ⟨rfl, by rw [hU], by rw [hU]; exact hP0, va_K.moved hW.alike hK1, hD1.weaken (fun _ _ _ _ => trivial)⟩⟩ rfl rfl hl.1 rfl (Nat.le_of_ble_eq_true rfl) dL_room_4 ⟨Nat.zero_le _, Nat.zero_le _⟩) hS0 (fun q _ z => hF q z) hF (fun r u t H1 locs1 ht hvm hw1 hB hz1 hk1 hS1 => ?_)
  obtain ⟨⟨v, rfl, hq⟩, hku⟩ := hw1
  obtain ⟨hP1, hK2, hD2⟩ := hB
  rw [ht] at hP1
  obtain ⟨hPn, hDn⟩ := w_rt (a := [ouE cJ ao o]) hP hD hA hP1 hD2 hk1
  refine lv_i2l hx hb dL_room_7 rfl ?_
  refine va_last hx hb hK hPn hDn hS1 0 1 rfl rfl (iI_in (a := 0) (Int.le_refl _) (by decide) (by decide)) dL_room_8 (fun H2 locs2 hP2 hD3 hS2 => ?_)
  refine lv_goto hx hb dL_room_9 (tgt := 15) rfl ?_
  refine lv_iconst hx hb dL_room_15 rfl ?_
  refine W.widen (k := 1) (n := 6) (Nat.le_of_ble_eq_true rfl) (Nat.le_of_ble_eq_true rfl) ?_
  exact W.iret (v := 0) hx hb hr (fun t ht hW => ⟨⟨0, (u, vp_updL o 0 (iI v).toInt64), rfl, ⟨rfl, v, hq, rfl, hku⟩, by rw [ht]; exact hP2, hD3⟩, hS2.F ht⟩) hS2.2.2 dL_room_16 hlocks
set_option maxRecDepth 20000 in
theorem wL_room_no1 : CtWno 1 yL_room wsL_room rmW_room X0_room "java/lang/IndexOutOfBoundsException" 1 := by
  intro l hlt D cA cJ ad ao is S o sz hn hX
  rcases is with _ | ⟨a, _ | ⟨z, r⟩⟩
  · exact absurd hn (by simp)
  rotate_left
  · exact absurd hn (by simp)
  refine va_MetW (cc := cL_room) (maxL := 4) (ret := some .int) (by decide) rfl ?_
  intro p e s m args below meth c s₁ B hml hv
  obtain ⟨rfl, hsz, hP, hK, hD0, hXE, hN⟩ := hv
  have hx := B.exec
  have hb := B.bytes
  have hr := B.returns
  have hts := atoms_spec (ws := wsL_room) B.pre
  have hown : s.vm.findClass RL = some m.cls := findClass_of_methodNamed B.named
  have hlocks := B.notSynchronized
  subst hsz
  have hD := hD0.self (sz := s.heap.size)
  have hA : ∀ q : Nat, s.heap.size ≤ q → va_A (wrW cA cJ ad ao S o) s.heap.size q := fun q h => Or.inr h
  have hS0 : va_S (va_A (wrW cA cJ ad ao S o) s.heap.size) s.heap s.heap [] := va_S.rf
  have hF : ∀ q, va_A (wdO cA 0 ly0 ja0 ad S) s.heap.size q → va_A (wrW cA cJ ad ao S o) s.heap.size q := by
    rintro q (⟨k, e, hk⟩ | h)
    · exact Or.inl ⟨_, e, nth_r (a := [ouE cJ ao o]) hk⟩
    · exact Or.inr h
  have hl := lv_entry [Value.ref (ad 0), .int (iI a), .ref ao] (n := 4) (Nat.le_of_ble_eq_true rfl)
  show W _ _ _ _ _ _ _ _ _ _ _ _ _ _ _ (entryFrame m ([Value.ref (ad 0), .int (iI a), .ref ao] : List Value).toArray 4)
  rw [lg_entry_eq]
  generalize (lg_sl [Value.ref (ad 0), .int (iI a), .ref ao] ++ List.replicate (4 - (lg_sl [Value.ref (ad 0), .int (iI a), .ref ao]).length) Slot.unset).toArray = ls at hl ⊢
  have hK1 : va_K D vwCl [(cA, .int)] s := hK.sub [0] rfl
  have hP0 : va_P D vwCl (wdO cA 0 ly0 ja0 ad S) s.heap := wP_r (a := [ouE cJ ao o]) hP
  have hD1 := wD_r (a := [ouE cJ ao o]) hD
  refine lv_aload_n hx hb dL_room_0 rfl (lv_at hl 2 rfl) ?_
  refine lv_iconst hx hb dL_room_1 rfl ?_
  refine lv_aload_n hx hb dL_room_2 rfl (lv_at hl 0 rfl) ?_
  refine lv_iload_n hx hb dL_room_3 rfl (lv_at hl 1 rfl) ?_
  refine vx_calli (vx_runV (As := [.int (iI a)]) (rest := [.int (Int32.ofInt 0), .ref ao]) ⟨hx, hb, hml, hown, hts⟩ (cx0_room l hlt D cA ad (vR 0 :: [vI a]) S (eqx "java/lang/IndexOutOfBoundsException" S) s.heap.size hX) (cwV 1 hts gL_room_X0_room rfl (rm := rmx0_room) rfl rfl (by decide +kernel) ⟨Nat.le_of_ble_eq_true rfl, Nat.le_of_ble_eq_true rfl⟩) ⟨prex_blind, va_recv hK1 hP0 (q := (RX0, TX0, 16)) (ci := 0) (q0 := 0) rfl rfl, fun U hU hW => ⟨rfl, ⟨by rw [hU], by rw [hU]; exact hP0, va_K.moved hW.alike hK1, hD1.weaken (fun _ _ _ _ => trivial)⟩, hXE.at hS0 hU hW hF⟩⟩ rfl rfl hl.1 rfl (Nat.le_of_ble_eq_true rfl) dL_room_4 ⟨Nat.le_of_ble_eq_true rfl, Nat.le_of_ble_eq_true rfl⟩) hS0 (fun q _ z => hF q z) hF (fun q _ z => hF q z) (fun E9 ce q9 u t H1 locs1 ht hvm hpx hBX hz1 hk1 hS1 hce hcv hcl9 => ?_) (fun r u t H1 locs1 ht hvm hw1 hB hz1 hk1 hS1 => hw1.elim)
  obtain ⟨u1, u2⟩ := u
  obtain ⟨⟨e1, e2⟩, hku⟩ := hpx
  obtain ⟨e3, hP1, hK2, hD2⟩ := hBX
  dsimp only at e1 e2 e3 hP1 hD2
  subst e1
  subst e2
  subst e3
  rw [ht] at hP1
  obtain ⟨hPn, hDn⟩ := w_rt (a := [ouE cJ ao o]) hP hD hA hP1 hD2 hk1
  refine vx_catch (name := "java/lang/IndexOutOfBoundsException") hown [] ⟨0, 9, 12, 21⟩ [] (by rw [vx_table (x := yL_room) (y := yL_room) (bytes := cL_room) (maxL' := 4) (ret' := some .int) (hh := [(0, 9, 12, 21)]) B (hts _ List.mem_cons_self)]; rfl) (fun z hz => by cases hz) rfl (Nat.succ_ne_zero _) (hts (.classLink RL 21 "java/lang/IndexOutOfBoundsException") (by decide +kernel)) (nw_at rfl (hXE.2.2.2 _ (List.mem_of_getElem? (i := 2) rfl))) hce hcv hcl9 ?_
  refine lv_astore_n hx hb dL_room_12 rfl hl (by decide) rfl (fun ls' hl' => ?_)
  refine lv_iconst hx hb dL_room_13 rfl ?_
  exact W.iret (v := iI 1) hx hb hr (fun t ht hW => ⟨⟨iI 1, (_, o), rfl, ⟨rfl, rfl⟩, by rw [ht]; exact hPn, hDn⟩, hS1.F ht⟩) hS1.2.2 dL_room_14 hlocks
