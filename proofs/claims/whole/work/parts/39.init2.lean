/-! THE CONSTRUCTORS, whole -/
abbrev zf0 : List Value := [.int 0, .null, .null, .null, .null, .null, .null, .null, .null, .null, .int 0, .null, .null, .null, .int 0, .int 0]
abbrev rmI0 : Room := { frames := 2, cells := 12, slots := 1820, locals := 60 }
set_option maxHeartbeats 4000000 in
set_option maxRecDepth 100000 in
theorem ini0 (l : Launch) (D : va_G) (cA : ClassId) (h0 sz : Nat) : Met l yX0_init wsX0_init rmI0 (va_Pc [.ref h0] (fun U => U.heap.size = sz ∧ va_P D vwCl [(h0, .inr (0, zf0))] U.heap ∧ va_K D vwCl [(cA, .int)] U ∧ va_D (fun _ => True) [(h0, .inr (0, zf0))])) (va_Qv (fun (u : Nat → Nat) => u 0 = h0) (fun u t => va_P D vwCl (wdO cA 0 ly0 ja0 u SI0) t.heap ∧ va_D (va_A [(h0, .inr (0, zf0))] sz) (wdO cA 0 ly0 ja0 u SI0)) (va_A [(h0, .inr (0, zf0))] sz)) 12 1820 (va_A [(h0, .inr (0, zf0))] sz) := by
  refine Met.ofW (cc := cX0_init) (maxL := 2) (ret := none) (by decide) rfl ?_
  intro p e s m args below meth c s₁ B hml hv
  obtain ⟨rfl, hsz, hP, hK, hD0⟩ := hv
  have hx := B.exec
  have hb := B.bytes
  have hr := B.returns
  have hts := atoms_spec (ws := wsX0_init) B.pre
  have hown : s.vm.findClass RX0 = some m.cls := findClass_of_methodNamed B.named
  have hlocks := B.notSynchronized
  have hin : meth.name = "<init>" := (name_of_methodNamed B.named B.method).1
  have hinw : ∀ w ∈ u_ws RX0 TX0 16, w ∈ wsX0_init := fun w h => List.mem_cons_of_mem _ (List.mem_append_right _ h)
  subst hsz
  have hD := hD0.self (sz := s.heap.size)
  generalize hAe : va_A [(h0, .inr (0, zf0))] s.heap.size = A at hD ⊢
  have hA : ∀ q : Nat, s.heap.size ≤ q → A q := fun q h => by rw [← hAe]; exact Or.inr h
  have hS : va_S A s.heap s.heap [] := va_S.rf
  have harr := hts (.arrayClass .int) (by decide +kernel)
  have hl := lv_entry ([.ref h0]) (n := 2) (Nat.le_of_ble_eq_true rfl)
  rw [lg_entry_eq]
  generalize (lg_sl ([.ref h0]) ++ List.replicate (2 - (lg_sl ([.ref h0])).length) Slot.unset).toArray = ls at hl ⊢
  have hl : lv_has ls 2 [(0, .ref h0)] := hl
  refine lv_aload_n hx hb dX0_init_0 rfl (lv_at hl 0 rfl) ?_
  refine W.objInit hx hb hown (hts (.methodLink RX0 1 objectInit) (by decide +kernel)) (hts (.instanceMethod objectInit) (by decide +kernel)) (hts _ (List.mem_cons_of_mem _ (List.mem_append_left _ (List.mem_of_getElem? (i := 2) rfl)))) rfl (by rw [hml]; exact hl.1) rfl dX0_init_1 (Nat.le_of_ble_eq_true rfl) (Nat.le_of_ble_eq_true rfl) ?_
  refine W.eq (g2 := F0 m 4 ls []) rfl ?_
  refine lv_aload_n hx hb dX0_init_4 rfl (lv_at hl 0 rfl) ?_
  refine lv_bipush (v := iI 6) hx hb dX0_init_5 (by decide) ?_
  refine va_newa hx hb (atype := .int) (ty := .int) (a0 := (6, .inl (fun _ => iI 0))) harr rfl hK hP hD hS hA (fun _ => by rw [iI_0]; rfl) (N' := 6) (by rw [← iI_0, iI_lt ⟨by decide, by decide⟩ rng0]; decide) (by rw [iI_cl (by decide) (by decide)]; rfl) (Nat.le_of_ble_eq_true rfl) (Nat.le_of_ble_eq_true rfl) (Nat.le_of_ble_eq_true rfl) dX0_init_7 (fun q1 cA' H hK1 hP hD hS => ?_)
  have hcA : cA = cA' := by
    have h1 : s.vm.findClass ("[" ++ FieldType.int.toString) = some cA' := (hK1.2 1 (cA', .int) rfl).2
    have h2 : s.vm.findClass ("[" ++ FieldType.int.toString) = some cA := (hK.2 0 (cA, .int) rfl).2
    exact Option.some.inj (h2.symm.trans h1)
  subst hcA
  clear hK1
  have hP : va_P D vwCl [(h0, .inr (0, [.int 0, .null, .null, .null, .null, .null, .null, .null, .null, .null, .int 0, .null, .null, .null, .int 0, .int 0])), (q1, .inl (cA, 6, .inl (fun _ => iI 0)))] H := hP
  have hD : va_D A [(h0, .inr (0, [.int 0, .null, .null, .null, .null, .null, .null, .null, .null, .null, .int 0, .null, .null, .null, .int 0, .int 0])), (q1, .inl (cA, 6, .inl (fun _ => iI 0)))] := hD
  refine va_putF (D := D) (ci := 0) (v := .ref q1) (ty := .array .int) (C := RX0) (T := TX0) (N := 16) hx hb hts hinw tyX0 tyX0_ok nmX0 hown hK hP hD hS 0 rfl rfl 1 (by decide) (hts (.fieldLink RX0 9 "CellTrays" "kindSize" "[I") (by decide +kernel)) (fun _ h9 => h9) rfl hin rfl (by decide +kernel) rfl rfl (Nat.le_of_ble_eq_true rfl) dX0_init_9 (fun H locs hP hD hS => ?_)
  have hP : va_P D vwCl [(h0, .inr (0, [.int 0, .ref q1, .null, .null, .null, .null, .null, .null, .null, .null, .int 0, .null, .null, .null, .int 0, .int 0])), (q1, .inl (cA, 6, .inl (fun _ => iI 0)))] H := hP
  have hD : va_D A [(h0, .inr (0, [.int 0, .ref q1, .null, .null, .null, .null, .null, .null, .null, .null, .int 0, .null, .null, .null, .int 0, .int 0])), (q1, .inl (cA, 6, .inl (fun _ => iI 0)))] := hD
  refine lv_aload_n hx hb dX0_init_12 rfl (lv_at hl 0 rfl) ?_
  refine lv_bipush (v := iI 6) hx hb dX0_init_13 (by decide) ?_
  refine va_newa hx hb (atype := .int) (ty := .int) (a0 := (6, .inl (fun _ => iI 0))) harr rfl hK hP hD hS hA (fun _ => by rw [iI_0]; rfl) (N' := 6) (by rw [← iI_0, iI_lt ⟨by decide, by decide⟩ rng0]; decide) (by rw [iI_cl (by decide) (by decide)]; rfl) (Nat.le_of_ble_eq_true rfl) (Nat.le_of_ble_eq_true rfl) (Nat.le_of_ble_eq_true rfl) dX0_init_15 (fun q2 cA' H hK1 hP hD hS => ?_)
  have hcA : cA = cA' := by
    have h1 : s.vm.findClass ("[" ++ FieldType.int.toString) = some cA' := (hK1.2 1 (cA', .int) rfl).2
    have h2 : s.vm.findClass ("[" ++ FieldType.int.toString) = some cA := (hK.2 0 (cA, .int) rfl).2
    exact Option.some.inj (h2.symm.trans h1)
  subst hcA
  clear hK1
  have hP : va_P D vwCl [(h0, .inr (0, [.int 0, .ref q1, .null, .null, .null, .null, .null, .null, .null, .null, .int 0, .null, .null, .null, .int 0, .int 0])), (q1, .inl (cA, 6, .inl (fun _ => iI 0))), (q2, .inl (cA, 6, .inl (fun _ => iI 0)))] H := hP
  have hD : va_D A [(h0, .inr (0, [.int 0, .ref q1, .null, .null, .null, .null, .null, .null, .null, .null, .int 0, .null, .null, .null, .int 0, .int 0])), (q1, .inl (cA, 6, .inl (fun _ => iI 0))), (q2, .inl (cA, 6, .inl (fun _ => iI 0)))] := hD
  refine va_putF (D := D) (ci := 0) (v := .ref q2) (ty := .array .int) (C := RX0) (T := TX0) (N := 16) hx hb hts hinw tyX0 tyX0_ok nmX0 hown hK hP hD hS 0 rfl rfl 2 (by decide) (hts (.fieldLink RX0 13 "CellTrays" "kindStep" "[I") (by decide +kernel)) (fun _ h9 => h9) rfl hin rfl (by decide +kernel) rfl rfl (Nat.le_of_ble_eq_true rfl) dX0_init_17 (fun H locs hP hD hS => ?_)
  have hP : va_P D vwCl [(h0, .inr (0, [.int 0, .ref q1, .ref q2, .null, .null, .null, .null, .null, .null, .null, .int 0, .null, .null, .null, .int 0, .int 0])), (q1, .inl (cA, 6, .inl (fun _ => iI 0))), (q2, .inl (cA, 6, .inl (fun _ => iI 0)))] H := hP
  have hD : va_D A [(h0, .inr (0, [.int 0, .ref q1, .ref q2, .null, .null, .null, .null, .null, .null, .null, .int 0, .null, .null, .null, .int 0, .int 0])), (q1, .inl (cA, 6, .inl (fun _ => iI 0))), (q2, .inl (cA, 6, .inl (fun _ => iI 0)))] := hD
  refine lv_aload_n hx hb dX0_init_20 rfl (lv_at hl 0 rfl) ?_
  refine lv_bipush (v := iI 6) hx hb dX0_init_21 (by decide) ?_
  refine va_newa hx hb (atype := .int) (ty := .int) (a0 := (6, .inl (fun _ => iI 0))) harr rfl hK hP hD hS hA (fun _ => by rw [iI_0]; rfl) (N' := 6) (by rw [← iI_0, iI_lt ⟨by decide, by decide⟩ rng0]; decide) (by rw [iI_cl (by decide) (by decide)]; rfl) (Nat.le_of_ble_eq_true rfl) (Nat.le_of_ble_eq_true rfl) (Nat.le_of_ble_eq_true rfl) dX0_init_23 (fun q3 cA' H hK1 hP hD hS => ?_)
  have hcA : cA = cA' := by
    have h1 : s.vm.findClass ("[" ++ FieldType.int.toString) = some cA' := (hK1.2 1 (cA', .int) rfl).2
    have h2 : s.vm.findClass ("[" ++ FieldType.int.toString) = some cA := (hK.2 0 (cA, .int) rfl).2
    exact Option.some.inj (h2.symm.trans h1)
  subst hcA
  clear hK1
  have hP : va_P D vwCl [(h0, .inr (0, [.int 0, .ref q1, .ref q2, .null, .null, .null, .null, .null, .null, .null, .int 0, .null, .null, .null, .int 0, .int 0])), (q1, .inl (cA, 6, .inl (fun _ => iI 0))), (q2, .inl (cA, 6, .inl (fun _ => iI 0))), (q3, .inl (cA, 6, .inl (fun _ => iI 0)))] H := hP
  have hD : va_D A [(h0, .inr (0, [.int 0, .ref q1, .ref q2, .null, .null, .null, .null, .null, .null, .null, .int 0, .null, .null, .null, .int 0, .int 0])), (q1, .inl (cA, 6, .inl (fun _ => iI 0))), (q2, .inl (cA, 6, .inl (fun _ => iI 0))), (q3, .inl (cA, 6, .inl (fun _ => iI 0)))] := hD
  refine va_putF (D := D) (ci := 0) (v := .ref q3) (ty := .array .int) (C := RX0) (T := TX0) (N := 16) hx hb hts hinw tyX0 tyX0_ok nmX0 hown hK hP hD hS 0 rfl rfl 3 (by decide) (hts (.fieldLink RX0 16 "CellTrays" "kindCells" "[I") (by decide +kernel)) (fun _ h9 => h9) rfl hin rfl (by decide +kernel) rfl rfl (Nat.le_of_ble_eq_true rfl) dX0_init_25 (fun H locs hP hD hS => ?_)
  have hP : va_P D vwCl [(h0, .inr (0, [.int 0, .ref q1, .ref q2, .ref q3, .null, .null, .null, .null, .null, .null, .int 0, .null, .null, .null, .int 0, .int 0])), (q1, .inl (cA, 6, .inl (fun _ => iI 0))), (q2, .inl (cA, 6, .inl (fun _ => iI 0))), (q3, .inl (cA, 6, .inl (fun _ => iI 0)))] H := hP
  have hD : va_D A [(h0, .inr (0, [.int 0, .ref q1, .ref q2, .ref q3, .null, .null, .null, .null, .null, .null, .int 0, .null, .null, .null, .int 0, .int 0])), (q1, .inl (cA, 6, .inl (fun _ => iI 0))), (q2, .inl (cA, 6, .inl (fun _ => iI 0))), (q3, .inl (cA, 6, .inl (fun _ => iI 0)))] := hD
  refine lv_aload_n hx hb dX0_init_28 rfl (lv_at hl 0 rfl) ?_
  refine lv_bipush (v := iI 6) hx hb dX0_init_29 (by decide) ?_
  refine va_newa hx hb (atype := .int) (ty := .int) (a0 := (6, .inl (fun _ => iI 0))) harr rfl hK hP hD hS hA (fun _ => by rw [iI_0]; rfl) (N' := 6) (by rw [← iI_0, iI_lt ⟨by decide, by decide⟩ rng0]; decide) (by rw [iI_cl (by decide) (by decide)]; rfl) (Nat.le_of_ble_eq_true rfl) (Nat.le_of_ble_eq_true rfl) (Nat.le_of_ble_eq_true rfl) dX0_init_31 (fun q4 cA' H hK1 hP hD hS => ?_)
  have hcA : cA = cA' := by
    have h1 : s.vm.findClass ("[" ++ FieldType.int.toString) = some cA' := (hK1.2 1 (cA', .int) rfl).2
    have h2 : s.vm.findClass ("[" ++ FieldType.int.toString) = some cA := (hK.2 0 (cA, .int) rfl).2
    exact Option.some.inj (h2.symm.trans h1)
  subst hcA
  clear hK1
  have hP : va_P D vwCl [(h0, .inr (0, [.int 0, .ref q1, .ref q2, .ref q3, .null, .null, .null, .null, .null, .null, .int 0, .null, .null, .null, .int 0, .int 0])), (q1, .inl (cA, 6, .inl (fun _ => iI 0))), (q2, .inl (cA, 6, .inl (fun _ => iI 0))), (q3, .inl (cA, 6, .inl (fun _ => iI 0))), (q4, .inl (cA, 6, .inl (fun _ => iI 0)))] H := hP
  have hD : va_D A [(h0, .inr (0, [.int 0, .ref q1, .ref q2, .ref q3, .null, .null, .null, .null, .null, .null, .int 0, .null, .null, .null, .int 0, .int 0])), (q1, .inl (cA, 6, .inl (fun _ => iI 0))), (q2, .inl (cA, 6, .inl (fun _ => iI 0))), (q3, .inl (cA, 6, .inl (fun _ => iI 0))), (q4, .inl (cA, 6, .inl (fun _ => iI 0)))] := hD
  refine va_putF (D := D) (ci := 0) (v := .ref q4) (ty := .array .int) (C := RX0) (T := TX0) (N := 16) hx hb hts hinw tyX0 tyX0_ok nmX0 hown hK hP hD hS 0 rfl rfl 4 (by decide) (hts (.fieldLink RX0 19 "CellTrays" "kindRest" "[I") (by decide +kernel)) (fun _ h9 => h9) rfl hin rfl (by decide +kernel) rfl rfl (Nat.le_of_ble_eq_true rfl) dX0_init_33 (fun H locs hP hD hS => ?_)
  have hP : va_P D vwCl [(h0, .inr (0, [.int 0, .ref q1, .ref q2, .ref q3, .ref q4, .null, .null, .null, .null, .null, .int 0, .null, .null, .null, .int 0, .int 0])), (q1, .inl (cA, 6, .inl (fun _ => iI 0))), (q2, .inl (cA, 6, .inl (fun _ => iI 0))), (q3, .inl (cA, 6, .inl (fun _ => iI 0))), (q4, .inl (cA, 6, .inl (fun _ => iI 0)))] H := hP
  have hD : va_D A [(h0, .inr (0, [.int 0, .ref q1, .ref q2, .ref q3, .ref q4, .null, .null, .null, .null, .null, .int 0, .null, .null, .null, .int 0, .int 0])), (q1, .inl (cA, 6, .inl (fun _ => iI 0))), (q2, .inl (cA, 6, .inl (fun _ => iI 0))), (q3, .inl (cA, 6, .inl (fun _ => iI 0))), (q4, .inl (cA, 6, .inl (fun _ => iI 0)))] := hD
  refine lv_aload_n hx hb dX0_init_36 rfl (lv_at hl 0 rfl) ?_
  refine lv_bipush (v := iI 6) hx hb dX0_init_37 (by decide) ?_
  refine va_newa hx hb (atype := .int) (ty := .int) (a0 := (6, .inl (fun _ => iI 0))) harr rfl hK hP hD hS hA (fun _ => by rw [iI_0]; rfl) (N' := 6) (by rw [← iI_0, iI_lt ⟨by decide, by decide⟩ rng0]; decide) (by rw [iI_cl (by decide) (by decide)]; rfl) (Nat.le_of_ble_eq_true rfl) (Nat.le_of_ble_eq_true rfl) (Nat.le_of_ble_eq_true rfl) dX0_init_39 (fun q5 cA' H hK1 hP hD hS => ?_)
  have hcA : cA = cA' := by
    have h1 : s.vm.findClass ("[" ++ FieldType.int.toString) = some cA' := (hK1.2 1 (cA', .int) rfl).2
    have h2 : s.vm.findClass ("[" ++ FieldType.int.toString) = some cA := (hK.2 0 (cA, .int) rfl).2
    exact Option.some.inj (h2.symm.trans h1)
  subst hcA
  clear hK1
  have hP : va_P D vwCl [(h0, .inr (0, [.int 0, .ref q1, .ref q2, .ref q3, .ref q4, .null, .null, .null, .null, .null, .int 0, .null, .null, .null, .int 0, .int 0])), (q1, .inl (cA, 6, .inl (fun _ => iI 0))), (q2, .inl (cA, 6, .inl (fun _ => iI 0))), (q3, .inl (cA, 6, .inl (fun _ => iI 0))), (q4, .inl (cA, 6, .inl (fun _ => iI 0))), (q5, .inl (cA, 6, .inl (fun _ => iI 0)))] H := hP
  have hD : va_D A [(h0, .inr (0, [.int 0, .ref q1, .ref q2, .ref q3, .ref q4, .null, .null, .null, .null, .null, .int 0, .null, .null, .null, .int 0, .int 0])), (q1, .inl (cA, 6, .inl (fun _ => iI 0))), (q2, .inl (cA, 6, .inl (fun _ => iI 0))), (q3, .inl (cA, 6, .inl (fun _ => iI 0))), (q4, .inl (cA, 6, .inl (fun _ => iI 0))), (q5, .inl (cA, 6, .inl (fun _ => iI 0)))] := hD
  refine va_putF (D := D) (ci := 0) (v := .ref q5) (ty := .array .int) (C := RX0) (T := TX0) (N := 16) hx hb hts hinw tyX0 tyX0_ok nmX0 hown hK hP hD hS 0 rfl rfl 5 (by decide) (hts (.fieldLink RX0 22 "CellTrays" "kindNextOffset" "[I") (by decide +kernel)) (fun _ h9 => h9) rfl hin rfl (by decide +kernel) rfl rfl (Nat.le_of_ble_eq_true rfl) dX0_init_41 (fun H locs hP hD hS => ?_)
  have hP : va_P D vwCl [(h0, .inr (0, [.int 0, .ref q1, .ref q2, .ref q3, .ref q4, .ref q5, .null, .null, .null, .null, .int 0, .null, .null, .null, .int 0, .int 0])), (q1, .inl (cA, 6, .inl (fun _ => iI 0))), (q2, .inl (cA, 6, .inl (fun _ => iI 0))), (q3, .inl (cA, 6, .inl (fun _ => iI 0))), (q4, .inl (cA, 6, .inl (fun _ => iI 0))), (q5, .inl (cA, 6, .inl (fun _ => iI 0)))] H := hP
  have hD : va_D A [(h0, .inr (0, [.int 0, .ref q1, .ref q2, .ref q3, .ref q4, .ref q5, .null, .null, .null, .null, .int 0, .null, .null, .null, .int 0, .int 0])), (q1, .inl (cA, 6, .inl (fun _ => iI 0))), (q2, .inl (cA, 6, .inl (fun _ => iI 0))), (q3, .inl (cA, 6, .inl (fun _ => iI 0))), (q4, .inl (cA, 6, .inl (fun _ => iI 0))), (q5, .inl (cA, 6, .inl (fun _ => iI 0)))] := hD
  refine lv_aload_n hx hb dX0_init_44 rfl (lv_at hl 0 rfl) ?_
  refine lv_bipush (v := iI 20) hx hb dX0_init_45 (by decide) ?_
  refine va_newa hx hb (atype := .int) (ty := .int) (a0 := (20, .inl (fun _ => iI 0))) harr rfl hK hP hD hS hA (fun _ => by rw [iI_0]; rfl) (N' := 20) (by rw [← iI_0, iI_lt ⟨by decide, by decide⟩ rng0]; decide) (by rw [iI_cl (by decide) (by decide)]; rfl) (Nat.le_of_ble_eq_true rfl) (Nat.le_of_ble_eq_true rfl) (Nat.le_of_ble_eq_true rfl) dX0_init_47 (fun q6 cA' H hK1 hP hD hS => ?_)
  have hcA : cA = cA' := by
    have h1 : s.vm.findClass ("[" ++ FieldType.int.toString) = some cA' := (hK1.2 1 (cA', .int) rfl).2
    have h2 : s.vm.findClass ("[" ++ FieldType.int.toString) = some cA := (hK.2 0 (cA, .int) rfl).2
    exact Option.some.inj (h2.symm.trans h1)
  subst hcA
  clear hK1
  have hP : va_P D vwCl [(h0, .inr (0, [.int 0, .ref q1, .ref q2, .ref q3, .ref q4, .ref q5, .null, .null, .null, .null, .int 0, .null, .null, .null, .int 0, .int 0])), (q1, .inl (cA, 6, .inl (fun _ => iI 0))), (q2, .inl (cA, 6, .inl (fun _ => iI 0))), (q3, .inl (cA, 6, .inl (fun _ => iI 0))), (q4, .inl (cA, 6, .inl (fun _ => iI 0))), (q5, .inl (cA, 6, .inl (fun _ => iI 0))), (q6, .inl (cA, 20, .inl (fun _ => iI 0)))] H := hP
  have hD : va_D A [(h0, .inr (0, [.int 0, .ref q1, .ref q2, .ref q3, .ref q4, .ref q5, .null, .null, .null, .null, .int 0, .null, .null, .null, .int 0, .int 0])), (q1, .inl (cA, 6, .inl (fun _ => iI 0))), (q2, .inl (cA, 6, .inl (fun _ => iI 0))), (q3, .inl (cA, 6, .inl (fun _ => iI 0))), (q4, .inl (cA, 6, .inl (fun _ => iI 0))), (q5, .inl (cA, 6, .inl (fun _ => iI 0))), (q6, .inl (cA, 20, .inl (fun _ => iI 0)))] := hD
  refine va_putF (D := D) (ci := 0) (v := .ref q6) (ty := .array .int) (C := RX0) (T := TX0) (N := 16) hx hb hts hinw tyX0 tyX0_ok nmX0 hown hK hP hD hS 0 rfl rfl 6 (by decide) (hts (.fieldLink RX0 25 "CellTrays" "trayKind" "[I") (by decide +kernel)) (fun _ h9 => h9) rfl hin rfl (by decide +kernel) rfl rfl (Nat.le_of_ble_eq_true rfl) dX0_init_49 (fun H locs hP hD hS => ?_)
  have hP : va_P D vwCl [(h0, .inr (0, [.int 0, .ref q1, .ref q2, .ref q3, .ref q4, .ref q5, .ref q6, .null, .null, .null, .int 0, .null, .null, .null, .int 0, .int 0])), (q1, .inl (cA, 6, .inl (fun _ => iI 0))), (q2, .inl (cA, 6, .inl (fun _ => iI 0))), (q3, .inl (cA, 6, .inl (fun _ => iI 0))), (q4, .inl (cA, 6, .inl (fun _ => iI 0))), (q5, .inl (cA, 6, .inl (fun _ => iI 0))), (q6, .inl (cA, 20, .inl (fun _ => iI 0)))] H := hP
  have hD : va_D A [(h0, .inr (0, [.int 0, .ref q1, .ref q2, .ref q3, .ref q4, .ref q5, .ref q6, .null, .null, .null, .int 0, .null, .null, .null, .int 0, .int 0])), (q1, .inl (cA, 6, .inl (fun _ => iI 0))), (q2, .inl (cA, 6, .inl (fun _ => iI 0))), (q3, .inl (cA, 6, .inl (fun _ => iI 0))), (q4, .inl (cA, 6, .inl (fun _ => iI 0))), (q5, .inl (cA, 6, .inl (fun _ => iI 0))), (q6, .inl (cA, 20, .inl (fun _ => iI 0)))] := hD
  refine lv_aload_n hx hb dX0_init_52 rfl (lv_at hl 0 rfl) ?_
  refine lv_bipush (v := iI 20) hx hb dX0_init_53 (by decide) ?_
  refine va_newa hx hb (atype := .int) (ty := .int) (a0 := (20, .inl (fun _ => iI 0))) harr rfl hK hP hD hS hA (fun _ => by rw [iI_0]; rfl) (N' := 20) (by rw [← iI_0, iI_lt ⟨by decide, by decide⟩ rng0]; decide) (by rw [iI_cl (by decide) (by decide)]; rfl) (Nat.le_of_ble_eq_true rfl) (Nat.le_of_ble_eq_true rfl) (Nat.le_of_ble_eq_true rfl) dX0_init_55 (fun q7 cA' H hK1 hP hD hS => ?_)
  have hcA : cA = cA' := by
    have h1 : s.vm.findClass ("[" ++ FieldType.int.toString) = some cA' := (hK1.2 1 (cA', .int) rfl).2
    have h2 : s.vm.findClass ("[" ++ FieldType.int.toString) = some cA := (hK.2 0 (cA, .int) rfl).2
    exact Option.some.inj (h2.symm.trans h1)
  subst hcA
  clear hK1
  have hP : va_P D vwCl [(h0, .inr (0, [.int 0, .ref q1, .ref q2, .ref q3, .ref q4, .ref q5, .ref q6, .null, .null, .null, .int 0, .null, .null, .null, .int 0, .int 0])), (q1, .inl (cA, 6, .inl (fun _ => iI 0))), (q2, .inl (cA, 6, .inl (fun _ => iI 0))), (q3, .inl (cA, 6, .inl (fun _ => iI 0))), (q4, .inl (cA, 6, .inl (fun _ => iI 0))), (q5, .inl (cA, 6, .inl (fun _ => iI 0))), (q6, .inl (cA, 20, .inl (fun _ => iI 0))), (q7, .inl (cA, 20, .inl (fun _ => iI 0)))] H := hP
  have hD : va_D A [(h0, .inr (0, [.int 0, .ref q1, .ref q2, .ref q3, .ref q4, .ref q5, .ref q6, .null, .null, .null, .int 0, .null, .null, .null, .int 0, .int 0])), (q1, .inl (cA, 6, .inl (fun _ => iI 0))), (q2, .inl (cA, 6, .inl (fun _ => iI 0))), (q3, .inl (cA, 6, .inl (fun _ => iI 0))), (q4, .inl (cA, 6, .inl (fun _ => iI 0))), (q5, .inl (cA, 6, .inl (fun _ => iI 0))), (q6, .inl (cA, 20, .inl (fun _ => iI 0))), (q7, .inl (cA, 20, .inl (fun _ => iI 0)))] := hD
  refine va_putF (D := D) (ci := 0) (v := .ref q7) (ty := .array .int) (C := RX0) (T := TX0) (N := 16) hx hb hts hinw tyX0 tyX0_ok nmX0 hown hK hP hD hS 0 rfl rfl 7 (by decide) (hts (.fieldLink RX0 28 "CellTrays" "trayOffset" "[I") (by decide +kernel)) (fun _ h9 => h9) rfl hin rfl (by decide +kernel) rfl rfl (Nat.le_of_ble_eq_true rfl) dX0_init_57 (fun H locs hP hD hS => ?_)
  have hP : va_P D vwCl [(h0, .inr (0, [.int 0, .ref q1, .ref q2, .ref q3, .ref q4, .ref q5, .ref q6, .ref q7, .null, .null, .int 0, .null, .null, .null, .int 0, .int 0])), (q1, .inl (cA, 6, .inl (fun _ => iI 0))), (q2, .inl (cA, 6, .inl (fun _ => iI 0))), (q3, .inl (cA, 6, .inl (fun _ => iI 0))), (q4, .inl (cA, 6, .inl (fun _ => iI 0))), (q5, .inl (cA, 6, .inl (fun _ => iI 0))), (q6, .inl (cA, 20, .inl (fun _ => iI 0))), (q7, .inl (cA, 20, .inl (fun _ => iI 0)))] H := hP
  have hD : va_D A [(h0, .inr (0, [.int 0, .ref q1, .ref q2, .ref q3, .ref q4, .ref q5, .ref q6, .ref q7, .null, .null, .int 0, .null, .null, .null, .int 0, .int 0])), (q1, .inl (cA, 6, .inl (fun _ => iI 0))), (q2, .inl (cA, 6, .inl (fun _ => iI 0))), (q3, .inl (cA, 6, .inl (fun _ => iI 0))), (q4, .inl (cA, 6, .inl (fun _ => iI 0))), (q5, .inl (cA, 6, .inl (fun _ => iI 0))), (q6, .inl (cA, 20, .inl (fun _ => iI 0))), (q7, .inl (cA, 20, .inl (fun _ => iI 0)))] := hD
  refine lv_aload_n hx hb dX0_init_60 rfl (lv_at hl 0 rfl) ?_
  refine lv_bipush (v := iI 20) hx hb dX0_init_61 (by decide) ?_
  refine va_newa hx hb (atype := .int) (ty := .int) (a0 := (20, .inl (fun _ => iI 0))) harr rfl hK hP hD hS hA (fun _ => by rw [iI_0]; rfl) (N' := 20) (by rw [← iI_0, iI_lt ⟨by decide, by decide⟩ rng0]; decide) (by rw [iI_cl (by decide) (by decide)]; rfl) (Nat.le_of_ble_eq_true rfl) (Nat.le_of_ble_eq_true rfl) (Nat.le_of_ble_eq_true rfl) dX0_init_63 (fun q8 cA' H hK1 hP hD hS => ?_)
  have hcA : cA = cA' := by
    have h1 : s.vm.findClass ("[" ++ FieldType.int.toString) = some cA' := (hK1.2 1 (cA', .int) rfl).2
    have h2 : s.vm.findClass ("[" ++ FieldType.int.toString) = some cA := (hK.2 0 (cA, .int) rfl).2
    exact Option.some.inj (h2.symm.trans h1)
  subst hcA
  clear hK1
  have hP : va_P D vwCl [(h0, .inr (0, [.int 0, .ref q1, .ref q2, .ref q3, .ref q4, .ref q5, .ref q6, .ref q7, .null, .null, .int 0, .null, .null, .null, .int 0, .int 0])), (q1, .inl (cA, 6, .inl (fun _ => iI 0))), (q2, .inl (cA, 6, .inl (fun _ => iI 0))), (q3, .inl (cA, 6, .inl (fun _ => iI 0))), (q4, .inl (cA, 6, .inl (fun _ => iI 0))), (q5, .inl (cA, 6, .inl (fun _ => iI 0))), (q6, .inl (cA, 20, .inl (fun _ => iI 0))), (q7, .inl (cA, 20, .inl (fun _ => iI 0))), (q8, .inl (cA, 20, .inl (fun _ => iI 0)))] H := hP
  have hD : va_D A [(h0, .inr (0, [.int 0, .ref q1, .ref q2, .ref q3, .ref q4, .ref q5, .ref q6, .ref q7, .null, .null, .int 0, .null, .null, .null, .int 0, .int 0])), (q1, .inl (cA, 6, .inl (fun _ => iI 0))), (q2, .inl (cA, 6, .inl (fun _ => iI 0))), (q3, .inl (cA, 6, .inl (fun _ => iI 0))), (q4, .inl (cA, 6, .inl (fun _ => iI 0))), (q5, .inl (cA, 6, .inl (fun _ => iI 0))), (q6, .inl (cA, 20, .inl (fun _ => iI 0))), (q7, .inl (cA, 20, .inl (fun _ => iI 0))), (q8, .inl (cA, 20, .inl (fun _ => iI 0)))] := hD
  refine va_putF (D := D) (ci := 0) (v := .ref q8) (ty := .array .int) (C := RX0) (T := TX0) (N := 16) hx hb hts hinw tyX0 tyX0_ok nmX0 hown hK hP hD hS 0 rfl rfl 8 (by decide) (hts (.fieldLink RX0 31 "CellTrays" "trayThings" "[I") (by decide +kernel)) (fun _ h9 => h9) rfl hin rfl (by decide +kernel) rfl rfl (Nat.le_of_ble_eq_true rfl) dX0_init_65 (fun H locs hP hD hS => ?_)
  have hP : va_P D vwCl [(h0, .inr (0, [.int 0, .ref q1, .ref q2, .ref q3, .ref q4, .ref q5, .ref q6, .ref q7, .ref q8, .null, .int 0, .null, .null, .null, .int 0, .int 0])), (q1, .inl (cA, 6, .inl (fun _ => iI 0))), (q2, .inl (cA, 6, .inl (fun _ => iI 0))), (q3, .inl (cA, 6, .inl (fun _ => iI 0))), (q4, .inl (cA, 6, .inl (fun _ => iI 0))), (q5, .inl (cA, 6, .inl (fun _ => iI 0))), (q6, .inl (cA, 20, .inl (fun _ => iI 0))), (q7, .inl (cA, 20, .inl (fun _ => iI 0))), (q8, .inl (cA, 20, .inl (fun _ => iI 0)))] H := hP
  have hD : va_D A [(h0, .inr (0, [.int 0, .ref q1, .ref q2, .ref q3, .ref q4, .ref q5, .ref q6, .ref q7, .ref q8, .null, .int 0, .null, .null, .null, .int 0, .int 0])), (q1, .inl (cA, 6, .inl (fun _ => iI 0))), (q2, .inl (cA, 6, .inl (fun _ => iI 0))), (q3, .inl (cA, 6, .inl (fun _ => iI 0))), (q4, .inl (cA, 6, .inl (fun _ => iI 0))), (q5, .inl (cA, 6, .inl (fun _ => iI 0))), (q6, .inl (cA, 20, .inl (fun _ => iI 0))), (q7, .inl (cA, 20, .inl (fun _ => iI 0))), (q8, .inl (cA, 20, .inl (fun _ => iI 0)))] := hD
  refine lv_aload_n hx hb dX0_init_68 rfl (lv_at hl 0 rfl) ?_
  refine lv_sipush (v := iI 1280) hx hb dX0_init_69 (by decide) ?_
  refine va_newa hx hb (atype := .int) (ty := .int) (a0 := (1280, .inl (fun _ => iI 0))) harr rfl hK hP hD hS hA (fun _ => by rw [iI_0]; rfl) (N' := 1280) (by rw [← iI_0, iI_lt ⟨by decide, by decide⟩ rng0]; decide) (by rw [iI_cl (by decide) (by decide)]; rfl) (Nat.le_of_ble_eq_true rfl) (Nat.le_of_ble_eq_true rfl) (Nat.le_of_ble_eq_true rfl) dX0_init_72 (fun q9 cA' H hK1 hP hD hS => ?_)
  have hcA : cA = cA' := by
    have h1 : s.vm.findClass ("[" ++ FieldType.int.toString) = some cA' := (hK1.2 1 (cA', .int) rfl).2
    have h2 : s.vm.findClass ("[" ++ FieldType.int.toString) = some cA := (hK.2 0 (cA, .int) rfl).2
    exact Option.some.inj (h2.symm.trans h1)
  subst hcA
  clear hK1
  have hP : va_P D vwCl [(h0, .inr (0, [.int 0, .ref q1, .ref q2, .ref q3, .ref q4, .ref q5, .ref q6, .ref q7, .ref q8, .null, .int 0, .null, .null, .null, .int 0, .int 0])), (q1, .inl (cA, 6, .inl (fun _ => iI 0))), (q2, .inl (cA, 6, .inl (fun _ => iI 0))), (q3, .inl (cA, 6, .inl (fun _ => iI 0))), (q4, .inl (cA, 6, .inl (fun _ => iI 0))), (q5, .inl (cA, 6, .inl (fun _ => iI 0))), (q6, .inl (cA, 20, .inl (fun _ => iI 0))), (q7, .inl (cA, 20, .inl (fun _ => iI 0))), (q8, .inl (cA, 20, .inl (fun _ => iI 0))), (q9, .inl (cA, 1280, .inl (fun _ => iI 0)))] H := hP
  have hD : va_D A [(h0, .inr (0, [.int 0, .ref q1, .ref q2, .ref q3, .ref q4, .ref q5, .ref q6, .ref q7, .ref q8, .null, .int 0, .null, .null, .null, .int 0, .int 0])), (q1, .inl (cA, 6, .inl (fun _ => iI 0))), (q2, .inl (cA, 6, .inl (fun _ => iI 0))), (q3, .inl (cA, 6, .inl (fun _ => iI 0))), (q4, .inl (cA, 6, .inl (fun _ => iI 0))), (q5, .inl (cA, 6, .inl (fun _ => iI 0))), (q6, .inl (cA, 20, .inl (fun _ => iI 0))), (q7, .inl (cA, 20, .inl (fun _ => iI 0))), (q8, .inl (cA, 20, .inl (fun _ => iI 0))), (q9, .inl (cA, 1280, .inl (fun _ => iI 0)))] := hD
  refine va_putF (D := D) (ci := 0) (v := .ref q9) (ty := .array .int) (C := RX0) (T := TX0) (N := 16) hx hb hts hinw tyX0 tyX0_ok nmX0 hown hK hP hD hS 0 rfl rfl 9 (by decide) (hts (.fieldLink RX0 34 "CellTrays" "cellThing" "[I") (by decide +kernel)) (fun _ h9 => h9) rfl hin rfl (by decide +kernel) rfl rfl (Nat.le_of_ble_eq_true rfl) dX0_init_74 (fun H locs hP hD hS => ?_)
  have hP : va_P D vwCl [(h0, .inr (0, [.int 0, .ref q1, .ref q2, .ref q3, .ref q4, .ref q5, .ref q6, .ref q7, .ref q8, .ref q9, .int 0, .null, .null, .null, .int 0, .int 0])), (q1, .inl (cA, 6, .inl (fun _ => iI 0))), (q2, .inl (cA, 6, .inl (fun _ => iI 0))), (q3, .inl (cA, 6, .inl (fun _ => iI 0))), (q4, .inl (cA, 6, .inl (fun _ => iI 0))), (q5, .inl (cA, 6, .inl (fun _ => iI 0))), (q6, .inl (cA, 20, .inl (fun _ => iI 0))), (q7, .inl (cA, 20, .inl (fun _ => iI 0))), (q8, .inl (cA, 20, .inl (fun _ => iI 0))), (q9, .inl (cA, 1280, .inl (fun _ => iI 0)))] H := hP
  have hD : va_D A [(h0, .inr (0, [.int 0, .ref q1, .ref q2, .ref q3, .ref q4, .ref q5, .ref q6, .ref q7, .ref q8, .ref q9, .int 0, .null, .null, .null, .int 0, .int 0])), (q1, .inl (cA, 6, .inl (fun _ => iI 0))), (q2, .inl (cA, 6, .inl (fun _ => iI 0))), (q3, .inl (cA, 6, .inl (fun _ => iI 0))), (q4, .inl (cA, 6, .inl (fun _ => iI 0))), (q5, .inl (cA, 6, .inl (fun _ => iI 0))), (q6, .inl (cA, 20, .inl (fun _ => iI 0))), (q7, .inl (cA, 20, .inl (fun _ => iI 0))), (q8, .inl (cA, 20, .inl (fun _ => iI 0))), (q9, .inl (cA, 1280, .inl (fun _ => iI 0)))] := hD
  refine lv_aload_n hx hb dX0_init_77 rfl (lv_at hl 0 rfl) ?_
  refine lv_sipush (v := iI 150) hx hb dX0_init_78 (by decide) ?_
  refine va_newa hx hb (atype := .int) (ty := .int) (a0 := (150, .inl (fun _ => iI 0))) harr rfl hK hP hD hS hA (fun _ => by rw [iI_0]; rfl) (N' := 150) (by rw [← iI_0, iI_lt ⟨by decide, by decide⟩ rng0]; decide) (by rw [iI_cl (by decide) (by decide)]; rfl) (Nat.le_of_ble_eq_true rfl) (Nat.le_of_ble_eq_true rfl) (Nat.le_of_ble_eq_true rfl) dX0_init_81 (fun q10 cA' H hK1 hP hD hS => ?_)
  have hcA : cA = cA' := by
    have h1 : s.vm.findClass ("[" ++ FieldType.int.toString) = some cA' := (hK1.2 1 (cA', .int) rfl).2
    have h2 : s.vm.findClass ("[" ++ FieldType.int.toString) = some cA := (hK.2 0 (cA, .int) rfl).2
    exact Option.some.inj (h2.symm.trans h1)
  subst hcA
  clear hK1
  have hP : va_P D vwCl [(h0, .inr (0, [.int 0, .ref q1, .ref q2, .ref q3, .ref q4, .ref q5, .ref q6, .ref q7, .ref q8, .ref q9, .int 0, .null, .null, .null, .int 0, .int 0])), (q1, .inl (cA, 6, .inl (fun _ => iI 0))), (q2, .inl (cA, 6, .inl (fun _ => iI 0))), (q3, .inl (cA, 6, .inl (fun _ => iI 0))), (q4, .inl (cA, 6, .inl (fun _ => iI 0))), (q5, .inl (cA, 6, .inl (fun _ => iI 0))), (q6, .inl (cA, 20, .inl (fun _ => iI 0))), (q7, .inl (cA, 20, .inl (fun _ => iI 0))), (q8, .inl (cA, 20, .inl (fun _ => iI 0))), (q9, .inl (cA, 1280, .inl (fun _ => iI 0))), (q10, .inl (cA, 150, .inl (fun _ => iI 0)))] H := hP
  have hD : va_D A [(h0, .inr (0, [.int 0, .ref q1, .ref q2, .ref q3, .ref q4, .ref q5, .ref q6, .ref q7, .ref q8, .ref q9, .int 0, .null, .null, .null, .int 0, .int 0])), (q1, .inl (cA, 6, .inl (fun _ => iI 0))), (q2, .inl (cA, 6, .inl (fun _ => iI 0))), (q3, .inl (cA, 6, .inl (fun _ => iI 0))), (q4, .inl (cA, 6, .inl (fun _ => iI 0))), (q5, .inl (cA, 6, .inl (fun _ => iI 0))), (q6, .inl (cA, 20, .inl (fun _ => iI 0))), (q7, .inl (cA, 20, .inl (fun _ => iI 0))), (q8, .inl (cA, 20, .inl (fun _ => iI 0))), (q9, .inl (cA, 1280, .inl (fun _ => iI 0))), (q10, .inl (cA, 150, .inl (fun _ => iI 0)))] := hD
  refine va_putF (D := D) (ci := 0) (v := .ref q10) (ty := .array .int) (C := RX0) (T := TX0) (N := 16) hx hb hts hinw tyX0 tyX0_ok nmX0 hown hK hP hD hS 0 rfl rfl 11 (by decide) (hts (.fieldLink RX0 37 "CellTrays" "thingKind" "[I") (by decide +kernel)) (fun _ h9 => h9) rfl hin rfl (by decide +kernel) rfl rfl (Nat.le_of_ble_eq_true rfl) dX0_init_83 (fun H locs hP hD hS => ?_)
  have hP : va_P D vwCl [(h0, .inr (0, [.int 0, .ref q1, .ref q2, .ref q3, .ref q4, .ref q5, .ref q6, .ref q7, .ref q8, .ref q9, .int 0, .ref q10, .null, .null, .int 0, .int 0])), (q1, .inl (cA, 6, .inl (fun _ => iI 0))), (q2, .inl (cA, 6, .inl (fun _ => iI 0))), (q3, .inl (cA, 6, .inl (fun _ => iI 0))), (q4, .inl (cA, 6, .inl (fun _ => iI 0))), (q5, .inl (cA, 6, .inl (fun _ => iI 0))), (q6, .inl (cA, 20, .inl (fun _ => iI 0))), (q7, .inl (cA, 20, .inl (fun _ => iI 0))), (q8, .inl (cA, 20, .inl (fun _ => iI 0))), (q9, .inl (cA, 1280, .inl (fun _ => iI 0))), (q10, .inl (cA, 150, .inl (fun _ => iI 0)))] H := hP
  have hD : va_D A [(h0, .inr (0, [.int 0, .ref q1, .ref q2, .ref q3, .ref q4, .ref q5, .ref q6, .ref q7, .ref q8, .ref q9, .int 0, .ref q10, .null, .null, .int 0, .int 0])), (q1, .inl (cA, 6, .inl (fun _ => iI 0))), (q2, .inl (cA, 6, .inl (fun _ => iI 0))), (q3, .inl (cA, 6, .inl (fun _ => iI 0))), (q4, .inl (cA, 6, .inl (fun _ => iI 0))), (q5, .inl (cA, 6, .inl (fun _ => iI 0))), (q6, .inl (cA, 20, .inl (fun _ => iI 0))), (q7, .inl (cA, 20, .inl (fun _ => iI 0))), (q8, .inl (cA, 20, .inl (fun _ => iI 0))), (q9, .inl (cA, 1280, .inl (fun _ => iI 0))), (q10, .inl (cA, 150, .inl (fun _ => iI 0)))] := hD
  refine lv_aload_n hx hb dX0_init_86 rfl (lv_at hl 0 rfl) ?_
  refine lv_sipush (v := iI 150) hx hb dX0_init_87 (by decide) ?_
  refine va_newa hx hb (atype := .int) (ty := .int) (a0 := (150, .inl (fun _ => iI 0))) harr rfl hK hP hD hS hA (fun _ => by rw [iI_0]; rfl) (N' := 150) (by rw [← iI_0, iI_lt ⟨by decide, by decide⟩ rng0]; decide) (by rw [iI_cl (by decide) (by decide)]; rfl) (Nat.le_of_ble_eq_true rfl) (Nat.le_of_ble_eq_true rfl) (Nat.le_of_ble_eq_true rfl) dX0_init_90 (fun q11 cA' H hK1 hP hD hS => ?_)
  have hcA : cA = cA' := by
    have h1 : s.vm.findClass ("[" ++ FieldType.int.toString) = some cA' := (hK1.2 1 (cA', .int) rfl).2
    have h2 : s.vm.findClass ("[" ++ FieldType.int.toString) = some cA := (hK.2 0 (cA, .int) rfl).2
    exact Option.some.inj (h2.symm.trans h1)
  subst hcA
  clear hK1
  have hP : va_P D vwCl [(h0, .inr (0, [.int 0, .ref q1, .ref q2, .ref q3, .ref q4, .ref q5, .ref q6, .ref q7, .ref q8, .ref q9, .int 0, .ref q10, .null, .null, .int 0, .int 0])), (q1, .inl (cA, 6, .inl (fun _ => iI 0))), (q2, .inl (cA, 6, .inl (fun _ => iI 0))), (q3, .inl (cA, 6, .inl (fun _ => iI 0))), (q4, .inl (cA, 6, .inl (fun _ => iI 0))), (q5, .inl (cA, 6, .inl (fun _ => iI 0))), (q6, .inl (cA, 20, .inl (fun _ => iI 0))), (q7, .inl (cA, 20, .inl (fun _ => iI 0))), (q8, .inl (cA, 20, .inl (fun _ => iI 0))), (q9, .inl (cA, 1280, .inl (fun _ => iI 0))), (q10, .inl (cA, 150, .inl (fun _ => iI 0))), (q11, .inl (cA, 150, .inl (fun _ => iI 0)))] H := hP
  have hD : va_D A [(h0, .inr (0, [.int 0, .ref q1, .ref q2, .ref q3, .ref q4, .ref q5, .ref q6, .ref q7, .ref q8, .ref q9, .int 0, .ref q10, .null, .null, .int 0, .int 0])), (q1, .inl (cA, 6, .inl (fun _ => iI 0))), (q2, .inl (cA, 6, .inl (fun _ => iI 0))), (q3, .inl (cA, 6, .inl (fun _ => iI 0))), (q4, .inl (cA, 6, .inl (fun _ => iI 0))), (q5, .inl (cA, 6, .inl (fun _ => iI 0))), (q6, .inl (cA, 20, .inl (fun _ => iI 0))), (q7, .inl (cA, 20, .inl (fun _ => iI 0))), (q8, .inl (cA, 20, .inl (fun _ => iI 0))), (q9, .inl (cA, 1280, .inl (fun _ => iI 0))), (q10, .inl (cA, 150, .inl (fun _ => iI 0))), (q11, .inl (cA, 150, .inl (fun _ => iI 0)))] := hD
  refine va_putF (D := D) (ci := 0) (v := .ref q11) (ty := .array .int) (C := RX0) (T := TX0) (N := 16) hx hb hts hinw tyX0 tyX0_ok nmX0 hown hK hP hD hS 0 rfl rfl 12 (by decide) (hts (.fieldLink RX0 40 "CellTrays" "thingPlace" "[I") (by decide +kernel)) (fun _ h9 => h9) rfl hin rfl (by decide +kernel) rfl rfl (Nat.le_of_ble_eq_true rfl) dX0_init_92 (fun H locs hP hD hS => ?_)
  have hP : va_P D vwCl [(h0, .inr (0, [.int 0, .ref q1, .ref q2, .ref q3, .ref q4, .ref q5, .ref q6, .ref q7, .ref q8, .ref q9, .int 0, .ref q10, .ref q11, .null, .int 0, .int 0])), (q1, .inl (cA, 6, .inl (fun _ => iI 0))), (q2, .inl (cA, 6, .inl (fun _ => iI 0))), (q3, .inl (cA, 6, .inl (fun _ => iI 0))), (q4, .inl (cA, 6, .inl (fun _ => iI 0))), (q5, .inl (cA, 6, .inl (fun _ => iI 0))), (q6, .inl (cA, 20, .inl (fun _ => iI 0))), (q7, .inl (cA, 20, .inl (fun _ => iI 0))), (q8, .inl (cA, 20, .inl (fun _ => iI 0))), (q9, .inl (cA, 1280, .inl (fun _ => iI 0))), (q10, .inl (cA, 150, .inl (fun _ => iI 0))), (q11, .inl (cA, 150, .inl (fun _ => iI 0)))] H := hP
  have hD : va_D A [(h0, .inr (0, [.int 0, .ref q1, .ref q2, .ref q3, .ref q4, .ref q5, .ref q6, .ref q7, .ref q8, .ref q9, .int 0, .ref q10, .ref q11, .null, .int 0, .int 0])), (q1, .inl (cA, 6, .inl (fun _ => iI 0))), (q2, .inl (cA, 6, .inl (fun _ => iI 0))), (q3, .inl (cA, 6, .inl (fun _ => iI 0))), (q4, .inl (cA, 6, .inl (fun _ => iI 0))), (q5, .inl (cA, 6, .inl (fun _ => iI 0))), (q6, .inl (cA, 20, .inl (fun _ => iI 0))), (q7, .inl (cA, 20, .inl (fun _ => iI 0))), (q8, .inl (cA, 20, .inl (fun _ => iI 0))), (q9, .inl (cA, 1280, .inl (fun _ => iI 0))), (q10, .inl (cA, 150, .inl (fun _ => iI 0))), (q11, .inl (cA, 150, .inl (fun _ => iI 0)))] := hD
  refine lv_aload_n hx hb dX0_init_95 rfl (lv_at hl 0 rfl) ?_
  refine lv_sipush (v := iI 150) hx hb dX0_init_96 (by decide) ?_
  refine va_newa hx hb (atype := .int) (ty := .int) (a0 := (150, .inl (fun _ => iI 0))) harr rfl hK hP hD hS hA (fun _ => by rw [iI_0]; rfl) (N' := 150) (by rw [← iI_0, iI_lt ⟨by decide, by decide⟩ rng0]; decide) (by rw [iI_cl (by decide) (by decide)]; rfl) (Nat.le_of_ble_eq_true rfl) (Nat.le_of_ble_eq_true rfl) (Nat.le_of_ble_eq_true rfl) dX0_init_99 (fun q12 cA' H hK1 hP hD hS => ?_)
  have hcA : cA = cA' := by
    have h1 : s.vm.findClass ("[" ++ FieldType.int.toString) = some cA' := (hK1.2 1 (cA', .int) rfl).2
    have h2 : s.vm.findClass ("[" ++ FieldType.int.toString) = some cA := (hK.2 0 (cA, .int) rfl).2
    exact Option.some.inj (h2.symm.trans h1)
  subst hcA
  clear hK1
  have hP : va_P D vwCl [(h0, .inr (0, [.int 0, .ref q1, .ref q2, .ref q3, .ref q4, .ref q5, .ref q6, .ref q7, .ref q8, .ref q9, .int 0, .ref q10, .ref q11, .null, .int 0, .int 0])), (q1, .inl (cA, 6, .inl (fun _ => iI 0))), (q2, .inl (cA, 6, .inl (fun _ => iI 0))), (q3, .inl (cA, 6, .inl (fun _ => iI 0))), (q4, .inl (cA, 6, .inl (fun _ => iI 0))), (q5, .inl (cA, 6, .inl (fun _ => iI 0))), (q6, .inl (cA, 20, .inl (fun _ => iI 0))), (q7, .inl (cA, 20, .inl (fun _ => iI 0))), (q8, .inl (cA, 20, .inl (fun _ => iI 0))), (q9, .inl (cA, 1280, .inl (fun _ => iI 0))), (q10, .inl (cA, 150, .inl (fun _ => iI 0))), (q11, .inl (cA, 150, .inl (fun _ => iI 0))), (q12, .inl (cA, 150, .inl (fun _ => iI 0)))] H := hP
  have hD : va_D A [(h0, .inr (0, [.int 0, .ref q1, .ref q2, .ref q3, .ref q4, .ref q5, .ref q6, .ref q7, .ref q8, .ref q9, .int 0, .ref q10, .ref q11, .null, .int 0, .int 0])), (q1, .inl (cA, 6, .inl (fun _ => iI 0))), (q2, .inl (cA, 6, .inl (fun _ => iI 0))), (q3, .inl (cA, 6, .inl (fun _ => iI 0))), (q4, .inl (cA, 6, .inl (fun _ => iI 0))), (q5, .inl (cA, 6, .inl (fun _ => iI 0))), (q6, .inl (cA, 20, .inl (fun _ => iI 0))), (q7, .inl (cA, 20, .inl (fun _ => iI 0))), (q8, .inl (cA, 20, .inl (fun _ => iI 0))), (q9, .inl (cA, 1280, .inl (fun _ => iI 0))), (q10, .inl (cA, 150, .inl (fun _ => iI 0))), (q11, .inl (cA, 150, .inl (fun _ => iI 0))), (q12, .inl (cA, 150, .inl (fun _ => iI 0)))] := hD
  refine va_putF (D := D) (ci := 0) (v := .ref q12) (ty := .array .int) (C := RX0) (T := TX0) (N := 16) hx hb hts hinw tyX0 tyX0_ok nmX0 hown hK hP hD hS 0 rfl rfl 13 (by decide) (hts (.fieldLink RX0 43 "CellTrays" "thingCell" "[I") (by decide +kernel)) (fun _ h9 => h9) rfl hin rfl (by decide +kernel) rfl rfl (Nat.le_of_ble_eq_true rfl) dX0_init_101 (fun H locs hP hD hS => ?_)
  have hP : va_P D vwCl [(h0, .inr (0, [.int 0, .ref q1, .ref q2, .ref q3, .ref q4, .ref q5, .ref q6, .ref q7, .ref q8, .ref q9, .int 0, .ref q10, .ref q11, .ref q12, .int 0, .int 0])), (q1, .inl (cA, 6, .inl (fun _ => iI 0))), (q2, .inl (cA, 6, .inl (fun _ => iI 0))), (q3, .inl (cA, 6, .inl (fun _ => iI 0))), (q4, .inl (cA, 6, .inl (fun _ => iI 0))), (q5, .inl (cA, 6, .inl (fun _ => iI 0))), (q6, .inl (cA, 20, .inl (fun _ => iI 0))), (q7, .inl (cA, 20, .inl (fun _ => iI 0))), (q8, .inl (cA, 20, .inl (fun _ => iI 0))), (q9, .inl (cA, 1280, .inl (fun _ => iI 0))), (q10, .inl (cA, 150, .inl (fun _ => iI 0))), (q11, .inl (cA, 150, .inl (fun _ => iI 0))), (q12, .inl (cA, 150, .inl (fun _ => iI 0)))] H := hP
  have hD : va_D A [(h0, .inr (0, [.int 0, .ref q1, .ref q2, .ref q3, .ref q4, .ref q5, .ref q6, .ref q7, .ref q8, .ref q9, .int 0, .ref q10, .ref q11, .ref q12, .int 0, .int 0])), (q1, .inl (cA, 6, .inl (fun _ => iI 0))), (q2, .inl (cA, 6, .inl (fun _ => iI 0))), (q3, .inl (cA, 6, .inl (fun _ => iI 0))), (q4, .inl (cA, 6, .inl (fun _ => iI 0))), (q5, .inl (cA, 6, .inl (fun _ => iI 0))), (q6, .inl (cA, 20, .inl (fun _ => iI 0))), (q7, .inl (cA, 20, .inl (fun _ => iI 0))), (q8, .inl (cA, 20, .inl (fun _ => iI 0))), (q9, .inl (cA, 1280, .inl (fun _ => iI 0))), (q10, .inl (cA, 150, .inl (fun _ => iI 0))), (q11, .inl (cA, 150, .inl (fun _ => iI 0))), (q12, .inl (cA, 150, .inl (fun _ => iI 0)))] := hD
  obtain ⟨u, hu⟩ : ∃ u : Nat → Nat, u = (fun k => match k with | 0 => h0 | 1 => q1 | 2 => q2 | 3 => q3 | 4 => q4 | 5 => q5 | 6 => q6 | 7 => q7 | 8 => q8 | 9 => q9 | 11 => q10 | 12 => q11 | 13 => q12 | _ => 0) := ⟨_, rfl⟩
  have hP : va_P D vwCl (wdO cA 0 ly0 ja0 u SZ) H := by subst hu; exact hP
  have hD : va_D A (wdO cA 0 ly0 ja0 u SZ) := by subst hu; exact hD
  have hq0 : u 0 = h0 := by subst hu; rfl
  have hE : ∀ pc, decode cX0_init pc = .ok (.return_, 1) → ∀ lv st S, i_vret (eqv SI0) lv st S (OK p l e (headSpec wsX0_init rmI0).room s m #[.ref h0] below meth c (MQ below (va_Qv (fun (u : Nat → Nat) => u 0 = h0) (fun u t => va_P D vwCl (wdO cA 0 ly0 ja0 u SI0) t.heap ∧ va_D A (wdO cA 0 ly0 ja0 u SI0)) A) #[.ref h0] s 12 1820 A) D cA A 0 ly0 ja0 (fun a => a = u) (fun _ c n => c = 12 ∧ n = 1820) 2) → (OK p l e (headSpec wsX0_init rmI0).room s m #[.ref h0] below meth c (MQ below (va_Qv (fun (u : Nat → Nat) => u 0 = h0) (fun u t => va_P D vwCl (wdO cA 0 ly0 ja0 u SI0) t.heap ∧ va_D A (wdO cA 0 ly0 ja0 u SI0)) A) #[.ref h0] s 12 1820 A) D cA A 0 ly0 ja0 (fun a => a = u) (fun _ c n => c = 12 ∧ n = 1820) 2) pc lv st S := by
    intro pc hd lv st S h
    rcases st with _ | ⟨v, r⟩
    · have h9 : S = SI0 := h
      subst h9
      intro ad ha H9 locs9 ls9 cells slots hrr hP9 hD9 hS9 hL9
      subst ha
      obtain ⟨rfl, rfl⟩ := hrr
      exact W.vret hx hb hr (fun t ht hW => ⟨⟨ad, rfl, hq0, by rw [ht]; exact hP9, hD9⟩, hS9.F ht⟩) hS9.2.2 hd hlocks
    · exact h.elim
  exact run0_ini.elim (fun _ f => f _ (tab_closed (iniS0 hx hb hml hown hts hA hK hE)) u rfl H locs ls _ _ ⟨rfl, rfl⟩ hP hD hS (eLV_LR (ad := u) (av := [vR 0]) (n := 2) (by rw [← hq0] at hl; exact hl)))
abbrev zf1 : List Value := [.int 0, .int 0, .null, .null, .null, .null, .null, .null, .null, .int 0, .null, .null, .null, .int 0, .int 0]
abbrev rmI1 : Room := { frames := 2, cells := 10, slots := 1808, locals := 60 }
set_option maxHeartbeats 4000000 in
set_option maxRecDepth 100000 in
theorem ini1 (l : Launch) (D : va_G) (cA : ClassId) (h0 sz : Nat) : Met l yX1_init wsX1_init rmI1 (va_Pc [.ref h0] (fun U => U.heap.size = sz ∧ va_P D vwCl [(h0, .inr (1, zf1))] U.heap ∧ va_K D vwCl [(cA, .int)] U ∧ va_D (fun _ => True) [(h0, .inr (1, zf1))])) (va_Qv (fun (u : Nat → Nat) => u 0 = h0) (fun u t => va_P D vwCl (wdO cA 1 ly1 ja1 u SI1) t.heap ∧ va_D (va_A [(h0, .inr (1, zf1))] sz) (wdO cA 1 ly1 ja1 u SI1)) (va_A [(h0, .inr (1, zf1))] sz)) 10 1808 (va_A [(h0, .inr (1, zf1))] sz) := by
  refine Met.ofW (cc := cX1_init) (maxL := 2) (ret := none) (by decide) rfl ?_
  intro p e s m args below meth c s₁ B hml hv
  obtain ⟨rfl, hsz, hP, hK, hD0⟩ := hv
  have hx := B.exec
  have hb := B.bytes
  have hr := B.returns
  have hts := atoms_spec (ws := wsX1_init) B.pre
  have hown : s.vm.findClass RX1 = some m.cls := findClass_of_methodNamed B.named
  have hlocks := B.notSynchronized
  have hin : meth.name = "<init>" := (name_of_methodNamed B.named B.method).1
  have hinw : ∀ w ∈ u_ws RX1 TX1 15, w ∈ wsX1_init := fun w h => List.mem_cons_of_mem _ (List.mem_append_right _ h)
  subst hsz
  have hD := hD0.self (sz := s.heap.size)
  generalize hAe : va_A [(h0, .inr (1, zf1))] s.heap.size = A at hD ⊢
  have hA : ∀ q : Nat, s.heap.size ≤ q → A q := fun q h => by rw [← hAe]; exact Or.inr h
  have hS : va_S A s.heap s.heap [] := va_S.rf
  have harr := hts (.arrayClass .int) (by decide +kernel)
  have hl := lv_entry ([.ref h0]) (n := 2) (Nat.le_of_ble_eq_true rfl)
  rw [lg_entry_eq]
  generalize (lg_sl ([.ref h0]) ++ List.replicate (2 - (lg_sl ([.ref h0])).length) Slot.unset).toArray = ls at hl ⊢
  have hl : lv_has ls 2 [(0, .ref h0)] := hl
  refine lv_aload_n hx hb dX1_init_0 rfl (lv_at hl 0 rfl) ?_
  refine W.objInit hx hb hown (hts (.methodLink RX1 1 objectInit) (by decide +kernel)) (hts (.instanceMethod objectInit) (by decide +kernel)) (hts _ (List.mem_cons_of_mem _ (List.mem_append_left _ (List.mem_of_getElem? (i := 2) rfl)))) rfl (by rw [hml]; exact hl.1) rfl dX1_init_1 (Nat.le_of_ble_eq_true rfl) (Nat.le_of_ble_eq_true rfl) ?_
  refine W.eq (g2 := F0 m 4 ls []) rfl ?_
  refine lv_aload_n hx hb dX1_init_4 rfl (lv_at hl 0 rfl) ?_
  refine lv_bipush (v := iI 6) hx hb dX1_init_5 (by decide) ?_
  refine va_newa hx hb (atype := .int) (ty := .int) (a0 := (6, .inl (fun _ => iI 0))) harr rfl hK hP hD hS hA (fun _ => by rw [iI_0]; rfl) (N' := 6) (by rw [← iI_0, iI_lt ⟨by decide, by decide⟩ rng0]; decide) (by rw [iI_cl (by decide) (by decide)]; rfl) (Nat.le_of_ble_eq_true rfl) (Nat.le_of_ble_eq_true rfl) (Nat.le_of_ble_eq_true rfl) dX1_init_7 (fun q1 cA' H hK1 hP hD hS => ?_)
  have hcA : cA = cA' := by
    have h1 : s.vm.findClass ("[" ++ FieldType.int.toString) = some cA' := (hK1.2 1 (cA', .int) rfl).2
    have h2 : s.vm.findClass ("[" ++ FieldType.int.toString) = some cA := (hK.2 0 (cA, .int) rfl).2
    exact Option.some.inj (h2.symm.trans h1)
  subst hcA
  clear hK1
  have hP : va_P D vwCl [(h0, .inr (1, [.int 0, .int 0, .null, .null, .null, .null, .null, .null, .null, .int 0, .null, .null, .null, .int 0, .int 0])), (q1, .inl (cA, 6, .inl (fun _ => iI 0)))] H := hP
  have hD : va_D A [(h0, .inr (1, [.int 0, .int 0, .null, .null, .null, .null, .null, .null, .null, .int 0, .null, .null, .null, .int 0, .int 0])), (q1, .inl (cA, 6, .inl (fun _ => iI 0)))] := hD
  refine va_putF (D := D) (ci := 1) (v := .ref q1) (ty := .array .int) (C := RX1) (T := TX1) (N := 15) hx hb hts hinw tyX1 tyX1_ok nmX1 hown hK hP hD hS 0 rfl rfl 2 (by decide) (hts (.fieldLink RX1 9 "CellTraysModel" "size" "[I") (by decide +kernel)) (fun _ h9 => h9) rfl hin rfl (by decide +kernel) rfl rfl (Nat.le_of_ble_eq_true rfl) dX1_init_9 (fun H locs hP hD hS => ?_)
  have hP : va_P D vwCl [(h0, .inr (1, [.int 0, .int 0, .ref q1, .null, .null, .null, .null, .null, .null, .int 0, .null, .null, .null, .int 0, .int 0])), (q1, .inl (cA, 6, .inl (fun _ => iI 0)))] H := hP
  have hD : va_D A [(h0, .inr (1, [.int 0, .int 0, .ref q1, .null, .null, .null, .null, .null, .null, .int 0, .null, .null, .null, .int 0, .int 0])), (q1, .inl (cA, 6, .inl (fun _ => iI 0)))] := hD
  refine lv_aload_n hx hb dX1_init_12 rfl (lv_at hl 0 rfl) ?_
  refine lv_bipush (v := iI 6) hx hb dX1_init_13 (by decide) ?_
  refine va_newa hx hb (atype := .int) (ty := .int) (a0 := (6, .inl (fun _ => iI 0))) harr rfl hK hP hD hS hA (fun _ => by rw [iI_0]; rfl) (N' := 6) (by rw [← iI_0, iI_lt ⟨by decide, by decide⟩ rng0]; decide) (by rw [iI_cl (by decide) (by decide)]; rfl) (Nat.le_of_ble_eq_true rfl) (Nat.le_of_ble_eq_true rfl) (Nat.le_of_ble_eq_true rfl) dX1_init_15 (fun q2 cA' H hK1 hP hD hS => ?_)
  have hcA : cA = cA' := by
    have h1 : s.vm.findClass ("[" ++ FieldType.int.toString) = some cA' := (hK1.2 1 (cA', .int) rfl).2
    have h2 : s.vm.findClass ("[" ++ FieldType.int.toString) = some cA := (hK.2 0 (cA, .int) rfl).2
    exact Option.some.inj (h2.symm.trans h1)
  subst hcA
  clear hK1
  have hP : va_P D vwCl [(h0, .inr (1, [.int 0, .int 0, .ref q1, .null, .null, .null, .null, .null, .null, .int 0, .null, .null, .null, .int 0, .int 0])), (q1, .inl (cA, 6, .inl (fun _ => iI 0))), (q2, .inl (cA, 6, .inl (fun _ => iI 0)))] H := hP
  have hD : va_D A [(h0, .inr (1, [.int 0, .int 0, .ref q1, .null, .null, .null, .null, .null, .null, .int 0, .null, .null, .null, .int 0, .int 0])), (q1, .inl (cA, 6, .inl (fun _ => iI 0))), (q2, .inl (cA, 6, .inl (fun _ => iI 0)))] := hD
  refine va_putF (D := D) (ci := 1) (v := .ref q2) (ty := .array .int) (C := RX1) (T := TX1) (N := 15) hx hb hts hinw tyX1 tyX1_ok nmX1 hown hK hP hD hS 0 rfl rfl 3 (by decide) (hts (.fieldLink RX1 13 "CellTraysModel" "step" "[I") (by decide +kernel)) (fun _ h9 => h9) rfl hin rfl (by decide +kernel) rfl rfl (Nat.le_of_ble_eq_true rfl) dX1_init_17 (fun H locs hP hD hS => ?_)
  have hP : va_P D vwCl [(h0, .inr (1, [.int 0, .int 0, .ref q1, .ref q2, .null, .null, .null, .null, .null, .int 0, .null, .null, .null, .int 0, .int 0])), (q1, .inl (cA, 6, .inl (fun _ => iI 0))), (q2, .inl (cA, 6, .inl (fun _ => iI 0)))] H := hP
  have hD : va_D A [(h0, .inr (1, [.int 0, .int 0, .ref q1, .ref q2, .null, .null, .null, .null, .null, .int 0, .null, .null, .null, .int 0, .int 0])), (q1, .inl (cA, 6, .inl (fun _ => iI 0))), (q2, .inl (cA, 6, .inl (fun _ => iI 0)))] := hD
  refine lv_aload_n hx hb dX1_init_20 rfl (lv_at hl 0 rfl) ?_
  refine lv_bipush (v := iI 6) hx hb dX1_init_21 (by decide) ?_
  refine va_newa hx hb (atype := .int) (ty := .int) (a0 := (6, .inl (fun _ => iI 0))) harr rfl hK hP hD hS hA (fun _ => by rw [iI_0]; rfl) (N' := 6) (by rw [← iI_0, iI_lt ⟨by decide, by decide⟩ rng0]; decide) (by rw [iI_cl (by decide) (by decide)]; rfl) (Nat.le_of_ble_eq_true rfl) (Nat.le_of_ble_eq_true rfl) (Nat.le_of_ble_eq_true rfl) dX1_init_23 (fun q3 cA' H hK1 hP hD hS => ?_)
  have hcA : cA = cA' := by
    have h1 : s.vm.findClass ("[" ++ FieldType.int.toString) = some cA' := (hK1.2 1 (cA', .int) rfl).2
    have h2 : s.vm.findClass ("[" ++ FieldType.int.toString) = some cA := (hK.2 0 (cA, .int) rfl).2
    exact Option.some.inj (h2.symm.trans h1)
  subst hcA
  clear hK1
  have hP : va_P D vwCl [(h0, .inr (1, [.int 0, .int 0, .ref q1, .ref q2, .null, .null, .null, .null, .null, .int 0, .null, .null, .null, .int 0, .int 0])), (q1, .inl (cA, 6, .inl (fun _ => iI 0))), (q2, .inl (cA, 6, .inl (fun _ => iI 0))), (q3, .inl (cA, 6, .inl (fun _ => iI 0)))] H := hP
  have hD : va_D A [(h0, .inr (1, [.int 0, .int 0, .ref q1, .ref q2, .null, .null, .null, .null, .null, .int 0, .null, .null, .null, .int 0, .int 0])), (q1, .inl (cA, 6, .inl (fun _ => iI 0))), (q2, .inl (cA, 6, .inl (fun _ => iI 0))), (q3, .inl (cA, 6, .inl (fun _ => iI 0)))] := hD
  refine va_putF (D := D) (ci := 1) (v := .ref q3) (ty := .array .int) (C := RX1) (T := TX1) (N := 15) hx hb hts hinw tyX1 tyX1_ok nmX1 hown hK hP hD hS 0 rfl rfl 4 (by decide) (hts (.fieldLink RX1 16 "CellTraysModel" "next" "[I") (by decide +kernel)) (fun _ h9 => h9) rfl hin rfl (by decide +kernel) rfl rfl (Nat.le_of_ble_eq_true rfl) dX1_init_25 (fun H locs hP hD hS => ?_)
  have hP : va_P D vwCl [(h0, .inr (1, [.int 0, .int 0, .ref q1, .ref q2, .ref q3, .null, .null, .null, .null, .int 0, .null, .null, .null, .int 0, .int 0])), (q1, .inl (cA, 6, .inl (fun _ => iI 0))), (q2, .inl (cA, 6, .inl (fun _ => iI 0))), (q3, .inl (cA, 6, .inl (fun _ => iI 0)))] H := hP
  have hD : va_D A [(h0, .inr (1, [.int 0, .int 0, .ref q1, .ref q2, .ref q3, .null, .null, .null, .null, .int 0, .null, .null, .null, .int 0, .int 0])), (q1, .inl (cA, 6, .inl (fun _ => iI 0))), (q2, .inl (cA, 6, .inl (fun _ => iI 0))), (q3, .inl (cA, 6, .inl (fun _ => iI 0)))] := hD
  refine lv_aload_n hx hb dX1_init_28 rfl (lv_at hl 0 rfl) ?_
  refine lv_bipush (v := iI 20) hx hb dX1_init_29 (by decide) ?_
  refine va_newa hx hb (atype := .int) (ty := .int) (a0 := (20, .inl (fun _ => iI 0))) harr rfl hK hP hD hS hA (fun _ => by rw [iI_0]; rfl) (N' := 20) (by rw [← iI_0, iI_lt ⟨by decide, by decide⟩ rng0]; decide) (by rw [iI_cl (by decide) (by decide)]; rfl) (Nat.le_of_ble_eq_true rfl) (Nat.le_of_ble_eq_true rfl) (Nat.le_of_ble_eq_true rfl) dX1_init_31 (fun q4 cA' H hK1 hP hD hS => ?_)
  have hcA : cA = cA' := by
    have h1 : s.vm.findClass ("[" ++ FieldType.int.toString) = some cA' := (hK1.2 1 (cA', .int) rfl).2
    have h2 : s.vm.findClass ("[" ++ FieldType.int.toString) = some cA := (hK.2 0 (cA, .int) rfl).2
    exact Option.some.inj (h2.symm.trans h1)
  subst hcA
  clear hK1
  have hP : va_P D vwCl [(h0, .inr (1, [.int 0, .int 0, .ref q1, .ref q2, .ref q3, .null, .null, .null, .null, .int 0, .null, .null, .null, .int 0, .int 0])), (q1, .inl (cA, 6, .inl (fun _ => iI 0))), (q2, .inl (cA, 6, .inl (fun _ => iI 0))), (q3, .inl (cA, 6, .inl (fun _ => iI 0))), (q4, .inl (cA, 20, .inl (fun _ => iI 0)))] H := hP
  have hD : va_D A [(h0, .inr (1, [.int 0, .int 0, .ref q1, .ref q2, .ref q3, .null, .null, .null, .null, .int 0, .null, .null, .null, .int 0, .int 0])), (q1, .inl (cA, 6, .inl (fun _ => iI 0))), (q2, .inl (cA, 6, .inl (fun _ => iI 0))), (q3, .inl (cA, 6, .inl (fun _ => iI 0))), (q4, .inl (cA, 20, .inl (fun _ => iI 0)))] := hD
  refine va_putF (D := D) (ci := 1) (v := .ref q4) (ty := .array .int) (C := RX1) (T := TX1) (N := 15) hx hb hts hinw tyX1 tyX1_ok nmX1 hown hK hP hD hS 0 rfl rfl 5 (by decide) (hts (.fieldLink RX1 19 "CellTraysModel" "of" "[I") (by decide +kernel)) (fun _ h9 => h9) rfl hin rfl (by decide +kernel) rfl rfl (Nat.le_of_ble_eq_true rfl) dX1_init_33 (fun H locs hP hD hS => ?_)
  have hP : va_P D vwCl [(h0, .inr (1, [.int 0, .int 0, .ref q1, .ref q2, .ref q3, .ref q4, .null, .null, .null, .int 0, .null, .null, .null, .int 0, .int 0])), (q1, .inl (cA, 6, .inl (fun _ => iI 0))), (q2, .inl (cA, 6, .inl (fun _ => iI 0))), (q3, .inl (cA, 6, .inl (fun _ => iI 0))), (q4, .inl (cA, 20, .inl (fun _ => iI 0)))] H := hP
  have hD : va_D A [(h0, .inr (1, [.int 0, .int 0, .ref q1, .ref q2, .ref q3, .ref q4, .null, .null, .null, .int 0, .null, .null, .null, .int 0, .int 0])), (q1, .inl (cA, 6, .inl (fun _ => iI 0))), (q2, .inl (cA, 6, .inl (fun _ => iI 0))), (q3, .inl (cA, 6, .inl (fun _ => iI 0))), (q4, .inl (cA, 20, .inl (fun _ => iI 0)))] := hD
  refine lv_aload_n hx hb dX1_init_36 rfl (lv_at hl 0 rfl) ?_
  refine lv_bipush (v := iI 20) hx hb dX1_init_37 (by decide) ?_
  refine va_newa hx hb (atype := .int) (ty := .int) (a0 := (20, .inl (fun _ => iI 0))) harr rfl hK hP hD hS hA (fun _ => by rw [iI_0]; rfl) (N' := 20) (by rw [← iI_0, iI_lt ⟨by decide, by decide⟩ rng0]; decide) (by rw [iI_cl (by decide) (by decide)]; rfl) (Nat.le_of_ble_eq_true rfl) (Nat.le_of_ble_eq_true rfl) (Nat.le_of_ble_eq_true rfl) dX1_init_39 (fun q5 cA' H hK1 hP hD hS => ?_)
  have hcA : cA = cA' := by
    have h1 : s.vm.findClass ("[" ++ FieldType.int.toString) = some cA' := (hK1.2 1 (cA', .int) rfl).2
    have h2 : s.vm.findClass ("[" ++ FieldType.int.toString) = some cA := (hK.2 0 (cA, .int) rfl).2
    exact Option.some.inj (h2.symm.trans h1)
  subst hcA
  clear hK1
  have hP : va_P D vwCl [(h0, .inr (1, [.int 0, .int 0, .ref q1, .ref q2, .ref q3, .ref q4, .null, .null, .null, .int 0, .null, .null, .null, .int 0, .int 0])), (q1, .inl (cA, 6, .inl (fun _ => iI 0))), (q2, .inl (cA, 6, .inl (fun _ => iI 0))), (q3, .inl (cA, 6, .inl (fun _ => iI 0))), (q4, .inl (cA, 20, .inl (fun _ => iI 0))), (q5, .inl (cA, 20, .inl (fun _ => iI 0)))] H := hP
  have hD : va_D A [(h0, .inr (1, [.int 0, .int 0, .ref q1, .ref q2, .ref q3, .ref q4, .null, .null, .null, .int 0, .null, .null, .null, .int 0, .int 0])), (q1, .inl (cA, 6, .inl (fun _ => iI 0))), (q2, .inl (cA, 6, .inl (fun _ => iI 0))), (q3, .inl (cA, 6, .inl (fun _ => iI 0))), (q4, .inl (cA, 20, .inl (fun _ => iI 0))), (q5, .inl (cA, 20, .inl (fun _ => iI 0)))] := hD
  refine va_putF (D := D) (ci := 1) (v := .ref q5) (ty := .array .int) (C := RX1) (T := TX1) (N := 15) hx hb hts hinw tyX1 tyX1_ok nmX1 hown hK hP hD hS 0 rfl rfl 6 (by decide) (hts (.fieldLink RX1 22 "CellTraysModel" "offset" "[I") (by decide +kernel)) (fun _ h9 => h9) rfl hin rfl (by decide +kernel) rfl rfl (Nat.le_of_ble_eq_true rfl) dX1_init_41 (fun H locs hP hD hS => ?_)
  have hP : va_P D vwCl [(h0, .inr (1, [.int 0, .int 0, .ref q1, .ref q2, .ref q3, .ref q4, .ref q5, .null, .null, .int 0, .null, .null, .null, .int 0, .int 0])), (q1, .inl (cA, 6, .inl (fun _ => iI 0))), (q2, .inl (cA, 6, .inl (fun _ => iI 0))), (q3, .inl (cA, 6, .inl (fun _ => iI 0))), (q4, .inl (cA, 20, .inl (fun _ => iI 0))), (q5, .inl (cA, 20, .inl (fun _ => iI 0)))] H := hP
  have hD : va_D A [(h0, .inr (1, [.int 0, .int 0, .ref q1, .ref q2, .ref q3, .ref q4, .ref q5, .null, .null, .int 0, .null, .null, .null, .int 0, .int 0])), (q1, .inl (cA, 6, .inl (fun _ => iI 0))), (q2, .inl (cA, 6, .inl (fun _ => iI 0))), (q3, .inl (cA, 6, .inl (fun _ => iI 0))), (q4, .inl (cA, 20, .inl (fun _ => iI 0))), (q5, .inl (cA, 20, .inl (fun _ => iI 0)))] := hD
  refine lv_aload_n hx hb dX1_init_44 rfl (lv_at hl 0 rfl) ?_
  refine lv_bipush (v := iI 20) hx hb dX1_init_45 (by decide) ?_
  refine va_newa hx hb (atype := .int) (ty := .int) (a0 := (20, .inl (fun _ => iI 0))) harr rfl hK hP hD hS hA (fun _ => by rw [iI_0]; rfl) (N' := 20) (by rw [← iI_0, iI_lt ⟨by decide, by decide⟩ rng0]; decide) (by rw [iI_cl (by decide) (by decide)]; rfl) (Nat.le_of_ble_eq_true rfl) (Nat.le_of_ble_eq_true rfl) (Nat.le_of_ble_eq_true rfl) dX1_init_47 (fun q6 cA' H hK1 hP hD hS => ?_)
  have hcA : cA = cA' := by
    have h1 : s.vm.findClass ("[" ++ FieldType.int.toString) = some cA' := (hK1.2 1 (cA', .int) rfl).2
    have h2 : s.vm.findClass ("[" ++ FieldType.int.toString) = some cA := (hK.2 0 (cA, .int) rfl).2
    exact Option.some.inj (h2.symm.trans h1)
  subst hcA
  clear hK1
  have hP : va_P D vwCl [(h0, .inr (1, [.int 0, .int 0, .ref q1, .ref q2, .ref q3, .ref q4, .ref q5, .null, .null, .int 0, .null, .null, .null, .int 0, .int 0])), (q1, .inl (cA, 6, .inl (fun _ => iI 0))), (q2, .inl (cA, 6, .inl (fun _ => iI 0))), (q3, .inl (cA, 6, .inl (fun _ => iI 0))), (q4, .inl (cA, 20, .inl (fun _ => iI 0))), (q5, .inl (cA, 20, .inl (fun _ => iI 0))), (q6, .inl (cA, 20, .inl (fun _ => iI 0)))] H := hP
  have hD : va_D A [(h0, .inr (1, [.int 0, .int 0, .ref q1, .ref q2, .ref q3, .ref q4, .ref q5, .null, .null, .int 0, .null, .null, .null, .int 0, .int 0])), (q1, .inl (cA, 6, .inl (fun _ => iI 0))), (q2, .inl (cA, 6, .inl (fun _ => iI 0))), (q3, .inl (cA, 6, .inl (fun _ => iI 0))), (q4, .inl (cA, 20, .inl (fun _ => iI 0))), (q5, .inl (cA, 20, .inl (fun _ => iI 0))), (q6, .inl (cA, 20, .inl (fun _ => iI 0)))] := hD
  refine va_putF (D := D) (ci := 1) (v := .ref q6) (ty := .array .int) (C := RX1) (T := TX1) (N := 15) hx hb hts hinw tyX1 tyX1_ok nmX1 hown hK hP hD hS 0 rfl rfl 7 (by decide) (hts (.fieldLink RX1 25 "CellTraysModel" "many" "[I") (by decide +kernel)) (fun _ h9 => h9) rfl hin rfl (by decide +kernel) rfl rfl (Nat.le_of_ble_eq_true rfl) dX1_init_49 (fun H locs hP hD hS => ?_)
  have hP : va_P D vwCl [(h0, .inr (1, [.int 0, .int 0, .ref q1, .ref q2, .ref q3, .ref q4, .ref q5, .ref q6, .null, .int 0, .null, .null, .null, .int 0, .int 0])), (q1, .inl (cA, 6, .inl (fun _ => iI 0))), (q2, .inl (cA, 6, .inl (fun _ => iI 0))), (q3, .inl (cA, 6, .inl (fun _ => iI 0))), (q4, .inl (cA, 20, .inl (fun _ => iI 0))), (q5, .inl (cA, 20, .inl (fun _ => iI 0))), (q6, .inl (cA, 20, .inl (fun _ => iI 0)))] H := hP
  have hD : va_D A [(h0, .inr (1, [.int 0, .int 0, .ref q1, .ref q2, .ref q3, .ref q4, .ref q5, .ref q6, .null, .int 0, .null, .null, .null, .int 0, .int 0])), (q1, .inl (cA, 6, .inl (fun _ => iI 0))), (q2, .inl (cA, 6, .inl (fun _ => iI 0))), (q3, .inl (cA, 6, .inl (fun _ => iI 0))), (q4, .inl (cA, 20, .inl (fun _ => iI 0))), (q5, .inl (cA, 20, .inl (fun _ => iI 0))), (q6, .inl (cA, 20, .inl (fun _ => iI 0)))] := hD
  refine lv_aload_n hx hb dX1_init_52 rfl (lv_at hl 0 rfl) ?_
  refine lv_sipush (v := iI 1280) hx hb dX1_init_53 (by decide) ?_
  refine va_newa hx hb (atype := .int) (ty := .int) (a0 := (1280, .inl (fun _ => iI 0))) harr rfl hK hP hD hS hA (fun _ => by rw [iI_0]; rfl) (N' := 1280) (by rw [← iI_0, iI_lt ⟨by decide, by decide⟩ rng0]; decide) (by rw [iI_cl (by decide) (by decide)]; rfl) (Nat.le_of_ble_eq_true rfl) (Nat.le_of_ble_eq_true rfl) (Nat.le_of_ble_eq_true rfl) dX1_init_56 (fun q7 cA' H hK1 hP hD hS => ?_)
  have hcA : cA = cA' := by
    have h1 : s.vm.findClass ("[" ++ FieldType.int.toString) = some cA' := (hK1.2 1 (cA', .int) rfl).2
    have h2 : s.vm.findClass ("[" ++ FieldType.int.toString) = some cA := (hK.2 0 (cA, .int) rfl).2
    exact Option.some.inj (h2.symm.trans h1)
  subst hcA
  clear hK1
  have hP : va_P D vwCl [(h0, .inr (1, [.int 0, .int 0, .ref q1, .ref q2, .ref q3, .ref q4, .ref q5, .ref q6, .null, .int 0, .null, .null, .null, .int 0, .int 0])), (q1, .inl (cA, 6, .inl (fun _ => iI 0))), (q2, .inl (cA, 6, .inl (fun _ => iI 0))), (q3, .inl (cA, 6, .inl (fun _ => iI 0))), (q4, .inl (cA, 20, .inl (fun _ => iI 0))), (q5, .inl (cA, 20, .inl (fun _ => iI 0))), (q6, .inl (cA, 20, .inl (fun _ => iI 0))), (q7, .inl (cA, 1280, .inl (fun _ => iI 0)))] H := hP
  have hD : va_D A [(h0, .inr (1, [.int 0, .int 0, .ref q1, .ref q2, .ref q3, .ref q4, .ref q5, .ref q6, .null, .int 0, .null, .null, .null, .int 0, .int 0])), (q1, .inl (cA, 6, .inl (fun _ => iI 0))), (q2, .inl (cA, 6, .inl (fun _ => iI 0))), (q3, .inl (cA, 6, .inl (fun _ => iI 0))), (q4, .inl (cA, 20, .inl (fun _ => iI 0))), (q5, .inl (cA, 20, .inl (fun _ => iI 0))), (q6, .inl (cA, 20, .inl (fun _ => iI 0))), (q7, .inl (cA, 1280, .inl (fun _ => iI 0)))] := hD
  refine va_putF (D := D) (ci := 1) (v := .ref q7) (ty := .array .int) (C := RX1) (T := TX1) (N := 15) hx hb hts hinw tyX1 tyX1_ok nmX1 hown hK hP hD hS 0 rfl rfl 8 (by decide) (hts (.fieldLink RX1 28 "CellTraysModel" "inside" "[I") (by decide +kernel)) (fun _ h9 => h9) rfl hin rfl (by decide +kernel) rfl rfl (Nat.le_of_ble_eq_true rfl) dX1_init_58 (fun H locs hP hD hS => ?_)
  have hP : va_P D vwCl [(h0, .inr (1, [.int 0, .int 0, .ref q1, .ref q2, .ref q3, .ref q4, .ref q5, .ref q6, .ref q7, .int 0, .null, .null, .null, .int 0, .int 0])), (q1, .inl (cA, 6, .inl (fun _ => iI 0))), (q2, .inl (cA, 6, .inl (fun _ => iI 0))), (q3, .inl (cA, 6, .inl (fun _ => iI 0))), (q4, .inl (cA, 20, .inl (fun _ => iI 0))), (q5, .inl (cA, 20, .inl (fun _ => iI 0))), (q6, .inl (cA, 20, .inl (fun _ => iI 0))), (q7, .inl (cA, 1280, .inl (fun _ => iI 0)))] H := hP
  have hD : va_D A [(h0, .inr (1, [.int 0, .int 0, .ref q1, .ref q2, .ref q3, .ref q4, .ref q5, .ref q6, .ref q7, .int 0, .null, .null, .null, .int 0, .int 0])), (q1, .inl (cA, 6, .inl (fun _ => iI 0))), (q2, .inl (cA, 6, .inl (fun _ => iI 0))), (q3, .inl (cA, 6, .inl (fun _ => iI 0))), (q4, .inl (cA, 20, .inl (fun _ => iI 0))), (q5, .inl (cA, 20, .inl (fun _ => iI 0))), (q6, .inl (cA, 20, .inl (fun _ => iI 0))), (q7, .inl (cA, 1280, .inl (fun _ => iI 0)))] := hD
  refine lv_aload_n hx hb dX1_init_61 rfl (lv_at hl 0 rfl) ?_
  refine lv_sipush (v := iI 150) hx hb dX1_init_62 (by decide) ?_
  refine va_newa hx hb (atype := .int) (ty := .int) (a0 := (150, .inl (fun _ => iI 0))) harr rfl hK hP hD hS hA (fun _ => by rw [iI_0]; rfl) (N' := 150) (by rw [← iI_0, iI_lt ⟨by decide, by decide⟩ rng0]; decide) (by rw [iI_cl (by decide) (by decide)]; rfl) (Nat.le_of_ble_eq_true rfl) (Nat.le_of_ble_eq_true rfl) (Nat.le_of_ble_eq_true rfl) dX1_init_65 (fun q8 cA' H hK1 hP hD hS => ?_)
  have hcA : cA = cA' := by
    have h1 : s.vm.findClass ("[" ++ FieldType.int.toString) = some cA' := (hK1.2 1 (cA', .int) rfl).2
    have h2 : s.vm.findClass ("[" ++ FieldType.int.toString) = some cA := (hK.2 0 (cA, .int) rfl).2
    exact Option.some.inj (h2.symm.trans h1)
  subst hcA
  clear hK1
  have hP : va_P D vwCl [(h0, .inr (1, [.int 0, .int 0, .ref q1, .ref q2, .ref q3, .ref q4, .ref q5, .ref q6, .ref q7, .int 0, .null, .null, .null, .int 0, .int 0])), (q1, .inl (cA, 6, .inl (fun _ => iI 0))), (q2, .inl (cA, 6, .inl (fun _ => iI 0))), (q3, .inl (cA, 6, .inl (fun _ => iI 0))), (q4, .inl (cA, 20, .inl (fun _ => iI 0))), (q5, .inl (cA, 20, .inl (fun _ => iI 0))), (q6, .inl (cA, 20, .inl (fun _ => iI 0))), (q7, .inl (cA, 1280, .inl (fun _ => iI 0))), (q8, .inl (cA, 150, .inl (fun _ => iI 0)))] H := hP
  have hD : va_D A [(h0, .inr (1, [.int 0, .int 0, .ref q1, .ref q2, .ref q3, .ref q4, .ref q5, .ref q6, .ref q7, .int 0, .null, .null, .null, .int 0, .int 0])), (q1, .inl (cA, 6, .inl (fun _ => iI 0))), (q2, .inl (cA, 6, .inl (fun _ => iI 0))), (q3, .inl (cA, 6, .inl (fun _ => iI 0))), (q4, .inl (cA, 20, .inl (fun _ => iI 0))), (q5, .inl (cA, 20, .inl (fun _ => iI 0))), (q6, .inl (cA, 20, .inl (fun _ => iI 0))), (q7, .inl (cA, 1280, .inl (fun _ => iI 0))), (q8, .inl (cA, 150, .inl (fun _ => iI 0)))] := hD
  refine va_putF (D := D) (ci := 1) (v := .ref q8) (ty := .array .int) (C := RX1) (T := TX1) (N := 15) hx hb hts hinw tyX1 tyX1_ok nmX1 hown hK hP hD hS 0 rfl rfl 10 (by decide) (hts (.fieldLink RX1 31 "CellTraysModel" "kindOf" "[I") (by decide +kernel)) (fun _ h9 => h9) rfl hin rfl (by decide +kernel) rfl rfl (Nat.le_of_ble_eq_true rfl) dX1_init_67 (fun H locs hP hD hS => ?_)
  have hP : va_P D vwCl [(h0, .inr (1, [.int 0, .int 0, .ref q1, .ref q2, .ref q3, .ref q4, .ref q5, .ref q6, .ref q7, .int 0, .ref q8, .null, .null, .int 0, .int 0])), (q1, .inl (cA, 6, .inl (fun _ => iI 0))), (q2, .inl (cA, 6, .inl (fun _ => iI 0))), (q3, .inl (cA, 6, .inl (fun _ => iI 0))), (q4, .inl (cA, 20, .inl (fun _ => iI 0))), (q5, .inl (cA, 20, .inl (fun _ => iI 0))), (q6, .inl (cA, 20, .inl (fun _ => iI 0))), (q7, .inl (cA, 1280, .inl (fun _ => iI 0))), (q8, .inl (cA, 150, .inl (fun _ => iI 0)))] H := hP
  have hD : va_D A [(h0, .inr (1, [.int 0, .int 0, .ref q1, .ref q2, .ref q3, .ref q4, .ref q5, .ref q6, .ref q7, .int 0, .ref q8, .null, .null, .int 0, .int 0])), (q1, .inl (cA, 6, .inl (fun _ => iI 0))), (q2, .inl (cA, 6, .inl (fun _ => iI 0))), (q3, .inl (cA, 6, .inl (fun _ => iI 0))), (q4, .inl (cA, 20, .inl (fun _ => iI 0))), (q5, .inl (cA, 20, .inl (fun _ => iI 0))), (q6, .inl (cA, 20, .inl (fun _ => iI 0))), (q7, .inl (cA, 1280, .inl (fun _ => iI 0))), (q8, .inl (cA, 150, .inl (fun _ => iI 0)))] := hD
  refine lv_aload_n hx hb dX1_init_70 rfl (lv_at hl 0 rfl) ?_
  refine lv_sipush (v := iI 150) hx hb dX1_init_71 (by decide) ?_
  refine va_newa hx hb (atype := .int) (ty := .int) (a0 := (150, .inl (fun _ => iI 0))) harr rfl hK hP hD hS hA (fun _ => by rw [iI_0]; rfl) (N' := 150) (by rw [← iI_0, iI_lt ⟨by decide, by decide⟩ rng0]; decide) (by rw [iI_cl (by decide) (by decide)]; rfl) (Nat.le_of_ble_eq_true rfl) (Nat.le_of_ble_eq_true rfl) (Nat.le_of_ble_eq_true rfl) dX1_init_74 (fun q9 cA' H hK1 hP hD hS => ?_)
  have hcA : cA = cA' := by
    have h1 : s.vm.findClass ("[" ++ FieldType.int.toString) = some cA' := (hK1.2 1 (cA', .int) rfl).2
    have h2 : s.vm.findClass ("[" ++ FieldType.int.toString) = some cA := (hK.2 0 (cA, .int) rfl).2
    exact Option.some.inj (h2.symm.trans h1)
  subst hcA
  clear hK1
  have hP : va_P D vwCl [(h0, .inr (1, [.int 0, .int 0, .ref q1, .ref q2, .ref q3, .ref q4, .ref q5, .ref q6, .ref q7, .int 0, .ref q8, .null, .null, .int 0, .int 0])), (q1, .inl (cA, 6, .inl (fun _ => iI 0))), (q2, .inl (cA, 6, .inl (fun _ => iI 0))), (q3, .inl (cA, 6, .inl (fun _ => iI 0))), (q4, .inl (cA, 20, .inl (fun _ => iI 0))), (q5, .inl (cA, 20, .inl (fun _ => iI 0))), (q6, .inl (cA, 20, .inl (fun _ => iI 0))), (q7, .inl (cA, 1280, .inl (fun _ => iI 0))), (q8, .inl (cA, 150, .inl (fun _ => iI 0))), (q9, .inl (cA, 150, .inl (fun _ => iI 0)))] H := hP
  have hD : va_D A [(h0, .inr (1, [.int 0, .int 0, .ref q1, .ref q2, .ref q3, .ref q4, .ref q5, .ref q6, .ref q7, .int 0, .ref q8, .null, .null, .int 0, .int 0])), (q1, .inl (cA, 6, .inl (fun _ => iI 0))), (q2, .inl (cA, 6, .inl (fun _ => iI 0))), (q3, .inl (cA, 6, .inl (fun _ => iI 0))), (q4, .inl (cA, 20, .inl (fun _ => iI 0))), (q5, .inl (cA, 20, .inl (fun _ => iI 0))), (q6, .inl (cA, 20, .inl (fun _ => iI 0))), (q7, .inl (cA, 1280, .inl (fun _ => iI 0))), (q8, .inl (cA, 150, .inl (fun _ => iI 0))), (q9, .inl (cA, 150, .inl (fun _ => iI 0)))] := hD
  refine va_putF (D := D) (ci := 1) (v := .ref q9) (ty := .array .int) (C := RX1) (T := TX1) (N := 15) hx hb hts hinw tyX1 tyX1_ok nmX1 hown hK hP hD hS 0 rfl rfl 11 (by decide) (hts (.fieldLink RX1 34 "CellTraysModel" "place" "[I") (by decide +kernel)) (fun _ h9 => h9) rfl hin rfl (by decide +kernel) rfl rfl (Nat.le_of_ble_eq_true rfl) dX1_init_76 (fun H locs hP hD hS => ?_)
  have hP : va_P D vwCl [(h0, .inr (1, [.int 0, .int 0, .ref q1, .ref q2, .ref q3, .ref q4, .ref q5, .ref q6, .ref q7, .int 0, .ref q8, .ref q9, .null, .int 0, .int 0])), (q1, .inl (cA, 6, .inl (fun _ => iI 0))), (q2, .inl (cA, 6, .inl (fun _ => iI 0))), (q3, .inl (cA, 6, .inl (fun _ => iI 0))), (q4, .inl (cA, 20, .inl (fun _ => iI 0))), (q5, .inl (cA, 20, .inl (fun _ => iI 0))), (q6, .inl (cA, 20, .inl (fun _ => iI 0))), (q7, .inl (cA, 1280, .inl (fun _ => iI 0))), (q8, .inl (cA, 150, .inl (fun _ => iI 0))), (q9, .inl (cA, 150, .inl (fun _ => iI 0)))] H := hP
  have hD : va_D A [(h0, .inr (1, [.int 0, .int 0, .ref q1, .ref q2, .ref q3, .ref q4, .ref q5, .ref q6, .ref q7, .int 0, .ref q8, .ref q9, .null, .int 0, .int 0])), (q1, .inl (cA, 6, .inl (fun _ => iI 0))), (q2, .inl (cA, 6, .inl (fun _ => iI 0))), (q3, .inl (cA, 6, .inl (fun _ => iI 0))), (q4, .inl (cA, 20, .inl (fun _ => iI 0))), (q5, .inl (cA, 20, .inl (fun _ => iI 0))), (q6, .inl (cA, 20, .inl (fun _ => iI 0))), (q7, .inl (cA, 1280, .inl (fun _ => iI 0))), (q8, .inl (cA, 150, .inl (fun _ => iI 0))), (q9, .inl (cA, 150, .inl (fun _ => iI 0)))] := hD
  refine lv_aload_n hx hb dX1_init_79 rfl (lv_at hl 0 rfl) ?_
  refine lv_sipush (v := iI 150) hx hb dX1_init_80 (by decide) ?_
  refine va_newa hx hb (atype := .int) (ty := .int) (a0 := (150, .inl (fun _ => iI 0))) harr rfl hK hP hD hS hA (fun _ => by rw [iI_0]; rfl) (N' := 150) (by rw [← iI_0, iI_lt ⟨by decide, by decide⟩ rng0]; decide) (by rw [iI_cl (by decide) (by decide)]; rfl) (Nat.le_of_ble_eq_true rfl) (Nat.le_of_ble_eq_true rfl) (Nat.le_of_ble_eq_true rfl) dX1_init_83 (fun q10 cA' H hK1 hP hD hS => ?_)
  have hcA : cA = cA' := by
    have h1 : s.vm.findClass ("[" ++ FieldType.int.toString) = some cA' := (hK1.2 1 (cA', .int) rfl).2
    have h2 : s.vm.findClass ("[" ++ FieldType.int.toString) = some cA := (hK.2 0 (cA, .int) rfl).2
    exact Option.some.inj (h2.symm.trans h1)
  subst hcA
  clear hK1
  have hP : va_P D vwCl [(h0, .inr (1, [.int 0, .int 0, .ref q1, .ref q2, .ref q3, .ref q4, .ref q5, .ref q6, .ref q7, .int 0, .ref q8, .ref q9, .null, .int 0, .int 0])), (q1, .inl (cA, 6, .inl (fun _ => iI 0))), (q2, .inl (cA, 6, .inl (fun _ => iI 0))), (q3, .inl (cA, 6, .inl (fun _ => iI 0))), (q4, .inl (cA, 20, .inl (fun _ => iI 0))), (q5, .inl (cA, 20, .inl (fun _ => iI 0))), (q6, .inl (cA, 20, .inl (fun _ => iI 0))), (q7, .inl (cA, 1280, .inl (fun _ => iI 0))), (q8, .inl (cA, 150, .inl (fun _ => iI 0))), (q9, .inl (cA, 150, .inl (fun _ => iI 0))), (q10, .inl (cA, 150, .inl (fun _ => iI 0)))] H := hP
  have hD : va_D A [(h0, .inr (1, [.int 0, .int 0, .ref q1, .ref q2, .ref q3, .ref q4, .ref q5, .ref q6, .ref q7, .int 0, .ref q8, .ref q9, .null, .int 0, .int 0])), (q1, .inl (cA, 6, .inl (fun _ => iI 0))), (q2, .inl (cA, 6, .inl (fun _ => iI 0))), (q3, .inl (cA, 6, .inl (fun _ => iI 0))), (q4, .inl (cA, 20, .inl (fun _ => iI 0))), (q5, .inl (cA, 20, .inl (fun _ => iI 0))), (q6, .inl (cA, 20, .inl (fun _ => iI 0))), (q7, .inl (cA, 1280, .inl (fun _ => iI 0))), (q8, .inl (cA, 150, .inl (fun _ => iI 0))), (q9, .inl (cA, 150, .inl (fun _ => iI 0))), (q10, .inl (cA, 150, .inl (fun _ => iI 0)))] := hD
  refine va_putF (D := D) (ci := 1) (v := .ref q10) (ty := .array .int) (C := RX1) (T := TX1) (N := 15) hx hb hts hinw tyX1 tyX1_ok nmX1 hown hK hP hD hS 0 rfl rfl 12 (by decide) (hts (.fieldLink RX1 37 "CellTraysModel" "cell" "[I") (by decide +kernel)) (fun _ h9 => h9) rfl hin rfl (by decide +kernel) rfl rfl (Nat.le_of_ble_eq_true rfl) dX1_init_85 (fun H locs hP hD hS => ?_)
  have hP : va_P D vwCl [(h0, .inr (1, [.int 0, .int 0, .ref q1, .ref q2, .ref q3, .ref q4, .ref q5, .ref q6, .ref q7, .int 0, .ref q8, .ref q9, .ref q10, .int 0, .int 0])), (q1, .inl (cA, 6, .inl (fun _ => iI 0))), (q2, .inl (cA, 6, .inl (fun _ => iI 0))), (q3, .inl (cA, 6, .inl (fun _ => iI 0))), (q4, .inl (cA, 20, .inl (fun _ => iI 0))), (q5, .inl (cA, 20, .inl (fun _ => iI 0))), (q6, .inl (cA, 20, .inl (fun _ => iI 0))), (q7, .inl (cA, 1280, .inl (fun _ => iI 0))), (q8, .inl (cA, 150, .inl (fun _ => iI 0))), (q9, .inl (cA, 150, .inl (fun _ => iI 0))), (q10, .inl (cA, 150, .inl (fun _ => iI 0)))] H := hP
  have hD : va_D A [(h0, .inr (1, [.int 0, .int 0, .ref q1, .ref q2, .ref q3, .ref q4, .ref q5, .ref q6, .ref q7, .int 0, .ref q8, .ref q9, .ref q10, .int 0, .int 0])), (q1, .inl (cA, 6, .inl (fun _ => iI 0))), (q2, .inl (cA, 6, .inl (fun _ => iI 0))), (q3, .inl (cA, 6, .inl (fun _ => iI 0))), (q4, .inl (cA, 20, .inl (fun _ => iI 0))), (q5, .inl (cA, 20, .inl (fun _ => iI 0))), (q6, .inl (cA, 20, .inl (fun _ => iI 0))), (q7, .inl (cA, 1280, .inl (fun _ => iI 0))), (q8, .inl (cA, 150, .inl (fun _ => iI 0))), (q9, .inl (cA, 150, .inl (fun _ => iI 0))), (q10, .inl (cA, 150, .inl (fun _ => iI 0)))] := hD
  obtain ⟨u, hu⟩ : ∃ u : Nat → Nat, u = (fun k => match k with | 0 => h0 | 2 => q1 | 3 => q2 | 4 => q3 | 5 => q4 | 6 => q5 | 7 => q6 | 8 => q7 | 10 => q8 | 11 => q9 | 12 => q10 | _ => 0) := ⟨_, rfl⟩
  have hP : va_P D vwCl (wdO cA 1 ly1 ja1 u SZ) H := by subst hu; exact hP
  have hD : va_D A (wdO cA 1 ly1 ja1 u SZ) := by subst hu; exact hD
  have hq0 : u 0 = h0 := by subst hu; rfl
  have hE : ∀ pc, decode cX1_init pc = .ok (.return_, 1) → ∀ lv st S, i_vret (eqv SI1) lv st S (OK p l e (headSpec wsX1_init rmI1).room s m #[.ref h0] below meth c (MQ below (va_Qv (fun (u : Nat → Nat) => u 0 = h0) (fun u t => va_P D vwCl (wdO cA 1 ly1 ja1 u SI1) t.heap ∧ va_D A (wdO cA 1 ly1 ja1 u SI1)) A) #[.ref h0] s 10 1808 A) D cA A 1 ly1 ja1 (fun a => a = u) (fun _ c n => c = 10 ∧ n = 1808) 2) → (OK p l e (headSpec wsX1_init rmI1).room s m #[.ref h0] below meth c (MQ below (va_Qv (fun (u : Nat → Nat) => u 0 = h0) (fun u t => va_P D vwCl (wdO cA 1 ly1 ja1 u SI1) t.heap ∧ va_D A (wdO cA 1 ly1 ja1 u SI1)) A) #[.ref h0] s 10 1808 A) D cA A 1 ly1 ja1 (fun a => a = u) (fun _ c n => c = 10 ∧ n = 1808) 2) pc lv st S := by
    intro pc hd lv st S h
    rcases st with _ | ⟨v, r⟩
    · have h9 : S = SI1 := h
      subst h9
      intro ad ha H9 locs9 ls9 cells slots hrr hP9 hD9 hS9 hL9
      subst ha
      obtain ⟨rfl, rfl⟩ := hrr
      exact W.vret hx hb hr (fun t ht hW => ⟨⟨ad, rfl, hq0, by rw [ht]; exact hP9, hD9⟩, hS9.F ht⟩) hS9.2.2 hd hlocks
    · exact h.elim
  exact run1_ini.elim (fun _ f => f _ (tab_closed (iniS1 hx hb hml hown hts hA hK hE)) u rfl H locs ls _ _ ⟨rfl, rfl⟩ hP hD hS (eLV_LR (ad := u) (av := [vR 0]) (n := 2) (by rw [← hq0] at hl; exact hl)))
