/-! SOUNDNESS of the class's tables, contracts -/
theorem ja_uniq {ja : List (Nat × Nat)} (h : (ja.map (fun q => q.1)).Nodup) : ∀ (a b : Nat) (q q' : Nat × Nat), ja[a]? = some q → ja[b]? = some q' → q.1 = q'.1 → a = b := by
  intro a b q q' ha hb e
  have h1 : (ja.map (fun q => q.1))[a]? = some q.1 := by rw [List.getElem?_map, ha]; rfl
  have h2 : (ja.map (fun q => q.1))[b]? = some q.1 := by rw [List.getElem?_map, hb, e]; rfl
  exact (List.getElem?_inj (List.getElem?_eq_some_iff.mp h1).1 h).mp (h1.trans h2.symm)
theorem hu0 : ∀ (a b : Nat) (q q' : Nat × Nat), ja0[a]? = some q → ja0[b]? = some q' → q.1 = q'.1 → a = b := ja_uniq (by decide)
theorem hln0 : ∀ k : Nat, 0 < ln0 k → ln0 k ≤ 2000 ∧ ∃ t : Nat, ja0[t]? = some (k, ln0 k) := by
  intro k h
  unfold ln0 at h ⊢
  split at h
  · exact ⟨by decide, 0, rfl⟩
  · exact ⟨by decide, 1, rfl⟩
  · exact ⟨by decide, 2, rfl⟩
  · exact ⟨by decide, 3, rfl⟩
  · exact ⟨by decide, 4, rfl⟩
  · exact ⟨by decide, 5, rfl⟩
  · exact ⟨by decide, 6, rfl⟩
  · exact ⟨by decide, 7, rfl⟩
  · exact ⟨by decide, 8, rfl⟩
  · exact ⟨by decide, 9, rfl⟩
  · exact ⟨by decide, 10, rfl⟩
  · exact ⟨by decide, 11, rfl⟩
  · omega
theorem hu1 : ∀ (a b : Nat) (q q' : Nat × Nat), ja1[a]? = some q → ja1[b]? = some q' → q.1 = q'.1 → a = b := ja_uniq (by decide)
theorem hln1 : ∀ k : Nat, 0 < ln1 k → ln1 k ≤ 2000 ∧ ∃ t : Nat, ja1[t]? = some (k, ln1 k) := by
  intro k h
  unfold ln1 at h ⊢
  split at h
  · exact ⟨by decide, 0, rfl⟩
  · exact ⟨by decide, 1, rfl⟩
  · exact ⟨by decide, 2, rfl⟩
  · exact ⟨by decide, 3, rfl⟩
  · exact ⟨by decide, 4, rfl⟩
  · exact ⟨by decide, 5, rfl⟩
  · exact ⟨by decide, 6, rfl⟩
  · exact ⟨by decide, 7, rfl⟩
  · exact ⟨by decide, 8, rfl⟩
  · exact ⟨by decide, 9, rfl⟩
  · omega
set_option maxRecDepth 20000 in
theorem xgw_50 : ∀ w ∈ vx_atS RX0 50 "java/lang/IllegalArgumentException" ["java/lang/RuntimeException", "java/lang/Exception"], goodWord w = true ∨ w ∈ xws := by decide +kernel
theorem xin_50 {L : List Cond} (h : ∀ w ∈ (vx_atS RX0 50 "java/lang/IllegalArgumentException" ["java/lang/RuntimeException", "java/lang/Exception"]).filter goodWord, w ∈ L) : ∀ w ∈ vx_atS RX0 50 "java/lang/IllegalArgumentException" ["java/lang/RuntimeException", "java/lang/Exception"], goodWord w = true → w ∈ L := fun w hw hg => h w (List.mem_filter.mpr ⟨hw, hg⟩)
set_option maxRecDepth 20000 in
theorem xg_50 : ∀ w ∈ Cond.classLink RX0 46 "java/lang/IllegalArgumentException" :: Cond.initialized "java/lang/IllegalArgumentException" :: vx_atS RX0 50 "java/lang/IllegalArgumentException" ["java/lang/RuntimeException", "java/lang/Exception"], vx_ot w = true := by decide +kernel
set_option maxRecDepth 20000 in
theorem xgw_63 : ∀ w ∈ vx_atS RX0 63 "java/lang/IllegalStateException" ["java/lang/RuntimeException", "java/lang/Exception"], goodWord w = true ∨ w ∈ xws := by decide +kernel
theorem xin_63 {L : List Cond} (h : ∀ w ∈ (vx_atS RX0 63 "java/lang/IllegalStateException" ["java/lang/RuntimeException", "java/lang/Exception"]).filter goodWord, w ∈ L) : ∀ w ∈ vx_atS RX0 63 "java/lang/IllegalStateException" ["java/lang/RuntimeException", "java/lang/Exception"], goodWord w = true → w ∈ L := fun w hw hg => h w (List.mem_filter.mpr ⟨hw, hg⟩)
set_option maxRecDepth 20000 in
theorem xg_63 : ∀ w ∈ Cond.classLink RX0 59 "java/lang/IllegalStateException" :: Cond.initialized "java/lang/IllegalStateException" :: vx_atS RX0 63 "java/lang/IllegalStateException" ["java/lang/RuntimeException", "java/lang/Exception"], vx_ot w = true := by decide +kernel
set_option maxRecDepth 20000 in
theorem xgw_125 : ∀ w ∈ vx_atS RX0 125 "java/lang/IndexOutOfBoundsException" ["java/lang/RuntimeException", "java/lang/Exception"], goodWord w = true ∨ w ∈ xws := by decide +kernel
theorem xin_125 {L : List Cond} (h : ∀ w ∈ (vx_atS RX0 125 "java/lang/IndexOutOfBoundsException" ["java/lang/RuntimeException", "java/lang/Exception"]).filter goodWord, w ∈ L) : ∀ w ∈ vx_atS RX0 125 "java/lang/IndexOutOfBoundsException" ["java/lang/RuntimeException", "java/lang/Exception"], goodWord w = true → w ∈ L := fun w hw hg => h w (List.mem_filter.mpr ⟨hw, hg⟩)
set_option maxRecDepth 20000 in
theorem xg_125 : ∀ w ∈ Cond.classLink RX0 121 "java/lang/IndexOutOfBoundsException" :: Cond.initialized "java/lang/IndexOutOfBoundsException" :: vx_atS RX0 125 "java/lang/IndexOutOfBoundsException" ["java/lang/RuntimeException", "java/lang/Exception"], vx_ot w = true := by decide +kernel
abbrev rm0_kind : Room := { frames := 6, cells := 0, slots := 0, locals := 82 }
abbrev rmx0_kind : Room := { frames := 6, cells := 1, slots := 6, locals := 82 }
set_option maxRecDepth 20000 in
set_option maxHeartbeats 4000000 in
theorem sn0_kind (Q : Int → ST → Prop) (Qx : String → ST → Prop) : SndT RX0 xstrs 0 ly0 ja0 cX0_kind 4 (some .int) wsX0_kind 6 82 Qx (EI cX0_kind Q) relP (T0_kind Q Qx) := by
  intro p l e R s m args below meth c Qf D cA A AD rel hC hFr hLo hK hA hrel hT hE
  obtain ⟨⟨hx, hb, hml, hown, hts⟩, hlk, hr⟩ := hC
  have hrR := hrel
  have hin : ∀ w ∈ u_ws RX0 TX0 16, w ∈ wsX0_kind := by decide +kernel
  have hf0 := hts (.fieldLink RX0 55 "CellTrays" "kindCount" "I") (by decide +kernel)
  have hf1 := hts (.fieldLink RX0 9 "CellTrays" "kindSize" "[I") (by decide +kernel)
  have hf2 := hts (.fieldLink RX0 13 "CellTrays" "kindStep" "[I") (by decide +kernel)
  have hf3 := hts (.fieldLink RX0 16 "CellTrays" "kindCells" "[I") (by decide +kernel)
  have hf4 := hts (.fieldLink RX0 19 "CellTrays" "kindRest" "[I") (by decide +kernel)
  have hx_50 : ∀ w ∈ vx_atS RX0 50 "java/lang/IllegalArgumentException" ["java/lang/RuntimeException", "java/lang/Exception"], goodWord w = true → w ∈ wsX0_kind := xin_50 (by first | exact fun w h => List.mem_cons_of_mem _ (List.mem_append_right _ h) | exact fun w h => List.mem_cons_of_mem _ (List.mem_append_left _ (List.mem_append_right _ h)) | exact fun w h => List.mem_cons_of_mem _ (List.mem_append_left _ (List.mem_append_left _ (List.mem_append_right _ h))))
  have hx_63 : ∀ w ∈ vx_atS RX0 63 "java/lang/IllegalStateException" ["java/lang/RuntimeException", "java/lang/Exception"], goodWord w = true → w ∈ wsX0_kind := xin_63 (by first | exact fun w h => List.mem_cons_of_mem _ (List.mem_append_right _ h) | exact fun w h => List.mem_cons_of_mem _ (List.mem_append_left _ (List.mem_append_right _ h)) | exact fun w h => List.mem_cons_of_mem _ (List.mem_append_left _ (List.mem_append_left _ (List.mem_append_right _ h))))
  exact al (s_iload_n hx hb (i := 1) rfl dX0_kind_0 rfl) <|
    al (s_iconst hx hb dX0_kind_1 rfl) <|
    al (s_icmp_lt hx hb (by decide) dX0_kind_2 rfl) <|
    al (s_iload_n hx hb (i := 1) rfl dX0_kind_5 rfl) <|
    al (s_bipush hx hb dX0_kind_6 rfl (by decide)) <|
    al (s_icmp_le hx hb (by decide) dX0_kind_8 rfl) <|
    al (s_throw (names := ["java/lang/RuntimeException", "java/lang/Exception"]) hx hb hml hK hT hown (by decide +kernel) (by decide +kernel) rfl (hts (.classLink RX0 46 "java/lang/IllegalArgumentException") (by decide +kernel)) (hts (.initialized "java/lang/IllegalArgumentException") (by decide +kernel)) (text := "the size is not 1 to 32") (by decide +kernel) (fun w hw hg => hts w (hx_50 w hw hg)) xgw_50 xg_50 dX0_kind_11 dX0_kind_14 dX0_kind_15 dX0_kind_17 dX0_kind_20) <|
    al (s_iload_n hx hb (i := 2) rfl dX0_kind_21 rfl) <|
    al (s_iconst hx hb dX0_kind_22 rfl) <|
    al (s_icmp_lt hx hb (by decide) dX0_kind_23 rfl) <|
    al (s_iload_n hx hb (i := 2) rfl dX0_kind_26 rfl) <|
    al (s_bipush hx hb dX0_kind_27 rfl (by decide)) <|
    al (s_icmp_le hx hb (by decide) dX0_kind_29 rfl) <|
    al (s_throw (names := ["java/lang/RuntimeException", "java/lang/Exception"]) hx hb hml hK hT hown (by decide +kernel) (by decide +kernel) rfl (hts (.classLink RX0 46 "java/lang/IllegalArgumentException") (by decide +kernel)) (hts (.initialized "java/lang/IllegalArgumentException") (by decide +kernel)) (text := "the step is not 1 to 16") (by decide +kernel) (fun w hw hg => hts w (hx_50 w hw hg)) xgw_50 xg_50 dX0_kind_32 dX0_kind_35 dX0_kind_36 dX0_kind_38 dX0_kind_41) <|
    al (s_aload_n hx hb (i := 0) rfl dX0_kind_42 rfl) <|
    al (s_getI (N := 16) hx hb hts hin hown hK rfl (k := 0) (by decide) hf0 rfl dX0_kind_43 rfl rfl) <|
    al (s_bipush hx hb dX0_kind_46 rfl (by decide)) <|
    al (s_icmp_lt hx hb (by decide) dX0_kind_48 rfl) <|
    al (s_throw (names := ["java/lang/RuntimeException", "java/lang/Exception"]) hx hb hml hK hT hown (by decide +kernel) (by decide +kernel) rfl (hts (.classLink RX0 59 "java/lang/IllegalStateException") (by decide +kernel)) (hts (.initialized "java/lang/IllegalStateException") (by decide +kernel)) (text := "there are 6 kinds") (by decide +kernel) (fun w hw hg => hts w (hx_63 w hw hg)) xgw_63 xg_63 dX0_kind_51 dX0_kind_54 dX0_kind_55 dX0_kind_57 dX0_kind_60) <|
    al (s_aload_n hx hb (i := 0) rfl dX0_kind_61 rfl) <|
    al (s_getI (N := 16) hx hb hts hin hown hK rfl (k := 0) (by decide) hf0 rfl dX0_kind_62 rfl rfl) <|
    al (s_istore_n hx hb (i := 3) rfl dX0_kind_65 rfl (by decide)) <|
    al (s_aload_n hx hb (i := 0) rfl dX0_kind_66 rfl) <|
    al (s_getA (N := 16) hx hb hts hin hown hK rfl (k := 1) (by decide) hf1 rfl dX0_kind_67 rfl rfl (by decide)) <|
    al (s_iload_n hx hb (i := 3) rfl dX0_kind_70 rfl) <|
    al (s_iload_n hx hb (i := 1) rfl dX0_kind_71 rfl) <|
    al (s_iast hx hb hK hln0 hu0 dX0_kind_72 rfl) <|
    al (s_aload_n hx hb (i := 0) rfl dX0_kind_73 rfl) <|
    al (s_getA (N := 16) hx hb hts hin hown hK rfl (k := 2) (by decide) hf2 rfl dX0_kind_74 rfl rfl (by decide)) <|
    al (s_iload_n hx hb (i := 3) rfl dX0_kind_77 rfl) <|
    al (s_iload_n hx hb (i := 2) rfl dX0_kind_78 rfl) <|
    al (s_iast hx hb hK hln0 hu0 dX0_kind_79 rfl) <|
    al (s_aload_n hx hb (i := 0) rfl dX0_kind_80 rfl) <|
    al (s_getA (N := 16) hx hb hts hin hown hK rfl (k := 3) (by decide) hf3 rfl dX0_kind_81 rfl rfl (by decide)) <|
    al (s_iload_n hx hb (i := 3) rfl dX0_kind_84 rfl) <|
    al (s_bipush hx hb dX0_kind_85 rfl (by decide)) <|
    al (s_iload_n hx hb (i := 1) rfl dX0_kind_87 rfl) <|
    al (s_idiv hx hb dX0_kind_88 rfl) <|
    al (s_iast hx hb hK hln0 hu0 dX0_kind_89 rfl) <|
    al (s_aload_n hx hb (i := 0) rfl dX0_kind_90 rfl) <|
    al (s_getA (N := 16) hx hb hts hin hown hK rfl (k := 4) (by decide) hf4 rfl dX0_kind_91 rfl rfl (by decide)) <|
    al (s_iload_n hx hb (i := 3) rfl dX0_kind_94 rfl) <|
    al (s_bipush hx hb dX0_kind_95 rfl (by decide)) <|
    al (s_iload_n hx hb (i := 1) rfl dX0_kind_97 rfl) <|
    al (s_irem hx hb dX0_kind_98 rfl) <|
    al (s_iast hx hb hK hln0 hu0 dX0_kind_99 rfl) <|
    al (s_aload_n hx hb (i := 0) rfl dX0_kind_100 rfl) <|
    al (s_dup hx hb dX0_kind_101 rfl) <|
    al (s_getI (N := 16) hx hb hts hin hown hK rfl (k := 0) (by decide) hf0 rfl dX0_kind_102 rfl rfl) <|
    al (s_iconst hx hb dX0_kind_105 rfl) <|
    al (s_iadd hx hb dX0_kind_106 rfl) <|
    al (s_putI (N := 16) hx hb hts hin hown hK rfl (k := 0) (by decide) hf0 rfl tyX0 tyX0_ok nmX0 rfl (by decide +kernel) dX0_kind_107 rfl rfl) <|
    al (s_iload_n hx hb (i := 3) rfl dX0_kind_110 rfl) <|
    al ((fun lv st S h => hE _ lv st S dX0_kind_111 h)) <| an
theorem ct0_kind : CtI 0 ly0 ja0 yX0_kind wsX0_kind rm0_kind X0_kind := mk_I (C := RX0) (strs := xstrs) T0_kind (by decide) rfl rfl rfl rfl (Fr := 6) (Lo := 82) (Nat.le_of_ble_eq_true rfl) (Nat.le_of_ble_eq_true rfl) (fun Q => sn0_kind Q nox)
theorem cx0_kind : CtXI RX0 xstrs 0 ly0 ja0 yX0_kind wsX0_kind rmx0_kind X0_kind := mk_Ix (C := RX0) T0_kind (by decide) rfl rfl rfl rfl (Fr := 6) (Lo := 82) (Nat.le_of_ble_eq_true rfl) (Nat.le_of_ble_eq_true rfl) (Nat.le_of_ble_eq_true rfl) (Nat.le_of_ble_eq_true rfl) (fun Qx => sn0_kind _ Qx)
abbrev rm0_requireKind : Room := { frames := 6, cells := 0, slots := 0, locals := 82 }
abbrev rmx0_requireKind : Room := { frames := 6, cells := 1, slots := 6, locals := 82 }
set_option maxRecDepth 20000 in
set_option maxHeartbeats 4000000 in
theorem sn0_requireKind (Q : ST → Prop) (Qx : String → ST → Prop) : SndT RX0 xstrs 0 ly0 ja0 cX0_requireKind 2 (none) wsX0_requireKind 6 82 Qx (EV cX0_requireKind Q) relP (T0_requireKind Q Qx) := by
  intro p l e R s m args below meth c Qf D cA A AD rel hC hFr hLo hK hA hrel hT hE
  obtain ⟨⟨hx, hb, hml, hown, hts⟩, hlk, hr⟩ := hC
  have hrR := hrel
  have hin : ∀ w ∈ u_ws RX0 TX0 16, w ∈ wsX0_requireKind := by decide +kernel
  have hf0 := hts (.fieldLink RX0 55 "CellTrays" "kindCount" "I") (by decide +kernel)
  have hx_125 : ∀ w ∈ vx_atS RX0 125 "java/lang/IndexOutOfBoundsException" ["java/lang/RuntimeException", "java/lang/Exception"], goodWord w = true → w ∈ wsX0_requireKind := xin_125 (by first | exact fun w h => List.mem_cons_of_mem _ (List.mem_append_right _ h) | exact fun w h => List.mem_cons_of_mem _ (List.mem_append_left _ (List.mem_append_right _ h)) | exact fun w h => List.mem_cons_of_mem _ (List.mem_append_left _ (List.mem_append_left _ (List.mem_append_right _ h))))
  exact al (s_iload_n hx hb (i := 1) rfl dX0_requireKind_0 rfl) <|
    al (s_if_lt hx hb (by decide) dX0_requireKind_1 rfl) <|
    al (s_iload_n hx hb (i := 1) rfl dX0_requireKind_4 rfl) <|
    al (s_aload_n hx hb (i := 0) rfl dX0_requireKind_5 rfl) <|
    al (s_getI (N := 16) hx hb hts hin hown hK rfl (k := 0) (by decide) hf0 rfl dX0_requireKind_6 rfl rfl) <|
    al (s_icmp_lt hx hb (by decide) dX0_requireKind_9 rfl) <|
    al (s_throw (names := ["java/lang/RuntimeException", "java/lang/Exception"]) hx hb hml hK hT hown (by decide +kernel) (by decide +kernel) rfl (hts (.classLink RX0 121 "java/lang/IndexOutOfBoundsException") (by decide +kernel)) (hts (.initialized "java/lang/IndexOutOfBoundsException") (by decide +kernel)) (text := "there is no such kind") (by decide +kernel) (fun w hw hg => hts w (hx_125 w hw hg)) xgw_125 xg_125 dX0_requireKind_12 dX0_requireKind_15 dX0_requireKind_16 dX0_requireKind_18 dX0_requireKind_21) <|
    al ((fun lv st S h => hE _ lv st S dX0_requireKind_22 h)) <| an
theorem ct0_requireKind : CtV 0 ly0 ja0 yX0_requireKind wsX0_requireKind rm0_requireKind X0_requireKind := mk_V (C := RX0) (strs := xstrs) T0_requireKind (by decide) rfl rfl rfl rfl (Fr := 6) (Lo := 82) (Nat.le_of_ble_eq_true rfl) (Nat.le_of_ble_eq_true rfl) (fun Q => sn0_requireKind Q nox)
theorem cx0_requireKind : CtXV RX0 xstrs 0 ly0 ja0 yX0_requireKind wsX0_requireKind rmx0_requireKind X0_requireKind := mk_Vx (C := RX0) T0_requireKind (by decide) rfl rfl rfl rfl (Fr := 6) (Lo := 82) (Nat.le_of_ble_eq_true rfl) (Nat.le_of_ble_eq_true rfl) (Nat.le_of_ble_eq_true rfl) (Nat.le_of_ble_eq_true rfl) (fun Qx => sn0_requireKind _ Qx)
abbrev rm0_isPartly : Room := { frames := 0, cells := 0, slots := 0, locals := 0 }
set_option maxRecDepth 20000 in
set_option maxHeartbeats 4000000 in
theorem sn0_isPartly (Q : Int → ST → Prop) (Qx : String → ST → Prop) : SndT RX0 xstrs 0 ly0 ja0 cX0_isPartly 3 (some .boolean) wsX0_isPartly 0 0 Qx (EZ cX0_isPartly Q) relP (T0_isPartly Q Qx) := by
  intro p l e R s m args below meth c Qf D cA A AD rel hC hFr hLo hK hA hrel hT hE
  obtain ⟨⟨hx, hb, hml, hown, hts⟩, hlk, hr⟩ := hC
  have hrR := hrel
  have hin : ∀ w ∈ u_ws RX0 TX0 16, w ∈ wsX0_isPartly := by decide +kernel
  have hf3 := hts (.fieldLink RX0 16 "CellTrays" "kindCells" "[I") (by decide +kernel)
  have hf6 := hts (.fieldLink RX0 25 "CellTrays" "trayKind" "[I") (by decide +kernel)
  have hf8 := hts (.fieldLink RX0 31 "CellTrays" "trayThings" "[I") (by decide +kernel)
  exact al (s_aload_n hx hb (i := 0) rfl dX0_isPartly_0 rfl) <|
    al (s_getA (N := 16) hx hb hts hin hown hK rfl (k := 6) (by decide) hf6 rfl dX0_isPartly_1 rfl rfl (by decide)) <|
    al (s_iload_n hx hb (i := 1) rfl dX0_isPartly_4 rfl) <|
    al (s_iald hx hb hK hln0 dX0_isPartly_5 rfl) <|
    al (s_iload_n hx hb (i := 2) rfl dX0_isPartly_6 rfl) <|
    al (s_icmp_ne hx hb (by decide) dX0_isPartly_7 rfl) <|
    al (s_aload_n hx hb (i := 0) rfl dX0_isPartly_10 rfl) <|
    al (s_getA (N := 16) hx hb hts hin hown hK rfl (k := 8) (by decide) hf8 rfl dX0_isPartly_11 rfl rfl (by decide)) <|
    al (s_iload_n hx hb (i := 1) rfl dX0_isPartly_14 rfl) <|
    al (s_iald hx hb hK hln0 dX0_isPartly_15 rfl) <|
    al (s_if_le hx hb (by decide) dX0_isPartly_16 rfl) <|
    al (s_aload_n hx hb (i := 0) rfl dX0_isPartly_19 rfl) <|
    al (s_getA (N := 16) hx hb hts hin hown hK rfl (k := 8) (by decide) hf8 rfl dX0_isPartly_20 rfl rfl (by decide)) <|
    al (s_iload_n hx hb (i := 1) rfl dX0_isPartly_23 rfl) <|
    al (s_iald hx hb hK hln0 dX0_isPartly_24 rfl) <|
    al (s_aload_n hx hb (i := 0) rfl dX0_isPartly_25 rfl) <|
    al (s_getA (N := 16) hx hb hts hin hown hK rfl (k := 3) (by decide) hf3 rfl dX0_isPartly_26 rfl rfl (by decide)) <|
    al (s_iload_n hx hb (i := 2) rfl dX0_isPartly_29 rfl) <|
    al (s_iald hx hb hK hln0 dX0_isPartly_30 rfl) <|
    al (s_icmp_ge hx hb (by decide) dX0_isPartly_31 rfl) <|
    al (s_iconst hx hb dX0_isPartly_34 rfl) <|
    al (s_goto hx hb (by decide) dX0_isPartly_35) <|
    al (s_iconst hx hb dX0_isPartly_38 rfl) <|
    al ((fun lv st S h => hE _ lv st S dX0_isPartly_39 h)) <| an
theorem ct0_isPartly : CtI 0 ly0 ja0 yX0_isPartly wsX0_isPartly rm0_isPartly X0_isPartly := mk_Z (C := RX0) (strs := xstrs) T0_isPartly (by decide) rfl rfl rfl rfl (Fr := 0) (Lo := 0) (Nat.le_of_ble_eq_true rfl) (Nat.le_of_ble_eq_true rfl) (fun Q => sn0_isPartly Q nox)
abbrev rm0_mostPartly : Room := { frames := 1, cells := 0, slots := 0, locals := 22 }
set_option maxRecDepth 20000 in
set_option maxHeartbeats 4000000 in
theorem sn0_mostPartly (Q : Int → ST → Prop) (Qx : String → ST → Prop) : SndT RX0 xstrs 0 ly0 ja0 cX0_mostPartly 5 (some .int) wsX0_mostPartly 1 22 Qx (EI cX0_mostPartly Q) relP (T0_mostPartly Q Qx) := by
  intro p l e R s m args below meth c Qf D cA A AD rel hC hFr hLo hK hA hrel hT hE
  obtain ⟨⟨hx, hb, hml, hown, hts⟩, hlk, hr⟩ := hC
  have hrR := hrel
  have hin : ∀ w ∈ u_ws RX0 TX0 16, w ∈ wsX0_mostPartly := by decide +kernel
  have hf8 := hts (.fieldLink RX0 31 "CellTrays" "trayThings" "[I") (by decide +kernel)
  exact al (s_iconst hx hb dX0_mostPartly_0 rfl) <|
    al (s_istore_n hx hb (i := 2) rfl dX0_mostPartly_1 rfl (by decide)) <|
    al (s_iconst hx hb dX0_mostPartly_2 rfl) <|
    al (s_istore_n hx hb (i := 3) rfl dX0_mostPartly_3 rfl (by decide)) <|
    al (s_iconst hx hb dX0_mostPartly_4 rfl) <|
    al (s_istore hx hb dX0_mostPartly_5 rfl (by decide)) <|
    al (s_iload hx hb dX0_mostPartly_7 rfl) <|
    al (s_bipush hx hb dX0_mostPartly_9 rfl (by decide)) <|
    al (s_icmp_ge hx hb (by decide) dX0_mostPartly_11 rfl) <|
    al (s_aload_n hx hb (i := 0) rfl dX0_mostPartly_14 rfl) <|
    al (s_iload hx hb dX0_mostPartly_15 rfl) <|
    al (s_iload_n hx hb (i := 1) rfl dX0_mostPartly_17 rfl) <|
    al (s_calli ⟨hx, hb, hml, hown, hts⟩ hA hK hrR rfl ct0_isPartly (cwV 2 hts gX0_mostPartly_X0_isPartly rfl (rm := rm0_isPartly) rfl rfl (by decide +kernel) ⟨Nat.le_trans (Nat.le_of_ble_eq_true rfl) hFr, Nat.le_trans (Nat.le_of_ble_eq_true rfl) hLo⟩) rfl dX0_mostPartly_18 rfl) <|
    al (s_if_eq hx hb (by decide) dX0_mostPartly_21 rfl) <|
    al (s_aload_n hx hb (i := 0) rfl dX0_mostPartly_24 rfl) <|
    al (s_getA (N := 16) hx hb hts hin hown hK rfl (k := 8) (by decide) hf8 rfl dX0_mostPartly_25 rfl rfl (by decide)) <|
    al (s_iload hx hb dX0_mostPartly_28 rfl) <|
    al (s_iald hx hb hK hln0 dX0_mostPartly_30 rfl) <|
    al (s_iload_n hx hb (i := 3) rfl dX0_mostPartly_31 rfl) <|
    al (s_icmp_le hx hb (by decide) dX0_mostPartly_32 rfl) <|
    al (s_aload_n hx hb (i := 0) rfl dX0_mostPartly_35 rfl) <|
    al (s_getA (N := 16) hx hb hts hin hown hK rfl (k := 8) (by decide) hf8 rfl dX0_mostPartly_36 rfl rfl (by decide)) <|
    al (s_iload hx hb dX0_mostPartly_39 rfl) <|
    al (s_iald hx hb hK hln0 dX0_mostPartly_41 rfl) <|
    al (s_istore_n hx hb (i := 3) rfl dX0_mostPartly_42 rfl (by decide)) <|
    al (s_iload hx hb dX0_mostPartly_43 rfl) <|
    al (s_istore_n hx hb (i := 2) rfl dX0_mostPartly_45 rfl (by decide)) <|
    al (s_iinc hx hb dX0_mostPartly_46 rfl (by decide)) <|
    al (s_goto hx hb (by decide) dX0_mostPartly_49) <|
    al (s_iload_n hx hb (i := 2) rfl dX0_mostPartly_52 rfl) <|
    al ((fun lv st S h => hE _ lv st S dX0_mostPartly_53 h)) <| an
theorem ct0_mostPartly : CtI 0 ly0 ja0 yX0_mostPartly wsX0_mostPartly rm0_mostPartly X0_mostPartly := mk_I (C := RX0) (strs := xstrs) T0_mostPartly (by decide) rfl rfl rfl rfl (Fr := 1) (Lo := 22) (Nat.le_of_ble_eq_true rfl) (Nat.le_of_ble_eq_true rfl) (fun Q => sn0_mostPartly Q nox)
abbrev rm0_firstEmpty : Room := { frames := 0, cells := 0, slots := 0, locals := 0 }
set_option maxRecDepth 20000 in
set_option maxHeartbeats 4000000 in
theorem sn0_firstEmpty (Q : Int → ST → Prop) (Qx : String → ST → Prop) : SndT RX0 xstrs 0 ly0 ja0 cX0_firstEmpty 3 (some .int) wsX0_firstEmpty 0 0 Qx (EI cX0_firstEmpty Q) relP (T0_firstEmpty Q Qx) := by
  intro p l e R s m args below meth c Qf D cA A AD rel hC hFr hLo hK hA hrel hT hE
  obtain ⟨⟨hx, hb, hml, hown, hts⟩, hlk, hr⟩ := hC
  have hrR := hrel
  have hin : ∀ w ∈ u_ws RX0 TX0 16, w ∈ wsX0_firstEmpty := by decide +kernel
  have hf6 := hts (.fieldLink RX0 25 "CellTrays" "trayKind" "[I") (by decide +kernel)
  have hf8 := hts (.fieldLink RX0 31 "CellTrays" "trayThings" "[I") (by decide +kernel)
  exact al (s_iconst hx hb dX0_firstEmpty_0 rfl) <|
    al (s_istore_n hx hb (i := 2) rfl dX0_firstEmpty_1 rfl (by decide)) <|
    al (s_iload_n hx hb (i := 2) rfl dX0_firstEmpty_2 rfl) <|
    al (s_bipush hx hb dX0_firstEmpty_3 rfl (by decide)) <|
    al (s_icmp_ge hx hb (by decide) dX0_firstEmpty_5 rfl) <|
    al (s_aload_n hx hb (i := 0) rfl dX0_firstEmpty_8 rfl) <|
    al (s_getA (N := 16) hx hb hts hin hown hK rfl (k := 6) (by decide) hf6 rfl dX0_firstEmpty_9 rfl rfl (by decide)) <|
    al (s_iload_n hx hb (i := 2) rfl dX0_firstEmpty_12 rfl) <|
    al (s_iald hx hb hK hln0 dX0_firstEmpty_13 rfl) <|
    al (s_iload_n hx hb (i := 1) rfl dX0_firstEmpty_14 rfl) <|
    al (s_icmp_ne hx hb (by decide) dX0_firstEmpty_15 rfl) <|
    al (s_aload_n hx hb (i := 0) rfl dX0_firstEmpty_18 rfl) <|
    al (s_getA (N := 16) hx hb hts hin hown hK rfl (k := 8) (by decide) hf8 rfl dX0_firstEmpty_19 rfl rfl (by decide)) <|
    al (s_iload_n hx hb (i := 2) rfl dX0_firstEmpty_22 rfl) <|
    al (s_iald hx hb hK hln0 dX0_firstEmpty_23 rfl) <|
    al (s_if_ne hx hb (by decide) dX0_firstEmpty_24 rfl) <|
    al (s_iload_n hx hb (i := 2) rfl dX0_firstEmpty_27 rfl) <|
    al ((fun lv st S h => hE _ lv st S dX0_firstEmpty_28 h)) <|
    al (s_iinc hx hb dX0_firstEmpty_29 rfl (by decide)) <|
    al (s_goto hx hb (by decide) dX0_firstEmpty_32) <|
    al (s_iconst hx hb dX0_firstEmpty_35 rfl) <|
    al ((fun lv st S h => hE _ lv st S dX0_firstEmpty_36 h)) <| an
theorem ct0_firstEmpty : CtI 0 ly0 ja0 yX0_firstEmpty wsX0_firstEmpty rm0_firstEmpty X0_firstEmpty := mk_I (C := RX0) (strs := xstrs) T0_firstEmpty (by decide) rfl rfl rfl rfl (Fr := 0) (Lo := 0) (Nat.le_of_ble_eq_true rfl) (Nat.le_of_ble_eq_true rfl) (fun Q => sn0_firstEmpty Q nox)
abbrev rm0_firstBare : Room := { frames := 0, cells := 0, slots := 0, locals := 0 }
set_option maxRecDepth 20000 in
set_option maxHeartbeats 4000000 in
theorem sn0_firstBare (Q : Int → ST → Prop) (Qx : String → ST → Prop) : SndT RX0 xstrs 0 ly0 ja0 cX0_firstBare 2 (some .int) wsX0_firstBare 0 0 Qx (EI cX0_firstBare Q) relP (T0_firstBare Q Qx) := by
  intro p l e R s m args below meth c Qf D cA A AD rel hC hFr hLo hK hA hrel hT hE
  obtain ⟨⟨hx, hb, hml, hown, hts⟩, hlk, hr⟩ := hC
  have hrR := hrel
  have hin : ∀ w ∈ u_ws RX0 TX0 16, w ∈ wsX0_firstBare := by decide +kernel
  have hf6 := hts (.fieldLink RX0 25 "CellTrays" "trayKind" "[I") (by decide +kernel)
  exact al (s_iconst hx hb dX0_firstBare_0 rfl) <|
    al (s_istore_n hx hb (i := 1) rfl dX0_firstBare_1 rfl (by decide)) <|
    al (s_iload_n hx hb (i := 1) rfl dX0_firstBare_2 rfl) <|
    al (s_bipush hx hb dX0_firstBare_3 rfl (by decide)) <|
    al (s_icmp_ge hx hb (by decide) dX0_firstBare_5 rfl) <|
    al (s_aload_n hx hb (i := 0) rfl dX0_firstBare_8 rfl) <|
    al (s_getA (N := 16) hx hb hts hin hown hK rfl (k := 6) (by decide) hf6 rfl dX0_firstBare_9 rfl rfl (by decide)) <|
    al (s_iload_n hx hb (i := 1) rfl dX0_firstBare_12 rfl) <|
    al (s_iald hx hb hK hln0 dX0_firstBare_13 rfl) <|
    al (s_iconst hx hb dX0_firstBare_14 rfl) <|
    al (s_icmp_ne hx hb (by decide) dX0_firstBare_15 rfl) <|
    al (s_iload_n hx hb (i := 1) rfl dX0_firstBare_18 rfl) <|
    al ((fun lv st S h => hE _ lv st S dX0_firstBare_19 h)) <|
    al (s_iinc hx hb dX0_firstBare_20 rfl (by decide)) <|
    al (s_goto hx hb (by decide) dX0_firstBare_23) <|
    al (s_iconst hx hb dX0_firstBare_26 rfl) <|
    al ((fun lv st S h => hE _ lv st S dX0_firstBare_27 h)) <| an
theorem ct0_firstBare : CtI 0 ly0 ja0 yX0_firstBare wsX0_firstBare rm0_firstBare X0_firstBare := mk_I (C := RX0) (strs := xstrs) T0_firstBare (by decide) rfl rfl rfl rfl (Fr := 0) (Lo := 0) (Nat.le_of_ble_eq_true rfl) (Nat.le_of_ble_eq_true rfl) (fun Q => sn0_firstBare Q nox)
abbrev rm0_placeFor : Room := { frames := 2, cells := 0, slots := 0, locals := 46 }
set_option maxRecDepth 20000 in
set_option maxHeartbeats 4000000 in
theorem sn0_placeFor (Q : Int → ST → Prop) (Qx : String → ST → Prop) : SndT RX0 xstrs 0 ly0 ja0 cX0_placeFor 3 (some .int) wsX0_placeFor 2 46 Qx (EI cX0_placeFor Q) relP (T0_placeFor Q Qx) := by
  intro p l e R s m args below meth c Qf D cA A AD rel hC hFr hLo hK hA hrel hT hE
  obtain ⟨⟨hx, hb, hml, hown, hts⟩, hlk, hr⟩ := hC
  have hrR := hrel
  exact al (s_aload_n hx hb (i := 0) rfl dX0_placeFor_0 rfl) <|
    al (s_iload_n hx hb (i := 1) rfl dX0_placeFor_1 rfl) <|
    al (s_calli ⟨hx, hb, hml, hown, hts⟩ hA hK hrR rfl ct0_mostPartly (cwV 1 hts gX0_placeFor_X0_mostPartly rfl (rm := rm0_mostPartly) rfl rfl (by decide +kernel) ⟨Nat.le_trans (Nat.le_of_ble_eq_true rfl) hFr, Nat.le_trans (Nat.le_of_ble_eq_true rfl) hLo⟩) rfl dX0_placeFor_2 rfl) <|
    al (s_istore_n hx hb (i := 2) rfl dX0_placeFor_5 rfl (by decide)) <|
    al (s_iload_n hx hb (i := 2) rfl dX0_placeFor_6 rfl) <|
    al (s_iconst hx hb dX0_placeFor_7 rfl) <|
    al (s_icmp_ne hx hb (by decide) dX0_placeFor_8 rfl) <|
    al (s_aload_n hx hb (i := 0) rfl dX0_placeFor_11 rfl) <|
    al (s_iload_n hx hb (i := 1) rfl dX0_placeFor_12 rfl) <|
    al (s_calli ⟨hx, hb, hml, hown, hts⟩ hA hK hrR rfl ct0_firstEmpty (cwV 1 hts gX0_placeFor_X0_firstEmpty rfl (rm := rm0_firstEmpty) rfl rfl (by decide +kernel) ⟨Nat.le_trans (Nat.le_of_ble_eq_true rfl) hFr, Nat.le_trans (Nat.le_of_ble_eq_true rfl) hLo⟩) rfl dX0_placeFor_13 rfl) <|
    al (s_istore_n hx hb (i := 2) rfl dX0_placeFor_16 rfl (by decide)) <|
    al (s_iload_n hx hb (i := 2) rfl dX0_placeFor_17 rfl) <|
    al (s_iconst hx hb dX0_placeFor_18 rfl) <|
    al (s_icmp_ne hx hb (by decide) dX0_placeFor_19 rfl) <|
    al (s_aload_n hx hb (i := 0) rfl dX0_placeFor_22 rfl) <|
    al (s_calli ⟨hx, hb, hml, hown, hts⟩ hA hK hrR rfl ct0_firstBare (cwV 0 hts gX0_placeFor_X0_firstBare rfl (rm := rm0_firstBare) rfl rfl (by decide +kernel) ⟨Nat.le_trans (Nat.le_of_ble_eq_true rfl) hFr, Nat.le_trans (Nat.le_of_ble_eq_true rfl) hLo⟩) rfl dX0_placeFor_23 rfl) <|
    al (s_istore_n hx hb (i := 2) rfl dX0_placeFor_26 rfl (by decide)) <|
    al (s_iload_n hx hb (i := 2) rfl dX0_placeFor_27 rfl) <|
    al ((fun lv st S h => hE _ lv st S dX0_placeFor_28 h)) <| an
theorem ct0_placeFor : CtI 0 ly0 ja0 yX0_placeFor wsX0_placeFor rm0_placeFor X0_placeFor := mk_I (C := RX0) (strs := xstrs) T0_placeFor (by decide) rfl rfl rfl rfl (Fr := 2) (Lo := 46) (Nat.le_of_ble_eq_true rfl) (Nat.le_of_ble_eq_true rfl) (fun Q => sn0_placeFor Q nox)
abbrev rm0_addTray : Room := { frames := 0, cells := 0, slots := 0, locals := 0 }
set_option maxRecDepth 20000 in
set_option maxHeartbeats 4000000 in
theorem sn0_addTray (Q : ST → Prop) (Qx : String → ST → Prop) : SndT RX0 xstrs 0 ly0 ja0 cX0_addTray 4 (none) wsX0_addTray 0 0 Qx (EV cX0_addTray Q) relP (T0_addTray Q Qx) := by
  intro p l e R s m args below meth c Qf D cA A AD rel hC hFr hLo hK hA hrel hT hE
  obtain ⟨⟨hx, hb, hml, hown, hts⟩, hlk, hr⟩ := hC
  have hrR := hrel
  have hin : ∀ w ∈ u_ws RX0 TX0 16, w ∈ wsX0_addTray := by decide +kernel
  have hf2 := hts (.fieldLink RX0 13 "CellTrays" "kindStep" "[I") (by decide +kernel)
  have hf4 := hts (.fieldLink RX0 19 "CellTrays" "kindRest" "[I") (by decide +kernel)
  have hf5 := hts (.fieldLink RX0 22 "CellTrays" "kindNextOffset" "[I") (by decide +kernel)
  have hf6 := hts (.fieldLink RX0 25 "CellTrays" "trayKind" "[I") (by decide +kernel)
  have hf7 := hts (.fieldLink RX0 28 "CellTrays" "trayOffset" "[I") (by decide +kernel)
  exact al (s_aload_n hx hb (i := 0) rfl dX0_addTray_0 rfl) <|
    al (s_getA (N := 16) hx hb hts hin hown hK rfl (k := 6) (by decide) hf6 rfl dX0_addTray_1 rfl rfl (by decide)) <|
    al (s_iload_n hx hb (i := 1) rfl dX0_addTray_4 rfl) <|
    al (s_iload_n hx hb (i := 2) rfl dX0_addTray_5 rfl) <|
    al (s_iast hx hb hK hln0 hu0 dX0_addTray_6 rfl) <|
    al (s_aload_n hx hb (i := 0) rfl dX0_addTray_7 rfl) <|
    al (s_getA (N := 16) hx hb hts hin hown hK rfl (k := 7) (by decide) hf7 rfl dX0_addTray_8 rfl rfl (by decide)) <|
    al (s_iload_n hx hb (i := 1) rfl dX0_addTray_11 rfl) <|
    al (s_aload_n hx hb (i := 0) rfl dX0_addTray_12 rfl) <|
    al (s_getA (N := 16) hx hb hts hin hown hK rfl (k := 5) (by decide) hf5 rfl dX0_addTray_13 rfl rfl (by decide)) <|
    al (s_iload_n hx hb (i := 2) rfl dX0_addTray_16 rfl) <|
    al (s_iald hx hb hK hln0 dX0_addTray_17 rfl) <|
    al (s_iast hx hb hK hln0 hu0 dX0_addTray_18 rfl) <|
    al (s_aload_n hx hb (i := 0) rfl dX0_addTray_19 rfl) <|
    al (s_getA (N := 16) hx hb hts hin hown hK rfl (k := 5) (by decide) hf5 rfl dX0_addTray_20 rfl rfl (by decide)) <|
    al (s_iload_n hx hb (i := 2) rfl dX0_addTray_23 rfl) <|
    al (s_iald hx hb hK hln0 dX0_addTray_24 rfl) <|
    al (s_aload_n hx hb (i := 0) rfl dX0_addTray_25 rfl) <|
    al (s_getA (N := 16) hx hb hts hin hown hK rfl (k := 2) (by decide) hf2 rfl dX0_addTray_26 rfl rfl (by decide)) <|
    al (s_iload_n hx hb (i := 2) rfl dX0_addTray_29 rfl) <|
    al (s_iald hx hb hK hln0 dX0_addTray_30 rfl) <|
    al (s_iadd hx hb dX0_addTray_31 rfl) <|
    al (s_istore_n hx hb (i := 3) rfl dX0_addTray_32 rfl (by decide)) <|
    al (s_aload_n hx hb (i := 0) rfl dX0_addTray_33 rfl) <|
    al (s_getA (N := 16) hx hb hts hin hown hK rfl (k := 5) (by decide) hf5 rfl dX0_addTray_34 rfl rfl (by decide)) <|
    al (s_iload_n hx hb (i := 2) rfl dX0_addTray_37 rfl) <|
    al (s_iload_n hx hb (i := 3) rfl dX0_addTray_38 rfl) <|
    al (s_aload_n hx hb (i := 0) rfl dX0_addTray_39 rfl) <|
    al (s_getA (N := 16) hx hb hts hin hown hK rfl (k := 4) (by decide) hf4 rfl dX0_addTray_40 rfl rfl (by decide)) <|
    al (s_iload_n hx hb (i := 2) rfl dX0_addTray_43 rfl) <|
    al (s_iald hx hb hK hln0 dX0_addTray_44 rfl) <|
    al (s_icmp_le hx hb (by decide) dX0_addTray_45 rfl) <|
    al (s_iconst hx hb dX0_addTray_48 rfl) <|
    al (s_goto hx hb (by decide) dX0_addTray_49) <|
    al (s_iload_n hx hb (i := 3) rfl dX0_addTray_52 rfl) <|
    al (s_iast hx hb hK hln0 hu0 dX0_addTray_53 rfl) <|
    al ((fun lv st S h => hE _ lv st S dX0_addTray_54 h)) <| an
theorem ct0_addTray : CtV 0 ly0 ja0 yX0_addTray wsX0_addTray rm0_addTray X0_addTray := mk_V (C := RX0) (strs := xstrs) T0_addTray (by decide) rfl rfl rfl rfl (Fr := 0) (Lo := 0) (Nat.le_of_ble_eq_true rfl) (Nat.le_of_ble_eq_true rfl) (fun Q => sn0_addTray Q nox)
abbrev rm0_cellsAt : Room := { frames := 0, cells := 0, slots := 0, locals := 0 }
set_option maxRecDepth 20000 in
set_option maxHeartbeats 4000000 in
theorem sn0_cellsAt (Q : Int → ST → Prop) (Qx : String → ST → Prop) : SndT RX0 xstrs 0 ly0 ja0 cX0_cellsAt 3 (some .int) wsX0_cellsAt 0 0 Qx (EI cX0_cellsAt Q) relP (T0_cellsAt Q Qx) := by
  intro p l e R s m args below meth c Qf D cA A AD rel hC hFr hLo hK hA hrel hT hE
  obtain ⟨⟨hx, hb, hml, hown, hts⟩, hlk, hr⟩ := hC
  have hrR := hrel
  have hin : ∀ w ∈ u_ws RX0 TX0 16, w ∈ wsX0_cellsAt := by decide +kernel
  have hf3 := hts (.fieldLink RX0 16 "CellTrays" "kindCells" "[I") (by decide +kernel)
  have hf6 := hts (.fieldLink RX0 25 "CellTrays" "trayKind" "[I") (by decide +kernel)
  exact al (s_aload_n hx hb (i := 0) rfl dX0_cellsAt_0 rfl) <|
    al (s_getA (N := 16) hx hb hts hin hown hK rfl (k := 6) (by decide) hf6 rfl dX0_cellsAt_1 rfl rfl (by decide)) <|
    al (s_iload_n hx hb (i := 1) rfl dX0_cellsAt_4 rfl) <|
    al (s_iald hx hb hK hln0 dX0_cellsAt_5 rfl) <|
    al (s_istore_n hx hb (i := 2) rfl dX0_cellsAt_6 rfl (by decide)) <|
    al (s_iload_n hx hb (i := 2) rfl dX0_cellsAt_7 rfl) <|
    al (s_iconst hx hb dX0_cellsAt_8 rfl) <|
    al (s_icmp_ne hx hb (by decide) dX0_cellsAt_9 rfl) <|
    al (s_iconst hx hb dX0_cellsAt_12 rfl) <|
    al (s_goto hx hb (by decide) dX0_cellsAt_13) <|
    al (s_aload_n hx hb (i := 0) rfl dX0_cellsAt_16 rfl) <|
    al (s_getA (N := 16) hx hb hts hin hown hK rfl (k := 3) (by decide) hf3 rfl dX0_cellsAt_17 rfl rfl (by decide)) <|
    al (s_iload_n hx hb (i := 2) rfl dX0_cellsAt_20 rfl) <|
    al (s_iald hx hb hK hln0 dX0_cellsAt_21 rfl) <|
    al ((fun lv st S h => hE _ lv st S dX0_cellsAt_22 h)) <| an
theorem ct0_cellsAt : CtI 0 ly0 ja0 yX0_cellsAt wsX0_cellsAt rm0_cellsAt X0_cellsAt := mk_I (C := RX0) (strs := xstrs) T0_cellsAt (by decide) rfl rfl rfl rfl (Fr := 0) (Lo := 0) (Nat.le_of_ble_eq_true rfl) (Nat.le_of_ble_eq_true rfl) (fun Q => sn0_cellsAt Q nox)
abbrev rm0_layIn : Room := { frames := 1, cells := 0, slots := 0, locals := 22 }
set_option maxRecDepth 20000 in
set_option maxHeartbeats 4000000 in
theorem sn0_layIn (Q : ST → Prop) (Qx : String → ST → Prop) : SndT RX0 xstrs 0 ly0 ja0 cX0_layIn 5 (none) wsX0_layIn 1 22 Qx (EV cX0_layIn Q) relP (T0_layIn Q Qx) := by
  intro p l e R s m args below meth c Qf D cA A AD rel hC hFr hLo hK hA hrel hT hE
  obtain ⟨⟨hx, hb, hml, hown, hts⟩, hlk, hr⟩ := hC
  have hrR := hrel
  have hin : ∀ w ∈ u_ws RX0 TX0 16, w ∈ wsX0_layIn := by decide +kernel
  have hf8 := hts (.fieldLink RX0 31 "CellTrays" "trayThings" "[I") (by decide +kernel)
  have hf9 := hts (.fieldLink RX0 34 "CellTrays" "cellThing" "[I") (by decide +kernel)
  have hf12 := hts (.fieldLink RX0 40 "CellTrays" "thingPlace" "[I") (by decide +kernel)
  have hf13 := hts (.fieldLink RX0 43 "CellTrays" "thingCell" "[I") (by decide +kernel)
  exact al (s_aload_n hx hb (i := 0) rfl dX0_layIn_0 rfl) <|
    al (s_iload_n hx hb (i := 2) rfl dX0_layIn_1 rfl) <|
    al (s_calli ⟨hx, hb, hml, hown, hts⟩ hA hK hrR rfl ct0_cellsAt (cwV 1 hts gX0_layIn_X0_cellsAt rfl (rm := rm0_cellsAt) rfl rfl (by decide +kernel) ⟨Nat.le_trans (Nat.le_of_ble_eq_true rfl) hFr, Nat.le_trans (Nat.le_of_ble_eq_true rfl) hLo⟩) rfl dX0_layIn_2 rfl) <|
    al (s_istore_n hx hb (i := 3) rfl dX0_layIn_5 rfl (by decide)) <|
    al (s_iconst hx hb dX0_layIn_6 rfl) <|
    al (s_istore hx hb dX0_layIn_7 rfl (by decide)) <|
    al (s_iload hx hb dX0_layIn_9 rfl) <|
    al (s_iload_n hx hb (i := 3) rfl dX0_layIn_11 rfl) <|
    al (s_icmp_ge hx hb (by decide) dX0_layIn_12 rfl) <|
    al (s_aload_n hx hb (i := 0) rfl dX0_layIn_15 rfl) <|
    al (s_getA (N := 16) hx hb hts hin hown hK rfl (k := 9) (by decide) hf9 rfl dX0_layIn_16 rfl rfl (by decide)) <|
    al (s_iload_n hx hb (i := 2) rfl dX0_layIn_19 rfl) <|
    al (s_bipush hx hb dX0_layIn_20 rfl (by decide)) <|
    al (s_imul hx hb dX0_layIn_22 rfl) <|
    al (s_iload hx hb dX0_layIn_23 rfl) <|
    al (s_iadd hx hb dX0_layIn_25 rfl) <|
    al (s_iald hx hb hK hln0 dX0_layIn_26 rfl) <|
    al (s_iconst hx hb dX0_layIn_27 rfl) <|
    al (s_icmp_ne hx hb (by decide) dX0_layIn_28 rfl) <|
    al (s_aload_n hx hb (i := 0) rfl dX0_layIn_31 rfl) <|
    al (s_getA (N := 16) hx hb hts hin hown hK rfl (k := 9) (by decide) hf9 rfl dX0_layIn_32 rfl rfl (by decide)) <|
    al (s_iload_n hx hb (i := 2) rfl dX0_layIn_35 rfl) <|
    al (s_bipush hx hb dX0_layIn_36 rfl (by decide)) <|
    al (s_imul hx hb dX0_layIn_38 rfl) <|
    al (s_iload hx hb dX0_layIn_39 rfl) <|
    al (s_iadd hx hb dX0_layIn_41 rfl) <|
    al (s_iload_n hx hb (i := 1) rfl dX0_layIn_42 rfl) <|
    al (s_iast hx hb hK hln0 hu0 dX0_layIn_43 rfl) <|
    al (s_aload_n hx hb (i := 0) rfl dX0_layIn_44 rfl) <|
    al (s_getA (N := 16) hx hb hts hin hown hK rfl (k := 8) (by decide) hf8 rfl dX0_layIn_45 rfl rfl (by decide)) <|
    al (s_iload_n hx hb (i := 2) rfl dX0_layIn_48 rfl) <|
    al (s_dup2 hx hb dX0_layIn_49 rfl) <|
    al (s_iald hx hb hK hln0 dX0_layIn_50 rfl) <|
    al (s_iconst hx hb dX0_layIn_51 rfl) <|
    al (s_iadd hx hb dX0_layIn_52 rfl) <|
    al (s_iast hx hb hK hln0 hu0 dX0_layIn_53 rfl) <|
    al (s_aload_n hx hb (i := 0) rfl dX0_layIn_54 rfl) <|
    al (s_getA (N := 16) hx hb hts hin hown hK rfl (k := 12) (by decide) hf12 rfl dX0_layIn_55 rfl rfl (by decide)) <|
    al (s_iload_n hx hb (i := 1) rfl dX0_layIn_58 rfl) <|
    al (s_iload_n hx hb (i := 2) rfl dX0_layIn_59 rfl) <|
    al (s_iast hx hb hK hln0 hu0 dX0_layIn_60 rfl) <|
    al (s_aload_n hx hb (i := 0) rfl dX0_layIn_61 rfl) <|
    al (s_getA (N := 16) hx hb hts hin hown hK rfl (k := 13) (by decide) hf13 rfl dX0_layIn_62 rfl rfl (by decide)) <|
    al (s_iload_n hx hb (i := 1) rfl dX0_layIn_65 rfl) <|
    al (s_iload hx hb dX0_layIn_66 rfl) <|
    al (s_iast hx hb hK hln0 hu0 dX0_layIn_68 rfl) <|
    al ((fun lv st S h => hE _ lv st S dX0_layIn_69 h)) <|
    al (s_iinc hx hb dX0_layIn_70 rfl (by decide)) <|
    al (s_goto hx hb (by decide) dX0_layIn_73) <|
    al ((fun lv st S h => hE _ lv st S dX0_layIn_76 h)) <| an
theorem ct0_layIn : CtV 0 ly0 ja0 yX0_layIn wsX0_layIn rm0_layIn X0_layIn := mk_V (C := RX0) (strs := xstrs) T0_layIn (by decide) rfl rfl rfl rfl (Fr := 1) (Lo := 22) (Nat.le_of_ble_eq_true rfl) (Nat.le_of_ble_eq_true rfl) (fun Q => sn0_layIn Q nox)
abbrev rm0_put : Room := { frames := 7, cells := 0, slots := 0, locals := 103 }
abbrev rmx0_put : Room := { frames := 7, cells := 1, slots := 6, locals := 103 }
set_option maxRecDepth 20000 in
set_option maxHeartbeats 4000000 in
theorem sn0_put (Q : Int → ST → Prop) (Qx : String → ST → Prop) : SndT RX0 xstrs 0 ly0 ja0 cX0_put 4 (some .int) wsX0_put 7 103 Qx (EI cX0_put Q) relP (T0_put Q Qx) := by
  intro p l e R s m args below meth c Qf D cA A AD rel hC hFr hLo hK hA hrel hT hE
  obtain ⟨⟨hx, hb, hml, hown, hts⟩, hlk, hr⟩ := hC
  have hrR := hrel
  have hin : ∀ w ∈ u_ws RX0 TX0 16, w ∈ wsX0_put := by decide +kernel
  have hf6 := hts (.fieldLink RX0 25 "CellTrays" "trayKind" "[I") (by decide +kernel)
  have hf10 := hts (.fieldLink RX0 68 "CellTrays" "thingCount" "I") (by decide +kernel)
  have hf11 := hts (.fieldLink RX0 37 "CellTrays" "thingKind" "[I") (by decide +kernel)
  have hx_63 : ∀ w ∈ vx_atS RX0 63 "java/lang/IllegalStateException" ["java/lang/RuntimeException", "java/lang/Exception"], goodWord w = true → w ∈ wsX0_put := xin_63 (by first | exact fun w h => List.mem_cons_of_mem _ (List.mem_append_right _ h) | exact fun w h => List.mem_cons_of_mem _ (List.mem_append_left _ (List.mem_append_right _ h)) | exact fun w h => List.mem_cons_of_mem _ (List.mem_append_left _ (List.mem_append_left _ (List.mem_append_right _ h))))
  exact al (s_aload_n hx hb (i := 0) rfl dX0_put_0 rfl) <|
    al (s_iload_n hx hb (i := 1) rfl dX0_put_1 rfl) <|
    al (s_xcallv ⟨hx, hb, hml, hown, hts⟩ hA hK hrR hT rfl ct0_requireKind cx0_requireKind (cwV 1 hts gX0_put_X0_requireKind rfl (rm := rm0_requireKind) rfl rfl (by decide +kernel) ⟨Nat.le_trans (Nat.le_of_ble_eq_true rfl) hFr, Nat.le_trans (Nat.le_of_ble_eq_true rfl) hLo⟩) (cwV 1 hts gX0_put_X0_requireKind rfl (rm := rmx0_requireKind) rfl rfl (by decide +kernel) ⟨Nat.le_trans (Nat.le_of_ble_eq_true rfl) hFr, Nat.le_trans (Nat.le_of_ble_eq_true rfl) hLo⟩) rfl dX0_put_2 rfl) <|
    al (s_aload_n hx hb (i := 0) rfl dX0_put_5 rfl) <|
    al (s_getI (N := 16) hx hb hts hin hown hK rfl (k := 10) (by decide) hf10 rfl dX0_put_6 rfl rfl) <|
    al (s_sipush hx hb dX0_put_9 rfl (by decide)) <|
    al (s_icmp_lt hx hb (by decide) dX0_put_12 rfl) <|
    al (s_throw (names := ["java/lang/RuntimeException", "java/lang/Exception"]) hx hb hml hK hT hown (by decide +kernel) (by decide +kernel) rfl (hts (.classLink RX0 59 "java/lang/IllegalStateException") (by decide +kernel)) (hts (.initialized "java/lang/IllegalStateException") (by decide +kernel)) (text := "there were 150 things") (by decide +kernel) (fun w hw hg => hts w (hx_63 w hw hg)) xgw_63 xg_63 dX0_put_15 dX0_put_18 dX0_put_19 dX0_put_21 dX0_put_24) <|
    al (s_aload_n hx hb (i := 0) rfl dX0_put_25 rfl) <|
    al (s_iload_n hx hb (i := 1) rfl dX0_put_26 rfl) <|
    al (s_calli ⟨hx, hb, hml, hown, hts⟩ hA hK hrR rfl ct0_placeFor (cwV 1 hts gX0_put_X0_placeFor rfl (rm := rm0_placeFor) rfl rfl (by decide +kernel) ⟨Nat.le_trans (Nat.le_of_ble_eq_true rfl) hFr, Nat.le_trans (Nat.le_of_ble_eq_true rfl) hLo⟩) rfl dX0_put_27 rfl) <|
    al (s_istore_n hx hb (i := 2) rfl dX0_put_30 rfl (by decide)) <|
    al (s_iload_n hx hb (i := 2) rfl dX0_put_31 rfl) <|
    al (s_iconst hx hb dX0_put_32 rfl) <|
    al (s_icmp_ne hx hb (by decide) dX0_put_33 rfl) <|
    al (s_throw (names := ["java/lang/RuntimeException", "java/lang/Exception"]) hx hb hml hK hT hown (by decide +kernel) (by decide +kernel) rfl (hts (.classLink RX0 59 "java/lang/IllegalStateException") (by decide +kernel)) (hts (.initialized "java/lang/IllegalStateException") (by decide +kernel)) (text := "there is no room") (by decide +kernel) (fun w hw hg => hts w (hx_63 w hw hg)) xgw_63 xg_63 dX0_put_36 dX0_put_39 dX0_put_40 dX0_put_42 dX0_put_45) <|
    al (s_aload_n hx hb (i := 0) rfl dX0_put_46 rfl) <|
    al (s_getA (N := 16) hx hb hts hin hown hK rfl (k := 6) (by decide) hf6 rfl dX0_put_47 rfl rfl (by decide)) <|
    al (s_iload_n hx hb (i := 2) rfl dX0_put_50 rfl) <|
    al (s_iald hx hb hK hln0 dX0_put_51 rfl) <|
    al (s_iconst hx hb dX0_put_52 rfl) <|
    al (s_icmp_ne hx hb (by decide) dX0_put_53 rfl) <|
    al (s_aload_n hx hb (i := 0) rfl dX0_put_56 rfl) <|
    al (s_iload_n hx hb (i := 2) rfl dX0_put_57 rfl) <|
    al (s_iload_n hx hb (i := 1) rfl dX0_put_58 rfl) <|
    al (s_callv ⟨hx, hb, hml, hown, hts⟩ hA hK hrR rfl ct0_addTray (cwV 2 hts gX0_put_X0_addTray rfl (rm := rm0_addTray) rfl rfl (by decide +kernel) ⟨Nat.le_trans (Nat.le_of_ble_eq_true rfl) hFr, Nat.le_trans (Nat.le_of_ble_eq_true rfl) hLo⟩) rfl dX0_put_59 rfl) <|
    al (s_aload_n hx hb (i := 0) rfl dX0_put_62 rfl) <|
    al (s_getI (N := 16) hx hb hts hin hown hK rfl (k := 10) (by decide) hf10 rfl dX0_put_63 rfl rfl) <|
    al (s_istore_n hx hb (i := 3) rfl dX0_put_66 rfl (by decide)) <|
    al (s_aload_n hx hb (i := 0) rfl dX0_put_67 rfl) <|
    al (s_getA (N := 16) hx hb hts hin hown hK rfl (k := 11) (by decide) hf11 rfl dX0_put_68 rfl rfl (by decide)) <|
    al (s_iload_n hx hb (i := 3) rfl dX0_put_71 rfl) <|
    al (s_iload_n hx hb (i := 1) rfl dX0_put_72 rfl) <|
    al (s_iast hx hb hK hln0 hu0 dX0_put_73 rfl) <|
    al (s_aload_n hx hb (i := 0) rfl dX0_put_74 rfl) <|
    al (s_dup hx hb dX0_put_75 rfl) <|
    al (s_getI (N := 16) hx hb hts hin hown hK rfl (k := 10) (by decide) hf10 rfl dX0_put_76 rfl rfl) <|
    al (s_iconst hx hb dX0_put_79 rfl) <|
    al (s_iadd hx hb dX0_put_80 rfl) <|
    al (s_putI (N := 16) hx hb hts hin hown hK rfl (k := 10) (by decide) hf10 rfl tyX0 tyX0_ok nmX0 rfl (by decide +kernel) dX0_put_81 rfl rfl) <|
    al (s_aload_n hx hb (i := 0) rfl dX0_put_84 rfl) <|
    al (s_iload_n hx hb (i := 3) rfl dX0_put_85 rfl) <|
    al (s_iload_n hx hb (i := 2) rfl dX0_put_86 rfl) <|
    al (s_callv ⟨hx, hb, hml, hown, hts⟩ hA hK hrR rfl ct0_layIn (cwV 2 hts gX0_put_X0_layIn rfl (rm := rm0_layIn) rfl rfl (by decide +kernel) ⟨Nat.le_trans (Nat.le_of_ble_eq_true rfl) hFr, Nat.le_trans (Nat.le_of_ble_eq_true rfl) hLo⟩) rfl dX0_put_87 rfl) <|
    al (s_iload_n hx hb (i := 3) rfl dX0_put_90 rfl) <|
    al ((fun lv st S h => hE _ lv st S dX0_put_91 h)) <| an
theorem ct0_put : CtI 0 ly0 ja0 yX0_put wsX0_put rm0_put X0_put := mk_I (C := RX0) (strs := xstrs) T0_put (by decide) rfl rfl rfl rfl (Fr := 7) (Lo := 103) (Nat.le_of_ble_eq_true rfl) (Nat.le_of_ble_eq_true rfl) (fun Q => sn0_put Q nox)
theorem cx0_put : CtXI RX0 xstrs 0 ly0 ja0 yX0_put wsX0_put rmx0_put X0_put := mk_Ix (C := RX0) T0_put (by decide) rfl rfl rfl rfl (Fr := 7) (Lo := 103) (Nat.le_of_ble_eq_true rfl) (Nat.le_of_ble_eq_true rfl) (Nat.le_of_ble_eq_true rfl) (Nat.le_of_ble_eq_true rfl) (fun Qx => sn0_put _ Qx)
abbrev rm0_requireThing : Room := { frames := 6, cells := 0, slots := 0, locals := 82 }
abbrev rmx0_requireThing : Room := { frames := 6, cells := 1, slots := 6, locals := 82 }
set_option maxRecDepth 20000 in
set_option maxHeartbeats 4000000 in
theorem sn0_requireThing (Q : ST → Prop) (Qx : String → ST → Prop) : SndT RX0 xstrs 0 ly0 ja0 cX0_requireThing 2 (none) wsX0_requireThing 6 82 Qx (EV cX0_requireThing Q) relP (T0_requireThing Q Qx) := by
  intro p l e R s m args below meth c Qf D cA A AD rel hC hFr hLo hK hA hrel hT hE
  obtain ⟨⟨hx, hb, hml, hown, hts⟩, hlk, hr⟩ := hC
  have hrR := hrel
  have hin : ∀ w ∈ u_ws RX0 TX0 16, w ∈ wsX0_requireThing := by decide +kernel
  have hf10 := hts (.fieldLink RX0 68 "CellTrays" "thingCount" "I") (by decide +kernel)
  have hx_125 : ∀ w ∈ vx_atS RX0 125 "java/lang/IndexOutOfBoundsException" ["java/lang/RuntimeException", "java/lang/Exception"], goodWord w = true → w ∈ wsX0_requireThing := xin_125 (by first | exact fun w h => List.mem_cons_of_mem _ (List.mem_append_right _ h) | exact fun w h => List.mem_cons_of_mem _ (List.mem_append_left _ (List.mem_append_right _ h)) | exact fun w h => List.mem_cons_of_mem _ (List.mem_append_left _ (List.mem_append_left _ (List.mem_append_right _ h))))
  exact al (s_iload_n hx hb (i := 1) rfl dX0_requireThing_0 rfl) <|
    al (s_if_lt hx hb (by decide) dX0_requireThing_1 rfl) <|
    al (s_iload_n hx hb (i := 1) rfl dX0_requireThing_4 rfl) <|
    al (s_aload_n hx hb (i := 0) rfl dX0_requireThing_5 rfl) <|
    al (s_getI (N := 16) hx hb hts hin hown hK rfl (k := 10) (by decide) hf10 rfl dX0_requireThing_6 rfl rfl) <|
    al (s_icmp_lt hx hb (by decide) dX0_requireThing_9 rfl) <|
    al (s_throw (names := ["java/lang/RuntimeException", "java/lang/Exception"]) hx hb hml hK hT hown (by decide +kernel) (by decide +kernel) rfl (hts (.classLink RX0 121 "java/lang/IndexOutOfBoundsException") (by decide +kernel)) (hts (.initialized "java/lang/IndexOutOfBoundsException") (by decide +kernel)) (text := "there is no such thing") (by decide +kernel) (fun w hw hg => hts w (hx_125 w hw hg)) xgw_125 xg_125 dX0_requireThing_12 dX0_requireThing_15 dX0_requireThing_16 dX0_requireThing_18 dX0_requireThing_21) <|
    al ((fun lv st S h => hE _ lv st S dX0_requireThing_22 h)) <| an
theorem ct0_requireThing : CtV 0 ly0 ja0 yX0_requireThing wsX0_requireThing rm0_requireThing X0_requireThing := mk_V (C := RX0) (strs := xstrs) T0_requireThing (by decide) rfl rfl rfl rfl (Fr := 6) (Lo := 82) (Nat.le_of_ble_eq_true rfl) (Nat.le_of_ble_eq_true rfl) (fun Q => sn0_requireThing Q nox)
theorem cx0_requireThing : CtXV RX0 xstrs 0 ly0 ja0 yX0_requireThing wsX0_requireThing rmx0_requireThing X0_requireThing := mk_Vx (C := RX0) T0_requireThing (by decide) rfl rfl rfl rfl (Fr := 6) (Lo := 82) (Nat.le_of_ble_eq_true rfl) (Nat.le_of_ble_eq_true rfl) (Nat.le_of_ble_eq_true rfl) (Nat.le_of_ble_eq_true rfl) (fun Qx => sn0_requireThing _ Qx)
abbrev rm0_liftOut : Room := { frames := 0, cells := 0, slots := 0, locals := 0 }
set_option maxRecDepth 20000 in
set_option maxHeartbeats 4000000 in
theorem sn0_liftOut (Q : ST → Prop) (Qx : String → ST → Prop) : SndT RX0 xstrs 0 ly0 ja0 cX0_liftOut 3 (none) wsX0_liftOut 0 0 Qx (EV cX0_liftOut Q) relP (T0_liftOut Q Qx) := by
  intro p l e R s m args below meth c Qf D cA A AD rel hC hFr hLo hK hA hrel hT hE
  obtain ⟨⟨hx, hb, hml, hown, hts⟩, hlk, hr⟩ := hC
  have hrR := hrel
  have hin : ∀ w ∈ u_ws RX0 TX0 16, w ∈ wsX0_liftOut := by decide +kernel
  have hf8 := hts (.fieldLink RX0 31 "CellTrays" "trayThings" "[I") (by decide +kernel)
  have hf9 := hts (.fieldLink RX0 34 "CellTrays" "cellThing" "[I") (by decide +kernel)
  have hf12 := hts (.fieldLink RX0 40 "CellTrays" "thingPlace" "[I") (by decide +kernel)
  have hf13 := hts (.fieldLink RX0 43 "CellTrays" "thingCell" "[I") (by decide +kernel)
  exact al (s_aload_n hx hb (i := 0) rfl dX0_liftOut_0 rfl) <|
    al (s_getA (N := 16) hx hb hts hin hown hK rfl (k := 12) (by decide) hf12 rfl dX0_liftOut_1 rfl rfl (by decide)) <|
    al (s_iload_n hx hb (i := 1) rfl dX0_liftOut_4 rfl) <|
    al (s_iald hx hb hK hln0 dX0_liftOut_5 rfl) <|
    al (s_istore_n hx hb (i := 2) rfl dX0_liftOut_6 rfl (by decide)) <|
    al (s_aload_n hx hb (i := 0) rfl dX0_liftOut_7 rfl) <|
    al (s_getA (N := 16) hx hb hts hin hown hK rfl (k := 9) (by decide) hf9 rfl dX0_liftOut_8 rfl rfl (by decide)) <|
    al (s_iload_n hx hb (i := 2) rfl dX0_liftOut_11 rfl) <|
    al (s_bipush hx hb dX0_liftOut_12 rfl (by decide)) <|
    al (s_imul hx hb dX0_liftOut_14 rfl) <|
    al (s_aload_n hx hb (i := 0) rfl dX0_liftOut_15 rfl) <|
    al (s_getA (N := 16) hx hb hts hin hown hK rfl (k := 13) (by decide) hf13 rfl dX0_liftOut_16 rfl rfl (by decide)) <|
    al (s_iload_n hx hb (i := 1) rfl dX0_liftOut_19 rfl) <|
    al (s_iald hx hb hK hln0 dX0_liftOut_20 rfl) <|
    al (s_iadd hx hb dX0_liftOut_21 rfl) <|
    al (s_iconst hx hb dX0_liftOut_22 rfl) <|
    al (s_iast hx hb hK hln0 hu0 dX0_liftOut_23 rfl) <|
    al (s_aload_n hx hb (i := 0) rfl dX0_liftOut_24 rfl) <|
    al (s_getA (N := 16) hx hb hts hin hown hK rfl (k := 8) (by decide) hf8 rfl dX0_liftOut_25 rfl rfl (by decide)) <|
    al (s_iload_n hx hb (i := 2) rfl dX0_liftOut_28 rfl) <|
    al (s_dup2 hx hb dX0_liftOut_29 rfl) <|
    al (s_iald hx hb hK hln0 dX0_liftOut_30 rfl) <|
    al (s_iconst hx hb dX0_liftOut_31 rfl) <|
    al (s_isub hx hb dX0_liftOut_32 rfl) <|
    al (s_iast hx hb hK hln0 hu0 dX0_liftOut_33 rfl) <|
    al (s_aload_n hx hb (i := 0) rfl dX0_liftOut_34 rfl) <|
    al (s_getA (N := 16) hx hb hts hin hown hK rfl (k := 12) (by decide) hf12 rfl dX0_liftOut_35 rfl rfl (by decide)) <|
    al (s_iload_n hx hb (i := 1) rfl dX0_liftOut_38 rfl) <|
    al (s_iconst hx hb dX0_liftOut_39 rfl) <|
    al (s_iast hx hb hK hln0 hu0 dX0_liftOut_40 rfl) <|
    al ((fun lv st S h => hE _ lv st S dX0_liftOut_41 h)) <| an
theorem ct0_liftOut : CtV 0 ly0 ja0 yX0_liftOut wsX0_liftOut rm0_liftOut X0_liftOut := mk_V (C := RX0) (strs := xstrs) T0_liftOut (by decide) rfl rfl rfl rfl (Fr := 0) (Lo := 0) (Nat.le_of_ble_eq_true rfl) (Nat.le_of_ble_eq_true rfl) (fun Q => sn0_liftOut Q nox)
abbrev rm0_dropTray : Room := { frames := 0, cells := 0, slots := 0, locals := 0 }
set_option maxRecDepth 20000 in
set_option maxHeartbeats 4000000 in
theorem sn0_dropTray (Q : ST → Prop) (Qx : String → ST → Prop) : SndT RX0 xstrs 0 ly0 ja0 cX0_dropTray 2 (none) wsX0_dropTray 0 0 Qx (EV cX0_dropTray Q) relP (T0_dropTray Q Qx) := by
  intro p l e R s m args below meth c Qf D cA A AD rel hC hFr hLo hK hA hrel hT hE
  obtain ⟨⟨hx, hb, hml, hown, hts⟩, hlk, hr⟩ := hC
  have hrR := hrel
  have hin : ∀ w ∈ u_ws RX0 TX0 16, w ∈ wsX0_dropTray := by decide +kernel
  have hf6 := hts (.fieldLink RX0 25 "CellTrays" "trayKind" "[I") (by decide +kernel)
  have hf14 := hts (.fieldLink RX0 146 "CellTrays" "goneCount" "I") (by decide +kernel)
  exact al (s_aload_n hx hb (i := 0) rfl dX0_dropTray_0 rfl) <|
    al (s_getA (N := 16) hx hb hts hin hown hK rfl (k := 6) (by decide) hf6 rfl dX0_dropTray_1 rfl rfl (by decide)) <|
    al (s_iload_n hx hb (i := 1) rfl dX0_dropTray_4 rfl) <|
    al (s_iconst hx hb dX0_dropTray_5 rfl) <|
    al (s_iast hx hb hK hln0 hu0 dX0_dropTray_6 rfl) <|
    al (s_aload_n hx hb (i := 0) rfl dX0_dropTray_7 rfl) <|
    al (s_dup hx hb dX0_dropTray_8 rfl) <|
    al (s_getI (N := 16) hx hb hts hin hown hK rfl (k := 14) (by decide) hf14 rfl dX0_dropTray_9 rfl rfl) <|
    al (s_iconst hx hb dX0_dropTray_12 rfl) <|
    al (s_iadd hx hb dX0_dropTray_13 rfl) <|
    al (s_putI (N := 16) hx hb hts hin hown hK rfl (k := 14) (by decide) hf14 rfl tyX0 tyX0_ok nmX0 rfl (by decide +kernel) dX0_dropTray_14 rfl rfl) <|
    al ((fun lv st S h => hE _ lv st S dX0_dropTray_17 h)) <| an
theorem ct0_dropTray : CtV 0 ly0 ja0 yX0_dropTray wsX0_dropTray rm0_dropTray X0_dropTray := mk_V (C := RX0) (strs := xstrs) T0_dropTray (by decide) rfl rfl rfl rfl (Fr := 0) (Lo := 0) (Nat.le_of_ble_eq_true rfl) (Nat.le_of_ble_eq_true rfl) (fun Q => sn0_dropTray Q nox)
abbrev rm0_take : Room := { frames := 7, cells := 0, slots := 0, locals := 103 }
abbrev rmx0_take : Room := { frames := 7, cells := 1, slots := 6, locals := 103 }
set_option maxRecDepth 20000 in
set_option maxHeartbeats 4000000 in
theorem sn0_take (Q : Int → ST → Prop) (Qx : String → ST → Prop) : SndT RX0 xstrs 0 ly0 ja0 cX0_take 5 (some .boolean) wsX0_take 7 103 Qx (EZ cX0_take Q) relP (T0_take Q Qx) := by
  intro p l e R s m args below meth c Qf D cA A AD rel hC hFr hLo hK hA hrel hT hE
  obtain ⟨⟨hx, hb, hml, hown, hts⟩, hlk, hr⟩ := hC
  have hrR := hrel
  have hin : ∀ w ∈ u_ws RX0 TX0 16, w ∈ wsX0_take := by decide +kernel
  have hf8 := hts (.fieldLink RX0 31 "CellTrays" "trayThings" "[I") (by decide +kernel)
  have hf11 := hts (.fieldLink RX0 37 "CellTrays" "thingKind" "[I") (by decide +kernel)
  have hf12 := hts (.fieldLink RX0 40 "CellTrays" "thingPlace" "[I") (by decide +kernel)
  have hx_63 : ∀ w ∈ vx_atS RX0 63 "java/lang/IllegalStateException" ["java/lang/RuntimeException", "java/lang/Exception"], goodWord w = true → w ∈ wsX0_take := xin_63 (by first | exact fun w h => List.mem_cons_of_mem _ (List.mem_append_right _ h) | exact fun w h => List.mem_cons_of_mem _ (List.mem_append_left _ (List.mem_append_right _ h)) | exact fun w h => List.mem_cons_of_mem _ (List.mem_append_left _ (List.mem_append_left _ (List.mem_append_right _ h))))
  exact al (s_aload_n hx hb (i := 0) rfl dX0_take_0 rfl) <|
    al (s_iload_n hx hb (i := 1) rfl dX0_take_1 rfl) <|
    al (s_xcallv ⟨hx, hb, hml, hown, hts⟩ hA hK hrR hT rfl ct0_requireThing cx0_requireThing (cwV 1 hts gX0_take_X0_requireThing rfl (rm := rm0_requireThing) rfl rfl (by decide +kernel) ⟨Nat.le_trans (Nat.le_of_ble_eq_true rfl) hFr, Nat.le_trans (Nat.le_of_ble_eq_true rfl) hLo⟩) (cwV 1 hts gX0_take_X0_requireThing rfl (rm := rmx0_requireThing) rfl rfl (by decide +kernel) ⟨Nat.le_trans (Nat.le_of_ble_eq_true rfl) hFr, Nat.le_trans (Nat.le_of_ble_eq_true rfl) hLo⟩) rfl dX0_take_2 rfl) <|
    al (s_aload_n hx hb (i := 0) rfl dX0_take_5 rfl) <|
    al (s_getA (N := 16) hx hb hts hin hown hK rfl (k := 12) (by decide) hf12 rfl dX0_take_6 rfl rfl (by decide)) <|
    al (s_iload_n hx hb (i := 1) rfl dX0_take_9 rfl) <|
    al (s_iald hx hb hK hln0 dX0_take_10 rfl) <|
    al (s_istore_n hx hb (i := 2) rfl dX0_take_11 rfl (by decide)) <|
    al (s_iload_n hx hb (i := 2) rfl dX0_take_12 rfl) <|
    al (s_iconst hx hb dX0_take_13 rfl) <|
    al (s_icmp_ne hx hb (by decide) dX0_take_14 rfl) <|
    al (s_throw (names := ["java/lang/RuntimeException", "java/lang/Exception"]) hx hb hml hK hT hown (by decide +kernel) (by decide +kernel) rfl (hts (.classLink RX0 59 "java/lang/IllegalStateException") (by decide +kernel)) (hts (.initialized "java/lang/IllegalStateException") (by decide +kernel)) (text := "the thing was taken out") (by decide +kernel) (fun w hw hg => hts w (hx_63 w hw hg)) xgw_63 xg_63 dX0_take_17 dX0_take_20 dX0_take_21 dX0_take_23 dX0_take_26) <|
    al (s_aload_n hx hb (i := 0) rfl dX0_take_27 rfl) <|
    al (s_aload_n hx hb (i := 0) rfl dX0_take_28 rfl) <|
    al (s_getA (N := 16) hx hb hts hin hown hK rfl (k := 11) (by decide) hf11 rfl dX0_take_29 rfl rfl (by decide)) <|
    al (s_iload_n hx hb (i := 1) rfl dX0_take_32 rfl) <|
    al (s_iald hx hb hK hln0 dX0_take_33 rfl) <|
    al (s_calli ⟨hx, hb, hml, hown, hts⟩ hA hK hrR rfl ct0_firstEmpty (cwV 1 hts gX0_take_X0_firstEmpty rfl (rm := rm0_firstEmpty) rfl rfl (by decide +kernel) ⟨Nat.le_trans (Nat.le_of_ble_eq_true rfl) hFr, Nat.le_trans (Nat.le_of_ble_eq_true rfl) hLo⟩) rfl dX0_take_34 rfl) <|
    al (s_iconst hx hb dX0_take_37 rfl) <|
    al (s_icmp_eq hx hb (by decide) dX0_take_38 rfl) <|
    al (s_iconst hx hb dX0_take_41 rfl) <|
    al (s_goto hx hb (by decide) dX0_take_42) <|
    al (s_iconst hx hb dX0_take_45 rfl) <|
    al (s_istore_n hx hb (i := 3) rfl dX0_take_46 rfl (by decide)) <|
    al (s_aload_n hx hb (i := 0) rfl dX0_take_47 rfl) <|
    al (s_iload_n hx hb (i := 1) rfl dX0_take_48 rfl) <|
    al (s_callv ⟨hx, hb, hml, hown, hts⟩ hA hK hrR rfl ct0_liftOut (cwV 1 hts gX0_take_X0_liftOut rfl (rm := rm0_liftOut) rfl rfl (by decide +kernel) ⟨Nat.le_trans (Nat.le_of_ble_eq_true rfl) hFr, Nat.le_trans (Nat.le_of_ble_eq_true rfl) hLo⟩) rfl dX0_take_49 rfl) <|
    al (s_aload_n hx hb (i := 0) rfl dX0_take_52 rfl) <|
    al (s_getA (N := 16) hx hb hts hin hown hK rfl (k := 8) (by decide) hf8 rfl dX0_take_53 rfl rfl (by decide)) <|
    al (s_iload_n hx hb (i := 2) rfl dX0_take_56 rfl) <|
    al (s_iald hx hb hK hln0 dX0_take_57 rfl) <|
    al (s_if_ne hx hb (by decide) dX0_take_58 rfl) <|
    al (s_iload_n hx hb (i := 3) rfl dX0_take_61 rfl) <|
    al (s_if_eq hx hb (by decide) dX0_take_62 rfl) <|
    al (s_iconst hx hb dX0_take_65 rfl) <|
    al (s_goto hx hb (by decide) dX0_take_66) <|
    al (s_iconst hx hb dX0_take_69 rfl) <|
    al (s_istore hx hb dX0_take_70 rfl (by decide)) <|
    al (s_iload hx hb dX0_take_72 rfl) <|
    al (s_if_eq hx hb (by decide) dX0_take_74 rfl) <|
    al (s_aload_n hx hb (i := 0) rfl dX0_take_77 rfl) <|
    al (s_iload_n hx hb (i := 2) rfl dX0_take_78 rfl) <|
    al (s_callv ⟨hx, hb, hml, hown, hts⟩ hA hK hrR rfl ct0_dropTray (cwV 1 hts gX0_take_X0_dropTray rfl (rm := rm0_dropTray) rfl rfl (by decide +kernel) ⟨Nat.le_trans (Nat.le_of_ble_eq_true rfl) hFr, Nat.le_trans (Nat.le_of_ble_eq_true rfl) hLo⟩) rfl dX0_take_79 rfl) <|
    al (s_iload hx hb dX0_take_82 rfl) <|
    al ((fun lv st S h => hE _ lv st S dX0_take_84 h)) <| an
theorem ct0_take : CtI 0 ly0 ja0 yX0_take wsX0_take rm0_take X0_take := mk_Z (C := RX0) (strs := xstrs) T0_take (by decide) rfl rfl rfl rfl (Fr := 7) (Lo := 103) (Nat.le_of_ble_eq_true rfl) (Nat.le_of_ble_eq_true rfl) (fun Q => sn0_take Q nox)
theorem cx0_take : CtXI RX0 xstrs 0 ly0 ja0 yX0_take wsX0_take rmx0_take X0_take := mk_Zx (C := RX0) T0_take (by decide) rfl rfl rfl rfl (Fr := 7) (Lo := 103) (Nat.le_of_ble_eq_true rfl) (Nat.le_of_ble_eq_true rfl) (Nat.le_of_ble_eq_true rfl) (Nat.le_of_ble_eq_true rfl) (fun Qx => sn0_take _ Qx)
abbrev rm0_sweep : Room := { frames := 1, cells := 0, slots := 0, locals := 21 }
set_option maxRecDepth 20000 in
set_option maxHeartbeats 4000000 in
theorem sn0_sweep (Q : Int → ST → Prop) (Qx : String → ST → Prop) : SndT RX0 xstrs 0 ly0 ja0 cX0_sweep 3 (some .int) wsX0_sweep 1 21 Qx (EI cX0_sweep Q) relP (T0_sweep Q Qx) := by
  intro p l e R s m args below meth c Qf D cA A AD rel hC hFr hLo hK hA hrel hT hE
  obtain ⟨⟨hx, hb, hml, hown, hts⟩, hlk, hr⟩ := hC
  have hrR := hrel
  have hin : ∀ w ∈ u_ws RX0 TX0 16, w ∈ wsX0_sweep := by decide +kernel
  have hf6 := hts (.fieldLink RX0 25 "CellTrays" "trayKind" "[I") (by decide +kernel)
  have hf8 := hts (.fieldLink RX0 31 "CellTrays" "trayThings" "[I") (by decide +kernel)
  exact al (s_iconst hx hb dX0_sweep_0 rfl) <|
    al (s_istore_n hx hb (i := 1) rfl dX0_sweep_1 rfl (by decide)) <|
    al (s_iconst hx hb dX0_sweep_2 rfl) <|
    al (s_istore_n hx hb (i := 2) rfl dX0_sweep_3 rfl (by decide)) <|
    al (s_iload_n hx hb (i := 2) rfl dX0_sweep_4 rfl) <|
    al (s_bipush hx hb dX0_sweep_5 rfl (by decide)) <|
    al (s_icmp_ge hx hb (by decide) dX0_sweep_7 rfl) <|
    al (s_aload_n hx hb (i := 0) rfl dX0_sweep_10 rfl) <|
    al (s_getA (N := 16) hx hb hts hin hown hK rfl (k := 6) (by decide) hf6 rfl dX0_sweep_11 rfl rfl (by decide)) <|
    al (s_iload_n hx hb (i := 2) rfl dX0_sweep_14 rfl) <|
    al (s_iald hx hb hK hln0 dX0_sweep_15 rfl) <|
    al (s_iconst hx hb dX0_sweep_16 rfl) <|
    al (s_icmp_eq hx hb (by decide) dX0_sweep_17 rfl) <|
    al (s_aload_n hx hb (i := 0) rfl dX0_sweep_20 rfl) <|
    al (s_getA (N := 16) hx hb hts hin hown hK rfl (k := 8) (by decide) hf8 rfl dX0_sweep_21 rfl rfl (by decide)) <|
    al (s_iload_n hx hb (i := 2) rfl dX0_sweep_24 rfl) <|
    al (s_iald hx hb hK hln0 dX0_sweep_25 rfl) <|
    al (s_if_ne hx hb (by decide) dX0_sweep_26 rfl) <|
    al (s_aload_n hx hb (i := 0) rfl dX0_sweep_29 rfl) <|
    al (s_iload_n hx hb (i := 2) rfl dX0_sweep_30 rfl) <|
    al (s_callv ⟨hx, hb, hml, hown, hts⟩ hA hK hrR rfl ct0_dropTray (cwV 1 hts gX0_sweep_X0_dropTray rfl (rm := rm0_dropTray) rfl rfl (by decide +kernel) ⟨Nat.le_trans (Nat.le_of_ble_eq_true rfl) hFr, Nat.le_trans (Nat.le_of_ble_eq_true rfl) hLo⟩) rfl dX0_sweep_31 rfl) <|
    al (s_iinc hx hb dX0_sweep_34 rfl (by decide)) <|
    al (s_iinc hx hb dX0_sweep_37 rfl (by decide)) <|
    al (s_goto hx hb (by decide) dX0_sweep_40) <|
    al (s_iload_n hx hb (i := 1) rfl dX0_sweep_43 rfl) <|
    al ((fun lv st S h => hE _ lv st S dX0_sweep_44 h)) <| an
theorem ct0_sweep : CtI 0 ly0 ja0 yX0_sweep wsX0_sweep rm0_sweep X0_sweep := mk_I (C := RX0) (strs := xstrs) T0_sweep (by decide) rfl rfl rfl rfl (Fr := 1) (Lo := 21) (Nat.le_of_ble_eq_true rfl) (Nat.le_of_ble_eq_true rfl) (fun Q => sn0_sweep Q nox)
abbrev rm0_leastPartly : Room := { frames := 1, cells := 0, slots := 0, locals := 22 }
set_option maxRecDepth 20000 in
set_option maxHeartbeats 4000000 in
theorem sn0_leastPartly (Q : Int → ST → Prop) (Qx : String → ST → Prop) : SndT RX0 xstrs 0 ly0 ja0 cX0_leastPartly 5 (some .int) wsX0_leastPartly 1 22 Qx (EI cX0_leastPartly Q) relP (T0_leastPartly Q Qx) := by
  intro p l e R s m args below meth c Qf D cA A AD rel hC hFr hLo hK hA hrel hT hE
  obtain ⟨⟨hx, hb, hml, hown, hts⟩, hlk, hr⟩ := hC
  have hrR := hrel
  have hin : ∀ w ∈ u_ws RX0 TX0 16, w ∈ wsX0_leastPartly := by decide +kernel
  have hf8 := hts (.fieldLink RX0 31 "CellTrays" "trayThings" "[I") (by decide +kernel)
  exact al (s_iconst hx hb dX0_leastPartly_0 rfl) <|
    al (s_istore_n hx hb (i := 2) rfl dX0_leastPartly_1 rfl (by decide)) <|
    al (s_bipush hx hb dX0_leastPartly_2 rfl (by decide)) <|
    al (s_istore_n hx hb (i := 3) rfl dX0_leastPartly_4 rfl (by decide)) <|
    al (s_iconst hx hb dX0_leastPartly_5 rfl) <|
    al (s_istore hx hb dX0_leastPartly_6 rfl (by decide)) <|
    al (s_iload hx hb dX0_leastPartly_8 rfl) <|
    al (s_bipush hx hb dX0_leastPartly_10 rfl (by decide)) <|
    al (s_icmp_ge hx hb (by decide) dX0_leastPartly_12 rfl) <|
    al (s_aload_n hx hb (i := 0) rfl dX0_leastPartly_15 rfl) <|
    al (s_iload hx hb dX0_leastPartly_16 rfl) <|
    al (s_iload_n hx hb (i := 1) rfl dX0_leastPartly_18 rfl) <|
    al (s_calli ⟨hx, hb, hml, hown, hts⟩ hA hK hrR rfl ct0_isPartly (cwV 2 hts gX0_leastPartly_X0_isPartly rfl (rm := rm0_isPartly) rfl rfl (by decide +kernel) ⟨Nat.le_trans (Nat.le_of_ble_eq_true rfl) hFr, Nat.le_trans (Nat.le_of_ble_eq_true rfl) hLo⟩) rfl dX0_leastPartly_19 rfl) <|
    al (s_if_eq hx hb (by decide) dX0_leastPartly_22 rfl) <|
    al (s_aload_n hx hb (i := 0) rfl dX0_leastPartly_25 rfl) <|
    al (s_getA (N := 16) hx hb hts hin hown hK rfl (k := 8) (by decide) hf8 rfl dX0_leastPartly_26 rfl rfl (by decide)) <|
    al (s_iload hx hb dX0_leastPartly_29 rfl) <|
    al (s_iald hx hb hK hln0 dX0_leastPartly_31 rfl) <|
    al (s_iload_n hx hb (i := 3) rfl dX0_leastPartly_32 rfl) <|
    al (s_icmp_gt hx hb (by decide) dX0_leastPartly_33 rfl) <|
    al (s_aload_n hx hb (i := 0) rfl dX0_leastPartly_36 rfl) <|
    al (s_getA (N := 16) hx hb hts hin hown hK rfl (k := 8) (by decide) hf8 rfl dX0_leastPartly_37 rfl rfl (by decide)) <|
    al (s_iload hx hb dX0_leastPartly_40 rfl) <|
    al (s_iald hx hb hK hln0 dX0_leastPartly_42 rfl) <|
    al (s_istore_n hx hb (i := 3) rfl dX0_leastPartly_43 rfl (by decide)) <|
    al (s_iload hx hb dX0_leastPartly_44 rfl) <|
    al (s_istore_n hx hb (i := 2) rfl dX0_leastPartly_46 rfl (by decide)) <|
    al (s_iinc hx hb dX0_leastPartly_47 rfl (by decide)) <|
    al (s_goto hx hb (by decide) dX0_leastPartly_50) <|
    al (s_iload_n hx hb (i := 2) rfl dX0_leastPartly_53 rfl) <|
    al ((fun lv st S h => hE _ lv st S dX0_leastPartly_54 h)) <| an
theorem ct0_leastPartly : CtI 0 ly0 ja0 yX0_leastPartly wsX0_leastPartly rm0_leastPartly X0_leastPartly := mk_I (C := RX0) (strs := xstrs) T0_leastPartly (by decide) rfl rfl rfl rfl (Fr := 1) (Lo := 22) (Nat.le_of_ble_eq_true rfl) (Nat.le_of_ble_eq_true rfl) (fun Q => sn0_leastPartly Q nox)
abbrev rm0_moveLast : Room := { frames := 2, cells := 0, slots := 0, locals := 46 }
set_option maxRecDepth 20000 in
set_option maxHeartbeats 4000000 in
theorem sn0_moveLast (Q : ST → Prop) (Qx : String → ST → Prop) : SndT RX0 xstrs 0 ly0 ja0 cX0_moveLast 5 (none) wsX0_moveLast 2 46 Qx (EV cX0_moveLast Q) relP (T0_moveLast Q Qx) := by
  intro p l e R s m args below meth c Qf D cA A AD rel hC hFr hLo hK hA hrel hT hE
  obtain ⟨⟨hx, hb, hml, hown, hts⟩, hlk, hr⟩ := hC
  have hrR := hrel
  have hin : ∀ w ∈ u_ws RX0 TX0 16, w ∈ wsX0_moveLast := by decide +kernel
  have hf9 := hts (.fieldLink RX0 34 "CellTrays" "cellThing" "[I") (by decide +kernel)
  exact al (s_aload_n hx hb (i := 0) rfl dX0_moveLast_0 rfl) <|
    al (s_iload_n hx hb (i := 1) rfl dX0_moveLast_1 rfl) <|
    al (s_calli ⟨hx, hb, hml, hown, hts⟩ hA hK hrR rfl ct0_cellsAt (cwV 1 hts gX0_moveLast_X0_cellsAt rfl (rm := rm0_cellsAt) rfl rfl (by decide +kernel) ⟨Nat.le_trans (Nat.le_of_ble_eq_true rfl) hFr, Nat.le_trans (Nat.le_of_ble_eq_true rfl) hLo⟩) rfl dX0_moveLast_2 rfl) <|
    al (s_iconst hx hb dX0_moveLast_5 rfl) <|
    al (s_isub hx hb dX0_moveLast_6 rfl) <|
    al (s_istore_n hx hb (i := 3) rfl dX0_moveLast_7 rfl (by decide)) <|
    al (s_iload_n hx hb (i := 3) rfl dX0_moveLast_8 rfl) <|
    al (s_if_lt hx hb (by decide) dX0_moveLast_9 rfl) <|
    al (s_aload_n hx hb (i := 0) rfl dX0_moveLast_12 rfl) <|
    al (s_getA (N := 16) hx hb hts hin hown hK rfl (k := 9) (by decide) hf9 rfl dX0_moveLast_13 rfl rfl (by decide)) <|
    al (s_iload_n hx hb (i := 1) rfl dX0_moveLast_16 rfl) <|
    al (s_bipush hx hb dX0_moveLast_17 rfl (by decide)) <|
    al (s_imul hx hb dX0_moveLast_19 rfl) <|
    al (s_iload_n hx hb (i := 3) rfl dX0_moveLast_20 rfl) <|
    al (s_iadd hx hb dX0_moveLast_21 rfl) <|
    al (s_iald hx hb hK hln0 dX0_moveLast_22 rfl) <|
    al (s_istore hx hb dX0_moveLast_23 rfl (by decide)) <|
    al (s_iload hx hb dX0_moveLast_25 rfl) <|
    al (s_iconst hx hb dX0_moveLast_27 rfl) <|
    al (s_icmp_eq hx hb (by decide) dX0_moveLast_28 rfl) <|
    al (s_aload_n hx hb (i := 0) rfl dX0_moveLast_31 rfl) <|
    al (s_iload hx hb dX0_moveLast_32 rfl) <|
    al (s_callv ⟨hx, hb, hml, hown, hts⟩ hA hK hrR rfl ct0_liftOut (cwV 1 hts gX0_moveLast_X0_liftOut rfl (rm := rm0_liftOut) rfl rfl (by decide +kernel) ⟨Nat.le_trans (Nat.le_of_ble_eq_true rfl) hFr, Nat.le_trans (Nat.le_of_ble_eq_true rfl) hLo⟩) rfl dX0_moveLast_34 rfl) <|
    al (s_aload_n hx hb (i := 0) rfl dX0_moveLast_37 rfl) <|
    al (s_iload hx hb dX0_moveLast_38 rfl) <|
    al (s_iload_n hx hb (i := 2) rfl dX0_moveLast_40 rfl) <|
    al (s_callv ⟨hx, hb, hml, hown, hts⟩ hA hK hrR rfl ct0_layIn (cwV 2 hts gX0_moveLast_X0_layIn rfl (rm := rm0_layIn) rfl rfl (by decide +kernel) ⟨Nat.le_trans (Nat.le_of_ble_eq_true rfl) hFr, Nat.le_trans (Nat.le_of_ble_eq_true rfl) hLo⟩) rfl dX0_moveLast_41 rfl) <|
    al ((fun lv st S h => hE _ lv st S dX0_moveLast_44 h)) <|
    al (s_iinc hx hb dX0_moveLast_45 rfl (by decide)) <|
    al (s_goto hx hb (by decide) dX0_moveLast_48) <|
    al ((fun lv st S h => hE _ lv st S dX0_moveLast_51 h)) <| an
theorem ct0_moveLast : CtV 0 ly0 ja0 yX0_moveLast wsX0_moveLast rm0_moveLast X0_moveLast := mk_V (C := RX0) (strs := xstrs) T0_moveLast (by decide) rfl rfl rfl rfl (Fr := 2) (Lo := 46) (Nat.le_of_ble_eq_true rfl) (Nat.le_of_ble_eq_true rfl) (fun Q => sn0_moveLast Q nox)
abbrev rm0_pack : Room := { frames := 7, cells := 0, slots := 0, locals := 103 }
abbrev rmx0_pack : Room := { frames := 7, cells := 1, slots := 6, locals := 103 }
set_option maxRecDepth 20000 in
set_option maxHeartbeats 4000000 in
theorem sn0_pack (Q : Int → ST → Prop) (Qx : String → ST → Prop) : SndT RX0 xstrs 0 ly0 ja0 cX0_pack 5 (some .int) wsX0_pack 7 103 Qx (EI cX0_pack Q) relP (T0_pack Q Qx) := by
  intro p l e R s m args below meth c Qf D cA A AD rel hC hFr hLo hK hA hrel hT hE
  obtain ⟨⟨hx, hb, hml, hown, hts⟩, hlk, hr⟩ := hC
  have hrR := hrel
  have hin : ∀ w ∈ u_ws RX0 TX0 16, w ∈ wsX0_pack := by decide +kernel
  have hf15 := hts (.fieldLink RX0 109 "CellTrays" "movedCount" "I") (by decide +kernel)
  exact al (s_aload_n hx hb (i := 0) rfl dX0_pack_0 rfl) <|
    al (s_iload_n hx hb (i := 1) rfl dX0_pack_1 rfl) <|
    al (s_xcallv ⟨hx, hb, hml, hown, hts⟩ hA hK hrR hT rfl ct0_requireKind cx0_requireKind (cwV 1 hts gX0_pack_X0_requireKind rfl (rm := rm0_requireKind) rfl rfl (by decide +kernel) ⟨Nat.le_trans (Nat.le_of_ble_eq_true rfl) hFr, Nat.le_trans (Nat.le_of_ble_eq_true rfl) hLo⟩) (cwV 1 hts gX0_pack_X0_requireKind rfl (rm := rmx0_requireKind) rfl rfl (by decide +kernel) ⟨Nat.le_trans (Nat.le_of_ble_eq_true rfl) hFr, Nat.le_trans (Nat.le_of_ble_eq_true rfl) hLo⟩) rfl dX0_pack_2 rfl) <|
    al (s_iconst hx hb dX0_pack_5 rfl) <|
    al (s_istore_n hx hb (i := 2) rfl dX0_pack_6 rfl (by decide)) <|
    al (s_iload_n hx hb (i := 2) rfl dX0_pack_7 rfl) <|
    al (s_sipush hx hb dX0_pack_8 rfl (by decide)) <|
    al (s_icmp_ge hx hb (by decide) dX0_pack_11 rfl) <|
    al (s_aload_n hx hb (i := 0) rfl dX0_pack_14 rfl) <|
    al (s_iload_n hx hb (i := 1) rfl dX0_pack_15 rfl) <|
    al (s_calli ⟨hx, hb, hml, hown, hts⟩ hA hK hrR rfl ct0_leastPartly (cwV 1 hts gX0_pack_X0_leastPartly rfl (rm := rm0_leastPartly) rfl rfl (by decide +kernel) ⟨Nat.le_trans (Nat.le_of_ble_eq_true rfl) hFr, Nat.le_trans (Nat.le_of_ble_eq_true rfl) hLo⟩) rfl dX0_pack_16 rfl) <|
    al (s_istore_n hx hb (i := 3) rfl dX0_pack_19 rfl (by decide)) <|
    al (s_aload_n hx hb (i := 0) rfl dX0_pack_20 rfl) <|
    al (s_iload_n hx hb (i := 1) rfl dX0_pack_21 rfl) <|
    al (s_calli ⟨hx, hb, hml, hown, hts⟩ hA hK hrR rfl ct0_mostPartly (cwV 1 hts gX0_pack_X0_mostPartly rfl (rm := rm0_mostPartly) rfl rfl (by decide +kernel) ⟨Nat.le_trans (Nat.le_of_ble_eq_true rfl) hFr, Nat.le_trans (Nat.le_of_ble_eq_true rfl) hLo⟩) rfl dX0_pack_22 rfl) <|
    al (s_istore hx hb dX0_pack_25 rfl (by decide)) <|
    al (s_iload_n hx hb (i := 3) rfl dX0_pack_27 rfl) <|
    al (s_iconst hx hb dX0_pack_28 rfl) <|
    al (s_icmp_eq hx hb (by decide) dX0_pack_29 rfl) <|
    al (s_iload hx hb dX0_pack_32 rfl) <|
    al (s_iconst hx hb dX0_pack_34 rfl) <|
    al (s_icmp_eq hx hb (by decide) dX0_pack_35 rfl) <|
    al (s_iload_n hx hb (i := 3) rfl dX0_pack_38 rfl) <|
    al (s_iload hx hb dX0_pack_39 rfl) <|
    al (s_icmp_ne hx hb (by decide) dX0_pack_41 rfl) <|
    al (s_goto hx hb (by decide) dX0_pack_44) <|
    al (s_aload_n hx hb (i := 0) rfl dX0_pack_47 rfl) <|
    al (s_iload_n hx hb (i := 3) rfl dX0_pack_48 rfl) <|
    al (s_iload hx hb dX0_pack_49 rfl) <|
    al (s_callv ⟨hx, hb, hml, hown, hts⟩ hA hK hrR rfl ct0_moveLast (cwV 2 hts gX0_pack_X0_moveLast rfl (rm := rm0_moveLast) rfl rfl (by decide +kernel) ⟨Nat.le_trans (Nat.le_of_ble_eq_true rfl) hFr, Nat.le_trans (Nat.le_of_ble_eq_true rfl) hLo⟩) rfl dX0_pack_51 rfl) <|
    al (s_iinc hx hb dX0_pack_54 rfl (by decide)) <|
    al (s_goto hx hb (by decide) dX0_pack_57) <|
    al (s_aload_n hx hb (i := 0) rfl dX0_pack_60 rfl) <|
    al (s_dup hx hb dX0_pack_61 rfl) <|
    al (s_getI (N := 16) hx hb hts hin hown hK rfl (k := 15) (by decide) hf15 rfl dX0_pack_62 rfl rfl) <|
    al (s_iload_n hx hb (i := 2) rfl dX0_pack_65 rfl) <|
    al (s_iadd hx hb dX0_pack_66 rfl) <|
    al (s_putI (N := 16) hx hb hts hin hown hK rfl (k := 15) (by decide) hf15 rfl tyX0 tyX0_ok nmX0 rfl (by decide +kernel) dX0_pack_67 rfl rfl) <|
    al (s_iload_n hx hb (i := 2) rfl dX0_pack_70 rfl) <|
    al ((fun lv st S h => hE _ lv st S dX0_pack_71 h)) <| an
theorem ct0_pack : CtI 0 ly0 ja0 yX0_pack wsX0_pack rm0_pack X0_pack := mk_I (C := RX0) (strs := xstrs) T0_pack (by decide) rfl rfl rfl rfl (Fr := 7) (Lo := 103) (Nat.le_of_ble_eq_true rfl) (Nat.le_of_ble_eq_true rfl) (fun Q => sn0_pack Q nox)
theorem cx0_pack : CtXI RX0 xstrs 0 ly0 ja0 yX0_pack wsX0_pack rmx0_pack X0_pack := mk_Ix (C := RX0) T0_pack (by decide) rfl rfl rfl rfl (Fr := 7) (Lo := 103) (Nat.le_of_ble_eq_true rfl) (Nat.le_of_ble_eq_true rfl) (Nat.le_of_ble_eq_true rfl) (Nat.le_of_ble_eq_true rfl) (fun Qx => sn0_pack _ Qx)
abbrev rm0_requireWhat : Room := { frames := 6, cells := 0, slots := 0, locals := 82 }
abbrev rmx0_requireWhat : Room := { frames := 6, cells := 1, slots := 6, locals := 82 }
set_option maxRecDepth 20000 in
set_option maxHeartbeats 4000000 in
theorem sn0_requireWhat (Q : ST → Prop) (Qx : String → ST → Prop) : SndT RX0 xstrs 0 ly0 ja0 cX0_requireWhat 3 (none) wsX0_requireWhat 6 82 Qx (EV cX0_requireWhat Q) relP (T0_requireWhat Q Qx) := by
  intro p l e R s m args below meth c Qf D cA A AD rel hC hFr hLo hK hA hrel hT hE
  obtain ⟨⟨hx, hb, hml, hown, hts⟩, hlk, hr⟩ := hC
  have hrR := hrel
  have hx_125 : ∀ w ∈ vx_atS RX0 125 "java/lang/IndexOutOfBoundsException" ["java/lang/RuntimeException", "java/lang/Exception"], goodWord w = true → w ∈ wsX0_requireWhat := xin_125 (by first | exact fun w h => List.mem_cons_of_mem _ (List.mem_append_right _ h) | exact fun w h => List.mem_cons_of_mem _ (List.mem_append_left _ (List.mem_append_right _ h)) | exact fun w h => List.mem_cons_of_mem _ (List.mem_append_left _ (List.mem_append_left _ (List.mem_append_right _ h))))
  exact al (s_iload_n hx hb (i := 1) rfl dX0_requireWhat_0 rfl) <|
    al (s_if_lt hx hb (by decide) dX0_requireWhat_1 rfl) <|
    al (s_iload_n hx hb (i := 1) rfl dX0_requireWhat_4 rfl) <|
    al (s_iload_n hx hb (i := 2) rfl dX0_requireWhat_5 rfl) <|
    al (s_icmp_le hx hb (by decide) dX0_requireWhat_6 rfl) <|
    al (s_throw (names := ["java/lang/RuntimeException", "java/lang/Exception"]) hx hb hml hK hT hown (by decide +kernel) (by decide +kernel) rfl (hts (.classLink RX0 121 "java/lang/IndexOutOfBoundsException") (by decide +kernel)) (hts (.initialized "java/lang/IndexOutOfBoundsException") (by decide +kernel)) (text := "there is no such number to tell") (by decide +kernel) (fun w hw hg => hts w (hx_125 w hw hg)) xgw_125 xg_125 dX0_requireWhat_9 dX0_requireWhat_12 dX0_requireWhat_13 dX0_requireWhat_15 dX0_requireWhat_18) <|
    al ((fun lv st S h => hE _ lv st S dX0_requireWhat_19 h)) <| an
theorem ct0_requireWhat : CtV 0 ly0 ja0 yX0_requireWhat wsX0_requireWhat rm0_requireWhat X0_requireWhat := mk_V (C := RX0) (strs := xstrs) T0_requireWhat (by decide) rfl rfl rfl rfl (Fr := 6) (Lo := 82) (Nat.le_of_ble_eq_true rfl) (Nat.le_of_ble_eq_true rfl) (fun Q => sn0_requireWhat Q nox)
theorem cx0_requireWhat : CtXV RX0 xstrs 0 ly0 ja0 yX0_requireWhat wsX0_requireWhat rmx0_requireWhat X0_requireWhat := mk_Vx (C := RX0) T0_requireWhat (by decide) rfl rfl rfl rfl (Fr := 6) (Lo := 82) (Nat.le_of_ble_eq_true rfl) (Nat.le_of_ble_eq_true rfl) (Nat.le_of_ble_eq_true rfl) (Nat.le_of_ble_eq_true rfl) (fun Qx => sn0_requireWhat _ Qx)
theorem sw0_told_68 : ∀ a : Int, 1 ≤ a → a ≤ 3 → ∃ q ∈ ([(1, 96), (2, 98), (3, 101)] : List (Int × Nat)), q.1 = a := by
  intro a h1 h2
  rcases (show a = 1 ∨ a = 2 ∨ a = 3 by omega) with rfl | rfl | rfl
  · exact ⟨_, List.mem_of_getElem? (i := 0) rfl, rfl⟩
  · exact ⟨_, List.mem_of_getElem? (i := 1) rfl, rfl⟩
  · exact ⟨_, List.mem_of_getElem? (i := 2) rfl, rfl⟩
abbrev rm0_told : Room := { frames := 7, cells := 0, slots := 0, locals := 104 }
abbrev rmx0_told : Room := { frames := 7, cells := 1, slots := 6, locals := 104 }
set_option maxRecDepth 20000 in
set_option maxHeartbeats 4000000 in
theorem sn0_told (Q : Int → ST → Prop) (Qx : String → ST → Prop) : SndT RX0 xstrs 0 ly0 ja0 cX0_told 6 (some .int) wsX0_told 7 104 Qx (EI cX0_told Q) relP (T0_told Q Qx) := by
  intro p l e R s m args below meth c Qf D cA A AD rel hC hFr hLo hK hA hrel hT hE
  obtain ⟨⟨hx, hb, hml, hown, hts⟩, hlk, hr⟩ := hC
  have hrR := hrel
  have hin : ∀ w ∈ u_ws RX0 TX0 16, w ∈ wsX0_told := by decide +kernel
  have hf1 := hts (.fieldLink RX0 9 "CellTrays" "kindSize" "[I") (by decide +kernel)
  have hf7 := hts (.fieldLink RX0 28 "CellTrays" "trayOffset" "[I") (by decide +kernel)
  have hf11 := hts (.fieldLink RX0 37 "CellTrays" "thingKind" "[I") (by decide +kernel)
  have hf12 := hts (.fieldLink RX0 40 "CellTrays" "thingPlace" "[I") (by decide +kernel)
  have hf13 := hts (.fieldLink RX0 43 "CellTrays" "thingCell" "[I") (by decide +kernel)
  exact al (s_aload_n hx hb (i := 0) rfl dX0_told_0 rfl) <|
    al (s_iload_n hx hb (i := 1) rfl dX0_told_1 rfl) <|
    al (s_xcallv ⟨hx, hb, hml, hown, hts⟩ hA hK hrR hT rfl ct0_requireThing cx0_requireThing (cwV 1 hts gX0_told_X0_requireThing rfl (rm := rm0_requireThing) rfl rfl (by decide +kernel) ⟨Nat.le_trans (Nat.le_of_ble_eq_true rfl) hFr, Nat.le_trans (Nat.le_of_ble_eq_true rfl) hLo⟩) (cwV 1 hts gX0_told_X0_requireThing rfl (rm := rmx0_requireThing) rfl rfl (by decide +kernel) ⟨Nat.le_trans (Nat.le_of_ble_eq_true rfl) hFr, Nat.le_trans (Nat.le_of_ble_eq_true rfl) hLo⟩) rfl dX0_told_2 rfl) <|
    al (s_aload_n hx hb (i := 0) rfl dX0_told_5 rfl) <|
    al (s_iload_n hx hb (i := 2) rfl dX0_told_6 rfl) <|
    al (s_iconst hx hb dX0_told_7 rfl) <|
    al (s_xcallv ⟨hx, hb, hml, hown, hts⟩ hA hK hrR hT rfl ct0_requireWhat cx0_requireWhat (cwV 2 hts gX0_told_X0_requireWhat rfl (rm := rm0_requireWhat) rfl rfl (by decide +kernel) ⟨Nat.le_trans (Nat.le_of_ble_eq_true rfl) hFr, Nat.le_trans (Nat.le_of_ble_eq_true rfl) hLo⟩) (cwV 2 hts gX0_told_X0_requireWhat rfl (rm := rmx0_requireWhat) rfl rfl (by decide +kernel) ⟨Nat.le_trans (Nat.le_of_ble_eq_true rfl) hFr, Nat.le_trans (Nat.le_of_ble_eq_true rfl) hLo⟩) rfl dX0_told_8 rfl) <|
    al (s_iload_n hx hb (i := 2) rfl dX0_told_11 rfl) <|
    al (s_if_ne hx hb (by decide) dX0_told_12 rfl) <|
    al (s_aload_n hx hb (i := 0) rfl dX0_told_15 rfl) <|
    al (s_getA (N := 16) hx hb hts hin hown hK rfl (k := 11) (by decide) hf11 rfl dX0_told_16 rfl rfl (by decide)) <|
    al (s_iload_n hx hb (i := 1) rfl dX0_told_19 rfl) <|
    al (s_iald hx hb hK hln0 dX0_told_20 rfl) <|
    al ((fun lv st S h => hE _ lv st S dX0_told_21 h)) <|
    al (s_aload_n hx hb (i := 0) rfl dX0_told_22 rfl) <|
    al (s_getA (N := 16) hx hb hts hin hown hK rfl (k := 12) (by decide) hf12 rfl dX0_told_23 rfl rfl (by decide)) <|
    al (s_iload_n hx hb (i := 1) rfl dX0_told_26 rfl) <|
    al (s_iald hx hb hK hln0 dX0_told_27 rfl) <|
    al (s_istore_n hx hb (i := 3) rfl dX0_told_28 rfl (by decide)) <|
    al (s_iload_n hx hb (i := 3) rfl dX0_told_29 rfl) <|
    al (s_iconst hx hb dX0_told_30 rfl) <|
    al (s_icmp_ne hx hb (by decide) dX0_told_31 rfl) <|
    al (s_iconst hx hb dX0_told_34 rfl) <|
    al ((fun lv st S h => hE _ lv st S dX0_told_35 h)) <|
    al (s_aload_n hx hb (i := 0) rfl dX0_told_36 rfl) <|
    al (s_getA (N := 16) hx hb hts hin hown hK rfl (k := 13) (by decide) hf13 rfl dX0_told_37 rfl rfl (by decide)) <|
    al (s_iload_n hx hb (i := 1) rfl dX0_told_40 rfl) <|
    al (s_iald hx hb hK hln0 dX0_told_41 rfl) <|
    al (s_istore hx hb dX0_told_42 rfl (by decide)) <|
    al (s_aload_n hx hb (i := 0) rfl dX0_told_44 rfl) <|
    al (s_getA (N := 16) hx hb hts hin hown hK rfl (k := 7) (by decide) hf7 rfl dX0_told_45 rfl rfl (by decide)) <|
    al (s_iload_n hx hb (i := 3) rfl dX0_told_48 rfl) <|
    al (s_iald hx hb hK hln0 dX0_told_49 rfl) <|
    al (s_iload hx hb dX0_told_50 rfl) <|
    al (s_aload_n hx hb (i := 0) rfl dX0_told_52 rfl) <|
    al (s_getA (N := 16) hx hb hts hin hown hK rfl (k := 1) (by decide) hf1 rfl dX0_told_53 rfl rfl (by decide)) <|
    al (s_aload_n hx hb (i := 0) rfl dX0_told_56 rfl) <|
    al (s_getA (N := 16) hx hb hts hin hown hK rfl (k := 11) (by decide) hf11 rfl dX0_told_57 rfl rfl (by decide)) <|
    al (s_iload_n hx hb (i := 1) rfl dX0_told_60 rfl) <|
    al (s_iald hx hb hK hln0 dX0_told_61 rfl) <|
    al (s_iald hx hb hK hln0 dX0_told_62 rfl) <|
    al (s_imul hx hb dX0_told_63 rfl) <|
    al (s_iadd hx hb dX0_told_64 rfl) <|
    al (s_istore hx hb dX0_told_65 rfl (by decide)) <|
    al (s_iload_n hx hb (i := 2) rfl dX0_told_67 rfl) <|
    al (s_switch hx hb dX0_told_68 (by decide) (al ⟨by decide, by decide, 28, rfl, by decide⟩ <| al ⟨by decide, by decide, 30, rfl, by decide⟩ <| al ⟨by decide, by decide, 33, rfl, by decide⟩ <| an) sw0_told_68) <|
    al (s_iload_n hx hb (i := 3) rfl dX0_told_96 rfl) <|
    al ((fun lv st S h => hE _ lv st S dX0_told_97 h)) <|
    al (s_iload hx hb dX0_told_98 rfl) <|
    al ((fun lv st S h => hE _ lv st S dX0_told_100 h)) <|
    al (s_iload hx hb dX0_told_101 rfl) <|
    al ((fun lv st S h => hE _ lv st S dX0_told_103 h)) <|
    al (s_bipush hx hb dX0_told_104 rfl (by decide)) <|
    al (s_iload_n hx hb (i := 3) rfl dX0_told_106 rfl) <|
    al (s_imul hx hb dX0_told_107 rfl) <|
    al (s_iload hx hb dX0_told_108 rfl) <|
    al (s_iadd hx hb dX0_told_110 rfl) <|
    al ((fun lv st S h => hE _ lv st S dX0_told_111 h)) <| an
theorem ct0_told : CtI 0 ly0 ja0 yX0_told wsX0_told rm0_told X0_told := mk_I (C := RX0) (strs := xstrs) T0_told (by decide) rfl rfl rfl rfl (Fr := 7) (Lo := 104) (Nat.le_of_ble_eq_true rfl) (Nat.le_of_ble_eq_true rfl) (fun Q => sn0_told Q nox)
theorem cx0_told : CtXI RX0 xstrs 0 ly0 ja0 yX0_told wsX0_told rmx0_told X0_told := mk_Ix (C := RX0) T0_told (by decide) rfl rfl rfl rfl (Fr := 7) (Lo := 104) (Nat.le_of_ble_eq_true rfl) (Nat.le_of_ble_eq_true rfl) (Nat.le_of_ble_eq_true rfl) (Nat.le_of_ble_eq_true rfl) (fun Qx => sn0_told _ Qx)
abbrev rm0_requirePlace : Room := { frames := 6, cells := 0, slots := 0, locals := 82 }
abbrev rmx0_requirePlace : Room := { frames := 6, cells := 1, slots := 6, locals := 82 }
set_option maxRecDepth 20000 in
set_option maxHeartbeats 4000000 in
theorem sn0_requirePlace (Q : ST → Prop) (Qx : String → ST → Prop) : SndT RX0 xstrs 0 ly0 ja0 cX0_requirePlace 2 (none) wsX0_requirePlace 6 82 Qx (EV cX0_requirePlace Q) relP (T0_requirePlace Q Qx) := by
  intro p l e R s m args below meth c Qf D cA A AD rel hC hFr hLo hK hA hrel hT hE
  obtain ⟨⟨hx, hb, hml, hown, hts⟩, hlk, hr⟩ := hC
  have hrR := hrel
  have hx_125 : ∀ w ∈ vx_atS RX0 125 "java/lang/IndexOutOfBoundsException" ["java/lang/RuntimeException", "java/lang/Exception"], goodWord w = true → w ∈ wsX0_requirePlace := xin_125 (by first | exact fun w h => List.mem_cons_of_mem _ (List.mem_append_right _ h) | exact fun w h => List.mem_cons_of_mem _ (List.mem_append_left _ (List.mem_append_right _ h)) | exact fun w h => List.mem_cons_of_mem _ (List.mem_append_left _ (List.mem_append_left _ (List.mem_append_right _ h))))
  exact al (s_iload_n hx hb (i := 1) rfl dX0_requirePlace_0 rfl) <|
    al (s_if_lt hx hb (by decide) dX0_requirePlace_1 rfl) <|
    al (s_iload_n hx hb (i := 1) rfl dX0_requirePlace_4 rfl) <|
    al (s_bipush hx hb dX0_requirePlace_5 rfl (by decide)) <|
    al (s_icmp_lt hx hb (by decide) dX0_requirePlace_7 rfl) <|
    al (s_throw (names := ["java/lang/RuntimeException", "java/lang/Exception"]) hx hb hml hK hT hown (by decide +kernel) (by decide +kernel) rfl (hts (.classLink RX0 121 "java/lang/IndexOutOfBoundsException") (by decide +kernel)) (hts (.initialized "java/lang/IndexOutOfBoundsException") (by decide +kernel)) (text := "the place is not 0 to 19") (by decide +kernel) (fun w hw hg => hts w (hx_125 w hw hg)) xgw_125 xg_125 dX0_requirePlace_10 dX0_requirePlace_13 dX0_requirePlace_14 dX0_requirePlace_16 dX0_requirePlace_19) <|
    al ((fun lv st S h => hE _ lv st S dX0_requirePlace_20 h)) <| an
theorem ct0_requirePlace : CtV 0 ly0 ja0 yX0_requirePlace wsX0_requirePlace rm0_requirePlace X0_requirePlace := mk_V (C := RX0) (strs := xstrs) T0_requirePlace (by decide) rfl rfl rfl rfl (Fr := 6) (Lo := 82) (Nat.le_of_ble_eq_true rfl) (Nat.le_of_ble_eq_true rfl) (fun Q => sn0_requirePlace Q nox)
theorem cx0_requirePlace : CtXV RX0 xstrs 0 ly0 ja0 yX0_requirePlace wsX0_requirePlace rmx0_requirePlace X0_requirePlace := mk_Vx (C := RX0) T0_requirePlace (by decide) rfl rfl rfl rfl (Fr := 6) (Lo := 82) (Nat.le_of_ble_eq_true rfl) (Nat.le_of_ble_eq_true rfl) (Nat.le_of_ble_eq_true rfl) (Nat.le_of_ble_eq_true rfl) (fun Qx => sn0_requirePlace _ Qx)
theorem sw0_tray_26 : ∀ a : Int, 0 ≤ a → a ≤ 3 → ∃ q ∈ ([(0, 56), (1, 58), (2, 65), (3, 72)] : List (Int × Nat)), q.1 = a := by
  intro a h1 h2
  rcases (show a = 0 ∨ a = 1 ∨ a = 2 ∨ a = 3 by omega) with rfl | rfl | rfl | rfl
  · exact ⟨_, List.mem_of_getElem? (i := 0) rfl, rfl⟩
  · exact ⟨_, List.mem_of_getElem? (i := 1) rfl, rfl⟩
  · exact ⟨_, List.mem_of_getElem? (i := 2) rfl, rfl⟩
  · exact ⟨_, List.mem_of_getElem? (i := 3) rfl, rfl⟩
abbrev rm0_tray : Room := { frames := 7, cells := 0, slots := 0, locals := 104 }
abbrev rmx0_tray : Room := { frames := 7, cells := 1, slots := 6, locals := 104 }
set_option maxRecDepth 20000 in
set_option maxHeartbeats 4000000 in
theorem sn0_tray (Q : Int → ST → Prop) (Qx : String → ST → Prop) : SndT RX0 xstrs 0 ly0 ja0 cX0_tray 4 (some .int) wsX0_tray 7 104 Qx (EI cX0_tray Q) relP (T0_tray Q Qx) := by
  intro p l e R s m args below meth c Qf D cA A AD rel hC hFr hLo hK hA hrel hT hE
  obtain ⟨⟨hx, hb, hml, hown, hts⟩, hlk, hr⟩ := hC
  have hrR := hrel
  have hin : ∀ w ∈ u_ws RX0 TX0 16, w ∈ wsX0_tray := by decide +kernel
  have hf1 := hts (.fieldLink RX0 9 "CellTrays" "kindSize" "[I") (by decide +kernel)
  have hf3 := hts (.fieldLink RX0 16 "CellTrays" "kindCells" "[I") (by decide +kernel)
  have hf6 := hts (.fieldLink RX0 25 "CellTrays" "trayKind" "[I") (by decide +kernel)
  have hf7 := hts (.fieldLink RX0 28 "CellTrays" "trayOffset" "[I") (by decide +kernel)
  have hf8 := hts (.fieldLink RX0 31 "CellTrays" "trayThings" "[I") (by decide +kernel)
  exact al (s_aload_n hx hb (i := 0) rfl dX0_tray_0 rfl) <|
    al (s_iload_n hx hb (i := 1) rfl dX0_tray_1 rfl) <|
    al (s_xcallv ⟨hx, hb, hml, hown, hts⟩ hA hK hrR hT rfl ct0_requirePlace cx0_requirePlace (cwV 1 hts gX0_tray_X0_requirePlace rfl (rm := rm0_requirePlace) rfl rfl (by decide +kernel) ⟨Nat.le_trans (Nat.le_of_ble_eq_true rfl) hFr, Nat.le_trans (Nat.le_of_ble_eq_true rfl) hLo⟩) (cwV 1 hts gX0_tray_X0_requirePlace rfl (rm := rmx0_requirePlace) rfl rfl (by decide +kernel) ⟨Nat.le_trans (Nat.le_of_ble_eq_true rfl) hFr, Nat.le_trans (Nat.le_of_ble_eq_true rfl) hLo⟩) rfl dX0_tray_2 rfl) <|
    al (s_aload_n hx hb (i := 0) rfl dX0_tray_5 rfl) <|
    al (s_iload_n hx hb (i := 2) rfl dX0_tray_6 rfl) <|
    al (s_iconst hx hb dX0_tray_7 rfl) <|
    al (s_xcallv ⟨hx, hb, hml, hown, hts⟩ hA hK hrR hT rfl ct0_requireWhat cx0_requireWhat (cwV 2 hts gX0_tray_X0_requireWhat rfl (rm := rm0_requireWhat) rfl rfl (by decide +kernel) ⟨Nat.le_trans (Nat.le_of_ble_eq_true rfl) hFr, Nat.le_trans (Nat.le_of_ble_eq_true rfl) hLo⟩) (cwV 2 hts gX0_tray_X0_requireWhat rfl (rm := rmx0_requireWhat) rfl rfl (by decide +kernel) ⟨Nat.le_trans (Nat.le_of_ble_eq_true rfl) hFr, Nat.le_trans (Nat.le_of_ble_eq_true rfl) hLo⟩) rfl dX0_tray_8 rfl) <|
    al (s_aload_n hx hb (i := 0) rfl dX0_tray_11 rfl) <|
    al (s_getA (N := 16) hx hb hts hin hown hK rfl (k := 6) (by decide) hf6 rfl dX0_tray_12 rfl rfl (by decide)) <|
    al (s_iload_n hx hb (i := 1) rfl dX0_tray_15 rfl) <|
    al (s_iald hx hb hK hln0 dX0_tray_16 rfl) <|
    al (s_istore_n hx hb (i := 3) rfl dX0_tray_17 rfl (by decide)) <|
    al (s_iload_n hx hb (i := 3) rfl dX0_tray_18 rfl) <|
    al (s_iconst hx hb dX0_tray_19 rfl) <|
    al (s_icmp_ne hx hb (by decide) dX0_tray_20 rfl) <|
    al (s_iconst hx hb dX0_tray_23 rfl) <|
    al ((fun lv st S h => hE _ lv st S dX0_tray_24 h)) <|
    al (s_iload_n hx hb (i := 2) rfl dX0_tray_25 rfl) <|
    al (s_switch hx hb dX0_tray_26 (by decide) (al ⟨by decide, by decide, 30, rfl, by decide⟩ <| al ⟨by decide, by decide, 32, rfl, by decide⟩ <| al ⟨by decide, by decide, 39, rfl, by decide⟩ <| al ⟨by decide, by decide, 46, rfl, by decide⟩ <| an) sw0_tray_26) <|
    al (s_iload_n hx hb (i := 3) rfl dX0_tray_56 rfl) <|
    al ((fun lv st S h => hE _ lv st S dX0_tray_57 h)) <|
    al (s_aload_n hx hb (i := 0) rfl dX0_tray_58 rfl) <|
    al (s_getA (N := 16) hx hb hts hin hown hK rfl (k := 7) (by decide) hf7 rfl dX0_tray_59 rfl rfl (by decide)) <|
    al (s_iload_n hx hb (i := 1) rfl dX0_tray_62 rfl) <|
    al (s_iald hx hb hK hln0 dX0_tray_63 rfl) <|
    al ((fun lv st S h => hE _ lv st S dX0_tray_64 h)) <|
    al (s_aload_n hx hb (i := 0) rfl dX0_tray_65 rfl) <|
    al (s_getA (N := 16) hx hb hts hin hown hK rfl (k := 3) (by decide) hf3 rfl dX0_tray_66 rfl rfl (by decide)) <|
    al (s_iload_n hx hb (i := 3) rfl dX0_tray_69 rfl) <|
    al (s_iald hx hb hK hln0 dX0_tray_70 rfl) <|
    al ((fun lv st S h => hE _ lv st S dX0_tray_71 h)) <|
    al (s_aload_n hx hb (i := 0) rfl dX0_tray_72 rfl) <|
    al (s_getA (N := 16) hx hb hts hin hown hK rfl (k := 8) (by decide) hf8 rfl dX0_tray_73 rfl rfl (by decide)) <|
    al (s_iload_n hx hb (i := 1) rfl dX0_tray_76 rfl) <|
    al (s_iald hx hb hK hln0 dX0_tray_77 rfl) <|
    al ((fun lv st S h => hE _ lv st S dX0_tray_78 h)) <|
    al (s_bipush hx hb dX0_tray_79 rfl (by decide)) <|
    al (s_aload_n hx hb (i := 0) rfl dX0_tray_81 rfl) <|
    al (s_getA (N := 16) hx hb hts hin hown hK rfl (k := 1) (by decide) hf1 rfl dX0_tray_82 rfl rfl (by decide)) <|
    al (s_iload_n hx hb (i := 3) rfl dX0_tray_85 rfl) <|
    al (s_iald hx hb hK hln0 dX0_tray_86 rfl) <|
    al (s_aload_n hx hb (i := 0) rfl dX0_tray_87 rfl) <|
    al (s_getA (N := 16) hx hb hts hin hown hK rfl (k := 8) (by decide) hf8 rfl dX0_tray_88 rfl rfl (by decide)) <|
    al (s_iload_n hx hb (i := 1) rfl dX0_tray_91 rfl) <|
    al (s_iald hx hb hK hln0 dX0_tray_92 rfl) <|
    al (s_imul hx hb dX0_tray_93 rfl) <|
    al (s_isub hx hb dX0_tray_94 rfl) <|
    al ((fun lv st S h => hE _ lv st S dX0_tray_95 h)) <| an
theorem ct0_tray : CtI 0 ly0 ja0 yX0_tray wsX0_tray rm0_tray X0_tray := mk_I (C := RX0) (strs := xstrs) T0_tray (by decide) rfl rfl rfl rfl (Fr := 7) (Lo := 104) (Nat.le_of_ble_eq_true rfl) (Nat.le_of_ble_eq_true rfl) (fun Q => sn0_tray Q nox)
theorem cx0_tray : CtXI RX0 xstrs 0 ly0 ja0 yX0_tray wsX0_tray rmx0_tray X0_tray := mk_Ix (C := RX0) T0_tray (by decide) rfl rfl rfl rfl (Fr := 7) (Lo := 104) (Nat.le_of_ble_eq_true rfl) (Nat.le_of_ble_eq_true rfl) (Nat.le_of_ble_eq_true rfl) (Nat.le_of_ble_eq_true rfl) (fun Qx => sn0_tray _ Qx)
abbrev rm0_cell : Room := { frames := 7, cells := 0, slots := 0, locals := 103 }
abbrev rmx0_cell : Room := { frames := 7, cells := 1, slots := 6, locals := 103 }
set_option maxRecDepth 20000 in
set_option maxHeartbeats 4000000 in
theorem sn0_cell (Q : Int → ST → Prop) (Qx : String → ST → Prop) : SndT RX0 xstrs 0 ly0 ja0 cX0_cell 3 (some .int) wsX0_cell 7 103 Qx (EI cX0_cell Q) relP (T0_cell Q Qx) := by
  intro p l e R s m args below meth c Qf D cA A AD rel hC hFr hLo hK hA hrel hT hE
  obtain ⟨⟨hx, hb, hml, hown, hts⟩, hlk, hr⟩ := hC
  have hrR := hrel
  have hin : ∀ w ∈ u_ws RX0 TX0 16, w ∈ wsX0_cell := by decide +kernel
  have hf9 := hts (.fieldLink RX0 34 "CellTrays" "cellThing" "[I") (by decide +kernel)
  have hx_125 : ∀ w ∈ vx_atS RX0 125 "java/lang/IndexOutOfBoundsException" ["java/lang/RuntimeException", "java/lang/Exception"], goodWord w = true → w ∈ wsX0_cell := xin_125 (by first | exact fun w h => List.mem_cons_of_mem _ (List.mem_append_right _ h) | exact fun w h => List.mem_cons_of_mem _ (List.mem_append_left _ (List.mem_append_right _ h)) | exact fun w h => List.mem_cons_of_mem _ (List.mem_append_left _ (List.mem_append_left _ (List.mem_append_right _ h))))
  exact al (s_aload_n hx hb (i := 0) rfl dX0_cell_0 rfl) <|
    al (s_iload_n hx hb (i := 1) rfl dX0_cell_1 rfl) <|
    al (s_xcallv ⟨hx, hb, hml, hown, hts⟩ hA hK hrR hT rfl ct0_requirePlace cx0_requirePlace (cwV 1 hts gX0_cell_X0_requirePlace rfl (rm := rm0_requirePlace) rfl rfl (by decide +kernel) ⟨Nat.le_trans (Nat.le_of_ble_eq_true rfl) hFr, Nat.le_trans (Nat.le_of_ble_eq_true rfl) hLo⟩) (cwV 1 hts gX0_cell_X0_requirePlace rfl (rm := rmx0_requirePlace) rfl rfl (by decide +kernel) ⟨Nat.le_trans (Nat.le_of_ble_eq_true rfl) hFr, Nat.le_trans (Nat.le_of_ble_eq_true rfl) hLo⟩) rfl dX0_cell_2 rfl) <|
    al (s_iload_n hx hb (i := 2) rfl dX0_cell_5 rfl) <|
    al (s_if_lt hx hb (by decide) dX0_cell_6 rfl) <|
    al (s_iload_n hx hb (i := 2) rfl dX0_cell_9 rfl) <|
    al (s_aload_n hx hb (i := 0) rfl dX0_cell_10 rfl) <|
    al (s_iload_n hx hb (i := 1) rfl dX0_cell_11 rfl) <|
    al (s_calli ⟨hx, hb, hml, hown, hts⟩ hA hK hrR rfl ct0_cellsAt (cwV 1 hts gX0_cell_X0_cellsAt rfl (rm := rm0_cellsAt) rfl rfl (by decide +kernel) ⟨Nat.le_trans (Nat.le_of_ble_eq_true rfl) hFr, Nat.le_trans (Nat.le_of_ble_eq_true rfl) hLo⟩) rfl dX0_cell_12 rfl) <|
    al (s_icmp_lt hx hb (by decide) dX0_cell_15 rfl) <|
    al (s_throw (names := ["java/lang/RuntimeException", "java/lang/Exception"]) hx hb hml hK hT hown (by decide +kernel) (by decide +kernel) rfl (hts (.classLink RX0 121 "java/lang/IndexOutOfBoundsException") (by decide +kernel)) (hts (.initialized "java/lang/IndexOutOfBoundsException") (by decide +kernel)) (text := "there is no such cell") (by decide +kernel) (fun w hw hg => hts w (hx_125 w hw hg)) xgw_125 xg_125 dX0_cell_18 dX0_cell_21 dX0_cell_22 dX0_cell_24 dX0_cell_27) <|
    al (s_aload_n hx hb (i := 0) rfl dX0_cell_28 rfl) <|
    al (s_getA (N := 16) hx hb hts hin hown hK rfl (k := 9) (by decide) hf9 rfl dX0_cell_29 rfl rfl (by decide)) <|
    al (s_iload_n hx hb (i := 1) rfl dX0_cell_32 rfl) <|
    al (s_bipush hx hb dX0_cell_33 rfl (by decide)) <|
    al (s_imul hx hb dX0_cell_35 rfl) <|
    al (s_iload_n hx hb (i := 2) rfl dX0_cell_36 rfl) <|
    al (s_iadd hx hb dX0_cell_37 rfl) <|
    al (s_iald hx hb hK hln0 dX0_cell_38 rfl) <|
    al ((fun lv st S h => hE _ lv st S dX0_cell_39 h)) <| an
theorem ct0_cell : CtI 0 ly0 ja0 yX0_cell wsX0_cell rm0_cell X0_cell := mk_I (C := RX0) (strs := xstrs) T0_cell (by decide) rfl rfl rfl rfl (Fr := 7) (Lo := 103) (Nat.le_of_ble_eq_true rfl) (Nat.le_of_ble_eq_true rfl) (fun Q => sn0_cell Q nox)
theorem cx0_cell : CtXI RX0 xstrs 0 ly0 ja0 yX0_cell wsX0_cell rmx0_cell X0_cell := mk_Ix (C := RX0) T0_cell (by decide) rfl rfl rfl rfl (Fr := 7) (Lo := 103) (Nat.le_of_ble_eq_true rfl) (Nat.le_of_ble_eq_true rfl) (Nat.le_of_ble_eq_true rfl) (Nat.le_of_ble_eq_true rfl) (fun Qx => sn0_cell _ Qx)
abbrev rm0_traysOf : Room := { frames := 0, cells := 0, slots := 0, locals := 0 }
set_option maxRecDepth 20000 in
set_option maxHeartbeats 4000000 in
theorem sn0_traysOf (Q : Int → ST → Prop) (Qx : String → ST → Prop) : SndT RX0 xstrs 0 ly0 ja0 cX0_traysOf 4 (some .int) wsX0_traysOf 0 0 Qx (EI cX0_traysOf Q) relP (T0_traysOf Q Qx) := by
  intro p l e R s m args below meth c Qf D cA A AD rel hC hFr hLo hK hA hrel hT hE
  obtain ⟨⟨hx, hb, hml, hown, hts⟩, hlk, hr⟩ := hC
  have hrR := hrel
  have hin : ∀ w ∈ u_ws RX0 TX0 16, w ∈ wsX0_traysOf := by decide +kernel
  have hf6 := hts (.fieldLink RX0 25 "CellTrays" "trayKind" "[I") (by decide +kernel)
  exact al (s_iconst hx hb dX0_traysOf_0 rfl) <|
    al (s_istore_n hx hb (i := 2) rfl dX0_traysOf_1 rfl (by decide)) <|
    al (s_iconst hx hb dX0_traysOf_2 rfl) <|
    al (s_istore_n hx hb (i := 3) rfl dX0_traysOf_3 rfl (by decide)) <|
    al (s_iload_n hx hb (i := 3) rfl dX0_traysOf_4 rfl) <|
    al (s_bipush hx hb dX0_traysOf_5 rfl (by decide)) <|
    al (s_icmp_ge hx hb (by decide) dX0_traysOf_7 rfl) <|
    al (s_aload_n hx hb (i := 0) rfl dX0_traysOf_10 rfl) <|
    al (s_getA (N := 16) hx hb hts hin hown hK rfl (k := 6) (by decide) hf6 rfl dX0_traysOf_11 rfl rfl (by decide)) <|
    al (s_iload_n hx hb (i := 3) rfl dX0_traysOf_14 rfl) <|
    al (s_iald hx hb hK hln0 dX0_traysOf_15 rfl) <|
    al (s_iload_n hx hb (i := 1) rfl dX0_traysOf_16 rfl) <|
    al (s_icmp_ne hx hb (by decide) dX0_traysOf_17 rfl) <|
    al (s_iinc hx hb dX0_traysOf_20 rfl (by decide)) <|
    al (s_iinc hx hb dX0_traysOf_23 rfl (by decide)) <|
    al (s_goto hx hb (by decide) dX0_traysOf_26) <|
    al (s_iload_n hx hb (i := 2) rfl dX0_traysOf_29 rfl) <|
    al ((fun lv st S h => hE _ lv st S dX0_traysOf_30 h)) <| an
theorem ct0_traysOf : CtI 0 ly0 ja0 yX0_traysOf wsX0_traysOf rm0_traysOf X0_traysOf := mk_I (C := RX0) (strs := xstrs) T0_traysOf (by decide) rfl rfl rfl rfl (Fr := 0) (Lo := 0) (Nat.le_of_ble_eq_true rfl) (Nat.le_of_ble_eq_true rfl) (fun Q => sn0_traysOf Q nox)
abbrev rm0_traysHolding : Room := { frames := 0, cells := 0, slots := 0, locals := 0 }
set_option maxRecDepth 20000 in
set_option maxHeartbeats 4000000 in
theorem sn0_traysHolding (Q : Int → ST → Prop) (Qx : String → ST → Prop) : SndT RX0 xstrs 0 ly0 ja0 cX0_traysHolding 5 (some .int) wsX0_traysHolding 0 0 Qx (EI cX0_traysHolding Q) relP (T0_traysHolding Q Qx) := by
  intro p l e R s m args below meth c Qf D cA A AD rel hC hFr hLo hK hA hrel hT hE
  obtain ⟨⟨hx, hb, hml, hown, hts⟩, hlk, hr⟩ := hC
  have hrR := hrel
  have hin : ∀ w ∈ u_ws RX0 TX0 16, w ∈ wsX0_traysHolding := by decide +kernel
  have hf6 := hts (.fieldLink RX0 25 "CellTrays" "trayKind" "[I") (by decide +kernel)
  have hf8 := hts (.fieldLink RX0 31 "CellTrays" "trayThings" "[I") (by decide +kernel)
  exact al (s_iconst hx hb dX0_traysHolding_0 rfl) <|
    al (s_istore_n hx hb (i := 3) rfl dX0_traysHolding_1 rfl (by decide)) <|
    al (s_iconst hx hb dX0_traysHolding_2 rfl) <|
    al (s_istore hx hb dX0_traysHolding_3 rfl (by decide)) <|
    al (s_iload hx hb dX0_traysHolding_5 rfl) <|
    al (s_bipush hx hb dX0_traysHolding_7 rfl (by decide)) <|
    al (s_icmp_ge hx hb (by decide) dX0_traysHolding_9 rfl) <|
    al (s_aload_n hx hb (i := 0) rfl dX0_traysHolding_12 rfl) <|
    al (s_getA (N := 16) hx hb hts hin hown hK rfl (k := 6) (by decide) hf6 rfl dX0_traysHolding_13 rfl rfl (by decide)) <|
    al (s_iload hx hb dX0_traysHolding_16 rfl) <|
    al (s_iald hx hb hK hln0 dX0_traysHolding_18 rfl) <|
    al (s_iload_n hx hb (i := 1) rfl dX0_traysHolding_19 rfl) <|
    al (s_icmp_ne hx hb (by decide) dX0_traysHolding_20 rfl) <|
    al (s_aload_n hx hb (i := 0) rfl dX0_traysHolding_23 rfl) <|
    al (s_getA (N := 16) hx hb hts hin hown hK rfl (k := 8) (by decide) hf8 rfl dX0_traysHolding_24 rfl rfl (by decide)) <|
    al (s_iload hx hb dX0_traysHolding_27 rfl) <|
    al (s_iald hx hb hK hln0 dX0_traysHolding_29 rfl) <|
    al (s_iload_n hx hb (i := 2) rfl dX0_traysHolding_30 rfl) <|
    al (s_icmp_ne hx hb (by decide) dX0_traysHolding_31 rfl) <|
    al (s_iinc hx hb dX0_traysHolding_34 rfl (by decide)) <|
    al (s_iinc hx hb dX0_traysHolding_37 rfl (by decide)) <|
    al (s_goto hx hb (by decide) dX0_traysHolding_40) <|
    al (s_iload_n hx hb (i := 3) rfl dX0_traysHolding_43 rfl) <|
    al ((fun lv st S h => hE _ lv st S dX0_traysHolding_44 h)) <| an
theorem ct0_traysHolding : CtI 0 ly0 ja0 yX0_traysHolding wsX0_traysHolding rm0_traysHolding X0_traysHolding := mk_I (C := RX0) (strs := xstrs) T0_traysHolding (by decide) rfl rfl rfl rfl (Fr := 0) (Lo := 0) (Nat.le_of_ble_eq_true rfl) (Nat.le_of_ble_eq_true rfl) (fun Q => sn0_traysHolding Q nox)
abbrev rm0_thingsOf : Room := { frames := 0, cells := 0, slots := 0, locals := 0 }
set_option maxRecDepth 20000 in
set_option maxHeartbeats 4000000 in
theorem sn0_thingsOf (Q : Int → ST → Prop) (Qx : String → ST → Prop) : SndT RX0 xstrs 0 ly0 ja0 cX0_thingsOf 4 (some .int) wsX0_thingsOf 0 0 Qx (EI cX0_thingsOf Q) relP (T0_thingsOf Q Qx) := by
  intro p l e R s m args below meth c Qf D cA A AD rel hC hFr hLo hK hA hrel hT hE
  obtain ⟨⟨hx, hb, hml, hown, hts⟩, hlk, hr⟩ := hC
  have hrR := hrel
  have hin : ∀ w ∈ u_ws RX0 TX0 16, w ∈ wsX0_thingsOf := by decide +kernel
  have hf6 := hts (.fieldLink RX0 25 "CellTrays" "trayKind" "[I") (by decide +kernel)
  have hf8 := hts (.fieldLink RX0 31 "CellTrays" "trayThings" "[I") (by decide +kernel)
  exact al (s_iconst hx hb dX0_thingsOf_0 rfl) <|
    al (s_istore_n hx hb (i := 2) rfl dX0_thingsOf_1 rfl (by decide)) <|
    al (s_iconst hx hb dX0_thingsOf_2 rfl) <|
    al (s_istore_n hx hb (i := 3) rfl dX0_thingsOf_3 rfl (by decide)) <|
    al (s_iload_n hx hb (i := 3) rfl dX0_thingsOf_4 rfl) <|
    al (s_bipush hx hb dX0_thingsOf_5 rfl (by decide)) <|
    al (s_icmp_ge hx hb (by decide) dX0_thingsOf_7 rfl) <|
    al (s_aload_n hx hb (i := 0) rfl dX0_thingsOf_10 rfl) <|
    al (s_getA (N := 16) hx hb hts hin hown hK rfl (k := 6) (by decide) hf6 rfl dX0_thingsOf_11 rfl rfl (by decide)) <|
    al (s_iload_n hx hb (i := 3) rfl dX0_thingsOf_14 rfl) <|
    al (s_iald hx hb hK hln0 dX0_thingsOf_15 rfl) <|
    al (s_iload_n hx hb (i := 1) rfl dX0_thingsOf_16 rfl) <|
    al (s_icmp_ne hx hb (by decide) dX0_thingsOf_17 rfl) <|
    al (s_iload_n hx hb (i := 2) rfl dX0_thingsOf_20 rfl) <|
    al (s_aload_n hx hb (i := 0) rfl dX0_thingsOf_21 rfl) <|
    al (s_getA (N := 16) hx hb hts hin hown hK rfl (k := 8) (by decide) hf8 rfl dX0_thingsOf_22 rfl rfl (by decide)) <|
    al (s_iload_n hx hb (i := 3) rfl dX0_thingsOf_25 rfl) <|
    al (s_iald hx hb hK hln0 dX0_thingsOf_26 rfl) <|
    al (s_iadd hx hb dX0_thingsOf_27 rfl) <|
    al (s_istore_n hx hb (i := 2) rfl dX0_thingsOf_28 rfl (by decide)) <|
    al (s_iinc hx hb dX0_thingsOf_29 rfl (by decide)) <|
    al (s_goto hx hb (by decide) dX0_thingsOf_32) <|
    al (s_iload_n hx hb (i := 2) rfl dX0_thingsOf_35 rfl) <|
    al ((fun lv st S h => hE _ lv st S dX0_thingsOf_36 h)) <| an
theorem ct0_thingsOf : CtI 0 ly0 ja0 yX0_thingsOf wsX0_thingsOf rm0_thingsOf X0_thingsOf := mk_I (C := RX0) (strs := xstrs) T0_thingsOf (by decide) rfl rfl rfl rfl (Fr := 0) (Lo := 0) (Nat.le_of_ble_eq_true rfl) (Nat.le_of_ble_eq_true rfl) (fun Q => sn0_thingsOf Q nox)
abbrev rm0_freeCellsOf : Room := { frames := 1, cells := 0, slots := 0, locals := 23 }
set_option maxRecDepth 20000 in
set_option maxHeartbeats 4000000 in
theorem sn0_freeCellsOf (Q : Int → ST → Prop) (Qx : String → ST → Prop) : SndT RX0 xstrs 0 ly0 ja0 cX0_freeCellsOf 2 (some .int) wsX0_freeCellsOf 1 23 Qx (EI cX0_freeCellsOf Q) relP (T0_freeCellsOf Q Qx) := by
  intro p l e R s m args below meth c Qf D cA A AD rel hC hFr hLo hK hA hrel hT hE
  obtain ⟨⟨hx, hb, hml, hown, hts⟩, hlk, hr⟩ := hC
  have hrR := hrel
  have hin : ∀ w ∈ u_ws RX0 TX0 16, w ∈ wsX0_freeCellsOf := by decide +kernel
  have hf3 := hts (.fieldLink RX0 16 "CellTrays" "kindCells" "[I") (by decide +kernel)
  exact al (s_aload_n hx hb (i := 0) rfl dX0_freeCellsOf_0 rfl) <|
    al (s_iload_n hx hb (i := 1) rfl dX0_freeCellsOf_1 rfl) <|
    al (s_calli ⟨hx, hb, hml, hown, hts⟩ hA hK hrR rfl ct0_traysOf (cwV 1 hts gX0_freeCellsOf_X0_traysOf rfl (rm := rm0_traysOf) rfl rfl (by decide +kernel) ⟨Nat.le_trans (Nat.le_of_ble_eq_true rfl) hFr, Nat.le_trans (Nat.le_of_ble_eq_true rfl) hLo⟩) rfl dX0_freeCellsOf_2 rfl) <|
    al (s_aload_n hx hb (i := 0) rfl dX0_freeCellsOf_5 rfl) <|
    al (s_getA (N := 16) hx hb hts hin hown hK rfl (k := 3) (by decide) hf3 rfl dX0_freeCellsOf_6 rfl rfl (by decide)) <|
    al (s_iload_n hx hb (i := 1) rfl dX0_freeCellsOf_9 rfl) <|
    al (s_iald hx hb hK hln0 dX0_freeCellsOf_10 rfl) <|
    al (s_imul hx hb dX0_freeCellsOf_11 rfl) <|
    al (s_aload_n hx hb (i := 0) rfl dX0_freeCellsOf_12 rfl) <|
    al (s_iload_n hx hb (i := 1) rfl dX0_freeCellsOf_13 rfl) <|
    al (s_calli ⟨hx, hb, hml, hown, hts⟩ hA hK hrR rfl ct0_thingsOf (cwV 1 hts gX0_freeCellsOf_X0_thingsOf rfl (rm := rm0_thingsOf) rfl rfl (by decide +kernel) ⟨Nat.le_trans (Nat.le_of_ble_eq_true rfl) hFr, Nat.le_trans (Nat.le_of_ble_eq_true rfl) hLo⟩) rfl dX0_freeCellsOf_14 rfl) <|
    al (s_isub hx hb dX0_freeCellsOf_17 rfl) <|
    al ((fun lv st S h => hE _ lv st S dX0_freeCellsOf_18 h)) <| an
theorem ct0_freeCellsOf : CtI 0 ly0 ja0 yX0_freeCellsOf wsX0_freeCellsOf rm0_freeCellsOf X0_freeCellsOf := mk_I (C := RX0) (strs := xstrs) T0_freeCellsOf (by decide) rfl rfl rfl rfl (Fr := 1) (Lo := 23) (Nat.le_of_ble_eq_true rfl) (Nat.le_of_ble_eq_true rfl) (fun Q => sn0_freeCellsOf Q nox)
theorem sw0_about_13 : ∀ a : Int, 0 ≤ a → a ≤ 6 → ∃ q ∈ ([(0, 56), (1, 63), (2, 70), (3, 76), (4, 83), (5, 95), (6, 101)] : List (Int × Nat)), q.1 = a := by
  intro a h1 h2
  rcases (show a = 0 ∨ a = 1 ∨ a = 2 ∨ a = 3 ∨ a = 4 ∨ a = 5 ∨ a = 6 by omega) with rfl | rfl | rfl | rfl | rfl | rfl | rfl
  · exact ⟨_, List.mem_of_getElem? (i := 0) rfl, rfl⟩
  · exact ⟨_, List.mem_of_getElem? (i := 1) rfl, rfl⟩
  · exact ⟨_, List.mem_of_getElem? (i := 2) rfl, rfl⟩
  · exact ⟨_, List.mem_of_getElem? (i := 3) rfl, rfl⟩
  · exact ⟨_, List.mem_of_getElem? (i := 4) rfl, rfl⟩
  · exact ⟨_, List.mem_of_getElem? (i := 5) rfl, rfl⟩
  · exact ⟨_, List.mem_of_getElem? (i := 6) rfl, rfl⟩
abbrev rm0_about : Room := { frames := 7, cells := 0, slots := 0, locals := 104 }
abbrev rmx0_about : Room := { frames := 7, cells := 1, slots := 6, locals := 104 }
set_option maxRecDepth 20000 in
set_option maxHeartbeats 4000000 in
theorem sn0_about (Q : Int → ST → Prop) (Qx : String → ST → Prop) : SndT RX0 xstrs 0 ly0 ja0 cX0_about 3 (some .int) wsX0_about 7 104 Qx (EI cX0_about Q) relP (T0_about Q Qx) := by
  intro p l e R s m args below meth c Qf D cA A AD rel hC hFr hLo hK hA hrel hT hE
  obtain ⟨⟨hx, hb, hml, hown, hts⟩, hlk, hr⟩ := hC
  have hrR := hrel
  have hin : ∀ w ∈ u_ws RX0 TX0 16, w ∈ wsX0_about := by decide +kernel
  have hf1 := hts (.fieldLink RX0 9 "CellTrays" "kindSize" "[I") (by decide +kernel)
  have hf2 := hts (.fieldLink RX0 13 "CellTrays" "kindStep" "[I") (by decide +kernel)
  have hf3 := hts (.fieldLink RX0 16 "CellTrays" "kindCells" "[I") (by decide +kernel)
  have hf5 := hts (.fieldLink RX0 22 "CellTrays" "kindNextOffset" "[I") (by decide +kernel)
  exact al (s_aload_n hx hb (i := 0) rfl dX0_about_0 rfl) <|
    al (s_iload_n hx hb (i := 1) rfl dX0_about_1 rfl) <|
    al (s_xcallv ⟨hx, hb, hml, hown, hts⟩ hA hK hrR hT rfl ct0_requireKind cx0_requireKind (cwV 1 hts gX0_about_X0_requireKind rfl (rm := rm0_requireKind) rfl rfl (by decide +kernel) ⟨Nat.le_trans (Nat.le_of_ble_eq_true rfl) hFr, Nat.le_trans (Nat.le_of_ble_eq_true rfl) hLo⟩) (cwV 1 hts gX0_about_X0_requireKind rfl (rm := rmx0_requireKind) rfl rfl (by decide +kernel) ⟨Nat.le_trans (Nat.le_of_ble_eq_true rfl) hFr, Nat.le_trans (Nat.le_of_ble_eq_true rfl) hLo⟩) rfl dX0_about_2 rfl) <|
    al (s_aload_n hx hb (i := 0) rfl dX0_about_5 rfl) <|
    al (s_iload_n hx hb (i := 2) rfl dX0_about_6 rfl) <|
    al (s_bipush hx hb dX0_about_7 rfl (by decide)) <|
    al (s_xcallv ⟨hx, hb, hml, hown, hts⟩ hA hK hrR hT rfl ct0_requireWhat cx0_requireWhat (cwV 2 hts gX0_about_X0_requireWhat rfl (rm := rm0_requireWhat) rfl rfl (by decide +kernel) ⟨Nat.le_trans (Nat.le_of_ble_eq_true rfl) hFr, Nat.le_trans (Nat.le_of_ble_eq_true rfl) hLo⟩) (cwV 2 hts gX0_about_X0_requireWhat rfl (rm := rmx0_requireWhat) rfl rfl (by decide +kernel) ⟨Nat.le_trans (Nat.le_of_ble_eq_true rfl) hFr, Nat.le_trans (Nat.le_of_ble_eq_true rfl) hLo⟩) rfl dX0_about_9 rfl) <|
    al (s_iload_n hx hb (i := 2) rfl dX0_about_12 rfl) <|
    al (s_switch hx hb dX0_about_13 (by decide) (al ⟨by decide, by decide, 43, rfl, by decide⟩ <| al ⟨by decide, by decide, 50, rfl, by decide⟩ <| al ⟨by decide, by decide, 57, rfl, by decide⟩ <| al ⟨by decide, by decide, 63, rfl, by decide⟩ <| al ⟨by decide, by decide, 70, rfl, by decide⟩ <| al ⟨by decide, by decide, 82, rfl, by decide⟩ <| al ⟨by decide, by decide, 88, rfl, by decide⟩ <| an) sw0_about_13) <|
    al (s_aload_n hx hb (i := 0) rfl dX0_about_56 rfl) <|
    al (s_getA (N := 16) hx hb hts hin hown hK rfl (k := 1) (by decide) hf1 rfl dX0_about_57 rfl rfl (by decide)) <|
    al (s_iload_n hx hb (i := 1) rfl dX0_about_60 rfl) <|
    al (s_iald hx hb hK hln0 dX0_about_61 rfl) <|
    al ((fun lv st S h => hE _ lv st S dX0_about_62 h)) <|
    al (s_aload_n hx hb (i := 0) rfl dX0_about_63 rfl) <|
    al (s_getA (N := 16) hx hb hts hin hown hK rfl (k := 2) (by decide) hf2 rfl dX0_about_64 rfl rfl (by decide)) <|
    al (s_iload_n hx hb (i := 1) rfl dX0_about_67 rfl) <|
    al (s_iald hx hb hK hln0 dX0_about_68 rfl) <|
    al ((fun lv st S h => hE _ lv st S dX0_about_69 h)) <|
    al (s_aload_n hx hb (i := 0) rfl dX0_about_70 rfl) <|
    al (s_iload_n hx hb (i := 1) rfl dX0_about_71 rfl) <|
    al (s_calli ⟨hx, hb, hml, hown, hts⟩ hA hK hrR rfl ct0_traysOf (cwV 1 hts gX0_about_X0_traysOf rfl (rm := rm0_traysOf) rfl rfl (by decide +kernel) ⟨Nat.le_trans (Nat.le_of_ble_eq_true rfl) hFr, Nat.le_trans (Nat.le_of_ble_eq_true rfl) hLo⟩) rfl dX0_about_72 rfl) <|
    al ((fun lv st S h => hE _ lv st S dX0_about_75 h)) <|
    al (s_aload_n hx hb (i := 0) rfl dX0_about_76 rfl) <|
    al (s_iload_n hx hb (i := 1) rfl dX0_about_77 rfl) <|
    al (s_iconst hx hb dX0_about_78 rfl) <|
    al (s_calli ⟨hx, hb, hml, hown, hts⟩ hA hK hrR rfl ct0_traysHolding (cwV 2 hts gX0_about_X0_traysHolding rfl (rm := rm0_traysHolding) rfl rfl (by decide +kernel) ⟨Nat.le_trans (Nat.le_of_ble_eq_true rfl) hFr, Nat.le_trans (Nat.le_of_ble_eq_true rfl) hLo⟩) rfl dX0_about_79 rfl) <|
    al ((fun lv st S h => hE _ lv st S dX0_about_82 h)) <|
    al (s_aload_n hx hb (i := 0) rfl dX0_about_83 rfl) <|
    al (s_iload_n hx hb (i := 1) rfl dX0_about_84 rfl) <|
    al (s_aload_n hx hb (i := 0) rfl dX0_about_85 rfl) <|
    al (s_getA (N := 16) hx hb hts hin hown hK rfl (k := 3) (by decide) hf3 rfl dX0_about_86 rfl rfl (by decide)) <|
    al (s_iload_n hx hb (i := 1) rfl dX0_about_89 rfl) <|
    al (s_iald hx hb hK hln0 dX0_about_90 rfl) <|
    al (s_calli ⟨hx, hb, hml, hown, hts⟩ hA hK hrR rfl ct0_traysHolding (cwV 2 hts gX0_about_X0_traysHolding rfl (rm := rm0_traysHolding) rfl rfl (by decide +kernel) ⟨Nat.le_trans (Nat.le_of_ble_eq_true rfl) hFr, Nat.le_trans (Nat.le_of_ble_eq_true rfl) hLo⟩) rfl dX0_about_91 rfl) <|
    al ((fun lv st S h => hE _ lv st S dX0_about_94 h)) <|
    al (s_aload_n hx hb (i := 0) rfl dX0_about_95 rfl) <|
    al (s_iload_n hx hb (i := 1) rfl dX0_about_96 rfl) <|
    al (s_calli ⟨hx, hb, hml, hown, hts⟩ hA hK hrR rfl ct0_thingsOf (cwV 1 hts gX0_about_X0_thingsOf rfl (rm := rm0_thingsOf) rfl rfl (by decide +kernel) ⟨Nat.le_trans (Nat.le_of_ble_eq_true rfl) hFr, Nat.le_trans (Nat.le_of_ble_eq_true rfl) hLo⟩) rfl dX0_about_97 rfl) <|
    al ((fun lv st S h => hE _ lv st S dX0_about_100 h)) <|
    al (s_aload_n hx hb (i := 0) rfl dX0_about_101 rfl) <|
    al (s_iload_n hx hb (i := 1) rfl dX0_about_102 rfl) <|
    al (s_calli ⟨hx, hb, hml, hown, hts⟩ hA hK hrR rfl ct0_freeCellsOf (cwV 1 hts gX0_about_X0_freeCellsOf rfl (rm := rm0_freeCellsOf) rfl rfl (by decide +kernel) ⟨Nat.le_trans (Nat.le_of_ble_eq_true rfl) hFr, Nat.le_trans (Nat.le_of_ble_eq_true rfl) hLo⟩) rfl dX0_about_103 rfl) <|
    al ((fun lv st S h => hE _ lv st S dX0_about_106 h)) <|
    al (s_aload_n hx hb (i := 0) rfl dX0_about_107 rfl) <|
    al (s_getA (N := 16) hx hb hts hin hown hK rfl (k := 5) (by decide) hf5 rfl dX0_about_108 rfl rfl (by decide)) <|
    al (s_iload_n hx hb (i := 1) rfl dX0_about_111 rfl) <|
    al (s_iald hx hb hK hln0 dX0_about_112 rfl) <|
    al ((fun lv st S h => hE _ lv st S dX0_about_113 h)) <| an
theorem ct0_about : CtI 0 ly0 ja0 yX0_about wsX0_about rm0_about X0_about := mk_I (C := RX0) (strs := xstrs) T0_about (by decide) rfl rfl rfl rfl (Fr := 7) (Lo := 104) (Nat.le_of_ble_eq_true rfl) (Nat.le_of_ble_eq_true rfl) (fun Q => sn0_about Q nox)
theorem cx0_about : CtXI RX0 xstrs 0 ly0 ja0 yX0_about wsX0_about rmx0_about X0_about := mk_Ix (C := RX0) T0_about (by decide) rfl rfl rfl rfl (Fr := 7) (Lo := 104) (Nat.le_of_ble_eq_true rfl) (Nat.le_of_ble_eq_true rfl) (Nat.le_of_ble_eq_true rfl) (Nat.le_of_ble_eq_true rfl) (fun Qx => sn0_about _ Qx)
abbrev rm0_thingsThere : Room := { frames := 1, cells := 0, slots := 0, locals := 23 }
set_option maxRecDepth 20000 in
set_option maxHeartbeats 4000000 in
theorem sn0_thingsThere (Q : Int → ST → Prop) (Qx : String → ST → Prop) : SndT RX0 xstrs 0 ly0 ja0 cX0_thingsThere 3 (some .int) wsX0_thingsThere 1 23 Qx (EI cX0_thingsThere Q) relP (T0_thingsThere Q Qx) := by
  intro p l e R s m args below meth c Qf D cA A AD rel hC hFr hLo hK hA hrel hT hE
  obtain ⟨⟨hx, hb, hml, hown, hts⟩, hlk, hr⟩ := hC
  have hrR := hrel
  have hin : ∀ w ∈ u_ws RX0 TX0 16, w ∈ wsX0_thingsThere := by decide +kernel
  have hf0 := hts (.fieldLink RX0 55 "CellTrays" "kindCount" "I") (by decide +kernel)
  exact al (s_iconst hx hb dX0_thingsThere_0 rfl) <|
    al (s_istore_n hx hb (i := 1) rfl dX0_thingsThere_1 rfl (by decide)) <|
    al (s_iconst hx hb dX0_thingsThere_2 rfl) <|
    al (s_istore_n hx hb (i := 2) rfl dX0_thingsThere_3 rfl (by decide)) <|
    al (s_iload_n hx hb (i := 2) rfl dX0_thingsThere_4 rfl) <|
    al (s_aload_n hx hb (i := 0) rfl dX0_thingsThere_5 rfl) <|
    al (s_getI (N := 16) hx hb hts hin hown hK rfl (k := 0) (by decide) hf0 rfl dX0_thingsThere_6 rfl rfl) <|
    al (s_icmp_ge hx hb (by decide) dX0_thingsThere_9 rfl) <|
    al (s_iload_n hx hb (i := 1) rfl dX0_thingsThere_12 rfl) <|
    al (s_aload_n hx hb (i := 0) rfl dX0_thingsThere_13 rfl) <|
    al (s_iload_n hx hb (i := 2) rfl dX0_thingsThere_14 rfl) <|
    al (s_calli ⟨hx, hb, hml, hown, hts⟩ hA hK hrR rfl ct0_thingsOf (cwV 1 hts gX0_thingsThere_X0_thingsOf rfl (rm := rm0_thingsOf) rfl rfl (by decide +kernel) ⟨Nat.le_trans (Nat.le_of_ble_eq_true rfl) hFr, Nat.le_trans (Nat.le_of_ble_eq_true rfl) hLo⟩) rfl dX0_thingsThere_15 rfl) <|
    al (s_iadd hx hb dX0_thingsThere_18 rfl) <|
    al (s_istore_n hx hb (i := 1) rfl dX0_thingsThere_19 rfl (by decide)) <|
    al (s_iinc hx hb dX0_thingsThere_20 rfl (by decide)) <|
    al (s_goto hx hb (by decide) dX0_thingsThere_23) <|
    al (s_iload_n hx hb (i := 1) rfl dX0_thingsThere_26 rfl) <|
    al ((fun lv st S h => hE _ lv st S dX0_thingsThere_27 h)) <| an
theorem ct0_thingsThere : CtI 0 ly0 ja0 yX0_thingsThere wsX0_thingsThere rm0_thingsThere X0_thingsThere := mk_I (C := RX0) (strs := xstrs) T0_thingsThere (by decide) rfl rfl rfl rfl (Fr := 1) (Lo := 23) (Nat.le_of_ble_eq_true rfl) (Nat.le_of_ble_eq_true rfl) (fun Q => sn0_thingsThere Q nox)
abbrev rm0_wastedBy : Room := { frames := 1, cells := 0, slots := 0, locals := 23 }
set_option maxRecDepth 20000 in
set_option maxHeartbeats 4000000 in
theorem sn0_wastedBy (Q : Int → ST → Prop) (Qx : String → ST → Prop) : SndT RX0 xstrs 0 ly0 ja0 cX0_wastedBy 2 (some .int) wsX0_wastedBy 1 23 Qx (EI cX0_wastedBy Q) relP (T0_wastedBy Q Qx) := by
  intro p l e R s m args below meth c Qf D cA A AD rel hC hFr hLo hK hA hrel hT hE
  obtain ⟨⟨hx, hb, hml, hown, hts⟩, hlk, hr⟩ := hC
  have hrR := hrel
  have hin : ∀ w ∈ u_ws RX0 TX0 16, w ∈ wsX0_wastedBy := by decide +kernel
  have hf1 := hts (.fieldLink RX0 9 "CellTrays" "kindSize" "[I") (by decide +kernel)
  exact al (s_aload_n hx hb (i := 0) rfl dX0_wastedBy_0 rfl) <|
    al (s_iload_n hx hb (i := 1) rfl dX0_wastedBy_1 rfl) <|
    al (s_calli ⟨hx, hb, hml, hown, hts⟩ hA hK hrR rfl ct0_traysOf (cwV 1 hts gX0_wastedBy_X0_traysOf rfl (rm := rm0_traysOf) rfl rfl (by decide +kernel) ⟨Nat.le_trans (Nat.le_of_ble_eq_true rfl) hFr, Nat.le_trans (Nat.le_of_ble_eq_true rfl) hLo⟩) rfl dX0_wastedBy_2 rfl) <|
    al (s_bipush hx hb dX0_wastedBy_5 rfl (by decide)) <|
    al (s_imul hx hb dX0_wastedBy_7 rfl) <|
    al (s_aload_n hx hb (i := 0) rfl dX0_wastedBy_8 rfl) <|
    al (s_iload_n hx hb (i := 1) rfl dX0_wastedBy_9 rfl) <|
    al (s_calli ⟨hx, hb, hml, hown, hts⟩ hA hK hrR rfl ct0_thingsOf (cwV 1 hts gX0_wastedBy_X0_thingsOf rfl (rm := rm0_thingsOf) rfl rfl (by decide +kernel) ⟨Nat.le_trans (Nat.le_of_ble_eq_true rfl) hFr, Nat.le_trans (Nat.le_of_ble_eq_true rfl) hLo⟩) rfl dX0_wastedBy_10 rfl) <|
    al (s_aload_n hx hb (i := 0) rfl dX0_wastedBy_13 rfl) <|
    al (s_getA (N := 16) hx hb hts hin hown hK rfl (k := 1) (by decide) hf1 rfl dX0_wastedBy_14 rfl rfl (by decide)) <|
    al (s_iload_n hx hb (i := 1) rfl dX0_wastedBy_17 rfl) <|
    al (s_iald hx hb hK hln0 dX0_wastedBy_18 rfl) <|
    al (s_imul hx hb dX0_wastedBy_19 rfl) <|
    al (s_isub hx hb dX0_wastedBy_20 rfl) <|
    al ((fun lv st S h => hE _ lv st S dX0_wastedBy_21 h)) <| an
theorem ct0_wastedBy : CtI 0 ly0 ja0 yX0_wastedBy wsX0_wastedBy rm0_wastedBy X0_wastedBy := mk_I (C := RX0) (strs := xstrs) T0_wastedBy (by decide) rfl rfl rfl rfl (Fr := 1) (Lo := 23) (Nat.le_of_ble_eq_true rfl) (Nat.le_of_ble_eq_true rfl) (fun Q => sn0_wastedBy Q nox)
abbrev rm0_wastedInAll : Room := { frames := 2, cells := 0, slots := 0, locals := 44 }
set_option maxRecDepth 20000 in
set_option maxHeartbeats 4000000 in
theorem sn0_wastedInAll (Q : Int → ST → Prop) (Qx : String → ST → Prop) : SndT RX0 xstrs 0 ly0 ja0 cX0_wastedInAll 3 (some .int) wsX0_wastedInAll 2 44 Qx (EI cX0_wastedInAll Q) relP (T0_wastedInAll Q Qx) := by
  intro p l e R s m args below meth c Qf D cA A AD rel hC hFr hLo hK hA hrel hT hE
  obtain ⟨⟨hx, hb, hml, hown, hts⟩, hlk, hr⟩ := hC
  have hrR := hrel
  have hin : ∀ w ∈ u_ws RX0 TX0 16, w ∈ wsX0_wastedInAll := by decide +kernel
  have hf0 := hts (.fieldLink RX0 55 "CellTrays" "kindCount" "I") (by decide +kernel)
  exact al (s_iconst hx hb dX0_wastedInAll_0 rfl) <|
    al (s_istore_n hx hb (i := 1) rfl dX0_wastedInAll_1 rfl (by decide)) <|
    al (s_iconst hx hb dX0_wastedInAll_2 rfl) <|
    al (s_istore_n hx hb (i := 2) rfl dX0_wastedInAll_3 rfl (by decide)) <|
    al (s_iload_n hx hb (i := 2) rfl dX0_wastedInAll_4 rfl) <|
    al (s_aload_n hx hb (i := 0) rfl dX0_wastedInAll_5 rfl) <|
    al (s_getI (N := 16) hx hb hts hin hown hK rfl (k := 0) (by decide) hf0 rfl dX0_wastedInAll_6 rfl rfl) <|
    al (s_icmp_ge hx hb (by decide) dX0_wastedInAll_9 rfl) <|
    al (s_iload_n hx hb (i := 1) rfl dX0_wastedInAll_12 rfl) <|
    al (s_aload_n hx hb (i := 0) rfl dX0_wastedInAll_13 rfl) <|
    al (s_iload_n hx hb (i := 2) rfl dX0_wastedInAll_14 rfl) <|
    al (s_calli ⟨hx, hb, hml, hown, hts⟩ hA hK hrR rfl ct0_wastedBy (cwV 1 hts gX0_wastedInAll_X0_wastedBy rfl (rm := rm0_wastedBy) rfl rfl (by decide +kernel) ⟨Nat.le_trans (Nat.le_of_ble_eq_true rfl) hFr, Nat.le_trans (Nat.le_of_ble_eq_true rfl) hLo⟩) rfl dX0_wastedInAll_15 rfl) <|
    al (s_iadd hx hb dX0_wastedInAll_18 rfl) <|
    al (s_istore_n hx hb (i := 1) rfl dX0_wastedInAll_19 rfl (by decide)) <|
    al (s_iinc hx hb dX0_wastedInAll_20 rfl (by decide)) <|
    al (s_goto hx hb (by decide) dX0_wastedInAll_23) <|
    al (s_iload_n hx hb (i := 1) rfl dX0_wastedInAll_26 rfl) <|
    al ((fun lv st S h => hE _ lv st S dX0_wastedInAll_27 h)) <| an
theorem ct0_wastedInAll : CtI 0 ly0 ja0 yX0_wastedInAll wsX0_wastedInAll rm0_wastedInAll X0_wastedInAll := mk_I (C := RX0) (strs := xstrs) T0_wastedInAll (by decide) rfl rfl rfl rfl (Fr := 2) (Lo := 44) (Nat.le_of_ble_eq_true rfl) (Nat.le_of_ble_eq_true rfl) (fun Q => sn0_wastedInAll Q nox)
theorem sw0_count_8 : ∀ a : Int, 0 ≤ a → a ≤ 5 → ∃ q ∈ ([(0, 48), (1, 53), (2, 62), (3, 67), (4, 72), (5, 77)] : List (Int × Nat)), q.1 = a := by
  intro a h1 h2
  rcases (show a = 0 ∨ a = 1 ∨ a = 2 ∨ a = 3 ∨ a = 4 ∨ a = 5 by omega) with rfl | rfl | rfl | rfl | rfl | rfl
  · exact ⟨_, List.mem_of_getElem? (i := 0) rfl, rfl⟩
  · exact ⟨_, List.mem_of_getElem? (i := 1) rfl, rfl⟩
  · exact ⟨_, List.mem_of_getElem? (i := 2) rfl, rfl⟩
  · exact ⟨_, List.mem_of_getElem? (i := 3) rfl, rfl⟩
  · exact ⟨_, List.mem_of_getElem? (i := 4) rfl, rfl⟩
  · exact ⟨_, List.mem_of_getElem? (i := 5) rfl, rfl⟩
abbrev rm0_count : Room := { frames := 7, cells := 0, slots := 0, locals := 104 }
abbrev rmx0_count : Room := { frames := 7, cells := 1, slots := 6, locals := 104 }
set_option maxRecDepth 20000 in
set_option maxHeartbeats 4000000 in
theorem sn0_count (Q : Int → ST → Prop) (Qx : String → ST → Prop) : SndT RX0 xstrs 0 ly0 ja0 cX0_count 2 (some .int) wsX0_count 7 104 Qx (EI cX0_count Q) relP (T0_count Q Qx) := by
  intro p l e R s m args below meth c Qf D cA A AD rel hC hFr hLo hK hA hrel hT hE
  obtain ⟨⟨hx, hb, hml, hown, hts⟩, hlk, hr⟩ := hC
  have hrR := hrel
  have hin : ∀ w ∈ u_ws RX0 TX0 16, w ∈ wsX0_count := by decide +kernel
  have hf0 := hts (.fieldLink RX0 55 "CellTrays" "kindCount" "I") (by decide +kernel)
  have hf10 := hts (.fieldLink RX0 68 "CellTrays" "thingCount" "I") (by decide +kernel)
  have hf14 := hts (.fieldLink RX0 146 "CellTrays" "goneCount" "I") (by decide +kernel)
  have hf15 := hts (.fieldLink RX0 109 "CellTrays" "movedCount" "I") (by decide +kernel)
  exact al (s_aload_n hx hb (i := 0) rfl dX0_count_0 rfl) <|
    al (s_iload_n hx hb (i := 1) rfl dX0_count_1 rfl) <|
    al (s_bipush hx hb dX0_count_2 rfl (by decide)) <|
    al (s_xcallv ⟨hx, hb, hml, hown, hts⟩ hA hK hrR hT rfl ct0_requireWhat cx0_requireWhat (cwV 2 hts gX0_count_X0_requireWhat rfl (rm := rm0_requireWhat) rfl rfl (by decide +kernel) ⟨Nat.le_trans (Nat.le_of_ble_eq_true rfl) hFr, Nat.le_trans (Nat.le_of_ble_eq_true rfl) hLo⟩) (cwV 2 hts gX0_count_X0_requireWhat rfl (rm := rmx0_requireWhat) rfl rfl (by decide +kernel) ⟨Nat.le_trans (Nat.le_of_ble_eq_true rfl) hFr, Nat.le_trans (Nat.le_of_ble_eq_true rfl) hLo⟩) rfl dX0_count_4 rfl) <|
    al (s_iload_n hx hb (i := 1) rfl dX0_count_7 rfl) <|
    al (s_switch hx hb dX0_count_8 (by decide) (al ⟨by decide, by decide, 40, rfl, by decide⟩ <| al ⟨by decide, by decide, 45, rfl, by decide⟩ <| al ⟨by decide, by decide, 54, rfl, by decide⟩ <| al ⟨by decide, by decide, 59, rfl, by decide⟩ <| al ⟨by decide, by decide, 64, rfl, by decide⟩ <| al ⟨by decide, by decide, 69, rfl, by decide⟩ <| an) sw0_count_8) <|
    al (s_aload_n hx hb (i := 0) rfl dX0_count_48 rfl) <|
    al (s_getI (N := 16) hx hb hts hin hown hK rfl (k := 0) (by decide) hf0 rfl dX0_count_49 rfl rfl) <|
    al ((fun lv st S h => hE _ lv st S dX0_count_52 h)) <|
    al (s_bipush hx hb dX0_count_53 rfl (by decide)) <|
    al (s_aload_n hx hb (i := 0) rfl dX0_count_55 rfl) <|
    al (s_iconst hx hb dX0_count_56 rfl) <|
    al (s_calli ⟨hx, hb, hml, hown, hts⟩ hA hK hrR rfl ct0_traysOf (cwV 1 hts gX0_count_X0_traysOf rfl (rm := rm0_traysOf) rfl rfl (by decide +kernel) ⟨Nat.le_trans (Nat.le_of_ble_eq_true rfl) hFr, Nat.le_trans (Nat.le_of_ble_eq_true rfl) hLo⟩) rfl dX0_count_57 rfl) <|
    al (s_isub hx hb dX0_count_60 rfl) <|
    al ((fun lv st S h => hE _ lv st S dX0_count_61 h)) <|
    al (s_aload_n hx hb (i := 0) rfl dX0_count_62 rfl) <|
    al (s_calli ⟨hx, hb, hml, hown, hts⟩ hA hK hrR rfl ct0_thingsThere (cwV 0 hts gX0_count_X0_thingsThere rfl (rm := rm0_thingsThere) rfl rfl (by decide +kernel) ⟨Nat.le_trans (Nat.le_of_ble_eq_true rfl) hFr, Nat.le_trans (Nat.le_of_ble_eq_true rfl) hLo⟩) rfl dX0_count_63 rfl) <|
    al ((fun lv st S h => hE _ lv st S dX0_count_66 h)) <|
    al (s_aload_n hx hb (i := 0) rfl dX0_count_67 rfl) <|
    al (s_getI (N := 16) hx hb hts hin hown hK rfl (k := 10) (by decide) hf10 rfl dX0_count_68 rfl rfl) <|
    al ((fun lv st S h => hE _ lv st S dX0_count_71 h)) <|
    al (s_aload_n hx hb (i := 0) rfl dX0_count_72 rfl) <|
    al (s_calli ⟨hx, hb, hml, hown, hts⟩ hA hK hrR rfl ct0_wastedInAll (cwV 0 hts gX0_count_X0_wastedInAll rfl (rm := rm0_wastedInAll) rfl rfl (by decide +kernel) ⟨Nat.le_trans (Nat.le_of_ble_eq_true rfl) hFr, Nat.le_trans (Nat.le_of_ble_eq_true rfl) hLo⟩) rfl dX0_count_73 rfl) <|
    al ((fun lv st S h => hE _ lv st S dX0_count_76 h)) <|
    al (s_aload_n hx hb (i := 0) rfl dX0_count_77 rfl) <|
    al (s_getI (N := 16) hx hb hts hin hown hK rfl (k := 14) (by decide) hf14 rfl dX0_count_78 rfl rfl) <|
    al ((fun lv st S h => hE _ lv st S dX0_count_81 h)) <|
    al (s_aload_n hx hb (i := 0) rfl dX0_count_82 rfl) <|
    al (s_getI (N := 16) hx hb hts hin hown hK rfl (k := 15) (by decide) hf15 rfl dX0_count_83 rfl rfl) <|
    al ((fun lv st S h => hE _ lv st S dX0_count_86 h)) <| an
theorem ct0_count : CtI 0 ly0 ja0 yX0_count wsX0_count rm0_count X0_count := mk_I (C := RX0) (strs := xstrs) T0_count (by decide) rfl rfl rfl rfl (Fr := 7) (Lo := 104) (Nat.le_of_ble_eq_true rfl) (Nat.le_of_ble_eq_true rfl) (fun Q => sn0_count Q nox)
theorem cx0_count : CtXI RX0 xstrs 0 ly0 ja0 yX0_count wsX0_count rmx0_count X0_count := mk_Ix (C := RX0) T0_count (by decide) rfl rfl rfl rfl (Fr := 7) (Lo := 104) (Nat.le_of_ble_eq_true rfl) (Nat.le_of_ble_eq_true rfl) (Nat.le_of_ble_eq_true rfl) (Nat.le_of_ble_eq_true rfl) (fun Qx => sn0_count _ Qx)
abbrev rm0_would : Room := { frames := 7, cells := 0, slots := 0, locals := 103 }
abbrev rmx0_would : Room := { frames := 7, cells := 1, slots := 6, locals := 103 }
set_option maxRecDepth 20000 in
set_option maxHeartbeats 4000000 in
theorem sn0_would (Q : Int → ST → Prop) (Qx : String → ST → Prop) : SndT RX0 xstrs 0 ly0 ja0 cX0_would 2 (some .int) wsX0_would 7 103 Qx (EI cX0_would Q) relP (T0_would Q Qx) := by
  intro p l e R s m args below meth c Qf D cA A AD rel hC hFr hLo hK hA hrel hT hE
  obtain ⟨⟨hx, hb, hml, hown, hts⟩, hlk, hr⟩ := hC
  have hrR := hrel
  exact al (s_aload_n hx hb (i := 0) rfl dX0_would_0 rfl) <|
    al (s_iload_n hx hb (i := 1) rfl dX0_would_1 rfl) <|
    al (s_xcallv ⟨hx, hb, hml, hown, hts⟩ hA hK hrR hT rfl ct0_requireKind cx0_requireKind (cwV 1 hts gX0_would_X0_requireKind rfl (rm := rm0_requireKind) rfl rfl (by decide +kernel) ⟨Nat.le_trans (Nat.le_of_ble_eq_true rfl) hFr, Nat.le_trans (Nat.le_of_ble_eq_true rfl) hLo⟩) (cwV 1 hts gX0_would_X0_requireKind rfl (rm := rmx0_requireKind) rfl rfl (by decide +kernel) ⟨Nat.le_trans (Nat.le_of_ble_eq_true rfl) hFr, Nat.le_trans (Nat.le_of_ble_eq_true rfl) hLo⟩) rfl dX0_would_2 rfl) <|
    al (s_aload_n hx hb (i := 0) rfl dX0_would_5 rfl) <|
    al (s_iload_n hx hb (i := 1) rfl dX0_would_6 rfl) <|
    al (s_calli ⟨hx, hb, hml, hown, hts⟩ hA hK hrR rfl ct0_placeFor (cwV 1 hts gX0_would_X0_placeFor rfl (rm := rm0_placeFor) rfl rfl (by decide +kernel) ⟨Nat.le_trans (Nat.le_of_ble_eq_true rfl) hFr, Nat.le_trans (Nat.le_of_ble_eq_true rfl) hLo⟩) rfl dX0_would_7 rfl) <|
    al ((fun lv st S h => hE _ lv st S dX0_would_10 h)) <| an
theorem ct0_would : CtI 0 ly0 ja0 yX0_would wsX0_would rm0_would X0_would := mk_I (C := RX0) (strs := xstrs) T0_would (by decide) rfl rfl rfl rfl (Fr := 7) (Lo := 103) (Nat.le_of_ble_eq_true rfl) (Nat.le_of_ble_eq_true rfl) (fun Q => sn0_would Q nox)
theorem cx0_would : CtXI RX0 xstrs 0 ly0 ja0 yX0_would wsX0_would rmx0_would X0_would := mk_Ix (C := RX0) T0_would (by decide) rfl rfl rfl rfl (Fr := 7) (Lo := 103) (Nat.le_of_ble_eq_true rfl) (Nat.le_of_ble_eq_true rfl) (Nat.le_of_ble_eq_true rfl) (Nat.le_of_ble_eq_true rfl) (fun Qx => sn0_would _ Qx)
abbrev rm0_spares : Room := { frames := 7, cells := 0, slots := 0, locals := 103 }
abbrev rmx0_spares : Room := { frames := 7, cells := 1, slots := 6, locals := 103 }
set_option maxRecDepth 20000 in
set_option maxHeartbeats 4000000 in
theorem sn0_spares (Q : Int → ST → Prop) (Qx : String → ST → Prop) : SndT RX0 xstrs 0 ly0 ja0 cX0_spares 5 (some .int) wsX0_spares 7 103 Qx (EI cX0_spares Q) relP (T0_spares Q Qx) := by
  intro p l e R s m args below meth c Qf D cA A AD rel hC hFr hLo hK hA hrel hT hE
  obtain ⟨⟨hx, hb, hml, hown, hts⟩, hlk, hr⟩ := hC
  have hrR := hrel
  have hin : ∀ w ∈ u_ws RX0 TX0 16, w ∈ wsX0_spares := by decide +kernel
  have hf3 := hts (.fieldLink RX0 16 "CellTrays" "kindCells" "[I") (by decide +kernel)
  have hf6 := hts (.fieldLink RX0 25 "CellTrays" "trayKind" "[I") (by decide +kernel)
  exact al (s_aload_n hx hb (i := 0) rfl dX0_spares_0 rfl) <|
    al (s_iload_n hx hb (i := 1) rfl dX0_spares_1 rfl) <|
    al (s_xcallv ⟨hx, hb, hml, hown, hts⟩ hA hK hrR hT rfl ct0_requireKind cx0_requireKind (cwV 1 hts gX0_spares_X0_requireKind rfl (rm := rm0_requireKind) rfl rfl (by decide +kernel) ⟨Nat.le_trans (Nat.le_of_ble_eq_true rfl) hFr, Nat.le_trans (Nat.le_of_ble_eq_true rfl) hLo⟩) (cwV 1 hts gX0_spares_X0_requireKind rfl (rm := rmx0_requireKind) rfl rfl (by decide +kernel) ⟨Nat.le_trans (Nat.le_of_ble_eq_true rfl) hFr, Nat.le_trans (Nat.le_of_ble_eq_true rfl) hLo⟩) rfl dX0_spares_2 rfl) <|
    al (s_aload_n hx hb (i := 0) rfl dX0_spares_5 rfl) <|
    al (s_iload_n hx hb (i := 1) rfl dX0_spares_6 rfl) <|
    al (s_calli ⟨hx, hb, hml, hown, hts⟩ hA hK hrR rfl ct0_thingsOf (cwV 1 hts gX0_spares_X0_thingsOf rfl (rm := rm0_thingsOf) rfl rfl (by decide +kernel) ⟨Nat.le_trans (Nat.le_of_ble_eq_true rfl) hFr, Nat.le_trans (Nat.le_of_ble_eq_true rfl) hLo⟩) rfl dX0_spares_7 rfl) <|
    al (s_istore_n hx hb (i := 2) rfl dX0_spares_10 rfl (by decide)) <|
    al (s_iconst hx hb dX0_spares_11 rfl) <|
    al (s_istore_n hx hb (i := 3) rfl dX0_spares_12 rfl (by decide)) <|
    al (s_iconst hx hb dX0_spares_13 rfl) <|
    al (s_istore hx hb dX0_spares_14 rfl (by decide)) <|
    al (s_iload hx hb dX0_spares_16 rfl) <|
    al (s_bipush hx hb dX0_spares_18 rfl (by decide)) <|
    al (s_icmp_ge hx hb (by decide) dX0_spares_20 rfl) <|
    al (s_aload_n hx hb (i := 0) rfl dX0_spares_23 rfl) <|
    al (s_getA (N := 16) hx hb hts hin hown hK rfl (k := 6) (by decide) hf6 rfl dX0_spares_24 rfl rfl (by decide)) <|
    al (s_iload hx hb dX0_spares_27 rfl) <|
    al (s_iald hx hb hK hln0 dX0_spares_29 rfl) <|
    al (s_iload_n hx hb (i := 1) rfl dX0_spares_30 rfl) <|
    al (s_icmp_ne hx hb (by decide) dX0_spares_31 rfl) <|
    al (s_iload_n hx hb (i := 2) rfl dX0_spares_34 rfl) <|
    al (s_if_gt hx hb (by decide) dX0_spares_35 rfl) <|
    al (s_iinc hx hb dX0_spares_38 rfl (by decide)) <|
    al (s_iload_n hx hb (i := 2) rfl dX0_spares_41 rfl) <|
    al (s_aload_n hx hb (i := 0) rfl dX0_spares_42 rfl) <|
    al (s_getA (N := 16) hx hb hts hin hown hK rfl (k := 3) (by decide) hf3 rfl dX0_spares_43 rfl rfl (by decide)) <|
    al (s_iload_n hx hb (i := 1) rfl dX0_spares_46 rfl) <|
    al (s_iald hx hb hK hln0 dX0_spares_47 rfl) <|
    al (s_isub hx hb dX0_spares_48 rfl) <|
    al (s_istore_n hx hb (i := 2) rfl dX0_spares_49 rfl (by decide)) <|
    al (s_iinc hx hb dX0_spares_50 rfl (by decide)) <|
    al (s_goto hx hb (by decide) dX0_spares_53) <|
    al (s_iload_n hx hb (i := 3) rfl dX0_spares_56 rfl) <|
    al ((fun lv st S h => hE _ lv st S dX0_spares_57 h)) <| an
theorem ct0_spares : CtI 0 ly0 ja0 yX0_spares wsX0_spares rm0_spares X0_spares := mk_I (C := RX0) (strs := xstrs) T0_spares (by decide) rfl rfl rfl rfl (Fr := 7) (Lo := 103) (Nat.le_of_ble_eq_true rfl) (Nat.le_of_ble_eq_true rfl) (fun Q => sn0_spares Q nox)
theorem cx0_spares : CtXI RX0 xstrs 0 ly0 ja0 yX0_spares wsX0_spares rmx0_spares X0_spares := mk_Ix (C := RX0) T0_spares (by decide) rfl rfl rfl rfl (Fr := 7) (Lo := 103) (Nat.le_of_ble_eq_true rfl) (Nat.le_of_ble_eq_true rfl) (Nat.le_of_ble_eq_true rfl) (Nat.le_of_ble_eq_true rfl) (fun Qx => sn0_spares _ Qx)
abbrev rm0_room : Room := { frames := 7, cells := 0, slots := 0, locals := 103 }
abbrev rmx0_room : Room := { frames := 7, cells := 1, slots := 6, locals := 103 }
set_option maxRecDepth 20000 in
set_option maxHeartbeats 4000000 in
theorem sn0_room (Q : Int → ST → Prop) (Qx : String → ST → Prop) : SndT RX0 xstrs 0 ly0 ja0 cX0_room 2 (some .int) wsX0_room 7 103 Qx (EI cX0_room Q) relP (T0_room Q Qx) := by
  intro p l e R s m args below meth c Qf D cA A AD rel hC hFr hLo hK hA hrel hT hE
  obtain ⟨⟨hx, hb, hml, hown, hts⟩, hlk, hr⟩ := hC
  have hrR := hrel
  have hin : ∀ w ∈ u_ws RX0 TX0 16, w ∈ wsX0_room := by decide +kernel
  have hf3 := hts (.fieldLink RX0 16 "CellTrays" "kindCells" "[I") (by decide +kernel)
  exact al (s_aload_n hx hb (i := 0) rfl dX0_room_0 rfl) <|
    al (s_iload_n hx hb (i := 1) rfl dX0_room_1 rfl) <|
    al (s_xcallv ⟨hx, hb, hml, hown, hts⟩ hA hK hrR hT rfl ct0_requireKind cx0_requireKind (cwV 1 hts gX0_room_X0_requireKind rfl (rm := rm0_requireKind) rfl rfl (by decide +kernel) ⟨Nat.le_trans (Nat.le_of_ble_eq_true rfl) hFr, Nat.le_trans (Nat.le_of_ble_eq_true rfl) hLo⟩) (cwV 1 hts gX0_room_X0_requireKind rfl (rm := rmx0_requireKind) rfl rfl (by decide +kernel) ⟨Nat.le_trans (Nat.le_of_ble_eq_true rfl) hFr, Nat.le_trans (Nat.le_of_ble_eq_true rfl) hLo⟩) rfl dX0_room_2 rfl) <|
    al (s_aload_n hx hb (i := 0) rfl dX0_room_5 rfl) <|
    al (s_iload_n hx hb (i := 1) rfl dX0_room_6 rfl) <|
    al (s_calli ⟨hx, hb, hml, hown, hts⟩ hA hK hrR rfl ct0_freeCellsOf (cwV 1 hts gX0_room_X0_freeCellsOf rfl (rm := rm0_freeCellsOf) rfl rfl (by decide +kernel) ⟨Nat.le_trans (Nat.le_of_ble_eq_true rfl) hFr, Nat.le_trans (Nat.le_of_ble_eq_true rfl) hLo⟩) rfl dX0_room_7 rfl) <|
    al (s_aload_n hx hb (i := 0) rfl dX0_room_10 rfl) <|
    al (s_iconst hx hb dX0_room_11 rfl) <|
    al (s_calli ⟨hx, hb, hml, hown, hts⟩ hA hK hrR rfl ct0_traysOf (cwV 1 hts gX0_room_X0_traysOf rfl (rm := rm0_traysOf) rfl rfl (by decide +kernel) ⟨Nat.le_trans (Nat.le_of_ble_eq_true rfl) hFr, Nat.le_trans (Nat.le_of_ble_eq_true rfl) hLo⟩) rfl dX0_room_12 rfl) <|
    al (s_aload_n hx hb (i := 0) rfl dX0_room_15 rfl) <|
    al (s_getA (N := 16) hx hb hts hin hown hK rfl (k := 3) (by decide) hf3 rfl dX0_room_16 rfl rfl (by decide)) <|
    al (s_iload_n hx hb (i := 1) rfl dX0_room_19 rfl) <|
    al (s_iald hx hb hK hln0 dX0_room_20 rfl) <|
    al (s_imul hx hb dX0_room_21 rfl) <|
    al (s_iadd hx hb dX0_room_22 rfl) <|
    al ((fun lv st S h => hE _ lv st S dX0_room_23 h)) <| an
theorem ct0_room : CtI 0 ly0 ja0 yX0_room wsX0_room rm0_room X0_room := mk_I (C := RX0) (strs := xstrs) T0_room (by decide) rfl rfl rfl rfl (Fr := 7) (Lo := 103) (Nat.le_of_ble_eq_true rfl) (Nat.le_of_ble_eq_true rfl) (fun Q => sn0_room Q nox)
theorem cx0_room : CtXI RX0 xstrs 0 ly0 ja0 yX0_room wsX0_room rmx0_room X0_room := mk_Ix (C := RX0) T0_room (by decide) rfl rfl rfl rfl (Fr := 7) (Lo := 103) (Nat.le_of_ble_eq_true rfl) (Nat.le_of_ble_eq_true rfl) (Nat.le_of_ble_eq_true rfl) (Nat.le_of_ble_eq_true rfl) (fun Qx => sn0_room _ Qx)
abbrev rm0_worst : Room := { frames := 2, cells := 0, slots := 0, locals := 44 }
set_option maxRecDepth 20000 in
set_option maxHeartbeats 4000000 in
theorem sn0_worst (Q : Int → ST → Prop) (Qx : String → ST → Prop) : SndT RX0 xstrs 0 ly0 ja0 cX0_worst 5 (some .int) wsX0_worst 2 44 Qx (EI cX0_worst Q) relP (T0_worst Q Qx) := by
  intro p l e R s m args below meth c Qf D cA A AD rel hC hFr hLo hK hA hrel hT hE
  obtain ⟨⟨hx, hb, hml, hown, hts⟩, hlk, hr⟩ := hC
  have hrR := hrel
  have hin : ∀ w ∈ u_ws RX0 TX0 16, w ∈ wsX0_worst := by decide +kernel
  have hf0 := hts (.fieldLink RX0 55 "CellTrays" "kindCount" "I") (by decide +kernel)
  exact al (s_iconst hx hb dX0_worst_0 rfl) <|
    al (s_istore_n hx hb (i := 1) rfl dX0_worst_1 rfl (by decide)) <|
    al (s_iconst hx hb dX0_worst_2 rfl) <|
    al (s_istore_n hx hb (i := 2) rfl dX0_worst_3 rfl (by decide)) <|
    al (s_iconst hx hb dX0_worst_4 rfl) <|
    al (s_istore_n hx hb (i := 3) rfl dX0_worst_5 rfl (by decide)) <|
    al (s_iload_n hx hb (i := 3) rfl dX0_worst_6 rfl) <|
    al (s_aload_n hx hb (i := 0) rfl dX0_worst_7 rfl) <|
    al (s_getI (N := 16) hx hb hts hin hown hK rfl (k := 0) (by decide) hf0 rfl dX0_worst_8 rfl rfl) <|
    al (s_icmp_ge hx hb (by decide) dX0_worst_11 rfl) <|
    al (s_aload_n hx hb (i := 0) rfl dX0_worst_14 rfl) <|
    al (s_iload_n hx hb (i := 3) rfl dX0_worst_15 rfl) <|
    al (s_calli ⟨hx, hb, hml, hown, hts⟩ hA hK hrR rfl ct0_wastedBy (cwV 1 hts gX0_worst_X0_wastedBy rfl (rm := rm0_wastedBy) rfl rfl (by decide +kernel) ⟨Nat.le_trans (Nat.le_of_ble_eq_true rfl) hFr, Nat.le_trans (Nat.le_of_ble_eq_true rfl) hLo⟩) rfl dX0_worst_16 rfl) <|
    al (s_istore hx hb dX0_worst_19 rfl (by decide)) <|
    al (s_iload hx hb dX0_worst_21 rfl) <|
    al (s_iload_n hx hb (i := 2) rfl dX0_worst_23 rfl) <|
    al (s_icmp_le hx hb (by decide) dX0_worst_24 rfl) <|
    al (s_iload hx hb dX0_worst_27 rfl) <|
    al (s_istore_n hx hb (i := 2) rfl dX0_worst_29 rfl (by decide)) <|
    al (s_iload_n hx hb (i := 3) rfl dX0_worst_30 rfl) <|
    al (s_istore_n hx hb (i := 1) rfl dX0_worst_31 rfl (by decide)) <|
    al (s_iinc hx hb dX0_worst_32 rfl (by decide)) <|
    al (s_goto hx hb (by decide) dX0_worst_35) <|
    al (s_iload_n hx hb (i := 1) rfl dX0_worst_38 rfl) <|
    al ((fun lv st S h => hE _ lv st S dX0_worst_39 h)) <| an
theorem ct0_worst : CtI 0 ly0 ja0 yX0_worst wsX0_worst rm0_worst X0_worst := mk_I (C := RX0) (strs := xstrs) T0_worst (by decide) rfl rfl rfl rfl (Fr := 2) (Lo := 44) (Nat.le_of_ble_eq_true rfl) (Nat.le_of_ble_eq_true rfl) (fun Q => sn0_worst Q nox)
abbrev rm0_mean : Room := { frames := 2, cells := 0, slots := 0, locals := 45 }
set_option maxRecDepth 20000 in
set_option maxHeartbeats 4000000 in
theorem sn0_mean (Q : UInt64 → ST → Prop) (Qx : String → ST → Prop) : SndT RX0 xstrs 0 ly0 ja0 cX0_mean 2 (some .double) wsX0_mean 2 45 Qx (ED cX0_mean Q) relP (T0_mean Q Qx) := by
  intro p l e R s m args below meth c Qf D cA A AD rel hC hFr hLo hK hA hrel hT hE
  obtain ⟨⟨hx, hb, hml, hown, hts⟩, hlk, hr⟩ := hC
  have hrR := hrel
  exact al (s_bipush hx hb dX0_mean_0 rfl (by decide)) <|
    al (s_aload_n hx hb (i := 0) rfl dX0_mean_2 rfl) <|
    al (s_iconst hx hb dX0_mean_3 rfl) <|
    al (s_calli ⟨hx, hb, hml, hown, hts⟩ hA hK hrR rfl ct0_traysOf (cwV 1 hts gX0_mean_X0_traysOf rfl (rm := rm0_traysOf) rfl rfl (by decide +kernel) ⟨Nat.le_trans (Nat.le_of_ble_eq_true rfl) hFr, Nat.le_trans (Nat.le_of_ble_eq_true rfl) hLo⟩) rfl dX0_mean_4 rfl) <|
    al (s_isub hx hb dX0_mean_7 rfl) <|
    al (s_istore_n hx hb (i := 1) rfl dX0_mean_8 rfl (by decide)) <|
    al (s_iload_n hx hb (i := 1) rfl dX0_mean_9 rfl) <|
    al (s_if_ne hx hb (by decide) dX0_mean_10 rfl) <|
    al (s_dconst0 hx hb dX0_mean_13 rfl) <|
    al ((fun lv st S h => hE _ lv st S dX0_mean_14 h)) <|
    al (s_aload_n hx hb (i := 0) rfl dX0_mean_15 rfl) <|
    al (s_calli ⟨hx, hb, hml, hown, hts⟩ hA hK hrR rfl ct0_thingsThere (cwV 0 hts gX0_mean_X0_thingsThere rfl (rm := rm0_thingsThere) rfl rfl (by decide +kernel) ⟨Nat.le_trans (Nat.le_of_ble_eq_true rfl) hFr, Nat.le_trans (Nat.le_of_ble_eq_true rfl) hLo⟩) rfl dX0_mean_16 rfl) <|
    al (s_i2d hx hb dX0_mean_19 rfl) <|
    al (s_iload_n hx hb (i := 1) rfl dX0_mean_20 rfl) <|
    al (s_i2d hx hb dX0_mean_21 rfl) <|
    al (s_ddiv hx hb dX0_mean_22 rfl) <|
    al ((fun lv st S h => hE _ lv st S dX0_mean_23 h)) <| an
theorem ct0_mean : CtD 0 ly0 ja0 yX0_mean wsX0_mean rm0_mean X0_mean := mk_D (C := RX0) (strs := xstrs) T0_mean (by decide) rfl rfl rfl rfl (Fr := 2) (Lo := 45) (Nat.le_of_ble_eq_true rfl) (Nat.le_of_ble_eq_true rfl) (fun Q => sn0_mean Q nox)
abbrev rm0_digestPlace : Room := { frames := 8, cells := 0, slots := 0, locals := 127 }
abbrev rmx0_digestPlace : Room := { frames := 8, cells := 1, slots := 6, locals := 127 }
set_option maxRecDepth 20000 in
set_option maxHeartbeats 4000000 in
theorem sn0_digestPlace (Q : Int64 → ST → Prop) (Qx : String → ST → Prop) : SndT RX0 xstrs 0 ly0 ja0 cX0_digestPlace 8 (some .long) wsX0_digestPlace 8 127 Qx (EJ cX0_digestPlace Q) relP (T0_digestPlace Q Qx) := by
  intro p l e R s m args below meth c Qf D cA A AD rel hC hFr hLo hK hA hrel hT hE
  obtain ⟨⟨hx, hb, hml, hown, hts⟩, hlk, hr⟩ := hC
  have hrR := hrel
  have hin : ∀ w ∈ u_ws RX0 TX0 16, w ∈ wsX0_digestPlace := by decide +kernel
  have hf9 := hts (.fieldLink RX0 34 "CellTrays" "cellThing" "[I") (by decide +kernel)
  exact al (s_lload_n hx hb (i := 1) rfl dX0_digestPlace_0 rfl) <|
    al (s_lstore hx hb dX0_digestPlace_1 rfl (by decide)) <|
    al (s_iconst hx hb dX0_digestPlace_3 rfl) <|
    al (s_istore hx hb dX0_digestPlace_4 rfl (by decide)) <|
    al (s_iload hx hb dX0_digestPlace_6 rfl) <|
    al (s_iconst hx hb dX0_digestPlace_8 rfl) <|
    al (s_icmp_gt hx hb (by decide) dX0_digestPlace_9 rfl) <|
    al (s_lload hx hb dX0_digestPlace_12 rfl) <|
    al (s_ldc2 hx hb hown (hts (.constantLong RX0 154 31) (by decide +kernel)) dX0_digestPlace_14 rfl) <|
    al (s_lmul hx hb dX0_digestPlace_17 rfl) <|
    al (s_aload_n hx hb (i := 0) rfl dX0_digestPlace_18 rfl) <|
    al (s_iload_n hx hb (i := 3) rfl dX0_digestPlace_19 rfl) <|
    al (s_iload hx hb dX0_digestPlace_20 rfl) <|
    al (s_xcalli ⟨hx, hb, hml, hown, hts⟩ hA hK hrR hT rfl ct0_tray cx0_tray (cwV 2 hts gX0_digestPlace_X0_tray rfl (rm := rm0_tray) rfl rfl (by decide +kernel) ⟨Nat.le_trans (Nat.le_of_ble_eq_true rfl) hFr, Nat.le_trans (Nat.le_of_ble_eq_true rfl) hLo⟩) (cwV 2 hts gX0_digestPlace_X0_tray rfl (rm := rmx0_tray) rfl rfl (by decide +kernel) ⟨Nat.le_trans (Nat.le_of_ble_eq_true rfl) hFr, Nat.le_trans (Nat.le_of_ble_eq_true rfl) hLo⟩) rfl dX0_digestPlace_22 rfl) <|
    al (s_i2l hx hb dX0_digestPlace_25 rfl) <|
    al (s_ladd hx hb dX0_digestPlace_26 rfl) <|
    al (s_lstore hx hb dX0_digestPlace_27 rfl (by decide)) <|
    al (s_iinc hx hb dX0_digestPlace_29 rfl (by decide)) <|
    al (s_goto hx hb (by decide) dX0_digestPlace_32) <|
    al (s_aload_n hx hb (i := 0) rfl dX0_digestPlace_35 rfl) <|
    al (s_iload_n hx hb (i := 3) rfl dX0_digestPlace_36 rfl) <|
    al (s_calli ⟨hx, hb, hml, hown, hts⟩ hA hK hrR rfl ct0_cellsAt (cwV 1 hts gX0_digestPlace_X0_cellsAt rfl (rm := rm0_cellsAt) rfl rfl (by decide +kernel) ⟨Nat.le_trans (Nat.le_of_ble_eq_true rfl) hFr, Nat.le_trans (Nat.le_of_ble_eq_true rfl) hLo⟩) rfl dX0_digestPlace_37 rfl) <|
    al (s_istore hx hb dX0_digestPlace_40 rfl (by decide)) <|
    al (s_iconst hx hb dX0_digestPlace_42 rfl) <|
    al (s_istore hx hb dX0_digestPlace_43 rfl (by decide)) <|
    al (s_iload hx hb dX0_digestPlace_45 rfl) <|
    al (s_iload hx hb dX0_digestPlace_47 rfl) <|
    al (s_icmp_ge hx hb (by decide) dX0_digestPlace_49 rfl) <|
    al (s_lload hx hb dX0_digestPlace_52 rfl) <|
    al (s_ldc2 hx hb hown (hts (.constantLong RX0 154 31) (by decide +kernel)) dX0_digestPlace_54 rfl) <|
    al (s_lmul hx hb dX0_digestPlace_57 rfl) <|
    al (s_aload_n hx hb (i := 0) rfl dX0_digestPlace_58 rfl) <|
    al (s_getA (N := 16) hx hb hts hin hown hK rfl (k := 9) (by decide) hf9 rfl dX0_digestPlace_59 rfl rfl (by decide)) <|
    al (s_iload_n hx hb (i := 3) rfl dX0_digestPlace_62 rfl) <|
    al (s_bipush hx hb dX0_digestPlace_63 rfl (by decide)) <|
    al (s_imul hx hb dX0_digestPlace_65 rfl) <|
    al (s_iload hx hb dX0_digestPlace_66 rfl) <|
    al (s_iadd hx hb dX0_digestPlace_68 rfl) <|
    al (s_iald hx hb hK hln0 dX0_digestPlace_69 rfl) <|
    al (s_i2l hx hb dX0_digestPlace_70 rfl) <|
    al (s_ladd hx hb dX0_digestPlace_71 rfl) <|
    al (s_lstore hx hb dX0_digestPlace_72 rfl (by decide)) <|
    al (s_iinc hx hb dX0_digestPlace_74 rfl (by decide)) <|
    al (s_goto hx hb (by decide) dX0_digestPlace_77) <|
    al (s_lload hx hb dX0_digestPlace_80 rfl) <|
    al ((fun lv st S h => hE _ lv st S dX0_digestPlace_82 h)) <| an
theorem ct0_digestPlace : CtJ 0 ly0 ja0 yX0_digestPlace wsX0_digestPlace rm0_digestPlace X0_digestPlace := mk_J (C := RX0) (strs := xstrs) T0_digestPlace (by decide) rfl rfl rfl rfl (Fr := 8) (Lo := 127) (Nat.le_of_ble_eq_true rfl) (Nat.le_of_ble_eq_true rfl) (fun Q => sn0_digestPlace Q nox)
abbrev rm0_digest : Room := { frames := 9, cells := 0, slots := 0, locals := 154 }
abbrev rmx0_digest : Room := { frames := 9, cells := 1, slots := 6, locals := 154 }
set_option maxRecDepth 20000 in
set_option maxHeartbeats 4000000 in
theorem sn0_digest (Q : Int64 → ST → Prop) (Qx : String → ST → Prop) : SndT RX0 xstrs 0 ly0 ja0 cX0_digest 5 (some .long) wsX0_digest 9 154 Qx (EJ cX0_digest Q) relP (T0_digest Q Qx) := by
  intro p l e R s m args below meth c Qf D cA A AD rel hC hFr hLo hK hA hrel hT hE
  obtain ⟨⟨hx, hb, hml, hown, hts⟩, hlk, hr⟩ := hC
  have hrR := hrel
  have hin : ∀ w ∈ u_ws RX0 TX0 16, w ∈ wsX0_digest := by decide +kernel
  have hf0 := hts (.fieldLink RX0 55 "CellTrays" "kindCount" "I") (by decide +kernel)
  exact al (s_ldc2 hx hb hown (hts (.constantLong RX0 152 1381) (by decide +kernel)) dX0_digest_0 rfl) <|
    al (s_lstore_n hx hb (i := 1) rfl dX0_digest_3 rfl (by decide)) <|
    al (s_iconst hx hb dX0_digest_4 rfl) <|
    al (s_istore_n hx hb (i := 3) rfl dX0_digest_5 rfl (by decide)) <|
    al (s_iload_n hx hb (i := 3) rfl dX0_digest_6 rfl) <|
    al (s_bipush hx hb dX0_digest_7 rfl (by decide)) <|
    al (s_icmp_gt hx hb (by decide) dX0_digest_9 rfl) <|
    al (s_lload_n hx hb (i := 1) rfl dX0_digest_12 rfl) <|
    al (s_ldc2 hx hb hown (hts (.constantLong RX0 154 31) (by decide +kernel)) dX0_digest_13 rfl) <|
    al (s_lmul hx hb dX0_digest_16 rfl) <|
    al (s_aload_n hx hb (i := 0) rfl dX0_digest_17 rfl) <|
    al (s_iload_n hx hb (i := 3) rfl dX0_digest_18 rfl) <|
    al (s_xcalli ⟨hx, hb, hml, hown, hts⟩ hA hK hrR hT rfl ct0_count cx0_count (cwV 1 hts gX0_digest_X0_count rfl (rm := rm0_count) rfl rfl (by decide +kernel) ⟨Nat.le_trans (Nat.le_of_ble_eq_true rfl) hFr, Nat.le_trans (Nat.le_of_ble_eq_true rfl) hLo⟩) (cwV 1 hts gX0_digest_X0_count rfl (rm := rmx0_count) rfl rfl (by decide +kernel) ⟨Nat.le_trans (Nat.le_of_ble_eq_true rfl) hFr, Nat.le_trans (Nat.le_of_ble_eq_true rfl) hLo⟩) rfl dX0_digest_19 rfl) <|
    al (s_i2l hx hb dX0_digest_22 rfl) <|
    al (s_ladd hx hb dX0_digest_23 rfl) <|
    al (s_lstore_n hx hb (i := 1) rfl dX0_digest_24 rfl (by decide)) <|
    al (s_iinc hx hb dX0_digest_25 rfl (by decide)) <|
    al (s_goto hx hb (by decide) dX0_digest_28) <|
    al (s_iconst hx hb dX0_digest_31 rfl) <|
    al (s_istore_n hx hb (i := 3) rfl dX0_digest_32 rfl (by decide)) <|
    al (s_iload_n hx hb (i := 3) rfl dX0_digest_33 rfl) <|
    al (s_aload_n hx hb (i := 0) rfl dX0_digest_34 rfl) <|
    al (s_getI (N := 16) hx hb hts hin hown hK rfl (k := 0) (by decide) hf0 rfl dX0_digest_35 rfl rfl) <|
    al (s_icmp_ge hx hb (by decide) dX0_digest_38 rfl) <|
    al (s_iconst hx hb dX0_digest_41 rfl) <|
    al (s_istore hx hb dX0_digest_42 rfl (by decide)) <|
    al (s_iload hx hb dX0_digest_44 rfl) <|
    al (s_bipush hx hb dX0_digest_46 rfl (by decide)) <|
    al (s_icmp_gt hx hb (by decide) dX0_digest_48 rfl) <|
    al (s_lload_n hx hb (i := 1) rfl dX0_digest_51 rfl) <|
    al (s_ldc2 hx hb hown (hts (.constantLong RX0 154 31) (by decide +kernel)) dX0_digest_52 rfl) <|
    al (s_lmul hx hb dX0_digest_55 rfl) <|
    al (s_aload_n hx hb (i := 0) rfl dX0_digest_56 rfl) <|
    al (s_iload_n hx hb (i := 3) rfl dX0_digest_57 rfl) <|
    al (s_iload hx hb dX0_digest_58 rfl) <|
    al (s_xcalli ⟨hx, hb, hml, hown, hts⟩ hA hK hrR hT rfl ct0_about cx0_about (cwV 2 hts gX0_digest_X0_about rfl (rm := rm0_about) rfl rfl (by decide +kernel) ⟨Nat.le_trans (Nat.le_of_ble_eq_true rfl) hFr, Nat.le_trans (Nat.le_of_ble_eq_true rfl) hLo⟩) (cwV 2 hts gX0_digest_X0_about rfl (rm := rmx0_about) rfl rfl (by decide +kernel) ⟨Nat.le_trans (Nat.le_of_ble_eq_true rfl) hFr, Nat.le_trans (Nat.le_of_ble_eq_true rfl) hLo⟩) rfl dX0_digest_60 rfl) <|
    al (s_i2l hx hb dX0_digest_63 rfl) <|
    al (s_ladd hx hb dX0_digest_64 rfl) <|
    al (s_lstore_n hx hb (i := 1) rfl dX0_digest_65 rfl (by decide)) <|
    al (s_iinc hx hb dX0_digest_66 rfl (by decide)) <|
    al (s_goto hx hb (by decide) dX0_digest_69) <|
    al (s_iinc hx hb dX0_digest_72 rfl (by decide)) <|
    al (s_goto hx hb (by decide) dX0_digest_75) <|
    al (s_iconst hx hb dX0_digest_78 rfl) <|
    al (s_istore_n hx hb (i := 3) rfl dX0_digest_79 rfl (by decide)) <|
    al (s_iload_n hx hb (i := 3) rfl dX0_digest_80 rfl) <|
    al (s_bipush hx hb dX0_digest_81 rfl (by decide)) <|
    al (s_icmp_ge hx hb (by decide) dX0_digest_83 rfl) <|
    al (s_aload_n hx hb (i := 0) rfl dX0_digest_86 rfl) <|
    al (s_lload_n hx hb (i := 1) rfl dX0_digest_87 rfl) <|
    al (s_iload_n hx hb (i := 3) rfl dX0_digest_88 rfl) <|
    al (s_calll ⟨hx, hb, hml, hown, hts⟩ hA hK hrR rfl ct0_digestPlace (cwV 2 hts gX0_digest_X0_digestPlace rfl (rm := rm0_digestPlace) rfl rfl (by decide +kernel) ⟨Nat.le_trans (Nat.le_of_ble_eq_true rfl) hFr, Nat.le_trans (Nat.le_of_ble_eq_true rfl) hLo⟩) rfl dX0_digest_89 rfl) <|
    al (s_lstore_n hx hb (i := 1) rfl dX0_digest_92 rfl (by decide)) <|
    al (s_iinc hx hb dX0_digest_93 rfl (by decide)) <|
    al (s_goto hx hb (by decide) dX0_digest_96) <|
    al (s_lload_n hx hb (i := 1) rfl dX0_digest_99 rfl) <|
    al ((fun lv st S h => hE _ lv st S dX0_digest_100 h)) <| an
theorem ct0_digest : CtJ 0 ly0 ja0 yX0_digest wsX0_digest rm0_digest X0_digest := mk_J (C := RX0) (strs := xstrs) T0_digest (by decide) rfl rfl rfl rfl (Fr := 9) (Lo := 154) (Nat.le_of_ble_eq_true rfl) (Nat.le_of_ble_eq_true rfl) (fun Q => sn0_digest Q nox)
