/-! SOUNDNESS of the reference's tables, contracts -/
abbrev rm1_thrown : Room := { frames := 0, cells := 0, slots := 0, locals := 0 }
set_option maxRecDepth 20000 in
set_option maxHeartbeats 4000000 in
theorem sn1_thrown (Q : Int → ST → Prop) (Qx : String → ST → Prop) : SndT RX1 xstrs 1 ly1 ja1 cX1_thrown 1 (some .int) wsX1_thrown 0 0 Qx (EI cX1_thrown Q) relP (T1_thrown Q Qx) := by
  intro p l e R s m args below meth c Qf D cA A AD rel hC hFr hLo hK hA hrel hT hE
  obtain ⟨⟨hx, hb, hml, hown, hts⟩, hlk, hr⟩ := hC
  have hrR := hrel
  have hin : ∀ w ∈ u_ws RX1 TX1 15, w ∈ wsX1_thrown := by decide +kernel
  have hf0 := hts (.fieldLink RX1 40 "CellTraysModel" "thrown" "I") (by decide +kernel)
  exact al (s_aload_n hx hb (i := 0) rfl dX1_thrown_0 rfl) <|
    al (s_getI (N := 15) hx hb hts hin hown hK rfl (k := 0) (by decide) hf0 rfl dX1_thrown_1 rfl rfl) <|
    al ((fun lv st S h => hE _ lv st S dX1_thrown_4 h)) <| an
theorem ct1_thrown : CtI 1 ly1 ja1 yX1_thrown wsX1_thrown rm1_thrown X1_thrown := mk_I (C := RX1) (strs := xstrs) T1_thrown (by decide) rfl rfl rfl rfl (Fr := 0) (Lo := 0) (Nat.le_of_ble_eq_true rfl) (Nat.le_of_ble_eq_true rfl) (fun Q => sn1_thrown Q nox)
abbrev rm1_no : Room := { frames := 0, cells := 0, slots := 0, locals := 0 }
set_option maxRecDepth 20000 in
set_option maxHeartbeats 4000000 in
theorem sn1_no (Q : Int → ST → Prop) (Qx : String → ST → Prop) : SndT RX1 xstrs 1 ly1 ja1 cX1_no 2 (some .int) wsX1_no 0 0 Qx (EI cX1_no Q) relP (T1_no Q Qx) := by
  intro p l e R s m args below meth c Qf D cA A AD rel hC hFr hLo hK hA hrel hT hE
  obtain ⟨⟨hx, hb, hml, hown, hts⟩, hlk, hr⟩ := hC
  have hrR := hrel
  have hin : ∀ w ∈ u_ws RX1 TX1 15, w ∈ wsX1_no := by decide +kernel
  have hf0 := hts (.fieldLink RX1 40 "CellTraysModel" "thrown" "I") (by decide +kernel)
  exact al (s_aload_n hx hb (i := 0) rfl dX1_no_0 rfl) <|
    al (s_iload_n hx hb (i := 1) rfl dX1_no_1 rfl) <|
    al (s_putI (N := 15) hx hb hts hin hown hK rfl (k := 0) (by decide) hf0 rfl tyX1 tyX1_ok nmX1 rfl (by decide +kernel) dX1_no_2 rfl rfl) <|
    al (s_iconst hx hb dX1_no_5 rfl) <|
    al ((fun lv st S h => hE _ lv st S dX1_no_6 h)) <| an
theorem ct1_no : CtI 1 ly1 ja1 yX1_no wsX1_no rm1_no X1_no := mk_I (C := RX1) (strs := xstrs) T1_no (by decide) rfl rfl rfl rfl (Fr := 0) (Lo := 0) (Nat.le_of_ble_eq_true rfl) (Nat.le_of_ble_eq_true rfl) (fun Q => sn1_no Q nox)
abbrev rm1_isIn : Room := { frames := 0, cells := 0, slots := 0, locals := 0 }
set_option maxRecDepth 20000 in
set_option maxHeartbeats 4000000 in
theorem sn1_isIn (Q : Int → ST → Prop) (Qx : String → ST → Prop) : SndT RX1 xstrs 1 ly1 ja1 cX1_isIn 3 (some .boolean) wsX1_isIn 0 0 Qx (EZ cX1_isIn Q) relP (T1_isIn Q Qx) := by
  intro p l e R s m args below meth c Qf D cA A AD rel hC hFr hLo hK hA hrel hT hE
  obtain ⟨⟨hx, hb, hml, hown, hts⟩, hlk, hr⟩ := hC
  have hrR := hrel
  exact al (s_iload_n hx hb (i := 0) rfl dX1_isIn_0 rfl) <|
    al (s_iload_n hx hb (i := 1) rfl dX1_isIn_1 rfl) <|
    al (s_icmp_lt hx hb (by decide) dX1_isIn_2 rfl) <|
    al (s_iload_n hx hb (i := 0) rfl dX1_isIn_5 rfl) <|
    al (s_iload_n hx hb (i := 2) rfl dX1_isIn_6 rfl) <|
    al (s_icmp_gt hx hb (by decide) dX1_isIn_7 rfl) <|
    al (s_iconst hx hb dX1_isIn_10 rfl) <|
    al (s_goto hx hb (by decide) dX1_isIn_11) <|
    al (s_iconst hx hb dX1_isIn_14 rfl) <|
    al ((fun lv st S h => hE _ lv st S dX1_isIn_15 h)) <| an
theorem ct1_isIn : CtI 1 ly1 ja1 yX1_isIn wsX1_isIn rm1_isIn X1_isIn := mk_Z (C := RX1) (strs := xstrs) T1_isIn (by decide) rfl rfl rfl rfl (Fr := 0) (Lo := 0) (Nat.le_of_ble_eq_true rfl) (Nat.le_of_ble_eq_true rfl) (fun Q => sn1_isIn Q nox)
abbrev rm1_isKind : Room := { frames := 1, cells := 0, slots := 0, locals := 22 }
set_option maxRecDepth 20000 in
set_option maxHeartbeats 4000000 in
theorem sn1_isKind (Q : Int → ST → Prop) (Qx : String → ST → Prop) : SndT RX1 xstrs 1 ly1 ja1 cX1_isKind 2 (some .boolean) wsX1_isKind 1 22 Qx (EZ cX1_isKind Q) relP (T1_isKind Q Qx) := by
  intro p l e R s m args below meth c Qf D cA A AD rel hC hFr hLo hK hA hrel hT hE
  obtain ⟨⟨hx, hb, hml, hown, hts⟩, hlk, hr⟩ := hC
  have hrR := hrel
  have hin : ∀ w ∈ u_ws RX1 TX1 15, w ∈ wsX1_isKind := by decide +kernel
  have hf1 := hts (.fieldLink RX1 44 "CellTraysModel" "kinds" "I") (by decide +kernel)
  exact al (s_iload_n hx hb (i := 1) rfl dX1_isKind_0 rfl) <|
    al (s_iconst hx hb dX1_isKind_1 rfl) <|
    al (s_aload_n hx hb (i := 0) rfl dX1_isKind_2 rfl) <|
    al (s_getI (N := 15) hx hb hts hin hown hK rfl (k := 1) (by decide) hf1 rfl dX1_isKind_3 rfl rfl) <|
    al (s_iconst hx hb dX1_isKind_6 rfl) <|
    al (s_isub hx hb dX1_isKind_7 rfl) <|
    al (s_scalli ⟨hx, hb, hml, hown, hts⟩ hA hK hrR ct1_isIn (cwS 3 hts gX1_isKind_X1_isIn rfl (rm := rm1_isIn) rfl rfl (by decide +kernel) ⟨Nat.le_trans (Nat.le_of_ble_eq_true rfl) hFr, Nat.le_trans (Nat.le_of_ble_eq_true rfl) hLo⟩) dX1_isKind_8 rfl) <|
    al ((fun lv st S h => hE _ lv st S dX1_isKind_11 h)) <| an
theorem ct1_isKind : CtI 1 ly1 ja1 yX1_isKind wsX1_isKind rm1_isKind X1_isKind := mk_Z (C := RX1) (strs := xstrs) T1_isKind (by decide) rfl rfl rfl rfl (Fr := 1) (Lo := 22) (Nat.le_of_ble_eq_true rfl) (Nat.le_of_ble_eq_true rfl) (fun Q => sn1_isKind Q nox)
abbrev rm1_isThing : Room := { frames := 1, cells := 0, slots := 0, locals := 22 }
set_option maxRecDepth 20000 in
set_option maxHeartbeats 4000000 in
theorem sn1_isThing (Q : Int → ST → Prop) (Qx : String → ST → Prop) : SndT RX1 xstrs 1 ly1 ja1 cX1_isThing 2 (some .boolean) wsX1_isThing 1 22 Qx (EZ cX1_isThing Q) relP (T1_isThing Q Qx) := by
  intro p l e R s m args below meth c Qf D cA A AD rel hC hFr hLo hK hA hrel hT hE
  obtain ⟨⟨hx, hb, hml, hown, hts⟩, hlk, hr⟩ := hC
  have hrR := hrel
  have hin : ∀ w ∈ u_ws RX1 TX1 15, w ∈ wsX1_isThing := by decide +kernel
  have hf9 := hts (.fieldLink RX1 51 "CellTraysModel" "things" "I") (by decide +kernel)
  exact al (s_iload_n hx hb (i := 1) rfl dX1_isThing_0 rfl) <|
    al (s_iconst hx hb dX1_isThing_1 rfl) <|
    al (s_aload_n hx hb (i := 0) rfl dX1_isThing_2 rfl) <|
    al (s_getI (N := 15) hx hb hts hin hown hK rfl (k := 9) (by decide) hf9 rfl dX1_isThing_3 rfl rfl) <|
    al (s_iconst hx hb dX1_isThing_6 rfl) <|
    al (s_isub hx hb dX1_isThing_7 rfl) <|
    al (s_scalli ⟨hx, hb, hml, hown, hts⟩ hA hK hrR ct1_isIn (cwS 3 hts gX1_isThing_X1_isIn rfl (rm := rm1_isIn) rfl rfl (by decide +kernel) ⟨Nat.le_trans (Nat.le_of_ble_eq_true rfl) hFr, Nat.le_trans (Nat.le_of_ble_eq_true rfl) hLo⟩) dX1_isThing_8 rfl) <|
    al ((fun lv st S h => hE _ lv st S dX1_isThing_11 h)) <| an
theorem ct1_isThing : CtI 1 ly1 ja1 yX1_isThing wsX1_isThing rm1_isThing X1_isThing := mk_Z (C := RX1) (strs := xstrs) T1_isThing (by decide) rfl rfl rfl rfl (Fr := 1) (Lo := 22) (Nat.le_of_ble_eq_true rfl) (Nat.le_of_ble_eq_true rfl) (fun Q => sn1_isThing Q nox)
abbrev rm1_cells : Room := { frames := 0, cells := 0, slots := 0, locals := 0 }
set_option maxRecDepth 20000 in
set_option maxHeartbeats 4000000 in
theorem sn1_cells (Q : Int → ST → Prop) (Qx : String → ST → Prop) : SndT RX1 xstrs 1 ly1 ja1 cX1_cells 2 (some .int) wsX1_cells 0 0 Qx (EI cX1_cells Q) relP (T1_cells Q Qx) := by
  intro p l e R s m args below meth c Qf D cA A AD rel hC hFr hLo hK hA hrel hT hE
  obtain ⟨⟨hx, hb, hml, hown, hts⟩, hlk, hr⟩ := hC
  have hrR := hrel
  have hin : ∀ w ∈ u_ws RX1 TX1 15, w ∈ wsX1_cells := by decide +kernel
  have hf2 := hts (.fieldLink RX1 9 "CellTraysModel" "size" "[I") (by decide +kernel)
  exact al (s_bipush hx hb dX1_cells_0 rfl (by decide)) <|
    al (s_aload_n hx hb (i := 0) rfl dX1_cells_2 rfl) <|
    al (s_getA (N := 15) hx hb hts hin hown hK rfl (k := 2) (by decide) hf2 rfl dX1_cells_3 rfl rfl (by decide)) <|
    al (s_iload_n hx hb (i := 1) rfl dX1_cells_6 rfl) <|
    al (s_iald hx hb hK hln1 dX1_cells_7 rfl) <|
    al (s_idiv hx hb dX1_cells_8 rfl) <|
    al ((fun lv st S h => hE _ lv st S dX1_cells_9 h)) <| an
theorem ct1_cells : CtI 1 ly1 ja1 yX1_cells wsX1_cells rm1_cells X1_cells := mk_I (C := RX1) (strs := xstrs) T1_cells (by decide) rfl rfl rfl rfl (Fr := 0) (Lo := 0) (Nat.le_of_ble_eq_true rfl) (Nat.le_of_ble_eq_true rfl) (fun Q => sn1_cells Q nox)
abbrev rm1_isEmpty : Room := { frames := 0, cells := 0, slots := 0, locals := 0 }
set_option maxRecDepth 20000 in
set_option maxHeartbeats 4000000 in
theorem sn1_isEmpty (Q : Int → ST → Prop) (Qx : String → ST → Prop) : SndT RX1 xstrs 1 ly1 ja1 cX1_isEmpty 3 (some .boolean) wsX1_isEmpty 0 0 Qx (EZ cX1_isEmpty Q) relP (T1_isEmpty Q Qx) := by
  intro p l e R s m args below meth c Qf D cA A AD rel hC hFr hLo hK hA hrel hT hE
  obtain ⟨⟨hx, hb, hml, hown, hts⟩, hlk, hr⟩ := hC
  have hrR := hrel
  have hin : ∀ w ∈ u_ws RX1 TX1 15, w ∈ wsX1_isEmpty := by decide +kernel
  have hf5 := hts (.fieldLink RX1 19 "CellTraysModel" "of" "[I") (by decide +kernel)
  have hf7 := hts (.fieldLink RX1 25 "CellTraysModel" "many" "[I") (by decide +kernel)
  exact al (s_aload_n hx hb (i := 0) rfl dX1_isEmpty_0 rfl) <|
    al (s_getA (N := 15) hx hb hts hin hown hK rfl (k := 5) (by decide) hf5 rfl dX1_isEmpty_1 rfl rfl (by decide)) <|
    al (s_iload_n hx hb (i := 1) rfl dX1_isEmpty_4 rfl) <|
    al (s_iald hx hb hK hln1 dX1_isEmpty_5 rfl) <|
    al (s_iload_n hx hb (i := 2) rfl dX1_isEmpty_6 rfl) <|
    al (s_icmp_ne hx hb (by decide) dX1_isEmpty_7 rfl) <|
    al (s_aload_n hx hb (i := 0) rfl dX1_isEmpty_10 rfl) <|
    al (s_getA (N := 15) hx hb hts hin hown hK rfl (k := 7) (by decide) hf7 rfl dX1_isEmpty_11 rfl rfl (by decide)) <|
    al (s_iload_n hx hb (i := 1) rfl dX1_isEmpty_14 rfl) <|
    al (s_iald hx hb hK hln1 dX1_isEmpty_15 rfl) <|
    al (s_if_ne hx hb (by decide) dX1_isEmpty_16 rfl) <|
    al (s_iconst hx hb dX1_isEmpty_19 rfl) <|
    al (s_goto hx hb (by decide) dX1_isEmpty_20) <|
    al (s_iconst hx hb dX1_isEmpty_23 rfl) <|
    al ((fun lv st S h => hE _ lv st S dX1_isEmpty_24 h)) <| an
theorem ct1_isEmpty : CtI 1 ly1 ja1 yX1_isEmpty wsX1_isEmpty rm1_isEmpty X1_isEmpty := mk_Z (C := RX1) (strs := xstrs) T1_isEmpty (by decide) rfl rfl rfl rfl (Fr := 0) (Lo := 0) (Nat.le_of_ble_eq_true rfl) (Nat.le_of_ble_eq_true rfl) (fun Q => sn1_isEmpty Q nox)
abbrev rm1_isPartly : Room := { frames := 1, cells := 0, slots := 0, locals := 21 }
set_option maxRecDepth 20000 in
set_option maxHeartbeats 4000000 in
theorem sn1_isPartly (Q : Int → ST → Prop) (Qx : String → ST → Prop) : SndT RX1 xstrs 1 ly1 ja1 cX1_isPartly 3 (some .boolean) wsX1_isPartly 1 21 Qx (EZ cX1_isPartly Q) relP (T1_isPartly Q Qx) := by
  intro p l e R s m args below meth c Qf D cA A AD rel hC hFr hLo hK hA hrel hT hE
  obtain ⟨⟨hx, hb, hml, hown, hts⟩, hlk, hr⟩ := hC
  have hrR := hrel
  have hin : ∀ w ∈ u_ws RX1 TX1 15, w ∈ wsX1_isPartly := by decide +kernel
  have hf5 := hts (.fieldLink RX1 19 "CellTraysModel" "of" "[I") (by decide +kernel)
  have hf7 := hts (.fieldLink RX1 25 "CellTraysModel" "many" "[I") (by decide +kernel)
  exact al (s_aload_n hx hb (i := 0) rfl dX1_isPartly_0 rfl) <|
    al (s_getA (N := 15) hx hb hts hin hown hK rfl (k := 5) (by decide) hf5 rfl dX1_isPartly_1 rfl rfl (by decide)) <|
    al (s_iload_n hx hb (i := 1) rfl dX1_isPartly_4 rfl) <|
    al (s_iald hx hb hK hln1 dX1_isPartly_5 rfl) <|
    al (s_iload_n hx hb (i := 2) rfl dX1_isPartly_6 rfl) <|
    al (s_icmp_ne hx hb (by decide) dX1_isPartly_7 rfl) <|
    al (s_aload_n hx hb (i := 0) rfl dX1_isPartly_10 rfl) <|
    al (s_getA (N := 15) hx hb hts hin hown hK rfl (k := 7) (by decide) hf7 rfl dX1_isPartly_11 rfl rfl (by decide)) <|
    al (s_iload_n hx hb (i := 1) rfl dX1_isPartly_14 rfl) <|
    al (s_iald hx hb hK hln1 dX1_isPartly_15 rfl) <|
    al (s_if_le hx hb (by decide) dX1_isPartly_16 rfl) <|
    al (s_aload_n hx hb (i := 0) rfl dX1_isPartly_19 rfl) <|
    al (s_getA (N := 15) hx hb hts hin hown hK rfl (k := 7) (by decide) hf7 rfl dX1_isPartly_20 rfl rfl (by decide)) <|
    al (s_iload_n hx hb (i := 1) rfl dX1_isPartly_23 rfl) <|
    al (s_iald hx hb hK hln1 dX1_isPartly_24 rfl) <|
    al (s_aload_n hx hb (i := 0) rfl dX1_isPartly_25 rfl) <|
    al (s_iload_n hx hb (i := 2) rfl dX1_isPartly_26 rfl) <|
    al (s_calli ⟨hx, hb, hml, hown, hts⟩ hA hK hrR rfl ct1_cells (cwV 1 hts gX1_isPartly_X1_cells rfl (rm := rm1_cells) rfl rfl (by decide +kernel) ⟨Nat.le_trans (Nat.le_of_ble_eq_true rfl) hFr, Nat.le_trans (Nat.le_of_ble_eq_true rfl) hLo⟩) rfl dX1_isPartly_27 rfl) <|
    al (s_icmp_ge hx hb (by decide) dX1_isPartly_30 rfl) <|
    al (s_iconst hx hb dX1_isPartly_33 rfl) <|
    al (s_goto hx hb (by decide) dX1_isPartly_34) <|
    al (s_iconst hx hb dX1_isPartly_37 rfl) <|
    al ((fun lv st S h => hE _ lv st S dX1_isPartly_38 h)) <| an
theorem ct1_isPartly : CtI 1 ly1 ja1 yX1_isPartly wsX1_isPartly rm1_isPartly X1_isPartly := mk_Z (C := RX1) (strs := xstrs) T1_isPartly (by decide) rfl rfl rfl rfl (Fr := 1) (Lo := 21) (Nat.le_of_ble_eq_true rfl) (Nat.le_of_ble_eq_true rfl) (fun Q => sn1_isPartly Q nox)
abbrev rm1_fullest : Room := { frames := 2, cells := 0, slots := 0, locals := 43 }
set_option maxRecDepth 20000 in
set_option maxHeartbeats 4000000 in
theorem sn1_fullest (Q : Int → ST → Prop) (Qx : String → ST → Prop) : SndT RX1 xstrs 1 ly1 ja1 cX1_fullest 4 (some .int) wsX1_fullest 2 43 Qx (EI cX1_fullest Q) relP (T1_fullest Q Qx) := by
  intro p l e R s m args below meth c Qf D cA A AD rel hC hFr hLo hK hA hrel hT hE
  obtain ⟨⟨hx, hb, hml, hown, hts⟩, hlk, hr⟩ := hC
  have hrR := hrel
  have hin : ∀ w ∈ u_ws RX1 TX1 15, w ∈ wsX1_fullest := by decide +kernel
  have hf7 := hts (.fieldLink RX1 25 "CellTraysModel" "many" "[I") (by decide +kernel)
  exact al (s_iconst hx hb dX1_fullest_0 rfl) <|
    al (s_istore_n hx hb (i := 2) rfl dX1_fullest_1 rfl (by decide)) <|
    al (s_iconst hx hb dX1_fullest_2 rfl) <|
    al (s_istore_n hx hb (i := 3) rfl dX1_fullest_3 rfl (by decide)) <|
    al (s_iload_n hx hb (i := 3) rfl dX1_fullest_4 rfl) <|
    al (s_bipush hx hb dX1_fullest_5 rfl (by decide)) <|
    al (s_icmp_ge hx hb (by decide) dX1_fullest_7 rfl) <|
    al (s_aload_n hx hb (i := 0) rfl dX1_fullest_10 rfl) <|
    al (s_iload_n hx hb (i := 3) rfl dX1_fullest_11 rfl) <|
    al (s_iload_n hx hb (i := 1) rfl dX1_fullest_12 rfl) <|
    al (s_calli ⟨hx, hb, hml, hown, hts⟩ hA hK hrR rfl ct1_isPartly (cwV 2 hts gX1_fullest_X1_isPartly rfl (rm := rm1_isPartly) rfl rfl (by decide +kernel) ⟨Nat.le_trans (Nat.le_of_ble_eq_true rfl) hFr, Nat.le_trans (Nat.le_of_ble_eq_true rfl) hLo⟩) rfl dX1_fullest_13 rfl) <|
    al (s_if_eq hx hb (by decide) dX1_fullest_16 rfl) <|
    al (s_iload_n hx hb (i := 2) rfl dX1_fullest_19 rfl) <|
    al (s_iconst hx hb dX1_fullest_20 rfl) <|
    al (s_icmp_eq hx hb (by decide) dX1_fullest_21 rfl) <|
    al (s_aload_n hx hb (i := 0) rfl dX1_fullest_24 rfl) <|
    al (s_getA (N := 15) hx hb hts hin hown hK rfl (k := 7) (by decide) hf7 rfl dX1_fullest_25 rfl rfl (by decide)) <|
    al (s_iload_n hx hb (i := 3) rfl dX1_fullest_28 rfl) <|
    al (s_iald hx hb hK hln1 dX1_fullest_29 rfl) <|
    al (s_aload_n hx hb (i := 0) rfl dX1_fullest_30 rfl) <|
    al (s_getA (N := 15) hx hb hts hin hown hK rfl (k := 7) (by decide) hf7 rfl dX1_fullest_31 rfl rfl (by decide)) <|
    al (s_iload_n hx hb (i := 2) rfl dX1_fullest_34 rfl) <|
    al (s_iald hx hb hK hln1 dX1_fullest_35 rfl) <|
    al (s_icmp_le hx hb (by decide) dX1_fullest_36 rfl) <|
    al (s_iload_n hx hb (i := 3) rfl dX1_fullest_39 rfl) <|
    al (s_istore_n hx hb (i := 2) rfl dX1_fullest_40 rfl (by decide)) <|
    al (s_iinc hx hb dX1_fullest_41 rfl (by decide)) <|
    al (s_goto hx hb (by decide) dX1_fullest_44) <|
    al (s_iload_n hx hb (i := 2) rfl dX1_fullest_47 rfl) <|
    al ((fun lv st S h => hE _ lv st S dX1_fullest_48 h)) <| an
theorem ct1_fullest : CtI 1 ly1 ja1 yX1_fullest wsX1_fullest rm1_fullest X1_fullest := mk_I (C := RX1) (strs := xstrs) T1_fullest (by decide) rfl rfl rfl rfl (Fr := 2) (Lo := 43) (Nat.le_of_ble_eq_true rfl) (Nat.le_of_ble_eq_true rfl) (fun Q => sn1_fullest Q nox)
abbrev rm1_leanest : Room := { frames := 2, cells := 0, slots := 0, locals := 43 }
set_option maxRecDepth 20000 in
set_option maxHeartbeats 4000000 in
theorem sn1_leanest (Q : Int → ST → Prop) (Qx : String → ST → Prop) : SndT RX1 xstrs 1 ly1 ja1 cX1_leanest 4 (some .int) wsX1_leanest 2 43 Qx (EI cX1_leanest Q) relP (T1_leanest Q Qx) := by
  intro p l e R s m args below meth c Qf D cA A AD rel hC hFr hLo hK hA hrel hT hE
  obtain ⟨⟨hx, hb, hml, hown, hts⟩, hlk, hr⟩ := hC
  have hrR := hrel
  have hin : ∀ w ∈ u_ws RX1 TX1 15, w ∈ wsX1_leanest := by decide +kernel
  have hf7 := hts (.fieldLink RX1 25 "CellTraysModel" "many" "[I") (by decide +kernel)
  exact al (s_iconst hx hb dX1_leanest_0 rfl) <|
    al (s_istore_n hx hb (i := 2) rfl dX1_leanest_1 rfl (by decide)) <|
    al (s_iconst hx hb dX1_leanest_2 rfl) <|
    al (s_istore_n hx hb (i := 3) rfl dX1_leanest_3 rfl (by decide)) <|
    al (s_iload_n hx hb (i := 3) rfl dX1_leanest_4 rfl) <|
    al (s_bipush hx hb dX1_leanest_5 rfl (by decide)) <|
    al (s_icmp_ge hx hb (by decide) dX1_leanest_7 rfl) <|
    al (s_aload_n hx hb (i := 0) rfl dX1_leanest_10 rfl) <|
    al (s_iload_n hx hb (i := 3) rfl dX1_leanest_11 rfl) <|
    al (s_iload_n hx hb (i := 1) rfl dX1_leanest_12 rfl) <|
    al (s_calli ⟨hx, hb, hml, hown, hts⟩ hA hK hrR rfl ct1_isPartly (cwV 2 hts gX1_leanest_X1_isPartly rfl (rm := rm1_isPartly) rfl rfl (by decide +kernel) ⟨Nat.le_trans (Nat.le_of_ble_eq_true rfl) hFr, Nat.le_trans (Nat.le_of_ble_eq_true rfl) hLo⟩) rfl dX1_leanest_13 rfl) <|
    al (s_if_eq hx hb (by decide) dX1_leanest_16 rfl) <|
    al (s_iload_n hx hb (i := 2) rfl dX1_leanest_19 rfl) <|
    al (s_iconst hx hb dX1_leanest_20 rfl) <|
    al (s_icmp_eq hx hb (by decide) dX1_leanest_21 rfl) <|
    al (s_aload_n hx hb (i := 0) rfl dX1_leanest_24 rfl) <|
    al (s_getA (N := 15) hx hb hts hin hown hK rfl (k := 7) (by decide) hf7 rfl dX1_leanest_25 rfl rfl (by decide)) <|
    al (s_iload_n hx hb (i := 3) rfl dX1_leanest_28 rfl) <|
    al (s_iald hx hb hK hln1 dX1_leanest_29 rfl) <|
    al (s_aload_n hx hb (i := 0) rfl dX1_leanest_30 rfl) <|
    al (s_getA (N := 15) hx hb hts hin hown hK rfl (k := 7) (by decide) hf7 rfl dX1_leanest_31 rfl rfl (by decide)) <|
    al (s_iload_n hx hb (i := 2) rfl dX1_leanest_34 rfl) <|
    al (s_iald hx hb hK hln1 dX1_leanest_35 rfl) <|
    al (s_icmp_gt hx hb (by decide) dX1_leanest_36 rfl) <|
    al (s_iload_n hx hb (i := 3) rfl dX1_leanest_39 rfl) <|
    al (s_istore_n hx hb (i := 2) rfl dX1_leanest_40 rfl (by decide)) <|
    al (s_iinc hx hb dX1_leanest_41 rfl (by decide)) <|
    al (s_goto hx hb (by decide) dX1_leanest_44) <|
    al (s_iload_n hx hb (i := 2) rfl dX1_leanest_47 rfl) <|
    al ((fun lv st S h => hE _ lv st S dX1_leanest_48 h)) <| an
theorem ct1_leanest : CtI 1 ly1 ja1 yX1_leanest wsX1_leanest rm1_leanest X1_leanest := mk_I (C := RX1) (strs := xstrs) T1_leanest (by decide) rfl rfl rfl rfl (Fr := 2) (Lo := 43) (Nat.le_of_ble_eq_true rfl) (Nat.le_of_ble_eq_true rfl) (fun Q => sn1_leanest Q nox)
abbrev rm1_firstEmpty : Room := { frames := 1, cells := 0, slots := 0, locals := 22 }
set_option maxRecDepth 20000 in
set_option maxHeartbeats 4000000 in
theorem sn1_firstEmpty (Q : Int → ST → Prop) (Qx : String → ST → Prop) : SndT RX1 xstrs 1 ly1 ja1 cX1_firstEmpty 3 (some .int) wsX1_firstEmpty 1 22 Qx (EI cX1_firstEmpty Q) relP (T1_firstEmpty Q Qx) := by
  intro p l e R s m args below meth c Qf D cA A AD rel hC hFr hLo hK hA hrel hT hE
  obtain ⟨⟨hx, hb, hml, hown, hts⟩, hlk, hr⟩ := hC
  have hrR := hrel
  exact al (s_iconst hx hb dX1_firstEmpty_0 rfl) <|
    al (s_istore_n hx hb (i := 2) rfl dX1_firstEmpty_1 rfl (by decide)) <|
    al (s_iload_n hx hb (i := 2) rfl dX1_firstEmpty_2 rfl) <|
    al (s_bipush hx hb dX1_firstEmpty_3 rfl (by decide)) <|
    al (s_icmp_ge hx hb (by decide) dX1_firstEmpty_5 rfl) <|
    al (s_aload_n hx hb (i := 0) rfl dX1_firstEmpty_8 rfl) <|
    al (s_iload_n hx hb (i := 2) rfl dX1_firstEmpty_9 rfl) <|
    al (s_iload_n hx hb (i := 1) rfl dX1_firstEmpty_10 rfl) <|
    al (s_calli ⟨hx, hb, hml, hown, hts⟩ hA hK hrR rfl ct1_isEmpty (cwV 2 hts gX1_firstEmpty_X1_isEmpty rfl (rm := rm1_isEmpty) rfl rfl (by decide +kernel) ⟨Nat.le_trans (Nat.le_of_ble_eq_true rfl) hFr, Nat.le_trans (Nat.le_of_ble_eq_true rfl) hLo⟩) rfl dX1_firstEmpty_11 rfl) <|
    al (s_if_eq hx hb (by decide) dX1_firstEmpty_14 rfl) <|
    al (s_iload_n hx hb (i := 2) rfl dX1_firstEmpty_17 rfl) <|
    al ((fun lv st S h => hE _ lv st S dX1_firstEmpty_18 h)) <|
    al (s_iinc hx hb dX1_firstEmpty_19 rfl (by decide)) <|
    al (s_goto hx hb (by decide) dX1_firstEmpty_22) <|
    al (s_iconst hx hb dX1_firstEmpty_25 rfl) <|
    al ((fun lv st S h => hE _ lv st S dX1_firstEmpty_26 h)) <| an
theorem ct1_firstEmpty : CtI 1 ly1 ja1 yX1_firstEmpty wsX1_firstEmpty rm1_firstEmpty X1_firstEmpty := mk_I (C := RX1) (strs := xstrs) T1_firstEmpty (by decide) rfl rfl rfl rfl (Fr := 1) (Lo := 22) (Nat.le_of_ble_eq_true rfl) (Nat.le_of_ble_eq_true rfl) (fun Q => sn1_firstEmpty Q nox)
abbrev rm1_firstFree : Room := { frames := 0, cells := 0, slots := 0, locals := 0 }
set_option maxRecDepth 20000 in
set_option maxHeartbeats 4000000 in
theorem sn1_firstFree (Q : Int → ST → Prop) (Qx : String → ST → Prop) : SndT RX1 xstrs 1 ly1 ja1 cX1_firstFree 2 (some .int) wsX1_firstFree 0 0 Qx (EI cX1_firstFree Q) relP (T1_firstFree Q Qx) := by
  intro p l e R s m args below meth c Qf D cA A AD rel hC hFr hLo hK hA hrel hT hE
  obtain ⟨⟨hx, hb, hml, hown, hts⟩, hlk, hr⟩ := hC
  have hrR := hrel
  have hin : ∀ w ∈ u_ws RX1 TX1 15, w ∈ wsX1_firstFree := by decide +kernel
  have hf5 := hts (.fieldLink RX1 19 "CellTraysModel" "of" "[I") (by decide +kernel)
  exact al (s_iconst hx hb dX1_firstFree_0 rfl) <|
    al (s_istore_n hx hb (i := 1) rfl dX1_firstFree_1 rfl (by decide)) <|
    al (s_iload_n hx hb (i := 1) rfl dX1_firstFree_2 rfl) <|
    al (s_bipush hx hb dX1_firstFree_3 rfl (by decide)) <|
    al (s_icmp_ge hx hb (by decide) dX1_firstFree_5 rfl) <|
    al (s_aload_n hx hb (i := 0) rfl dX1_firstFree_8 rfl) <|
    al (s_getA (N := 15) hx hb hts hin hown hK rfl (k := 5) (by decide) hf5 rfl dX1_firstFree_9 rfl rfl (by decide)) <|
    al (s_iload_n hx hb (i := 1) rfl dX1_firstFree_12 rfl) <|
    al (s_iald hx hb hK hln1 dX1_firstFree_13 rfl) <|
    al (s_iconst hx hb dX1_firstFree_14 rfl) <|
    al (s_icmp_ne hx hb (by decide) dX1_firstFree_15 rfl) <|
    al (s_iload_n hx hb (i := 1) rfl dX1_firstFree_18 rfl) <|
    al ((fun lv st S h => hE _ lv st S dX1_firstFree_19 h)) <|
    al (s_iinc hx hb dX1_firstFree_20 rfl (by decide)) <|
    al (s_goto hx hb (by decide) dX1_firstFree_23) <|
    al (s_iconst hx hb dX1_firstFree_26 rfl) <|
    al ((fun lv st S h => hE _ lv st S dX1_firstFree_27 h)) <| an
theorem ct1_firstFree : CtI 1 ly1 ja1 yX1_firstFree wsX1_firstFree rm1_firstFree X1_firstFree := mk_I (C := RX1) (strs := xstrs) T1_firstFree (by decide) rfl rfl rfl rfl (Fr := 0) (Lo := 0) (Nat.le_of_ble_eq_true rfl) (Nat.le_of_ble_eq_true rfl) (fun Q => sn1_firstFree Q nox)
abbrev rm1_goesTo : Room := { frames := 3, cells := 0, slots := 0, locals := 66 }
set_option maxRecDepth 20000 in
set_option maxHeartbeats 4000000 in
theorem sn1_goesTo (Q : Int → ST → Prop) (Qx : String → ST → Prop) : SndT RX1 xstrs 1 ly1 ja1 cX1_goesTo 4 (some .int) wsX1_goesTo 3 66 Qx (EI cX1_goesTo Q) relP (T1_goesTo Q Qx) := by
  intro p l e R s m args below meth c Qf D cA A AD rel hC hFr hLo hK hA hrel hT hE
  obtain ⟨⟨hx, hb, hml, hown, hts⟩, hlk, hr⟩ := hC
  have hrR := hrel
  exact al (s_aload_n hx hb (i := 0) rfl dX1_goesTo_0 rfl) <|
    al (s_iload_n hx hb (i := 1) rfl dX1_goesTo_1 rfl) <|
    al (s_calli ⟨hx, hb, hml, hown, hts⟩ hA hK hrR rfl ct1_fullest (cwV 1 hts gX1_goesTo_X1_fullest rfl (rm := rm1_fullest) rfl rfl (by decide +kernel) ⟨Nat.le_trans (Nat.le_of_ble_eq_true rfl) hFr, Nat.le_trans (Nat.le_of_ble_eq_true rfl) hLo⟩) rfl dX1_goesTo_2 rfl) <|
    al (s_istore_n hx hb (i := 2) rfl dX1_goesTo_5 rfl (by decide)) <|
    al (s_aload_n hx hb (i := 0) rfl dX1_goesTo_6 rfl) <|
    al (s_iload_n hx hb (i := 1) rfl dX1_goesTo_7 rfl) <|
    al (s_calli ⟨hx, hb, hml, hown, hts⟩ hA hK hrR rfl ct1_firstEmpty (cwV 1 hts gX1_goesTo_X1_firstEmpty rfl (rm := rm1_firstEmpty) rfl rfl (by decide +kernel) ⟨Nat.le_trans (Nat.le_of_ble_eq_true rfl) hFr, Nat.le_trans (Nat.le_of_ble_eq_true rfl) hLo⟩) rfl dX1_goesTo_8 rfl) <|
    al (s_istore_n hx hb (i := 3) rfl dX1_goesTo_11 rfl (by decide)) <|
    al (s_iload_n hx hb (i := 2) rfl dX1_goesTo_12 rfl) <|
    al (s_iconst hx hb dX1_goesTo_13 rfl) <|
    al (s_icmp_eq hx hb (by decide) dX1_goesTo_14 rfl) <|
    al (s_iload_n hx hb (i := 2) rfl dX1_goesTo_17 rfl) <|
    al (s_goto hx hb (by decide) dX1_goesTo_18) <|
    al (s_iload_n hx hb (i := 3) rfl dX1_goesTo_21 rfl) <|
    al (s_iconst hx hb dX1_goesTo_22 rfl) <|
    al (s_icmp_eq hx hb (by decide) dX1_goesTo_23 rfl) <|
    al (s_iload_n hx hb (i := 3) rfl dX1_goesTo_26 rfl) <|
    al (s_goto hx hb (by decide) dX1_goesTo_27) <|
    al (s_aload_n hx hb (i := 0) rfl dX1_goesTo_30 rfl) <|
    al (s_calli ⟨hx, hb, hml, hown, hts⟩ hA hK hrR rfl ct1_firstFree (cwV 0 hts gX1_goesTo_X1_firstFree rfl (rm := rm1_firstFree) rfl rfl (by decide +kernel) ⟨Nat.le_trans (Nat.le_of_ble_eq_true rfl) hFr, Nat.le_trans (Nat.le_of_ble_eq_true rfl) hLo⟩) rfl dX1_goesTo_31 rfl) <|
    al ((fun lv st S h => hE _ lv st S dX1_goesTo_34 h)) <| an
theorem ct1_goesTo : CtI 1 ly1 ja1 yX1_goesTo wsX1_goesTo rm1_goesTo X1_goesTo := mk_I (C := RX1) (strs := xstrs) T1_goesTo (by decide) rfl rfl rfl rfl (Fr := 3) (Lo := 66) (Nat.le_of_ble_eq_true rfl) (Nat.le_of_ble_eq_true rfl) (fun Q => sn1_goesTo Q nox)
abbrev rm1_open : Room := { frames := 0, cells := 0, slots := 0, locals := 0 }
set_option maxRecDepth 20000 in
set_option maxHeartbeats 4000000 in
theorem sn1_open (Q : ST → Prop) (Qx : String → ST → Prop) : SndT RX1 xstrs 1 ly1 ja1 cX1_open 4 (none) wsX1_open 0 0 Qx (EV cX1_open Q) relP (T1_open Q Qx) := by
  intro p l e R s m args below meth c Qf D cA A AD rel hC hFr hLo hK hA hrel hT hE
  obtain ⟨⟨hx, hb, hml, hown, hts⟩, hlk, hr⟩ := hC
  have hrR := hrel
  have hin : ∀ w ∈ u_ws RX1 TX1 15, w ∈ wsX1_open := by decide +kernel
  have hf2 := hts (.fieldLink RX1 9 "CellTraysModel" "size" "[I") (by decide +kernel)
  have hf3 := hts (.fieldLink RX1 13 "CellTraysModel" "step" "[I") (by decide +kernel)
  have hf4 := hts (.fieldLink RX1 16 "CellTraysModel" "next" "[I") (by decide +kernel)
  have hf5 := hts (.fieldLink RX1 19 "CellTraysModel" "of" "[I") (by decide +kernel)
  have hf6 := hts (.fieldLink RX1 22 "CellTraysModel" "offset" "[I") (by decide +kernel)
  have hf7 := hts (.fieldLink RX1 25 "CellTraysModel" "many" "[I") (by decide +kernel)
  have hf8 := hts (.fieldLink RX1 28 "CellTraysModel" "inside" "[I") (by decide +kernel)
  exact al (s_aload_n hx hb (i := 0) rfl dX1_open_0 rfl) <|
    al (s_getA (N := 15) hx hb hts hin hown hK rfl (k := 5) (by decide) hf5 rfl dX1_open_1 rfl rfl (by decide)) <|
    al (s_iload_n hx hb (i := 1) rfl dX1_open_4 rfl) <|
    al (s_iload_n hx hb (i := 2) rfl dX1_open_5 rfl) <|
    al (s_iast hx hb hK hln1 hu1 dX1_open_6 rfl) <|
    al (s_aload_n hx hb (i := 0) rfl dX1_open_7 rfl) <|
    al (s_getA (N := 15) hx hb hts hin hown hK rfl (k := 6) (by decide) hf6 rfl dX1_open_8 rfl rfl (by decide)) <|
    al (s_iload_n hx hb (i := 1) rfl dX1_open_11 rfl) <|
    al (s_aload_n hx hb (i := 0) rfl dX1_open_12 rfl) <|
    al (s_getA (N := 15) hx hb hts hin hown hK rfl (k := 4) (by decide) hf4 rfl dX1_open_13 rfl rfl (by decide)) <|
    al (s_iload_n hx hb (i := 2) rfl dX1_open_16 rfl) <|
    al (s_iald hx hb hK hln1 dX1_open_17 rfl) <|
    al (s_iast hx hb hK hln1 hu1 dX1_open_18 rfl) <|
    al (s_aload_n hx hb (i := 0) rfl dX1_open_19 rfl) <|
    al (s_getA (N := 15) hx hb hts hin hown hK rfl (k := 7) (by decide) hf7 rfl dX1_open_20 rfl rfl (by decide)) <|
    al (s_iload_n hx hb (i := 1) rfl dX1_open_23 rfl) <|
    al (s_iconst hx hb dX1_open_24 rfl) <|
    al (s_iast hx hb hK hln1 hu1 dX1_open_25 rfl) <|
    al (s_iconst hx hb dX1_open_26 rfl) <|
    al (s_istore_n hx hb (i := 3) rfl dX1_open_27 rfl (by decide)) <|
    al (s_iload_n hx hb (i := 3) rfl dX1_open_28 rfl) <|
    al (s_bipush hx hb dX1_open_29 rfl (by decide)) <|
    al (s_icmp_ge hx hb (by decide) dX1_open_31 rfl) <|
    al (s_aload_n hx hb (i := 0) rfl dX1_open_34 rfl) <|
    al (s_getA (N := 15) hx hb hts hin hown hK rfl (k := 8) (by decide) hf8 rfl dX1_open_35 rfl rfl (by decide)) <|
    al (s_bipush hx hb dX1_open_38 rfl (by decide)) <|
    al (s_iload_n hx hb (i := 1) rfl dX1_open_40 rfl) <|
    al (s_imul hx hb dX1_open_41 rfl) <|
    al (s_iload_n hx hb (i := 3) rfl dX1_open_42 rfl) <|
    al (s_iadd hx hb dX1_open_43 rfl) <|
    al (s_iconst hx hb dX1_open_44 rfl) <|
    al (s_iast hx hb hK hln1 hu1 dX1_open_45 rfl) <|
    al (s_iinc hx hb dX1_open_46 rfl (by decide)) <|
    al (s_goto hx hb (by decide) dX1_open_49) <|
    al (s_aload_n hx hb (i := 0) rfl dX1_open_52 rfl) <|
    al (s_getA (N := 15) hx hb hts hin hown hK rfl (k := 4) (by decide) hf4 rfl dX1_open_53 rfl rfl (by decide)) <|
    al (s_iload_n hx hb (i := 2) rfl dX1_open_56 rfl) <|
    al (s_dup2 hx hb dX1_open_57 rfl) <|
    al (s_iald hx hb hK hln1 dX1_open_58 rfl) <|
    al (s_aload_n hx hb (i := 0) rfl dX1_open_59 rfl) <|
    al (s_getA (N := 15) hx hb hts hin hown hK rfl (k := 3) (by decide) hf3 rfl dX1_open_60 rfl rfl (by decide)) <|
    al (s_iload_n hx hb (i := 2) rfl dX1_open_63 rfl) <|
    al (s_iald hx hb hK hln1 dX1_open_64 rfl) <|
    al (s_iadd hx hb dX1_open_65 rfl) <|
    al (s_iast hx hb hK hln1 hu1 dX1_open_66 rfl) <|
    al (s_aload_n hx hb (i := 0) rfl dX1_open_67 rfl) <|
    al (s_getA (N := 15) hx hb hts hin hown hK rfl (k := 4) (by decide) hf4 rfl dX1_open_68 rfl rfl (by decide)) <|
    al (s_iload_n hx hb (i := 2) rfl dX1_open_71 rfl) <|
    al (s_iald hx hb hK hln1 dX1_open_72 rfl) <|
    al (s_bipush hx hb dX1_open_73 rfl (by decide)) <|
    al (s_aload_n hx hb (i := 0) rfl dX1_open_75 rfl) <|
    al (s_getA (N := 15) hx hb hts hin hown hK rfl (k := 2) (by decide) hf2 rfl dX1_open_76 rfl rfl (by decide)) <|
    al (s_iload_n hx hb (i := 2) rfl dX1_open_79 rfl) <|
    al (s_iald hx hb hK hln1 dX1_open_80 rfl) <|
    al (s_irem hx hb dX1_open_81 rfl) <|
    al (s_icmp_le hx hb (by decide) dX1_open_82 rfl) <|
    al (s_aload_n hx hb (i := 0) rfl dX1_open_85 rfl) <|
    al (s_getA (N := 15) hx hb hts hin hown hK rfl (k := 4) (by decide) hf4 rfl dX1_open_86 rfl rfl (by decide)) <|
    al (s_iload_n hx hb (i := 2) rfl dX1_open_89 rfl) <|
    al (s_iconst hx hb dX1_open_90 rfl) <|
    al (s_iast hx hb hK hln1 hu1 dX1_open_91 rfl) <|
    al ((fun lv st S h => hE _ lv st S dX1_open_92 h)) <| an
theorem ct1_open : CtV 1 ly1 ja1 yX1_open wsX1_open rm1_open X1_open := mk_V (C := RX1) (strs := xstrs) T1_open (by decide) rfl rfl rfl rfl (Fr := 0) (Lo := 0) (Nat.le_of_ble_eq_true rfl) (Nat.le_of_ble_eq_true rfl) (fun Q => sn1_open Q nox)
abbrev rm1_lay : Room := { frames := 0, cells := 0, slots := 0, locals := 0 }
set_option maxRecDepth 20000 in
set_option maxHeartbeats 4000000 in
theorem sn1_lay (Q : ST → Prop) (Qx : String → ST → Prop) : SndT RX1 xstrs 1 ly1 ja1 cX1_lay 4 (none) wsX1_lay 0 0 Qx (EV cX1_lay Q) relP (T1_lay Q Qx) := by
  intro p l e R s m args below meth c Qf D cA A AD rel hC hFr hLo hK hA hrel hT hE
  obtain ⟨⟨hx, hb, hml, hown, hts⟩, hlk, hr⟩ := hC
  have hrR := hrel
  have hin : ∀ w ∈ u_ws RX1 TX1 15, w ∈ wsX1_lay := by decide +kernel
  have hf7 := hts (.fieldLink RX1 25 "CellTraysModel" "many" "[I") (by decide +kernel)
  have hf8 := hts (.fieldLink RX1 28 "CellTraysModel" "inside" "[I") (by decide +kernel)
  have hf11 := hts (.fieldLink RX1 34 "CellTraysModel" "place" "[I") (by decide +kernel)
  have hf12 := hts (.fieldLink RX1 37 "CellTraysModel" "cell" "[I") (by decide +kernel)
  exact al (s_aload_n hx hb (i := 0) rfl dX1_lay_0 rfl) <|
    al (s_getA (N := 15) hx hb hts hin hown hK rfl (k := 11) (by decide) hf11 rfl dX1_lay_1 rfl rfl (by decide)) <|
    al (s_iload_n hx hb (i := 1) rfl dX1_lay_4 rfl) <|
    al (s_iload_n hx hb (i := 2) rfl dX1_lay_5 rfl) <|
    al (s_iast hx hb hK hln1 hu1 dX1_lay_6 rfl) <|
    al (s_aload_n hx hb (i := 0) rfl dX1_lay_7 rfl) <|
    al (s_getA (N := 15) hx hb hts hin hown hK rfl (k := 12) (by decide) hf12 rfl dX1_lay_8 rfl rfl (by decide)) <|
    al (s_iload_n hx hb (i := 1) rfl dX1_lay_11 rfl) <|
    al (s_iload_n hx hb (i := 3) rfl dX1_lay_12 rfl) <|
    al (s_iast hx hb hK hln1 hu1 dX1_lay_13 rfl) <|
    al (s_aload_n hx hb (i := 0) rfl dX1_lay_14 rfl) <|
    al (s_getA (N := 15) hx hb hts hin hown hK rfl (k := 8) (by decide) hf8 rfl dX1_lay_15 rfl rfl (by decide)) <|
    al (s_bipush hx hb dX1_lay_18 rfl (by decide)) <|
    al (s_iload_n hx hb (i := 2) rfl dX1_lay_20 rfl) <|
    al (s_imul hx hb dX1_lay_21 rfl) <|
    al (s_iload_n hx hb (i := 3) rfl dX1_lay_22 rfl) <|
    al (s_iadd hx hb dX1_lay_23 rfl) <|
    al (s_iload_n hx hb (i := 1) rfl dX1_lay_24 rfl) <|
    al (s_iast hx hb hK hln1 hu1 dX1_lay_25 rfl) <|
    al (s_aload_n hx hb (i := 0) rfl dX1_lay_26 rfl) <|
    al (s_getA (N := 15) hx hb hts hin hown hK rfl (k := 7) (by decide) hf7 rfl dX1_lay_27 rfl rfl (by decide)) <|
    al (s_iload_n hx hb (i := 2) rfl dX1_lay_30 rfl) <|
    al (s_dup2 hx hb dX1_lay_31 rfl) <|
    al (s_iald hx hb hK hln1 dX1_lay_32 rfl) <|
    al (s_iconst hx hb dX1_lay_33 rfl) <|
    al (s_iadd hx hb dX1_lay_34 rfl) <|
    al (s_iast hx hb hK hln1 hu1 dX1_lay_35 rfl) <|
    al ((fun lv st S h => hE _ lv st S dX1_lay_36 h)) <| an
theorem ct1_lay : CtV 1 ly1 ja1 yX1_lay wsX1_lay rm1_lay X1_lay := mk_V (C := RX1) (strs := xstrs) T1_lay (by decide) rfl rfl rfl rfl (Fr := 0) (Lo := 0) (Nat.le_of_ble_eq_true rfl) (Nat.le_of_ble_eq_true rfl) (fun Q => sn1_lay Q nox)
abbrev rm1_lift : Room := { frames := 0, cells := 0, slots := 0, locals := 0 }
set_option maxRecDepth 20000 in
set_option maxHeartbeats 4000000 in
theorem sn1_lift (Q : ST → Prop) (Qx : String → ST → Prop) : SndT RX1 xstrs 1 ly1 ja1 cX1_lift 2 (none) wsX1_lift 0 0 Qx (EV cX1_lift Q) relP (T1_lift Q Qx) := by
  intro p l e R s m args below meth c Qf D cA A AD rel hC hFr hLo hK hA hrel hT hE
  obtain ⟨⟨hx, hb, hml, hown, hts⟩, hlk, hr⟩ := hC
  have hrR := hrel
  have hin : ∀ w ∈ u_ws RX1 TX1 15, w ∈ wsX1_lift := by decide +kernel
  have hf7 := hts (.fieldLink RX1 25 "CellTraysModel" "many" "[I") (by decide +kernel)
  have hf8 := hts (.fieldLink RX1 28 "CellTraysModel" "inside" "[I") (by decide +kernel)
  have hf11 := hts (.fieldLink RX1 34 "CellTraysModel" "place" "[I") (by decide +kernel)
  have hf12 := hts (.fieldLink RX1 37 "CellTraysModel" "cell" "[I") (by decide +kernel)
  exact al (s_aload_n hx hb (i := 0) rfl dX1_lift_0 rfl) <|
    al (s_getA (N := 15) hx hb hts hin hown hK rfl (k := 8) (by decide) hf8 rfl dX1_lift_1 rfl rfl (by decide)) <|
    al (s_bipush hx hb dX1_lift_4 rfl (by decide)) <|
    al (s_aload_n hx hb (i := 0) rfl dX1_lift_6 rfl) <|
    al (s_getA (N := 15) hx hb hts hin hown hK rfl (k := 11) (by decide) hf11 rfl dX1_lift_7 rfl rfl (by decide)) <|
    al (s_iload_n hx hb (i := 1) rfl dX1_lift_10 rfl) <|
    al (s_iald hx hb hK hln1 dX1_lift_11 rfl) <|
    al (s_imul hx hb dX1_lift_12 rfl) <|
    al (s_aload_n hx hb (i := 0) rfl dX1_lift_13 rfl) <|
    al (s_getA (N := 15) hx hb hts hin hown hK rfl (k := 12) (by decide) hf12 rfl dX1_lift_14 rfl rfl (by decide)) <|
    al (s_iload_n hx hb (i := 1) rfl dX1_lift_17 rfl) <|
    al (s_iald hx hb hK hln1 dX1_lift_18 rfl) <|
    al (s_iadd hx hb dX1_lift_19 rfl) <|
    al (s_iconst hx hb dX1_lift_20 rfl) <|
    al (s_iast hx hb hK hln1 hu1 dX1_lift_21 rfl) <|
    al (s_aload_n hx hb (i := 0) rfl dX1_lift_22 rfl) <|
    al (s_getA (N := 15) hx hb hts hin hown hK rfl (k := 7) (by decide) hf7 rfl dX1_lift_23 rfl rfl (by decide)) <|
    al (s_aload_n hx hb (i := 0) rfl dX1_lift_26 rfl) <|
    al (s_getA (N := 15) hx hb hts hin hown hK rfl (k := 11) (by decide) hf11 rfl dX1_lift_27 rfl rfl (by decide)) <|
    al (s_iload_n hx hb (i := 1) rfl dX1_lift_30 rfl) <|
    al (s_iald hx hb hK hln1 dX1_lift_31 rfl) <|
    al (s_dup2 hx hb dX1_lift_32 rfl) <|
    al (s_iald hx hb hK hln1 dX1_lift_33 rfl) <|
    al (s_iconst hx hb dX1_lift_34 rfl) <|
    al (s_isub hx hb dX1_lift_35 rfl) <|
    al (s_iast hx hb hK hln1 hu1 dX1_lift_36 rfl) <|
    al (s_aload_n hx hb (i := 0) rfl dX1_lift_37 rfl) <|
    al (s_getA (N := 15) hx hb hts hin hown hK rfl (k := 11) (by decide) hf11 rfl dX1_lift_38 rfl rfl (by decide)) <|
    al (s_iload_n hx hb (i := 1) rfl dX1_lift_41 rfl) <|
    al (s_iconst hx hb dX1_lift_42 rfl) <|
    al (s_iast hx hb hK hln1 hu1 dX1_lift_43 rfl) <|
    al (s_aload_n hx hb (i := 0) rfl dX1_lift_44 rfl) <|
    al (s_getA (N := 15) hx hb hts hin hown hK rfl (k := 12) (by decide) hf12 rfl dX1_lift_45 rfl rfl (by decide)) <|
    al (s_iload_n hx hb (i := 1) rfl dX1_lift_48 rfl) <|
    al (s_iconst hx hb dX1_lift_49 rfl) <|
    al (s_iast hx hb hK hln1 hu1 dX1_lift_50 rfl) <|
    al ((fun lv st S h => hE _ lv st S dX1_lift_51 h)) <| an
theorem ct1_lift : CtV 1 ly1 ja1 yX1_lift wsX1_lift rm1_lift X1_lift := mk_V (C := RX1) (strs := xstrs) T1_lift (by decide) rfl rfl rfl rfl (Fr := 0) (Lo := 0) (Nat.le_of_ble_eq_true rfl) (Nat.le_of_ble_eq_true rfl) (fun Q => sn1_lift Q nox)
abbrev rm1_freeCell : Room := { frames := 0, cells := 0, slots := 0, locals := 0 }
set_option maxRecDepth 20000 in
set_option maxHeartbeats 4000000 in
theorem sn1_freeCell (Q : Int → ST → Prop) (Qx : String → ST → Prop) : SndT RX1 xstrs 1 ly1 ja1 cX1_freeCell 3 (some .int) wsX1_freeCell 0 0 Qx (EI cX1_freeCell Q) relP (T1_freeCell Q Qx) := by
  intro p l e R s m args below meth c Qf D cA A AD rel hC hFr hLo hK hA hrel hT hE
  obtain ⟨⟨hx, hb, hml, hown, hts⟩, hlk, hr⟩ := hC
  have hrR := hrel
  have hin : ∀ w ∈ u_ws RX1 TX1 15, w ∈ wsX1_freeCell := by decide +kernel
  have hf8 := hts (.fieldLink RX1 28 "CellTraysModel" "inside" "[I") (by decide +kernel)
  exact al (s_iconst hx hb dX1_freeCell_0 rfl) <|
    al (s_istore_n hx hb (i := 2) rfl dX1_freeCell_1 rfl (by decide)) <|
    al (s_aload_n hx hb (i := 0) rfl dX1_freeCell_2 rfl) <|
    al (s_getA (N := 15) hx hb hts hin hown hK rfl (k := 8) (by decide) hf8 rfl dX1_freeCell_3 rfl rfl (by decide)) <|
    al (s_bipush hx hb dX1_freeCell_6 rfl (by decide)) <|
    al (s_iload_n hx hb (i := 1) rfl dX1_freeCell_8 rfl) <|
    al (s_imul hx hb dX1_freeCell_9 rfl) <|
    al (s_iload_n hx hb (i := 2) rfl dX1_freeCell_10 rfl) <|
    al (s_iadd hx hb dX1_freeCell_11 rfl) <|
    al (s_iald hx hb hK hln1 dX1_freeCell_12 rfl) <|
    al (s_iconst hx hb dX1_freeCell_13 rfl) <|
    al (s_icmp_eq hx hb (by decide) dX1_freeCell_14 rfl) <|
    al (s_iinc hx hb dX1_freeCell_17 rfl (by decide)) <|
    al (s_goto hx hb (by decide) dX1_freeCell_20) <|
    al (s_iload_n hx hb (i := 2) rfl dX1_freeCell_23 rfl) <|
    al ((fun lv st S h => hE _ lv st S dX1_freeCell_24 h)) <| an
theorem ct1_freeCell : CtI 1 ly1 ja1 yX1_freeCell wsX1_freeCell rm1_freeCell X1_freeCell := mk_I (C := RX1) (strs := xstrs) T1_freeCell (by decide) rfl rfl rfl rfl (Fr := 0) (Lo := 0) (Nat.le_of_ble_eq_true rfl) (Nat.le_of_ble_eq_true rfl) (fun Q => sn1_freeCell Q nox)
abbrev rm1_lastThing : Room := { frames := 0, cells := 0, slots := 0, locals := 0 }
set_option maxRecDepth 20000 in
set_option maxHeartbeats 4000000 in
theorem sn1_lastThing (Q : Int → ST → Prop) (Qx : String → ST → Prop) : SndT RX1 xstrs 1 ly1 ja1 cX1_lastThing 3 (some .int) wsX1_lastThing 0 0 Qx (EI cX1_lastThing Q) relP (T1_lastThing Q Qx) := by
  intro p l e R s m args below meth c Qf D cA A AD rel hC hFr hLo hK hA hrel hT hE
  obtain ⟨⟨hx, hb, hml, hown, hts⟩, hlk, hr⟩ := hC
  have hrR := hrel
  have hin : ∀ w ∈ u_ws RX1 TX1 15, w ∈ wsX1_lastThing := by decide +kernel
  have hf8 := hts (.fieldLink RX1 28 "CellTraysModel" "inside" "[I") (by decide +kernel)
  exact al (s_bipush hx hb dX1_lastThing_0 rfl (by decide)) <|
    al (s_istore_n hx hb (i := 2) rfl dX1_lastThing_2 rfl (by decide)) <|
    al (s_aload_n hx hb (i := 0) rfl dX1_lastThing_3 rfl) <|
    al (s_getA (N := 15) hx hb hts hin hown hK rfl (k := 8) (by decide) hf8 rfl dX1_lastThing_4 rfl rfl (by decide)) <|
    al (s_bipush hx hb dX1_lastThing_7 rfl (by decide)) <|
    al (s_iload_n hx hb (i := 1) rfl dX1_lastThing_9 rfl) <|
    al (s_imul hx hb dX1_lastThing_10 rfl) <|
    al (s_iload_n hx hb (i := 2) rfl dX1_lastThing_11 rfl) <|
    al (s_iadd hx hb dX1_lastThing_12 rfl) <|
    al (s_iald hx hb hK hln1 dX1_lastThing_13 rfl) <|
    al (s_iconst hx hb dX1_lastThing_14 rfl) <|
    al (s_icmp_ne hx hb (by decide) dX1_lastThing_15 rfl) <|
    al (s_iinc hx hb dX1_lastThing_18 rfl (by decide)) <|
    al (s_goto hx hb (by decide) dX1_lastThing_21) <|
    al (s_aload_n hx hb (i := 0) rfl dX1_lastThing_24 rfl) <|
    al (s_getA (N := 15) hx hb hts hin hown hK rfl (k := 8) (by decide) hf8 rfl dX1_lastThing_25 rfl rfl (by decide)) <|
    al (s_bipush hx hb dX1_lastThing_28 rfl (by decide)) <|
    al (s_iload_n hx hb (i := 1) rfl dX1_lastThing_30 rfl) <|
    al (s_imul hx hb dX1_lastThing_31 rfl) <|
    al (s_iload_n hx hb (i := 2) rfl dX1_lastThing_32 rfl) <|
    al (s_iadd hx hb dX1_lastThing_33 rfl) <|
    al (s_iald hx hb hK hln1 dX1_lastThing_34 rfl) <|
    al ((fun lv st S h => hE _ lv st S dX1_lastThing_35 h)) <| an
theorem ct1_lastThing : CtI 1 ly1 ja1 yX1_lastThing wsX1_lastThing rm1_lastThing X1_lastThing := mk_I (C := RX1) (strs := xstrs) T1_lastThing (by decide) rfl rfl rfl rfl (Fr := 0) (Lo := 0) (Nat.le_of_ble_eq_true rfl) (Nat.le_of_ble_eq_true rfl) (fun Q => sn1_lastThing Q nox)
abbrev rm1_close : Room := { frames := 0, cells := 0, slots := 0, locals := 0 }
set_option maxRecDepth 20000 in
set_option maxHeartbeats 4000000 in
theorem sn1_close (Q : ST → Prop) (Qx : String → ST → Prop) : SndT RX1 xstrs 1 ly1 ja1 cX1_close 2 (none) wsX1_close 0 0 Qx (EV cX1_close Q) relP (T1_close Q Qx) := by
  intro p l e R s m args below meth c Qf D cA A AD rel hC hFr hLo hK hA hrel hT hE
  obtain ⟨⟨hx, hb, hml, hown, hts⟩, hlk, hr⟩ := hC
  have hrR := hrel
  have hin : ∀ w ∈ u_ws RX1 TX1 15, w ∈ wsX1_close := by decide +kernel
  have hf5 := hts (.fieldLink RX1 19 "CellTraysModel" "of" "[I") (by decide +kernel)
  have hf13 := hts (.fieldLink RX1 75 "CellTraysModel" "gone" "I") (by decide +kernel)
  exact al (s_aload_n hx hb (i := 0) rfl dX1_close_0 rfl) <|
    al (s_getA (N := 15) hx hb hts hin hown hK rfl (k := 5) (by decide) hf5 rfl dX1_close_1 rfl rfl (by decide)) <|
    al (s_iload_n hx hb (i := 1) rfl dX1_close_4 rfl) <|
    al (s_iconst hx hb dX1_close_5 rfl) <|
    al (s_iast hx hb hK hln1 hu1 dX1_close_6 rfl) <|
    al (s_aload_n hx hb (i := 0) rfl dX1_close_7 rfl) <|
    al (s_dup hx hb dX1_close_8 rfl) <|
    al (s_getI (N := 15) hx hb hts hin hown hK rfl (k := 13) (by decide) hf13 rfl dX1_close_9 rfl rfl) <|
    al (s_iconst hx hb dX1_close_12 rfl) <|
    al (s_iadd hx hb dX1_close_13 rfl) <|
    al (s_putI (N := 15) hx hb hts hin hown hK rfl (k := 13) (by decide) hf13 rfl tyX1 tyX1_ok nmX1 rfl (by decide +kernel) dX1_close_14 rfl rfl) <|
    al ((fun lv st S h => hE _ lv st S dX1_close_17 h)) <| an
theorem ct1_close : CtV 1 ly1 ja1 yX1_close wsX1_close rm1_close X1_close := mk_V (C := RX1) (strs := xstrs) T1_close (by decide) rfl rfl rfl rfl (Fr := 0) (Lo := 0) (Nat.le_of_ble_eq_true rfl) (Nat.le_of_ble_eq_true rfl) (fun Q => sn1_close Q nox)
abbrev rm1_empties : Room := { frames := 1, cells := 0, slots := 0, locals := 22 }
set_option maxRecDepth 20000 in
set_option maxHeartbeats 4000000 in
theorem sn1_empties (Q : Int → ST → Prop) (Qx : String → ST → Prop) : SndT RX1 xstrs 1 ly1 ja1 cX1_empties 4 (some .int) wsX1_empties 1 22 Qx (EI cX1_empties Q) relP (T1_empties Q Qx) := by
  intro p l e R s m args below meth c Qf D cA A AD rel hC hFr hLo hK hA hrel hT hE
  obtain ⟨⟨hx, hb, hml, hown, hts⟩, hlk, hr⟩ := hC
  have hrR := hrel
  exact al (s_iconst hx hb dX1_empties_0 rfl) <|
    al (s_istore_n hx hb (i := 2) rfl dX1_empties_1 rfl (by decide)) <|
    al (s_iconst hx hb dX1_empties_2 rfl) <|
    al (s_istore_n hx hb (i := 3) rfl dX1_empties_3 rfl (by decide)) <|
    al (s_iload_n hx hb (i := 3) rfl dX1_empties_4 rfl) <|
    al (s_bipush hx hb dX1_empties_5 rfl (by decide)) <|
    al (s_icmp_ge hx hb (by decide) dX1_empties_7 rfl) <|
    al (s_iload_n hx hb (i := 2) rfl dX1_empties_10 rfl) <|
    al (s_aload_n hx hb (i := 0) rfl dX1_empties_11 rfl) <|
    al (s_iload_n hx hb (i := 3) rfl dX1_empties_12 rfl) <|
    al (s_iload_n hx hb (i := 1) rfl dX1_empties_13 rfl) <|
    al (s_calli ⟨hx, hb, hml, hown, hts⟩ hA hK hrR rfl ct1_isEmpty (cwV 2 hts gX1_empties_X1_isEmpty rfl (rm := rm1_isEmpty) rfl rfl (by decide +kernel) ⟨Nat.le_trans (Nat.le_of_ble_eq_true rfl) hFr, Nat.le_trans (Nat.le_of_ble_eq_true rfl) hLo⟩) rfl dX1_empties_14 rfl) <|
    al (s_if_eq hx hb (by decide) dX1_empties_17 rfl) <|
    al (s_iconst hx hb dX1_empties_20 rfl) <|
    al (s_goto hx hb (by decide) dX1_empties_21) <|
    al (s_iconst hx hb dX1_empties_24 rfl) <|
    al (s_iadd hx hb dX1_empties_25 rfl) <|
    al (s_istore_n hx hb (i := 2) rfl dX1_empties_26 rfl (by decide)) <|
    al (s_iinc hx hb dX1_empties_27 rfl (by decide)) <|
    al (s_goto hx hb (by decide) dX1_empties_30) <|
    al (s_iload_n hx hb (i := 2) rfl dX1_empties_33 rfl) <|
    al ((fun lv st S h => hE _ lv st S dX1_empties_34 h)) <| an
theorem ct1_empties : CtI 1 ly1 ja1 yX1_empties wsX1_empties rm1_empties X1_empties := mk_I (C := RX1) (strs := xstrs) T1_empties (by decide) rfl rfl rfl rfl (Fr := 1) (Lo := 22) (Nat.le_of_ble_eq_true rfl) (Nat.le_of_ble_eq_true rfl) (fun Q => sn1_empties Q nox)
abbrev rm1_kind : Room := { frames := 1, cells := 0, slots := 0, locals := 22 }
set_option maxRecDepth 20000 in
set_option maxHeartbeats 4000000 in
theorem sn1_kind (Q : Int → ST → Prop) (Qx : String → ST → Prop) : SndT RX1 xstrs 1 ly1 ja1 cX1_kind 3 (some .int) wsX1_kind 1 22 Qx (EI cX1_kind Q) relP (T1_kind Q Qx) := by
  intro p l e R s m args below meth c Qf D cA A AD rel hC hFr hLo hK hA hrel hT hE
  obtain ⟨⟨hx, hb, hml, hown, hts⟩, hlk, hr⟩ := hC
  have hrR := hrel
  have hin : ∀ w ∈ u_ws RX1 TX1 15, w ∈ wsX1_kind := by decide +kernel
  have hf0 := hts (.fieldLink RX1 40 "CellTraysModel" "thrown" "I") (by decide +kernel)
  have hf1 := hts (.fieldLink RX1 44 "CellTraysModel" "kinds" "I") (by decide +kernel)
  have hf2 := hts (.fieldLink RX1 9 "CellTraysModel" "size" "[I") (by decide +kernel)
  have hf3 := hts (.fieldLink RX1 13 "CellTraysModel" "step" "[I") (by decide +kernel)
  exact al (s_aload_n hx hb (i := 0) rfl dX1_kind_0 rfl) <|
    al (s_iconst hx hb dX1_kind_1 rfl) <|
    al (s_putI (N := 15) hx hb hts hin hown hK rfl (k := 0) (by decide) hf0 rfl tyX1 tyX1_ok nmX1 rfl (by decide +kernel) dX1_kind_2 rfl rfl) <|
    al (s_iload_n hx hb (i := 1) rfl dX1_kind_5 rfl) <|
    al (s_iconst hx hb dX1_kind_6 rfl) <|
    al (s_bipush hx hb dX1_kind_7 rfl (by decide)) <|
    al (s_scalli ⟨hx, hb, hml, hown, hts⟩ hA hK hrR ct1_isIn (cwS 3 hts gX1_kind_X1_isIn rfl (rm := rm1_isIn) rfl rfl (by decide +kernel) ⟨Nat.le_trans (Nat.le_of_ble_eq_true rfl) hFr, Nat.le_trans (Nat.le_of_ble_eq_true rfl) hLo⟩) dX1_kind_9 rfl) <|
    al (s_if_eq hx hb (by decide) dX1_kind_12 rfl) <|
    al (s_iload_n hx hb (i := 2) rfl dX1_kind_15 rfl) <|
    al (s_iconst hx hb dX1_kind_16 rfl) <|
    al (s_bipush hx hb dX1_kind_17 rfl (by decide)) <|
    al (s_scalli ⟨hx, hb, hml, hown, hts⟩ hA hK hrR ct1_isIn (cwS 3 hts gX1_kind_X1_isIn rfl (rm := rm1_isIn) rfl rfl (by decide +kernel) ⟨Nat.le_trans (Nat.le_of_ble_eq_true rfl) hFr, Nat.le_trans (Nat.le_of_ble_eq_true rfl) hLo⟩) dX1_kind_19 rfl) <|
    al (s_if_ne hx hb (by decide) dX1_kind_22 rfl) <|
    al (s_aload_n hx hb (i := 0) rfl dX1_kind_25 rfl) <|
    al (s_iconst hx hb dX1_kind_26 rfl) <|
    al (s_calli ⟨hx, hb, hml, hown, hts⟩ hA hK hrR rfl ct1_no (cwV 1 hts gX1_kind_X1_no rfl (rm := rm1_no) rfl rfl (by decide +kernel) ⟨Nat.le_trans (Nat.le_of_ble_eq_true rfl) hFr, Nat.le_trans (Nat.le_of_ble_eq_true rfl) hLo⟩) rfl dX1_kind_27 rfl) <|
    al ((fun lv st S h => hE _ lv st S dX1_kind_30 h)) <|
    al (s_aload_n hx hb (i := 0) rfl dX1_kind_31 rfl) <|
    al (s_getI (N := 15) hx hb hts hin hown hK rfl (k := 1) (by decide) hf1 rfl dX1_kind_32 rfl rfl) <|
    al (s_bipush hx hb dX1_kind_35 rfl (by decide)) <|
    al (s_icmp_ne hx hb (by decide) dX1_kind_37 rfl) <|
    al (s_aload_n hx hb (i := 0) rfl dX1_kind_40 rfl) <|
    al (s_iconst hx hb dX1_kind_41 rfl) <|
    al (s_calli ⟨hx, hb, hml, hown, hts⟩ hA hK hrR rfl ct1_no (cwV 1 hts gX1_kind_X1_no rfl (rm := rm1_no) rfl rfl (by decide +kernel) ⟨Nat.le_trans (Nat.le_of_ble_eq_true rfl) hFr, Nat.le_trans (Nat.le_of_ble_eq_true rfl) hLo⟩) rfl dX1_kind_42 rfl) <|
    al ((fun lv st S h => hE _ lv st S dX1_kind_45 h)) <|
    al (s_aload_n hx hb (i := 0) rfl dX1_kind_46 rfl) <|
    al (s_getA (N := 15) hx hb hts hin hown hK rfl (k := 2) (by decide) hf2 rfl dX1_kind_47 rfl rfl (by decide)) <|
    al (s_aload_n hx hb (i := 0) rfl dX1_kind_50 rfl) <|
    al (s_getI (N := 15) hx hb hts hin hown hK rfl (k := 1) (by decide) hf1 rfl dX1_kind_51 rfl rfl) <|
    al (s_iload_n hx hb (i := 1) rfl dX1_kind_54 rfl) <|
    al (s_iast hx hb hK hln1 hu1 dX1_kind_55 rfl) <|
    al (s_aload_n hx hb (i := 0) rfl dX1_kind_56 rfl) <|
    al (s_getA (N := 15) hx hb hts hin hown hK rfl (k := 3) (by decide) hf3 rfl dX1_kind_57 rfl rfl (by decide)) <|
    al (s_aload_n hx hb (i := 0) rfl dX1_kind_60 rfl) <|
    al (s_getI (N := 15) hx hb hts hin hown hK rfl (k := 1) (by decide) hf1 rfl dX1_kind_61 rfl rfl) <|
    al (s_iload_n hx hb (i := 2) rfl dX1_kind_64 rfl) <|
    al (s_iast hx hb hK hln1 hu1 dX1_kind_65 rfl) <|
    al (s_aload_n hx hb (i := 0) rfl dX1_kind_66 rfl) <|
    al (s_dup hx hb dX1_kind_67 rfl) <|
    al (s_getI (N := 15) hx hb hts hin hown hK rfl (k := 1) (by decide) hf1 rfl dX1_kind_68 rfl rfl) <|
    al (s_iconst hx hb dX1_kind_71 rfl) <|
    al (s_iadd hx hb dX1_kind_72 rfl) <|
    al (s_putI (N := 15) hx hb hts hin hown hK rfl (k := 1) (by decide) hf1 rfl tyX1 tyX1_ok nmX1 rfl (by decide +kernel) dX1_kind_73 rfl rfl) <|
    al (s_aload_n hx hb (i := 0) rfl dX1_kind_76 rfl) <|
    al (s_getI (N := 15) hx hb hts hin hown hK rfl (k := 1) (by decide) hf1 rfl dX1_kind_77 rfl rfl) <|
    al (s_iconst hx hb dX1_kind_80 rfl) <|
    al (s_isub hx hb dX1_kind_81 rfl) <|
    al ((fun lv st S h => hE _ lv st S dX1_kind_82 h)) <| an
theorem ct1_kind : CtI 1 ly1 ja1 yX1_kind wsX1_kind rm1_kind X1_kind := mk_I (C := RX1) (strs := xstrs) T1_kind (by decide) rfl rfl rfl rfl (Fr := 1) (Lo := 22) (Nat.le_of_ble_eq_true rfl) (Nat.le_of_ble_eq_true rfl) (fun Q => sn1_kind Q nox)
abbrev rm1_put : Room := { frames := 4, cells := 0, slots := 0, locals := 89 }
set_option maxRecDepth 20000 in
set_option maxHeartbeats 4000000 in
theorem sn1_put (Q : Int → ST → Prop) (Qx : String → ST → Prop) : SndT RX1 xstrs 1 ly1 ja1 cX1_put 3 (some .int) wsX1_put 4 89 Qx (EI cX1_put Q) relP (T1_put Q Qx) := by
  intro p l e R s m args below meth c Qf D cA A AD rel hC hFr hLo hK hA hrel hT hE
  obtain ⟨⟨hx, hb, hml, hown, hts⟩, hlk, hr⟩ := hC
  have hrR := hrel
  have hin : ∀ w ∈ u_ws RX1 TX1 15, w ∈ wsX1_put := by decide +kernel
  have hf0 := hts (.fieldLink RX1 40 "CellTraysModel" "thrown" "I") (by decide +kernel)
  have hf5 := hts (.fieldLink RX1 19 "CellTraysModel" "of" "[I") (by decide +kernel)
  have hf9 := hts (.fieldLink RX1 51 "CellTraysModel" "things" "I") (by decide +kernel)
  have hf10 := hts (.fieldLink RX1 31 "CellTraysModel" "kindOf" "[I") (by decide +kernel)
  exact al (s_aload_n hx hb (i := 0) rfl dX1_put_0 rfl) <|
    al (s_iconst hx hb dX1_put_1 rfl) <|
    al (s_putI (N := 15) hx hb hts hin hown hK rfl (k := 0) (by decide) hf0 rfl tyX1 tyX1_ok nmX1 rfl (by decide +kernel) dX1_put_2 rfl rfl) <|
    al (s_aload_n hx hb (i := 0) rfl dX1_put_5 rfl) <|
    al (s_iload_n hx hb (i := 1) rfl dX1_put_6 rfl) <|
    al (s_calli ⟨hx, hb, hml, hown, hts⟩ hA hK hrR rfl ct1_isKind (cwV 1 hts gX1_put_X1_isKind rfl (rm := rm1_isKind) rfl rfl (by decide +kernel) ⟨Nat.le_trans (Nat.le_of_ble_eq_true rfl) hFr, Nat.le_trans (Nat.le_of_ble_eq_true rfl) hLo⟩) rfl dX1_put_7 rfl) <|
    al (s_if_ne hx hb (by decide) dX1_put_10 rfl) <|
    al (s_aload_n hx hb (i := 0) rfl dX1_put_13 rfl) <|
    al (s_iconst hx hb dX1_put_14 rfl) <|
    al (s_calli ⟨hx, hb, hml, hown, hts⟩ hA hK hrR rfl ct1_no (cwV 1 hts gX1_put_X1_no rfl (rm := rm1_no) rfl rfl (by decide +kernel) ⟨Nat.le_trans (Nat.le_of_ble_eq_true rfl) hFr, Nat.le_trans (Nat.le_of_ble_eq_true rfl) hLo⟩) rfl dX1_put_15 rfl) <|
    al ((fun lv st S h => hE _ lv st S dX1_put_18 h)) <|
    al (s_aload_n hx hb (i := 0) rfl dX1_put_19 rfl) <|
    al (s_iload_n hx hb (i := 1) rfl dX1_put_20 rfl) <|
    al (s_calli ⟨hx, hb, hml, hown, hts⟩ hA hK hrR rfl ct1_goesTo (cwV 1 hts gX1_put_X1_goesTo rfl (rm := rm1_goesTo) rfl rfl (by decide +kernel) ⟨Nat.le_trans (Nat.le_of_ble_eq_true rfl) hFr, Nat.le_trans (Nat.le_of_ble_eq_true rfl) hLo⟩) rfl dX1_put_21 rfl) <|
    al (s_istore_n hx hb (i := 2) rfl dX1_put_24 rfl (by decide)) <|
    al (s_aload_n hx hb (i := 0) rfl dX1_put_25 rfl) <|
    al (s_getI (N := 15) hx hb hts hin hown hK rfl (k := 9) (by decide) hf9 rfl dX1_put_26 rfl rfl) <|
    al (s_sipush hx hb dX1_put_29 rfl (by decide)) <|
    al (s_icmp_eq hx hb (by decide) dX1_put_32 rfl) <|
    al (s_iload_n hx hb (i := 2) rfl dX1_put_35 rfl) <|
    al (s_iconst hx hb dX1_put_36 rfl) <|
    al (s_icmp_ne hx hb (by decide) dX1_put_37 rfl) <|
    al (s_aload_n hx hb (i := 0) rfl dX1_put_40 rfl) <|
    al (s_iconst hx hb dX1_put_41 rfl) <|
    al (s_calli ⟨hx, hb, hml, hown, hts⟩ hA hK hrR rfl ct1_no (cwV 1 hts gX1_put_X1_no rfl (rm := rm1_no) rfl rfl (by decide +kernel) ⟨Nat.le_trans (Nat.le_of_ble_eq_true rfl) hFr, Nat.le_trans (Nat.le_of_ble_eq_true rfl) hLo⟩) rfl dX1_put_42 rfl) <|
    al ((fun lv st S h => hE _ lv st S dX1_put_45 h)) <|
    al (s_aload_n hx hb (i := 0) rfl dX1_put_46 rfl) <|
    al (s_getA (N := 15) hx hb hts hin hown hK rfl (k := 5) (by decide) hf5 rfl dX1_put_47 rfl rfl (by decide)) <|
    al (s_iload_n hx hb (i := 2) rfl dX1_put_50 rfl) <|
    al (s_iald hx hb hK hln1 dX1_put_51 rfl) <|
    al (s_iconst hx hb dX1_put_52 rfl) <|
    al (s_icmp_ne hx hb (by decide) dX1_put_53 rfl) <|
    al (s_aload_n hx hb (i := 0) rfl dX1_put_56 rfl) <|
    al (s_iload_n hx hb (i := 2) rfl dX1_put_57 rfl) <|
    al (s_iload_n hx hb (i := 1) rfl dX1_put_58 rfl) <|
    al (s_callv ⟨hx, hb, hml, hown, hts⟩ hA hK hrR rfl ct1_open (cwV 2 hts gX1_put_X1_open rfl (rm := rm1_open) rfl rfl (by decide +kernel) ⟨Nat.le_trans (Nat.le_of_ble_eq_true rfl) hFr, Nat.le_trans (Nat.le_of_ble_eq_true rfl) hLo⟩) rfl dX1_put_59 rfl) <|
    al (s_aload_n hx hb (i := 0) rfl dX1_put_62 rfl) <|
    al (s_getA (N := 15) hx hb hts hin hown hK rfl (k := 10) (by decide) hf10 rfl dX1_put_63 rfl rfl (by decide)) <|
    al (s_aload_n hx hb (i := 0) rfl dX1_put_66 rfl) <|
    al (s_getI (N := 15) hx hb hts hin hown hK rfl (k := 9) (by decide) hf9 rfl dX1_put_67 rfl rfl) <|
    al (s_iload_n hx hb (i := 1) rfl dX1_put_70 rfl) <|
    al (s_iast hx hb hK hln1 hu1 dX1_put_71 rfl) <|
    al (s_aload_n hx hb (i := 0) rfl dX1_put_72 rfl) <|
    al (s_aload_n hx hb (i := 0) rfl dX1_put_73 rfl) <|
    al (s_getI (N := 15) hx hb hts hin hown hK rfl (k := 9) (by decide) hf9 rfl dX1_put_74 rfl rfl) <|
    al (s_iload_n hx hb (i := 2) rfl dX1_put_77 rfl) <|
    al (s_aload_n hx hb (i := 0) rfl dX1_put_78 rfl) <|
    al (s_iload_n hx hb (i := 2) rfl dX1_put_79 rfl) <|
    al (s_calli ⟨hx, hb, hml, hown, hts⟩ hA hK hrR rfl ct1_freeCell (cwV 1 hts gX1_put_X1_freeCell rfl (rm := rm1_freeCell) rfl rfl (by decide +kernel) ⟨Nat.le_trans (Nat.le_of_ble_eq_true rfl) hFr, Nat.le_trans (Nat.le_of_ble_eq_true rfl) hLo⟩) rfl dX1_put_80 rfl) <|
    al (s_callv ⟨hx, hb, hml, hown, hts⟩ hA hK hrR rfl ct1_lay (cwV 3 hts gX1_put_X1_lay rfl (rm := rm1_lay) rfl rfl (by decide +kernel) ⟨Nat.le_trans (Nat.le_of_ble_eq_true rfl) hFr, Nat.le_trans (Nat.le_of_ble_eq_true rfl) hLo⟩) rfl dX1_put_83 rfl) <|
    al (s_aload_n hx hb (i := 0) rfl dX1_put_86 rfl) <|
    al (s_dup hx hb dX1_put_87 rfl) <|
    al (s_getI (N := 15) hx hb hts hin hown hK rfl (k := 9) (by decide) hf9 rfl dX1_put_88 rfl rfl) <|
    al (s_iconst hx hb dX1_put_91 rfl) <|
    al (s_iadd hx hb dX1_put_92 rfl) <|
    al (s_putI (N := 15) hx hb hts hin hown hK rfl (k := 9) (by decide) hf9 rfl tyX1 tyX1_ok nmX1 rfl (by decide +kernel) dX1_put_93 rfl rfl) <|
    al (s_aload_n hx hb (i := 0) rfl dX1_put_96 rfl) <|
    al (s_getI (N := 15) hx hb hts hin hown hK rfl (k := 9) (by decide) hf9 rfl dX1_put_97 rfl rfl) <|
    al (s_iconst hx hb dX1_put_100 rfl) <|
    al (s_isub hx hb dX1_put_101 rfl) <|
    al ((fun lv st S h => hE _ lv st S dX1_put_102 h)) <| an
theorem ct1_put : CtI 1 ly1 ja1 yX1_put wsX1_put rm1_put X1_put := mk_I (C := RX1) (strs := xstrs) T1_put (by decide) rfl rfl rfl rfl (Fr := 4) (Lo := 89) (Nat.le_of_ble_eq_true rfl) (Nat.le_of_ble_eq_true rfl) (fun Q => sn1_put Q nox)
abbrev rm1_take : Room := { frames := 2, cells := 0, slots := 0, locals := 45 }
set_option maxRecDepth 20000 in
set_option maxHeartbeats 4000000 in
theorem sn1_take (Q : Int → ST → Prop) (Qx : String → ST → Prop) : SndT RX1 xstrs 1 ly1 ja1 cX1_take 3 (some .boolean) wsX1_take 2 45 Qx (EZ cX1_take Q) relP (T1_take Q Qx) := by
  intro p l e R s m args below meth c Qf D cA A AD rel hC hFr hLo hK hA hrel hT hE
  obtain ⟨⟨hx, hb, hml, hown, hts⟩, hlk, hr⟩ := hC
  have hrR := hrel
  have hin : ∀ w ∈ u_ws RX1 TX1 15, w ∈ wsX1_take := by decide +kernel
  have hf0 := hts (.fieldLink RX1 40 "CellTraysModel" "thrown" "I") (by decide +kernel)
  have hf5 := hts (.fieldLink RX1 19 "CellTraysModel" "of" "[I") (by decide +kernel)
  have hf7 := hts (.fieldLink RX1 25 "CellTraysModel" "many" "[I") (by decide +kernel)
  have hf11 := hts (.fieldLink RX1 34 "CellTraysModel" "place" "[I") (by decide +kernel)
  exact al (s_aload_n hx hb (i := 0) rfl dX1_take_0 rfl) <|
    al (s_aload_n hx hb (i := 0) rfl dX1_take_1 rfl) <|
    al (s_iload_n hx hb (i := 1) rfl dX1_take_2 rfl) <|
    al (s_calli ⟨hx, hb, hml, hown, hts⟩ hA hK hrR rfl ct1_isThing (cwV 1 hts gX1_take_X1_isThing rfl (rm := rm1_isThing) rfl rfl (by decide +kernel) ⟨Nat.le_trans (Nat.le_of_ble_eq_true rfl) hFr, Nat.le_trans (Nat.le_of_ble_eq_true rfl) hLo⟩) rfl dX1_take_3 rfl) <|
    al (s_if_ne hx hb (by decide) dX1_take_6 rfl) <|
    al (s_iconst hx hb dX1_take_9 rfl) <|
    al (s_goto hx hb (by decide) dX1_take_10) <|
    al (s_aload_n hx hb (i := 0) rfl dX1_take_13 rfl) <|
    al (s_getA (N := 15) hx hb hts hin hown hK rfl (k := 11) (by decide) hf11 rfl dX1_take_14 rfl rfl (by decide)) <|
    al (s_iload_n hx hb (i := 1) rfl dX1_take_17 rfl) <|
    al (s_iald hx hb hK hln1 dX1_take_18 rfl) <|
    al (s_iconst hx hb dX1_take_19 rfl) <|
    al (s_icmp_ne hx hb (by decide) dX1_take_20 rfl) <|
    al (s_iconst hx hb dX1_take_23 rfl) <|
    al (s_goto hx hb (by decide) dX1_take_24) <|
    al (s_iconst hx hb dX1_take_27 rfl) <|
    al (s_putI (N := 15) hx hb hts hin hown hK rfl (k := 0) (by decide) hf0 rfl tyX1 tyX1_ok nmX1 rfl (by decide +kernel) dX1_take_28 rfl rfl) <|
    al (s_aload_n hx hb (i := 0) rfl dX1_take_31 rfl) <|
    al (s_getI (N := 15) hx hb hts hin hown hK rfl (k := 0) (by decide) hf0 rfl dX1_take_32 rfl rfl) <|
    al (s_if_eq hx hb (by decide) dX1_take_35 rfl) <|
    al (s_iconst hx hb dX1_take_38 rfl) <|
    al ((fun lv st S h => hE _ lv st S dX1_take_39 h)) <|
    al (s_aload_n hx hb (i := 0) rfl dX1_take_40 rfl) <|
    al (s_getA (N := 15) hx hb hts hin hown hK rfl (k := 11) (by decide) hf11 rfl dX1_take_41 rfl rfl (by decide)) <|
    al (s_iload_n hx hb (i := 1) rfl dX1_take_44 rfl) <|
    al (s_iald hx hb hK hln1 dX1_take_45 rfl) <|
    al (s_istore_n hx hb (i := 2) rfl dX1_take_46 rfl (by decide)) <|
    al (s_aload_n hx hb (i := 0) rfl dX1_take_47 rfl) <|
    al (s_iload_n hx hb (i := 1) rfl dX1_take_48 rfl) <|
    al (s_callv ⟨hx, hb, hml, hown, hts⟩ hA hK hrR rfl ct1_lift (cwV 1 hts gX1_take_X1_lift rfl (rm := rm1_lift) rfl rfl (by decide +kernel) ⟨Nat.le_trans (Nat.le_of_ble_eq_true rfl) hFr, Nat.le_trans (Nat.le_of_ble_eq_true rfl) hLo⟩) rfl dX1_take_49 rfl) <|
    al (s_aload_n hx hb (i := 0) rfl dX1_take_52 rfl) <|
    al (s_getA (N := 15) hx hb hts hin hown hK rfl (k := 7) (by decide) hf7 rfl dX1_take_53 rfl rfl (by decide)) <|
    al (s_iload_n hx hb (i := 2) rfl dX1_take_56 rfl) <|
    al (s_iald hx hb hK hln1 dX1_take_57 rfl) <|
    al (s_if_gt hx hb (by decide) dX1_take_58 rfl) <|
    al (s_aload_n hx hb (i := 0) rfl dX1_take_61 rfl) <|
    al (s_aload_n hx hb (i := 0) rfl dX1_take_62 rfl) <|
    al (s_getA (N := 15) hx hb hts hin hown hK rfl (k := 5) (by decide) hf5 rfl dX1_take_63 rfl rfl (by decide)) <|
    al (s_iload_n hx hb (i := 2) rfl dX1_take_66 rfl) <|
    al (s_iald hx hb hK hln1 dX1_take_67 rfl) <|
    al (s_calli ⟨hx, hb, hml, hown, hts⟩ hA hK hrR rfl ct1_empties (cwV 1 hts gX1_take_X1_empties rfl (rm := rm1_empties) rfl rfl (by decide +kernel) ⟨Nat.le_trans (Nat.le_of_ble_eq_true rfl) hFr, Nat.le_trans (Nat.le_of_ble_eq_true rfl) hLo⟩) rfl dX1_take_68 rfl) <|
    al (s_iconst hx hb dX1_take_71 rfl) <|
    al (s_icmp_ge hx hb (by decide) dX1_take_72 rfl) <|
    al (s_iconst hx hb dX1_take_75 rfl) <|
    al ((fun lv st S h => hE _ lv st S dX1_take_76 h)) <|
    al (s_aload_n hx hb (i := 0) rfl dX1_take_77 rfl) <|
    al (s_iload_n hx hb (i := 2) rfl dX1_take_78 rfl) <|
    al (s_callv ⟨hx, hb, hml, hown, hts⟩ hA hK hrR rfl ct1_close (cwV 1 hts gX1_take_X1_close rfl (rm := rm1_close) rfl rfl (by decide +kernel) ⟨Nat.le_trans (Nat.le_of_ble_eq_true rfl) hFr, Nat.le_trans (Nat.le_of_ble_eq_true rfl) hLo⟩) rfl dX1_take_79 rfl) <|
    al (s_iconst hx hb dX1_take_82 rfl) <|
    al ((fun lv st S h => hE _ lv st S dX1_take_83 h)) <| an
theorem ct1_take : CtI 1 ly1 ja1 yX1_take wsX1_take rm1_take X1_take := mk_Z (C := RX1) (strs := xstrs) T1_take (by decide) rfl rfl rfl rfl (Fr := 2) (Lo := 45) (Nat.le_of_ble_eq_true rfl) (Nat.le_of_ble_eq_true rfl) (fun Q => sn1_take Q nox)
abbrev rm1_sweep : Room := { frames := 1, cells := 0, slots := 0, locals := 21 }
set_option maxRecDepth 20000 in
set_option maxHeartbeats 4000000 in
theorem sn1_sweep (Q : Int → ST → Prop) (Qx : String → ST → Prop) : SndT RX1 xstrs 1 ly1 ja1 cX1_sweep 3 (some .int) wsX1_sweep 1 21 Qx (EI cX1_sweep Q) relP (T1_sweep Q Qx) := by
  intro p l e R s m args below meth c Qf D cA A AD rel hC hFr hLo hK hA hrel hT hE
  obtain ⟨⟨hx, hb, hml, hown, hts⟩, hlk, hr⟩ := hC
  have hrR := hrel
  have hin : ∀ w ∈ u_ws RX1 TX1 15, w ∈ wsX1_sweep := by decide +kernel
  have hf0 := hts (.fieldLink RX1 40 "CellTraysModel" "thrown" "I") (by decide +kernel)
  have hf5 := hts (.fieldLink RX1 19 "CellTraysModel" "of" "[I") (by decide +kernel)
  have hf7 := hts (.fieldLink RX1 25 "CellTraysModel" "many" "[I") (by decide +kernel)
  have hf13 := hts (.fieldLink RX1 75 "CellTraysModel" "gone" "I") (by decide +kernel)
  exact al (s_aload_n hx hb (i := 0) rfl dX1_sweep_0 rfl) <|
    al (s_iconst hx hb dX1_sweep_1 rfl) <|
    al (s_putI (N := 15) hx hb hts hin hown hK rfl (k := 0) (by decide) hf0 rfl tyX1 tyX1_ok nmX1 rfl (by decide +kernel) dX1_sweep_2 rfl rfl) <|
    al (s_aload_n hx hb (i := 0) rfl dX1_sweep_5 rfl) <|
    al (s_getI (N := 15) hx hb hts hin hown hK rfl (k := 13) (by decide) hf13 rfl dX1_sweep_6 rfl rfl) <|
    al (s_istore_n hx hb (i := 1) rfl dX1_sweep_9 rfl (by decide)) <|
    al (s_iconst hx hb dX1_sweep_10 rfl) <|
    al (s_istore_n hx hb (i := 2) rfl dX1_sweep_11 rfl (by decide)) <|
    al (s_iload_n hx hb (i := 2) rfl dX1_sweep_12 rfl) <|
    al (s_bipush hx hb dX1_sweep_13 rfl (by decide)) <|
    al (s_icmp_ge hx hb (by decide) dX1_sweep_15 rfl) <|
    al (s_aload_n hx hb (i := 0) rfl dX1_sweep_18 rfl) <|
    al (s_getA (N := 15) hx hb hts hin hown hK rfl (k := 5) (by decide) hf5 rfl dX1_sweep_19 rfl rfl (by decide)) <|
    al (s_iload_n hx hb (i := 2) rfl dX1_sweep_22 rfl) <|
    al (s_iald hx hb hK hln1 dX1_sweep_23 rfl) <|
    al (s_iconst hx hb dX1_sweep_24 rfl) <|
    al (s_icmp_eq hx hb (by decide) dX1_sweep_25 rfl) <|
    al (s_aload_n hx hb (i := 0) rfl dX1_sweep_28 rfl) <|
    al (s_getA (N := 15) hx hb hts hin hown hK rfl (k := 7) (by decide) hf7 rfl dX1_sweep_29 rfl rfl (by decide)) <|
    al (s_iload_n hx hb (i := 2) rfl dX1_sweep_32 rfl) <|
    al (s_iald hx hb hK hln1 dX1_sweep_33 rfl) <|
    al (s_if_ne hx hb (by decide) dX1_sweep_34 rfl) <|
    al (s_aload_n hx hb (i := 0) rfl dX1_sweep_37 rfl) <|
    al (s_iload_n hx hb (i := 2) rfl dX1_sweep_38 rfl) <|
    al (s_callv ⟨hx, hb, hml, hown, hts⟩ hA hK hrR rfl ct1_close (cwV 1 hts gX1_sweep_X1_close rfl (rm := rm1_close) rfl rfl (by decide +kernel) ⟨Nat.le_trans (Nat.le_of_ble_eq_true rfl) hFr, Nat.le_trans (Nat.le_of_ble_eq_true rfl) hLo⟩) rfl dX1_sweep_39 rfl) <|
    al (s_iinc hx hb dX1_sweep_42 rfl (by decide)) <|
    al (s_goto hx hb (by decide) dX1_sweep_45) <|
    al (s_aload_n hx hb (i := 0) rfl dX1_sweep_48 rfl) <|
    al (s_getI (N := 15) hx hb hts hin hown hK rfl (k := 13) (by decide) hf13 rfl dX1_sweep_49 rfl rfl) <|
    al (s_iload_n hx hb (i := 1) rfl dX1_sweep_52 rfl) <|
    al (s_isub hx hb dX1_sweep_53 rfl) <|
    al ((fun lv st S h => hE _ lv st S dX1_sweep_54 h)) <| an
theorem ct1_sweep : CtI 1 ly1 ja1 yX1_sweep wsX1_sweep rm1_sweep X1_sweep := mk_I (C := RX1) (strs := xstrs) T1_sweep (by decide) rfl rfl rfl rfl (Fr := 1) (Lo := 21) (Nat.le_of_ble_eq_true rfl) (Nat.le_of_ble_eq_true rfl) (fun Q => sn1_sweep Q nox)
abbrev rm1_pack : Room := { frames := 3, cells := 0, slots := 0, locals := 66 }
set_option maxRecDepth 20000 in
set_option maxHeartbeats 4000000 in
theorem sn1_pack (Q : Int → ST → Prop) (Qx : String → ST → Prop) : SndT RX1 xstrs 1 ly1 ja1 cX1_pack 5 (some .int) wsX1_pack 3 66 Qx (EI cX1_pack Q) relP (T1_pack Q Qx) := by
  intro p l e R s m args below meth c Qf D cA A AD rel hC hFr hLo hK hA hrel hT hE
  obtain ⟨⟨hx, hb, hml, hown, hts⟩, hlk, hr⟩ := hC
  have hrR := hrel
  have hin : ∀ w ∈ u_ws RX1 TX1 15, w ∈ wsX1_pack := by decide +kernel
  have hf0 := hts (.fieldLink RX1 40 "CellTraysModel" "thrown" "I") (by decide +kernel)
  have hf14 := hts (.fieldLink RX1 112 "CellTraysModel" "moved" "I") (by decide +kernel)
  exact al (s_aload_n hx hb (i := 0) rfl dX1_pack_0 rfl) <|
    al (s_iconst hx hb dX1_pack_1 rfl) <|
    al (s_putI (N := 15) hx hb hts hin hown hK rfl (k := 0) (by decide) hf0 rfl tyX1 tyX1_ok nmX1 rfl (by decide +kernel) dX1_pack_2 rfl rfl) <|
    al (s_aload_n hx hb (i := 0) rfl dX1_pack_5 rfl) <|
    al (s_iload_n hx hb (i := 1) rfl dX1_pack_6 rfl) <|
    al (s_calli ⟨hx, hb, hml, hown, hts⟩ hA hK hrR rfl ct1_isKind (cwV 1 hts gX1_pack_X1_isKind rfl (rm := rm1_isKind) rfl rfl (by decide +kernel) ⟨Nat.le_trans (Nat.le_of_ble_eq_true rfl) hFr, Nat.le_trans (Nat.le_of_ble_eq_true rfl) hLo⟩) rfl dX1_pack_7 rfl) <|
    al (s_if_ne hx hb (by decide) dX1_pack_10 rfl) <|
    al (s_aload_n hx hb (i := 0) rfl dX1_pack_13 rfl) <|
    al (s_iconst hx hb dX1_pack_14 rfl) <|
    al (s_calli ⟨hx, hb, hml, hown, hts⟩ hA hK hrR rfl ct1_no (cwV 1 hts gX1_pack_X1_no rfl (rm := rm1_no) rfl rfl (by decide +kernel) ⟨Nat.le_trans (Nat.le_of_ble_eq_true rfl) hFr, Nat.le_trans (Nat.le_of_ble_eq_true rfl) hLo⟩) rfl dX1_pack_15 rfl) <|
    al ((fun lv st S h => hE _ lv st S dX1_pack_18 h)) <|
    al (s_aload_n hx hb (i := 0) rfl dX1_pack_19 rfl) <|
    al (s_getI (N := 15) hx hb hts hin hown hK rfl (k := 14) (by decide) hf14 rfl dX1_pack_20 rfl rfl) <|
    al (s_istore_n hx hb (i := 2) rfl dX1_pack_23 rfl (by decide)) <|
    al (s_aload_n hx hb (i := 0) rfl dX1_pack_24 rfl) <|
    al (s_iload_n hx hb (i := 1) rfl dX1_pack_25 rfl) <|
    al (s_calli ⟨hx, hb, hml, hown, hts⟩ hA hK hrR rfl ct1_fullest (cwV 1 hts gX1_pack_X1_fullest rfl (rm := rm1_fullest) rfl rfl (by decide +kernel) ⟨Nat.le_trans (Nat.le_of_ble_eq_true rfl) hFr, Nat.le_trans (Nat.le_of_ble_eq_true rfl) hLo⟩) rfl dX1_pack_26 rfl) <|
    al (s_aload_n hx hb (i := 0) rfl dX1_pack_29 rfl) <|
    al (s_iload_n hx hb (i := 1) rfl dX1_pack_30 rfl) <|
    al (s_calli ⟨hx, hb, hml, hown, hts⟩ hA hK hrR rfl ct1_leanest (cwV 1 hts gX1_pack_X1_leanest rfl (rm := rm1_leanest) rfl rfl (by decide +kernel) ⟨Nat.le_trans (Nat.le_of_ble_eq_true rfl) hFr, Nat.le_trans (Nat.le_of_ble_eq_true rfl) hLo⟩) rfl dX1_pack_31 rfl) <|
    al (s_icmp_eq hx hb (by decide) dX1_pack_34 rfl) <|
    al (s_aload_n hx hb (i := 0) rfl dX1_pack_37 rfl) <|
    al (s_iload_n hx hb (i := 1) rfl dX1_pack_38 rfl) <|
    al (s_calli ⟨hx, hb, hml, hown, hts⟩ hA hK hrR rfl ct1_fullest (cwV 1 hts gX1_pack_X1_fullest rfl (rm := rm1_fullest) rfl rfl (by decide +kernel) ⟨Nat.le_trans (Nat.le_of_ble_eq_true rfl) hFr, Nat.le_trans (Nat.le_of_ble_eq_true rfl) hLo⟩) rfl dX1_pack_39 rfl) <|
    al (s_istore_n hx hb (i := 3) rfl dX1_pack_42 rfl (by decide)) <|
    al (s_aload_n hx hb (i := 0) rfl dX1_pack_43 rfl) <|
    al (s_aload_n hx hb (i := 0) rfl dX1_pack_44 rfl) <|
    al (s_iload_n hx hb (i := 1) rfl dX1_pack_45 rfl) <|
    al (s_calli ⟨hx, hb, hml, hown, hts⟩ hA hK hrR rfl ct1_leanest (cwV 1 hts gX1_pack_X1_leanest rfl (rm := rm1_leanest) rfl rfl (by decide +kernel) ⟨Nat.le_trans (Nat.le_of_ble_eq_true rfl) hFr, Nat.le_trans (Nat.le_of_ble_eq_true rfl) hLo⟩) rfl dX1_pack_46 rfl) <|
    al (s_calli ⟨hx, hb, hml, hown, hts⟩ hA hK hrR rfl ct1_lastThing (cwV 1 hts gX1_pack_X1_lastThing rfl (rm := rm1_lastThing) rfl rfl (by decide +kernel) ⟨Nat.le_trans (Nat.le_of_ble_eq_true rfl) hFr, Nat.le_trans (Nat.le_of_ble_eq_true rfl) hLo⟩) rfl dX1_pack_49 rfl) <|
    al (s_istore hx hb dX1_pack_52 rfl (by decide)) <|
    al (s_aload_n hx hb (i := 0) rfl dX1_pack_54 rfl) <|
    al (s_iload hx hb dX1_pack_55 rfl) <|
    al (s_callv ⟨hx, hb, hml, hown, hts⟩ hA hK hrR rfl ct1_lift (cwV 1 hts gX1_pack_X1_lift rfl (rm := rm1_lift) rfl rfl (by decide +kernel) ⟨Nat.le_trans (Nat.le_of_ble_eq_true rfl) hFr, Nat.le_trans (Nat.le_of_ble_eq_true rfl) hLo⟩) rfl dX1_pack_57 rfl) <|
    al (s_aload_n hx hb (i := 0) rfl dX1_pack_60 rfl) <|
    al (s_iload hx hb dX1_pack_61 rfl) <|
    al (s_iload_n hx hb (i := 3) rfl dX1_pack_63 rfl) <|
    al (s_aload_n hx hb (i := 0) rfl dX1_pack_64 rfl) <|
    al (s_iload_n hx hb (i := 3) rfl dX1_pack_65 rfl) <|
    al (s_calli ⟨hx, hb, hml, hown, hts⟩ hA hK hrR rfl ct1_freeCell (cwV 1 hts gX1_pack_X1_freeCell rfl (rm := rm1_freeCell) rfl rfl (by decide +kernel) ⟨Nat.le_trans (Nat.le_of_ble_eq_true rfl) hFr, Nat.le_trans (Nat.le_of_ble_eq_true rfl) hLo⟩) rfl dX1_pack_66 rfl) <|
    al (s_callv ⟨hx, hb, hml, hown, hts⟩ hA hK hrR rfl ct1_lay (cwV 3 hts gX1_pack_X1_lay rfl (rm := rm1_lay) rfl rfl (by decide +kernel) ⟨Nat.le_trans (Nat.le_of_ble_eq_true rfl) hFr, Nat.le_trans (Nat.le_of_ble_eq_true rfl) hLo⟩) rfl dX1_pack_69 rfl) <|
    al (s_aload_n hx hb (i := 0) rfl dX1_pack_72 rfl) <|
    al (s_dup hx hb dX1_pack_73 rfl) <|
    al (s_getI (N := 15) hx hb hts hin hown hK rfl (k := 14) (by decide) hf14 rfl dX1_pack_74 rfl rfl) <|
    al (s_iconst hx hb dX1_pack_77 rfl) <|
    al (s_iadd hx hb dX1_pack_78 rfl) <|
    al (s_putI (N := 15) hx hb hts hin hown hK rfl (k := 14) (by decide) hf14 rfl tyX1 tyX1_ok nmX1 rfl (by decide +kernel) dX1_pack_79 rfl rfl) <|
    al (s_goto hx hb (by decide) dX1_pack_82) <|
    al (s_aload_n hx hb (i := 0) rfl dX1_pack_85 rfl) <|
    al (s_getI (N := 15) hx hb hts hin hown hK rfl (k := 14) (by decide) hf14 rfl dX1_pack_86 rfl rfl) <|
    al (s_iload_n hx hb (i := 2) rfl dX1_pack_89 rfl) <|
    al (s_isub hx hb dX1_pack_90 rfl) <|
    al ((fun lv st S h => hE _ lv st S dX1_pack_91 h)) <| an
theorem ct1_pack : CtI 1 ly1 ja1 yX1_pack wsX1_pack rm1_pack X1_pack := mk_I (C := RX1) (strs := xstrs) T1_pack (by decide) rfl rfl rfl rfl (Fr := 3) (Lo := 66) (Nat.le_of_ble_eq_true rfl) (Nat.le_of_ble_eq_true rfl) (fun Q => sn1_pack Q nox)
abbrev rm1_thingTold : Room := { frames := 0, cells := 0, slots := 0, locals := 0 }
set_option maxRecDepth 20000 in
set_option maxHeartbeats 4000000 in
theorem sn1_thingTold (Q : Int → ST → Prop) (Qx : String → ST → Prop) : SndT RX1 xstrs 1 ly1 ja1 cX1_thingTold 4 (some .int) wsX1_thingTold 0 0 Qx (EI cX1_thingTold Q) relP (T1_thingTold Q Qx) := by
  intro p l e R s m args below meth c Qf D cA A AD rel hC hFr hLo hK hA hrel hT hE
  obtain ⟨⟨hx, hb, hml, hown, hts⟩, hlk, hr⟩ := hC
  have hrR := hrel
  have hin : ∀ w ∈ u_ws RX1 TX1 15, w ∈ wsX1_thingTold := by decide +kernel
  have hf2 := hts (.fieldLink RX1 9 "CellTraysModel" "size" "[I") (by decide +kernel)
  have hf6 := hts (.fieldLink RX1 22 "CellTraysModel" "offset" "[I") (by decide +kernel)
  have hf10 := hts (.fieldLink RX1 31 "CellTraysModel" "kindOf" "[I") (by decide +kernel)
  have hf11 := hts (.fieldLink RX1 34 "CellTraysModel" "place" "[I") (by decide +kernel)
  have hf12 := hts (.fieldLink RX1 37 "CellTraysModel" "cell" "[I") (by decide +kernel)
  exact al (s_iload_n hx hb (i := 2) rfl dX1_thingTold_0 rfl) <|
    al (s_if_ne hx hb (by decide) dX1_thingTold_1 rfl) <|
    al (s_aload_n hx hb (i := 0) rfl dX1_thingTold_4 rfl) <|
    al (s_getA (N := 15) hx hb hts hin hown hK rfl (k := 10) (by decide) hf10 rfl dX1_thingTold_5 rfl rfl (by decide)) <|
    al (s_iload_n hx hb (i := 1) rfl dX1_thingTold_8 rfl) <|
    al (s_iald hx hb hK hln1 dX1_thingTold_9 rfl) <|
    al ((fun lv st S h => hE _ lv st S dX1_thingTold_10 h)) <|
    al (s_aload_n hx hb (i := 0) rfl dX1_thingTold_11 rfl) <|
    al (s_getA (N := 15) hx hb hts hin hown hK rfl (k := 11) (by decide) hf11 rfl dX1_thingTold_12 rfl rfl (by decide)) <|
    al (s_iload_n hx hb (i := 1) rfl dX1_thingTold_15 rfl) <|
    al (s_iald hx hb hK hln1 dX1_thingTold_16 rfl) <|
    al (s_iconst hx hb dX1_thingTold_17 rfl) <|
    al (s_icmp_ne hx hb (by decide) dX1_thingTold_18 rfl) <|
    al (s_iconst hx hb dX1_thingTold_21 rfl) <|
    al ((fun lv st S h => hE _ lv st S dX1_thingTold_22 h)) <|
    al (s_aload_n hx hb (i := 0) rfl dX1_thingTold_23 rfl) <|
    al (s_getA (N := 15) hx hb hts hin hown hK rfl (k := 6) (by decide) hf6 rfl dX1_thingTold_24 rfl rfl (by decide)) <|
    al (s_aload_n hx hb (i := 0) rfl dX1_thingTold_27 rfl) <|
    al (s_getA (N := 15) hx hb hts hin hown hK rfl (k := 11) (by decide) hf11 rfl dX1_thingTold_28 rfl rfl (by decide)) <|
    al (s_iload_n hx hb (i := 1) rfl dX1_thingTold_31 rfl) <|
    al (s_iald hx hb hK hln1 dX1_thingTold_32 rfl) <|
    al (s_iald hx hb hK hln1 dX1_thingTold_33 rfl) <|
    al (s_aload_n hx hb (i := 0) rfl dX1_thingTold_34 rfl) <|
    al (s_getA (N := 15) hx hb hts hin hown hK rfl (k := 12) (by decide) hf12 rfl dX1_thingTold_35 rfl rfl (by decide)) <|
    al (s_iload_n hx hb (i := 1) rfl dX1_thingTold_38 rfl) <|
    al (s_iald hx hb hK hln1 dX1_thingTold_39 rfl) <|
    al (s_aload_n hx hb (i := 0) rfl dX1_thingTold_40 rfl) <|
    al (s_getA (N := 15) hx hb hts hin hown hK rfl (k := 2) (by decide) hf2 rfl dX1_thingTold_41 rfl rfl (by decide)) <|
    al (s_aload_n hx hb (i := 0) rfl dX1_thingTold_44 rfl) <|
    al (s_getA (N := 15) hx hb hts hin hown hK rfl (k := 10) (by decide) hf10 rfl dX1_thingTold_45 rfl rfl (by decide)) <|
    al (s_iload_n hx hb (i := 1) rfl dX1_thingTold_48 rfl) <|
    al (s_iald hx hb hK hln1 dX1_thingTold_49 rfl) <|
    al (s_iald hx hb hK hln1 dX1_thingTold_50 rfl) <|
    al (s_imul hx hb dX1_thingTold_51 rfl) <|
    al (s_iadd hx hb dX1_thingTold_52 rfl) <|
    al (s_istore_n hx hb (i := 3) rfl dX1_thingTold_53 rfl (by decide)) <|
    al (s_iload_n hx hb (i := 2) rfl dX1_thingTold_54 rfl) <|
    al (s_iconst hx hb dX1_thingTold_55 rfl) <|
    al (s_icmp_ne hx hb (by decide) dX1_thingTold_56 rfl) <|
    al (s_aload_n hx hb (i := 0) rfl dX1_thingTold_59 rfl) <|
    al (s_getA (N := 15) hx hb hts hin hown hK rfl (k := 11) (by decide) hf11 rfl dX1_thingTold_60 rfl rfl (by decide)) <|
    al (s_iload_n hx hb (i := 1) rfl dX1_thingTold_63 rfl) <|
    al (s_iald hx hb hK hln1 dX1_thingTold_64 rfl) <|
    al (s_goto hx hb (by decide) dX1_thingTold_65) <|
    al (s_iload_n hx hb (i := 2) rfl dX1_thingTold_68 rfl) <|
    al (s_iconst hx hb dX1_thingTold_69 rfl) <|
    al (s_icmp_ne hx hb (by decide) dX1_thingTold_70 rfl) <|
    al (s_aload_n hx hb (i := 0) rfl dX1_thingTold_73 rfl) <|
    al (s_getA (N := 15) hx hb hts hin hown hK rfl (k := 12) (by decide) hf12 rfl dX1_thingTold_74 rfl rfl (by decide)) <|
    al (s_iload_n hx hb (i := 1) rfl dX1_thingTold_77 rfl) <|
    al (s_iald hx hb hK hln1 dX1_thingTold_78 rfl) <|
    al (s_goto hx hb (by decide) dX1_thingTold_79) <|
    al (s_iload_n hx hb (i := 2) rfl dX1_thingTold_82 rfl) <|
    al (s_iconst hx hb dX1_thingTold_83 rfl) <|
    al (s_icmp_ne hx hb (by decide) dX1_thingTold_84 rfl) <|
    al (s_iload_n hx hb (i := 3) rfl dX1_thingTold_87 rfl) <|
    al (s_goto hx hb (by decide) dX1_thingTold_88) <|
    al (s_bipush hx hb dX1_thingTold_91 rfl (by decide)) <|
    al (s_aload_n hx hb (i := 0) rfl dX1_thingTold_93 rfl) <|
    al (s_getA (N := 15) hx hb hts hin hown hK rfl (k := 11) (by decide) hf11 rfl dX1_thingTold_94 rfl rfl (by decide)) <|
    al (s_iload_n hx hb (i := 1) rfl dX1_thingTold_97 rfl) <|
    al (s_iald hx hb hK hln1 dX1_thingTold_98 rfl) <|
    al (s_imul hx hb dX1_thingTold_99 rfl) <|
    al (s_iload_n hx hb (i := 3) rfl dX1_thingTold_100 rfl) <|
    al (s_iadd hx hb dX1_thingTold_101 rfl) <|
    al ((fun lv st S h => hE _ lv st S dX1_thingTold_102 h)) <| an
theorem ct1_thingTold : CtI 1 ly1 ja1 yX1_thingTold wsX1_thingTold rm1_thingTold X1_thingTold := mk_I (C := RX1) (strs := xstrs) T1_thingTold (by decide) rfl rfl rfl rfl (Fr := 0) (Lo := 0) (Nat.le_of_ble_eq_true rfl) (Nat.le_of_ble_eq_true rfl) (fun Q => sn1_thingTold Q nox)
abbrev rm1_told : Room := { frames := 2, cells := 0, slots := 0, locals := 43 }
set_option maxRecDepth 20000 in
set_option maxHeartbeats 4000000 in
theorem sn1_told (Q : Int → ST → Prop) (Qx : String → ST → Prop) : SndT RX1 xstrs 1 ly1 ja1 cX1_told 3 (some .int) wsX1_told 2 43 Qx (EI cX1_told Q) relP (T1_told Q Qx) := by
  intro p l e R s m args below meth c Qf D cA A AD rel hC hFr hLo hK hA hrel hT hE
  obtain ⟨⟨hx, hb, hml, hown, hts⟩, hlk, hr⟩ := hC
  have hrR := hrel
  have hin : ∀ w ∈ u_ws RX1 TX1 15, w ∈ wsX1_told := by decide +kernel
  have hf0 := hts (.fieldLink RX1 40 "CellTraysModel" "thrown" "I") (by decide +kernel)
  exact al (s_aload_n hx hb (i := 0) rfl dX1_told_0 rfl) <|
    al (s_iconst hx hb dX1_told_1 rfl) <|
    al (s_putI (N := 15) hx hb hts hin hown hK rfl (k := 0) (by decide) hf0 rfl tyX1 tyX1_ok nmX1 rfl (by decide +kernel) dX1_told_2 rfl rfl) <|
    al (s_aload_n hx hb (i := 0) rfl dX1_told_5 rfl) <|
    al (s_iload_n hx hb (i := 1) rfl dX1_told_6 rfl) <|
    al (s_calli ⟨hx, hb, hml, hown, hts⟩ hA hK hrR rfl ct1_isThing (cwV 1 hts gX1_told_X1_isThing rfl (rm := rm1_isThing) rfl rfl (by decide +kernel) ⟨Nat.le_trans (Nat.le_of_ble_eq_true rfl) hFr, Nat.le_trans (Nat.le_of_ble_eq_true rfl) hLo⟩) rfl dX1_told_7 rfl) <|
    al (s_if_eq hx hb (by decide) dX1_told_10 rfl) <|
    al (s_iload_n hx hb (i := 2) rfl dX1_told_13 rfl) <|
    al (s_iconst hx hb dX1_told_14 rfl) <|
    al (s_iconst hx hb dX1_told_15 rfl) <|
    al (s_scalli ⟨hx, hb, hml, hown, hts⟩ hA hK hrR ct1_isIn (cwS 3 hts gX1_told_X1_isIn rfl (rm := rm1_isIn) rfl rfl (by decide +kernel) ⟨Nat.le_trans (Nat.le_of_ble_eq_true rfl) hFr, Nat.le_trans (Nat.le_of_ble_eq_true rfl) hLo⟩) dX1_told_16 rfl) <|
    al (s_if_eq hx hb (by decide) dX1_told_19 rfl) <|
    al (s_aload_n hx hb (i := 0) rfl dX1_told_22 rfl) <|
    al (s_iload_n hx hb (i := 1) rfl dX1_told_23 rfl) <|
    al (s_iload_n hx hb (i := 2) rfl dX1_told_24 rfl) <|
    al (s_calli ⟨hx, hb, hml, hown, hts⟩ hA hK hrR rfl ct1_thingTold (cwV 2 hts gX1_told_X1_thingTold rfl (rm := rm1_thingTold) rfl rfl (by decide +kernel) ⟨Nat.le_trans (Nat.le_of_ble_eq_true rfl) hFr, Nat.le_trans (Nat.le_of_ble_eq_true rfl) hLo⟩) rfl dX1_told_25 rfl) <|
    al (s_goto hx hb (by decide) dX1_told_28) <|
    al (s_aload_n hx hb (i := 0) rfl dX1_told_31 rfl) <|
    al (s_iconst hx hb dX1_told_32 rfl) <|
    al (s_calli ⟨hx, hb, hml, hown, hts⟩ hA hK hrR rfl ct1_no (cwV 1 hts gX1_told_X1_no rfl (rm := rm1_no) rfl rfl (by decide +kernel) ⟨Nat.le_trans (Nat.le_of_ble_eq_true rfl) hFr, Nat.le_trans (Nat.le_of_ble_eq_true rfl) hLo⟩) rfl dX1_told_33 rfl) <|
    al ((fun lv st S h => hE _ lv st S dX1_told_36 h)) <| an
theorem ct1_told : CtI 1 ly1 ja1 yX1_told wsX1_told rm1_told X1_told := mk_I (C := RX1) (strs := xstrs) T1_told (by decide) rfl rfl rfl rfl (Fr := 2) (Lo := 43) (Nat.le_of_ble_eq_true rfl) (Nat.le_of_ble_eq_true rfl) (fun Q => sn1_told Q nox)
abbrev rm1_wasted : Room := { frames := 0, cells := 0, slots := 0, locals := 0 }
set_option maxRecDepth 20000 in
set_option maxHeartbeats 4000000 in
theorem sn1_wasted (Q : Int → ST → Prop) (Qx : String → ST → Prop) : SndT RX1 xstrs 1 ly1 ja1 cX1_wasted 2 (some .int) wsX1_wasted 0 0 Qx (EI cX1_wasted Q) relP (T1_wasted Q Qx) := by
  intro p l e R s m args below meth c Qf D cA A AD rel hC hFr hLo hK hA hrel hT hE
  obtain ⟨⟨hx, hb, hml, hown, hts⟩, hlk, hr⟩ := hC
  have hrR := hrel
  have hin : ∀ w ∈ u_ws RX1 TX1 15, w ∈ wsX1_wasted := by decide +kernel
  have hf2 := hts (.fieldLink RX1 9 "CellTraysModel" "size" "[I") (by decide +kernel)
  have hf5 := hts (.fieldLink RX1 19 "CellTraysModel" "of" "[I") (by decide +kernel)
  have hf7 := hts (.fieldLink RX1 25 "CellTraysModel" "many" "[I") (by decide +kernel)
  exact al (s_aload_n hx hb (i := 0) rfl dX1_wasted_0 rfl) <|
    al (s_getA (N := 15) hx hb hts hin hown hK rfl (k := 5) (by decide) hf5 rfl dX1_wasted_1 rfl rfl (by decide)) <|
    al (s_iload_n hx hb (i := 1) rfl dX1_wasted_4 rfl) <|
    al (s_iald hx hb hK hln1 dX1_wasted_5 rfl) <|
    al (s_iconst hx hb dX1_wasted_6 rfl) <|
    al (s_icmp_ne hx hb (by decide) dX1_wasted_7 rfl) <|
    al (s_iconst hx hb dX1_wasted_10 rfl) <|
    al (s_goto hx hb (by decide) dX1_wasted_11) <|
    al (s_bipush hx hb dX1_wasted_14 rfl (by decide)) <|
    al (s_aload_n hx hb (i := 0) rfl dX1_wasted_16 rfl) <|
    al (s_getA (N := 15) hx hb hts hin hown hK rfl (k := 2) (by decide) hf2 rfl dX1_wasted_17 rfl rfl (by decide)) <|
    al (s_aload_n hx hb (i := 0) rfl dX1_wasted_20 rfl) <|
    al (s_getA (N := 15) hx hb hts hin hown hK rfl (k := 5) (by decide) hf5 rfl dX1_wasted_21 rfl rfl (by decide)) <|
    al (s_iload_n hx hb (i := 1) rfl dX1_wasted_24 rfl) <|
    al (s_iald hx hb hK hln1 dX1_wasted_25 rfl) <|
    al (s_iald hx hb hK hln1 dX1_wasted_26 rfl) <|
    al (s_aload_n hx hb (i := 0) rfl dX1_wasted_27 rfl) <|
    al (s_getA (N := 15) hx hb hts hin hown hK rfl (k := 7) (by decide) hf7 rfl dX1_wasted_28 rfl rfl (by decide)) <|
    al (s_iload_n hx hb (i := 1) rfl dX1_wasted_31 rfl) <|
    al (s_iald hx hb hK hln1 dX1_wasted_32 rfl) <|
    al (s_imul hx hb dX1_wasted_33 rfl) <|
    al (s_isub hx hb dX1_wasted_34 rfl) <|
    al ((fun lv st S h => hE _ lv st S dX1_wasted_35 h)) <| an
theorem ct1_wasted : CtI 1 ly1 ja1 yX1_wasted wsX1_wasted rm1_wasted X1_wasted := mk_I (C := RX1) (strs := xstrs) T1_wasted (by decide) rfl rfl rfl rfl (Fr := 0) (Lo := 0) (Nat.le_of_ble_eq_true rfl) (Nat.le_of_ble_eq_true rfl) (fun Q => sn1_wasted Q nox)
abbrev rm1_trayTold : Room := { frames := 1, cells := 0, slots := 0, locals := 21 }
set_option maxRecDepth 20000 in
set_option maxHeartbeats 4000000 in
theorem sn1_trayTold (Q : Int → ST → Prop) (Qx : String → ST → Prop) : SndT RX1 xstrs 1 ly1 ja1 cX1_trayTold 3 (some .int) wsX1_trayTold 1 21 Qx (EI cX1_trayTold Q) relP (T1_trayTold Q Qx) := by
  intro p l e R s m args below meth c Qf D cA A AD rel hC hFr hLo hK hA hrel hT hE
  obtain ⟨⟨hx, hb, hml, hown, hts⟩, hlk, hr⟩ := hC
  have hrR := hrel
  have hin : ∀ w ∈ u_ws RX1 TX1 15, w ∈ wsX1_trayTold := by decide +kernel
  have hf5 := hts (.fieldLink RX1 19 "CellTraysModel" "of" "[I") (by decide +kernel)
  have hf6 := hts (.fieldLink RX1 22 "CellTraysModel" "offset" "[I") (by decide +kernel)
  have hf7 := hts (.fieldLink RX1 25 "CellTraysModel" "many" "[I") (by decide +kernel)
  exact al (s_aload_n hx hb (i := 0) rfl dX1_trayTold_0 rfl) <|
    al (s_getA (N := 15) hx hb hts hin hown hK rfl (k := 5) (by decide) hf5 rfl dX1_trayTold_1 rfl rfl (by decide)) <|
    al (s_iload_n hx hb (i := 1) rfl dX1_trayTold_4 rfl) <|
    al (s_iald hx hb hK hln1 dX1_trayTold_5 rfl) <|
    al (s_iconst hx hb dX1_trayTold_6 rfl) <|
    al (s_icmp_ne hx hb (by decide) dX1_trayTold_7 rfl) <|
    al (s_iconst hx hb dX1_trayTold_10 rfl) <|
    al ((fun lv st S h => hE _ lv st S dX1_trayTold_11 h)) <|
    al (s_iload_n hx hb (i := 2) rfl dX1_trayTold_12 rfl) <|
    al (s_if_ne hx hb (by decide) dX1_trayTold_13 rfl) <|
    al (s_aload_n hx hb (i := 0) rfl dX1_trayTold_16 rfl) <|
    al (s_getA (N := 15) hx hb hts hin hown hK rfl (k := 5) (by decide) hf5 rfl dX1_trayTold_17 rfl rfl (by decide)) <|
    al (s_iload_n hx hb (i := 1) rfl dX1_trayTold_20 rfl) <|
    al (s_iald hx hb hK hln1 dX1_trayTold_21 rfl) <|
    al (s_goto hx hb (by decide) dX1_trayTold_22) <|
    al (s_iload_n hx hb (i := 2) rfl dX1_trayTold_25 rfl) <|
    al (s_iconst hx hb dX1_trayTold_26 rfl) <|
    al (s_icmp_ne hx hb (by decide) dX1_trayTold_27 rfl) <|
    al (s_aload_n hx hb (i := 0) rfl dX1_trayTold_30 rfl) <|
    al (s_getA (N := 15) hx hb hts hin hown hK rfl (k := 6) (by decide) hf6 rfl dX1_trayTold_31 rfl rfl (by decide)) <|
    al (s_iload_n hx hb (i := 1) rfl dX1_trayTold_34 rfl) <|
    al (s_iald hx hb hK hln1 dX1_trayTold_35 rfl) <|
    al (s_goto hx hb (by decide) dX1_trayTold_36) <|
    al (s_iload_n hx hb (i := 2) rfl dX1_trayTold_39 rfl) <|
    al (s_iconst hx hb dX1_trayTold_40 rfl) <|
    al (s_icmp_ne hx hb (by decide) dX1_trayTold_41 rfl) <|
    al (s_aload_n hx hb (i := 0) rfl dX1_trayTold_44 rfl) <|
    al (s_aload_n hx hb (i := 0) rfl dX1_trayTold_45 rfl) <|
    al (s_getA (N := 15) hx hb hts hin hown hK rfl (k := 5) (by decide) hf5 rfl dX1_trayTold_46 rfl rfl (by decide)) <|
    al (s_iload_n hx hb (i := 1) rfl dX1_trayTold_49 rfl) <|
    al (s_iald hx hb hK hln1 dX1_trayTold_50 rfl) <|
    al (s_calli ⟨hx, hb, hml, hown, hts⟩ hA hK hrR rfl ct1_cells (cwV 1 hts gX1_trayTold_X1_cells rfl (rm := rm1_cells) rfl rfl (by decide +kernel) ⟨Nat.le_trans (Nat.le_of_ble_eq_true rfl) hFr, Nat.le_trans (Nat.le_of_ble_eq_true rfl) hLo⟩) rfl dX1_trayTold_51 rfl) <|
    al (s_goto hx hb (by decide) dX1_trayTold_54) <|
    al (s_iload_n hx hb (i := 2) rfl dX1_trayTold_57 rfl) <|
    al (s_iconst hx hb dX1_trayTold_58 rfl) <|
    al (s_icmp_ne hx hb (by decide) dX1_trayTold_59 rfl) <|
    al (s_aload_n hx hb (i := 0) rfl dX1_trayTold_62 rfl) <|
    al (s_getA (N := 15) hx hb hts hin hown hK rfl (k := 7) (by decide) hf7 rfl dX1_trayTold_63 rfl rfl (by decide)) <|
    al (s_iload_n hx hb (i := 1) rfl dX1_trayTold_66 rfl) <|
    al (s_iald hx hb hK hln1 dX1_trayTold_67 rfl) <|
    al (s_goto hx hb (by decide) dX1_trayTold_68) <|
    al (s_aload_n hx hb (i := 0) rfl dX1_trayTold_71 rfl) <|
    al (s_iload_n hx hb (i := 1) rfl dX1_trayTold_72 rfl) <|
    al (s_calli ⟨hx, hb, hml, hown, hts⟩ hA hK hrR rfl ct1_wasted (cwV 1 hts gX1_trayTold_X1_wasted rfl (rm := rm1_wasted) rfl rfl (by decide +kernel) ⟨Nat.le_trans (Nat.le_of_ble_eq_true rfl) hFr, Nat.le_trans (Nat.le_of_ble_eq_true rfl) hLo⟩) rfl dX1_trayTold_73 rfl) <|
    al ((fun lv st S h => hE _ lv st S dX1_trayTold_76 h)) <| an
theorem ct1_trayTold : CtI 1 ly1 ja1 yX1_trayTold wsX1_trayTold rm1_trayTold X1_trayTold := mk_I (C := RX1) (strs := xstrs) T1_trayTold (by decide) rfl rfl rfl rfl (Fr := 1) (Lo := 21) (Nat.le_of_ble_eq_true rfl) (Nat.le_of_ble_eq_true rfl) (fun Q => sn1_trayTold Q nox)
abbrev rm1_tray : Room := { frames := 2, cells := 0, slots := 0, locals := 43 }
set_option maxRecDepth 20000 in
set_option maxHeartbeats 4000000 in
theorem sn1_tray (Q : Int → ST → Prop) (Qx : String → ST → Prop) : SndT RX1 xstrs 1 ly1 ja1 cX1_tray 3 (some .int) wsX1_tray 2 43 Qx (EI cX1_tray Q) relP (T1_tray Q Qx) := by
  intro p l e R s m args below meth c Qf D cA A AD rel hC hFr hLo hK hA hrel hT hE
  obtain ⟨⟨hx, hb, hml, hown, hts⟩, hlk, hr⟩ := hC
  have hrR := hrel
  have hin : ∀ w ∈ u_ws RX1 TX1 15, w ∈ wsX1_tray := by decide +kernel
  have hf0 := hts (.fieldLink RX1 40 "CellTraysModel" "thrown" "I") (by decide +kernel)
  exact al (s_aload_n hx hb (i := 0) rfl dX1_tray_0 rfl) <|
    al (s_iconst hx hb dX1_tray_1 rfl) <|
    al (s_putI (N := 15) hx hb hts hin hown hK rfl (k := 0) (by decide) hf0 rfl tyX1 tyX1_ok nmX1 rfl (by decide +kernel) dX1_tray_2 rfl rfl) <|
    al (s_iload_n hx hb (i := 1) rfl dX1_tray_5 rfl) <|
    al (s_iconst hx hb dX1_tray_6 rfl) <|
    al (s_bipush hx hb dX1_tray_7 rfl (by decide)) <|
    al (s_scalli ⟨hx, hb, hml, hown, hts⟩ hA hK hrR ct1_isIn (cwS 3 hts gX1_tray_X1_isIn rfl (rm := rm1_isIn) rfl rfl (by decide +kernel) ⟨Nat.le_trans (Nat.le_of_ble_eq_true rfl) hFr, Nat.le_trans (Nat.le_of_ble_eq_true rfl) hLo⟩) dX1_tray_9 rfl) <|
    al (s_if_eq hx hb (by decide) dX1_tray_12 rfl) <|
    al (s_iload_n hx hb (i := 2) rfl dX1_tray_15 rfl) <|
    al (s_iconst hx hb dX1_tray_16 rfl) <|
    al (s_iconst hx hb dX1_tray_17 rfl) <|
    al (s_scalli ⟨hx, hb, hml, hown, hts⟩ hA hK hrR ct1_isIn (cwS 3 hts gX1_tray_X1_isIn rfl (rm := rm1_isIn) rfl rfl (by decide +kernel) ⟨Nat.le_trans (Nat.le_of_ble_eq_true rfl) hFr, Nat.le_trans (Nat.le_of_ble_eq_true rfl) hLo⟩) dX1_tray_18 rfl) <|
    al (s_if_eq hx hb (by decide) dX1_tray_21 rfl) <|
    al (s_aload_n hx hb (i := 0) rfl dX1_tray_24 rfl) <|
    al (s_iload_n hx hb (i := 1) rfl dX1_tray_25 rfl) <|
    al (s_iload_n hx hb (i := 2) rfl dX1_tray_26 rfl) <|
    al (s_calli ⟨hx, hb, hml, hown, hts⟩ hA hK hrR rfl ct1_trayTold (cwV 2 hts gX1_tray_X1_trayTold rfl (rm := rm1_trayTold) rfl rfl (by decide +kernel) ⟨Nat.le_trans (Nat.le_of_ble_eq_true rfl) hFr, Nat.le_trans (Nat.le_of_ble_eq_true rfl) hLo⟩) rfl dX1_tray_27 rfl) <|
    al (s_goto hx hb (by decide) dX1_tray_30) <|
    al (s_aload_n hx hb (i := 0) rfl dX1_tray_33 rfl) <|
    al (s_iconst hx hb dX1_tray_34 rfl) <|
    al (s_calli ⟨hx, hb, hml, hown, hts⟩ hA hK hrR rfl ct1_no (cwV 1 hts gX1_tray_X1_no rfl (rm := rm1_no) rfl rfl (by decide +kernel) ⟨Nat.le_trans (Nat.le_of_ble_eq_true rfl) hFr, Nat.le_trans (Nat.le_of_ble_eq_true rfl) hLo⟩) rfl dX1_tray_35 rfl) <|
    al ((fun lv st S h => hE _ lv st S dX1_tray_38 h)) <| an
theorem ct1_tray : CtI 1 ly1 ja1 yX1_tray wsX1_tray rm1_tray X1_tray := mk_I (C := RX1) (strs := xstrs) T1_tray (by decide) rfl rfl rfl rfl (Fr := 2) (Lo := 43) (Nat.le_of_ble_eq_true rfl) (Nat.le_of_ble_eq_true rfl) (fun Q => sn1_tray Q nox)
abbrev rm1_cell : Room := { frames := 1, cells := 0, slots := 0, locals := 22 }
set_option maxRecDepth 20000 in
set_option maxHeartbeats 4000000 in
theorem sn1_cell (Q : Int → ST → Prop) (Qx : String → ST → Prop) : SndT RX1 xstrs 1 ly1 ja1 cX1_cell 3 (some .int) wsX1_cell 1 22 Qx (EI cX1_cell Q) relP (T1_cell Q Qx) := by
  intro p l e R s m args below meth c Qf D cA A AD rel hC hFr hLo hK hA hrel hT hE
  obtain ⟨⟨hx, hb, hml, hown, hts⟩, hlk, hr⟩ := hC
  have hrR := hrel
  have hin : ∀ w ∈ u_ws RX1 TX1 15, w ∈ wsX1_cell := by decide +kernel
  have hf0 := hts (.fieldLink RX1 40 "CellTraysModel" "thrown" "I") (by decide +kernel)
  have hf5 := hts (.fieldLink RX1 19 "CellTraysModel" "of" "[I") (by decide +kernel)
  have hf8 := hts (.fieldLink RX1 28 "CellTraysModel" "inside" "[I") (by decide +kernel)
  exact al (s_aload_n hx hb (i := 0) rfl dX1_cell_0 rfl) <|
    al (s_iconst hx hb dX1_cell_1 rfl) <|
    al (s_putI (N := 15) hx hb hts hin hown hK rfl (k := 0) (by decide) hf0 rfl tyX1 tyX1_ok nmX1 rfl (by decide +kernel) dX1_cell_2 rfl rfl) <|
    al (s_iload_n hx hb (i := 1) rfl dX1_cell_5 rfl) <|
    al (s_iconst hx hb dX1_cell_6 rfl) <|
    al (s_bipush hx hb dX1_cell_7 rfl (by decide)) <|
    al (s_scalli ⟨hx, hb, hml, hown, hts⟩ hA hK hrR ct1_isIn (cwS 3 hts gX1_cell_X1_isIn rfl (rm := rm1_isIn) rfl rfl (by decide +kernel) ⟨Nat.le_trans (Nat.le_of_ble_eq_true rfl) hFr, Nat.le_trans (Nat.le_of_ble_eq_true rfl) hLo⟩) dX1_cell_9 rfl) <|
    al (s_if_eq hx hb (by decide) dX1_cell_12 rfl) <|
    al (s_aload_n hx hb (i := 0) rfl dX1_cell_15 rfl) <|
    al (s_getA (N := 15) hx hb hts hin hown hK rfl (k := 5) (by decide) hf5 rfl dX1_cell_16 rfl rfl (by decide)) <|
    al (s_iload_n hx hb (i := 1) rfl dX1_cell_19 rfl) <|
    al (s_iald hx hb hK hln1 dX1_cell_20 rfl) <|
    al (s_iconst hx hb dX1_cell_21 rfl) <|
    al (s_icmp_eq hx hb (by decide) dX1_cell_22 rfl) <|
    al (s_iload_n hx hb (i := 2) rfl dX1_cell_25 rfl) <|
    al (s_iconst hx hb dX1_cell_26 rfl) <|
    al (s_aload_n hx hb (i := 0) rfl dX1_cell_27 rfl) <|
    al (s_aload_n hx hb (i := 0) rfl dX1_cell_28 rfl) <|
    al (s_getA (N := 15) hx hb hts hin hown hK rfl (k := 5) (by decide) hf5 rfl dX1_cell_29 rfl rfl (by decide)) <|
    al (s_iload_n hx hb (i := 1) rfl dX1_cell_32 rfl) <|
    al (s_iald hx hb hK hln1 dX1_cell_33 rfl) <|
    al (s_calli ⟨hx, hb, hml, hown, hts⟩ hA hK hrR rfl ct1_cells (cwV 1 hts gX1_cell_X1_cells rfl (rm := rm1_cells) rfl rfl (by decide +kernel) ⟨Nat.le_trans (Nat.le_of_ble_eq_true rfl) hFr, Nat.le_trans (Nat.le_of_ble_eq_true rfl) hLo⟩) rfl dX1_cell_34 rfl) <|
    al (s_iconst hx hb dX1_cell_37 rfl) <|
    al (s_isub hx hb dX1_cell_38 rfl) <|
    al (s_scalli ⟨hx, hb, hml, hown, hts⟩ hA hK hrR ct1_isIn (cwS 3 hts gX1_cell_X1_isIn rfl (rm := rm1_isIn) rfl rfl (by decide +kernel) ⟨Nat.le_trans (Nat.le_of_ble_eq_true rfl) hFr, Nat.le_trans (Nat.le_of_ble_eq_true rfl) hLo⟩) dX1_cell_39 rfl) <|
    al (s_if_ne hx hb (by decide) dX1_cell_42 rfl) <|
    al (s_aload_n hx hb (i := 0) rfl dX1_cell_45 rfl) <|
    al (s_iconst hx hb dX1_cell_46 rfl) <|
    al (s_calli ⟨hx, hb, hml, hown, hts⟩ hA hK hrR rfl ct1_no (cwV 1 hts gX1_cell_X1_no rfl (rm := rm1_no) rfl rfl (by decide +kernel) ⟨Nat.le_trans (Nat.le_of_ble_eq_true rfl) hFr, Nat.le_trans (Nat.le_of_ble_eq_true rfl) hLo⟩) rfl dX1_cell_47 rfl) <|
    al ((fun lv st S h => hE _ lv st S dX1_cell_50 h)) <|
    al (s_aload_n hx hb (i := 0) rfl dX1_cell_51 rfl) <|
    al (s_getA (N := 15) hx hb hts hin hown hK rfl (k := 8) (by decide) hf8 rfl dX1_cell_52 rfl rfl (by decide)) <|
    al (s_bipush hx hb dX1_cell_55 rfl (by decide)) <|
    al (s_iload_n hx hb (i := 1) rfl dX1_cell_57 rfl) <|
    al (s_imul hx hb dX1_cell_58 rfl) <|
    al (s_iload_n hx hb (i := 2) rfl dX1_cell_59 rfl) <|
    al (s_iadd hx hb dX1_cell_60 rfl) <|
    al (s_iald hx hb hK hln1 dX1_cell_61 rfl) <|
    al ((fun lv st S h => hE _ lv st S dX1_cell_62 h)) <| an
theorem ct1_cell : CtI 1 ly1 ja1 yX1_cell wsX1_cell rm1_cell X1_cell := mk_I (C := RX1) (strs := xstrs) T1_cell (by decide) rfl rfl rfl rfl (Fr := 1) (Lo := 22) (Nat.le_of_ble_eq_true rfl) (Nat.le_of_ble_eq_true rfl) (fun Q => sn1_cell Q nox)
abbrev rm1_trays : Room := { frames := 0, cells := 0, slots := 0, locals := 0 }
set_option maxRecDepth 20000 in
set_option maxHeartbeats 4000000 in
theorem sn1_trays (Q : Int → ST → Prop) (Qx : String → ST → Prop) : SndT RX1 xstrs 1 ly1 ja1 cX1_trays 4 (some .int) wsX1_trays 0 0 Qx (EI cX1_trays Q) relP (T1_trays Q Qx) := by
  intro p l e R s m args below meth c Qf D cA A AD rel hC hFr hLo hK hA hrel hT hE
  obtain ⟨⟨hx, hb, hml, hown, hts⟩, hlk, hr⟩ := hC
  have hrR := hrel
  have hin : ∀ w ∈ u_ws RX1 TX1 15, w ∈ wsX1_trays := by decide +kernel
  have hf5 := hts (.fieldLink RX1 19 "CellTraysModel" "of" "[I") (by decide +kernel)
  exact al (s_iconst hx hb dX1_trays_0 rfl) <|
    al (s_istore_n hx hb (i := 2) rfl dX1_trays_1 rfl (by decide)) <|
    al (s_iconst hx hb dX1_trays_2 rfl) <|
    al (s_istore_n hx hb (i := 3) rfl dX1_trays_3 rfl (by decide)) <|
    al (s_iload_n hx hb (i := 3) rfl dX1_trays_4 rfl) <|
    al (s_bipush hx hb dX1_trays_5 rfl (by decide)) <|
    al (s_icmp_ge hx hb (by decide) dX1_trays_7 rfl) <|
    al (s_iload_n hx hb (i := 2) rfl dX1_trays_10 rfl) <|
    al (s_aload_n hx hb (i := 0) rfl dX1_trays_11 rfl) <|
    al (s_getA (N := 15) hx hb hts hin hown hK rfl (k := 5) (by decide) hf5 rfl dX1_trays_12 rfl rfl (by decide)) <|
    al (s_iload_n hx hb (i := 3) rfl dX1_trays_15 rfl) <|
    al (s_iald hx hb hK hln1 dX1_trays_16 rfl) <|
    al (s_iload_n hx hb (i := 1) rfl dX1_trays_17 rfl) <|
    al (s_icmp_ne hx hb (by decide) dX1_trays_18 rfl) <|
    al (s_iconst hx hb dX1_trays_21 rfl) <|
    al (s_goto hx hb (by decide) dX1_trays_22) <|
    al (s_iconst hx hb dX1_trays_25 rfl) <|
    al (s_iadd hx hb dX1_trays_26 rfl) <|
    al (s_istore_n hx hb (i := 2) rfl dX1_trays_27 rfl (by decide)) <|
    al (s_iinc hx hb dX1_trays_28 rfl (by decide)) <|
    al (s_goto hx hb (by decide) dX1_trays_31) <|
    al (s_iload_n hx hb (i := 2) rfl dX1_trays_34 rfl) <|
    al ((fun lv st S h => hE _ lv st S dX1_trays_35 h)) <| an
theorem ct1_trays : CtI 1 ly1 ja1 yX1_trays wsX1_trays rm1_trays X1_trays := mk_I (C := RX1) (strs := xstrs) T1_trays (by decide) rfl rfl rfl rfl (Fr := 0) (Lo := 0) (Nat.le_of_ble_eq_true rfl) (Nat.le_of_ble_eq_true rfl) (fun Q => sn1_trays Q nox)
abbrev rm1_full : Room := { frames := 1, cells := 0, slots := 0, locals := 21 }
set_option maxRecDepth 20000 in
set_option maxHeartbeats 4000000 in
theorem sn1_full (Q : Int → ST → Prop) (Qx : String → ST → Prop) : SndT RX1 xstrs 1 ly1 ja1 cX1_full 4 (some .int) wsX1_full 1 21 Qx (EI cX1_full Q) relP (T1_full Q Qx) := by
  intro p l e R s m args below meth c Qf D cA A AD rel hC hFr hLo hK hA hrel hT hE
  obtain ⟨⟨hx, hb, hml, hown, hts⟩, hlk, hr⟩ := hC
  have hrR := hrel
  have hin : ∀ w ∈ u_ws RX1 TX1 15, w ∈ wsX1_full := by decide +kernel
  have hf5 := hts (.fieldLink RX1 19 "CellTraysModel" "of" "[I") (by decide +kernel)
  have hf7 := hts (.fieldLink RX1 25 "CellTraysModel" "many" "[I") (by decide +kernel)
  exact al (s_iconst hx hb dX1_full_0 rfl) <|
    al (s_istore_n hx hb (i := 2) rfl dX1_full_1 rfl (by decide)) <|
    al (s_iconst hx hb dX1_full_2 rfl) <|
    al (s_istore_n hx hb (i := 3) rfl dX1_full_3 rfl (by decide)) <|
    al (s_iload_n hx hb (i := 3) rfl dX1_full_4 rfl) <|
    al (s_bipush hx hb dX1_full_5 rfl (by decide)) <|
    al (s_icmp_ge hx hb (by decide) dX1_full_7 rfl) <|
    al (s_iload_n hx hb (i := 2) rfl dX1_full_10 rfl) <|
    al (s_aload_n hx hb (i := 0) rfl dX1_full_11 rfl) <|
    al (s_getA (N := 15) hx hb hts hin hown hK rfl (k := 5) (by decide) hf5 rfl dX1_full_12 rfl rfl (by decide)) <|
    al (s_iload_n hx hb (i := 3) rfl dX1_full_15 rfl) <|
    al (s_iald hx hb hK hln1 dX1_full_16 rfl) <|
    al (s_iload_n hx hb (i := 1) rfl dX1_full_17 rfl) <|
    al (s_icmp_ne hx hb (by decide) dX1_full_18 rfl) <|
    al (s_aload_n hx hb (i := 0) rfl dX1_full_21 rfl) <|
    al (s_getA (N := 15) hx hb hts hin hown hK rfl (k := 7) (by decide) hf7 rfl dX1_full_22 rfl rfl (by decide)) <|
    al (s_iload_n hx hb (i := 3) rfl dX1_full_25 rfl) <|
    al (s_iald hx hb hK hln1 dX1_full_26 rfl) <|
    al (s_aload_n hx hb (i := 0) rfl dX1_full_27 rfl) <|
    al (s_iload_n hx hb (i := 1) rfl dX1_full_28 rfl) <|
    al (s_calli ⟨hx, hb, hml, hown, hts⟩ hA hK hrR rfl ct1_cells (cwV 1 hts gX1_full_X1_cells rfl (rm := rm1_cells) rfl rfl (by decide +kernel) ⟨Nat.le_trans (Nat.le_of_ble_eq_true rfl) hFr, Nat.le_trans (Nat.le_of_ble_eq_true rfl) hLo⟩) rfl dX1_full_29 rfl) <|
    al (s_icmp_ne hx hb (by decide) dX1_full_32 rfl) <|
    al (s_iconst hx hb dX1_full_35 rfl) <|
    al (s_goto hx hb (by decide) dX1_full_36) <|
    al (s_iconst hx hb dX1_full_39 rfl) <|
    al (s_iadd hx hb dX1_full_40 rfl) <|
    al (s_istore_n hx hb (i := 2) rfl dX1_full_41 rfl (by decide)) <|
    al (s_iinc hx hb dX1_full_42 rfl (by decide)) <|
    al (s_goto hx hb (by decide) dX1_full_45) <|
    al (s_iload_n hx hb (i := 2) rfl dX1_full_48 rfl) <|
    al ((fun lv st S h => hE _ lv st S dX1_full_49 h)) <| an
theorem ct1_full : CtI 1 ly1 ja1 yX1_full wsX1_full rm1_full X1_full := mk_I (C := RX1) (strs := xstrs) T1_full (by decide) rfl rfl rfl rfl (Fr := 1) (Lo := 21) (Nat.le_of_ble_eq_true rfl) (Nat.le_of_ble_eq_true rfl) (fun Q => sn1_full Q nox)
abbrev rm1_lying : Room := { frames := 0, cells := 0, slots := 0, locals := 0 }
set_option maxRecDepth 20000 in
set_option maxHeartbeats 4000000 in
theorem sn1_lying (Q : Int → ST → Prop) (Qx : String → ST → Prop) : SndT RX1 xstrs 1 ly1 ja1 cX1_lying 4 (some .int) wsX1_lying 0 0 Qx (EI cX1_lying Q) relP (T1_lying Q Qx) := by
  intro p l e R s m args below meth c Qf D cA A AD rel hC hFr hLo hK hA hrel hT hE
  obtain ⟨⟨hx, hb, hml, hown, hts⟩, hlk, hr⟩ := hC
  have hrR := hrel
  have hin : ∀ w ∈ u_ws RX1 TX1 15, w ∈ wsX1_lying := by decide +kernel
  have hf5 := hts (.fieldLink RX1 19 "CellTraysModel" "of" "[I") (by decide +kernel)
  have hf7 := hts (.fieldLink RX1 25 "CellTraysModel" "many" "[I") (by decide +kernel)
  exact al (s_iconst hx hb dX1_lying_0 rfl) <|
    al (s_istore_n hx hb (i := 2) rfl dX1_lying_1 rfl (by decide)) <|
    al (s_iconst hx hb dX1_lying_2 rfl) <|
    al (s_istore_n hx hb (i := 3) rfl dX1_lying_3 rfl (by decide)) <|
    al (s_iload_n hx hb (i := 3) rfl dX1_lying_4 rfl) <|
    al (s_bipush hx hb dX1_lying_5 rfl (by decide)) <|
    al (s_icmp_ge hx hb (by decide) dX1_lying_7 rfl) <|
    al (s_iload_n hx hb (i := 2) rfl dX1_lying_10 rfl) <|
    al (s_aload_n hx hb (i := 0) rfl dX1_lying_11 rfl) <|
    al (s_getA (N := 15) hx hb hts hin hown hK rfl (k := 5) (by decide) hf5 rfl dX1_lying_12 rfl rfl (by decide)) <|
    al (s_iload_n hx hb (i := 3) rfl dX1_lying_15 rfl) <|
    al (s_iald hx hb hK hln1 dX1_lying_16 rfl) <|
    al (s_iload_n hx hb (i := 1) rfl dX1_lying_17 rfl) <|
    al (s_icmp_ne hx hb (by decide) dX1_lying_18 rfl) <|
    al (s_aload_n hx hb (i := 0) rfl dX1_lying_21 rfl) <|
    al (s_getA (N := 15) hx hb hts hin hown hK rfl (k := 7) (by decide) hf7 rfl dX1_lying_22 rfl rfl (by decide)) <|
    al (s_iload_n hx hb (i := 3) rfl dX1_lying_25 rfl) <|
    al (s_iald hx hb hK hln1 dX1_lying_26 rfl) <|
    al (s_goto hx hb (by decide) dX1_lying_27) <|
    al (s_iconst hx hb dX1_lying_30 rfl) <|
    al (s_iadd hx hb dX1_lying_31 rfl) <|
    al (s_istore_n hx hb (i := 2) rfl dX1_lying_32 rfl (by decide)) <|
    al (s_iinc hx hb dX1_lying_33 rfl (by decide)) <|
    al (s_goto hx hb (by decide) dX1_lying_36) <|
    al (s_iload_n hx hb (i := 2) rfl dX1_lying_39 rfl) <|
    al ((fun lv st S h => hE _ lv st S dX1_lying_40 h)) <| an
theorem ct1_lying : CtI 1 ly1 ja1 yX1_lying wsX1_lying rm1_lying X1_lying := mk_I (C := RX1) (strs := xstrs) T1_lying (by decide) rfl rfl rfl rfl (Fr := 0) (Lo := 0) (Nat.le_of_ble_eq_true rfl) (Nat.le_of_ble_eq_true rfl) (fun Q => sn1_lying Q nox)
abbrev rm1_kindTold : Room := { frames := 2, cells := 1, slots := 8, locals := 45 }
set_option maxRecDepth 20000 in
set_option maxHeartbeats 4000000 in
theorem sn1_kindTold (Q : Int → ST → Prop) (Qx : String → ST → Prop) : SndT RX1 xstrs 1 ly1 ja1 cX1_kindTold 4 (some .int) wsX1_kindTold 2 45 Qx (EI cX1_kindTold Q) (relQ 1 8) (T1_kindTold Q Qx) := by
  intro p l e R s m args below meth c Qf D cA A AD rel hC hFr hLo hK hA hrel hT hE
  obtain ⟨⟨hx, hb, hml, hown, hts⟩, hlk, hr⟩ := hC
  obtain ⟨hrel, hRc, hRs, hAD⟩ := hrel
  have hrR : ∀ k c n, rel k c n → c ≤ R.cells ∧ n ≤ R.slots := fun k c n h => by rw [hrel] at h; exact ⟨Nat.le_trans h.2.2.1 hRc, Nat.le_trans h.2.2.2 hRs⟩
  have hin : ∀ w ∈ u_ws RX1 TX1 15, w ∈ wsX1_kindTold := by decide +kernel
  have hf2 := hts (.fieldLink RX1 9 "CellTraysModel" "size" "[I") (by decide +kernel)
  have hf3 := hts (.fieldLink RX1 13 "CellTraysModel" "step" "[I") (by decide +kernel)
  have hf4 := hts (.fieldLink RX1 16 "CellTraysModel" "next" "[I") (by decide +kernel)
  exact al (s_bipush hx hb dX1_kindTold_0 rfl (by decide)) <|
    al (s_tnew hx hb hAD hK hA hRc hRs hrel (hts (.arrayClass .int) (by decide +kernel)) (by decide) (by decide) dX1_kindTold_2 rfl) <|
    al (s_dup hx hb dX1_kindTold_4 rfl) <|
    al (s_iconst hx hb dX1_kindTold_5 rfl) <|
    al (s_aload_n hx hb (i := 0) rfl dX1_kindTold_6 rfl) <|
    al (s_getA (N := 15) hx hb hts hin hown hK rfl (k := 2) (by decide) hf2 rfl dX1_kindTold_7 rfl rfl (by decide)) <|
    al (s_iload_n hx hb (i := 1) rfl dX1_kindTold_10 rfl) <|
    al (s_iald hx hb hK hln1 dX1_kindTold_11 rfl) <|
    al (s_tast hx hb hK dX1_kindTold_12 rfl) <|
    al (s_dup hx hb dX1_kindTold_13 rfl) <|
    al (s_iconst hx hb dX1_kindTold_14 rfl) <|
    al (s_aload_n hx hb (i := 0) rfl dX1_kindTold_15 rfl) <|
    al (s_getA (N := 15) hx hb hts hin hown hK rfl (k := 3) (by decide) hf3 rfl dX1_kindTold_16 rfl rfl (by decide)) <|
    al (s_iload_n hx hb (i := 1) rfl dX1_kindTold_19 rfl) <|
    al (s_iald hx hb hK hln1 dX1_kindTold_20 rfl) <|
    al (s_tast hx hb hK dX1_kindTold_21 rfl) <|
    al (s_dup hx hb dX1_kindTold_22 rfl) <|
    al (s_iconst hx hb dX1_kindTold_23 rfl) <|
    al (s_aload_n hx hb (i := 0) rfl dX1_kindTold_24 rfl) <|
    al (s_iload_n hx hb (i := 1) rfl dX1_kindTold_25 rfl) <|
    al (s_calli ⟨hx, hb, hml, hown, hts⟩ hA hK hrR rfl ct1_trays (cwV 1 hts gX1_kindTold_X1_trays rfl (rm := rm1_trays) rfl rfl (by decide +kernel) ⟨Nat.le_trans (Nat.le_of_ble_eq_true rfl) hFr, Nat.le_trans (Nat.le_of_ble_eq_true rfl) hLo⟩) rfl dX1_kindTold_26 rfl) <|
    al (s_tast hx hb hK dX1_kindTold_29 rfl) <|
    al (s_dup hx hb dX1_kindTold_30 rfl) <|
    al (s_iconst hx hb dX1_kindTold_31 rfl) <|
    al (s_aload_n hx hb (i := 0) rfl dX1_kindTold_32 rfl) <|
    al (s_iload_n hx hb (i := 1) rfl dX1_kindTold_33 rfl) <|
    al (s_calli ⟨hx, hb, hml, hown, hts⟩ hA hK hrR rfl ct1_empties (cwV 1 hts gX1_kindTold_X1_empties rfl (rm := rm1_empties) rfl rfl (by decide +kernel) ⟨Nat.le_trans (Nat.le_of_ble_eq_true rfl) hFr, Nat.le_trans (Nat.le_of_ble_eq_true rfl) hLo⟩) rfl dX1_kindTold_34 rfl) <|
    al (s_tast hx hb hK dX1_kindTold_37 rfl) <|
    al (s_dup hx hb dX1_kindTold_38 rfl) <|
    al (s_iconst hx hb dX1_kindTold_39 rfl) <|
    al (s_aload_n hx hb (i := 0) rfl dX1_kindTold_40 rfl) <|
    al (s_iload_n hx hb (i := 1) rfl dX1_kindTold_41 rfl) <|
    al (s_calli ⟨hx, hb, hml, hown, hts⟩ hA hK hrR rfl ct1_full (cwV 1 hts gX1_kindTold_X1_full rfl (rm := rm1_full) rfl rfl (by decide +kernel) ⟨Nat.le_trans (Nat.le_of_ble_eq_true rfl) hFr, Nat.le_trans (Nat.le_of_ble_eq_true rfl) hLo⟩) rfl dX1_kindTold_42 rfl) <|
    al (s_tast hx hb hK dX1_kindTold_45 rfl) <|
    al (s_dup hx hb dX1_kindTold_46 rfl) <|
    al (s_iconst hx hb dX1_kindTold_47 rfl) <|
    al (s_aload_n hx hb (i := 0) rfl dX1_kindTold_48 rfl) <|
    al (s_iload_n hx hb (i := 1) rfl dX1_kindTold_49 rfl) <|
    al (s_calli ⟨hx, hb, hml, hown, hts⟩ hA hK hrR rfl ct1_lying (cwV 1 hts gX1_kindTold_X1_lying rfl (rm := rm1_lying) rfl rfl (by decide +kernel) ⟨Nat.le_trans (Nat.le_of_ble_eq_true rfl) hFr, Nat.le_trans (Nat.le_of_ble_eq_true rfl) hLo⟩) rfl dX1_kindTold_50 rfl) <|
    al (s_tast hx hb hK dX1_kindTold_53 rfl) <|
    al (s_dup hx hb dX1_kindTold_54 rfl) <|
    al (s_bipush hx hb dX1_kindTold_55 rfl (by decide)) <|
    al (s_aload_n hx hb (i := 0) rfl dX1_kindTold_57 rfl) <|
    al (s_iload_n hx hb (i := 1) rfl dX1_kindTold_58 rfl) <|
    al (s_calli ⟨hx, hb, hml, hown, hts⟩ hA hK hrR rfl ct1_trays (cwV 1 hts gX1_kindTold_X1_trays rfl (rm := rm1_trays) rfl rfl (by decide +kernel) ⟨Nat.le_trans (Nat.le_of_ble_eq_true rfl) hFr, Nat.le_trans (Nat.le_of_ble_eq_true rfl) hLo⟩) rfl dX1_kindTold_59 rfl) <|
    al (s_aload_n hx hb (i := 0) rfl dX1_kindTold_62 rfl) <|
    al (s_iload_n hx hb (i := 1) rfl dX1_kindTold_63 rfl) <|
    al (s_calli ⟨hx, hb, hml, hown, hts⟩ hA hK hrR rfl ct1_cells (cwV 1 hts gX1_kindTold_X1_cells rfl (rm := rm1_cells) rfl rfl (by decide +kernel) ⟨Nat.le_trans (Nat.le_of_ble_eq_true rfl) hFr, Nat.le_trans (Nat.le_of_ble_eq_true rfl) hLo⟩) rfl dX1_kindTold_64 rfl) <|
    al (s_imul hx hb dX1_kindTold_67 rfl) <|
    al (s_aload_n hx hb (i := 0) rfl dX1_kindTold_68 rfl) <|
    al (s_iload_n hx hb (i := 1) rfl dX1_kindTold_69 rfl) <|
    al (s_calli ⟨hx, hb, hml, hown, hts⟩ hA hK hrR rfl ct1_lying (cwV 1 hts gX1_kindTold_X1_lying rfl (rm := rm1_lying) rfl rfl (by decide +kernel) ⟨Nat.le_trans (Nat.le_of_ble_eq_true rfl) hFr, Nat.le_trans (Nat.le_of_ble_eq_true rfl) hLo⟩) rfl dX1_kindTold_70 rfl) <|
    al (s_isub hx hb dX1_kindTold_73 rfl) <|
    al (s_tast hx hb hK dX1_kindTold_74 rfl) <|
    al (s_dup hx hb dX1_kindTold_75 rfl) <|
    al (s_bipush hx hb dX1_kindTold_76 rfl (by decide)) <|
    al (s_aload_n hx hb (i := 0) rfl dX1_kindTold_78 rfl) <|
    al (s_getA (N := 15) hx hb hts hin hown hK rfl (k := 4) (by decide) hf4 rfl dX1_kindTold_79 rfl rfl (by decide)) <|
    al (s_iload_n hx hb (i := 1) rfl dX1_kindTold_82 rfl) <|
    al (s_iald hx hb hK hln1 dX1_kindTold_83 rfl) <|
    al (s_tast hx hb hK dX1_kindTold_84 rfl) <|
    al (s_astore_n hx hb (i := 3) rfl dX1_kindTold_85 rfl (by decide)) <|
    al (s_aload_n hx hb (i := 3) rfl dX1_kindTold_86 rfl) <|
    al (s_iload_n hx hb (i := 2) rfl dX1_kindTold_87 rfl) <|
    al (s_tald hx hb hK dX1_kindTold_88 rfl) <|
    al ((fun lv st S h => hE _ lv st S dX1_kindTold_89 h)) <| an
theorem ct1_kindTold : CtAI 1 ly1 ja1 yX1_kindTold wsX1_kindTold rm1_kindTold 1 8 X1_kindTold := mk_Ia (C := RX1) (strs := xstrs) T1_kindTold (by decide) rfl rfl (Nat.le_of_ble_eq_true rfl) (Nat.le_of_ble_eq_true rfl) (Fr := 2) (Lo := 45) (Nat.le_of_ble_eq_true rfl) (Nat.le_of_ble_eq_true rfl) (by decide) (by decide) (fun Q => sn1_kindTold Q nox)
abbrev rm1_about : Room := { frames := 3, cells := 1, slots := 8, locals := 68 }
set_option maxRecDepth 20000 in
set_option maxHeartbeats 4000000 in
theorem sn1_about (Q : Int → ST → Prop) (Qx : String → ST → Prop) : SndT RX1 xstrs 1 ly1 ja1 cX1_about 3 (some .int) wsX1_about 3 68 Qx (EI cX1_about Q) (relQ 1 8) (T1_about Q Qx) := by
  intro p l e R s m args below meth c Qf D cA A AD rel hC hFr hLo hK hA hrel hT hE
  obtain ⟨⟨hx, hb, hml, hown, hts⟩, hlk, hr⟩ := hC
  obtain ⟨hrel, hRc, hRs, hAD⟩ := hrel
  have hrR : ∀ k c n, rel k c n → c ≤ R.cells ∧ n ≤ R.slots := fun k c n h => by rw [hrel] at h; exact ⟨Nat.le_trans h.2.2.1 hRc, Nat.le_trans h.2.2.2 hRs⟩
  have hin : ∀ w ∈ u_ws RX1 TX1 15, w ∈ wsX1_about := by decide +kernel
  have hf0 := hts (.fieldLink RX1 40 "CellTraysModel" "thrown" "I") (by decide +kernel)
  exact al (s_aload_n hx hb (i := 0) rfl dX1_about_0 rfl) <|
    al (s_iconst hx hb dX1_about_1 rfl) <|
    al (s_putI (N := 15) hx hb hts hin hown hK rfl (k := 0) (by decide) hf0 rfl tyX1 tyX1_ok nmX1 rfl (by decide +kernel) dX1_about_2 rfl rfl) <|
    al (s_aload_n hx hb (i := 0) rfl dX1_about_5 rfl) <|
    al (s_iload_n hx hb (i := 1) rfl dX1_about_6 rfl) <|
    al (s_calli ⟨hx, hb, hml, hown, hts⟩ hA hK hrR rfl ct1_isKind (cwV 1 hts gX1_about_X1_isKind rfl (rm := rm1_isKind) rfl rfl (by decide +kernel) ⟨Nat.le_trans (Nat.le_of_ble_eq_true rfl) hFr, Nat.le_trans (Nat.le_of_ble_eq_true rfl) hLo⟩) rfl dX1_about_7 rfl) <|
    al (s_if_eq hx hb (by decide) dX1_about_10 rfl) <|
    al (s_iload_n hx hb (i := 2) rfl dX1_about_13 rfl) <|
    al (s_iconst hx hb dX1_about_14 rfl) <|
    al (s_bipush hx hb dX1_about_15 rfl (by decide)) <|
    al (s_scalli ⟨hx, hb, hml, hown, hts⟩ hA hK hrR ct1_isIn (cwS 3 hts gX1_about_X1_isIn rfl (rm := rm1_isIn) rfl rfl (by decide +kernel) ⟨Nat.le_trans (Nat.le_of_ble_eq_true rfl) hFr, Nat.le_trans (Nat.le_of_ble_eq_true rfl) hLo⟩) dX1_about_17 rfl) <|
    al (s_if_eq hx hb (by decide) dX1_about_20 rfl) <|
    al (s_aload_n hx hb (i := 0) rfl dX1_about_23 rfl) <|
    al (s_iload_n hx hb (i := 1) rfl dX1_about_24 rfl) <|
    al (s_iload_n hx hb (i := 2) rfl dX1_about_25 rfl) <|
    al (s_acalli ⟨hx, hb, hml, hown, hts⟩ hA hK hrel hRc hRs rfl ct1_kindTold (cwV 2 hts gX1_about_X1_kindTold rfl (rm := rm1_kindTold) rfl rfl (by decide +kernel) ⟨Nat.le_trans (Nat.le_of_ble_eq_true rfl) hFr, Nat.le_trans (Nat.le_of_ble_eq_true rfl) hLo⟩) rfl dX1_about_26 rfl) <|
    al (s_goto hx hb (by decide) dX1_about_29) <|
    al (s_aload_n hx hb (i := 0) rfl dX1_about_32 rfl) <|
    al (s_iconst hx hb dX1_about_33 rfl) <|
    al (s_calli ⟨hx, hb, hml, hown, hts⟩ hA hK hrR rfl ct1_no (cwV 1 hts gX1_about_X1_no rfl (rm := rm1_no) rfl rfl (by decide +kernel) ⟨Nat.le_trans (Nat.le_of_ble_eq_true rfl) hFr, Nat.le_trans (Nat.le_of_ble_eq_true rfl) hLo⟩) rfl dX1_about_34 rfl) <|
    al ((fun lv st S h => hE _ lv st S dX1_about_37 h)) <| an
theorem ct1_about : CtAI 1 ly1 ja1 yX1_about wsX1_about rm1_about 1 8 X1_about := mk_Ia (C := RX1) (strs := xstrs) T1_about (by decide) rfl rfl (Nat.le_of_ble_eq_true rfl) (Nat.le_of_ble_eq_true rfl) (Fr := 3) (Lo := 68) (Nat.le_of_ble_eq_true rfl) (Nat.le_of_ble_eq_true rfl) (by decide) (by decide) (fun Q => sn1_about Q nox)
abbrev rm1_counted : Room := { frames := 1, cells := 1, slots := 7, locals := 21 }
set_option maxRecDepth 20000 in
set_option maxHeartbeats 4000000 in
theorem sn1_counted (Q : Int → ST → Prop) (Qx : String → ST → Prop) : SndT RX1 xstrs 1 ly1 ja1 cX1_counted 6 (some .int) wsX1_counted 1 21 Qx (EI cX1_counted Q) (relQ 1 7) (T1_counted Q Qx) := by
  intro p l e R s m args below meth c Qf D cA A AD rel hC hFr hLo hK hA hrel hT hE
  obtain ⟨⟨hx, hb, hml, hown, hts⟩, hlk, hr⟩ := hC
  obtain ⟨hrel, hRc, hRs, hAD⟩ := hrel
  have hrR : ∀ k c n, rel k c n → c ≤ R.cells ∧ n ≤ R.slots := fun k c n h => by rw [hrel] at h; exact ⟨Nat.le_trans h.2.2.1 hRc, Nat.le_trans h.2.2.2 hRs⟩
  have hin : ∀ w ∈ u_ws RX1 TX1 15, w ∈ wsX1_counted := by decide +kernel
  have hf1 := hts (.fieldLink RX1 44 "CellTraysModel" "kinds" "I") (by decide +kernel)
  have hf5 := hts (.fieldLink RX1 19 "CellTraysModel" "of" "[I") (by decide +kernel)
  have hf7 := hts (.fieldLink RX1 25 "CellTraysModel" "many" "[I") (by decide +kernel)
  have hf9 := hts (.fieldLink RX1 51 "CellTraysModel" "things" "I") (by decide +kernel)
  have hf13 := hts (.fieldLink RX1 75 "CellTraysModel" "gone" "I") (by decide +kernel)
  have hf14 := hts (.fieldLink RX1 112 "CellTraysModel" "moved" "I") (by decide +kernel)
  exact al (s_iconst hx hb dX1_counted_0 rfl) <|
    al (s_istore_n hx hb (i := 2) rfl dX1_counted_1 rfl (by decide)) <|
    al (s_iconst hx hb dX1_counted_2 rfl) <|
    al (s_istore_n hx hb (i := 3) rfl dX1_counted_3 rfl (by decide)) <|
    al (s_iconst hx hb dX1_counted_4 rfl) <|
    al (s_istore hx hb dX1_counted_5 rfl (by decide)) <|
    al (s_iconst hx hb dX1_counted_7 rfl) <|
    al (s_istore hx hb dX1_counted_8 rfl (by decide)) <|
    al (s_iload hx hb dX1_counted_10 rfl) <|
    al (s_bipush hx hb dX1_counted_12 rfl (by decide)) <|
    al (s_icmp_ge hx hb (by decide) dX1_counted_14 rfl) <|
    al (s_aload_n hx hb (i := 0) rfl dX1_counted_17 rfl) <|
    al (s_getA (N := 15) hx hb hts hin hown hK rfl (k := 5) (by decide) hf5 rfl dX1_counted_18 rfl rfl (by decide)) <|
    al (s_iload hx hb dX1_counted_21 rfl) <|
    al (s_iald hx hb hK hln1 dX1_counted_23 rfl) <|
    al (s_iconst hx hb dX1_counted_24 rfl) <|
    al (s_icmp_ne hx hb (by decide) dX1_counted_25 rfl) <|
    al (s_goto hx hb (by decide) dX1_counted_28) <|
    al (s_iinc hx hb dX1_counted_31 rfl (by decide)) <|
    al (s_iload_n hx hb (i := 3) rfl dX1_counted_34 rfl) <|
    al (s_aload_n hx hb (i := 0) rfl dX1_counted_35 rfl) <|
    al (s_getA (N := 15) hx hb hts hin hown hK rfl (k := 7) (by decide) hf7 rfl dX1_counted_36 rfl rfl (by decide)) <|
    al (s_iload hx hb dX1_counted_39 rfl) <|
    al (s_iald hx hb hK hln1 dX1_counted_41 rfl) <|
    al (s_iadd hx hb dX1_counted_42 rfl) <|
    al (s_istore_n hx hb (i := 3) rfl dX1_counted_43 rfl (by decide)) <|
    al (s_iload hx hb dX1_counted_44 rfl) <|
    al (s_aload_n hx hb (i := 0) rfl dX1_counted_46 rfl) <|
    al (s_iload hx hb dX1_counted_47 rfl) <|
    al (s_calli ⟨hx, hb, hml, hown, hts⟩ hA hK hrR rfl ct1_wasted (cwV 1 hts gX1_counted_X1_wasted rfl (rm := rm1_wasted) rfl rfl (by decide +kernel) ⟨Nat.le_trans (Nat.le_of_ble_eq_true rfl) hFr, Nat.le_trans (Nat.le_of_ble_eq_true rfl) hLo⟩) rfl dX1_counted_49 rfl) <|
    al (s_iadd hx hb dX1_counted_52 rfl) <|
    al (s_istore hx hb dX1_counted_53 rfl (by decide)) <|
    al (s_iinc hx hb dX1_counted_55 rfl (by decide)) <|
    al (s_goto hx hb (by decide) dX1_counted_58) <|
    al (s_bipush hx hb dX1_counted_61 rfl (by decide)) <|
    al (s_tnew hx hb hAD hK hA hRc hRs hrel (hts (.arrayClass .int) (by decide +kernel)) (by decide) (by decide) dX1_counted_63 rfl) <|
    al (s_dup hx hb dX1_counted_65 rfl) <|
    al (s_iconst hx hb dX1_counted_66 rfl) <|
    al (s_aload_n hx hb (i := 0) rfl dX1_counted_67 rfl) <|
    al (s_getI (N := 15) hx hb hts hin hown hK rfl (k := 1) (by decide) hf1 rfl dX1_counted_68 rfl rfl) <|
    al (s_tast hx hb hK dX1_counted_71 rfl) <|
    al (s_dup hx hb dX1_counted_72 rfl) <|
    al (s_iconst hx hb dX1_counted_73 rfl) <|
    al (s_iload_n hx hb (i := 2) rfl dX1_counted_74 rfl) <|
    al (s_tast hx hb hK dX1_counted_75 rfl) <|
    al (s_dup hx hb dX1_counted_76 rfl) <|
    al (s_iconst hx hb dX1_counted_77 rfl) <|
    al (s_iload_n hx hb (i := 3) rfl dX1_counted_78 rfl) <|
    al (s_tast hx hb hK dX1_counted_79 rfl) <|
    al (s_dup hx hb dX1_counted_80 rfl) <|
    al (s_iconst hx hb dX1_counted_81 rfl) <|
    al (s_aload_n hx hb (i := 0) rfl dX1_counted_82 rfl) <|
    al (s_getI (N := 15) hx hb hts hin hown hK rfl (k := 9) (by decide) hf9 rfl dX1_counted_83 rfl rfl) <|
    al (s_tast hx hb hK dX1_counted_86 rfl) <|
    al (s_dup hx hb dX1_counted_87 rfl) <|
    al (s_iconst hx hb dX1_counted_88 rfl) <|
    al (s_iload hx hb dX1_counted_89 rfl) <|
    al (s_tast hx hb hK dX1_counted_91 rfl) <|
    al (s_dup hx hb dX1_counted_92 rfl) <|
    al (s_iconst hx hb dX1_counted_93 rfl) <|
    al (s_aload_n hx hb (i := 0) rfl dX1_counted_94 rfl) <|
    al (s_getI (N := 15) hx hb hts hin hown hK rfl (k := 13) (by decide) hf13 rfl dX1_counted_95 rfl rfl) <|
    al (s_tast hx hb hK dX1_counted_98 rfl) <|
    al (s_dup hx hb dX1_counted_99 rfl) <|
    al (s_bipush hx hb dX1_counted_100 rfl (by decide)) <|
    al (s_aload_n hx hb (i := 0) rfl dX1_counted_102 rfl) <|
    al (s_getI (N := 15) hx hb hts hin hown hK rfl (k := 14) (by decide) hf14 rfl dX1_counted_103 rfl rfl) <|
    al (s_tast hx hb hK dX1_counted_106 rfl) <|
    al (s_astore hx hb dX1_counted_107 rfl (by decide)) <|
    al (s_aload hx hb dX1_counted_109 rfl) <|
    al (s_iload_n hx hb (i := 1) rfl dX1_counted_111 rfl) <|
    al (s_tald hx hb hK dX1_counted_112 rfl) <|
    al ((fun lv st S h => hE _ lv st S dX1_counted_113 h)) <| an
theorem ct1_counted : CtAI 1 ly1 ja1 yX1_counted wsX1_counted rm1_counted 1 7 X1_counted := mk_Ia (C := RX1) (strs := xstrs) T1_counted (by decide) rfl rfl (Nat.le_of_ble_eq_true rfl) (Nat.le_of_ble_eq_true rfl) (Fr := 1) (Lo := 21) (Nat.le_of_ble_eq_true rfl) (Nat.le_of_ble_eq_true rfl) (by decide) (by decide) (fun Q => sn1_counted Q nox)
abbrev rm1_count : Room := { frames := 2, cells := 1, slots := 7, locals := 46 }
set_option maxRecDepth 20000 in
set_option maxHeartbeats 4000000 in
theorem sn1_count (Q : Int → ST → Prop) (Qx : String → ST → Prop) : SndT RX1 xstrs 1 ly1 ja1 cX1_count 2 (some .int) wsX1_count 2 46 Qx (EI cX1_count Q) (relQ 1 7) (T1_count Q Qx) := by
  intro p l e R s m args below meth c Qf D cA A AD rel hC hFr hLo hK hA hrel hT hE
  obtain ⟨⟨hx, hb, hml, hown, hts⟩, hlk, hr⟩ := hC
  obtain ⟨hrel, hRc, hRs, hAD⟩ := hrel
  have hrR : ∀ k c n, rel k c n → c ≤ R.cells ∧ n ≤ R.slots := fun k c n h => by rw [hrel] at h; exact ⟨Nat.le_trans h.2.2.1 hRc, Nat.le_trans h.2.2.2 hRs⟩
  have hin : ∀ w ∈ u_ws RX1 TX1 15, w ∈ wsX1_count := by decide +kernel
  have hf0 := hts (.fieldLink RX1 40 "CellTraysModel" "thrown" "I") (by decide +kernel)
  exact al (s_aload_n hx hb (i := 0) rfl dX1_count_0 rfl) <|
    al (s_iconst hx hb dX1_count_1 rfl) <|
    al (s_putI (N := 15) hx hb hts hin hown hK rfl (k := 0) (by decide) hf0 rfl tyX1 tyX1_ok nmX1 rfl (by decide +kernel) dX1_count_2 rfl rfl) <|
    al (s_iload_n hx hb (i := 1) rfl dX1_count_5 rfl) <|
    al (s_iconst hx hb dX1_count_6 rfl) <|
    al (s_bipush hx hb dX1_count_7 rfl (by decide)) <|
    al (s_scalli ⟨hx, hb, hml, hown, hts⟩ hA hK hrR ct1_isIn (cwS 3 hts gX1_count_X1_isIn rfl (rm := rm1_isIn) rfl rfl (by decide +kernel) ⟨Nat.le_trans (Nat.le_of_ble_eq_true rfl) hFr, Nat.le_trans (Nat.le_of_ble_eq_true rfl) hLo⟩) dX1_count_9 rfl) <|
    al (s_if_eq hx hb (by decide) dX1_count_12 rfl) <|
    al (s_aload_n hx hb (i := 0) rfl dX1_count_15 rfl) <|
    al (s_iload_n hx hb (i := 1) rfl dX1_count_16 rfl) <|
    al (s_acalli ⟨hx, hb, hml, hown, hts⟩ hA hK hrel hRc hRs rfl ct1_counted (cwV 1 hts gX1_count_X1_counted rfl (rm := rm1_counted) rfl rfl (by decide +kernel) ⟨Nat.le_trans (Nat.le_of_ble_eq_true rfl) hFr, Nat.le_trans (Nat.le_of_ble_eq_true rfl) hLo⟩) rfl dX1_count_17 rfl) <|
    al (s_goto hx hb (by decide) dX1_count_20) <|
    al (s_aload_n hx hb (i := 0) rfl dX1_count_23 rfl) <|
    al (s_iconst hx hb dX1_count_24 rfl) <|
    al (s_calli ⟨hx, hb, hml, hown, hts⟩ hA hK hrR rfl ct1_no (cwV 1 hts gX1_count_X1_no rfl (rm := rm1_no) rfl rfl (by decide +kernel) ⟨Nat.le_trans (Nat.le_of_ble_eq_true rfl) hFr, Nat.le_trans (Nat.le_of_ble_eq_true rfl) hLo⟩) rfl dX1_count_25 rfl) <|
    al ((fun lv st S h => hE _ lv st S dX1_count_28 h)) <| an
theorem ct1_count : CtAI 1 ly1 ja1 yX1_count wsX1_count rm1_count 1 7 X1_count := mk_Ia (C := RX1) (strs := xstrs) T1_count (by decide) rfl rfl (Nat.le_of_ble_eq_true rfl) (Nat.le_of_ble_eq_true rfl) (Fr := 2) (Lo := 46) (Nat.le_of_ble_eq_true rfl) (Nat.le_of_ble_eq_true rfl) (by decide) (by decide) (fun Q => sn1_count Q nox)
abbrev rm1_would : Room := { frames := 4, cells := 0, slots := 0, locals := 89 }
set_option maxRecDepth 20000 in
set_option maxHeartbeats 4000000 in
theorem sn1_would (Q : Int → ST → Prop) (Qx : String → ST → Prop) : SndT RX1 xstrs 1 ly1 ja1 cX1_would 2 (some .int) wsX1_would 4 89 Qx (EI cX1_would Q) relP (T1_would Q Qx) := by
  intro p l e R s m args below meth c Qf D cA A AD rel hC hFr hLo hK hA hrel hT hE
  obtain ⟨⟨hx, hb, hml, hown, hts⟩, hlk, hr⟩ := hC
  have hrR := hrel
  have hin : ∀ w ∈ u_ws RX1 TX1 15, w ∈ wsX1_would := by decide +kernel
  have hf0 := hts (.fieldLink RX1 40 "CellTraysModel" "thrown" "I") (by decide +kernel)
  exact al (s_aload_n hx hb (i := 0) rfl dX1_would_0 rfl) <|
    al (s_iconst hx hb dX1_would_1 rfl) <|
    al (s_putI (N := 15) hx hb hts hin hown hK rfl (k := 0) (by decide) hf0 rfl tyX1 tyX1_ok nmX1 rfl (by decide +kernel) dX1_would_2 rfl rfl) <|
    al (s_aload_n hx hb (i := 0) rfl dX1_would_5 rfl) <|
    al (s_iload_n hx hb (i := 1) rfl dX1_would_6 rfl) <|
    al (s_calli ⟨hx, hb, hml, hown, hts⟩ hA hK hrR rfl ct1_isKind (cwV 1 hts gX1_would_X1_isKind rfl (rm := rm1_isKind) rfl rfl (by decide +kernel) ⟨Nat.le_trans (Nat.le_of_ble_eq_true rfl) hFr, Nat.le_trans (Nat.le_of_ble_eq_true rfl) hLo⟩) rfl dX1_would_7 rfl) <|
    al (s_if_eq hx hb (by decide) dX1_would_10 rfl) <|
    al (s_aload_n hx hb (i := 0) rfl dX1_would_13 rfl) <|
    al (s_iload_n hx hb (i := 1) rfl dX1_would_14 rfl) <|
    al (s_calli ⟨hx, hb, hml, hown, hts⟩ hA hK hrR rfl ct1_goesTo (cwV 1 hts gX1_would_X1_goesTo rfl (rm := rm1_goesTo) rfl rfl (by decide +kernel) ⟨Nat.le_trans (Nat.le_of_ble_eq_true rfl) hFr, Nat.le_trans (Nat.le_of_ble_eq_true rfl) hLo⟩) rfl dX1_would_15 rfl) <|
    al (s_goto hx hb (by decide) dX1_would_18) <|
    al (s_aload_n hx hb (i := 0) rfl dX1_would_21 rfl) <|
    al (s_iconst hx hb dX1_would_22 rfl) <|
    al (s_calli ⟨hx, hb, hml, hown, hts⟩ hA hK hrR rfl ct1_no (cwV 1 hts gX1_would_X1_no rfl (rm := rm1_no) rfl rfl (by decide +kernel) ⟨Nat.le_trans (Nat.le_of_ble_eq_true rfl) hFr, Nat.le_trans (Nat.le_of_ble_eq_true rfl) hLo⟩) rfl dX1_would_23 rfl) <|
    al ((fun lv st S h => hE _ lv st S dX1_would_26 h)) <| an
theorem ct1_would : CtI 1 ly1 ja1 yX1_would wsX1_would rm1_would X1_would := mk_I (C := RX1) (strs := xstrs) T1_would (by decide) rfl rfl rfl rfl (Fr := 4) (Lo := 89) (Nat.le_of_ble_eq_true rfl) (Nat.le_of_ble_eq_true rfl) (fun Q => sn1_would Q nox)
abbrev rm1_spares : Room := { frames := 2, cells := 0, slots := 0, locals := 43 }
set_option maxRecDepth 20000 in
set_option maxHeartbeats 4000000 in
theorem sn1_spares (Q : Int → ST → Prop) (Qx : String → ST → Prop) : SndT RX1 xstrs 1 ly1 ja1 cX1_spares 2 (some .int) wsX1_spares 2 43 Qx (EI cX1_spares Q) relP (T1_spares Q Qx) := by
  intro p l e R s m args below meth c Qf D cA A AD rel hC hFr hLo hK hA hrel hT hE
  obtain ⟨⟨hx, hb, hml, hown, hts⟩, hlk, hr⟩ := hC
  have hrR := hrel
  have hin : ∀ w ∈ u_ws RX1 TX1 15, w ∈ wsX1_spares := by decide +kernel
  have hf0 := hts (.fieldLink RX1 40 "CellTraysModel" "thrown" "I") (by decide +kernel)
  exact al (s_aload_n hx hb (i := 0) rfl dX1_spares_0 rfl) <|
    al (s_iconst hx hb dX1_spares_1 rfl) <|
    al (s_putI (N := 15) hx hb hts hin hown hK rfl (k := 0) (by decide) hf0 rfl tyX1 tyX1_ok nmX1 rfl (by decide +kernel) dX1_spares_2 rfl rfl) <|
    al (s_aload_n hx hb (i := 0) rfl dX1_spares_5 rfl) <|
    al (s_iload_n hx hb (i := 1) rfl dX1_spares_6 rfl) <|
    al (s_calli ⟨hx, hb, hml, hown, hts⟩ hA hK hrR rfl ct1_isKind (cwV 1 hts gX1_spares_X1_isKind rfl (rm := rm1_isKind) rfl rfl (by decide +kernel) ⟨Nat.le_trans (Nat.le_of_ble_eq_true rfl) hFr, Nat.le_trans (Nat.le_of_ble_eq_true rfl) hLo⟩) rfl dX1_spares_7 rfl) <|
    al (s_if_ne hx hb (by decide) dX1_spares_10 rfl) <|
    al (s_aload_n hx hb (i := 0) rfl dX1_spares_13 rfl) <|
    al (s_iconst hx hb dX1_spares_14 rfl) <|
    al (s_calli ⟨hx, hb, hml, hown, hts⟩ hA hK hrR rfl ct1_no (cwV 1 hts gX1_spares_X1_no rfl (rm := rm1_no) rfl rfl (by decide +kernel) ⟨Nat.le_trans (Nat.le_of_ble_eq_true rfl) hFr, Nat.le_trans (Nat.le_of_ble_eq_true rfl) hLo⟩) rfl dX1_spares_15 rfl) <|
    al ((fun lv st S h => hE _ lv st S dX1_spares_18 h)) <|
    al (s_aload_n hx hb (i := 0) rfl dX1_spares_19 rfl) <|
    al (s_iload_n hx hb (i := 1) rfl dX1_spares_20 rfl) <|
    al (s_calli ⟨hx, hb, hml, hown, hts⟩ hA hK hrR rfl ct1_trays (cwV 1 hts gX1_spares_X1_trays rfl (rm := rm1_trays) rfl rfl (by decide +kernel) ⟨Nat.le_trans (Nat.le_of_ble_eq_true rfl) hFr, Nat.le_trans (Nat.le_of_ble_eq_true rfl) hLo⟩) rfl dX1_spares_21 rfl) <|
    al (s_aload_n hx hb (i := 0) rfl dX1_spares_24 rfl) <|
    al (s_iload_n hx hb (i := 1) rfl dX1_spares_25 rfl) <|
    al (s_calli ⟨hx, hb, hml, hown, hts⟩ hA hK hrR rfl ct1_lying (cwV 1 hts gX1_spares_X1_lying rfl (rm := rm1_lying) rfl rfl (by decide +kernel) ⟨Nat.le_trans (Nat.le_of_ble_eq_true rfl) hFr, Nat.le_trans (Nat.le_of_ble_eq_true rfl) hLo⟩) rfl dX1_spares_26 rfl) <|
    al (s_aload_n hx hb (i := 0) rfl dX1_spares_29 rfl) <|
    al (s_iload_n hx hb (i := 1) rfl dX1_spares_30 rfl) <|
    al (s_calli ⟨hx, hb, hml, hown, hts⟩ hA hK hrR rfl ct1_cells (cwV 1 hts gX1_spares_X1_cells rfl (rm := rm1_cells) rfl rfl (by decide +kernel) ⟨Nat.le_trans (Nat.le_of_ble_eq_true rfl) hFr, Nat.le_trans (Nat.le_of_ble_eq_true rfl) hLo⟩) rfl dX1_spares_31 rfl) <|
    al (s_iadd hx hb dX1_spares_34 rfl) <|
    al (s_iconst hx hb dX1_spares_35 rfl) <|
    al (s_isub hx hb dX1_spares_36 rfl) <|
    al (s_aload_n hx hb (i := 0) rfl dX1_spares_37 rfl) <|
    al (s_iload_n hx hb (i := 1) rfl dX1_spares_38 rfl) <|
    al (s_calli ⟨hx, hb, hml, hown, hts⟩ hA hK hrR rfl ct1_cells (cwV 1 hts gX1_spares_X1_cells rfl (rm := rm1_cells) rfl rfl (by decide +kernel) ⟨Nat.le_trans (Nat.le_of_ble_eq_true rfl) hFr, Nat.le_trans (Nat.le_of_ble_eq_true rfl) hLo⟩) rfl dX1_spares_39 rfl) <|
    al (s_idiv hx hb dX1_spares_42 rfl) <|
    al (s_isub hx hb dX1_spares_43 rfl) <|
    al ((fun lv st S h => hE _ lv st S dX1_spares_44 h)) <| an
theorem ct1_spares : CtI 1 ly1 ja1 yX1_spares wsX1_spares rm1_spares X1_spares := mk_I (C := RX1) (strs := xstrs) T1_spares (by decide) rfl rfl rfl rfl (Fr := 2) (Lo := 43) (Nat.le_of_ble_eq_true rfl) (Nat.le_of_ble_eq_true rfl) (fun Q => sn1_spares Q nox)
abbrev rm1_room : Room := { frames := 2, cells := 0, slots := 0, locals := 43 }
set_option maxRecDepth 20000 in
set_option maxHeartbeats 4000000 in
theorem sn1_room (Q : Int → ST → Prop) (Qx : String → ST → Prop) : SndT RX1 xstrs 1 ly1 ja1 cX1_room 2 (some .int) wsX1_room 2 43 Qx (EI cX1_room Q) relP (T1_room Q Qx) := by
  intro p l e R s m args below meth c Qf D cA A AD rel hC hFr hLo hK hA hrel hT hE
  obtain ⟨⟨hx, hb, hml, hown, hts⟩, hlk, hr⟩ := hC
  have hrR := hrel
  have hin : ∀ w ∈ u_ws RX1 TX1 15, w ∈ wsX1_room := by decide +kernel
  have hf0 := hts (.fieldLink RX1 40 "CellTraysModel" "thrown" "I") (by decide +kernel)
  exact al (s_aload_n hx hb (i := 0) rfl dX1_room_0 rfl) <|
    al (s_iconst hx hb dX1_room_1 rfl) <|
    al (s_putI (N := 15) hx hb hts hin hown hK rfl (k := 0) (by decide) hf0 rfl tyX1 tyX1_ok nmX1 rfl (by decide +kernel) dX1_room_2 rfl rfl) <|
    al (s_aload_n hx hb (i := 0) rfl dX1_room_5 rfl) <|
    al (s_iload_n hx hb (i := 1) rfl dX1_room_6 rfl) <|
    al (s_calli ⟨hx, hb, hml, hown, hts⟩ hA hK hrR rfl ct1_isKind (cwV 1 hts gX1_room_X1_isKind rfl (rm := rm1_isKind) rfl rfl (by decide +kernel) ⟨Nat.le_trans (Nat.le_of_ble_eq_true rfl) hFr, Nat.le_trans (Nat.le_of_ble_eq_true rfl) hLo⟩) rfl dX1_room_7 rfl) <|
    al (s_if_eq hx hb (by decide) dX1_room_10 rfl) <|
    al (s_aload_n hx hb (i := 0) rfl dX1_room_13 rfl) <|
    al (s_iload_n hx hb (i := 1) rfl dX1_room_14 rfl) <|
    al (s_calli ⟨hx, hb, hml, hown, hts⟩ hA hK hrR rfl ct1_trays (cwV 1 hts gX1_room_X1_trays rfl (rm := rm1_trays) rfl rfl (by decide +kernel) ⟨Nat.le_trans (Nat.le_of_ble_eq_true rfl) hFr, Nat.le_trans (Nat.le_of_ble_eq_true rfl) hLo⟩) rfl dX1_room_15 rfl) <|
    al (s_aload_n hx hb (i := 0) rfl dX1_room_18 rfl) <|
    al (s_iconst hx hb dX1_room_19 rfl) <|
    al (s_calli ⟨hx, hb, hml, hown, hts⟩ hA hK hrR rfl ct1_trays (cwV 1 hts gX1_room_X1_trays rfl (rm := rm1_trays) rfl rfl (by decide +kernel) ⟨Nat.le_trans (Nat.le_of_ble_eq_true rfl) hFr, Nat.le_trans (Nat.le_of_ble_eq_true rfl) hLo⟩) rfl dX1_room_20 rfl) <|
    al (s_iadd hx hb dX1_room_23 rfl) <|
    al (s_aload_n hx hb (i := 0) rfl dX1_room_24 rfl) <|
    al (s_iload_n hx hb (i := 1) rfl dX1_room_25 rfl) <|
    al (s_calli ⟨hx, hb, hml, hown, hts⟩ hA hK hrR rfl ct1_cells (cwV 1 hts gX1_room_X1_cells rfl (rm := rm1_cells) rfl rfl (by decide +kernel) ⟨Nat.le_trans (Nat.le_of_ble_eq_true rfl) hFr, Nat.le_trans (Nat.le_of_ble_eq_true rfl) hLo⟩) rfl dX1_room_26 rfl) <|
    al (s_imul hx hb dX1_room_29 rfl) <|
    al (s_aload_n hx hb (i := 0) rfl dX1_room_30 rfl) <|
    al (s_iload_n hx hb (i := 1) rfl dX1_room_31 rfl) <|
    al (s_calli ⟨hx, hb, hml, hown, hts⟩ hA hK hrR rfl ct1_lying (cwV 1 hts gX1_room_X1_lying rfl (rm := rm1_lying) rfl rfl (by decide +kernel) ⟨Nat.le_trans (Nat.le_of_ble_eq_true rfl) hFr, Nat.le_trans (Nat.le_of_ble_eq_true rfl) hLo⟩) rfl dX1_room_32 rfl) <|
    al (s_isub hx hb dX1_room_35 rfl) <|
    al (s_goto hx hb (by decide) dX1_room_36) <|
    al (s_aload_n hx hb (i := 0) rfl dX1_room_39 rfl) <|
    al (s_iconst hx hb dX1_room_40 rfl) <|
    al (s_calli ⟨hx, hb, hml, hown, hts⟩ hA hK hrR rfl ct1_no (cwV 1 hts gX1_room_X1_no rfl (rm := rm1_no) rfl rfl (by decide +kernel) ⟨Nat.le_trans (Nat.le_of_ble_eq_true rfl) hFr, Nat.le_trans (Nat.le_of_ble_eq_true rfl) hLo⟩) rfl dX1_room_41 rfl) <|
    al ((fun lv st S h => hE _ lv st S dX1_room_44 h)) <| an
theorem ct1_room : CtI 1 ly1 ja1 yX1_room wsX1_room rm1_room X1_room := mk_I (C := RX1) (strs := xstrs) T1_room (by decide) rfl rfl rfl rfl (Fr := 2) (Lo := 43) (Nat.le_of_ble_eq_true rfl) (Nat.le_of_ble_eq_true rfl) (fun Q => sn1_room Q nox)
abbrev rm1_worst : Room := { frames := 1, cells := 0, slots := 0, locals := 23 }
set_option maxRecDepth 20000 in
set_option maxHeartbeats 4000000 in
theorem sn1_worst (Q : Int → ST → Prop) (Qx : String → ST → Prop) : SndT RX1 xstrs 1 ly1 ja1 cX1_worst 5 (some .int) wsX1_worst 1 23 Qx (EI cX1_worst Q) relP (T1_worst Q Qx) := by
  intro p l e R s m args below meth c Qf D cA A AD rel hC hFr hLo hK hA hrel hT hE
  obtain ⟨⟨hx, hb, hml, hown, hts⟩, hlk, hr⟩ := hC
  have hrR := hrel
  have hin : ∀ w ∈ u_ws RX1 TX1 15, w ∈ wsX1_worst := by decide +kernel
  have hf0 := hts (.fieldLink RX1 40 "CellTraysModel" "thrown" "I") (by decide +kernel)
  have hf1 := hts (.fieldLink RX1 44 "CellTraysModel" "kinds" "I") (by decide +kernel)
  have hf2 := hts (.fieldLink RX1 9 "CellTraysModel" "size" "[I") (by decide +kernel)
  exact al (s_aload_n hx hb (i := 0) rfl dX1_worst_0 rfl) <|
    al (s_iconst hx hb dX1_worst_1 rfl) <|
    al (s_putI (N := 15) hx hb hts hin hown hK rfl (k := 0) (by decide) hf0 rfl tyX1 tyX1_ok nmX1 rfl (by decide +kernel) dX1_worst_2 rfl rfl) <|
    al (s_iconst hx hb dX1_worst_5 rfl) <|
    al (s_istore_n hx hb (i := 1) rfl dX1_worst_6 rfl (by decide)) <|
    al (s_iconst hx hb dX1_worst_7 rfl) <|
    al (s_istore_n hx hb (i := 2) rfl dX1_worst_8 rfl (by decide)) <|
    al (s_iconst hx hb dX1_worst_9 rfl) <|
    al (s_istore_n hx hb (i := 3) rfl dX1_worst_10 rfl (by decide)) <|
    al (s_iload_n hx hb (i := 3) rfl dX1_worst_11 rfl) <|
    al (s_aload_n hx hb (i := 0) rfl dX1_worst_12 rfl) <|
    al (s_getI (N := 15) hx hb hts hin hown hK rfl (k := 1) (by decide) hf1 rfl dX1_worst_13 rfl rfl) <|
    al (s_icmp_ge hx hb (by decide) dX1_worst_16 rfl) <|
    al (s_bipush hx hb dX1_worst_19 rfl (by decide)) <|
    al (s_aload_n hx hb (i := 0) rfl dX1_worst_21 rfl) <|
    al (s_iload_n hx hb (i := 3) rfl dX1_worst_22 rfl) <|
    al (s_calli ⟨hx, hb, hml, hown, hts⟩ hA hK hrR rfl ct1_trays (cwV 1 hts gX1_worst_X1_trays rfl (rm := rm1_trays) rfl rfl (by decide +kernel) ⟨Nat.le_trans (Nat.le_of_ble_eq_true rfl) hFr, Nat.le_trans (Nat.le_of_ble_eq_true rfl) hLo⟩) rfl dX1_worst_23 rfl) <|
    al (s_imul hx hb dX1_worst_26 rfl) <|
    al (s_aload_n hx hb (i := 0) rfl dX1_worst_27 rfl) <|
    al (s_getA (N := 15) hx hb hts hin hown hK rfl (k := 2) (by decide) hf2 rfl dX1_worst_28 rfl rfl (by decide)) <|
    al (s_iload_n hx hb (i := 3) rfl dX1_worst_31 rfl) <|
    al (s_iald hx hb hK hln1 dX1_worst_32 rfl) <|
    al (s_aload_n hx hb (i := 0) rfl dX1_worst_33 rfl) <|
    al (s_iload_n hx hb (i := 3) rfl dX1_worst_34 rfl) <|
    al (s_calli ⟨hx, hb, hml, hown, hts⟩ hA hK hrR rfl ct1_lying (cwV 1 hts gX1_worst_X1_lying rfl (rm := rm1_lying) rfl rfl (by decide +kernel) ⟨Nat.le_trans (Nat.le_of_ble_eq_true rfl) hFr, Nat.le_trans (Nat.le_of_ble_eq_true rfl) hLo⟩) rfl dX1_worst_35 rfl) <|
    al (s_imul hx hb dX1_worst_38 rfl) <|
    al (s_isub hx hb dX1_worst_39 rfl) <|
    al (s_istore hx hb dX1_worst_40 rfl (by decide)) <|
    al (s_iload hx hb dX1_worst_42 rfl) <|
    al (s_iload_n hx hb (i := 2) rfl dX1_worst_44 rfl) <|
    al (s_icmp_gt hx hb (by decide) dX1_worst_45 rfl) <|
    al (s_goto hx hb (by decide) dX1_worst_48) <|
    al (s_iload hx hb dX1_worst_51 rfl) <|
    al (s_istore_n hx hb (i := 2) rfl dX1_worst_53 rfl (by decide)) <|
    al (s_iload_n hx hb (i := 3) rfl dX1_worst_54 rfl) <|
    al (s_istore_n hx hb (i := 1) rfl dX1_worst_55 rfl (by decide)) <|
    al (s_iinc hx hb dX1_worst_56 rfl (by decide)) <|
    al (s_goto hx hb (by decide) dX1_worst_59) <|
    al (s_iload_n hx hb (i := 1) rfl dX1_worst_62 rfl) <|
    al ((fun lv st S h => hE _ lv st S dX1_worst_63 h)) <| an
theorem ct1_worst : CtI 1 ly1 ja1 yX1_worst wsX1_worst rm1_worst X1_worst := mk_I (C := RX1) (strs := xstrs) T1_worst (by decide) rfl rfl rfl rfl (Fr := 1) (Lo := 23) (Nat.le_of_ble_eq_true rfl) (Nat.le_of_ble_eq_true rfl) (fun Q => sn1_worst Q nox)
abbrev rm1_mean : Room := { frames := 2, cells := 3, slots := 21, locals := 46 }
set_option maxRecDepth 20000 in
set_option maxHeartbeats 4000000 in
theorem sn1_mean (Q : UInt64 → ST → Prop) (Qx : String → ST → Prop) : SndT RX1 xstrs 1 ly1 ja1 cX1_mean 1 (some .double) wsX1_mean 2 46 Qx (ED cX1_mean Q) (relQ 3 21) (T1_mean Q Qx) := by
  intro p l e R s m args below meth c Qf D cA A AD rel hC hFr hLo hK hA hrel hT hE
  obtain ⟨⟨hx, hb, hml, hown, hts⟩, hlk, hr⟩ := hC
  obtain ⟨hrel, hRc, hRs, hAD⟩ := hrel
  have hrR : ∀ k c n, rel k c n → c ≤ R.cells ∧ n ≤ R.slots := fun k c n h => by rw [hrel] at h; exact ⟨Nat.le_trans h.2.2.1 hRc, Nat.le_trans h.2.2.2 hRs⟩
  have hin : ∀ w ∈ u_ws RX1 TX1 15, w ∈ wsX1_mean := by decide +kernel
  have hf0 := hts (.fieldLink RX1 40 "CellTraysModel" "thrown" "I") (by decide +kernel)
  exact al (s_aload_n hx hb (i := 0) rfl dX1_mean_0 rfl) <|
    al (s_iconst hx hb dX1_mean_1 rfl) <|
    al (s_putI (N := 15) hx hb hts hin hown hK rfl (k := 0) (by decide) hf0 rfl tyX1 tyX1_ok nmX1 rfl (by decide +kernel) dX1_mean_2 rfl rfl) <|
    al (s_aload_n hx hb (i := 0) rfl dX1_mean_5 rfl) <|
    al (s_iconst hx hb dX1_mean_6 rfl) <|
    al (s_acalli ⟨hx, hb, hml, hown, hts⟩ hA hK hrel hRc hRs rfl ct1_counted (cwV 1 hts gX1_mean_X1_counted rfl (rm := rm1_counted) rfl rfl (by decide +kernel) ⟨Nat.le_trans (Nat.le_of_ble_eq_true rfl) hFr, Nat.le_trans (Nat.le_of_ble_eq_true rfl) hLo⟩) rfl dX1_mean_7 rfl) <|
    al (s_if_ne hx hb (by decide) dX1_mean_10 rfl) <|
    al (s_dconst0 hx hb dX1_mean_13 rfl) <|
    al (s_goto hx hb (by decide) dX1_mean_14) <|
    al (s_aload_n hx hb (i := 0) rfl dX1_mean_17 rfl) <|
    al (s_iconst hx hb dX1_mean_18 rfl) <|
    al (s_acalli ⟨hx, hb, hml, hown, hts⟩ hA hK hrel hRc hRs rfl ct1_counted (cwV 1 hts gX1_mean_X1_counted rfl (rm := rm1_counted) rfl rfl (by decide +kernel) ⟨Nat.le_trans (Nat.le_of_ble_eq_true rfl) hFr, Nat.le_trans (Nat.le_of_ble_eq_true rfl) hLo⟩) rfl dX1_mean_19 rfl) <|
    al (s_i2d hx hb dX1_mean_22 rfl) <|
    al (s_aload_n hx hb (i := 0) rfl dX1_mean_23 rfl) <|
    al (s_iconst hx hb dX1_mean_24 rfl) <|
    al (s_acalli ⟨hx, hb, hml, hown, hts⟩ hA hK hrel hRc hRs rfl ct1_counted (cwV 1 hts gX1_mean_X1_counted rfl (rm := rm1_counted) rfl rfl (by decide +kernel) ⟨Nat.le_trans (Nat.le_of_ble_eq_true rfl) hFr, Nat.le_trans (Nat.le_of_ble_eq_true rfl) hLo⟩) rfl dX1_mean_25 rfl) <|
    al (s_i2d hx hb dX1_mean_28 rfl) <|
    al (s_ddiv hx hb dX1_mean_29 rfl) <|
    al ((fun lv st S h => hE _ lv st S dX1_mean_30 h)) <| an
theorem ct1_mean : CtAD 1 ly1 ja1 yX1_mean wsX1_mean rm1_mean 3 21 X1_mean := mk_Da (C := RX1) (strs := xstrs) T1_mean (by decide) rfl rfl (Nat.le_of_ble_eq_true rfl) (Nat.le_of_ble_eq_true rfl) (Fr := 2) (Lo := 46) (Nat.le_of_ble_eq_true rfl) (Nat.le_of_ble_eq_true rfl) (by decide) (by decide) (fun Q => sn1_mean Q nox)
abbrev rm1_digest : Room := { frames := 3, cells := 55, slots := 433, locals := 68 }
set_option maxRecDepth 20000 in
set_option maxHeartbeats 4000000 in
theorem sn1_digest (Q : Int64 → ST → Prop) (Qx : String → ST → Prop) : SndT RX1 xstrs 1 ly1 ja1 cX1_digest 5 (some .long) wsX1_digest 3 68 Qx (EJ cX1_digest Q) (relQ 55 433) (T1_digest Q Qx) := by
  intro p l e R s m args below meth c Qf D cA A AD rel hC hFr hLo hK hA hrel hT hE
  obtain ⟨⟨hx, hb, hml, hown, hts⟩, hlk, hr⟩ := hC
  obtain ⟨hrel, hRc, hRs, hAD⟩ := hrel
  have hrR : ∀ k c n, rel k c n → c ≤ R.cells ∧ n ≤ R.slots := fun k c n h => by rw [hrel] at h; exact ⟨Nat.le_trans h.2.2.1 hRc, Nat.le_trans h.2.2.2 hRs⟩
  have hin : ∀ w ∈ u_ws RX1 TX1 15, w ∈ wsX1_digest := by decide +kernel
  have hf0 := hts (.fieldLink RX1 40 "CellTraysModel" "thrown" "I") (by decide +kernel)
  have hf1 := hts (.fieldLink RX1 44 "CellTraysModel" "kinds" "I") (by decide +kernel)
  have hf5 := hts (.fieldLink RX1 19 "CellTraysModel" "of" "[I") (by decide +kernel)
  have hf8 := hts (.fieldLink RX1 28 "CellTraysModel" "inside" "[I") (by decide +kernel)
  exact al (s_aload_n hx hb (i := 0) rfl dX1_digest_0 rfl) <|
    al (s_iconst hx hb dX1_digest_1 rfl) <|
    al (s_putI (N := 15) hx hb hts hin hown hK rfl (k := 0) (by decide) hf0 rfl tyX1 tyX1_ok nmX1 rfl (by decide +kernel) dX1_digest_2 rfl rfl) <|
    al (s_ldc2 hx hb hown (hts (.constantLong RX1 146 1381) (by decide +kernel)) dX1_digest_5 rfl) <|
    al (s_lstore_n hx hb (i := 1) rfl dX1_digest_8 rfl (by decide)) <|
    al (s_iconst hx hb dX1_digest_9 rfl) <|
    al (s_istore_n hx hb (i := 3) rfl dX1_digest_10 rfl (by decide)) <|
    al (s_iload_n hx hb (i := 3) rfl dX1_digest_11 rfl) <|
    al (s_bipush hx hb dX1_digest_12 rfl (by decide)) <|
    al (s_icmp_gt hx hb (by decide) dX1_digest_14 rfl) <|
    al (s_lload_n hx hb (i := 1) rfl dX1_digest_17 rfl) <|
    al (s_ldc2 hx hb hown (hts (.constantLong RX1 148 31) (by decide +kernel)) dX1_digest_18 rfl) <|
    al (s_lmul hx hb dX1_digest_21 rfl) <|
    al (s_aload_n hx hb (i := 0) rfl dX1_digest_22 rfl) <|
    al (s_iload_n hx hb (i := 3) rfl dX1_digest_23 rfl) <|
    al (s_acalli ⟨hx, hb, hml, hown, hts⟩ hA hK hrel hRc hRs rfl ct1_counted (cwV 1 hts gX1_digest_X1_counted rfl (rm := rm1_counted) rfl rfl (by decide +kernel) ⟨Nat.le_trans (Nat.le_of_ble_eq_true rfl) hFr, Nat.le_trans (Nat.le_of_ble_eq_true rfl) hLo⟩) rfl dX1_digest_24 rfl) <|
    al (s_i2l hx hb dX1_digest_27 rfl) <|
    al (s_ladd hx hb dX1_digest_28 rfl) <|
    al (s_lstore_n hx hb (i := 1) rfl dX1_digest_29 rfl (by decide)) <|
    al (s_iinc hx hb dX1_digest_30 rfl (by decide)) <|
    al (s_goto hx hb (by decide) dX1_digest_33) <|
    al (s_iconst hx hb dX1_digest_36 rfl) <|
    al (s_istore_n hx hb (i := 3) rfl dX1_digest_37 rfl (by decide)) <|
    al (s_iload_n hx hb (i := 3) rfl dX1_digest_38 rfl) <|
    al (s_aload_n hx hb (i := 0) rfl dX1_digest_39 rfl) <|
    al (s_getI (N := 15) hx hb hts hin hown hK rfl (k := 1) (by decide) hf1 rfl dX1_digest_40 rfl rfl) <|
    al (s_icmp_ge hx hb (by decide) dX1_digest_43 rfl) <|
    al (s_iconst hx hb dX1_digest_46 rfl) <|
    al (s_istore hx hb dX1_digest_47 rfl (by decide)) <|
    al (s_iload hx hb dX1_digest_49 rfl) <|
    al (s_bipush hx hb dX1_digest_51 rfl (by decide)) <|
    al (s_icmp_gt hx hb (by decide) dX1_digest_53 rfl) <|
    al (s_lload_n hx hb (i := 1) rfl dX1_digest_56 rfl) <|
    al (s_ldc2 hx hb hown (hts (.constantLong RX1 148 31) (by decide +kernel)) dX1_digest_57 rfl) <|
    al (s_lmul hx hb dX1_digest_60 rfl) <|
    al (s_aload_n hx hb (i := 0) rfl dX1_digest_61 rfl) <|
    al (s_iload_n hx hb (i := 3) rfl dX1_digest_62 rfl) <|
    al (s_iload hx hb dX1_digest_63 rfl) <|
    al (s_acalli ⟨hx, hb, hml, hown, hts⟩ hA hK hrel hRc hRs rfl ct1_kindTold (cwV 2 hts gX1_digest_X1_kindTold rfl (rm := rm1_kindTold) rfl rfl (by decide +kernel) ⟨Nat.le_trans (Nat.le_of_ble_eq_true rfl) hFr, Nat.le_trans (Nat.le_of_ble_eq_true rfl) hLo⟩) rfl dX1_digest_65 rfl) <|
    al (s_i2l hx hb dX1_digest_68 rfl) <|
    al (s_ladd hx hb dX1_digest_69 rfl) <|
    al (s_lstore_n hx hb (i := 1) rfl dX1_digest_70 rfl (by decide)) <|
    al (s_iinc hx hb dX1_digest_71 rfl (by decide)) <|
    al (s_goto hx hb (by decide) dX1_digest_74) <|
    al (s_iinc hx hb dX1_digest_77 rfl (by decide)) <|
    al (s_goto hx hb (by decide) dX1_digest_80) <|
    al (s_iconst hx hb dX1_digest_83 rfl) <|
    al (s_istore_n hx hb (i := 3) rfl dX1_digest_84 rfl (by decide)) <|
    al (s_iload_n hx hb (i := 3) rfl dX1_digest_85 rfl) <|
    al (s_bipush hx hb dX1_digest_86 rfl (by decide)) <|
    al (s_icmp_ge hx hb (by decide) dX1_digest_88 rfl) <|
    al (s_iconst hx hb dX1_digest_91 rfl) <|
    al (s_istore hx hb dX1_digest_92 rfl (by decide)) <|
    al (s_iload hx hb dX1_digest_94 rfl) <|
    al (s_iconst hx hb dX1_digest_96 rfl) <|
    al (s_icmp_gt hx hb (by decide) dX1_digest_97 rfl) <|
    al (s_lload_n hx hb (i := 1) rfl dX1_digest_100 rfl) <|
    al (s_ldc2 hx hb hown (hts (.constantLong RX1 148 31) (by decide +kernel)) dX1_digest_101 rfl) <|
    al (s_lmul hx hb dX1_digest_104 rfl) <|
    al (s_aload_n hx hb (i := 0) rfl dX1_digest_105 rfl) <|
    al (s_iload_n hx hb (i := 3) rfl dX1_digest_106 rfl) <|
    al (s_iload hx hb dX1_digest_107 rfl) <|
    al (s_calli ⟨hx, hb, hml, hown, hts⟩ hA hK hrR rfl ct1_trayTold (cwV 2 hts gX1_digest_X1_trayTold rfl (rm := rm1_trayTold) rfl rfl (by decide +kernel) ⟨Nat.le_trans (Nat.le_of_ble_eq_true rfl) hFr, Nat.le_trans (Nat.le_of_ble_eq_true rfl) hLo⟩) rfl dX1_digest_109 rfl) <|
    al (s_i2l hx hb dX1_digest_112 rfl) <|
    al (s_ladd hx hb dX1_digest_113 rfl) <|
    al (s_lstore_n hx hb (i := 1) rfl dX1_digest_114 rfl (by decide)) <|
    al (s_iinc hx hb dX1_digest_115 rfl (by decide)) <|
    al (s_goto hx hb (by decide) dX1_digest_118) <|
    al (s_iconst hx hb dX1_digest_121 rfl) <|
    al (s_istore hx hb dX1_digest_122 rfl (by decide)) <|
    al (s_aload_n hx hb (i := 0) rfl dX1_digest_124 rfl) <|
    al (s_getA (N := 15) hx hb hts hin hown hK rfl (k := 5) (by decide) hf5 rfl dX1_digest_125 rfl rfl (by decide)) <|
    al (s_iload_n hx hb (i := 3) rfl dX1_digest_128 rfl) <|
    al (s_iald hx hb hK hln1 dX1_digest_129 rfl) <|
    al (s_iconst hx hb dX1_digest_130 rfl) <|
    al (s_icmp_eq hx hb (by decide) dX1_digest_131 rfl) <|
    al (s_iload hx hb dX1_digest_134 rfl) <|
    al (s_aload_n hx hb (i := 0) rfl dX1_digest_136 rfl) <|
    al (s_aload_n hx hb (i := 0) rfl dX1_digest_137 rfl) <|
    al (s_getA (N := 15) hx hb hts hin hown hK rfl (k := 5) (by decide) hf5 rfl dX1_digest_138 rfl rfl (by decide)) <|
    al (s_iload_n hx hb (i := 3) rfl dX1_digest_141 rfl) <|
    al (s_iald hx hb hK hln1 dX1_digest_142 rfl) <|
    al (s_calli ⟨hx, hb, hml, hown, hts⟩ hA hK hrR rfl ct1_cells (cwV 1 hts gX1_digest_X1_cells rfl (rm := rm1_cells) rfl rfl (by decide +kernel) ⟨Nat.le_trans (Nat.le_of_ble_eq_true rfl) hFr, Nat.le_trans (Nat.le_of_ble_eq_true rfl) hLo⟩) rfl dX1_digest_143 rfl) <|
    al (s_icmp_ge hx hb (by decide) dX1_digest_146 rfl) <|
    al (s_lload_n hx hb (i := 1) rfl dX1_digest_149 rfl) <|
    al (s_ldc2 hx hb hown (hts (.constantLong RX1 148 31) (by decide +kernel)) dX1_digest_150 rfl) <|
    al (s_lmul hx hb dX1_digest_153 rfl) <|
    al (s_aload_n hx hb (i := 0) rfl dX1_digest_154 rfl) <|
    al (s_getA (N := 15) hx hb hts hin hown hK rfl (k := 8) (by decide) hf8 rfl dX1_digest_155 rfl rfl (by decide)) <|
    al (s_bipush hx hb dX1_digest_158 rfl (by decide)) <|
    al (s_iload_n hx hb (i := 3) rfl dX1_digest_160 rfl) <|
    al (s_imul hx hb dX1_digest_161 rfl) <|
    al (s_iload hx hb dX1_digest_162 rfl) <|
    al (s_iadd hx hb dX1_digest_164 rfl) <|
    al (s_iald hx hb hK hln1 dX1_digest_165 rfl) <|
    al (s_i2l hx hb dX1_digest_166 rfl) <|
    al (s_ladd hx hb dX1_digest_167 rfl) <|
    al (s_lstore_n hx hb (i := 1) rfl dX1_digest_168 rfl (by decide)) <|
    al (s_iinc hx hb dX1_digest_169 rfl (by decide)) <|
    al (s_goto hx hb (by decide) dX1_digest_172) <|
    al (s_iinc hx hb dX1_digest_175 rfl (by decide)) <|
    al (s_goto hx hb (by decide) dX1_digest_178) <|
    al (s_lload_n hx hb (i := 1) rfl dX1_digest_181 rfl) <|
    al ((fun lv st S h => hE _ lv st S dX1_digest_182 h)) <| an
theorem ct1_digest : CtAJ 1 ly1 ja1 yX1_digest wsX1_digest rm1_digest 55 433 X1_digest := mk_Ja (C := RX1) (strs := xstrs) T1_digest (by decide) rfl rfl (Nat.le_of_ble_eq_true rfl) (Nat.le_of_ble_eq_true rfl) (Fr := 3) (Lo := 68) (Nat.le_of_ble_eq_true rfl) (Nat.le_of_ble_eq_true rfl) (by decide) (by decide) (fun Q => sn1_digest Q nox)
