/-! THE LAW'S BODY: its tables are sound -/
theorem swL : ∀ a : Int, (0 : Int) ≤ a → a ≤ 15 → ∃ q ∈ [(((0 : Int)), 116), (((1 : Int)), 184), (((2 : Int)), 240), (((3 : Int)), 303), (((4 : Int)), 316), (((5 : Int)), 372), (((6 : Int)), 440), (((7 : Int)), 508), (((8 : Int)), 576), (((9 : Int)), 644), (((10 : Int)), 700), (((11 : Int)), 756), (((12 : Int)), 812), (((13 : Int)), 868), (((14 : Int)), 881), (((15 : Int)), 922)], q.1 = a := by
  intro a h0 h1
  rcases (show a = 0 ∨ a = 1 ∨ a = 2 ∨ a = 3 ∨ a = 4 ∨ a = 5 ∨ a = 6 ∨ a = 7 ∨ a = 8 ∨ a = 9 ∨ a = 10 ∨ a = 11 ∨ a = 12 ∨ a = 13 ∨ a = 14 ∨ a = 15 by omega) with rfl | rfl | rfl | rfl | rfl | rfl | rfl | rfl | rfl | rfl | rfl | rfl | rfl | rfl | rfl | rfl
  · exact ⟨_, List.mem_of_getElem? (i := 0) rfl, rfl⟩
  · exact ⟨_, List.mem_of_getElem? (i := 1) rfl, rfl⟩
  · exact ⟨_, List.mem_of_getElem? (i := 2) rfl, rfl⟩
  · exact ⟨_, List.mem_of_getElem? (i := 3) rfl, rfl⟩
  · exact ⟨_, List.mem_of_getElem? (i := 4) rfl, rfl⟩
  · exact ⟨_, List.mem_of_getElem? (i := 5) rfl, rfl⟩
  · exact ⟨_, List.mem_of_getElem? (i := 6) rfl, rfl⟩
  · exact ⟨_, List.mem_of_getElem? (i := 7) rfl, rfl⟩
  · exact ⟨_, List.mem_of_getElem? (i := 8) rfl, rfl⟩
  · exact ⟨_, List.mem_of_getElem? (i := 9) rfl, rfl⟩
  · exact ⟨_, List.mem_of_getElem? (i := 10) rfl, rfl⟩
  · exact ⟨_, List.mem_of_getElem? (i := 11) rfl, rfl⟩
  · exact ⟨_, List.mem_of_getElem? (i := 12) rfl, rfl⟩
  · exact ⟨_, List.mem_of_getElem? (i := 13) rfl, rfl⟩
  · exact ⟨_, List.mem_of_getElem? (i := 14) rfl, rfl⟩
  · exact ⟨_, List.mem_of_getElem? (i := 15) rfl, rfl⟩
def LCx (p : Program) (l : Launch) (s : State) (m : MethodId) (args : Array Value) (c : Code) (D : va_G) (cA cJ : ClassId) (A : Nat → Prop) (AD : (Nat → Nat) → Prop) (ad0 ad1 : Nat → Nat) (ao b L : Nat) (xs : Nat → Int32) : Prop :=
  p.tables.exec = Jvm.exec ∧ c.code = cL_law ∧ c.maxLocals = 9 ∧ s.vm.findClass RL = some m.cls ∧ (∀ w ∈ wsL_law, w.before args s = true) ∧ (∀ q, s.heap.size ≤ q → A q) ∧ va_K D vwCl [(cA, .int), (cJ, .long)] s ∧ (∀ ad, AD ad → ad 0 = ad0 0 ∧ ad 1 = ad1 0 ∧ ad 2 = ao ∧ ad 3 = b) ∧ l.stackTraces = false ∧ XEv RX0 xstrs A s ∧ (∀ q ∈ ncs, va_Nc q.1 q.2 s) ∧ va_X b L xs s s.heap ∧ b < s.heap.size ∧ ¬ A b ∧ L ≤ 1536
abbrev LKK (p : Program) (l : Launch) (e : Env) (s : State) (m : MethodId) (args : Array Value) (below : List Frame) (meth : Method) (c : Code) (Q : State → Prop) (D : va_G) (cA cJ : ClassId) (A : Nat → Prop) (AD : (Nat → Nat) → Prop) (ad0 ad1 : Nat → Nat) (ao : Nat) : LPT := LOK p l e room_1 s m args below meth c Q D (wLw cA cJ ad0 ao ad1) A 0 ly0 ja0 AD (relA 601024 7293034) 9
set_option maxRecDepth 20000 in
theorem jsn0 {p : Program} {l : Launch} {e : Env} {s : State} {m : MethodId} {args : Array Value} {below : List Frame} {meth : Method} {c : Code} {Q : State → Prop} {D : va_G} {cA cJ : ClassId} {A : Nat → Prop} {AD : (Nat → Nat) → Prop} {ad0 ad1 : Nat → Nat} {ao b L : Nat} {xs : Nat → Int32} (h : LCx p l s m args c D cA cJ A AD ad0 ad1 ao b L xs) (hE : ∀ pc, decode cL_law pc = .ok (.ireturn, 1) → ∀ lv st S, ji_tret lv st S (LKK p l e s m args below meth c Q D cA cJ A AD ad0 ad1 ao) → LKK p l e s m args below meth c Q D cA cJ A AD ad0 ad1 ao pc lv st S) : ∀ z ∈ jT0 (LKK p l e s m args below meth c Q D cA cJ A AD ad0 ad1 ao) xs L, ∀ lv st S, z.2 lv st S (LKK p l e s m args below meth c Q D cA cJ A AD ad0 ad1 ao) → LKK p l e s m args below meth c Q D cA cJ A AD ad0 ad1 ao z.1 lv st S := by
  obtain ⟨hx, hb, hml, hown, hts, hA, hK, hg, hlt, hXE, hN, hX, hbl, hbA, hL⟩ := h
  have hRc : 601024 ≤ room_1.cells := Nat.le_of_ble_eq_true rfl
  have hRs : 7293034 ≤ room_1.slots := Nat.le_of_ble_eq_true rfl
  exact al (js_aload_n hx hb (i := 1) rfl dL_law_116 rfl) <|
    al (js_aload_n hx hb (i := 0) rfl dL_law_117 rfl) <|
    al (js_iload hx hb dL_law_118 rfl) <|
    al (js_iconst hx hb dL_law_120 rfl) <|
    al (js_iadd hx hb dL_law_121 rfl) <|
    al (js_sald hx hb hg hX hbl hbA hL dL_law_122 rfl) <|
    al (js_aload_n hx hb (i := 0) rfl dL_law_123 rfl) <|
    al (js_iload hx hb dL_law_124 rfl) <|
    al (js_iconst hx hb dL_law_126 rfl) <|
    al (js_iadd hx hb dL_law_127 rfl) <|
    al (js_sald hx hb hg hX hbl hbA hL dL_law_128 rfl) <|
    al (js_aload_n hx hb (i := 3) rfl dL_law_129 rfl) <|
    al (js_w2 ⟨hx, hb, hml, hown, hts⟩ hA hK hRc hRs hg hlt hXE hN wL_kind_ok (al wL_kind_no1 <| al wL_kind_no2 <| an) (vx_cwSW 4 hts gL_law_L_kind rfl rfl rfl (by decide +kernel) ⟨Nat.le_of_ble_eq_true rfl, Nat.le_of_ble_eq_true rfl⟩) dL_law_130 rfl) <|
    al (js_istore hx hb dL_law_133 rfl (by decide)) <|
    al (js_aload_n hx hb (i := 2) rfl dL_law_135 rfl) <|
    al (js_aload_n hx hb (i := 0) rfl dL_law_136 rfl) <|
    al (js_iload hx hb dL_law_137 rfl) <|
    al (js_iconst hx hb dL_law_139 rfl) <|
    al (js_iadd hx hb dL_law_140 rfl) <|
    al (js_sald hx hb hg hX hbl hbA hL dL_law_141 rfl) <|
    al (js_aload_n hx hb (i := 0) rfl dL_law_142 rfl) <|
    al (js_iload hx hb dL_law_143 rfl) <|
    al (js_iconst hx hb dL_law_145 rfl) <|
    al (js_iadd hx hb dL_law_146 rfl) <|
    al (js_sald hx hb hg hX hbl hbA hL dL_law_147 rfl) <|
    al (js_r2 ⟨hx, hb, hml, hown, hts⟩ hA hK hRc hRs hg ct1_kind (cwV 2 hts gL_law_X1_kind rfl (rm := rm1_kind) rfl rfl (by decide +kernel) ⟨Nat.le_of_ble_eq_true rfl, Nat.le_of_ble_eq_true rfl⟩) dL_law_148 rfl) <|
    al (js_istore hx hb dL_law_151 rfl (by decide)) <|
    al (js_aload_n hx hb (i := 2) rfl dL_law_153 rfl) <|
    al (js_r0 ⟨hx, hb, hml, hown, hts⟩ hA hK hRc hRs hg ct1_thrown (cwV 0 hts gL_law_X1_thrown rfl (rm := rm1_thrown) rfl rfl (by decide +kernel) ⟨Nat.le_of_ble_eq_true rfl, Nat.le_of_ble_eq_true rfl⟩) dL_law_154 rfl) <|
    al (js_iload hx hb dL_law_157 rfl) <|
    al (js_icmp_eq hx hb (t := 164) rfl dL_law_159 rfl) <|
    al (js_iconst hx hb dL_law_162 rfl) <|
    al (hE _ dL_law_163) <|
    al (js_iload hx hb dL_law_164 rfl) <|
    al (js_if_ne hx hb (t := 181) rfl dL_law_166 rfl) <|
    al (js_aload_n hx hb (i := 3) rfl dL_law_169 rfl) <|
    al (js_iconst hx hb dL_law_170 rfl) <|
    al (js_oald hx hb hg hK dL_law_171 rfl) <|
    al (js_iload hx hb dL_law_172 rfl) <|
    al (js_i2l hx hb dL_law_174 rfl) <|
    al (js_lcmp hx hb dL_law_175 rfl) <|
    al (js_if_eq hx hb (t := 181) rfl dL_law_176 rfl) <|
    al (js_iconst hx hb dL_law_179 rfl) <|
    al (hE _ dL_law_180) <|
    al (js_goto hx hb (t := 936) rfl dL_law_181) <|
    al (fun _ _ _ z => z) <| an
set_option maxRecDepth 20000 in
theorem jsn1 {p : Program} {l : Launch} {e : Env} {s : State} {m : MethodId} {args : Array Value} {below : List Frame} {meth : Method} {c : Code} {Q : State → Prop} {D : va_G} {cA cJ : ClassId} {A : Nat → Prop} {AD : (Nat → Nat) → Prop} {ad0 ad1 : Nat → Nat} {ao b L : Nat} {xs : Nat → Int32} (h : LCx p l s m args c D cA cJ A AD ad0 ad1 ao b L xs) (hE : ∀ pc, decode cL_law pc = .ok (.ireturn, 1) → ∀ lv st S, ji_tret lv st S (LKK p l e s m args below meth c Q D cA cJ A AD ad0 ad1 ao) → LKK p l e s m args below meth c Q D cA cJ A AD ad0 ad1 ao pc lv st S) : ∀ z ∈ jT1 (LKK p l e s m args below meth c Q D cA cJ A AD ad0 ad1 ao) xs L, ∀ lv st S, z.2 lv st S (LKK p l e s m args below meth c Q D cA cJ A AD ad0 ad1 ao) → LKK p l e s m args below meth c Q D cA cJ A AD ad0 ad1 ao z.1 lv st S := by
  obtain ⟨hx, hb, hml, hown, hts, hA, hK, hg, hlt, hXE, hN, hX, hbl, hbA, hL⟩ := h
  have hRc : 601024 ≤ room_1.cells := Nat.le_of_ble_eq_true rfl
  have hRs : 7293034 ≤ room_1.slots := Nat.le_of_ble_eq_true rfl
  exact al (js_aload_n hx hb (i := 1) rfl dL_law_184 rfl) <|
    al (js_aload_n hx hb (i := 0) rfl dL_law_185 rfl) <|
    al (js_iload hx hb dL_law_186 rfl) <|
    al (js_iconst hx hb dL_law_188 rfl) <|
    al (js_iadd hx hb dL_law_189 rfl) <|
    al (js_sald hx hb hg hX hbl hbA hL dL_law_190 rfl) <|
    al (js_aload_n hx hb (i := 3) rfl dL_law_191 rfl) <|
    al (js_w1 ⟨hx, hb, hml, hown, hts⟩ hA hK hRc hRs hg hlt hXE hN wL_put_ok (al wL_put_no1 <| al wL_put_no2 <| an) (vx_cwSW 3 hts gL_law_L_put rfl rfl rfl (by decide +kernel) ⟨Nat.le_of_ble_eq_true rfl, Nat.le_of_ble_eq_true rfl⟩) dL_law_192 rfl) <|
    al (js_istore hx hb dL_law_195 rfl (by decide)) <|
    al (js_aload_n hx hb (i := 2) rfl dL_law_197 rfl) <|
    al (js_aload_n hx hb (i := 0) rfl dL_law_198 rfl) <|
    al (js_iload hx hb dL_law_199 rfl) <|
    al (js_iconst hx hb dL_law_201 rfl) <|
    al (js_iadd hx hb dL_law_202 rfl) <|
    al (js_sald hx hb hg hX hbl hbA hL dL_law_203 rfl) <|
    al (js_r1 ⟨hx, hb, hml, hown, hts⟩ hA hK hRc hRs hg ct1_put (cwV 1 hts gL_law_X1_put rfl (rm := rm1_put) rfl rfl (by decide +kernel) ⟨Nat.le_of_ble_eq_true rfl, Nat.le_of_ble_eq_true rfl⟩) dL_law_204 rfl) <|
    al (js_istore hx hb dL_law_207 rfl (by decide)) <|
    al (js_aload_n hx hb (i := 2) rfl dL_law_209 rfl) <|
    al (js_r0 ⟨hx, hb, hml, hown, hts⟩ hA hK hRc hRs hg ct1_thrown (cwV 0 hts gL_law_X1_thrown rfl (rm := rm1_thrown) rfl rfl (by decide +kernel) ⟨Nat.le_of_ble_eq_true rfl, Nat.le_of_ble_eq_true rfl⟩) dL_law_210 rfl) <|
    al (js_iload hx hb dL_law_213 rfl) <|
    al (js_icmp_eq hx hb (t := 220) rfl dL_law_215 rfl) <|
    al (js_iconst hx hb dL_law_218 rfl) <|
    al (hE _ dL_law_219) <|
    al (js_iload hx hb dL_law_220 rfl) <|
    al (js_if_ne hx hb (t := 237) rfl dL_law_222 rfl) <|
    al (js_aload_n hx hb (i := 3) rfl dL_law_225 rfl) <|
    al (js_iconst hx hb dL_law_226 rfl) <|
    al (js_oald hx hb hg hK dL_law_227 rfl) <|
    al (js_iload hx hb dL_law_228 rfl) <|
    al (js_i2l hx hb dL_law_230 rfl) <|
    al (js_lcmp hx hb dL_law_231 rfl) <|
    al (js_if_eq hx hb (t := 237) rfl dL_law_232 rfl) <|
    al (js_iconst hx hb dL_law_235 rfl) <|
    al (hE _ dL_law_236) <|
    al (js_goto hx hb (t := 936) rfl dL_law_237) <|
    al (fun _ _ _ z => z) <| an
set_option maxRecDepth 20000 in
theorem jsn2 {p : Program} {l : Launch} {e : Env} {s : State} {m : MethodId} {args : Array Value} {below : List Frame} {meth : Method} {c : Code} {Q : State → Prop} {D : va_G} {cA cJ : ClassId} {A : Nat → Prop} {AD : (Nat → Nat) → Prop} {ad0 ad1 : Nat → Nat} {ao b L : Nat} {xs : Nat → Int32} (h : LCx p l s m args c D cA cJ A AD ad0 ad1 ao b L xs) (hE : ∀ pc, decode cL_law pc = .ok (.ireturn, 1) → ∀ lv st S, ji_tret lv st S (LKK p l e s m args below meth c Q D cA cJ A AD ad0 ad1 ao) → LKK p l e s m args below meth c Q D cA cJ A AD ad0 ad1 ao pc lv st S) : ∀ z ∈ jT2 (LKK p l e s m args below meth c Q D cA cJ A AD ad0 ad1 ao) xs L, ∀ lv st S, z.2 lv st S (LKK p l e s m args below meth c Q D cA cJ A AD ad0 ad1 ao) → LKK p l e s m args below meth c Q D cA cJ A AD ad0 ad1 ao z.1 lv st S := by
  obtain ⟨hx, hb, hml, hown, hts, hA, hK, hg, hlt, hXE, hN, hX, hbl, hbA, hL⟩ := h
  have hRc : 601024 ≤ room_1.cells := Nat.le_of_ble_eq_true rfl
  have hRs : 7293034 ≤ room_1.slots := Nat.le_of_ble_eq_true rfl
  exact al (js_aload_n hx hb (i := 1) rfl dL_law_240 rfl) <|
    al (js_aload_n hx hb (i := 0) rfl dL_law_241 rfl) <|
    al (js_iload hx hb dL_law_242 rfl) <|
    al (js_iconst hx hb dL_law_244 rfl) <|
    al (js_iadd hx hb dL_law_245 rfl) <|
    al (js_sald hx hb hg hX hbl hbA hL dL_law_246 rfl) <|
    al (js_aload_n hx hb (i := 3) rfl dL_law_247 rfl) <|
    al (js_w1 ⟨hx, hb, hml, hown, hts⟩ hA hK hRc hRs hg hlt hXE hN wL_take_ok (al wL_take_no1 <| al wL_take_no2 <| an) (vx_cwSW 3 hts gL_law_L_take rfl rfl rfl (by decide +kernel) ⟨Nat.le_of_ble_eq_true rfl, Nat.le_of_ble_eq_true rfl⟩) dL_law_248 rfl) <|
    al (js_istore hx hb dL_law_251 rfl (by decide)) <|
    al (js_aload_n hx hb (i := 2) rfl dL_law_253 rfl) <|
    al (js_aload_n hx hb (i := 0) rfl dL_law_254 rfl) <|
    al (js_iload hx hb dL_law_255 rfl) <|
    al (js_iconst hx hb dL_law_257 rfl) <|
    al (js_iadd hx hb dL_law_258 rfl) <|
    al (js_sald hx hb hg hX hbl hbA hL dL_law_259 rfl) <|
    al (js_r1 ⟨hx, hb, hml, hown, hts⟩ hA hK hRc hRs hg ct1_take (cwV 1 hts gL_law_X1_take rfl (rm := rm1_take) rfl rfl (by decide +kernel) ⟨Nat.le_of_ble_eq_true rfl, Nat.le_of_ble_eq_true rfl⟩) dL_law_260 rfl) <|
    al (js_istore hx hb dL_law_263 rfl (by decide)) <|
    al (js_aload_n hx hb (i := 2) rfl dL_law_265 rfl) <|
    al (js_r0 ⟨hx, hb, hml, hown, hts⟩ hA hK hRc hRs hg ct1_thrown (cwV 0 hts gL_law_X1_thrown rfl (rm := rm1_thrown) rfl rfl (by decide +kernel) ⟨Nat.le_of_ble_eq_true rfl, Nat.le_of_ble_eq_true rfl⟩) dL_law_266 rfl) <|
    al (js_iload hx hb dL_law_269 rfl) <|
    al (js_icmp_eq hx hb (t := 276) rfl dL_law_271 rfl) <|
    al (js_iconst hx hb dL_law_274 rfl) <|
    al (hE _ dL_law_275) <|
    al (js_iload hx hb dL_law_276 rfl) <|
    al (js_if_ne hx hb (t := 300) rfl dL_law_278 rfl) <|
    al (js_aload_n hx hb (i := 3) rfl dL_law_281 rfl) <|
    al (js_iconst hx hb dL_law_282 rfl) <|
    al (js_oald hx hb hg hK dL_law_283 rfl) <|
    al (js_iload hx hb dL_law_284 rfl) <|
    al (js_if_eq hx hb (t := 293) rfl dL_law_286 rfl) <|
    al (js_lconst hx hb rfl dL_law_289 rfl) <|
    al (js_goto hx hb (t := 294) rfl dL_law_290) <|
    al (js_lconst hx hb rfl dL_law_293 rfl) <|
    al (js_lcmp hx hb dL_law_294 rfl) <|
    al (js_if_eq hx hb (t := 300) rfl dL_law_295 rfl) <|
    al (js_iconst hx hb dL_law_298 rfl) <|
    al (hE _ dL_law_299) <|
    al (js_goto hx hb (t := 936) rfl dL_law_300) <|
    al (fun _ _ _ z => z) <| an
set_option maxRecDepth 20000 in
theorem jsn3 {p : Program} {l : Launch} {e : Env} {s : State} {m : MethodId} {args : Array Value} {below : List Frame} {meth : Method} {c : Code} {Q : State → Prop} {D : va_G} {cA cJ : ClassId} {A : Nat → Prop} {AD : (Nat → Nat) → Prop} {ad0 ad1 : Nat → Nat} {ao b L : Nat} {xs : Nat → Int32} (h : LCx p l s m args c D cA cJ A AD ad0 ad1 ao b L xs) (hE : ∀ pc, decode cL_law pc = .ok (.ireturn, 1) → ∀ lv st S, ji_tret lv st S (LKK p l e s m args below meth c Q D cA cJ A AD ad0 ad1 ao) → LKK p l e s m args below meth c Q D cA cJ A AD ad0 ad1 ao pc lv st S) : ∀ z ∈ jT3 (LKK p l e s m args below meth c Q D cA cJ A AD ad0 ad1 ao) xs L, ∀ lv st S, z.2 lv st S (LKK p l e s m args below meth c Q D cA cJ A AD ad0 ad1 ao) → LKK p l e s m args below meth c Q D cA cJ A AD ad0 ad1 ao z.1 lv st S := by
  obtain ⟨hx, hb, hml, hown, hts, hA, hK, hg, hlt, hXE, hN, hX, hbl, hbA, hL⟩ := h
  have hRc : 601024 ≤ room_1.cells := Nat.le_of_ble_eq_true rfl
  have hRs : 7293034 ≤ room_1.slots := Nat.le_of_ble_eq_true rfl
  exact al (js_aload_n hx hb (i := 1) rfl dL_law_303 rfl) <|
    al (js_c0 ⟨hx, hb, hml, hown, hts⟩ hA hK hRc hRs hg ct0_sweep (cwV 0 hts gL_law_X0_sweep rfl (rm := rm0_sweep) rfl rfl (by decide +kernel) ⟨Nat.le_of_ble_eq_true rfl, Nat.le_of_ble_eq_true rfl⟩) dL_law_304 rfl) <|
    al (js_aload_n hx hb (i := 2) rfl dL_law_307 rfl) <|
    al (js_r0 ⟨hx, hb, hml, hown, hts⟩ hA hK hRc hRs hg ct1_sweep (cwV 0 hts gL_law_X1_sweep rfl (rm := rm1_sweep) rfl rfl (by decide +kernel) ⟨Nat.le_of_ble_eq_true rfl, Nat.le_of_ble_eq_true rfl⟩) dL_law_308 rfl) <|
    al (js_icmp_eq hx hb (t := 936) rfl dL_law_311 rfl) <|
    al (js_iconst hx hb dL_law_314 rfl) <|
    al (hE _ dL_law_315) <|
    al (fun _ _ _ z => z) <| an
set_option maxRecDepth 20000 in
theorem jsn4 {p : Program} {l : Launch} {e : Env} {s : State} {m : MethodId} {args : Array Value} {below : List Frame} {meth : Method} {c : Code} {Q : State → Prop} {D : va_G} {cA cJ : ClassId} {A : Nat → Prop} {AD : (Nat → Nat) → Prop} {ad0 ad1 : Nat → Nat} {ao b L : Nat} {xs : Nat → Int32} (h : LCx p l s m args c D cA cJ A AD ad0 ad1 ao b L xs) (hE : ∀ pc, decode cL_law pc = .ok (.ireturn, 1) → ∀ lv st S, ji_tret lv st S (LKK p l e s m args below meth c Q D cA cJ A AD ad0 ad1 ao) → LKK p l e s m args below meth c Q D cA cJ A AD ad0 ad1 ao pc lv st S) : ∀ z ∈ jT4 (LKK p l e s m args below meth c Q D cA cJ A AD ad0 ad1 ao) xs L, ∀ lv st S, z.2 lv st S (LKK p l e s m args below meth c Q D cA cJ A AD ad0 ad1 ao) → LKK p l e s m args below meth c Q D cA cJ A AD ad0 ad1 ao z.1 lv st S := by
  obtain ⟨hx, hb, hml, hown, hts, hA, hK, hg, hlt, hXE, hN, hX, hbl, hbA, hL⟩ := h
  have hRc : 601024 ≤ room_1.cells := Nat.le_of_ble_eq_true rfl
  have hRs : 7293034 ≤ room_1.slots := Nat.le_of_ble_eq_true rfl
  exact al (js_aload_n hx hb (i := 1) rfl dL_law_316 rfl) <|
    al (js_aload_n hx hb (i := 0) rfl dL_law_317 rfl) <|
    al (js_iload hx hb dL_law_318 rfl) <|
    al (js_iconst hx hb dL_law_320 rfl) <|
    al (js_iadd hx hb dL_law_321 rfl) <|
    al (js_sald hx hb hg hX hbl hbA hL dL_law_322 rfl) <|
    al (js_aload_n hx hb (i := 3) rfl dL_law_323 rfl) <|
    al (js_w1 ⟨hx, hb, hml, hown, hts⟩ hA hK hRc hRs hg hlt hXE hN wL_pack_ok (al wL_pack_no1 <| an) (vx_cwSW 3 hts gL_law_L_pack rfl rfl rfl (by decide +kernel) ⟨Nat.le_of_ble_eq_true rfl, Nat.le_of_ble_eq_true rfl⟩) dL_law_324 rfl) <|
    al (js_istore hx hb dL_law_327 rfl (by decide)) <|
    al (js_aload_n hx hb (i := 2) rfl dL_law_329 rfl) <|
    al (js_aload_n hx hb (i := 0) rfl dL_law_330 rfl) <|
    al (js_iload hx hb dL_law_331 rfl) <|
    al (js_iconst hx hb dL_law_333 rfl) <|
    al (js_iadd hx hb dL_law_334 rfl) <|
    al (js_sald hx hb hg hX hbl hbA hL dL_law_335 rfl) <|
    al (js_r1 ⟨hx, hb, hml, hown, hts⟩ hA hK hRc hRs hg ct1_pack (cwV 1 hts gL_law_X1_pack rfl (rm := rm1_pack) rfl rfl (by decide +kernel) ⟨Nat.le_of_ble_eq_true rfl, Nat.le_of_ble_eq_true rfl⟩) dL_law_336 rfl) <|
    al (js_istore hx hb dL_law_339 rfl (by decide)) <|
    al (js_aload_n hx hb (i := 2) rfl dL_law_341 rfl) <|
    al (js_r0 ⟨hx, hb, hml, hown, hts⟩ hA hK hRc hRs hg ct1_thrown (cwV 0 hts gL_law_X1_thrown rfl (rm := rm1_thrown) rfl rfl (by decide +kernel) ⟨Nat.le_of_ble_eq_true rfl, Nat.le_of_ble_eq_true rfl⟩) dL_law_342 rfl) <|
    al (js_iload hx hb dL_law_345 rfl) <|
    al (js_icmp_eq hx hb (t := 352) rfl dL_law_347 rfl) <|
    al (js_iconst hx hb dL_law_350 rfl) <|
    al (hE _ dL_law_351) <|
    al (js_iload hx hb dL_law_352 rfl) <|
    al (js_if_ne hx hb (t := 369) rfl dL_law_354 rfl) <|
    al (js_aload_n hx hb (i := 3) rfl dL_law_357 rfl) <|
    al (js_iconst hx hb dL_law_358 rfl) <|
    al (js_oald hx hb hg hK dL_law_359 rfl) <|
    al (js_iload hx hb dL_law_360 rfl) <|
    al (js_i2l hx hb dL_law_362 rfl) <|
    al (js_lcmp hx hb dL_law_363 rfl) <|
    al (js_if_eq hx hb (t := 369) rfl dL_law_364 rfl) <|
    al (js_iconst hx hb dL_law_367 rfl) <|
    al (hE _ dL_law_368) <|
    al (js_goto hx hb (t := 936) rfl dL_law_369) <|
    al (fun _ _ _ z => z) <| an
set_option maxRecDepth 20000 in
theorem jsn5 {p : Program} {l : Launch} {e : Env} {s : State} {m : MethodId} {args : Array Value} {below : List Frame} {meth : Method} {c : Code} {Q : State → Prop} {D : va_G} {cA cJ : ClassId} {A : Nat → Prop} {AD : (Nat → Nat) → Prop} {ad0 ad1 : Nat → Nat} {ao b L : Nat} {xs : Nat → Int32} (h : LCx p l s m args c D cA cJ A AD ad0 ad1 ao b L xs) (hE : ∀ pc, decode cL_law pc = .ok (.ireturn, 1) → ∀ lv st S, ji_tret lv st S (LKK p l e s m args below meth c Q D cA cJ A AD ad0 ad1 ao) → LKK p l e s m args below meth c Q D cA cJ A AD ad0 ad1 ao pc lv st S) : ∀ z ∈ jT5 (LKK p l e s m args below meth c Q D cA cJ A AD ad0 ad1 ao) xs L, ∀ lv st S, z.2 lv st S (LKK p l e s m args below meth c Q D cA cJ A AD ad0 ad1 ao) → LKK p l e s m args below meth c Q D cA cJ A AD ad0 ad1 ao z.1 lv st S := by
  obtain ⟨hx, hb, hml, hown, hts, hA, hK, hg, hlt, hXE, hN, hX, hbl, hbA, hL⟩ := h
  have hRc : 601024 ≤ room_1.cells := Nat.le_of_ble_eq_true rfl
  have hRs : 7293034 ≤ room_1.slots := Nat.le_of_ble_eq_true rfl
  exact al (js_aload_n hx hb (i := 1) rfl dL_law_372 rfl) <|
    al (js_aload_n hx hb (i := 0) rfl dL_law_373 rfl) <|
    al (js_iload hx hb dL_law_374 rfl) <|
    al (js_iconst hx hb dL_law_376 rfl) <|
    al (js_iadd hx hb dL_law_377 rfl) <|
    al (js_sald hx hb hg hX hbl hbA hL dL_law_378 rfl) <|
    al (js_aload_n hx hb (i := 0) rfl dL_law_379 rfl) <|
    al (js_iload hx hb dL_law_380 rfl) <|
    al (js_iconst hx hb dL_law_382 rfl) <|
    al (js_iadd hx hb dL_law_383 rfl) <|
    al (js_sald hx hb hg hX hbl hbA hL dL_law_384 rfl) <|
    al (js_aload_n hx hb (i := 3) rfl dL_law_385 rfl) <|
    al (js_w2 ⟨hx, hb, hml, hown, hts⟩ hA hK hRc hRs hg hlt hXE hN wL_told_ok (al wL_told_no1 <| an) (vx_cwSW 4 hts gL_law_L_told rfl rfl rfl (by decide +kernel) ⟨Nat.le_of_ble_eq_true rfl, Nat.le_of_ble_eq_true rfl⟩) dL_law_386 rfl) <|
    al (js_istore hx hb dL_law_389 rfl (by decide)) <|
    al (js_aload_n hx hb (i := 2) rfl dL_law_391 rfl) <|
    al (js_aload_n hx hb (i := 0) rfl dL_law_392 rfl) <|
    al (js_iload hx hb dL_law_393 rfl) <|
    al (js_iconst hx hb dL_law_395 rfl) <|
    al (js_iadd hx hb dL_law_396 rfl) <|
    al (js_sald hx hb hg hX hbl hbA hL dL_law_397 rfl) <|
    al (js_aload_n hx hb (i := 0) rfl dL_law_398 rfl) <|
    al (js_iload hx hb dL_law_399 rfl) <|
    al (js_iconst hx hb dL_law_401 rfl) <|
    al (js_iadd hx hb dL_law_402 rfl) <|
    al (js_sald hx hb hg hX hbl hbA hL dL_law_403 rfl) <|
    al (js_r2 ⟨hx, hb, hml, hown, hts⟩ hA hK hRc hRs hg ct1_told (cwV 2 hts gL_law_X1_told rfl (rm := rm1_told) rfl rfl (by decide +kernel) ⟨Nat.le_of_ble_eq_true rfl, Nat.le_of_ble_eq_true rfl⟩) dL_law_404 rfl) <|
    al (js_istore hx hb dL_law_407 rfl (by decide)) <|
    al (js_aload_n hx hb (i := 2) rfl dL_law_409 rfl) <|
    al (js_r0 ⟨hx, hb, hml, hown, hts⟩ hA hK hRc hRs hg ct1_thrown (cwV 0 hts gL_law_X1_thrown rfl (rm := rm1_thrown) rfl rfl (by decide +kernel) ⟨Nat.le_of_ble_eq_true rfl, Nat.le_of_ble_eq_true rfl⟩) dL_law_410 rfl) <|
    al (js_iload hx hb dL_law_413 rfl) <|
    al (js_icmp_eq hx hb (t := 420) rfl dL_law_415 rfl) <|
    al (js_iconst hx hb dL_law_418 rfl) <|
    al (hE _ dL_law_419) <|
    al (js_iload hx hb dL_law_420 rfl) <|
    al (js_if_ne hx hb (t := 437) rfl dL_law_422 rfl) <|
    al (js_aload_n hx hb (i := 3) rfl dL_law_425 rfl) <|
    al (js_iconst hx hb dL_law_426 rfl) <|
    al (js_oald hx hb hg hK dL_law_427 rfl) <|
    al (js_iload hx hb dL_law_428 rfl) <|
    al (js_i2l hx hb dL_law_430 rfl) <|
    al (js_lcmp hx hb dL_law_431 rfl) <|
    al (js_if_eq hx hb (t := 437) rfl dL_law_432 rfl) <|
    al (js_iconst hx hb dL_law_435 rfl) <|
    al (hE _ dL_law_436) <|
    al (js_goto hx hb (t := 936) rfl dL_law_437) <|
    al (fun _ _ _ z => z) <| an
set_option maxRecDepth 20000 in
theorem jsn6 {p : Program} {l : Launch} {e : Env} {s : State} {m : MethodId} {args : Array Value} {below : List Frame} {meth : Method} {c : Code} {Q : State → Prop} {D : va_G} {cA cJ : ClassId} {A : Nat → Prop} {AD : (Nat → Nat) → Prop} {ad0 ad1 : Nat → Nat} {ao b L : Nat} {xs : Nat → Int32} (h : LCx p l s m args c D cA cJ A AD ad0 ad1 ao b L xs) (hE : ∀ pc, decode cL_law pc = .ok (.ireturn, 1) → ∀ lv st S, ji_tret lv st S (LKK p l e s m args below meth c Q D cA cJ A AD ad0 ad1 ao) → LKK p l e s m args below meth c Q D cA cJ A AD ad0 ad1 ao pc lv st S) : ∀ z ∈ jT6 (LKK p l e s m args below meth c Q D cA cJ A AD ad0 ad1 ao) xs L, ∀ lv st S, z.2 lv st S (LKK p l e s m args below meth c Q D cA cJ A AD ad0 ad1 ao) → LKK p l e s m args below meth c Q D cA cJ A AD ad0 ad1 ao z.1 lv st S := by
  obtain ⟨hx, hb, hml, hown, hts, hA, hK, hg, hlt, hXE, hN, hX, hbl, hbA, hL⟩ := h
  have hRc : 601024 ≤ room_1.cells := Nat.le_of_ble_eq_true rfl
  have hRs : 7293034 ≤ room_1.slots := Nat.le_of_ble_eq_true rfl
  exact al (js_aload_n hx hb (i := 1) rfl dL_law_440 rfl) <|
    al (js_aload_n hx hb (i := 0) rfl dL_law_441 rfl) <|
    al (js_iload hx hb dL_law_442 rfl) <|
    al (js_iconst hx hb dL_law_444 rfl) <|
    al (js_iadd hx hb dL_law_445 rfl) <|
    al (js_sald hx hb hg hX hbl hbA hL dL_law_446 rfl) <|
    al (js_aload_n hx hb (i := 0) rfl dL_law_447 rfl) <|
    al (js_iload hx hb dL_law_448 rfl) <|
    al (js_iconst hx hb dL_law_450 rfl) <|
    al (js_iadd hx hb dL_law_451 rfl) <|
    al (js_sald hx hb hg hX hbl hbA hL dL_law_452 rfl) <|
    al (js_aload_n hx hb (i := 3) rfl dL_law_453 rfl) <|
    al (js_w2 ⟨hx, hb, hml, hown, hts⟩ hA hK hRc hRs hg hlt hXE hN wL_tray_ok (al wL_tray_no1 <| an) (vx_cwSW 4 hts gL_law_L_tray rfl rfl rfl (by decide +kernel) ⟨Nat.le_of_ble_eq_true rfl, Nat.le_of_ble_eq_true rfl⟩) dL_law_454 rfl) <|
    al (js_istore hx hb dL_law_457 rfl (by decide)) <|
    al (js_aload_n hx hb (i := 2) rfl dL_law_459 rfl) <|
    al (js_aload_n hx hb (i := 0) rfl dL_law_460 rfl) <|
    al (js_iload hx hb dL_law_461 rfl) <|
    al (js_iconst hx hb dL_law_463 rfl) <|
    al (js_iadd hx hb dL_law_464 rfl) <|
    al (js_sald hx hb hg hX hbl hbA hL dL_law_465 rfl) <|
    al (js_aload_n hx hb (i := 0) rfl dL_law_466 rfl) <|
    al (js_iload hx hb dL_law_467 rfl) <|
    al (js_iconst hx hb dL_law_469 rfl) <|
    al (js_iadd hx hb dL_law_470 rfl) <|
    al (js_sald hx hb hg hX hbl hbA hL dL_law_471 rfl) <|
    al (js_r2 ⟨hx, hb, hml, hown, hts⟩ hA hK hRc hRs hg ct1_tray (cwV 2 hts gL_law_X1_tray rfl (rm := rm1_tray) rfl rfl (by decide +kernel) ⟨Nat.le_of_ble_eq_true rfl, Nat.le_of_ble_eq_true rfl⟩) dL_law_472 rfl) <|
    al (js_istore hx hb dL_law_475 rfl (by decide)) <|
    al (js_aload_n hx hb (i := 2) rfl dL_law_477 rfl) <|
    al (js_r0 ⟨hx, hb, hml, hown, hts⟩ hA hK hRc hRs hg ct1_thrown (cwV 0 hts gL_law_X1_thrown rfl (rm := rm1_thrown) rfl rfl (by decide +kernel) ⟨Nat.le_of_ble_eq_true rfl, Nat.le_of_ble_eq_true rfl⟩) dL_law_478 rfl) <|
    al (js_iload hx hb dL_law_481 rfl) <|
    al (js_icmp_eq hx hb (t := 488) rfl dL_law_483 rfl) <|
    al (js_iconst hx hb dL_law_486 rfl) <|
    al (hE _ dL_law_487) <|
    al (js_iload hx hb dL_law_488 rfl) <|
    al (js_if_ne hx hb (t := 505) rfl dL_law_490 rfl) <|
    al (js_aload_n hx hb (i := 3) rfl dL_law_493 rfl) <|
    al (js_iconst hx hb dL_law_494 rfl) <|
    al (js_oald hx hb hg hK dL_law_495 rfl) <|
    al (js_iload hx hb dL_law_496 rfl) <|
    al (js_i2l hx hb dL_law_498 rfl) <|
    al (js_lcmp hx hb dL_law_499 rfl) <|
    al (js_if_eq hx hb (t := 505) rfl dL_law_500 rfl) <|
    al (js_iconst hx hb dL_law_503 rfl) <|
    al (hE _ dL_law_504) <|
    al (js_goto hx hb (t := 936) rfl dL_law_505) <|
    al (fun _ _ _ z => z) <| an
set_option maxRecDepth 20000 in
theorem jsn7 {p : Program} {l : Launch} {e : Env} {s : State} {m : MethodId} {args : Array Value} {below : List Frame} {meth : Method} {c : Code} {Q : State → Prop} {D : va_G} {cA cJ : ClassId} {A : Nat → Prop} {AD : (Nat → Nat) → Prop} {ad0 ad1 : Nat → Nat} {ao b L : Nat} {xs : Nat → Int32} (h : LCx p l s m args c D cA cJ A AD ad0 ad1 ao b L xs) (hE : ∀ pc, decode cL_law pc = .ok (.ireturn, 1) → ∀ lv st S, ji_tret lv st S (LKK p l e s m args below meth c Q D cA cJ A AD ad0 ad1 ao) → LKK p l e s m args below meth c Q D cA cJ A AD ad0 ad1 ao pc lv st S) : ∀ z ∈ jT7 (LKK p l e s m args below meth c Q D cA cJ A AD ad0 ad1 ao) xs L, ∀ lv st S, z.2 lv st S (LKK p l e s m args below meth c Q D cA cJ A AD ad0 ad1 ao) → LKK p l e s m args below meth c Q D cA cJ A AD ad0 ad1 ao z.1 lv st S := by
  obtain ⟨hx, hb, hml, hown, hts, hA, hK, hg, hlt, hXE, hN, hX, hbl, hbA, hL⟩ := h
  have hRc : 601024 ≤ room_1.cells := Nat.le_of_ble_eq_true rfl
  have hRs : 7293034 ≤ room_1.slots := Nat.le_of_ble_eq_true rfl
  exact al (js_aload_n hx hb (i := 1) rfl dL_law_508 rfl) <|
    al (js_aload_n hx hb (i := 0) rfl dL_law_509 rfl) <|
    al (js_iload hx hb dL_law_510 rfl) <|
    al (js_iconst hx hb dL_law_512 rfl) <|
    al (js_iadd hx hb dL_law_513 rfl) <|
    al (js_sald hx hb hg hX hbl hbA hL dL_law_514 rfl) <|
    al (js_aload_n hx hb (i := 0) rfl dL_law_515 rfl) <|
    al (js_iload hx hb dL_law_516 rfl) <|
    al (js_iconst hx hb dL_law_518 rfl) <|
    al (js_iadd hx hb dL_law_519 rfl) <|
    al (js_sald hx hb hg hX hbl hbA hL dL_law_520 rfl) <|
    al (js_aload_n hx hb (i := 3) rfl dL_law_521 rfl) <|
    al (js_w2 ⟨hx, hb, hml, hown, hts⟩ hA hK hRc hRs hg hlt hXE hN wL_cell_ok (al wL_cell_no1 <| an) (vx_cwSW 4 hts gL_law_L_cell rfl rfl rfl (by decide +kernel) ⟨Nat.le_of_ble_eq_true rfl, Nat.le_of_ble_eq_true rfl⟩) dL_law_522 rfl) <|
    al (js_istore hx hb dL_law_525 rfl (by decide)) <|
    al (js_aload_n hx hb (i := 2) rfl dL_law_527 rfl) <|
    al (js_aload_n hx hb (i := 0) rfl dL_law_528 rfl) <|
    al (js_iload hx hb dL_law_529 rfl) <|
    al (js_iconst hx hb dL_law_531 rfl) <|
    al (js_iadd hx hb dL_law_532 rfl) <|
    al (js_sald hx hb hg hX hbl hbA hL dL_law_533 rfl) <|
    al (js_aload_n hx hb (i := 0) rfl dL_law_534 rfl) <|
    al (js_iload hx hb dL_law_535 rfl) <|
    al (js_iconst hx hb dL_law_537 rfl) <|
    al (js_iadd hx hb dL_law_538 rfl) <|
    al (js_sald hx hb hg hX hbl hbA hL dL_law_539 rfl) <|
    al (js_r2 ⟨hx, hb, hml, hown, hts⟩ hA hK hRc hRs hg ct1_cell (cwV 2 hts gL_law_X1_cell rfl (rm := rm1_cell) rfl rfl (by decide +kernel) ⟨Nat.le_of_ble_eq_true rfl, Nat.le_of_ble_eq_true rfl⟩) dL_law_540 rfl) <|
    al (js_istore hx hb dL_law_543 rfl (by decide)) <|
    al (js_aload_n hx hb (i := 2) rfl dL_law_545 rfl) <|
    al (js_r0 ⟨hx, hb, hml, hown, hts⟩ hA hK hRc hRs hg ct1_thrown (cwV 0 hts gL_law_X1_thrown rfl (rm := rm1_thrown) rfl rfl (by decide +kernel) ⟨Nat.le_of_ble_eq_true rfl, Nat.le_of_ble_eq_true rfl⟩) dL_law_546 rfl) <|
    al (js_iload hx hb dL_law_549 rfl) <|
    al (js_icmp_eq hx hb (t := 556) rfl dL_law_551 rfl) <|
    al (js_iconst hx hb dL_law_554 rfl) <|
    al (hE _ dL_law_555) <|
    al (js_iload hx hb dL_law_556 rfl) <|
    al (js_if_ne hx hb (t := 573) rfl dL_law_558 rfl) <|
    al (js_aload_n hx hb (i := 3) rfl dL_law_561 rfl) <|
    al (js_iconst hx hb dL_law_562 rfl) <|
    al (js_oald hx hb hg hK dL_law_563 rfl) <|
    al (js_iload hx hb dL_law_564 rfl) <|
    al (js_i2l hx hb dL_law_566 rfl) <|
    al (js_lcmp hx hb dL_law_567 rfl) <|
    al (js_if_eq hx hb (t := 573) rfl dL_law_568 rfl) <|
    al (js_iconst hx hb dL_law_571 rfl) <|
    al (hE _ dL_law_572) <|
    al (js_goto hx hb (t := 936) rfl dL_law_573) <|
    al (fun _ _ _ z => z) <| an
set_option maxRecDepth 20000 in
theorem jsn8 {p : Program} {l : Launch} {e : Env} {s : State} {m : MethodId} {args : Array Value} {below : List Frame} {meth : Method} {c : Code} {Q : State → Prop} {D : va_G} {cA cJ : ClassId} {A : Nat → Prop} {AD : (Nat → Nat) → Prop} {ad0 ad1 : Nat → Nat} {ao b L : Nat} {xs : Nat → Int32} (h : LCx p l s m args c D cA cJ A AD ad0 ad1 ao b L xs) (hE : ∀ pc, decode cL_law pc = .ok (.ireturn, 1) → ∀ lv st S, ji_tret lv st S (LKK p l e s m args below meth c Q D cA cJ A AD ad0 ad1 ao) → LKK p l e s m args below meth c Q D cA cJ A AD ad0 ad1 ao pc lv st S) : ∀ z ∈ jT8 (LKK p l e s m args below meth c Q D cA cJ A AD ad0 ad1 ao) xs L, ∀ lv st S, z.2 lv st S (LKK p l e s m args below meth c Q D cA cJ A AD ad0 ad1 ao) → LKK p l e s m args below meth c Q D cA cJ A AD ad0 ad1 ao z.1 lv st S := by
  obtain ⟨hx, hb, hml, hown, hts, hA, hK, hg, hlt, hXE, hN, hX, hbl, hbA, hL⟩ := h
  have hRc : 601024 ≤ room_1.cells := Nat.le_of_ble_eq_true rfl
  have hRs : 7293034 ≤ room_1.slots := Nat.le_of_ble_eq_true rfl
  exact al (js_aload_n hx hb (i := 1) rfl dL_law_576 rfl) <|
    al (js_aload_n hx hb (i := 0) rfl dL_law_577 rfl) <|
    al (js_iload hx hb dL_law_578 rfl) <|
    al (js_iconst hx hb dL_law_580 rfl) <|
    al (js_iadd hx hb dL_law_581 rfl) <|
    al (js_sald hx hb hg hX hbl hbA hL dL_law_582 rfl) <|
    al (js_aload_n hx hb (i := 0) rfl dL_law_583 rfl) <|
    al (js_iload hx hb dL_law_584 rfl) <|
    al (js_iconst hx hb dL_law_586 rfl) <|
    al (js_iadd hx hb dL_law_587 rfl) <|
    al (js_sald hx hb hg hX hbl hbA hL dL_law_588 rfl) <|
    al (js_aload_n hx hb (i := 3) rfl dL_law_589 rfl) <|
    al (js_w2 ⟨hx, hb, hml, hown, hts⟩ hA hK hRc hRs hg hlt hXE hN wL_about_ok (al wL_about_no1 <| an) (vx_cwSW 4 hts gL_law_L_about rfl rfl rfl (by decide +kernel) ⟨Nat.le_of_ble_eq_true rfl, Nat.le_of_ble_eq_true rfl⟩) dL_law_590 rfl) <|
    al (js_istore hx hb dL_law_593 rfl (by decide)) <|
    al (js_aload_n hx hb (i := 2) rfl dL_law_595 rfl) <|
    al (js_aload_n hx hb (i := 0) rfl dL_law_596 rfl) <|
    al (js_iload hx hb dL_law_597 rfl) <|
    al (js_iconst hx hb dL_law_599 rfl) <|
    al (js_iadd hx hb dL_law_600 rfl) <|
    al (js_sald hx hb hg hX hbl hbA hL dL_law_601 rfl) <|
    al (js_aload_n hx hb (i := 0) rfl dL_law_602 rfl) <|
    al (js_iload hx hb dL_law_603 rfl) <|
    al (js_iconst hx hb dL_law_605 rfl) <|
    al (js_iadd hx hb dL_law_606 rfl) <|
    al (js_sald hx hb hg hX hbl hbA hL dL_law_607 rfl) <|
    al (js_a2 ⟨hx, hb, hml, hown, hts⟩ hA hK hRc hRs hg ct1_about (cwV 2 hts gL_law_X1_about rfl (rm := rm1_about) rfl rfl (by decide +kernel) ⟨Nat.le_of_ble_eq_true rfl, Nat.le_of_ble_eq_true rfl⟩) dL_law_608 rfl) <|
    al (js_istore hx hb dL_law_611 rfl (by decide)) <|
    al (js_aload_n hx hb (i := 2) rfl dL_law_613 rfl) <|
    al (js_r0 ⟨hx, hb, hml, hown, hts⟩ hA hK hRc hRs hg ct1_thrown (cwV 0 hts gL_law_X1_thrown rfl (rm := rm1_thrown) rfl rfl (by decide +kernel) ⟨Nat.le_of_ble_eq_true rfl, Nat.le_of_ble_eq_true rfl⟩) dL_law_614 rfl) <|
    al (js_iload hx hb dL_law_617 rfl) <|
    al (js_icmp_eq hx hb (t := 624) rfl dL_law_619 rfl) <|
    al (js_iconst hx hb dL_law_622 rfl) <|
    al (hE _ dL_law_623) <|
    al (js_iload hx hb dL_law_624 rfl) <|
    al (js_if_ne hx hb (t := 641) rfl dL_law_626 rfl) <|
    al (js_aload_n hx hb (i := 3) rfl dL_law_629 rfl) <|
    al (js_iconst hx hb dL_law_630 rfl) <|
    al (js_oald hx hb hg hK dL_law_631 rfl) <|
    al (js_iload hx hb dL_law_632 rfl) <|
    al (js_i2l hx hb dL_law_634 rfl) <|
    al (js_lcmp hx hb dL_law_635 rfl) <|
    al (js_if_eq hx hb (t := 641) rfl dL_law_636 rfl) <|
    al (js_iconst hx hb dL_law_639 rfl) <|
    al (hE _ dL_law_640) <|
    al (js_goto hx hb (t := 936) rfl dL_law_641) <|
    al (fun _ _ _ z => z) <| an
set_option maxRecDepth 20000 in
theorem jsn9 {p : Program} {l : Launch} {e : Env} {s : State} {m : MethodId} {args : Array Value} {below : List Frame} {meth : Method} {c : Code} {Q : State → Prop} {D : va_G} {cA cJ : ClassId} {A : Nat → Prop} {AD : (Nat → Nat) → Prop} {ad0 ad1 : Nat → Nat} {ao b L : Nat} {xs : Nat → Int32} (h : LCx p l s m args c D cA cJ A AD ad0 ad1 ao b L xs) (hE : ∀ pc, decode cL_law pc = .ok (.ireturn, 1) → ∀ lv st S, ji_tret lv st S (LKK p l e s m args below meth c Q D cA cJ A AD ad0 ad1 ao) → LKK p l e s m args below meth c Q D cA cJ A AD ad0 ad1 ao pc lv st S) : ∀ z ∈ jT9 (LKK p l e s m args below meth c Q D cA cJ A AD ad0 ad1 ao) xs L, ∀ lv st S, z.2 lv st S (LKK p l e s m args below meth c Q D cA cJ A AD ad0 ad1 ao) → LKK p l e s m args below meth c Q D cA cJ A AD ad0 ad1 ao z.1 lv st S := by
  obtain ⟨hx, hb, hml, hown, hts, hA, hK, hg, hlt, hXE, hN, hX, hbl, hbA, hL⟩ := h
  have hRc : 601024 ≤ room_1.cells := Nat.le_of_ble_eq_true rfl
  have hRs : 7293034 ≤ room_1.slots := Nat.le_of_ble_eq_true rfl
  exact al (js_aload_n hx hb (i := 1) rfl dL_law_644 rfl) <|
    al (js_aload_n hx hb (i := 0) rfl dL_law_645 rfl) <|
    al (js_iload hx hb dL_law_646 rfl) <|
    al (js_iconst hx hb dL_law_648 rfl) <|
    al (js_iadd hx hb dL_law_649 rfl) <|
    al (js_sald hx hb hg hX hbl hbA hL dL_law_650 rfl) <|
    al (js_aload_n hx hb (i := 3) rfl dL_law_651 rfl) <|
    al (js_w1 ⟨hx, hb, hml, hown, hts⟩ hA hK hRc hRs hg hlt hXE hN wL_count_ok (al wL_count_no1 <| an) (vx_cwSW 3 hts gL_law_L_count rfl rfl rfl (by decide +kernel) ⟨Nat.le_of_ble_eq_true rfl, Nat.le_of_ble_eq_true rfl⟩) dL_law_652 rfl) <|
    al (js_istore hx hb dL_law_655 rfl (by decide)) <|
    al (js_aload_n hx hb (i := 2) rfl dL_law_657 rfl) <|
    al (js_aload_n hx hb (i := 0) rfl dL_law_658 rfl) <|
    al (js_iload hx hb dL_law_659 rfl) <|
    al (js_iconst hx hb dL_law_661 rfl) <|
    al (js_iadd hx hb dL_law_662 rfl) <|
    al (js_sald hx hb hg hX hbl hbA hL dL_law_663 rfl) <|
    al (js_a1 ⟨hx, hb, hml, hown, hts⟩ hA hK hRc hRs hg ct1_count (cwV 1 hts gL_law_X1_count rfl (rm := rm1_count) rfl rfl (by decide +kernel) ⟨Nat.le_of_ble_eq_true rfl, Nat.le_of_ble_eq_true rfl⟩) dL_law_664 rfl) <|
    al (js_istore hx hb dL_law_667 rfl (by decide)) <|
    al (js_aload_n hx hb (i := 2) rfl dL_law_669 rfl) <|
    al (js_r0 ⟨hx, hb, hml, hown, hts⟩ hA hK hRc hRs hg ct1_thrown (cwV 0 hts gL_law_X1_thrown rfl (rm := rm1_thrown) rfl rfl (by decide +kernel) ⟨Nat.le_of_ble_eq_true rfl, Nat.le_of_ble_eq_true rfl⟩) dL_law_670 rfl) <|
    al (js_iload hx hb dL_law_673 rfl) <|
    al (js_icmp_eq hx hb (t := 680) rfl dL_law_675 rfl) <|
    al (js_iconst hx hb dL_law_678 rfl) <|
    al (hE _ dL_law_679) <|
    al (js_iload hx hb dL_law_680 rfl) <|
    al (js_if_ne hx hb (t := 697) rfl dL_law_682 rfl) <|
    al (js_aload_n hx hb (i := 3) rfl dL_law_685 rfl) <|
    al (js_iconst hx hb dL_law_686 rfl) <|
    al (js_oald hx hb hg hK dL_law_687 rfl) <|
    al (js_iload hx hb dL_law_688 rfl) <|
    al (js_i2l hx hb dL_law_690 rfl) <|
    al (js_lcmp hx hb dL_law_691 rfl) <|
    al (js_if_eq hx hb (t := 697) rfl dL_law_692 rfl) <|
    al (js_iconst hx hb dL_law_695 rfl) <|
    al (hE _ dL_law_696) <|
    al (js_goto hx hb (t := 936) rfl dL_law_697) <|
    al (fun _ _ _ z => z) <| an
set_option maxRecDepth 20000 in
theorem jsn10 {p : Program} {l : Launch} {e : Env} {s : State} {m : MethodId} {args : Array Value} {below : List Frame} {meth : Method} {c : Code} {Q : State → Prop} {D : va_G} {cA cJ : ClassId} {A : Nat → Prop} {AD : (Nat → Nat) → Prop} {ad0 ad1 : Nat → Nat} {ao b L : Nat} {xs : Nat → Int32} (h : LCx p l s m args c D cA cJ A AD ad0 ad1 ao b L xs) (hE : ∀ pc, decode cL_law pc = .ok (.ireturn, 1) → ∀ lv st S, ji_tret lv st S (LKK p l e s m args below meth c Q D cA cJ A AD ad0 ad1 ao) → LKK p l e s m args below meth c Q D cA cJ A AD ad0 ad1 ao pc lv st S) : ∀ z ∈ jT10 (LKK p l e s m args below meth c Q D cA cJ A AD ad0 ad1 ao) xs L, ∀ lv st S, z.2 lv st S (LKK p l e s m args below meth c Q D cA cJ A AD ad0 ad1 ao) → LKK p l e s m args below meth c Q D cA cJ A AD ad0 ad1 ao z.1 lv st S := by
  obtain ⟨hx, hb, hml, hown, hts, hA, hK, hg, hlt, hXE, hN, hX, hbl, hbA, hL⟩ := h
  have hRc : 601024 ≤ room_1.cells := Nat.le_of_ble_eq_true rfl
  have hRs : 7293034 ≤ room_1.slots := Nat.le_of_ble_eq_true rfl
  exact al (js_aload_n hx hb (i := 1) rfl dL_law_700 rfl) <|
    al (js_aload_n hx hb (i := 0) rfl dL_law_701 rfl) <|
    al (js_iload hx hb dL_law_702 rfl) <|
    al (js_iconst hx hb dL_law_704 rfl) <|
    al (js_iadd hx hb dL_law_705 rfl) <|
    al (js_sald hx hb hg hX hbl hbA hL dL_law_706 rfl) <|
    al (js_aload_n hx hb (i := 3) rfl dL_law_707 rfl) <|
    al (js_w1 ⟨hx, hb, hml, hown, hts⟩ hA hK hRc hRs hg hlt hXE hN wL_would_ok (al wL_would_no1 <| an) (vx_cwSW 3 hts gL_law_L_would rfl rfl rfl (by decide +kernel) ⟨Nat.le_of_ble_eq_true rfl, Nat.le_of_ble_eq_true rfl⟩) dL_law_708 rfl) <|
    al (js_istore hx hb dL_law_711 rfl (by decide)) <|
    al (js_aload_n hx hb (i := 2) rfl dL_law_713 rfl) <|
    al (js_aload_n hx hb (i := 0) rfl dL_law_714 rfl) <|
    al (js_iload hx hb dL_law_715 rfl) <|
    al (js_iconst hx hb dL_law_717 rfl) <|
    al (js_iadd hx hb dL_law_718 rfl) <|
    al (js_sald hx hb hg hX hbl hbA hL dL_law_719 rfl) <|
    al (js_r1 ⟨hx, hb, hml, hown, hts⟩ hA hK hRc hRs hg ct1_would (cwV 1 hts gL_law_X1_would rfl (rm := rm1_would) rfl rfl (by decide +kernel) ⟨Nat.le_of_ble_eq_true rfl, Nat.le_of_ble_eq_true rfl⟩) dL_law_720 rfl) <|
    al (js_istore hx hb dL_law_723 rfl (by decide)) <|
    al (js_aload_n hx hb (i := 2) rfl dL_law_725 rfl) <|
    al (js_r0 ⟨hx, hb, hml, hown, hts⟩ hA hK hRc hRs hg ct1_thrown (cwV 0 hts gL_law_X1_thrown rfl (rm := rm1_thrown) rfl rfl (by decide +kernel) ⟨Nat.le_of_ble_eq_true rfl, Nat.le_of_ble_eq_true rfl⟩) dL_law_726 rfl) <|
    al (js_iload hx hb dL_law_729 rfl) <|
    al (js_icmp_eq hx hb (t := 736) rfl dL_law_731 rfl) <|
    al (js_iconst hx hb dL_law_734 rfl) <|
    al (hE _ dL_law_735) <|
    al (js_iload hx hb dL_law_736 rfl) <|
    al (js_if_ne hx hb (t := 753) rfl dL_law_738 rfl) <|
    al (js_aload_n hx hb (i := 3) rfl dL_law_741 rfl) <|
    al (js_iconst hx hb dL_law_742 rfl) <|
    al (js_oald hx hb hg hK dL_law_743 rfl) <|
    al (js_iload hx hb dL_law_744 rfl) <|
    al (js_i2l hx hb dL_law_746 rfl) <|
    al (js_lcmp hx hb dL_law_747 rfl) <|
    al (js_if_eq hx hb (t := 753) rfl dL_law_748 rfl) <|
    al (js_iconst hx hb dL_law_751 rfl) <|
    al (hE _ dL_law_752) <|
    al (js_goto hx hb (t := 936) rfl dL_law_753) <|
    al (fun _ _ _ z => z) <| an
set_option maxRecDepth 20000 in
theorem jsn11 {p : Program} {l : Launch} {e : Env} {s : State} {m : MethodId} {args : Array Value} {below : List Frame} {meth : Method} {c : Code} {Q : State → Prop} {D : va_G} {cA cJ : ClassId} {A : Nat → Prop} {AD : (Nat → Nat) → Prop} {ad0 ad1 : Nat → Nat} {ao b L : Nat} {xs : Nat → Int32} (h : LCx p l s m args c D cA cJ A AD ad0 ad1 ao b L xs) (hE : ∀ pc, decode cL_law pc = .ok (.ireturn, 1) → ∀ lv st S, ji_tret lv st S (LKK p l e s m args below meth c Q D cA cJ A AD ad0 ad1 ao) → LKK p l e s m args below meth c Q D cA cJ A AD ad0 ad1 ao pc lv st S) : ∀ z ∈ jT11 (LKK p l e s m args below meth c Q D cA cJ A AD ad0 ad1 ao) xs L, ∀ lv st S, z.2 lv st S (LKK p l e s m args below meth c Q D cA cJ A AD ad0 ad1 ao) → LKK p l e s m args below meth c Q D cA cJ A AD ad0 ad1 ao z.1 lv st S := by
  obtain ⟨hx, hb, hml, hown, hts, hA, hK, hg, hlt, hXE, hN, hX, hbl, hbA, hL⟩ := h
  have hRc : 601024 ≤ room_1.cells := Nat.le_of_ble_eq_true rfl
  have hRs : 7293034 ≤ room_1.slots := Nat.le_of_ble_eq_true rfl
  exact al (js_aload_n hx hb (i := 1) rfl dL_law_756 rfl) <|
    al (js_aload_n hx hb (i := 0) rfl dL_law_757 rfl) <|
    al (js_iload hx hb dL_law_758 rfl) <|
    al (js_iconst hx hb dL_law_760 rfl) <|
    al (js_iadd hx hb dL_law_761 rfl) <|
    al (js_sald hx hb hg hX hbl hbA hL dL_law_762 rfl) <|
    al (js_aload_n hx hb (i := 3) rfl dL_law_763 rfl) <|
    al (js_w1 ⟨hx, hb, hml, hown, hts⟩ hA hK hRc hRs hg hlt hXE hN wL_spares_ok (al wL_spares_no1 <| an) (vx_cwSW 3 hts gL_law_L_spares rfl rfl rfl (by decide +kernel) ⟨Nat.le_of_ble_eq_true rfl, Nat.le_of_ble_eq_true rfl⟩) dL_law_764 rfl) <|
    al (js_istore hx hb dL_law_767 rfl (by decide)) <|
    al (js_aload_n hx hb (i := 2) rfl dL_law_769 rfl) <|
    al (js_aload_n hx hb (i := 0) rfl dL_law_770 rfl) <|
    al (js_iload hx hb dL_law_771 rfl) <|
    al (js_iconst hx hb dL_law_773 rfl) <|
    al (js_iadd hx hb dL_law_774 rfl) <|
    al (js_sald hx hb hg hX hbl hbA hL dL_law_775 rfl) <|
    al (js_r1 ⟨hx, hb, hml, hown, hts⟩ hA hK hRc hRs hg ct1_spares (cwV 1 hts gL_law_X1_spares rfl (rm := rm1_spares) rfl rfl (by decide +kernel) ⟨Nat.le_of_ble_eq_true rfl, Nat.le_of_ble_eq_true rfl⟩) dL_law_776 rfl) <|
    al (js_istore hx hb dL_law_779 rfl (by decide)) <|
    al (js_aload_n hx hb (i := 2) rfl dL_law_781 rfl) <|
    al (js_r0 ⟨hx, hb, hml, hown, hts⟩ hA hK hRc hRs hg ct1_thrown (cwV 0 hts gL_law_X1_thrown rfl (rm := rm1_thrown) rfl rfl (by decide +kernel) ⟨Nat.le_of_ble_eq_true rfl, Nat.le_of_ble_eq_true rfl⟩) dL_law_782 rfl) <|
    al (js_iload hx hb dL_law_785 rfl) <|
    al (js_icmp_eq hx hb (t := 792) rfl dL_law_787 rfl) <|
    al (js_iconst hx hb dL_law_790 rfl) <|
    al (hE _ dL_law_791) <|
    al (js_iload hx hb dL_law_792 rfl) <|
    al (js_if_ne hx hb (t := 809) rfl dL_law_794 rfl) <|
    al (js_aload_n hx hb (i := 3) rfl dL_law_797 rfl) <|
    al (js_iconst hx hb dL_law_798 rfl) <|
    al (js_oald hx hb hg hK dL_law_799 rfl) <|
    al (js_iload hx hb dL_law_800 rfl) <|
    al (js_i2l hx hb dL_law_802 rfl) <|
    al (js_lcmp hx hb dL_law_803 rfl) <|
    al (js_if_eq hx hb (t := 809) rfl dL_law_804 rfl) <|
    al (js_iconst hx hb dL_law_807 rfl) <|
    al (hE _ dL_law_808) <|
    al (js_goto hx hb (t := 936) rfl dL_law_809) <|
    al (fun _ _ _ z => z) <| an
set_option maxRecDepth 20000 in
theorem jsn12 {p : Program} {l : Launch} {e : Env} {s : State} {m : MethodId} {args : Array Value} {below : List Frame} {meth : Method} {c : Code} {Q : State → Prop} {D : va_G} {cA cJ : ClassId} {A : Nat → Prop} {AD : (Nat → Nat) → Prop} {ad0 ad1 : Nat → Nat} {ao b L : Nat} {xs : Nat → Int32} (h : LCx p l s m args c D cA cJ A AD ad0 ad1 ao b L xs) (hE : ∀ pc, decode cL_law pc = .ok (.ireturn, 1) → ∀ lv st S, ji_tret lv st S (LKK p l e s m args below meth c Q D cA cJ A AD ad0 ad1 ao) → LKK p l e s m args below meth c Q D cA cJ A AD ad0 ad1 ao pc lv st S) : ∀ z ∈ jT12 (LKK p l e s m args below meth c Q D cA cJ A AD ad0 ad1 ao) xs L, ∀ lv st S, z.2 lv st S (LKK p l e s m args below meth c Q D cA cJ A AD ad0 ad1 ao) → LKK p l e s m args below meth c Q D cA cJ A AD ad0 ad1 ao z.1 lv st S := by
  obtain ⟨hx, hb, hml, hown, hts, hA, hK, hg, hlt, hXE, hN, hX, hbl, hbA, hL⟩ := h
  have hRc : 601024 ≤ room_1.cells := Nat.le_of_ble_eq_true rfl
  have hRs : 7293034 ≤ room_1.slots := Nat.le_of_ble_eq_true rfl
  exact al (js_aload_n hx hb (i := 1) rfl dL_law_812 rfl) <|
    al (js_aload_n hx hb (i := 0) rfl dL_law_813 rfl) <|
    al (js_iload hx hb dL_law_814 rfl) <|
    al (js_iconst hx hb dL_law_816 rfl) <|
    al (js_iadd hx hb dL_law_817 rfl) <|
    al (js_sald hx hb hg hX hbl hbA hL dL_law_818 rfl) <|
    al (js_aload_n hx hb (i := 3) rfl dL_law_819 rfl) <|
    al (js_w1 ⟨hx, hb, hml, hown, hts⟩ hA hK hRc hRs hg hlt hXE hN wL_room_ok (al wL_room_no1 <| an) (vx_cwSW 3 hts gL_law_L_room rfl rfl rfl (by decide +kernel) ⟨Nat.le_of_ble_eq_true rfl, Nat.le_of_ble_eq_true rfl⟩) dL_law_820 rfl) <|
    al (js_istore hx hb dL_law_823 rfl (by decide)) <|
    al (js_aload_n hx hb (i := 2) rfl dL_law_825 rfl) <|
    al (js_aload_n hx hb (i := 0) rfl dL_law_826 rfl) <|
    al (js_iload hx hb dL_law_827 rfl) <|
    al (js_iconst hx hb dL_law_829 rfl) <|
    al (js_iadd hx hb dL_law_830 rfl) <|
    al (js_sald hx hb hg hX hbl hbA hL dL_law_831 rfl) <|
    al (js_r1 ⟨hx, hb, hml, hown, hts⟩ hA hK hRc hRs hg ct1_room (cwV 1 hts gL_law_X1_room rfl (rm := rm1_room) rfl rfl (by decide +kernel) ⟨Nat.le_of_ble_eq_true rfl, Nat.le_of_ble_eq_true rfl⟩) dL_law_832 rfl) <|
    al (js_istore hx hb dL_law_835 rfl (by decide)) <|
    al (js_aload_n hx hb (i := 2) rfl dL_law_837 rfl) <|
    al (js_r0 ⟨hx, hb, hml, hown, hts⟩ hA hK hRc hRs hg ct1_thrown (cwV 0 hts gL_law_X1_thrown rfl (rm := rm1_thrown) rfl rfl (by decide +kernel) ⟨Nat.le_of_ble_eq_true rfl, Nat.le_of_ble_eq_true rfl⟩) dL_law_838 rfl) <|
    al (js_iload hx hb dL_law_841 rfl) <|
    al (js_icmp_eq hx hb (t := 848) rfl dL_law_843 rfl) <|
    al (js_iconst hx hb dL_law_846 rfl) <|
    al (hE _ dL_law_847) <|
    al (js_iload hx hb dL_law_848 rfl) <|
    al (js_if_ne hx hb (t := 865) rfl dL_law_850 rfl) <|
    al (js_aload_n hx hb (i := 3) rfl dL_law_853 rfl) <|
    al (js_iconst hx hb dL_law_854 rfl) <|
    al (js_oald hx hb hg hK dL_law_855 rfl) <|
    al (js_iload hx hb dL_law_856 rfl) <|
    al (js_i2l hx hb dL_law_858 rfl) <|
    al (js_lcmp hx hb dL_law_859 rfl) <|
    al (js_if_eq hx hb (t := 865) rfl dL_law_860 rfl) <|
    al (js_iconst hx hb dL_law_863 rfl) <|
    al (hE _ dL_law_864) <|
    al (js_goto hx hb (t := 936) rfl dL_law_865) <|
    al (fun _ _ _ z => z) <| an
set_option maxRecDepth 20000 in
theorem jsn13 {p : Program} {l : Launch} {e : Env} {s : State} {m : MethodId} {args : Array Value} {below : List Frame} {meth : Method} {c : Code} {Q : State → Prop} {D : va_G} {cA cJ : ClassId} {A : Nat → Prop} {AD : (Nat → Nat) → Prop} {ad0 ad1 : Nat → Nat} {ao b L : Nat} {xs : Nat → Int32} (h : LCx p l s m args c D cA cJ A AD ad0 ad1 ao b L xs) (hE : ∀ pc, decode cL_law pc = .ok (.ireturn, 1) → ∀ lv st S, ji_tret lv st S (LKK p l e s m args below meth c Q D cA cJ A AD ad0 ad1 ao) → LKK p l e s m args below meth c Q D cA cJ A AD ad0 ad1 ao pc lv st S) : ∀ z ∈ jT13 (LKK p l e s m args below meth c Q D cA cJ A AD ad0 ad1 ao) xs L, ∀ lv st S, z.2 lv st S (LKK p l e s m args below meth c Q D cA cJ A AD ad0 ad1 ao) → LKK p l e s m args below meth c Q D cA cJ A AD ad0 ad1 ao z.1 lv st S := by
  obtain ⟨hx, hb, hml, hown, hts, hA, hK, hg, hlt, hXE, hN, hX, hbl, hbA, hL⟩ := h
  have hRc : 601024 ≤ room_1.cells := Nat.le_of_ble_eq_true rfl
  have hRs : 7293034 ≤ room_1.slots := Nat.le_of_ble_eq_true rfl
  exact al (js_aload_n hx hb (i := 1) rfl dL_law_868 rfl) <|
    al (js_c0 ⟨hx, hb, hml, hown, hts⟩ hA hK hRc hRs hg ct0_worst (cwV 0 hts gL_law_X0_worst rfl (rm := rm0_worst) rfl rfl (by decide +kernel) ⟨Nat.le_of_ble_eq_true rfl, Nat.le_of_ble_eq_true rfl⟩) dL_law_869 rfl) <|
    al (js_aload_n hx hb (i := 2) rfl dL_law_872 rfl) <|
    al (js_r0 ⟨hx, hb, hml, hown, hts⟩ hA hK hRc hRs hg ct1_worst (cwV 0 hts gL_law_X1_worst rfl (rm := rm1_worst) rfl rfl (by decide +kernel) ⟨Nat.le_of_ble_eq_true rfl, Nat.le_of_ble_eq_true rfl⟩) dL_law_873 rfl) <|
    al (js_icmp_eq hx hb (t := 936) rfl dL_law_876 rfl) <|
    al (js_iconst hx hb dL_law_879 rfl) <|
    al (hE _ dL_law_880) <|
    al (fun _ _ _ z => z) <| an
set_option maxRecDepth 20000 in
theorem jsn14 {p : Program} {l : Launch} {e : Env} {s : State} {m : MethodId} {args : Array Value} {below : List Frame} {meth : Method} {c : Code} {Q : State → Prop} {D : va_G} {cA cJ : ClassId} {A : Nat → Prop} {AD : (Nat → Nat) → Prop} {ad0 ad1 : Nat → Nat} {ao b L : Nat} {xs : Nat → Int32} (h : LCx p l s m args c D cA cJ A AD ad0 ad1 ao b L xs) (hE : ∀ pc, decode cL_law pc = .ok (.ireturn, 1) → ∀ lv st S, ji_tret lv st S (LKK p l e s m args below meth c Q D cA cJ A AD ad0 ad1 ao) → LKK p l e s m args below meth c Q D cA cJ A AD ad0 ad1 ao pc lv st S) : ∀ z ∈ jT14 (LKK p l e s m args below meth c Q D cA cJ A AD ad0 ad1 ao) xs L, ∀ lv st S, z.2 lv st S (LKK p l e s m args below meth c Q D cA cJ A AD ad0 ad1 ao) → LKK p l e s m args below meth c Q D cA cJ A AD ad0 ad1 ao z.1 lv st S := by
  obtain ⟨hx, hb, hml, hown, hts, hA, hK, hg, hlt, hXE, hN, hX, hbl, hbA, hL⟩ := h
  have hRc : 601024 ≤ room_1.cells := Nat.le_of_ble_eq_true rfl
  have hRs : 7293034 ≤ room_1.slots := Nat.le_of_ble_eq_true rfl
  exact al (js_aload_n hx hb (i := 1) rfl dL_law_881 rfl) <|
    al (js_cd0 ⟨hx, hb, hml, hown, hts⟩ hA hK hRc hRs hg ct0_mean (cwV 0 hts gL_law_X0_mean rfl (rm := rm0_mean) rfl rfl (by decide +kernel) ⟨Nat.le_of_ble_eq_true rfl, Nat.le_of_ble_eq_true rfl⟩) dL_law_882 rfl) <|
    al (js_dstore hx hb dL_law_885 rfl (by decide)) <|
    al (js_aload_n hx hb (i := 2) rfl dL_law_887 rfl) <|
    al (js_ad0 ⟨hx, hb, hml, hown, hts⟩ hA hK hRc hRs hg ct1_mean (cwV 0 hts gL_law_X1_mean rfl (rm := rm1_mean) rfl rfl (by decide +kernel) ⟨Nat.le_of_ble_eq_true rfl, Nat.le_of_ble_eq_true rfl⟩) dL_law_888 rfl) <|
    al (js_dstore hx hb dL_law_891 rfl (by decide)) <|
    al (js_dload hx hb dL_law_893 rfl) <|
    al (js_dload hx hb dL_law_895 rfl) <|
    al (js_dcmp hx hb dL_law_897 rfl) <|
    al (js_if_eq hx hb (t := 919) rfl dL_law_898 rfl) <|
    al (js_dload hx hb dL_law_901 rfl) <|
    al (js_dload hx hb dL_law_903 rfl) <|
    al (js_dcmp hx hb dL_law_905 rfl) <|
    al (js_if_eq hx hb (t := 917) rfl dL_law_906 rfl) <|
    al (js_dload hx hb dL_law_909 rfl) <|
    al (js_dload hx hb dL_law_911 rfl) <|
    al (js_dcmp hx hb dL_law_913 rfl) <|
    al (js_if_ne hx hb (t := 919) rfl dL_law_914 rfl) <|
    al (js_iconst hx hb dL_law_917 rfl) <|
    al (hE _ dL_law_918) <|
    al (js_goto hx hb (t := 936) rfl dL_law_919) <|
    al (fun _ _ _ z => z) <| an
set_option maxRecDepth 20000 in
theorem jsn15 {p : Program} {l : Launch} {e : Env} {s : State} {m : MethodId} {args : Array Value} {below : List Frame} {meth : Method} {c : Code} {Q : State → Prop} {D : va_G} {cA cJ : ClassId} {A : Nat → Prop} {AD : (Nat → Nat) → Prop} {ad0 ad1 : Nat → Nat} {ao b L : Nat} {xs : Nat → Int32} (h : LCx p l s m args c D cA cJ A AD ad0 ad1 ao b L xs) (hE : ∀ pc, decode cL_law pc = .ok (.ireturn, 1) → ∀ lv st S, ji_tret lv st S (LKK p l e s m args below meth c Q D cA cJ A AD ad0 ad1 ao) → LKK p l e s m args below meth c Q D cA cJ A AD ad0 ad1 ao pc lv st S) : ∀ z ∈ jT15 (LKK p l e s m args below meth c Q D cA cJ A AD ad0 ad1 ao) xs L, ∀ lv st S, z.2 lv st S (LKK p l e s m args below meth c Q D cA cJ A AD ad0 ad1 ao) → LKK p l e s m args below meth c Q D cA cJ A AD ad0 ad1 ao z.1 lv st S := by
  obtain ⟨hx, hb, hml, hown, hts, hA, hK, hg, hlt, hXE, hN, hX, hbl, hbA, hL⟩ := h
  have hRc : 601024 ≤ room_1.cells := Nat.le_of_ble_eq_true rfl
  have hRs : 7293034 ≤ room_1.slots := Nat.le_of_ble_eq_true rfl
  exact al (js_aload_n hx hb (i := 1) rfl dL_law_922 rfl) <|
    al (js_cj0 ⟨hx, hb, hml, hown, hts⟩ hA hK hRc hRs hg ct0_digest (cwV 0 hts gL_law_X0_digest rfl (rm := rm0_digest) rfl rfl (by decide +kernel) ⟨Nat.le_of_ble_eq_true rfl, Nat.le_of_ble_eq_true rfl⟩) dL_law_923 rfl) <|
    al (js_aload_n hx hb (i := 2) rfl dL_law_926 rfl) <|
    al (js_aj0 ⟨hx, hb, hml, hown, hts⟩ hA hK hRc hRs hg ct1_digest (cwV 0 hts gL_law_X1_digest rfl (rm := rm1_digest) rfl rfl (by decide +kernel) ⟨Nat.le_of_ble_eq_true rfl, Nat.le_of_ble_eq_true rfl⟩) dL_law_927 rfl) <|
    al (js_lcmp hx hb dL_law_930 rfl) <|
    al (js_if_eq hx hb (t := 936) rfl dL_law_931 rfl) <|
    al (js_iconst hx hb dL_law_934 rfl) <|
    al (hE _ dL_law_935) <|
    al (fun _ _ _ z => z) <| an
set_option maxRecDepth 20000 in
theorem jsnH {p : Program} {l : Launch} {e : Env} {s : State} {m : MethodId} {args : Array Value} {below : List Frame} {meth : Method} {c : Code} {Q : State → Prop} {D : va_G} {cA cJ : ClassId} {A : Nat → Prop} {AD : (Nat → Nat) → Prop} {ad0 ad1 : Nat → Nat} {ao b L : Nat} {xs : Nat → Int32} (h : LCx p l s m args c D cA cJ A AD ad0 ad1 ao b L xs) (hE : ∀ pc, decode cL_law pc = .ok (.ireturn, 1) → ∀ lv st S, ji_tret lv st S (LKK p l e s m args below meth c Q D cA cJ A AD ad0 ad1 ao) → LKK p l e s m args below meth c Q D cA cJ A AD ad0 ad1 ao pc lv st S) : ∀ z ∈ jTH (LKK p l e s m args below meth c Q D cA cJ A AD ad0 ad1 ao) xs L, ∀ lv st S, z.2 lv st S (LKK p l e s m args below meth c Q D cA cJ A AD ad0 ad1 ao) → LKK p l e s m args below meth c Q D cA cJ A AD ad0 ad1 ao z.1 lv st S := by
  obtain ⟨hx, hb, hml, hown, hts, hA, hK, hg, hlt, hXE, hN, hX, hbl, hbA, hL⟩ := h
  have hRc : 601024 ≤ room_1.cells := Nat.le_of_ble_eq_true rfl
  have hRs : 7293034 ≤ room_1.slots := Nat.le_of_ble_eq_true rfl
  exact al (js_iload hx hb dL_law_23 rfl) <|
    al (js_aload_n hx hb (i := 0) rfl dL_law_25 rfl) <|
    al (js_slen hx hb hg hX hbl hbA hL dL_law_26 rfl) <|
    al (js_iconst hx hb dL_law_27 rfl) <|
    al (js_isub hx hb dL_law_28 rfl) <|
    al (js_icmp_gt hx hb (t := 942) rfl dL_law_29 rfl) <|
    al (js_aload_n hx hb (i := 0) rfl dL_law_32 rfl) <|
    al (js_iload hx hb dL_law_33 rfl) <|
    al (js_sald hx hb hg hX hbl hbA hL dL_law_35 rfl) <|
    al (js_bipush hx hb dL_law_36 rfl (by decide)) <|
    al (js_and15 hx hb dL_law_38 rfl) <|
    al (js_switch hx hb dL_law_39 (by decide) (al ⟨by decide, by decide, 77, rfl, by decide⟩ <| al ⟨by decide, by decide, 145, rfl, by decide⟩ <| al ⟨by decide, by decide, 201, rfl, by decide⟩ <| al ⟨by decide, by decide, 264, rfl, by decide⟩ <| al ⟨by decide, by decide, 277, rfl, by decide⟩ <| al ⟨by decide, by decide, 333, rfl, by decide⟩ <| al ⟨by decide, by decide, 401, rfl, by decide⟩ <| al ⟨by decide, by decide, 469, rfl, by decide⟩ <| al ⟨by decide, by decide, 537, rfl, by decide⟩ <| al ⟨by decide, by decide, 605, rfl, by decide⟩ <| al ⟨by decide, by decide, 661, rfl, by decide⟩ <| al ⟨by decide, by decide, 717, rfl, by decide⟩ <| al ⟨by decide, by decide, 773, rfl, by decide⟩ <| al ⟨by decide, by decide, 829, rfl, by decide⟩ <| al ⟨by decide, by decide, 842, rfl, by decide⟩ <| al ⟨by decide, by decide, 883, rfl, by decide⟩ <| an) swL) <|
    al (js_iconst hx hb dL_law_942 rfl) <|
    al (hE _ dL_law_943) <|
    al (fun _ _ _ z => z) <|
    al (fun _ _ _ z => z) <|
    al (fun _ _ _ z => z) <|
    al (fun _ _ _ z => z) <|
    al (fun _ _ _ z => z) <|
    al (fun _ _ _ z => z) <|
    al (fun _ _ _ z => z) <|
    al (fun _ _ _ z => z) <|
    al (fun _ _ _ z => z) <|
    al (fun _ _ _ z => z) <|
    al (fun _ _ _ z => z) <|
    al (fun _ _ _ z => z) <|
    al (fun _ _ _ z => z) <|
    al (fun _ _ _ z => z) <|
    al (fun _ _ _ z => z) <|
    al (fun _ _ _ z => z) <|
    al (fun _ _ _ z => z) <| an
set_option maxRecDepth 20000 in
theorem jsnE {p : Program} {l : Launch} {e : Env} {s : State} {m : MethodId} {args : Array Value} {below : List Frame} {meth : Method} {c : Code} {Q : State → Prop} {D : va_G} {cA cJ : ClassId} {A : Nat → Prop} {AD : (Nat → Nat) → Prop} {ad0 ad1 : Nat → Nat} {ao b L : Nat} {xs : Nat → Int32} (h : LCx p l s m args c D cA cJ A AD ad0 ad1 ao b L xs) (hE : ∀ pc, decode cL_law pc = .ok (.ireturn, 1) → ∀ lv st S, ji_tret lv st S (LKK p l e s m args below meth c Q D cA cJ A AD ad0 ad1 ao) → LKK p l e s m args below meth c Q D cA cJ A AD ad0 ad1 ao pc lv st S) : ∀ z ∈ jTE (LKK p l e s m args below meth c Q D cA cJ A AD ad0 ad1 ao) xs L, ∀ lv st S, z.2 lv st S (LKK p l e s m args below meth c Q D cA cJ A AD ad0 ad1 ao) → LKK p l e s m args below meth c Q D cA cJ A AD ad0 ad1 ao z.1 lv st S := by
  obtain ⟨hx, hb, hml, hown, hts, hA, hK, hg, hlt, hXE, hN, hX, hbl, hbA, hL⟩ := h
  have hRc : 601024 ≤ room_1.cells := Nat.le_of_ble_eq_true rfl
  have hRs : 7293034 ≤ room_1.slots := Nat.le_of_ble_eq_true rfl
  exact al (js_iinc hx hb dL_law_936 rfl (by decide)) <|
    al (js_goto hx hb (t := 23) rfl dL_law_939) <|
    al (fun _ _ _ z => z) <| an
