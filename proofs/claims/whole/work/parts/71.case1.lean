set_option maxHeartbeats 8000000 in
set_option maxRecDepth 100000 in
theorem lc_edit {p : Program} {l : Launch} {e : Env} {s : State} {m : MethodId} {below : List Frame} {meth : Method} {c : Code} {b L : Nat} {xs : Nat → Int32} (hL : L ≤ 2560) (C0 : lw_At p s m meth c b L xs) {D : va_G} {ct : Nat → ClassId} (hK : KK D ct s) {r g : Nat → Nat} {o k cells slots : Nat} {mc ms kx f2 q2 : Nat} (hk : 5 * k + 5 ≤ L) (hcells : cells + mc ≤ 601024) (hslots : slots + ms ≤ 7293034) {Ls Cs C1 : List va_W} {wc w1 M0 M1 : va_W} {v2 : Int32} {ov : Int64} (is : List Nat) {fs fs1 : List Value} (hM1 : ∀ sz, Met l yL_edit wsL_edit ({ frames := 9, cells := mc, slots := ms, locals := 300 } : Room) (wrPcT D ct [.ref (r 0), .int (xs (5 * k + 1)), .int (xs (5 * k + 2)), .int (xs (5 * k + 3)), .int (xs (5 * k + 4)), .ref o] wc sz) (wqI D (nI kx) w1 (va_A wc sz)) mc ms (va_A wc sz)) (hwc : wc = fl Cs) (hw1 : w1 = fl C1) (hC : is.map (fun i => Ls[i]?) = Cs.map some) (hnd : va_nd is = true) (had : C1.map (·.map Prod.fst) = Cs.map (·.map Prod.fst)) (hM2 : ∀ sz, Met l yX4_edit wsX4_edit ({ frames := f2, cells := 0, slots := 0, locals := q2 } : Room) (wrPc D ct [.ref (g 0), .int (xs (5 * k + 1)), .int (xs (5 * k + 2)), .int (xs (5 * k + 3)), .int (xs (5 * k + 4))] M0 sz) (wqI D v2 M1 (va_A M0 sz)) 0 0 (va_A M0 sz)) (hf2 : f2 ≤ 10) (hq2 : q2 ≤ 370) (h9 : (jnG Ls is C1)[9]? = some M0) (hadM : M1.map Prod.fst = M0.map Prod.fst) (he0 : M0[0]? = some (g 0, .inr (4, fs))) (hth : Met l yX4_thrown wsX4_thrown ({ frames := 0, cells := 0, slots := 0, locals := 0 } : Room) (roPc D ct [.ref (g 0)] M1) (rqI (nI kx)) 0 0 (fun _ => False)) (he1 : M1[0]? = some (g 0, .inr (4, fs1))) (h10 : (jnG (jnG Ls is C1) [9] [M1])[10]? = some (wO ct o ov)) (hcmp : kx = 0 → ov = v2.toInt64) (hkx : kx < 4) (hnx : LSa p l e s m below meth c b D r g o 1547 k (jnG (jnG Ls is C1) [9] [M1]) (cells + mc) (slots + ms)) : LSa p l e s m below meth c b D r g o 140 k Ls (cells) (slots) := by
  obtain ⟨hx, hb, hr, hml, hown, hts, hX, hbl, hlocks, hgv⟩ := C0
  have hts := fun w h => hts w (wsL_law_in w h)
  have hown : s.vm.findClass RL = some m.cls := hown
  have hb : c.code = cL_law := hb
  intro H locs hP hD hS hT ls hl
  have hA : ∀ q : Nat, s.heap.size ≤ q → (fun q : Nat => s.heap.size ≤ q) q := fun _ h => h
  refine lv_aload_n hx hb dL_law_140 rfl (lv_at hl 1 rfl) ?_
  refine lv_aload_n hx hb dL_law_141 rfl (lv_at hl 0 rfl) ?_
  refine lv_iload hx hb dL_law_142 (lv_at hl 4 rfl) ?_
  refine lv_iconst (v := nI 1) hx hb dL_law_144 (by decide) ?_
  refine r_iaddN hx hb dL_law_145 ?_
  refine r_sld (j := 5 * k + 1) hx hb hX hbl hS (by omega) hL dL_law_146 ?_
  refine lv_aload_n hx hb dL_law_147 rfl (lv_at hl 0 rfl) ?_
  refine lv_iload hx hb dL_law_148 (lv_at hl 4 rfl) ?_
  refine lv_iconst (v := nI 2) hx hb dL_law_150 (by decide) ?_
  refine r_iaddN hx hb dL_law_151 ?_
  refine r_sld (j := 5 * k + 2) hx hb hX hbl hS (by omega) hL dL_law_152 ?_
  refine lv_aload_n hx hb dL_law_153 rfl (lv_at hl 0 rfl) ?_
  refine lv_iload hx hb dL_law_154 (lv_at hl 4 rfl) ?_
  refine lv_iconst (v := nI 3) hx hb dL_law_156 (by decide) ?_
  refine r_iaddN hx hb dL_law_157 ?_
  refine r_sld (j := 5 * k + 3) hx hb hX hbl hS (by omega) hL dL_law_158 ?_
  refine lv_aload_n hx hb dL_law_159 rfl (lv_at hl 0 rfl) ?_
  refine lv_iload hx hb dL_law_160 (lv_at hl 4 rfl) ?_
  refine lv_iconst (v := nI 4) hx hb dL_law_162 (by decide) ?_
  refine r_iaddN hx hb dL_law_163 ?_
  refine r_sld (j := 5 * k + 4) hx hb hX hbl hS (by omega) hL dL_law_164 ?_
  refine lv_aload_n hx hb dL_law_165 rfl (lv_at hl 3 rfl) ?_
  have hT0 : TXA (fun _ => False) s H := hT.narrow (fun _ h9 => h9.elim)
  refine r_gS (As := [.ref (r 0), .int (xs (5 * k + 1)), .int (xs (5 * k + 2)), .int (xs (5 * k + 3)), .int (xs (5 * k + 4)), .ref o]) (rest := []) ⟨hx, hb, hml, hown, hts⟩ (hM1 _) hwc hw1 (vx_cwSW 6 hts gL_law_L_edit rfl rfl rfl (by decide +kernel) ⟨Nat.le_of_ble_eq_true rfl, Nat.le_of_ble_eq_true rfl⟩) hK hT0 hP hD hS hA is hC hnd had rfl hl.1 rfl (Nat.le_of_ble_eq_true rfl) dL_law_166 ⟨hcells, hslots⟩ (fun H1 locs hP hD hS hz1 hk1 => ?_)
  have hT := hT.kept hk1
  refine lv_istore (lv' := [(5, .int (nI kx)), (0, .ref b), (1, .ref (r 0)), (2, .ref (g 0)), (3, .ref o), (4, .int (nI (5 * k)))]) hx hb dL_law_169 hl (by decide) rfl (fun ls hl => ?_)
  refine lv_aload_n hx hb dL_law_171 rfl (lv_at hl 3 rfl) ?_
  refine lv_aload_n hx hb dL_law_172 rfl (lv_at hl 1 rfl) ?_
  refine lv_iload hx hb dL_law_173 (lv_at hl 5 rfl) ?_
  refine lv_iconst (v := nI 1) hx hb dL_law_175 (by decide) ?_
  refine r_iaddN hx hb dL_law_176 ?_
  refine r_sld (j := 5 * k + 1) hx hb hX hbl hS (by omega) hL dL_law_177 ?_
  refine lv_aload_n hx hb dL_law_178 rfl (lv_at hl 1 rfl) ?_
  refine lv_iload hx hb dL_law_179 (lv_at hl 5 rfl) ?_
  refine lv_iconst (v := nI 2) hx hb dL_law_181 (by decide) ?_
  refine r_iaddN hx hb dL_law_182 ?_
  refine r_sld (j := 5 * k + 2) hx hb hX hbl hS (by omega) hL dL_law_183 ?_
  refine lv_aload_n hx hb dL_law_184 rfl (lv_at hl 1 rfl) ?_
  refine lv_iload hx hb dL_law_185 (lv_at hl 5 rfl) ?_
  refine lv_iconst (v := nI 3) hx hb dL_law_187 (by decide) ?_
  refine r_iaddN hx hb dL_law_188 ?_
  refine r_sld (j := 5 * k + 3) hx hb hX hbl hS (by omega) hL dL_law_189 ?_
  refine lv_aload_n hx hb dL_law_190 rfl (lv_at hl 1 rfl) ?_
  refine lv_iload hx hb dL_law_191 (lv_at hl 5 rfl) ?_
  refine lv_iconst (v := nI 4) hx hb dL_law_193 (by decide) ?_
  refine r_iaddN hx hb dL_law_194 ?_
  refine r_sld (j := 5 * k + 4) hx hb hX hbl hS (by omega) hL dL_law_195 ?_
  refine r_gV (As := [.int (xs (5 * k + 1)), .int (xs (5 * k + 2)), .int (xs (5 * k + 3)), .int (xs (5 * k + 4))]) (rest := []) (Cs := [M0]) (C1 := [M1]) ⟨hx, hb, hml, hown, hts⟩ (hM2 _) (fl1 _) (fl1 _) (cwV 4 hts gL_law_X4_edit rfl rfl rfl (by decide +kernel) ⟨by show f2 + 1 ≤ 11; omega, by show 8 + (6 + 11) + q2 ≤ 416; omega⟩) hK hP hD hS hA [9] (by simp only [List.map_cons, List.map_nil, h9]) rfl (by simp only [List.map_cons, List.map_nil, hadM]) 0 4 he0 rfl rfl hl.1 rfl (Nat.le_of_ble_eq_true rfl) dL_law_196 ⟨hcells, hslots⟩ (fun H2 locs hP hD hS hz2 hk2 => ?_)
  have hT := hT.kept hk2
  refine lv_istore (lv' := [(6, .int (v2)), (5, .int (nI kx)), (0, .ref b), (1, .ref (r 0)), (2, .ref (g 0)), (3, .ref o), (4, .int (nI (5 * k)))]) hx hb dL_law_199 hl (by decide) rfl (fun ls hl => ?_)
  refine lv_aload_n hx hb dL_law_201 rfl (lv_at hl 4 rfl) ?_
  have h9M : (jnG (jnG Ls is C1) [9] [M1])[9]? = some M1 := by show ((jnG Ls is C1).set 9 M1)[9]? = some M1; rw [List.getElem?_set_self (List.getElem?_eq_some_iff.mp h9).1]
  refine r_gR (As := []) (rest := []) (Cs := [M1]) ⟨hx, hb, hml, hown, hts⟩ hth (fl1 _) (cwV 0 hts gL_law_X4_thrown rfl rfl rfl (by decide +kernel) ⟨Nat.le_of_ble_eq_true rfl, Nat.le_of_ble_eq_true rfl⟩) hK hP [9] (by simp only [List.map_cons, List.map_nil, h9M]) 0 4 he1 rfl rfl hl.1 rfl (Nat.le_of_ble_eq_true rfl) dL_law_202 ⟨hcells, hslots⟩ ?_
  refine lv_iload hx hb dL_law_205 (lv_at hl 1 rfl) ?_
  refine lv_icmp_eq (x := nI kx) (y := nI kx) (tgt := 212) hx hb dL_law_207 (by decide) (fun _ => ?_) (fun h => absurd rfl h)
  refine lv_iload hx hb dL_law_212 (lv_at hl 1 rfl) ?_
  refine r_if_neN hx hb (x := kx) (by omega) (tgt := 229) dL_law_214 (by decide) (fun c0 => ?_) (fun c0 => ?_)
  · refine lv_goto (tgt := 1547) hx hb dL_law_229 (by decide) ?_
    exact hnx _ _ hP hD hS hT ls (lv_sub hl [2, 3, 4, 5, 6] rfl)
  · refine lv_aload_n hx hb dL_law_217 rfl (lv_at hl 5 rfl) ?_
    refine lv_iconst (v := nI 0) hx hb dL_law_218 (by decide) ?_
    refine r_out hx hb hK hP h10 dL_law_219 ?_
    refine lv_iload hx hb dL_law_220 (lv_at hl 0 rfl) ?_
    refine lv_i2l (v := v2.toInt64) hx hb dL_law_222 rfl ?_
    refine r_lcmpE (hcmp c0) hx hb (tgt := 229) (pc2 := 0) dL_law_223 dL_law_224 (by decide) ?_
    refine lv_goto (tgt := 1547) hx hb dL_law_229 (by decide) ?_
    exact hnx _ _ hP hD hS hT ls (lv_sub hl [2, 3, 4, 5, 6] rfl)
set_option maxHeartbeats 8000000 in
set_option maxRecDepth 100000 in
theorem lc_delete {p : Program} {l : Launch} {e : Env} {s : State} {m : MethodId} {below : List Frame} {meth : Method} {c : Code} {b L : Nat} {xs : Nat → Int32} (hL : L ≤ 2560) (C0 : lw_At p s m meth c b L xs) {D : va_G} {ct : Nat → ClassId} (hK : KK D ct s) {r g : Nat → Nat} {o k cells slots : Nat} {mc ms kx f2 q2 : Nat} (hk : 5 * k + 5 ≤ L) (hcells : cells + mc ≤ 601024) (hslots : slots + ms ≤ 7293034) {Ls Cs C1 : List va_W} {wc w1 M0 M1 : va_W} {v2 : Int32} {ov : Int64} (is : List Nat) {fs fs1 : List Value} (hM1 : ∀ sz, Met l yL_delete wsL_delete ({ frames := 9, cells := mc, slots := ms, locals := 300 } : Room) (wrPcT D ct [.ref (r 0), .int (xs (5 * k + 1)), .int (xs (5 * k + 2)), .int (xs (5 * k + 3)), .ref o] wc sz) (wqI D (nI kx) w1 (va_A wc sz)) mc ms (va_A wc sz)) (hwc : wc = fl Cs) (hw1 : w1 = fl C1) (hC : is.map (fun i => Ls[i]?) = Cs.map some) (hnd : va_nd is = true) (had : C1.map (·.map Prod.fst) = Cs.map (·.map Prod.fst)) (hM2 : ∀ sz, Met l yX4_delete wsX4_delete ({ frames := f2, cells := 0, slots := 0, locals := q2 } : Room) (wrPc D ct [.ref (g 0), .int (xs (5 * k + 1)), .int (xs (5 * k + 2)), .int (xs (5 * k + 3))] M0 sz) (wqI D v2 M1 (va_A M0 sz)) 0 0 (va_A M0 sz)) (hf2 : f2 ≤ 10) (hq2 : q2 ≤ 370) (h9 : (jnG Ls is C1)[9]? = some M0) (hadM : M1.map Prod.fst = M0.map Prod.fst) (he0 : M0[0]? = some (g 0, .inr (4, fs))) (hth : Met l yX4_thrown wsX4_thrown ({ frames := 0, cells := 0, slots := 0, locals := 0 } : Room) (roPc D ct [.ref (g 0)] M1) (rqI (nI kx)) 0 0 (fun _ => False)) (he1 : M1[0]? = some (g 0, .inr (4, fs1))) (h10 : (jnG (jnG Ls is C1) [9] [M1])[10]? = some (wO ct o ov)) (hcmp : kx = 0 → ov = v2.toInt64) (hkx : kx < 4) (hnx : LSa p l e s m below meth c b D r g o 1547 k (jnG (jnG Ls is C1) [9] [M1]) (cells + mc) (slots + ms)) : LSa p l e s m below meth c b D r g o 232 k Ls (cells) (slots) := by
  obtain ⟨hx, hb, hr, hml, hown, hts, hX, hbl, hlocks, hgv⟩ := C0
  have hts := fun w h => hts w (wsL_law_in w h)
  have hown : s.vm.findClass RL = some m.cls := hown
  have hb : c.code = cL_law := hb
  intro H locs hP hD hS hT ls hl
  have hA : ∀ q : Nat, s.heap.size ≤ q → (fun q : Nat => s.heap.size ≤ q) q := fun _ h => h
  refine lv_aload_n hx hb dL_law_232 rfl (lv_at hl 1 rfl) ?_
  refine lv_aload_n hx hb dL_law_233 rfl (lv_at hl 0 rfl) ?_
  refine lv_iload hx hb dL_law_234 (lv_at hl 4 rfl) ?_
  refine lv_iconst (v := nI 1) hx hb dL_law_236 (by decide) ?_
  refine r_iaddN hx hb dL_law_237 ?_
  refine r_sld (j := 5 * k + 1) hx hb hX hbl hS (by omega) hL dL_law_238 ?_
  refine lv_aload_n hx hb dL_law_239 rfl (lv_at hl 0 rfl) ?_
  refine lv_iload hx hb dL_law_240 (lv_at hl 4 rfl) ?_
  refine lv_iconst (v := nI 2) hx hb dL_law_242 (by decide) ?_
  refine r_iaddN hx hb dL_law_243 ?_
  refine r_sld (j := 5 * k + 2) hx hb hX hbl hS (by omega) hL dL_law_244 ?_
  refine lv_aload_n hx hb dL_law_245 rfl (lv_at hl 0 rfl) ?_
  refine lv_iload hx hb dL_law_246 (lv_at hl 4 rfl) ?_
  refine lv_iconst (v := nI 3) hx hb dL_law_248 (by decide) ?_
  refine r_iaddN hx hb dL_law_249 ?_
  refine r_sld (j := 5 * k + 3) hx hb hX hbl hS (by omega) hL dL_law_250 ?_
  refine lv_aload_n hx hb dL_law_251 rfl (lv_at hl 3 rfl) ?_
  have hT0 : TXA (fun _ => False) s H := hT.narrow (fun _ h9 => h9.elim)
  refine r_gS (As := [.ref (r 0), .int (xs (5 * k + 1)), .int (xs (5 * k + 2)), .int (xs (5 * k + 3)), .ref o]) (rest := []) ⟨hx, hb, hml, hown, hts⟩ (hM1 _) hwc hw1 (vx_cwSW 5 hts gL_law_L_delete rfl rfl rfl (by decide +kernel) ⟨Nat.le_of_ble_eq_true rfl, Nat.le_of_ble_eq_true rfl⟩) hK hT0 hP hD hS hA is hC hnd had rfl hl.1 rfl (Nat.le_of_ble_eq_true rfl) dL_law_252 ⟨hcells, hslots⟩ (fun H1 locs hP hD hS hz1 hk1 => ?_)
  have hT := hT.kept hk1
  refine lv_istore (lv' := [(5, .int (nI kx)), (0, .ref b), (1, .ref (r 0)), (2, .ref (g 0)), (3, .ref o), (4, .int (nI (5 * k)))]) hx hb dL_law_255 hl (by decide) rfl (fun ls hl => ?_)
  refine lv_aload_n hx hb dL_law_257 rfl (lv_at hl 3 rfl) ?_
  refine lv_aload_n hx hb dL_law_258 rfl (lv_at hl 1 rfl) ?_
  refine lv_iload hx hb dL_law_259 (lv_at hl 5 rfl) ?_
  refine lv_iconst (v := nI 1) hx hb dL_law_261 (by decide) ?_
  refine r_iaddN hx hb dL_law_262 ?_
  refine r_sld (j := 5 * k + 1) hx hb hX hbl hS (by omega) hL dL_law_263 ?_
  refine lv_aload_n hx hb dL_law_264 rfl (lv_at hl 1 rfl) ?_
  refine lv_iload hx hb dL_law_265 (lv_at hl 5 rfl) ?_
  refine lv_iconst (v := nI 2) hx hb dL_law_267 (by decide) ?_
  refine r_iaddN hx hb dL_law_268 ?_
  refine r_sld (j := 5 * k + 2) hx hb hX hbl hS (by omega) hL dL_law_269 ?_
  refine lv_aload_n hx hb dL_law_270 rfl (lv_at hl 1 rfl) ?_
  refine lv_iload hx hb dL_law_271 (lv_at hl 5 rfl) ?_
  refine lv_iconst (v := nI 3) hx hb dL_law_273 (by decide) ?_
  refine r_iaddN hx hb dL_law_274 ?_
  refine r_sld (j := 5 * k + 3) hx hb hX hbl hS (by omega) hL dL_law_275 ?_
  refine r_gV (As := [.int (xs (5 * k + 1)), .int (xs (5 * k + 2)), .int (xs (5 * k + 3))]) (rest := []) (Cs := [M0]) (C1 := [M1]) ⟨hx, hb, hml, hown, hts⟩ (hM2 _) (fl1 _) (fl1 _) (cwV 3 hts gL_law_X4_delete rfl rfl rfl (by decide +kernel) ⟨by show f2 + 1 ≤ 11; omega, by show 8 + (5 + 11) + q2 ≤ 416; omega⟩) hK hP hD hS hA [9] (by simp only [List.map_cons, List.map_nil, h9]) rfl (by simp only [List.map_cons, List.map_nil, hadM]) 0 4 he0 rfl rfl hl.1 rfl (Nat.le_of_ble_eq_true rfl) dL_law_276 ⟨hcells, hslots⟩ (fun H2 locs hP hD hS hz2 hk2 => ?_)
  have hT := hT.kept hk2
  refine lv_istore (lv' := [(6, .int (v2)), (5, .int (nI kx)), (0, .ref b), (1, .ref (r 0)), (2, .ref (g 0)), (3, .ref o), (4, .int (nI (5 * k)))]) hx hb dL_law_279 hl (by decide) rfl (fun ls hl => ?_)
  refine lv_aload_n hx hb dL_law_281 rfl (lv_at hl 4 rfl) ?_
  have h9M : (jnG (jnG Ls is C1) [9] [M1])[9]? = some M1 := by show ((jnG Ls is C1).set 9 M1)[9]? = some M1; rw [List.getElem?_set_self (List.getElem?_eq_some_iff.mp h9).1]
  refine r_gR (As := []) (rest := []) (Cs := [M1]) ⟨hx, hb, hml, hown, hts⟩ hth (fl1 _) (cwV 0 hts gL_law_X4_thrown rfl rfl rfl (by decide +kernel) ⟨Nat.le_of_ble_eq_true rfl, Nat.le_of_ble_eq_true rfl⟩) hK hP [9] (by simp only [List.map_cons, List.map_nil, h9M]) 0 4 he1 rfl rfl hl.1 rfl (Nat.le_of_ble_eq_true rfl) dL_law_282 ⟨hcells, hslots⟩ ?_
  refine lv_iload hx hb dL_law_285 (lv_at hl 1 rfl) ?_
  refine lv_icmp_eq (x := nI kx) (y := nI kx) (tgt := 292) hx hb dL_law_287 (by decide) (fun _ => ?_) (fun h => absurd rfl h)
  refine lv_iload hx hb dL_law_292 (lv_at hl 1 rfl) ?_
  refine r_if_neN hx hb (x := kx) (by omega) (tgt := 309) dL_law_294 (by decide) (fun c0 => ?_) (fun c0 => ?_)
  · refine lv_goto (tgt := 1547) hx hb dL_law_309 (by decide) ?_
    exact hnx _ _ hP hD hS hT ls (lv_sub hl [2, 3, 4, 5, 6] rfl)
  · refine lv_aload_n hx hb dL_law_297 rfl (lv_at hl 5 rfl) ?_
    refine lv_iconst (v := nI 0) hx hb dL_law_298 (by decide) ?_
    refine r_out hx hb hK hP h10 dL_law_299 ?_
    refine lv_iload hx hb dL_law_300 (lv_at hl 0 rfl) ?_
    refine lv_i2l (v := v2.toInt64) hx hb dL_law_302 rfl ?_
    refine r_lcmpE (hcmp c0) hx hb (tgt := 309) (pc2 := 0) dL_law_303 dL_law_304 (by decide) ?_
    refine lv_goto (tgt := 1547) hx hb dL_law_309 (by decide) ?_
    exact hnx _ _ hP hD hS hT ls (lv_sub hl [2, 3, 4, 5, 6] rfl)
set_option maxHeartbeats 8000000 in
set_option maxRecDepth 100000 in
theorem lc_setDepth {p : Program} {l : Launch} {e : Env} {s : State} {m : MethodId} {below : List Frame} {meth : Method} {c : Code} {b L : Nat} {xs : Nat → Int32} (hL : L ≤ 2560) (C0 : lw_At p s m meth c b L xs) {D : va_G} {ct : Nat → ClassId} (hK : KK D ct s) {r g : Nat → Nat} {o k cells slots : Nat} {mc ms kx f2 q2 : Nat} (hk : 5 * k + 5 ≤ L) (hcells : cells + mc ≤ 601024) (hslots : slots + ms ≤ 7293034) {Ls Cs C1 : List va_W} {wc w1 M0 M1 : va_W} {v2 : Int32} {ov : Int64} (is : List Nat) {fs fs1 : List Value} (hM1 : ∀ sz, Met l yL_setDepth wsL_setDepth ({ frames := 9, cells := mc, slots := ms, locals := 300 } : Room) (wrPcT D ct [.ref (r 0), .int (xs (5 * k + 1)), .int (xs (5 * k + 2)), .ref o] wc sz) (wqI D (nI kx) w1 (va_A wc sz)) mc ms (va_A wc sz)) (hwc : wc = fl Cs) (hw1 : w1 = fl C1) (hC : is.map (fun i => Ls[i]?) = Cs.map some) (hnd : va_nd is = true) (had : C1.map (·.map Prod.fst) = Cs.map (·.map Prod.fst)) (hM2 : ∀ sz, Met l yX4_setDepth wsX4_setDepth ({ frames := f2, cells := 0, slots := 0, locals := q2 } : Room) (wrPc D ct [.ref (g 0), .int (xs (5 * k + 1)), .int (xs (5 * k + 2))] M0 sz) (wqI D v2 M1 (va_A M0 sz)) 0 0 (va_A M0 sz)) (hf2 : f2 ≤ 10) (hq2 : q2 ≤ 370) (h9 : (jnG Ls is C1)[9]? = some M0) (hadM : M1.map Prod.fst = M0.map Prod.fst) (he0 : M0[0]? = some (g 0, .inr (4, fs))) (hth : Met l yX4_thrown wsX4_thrown ({ frames := 0, cells := 0, slots := 0, locals := 0 } : Room) (roPc D ct [.ref (g 0)] M1) (rqI (nI kx)) 0 0 (fun _ => False)) (he1 : M1[0]? = some (g 0, .inr (4, fs1))) (h10 : (jnG (jnG Ls is C1) [9] [M1])[10]? = some (wO ct o ov)) (hcmp : kx = 0 → ov = v2.toInt64) (hkx : kx < 4) (hnx : LSa p l e s m below meth c b D r g o 1547 k (jnG (jnG Ls is C1) [9] [M1]) (cells + mc) (slots + ms)) : LSa p l e s m below meth c b D r g o 312 k Ls (cells) (slots) := by
  obtain ⟨hx, hb, hr, hml, hown, hts, hX, hbl, hlocks, hgv⟩ := C0
  have hts := fun w h => hts w (wsL_law_in w h)
  have hown : s.vm.findClass RL = some m.cls := hown
  have hb : c.code = cL_law := hb
  intro H locs hP hD hS hT ls hl
  have hA : ∀ q : Nat, s.heap.size ≤ q → (fun q : Nat => s.heap.size ≤ q) q := fun _ h => h
  refine lv_aload_n hx hb dL_law_312 rfl (lv_at hl 1 rfl) ?_
  refine lv_aload_n hx hb dL_law_313 rfl (lv_at hl 0 rfl) ?_
  refine lv_iload hx hb dL_law_314 (lv_at hl 4 rfl) ?_
  refine lv_iconst (v := nI 1) hx hb dL_law_316 (by decide) ?_
  refine r_iaddN hx hb dL_law_317 ?_
  refine r_sld (j := 5 * k + 1) hx hb hX hbl hS (by omega) hL dL_law_318 ?_
  refine lv_aload_n hx hb dL_law_319 rfl (lv_at hl 0 rfl) ?_
  refine lv_iload hx hb dL_law_320 (lv_at hl 4 rfl) ?_
  refine lv_iconst (v := nI 2) hx hb dL_law_322 (by decide) ?_
  refine r_iaddN hx hb dL_law_323 ?_
  refine r_sld (j := 5 * k + 2) hx hb hX hbl hS (by omega) hL dL_law_324 ?_
  refine lv_aload_n hx hb dL_law_325 rfl (lv_at hl 3 rfl) ?_
  have hT0 : TXA (fun _ => False) s H := hT.narrow (fun _ h9 => h9.elim)
  refine r_gS (As := [.ref (r 0), .int (xs (5 * k + 1)), .int (xs (5 * k + 2)), .ref o]) (rest := []) ⟨hx, hb, hml, hown, hts⟩ (hM1 _) hwc hw1 (vx_cwSW 4 hts gL_law_L_setDepth rfl rfl rfl (by decide +kernel) ⟨Nat.le_of_ble_eq_true rfl, Nat.le_of_ble_eq_true rfl⟩) hK hT0 hP hD hS hA is hC hnd had rfl hl.1 rfl (Nat.le_of_ble_eq_true rfl) dL_law_326 ⟨hcells, hslots⟩ (fun H1 locs hP hD hS hz1 hk1 => ?_)
  have hT := hT.kept hk1
  refine lv_istore (lv' := [(5, .int (nI kx)), (0, .ref b), (1, .ref (r 0)), (2, .ref (g 0)), (3, .ref o), (4, .int (nI (5 * k)))]) hx hb dL_law_329 hl (by decide) rfl (fun ls hl => ?_)
  refine lv_aload_n hx hb dL_law_331 rfl (lv_at hl 3 rfl) ?_
  refine lv_aload_n hx hb dL_law_332 rfl (lv_at hl 1 rfl) ?_
  refine lv_iload hx hb dL_law_333 (lv_at hl 5 rfl) ?_
  refine lv_iconst (v := nI 1) hx hb dL_law_335 (by decide) ?_
  refine r_iaddN hx hb dL_law_336 ?_
  refine r_sld (j := 5 * k + 1) hx hb hX hbl hS (by omega) hL dL_law_337 ?_
  refine lv_aload_n hx hb dL_law_338 rfl (lv_at hl 1 rfl) ?_
  refine lv_iload hx hb dL_law_339 (lv_at hl 5 rfl) ?_
  refine lv_iconst (v := nI 2) hx hb dL_law_341 (by decide) ?_
  refine r_iaddN hx hb dL_law_342 ?_
  refine r_sld (j := 5 * k + 2) hx hb hX hbl hS (by omega) hL dL_law_343 ?_
  refine r_gV (As := [.int (xs (5 * k + 1)), .int (xs (5 * k + 2))]) (rest := []) (Cs := [M0]) (C1 := [M1]) ⟨hx, hb, hml, hown, hts⟩ (hM2 _) (fl1 _) (fl1 _) (cwV 2 hts gL_law_X4_setDepth rfl rfl rfl (by decide +kernel) ⟨by show f2 + 1 ≤ 11; omega, by show 8 + (3 + 11) + q2 ≤ 416; omega⟩) hK hP hD hS hA [9] (by simp only [List.map_cons, List.map_nil, h9]) rfl (by simp only [List.map_cons, List.map_nil, hadM]) 0 4 he0 rfl rfl hl.1 rfl (Nat.le_of_ble_eq_true rfl) dL_law_344 ⟨hcells, hslots⟩ (fun H2 locs hP hD hS hz2 hk2 => ?_)
  have hT := hT.kept hk2
  refine lv_istore (lv' := [(6, .int (v2)), (5, .int (nI kx)), (0, .ref b), (1, .ref (r 0)), (2, .ref (g 0)), (3, .ref o), (4, .int (nI (5 * k)))]) hx hb dL_law_347 hl (by decide) rfl (fun ls hl => ?_)
  refine lv_aload_n hx hb dL_law_349 rfl (lv_at hl 4 rfl) ?_
  have h9M : (jnG (jnG Ls is C1) [9] [M1])[9]? = some M1 := by show ((jnG Ls is C1).set 9 M1)[9]? = some M1; rw [List.getElem?_set_self (List.getElem?_eq_some_iff.mp h9).1]
  refine r_gR (As := []) (rest := []) (Cs := [M1]) ⟨hx, hb, hml, hown, hts⟩ hth (fl1 _) (cwV 0 hts gL_law_X4_thrown rfl rfl rfl (by decide +kernel) ⟨Nat.le_of_ble_eq_true rfl, Nat.le_of_ble_eq_true rfl⟩) hK hP [9] (by simp only [List.map_cons, List.map_nil, h9M]) 0 4 he1 rfl rfl hl.1 rfl (Nat.le_of_ble_eq_true rfl) dL_law_350 ⟨hcells, hslots⟩ ?_
  refine lv_iload hx hb dL_law_353 (lv_at hl 1 rfl) ?_
  refine lv_icmp_eq (x := nI kx) (y := nI kx) (tgt := 360) hx hb dL_law_355 (by decide) (fun _ => ?_) (fun h => absurd rfl h)
  refine lv_iload hx hb dL_law_360 (lv_at hl 1 rfl) ?_
  refine r_if_neN hx hb (x := kx) (by omega) (tgt := 377) dL_law_362 (by decide) (fun c0 => ?_) (fun c0 => ?_)
  · refine lv_goto (tgt := 1547) hx hb dL_law_377 (by decide) ?_
    exact hnx _ _ hP hD hS hT ls (lv_sub hl [2, 3, 4, 5, 6] rfl)
  · refine lv_aload_n hx hb dL_law_365 rfl (lv_at hl 5 rfl) ?_
    refine lv_iconst (v := nI 0) hx hb dL_law_366 (by decide) ?_
    refine r_out hx hb hK hP h10 dL_law_367 ?_
    refine lv_iload hx hb dL_law_368 (lv_at hl 0 rfl) ?_
    refine lv_i2l (v := v2.toInt64) hx hb dL_law_370 rfl ?_
    refine r_lcmpE (hcmp c0) hx hb (tgt := 377) (pc2 := 0) dL_law_371 dL_law_372 (by decide) ?_
    refine lv_goto (tgt := 1547) hx hb dL_law_377 (by decide) ?_
    exact hnx _ _ hP hD hS hT ls (lv_sub hl [2, 3, 4, 5, 6] rfl)
set_option maxHeartbeats 8000000 in
set_option maxRecDepth 100000 in
theorem lc_wipe {p : Program} {l : Launch} {e : Env} {s : State} {m : MethodId} {below : List Frame} {meth : Method} {c : Code} {b L : Nat} {xs : Nat → Int32} (hL : L ≤ 2560) (C0 : lw_At p s m meth c b L xs) {D : va_G} {ct : Nat → ClassId} (hK : KK D ct s) {r g : Nat → Nat} {o k cells slots : Nat} {mc ms kx f2 q2 : Nat} (hk : 5 * k + 5 ≤ L) (hcells : cells + mc ≤ 601024) (hslots : slots + ms ≤ 7293034) {Ls Cs C1 : List va_W} {wc w1 M0 M1 : va_W} {v2 : Int32} {ov : Int64} (is : List Nat) {fs fs1 : List Value} (hM1 : ∀ sz, Met l yL_wipe wsL_wipe ({ frames := 9, cells := mc, slots := ms, locals := 300 } : Room) (wrPcT D ct [.ref (r 0), .int (xs (5 * k + 1)), .ref o] wc sz) (wqI D (nI kx) w1 (va_A wc sz)) mc ms (va_A wc sz)) (hwc : wc = fl Cs) (hw1 : w1 = fl C1) (hC : is.map (fun i => Ls[i]?) = Cs.map some) (hnd : va_nd is = true) (had : C1.map (·.map Prod.fst) = Cs.map (·.map Prod.fst)) (hM2 : ∀ sz, Met l yX4_wipe wsX4_wipe ({ frames := f2, cells := 0, slots := 0, locals := q2 } : Room) (wrPc D ct [.ref (g 0), .int (xs (5 * k + 1))] M0 sz) (wqI D v2 M1 (va_A M0 sz)) 0 0 (va_A M0 sz)) (hf2 : f2 ≤ 10) (hq2 : q2 ≤ 370) (h9 : (jnG Ls is C1)[9]? = some M0) (hadM : M1.map Prod.fst = M0.map Prod.fst) (he0 : M0[0]? = some (g 0, .inr (4, fs))) (hth : Met l yX4_thrown wsX4_thrown ({ frames := 0, cells := 0, slots := 0, locals := 0 } : Room) (roPc D ct [.ref (g 0)] M1) (rqI (nI kx)) 0 0 (fun _ => False)) (he1 : M1[0]? = some (g 0, .inr (4, fs1))) (h10 : (jnG (jnG Ls is C1) [9] [M1])[10]? = some (wO ct o ov)) (hcmp : kx = 0 → ov = v2.toInt64) (hkx : kx < 4) (hnx : LSa p l e s m below meth c b D r g o 1547 k (jnG (jnG Ls is C1) [9] [M1]) (cells + mc) (slots + ms)) : LSa p l e s m below meth c b D r g o 380 k Ls (cells) (slots) := by
  obtain ⟨hx, hb, hr, hml, hown, hts, hX, hbl, hlocks, hgv⟩ := C0
  have hts := fun w h => hts w (wsL_law_in w h)
  have hown : s.vm.findClass RL = some m.cls := hown
  have hb : c.code = cL_law := hb
  intro H locs hP hD hS hT ls hl
  have hA : ∀ q : Nat, s.heap.size ≤ q → (fun q : Nat => s.heap.size ≤ q) q := fun _ h => h
  refine lv_aload_n hx hb dL_law_380 rfl (lv_at hl 1 rfl) ?_
  refine lv_aload_n hx hb dL_law_381 rfl (lv_at hl 0 rfl) ?_
  refine lv_iload hx hb dL_law_382 (lv_at hl 4 rfl) ?_
  refine lv_iconst (v := nI 1) hx hb dL_law_384 (by decide) ?_
  refine r_iaddN hx hb dL_law_385 ?_
  refine r_sld (j := 5 * k + 1) hx hb hX hbl hS (by omega) hL dL_law_386 ?_
  refine lv_aload_n hx hb dL_law_387 rfl (lv_at hl 3 rfl) ?_
  have hT0 : TXA (fun _ => False) s H := hT.narrow (fun _ h9 => h9.elim)
  refine r_gS (As := [.ref (r 0), .int (xs (5 * k + 1)), .ref o]) (rest := []) ⟨hx, hb, hml, hown, hts⟩ (hM1 _) hwc hw1 (vx_cwSW 3 hts gL_law_L_wipe rfl rfl rfl (by decide +kernel) ⟨Nat.le_of_ble_eq_true rfl, Nat.le_of_ble_eq_true rfl⟩) hK hT0 hP hD hS hA is hC hnd had rfl hl.1 rfl (Nat.le_of_ble_eq_true rfl) dL_law_388 ⟨hcells, hslots⟩ (fun H1 locs hP hD hS hz1 hk1 => ?_)
  have hT := hT.kept hk1
  refine lv_istore (lv' := [(5, .int (nI kx)), (0, .ref b), (1, .ref (r 0)), (2, .ref (g 0)), (3, .ref o), (4, .int (nI (5 * k)))]) hx hb dL_law_391 hl (by decide) rfl (fun ls hl => ?_)
  refine lv_aload_n hx hb dL_law_393 rfl (lv_at hl 3 rfl) ?_
  refine lv_aload_n hx hb dL_law_394 rfl (lv_at hl 1 rfl) ?_
  refine lv_iload hx hb dL_law_395 (lv_at hl 5 rfl) ?_
  refine lv_iconst (v := nI 1) hx hb dL_law_397 (by decide) ?_
  refine r_iaddN hx hb dL_law_398 ?_
  refine r_sld (j := 5 * k + 1) hx hb hX hbl hS (by omega) hL dL_law_399 ?_
  refine r_gV (As := [.int (xs (5 * k + 1))]) (rest := []) (Cs := [M0]) (C1 := [M1]) ⟨hx, hb, hml, hown, hts⟩ (hM2 _) (fl1 _) (fl1 _) (cwV 1 hts gL_law_X4_wipe rfl rfl rfl (by decide +kernel) ⟨by show f2 + 1 ≤ 11; omega, by show 8 + (4 + 11) + q2 ≤ 416; omega⟩) hK hP hD hS hA [9] (by simp only [List.map_cons, List.map_nil, h9]) rfl (by simp only [List.map_cons, List.map_nil, hadM]) 0 4 he0 rfl rfl hl.1 rfl (Nat.le_of_ble_eq_true rfl) dL_law_400 ⟨hcells, hslots⟩ (fun H2 locs hP hD hS hz2 hk2 => ?_)
  have hT := hT.kept hk2
  refine lv_istore (lv' := [(6, .int (v2)), (5, .int (nI kx)), (0, .ref b), (1, .ref (r 0)), (2, .ref (g 0)), (3, .ref o), (4, .int (nI (5 * k)))]) hx hb dL_law_403 hl (by decide) rfl (fun ls hl => ?_)
  refine lv_aload_n hx hb dL_law_405 rfl (lv_at hl 4 rfl) ?_
  have h9M : (jnG (jnG Ls is C1) [9] [M1])[9]? = some M1 := by show ((jnG Ls is C1).set 9 M1)[9]? = some M1; rw [List.getElem?_set_self (List.getElem?_eq_some_iff.mp h9).1]
  refine r_gR (As := []) (rest := []) (Cs := [M1]) ⟨hx, hb, hml, hown, hts⟩ hth (fl1 _) (cwV 0 hts gL_law_X4_thrown rfl rfl rfl (by decide +kernel) ⟨Nat.le_of_ble_eq_true rfl, Nat.le_of_ble_eq_true rfl⟩) hK hP [9] (by simp only [List.map_cons, List.map_nil, h9M]) 0 4 he1 rfl rfl hl.1 rfl (Nat.le_of_ble_eq_true rfl) dL_law_406 ⟨hcells, hslots⟩ ?_
  refine lv_iload hx hb dL_law_409 (lv_at hl 1 rfl) ?_
  refine lv_icmp_eq (x := nI kx) (y := nI kx) (tgt := 416) hx hb dL_law_411 (by decide) (fun _ => ?_) (fun h => absurd rfl h)
  refine lv_iload hx hb dL_law_416 (lv_at hl 1 rfl) ?_
  refine r_if_neN hx hb (x := kx) (by omega) (tgt := 433) dL_law_418 (by decide) (fun c0 => ?_) (fun c0 => ?_)
  · refine lv_goto (tgt := 1547) hx hb dL_law_433 (by decide) ?_
    exact hnx _ _ hP hD hS hT ls (lv_sub hl [2, 3, 4, 5, 6] rfl)
  · refine lv_aload_n hx hb dL_law_421 rfl (lv_at hl 5 rfl) ?_
    refine lv_iconst (v := nI 0) hx hb dL_law_422 (by decide) ?_
    refine r_out hx hb hK hP h10 dL_law_423 ?_
    refine lv_iload hx hb dL_law_424 (lv_at hl 0 rfl) ?_
    refine lv_i2l (v := v2.toInt64) hx hb dL_law_426 rfl ?_
    refine r_lcmpE (hcmp c0) hx hb (tgt := 433) (pc2 := 0) dL_law_427 dL_law_428 (by decide) ?_
    refine lv_goto (tgt := 1547) hx hb dL_law_433 (by decide) ?_
    exact hnx _ _ hP hD hS hT ls (lv_sub hl [2, 3, 4, 5, 6] rfl)
set_option maxHeartbeats 8000000 in
set_option maxRecDepth 100000 in
theorem lc_replicate {p : Program} {l : Launch} {e : Env} {s : State} {m : MethodId} {below : List Frame} {meth : Method} {c : Code} {b L : Nat} {xs : Nat → Int32} (hL : L ≤ 2560) (C0 : lw_At p s m meth c b L xs) {D : va_G} {ct : Nat → ClassId} (hK : KK D ct s) {r g : Nat → Nat} {o k cells slots : Nat} {mc ms kx f2 q2 : Nat} (hk : 5 * k + 5 ≤ L) (hcells : cells + mc ≤ 601024) (hslots : slots + ms ≤ 7293034) {Ls Cs C1 : List va_W} {wc w1 M0 M1 : va_W} {v2 : Int32} {ov : Int64} (is : List Nat) {fs fs1 : List Value} (hM1 : ∀ sz, Met l yL_replicate wsL_replicate ({ frames := 9, cells := mc, slots := ms, locals := 300 } : Room) (wrPcT D ct [.ref (r 0), .int (xs (5 * k + 1)), .int (xs (5 * k + 2)), .int (xs (5 * k + 3)), .ref o] wc sz) (wqI D (nI kx) w1 (va_A wc sz)) mc ms (va_A wc sz)) (hwc : wc = fl Cs) (hw1 : w1 = fl C1) (hC : is.map (fun i => Ls[i]?) = Cs.map some) (hnd : va_nd is = true) (had : C1.map (·.map Prod.fst) = Cs.map (·.map Prod.fst)) (hM2 : ∀ sz, Met l yX4_replicate wsX4_replicate ({ frames := f2, cells := 0, slots := 0, locals := q2 } : Room) (wrPc D ct [.ref (g 0), .int (xs (5 * k + 1)), .int (xs (5 * k + 2)), .int (xs (5 * k + 3))] M0 sz) (wqI D v2 M1 (va_A M0 sz)) 0 0 (va_A M0 sz)) (hf2 : f2 ≤ 10) (hq2 : q2 ≤ 370) (h9 : (jnG Ls is C1)[9]? = some M0) (hadM : M1.map Prod.fst = M0.map Prod.fst) (he0 : M0[0]? = some (g 0, .inr (4, fs))) (hth : Met l yX4_thrown wsX4_thrown ({ frames := 0, cells := 0, slots := 0, locals := 0 } : Room) (roPc D ct [.ref (g 0)] M1) (rqI (nI kx)) 0 0 (fun _ => False)) (he1 : M1[0]? = some (g 0, .inr (4, fs1))) (h10 : (jnG (jnG Ls is C1) [9] [M1])[10]? = some (wO ct o ov)) (hcmp : kx = 0 → ov = v2.toInt64) (hkx : kx < 4) (hnx : LSa p l e s m below meth c b D r g o 1547 k (jnG (jnG Ls is C1) [9] [M1]) (cells + mc) (slots + ms)) : LSa p l e s m below meth c b D r g o 436 k Ls (cells) (slots) := by
  obtain ⟨hx, hb, hr, hml, hown, hts, hX, hbl, hlocks, hgv⟩ := C0
  have hts := fun w h => hts w (wsL_law_in w h)
  have hown : s.vm.findClass RL = some m.cls := hown
  have hb : c.code = cL_law := hb
  intro H locs hP hD hS hT ls hl
  have hA : ∀ q : Nat, s.heap.size ≤ q → (fun q : Nat => s.heap.size ≤ q) q := fun _ h => h
  refine lv_aload_n hx hb dL_law_436 rfl (lv_at hl 1 rfl) ?_
  refine lv_aload_n hx hb dL_law_437 rfl (lv_at hl 0 rfl) ?_
  refine lv_iload hx hb dL_law_438 (lv_at hl 4 rfl) ?_
  refine lv_iconst (v := nI 1) hx hb dL_law_440 (by decide) ?_
  refine r_iaddN hx hb dL_law_441 ?_
  refine r_sld (j := 5 * k + 1) hx hb hX hbl hS (by omega) hL dL_law_442 ?_
  refine lv_aload_n hx hb dL_law_443 rfl (lv_at hl 0 rfl) ?_
  refine lv_iload hx hb dL_law_444 (lv_at hl 4 rfl) ?_
  refine lv_iconst (v := nI 2) hx hb dL_law_446 (by decide) ?_
  refine r_iaddN hx hb dL_law_447 ?_
  refine r_sld (j := 5 * k + 2) hx hb hX hbl hS (by omega) hL dL_law_448 ?_
  refine lv_aload_n hx hb dL_law_449 rfl (lv_at hl 0 rfl) ?_
  refine lv_iload hx hb dL_law_450 (lv_at hl 4 rfl) ?_
  refine lv_iconst (v := nI 3) hx hb dL_law_452 (by decide) ?_
  refine r_iaddN hx hb dL_law_453 ?_
  refine r_sld (j := 5 * k + 3) hx hb hX hbl hS (by omega) hL dL_law_454 ?_
  refine lv_aload_n hx hb dL_law_455 rfl (lv_at hl 3 rfl) ?_
  have hT0 : TXA (fun _ => False) s H := hT.narrow (fun _ h9 => h9.elim)
  refine r_gS (As := [.ref (r 0), .int (xs (5 * k + 1)), .int (xs (5 * k + 2)), .int (xs (5 * k + 3)), .ref o]) (rest := []) ⟨hx, hb, hml, hown, hts⟩ (hM1 _) hwc hw1 (vx_cwSW 5 hts gL_law_L_replicate rfl rfl rfl (by decide +kernel) ⟨Nat.le_of_ble_eq_true rfl, Nat.le_of_ble_eq_true rfl⟩) hK hT0 hP hD hS hA is hC hnd had rfl hl.1 rfl (Nat.le_of_ble_eq_true rfl) dL_law_456 ⟨hcells, hslots⟩ (fun H1 locs hP hD hS hz1 hk1 => ?_)
  have hT := hT.kept hk1
  refine lv_istore (lv' := [(5, .int (nI kx)), (0, .ref b), (1, .ref (r 0)), (2, .ref (g 0)), (3, .ref o), (4, .int (nI (5 * k)))]) hx hb dL_law_459 hl (by decide) rfl (fun ls hl => ?_)
  refine lv_aload_n hx hb dL_law_461 rfl (lv_at hl 3 rfl) ?_
  refine lv_aload_n hx hb dL_law_462 rfl (lv_at hl 1 rfl) ?_
  refine lv_iload hx hb dL_law_463 (lv_at hl 5 rfl) ?_
  refine lv_iconst (v := nI 1) hx hb dL_law_465 (by decide) ?_
  refine r_iaddN hx hb dL_law_466 ?_
  refine r_sld (j := 5 * k + 1) hx hb hX hbl hS (by omega) hL dL_law_467 ?_
  refine lv_aload_n hx hb dL_law_468 rfl (lv_at hl 1 rfl) ?_
  refine lv_iload hx hb dL_law_469 (lv_at hl 5 rfl) ?_
  refine lv_iconst (v := nI 2) hx hb dL_law_471 (by decide) ?_
  refine r_iaddN hx hb dL_law_472 ?_
  refine r_sld (j := 5 * k + 2) hx hb hX hbl hS (by omega) hL dL_law_473 ?_
  refine lv_aload_n hx hb dL_law_474 rfl (lv_at hl 1 rfl) ?_
  refine lv_iload hx hb dL_law_475 (lv_at hl 5 rfl) ?_
  refine lv_iconst (v := nI 3) hx hb dL_law_477 (by decide) ?_
  refine r_iaddN hx hb dL_law_478 ?_
  refine r_sld (j := 5 * k + 3) hx hb hX hbl hS (by omega) hL dL_law_479 ?_
  refine r_gV (As := [.int (xs (5 * k + 1)), .int (xs (5 * k + 2)), .int (xs (5 * k + 3))]) (rest := []) (Cs := [M0]) (C1 := [M1]) ⟨hx, hb, hml, hown, hts⟩ (hM2 _) (fl1 _) (fl1 _) (cwV 3 hts gL_law_X4_replicate rfl rfl rfl (by decide +kernel) ⟨by show f2 + 1 ≤ 11; omega, by show 8 + (8 + 11) + q2 ≤ 416; omega⟩) hK hP hD hS hA [9] (by simp only [List.map_cons, List.map_nil, h9]) rfl (by simp only [List.map_cons, List.map_nil, hadM]) 0 4 he0 rfl rfl hl.1 rfl (Nat.le_of_ble_eq_true rfl) dL_law_480 ⟨hcells, hslots⟩ (fun H2 locs hP hD hS hz2 hk2 => ?_)
  have hT := hT.kept hk2
  refine lv_istore (lv' := [(6, .int (v2)), (5, .int (nI kx)), (0, .ref b), (1, .ref (r 0)), (2, .ref (g 0)), (3, .ref o), (4, .int (nI (5 * k)))]) hx hb dL_law_483 hl (by decide) rfl (fun ls hl => ?_)
  refine lv_aload_n hx hb dL_law_485 rfl (lv_at hl 4 rfl) ?_
  have h9M : (jnG (jnG Ls is C1) [9] [M1])[9]? = some M1 := by show ((jnG Ls is C1).set 9 M1)[9]? = some M1; rw [List.getElem?_set_self (List.getElem?_eq_some_iff.mp h9).1]
  refine r_gR (As := []) (rest := []) (Cs := [M1]) ⟨hx, hb, hml, hown, hts⟩ hth (fl1 _) (cwV 0 hts gL_law_X4_thrown rfl rfl rfl (by decide +kernel) ⟨Nat.le_of_ble_eq_true rfl, Nat.le_of_ble_eq_true rfl⟩) hK hP [9] (by simp only [List.map_cons, List.map_nil, h9M]) 0 4 he1 rfl rfl hl.1 rfl (Nat.le_of_ble_eq_true rfl) dL_law_486 ⟨hcells, hslots⟩ ?_
  refine lv_iload hx hb dL_law_489 (lv_at hl 1 rfl) ?_
  refine lv_icmp_eq (x := nI kx) (y := nI kx) (tgt := 496) hx hb dL_law_491 (by decide) (fun _ => ?_) (fun h => absurd rfl h)
  refine lv_iload hx hb dL_law_496 (lv_at hl 1 rfl) ?_
  refine r_if_neN hx hb (x := kx) (by omega) (tgt := 513) dL_law_498 (by decide) (fun c0 => ?_) (fun c0 => ?_)
  · refine lv_goto (tgt := 1547) hx hb dL_law_513 (by decide) ?_
    exact hnx _ _ hP hD hS hT ls (lv_sub hl [2, 3, 4, 5, 6] rfl)
  · refine lv_aload_n hx hb dL_law_501 rfl (lv_at hl 5 rfl) ?_
    refine lv_iconst (v := nI 0) hx hb dL_law_502 (by decide) ?_
    refine r_out hx hb hK hP h10 dL_law_503 ?_
    refine lv_iload hx hb dL_law_504 (lv_at hl 0 rfl) ?_
    refine lv_i2l (v := v2.toInt64) hx hb dL_law_506 rfl ?_
    refine r_lcmpE (hcmp c0) hx hb (tgt := 513) (pc2 := 0) dL_law_507 dL_law_508 (by decide) ?_
    refine lv_goto (tgt := 1547) hx hb dL_law_513 (by decide) ?_
    exact hnx _ _ hP hD hS hT ls (lv_sub hl [2, 3, 4, 5, 6] rfl)
set_option maxHeartbeats 8000000 in
set_option maxRecDepth 100000 in
theorem lc_pending {p : Program} {l : Launch} {e : Env} {s : State} {m : MethodId} {below : List Frame} {meth : Method} {c : Code} {b L : Nat} {xs : Nat → Int32} (hL : L ≤ 2560) (C0 : lw_At p s m meth c b L xs) {D : va_G} {ct : Nat → ClassId} (hK : KK D ct s) {r g : Nat → Nat} {o k cells slots : Nat} {mc ms kx f2 q2 : Nat} (hk : 5 * k + 5 ≤ L) (hcells : cells + mc ≤ 601024) (hslots : slots + ms ≤ 7293034) {Ls Cs C1 : List va_W} {wc w1 M0 M1 : va_W} {v2 : Int32} {ov : Int64} (is : List Nat) {fs fs1 : List Value} (hM1 : ∀ sz, Met l yL_pending wsL_pending ({ frames := 9, cells := mc, slots := ms, locals := 300 } : Room) (wrPcT D ct [.ref (r 0), .int (xs (5 * k + 1)), .int (xs (5 * k + 2)), .ref o] wc sz) (wqI D (nI kx) w1 (va_A wc sz)) mc ms (va_A wc sz)) (hwc : wc = fl Cs) (hw1 : w1 = fl C1) (hC : is.map (fun i => Ls[i]?) = Cs.map some) (hnd : va_nd is = true) (had : C1.map (·.map Prod.fst) = Cs.map (·.map Prod.fst)) (hM2 : ∀ sz, Met l yX4_pending wsX4_pending ({ frames := f2, cells := 0, slots := 0, locals := q2 } : Room) (wrPc D ct [.ref (g 0), .int (xs (5 * k + 1)), .int (xs (5 * k + 2))] M0 sz) (wqI D v2 M1 (va_A M0 sz)) 0 0 (va_A M0 sz)) (hf2 : f2 ≤ 10) (hq2 : q2 ≤ 370) (h9 : (jnG Ls is C1)[9]? = some M0) (hadM : M1.map Prod.fst = M0.map Prod.fst) (he0 : M0[0]? = some (g 0, .inr (4, fs))) (hth : Met l yX4_thrown wsX4_thrown ({ frames := 0, cells := 0, slots := 0, locals := 0 } : Room) (roPc D ct [.ref (g 0)] M1) (rqI (nI kx)) 0 0 (fun _ => False)) (he1 : M1[0]? = some (g 0, .inr (4, fs1))) (h10 : (jnG (jnG Ls is C1) [9] [M1])[10]? = some (wO ct o ov)) (hcmp : kx = 0 → ov = v2.toInt64) (hkx : kx < 4) (hnx : LSa p l e s m below meth c b D r g o 1547 k (jnG (jnG Ls is C1) [9] [M1]) (cells + mc) (slots + ms)) : LSa p l e s m below meth c b D r g o 516 k Ls (cells) (slots) := by
  obtain ⟨hx, hb, hr, hml, hown, hts, hX, hbl, hlocks, hgv⟩ := C0
  have hts := fun w h => hts w (wsL_law_in w h)
  have hown : s.vm.findClass RL = some m.cls := hown
  have hb : c.code = cL_law := hb
  intro H locs hP hD hS hT ls hl
  have hA : ∀ q : Nat, s.heap.size ≤ q → (fun q : Nat => s.heap.size ≤ q) q := fun _ h => h
  refine lv_aload_n hx hb dL_law_516 rfl (lv_at hl 1 rfl) ?_
  refine lv_aload_n hx hb dL_law_517 rfl (lv_at hl 0 rfl) ?_
  refine lv_iload hx hb dL_law_518 (lv_at hl 4 rfl) ?_
  refine lv_iconst (v := nI 1) hx hb dL_law_520 (by decide) ?_
  refine r_iaddN hx hb dL_law_521 ?_
  refine r_sld (j := 5 * k + 1) hx hb hX hbl hS (by omega) hL dL_law_522 ?_
  refine lv_aload_n hx hb dL_law_523 rfl (lv_at hl 0 rfl) ?_
  refine lv_iload hx hb dL_law_524 (lv_at hl 4 rfl) ?_
  refine lv_iconst (v := nI 2) hx hb dL_law_526 (by decide) ?_
  refine r_iaddN hx hb dL_law_527 ?_
  refine r_sld (j := 5 * k + 2) hx hb hX hbl hS (by omega) hL dL_law_528 ?_
  refine lv_aload_n hx hb dL_law_529 rfl (lv_at hl 3 rfl) ?_
  have hT0 : TXA (fun _ => False) s H := hT.narrow (fun _ h9 => h9.elim)
  refine r_gS (As := [.ref (r 0), .int (xs (5 * k + 1)), .int (xs (5 * k + 2)), .ref o]) (rest := []) ⟨hx, hb, hml, hown, hts⟩ (hM1 _) hwc hw1 (vx_cwSW 4 hts gL_law_L_pending rfl rfl rfl (by decide +kernel) ⟨Nat.le_of_ble_eq_true rfl, Nat.le_of_ble_eq_true rfl⟩) hK hT0 hP hD hS hA is hC hnd had rfl hl.1 rfl (Nat.le_of_ble_eq_true rfl) dL_law_530 ⟨hcells, hslots⟩ (fun H1 locs hP hD hS hz1 hk1 => ?_)
  have hT := hT.kept hk1
  refine lv_istore (lv' := [(5, .int (nI kx)), (0, .ref b), (1, .ref (r 0)), (2, .ref (g 0)), (3, .ref o), (4, .int (nI (5 * k)))]) hx hb dL_law_533 hl (by decide) rfl (fun ls hl => ?_)
  refine lv_aload_n hx hb dL_law_535 rfl (lv_at hl 3 rfl) ?_
  refine lv_aload_n hx hb dL_law_536 rfl (lv_at hl 1 rfl) ?_
  refine lv_iload hx hb dL_law_537 (lv_at hl 5 rfl) ?_
  refine lv_iconst (v := nI 1) hx hb dL_law_539 (by decide) ?_
  refine r_iaddN hx hb dL_law_540 ?_
  refine r_sld (j := 5 * k + 1) hx hb hX hbl hS (by omega) hL dL_law_541 ?_
  refine lv_aload_n hx hb dL_law_542 rfl (lv_at hl 1 rfl) ?_
  refine lv_iload hx hb dL_law_543 (lv_at hl 5 rfl) ?_
  refine lv_iconst (v := nI 2) hx hb dL_law_545 (by decide) ?_
  refine r_iaddN hx hb dL_law_546 ?_
  refine r_sld (j := 5 * k + 2) hx hb hX hbl hS (by omega) hL dL_law_547 ?_
  refine r_gV (As := [.int (xs (5 * k + 1)), .int (xs (5 * k + 2))]) (rest := []) (Cs := [M0]) (C1 := [M1]) ⟨hx, hb, hml, hown, hts⟩ (hM2 _) (fl1 _) (fl1 _) (cwV 2 hts gL_law_X4_pending rfl rfl rfl (by decide +kernel) ⟨by show f2 + 1 ≤ 11; omega, by show 8 + (5 + 11) + q2 ≤ 416; omega⟩) hK hP hD hS hA [9] (by simp only [List.map_cons, List.map_nil, h9]) rfl (by simp only [List.map_cons, List.map_nil, hadM]) 0 4 he0 rfl rfl hl.1 rfl (Nat.le_of_ble_eq_true rfl) dL_law_548 ⟨hcells, hslots⟩ (fun H2 locs hP hD hS hz2 hk2 => ?_)
  have hT := hT.kept hk2
  refine lv_istore (lv' := [(6, .int (v2)), (5, .int (nI kx)), (0, .ref b), (1, .ref (r 0)), (2, .ref (g 0)), (3, .ref o), (4, .int (nI (5 * k)))]) hx hb dL_law_551 hl (by decide) rfl (fun ls hl => ?_)
  refine lv_aload_n hx hb dL_law_553 rfl (lv_at hl 4 rfl) ?_
  have h9M : (jnG (jnG Ls is C1) [9] [M1])[9]? = some M1 := by show ((jnG Ls is C1).set 9 M1)[9]? = some M1; rw [List.getElem?_set_self (List.getElem?_eq_some_iff.mp h9).1]
  refine r_gR (As := []) (rest := []) (Cs := [M1]) ⟨hx, hb, hml, hown, hts⟩ hth (fl1 _) (cwV 0 hts gL_law_X4_thrown rfl rfl rfl (by decide +kernel) ⟨Nat.le_of_ble_eq_true rfl, Nat.le_of_ble_eq_true rfl⟩) hK hP [9] (by simp only [List.map_cons, List.map_nil, h9M]) 0 4 he1 rfl rfl hl.1 rfl (Nat.le_of_ble_eq_true rfl) dL_law_554 ⟨hcells, hslots⟩ ?_
  refine lv_iload hx hb dL_law_557 (lv_at hl 1 rfl) ?_
  refine lv_icmp_eq (x := nI kx) (y := nI kx) (tgt := 564) hx hb dL_law_559 (by decide) (fun _ => ?_) (fun h => absurd rfl h)
  refine lv_iload hx hb dL_law_564 (lv_at hl 1 rfl) ?_
  refine r_if_neN hx hb (x := kx) (by omega) (tgt := 581) dL_law_566 (by decide) (fun c0 => ?_) (fun c0 => ?_)
  · refine lv_goto (tgt := 1547) hx hb dL_law_581 (by decide) ?_
    exact hnx _ _ hP hD hS hT ls (lv_sub hl [2, 3, 4, 5, 6] rfl)
  · refine lv_aload_n hx hb dL_law_569 rfl (lv_at hl 5 rfl) ?_
    refine lv_iconst (v := nI 0) hx hb dL_law_570 (by decide) ?_
    refine r_out hx hb hK hP h10 dL_law_571 ?_
    refine lv_iload hx hb dL_law_572 (lv_at hl 0 rfl) ?_
    refine lv_i2l (v := v2.toInt64) hx hb dL_law_574 rfl ?_
    refine r_lcmpE (hcmp c0) hx hb (tgt := 581) (pc2 := 0) dL_law_575 dL_law_576 (by decide) ?_
    refine lv_goto (tgt := 1547) hx hb dL_law_581 (by decide) ?_
    exact hnx _ _ hP hD hS hT ls (lv_sub hl [2, 3, 4, 5, 6] rfl)
set_option maxHeartbeats 8000000 in
set_option maxRecDepth 100000 in
theorem lc_checkpoint {p : Program} {l : Launch} {e : Env} {s : State} {m : MethodId} {below : List Frame} {meth : Method} {c : Code} {b L : Nat} {xs : Nat → Int32} (hL : L ≤ 2560) (C0 : lw_At p s m meth c b L xs) {D : va_G} {ct : Nat → ClassId} (hK : KK D ct s) {r g : Nat → Nat} {o k cells slots : Nat} {mc ms kx f2 q2 : Nat} (hk : 5 * k + 5 ≤ L) (hcells : cells + mc ≤ 601024) (hslots : slots + ms ≤ 7293034) {Ls Cs C1 : List va_W} {wc w1 M0 M1 : va_W} {v2 : Int32} {ov : Int64} (is : List Nat) {fs fs1 : List Value} (hM1 : ∀ sz, Met l yL_checkpoint wsL_checkpoint ({ frames := 9, cells := mc, slots := ms, locals := 300 } : Room) (wrPcT D ct [.ref (r 0), .int (xs (5 * k + 1)), .int (xs (5 * k + 2)), .ref o] wc sz) (wqI D (nI kx) w1 (va_A wc sz)) mc ms (va_A wc sz)) (hwc : wc = fl Cs) (hw1 : w1 = fl C1) (hC : is.map (fun i => Ls[i]?) = Cs.map some) (hnd : va_nd is = true) (had : C1.map (·.map Prod.fst) = Cs.map (·.map Prod.fst)) (hM2 : ∀ sz, Met l yX4_checkpoint wsX4_checkpoint ({ frames := f2, cells := 0, slots := 0, locals := q2 } : Room) (wrPc D ct [.ref (g 0), .int (xs (5 * k + 1)), .int (xs (5 * k + 2))] M0 sz) (wqI D v2 M1 (va_A M0 sz)) 0 0 (va_A M0 sz)) (hf2 : f2 ≤ 10) (hq2 : q2 ≤ 370) (h9 : (jnG Ls is C1)[9]? = some M0) (hadM : M1.map Prod.fst = M0.map Prod.fst) (he0 : M0[0]? = some (g 0, .inr (4, fs))) (hth : Met l yX4_thrown wsX4_thrown ({ frames := 0, cells := 0, slots := 0, locals := 0 } : Room) (roPc D ct [.ref (g 0)] M1) (rqI (nI kx)) 0 0 (fun _ => False)) (he1 : M1[0]? = some (g 0, .inr (4, fs1))) (h10 : (jnG (jnG Ls is C1) [9] [M1])[10]? = some (wO ct o ov)) (hcmp : kx = 0 → ov = v2.toInt64) (hkx : kx < 4) (hnx : LSa p l e s m below meth c b D r g o 1547 k (jnG (jnG Ls is C1) [9] [M1]) (cells + mc) (slots + ms)) : LSa p l e s m below meth c b D r g o 584 k Ls (cells) (slots) := by
  obtain ⟨hx, hb, hr, hml, hown, hts, hX, hbl, hlocks, hgv⟩ := C0
  have hts := fun w h => hts w (wsL_law_in w h)
  have hown : s.vm.findClass RL = some m.cls := hown
  have hb : c.code = cL_law := hb
  intro H locs hP hD hS hT ls hl
  have hA : ∀ q : Nat, s.heap.size ≤ q → (fun q : Nat => s.heap.size ≤ q) q := fun _ h => h
  refine lv_aload_n hx hb dL_law_584 rfl (lv_at hl 1 rfl) ?_
  refine lv_aload_n hx hb dL_law_585 rfl (lv_at hl 0 rfl) ?_
  refine lv_iload hx hb dL_law_586 (lv_at hl 4 rfl) ?_
  refine lv_iconst (v := nI 1) hx hb dL_law_588 (by decide) ?_
  refine r_iaddN hx hb dL_law_589 ?_
  refine r_sld (j := 5 * k + 1) hx hb hX hbl hS (by omega) hL dL_law_590 ?_
  refine lv_aload_n hx hb dL_law_591 rfl (lv_at hl 0 rfl) ?_
  refine lv_iload hx hb dL_law_592 (lv_at hl 4 rfl) ?_
  refine lv_iconst (v := nI 2) hx hb dL_law_594 (by decide) ?_
  refine r_iaddN hx hb dL_law_595 ?_
  refine r_sld (j := 5 * k + 2) hx hb hX hbl hS (by omega) hL dL_law_596 ?_
  refine lv_aload_n hx hb dL_law_597 rfl (lv_at hl 3 rfl) ?_
  have hT0 : TXA (fun _ => False) s H := hT.narrow (fun _ h9 => h9.elim)
  refine r_gS (As := [.ref (r 0), .int (xs (5 * k + 1)), .int (xs (5 * k + 2)), .ref o]) (rest := []) ⟨hx, hb, hml, hown, hts⟩ (hM1 _) hwc hw1 (vx_cwSW 4 hts gL_law_L_checkpoint rfl rfl rfl (by decide +kernel) ⟨Nat.le_of_ble_eq_true rfl, Nat.le_of_ble_eq_true rfl⟩) hK hT0 hP hD hS hA is hC hnd had rfl hl.1 rfl (Nat.le_of_ble_eq_true rfl) dL_law_598 ⟨hcells, hslots⟩ (fun H1 locs hP hD hS hz1 hk1 => ?_)
  have hT := hT.kept hk1
  refine lv_istore (lv' := [(5, .int (nI kx)), (0, .ref b), (1, .ref (r 0)), (2, .ref (g 0)), (3, .ref o), (4, .int (nI (5 * k)))]) hx hb dL_law_601 hl (by decide) rfl (fun ls hl => ?_)
  refine lv_aload_n hx hb dL_law_603 rfl (lv_at hl 3 rfl) ?_
  refine lv_aload_n hx hb dL_law_604 rfl (lv_at hl 1 rfl) ?_
  refine lv_iload hx hb dL_law_605 (lv_at hl 5 rfl) ?_
  refine lv_iconst (v := nI 1) hx hb dL_law_607 (by decide) ?_
  refine r_iaddN hx hb dL_law_608 ?_
  refine r_sld (j := 5 * k + 1) hx hb hX hbl hS (by omega) hL dL_law_609 ?_
  refine lv_aload_n hx hb dL_law_610 rfl (lv_at hl 1 rfl) ?_
  refine lv_iload hx hb dL_law_611 (lv_at hl 5 rfl) ?_
  refine lv_iconst (v := nI 2) hx hb dL_law_613 (by decide) ?_
  refine r_iaddN hx hb dL_law_614 ?_
  refine r_sld (j := 5 * k + 2) hx hb hX hbl hS (by omega) hL dL_law_615 ?_
  refine r_gV (As := [.int (xs (5 * k + 1)), .int (xs (5 * k + 2))]) (rest := []) (Cs := [M0]) (C1 := [M1]) ⟨hx, hb, hml, hown, hts⟩ (hM2 _) (fl1 _) (fl1 _) (cwV 2 hts gL_law_X4_checkpoint rfl rfl rfl (by decide +kernel) ⟨by show f2 + 1 ≤ 11; omega, by show 8 + (3 + 11) + q2 ≤ 416; omega⟩) hK hP hD hS hA [9] (by simp only [List.map_cons, List.map_nil, h9]) rfl (by simp only [List.map_cons, List.map_nil, hadM]) 0 4 he0 rfl rfl hl.1 rfl (Nat.le_of_ble_eq_true rfl) dL_law_616 ⟨hcells, hslots⟩ (fun H2 locs hP hD hS hz2 hk2 => ?_)
  have hT := hT.kept hk2
  refine lv_istore (lv' := [(6, .int (v2)), (5, .int (nI kx)), (0, .ref b), (1, .ref (r 0)), (2, .ref (g 0)), (3, .ref o), (4, .int (nI (5 * k)))]) hx hb dL_law_619 hl (by decide) rfl (fun ls hl => ?_)
  refine lv_aload_n hx hb dL_law_621 rfl (lv_at hl 4 rfl) ?_
  have h9M : (jnG (jnG Ls is C1) [9] [M1])[9]? = some M1 := by show ((jnG Ls is C1).set 9 M1)[9]? = some M1; rw [List.getElem?_set_self (List.getElem?_eq_some_iff.mp h9).1]
  refine r_gR (As := []) (rest := []) (Cs := [M1]) ⟨hx, hb, hml, hown, hts⟩ hth (fl1 _) (cwV 0 hts gL_law_X4_thrown rfl rfl rfl (by decide +kernel) ⟨Nat.le_of_ble_eq_true rfl, Nat.le_of_ble_eq_true rfl⟩) hK hP [9] (by simp only [List.map_cons, List.map_nil, h9M]) 0 4 he1 rfl rfl hl.1 rfl (Nat.le_of_ble_eq_true rfl) dL_law_622 ⟨hcells, hslots⟩ ?_
  refine lv_iload hx hb dL_law_625 (lv_at hl 1 rfl) ?_
  refine lv_icmp_eq (x := nI kx) (y := nI kx) (tgt := 632) hx hb dL_law_627 (by decide) (fun _ => ?_) (fun h => absurd rfl h)
  refine lv_iload hx hb dL_law_632 (lv_at hl 1 rfl) ?_
  refine r_if_neN hx hb (x := kx) (by omega) (tgt := 649) dL_law_634 (by decide) (fun c0 => ?_) (fun c0 => ?_)
  · refine lv_goto (tgt := 1547) hx hb dL_law_649 (by decide) ?_
    exact hnx _ _ hP hD hS hT ls (lv_sub hl [2, 3, 4, 5, 6] rfl)
  · refine lv_aload_n hx hb dL_law_637 rfl (lv_at hl 5 rfl) ?_
    refine lv_iconst (v := nI 0) hx hb dL_law_638 (by decide) ?_
    refine r_out hx hb hK hP h10 dL_law_639 ?_
    refine lv_iload hx hb dL_law_640 (lv_at hl 0 rfl) ?_
    refine lv_i2l (v := v2.toInt64) hx hb dL_law_642 rfl ?_
    refine r_lcmpE (hcmp c0) hx hb (tgt := 649) (pc2 := 0) dL_law_643 dL_law_644 (by decide) ?_
    refine lv_goto (tgt := 1547) hx hb dL_law_649 (by decide) ?_
    exact hnx _ _ hP hD hS hT ls (lv_sub hl [2, 3, 4, 5, 6] rfl)
set_option maxHeartbeats 8000000 in
set_option maxRecDepth 100000 in
theorem lc_documentOf {p : Program} {l : Launch} {e : Env} {s : State} {m : MethodId} {below : List Frame} {meth : Method} {c : Code} {b L : Nat} {xs : Nat → Int32} (hL : L ≤ 2560) (C0 : lw_At p s m meth c b L xs) {D : va_G} {ct : Nat → ClassId} (hK : KK D ct s) {r g : Nat → Nat} {o k cells slots : Nat} {mc ms kx f2 q2 : Nat} (hk : 5 * k + 5 ≤ L) (hcells : cells + mc ≤ 601024) (hslots : slots + ms ≤ 7293034) {Ls Cs C1 : List va_W} {wc w1 M0 M1 : va_W} {v2 : Int32} {ov : Int64} (is : List Nat) {fs fs1 : List Value} (hM1 : ∀ sz, Met l yL_documentOf wsL_documentOf ({ frames := 9, cells := mc, slots := ms, locals := 300 } : Room) (wrPcT D ct [.ref (r 0), .int (xs (5 * k + 1)), .ref o] wc sz) (wqI D (nI kx) w1 (va_A wc sz)) mc ms (va_A wc sz)) (hwc : wc = fl Cs) (hw1 : w1 = fl C1) (hC : is.map (fun i => Ls[i]?) = Cs.map some) (hnd : va_nd is = true) (had : C1.map (·.map Prod.fst) = Cs.map (·.map Prod.fst)) (hM2 : ∀ sz, Met l yX4_documentOf wsX4_documentOf ({ frames := f2, cells := 0, slots := 0, locals := q2 } : Room) (wrPc D ct [.ref (g 0), .int (xs (5 * k + 1))] M0 sz) (wqI D v2 M1 (va_A M0 sz)) 0 0 (va_A M0 sz)) (hf2 : f2 ≤ 10) (hq2 : q2 ≤ 370) (h9 : (jnG Ls is C1)[9]? = some M0) (hadM : M1.map Prod.fst = M0.map Prod.fst) (he0 : M0[0]? = some (g 0, .inr (4, fs))) (hth : Met l yX4_thrown wsX4_thrown ({ frames := 0, cells := 0, slots := 0, locals := 0 } : Room) (roPc D ct [.ref (g 0)] M1) (rqI (nI kx)) 0 0 (fun _ => False)) (he1 : M1[0]? = some (g 0, .inr (4, fs1))) (h10 : (jnG (jnG Ls is C1) [9] [M1])[10]? = some (wO ct o ov)) (hcmp : kx = 0 → ov = v2.toInt64) (hkx : kx < 4) (hnx : LSa p l e s m below meth c b D r g o 1547 k (jnG (jnG Ls is C1) [9] [M1]) (cells + mc) (slots + ms)) : LSa p l e s m below meth c b D r g o 665 k Ls (cells) (slots) := by
  obtain ⟨hx, hb, hr, hml, hown, hts, hX, hbl, hlocks, hgv⟩ := C0
  have hts := fun w h => hts w (wsL_law_in w h)
  have hown : s.vm.findClass RL = some m.cls := hown
  have hb : c.code = cL_law := hb
  intro H locs hP hD hS hT ls hl
  have hA : ∀ q : Nat, s.heap.size ≤ q → (fun q : Nat => s.heap.size ≤ q) q := fun _ h => h
  refine lv_aload_n hx hb dL_law_665 rfl (lv_at hl 1 rfl) ?_
  refine lv_aload_n hx hb dL_law_666 rfl (lv_at hl 0 rfl) ?_
  refine lv_iload hx hb dL_law_667 (lv_at hl 4 rfl) ?_
  refine lv_iconst (v := nI 1) hx hb dL_law_669 (by decide) ?_
  refine r_iaddN hx hb dL_law_670 ?_
  refine r_sld (j := 5 * k + 1) hx hb hX hbl hS (by omega) hL dL_law_671 ?_
  refine lv_aload_n hx hb dL_law_672 rfl (lv_at hl 3 rfl) ?_
  have hT0 : TXA (fun _ => False) s H := hT.narrow (fun _ h9 => h9.elim)
  refine r_gS (As := [.ref (r 0), .int (xs (5 * k + 1)), .ref o]) (rest := []) ⟨hx, hb, hml, hown, hts⟩ (hM1 _) hwc hw1 (vx_cwSW 3 hts gL_law_L_documentOf rfl rfl rfl (by decide +kernel) ⟨Nat.le_of_ble_eq_true rfl, Nat.le_of_ble_eq_true rfl⟩) hK hT0 hP hD hS hA is hC hnd had rfl hl.1 rfl (Nat.le_of_ble_eq_true rfl) dL_law_673 ⟨hcells, hslots⟩ (fun H1 locs hP hD hS hz1 hk1 => ?_)
  have hT := hT.kept hk1
  refine lv_istore (lv' := [(5, .int (nI kx)), (0, .ref b), (1, .ref (r 0)), (2, .ref (g 0)), (3, .ref o), (4, .int (nI (5 * k)))]) hx hb dL_law_676 hl (by decide) rfl (fun ls hl => ?_)
  refine lv_aload_n hx hb dL_law_678 rfl (lv_at hl 3 rfl) ?_
  refine lv_aload_n hx hb dL_law_679 rfl (lv_at hl 1 rfl) ?_
  refine lv_iload hx hb dL_law_680 (lv_at hl 5 rfl) ?_
  refine lv_iconst (v := nI 1) hx hb dL_law_682 (by decide) ?_
  refine r_iaddN hx hb dL_law_683 ?_
  refine r_sld (j := 5 * k + 1) hx hb hX hbl hS (by omega) hL dL_law_684 ?_
  refine r_gV (As := [.int (xs (5 * k + 1))]) (rest := []) (Cs := [M0]) (C1 := [M1]) ⟨hx, hb, hml, hown, hts⟩ (hM2 _) (fl1 _) (fl1 _) (cwV 1 hts gL_law_X4_documentOf rfl rfl rfl (by decide +kernel) ⟨by show f2 + 1 ≤ 11; omega, by show 8 + (2 + 11) + q2 ≤ 416; omega⟩) hK hP hD hS hA [9] (by simp only [List.map_cons, List.map_nil, h9]) rfl (by simp only [List.map_cons, List.map_nil, hadM]) 0 4 he0 rfl rfl hl.1 rfl (Nat.le_of_ble_eq_true rfl) dL_law_685 ⟨hcells, hslots⟩ (fun H2 locs hP hD hS hz2 hk2 => ?_)
  have hT := hT.kept hk2
  refine lv_istore (lv' := [(6, .int (v2)), (5, .int (nI kx)), (0, .ref b), (1, .ref (r 0)), (2, .ref (g 0)), (3, .ref o), (4, .int (nI (5 * k)))]) hx hb dL_law_688 hl (by decide) rfl (fun ls hl => ?_)
  refine lv_aload_n hx hb dL_law_690 rfl (lv_at hl 4 rfl) ?_
  have h9M : (jnG (jnG Ls is C1) [9] [M1])[9]? = some M1 := by show ((jnG Ls is C1).set 9 M1)[9]? = some M1; rw [List.getElem?_set_self (List.getElem?_eq_some_iff.mp h9).1]
  refine r_gR (As := []) (rest := []) (Cs := [M1]) ⟨hx, hb, hml, hown, hts⟩ hth (fl1 _) (cwV 0 hts gL_law_X4_thrown rfl rfl rfl (by decide +kernel) ⟨Nat.le_of_ble_eq_true rfl, Nat.le_of_ble_eq_true rfl⟩) hK hP [9] (by simp only [List.map_cons, List.map_nil, h9M]) 0 4 he1 rfl rfl hl.1 rfl (Nat.le_of_ble_eq_true rfl) dL_law_691 ⟨hcells, hslots⟩ ?_
  refine lv_iload hx hb dL_law_694 (lv_at hl 1 rfl) ?_
  refine lv_icmp_eq (x := nI kx) (y := nI kx) (tgt := 701) hx hb dL_law_696 (by decide) (fun _ => ?_) (fun h => absurd rfl h)
  refine lv_iload hx hb dL_law_701 (lv_at hl 1 rfl) ?_
  refine r_if_neN hx hb (x := kx) (by omega) (tgt := 718) dL_law_703 (by decide) (fun c0 => ?_) (fun c0 => ?_)
  · refine lv_goto (tgt := 1547) hx hb dL_law_718 (by decide) ?_
    exact hnx _ _ hP hD hS hT ls (lv_sub hl [2, 3, 4, 5, 6] rfl)
  · refine lv_aload_n hx hb dL_law_706 rfl (lv_at hl 5 rfl) ?_
    refine lv_iconst (v := nI 0) hx hb dL_law_707 (by decide) ?_
    refine r_out hx hb hK hP h10 dL_law_708 ?_
    refine lv_iload hx hb dL_law_709 (lv_at hl 0 rfl) ?_
    refine lv_i2l (v := v2.toInt64) hx hb dL_law_711 rfl ?_
    refine r_lcmpE (hcmp c0) hx hb (tgt := 718) (pc2 := 0) dL_law_712 dL_law_713 (by decide) ?_
    refine lv_goto (tgt := 1547) hx hb dL_law_718 (by decide) ?_
    exact hnx _ _ hP hD hS hT ls (lv_sub hl [2, 3, 4, 5, 6] rfl)
set_option maxHeartbeats 8000000 in
set_option maxRecDepth 100000 in
theorem lc_parentOf {p : Program} {l : Launch} {e : Env} {s : State} {m : MethodId} {below : List Frame} {meth : Method} {c : Code} {b L : Nat} {xs : Nat → Int32} (hL : L ≤ 2560) (C0 : lw_At p s m meth c b L xs) {D : va_G} {ct : Nat → ClassId} (hK : KK D ct s) {r g : Nat → Nat} {o k cells slots : Nat} {mc ms kx f2 q2 : Nat} (hk : 5 * k + 5 ≤ L) (hcells : cells + mc ≤ 601024) (hslots : slots + ms ≤ 7293034) {Ls Cs C1 : List va_W} {wc w1 M0 M1 : va_W} {v2 : Int32} {ov : Int64} (is : List Nat) {fs fs1 : List Value} (hM1 : ∀ sz, Met l yL_parentOf wsL_parentOf ({ frames := 9, cells := mc, slots := ms, locals := 300 } : Room) (wrPcT D ct [.ref (r 0), .int (xs (5 * k + 1)), .ref o] wc sz) (wqI D (nI kx) w1 (va_A wc sz)) mc ms (va_A wc sz)) (hwc : wc = fl Cs) (hw1 : w1 = fl C1) (hC : is.map (fun i => Ls[i]?) = Cs.map some) (hnd : va_nd is = true) (had : C1.map (·.map Prod.fst) = Cs.map (·.map Prod.fst)) (hM2 : ∀ sz, Met l yX4_parentOf wsX4_parentOf ({ frames := f2, cells := 0, slots := 0, locals := q2 } : Room) (wrPc D ct [.ref (g 0), .int (xs (5 * k + 1))] M0 sz) (wqI D v2 M1 (va_A M0 sz)) 0 0 (va_A M0 sz)) (hf2 : f2 ≤ 10) (hq2 : q2 ≤ 370) (h9 : (jnG Ls is C1)[9]? = some M0) (hadM : M1.map Prod.fst = M0.map Prod.fst) (he0 : M0[0]? = some (g 0, .inr (4, fs))) (hth : Met l yX4_thrown wsX4_thrown ({ frames := 0, cells := 0, slots := 0, locals := 0 } : Room) (roPc D ct [.ref (g 0)] M1) (rqI (nI kx)) 0 0 (fun _ => False)) (he1 : M1[0]? = some (g 0, .inr (4, fs1))) (h10 : (jnG (jnG Ls is C1) [9] [M1])[10]? = some (wO ct o ov)) (hcmp : kx = 0 → ov = v2.toInt64) (hkx : kx < 4) (hnx : LSa p l e s m below meth c b D r g o 1547 k (jnG (jnG Ls is C1) [9] [M1]) (cells + mc) (slots + ms)) : LSa p l e s m below meth c b D r g o 721 k Ls (cells) (slots) := by
  obtain ⟨hx, hb, hr, hml, hown, hts, hX, hbl, hlocks, hgv⟩ := C0
  have hts := fun w h => hts w (wsL_law_in w h)
  have hown : s.vm.findClass RL = some m.cls := hown
  have hb : c.code = cL_law := hb
  intro H locs hP hD hS hT ls hl
  have hA : ∀ q : Nat, s.heap.size ≤ q → (fun q : Nat => s.heap.size ≤ q) q := fun _ h => h
  refine lv_aload_n hx hb dL_law_721 rfl (lv_at hl 1 rfl) ?_
  refine lv_aload_n hx hb dL_law_722 rfl (lv_at hl 0 rfl) ?_
  refine lv_iload hx hb dL_law_723 (lv_at hl 4 rfl) ?_
  refine lv_iconst (v := nI 1) hx hb dL_law_725 (by decide) ?_
  refine r_iaddN hx hb dL_law_726 ?_
  refine r_sld (j := 5 * k + 1) hx hb hX hbl hS (by omega) hL dL_law_727 ?_
  refine lv_aload_n hx hb dL_law_728 rfl (lv_at hl 3 rfl) ?_
  have hT0 : TXA (fun _ => False) s H := hT.narrow (fun _ h9 => h9.elim)
  refine r_gS (As := [.ref (r 0), .int (xs (5 * k + 1)), .ref o]) (rest := []) ⟨hx, hb, hml, hown, hts⟩ (hM1 _) hwc hw1 (vx_cwSW 3 hts gL_law_L_parentOf rfl rfl rfl (by decide +kernel) ⟨Nat.le_of_ble_eq_true rfl, Nat.le_of_ble_eq_true rfl⟩) hK hT0 hP hD hS hA is hC hnd had rfl hl.1 rfl (Nat.le_of_ble_eq_true rfl) dL_law_729 ⟨hcells, hslots⟩ (fun H1 locs hP hD hS hz1 hk1 => ?_)
  have hT := hT.kept hk1
  refine lv_istore (lv' := [(5, .int (nI kx)), (0, .ref b), (1, .ref (r 0)), (2, .ref (g 0)), (3, .ref o), (4, .int (nI (5 * k)))]) hx hb dL_law_732 hl (by decide) rfl (fun ls hl => ?_)
  refine lv_aload_n hx hb dL_law_734 rfl (lv_at hl 3 rfl) ?_
  refine lv_aload_n hx hb dL_law_735 rfl (lv_at hl 1 rfl) ?_
  refine lv_iload hx hb dL_law_736 (lv_at hl 5 rfl) ?_
  refine lv_iconst (v := nI 1) hx hb dL_law_738 (by decide) ?_
  refine r_iaddN hx hb dL_law_739 ?_
  refine r_sld (j := 5 * k + 1) hx hb hX hbl hS (by omega) hL dL_law_740 ?_
  refine r_gV (As := [.int (xs (5 * k + 1))]) (rest := []) (Cs := [M0]) (C1 := [M1]) ⟨hx, hb, hml, hown, hts⟩ (hM2 _) (fl1 _) (fl1 _) (cwV 1 hts gL_law_X4_parentOf rfl rfl rfl (by decide +kernel) ⟨by show f2 + 1 ≤ 11; omega, by show 8 + (2 + 11) + q2 ≤ 416; omega⟩) hK hP hD hS hA [9] (by simp only [List.map_cons, List.map_nil, h9]) rfl (by simp only [List.map_cons, List.map_nil, hadM]) 0 4 he0 rfl rfl hl.1 rfl (Nat.le_of_ble_eq_true rfl) dL_law_741 ⟨hcells, hslots⟩ (fun H2 locs hP hD hS hz2 hk2 => ?_)
  have hT := hT.kept hk2
  refine lv_istore (lv' := [(6, .int (v2)), (5, .int (nI kx)), (0, .ref b), (1, .ref (r 0)), (2, .ref (g 0)), (3, .ref o), (4, .int (nI (5 * k)))]) hx hb dL_law_744 hl (by decide) rfl (fun ls hl => ?_)
  refine lv_aload_n hx hb dL_law_746 rfl (lv_at hl 4 rfl) ?_
  have h9M : (jnG (jnG Ls is C1) [9] [M1])[9]? = some M1 := by show ((jnG Ls is C1).set 9 M1)[9]? = some M1; rw [List.getElem?_set_self (List.getElem?_eq_some_iff.mp h9).1]
  refine r_gR (As := []) (rest := []) (Cs := [M1]) ⟨hx, hb, hml, hown, hts⟩ hth (fl1 _) (cwV 0 hts gL_law_X4_thrown rfl rfl rfl (by decide +kernel) ⟨Nat.le_of_ble_eq_true rfl, Nat.le_of_ble_eq_true rfl⟩) hK hP [9] (by simp only [List.map_cons, List.map_nil, h9M]) 0 4 he1 rfl rfl hl.1 rfl (Nat.le_of_ble_eq_true rfl) dL_law_747 ⟨hcells, hslots⟩ ?_
  refine lv_iload hx hb dL_law_750 (lv_at hl 1 rfl) ?_
  refine lv_icmp_eq (x := nI kx) (y := nI kx) (tgt := 757) hx hb dL_law_752 (by decide) (fun _ => ?_) (fun h => absurd rfl h)
  refine lv_iload hx hb dL_law_757 (lv_at hl 1 rfl) ?_
  refine r_if_neN hx hb (x := kx) (by omega) (tgt := 774) dL_law_759 (by decide) (fun c0 => ?_) (fun c0 => ?_)
  · refine lv_goto (tgt := 1547) hx hb dL_law_774 (by decide) ?_
    exact hnx _ _ hP hD hS hT ls (lv_sub hl [2, 3, 4, 5, 6] rfl)
  · refine lv_aload_n hx hb dL_law_762 rfl (lv_at hl 5 rfl) ?_
    refine lv_iconst (v := nI 0) hx hb dL_law_763 (by decide) ?_
    refine r_out hx hb hK hP h10 dL_law_764 ?_
    refine lv_iload hx hb dL_law_765 (lv_at hl 0 rfl) ?_
    refine lv_i2l (v := v2.toInt64) hx hb dL_law_767 rfl ?_
    refine r_lcmpE (hcmp c0) hx hb (tgt := 774) (pc2 := 0) dL_law_768 dL_law_769 (by decide) ?_
    refine lv_goto (tgt := 1547) hx hb dL_law_774 (by decide) ?_
    exact hnx _ _ hP hD hS hT ls (lv_sub hl [2, 3, 4, 5, 6] rfl)
set_option maxHeartbeats 8000000 in
set_option maxRecDepth 100000 in
theorem lc_generation {p : Program} {l : Launch} {e : Env} {s : State} {m : MethodId} {below : List Frame} {meth : Method} {c : Code} {b L : Nat} {xs : Nat → Int32} (hL : L ≤ 2560) (C0 : lw_At p s m meth c b L xs) {D : va_G} {ct : Nat → ClassId} (hK : KK D ct s) {r g : Nat → Nat} {o k cells slots : Nat} {mc ms kx f2 q2 : Nat} (hk : 5 * k + 5 ≤ L) (hcells : cells + mc ≤ 601024) (hslots : slots + ms ≤ 7293034) {Ls Cs C1 : List va_W} {wc w1 M0 M1 : va_W} {v2 : Int32} {ov : Int64} (is : List Nat) {fs fs1 : List Value} (hM1 : ∀ sz, Met l yL_generation wsL_generation ({ frames := 9, cells := mc, slots := ms, locals := 300 } : Room) (wrPcT D ct [.ref (r 0), .int (xs (5 * k + 1)), .ref o] wc sz) (wqI D (nI kx) w1 (va_A wc sz)) mc ms (va_A wc sz)) (hwc : wc = fl Cs) (hw1 : w1 = fl C1) (hC : is.map (fun i => Ls[i]?) = Cs.map some) (hnd : va_nd is = true) (had : C1.map (·.map Prod.fst) = Cs.map (·.map Prod.fst)) (hM2 : ∀ sz, Met l yX4_generation wsX4_generation ({ frames := f2, cells := 0, slots := 0, locals := q2 } : Room) (wrPc D ct [.ref (g 0), .int (xs (5 * k + 1))] M0 sz) (wqI D v2 M1 (va_A M0 sz)) 0 0 (va_A M0 sz)) (hf2 : f2 ≤ 10) (hq2 : q2 ≤ 370) (h9 : (jnG Ls is C1)[9]? = some M0) (hadM : M1.map Prod.fst = M0.map Prod.fst) (he0 : M0[0]? = some (g 0, .inr (4, fs))) (hth : Met l yX4_thrown wsX4_thrown ({ frames := 0, cells := 0, slots := 0, locals := 0 } : Room) (roPc D ct [.ref (g 0)] M1) (rqI (nI kx)) 0 0 (fun _ => False)) (he1 : M1[0]? = some (g 0, .inr (4, fs1))) (h10 : (jnG (jnG Ls is C1) [9] [M1])[10]? = some (wO ct o ov)) (hcmp : kx = 0 → ov = v2.toInt64) (hkx : kx < 4) (hnx : LSa p l e s m below meth c b D r g o 1547 k (jnG (jnG Ls is C1) [9] [M1]) (cells + mc) (slots + ms)) : LSa p l e s m below meth c b D r g o 777 k Ls (cells) (slots) := by
  obtain ⟨hx, hb, hr, hml, hown, hts, hX, hbl, hlocks, hgv⟩ := C0
  have hts := fun w h => hts w (wsL_law_in w h)
  have hown : s.vm.findClass RL = some m.cls := hown
  have hb : c.code = cL_law := hb
  intro H locs hP hD hS hT ls hl
  have hA : ∀ q : Nat, s.heap.size ≤ q → (fun q : Nat => s.heap.size ≤ q) q := fun _ h => h
  refine lv_aload_n hx hb dL_law_777 rfl (lv_at hl 1 rfl) ?_
  refine lv_aload_n hx hb dL_law_778 rfl (lv_at hl 0 rfl) ?_
  refine lv_iload hx hb dL_law_779 (lv_at hl 4 rfl) ?_
  refine lv_iconst (v := nI 1) hx hb dL_law_781 (by decide) ?_
  refine r_iaddN hx hb dL_law_782 ?_
  refine r_sld (j := 5 * k + 1) hx hb hX hbl hS (by omega) hL dL_law_783 ?_
  refine lv_aload_n hx hb dL_law_784 rfl (lv_at hl 3 rfl) ?_
  have hT0 : TXA (fun _ => False) s H := hT.narrow (fun _ h9 => h9.elim)
  refine r_gS (As := [.ref (r 0), .int (xs (5 * k + 1)), .ref o]) (rest := []) ⟨hx, hb, hml, hown, hts⟩ (hM1 _) hwc hw1 (vx_cwSW 3 hts gL_law_L_generation rfl rfl rfl (by decide +kernel) ⟨Nat.le_of_ble_eq_true rfl, Nat.le_of_ble_eq_true rfl⟩) hK hT0 hP hD hS hA is hC hnd had rfl hl.1 rfl (Nat.le_of_ble_eq_true rfl) dL_law_785 ⟨hcells, hslots⟩ (fun H1 locs hP hD hS hz1 hk1 => ?_)
  have hT := hT.kept hk1
  refine lv_istore (lv' := [(5, .int (nI kx)), (0, .ref b), (1, .ref (r 0)), (2, .ref (g 0)), (3, .ref o), (4, .int (nI (5 * k)))]) hx hb dL_law_788 hl (by decide) rfl (fun ls hl => ?_)
  refine lv_aload_n hx hb dL_law_790 rfl (lv_at hl 3 rfl) ?_
  refine lv_aload_n hx hb dL_law_791 rfl (lv_at hl 1 rfl) ?_
  refine lv_iload hx hb dL_law_792 (lv_at hl 5 rfl) ?_
  refine lv_iconst (v := nI 1) hx hb dL_law_794 (by decide) ?_
  refine r_iaddN hx hb dL_law_795 ?_
  refine r_sld (j := 5 * k + 1) hx hb hX hbl hS (by omega) hL dL_law_796 ?_
  refine r_gV (As := [.int (xs (5 * k + 1))]) (rest := []) (Cs := [M0]) (C1 := [M1]) ⟨hx, hb, hml, hown, hts⟩ (hM2 _) (fl1 _) (fl1 _) (cwV 1 hts gL_law_X4_generation rfl rfl rfl (by decide +kernel) ⟨by show f2 + 1 ≤ 11; omega, by show 8 + (2 + 11) + q2 ≤ 416; omega⟩) hK hP hD hS hA [9] (by simp only [List.map_cons, List.map_nil, h9]) rfl (by simp only [List.map_cons, List.map_nil, hadM]) 0 4 he0 rfl rfl hl.1 rfl (Nat.le_of_ble_eq_true rfl) dL_law_797 ⟨hcells, hslots⟩ (fun H2 locs hP hD hS hz2 hk2 => ?_)
  have hT := hT.kept hk2
  refine lv_istore (lv' := [(6, .int (v2)), (5, .int (nI kx)), (0, .ref b), (1, .ref (r 0)), (2, .ref (g 0)), (3, .ref o), (4, .int (nI (5 * k)))]) hx hb dL_law_800 hl (by decide) rfl (fun ls hl => ?_)
  refine lv_aload_n hx hb dL_law_802 rfl (lv_at hl 4 rfl) ?_
  have h9M : (jnG (jnG Ls is C1) [9] [M1])[9]? = some M1 := by show ((jnG Ls is C1).set 9 M1)[9]? = some M1; rw [List.getElem?_set_self (List.getElem?_eq_some_iff.mp h9).1]
  refine r_gR (As := []) (rest := []) (Cs := [M1]) ⟨hx, hb, hml, hown, hts⟩ hth (fl1 _) (cwV 0 hts gL_law_X4_thrown rfl rfl rfl (by decide +kernel) ⟨Nat.le_of_ble_eq_true rfl, Nat.le_of_ble_eq_true rfl⟩) hK hP [9] (by simp only [List.map_cons, List.map_nil, h9M]) 0 4 he1 rfl rfl hl.1 rfl (Nat.le_of_ble_eq_true rfl) dL_law_803 ⟨hcells, hslots⟩ ?_
  refine lv_iload hx hb dL_law_806 (lv_at hl 1 rfl) ?_
  refine lv_icmp_eq (x := nI kx) (y := nI kx) (tgt := 813) hx hb dL_law_808 (by decide) (fun _ => ?_) (fun h => absurd rfl h)
  refine lv_iload hx hb dL_law_813 (lv_at hl 1 rfl) ?_
  refine r_if_neN hx hb (x := kx) (by omega) (tgt := 830) dL_law_815 (by decide) (fun c0 => ?_) (fun c0 => ?_)
  · refine lv_goto (tgt := 1547) hx hb dL_law_830 (by decide) ?_
    exact hnx _ _ hP hD hS hT ls (lv_sub hl [2, 3, 4, 5, 6] rfl)
  · refine lv_aload_n hx hb dL_law_818 rfl (lv_at hl 5 rfl) ?_
    refine lv_iconst (v := nI 0) hx hb dL_law_819 (by decide) ?_
    refine r_out hx hb hK hP h10 dL_law_820 ?_
    refine lv_iload hx hb dL_law_821 (lv_at hl 0 rfl) ?_
    refine lv_i2l (v := v2.toInt64) hx hb dL_law_823 rfl ?_
    refine r_lcmpE (hcmp c0) hx hb (tgt := 830) (pc2 := 0) dL_law_824 dL_law_825 (by decide) ?_
    refine lv_goto (tgt := 1547) hx hb dL_law_830 (by decide) ?_
    exact hnx _ _ hP hD hS hT ls (lv_sub hl [2, 3, 4, 5, 6] rfl)
set_option maxHeartbeats 8000000 in
set_option maxRecDepth 100000 in
theorem lc_sum {p : Program} {l : Launch} {e : Env} {s : State} {m : MethodId} {below : List Frame} {meth : Method} {c : Code} {b L : Nat} {xs : Nat → Int32} (hL : L ≤ 2560) (C0 : lw_At p s m meth c b L xs) {D : va_G} {ct : Nat → ClassId} (hK : KK D ct s) {r g : Nat → Nat} {o k cells slots : Nat} {mc ms kx f2 q2 : Nat} (hk : 5 * k + 5 ≤ L) (hcells : cells + mc ≤ 601024) (hslots : slots + ms ≤ 7293034) {Ls Cs C1 : List va_W} {wc w1 M0 M1 : va_W} {v2 : Int32} {ov : Int64} (is : List Nat) {fs fs1 : List Value} (hM1 : ∀ sz, Met l yL_sum wsL_sum ({ frames := 9, cells := mc, slots := ms, locals := 300 } : Room) (wrPcT D ct [.ref (r 0), .int (xs (5 * k + 1)), .ref o] wc sz) (wqI D (nI kx) w1 (va_A wc sz)) mc ms (va_A wc sz)) (hwc : wc = fl Cs) (hw1 : w1 = fl C1) (hC : is.map (fun i => Ls[i]?) = Cs.map some) (hnd : va_nd is = true) (had : C1.map (·.map Prod.fst) = Cs.map (·.map Prod.fst)) (hM2 : ∀ sz, Met l yX4_sum wsX4_sum ({ frames := f2, cells := 0, slots := 0, locals := q2 } : Room) (wrPc D ct [.ref (g 0), .int (xs (5 * k + 1))] M0 sz) (wqI D v2 M1 (va_A M0 sz)) 0 0 (va_A M0 sz)) (hf2 : f2 ≤ 10) (hq2 : q2 ≤ 370) (h9 : (jnG Ls is C1)[9]? = some M0) (hadM : M1.map Prod.fst = M0.map Prod.fst) (he0 : M0[0]? = some (g 0, .inr (4, fs))) (hth : Met l yX4_thrown wsX4_thrown ({ frames := 0, cells := 0, slots := 0, locals := 0 } : Room) (roPc D ct [.ref (g 0)] M1) (rqI (nI kx)) 0 0 (fun _ => False)) (he1 : M1[0]? = some (g 0, .inr (4, fs1))) (h10 : (jnG (jnG Ls is C1) [9] [M1])[10]? = some (wO ct o ov)) (hcmp : kx = 0 → ov = v2.toInt64) (hkx : kx < 4) (hnx : LSa p l e s m below meth c b D r g o 1547 k (jnG (jnG Ls is C1) [9] [M1]) (cells + mc) (slots + ms)) : LSa p l e s m below meth c b D r g o 833 k Ls (cells) (slots) := by
  obtain ⟨hx, hb, hr, hml, hown, hts, hX, hbl, hlocks, hgv⟩ := C0
  have hts := fun w h => hts w (wsL_law_in w h)
  have hown : s.vm.findClass RL = some m.cls := hown
  have hb : c.code = cL_law := hb
  intro H locs hP hD hS hT ls hl
  have hA : ∀ q : Nat, s.heap.size ≤ q → (fun q : Nat => s.heap.size ≤ q) q := fun _ h => h
  refine lv_aload_n hx hb dL_law_833 rfl (lv_at hl 1 rfl) ?_
  refine lv_aload_n hx hb dL_law_834 rfl (lv_at hl 0 rfl) ?_
  refine lv_iload hx hb dL_law_835 (lv_at hl 4 rfl) ?_
  refine lv_iconst (v := nI 1) hx hb dL_law_837 (by decide) ?_
  refine r_iaddN hx hb dL_law_838 ?_
  refine r_sld (j := 5 * k + 1) hx hb hX hbl hS (by omega) hL dL_law_839 ?_
  refine lv_aload_n hx hb dL_law_840 rfl (lv_at hl 3 rfl) ?_
  have hT0 : TXA (fun _ => False) s H := hT.narrow (fun _ h9 => h9.elim)
  refine r_gS (As := [.ref (r 0), .int (xs (5 * k + 1)), .ref o]) (rest := []) ⟨hx, hb, hml, hown, hts⟩ (hM1 _) hwc hw1 (vx_cwSW 3 hts gL_law_L_sum rfl rfl rfl (by decide +kernel) ⟨Nat.le_of_ble_eq_true rfl, Nat.le_of_ble_eq_true rfl⟩) hK hT0 hP hD hS hA is hC hnd had rfl hl.1 rfl (Nat.le_of_ble_eq_true rfl) dL_law_841 ⟨hcells, hslots⟩ (fun H1 locs hP hD hS hz1 hk1 => ?_)
  have hT := hT.kept hk1
  refine lv_istore (lv' := [(5, .int (nI kx)), (0, .ref b), (1, .ref (r 0)), (2, .ref (g 0)), (3, .ref o), (4, .int (nI (5 * k)))]) hx hb dL_law_844 hl (by decide) rfl (fun ls hl => ?_)
  refine lv_aload_n hx hb dL_law_846 rfl (lv_at hl 3 rfl) ?_
  refine lv_aload_n hx hb dL_law_847 rfl (lv_at hl 1 rfl) ?_
  refine lv_iload hx hb dL_law_848 (lv_at hl 5 rfl) ?_
  refine lv_iconst (v := nI 1) hx hb dL_law_850 (by decide) ?_
  refine r_iaddN hx hb dL_law_851 ?_
  refine r_sld (j := 5 * k + 1) hx hb hX hbl hS (by omega) hL dL_law_852 ?_
  refine r_gV (As := [.int (xs (5 * k + 1))]) (rest := []) (Cs := [M0]) (C1 := [M1]) ⟨hx, hb, hml, hown, hts⟩ (hM2 _) (fl1 _) (fl1 _) (cwV 1 hts gL_law_X4_sum rfl rfl rfl (by decide +kernel) ⟨by show f2 + 1 ≤ 11; omega, by show 8 + (2 + 11) + q2 ≤ 416; omega⟩) hK hP hD hS hA [9] (by simp only [List.map_cons, List.map_nil, h9]) rfl (by simp only [List.map_cons, List.map_nil, hadM]) 0 4 he0 rfl rfl hl.1 rfl (Nat.le_of_ble_eq_true rfl) dL_law_853 ⟨hcells, hslots⟩ (fun H2 locs hP hD hS hz2 hk2 => ?_)
  have hT := hT.kept hk2
  refine lv_istore (lv' := [(6, .int (v2)), (5, .int (nI kx)), (0, .ref b), (1, .ref (r 0)), (2, .ref (g 0)), (3, .ref o), (4, .int (nI (5 * k)))]) hx hb dL_law_856 hl (by decide) rfl (fun ls hl => ?_)
  refine lv_aload_n hx hb dL_law_858 rfl (lv_at hl 4 rfl) ?_
  have h9M : (jnG (jnG Ls is C1) [9] [M1])[9]? = some M1 := by show ((jnG Ls is C1).set 9 M1)[9]? = some M1; rw [List.getElem?_set_self (List.getElem?_eq_some_iff.mp h9).1]
  refine r_gR (As := []) (rest := []) (Cs := [M1]) ⟨hx, hb, hml, hown, hts⟩ hth (fl1 _) (cwV 0 hts gL_law_X4_thrown rfl rfl rfl (by decide +kernel) ⟨Nat.le_of_ble_eq_true rfl, Nat.le_of_ble_eq_true rfl⟩) hK hP [9] (by simp only [List.map_cons, List.map_nil, h9M]) 0 4 he1 rfl rfl hl.1 rfl (Nat.le_of_ble_eq_true rfl) dL_law_859 ⟨hcells, hslots⟩ ?_
  refine lv_iload hx hb dL_law_862 (lv_at hl 1 rfl) ?_
  refine lv_icmp_eq (x := nI kx) (y := nI kx) (tgt := 869) hx hb dL_law_864 (by decide) (fun _ => ?_) (fun h => absurd rfl h)
  refine lv_iload hx hb dL_law_869 (lv_at hl 1 rfl) ?_
  refine r_if_neN hx hb (x := kx) (by omega) (tgt := 886) dL_law_871 (by decide) (fun c0 => ?_) (fun c0 => ?_)
  · refine lv_goto (tgt := 1547) hx hb dL_law_886 (by decide) ?_
    exact hnx _ _ hP hD hS hT ls (lv_sub hl [2, 3, 4, 5, 6] rfl)
  · refine lv_aload_n hx hb dL_law_874 rfl (lv_at hl 5 rfl) ?_
    refine lv_iconst (v := nI 0) hx hb dL_law_875 (by decide) ?_
    refine r_out hx hb hK hP h10 dL_law_876 ?_
    refine lv_iload hx hb dL_law_877 (lv_at hl 0 rfl) ?_
    refine lv_i2l (v := v2.toInt64) hx hb dL_law_879 rfl ?_
    refine r_lcmpE (hcmp c0) hx hb (tgt := 886) (pc2 := 0) dL_law_880 dL_law_881 (by decide) ?_
    refine lv_goto (tgt := 1547) hx hb dL_law_886 (by decide) ?_
    exact hnx _ _ hP hD hS hT ls (lv_sub hl [2, 3, 4, 5, 6] rfl)
