/-! case 0: line -/
set_option maxHeartbeats 4000000 in
set_option maxRecDepth 100000 in
theorem lc_0 {p : Program} {l : Launch} {e : Env} {s : State} {m : MethodId} {below : List Frame} {meth : Method} {c : Code} {b L i : Nat} {xs : Nat → Int32} {D : va_G} {cT : Nat → ClassId} {a bm : Nat → Nat} {ls : Array Slot} {cells slots : Nat} (X : lwX p s m meth c b L xs D cT) (hi : i + 7 ≤ L) (hl : lv_has ls 4 [(0, .ref b), (1, .ref (a 0)), (2, .ref (bm 0)), (3, .int (nI i))]) (hf : cells + 29 ≤ 1200000 ∧ slots + 5935 ≤ 5502250) (kk : lwI p l e s m below meth c b D cT a bm ls (cells + 29) (slots + 5935) 907) : lwI p l e s m below meth c b D cT a bm ls cells slots 132 := by
  obtain ⟨⟨hx, hb, hr, hml, hown, hts0, hX, hbl, hlocks, hgv⟩, hL, hK, hN, hts⟩ := X
  have hA : ∀ q : Nat, s.heap.size ≤ q → (fun q : Nat => s.heap.size ≤ q) q := fun _ h => h
  have h0 := lv_at hl 0 rfl
  have h3 := lv_at hl 3 rfl
  intro MB N im ia IM H locs I hP hD hS
  obtain ⟨⟨q, hR⟩, hI⟩ := id I
  have hf0 : cells + 0 ≤ room_1.cells ∧ slots + 0 ≤ room_1.slots := ⟨show cells ≤ 1200000 by omega, show slots ≤ 5502250 by omega⟩
  obtain ⟨r, MB2, N2, q2, hc1, hc2, hR2, hkp⟩ := m_line hR (xs (i + 1)) (xs (i + 2)) (xs (i + 3)) (xs (i + 4))
  have w_13 : CallW room_1 s #[Value.ref b] RL RX8 13 yX8_line cX8_line 5 (some .boolean) wsX8_line ({ frames := 1, cells := 0, slots := 0, locals := 24 } : Room) 0 0 4 := cwV 4 hts gL_law_X8_line rfl rfl rfl (by decide +kernel) ⟨Nat.le_of_ble_eq_true rfl, Nat.le_of_ble_eq_true rfl⟩
  have w_17 : CallW room_1 s #[Value.ref b] RL RX9 17 yX9_line cX9_line 5 (some .boolean) wsX9_line ({ frames := 1, cells := 0, slots := 0, locals := 22 } : Room) 0 0 4 := cwV 4 hts gL_law_X9_line rfl rfl rfl (by decide +kernel) ⟨Nat.le_of_ble_eq_true rfl, Nat.le_of_ble_eq_true rfl⟩
  refine lv_aload_n hx hb dL_law_132 rfl (lv_at hl 1 rfl) ?_
  refine x_arg hx hb hX hbl hS h0 h3 1 rfl (by omega) hL dL_law_133 dL_law_134 dL_law_135 dL_law_136 dL_law_137 ?_
  refine x_arg hx hb hX hbl hS h0 h3 2 rfl (by omega) hL dL_law_138 dL_law_139 dL_law_140 dL_law_141 dL_law_142 ?_
  refine x_arg hx hb hX hbl hS h0 h3 3 rfl (by omega) hL dL_law_143 dL_law_144 dL_law_145 dL_law_146 dL_law_147 ?_
  refine x_arg hx hb hX hbl hS h0 h3 4 rfl (by omega) hL dL_law_148 dL_law_149 dL_law_150 dL_law_151 dL_law_152 ?_
  refine x_qVi (As := [.int (xs (i + 1)), .int (xs (i + 2)), .int (xs (i + 3)), .int (xs (i + 4))]) (rest := []) ⟨hx, hb, hml, hown, hts⟩ (c_X8_line l D cT a MB im (xs (i + 1)) (xs (i + 2)) (xs (i + 3)) (xs (i + 4)) H.size (fun z u => z = r ∧ u = MB2) (hc1 _ ⟨rfl, rfl⟩)) w_13 hK hP hD hS hA hN (List.Perm.refl (w_PB cT a MB im ++ (w_Model cT bm N ++ wI cT im ia IM))) 8 0 rfl rfl rfl hl.1 rfl (Nat.le_of_ble_eq_true rfl) dL_law_153 hf0 (fun r1 u1 H locs e1 hP hD hS => ?_)
  obtain ⟨rfl, rfl⟩ := e1
  refine lv_aload_n hx hb dL_law_156 rfl (lv_at hl 2 rfl) ?_
  refine x_arg hx hb hX hbl hS h0 h3 1 rfl (by omega) hL dL_law_157 dL_law_158 dL_law_159 dL_law_160 dL_law_161 ?_
  refine x_arg hx hb hX hbl hS h0 h3 2 rfl (by omega) hL dL_law_162 dL_law_163 dL_law_164 dL_law_165 dL_law_166 ?_
  refine x_arg hx hb hX hbl hS h0 h3 3 rfl (by omega) hL dL_law_167 dL_law_168 dL_law_169 dL_law_170 dL_law_171 ?_
  refine x_arg hx hb hX hbl hS h0 h3 4 rfl (by omega) hL dL_law_172 dL_law_173 dL_law_174 dL_law_175 dL_law_176 ?_
  refine x_qVi (As := [.int (xs (i + 1)), .int (xs (i + 2)), .int (xs (i + 3)), .int (xs (i + 4))]) (rest := [.int r1]) ⟨hx, hb, hml, hown, hts⟩ (c_X9_line l D cT bm N (xs (i + 1)) (xs (i + 2)) (xs (i + 3)) (xs (i + 4)) H.size (fun z u => z = r1 ∧ u = N2) (hc2 _ ⟨rfl, rfl⟩)) w_17 hK hP hD hS hA hN (pm_M (w_PB cT a u1 im) (w_Model cT bm N) (wI cT im ia IM)) 9 0 rfl rfl rfl hl.1 rfl (Nat.le_of_ble_eq_true rfl) dL_law_177 hf0 (fun r2 u2 H locs e2 hP hD hS => ?_)
  obtain ⟨rfl, rfl⟩ := e2
  have hP := x_P_perm (pm_M (w_PB cT a u1 im) (w_Model cT bm u2) (wI cT im ia IM)).symm hP
  have hD := x_D_perm (pm_M (w_PB cT a u1 im) (w_Model cT bm u2) (wI cT im ia IM)).symm hD
  refine lv_icmp_eq (tgt := 907) hx hb dL_law_180 (by decide) (fun _ => ?_) (fun h => absurd rfl h)
  refine W.widen (k := cells + 29) (n := slots + 5935) (by omega) (by omega) ?_
  exact kk u1 u2 im ia IM H locs ⟨⟨q2, hR2⟩, hI.keep hkp⟩ hP hD hS
/-! case 1: field -/
set_option maxHeartbeats 4000000 in
set_option maxRecDepth 100000 in
theorem lc_1 {p : Program} {l : Launch} {e : Env} {s : State} {m : MethodId} {below : List Frame} {meth : Method} {c : Code} {b L i : Nat} {xs : Nat → Int32} {D : va_G} {cT : Nat → ClassId} {a bm : Nat → Nat} {ls : Array Slot} {cells slots : Nat} (X : lwX p s m meth c b L xs D cT) (hi : i + 7 ≤ L) (hl : lv_has ls 4 [(0, .ref b), (1, .ref (a 0)), (2, .ref (bm 0)), (3, .int (nI i))]) (hf : cells + 29 ≤ 1200000 ∧ slots + 5935 ≤ 5502250) (kk : lwI p l e s m below meth c b D cT a bm ls (cells + 29) (slots + 5935) 907) : lwI p l e s m below meth c b D cT a bm ls cells slots 185 := by
  obtain ⟨⟨hx, hb, hr, hml, hown, hts0, hX, hbl, hlocks, hgv⟩, hL, hK, hN, hts⟩ := X
  have hA : ∀ q : Nat, s.heap.size ≤ q → (fun q : Nat => s.heap.size ≤ q) q := fun _ h => h
  have h0 := lv_at hl 0 rfl
  have h3 := lv_at hl 3 rfl
  intro MB N im ia IM H locs I hP hD hS
  obtain ⟨⟨q, hR⟩, hI⟩ := id I
  have hf0 : cells + 0 ≤ room_1.cells ∧ slots + 0 ≤ room_1.slots := ⟨show cells ≤ 1200000 by omega, show slots ≤ 5502250 by omega⟩
  obtain ⟨r, MB2, N2, q2, hc1, hc2, hR2, hkp⟩ := m_field hR (xs (i + 1)) (xs (i + 2)) (xs (i + 3)) (xs (i + 4)) (nz (xs (i + 5))) (nz_b _)
  have w_18 : CallW room_1 s #[Value.ref b] RL RX8 18 yX8_field cX8_field 6 (some .boolean) wsX8_field ({ frames := 1, cells := 0, slots := 0, locals := 24 } : Room) 0 0 5 := cwV 5 hts gL_law_X8_field rfl rfl rfl (by decide +kernel) ⟨Nat.le_of_ble_eq_true rfl, Nat.le_of_ble_eq_true rfl⟩
  have w_22 : CallW room_1 s #[Value.ref b] RL RX9 22 yX9_field cX9_field 6 (some .boolean) wsX9_field ({ frames := 1, cells := 0, slots := 0, locals := 22 } : Room) 0 0 5 := cwV 5 hts gL_law_X9_field rfl rfl rfl (by decide +kernel) ⟨Nat.le_of_ble_eq_true rfl, Nat.le_of_ble_eq_true rfl⟩
  refine lv_aload_n hx hb dL_law_185 rfl (lv_at hl 1 rfl) ?_
  refine x_arg hx hb hX hbl hS h0 h3 1 rfl (by omega) hL dL_law_186 dL_law_187 dL_law_188 dL_law_189 dL_law_190 ?_
  refine x_arg hx hb hX hbl hS h0 h3 2 rfl (by omega) hL dL_law_191 dL_law_192 dL_law_193 dL_law_194 dL_law_195 ?_
  refine x_arg hx hb hX hbl hS h0 h3 3 rfl (by omega) hL dL_law_196 dL_law_197 dL_law_198 dL_law_199 dL_law_200 ?_
  refine x_arg hx hb hX hbl hS h0 h3 4 rfl (by omega) hL dL_law_201 dL_law_202 dL_law_203 dL_law_204 dL_law_205 ?_
  refine x_arg hx hb hX hbl hS h0 h3 5 rfl (by omega) hL dL_law_206 dL_law_207 dL_law_208 dL_law_209 dL_law_210 ?_
  refine x_nzr hx hb dL_law_211 dL_law_214 dL_law_215 dL_law_218 ?_
  refine x_qVi (As := [.int (xs (i + 1)), .int (xs (i + 2)), .int (xs (i + 3)), .int (xs (i + 4)), .int (nz (xs (i + 5)))]) (rest := []) ⟨hx, hb, hml, hown, hts⟩ (c_X8_field l D cT a MB im (xs (i + 1)) (xs (i + 2)) (xs (i + 3)) (xs (i + 4)) (nz (xs (i + 5))) H.size (fun z u => z = r ∧ u = MB2) (hc1 _ ⟨rfl, rfl⟩)) w_18 hK hP hD hS hA hN (List.Perm.refl (w_PB cT a MB im ++ (w_Model cT bm N ++ wI cT im ia IM))) 8 0 rfl rfl rfl hl.1 rfl (Nat.le_of_ble_eq_true rfl) dL_law_219 hf0 (fun r1 u1 H locs e1 hP hD hS => ?_)
  obtain ⟨rfl, rfl⟩ := e1
  refine lv_aload_n hx hb dL_law_222 rfl (lv_at hl 2 rfl) ?_
  refine x_arg hx hb hX hbl hS h0 h3 1 rfl (by omega) hL dL_law_223 dL_law_224 dL_law_225 dL_law_226 dL_law_227 ?_
  refine x_arg hx hb hX hbl hS h0 h3 2 rfl (by omega) hL dL_law_228 dL_law_229 dL_law_230 dL_law_231 dL_law_232 ?_
  refine x_arg hx hb hX hbl hS h0 h3 3 rfl (by omega) hL dL_law_233 dL_law_234 dL_law_235 dL_law_236 dL_law_237 ?_
  refine x_arg hx hb hX hbl hS h0 h3 4 rfl (by omega) hL dL_law_238 dL_law_239 dL_law_240 dL_law_241 dL_law_242 ?_
  refine x_arg hx hb hX hbl hS h0 h3 5 rfl (by omega) hL dL_law_243 dL_law_244 dL_law_245 dL_law_246 dL_law_247 ?_
  refine x_nzr hx hb dL_law_248 dL_law_251 dL_law_252 dL_law_255 ?_
  refine x_qVi (As := [.int (xs (i + 1)), .int (xs (i + 2)), .int (xs (i + 3)), .int (xs (i + 4)), .int (nz (xs (i + 5)))]) (rest := [.int r1]) ⟨hx, hb, hml, hown, hts⟩ (c_X9_field l D cT bm N (xs (i + 1)) (xs (i + 2)) (xs (i + 3)) (xs (i + 4)) (nz (xs (i + 5))) H.size (fun z u => z = r1 ∧ u = N2) (hc2 _ ⟨rfl, rfl⟩)) w_22 hK hP hD hS hA hN (pm_M (w_PB cT a u1 im) (w_Model cT bm N) (wI cT im ia IM)) 9 0 rfl rfl rfl hl.1 rfl (Nat.le_of_ble_eq_true rfl) dL_law_256 hf0 (fun r2 u2 H locs e2 hP hD hS => ?_)
  obtain ⟨rfl, rfl⟩ := e2
  have hP := x_P_perm (pm_M (w_PB cT a u1 im) (w_Model cT bm u2) (wI cT im ia IM)).symm hP
  have hD := x_D_perm (pm_M (w_PB cT a u1 im) (w_Model cT bm u2) (wI cT im ia IM)).symm hD
  refine lv_icmp_eq (tgt := 907) hx hb dL_law_259 (by decide) (fun _ => ?_) (fun h => absurd rfl h)
  refine W.widen (k := cells + 29) (n := slots + 5935) (by omega) (by omega) ?_
  exact kk u1 u2 im ia IM H locs ⟨⟨q2, hR2⟩, hI.keep hkp⟩ hP hD hS
/-! case 2: put -/
set_option maxHeartbeats 4000000 in
set_option maxRecDepth 100000 in
theorem lc_2 {p : Program} {l : Launch} {e : Env} {s : State} {m : MethodId} {below : List Frame} {meth : Method} {c : Code} {b L i : Nat} {xs : Nat → Int32} {D : va_G} {cT : Nat → ClassId} {a bm : Nat → Nat} {ls : Array Slot} {cells slots : Nat} (X : lwX p s m meth c b L xs D cT) (hi : i + 7 ≤ L) (hl : lv_has ls 4 [(0, .ref b), (1, .ref (a 0)), (2, .ref (bm 0)), (3, .int (nI i))]) (hf : cells + 29 ≤ 1200000 ∧ slots + 5935 ≤ 5502250) (kk : lwI p l e s m below meth c b D cT a bm ls (cells + 29) (slots + 5935) 907) : lwI p l e s m below meth c b D cT a bm ls cells slots 264 := by
  obtain ⟨⟨hx, hb, hr, hml, hown, hts0, hX, hbl, hlocks, hgv⟩, hL, hK, hN, hts⟩ := X
  have hA : ∀ q : Nat, s.heap.size ≤ q → (fun q : Nat => s.heap.size ≤ q) q := fun _ h => h
  have h0 := lv_at hl 0 rfl
  have h3 := lv_at hl 3 rfl
  intro MB N im ia IM H locs I hP hD hS
  obtain ⟨⟨q, hR⟩, hI⟩ := id I
  have hf0 : cells + 0 ≤ room_1.cells ∧ slots + 0 ≤ room_1.slots := ⟨show cells ≤ 1200000 by omega, show slots ≤ 5502250 by omega⟩
  obtain ⟨r, MB2, N2, q2, hc1, hc2, hR2, hkp⟩ := m_put hR (xs (i + 1)) (xs (i + 2))
  have w_23 : CallW room_1 s #[Value.ref b] RL RX8 23 yX8_put cX8_put 3 (some .boolean) wsX8_put ({ frames := 1, cells := 0, slots := 0, locals := 22 } : Room) 0 0 2 := cwV 2 hts gL_law_X8_put rfl rfl rfl (by decide +kernel) ⟨Nat.le_of_ble_eq_true rfl, Nat.le_of_ble_eq_true rfl⟩
  have w_27 : CallW room_1 s #[Value.ref b] RL RX9 27 yX9_put cX9_put 3 (some .boolean) wsX9_put ({ frames := 1, cells := 0, slots := 0, locals := 22 } : Room) 0 0 2 := cwV 2 hts gL_law_X9_put rfl rfl rfl (by decide +kernel) ⟨Nat.le_of_ble_eq_true rfl, Nat.le_of_ble_eq_true rfl⟩
  refine lv_aload_n hx hb dL_law_264 rfl (lv_at hl 1 rfl) ?_
  refine x_arg hx hb hX hbl hS h0 h3 1 rfl (by omega) hL dL_law_265 dL_law_266 dL_law_267 dL_law_268 dL_law_269 ?_
  refine x_arg hx hb hX hbl hS h0 h3 2 rfl (by omega) hL dL_law_270 dL_law_271 dL_law_272 dL_law_273 dL_law_274 ?_
  refine x_qVi (As := [.int (xs (i + 1)), .int (xs (i + 2))]) (rest := []) ⟨hx, hb, hml, hown, hts⟩ (c_X8_put l D cT a MB im (xs (i + 1)) (xs (i + 2)) H.size (fun z u => z = r ∧ u = MB2) (hc1 _ ⟨rfl, rfl⟩)) w_23 hK hP hD hS hA hN (List.Perm.refl (w_PB cT a MB im ++ (w_Model cT bm N ++ wI cT im ia IM))) 8 0 rfl rfl rfl hl.1 rfl (Nat.le_of_ble_eq_true rfl) dL_law_275 hf0 (fun r1 u1 H locs e1 hP hD hS => ?_)
  obtain ⟨rfl, rfl⟩ := e1
  refine lv_aload_n hx hb dL_law_278 rfl (lv_at hl 2 rfl) ?_
  refine x_arg hx hb hX hbl hS h0 h3 1 rfl (by omega) hL dL_law_279 dL_law_280 dL_law_281 dL_law_282 dL_law_283 ?_
  refine x_arg hx hb hX hbl hS h0 h3 2 rfl (by omega) hL dL_law_284 dL_law_285 dL_law_286 dL_law_287 dL_law_288 ?_
  refine x_qVi (As := [.int (xs (i + 1)), .int (xs (i + 2))]) (rest := [.int r1]) ⟨hx, hb, hml, hown, hts⟩ (c_X9_put l D cT bm N (xs (i + 1)) (xs (i + 2)) H.size (fun z u => z = r1 ∧ u = N2) (hc2 _ ⟨rfl, rfl⟩)) w_27 hK hP hD hS hA hN (pm_M (w_PB cT a u1 im) (w_Model cT bm N) (wI cT im ia IM)) 9 0 rfl rfl rfl hl.1 rfl (Nat.le_of_ble_eq_true rfl) dL_law_289 hf0 (fun r2 u2 H locs e2 hP hD hS => ?_)
  obtain ⟨rfl, rfl⟩ := e2
  have hP := x_P_perm (pm_M (w_PB cT a u1 im) (w_Model cT bm u2) (wI cT im ia IM)).symm hP
  have hD := x_D_perm (pm_M (w_PB cT a u1 im) (w_Model cT bm u2) (wI cT im ia IM)).symm hD
  refine lv_icmp_eq (tgt := 907) hx hb dL_law_292 (by decide) (fun _ => ?_) (fun h => absurd rfl h)
  refine W.widen (k := cells + 29) (n := slots + 5935) (by omega) (by omega) ?_
  exact kk u1 u2 im ia IM H locs ⟨⟨q2, hR2⟩, hI.keep hkp⟩ hP hD hS
/-! case 3: four -/
set_option maxHeartbeats 4000000 in
set_option maxRecDepth 100000 in
theorem lc_3 {p : Program} {l : Launch} {e : Env} {s : State} {m : MethodId} {below : List Frame} {meth : Method} {c : Code} {b L i : Nat} {xs : Nat → Int32} {D : va_G} {cT : Nat → ClassId} {a bm : Nat → Nat} {ls : Array Slot} {cells slots : Nat} (X : lwX p s m meth c b L xs D cT) (hi : i + 7 ≤ L) (hl : lv_has ls 4 [(0, .ref b), (1, .ref (a 0)), (2, .ref (bm 0)), (3, .int (nI i))]) (hf : cells + 29 ≤ 1200000 ∧ slots + 5935 ≤ 5502250) (kk : lwI p l e s m below meth c b D cT a bm ls (cells + 29) (slots + 5935) 907) : lwI p l e s m below meth c b D cT a bm ls cells slots 297 := by
  obtain ⟨⟨hx, hb, hr, hml, hown, hts0, hX, hbl, hlocks, hgv⟩, hL, hK, hN, hts⟩ := X
  have hA : ∀ q : Nat, s.heap.size ≤ q → (fun q : Nat => s.heap.size ≤ q) q := fun _ h => h
  have h0 := lv_at hl 0 rfl
  have h3 := lv_at hl 3 rfl
  intro MB N im ia IM H locs I hP hD hS
  obtain ⟨⟨q, hR⟩, hI⟩ := id I
  have hf0 : cells + 0 ≤ room_1.cells ∧ slots + 0 ≤ room_1.slots := ⟨show cells ≤ 1200000 by omega, show slots ≤ 5502250 by omega⟩
  obtain ⟨r, MB2, N2, q2, hc1, hc2, hR2, hkp⟩ := m_four hR (xs (i + 1)) (xs (i + 2))
  have w_28 : CallW room_1 s #[Value.ref b] RL RX8 28 yX8_four cX8_four 4 (some .boolean) wsX8_four ({ frames := 1, cells := 0, slots := 0, locals := 22 } : Room) 0 0 2 := cwV 2 hts gL_law_X8_four rfl rfl rfl (by decide +kernel) ⟨Nat.le_of_ble_eq_true rfl, Nat.le_of_ble_eq_true rfl⟩
  have w_31 : CallW room_1 s #[Value.ref b] RL RX9 31 yX9_four cX9_four 4 (some .boolean) wsX9_four ({ frames := 1, cells := 0, slots := 0, locals := 22 } : Room) 0 0 2 := cwV 2 hts gL_law_X9_four rfl rfl rfl (by decide +kernel) ⟨Nat.le_of_ble_eq_true rfl, Nat.le_of_ble_eq_true rfl⟩
  refine lv_aload_n hx hb dL_law_297 rfl (lv_at hl 1 rfl) ?_
  refine x_arg hx hb hX hbl hS h0 h3 1 rfl (by omega) hL dL_law_298 dL_law_299 dL_law_300 dL_law_301 dL_law_302 ?_
  refine x_arg hx hb hX hbl hS h0 h3 2 rfl (by omega) hL dL_law_303 dL_law_304 dL_law_305 dL_law_306 dL_law_307 ?_
  refine x_qVi (As := [.int (xs (i + 1)), .int (xs (i + 2))]) (rest := []) ⟨hx, hb, hml, hown, hts⟩ (c_X8_four l D cT a MB im (xs (i + 1)) (xs (i + 2)) H.size (fun z u => z = r ∧ u = MB2) (hc1 _ ⟨rfl, rfl⟩)) w_28 hK hP hD hS hA hN (List.Perm.refl (w_PB cT a MB im ++ (w_Model cT bm N ++ wI cT im ia IM))) 8 0 rfl rfl rfl hl.1 rfl (Nat.le_of_ble_eq_true rfl) dL_law_308 hf0 (fun r1 u1 H locs e1 hP hD hS => ?_)
  obtain ⟨rfl, rfl⟩ := e1
  refine lv_aload_n hx hb dL_law_311 rfl (lv_at hl 2 rfl) ?_
  refine x_arg hx hb hX hbl hS h0 h3 1 rfl (by omega) hL dL_law_312 dL_law_313 dL_law_314 dL_law_315 dL_law_316 ?_
  refine x_arg hx hb hX hbl hS h0 h3 2 rfl (by omega) hL dL_law_317 dL_law_318 dL_law_319 dL_law_320 dL_law_321 ?_
  refine x_qVi (As := [.int (xs (i + 1)), .int (xs (i + 2))]) (rest := [.int r1]) ⟨hx, hb, hml, hown, hts⟩ (c_X9_four l D cT bm N (xs (i + 1)) (xs (i + 2)) H.size (fun z u => z = r1 ∧ u = N2) (hc2 _ ⟨rfl, rfl⟩)) w_31 hK hP hD hS hA hN (pm_M (w_PB cT a u1 im) (w_Model cT bm N) (wI cT im ia IM)) 9 0 rfl rfl rfl hl.1 rfl (Nat.le_of_ble_eq_true rfl) dL_law_322 hf0 (fun r2 u2 H locs e2 hP hD hS => ?_)
  obtain ⟨rfl, rfl⟩ := e2
  have hP := x_P_perm (pm_M (w_PB cT a u1 im) (w_Model cT bm u2) (wI cT im ia IM)).symm hP
  have hD := x_D_perm (pm_M (w_PB cT a u1 im) (w_Model cT bm u2) (wI cT im ia IM)).symm hD
  refine lv_icmp_eq (tgt := 907) hx hb dL_law_325 (by decide) (fun _ => ?_) (fun h => absurd rfl h)
  refine W.widen (k := cells + 29) (n := slots + 5935) (by omega) (by omega) ?_
  exact kk u1 u2 im ia IM H locs ⟨⟨q2, hR2⟩, hI.keep hkp⟩ hP hD hS
/-! case 4: register -/
set_option maxHeartbeats 4000000 in
set_option maxRecDepth 100000 in
theorem lc_4 {p : Program} {l : Launch} {e : Env} {s : State} {m : MethodId} {below : List Frame} {meth : Method} {c : Code} {b L i : Nat} {xs : Nat → Int32} {D : va_G} {cT : Nat → ClassId} {a bm : Nat → Nat} {ls : Array Slot} {cells slots : Nat} (X : lwX p s m meth c b L xs D cT) (hi : i + 7 ≤ L) (hl : lv_has ls 4 [(0, .ref b), (1, .ref (a 0)), (2, .ref (bm 0)), (3, .int (nI i))]) (hf : cells + 29 ≤ 1200000 ∧ slots + 5935 ≤ 5502250) (kk : lwI p l e s m below meth c b D cT a bm ls (cells + 29) (slots + 5935) 907) : lwI p l e s m below meth c b D cT a bm ls cells slots 330 := by
  obtain ⟨⟨hx, hb, hr, hml, hown, hts0, hX, hbl, hlocks, hgv⟩, hL, hK, hN, hts⟩ := X
  have hA : ∀ q : Nat, s.heap.size ≤ q → (fun q : Nat => s.heap.size ≤ q) q := fun _ h => h
  have h0 := lv_at hl 0 rfl
  have h3 := lv_at hl 3 rfl
  intro MB N im ia IM H locs I hP hD hS
  obtain ⟨⟨q, hR⟩, hI⟩ := id I
  have hf0 : cells + 0 ≤ room_1.cells ∧ slots + 0 ≤ room_1.slots := ⟨show cells ≤ 1200000 by omega, show slots ≤ 5502250 by omega⟩
  obtain ⟨r, MB2, N2, q2, hc1, hc2, hR2, hkp⟩ := m_register hR (xs (i + 1)) (xs (i + 2))
  have w_32 : CallW room_1 s #[Value.ref b] RL RX8 32 yX8_register cX8_register 3 (some .boolean) wsX8_register ({ frames := 3, cells := 0, slots := 0, locals := 65 } : Room) 0 0 2 := cwV 2 hts gL_law_X8_register rfl rfl rfl (by decide +kernel) ⟨Nat.le_of_ble_eq_true rfl, Nat.le_of_ble_eq_true rfl⟩
  have w_35 : CallW room_1 s #[Value.ref b] RL RX9 35 yX9_register cX9_register 3 (some .boolean) wsX9_register ({ frames := 2, cells := 0, slots := 0, locals := 43 } : Room) 0 0 2 := cwV 2 hts gL_law_X9_register rfl rfl rfl (by decide +kernel) ⟨Nat.le_of_ble_eq_true rfl, Nat.le_of_ble_eq_true rfl⟩
  refine lv_aload_n hx hb dL_law_330 rfl (lv_at hl 1 rfl) ?_
  refine x_arg hx hb hX hbl hS h0 h3 1 rfl (by omega) hL dL_law_331 dL_law_332 dL_law_333 dL_law_334 dL_law_335 ?_
  refine x_arg hx hb hX hbl hS h0 h3 2 rfl (by omega) hL dL_law_336 dL_law_337 dL_law_338 dL_law_339 dL_law_340 ?_
  refine x_qVi (As := [.int (xs (i + 1)), .int (xs (i + 2))]) (rest := []) ⟨hx, hb, hml, hown, hts⟩ (c_X8_register l D cT a MB im (xs (i + 1)) (xs (i + 2)) H.size (fun z u => z = r ∧ u = MB2) (hc1 _ ⟨rfl, rfl⟩)) w_32 hK hP hD hS hA hN (List.Perm.refl (w_PB cT a MB im ++ (w_Model cT bm N ++ wI cT im ia IM))) 8 0 rfl rfl rfl hl.1 rfl (Nat.le_of_ble_eq_true rfl) dL_law_341 hf0 (fun r1 u1 H locs e1 hP hD hS => ?_)
  obtain ⟨rfl, rfl⟩ := e1
  refine lv_aload_n hx hb dL_law_344 rfl (lv_at hl 2 rfl) ?_
  refine x_arg hx hb hX hbl hS h0 h3 1 rfl (by omega) hL dL_law_345 dL_law_346 dL_law_347 dL_law_348 dL_law_349 ?_
  refine x_arg hx hb hX hbl hS h0 h3 2 rfl (by omega) hL dL_law_350 dL_law_351 dL_law_352 dL_law_353 dL_law_354 ?_
  refine x_qVi (As := [.int (xs (i + 1)), .int (xs (i + 2))]) (rest := [.int r1]) ⟨hx, hb, hml, hown, hts⟩ (c_X9_register l D cT bm N (xs (i + 1)) (xs (i + 2)) H.size (fun z u => z = r1 ∧ u = N2) (hc2 _ ⟨rfl, rfl⟩)) w_35 hK hP hD hS hA hN (pm_M (w_PB cT a u1 im) (w_Model cT bm N) (wI cT im ia IM)) 9 0 rfl rfl rfl hl.1 rfl (Nat.le_of_ble_eq_true rfl) dL_law_355 hf0 (fun r2 u2 H locs e2 hP hD hS => ?_)
  obtain ⟨rfl, rfl⟩ := e2
  have hP := x_P_perm (pm_M (w_PB cT a u1 im) (w_Model cT bm u2) (wI cT im ia IM)).symm hP
  have hD := x_D_perm (pm_M (w_PB cT a u1 im) (w_Model cT bm u2) (wI cT im ia IM)).symm hD
  refine lv_icmp_eq (tgt := 907) hx hb dL_law_358 (by decide) (fun _ => ?_) (fun h => absurd rfl h)
  refine W.widen (k := cells + 29) (n := slots + 5935) (by omega) (by omega) ?_
  exact kk u1 u2 im ia IM H locs ⟨⟨q2, hR2⟩, hI.keep hkp⟩ hP hD hS
/-! case 5: entry -/
set_option maxHeartbeats 4000000 in
set_option maxRecDepth 100000 in
theorem lc_5 {p : Program} {l : Launch} {e : Env} {s : State} {m : MethodId} {below : List Frame} {meth : Method} {c : Code} {b L i : Nat} {xs : Nat → Int32} {D : va_G} {cT : Nat → ClassId} {a bm : Nat → Nat} {ls : Array Slot} {cells slots : Nat} (X : lwX p s m meth c b L xs D cT) (hi : i + 7 ≤ L) (hl : lv_has ls 4 [(0, .ref b), (1, .ref (a 0)), (2, .ref (bm 0)), (3, .int (nI i))]) (hf : cells + 29 ≤ 1200000 ∧ slots + 5935 ≤ 5502250) (kk : lwI p l e s m below meth c b D cT a bm ls (cells + 29) (slots + 5935) 907) : lwI p l e s m below meth c b D cT a bm ls cells slots 363 := by
  obtain ⟨⟨hx, hb, hr, hml, hown, hts0, hX, hbl, hlocks, hgv⟩, hL, hK, hN, hts⟩ := X
  have hA : ∀ q : Nat, s.heap.size ≤ q → (fun q : Nat => s.heap.size ≤ q) q := fun _ h => h
  have h0 := lv_at hl 0 rfl
  have h3 := lv_at hl 3 rfl
  intro MB N im ia IM H locs I hP hD hS
  obtain ⟨⟨q, hR⟩, hI⟩ := id I
  have hf0 : cells + 0 ≤ room_1.cells ∧ slots + 0 ≤ room_1.slots := ⟨show cells ≤ 1200000 by omega, show slots ≤ 5502250 by omega⟩
  obtain ⟨r, MB2, N2, q2, hc1, hc2, hR2, hkp⟩ := m_entry hR (xs (i + 1)) (xs (i + 2)) (xs (i + 3)) (xs (i + 4))
  have w_36 : CallW room_1 s #[Value.ref b] RL RX8 36 yX8_entry cX8_entry 5 (some .int) wsX8_entry ({ frames := 2, cells := 0, slots := 0, locals := 43 } : Room) 0 0 4 := cwV 4 hts gL_law_X8_entry rfl rfl rfl (by decide +kernel) ⟨Nat.le_of_ble_eq_true rfl, Nat.le_of_ble_eq_true rfl⟩
  have w_40 : CallW room_1 s #[Value.ref b] RL RX9 40 yX9_entry cX9_entry 6 (some .int) wsX9_entry ({ frames := 2, cells := 0, slots := 0, locals := 43 } : Room) 0 0 4 := cwV 4 hts gL_law_X9_entry rfl rfl rfl (by decide +kernel) ⟨Nat.le_of_ble_eq_true rfl, Nat.le_of_ble_eq_true rfl⟩
  refine lv_aload_n hx hb dL_law_363 rfl (lv_at hl 1 rfl) ?_
  refine x_arg hx hb hX hbl hS h0 h3 1 rfl (by omega) hL dL_law_364 dL_law_365 dL_law_366 dL_law_367 dL_law_368 ?_
  refine x_arg hx hb hX hbl hS h0 h3 2 rfl (by omega) hL dL_law_369 dL_law_370 dL_law_371 dL_law_372 dL_law_373 ?_
  refine x_arg hx hb hX hbl hS h0 h3 3 rfl (by omega) hL dL_law_374 dL_law_375 dL_law_376 dL_law_377 dL_law_378 ?_
  refine x_arg hx hb hX hbl hS h0 h3 4 rfl (by omega) hL dL_law_379 dL_law_380 dL_law_381 dL_law_382 dL_law_383 ?_
  refine x_qVi (As := [.int (xs (i + 1)), .int (xs (i + 2)), .int (xs (i + 3)), .int (xs (i + 4))]) (rest := []) ⟨hx, hb, hml, hown, hts⟩ (c_X8_entry l D cT a MB im (xs (i + 1)) (xs (i + 2)) (xs (i + 3)) (xs (i + 4)) H.size (fun z u => z = r ∧ u = MB2) (hc1 _ ⟨rfl, rfl⟩)) w_36 hK hP hD hS hA hN (List.Perm.refl (w_PB cT a MB im ++ (w_Model cT bm N ++ wI cT im ia IM))) 8 0 rfl rfl rfl hl.1 rfl (Nat.le_of_ble_eq_true rfl) dL_law_384 hf0 (fun r1 u1 H locs e1 hP hD hS => ?_)
  obtain ⟨rfl, rfl⟩ := e1
  refine lv_aload_n hx hb dL_law_387 rfl (lv_at hl 2 rfl) ?_
  refine x_arg hx hb hX hbl hS h0 h3 1 rfl (by omega) hL dL_law_388 dL_law_389 dL_law_390 dL_law_391 dL_law_392 ?_
  refine x_arg hx hb hX hbl hS h0 h3 2 rfl (by omega) hL dL_law_393 dL_law_394 dL_law_395 dL_law_396 dL_law_397 ?_
  refine x_arg hx hb hX hbl hS h0 h3 3 rfl (by omega) hL dL_law_398 dL_law_399 dL_law_400 dL_law_401 dL_law_402 ?_
  refine x_arg hx hb hX hbl hS h0 h3 4 rfl (by omega) hL dL_law_403 dL_law_404 dL_law_405 dL_law_406 dL_law_407 ?_
  refine x_qVi (As := [.int (xs (i + 1)), .int (xs (i + 2)), .int (xs (i + 3)), .int (xs (i + 4))]) (rest := [.int r1]) ⟨hx, hb, hml, hown, hts⟩ (c_X9_entry l D cT bm N (xs (i + 1)) (xs (i + 2)) (xs (i + 3)) (xs (i + 4)) H.size (fun z u => z = r1 ∧ u = N2) (hc2 _ ⟨rfl, rfl⟩)) w_40 hK hP hD hS hA hN (pm_M (w_PB cT a u1 im) (w_Model cT bm N) (wI cT im ia IM)) 9 0 rfl rfl rfl hl.1 rfl (Nat.le_of_ble_eq_true rfl) dL_law_408 hf0 (fun r2 u2 H locs e2 hP hD hS => ?_)
  obtain ⟨rfl, rfl⟩ := e2
  have hP := x_P_perm (pm_M (w_PB cT a u1 im) (w_Model cT bm u2) (wI cT im ia IM)).symm hP
  have hD := x_D_perm (pm_M (w_PB cT a u1 im) (w_Model cT bm u2) (wI cT im ia IM)).symm hD
  refine lv_icmp_eq (tgt := 907) hx hb dL_law_411 (by decide) (fun _ => ?_) (fun h => absurd rfl h)
  refine W.widen (k := cells + 29) (n := slots + 5935) (by omega) (by omega) ?_
  exact kk u1 u2 im ia IM H locs ⟨⟨q2, hR2⟩, hI.keep hkp⟩ hP hD hS
