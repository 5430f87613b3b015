/-! ===== image and again ===== -/
theorem x_pb0 (cT : Nat → ClassId) (a : Nat → Nat) (M : ST) (im : Nat → Option Nat) : w_PB cT a M im = (w_PB cT a M im).take 2 ++ w_Machine cT (x_sh a 2) (x_sh M 2) := rfl
theorem x_pb1 (cT : Nat → ClassId) (a : Nat → Nat) (M u : ST) (im : Nat → Option Nat) : w_PB cT a (x_wb M 2 29 u) im = (w_PB cT a M im).take 2 ++ w_Machine cT (x_sh a 2) u := rfl
theorem x_pmI {w1 p c c2 : va_W} (e : w1 = p ++ c) : (w1 ++ c2).Perm ((c2 ++ c) ++ p) := by
  subst e
  refine List.perm_append_comm.trans ?_
  rw [List.append_assoc]
  exact List.Perm.append_left _ List.perm_append_comm
theorem x_pmA {w1 p c c2 : va_W} (e : w1 = p ++ c) : (w1 ++ c2).Perm ((c ++ c2) ++ p) := by
  subst e
  rw [List.append_assoc]
  exact List.perm_append_comm
section XAO
variable {p : Program} {l : Launch} {e : Env} {R : Room} {s : State} {m : MethodId} {args : Array Value} {below : List Frame} {meth : Method} {c : Code} {H : Heap} {locs : List Loc} {cells slots : Nat} {Q : State → Prop}
variable {cc : ByteArray} {pc : Nat} {ls : Array Slot} {rest : List Value} {D : va_G} {cl : List vw_C} {A : Nat → Prop} {a : Nat} {tys : List (ClassId × FieldType)} {ws : va_W} {H0 : Heap}
theorem x_aldS (hexec : p.tables.exec = Jvm.exec) (hb : c.code = cc) (hK : va_K D cl tys s) (hP : va_P D cl ws H) (q0 t0 : Nat) {cA : ClassId} {C : String} {n : Nat} {f : Nat → Option Nat} (ha : ws[q0]? = some (a, .inl (cA, n, .inr (.inr (.inr (.inr f)))))) (ht : tys[t0]? = some (cA, .object C)) {k q : Nat} (hk : k < n) (hn : n < 2 ^ 31) (hf : f k = some q) (hdg : decode cc pc = .ok (.aaload, 1))
    (kk : W p l e R s m args below meth c H locs cells slots Q (F0 m (pc + 1) ls (.ref q :: rest))) : W p l e R s m args below meth c H locs cells slots Q (F0 m pc ls (.int (nI k) :: .ref a :: rest)) := by
  refine va_aldq hexec hb hK hP q0 t0 ha ht (vp_in_nI hk hn) hdg ?_
  rw [nI_clamp (by omega), hf]
  exact kk
theorem x_aldN (hexec : p.tables.exec = Jvm.exec) (hb : c.code = cc) (hK : va_K D cl tys s) (hP : va_P D cl ws H) (q0 t0 : Nat) {cA : ClassId} {C : String} {n : Nat} {f : Nat → Option Nat} (ha : ws[q0]? = some (a, .inl (cA, n, .inr (.inr (.inr (.inr f)))))) (ht : tys[t0]? = some (cA, .object C)) {k : Nat} (hk : k < n) (hn : n < 2 ^ 31) (hf : f k = none) (hdg : decode cc pc = .ok (.aaload, 1))
    (kk : W p l e R s m args below meth c H locs cells slots Q (F0 m (pc + 1) ls (.null :: rest))) : W p l e R s m args below meth c H locs cells slots Q (F0 m pc ls (.int (nI k) :: .ref a :: rest)) := by
  refine va_aldq hexec hb hK hP q0 t0 ha ht (vp_in_nI hk hn) hdg ?_
  rw [nI_clamp (by omega), hf]
  exact kk
theorem x_astS (hexec : p.tables.exec = Jvm.exec) (hb : c.code = cc) (hK : va_K D cl tys s) (hP : va_P D cl ws H) (hD : va_D A ws) (hS : va_S A H0 H locs) (q0 t0 qk ci : Nat) {cA : ClassId} {r : vw_C} {n v : Nat} {vs : List Value} {f : Nat → Option Nat} (ha : ws[q0]? = some (a, .inl (cA, n, .inr (.inr (.inr (.inr f)))))) (ht : tys[t0]? = some (cA, .object r.1)) (hv : ws[qk]? = some (v, .inr (ci, vs))) (hc : cl[ci]? = some r) {k : Nat} (hk : k < n) (hn : n < 2 ^ 31) (hdg : decode cc pc = .ok (.aastore, 1))
    (kk : ∀ (H1 : Heap) (locs1 : List Loc), va_P D cl (ws.set q0 (a, .inl (cA, n, .inr (.inr (.inr (.inr (va_up f k (some v)))))))) H1 → va_D A (ws.set q0 (a, .inl (cA, n, .inr (.inr (.inr (.inr (va_up f k (some v)))))))) → va_S A H0 H1 locs1 → W p l e R s m args below meth c H1 locs1 cells slots Q (F0 m (pc + 1) ls rest)) : W p l e R s m args below meth c H locs cells slots Q (F0 m pc ls (.ref v :: .int (nI k) :: .ref a :: rest)) := by
  refine va_astq hexec hb hK hP hD hS q0 t0 qk ci ha ht hv hc (vp_in_nI hk hn) hdg ?_
  rw [nI_clamp (by omega)]
  exact kk
end XAO
set_option maxHeartbeats 4000000 in
set_option maxRecDepth 100000 in
theorem c_X8_image_no (l : Launch) (D : va_G) (cT : Nat → ClassId) (a : Nat → Nat) (M : ST) (im : Nat → Option Nat) (p1 : Int32) (h : wi p1 0 2 = 0) : Met l yX8_image wsX8_image ({ frames := 1, cells := 0, slots := 0, locals := 22 }) (va_Pc [.ref (a 0), .int p1] (x_R D cT (w_PB cT a M im))) (vp_Si (fun r => r = 0)) 0 0 (fun _ => False) := by
  refine Met.ofW (cc := cX8_image) (maxL := 2) (ret := (some .boolean)) (by decide) rfl ?_
  intro p e s m args below meth c s₁ B hml hpre
  obtain ⟨rfl, hP, hK, hN⟩ := hpre
  have hx := B.exec
  have hb := B.bytes
  have hr := B.returns
  have hts := atoms_spec (ws := wsX8_image) B.pre
  have hown : s.vm.findClass RX8 = some m.cls := findClass_of_methodNamed B.named
  have hlocks := B.notSynchronized
  have hS : va_S (fun _ : Nat => False) s.heap s.heap [] := va_S.rf
  have hl := lv_entry ([.ref (a 0), .int p1]) (n := 2) (Nat.le_of_ble_eq_true rfl)
  rw [lg_entry_eq]
  generalize (lg_sl ([.ref (a 0), .int p1]) ++ List.replicate (2 - (lg_sl ([.ref (a 0), .int p1])).length) Slot.unset).toArray = ls at hl ⊢
  have hl : lv_has ls 2 [(0, .ref (a 0)), (1, .int (p1))] := hl
  have in_X8 : ∀ w ∈ wsX80, w ∈ wsX8_image := by decide +kernel
  have w_20 : CallB (headSpec wsX8_image ({ frames := 1, cells := 0, slots := 0, locals := 22 })).room s ([.ref (a 0), .int p1] : List Value).toArray RX8 20 yX8_within cX8_within 3 (some .boolean) wsX8_within ({ frames := 0, cells := 0, slots := 0, locals := 0 } : Room) 0 0 3 ∧ (Cond.static yX8_within).before ([.ref (a 0), .int p1] : List Value).toArray s = true := va_cwS 3 hts gX8_image_X8_within rfl rfl rfl (by decide +kernel) ⟨Nat.le_of_ble_eq_true rfl, Nat.le_of_ble_eq_true rfl⟩
  have kf_16 : (Cond.fieldLink RX8 16 "PictureBeats" "images" "[LPictureBeats$Machine;").before ([.ref (a 0), .int p1] : List Value).toArray s = true := hts _ (by decide +kernel)
  have kf_10 : (Cond.fieldLink RX8 10 "PictureBeats" "machine" "LPictureBeats$Machine;").before ([.ref (a 0), .int p1] : List Value).toArray s = true := hts _ (by decide +kernel)
  refine lv_iload_n hx hb dX8_image_0 rfl (lv_at hl 1 rfl) ?_
  refine lv_iconst (v := 0) hx hb dX8_image_1 (by decide) ?_
  refine lv_iconst (v := 2) hx hb dX8_image_2 (by decide) ?_
  refine x_rS (As := [.int p1, .int 0, .int 2]) (rest := []) ⟨hx, hb, hml, hown, hts⟩ (c_X8_within l D cT p1 0 2 (fun r => r = 0) ((s_within _ _ _ _).mpr h)) w_20 hK hS hN rfl hl.1 rfl (Nat.le_of_ble_eq_true rfl) dX8_image_3 ⟨Nat.le_of_ble_eq_true rfl, Nat.le_of_ble_eq_true rfl⟩ (fun r_1 hr1 => ?_)
  subst hr1
  refine lv_if_ne (tgt := 11) hx hb dX8_image_6 (by decide) (fun c_2 => absurd rfl c_2) (fun c_2 => ?_)
  refine lv_iconst (v := 0) hx hb dX8_image_9 (by decide) ?_
  exact W.zret (v := 0) hx hb hr rfl (fun t ht hW => ⟨_, rfl, rfl, ht⟩) (fun q h => absurd h List.not_mem_nil) dX8_image_10
set_option maxHeartbeats 4000000 in
set_option maxRecDepth 100000 in
theorem c_X8_again_no (l : Launch) (D : va_G) (cT : Nat → ClassId) (a : Nat → Nat) (M : ST) (im : Nat → Option Nat) (p1 : Int32) (h : wi p1 0 2 = 0) : Met l yX8_again wsX8_again ({ frames := 1, cells := 0, slots := 0, locals := 22 }) (va_Pc [.ref (a 0), .int p1] (x_R D cT (w_PB cT a M im))) (vp_Si (fun r => r = 0)) 0 0 (fun _ => False) := by
  refine Met.ofW (cc := cX8_again) (maxL := 2) (ret := (some .boolean)) (by decide) rfl ?_
  intro p e s m args below meth c s₁ B hml hpre
  obtain ⟨rfl, hP, hK, hN⟩ := hpre
  have hx := B.exec
  have hb := B.bytes
  have hr := B.returns
  have hts := atoms_spec (ws := wsX8_again) B.pre
  have hown : s.vm.findClass RX8 = some m.cls := findClass_of_methodNamed B.named
  have hlocks := B.notSynchronized
  have hS : va_S (fun _ : Nat => False) s.heap s.heap [] := va_S.rf
  have hl := lv_entry ([.ref (a 0), .int p1]) (n := 2) (Nat.le_of_ble_eq_true rfl)
  rw [lg_entry_eq]
  generalize (lg_sl ([.ref (a 0), .int p1]) ++ List.replicate (2 - (lg_sl ([.ref (a 0), .int p1])).length) Slot.unset).toArray = ls at hl ⊢
  have hl : lv_has ls 2 [(0, .ref (a 0)), (1, .int (p1))] := hl
  have in_X8 : ∀ w ∈ wsX80, w ∈ wsX8_again := by decide +kernel
  have w_20 : CallB (headSpec wsX8_again ({ frames := 1, cells := 0, slots := 0, locals := 22 })).room s ([.ref (a 0), .int p1] : List Value).toArray RX8 20 yX8_within cX8_within 3 (some .boolean) wsX8_within ({ frames := 0, cells := 0, slots := 0, locals := 0 } : Room) 0 0 3 ∧ (Cond.static yX8_within).before ([.ref (a 0), .int p1] : List Value).toArray s = true := va_cwS 3 hts gX8_again_X8_within rfl rfl rfl (by decide +kernel) ⟨Nat.le_of_ble_eq_true rfl, Nat.le_of_ble_eq_true rfl⟩
  have kf_16 : (Cond.fieldLink RX8 16 "PictureBeats" "images" "[LPictureBeats$Machine;").before ([.ref (a 0), .int p1] : List Value).toArray s = true := hts _ (by decide +kernel)
  have kf_10 : (Cond.fieldLink RX8 10 "PictureBeats" "machine" "LPictureBeats$Machine;").before ([.ref (a 0), .int p1] : List Value).toArray s = true := hts _ (by decide +kernel)
  refine lv_iload_n hx hb dX8_again_0 rfl (lv_at hl 1 rfl) ?_
  refine lv_iconst (v := 0) hx hb dX8_again_1 (by decide) ?_
  refine lv_iconst (v := 2) hx hb dX8_again_2 (by decide) ?_
  refine x_rS (As := [.int p1, .int 0, .int 2]) (rest := []) ⟨hx, hb, hml, hown, hts⟩ (c_X8_within l D cT p1 0 2 (fun r => r = 0) ((s_within _ _ _ _).mpr h)) w_20 hK hS hN rfl hl.1 rfl (Nat.le_of_ble_eq_true rfl) dX8_again_3 ⟨Nat.le_of_ble_eq_true rfl, Nat.le_of_ble_eq_true rfl⟩ (fun r_1 hr1 => ?_)
  subst hr1
  refine lv_if_eq (tgt := 18) hx hb dX8_again_6 (by decide) (fun c_2 => ?_) (fun c_2 => absurd rfl c_2)
  refine lv_iconst (v := 0) hx hb dX8_again_18 (by decide) ?_
  exact W.zret (v := 0) hx hb hr rfl (fun t ht hW => ⟨_, rfl, rfl, ht⟩) (fun q h => absurd h List.not_mem_nil) dX8_again_19
set_option maxHeartbeats 4000000 in
set_option maxRecDepth 100000 in
theorem c_X8_again_none (l : Launch) (D : va_G) (cT : Nat → ClassId) (a : Nat → Nat) (M : ST) (im : Nat → Option Nat) (k : Nat) (hk : k < 3) (h : wi (nI k) 0 2 = 1) (him : im k = none) : Met l yX8_again wsX8_again ({ frames := 1, cells := 0, slots := 0, locals := 22 }) (va_Pc [.ref (a 0), .int (nI k)] (x_R D cT (w_PB cT a M im))) (vp_Si (fun r => r = 0)) 0 0 (fun _ => False) := by
  refine Met.ofW (cc := cX8_again) (maxL := 2) (ret := (some .boolean)) (by decide) rfl ?_
  intro p e s m args below meth c s₁ B hml hpre
  obtain ⟨rfl, hP, hK, hN⟩ := hpre
  have hx := B.exec
  have hb := B.bytes
  have hr := B.returns
  have hts := atoms_spec (ws := wsX8_again) B.pre
  have hown : s.vm.findClass RX8 = some m.cls := findClass_of_methodNamed B.named
  have hlocks := B.notSynchronized
  have hS : va_S (fun _ : Nat => False) s.heap s.heap [] := va_S.rf
  have hl := lv_entry ([.ref (a 0), .int (nI k)]) (n := 2) (Nat.le_of_ble_eq_true rfl)
  rw [lg_entry_eq]
  generalize (lg_sl ([.ref (a 0), .int (nI k)]) ++ List.replicate (2 - (lg_sl ([.ref (a 0), .int (nI k)])).length) Slot.unset).toArray = ls at hl ⊢
  have hl : lv_has ls 2 [(0, .ref (a 0)), (1, .int (nI k))] := hl
  have in_X8 : ∀ w ∈ wsX80, w ∈ wsX8_again := by decide +kernel
  have w_20 : CallB (headSpec wsX8_again ({ frames := 1, cells := 0, slots := 0, locals := 22 })).room s ([.ref (a 0), .int (nI k)] : List Value).toArray RX8 20 yX8_within cX8_within 3 (some .boolean) wsX8_within ({ frames := 0, cells := 0, slots := 0, locals := 0 } : Room) 0 0 3 ∧ (Cond.static yX8_within).before ([.ref (a 0), .int (nI k)] : List Value).toArray s = true := va_cwS 3 hts gX8_again_X8_within rfl rfl rfl (by decide +kernel) ⟨Nat.le_of_ble_eq_true rfl, Nat.le_of_ble_eq_true rfl⟩
  have kf_16 : (Cond.fieldLink RX8 16 "PictureBeats" "images" "[LPictureBeats$Machine;").before ([.ref (a 0), .int (nI k)] : List Value).toArray s = true := hts _ (by decide +kernel)
  have kf_10 : (Cond.fieldLink RX8 10 "PictureBeats" "machine" "LPictureBeats$Machine;").before ([.ref (a 0), .int (nI k)] : List Value).toArray s = true := hts _ (by decide +kernel)
  refine lv_iload_n hx hb dX8_again_0 rfl (lv_at hl 1 rfl) ?_
  refine lv_iconst (v := 0) hx hb dX8_again_1 (by decide) ?_
  refine lv_iconst (v := 2) hx hb dX8_again_2 (by decide) ?_
  refine x_rS (As := [.int (nI k), .int 0, .int 2]) (rest := []) ⟨hx, hb, hml, hown, hts⟩ (c_X8_within l D cT (nI k) 0 2 (fun r => r = 1) ((s_within _ _ _ _).mpr h)) w_20 hK hS hN rfl hl.1 rfl (Nat.le_of_ble_eq_true rfl) dX8_again_3 ⟨Nat.le_of_ble_eq_true rfl, Nat.le_of_ble_eq_true rfl⟩ (fun r_1 hr1 => ?_)
  subst hr1
  refine lv_if_eq (tgt := 18) hx hb dX8_again_6 (by decide) (fun c_2 => absurd c_2 one_ne) (fun c_2 => ?_)
  refine lv_aload_n hx hb dX8_again_9 rfl (lv_at hl 0 rfl) ?_
  refine va_get (D := D) (ci := 8) (v := .ref (a 1)) (C := RX8) (T := TX8) (N := 2) hx hb hts in_X8 hown hK hP 0 rfl rfl 1 (by decide) kf_16 (fun _ h9 => h9) rfl dX8_again_10 ?_
  refine lv_iload_n hx hb dX8_again_13 rfl (lv_at hl 1 rfl) ?_
  refine x_aldN hx hb hK hP 1 2 rfl rfl hk (by decide) him dX8_again_14 ?_
  refine lv_ifnonnullN hx hb dX8_again_15 ?_
  refine lv_iconst (v := 0) hx hb dX8_again_18 (by decide) ?_
  exact W.zret (v := 0) hx hb hr rfl (fun t ht hW => ⟨_, rfl, rfl, ht⟩) (fun q h => absurd h List.not_mem_nil) dX8_again_19
set_option maxHeartbeats 4000000 in
set_option maxRecDepth 100000 in
theorem c_X8_again_yes (l : Launch) (D : va_G) (cT : Nat → ClassId) (a : Nat → Nat) (M : ST) (im : Nat → Option Nat) (ia : Nat → Nat) (IM : ST) (k : Nat) (sz : Nat) (hk : k < 3) (h : wi (nI k) 0 2 = 1) (him : im k = some (ia 0)) (post : ST → Prop) (hv : v_X3_copyFrom (x_sh M 2) IM post) : Met l yX8_again wsX8_again ({ frames := 5, cells := 0, slots := 0, locals := 108 }) (va_Pc [.ref (a 0), .int (nI k)] (x_U D cT (w_PB cT a M im ++ w_Machine cT ia IM) sz)) (va_Qi (fun (r : Int32) (u : ST) => r = 1 ∧ post u) (fun u t => x_B D cT (w_PB cT a (x_wb M 2 29 u) im ++ w_Machine cT ia IM) (va_A (w_PB cT a M im ++ w_Machine cT ia IM) sz) t) (va_A (w_PB cT a M im ++ w_Machine cT ia IM) sz)) 0 0 (va_A (w_PB cT a M im ++ w_Machine cT ia IM) sz) := by
  refine Met.ofW (cc := cX8_again) (maxL := 2) (ret := (some .boolean)) (by decide) rfl ?_
  intro p e s m args below meth c s₁ B hml hpre
  obtain ⟨rfl, hsz, hP, hK, hD0, hN⟩ := hpre
  have hx := B.exec
  have hb := B.bytes
  have hr := B.returns
  have hts := atoms_spec (ws := wsX8_again) B.pre
  have hown : s.vm.findClass RX8 = some m.cls := findClass_of_methodNamed B.named
  have hlocks := B.notSynchronized
  subst hsz
  have hD := hD0.self (sz := s.heap.size)
  generalize hAe : va_A (w_PB cT a M im ++ w_Machine cT ia IM) s.heap.size = A at hD hN ⊢
  have hA : ∀ q : Nat, s.heap.size ≤ q → A q := fun q h => by rw [← hAe]; exact Or.inr h
  have hS : va_S A s.heap s.heap [] := va_S.rf
  have hl := lv_entry ([.ref (a 0), .int (nI k)]) (n := 2) (Nat.le_of_ble_eq_true rfl)
  rw [lg_entry_eq]
  generalize (lg_sl ([.ref (a 0), .int (nI k)]) ++ List.replicate (2 - (lg_sl ([.ref (a 0), .int (nI k)])).length) Slot.unset).toArray = ls at hl ⊢
  have hl : lv_has ls 2 [(0, .ref (a 0)), (1, .int (nI k))] := hl
  have in_X8 : ∀ w ∈ wsX80, w ∈ wsX8_again := by decide +kernel
  have w_20 : CallB (headSpec wsX8_again ({ frames := 5, cells := 0, slots := 0, locals := 108 })).room s ([.ref (a 0), .int (nI k)] : List Value).toArray RX8 20 yX8_within cX8_within 3 (some .boolean) wsX8_within ({ frames := 0, cells := 0, slots := 0, locals := 0 } : Room) 0 0 3 ∧ (Cond.static yX8_within).before ([.ref (a 0), .int (nI k)] : List Value).toArray s = true := va_cwS 3 hts gX8_again_X8_within rfl rfl rfl (by decide +kernel) ⟨Nat.le_of_ble_eq_true rfl, Nat.le_of_ble_eq_true rfl⟩
  have kf_16 : (Cond.fieldLink RX8 16 "PictureBeats" "images" "[LPictureBeats$Machine;").before ([.ref (a 0), .int (nI k)] : List Value).toArray s = true := hts _ (by decide +kernel)
  have kf_10 : (Cond.fieldLink RX8 10 "PictureBeats" "machine" "LPictureBeats$Machine;").before ([.ref (a 0), .int (nI k)] : List Value).toArray s = true := hts _ (by decide +kernel)
  have w_200 : CallW (headSpec wsX8_again ({ frames := 5, cells := 0, slots := 0, locals := 108 })).room s ([.ref (a 0), .int (nI k)] : List Value).toArray RX8 RX3 200 yX3_copyFrom cX3_copyFrom 2 none wsX3_copyFrom ({ frames := 4, cells := 0, slots := 0, locals := 87 } : Room) 0 0 1 := cwV 1 hts gX8_again_X3_copyFrom rfl rfl rfl (by decide +kernel) ⟨Nat.le_of_ble_eq_true rfl, Nat.le_of_ble_eq_true rfl⟩
  refine lv_iload_n hx hb dX8_again_0 rfl (lv_at hl 1 rfl) ?_
  refine lv_iconst (v := 0) hx hb dX8_again_1 (by decide) ?_
  refine lv_iconst (v := 2) hx hb dX8_again_2 (by decide) ?_
  refine x_rS (As := [.int (nI k), .int 0, .int 2]) (rest := []) ⟨hx, hb, hml, hown, hts⟩ (c_X8_within l D cT (nI k) 0 2 (fun r => r = 1) ((s_within _ _ _ _).mpr h)) w_20 hK hS hN rfl hl.1 rfl (Nat.le_of_ble_eq_true rfl) dX8_again_3 ⟨Nat.le_of_ble_eq_true rfl, Nat.le_of_ble_eq_true rfl⟩ (fun r_1 hr1 => ?_)
  subst hr1
  refine lv_if_eq (tgt := 18) hx hb dX8_again_6 (by decide) (fun c_2 => absurd c_2 one_ne) (fun c_2 => ?_)
  refine lv_aload_n hx hb dX8_again_9 rfl (lv_at hl 0 rfl) ?_
  refine va_get (D := D) (ci := 8) (v := .ref (a 1)) (C := RX8) (T := TX8) (N := 2) hx hb hts in_X8 hown hK hP 0 rfl rfl 1 (by decide) kf_16 (fun _ h9 => h9) rfl dX8_again_10 ?_
  refine lv_iload_n hx hb dX8_again_13 rfl (lv_at hl 1 rfl) ?_
  refine x_aldS hx hb hK hP 1 2 rfl rfl hk (by decide) him dX8_again_14 ?_
  refine lv_ifnonnull (tgt := 20) hx hb dX8_again_15 (by decide) ?_
  refine lv_aload_n hx hb dX8_again_20 rfl (lv_at hl 0 rfl) ?_
  refine va_get (D := D) (ci := 8) (v := .ref (a 2)) (C := RX8) (T := TX8) (N := 2) hx hb hts in_X8 hown hK hP 0 rfl rfl 0 (by decide) kf_10 (fun _ h9 => h9) rfl dX8_again_21 ?_
  refine lv_aload_n hx hb dX8_again_24 rfl (lv_at hl 0 rfl) ?_
  refine va_get (D := D) (ci := 8) (v := .ref (a 1)) (C := RX8) (T := TX8) (N := 2) hx hb hts in_X8 hown hK hP 0 rfl rfl 1 (by decide) kf_16 (fun _ h9 => h9) rfl dX8_again_25 ?_
  refine lv_iload_n hx hb dX8_again_28 rfl (lv_at hl 1 rfl) ?_
  refine x_aldS hx hb hK hP 1 2 rfl rfl hk (by decide) him dX8_again_29 ?_
  refine x_qVv (As := [.ref (ia 0)]) (rest := []) ⟨hx, hb, hml, hown, hts⟩ (c_X3_copyFrom l D cT (x_sh a 2) (x_sh M 2) ia IM _ _ hv) w_200 hK hP hD hS hA hN (x_pmA (x_pb0 cT a M im)) 3 0 rfl rfl rfl hl.1 rfl (Nat.le_of_ble_eq_true rfl) dX8_again_30 ⟨Nat.le_of_ble_eq_true rfl, Nat.le_of_ble_eq_true rfl⟩ (fun u H locs hv hP hD hS => ?_)
  have hP := x_P_perm (x_pmA (x_pb1 cT a M u im)).symm hP
  have hD := x_D_perm (x_pmA (x_pb1 cT a M u im)).symm hD
  refine lv_iconst (v := 1) hx hb dX8_again_33 (by decide) ?_
  exact W.zret (v := 1) hx hb hr rfl (fun t ht hW => ⟨⟨_, u, rfl, ⟨rfl, hv⟩, by rw [ht]; exact hP, va_K.moved hW.alike hK, hD⟩, hS.F ht⟩) hS.2.2 dX8_again_34
set_option maxHeartbeats 4000000 in
set_option maxRecDepth 100000 in
theorem c_X8_image_old (l : Launch) (D : va_G) (cT : Nat → ClassId) (a : Nat → Nat) (M : ST) (im : Nat → Option Nat) (ia : Nat → Nat) (IM : ST) (k : Nat) (sz : Nat) (hk : k < 3) (h : wi (nI k) 0 2 = 1) (him : im k = some (ia 0)) (post : ST → Prop) (hv : v_X3_copyFrom IM (x_sh M 2) post) : Met l yX8_image wsX8_image ({ frames := 5, cells := 0, slots := 0, locals := 108 }) (va_Pc [.ref (a 0), .int (nI k)] (x_U D cT (w_PB cT a M im ++ w_Machine cT ia IM) sz)) (va_Qi (fun (r : Int32) (u : ST) => r = 1 ∧ post u) (fun u t => x_B D cT (w_PB cT a M im ++ w_Machine cT ia u) (va_A (w_PB cT a M im ++ w_Machine cT ia IM) sz) t) (va_A (w_PB cT a M im ++ w_Machine cT ia IM) sz)) 0 0 (va_A (w_PB cT a M im ++ w_Machine cT ia IM) sz) := by
  refine Met.ofW (cc := cX8_image) (maxL := 2) (ret := (some .boolean)) (by decide) rfl ?_
  intro p e s m args below meth c s₁ B hml hpre
  obtain ⟨rfl, hsz, hP, hK, hD0, hN⟩ := hpre
  have hx := B.exec
  have hb := B.bytes
  have hr := B.returns
  have hts := atoms_spec (ws := wsX8_image) B.pre
  have hown : s.vm.findClass RX8 = some m.cls := findClass_of_methodNamed B.named
  have hlocks := B.notSynchronized
  subst hsz
  have hD := hD0.self (sz := s.heap.size)
  generalize hAe : va_A (w_PB cT a M im ++ w_Machine cT ia IM) s.heap.size = A at hD hN ⊢
  have hA : ∀ q : Nat, s.heap.size ≤ q → A q := fun q h => by rw [← hAe]; exact Or.inr h
  have hS : va_S A s.heap s.heap [] := va_S.rf
  have hl := lv_entry ([.ref (a 0), .int (nI k)]) (n := 2) (Nat.le_of_ble_eq_true rfl)
  rw [lg_entry_eq]
  generalize (lg_sl ([.ref (a 0), .int (nI k)]) ++ List.replicate (2 - (lg_sl ([.ref (a 0), .int (nI k)])).length) Slot.unset).toArray = ls at hl ⊢
  have hl : lv_has ls 2 [(0, .ref (a 0)), (1, .int (nI k))] := hl
  have in_X8 : ∀ w ∈ wsX80, w ∈ wsX8_image := by decide +kernel
  have w_20 : CallB (headSpec wsX8_image ({ frames := 5, cells := 0, slots := 0, locals := 108 })).room s ([.ref (a 0), .int (nI k)] : List Value).toArray RX8 20 yX8_within cX8_within 3 (some .boolean) wsX8_within ({ frames := 0, cells := 0, slots := 0, locals := 0 } : Room) 0 0 3 ∧ (Cond.static yX8_within).before ([.ref (a 0), .int (nI k)] : List Value).toArray s = true := va_cwS 3 hts gX8_image_X8_within rfl rfl rfl (by decide +kernel) ⟨Nat.le_of_ble_eq_true rfl, Nat.le_of_ble_eq_true rfl⟩
  have kf_16 : (Cond.fieldLink RX8 16 "PictureBeats" "images" "[LPictureBeats$Machine;").before ([.ref (a 0), .int (nI k)] : List Value).toArray s = true := hts _ (by decide +kernel)
  have kf_10 : (Cond.fieldLink RX8 10 "PictureBeats" "machine" "LPictureBeats$Machine;").before ([.ref (a 0), .int (nI k)] : List Value).toArray s = true := hts _ (by decide +kernel)
  have w_200 : CallW (headSpec wsX8_image ({ frames := 5, cells := 0, slots := 0, locals := 108 })).room s ([.ref (a 0), .int (nI k)] : List Value).toArray RX8 RX3 200 yX3_copyFrom cX3_copyFrom 2 none wsX3_copyFrom ({ frames := 4, cells := 0, slots := 0, locals := 87 } : Room) 0 0 1 := cwV 1 hts gX8_image_X3_copyFrom rfl rfl rfl (by decide +kernel) ⟨Nat.le_of_ble_eq_true rfl, Nat.le_of_ble_eq_true rfl⟩
  refine lv_iload_n hx hb dX8_image_0 rfl (lv_at hl 1 rfl) ?_
  refine lv_iconst (v := 0) hx hb dX8_image_1 (by decide) ?_
  refine lv_iconst (v := 2) hx hb dX8_image_2 (by decide) ?_
  refine x_rS (As := [.int (nI k), .int 0, .int 2]) (rest := []) ⟨hx, hb, hml, hown, hts⟩ (c_X8_within l D cT (nI k) 0 2 (fun r => r = 1) ((s_within _ _ _ _).mpr h)) w_20 hK hS hN rfl hl.1 rfl (Nat.le_of_ble_eq_true rfl) dX8_image_3 ⟨Nat.le_of_ble_eq_true rfl, Nat.le_of_ble_eq_true rfl⟩ (fun r_1 hr1 => ?_)
  subst hr1
  refine lv_if_ne (tgt := 11) hx hb dX8_image_6 (by decide) (fun c_2 => ?_) (fun c_2 => absurd c_2 one_ne)
  refine lv_aload_n hx hb dX8_image_11 rfl (lv_at hl 0 rfl) ?_
  refine va_get (D := D) (ci := 8) (v := .ref (a 1)) (C := RX8) (T := TX8) (N := 2) hx hb hts in_X8 hown hK hP 0 rfl rfl 1 (by decide) kf_16 (fun _ h9 => h9) rfl dX8_image_12 ?_
  refine lv_iload_n hx hb dX8_image_15 rfl (lv_at hl 1 rfl) ?_
  refine x_aldS hx hb hK hP 1 2 rfl rfl hk (by decide) him dX8_image_16 ?_
  refine lv_ifnonnull (tgt := 33) hx hb dX8_image_17 (by decide) ?_
  refine lv_aload_n hx hb dX8_image_33 rfl (lv_at hl 0 rfl) ?_
  refine va_get (D := D) (ci := 8) (v := .ref (a 1)) (C := RX8) (T := TX8) (N := 2) hx hb hts in_X8 hown hK hP 0 rfl rfl 1 (by decide) kf_16 (fun _ h9 => h9) rfl dX8_image_34 ?_
  refine lv_iload_n hx hb dX8_image_37 rfl (lv_at hl 1 rfl) ?_
  refine x_aldS hx hb hK hP 1 2 rfl rfl hk (by decide) him dX8_image_38 ?_
  refine lv_aload_n hx hb dX8_image_39 rfl (lv_at hl 0 rfl) ?_
  refine va_get (D := D) (ci := 8) (v := .ref (a 2)) (C := RX8) (T := TX8) (N := 2) hx hb hts in_X8 hown hK hP 0 rfl rfl 0 (by decide) kf_10 (fun _ h9 => h9) rfl dX8_image_40 ?_
  refine x_qVv (As := [.ref (a 2)]) (rest := []) ⟨hx, hb, hml, hown, hts⟩ (c_X3_copyFrom l D cT ia IM (x_sh a 2) (x_sh M 2) _ _ hv) w_200 hK hP hD hS hA hN (x_pmI (x_pb0 cT a M im)) 3 0 rfl rfl rfl hl.1 rfl (Nat.le_of_ble_eq_true rfl) dX8_image_43 ⟨Nat.le_of_ble_eq_true rfl, Nat.le_of_ble_eq_true rfl⟩ (fun u H locs hv hP hD hS => ?_)
  have hP := x_P_perm (x_pmI (x_pb0 cT a M im)).symm hP
  have hD := x_D_perm (x_pmI (x_pb0 cT a M im)).symm hD
  refine lv_iconst (v := 1) hx hb dX8_image_46 (by decide) ?_
  exact W.zret (v := 1) hx hb hr rfl (fun t ht hW => ⟨⟨_, u, rfl, ⟨rfl, hv⟩, by rw [ht]; exact hP, va_K.moved hW.alike hK, hD⟩, hS.F ht⟩) hS.2.2 dX8_image_47
set_option maxHeartbeats 4000000 in
set_option maxRecDepth 100000 in
theorem c_X8_image_new (l : Launch) (D : va_G) (cT : Nat → ClassId) (a : Nat → Nat) (M : ST) (im : Nat → Option Nat) (k : Nat) (sz : Nat) (hk : k < 3) (h : wi (nI k) 0 2 = 1) (him : im k = none) (post : ST → Prop) (hv : v_X3_init (fun z => v_X3_copyFrom z (x_sh M 2) post)) : Met l yX8_image wsX8_image ({ frames := 5, cells := 29, slots := 5935, locals := 108 }) (va_Pc [.ref (a 0), .int (nI k)] (x_U D cT (w_PB cT a M im) sz)) (va_Qi (fun (r : Int32) (u : (Nat → Nat) × ST) => r = 1 ∧ post u.2) (fun u t => x_B D cT (w_PB cT a M (va_up im k (some (u.1 0))) ++ w_Machine cT u.1 u.2) (va_A (w_PB cT a M im) sz) t) (va_A (w_PB cT a M im) sz)) 29 5935 (va_A (w_PB cT a M im) sz) := by
  refine Met.ofW (cc := cX8_image) (maxL := 2) (ret := (some .boolean)) (by decide) rfl ?_
  intro p e s m args below meth c s₁ B hml hpre
  obtain ⟨rfl, hsz, hP, hK, hD0, hN⟩ := hpre
  have hx := B.exec
  have hb := B.bytes
  have hr := B.returns
  have hts := atoms_spec (ws := wsX8_image) B.pre
  have hown : s.vm.findClass RX8 = some m.cls := findClass_of_methodNamed B.named
  have hlocks := B.notSynchronized
  subst hsz
  have hD := hD0.self (sz := s.heap.size)
  generalize hAe : va_A (w_PB cT a M im) s.heap.size = A at hD hN ⊢
  have hA : ∀ q : Nat, s.heap.size ≤ q → A q := fun q h => by rw [← hAe]; exact Or.inr h
  have hS : va_S A s.heap s.heap [] := va_S.rf
  have hl := lv_entry ([.ref (a 0), .int (nI k)]) (n := 2) (Nat.le_of_ble_eq_true rfl)
  rw [lg_entry_eq]
  generalize (lg_sl ([.ref (a 0), .int (nI k)]) ++ List.replicate (2 - (lg_sl ([.ref (a 0), .int (nI k)])).length) Slot.unset).toArray = ls at hl ⊢
  have hl : lv_has ls 2 [(0, .ref (a 0)), (1, .int (nI k))] := hl
  have in_X8 : ∀ w ∈ wsX80, w ∈ wsX8_image := by decide +kernel
  have w_20 : CallB (headSpec wsX8_image ({ frames := 5, cells := 29, slots := 5935, locals := 108 })).room s ([.ref (a 0), .int (nI k)] : List Value).toArray RX8 20 yX8_within cX8_within 3 (some .boolean) wsX8_within ({ frames := 0, cells := 0, slots := 0, locals := 0 } : Room) 0 0 3 ∧ (Cond.static yX8_within).before ([.ref (a 0), .int (nI k)] : List Value).toArray s = true := va_cwS 3 hts gX8_image_X8_within rfl rfl rfl (by decide +kernel) ⟨Nat.le_of_ble_eq_true rfl, Nat.le_of_ble_eq_true rfl⟩
  have kf_16 : (Cond.fieldLink RX8 16 "PictureBeats" "images" "[LPictureBeats$Machine;").before ([.ref (a 0), .int (nI k)] : List Value).toArray s = true := hts _ (by decide +kernel)
  have kf_10 : (Cond.fieldLink RX8 10 "PictureBeats" "machine" "LPictureBeats$Machine;").before ([.ref (a 0), .int (nI k)] : List Value).toArray s = true := hts _ (by decide +kernel)
  have in_X3 : ∀ w ∈ wsX30, w ∈ wsX8_image := by decide +kernel
  have w_200 : CallW (headSpec wsX8_image ({ frames := 5, cells := 29, slots := 5935, locals := 108 })).room s ([.ref (a 0), .int (nI k)] : List Value).toArray RX8 RX3 200 yX3_copyFrom cX3_copyFrom 2 none wsX3_copyFrom ({ frames := 4, cells := 0, slots := 0, locals := 87 } : Room) 0 0 1 := cwV 1 hts gX8_image_X3_copyFrom rfl rfl rfl (by decide +kernel) ⟨Nat.le_of_ble_eq_true rfl, Nat.le_of_ble_eq_true rfl⟩
  have kl_7 : (Cond.classLink RX8 7 RX3).before ([.ref (a 0), .int (nI k)] : List Value).toArray s = true := hts _ (by decide +kernel)
  have kn_X3 : (Cond.instantiable RX3 12).before ([.ref (a 0), .int (nI k)] : List Value).toArray s = true := hts _ (by decide +kernel)
  have ki_X3 : (Cond.initialized RX3).before ([.ref (a 0), .int (nI k)] : List Value).toArray s = true := hts _ (by decide +kernel)
  have w_9 : CallB (headSpec wsX8_image ({ frames := 5, cells := 29, slots := 5935, locals := 108 })).room s ([.ref (a 0), .int (nI k)] : List Value).toArray RX8 9 yX3_init cX3_init 1 none wsX3_init ({ frames := 4, cells := 28, slots := 5923, locals := 76 } : Room) 28 5923 0 ∧ yX3_init.name = "<init>" ∧ (Cond.instanceMethod yX3_init).before ([.ref (a 0), .int (nI k)] : List Value).toArray s = true := cwI 0 hts gX8_image_X3_init rfl rfl rfl (hts (.initialized RX3) (by decide +kernel)) (hts (.methodLink RX8 9 yX3_init) (by decide +kernel)) (hts (.instanceMethod yX3_init) (by decide +kernel)) rfl (by decide +kernel) ⟨Nat.le_of_ble_eq_true rfl, Nat.le_of_ble_eq_true rfl⟩
  refine lv_iload_n hx hb dX8_image_0 rfl (lv_at hl 1 rfl) ?_
  refine lv_iconst (v := 0) hx hb dX8_image_1 (by decide) ?_
  refine lv_iconst (v := 2) hx hb dX8_image_2 (by decide) ?_
  refine x_rS (As := [.int (nI k), .int 0, .int 2]) (rest := []) ⟨hx, hb, hml, hown, hts⟩ (c_X8_within l D cT (nI k) 0 2 (fun r => r = 1) ((s_within _ _ _ _).mpr h)) w_20 hK hS hN rfl hl.1 rfl (Nat.le_of_ble_eq_true rfl) dX8_image_3 ⟨Nat.le_of_ble_eq_true rfl, Nat.le_of_ble_eq_true rfl⟩ (fun r_1 hr1 => ?_)
  subst hr1
  refine lv_if_ne (tgt := 11) hx hb dX8_image_6 (by decide) (fun c_2 => ?_) (fun c_2 => absurd c_2 one_ne)
  refine lv_aload_n hx hb dX8_image_11 rfl (lv_at hl 0 rfl) ?_
  refine va_get (D := D) (ci := 8) (v := .ref (a 1)) (C := RX8) (T := TX8) (N := 2) hx hb hts in_X8 hown hK hP 0 rfl rfl 1 (by decide) kf_16 (fun _ h9 => h9) rfl dX8_image_12 ?_
  refine lv_iload_n hx hb dX8_image_15 rfl (lv_at hl 1 rfl) ?_
  refine x_aldN hx hb hK hP 1 2 rfl rfl hk (by decide) him dX8_image_16 ?_
  refine lv_ifnonnullN hx hb dX8_image_17 ?_
  refine lv_aload_n hx hb dX8_image_20 rfl (lv_at hl 0 rfl) ?_
  refine va_get (D := D) (ci := 8) (v := .ref (a 1)) (C := RX8) (T := TX8) (N := 2) hx hb hts in_X8 hown hK hP 0 rfl rfl 1 (by decide) kf_16 (fun _ h9 => h9) rfl dX8_image_21 ?_
  refine lv_iload_n hx hb dX8_image_24 rfl (lv_at hl 1 rfl) ?_
  refine va_new (ci := 3) (fs := [.null, .null, .null, .null, .null, .null, .null, .null, .int 0, .int 0, .int 0, .int 0]) (C := RX3) (T := TX3) (N := 12) hx hb hts in_X3 tyX3 tyX3_ok hown kl_7 kn_X3 ki_X3 hK hP hD hS hA rfl (fun j hj => by rcases (show j = 0 ∨ j = 1 ∨ j = 2 ∨ j = 3 ∨ j = 4 ∨ j = 5 ∨ j = 6 ∨ j = 7 ∨ j = 8 ∨ j = 9 ∨ j = 10 ∨ j = 11 by omega) with rfl | rfl | rfl | rfl | rfl | rfl | rfl | rfl | rfl | rfl | rfl | rfl <;> rfl) (Nat.le_of_ble_eq_true rfl) (Nat.le_of_ble_eq_true rfl) dX8_image_25 (fun q H hP hD hS => ?_)
  refine W.widen (k := 1) (n := 12) (Nat.le_of_ble_eq_true rfl) (Nat.le_of_ble_eq_true rfl) ?_
  refine lv_dup hx hb dX8_image_28 rfl ?_
  refine x_qI (As := []) (rest := [.ref q, .int (nI k), .ref (a 1)]) ⟨hx, hb, hml, hown, hts⟩ (c_X3_init l D cT q _ _ hv) w_9 hK hP hD hS hA hN List.perm_append_comm rfl hl.1 rfl (Nat.le_of_ble_eq_true rfl) dX8_image_29 ⟨Nat.le_of_ble_eq_true rfl, Nat.le_of_ble_eq_true rfl⟩ (fun u0 H locs hv hP hD hS => ?_)
  refine W.widen (k := 29) (n := 5935) (Nat.le_of_ble_eq_true rfl) (Nat.le_of_ble_eq_true rfl) ?_
  have hP := x_P_perm List.perm_append_comm hP
  have hD := x_D_perm List.perm_append_comm hD
  refine x_astS hx hb hK hP hD hS 1 2 31 3 rfl rfl rfl rfl hk (by decide) dX8_image_32 (fun H locs hP hD hS => ?_)
  have hP : va_P D vwCl (w_PB cT a M (va_up im k (some q)) ++ w_Machine cT (x_hd q u0.1) u0.2) H := hP
  have hD : va_D A (w_PB cT a M (va_up im k (some q)) ++ w_Machine cT (x_hd q u0.1) u0.2) := hD
  refine lv_aload_n hx hb dX8_image_33 rfl (lv_at hl 0 rfl) ?_
  refine va_get (D := D) (ci := 8) (v := .ref (a 1)) (C := RX8) (T := TX8) (N := 2) hx hb hts in_X8 hown hK hP 0 rfl rfl 1 (by decide) kf_16 (fun _ h9 => h9) rfl dX8_image_34 ?_
  refine lv_iload_n hx hb dX8_image_37 rfl (lv_at hl 1 rfl) ?_
  refine x_aldS hx hb hK hP 1 2 rfl rfl hk (by decide) (va_up_self im k (some q)) dX8_image_38 ?_
  refine lv_aload_n hx hb dX8_image_39 rfl (lv_at hl 0 rfl) ?_
  refine va_get (D := D) (ci := 8) (v := .ref (a 2)) (C := RX8) (T := TX8) (N := 2) hx hb hts in_X8 hown hK hP 0 rfl rfl 0 (by decide) kf_10 (fun _ h9 => h9) rfl dX8_image_40 ?_
  refine x_qVv (As := [.ref (a 2)]) (rest := []) ⟨hx, hb, hml, hown, hts⟩ (c_X3_copyFrom l D cT (x_hd q u0.1) u0.2 (x_sh a 2) (x_sh M 2) _ _ hv) w_200 hK hP hD hS hA hN (x_pmI (x_pb0 cT a M (va_up im k (some q)))) 3 0 rfl rfl rfl hl.1 rfl (Nat.le_of_ble_eq_true rfl) dX8_image_43 ⟨Nat.le_of_ble_eq_true rfl, Nat.le_of_ble_eq_true rfl⟩ (fun u H locs hv hP hD hS => ?_)
  have hP := x_P_perm (x_pmI (x_pb0 cT a M (va_up im k (some q)))).symm hP
  have hD := x_D_perm (x_pmI (x_pb0 cT a M (va_up im k (some q)))).symm hD
  refine lv_iconst (v := 1) hx hb dX8_image_46 (by decide) ?_
  exact W.zret (v := 1) hx hb hr rfl (fun t ht hW => ⟨⟨_, (x_hd q u0.1, u), rfl, ⟨rfl, hv⟩, by rw [ht]; exact hP, va_K.moved hW.alike hK, hD⟩, hS.F ht⟩) hS.2.2 dX8_image_47
