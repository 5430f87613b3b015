def v_X8_within (p1 : Int32) (p2 : Int32) (p3 : Int32) (post : Int32 → Prop) : Prop := (((p1 < p2) → post 0) ∧ ((¬ (p1 < p2)) → (((p3 < p1) → post 0) ∧ ((¬ (p3 < p1)) → post 1))))
set_option maxHeartbeats 4000000 in
set_option maxRecDepth 100000 in
theorem c_X8_within (l : Launch) (D : va_G) (cT : Nat → ClassId) (p1 : Int32) (p2 : Int32) (p3 : Int32) (post : Int32 → Prop) (hv : v_X8_within p1 p2 p3 post) : Met l yX8_within wsX8_within ({ frames := 0, cells := 0, slots := 0, locals := 0 }) (va_Pc [.int p1, .int p2, .int p3] (x_R D cT (([] : va_W)))) (vp_Si post) 0 0 (fun _ => False) := by
  refine Met.ofW (cc := cX8_within) (maxL := 3) (ret := (some .boolean)) (by decide) rfl ?_
  intro p e s m args below meth c s₁ B hml hpre
  obtain ⟨rfl, hP, hK, hN⟩ := hpre
  have hx := B.exec
  have hb := B.bytes
  have hr := B.returns
  have hts := atoms_spec (ws := wsX8_within) B.pre
  have hown : s.vm.findClass RX8 = some m.cls := findClass_of_methodNamed B.named
  have hlocks := B.notSynchronized
  have hS : va_S (fun _ : Nat => False) s.heap s.heap [] := va_S.rf
  have hl := lv_entry ([.int p1, .int p2, .int p3]) (n := 3) (Nat.le_of_ble_eq_true rfl)
  rw [lg_entry_eq]
  generalize (lg_sl ([.int p1, .int p2, .int p3]) ++ List.replicate (3 - (lg_sl ([.int p1, .int p2, .int p3])).length) Slot.unset).toArray = ls at hl ⊢
  have hl : lv_has ls 3 [(0, .int p1), (1, .int p2), (2, .int p3)] := hl
  refine lv_iload_n hx hb dX8_within_0 rfl (lv_at hl 0 rfl) ?_
  refine lv_iload_n hx hb dX8_within_1 rfl (lv_at hl 1 rfl) ?_
  refine lv_icmp_lt (tgt := 14) hx hb dX8_within_2 (by decide) (fun c_1 => ?_) (fun c_1 => ?_)
  · have hv := hv.1 c_1
    refine lv_iconst (v := 0) hx hb dX8_within_14 (by decide) ?_
    exact W.zret (v := 0) hx hb hr rfl (fun t ht hW => ⟨_, rfl, hv, ht⟩) (fun q h => absurd h List.not_mem_nil) dX8_within_15
  · have hv := hv.2 c_1
    refine lv_iload_n hx hb dX8_within_5 rfl (lv_at hl 0 rfl) ?_
    refine lv_iload_n hx hb dX8_within_6 rfl (lv_at hl 2 rfl) ?_
    refine lv_icmp_gt (tgt := 14) hx hb dX8_within_7 (by decide) (fun c_2 => ?_) (fun c_2 => ?_)
    · have hv := hv.1 c_2
      refine lv_iconst (v := 0) hx hb dX8_within_14 (by decide) ?_
      exact W.zret (v := 0) hx hb hr rfl (fun t ht hW => ⟨_, rfl, hv, ht⟩) (fun q h => absurd h List.not_mem_nil) dX8_within_15
    · have hv := hv.2 c_2
      refine lv_iconst (v := 1) hx hb dX8_within_10 (by decide) ?_
      refine lv_goto (tgt := 15) hx hb dX8_within_11 (by decide) ?_
      exact W.zret (v := 1) hx hb hr rfl (fun t ht hW => ⟨_, rfl, hv, ht⟩) (fun q h => absurd h List.not_mem_nil) dX8_within_15
def v_X8_placeOf (p1 : Int32) (p2 : Int32) (post : Int32 → Prop) : Prop := v_X8_within p1 0 63 (fun r_1 => (((r_1 = 0) → post (-1)) ∧ ((¬ (r_1 = 0)) → v_X8_within p2 0 63 (fun r_3 => (((¬ (r_3 = 0)) → post ((p2 * 64) + p1)) ∧ ((r_3 = 0) → post (-1)))))))
set_option maxHeartbeats 4000000 in
set_option maxRecDepth 100000 in
theorem c_X8_placeOf (l : Launch) (D : va_G) (cT : Nat → ClassId) (p1 : Int32) (p2 : Int32) (post : Int32 → Prop) (hv : v_X8_placeOf p1 p2 post) : Met l yX8_placeOf wsX8_placeOf ({ frames := 1, cells := 0, slots := 0, locals := 22 }) (va_Pc [.int p1, .int p2] (x_R D cT (([] : va_W)))) (vp_Si post) 0 0 (fun _ => False) := by
  refine Met.ofW (cc := cX8_placeOf) (maxL := 2) (ret := (some .int)) (by decide) rfl ?_
  intro p e s m args below meth c s₁ B hml hpre
  obtain ⟨rfl, hP, hK, hN⟩ := hpre
  have hx := B.exec
  have hb := B.bytes
  have hr := B.returns
  have hts := atoms_spec (ws := wsX8_placeOf) B.pre
  have hown : s.vm.findClass RX8 = some m.cls := findClass_of_methodNamed B.named
  have hlocks := B.notSynchronized
  have hS : va_S (fun _ : Nat => False) s.heap s.heap [] := va_S.rf
  have hl := lv_entry ([.int p1, .int p2]) (n := 2) (Nat.le_of_ble_eq_true rfl)
  rw [lg_entry_eq]
  generalize (lg_sl ([.int p1, .int p2]) ++ List.replicate (2 - (lg_sl ([.int p1, .int p2])).length) Slot.unset).toArray = ls at hl ⊢
  have hl : lv_has ls 2 [(0, .int p1), (1, .int p2)] := hl
  have w_20 : CallB (headSpec wsX8_placeOf ({ frames := 1, cells := 0, slots := 0, locals := 22 })).room s ([.int p1, .int p2] : List Value).toArray RX8 20 yX8_within cX8_within 3 (some .boolean) wsX8_within ({ frames := 0, cells := 0, slots := 0, locals := 0 } : Room) 0 0 3 ∧ (Cond.static yX8_within).before ([.int p1, .int p2] : List Value).toArray s = true := va_cwS 3 hts gX8_placeOf_X8_within rfl rfl rfl (by decide +kernel) ⟨Nat.le_of_ble_eq_true rfl, Nat.le_of_ble_eq_true rfl⟩
  refine lv_iload_n hx hb dX8_placeOf_0 rfl (lv_at hl 0 rfl) ?_
  refine lv_iconst (v := 0) hx hb dX8_placeOf_1 (by decide) ?_
  refine lv_bipush (v := 63) hx hb dX8_placeOf_2 (by decide) ?_
  refine x_rS (As := [.int p1, .int 0, .int 63]) (rest := []) ⟨hx, hb, hml, hown, hts⟩ (c_X8_within l D cT p1 0 63 _ hv) w_20 hK hS hN rfl hl.1 rfl (Nat.le_of_ble_eq_true rfl) dX8_placeOf_4 ⟨Nat.le_of_ble_eq_true rfl, Nat.le_of_ble_eq_true rfl⟩ (fun r_1 hv => ?_)
  refine lv_if_eq (tgt := 20) hx hb dX8_placeOf_7 (by decide) (fun c_2 => ?_) (fun c_2 => ?_)
  · have hv := hv.1 c_2
    refine lv_iconst (v := (-1)) hx hb dX8_placeOf_20 (by decide) ?_
    exact W.iret (v := (-1)) hx hb hr (fun t ht hW => ⟨_, rfl, hv, ht⟩) (fun q h => absurd h List.not_mem_nil) dX8_placeOf_21
  · have hv := hv.2 c_2
    refine lv_iload_n hx hb dX8_placeOf_10 rfl (lv_at hl 1 rfl) ?_
    refine lv_iconst (v := 0) hx hb dX8_placeOf_11 (by decide) ?_
    refine lv_bipush (v := 63) hx hb dX8_placeOf_12 (by decide) ?_
    refine x_rS (As := [.int p2, .int 0, .int 63]) (rest := []) ⟨hx, hb, hml, hown, hts⟩ (c_X8_within l D cT p2 0 63 _ hv) w_20 hK hS hN rfl hl.1 rfl (Nat.le_of_ble_eq_true rfl) dX8_placeOf_14 ⟨Nat.le_of_ble_eq_true rfl, Nat.le_of_ble_eq_true rfl⟩ (fun r_3 hv => ?_)
    refine lv_if_ne (tgt := 22) hx hb dX8_placeOf_17 (by decide) (fun c_4 => ?_) (fun c_4 => ?_)
    · have hv := hv.1 c_4
      refine lv_iload_n hx hb dX8_placeOf_22 rfl (lv_at hl 1 rfl) ?_
      refine lv_bipush (v := 64) hx hb dX8_placeOf_23 (by decide) ?_
      refine lv_imul hx hb dX8_placeOf_25 ?_
      refine lv_iload_n hx hb dX8_placeOf_26 rfl (lv_at hl 0 rfl) ?_
      refine lv_iadd hx hb dX8_placeOf_27 ?_
      exact W.iret (v := ((p2 * 64) + p1)) hx hb hr (fun t ht hW => ⟨_, rfl, hv, ht⟩) (fun q h => absurd h List.not_mem_nil) dX8_placeOf_28
    · have hv := hv.2 c_4
      refine lv_iconst (v := (-1)) hx hb dX8_placeOf_20 (by decide) ?_
      exact W.iret (v := (-1)) hx hb hr (fun t ht hW => ⟨_, rfl, hv, ht⟩) (fun q h => absurd h List.not_mem_nil) dX8_placeOf_21
def v_X8_bytesOfLine (p1 : Int32) (post : Int32 → Prop) : Prop := post (((p1 + 7) / 8) + 1)
set_option maxHeartbeats 4000000 in
set_option maxRecDepth 100000 in
theorem c_X8_bytesOfLine (l : Launch) (D : va_G) (cT : Nat → ClassId) (p1 : Int32) (post : Int32 → Prop) (hv : v_X8_bytesOfLine p1 post) : Met l yX8_bytesOfLine wsX8_bytesOfLine ({ frames := 0, cells := 0, slots := 0, locals := 0 }) (va_Pc [.int p1] (x_R D cT (([] : va_W)))) (vp_Si post) 0 0 (fun _ => False) := by
  refine Met.ofW (cc := cX8_bytesOfLine) (maxL := 1) (ret := (some .int)) (by decide) rfl ?_
  intro p e s m args below meth c s₁ B hml hpre
  obtain ⟨rfl, hP, hK, hN⟩ := hpre
  have hx := B.exec
  have hb := B.bytes
  have hr := B.returns
  have hts := atoms_spec (ws := wsX8_bytesOfLine) B.pre
  have hown : s.vm.findClass RX8 = some m.cls := findClass_of_methodNamed B.named
  have hlocks := B.notSynchronized
  have hS : va_S (fun _ : Nat => False) s.heap s.heap [] := va_S.rf
  have hl := lv_entry ([.int p1]) (n := 1) (Nat.le_of_ble_eq_true rfl)
  rw [lg_entry_eq]
  generalize (lg_sl ([.int p1]) ++ List.replicate (1 - (lg_sl ([.int p1])).length) Slot.unset).toArray = ls at hl ⊢
  have hl : lv_has ls 1 [(0, .int p1)] := hl
  refine lv_iload_n hx hb dX8_bytesOfLine_0 rfl (lv_at hl 0 rfl) ?_
  refine lv_bipush (v := 7) hx hb dX8_bytesOfLine_1 (by decide) ?_
  refine lv_iadd hx hb dX8_bytesOfLine_3 ?_
  refine lv_bipush (v := 8) hx hb dX8_bytesOfLine_4 (by decide) ?_
  refine lv_idiv hx hb dX8_bytesOfLine_6 (by decide) ?_
  refine lv_iconst (v := 1) hx hb dX8_bytesOfLine_7 (by decide) ?_
  refine lv_iadd hx hb dX8_bytesOfLine_8 ?_
  exact W.iret (v := (((p1 + 7) / 8) + 1)) hx hb hr (fun t ht hW => ⟨_, rfl, hv, ht⟩) (fun q h => absurd h List.not_mem_nil) dX8_bytesOfLine_9
def v_X8_areFitBounds (p1 : Int32) (p2 : Int32) (post : Int32 → Prop) : Prop := v_X8_within p1 1 200 (fun r_1 => (((r_1 = 0) → post 0) ∧ ((¬ (r_1 = 0)) → v_X8_within p2 p1 200 (fun r_3 => (((r_3 = 0) → post 0) ∧ ((¬ (r_3 = 0)) → post 1))))))
set_option maxHeartbeats 4000000 in
set_option maxRecDepth 100000 in
theorem c_X8_areFitBounds (l : Launch) (D : va_G) (cT : Nat → ClassId) (p1 : Int32) (p2 : Int32) (post : Int32 → Prop) (hv : v_X8_areFitBounds p1 p2 post) : Met l yX8_areFitBounds wsX8_areFitBounds ({ frames := 1, cells := 0, slots := 0, locals := 22 }) (va_Pc [.int p1, .int p2] (x_R D cT (([] : va_W)))) (vp_Si post) 0 0 (fun _ => False) := by
  refine Met.ofW (cc := cX8_areFitBounds) (maxL := 2) (ret := (some .boolean)) (by decide) rfl ?_
  intro p e s m args below meth c s₁ B hml hpre
  obtain ⟨rfl, hP, hK, hN⟩ := hpre
  have hx := B.exec
  have hb := B.bytes
  have hr := B.returns
  have hts := atoms_spec (ws := wsX8_areFitBounds) B.pre
  have hown : s.vm.findClass RX8 = some m.cls := findClass_of_methodNamed B.named
  have hlocks := B.notSynchronized
  have hS : va_S (fun _ : Nat => False) s.heap s.heap [] := va_S.rf
  have hl := lv_entry ([.int p1, .int p2]) (n := 2) (Nat.le_of_ble_eq_true rfl)
  rw [lg_entry_eq]
  generalize (lg_sl ([.int p1, .int p2]) ++ List.replicate (2 - (lg_sl ([.int p1, .int p2])).length) Slot.unset).toArray = ls at hl ⊢
  have hl : lv_has ls 2 [(0, .int p1), (1, .int p2)] := hl
  have w_20 : CallB (headSpec wsX8_areFitBounds ({ frames := 1, cells := 0, slots := 0, locals := 22 })).room s ([.int p1, .int p2] : List Value).toArray RX8 20 yX8_within cX8_within 3 (some .boolean) wsX8_within ({ frames := 0, cells := 0, slots := 0, locals := 0 } : Room) 0 0 3 ∧ (Cond.static yX8_within).before ([.int p1, .int p2] : List Value).toArray s = true := va_cwS 3 hts gX8_areFitBounds_X8_within rfl rfl rfl (by decide +kernel) ⟨Nat.le_of_ble_eq_true rfl, Nat.le_of_ble_eq_true rfl⟩
  refine lv_iload_n hx hb dX8_areFitBounds_0 rfl (lv_at hl 0 rfl) ?_
  refine lv_iconst (v := 1) hx hb dX8_areFitBounds_1 (by decide) ?_
  refine lv_sipush (v := 200) hx hb dX8_areFitBounds_2 (by decide) ?_
  refine x_rS (As := [.int p1, .int 1, .int 200]) (rest := []) ⟨hx, hb, hml, hown, hts⟩ (c_X8_within l D cT p1 1 200 _ hv) w_20 hK hS hN rfl hl.1 rfl (Nat.le_of_ble_eq_true rfl) dX8_areFitBounds_5 ⟨Nat.le_of_ble_eq_true rfl, Nat.le_of_ble_eq_true rfl⟩ (fun r_1 hv => ?_)
  refine lv_if_eq (tgt := 26) hx hb dX8_areFitBounds_8 (by decide) (fun c_2 => ?_) (fun c_2 => ?_)
  · have hv := hv.1 c_2
    refine lv_iconst (v := 0) hx hb dX8_areFitBounds_26 (by decide) ?_
    exact W.zret (v := 0) hx hb hr rfl (fun t ht hW => ⟨_, rfl, hv, ht⟩) (fun q h => absurd h List.not_mem_nil) dX8_areFitBounds_27
  · have hv := hv.2 c_2
    refine lv_iload_n hx hb dX8_areFitBounds_11 rfl (lv_at hl 1 rfl) ?_
    refine lv_iload_n hx hb dX8_areFitBounds_12 rfl (lv_at hl 0 rfl) ?_
    refine lv_sipush (v := 200) hx hb dX8_areFitBounds_13 (by decide) ?_
    refine x_rS (As := [.int p2, .int p1, .int 200]) (rest := []) ⟨hx, hb, hml, hown, hts⟩ (c_X8_within l D cT p2 p1 200 _ hv) w_20 hK hS hN rfl hl.1 rfl (Nat.le_of_ble_eq_true rfl) dX8_areFitBounds_16 ⟨Nat.le_of_ble_eq_true rfl, Nat.le_of_ble_eq_true rfl⟩ (fun r_3 hv => ?_)
    refine lv_if_eq (tgt := 26) hx hb dX8_areFitBounds_19 (by decide) (fun c_4 => ?_) (fun c_4 => ?_)
    · have hv := hv.1 c_4
      refine lv_iconst (v := 0) hx hb dX8_areFitBounds_26 (by decide) ?_
      exact W.zret (v := 0) hx hb hr rfl (fun t ht hW => ⟨_, rfl, hv, ht⟩) (fun q h => absurd h List.not_mem_nil) dX8_areFitBounds_27
    · have hv := hv.2 c_4
      refine lv_iconst (v := 1) hx hb dX8_areFitBounds_22 (by decide) ?_
      refine lv_goto (tgt := 27) hx hb dX8_areFitBounds_23 (by decide) ?_
      exact W.zret (v := 1) hx hb hr rfl (fun t ht hW => ⟨_, rfl, hv, ht⟩) (fun q h => absurd h List.not_mem_nil) dX8_areFitBounds_27
def v_X8_isNearer (p1 : Int32) (p2 : Int32) (p3 : Int32) (p4 : Int32) (post : Int32 → Prop) : Prop := ∀ x_1 : Int64, x_1 = (if 0 < ((Int32.toInt64 p1) - ((Int32.toInt64 p2) * (Int32.toInt64 p3))) then ((Int32.toInt64 p1) - ((Int32.toInt64 p2) * (Int32.toInt64 p3))) else -((Int32.toInt64 p1) - ((Int32.toInt64 p2) * (Int32.toInt64 p3)))) → ∀ x_2 : Int64, x_2 = (if 0 < ((Int32.toInt64 p1) - ((Int32.toInt64 p2) * (Int32.toInt64 p4))) then ((Int32.toInt64 p1) - ((Int32.toInt64 p2) * (Int32.toInt64 p4))) else -((Int32.toInt64 p1) - ((Int32.toInt64 p2) * (Int32.toInt64 p4)))) → (((0 ≤ (lg_cmp (x_1 * (Int32.toInt64 p4)) (x_2 * (Int32.toInt64 p3)))) → post 0) ∧ ((¬ (0 ≤ (lg_cmp (x_1 * (Int32.toInt64 p4)) (x_2 * (Int32.toInt64 p3))))) → post 1))
set_option maxHeartbeats 4000000 in
set_option maxRecDepth 100000 in
theorem c_X8_isNearer (l : Launch) (D : va_G) (cT : Nat → ClassId) (p1 : Int32) (p2 : Int32) (p3 : Int32) (p4 : Int32) (post : Int32 → Prop) (hv : v_X8_isNearer p1 p2 p3 p4 post) : Met l yX8_isNearer wsX8_isNearer ({ frames := 1, cells := 0, slots := 0, locals := 21 }) (va_Pc [.int p1, .int p2, .int p3, .int p4] (x_R D cT (([] : va_W)))) (vp_Si post) 0 0 (fun _ => False) := by
  refine Met.ofW (cc := cX8_isNearer) (maxL := 8) (ret := (some .boolean)) (by decide) rfl ?_
  intro p e s m args below meth c s₁ B hml hpre
  obtain ⟨rfl, hP, hK, hN⟩ := hpre
  have hx := B.exec
  have hb := B.bytes
  have hr := B.returns
  have hts := atoms_spec (ws := wsX8_isNearer) B.pre
  have hown : s.vm.findClass RX8 = some m.cls := findClass_of_methodNamed B.named
  have hlocks := B.notSynchronized
  have hS : va_S (fun _ : Nat => False) s.heap s.heap [] := va_S.rf
  have hl := lv_entry ([.int p1, .int p2, .int p3, .int p4]) (n := 8) (Nat.le_of_ble_eq_true rfl)
  rw [lg_entry_eq]
  generalize (lg_sl ([.int p1, .int p2, .int p3, .int p4]) ++ List.replicate (8 - (lg_sl ([.int p1, .int p2, .int p3, .int p4])).length) Slot.unset).toArray = ls at hl ⊢
  have hl : lv_has ls 8 [(0, .int p1), (1, .int p2), (2, .int p3), (3, .int p4)] := hl
  have k_absl : (Cond.methodLink RX8 210 Lib.MathLoose.abs_long.x).before ([.int p1, .int p2, .int p3, .int p4] : List Value).toArray s = true := hts _ (by decide +kernel)
  have k_abss : (Cond.static Lib.MathLoose.abs_long.x).before ([.int p1, .int p2, .int p3, .int p4] : List Value).toArray s = true := hts _ (by decide +kernel)
  have k_absi : (Cond.initialized "java/lang/Math").before ([.int p1, .int p2, .int p3, .int p4] : List Value).toArray s = true := hts _ (by decide +kernel)
  have k_absc : (Cond.code Lib.MathLoose.abs_long.x Lib.MathLoose.abs_long.code 2 (some .long)).before ([.int p1, .int p2, .int p3, .int p4] : List Value).toArray s = true := hts _ (by decide +kernel)
  refine lv_iload_n hx hb dX8_isNearer_0 rfl (lv_at hl 0 rfl) ?_
  refine lv_i2l hx hb dX8_isNearer_1 rfl ?_
  refine lv_iload_n hx hb dX8_isNearer_2 rfl (lv_at hl 1 rfl) ?_
  refine lv_i2l hx hb dX8_isNearer_3 rfl ?_
  refine lv_iload_n hx hb dX8_isNearer_4 rfl (lv_at hl 2 rfl) ?_
  refine lv_i2l hx hb dX8_isNearer_5 rfl ?_
  refine lv_lmul hx hb dX8_isNearer_6 ?_
  refine lv_lsub hx hb dX8_isNearer_7 ?_
  refine va_mabs_long hx hb (hml.trans hl.1.symm) hown k_absl k_abss k_absi k_absc (Nat.le_of_ble_eq_true rfl) (Nat.le_of_ble_eq_true rfl) (Nat.zero_le _) (Nat.zero_le _) dX8_isNearer_8 ?_
  refine lv_topl (fun x_1 ex_1 => ?_)
  have hv := hv x_1 ex_1
  refine lv_lstore (lv' := [(4, .long x_1), (0, .int p1), (1, .int p2), (2, .int p3), (3, .int p4)]) hx hb dX8_isNearer_11 hl (by decide) rfl (fun ls hl => ?_)
  refine lv_iload_n hx hb dX8_isNearer_13 rfl (lv_at hl 1 rfl) ?_
  refine lv_i2l hx hb dX8_isNearer_14 rfl ?_
  refine lv_iload_n hx hb dX8_isNearer_15 rfl (lv_at hl 2 rfl) ?_
  refine lv_i2l hx hb dX8_isNearer_16 rfl ?_
  refine lv_iload_n hx hb dX8_isNearer_17 rfl (lv_at hl 4 rfl) ?_
  refine lv_i2l hx hb dX8_isNearer_18 rfl ?_
  refine lv_lmul hx hb dX8_isNearer_19 ?_
  refine lv_lsub hx hb dX8_isNearer_20 ?_
  refine va_mabs_long hx hb (hml.trans hl.1.symm) hown k_absl k_abss k_absi k_absc (Nat.le_of_ble_eq_true rfl) (Nat.le_of_ble_eq_true rfl) (Nat.zero_le _) (Nat.zero_le _) dX8_isNearer_21 ?_
  refine lv_topl (fun x_2 ex_2 => ?_)
  have hv := hv x_2 ex_2
  refine lv_lstore (lv' := [(6, .long x_2), (4, .long x_1), (0, .int p1), (1, .int p2), (2, .int p3), (3, .int p4)]) hx hb dX8_isNearer_24 hl (by decide) rfl (fun ls hl => ?_)
  refine lv_lload hx hb dX8_isNearer_26 (lv_at hl 1 rfl) ?_
  refine lv_iload_n hx hb dX8_isNearer_28 rfl (lv_at hl 5 rfl) ?_
  refine lv_i2l hx hb dX8_isNearer_29 rfl ?_
  refine lv_lmul hx hb dX8_isNearer_30 ?_
  refine lv_lload hx hb dX8_isNearer_31 (lv_at hl 0 rfl) ?_
  refine lv_iload_n hx hb dX8_isNearer_33 rfl (lv_at hl 4 rfl) ?_
  refine lv_i2l hx hb dX8_isNearer_34 rfl ?_
  refine lv_lmul hx hb dX8_isNearer_35 ?_
  refine W.lcmp hx hb dX8_isNearer_36 ?_
  refine lv_if_ge (tgt := 44) hx hb dX8_isNearer_37 (by decide) (fun c_3 => ?_) (fun c_3 => ?_)
  · have hv := hv.1 c_3
    refine lv_iconst (v := 0) hx hb dX8_isNearer_44 (by decide) ?_
    exact W.zret (v := 0) hx hb hr rfl (fun t ht hW => ⟨_, rfl, hv, ht⟩) (fun q h => absurd h List.not_mem_nil) dX8_isNearer_45
  · have hv := hv.2 c_3
    refine lv_iconst (v := 1) hx hb dX8_isNearer_40 (by decide) ?_
    refine lv_goto (tgt := 45) hx hb dX8_isNearer_41 (by decide) ?_
    exact W.zret (v := 1) hx hb hr rfl (fun t ht hW => ⟨_, rfl, hv, ht⟩) (fun q h => absurd h List.not_mem_nil) dX8_isNearer_45
def v_X5_takes (p1 : Int32) (p2 : Int32) (post : Int32 → Prop) : Prop := v_X8_within p1 0 (5 - 1) (fun r_1 => (((r_1 = 0) → post 0) ∧ ((¬ (r_1 = 0)) → ∃ k_3 : Nat, k_3 < 5 ∧ p1 = nI k_3 ∧ v_X8_within p2 0 (x_hi k_3) (fun r_4 => (((r_4 = 0) → post 0) ∧ ((¬ (r_4 = 0)) → post 1))))))
set_option maxHeartbeats 4000000 in
set_option maxRecDepth 100000 in
theorem c_X5_takes (l : Launch) (D : va_G) (cT : Nat → ClassId) (p1 : Int32) (p2 : Int32) (post : Int32 → Prop) (hv : v_X5_takes p1 p2 post) : Met l yX5_takes wsX5_takes ({ frames := 1, cells := 0, slots := 0, locals := 22 }) (va_Pc [.int p1, .int p2] (x_R D cT (([] : va_W)))) (vp_Si post) 0 0 (fun _ => False) := by
  refine Met.ofW (cc := cX5_takes) (maxL := 2) (ret := (some .boolean)) (by decide) rfl ?_
  intro p e s m args below meth c s₁ B hml hpre
  obtain ⟨rfl, hP, hK, hN⟩ := hpre
  have hx := B.exec
  have hb := B.bytes
  have hr := B.returns
  have hts := atoms_spec (ws := wsX5_takes) B.pre
  have hown : s.vm.findClass RX5 = some m.cls := findClass_of_methodNamed B.named
  have hlocks := B.notSynchronized
  have hS : va_S (fun _ : Nat => False) s.heap s.heap [] := va_S.rf
  have hl := lv_entry ([.int p1, .int p2]) (n := 2) (Nat.le_of_ble_eq_true rfl)
  rw [lg_entry_eq]
  generalize (lg_sl ([.int p1, .int p2]) ++ List.replicate (2 - (lg_sl ([.int p1, .int p2])).length) Slot.unset).toArray = ls at hl ⊢
  have hl : lv_has ls 2 [(0, .int p1), (1, .int p2)] := hl
  obtain ⟨⟨-, -, -, -, -, -, nF, -⟩, -, tb, hZ, hT⟩ := id hN
  have w_18 : va_CN (headSpec wsX5_takes ({ frames := 1, cells := 0, slots := 0, locals := 22 })).room s ([.int p1, .int p2] : List Value).toArray RX5 18 yX8_within RX8 cX8_within 3 (some .boolean) wsX8_within ({ frames := 0, cells := 0, slots := 0, locals := 0 } : Room) 0 0 3 ∧ (Cond.static yX8_within).before ([.int p1, .int p2] : List Value).toArray s = true ∧ True := ⟨va_cnB 3 hts gX5_takes_X8_within_n18 rfl rfl rfl (hN.1.2.2.2.2.2.2.2.1) (hts (.initialized RX8) (by decide +kernel)) (by decide +kernel) ⟨Nat.le_of_ble_eq_true rfl, Nat.le_of_ble_eq_true rfl⟩, hts _ (by decide +kernel), trivial⟩
  refine lv_iload_n hx hb dX5_takes_0 rfl (lv_at hl 0 rfl) ?_
  refine lv_iconst (v := 0) hx hb dX5_takes_1 (by decide) ?_
  refine va_getsN hx hb hZ hS hown (va_Nw.use rfl nF) (fun _ h9 => h9) dX5_takes_2 ?_
  refine va_tlen hx hb hT hS (v := 5) rfl dX5_takes_5 ?_
  refine lv_iconst (v := 1) hx hb dX5_takes_6 (by decide) ?_
  refine lv_isub hx hb dX5_takes_7 ?_
  refine x_rN (As := [.int p1, .int 0, .int (5 - 1)]) (rest := []) ⟨hx, hb, hml, hown, hts⟩ (c_X8_within l D cT p1 0 (5 - 1) _ hv) w_18 hK hS hN rfl hl.1 rfl (Nat.le_of_ble_eq_true rfl) dX5_takes_8 ⟨Nat.le_of_ble_eq_true rfl, Nat.le_of_ble_eq_true rfl⟩ (fun r_1 hv => ?_)
  refine lv_if_eq (tgt := 31) hx hb dX5_takes_11 (by decide) (fun c_2 => ?_) (fun c_2 => ?_)
  · have hv := hv.1 c_2
    refine lv_iconst (v := 0) hx hb dX5_takes_31 (by decide) ?_
    exact W.zret (v := 0) hx hb hr rfl (fun t ht hW => ⟨_, rfl, hv, ht⟩) (fun q h => absurd h List.not_mem_nil) dX5_takes_32
  · have hv := hv.2 c_2
    refine lv_iload_n hx hb dX5_takes_14 rfl (lv_at hl 1 rfl) ?_
    refine lv_iconst (v := 0) hx hb dX5_takes_15 (by decide) ?_
    refine va_getsN hx hb hZ hS hown (va_Nw.use rfl nF) (fun _ h9 => h9) dX5_takes_16 ?_
    refine lv_iload_n hx hb dX5_takes_19 rfl (lv_at hl 0 rfl) ?_
    obtain ⟨k_3, hk_3, ik_3, hv⟩ := hv
    refine x_tld hx hb hT hS k_3 ik_3 hk_3 (by decide) dX5_takes_20 ?_
    refine x_rN (As := [.int p2, .int 0, .int (x_hi k_3)]) (rest := []) ⟨hx, hb, hml, hown, hts⟩ (c_X8_within l D cT p2 0 (x_hi k_3) _ hv) w_18 hK hS hN rfl hl.1 rfl (Nat.le_of_ble_eq_true rfl) dX5_takes_21 ⟨Nat.le_of_ble_eq_true rfl, Nat.le_of_ble_eq_true rfl⟩ (fun r_4 hv => ?_)
    refine lv_if_eq (tgt := 31) hx hb dX5_takes_24 (by decide) (fun c_5 => ?_) (fun c_5 => ?_)
    · have hv := hv.1 c_5
      refine lv_iconst (v := 0) hx hb dX5_takes_31 (by decide) ?_
      exact W.zret (v := 0) hx hb hr rfl (fun t ht hW => ⟨_, rfl, hv, ht⟩) (fun q h => absurd h List.not_mem_nil) dX5_takes_32
    · have hv := hv.2 c_5
      refine lv_iconst (v := 1) hx hb dX5_takes_27 (by decide) ?_
      refine lv_goto (tgt := 32) hx hb dX5_takes_28 (by decide) ?_
      exact W.zret (v := 1) hx hb hr rfl (fun t ht hW => ⟨_, rfl, hv, ht⟩) (fun q h => absurd h List.not_mem_nil) dX5_takes_32
def v_J6_bitCount_0f7a4 (p1 : Int32) (post : Int32 → Prop) : Prop := ∀ x_1 : Int32, x_1 = (p1 - ((x_ushr p1 1) &&& 1431655765)) → ∀ x_2 : Int32, x_2 = ((x_1 &&& 858993459) + ((x_ushr x_1 2) &&& 858993459)) → ∀ x_3 : Int32, x_3 = ((x_2 + (x_ushr x_2 4)) &&& 252645135) → ∀ x_4 : Int32, x_4 = (x_3 + (x_ushr x_3 8)) → ∀ x_5 : Int32, x_5 = (x_4 + (x_ushr x_4 16)) → post (x_5 &&& 63)
set_option maxHeartbeats 4000000 in
set_option maxRecDepth 100000 in
theorem c_J6_bitCount_0f7a4 (l : Launch) (D : va_G) (cT : Nat → ClassId) (p1 : Int32) (post : Int32 → Prop) (hv : v_J6_bitCount_0f7a4 p1 post) : Met l yJ6_bitCount_0f7a4 wsJ6_bitCount_0f7a4 ({ frames := 0, cells := 0, slots := 0, locals := 0 }) (va_Pc [.int p1] (x_R D cT (([] : va_W)))) (vp_Si post) 0 0 (fun _ => False) := by
  refine Met.ofW (cc := cJ6_bitCount_0f7a4) (maxL := 1) (ret := (some .int)) (by decide) rfl ?_
  intro p e s m args below meth c s₁ B hml hpre
  obtain ⟨rfl, hP, hK, hN⟩ := hpre
  have hx := B.exec
  have hb := B.bytes
  have hr := B.returns
  have hts := atoms_spec (ws := wsJ6_bitCount_0f7a4) B.pre
  have hown : s.vm.findClass RJ6 = some m.cls := findClass_of_methodNamed B.named
  have hlocks := B.notSynchronized
  have hS : va_S (fun _ : Nat => False) s.heap s.heap [] := va_S.rf
  have hl := lv_entry ([.int p1]) (n := 1) (Nat.le_of_ble_eq_true rfl)
  rw [lg_entry_eq]
  generalize (lg_sl ([.int p1]) ++ List.replicate (1 - (lg_sl ([.int p1])).length) Slot.unset).toArray = ls at hl ⊢
  have hl : lv_has ls 1 [(0, .int p1)] := hl
  have kc_265 : (Cond.constant RJ6 265 (1431655765)).before ([.int p1] : List Value).toArray s = true := hts _ (by decide +kernel)
  have kc_266 : (Cond.constant RJ6 266 (858993459)).before ([.int p1] : List Value).toArray s = true := hts _ (by decide +kernel)
  have kc_267 : (Cond.constant RJ6 267 (252645135)).before ([.int p1] : List Value).toArray s = true := hts _ (by decide +kernel)
  refine lv_iload_n hx hb dJ6_bitCount_0f7a4_0 rfl (lv_at hl 0 rfl) ?_
  refine lv_iload_n hx hb dJ6_bitCount_0f7a4_1 rfl (lv_at hl 0 rfl) ?_
  refine lv_iconst (v := 1) hx hb dJ6_bitCount_0f7a4_2 (by decide) ?_
  refine lv_iushr (v := x_ushr p1 1) hx hb dJ6_bitCount_0f7a4_3 rfl ?_
  refine lv_ldcw (v := 1431655765) hx hb hown kc_265 dJ6_bitCount_0f7a4_4 ?_
  refine lv_iand hx hb dJ6_bitCount_0f7a4_7 ?_
  refine lv_isub hx hb dJ6_bitCount_0f7a4_8 ?_
  refine lv_topi (fun x_1 ex_1 => ?_)
  have hv := hv x_1 ex_1
  refine lv_istore_n (lv' := [(0, .int x_1)]) hx hb dJ6_bitCount_0f7a4_9 rfl hl (by decide) rfl (fun ls hl => ?_)
  refine lv_iload_n hx hb dJ6_bitCount_0f7a4_10 rfl (lv_at hl 0 rfl) ?_
  refine lv_ldcw (v := 858993459) hx hb hown kc_266 dJ6_bitCount_0f7a4_11 ?_
  refine lv_iand hx hb dJ6_bitCount_0f7a4_14 ?_
  refine lv_iload_n hx hb dJ6_bitCount_0f7a4_15 rfl (lv_at hl 0 rfl) ?_
  refine lv_iconst (v := 2) hx hb dJ6_bitCount_0f7a4_16 (by decide) ?_
  refine lv_iushr (v := x_ushr x_1 2) hx hb dJ6_bitCount_0f7a4_17 rfl ?_
  refine lv_ldcw (v := 858993459) hx hb hown kc_266 dJ6_bitCount_0f7a4_18 ?_
  refine lv_iand hx hb dJ6_bitCount_0f7a4_21 ?_
  refine lv_iadd hx hb dJ6_bitCount_0f7a4_22 ?_
  refine lv_topi (fun x_2 ex_2 => ?_)
  have hv := hv x_2 ex_2
  refine lv_istore_n (lv' := [(0, .int x_2)]) hx hb dJ6_bitCount_0f7a4_23 rfl hl (by decide) rfl (fun ls hl => ?_)
  refine lv_iload_n hx hb dJ6_bitCount_0f7a4_24 rfl (lv_at hl 0 rfl) ?_
  refine lv_iload_n hx hb dJ6_bitCount_0f7a4_25 rfl (lv_at hl 0 rfl) ?_
  refine lv_iconst (v := 4) hx hb dJ6_bitCount_0f7a4_26 (by decide) ?_
  refine lv_iushr (v := x_ushr x_2 4) hx hb dJ6_bitCount_0f7a4_27 rfl ?_
  refine lv_iadd hx hb dJ6_bitCount_0f7a4_28 ?_
  refine lv_ldcw (v := 252645135) hx hb hown kc_267 dJ6_bitCount_0f7a4_29 ?_
  refine lv_iand hx hb dJ6_bitCount_0f7a4_32 ?_
  refine lv_topi (fun x_3 ex_3 => ?_)
  have hv := hv x_3 ex_3
  refine lv_istore_n (lv' := [(0, .int x_3)]) hx hb dJ6_bitCount_0f7a4_33 rfl hl (by decide) rfl (fun ls hl => ?_)
  refine lv_iload_n hx hb dJ6_bitCount_0f7a4_34 rfl (lv_at hl 0 rfl) ?_
  refine lv_iload_n hx hb dJ6_bitCount_0f7a4_35 rfl (lv_at hl 0 rfl) ?_
  refine lv_bipush (v := 8) hx hb dJ6_bitCount_0f7a4_36 (by decide) ?_
  refine lv_iushr (v := x_ushr x_3 8) hx hb dJ6_bitCount_0f7a4_38 rfl ?_
  refine lv_iadd hx hb dJ6_bitCount_0f7a4_39 ?_
  refine lv_topi (fun x_4 ex_4 => ?_)
  have hv := hv x_4 ex_4
  refine lv_istore_n (lv' := [(0, .int x_4)]) hx hb dJ6_bitCount_0f7a4_40 rfl hl (by decide) rfl (fun ls hl => ?_)
  refine lv_iload_n hx hb dJ6_bitCount_0f7a4_41 rfl (lv_at hl 0 rfl) ?_
  refine lv_iload_n hx hb dJ6_bitCount_0f7a4_42 rfl (lv_at hl 0 rfl) ?_
  refine lv_bipush (v := 16) hx hb dJ6_bitCount_0f7a4_43 (by decide) ?_
  refine lv_iushr (v := x_ushr x_4 16) hx hb dJ6_bitCount_0f7a4_45 rfl ?_
  refine lv_iadd hx hb dJ6_bitCount_0f7a4_46 ?_
  refine lv_topi (fun x_5 ex_5 => ?_)
  have hv := hv x_5 ex_5
  refine lv_istore_n (lv' := [(0, .int x_5)]) hx hb dJ6_bitCount_0f7a4_47 rfl hl (by decide) rfl (fun ls hl => ?_)
  refine lv_iload_n hx hb dJ6_bitCount_0f7a4_48 rfl (lv_at hl 0 rfl) ?_
  refine lv_bipush (v := 63) hx hb dJ6_bitCount_0f7a4_49 (by decide) ?_
  refine lv_iand hx hb dJ6_bitCount_0f7a4_51 ?_
  exact W.iret (v := (x_5 &&& 63)) hx hb hr (fun t ht hW => ⟨_, rfl, hv, ht⟩) (fun q h => absurd h List.not_mem_nil) dJ6_bitCount_0f7a4_52
def v_X9_isIn (p1 : Int32) (p2 : Int32) (p3 : Int32) (post : Int32 → Prop) : Prop := (((p1 < p2) → post 0) ∧ ((¬ (p1 < p2)) → (((p3 < p1) → post 0) ∧ ((¬ (p3 < p1)) → post 1))))
set_option maxHeartbeats 4000000 in
set_option maxRecDepth 100000 in
theorem c_X9_isIn (l : Launch) (D : va_G) (cT : Nat → ClassId) (p1 : Int32) (p2 : Int32) (p3 : Int32) (post : Int32 → Prop) (hv : v_X9_isIn p1 p2 p3 post) : Met l yX9_isIn wsX9_isIn ({ frames := 0, cells := 0, slots := 0, locals := 0 }) (va_Pc [.int p1, .int p2, .int p3] (x_R D cT (([] : va_W)))) (vp_Si post) 0 0 (fun _ => False) := by
  refine Met.ofW (cc := cX9_isIn) (maxL := 3) (ret := (some .boolean)) (by decide) rfl ?_
  intro p e s m args below meth c s₁ B hml hpre
  obtain ⟨rfl, hP, hK, hN⟩ := hpre
  have hx := B.exec
  have hb := B.bytes
  have hr := B.returns
  have hts := atoms_spec (ws := wsX9_isIn) B.pre
  have hown : s.vm.findClass RX9 = some m.cls := findClass_of_methodNamed B.named
  have hlocks := B.notSynchronized
  have hS : va_S (fun _ : Nat => False) s.heap s.heap [] := va_S.rf
  have hl := lv_entry ([.int p1, .int p2, .int p3]) (n := 3) (Nat.le_of_ble_eq_true rfl)
  rw [lg_entry_eq]
  generalize (lg_sl ([.int p1, .int p2, .int p3]) ++ List.replicate (3 - (lg_sl ([.int p1, .int p2, .int p3])).length) Slot.unset).toArray = ls at hl ⊢
  have hl : lv_has ls 3 [(0, .int p1), (1, .int p2), (2, .int p3)] := hl
  refine lv_iload_n hx hb dX9_isIn_0 rfl (lv_at hl 0 rfl) ?_
  refine lv_iload_n hx hb dX9_isIn_1 rfl (lv_at hl 1 rfl) ?_
  refine lv_icmp_lt (tgt := 14) hx hb dX9_isIn_2 (by decide) (fun c_1 => ?_) (fun c_1 => ?_)
  · have hv := hv.1 c_1
    refine lv_iconst (v := 0) hx hb dX9_isIn_14 (by decide) ?_
    exact W.zret (v := 0) hx hb hr rfl (fun t ht hW => ⟨_, rfl, hv, ht⟩) (fun q h => absurd h List.not_mem_nil) dX9_isIn_15
  · have hv := hv.2 c_1
    refine lv_iload_n hx hb dX9_isIn_5 rfl (lv_at hl 0 rfl) ?_
    refine lv_iload_n hx hb dX9_isIn_6 rfl (lv_at hl 2 rfl) ?_
    refine lv_icmp_gt (tgt := 14) hx hb dX9_isIn_7 (by decide) (fun c_2 => ?_) (fun c_2 => ?_)
    · have hv := hv.1 c_2
      refine lv_iconst (v := 0) hx hb dX9_isIn_14 (by decide) ?_
      exact W.zret (v := 0) hx hb hr rfl (fun t ht hW => ⟨_, rfl, hv, ht⟩) (fun q h => absurd h List.not_mem_nil) dX9_isIn_15
    · have hv := hv.2 c_2
      refine lv_iconst (v := 1) hx hb dX9_isIn_10 (by decide) ?_
      refine lv_goto (tgt := 15) hx hb dX9_isIn_11 (by decide) ?_
      exact W.zret (v := 1) hx hb hr rfl (fun t ht hW => ⟨_, rfl, hv, ht⟩) (fun q h => absurd h List.not_mem_nil) dX9_isIn_15
def v_X9_rowOf (p1 : Int32) (p2 : Int32) (p3 : Int32) (post : Int32 → Prop) : Prop := (((¬ (p3 = 1)) → post p1) ∧ ((p3 = 1) → post ((2 * p1) + p2)))
set_option maxHeartbeats 4000000 in
set_option maxRecDepth 100000 in
theorem c_X9_rowOf (l : Launch) (D : va_G) (cT : Nat → ClassId) (p1 : Int32) (p2 : Int32) (p3 : Int32) (post : Int32 → Prop) (hv : v_X9_rowOf p1 p2 p3 post) : Met l yX9_rowOf wsX9_rowOf ({ frames := 0, cells := 0, slots := 0, locals := 0 }) (va_Pc [.int p1, .int p2, .int p3] (x_R D cT (([] : va_W)))) (vp_Si post) 0 0 (fun _ => False) := by
  refine Met.ofW (cc := cX9_rowOf) (maxL := 3) (ret := (some .int)) (by decide) rfl ?_
  intro p e s m args below meth c s₁ B hml hpre
  obtain ⟨rfl, hP, hK, hN⟩ := hpre
  have hx := B.exec
  have hb := B.bytes
  have hr := B.returns
  have hts := atoms_spec (ws := wsX9_rowOf) B.pre
  have hown : s.vm.findClass RX9 = some m.cls := findClass_of_methodNamed B.named
  have hlocks := B.notSynchronized
  have hS : va_S (fun _ : Nat => False) s.heap s.heap [] := va_S.rf
  have hl := lv_entry ([.int p1, .int p2, .int p3]) (n := 3) (Nat.le_of_ble_eq_true rfl)
  rw [lg_entry_eq]
  generalize (lg_sl ([.int p1, .int p2, .int p3]) ++ List.replicate (3 - (lg_sl ([.int p1, .int p2, .int p3])).length) Slot.unset).toArray = ls at hl ⊢
  have hl : lv_has ls 3 [(0, .int p1), (1, .int p2), (2, .int p3)] := hl
  refine lv_iload_n hx hb dX9_rowOf_0 rfl (lv_at hl 2 rfl) ?_
  refine lv_iconst (v := 1) hx hb dX9_rowOf_1 (by decide) ?_
  refine lv_icmp_ne (tgt := 13) hx hb dX9_rowOf_2 (by decide) (fun c_1 => ?_) (fun c_1 => ?_)
  · have hv := hv.1 c_1
    refine lv_iload_n hx hb dX9_rowOf_13 rfl (lv_at hl 0 rfl) ?_
    exact W.iret (v := p1) hx hb hr (fun t ht hW => ⟨_, rfl, hv, ht⟩) (fun q h => absurd h List.not_mem_nil) dX9_rowOf_14
  · have hv := hv.2 c_1
    refine lv_iconst (v := 2) hx hb dX9_rowOf_5 (by decide) ?_
    refine lv_iload_n hx hb dX9_rowOf_6 rfl (lv_at hl 0 rfl) ?_
    refine lv_imul hx hb dX9_rowOf_7 ?_
    refine lv_iload_n hx hb dX9_rowOf_8 rfl (lv_at hl 1 rfl) ?_
    refine lv_iadd hx hb dX9_rowOf_9 ?_
    refine lv_goto (tgt := 14) hx hb dX9_rowOf_10 (by decide) ?_
    exact W.iret (v := ((2 * p1) + p2)) hx hb hr (fun t ht hW => ⟨_, rfl, hv, ht⟩) (fun q h => absurd h List.not_mem_nil) dX9_rowOf_14
def v_X9_isValue (p1 : Int32) (p2 : Int32) (post : Int32 → Prop) : Prop := (((p1 = 0) → v_X9_isIn p2 0 1023 (fun r_3 => x_bool r_3 ∧ post r_3)) ∧ ((p1 = 1) → v_X9_isIn p2 0 64 (fun r_5 => x_bool r_5 ∧ post r_5)) ∧ ((p1 = 2) → v_X9_isIn p2 0 7 (fun r_7 => x_bool r_7 ∧ post r_7)) ∧ ((p1 = 3) → v_X9_isIn p2 0 255 (fun r_9 => x_bool r_9 ∧ post r_9)) ∧ ((p1 = 4) → v_X9_isIn p2 0 255 (fun r_11 => x_bool r_11 ∧ post r_11)) ∧ ((Int32.toInt p1 < 0 ∨ 4 < Int32.toInt p1) → post 0))
set_option maxHeartbeats 4000000 in
set_option maxRecDepth 100000 in
theorem c_X9_isValue (l : Launch) (D : va_G) (cT : Nat → ClassId) (p1 : Int32) (p2 : Int32) (post : Int32 → Prop) (hv : v_X9_isValue p1 p2 post) : Met l yX9_isValue wsX9_isValue ({ frames := 1, cells := 0, slots := 0, locals := 22 }) (va_Pc [.int p1, .int p2] (x_R D cT (([] : va_W)))) (vp_Si post) 0 0 (fun _ => False) := by
  refine Met.ofW (cc := cX9_isValue) (maxL := 2) (ret := (some .boolean)) (by decide) rfl ?_
  intro p e s m args below meth c s₁ B hml hpre
  obtain ⟨rfl, hP, hK, hN⟩ := hpre
  have hx := B.exec
  have hb := B.bytes
  have hr := B.returns
  have hts := atoms_spec (ws := wsX9_isValue) B.pre
  have hown : s.vm.findClass RX9 = some m.cls := findClass_of_methodNamed B.named
  have hlocks := B.notSynchronized
  have hS : va_S (fun _ : Nat => False) s.heap s.heap [] := va_S.rf
  have hl := lv_entry ([.int p1, .int p2]) (n := 2) (Nat.le_of_ble_eq_true rfl)
  rw [lg_entry_eq]
  generalize (lg_sl ([.int p1, .int p2]) ++ List.replicate (2 - (lg_sl ([.int p1, .int p2])).length) Slot.unset).toArray = ls at hl ⊢
  have hl : lv_has ls 2 [(0, .int p1), (1, .int p2)] := hl
  have w_17 : CallB (headSpec wsX9_isValue ({ frames := 1, cells := 0, slots := 0, locals := 22 })).room s ([.int p1, .int p2] : List Value).toArray RX9 17 yX9_isIn cX9_isIn 3 (some .boolean) wsX9_isIn ({ frames := 0, cells := 0, slots := 0, locals := 0 } : Room) 0 0 3 ∧ (Cond.static yX9_isIn).before ([.int p1, .int p2] : List Value).toArray s = true := va_cwS 3 hts gX9_isValue_X9_isIn rfl rfl rfl (by decide +kernel) ⟨Nat.le_of_ble_eq_true rfl, Nat.le_of_ble_eq_true rfl⟩
  refine lv_iload_n hx hb dX9_isValue_0 rfl (lv_at hl 0 rfl) ?_
  rcases x_sw p1 5 (by decide) with ⟨k_1, hk_1, c_2⟩ | c_2
  · match k_1, hk_1, c_2 with
    | 0, _, c_2 =>
      have hv := hv.1 c_2
      refine lv_tableIn (off := 35) (tgt := 36) hx hb dX9_isValue_1 (by rw [c_2]; decide) (by rw [c_2]; decide) (by rw [c_2]; rfl) (by decide) ?_
      refine lv_iload_n hx hb dX9_isValue_36 rfl (lv_at hl 1 rfl) ?_
      refine lv_iconst (v := 0) hx hb dX9_isValue_37 (by decide) ?_
      refine lv_sipush (v := 1023) hx hb dX9_isValue_38 (by decide) ?_
      refine x_rS (As := [.int p2, .int 0, .int 1023]) (rest := []) ⟨hx, hb, hml, hown, hts⟩ (c_X9_isIn l D cT p2 0 1023 _ hv) w_17 hK hS hN rfl hl.1 rfl (Nat.le_of_ble_eq_true rfl) dX9_isValue_41 ⟨Nat.le_of_ble_eq_true rfl, Nat.le_of_ble_eq_true rfl⟩ (fun r_3 hv => ?_)
      obtain ⟨h_4, hv⟩ := hv
      exact W.zret (v := r_3) hx hb hr (x_bool_n h_4) (fun t ht hW => ⟨_, rfl, hv, ht⟩) (fun q h => absurd h List.not_mem_nil) dX9_isValue_44
    | 1, _, c_2 =>
      have hv := hv.2.1 c_2
      refine lv_tableIn (off := 44) (tgt := 45) hx hb dX9_isValue_1 (by rw [c_2]; decide) (by rw [c_2]; decide) (by rw [c_2]; rfl) (by decide) ?_
      refine lv_iload_n hx hb dX9_isValue_45 rfl (lv_at hl 1 rfl) ?_
      refine lv_iconst (v := 0) hx hb dX9_isValue_46 (by decide) ?_
      refine lv_bipush (v := 64) hx hb dX9_isValue_47 (by decide) ?_
      refine x_rS (As := [.int p2, .int 0, .int 64]) (rest := []) ⟨hx, hb, hml, hown, hts⟩ (c_X9_isIn l D cT p2 0 64 _ hv) w_17 hK hS hN rfl hl.1 rfl (Nat.le_of_ble_eq_true rfl) dX9_isValue_49 ⟨Nat.le_of_ble_eq_true rfl, Nat.le_of_ble_eq_true rfl⟩ (fun r_5 hv => ?_)
      obtain ⟨h_6, hv⟩ := hv
      exact W.zret (v := r_5) hx hb hr (x_bool_n h_6) (fun t ht hW => ⟨_, rfl, hv, ht⟩) (fun q h => absurd h List.not_mem_nil) dX9_isValue_52
    | 2, _, c_2 =>
      have hv := hv.2.2.1 c_2
      refine lv_tableIn (off := 52) (tgt := 53) hx hb dX9_isValue_1 (by rw [c_2]; decide) (by rw [c_2]; decide) (by rw [c_2]; rfl) (by decide) ?_
      refine lv_iload_n hx hb dX9_isValue_53 rfl (lv_at hl 1 rfl) ?_
      refine lv_iconst (v := 0) hx hb dX9_isValue_54 (by decide) ?_
      refine lv_bipush (v := 7) hx hb dX9_isValue_55 (by decide) ?_
      refine x_rS (As := [.int p2, .int 0, .int 7]) (rest := []) ⟨hx, hb, hml, hown, hts⟩ (c_X9_isIn l D cT p2 0 7 _ hv) w_17 hK hS hN rfl hl.1 rfl (Nat.le_of_ble_eq_true rfl) dX9_isValue_57 ⟨Nat.le_of_ble_eq_true rfl, Nat.le_of_ble_eq_true rfl⟩ (fun r_7 hv => ?_)
      obtain ⟨h_8, hv⟩ := hv
      exact W.zret (v := r_7) hx hb hr (x_bool_n h_8) (fun t ht hW => ⟨_, rfl, hv, ht⟩) (fun q h => absurd h List.not_mem_nil) dX9_isValue_60
    | 3, _, c_2 =>
      have hv := hv.2.2.2.1 c_2
      refine lv_tableIn (off := 60) (tgt := 61) hx hb dX9_isValue_1 (by rw [c_2]; decide) (by rw [c_2]; decide) (by rw [c_2]; rfl) (by decide) ?_
      refine lv_iload_n hx hb dX9_isValue_61 rfl (lv_at hl 1 rfl) ?_
      refine lv_iconst (v := 0) hx hb dX9_isValue_62 (by decide) ?_
      refine lv_sipush (v := 255) hx hb dX9_isValue_63 (by decide) ?_
      refine x_rS (As := [.int p2, .int 0, .int 255]) (rest := []) ⟨hx, hb, hml, hown, hts⟩ (c_X9_isIn l D cT p2 0 255 _ hv) w_17 hK hS hN rfl hl.1 rfl (Nat.le_of_ble_eq_true rfl) dX9_isValue_66 ⟨Nat.le_of_ble_eq_true rfl, Nat.le_of_ble_eq_true rfl⟩ (fun r_9 hv => ?_)
      obtain ⟨h_10, hv⟩ := hv
      exact W.zret (v := r_9) hx hb hr (x_bool_n h_10) (fun t ht hW => ⟨_, rfl, hv, ht⟩) (fun q h => absurd h List.not_mem_nil) dX9_isValue_69
    | 4, _, c_2 =>
      have hv := hv.2.2.2.2.1 c_2
      refine lv_tableIn (off := 60) (tgt := 61) hx hb dX9_isValue_1 (by rw [c_2]; decide) (by rw [c_2]; decide) (by rw [c_2]; rfl) (by decide) ?_
      refine lv_iload_n hx hb dX9_isValue_61 rfl (lv_at hl 1 rfl) ?_
      refine lv_iconst (v := 0) hx hb dX9_isValue_62 (by decide) ?_
      refine lv_sipush (v := 255) hx hb dX9_isValue_63 (by decide) ?_
      refine x_rS (As := [.int p2, .int 0, .int 255]) (rest := []) ⟨hx, hb, hml, hown, hts⟩ (c_X9_isIn l D cT p2 0 255 _ hv) w_17 hK hS hN rfl hl.1 rfl (Nat.le_of_ble_eq_true rfl) dX9_isValue_66 ⟨Nat.le_of_ble_eq_true rfl, Nat.le_of_ble_eq_true rfl⟩ (fun r_11 hv => ?_)
      obtain ⟨h_12, hv⟩ := hv
      exact W.zret (v := r_11) hx hb hr (x_bool_n h_12) (fun t ht hW => ⟨_, rfl, hv, ht⟩) (fun q h => absurd h List.not_mem_nil) dX9_isValue_69
    | (k + 5), hk, _ => exact absurd hk (by omega)
  · have hv := hv.2.2.2.2.2 c_2
    refine lv_tableOut (tgt := 70) hx hb dX9_isValue_1 c_2 (by decide) ?_
    refine lv_iconst (v := 0) hx hb dX9_isValue_70 (by decide) ?_
    exact W.zret (v := 0) hx hb hr rfl (fun t ht hW => ⟨_, rfl, hv, ht⟩) (fun q h => absurd h List.not_mem_nil) dX9_isValue_71
def v_X9_bytesOf (p1 : Int32) (post : Int32 → Prop) : Prop := post (((p1 + 7) / 8) + 1)
set_option maxHeartbeats 4000000 in
set_option maxRecDepth 100000 in
theorem c_X9_bytesOf (l : Launch) (D : va_G) (cT : Nat → ClassId) (p1 : Int32) (post : Int32 → Prop) (hv : v_X9_bytesOf p1 post) : Met l yX9_bytesOf wsX9_bytesOf ({ frames := 0, cells := 0, slots := 0, locals := 0 }) (va_Pc [.int p1] (x_R D cT (([] : va_W)))) (vp_Si post) 0 0 (fun _ => False) := by
  refine Met.ofW (cc := cX9_bytesOf) (maxL := 1) (ret := (some .int)) (by decide) rfl ?_
  intro p e s m args below meth c s₁ B hml hpre
  obtain ⟨rfl, hP, hK, hN⟩ := hpre
  have hx := B.exec
  have hb := B.bytes
  have hr := B.returns
  have hts := atoms_spec (ws := wsX9_bytesOf) B.pre
  have hown : s.vm.findClass RX9 = some m.cls := findClass_of_methodNamed B.named
  have hlocks := B.notSynchronized
  have hS : va_S (fun _ : Nat => False) s.heap s.heap [] := va_S.rf
  have hl := lv_entry ([.int p1]) (n := 1) (Nat.le_of_ble_eq_true rfl)
  rw [lg_entry_eq]
  generalize (lg_sl ([.int p1]) ++ List.replicate (1 - (lg_sl ([.int p1])).length) Slot.unset).toArray = ls at hl ⊢
  have hl : lv_has ls 1 [(0, .int p1)] := hl
  refine lv_iload_n hx hb dX9_bytesOf_0 rfl (lv_at hl 0 rfl) ?_
  refine lv_bipush (v := 7) hx hb dX9_bytesOf_1 (by decide) ?_
  refine lv_iadd hx hb dX9_bytesOf_3 ?_
  refine lv_bipush (v := 8) hx hb dX9_bytesOf_4 (by decide) ?_
  refine lv_idiv hx hb dX9_bytesOf_6 (by decide) ?_
  refine lv_iconst (v := 1) hx hb dX9_bytesOf_7 (by decide) ?_
  refine lv_iadd hx hb dX9_bytesOf_8 ?_
  exact W.iret (v := (((p1 + 7) / 8) + 1)) hx hb hr (fun t ht hW => ⟨_, rfl, hv, ht⟩) (fun q h => absurd h List.not_mem_nil) dX9_bytesOf_9
def lp_X9_bitsOf_4 (p1 : Int32) (post : Int32 → Prop) (K_ : Int32 → Int32 → Prop) : Nat → Int32 → Int32 → Prop
  | 0, _, _ => False
  | n_6 + 1, y_4, y_5 => (((10 ≤ y_4) → K_ y_4 y_5) ∧ ((¬ (10 ≤ y_4)) → ∀ x_8 : Int32, x_8 = (y_5 + ((p1 >>> (y_4 &&& 31)) &&& 1)) → ∀ x_9 : Int32, x_9 = y_4 + 1 → lp_X9_bitsOf_4 p1 post K_ n_6 x_9 x_8))
def v_X9_bitsOf (p1 : Int32) (post : Int32 → Prop) : Prop := (∃ n_10 : Nat, lp_X9_bitsOf_4 p1 post (fun (y_2 : Int32) (y_3 : Int32) => post y_3) n_10 0 0)
set_option maxHeartbeats 4000000 in
set_option maxRecDepth 100000 in
theorem c_X9_bitsOf (l : Launch) (D : va_G) (cT : Nat → ClassId) (p1 : Int32) (post : Int32 → Prop) (hv : v_X9_bitsOf p1 post) : Met l yX9_bitsOf wsX9_bitsOf ({ frames := 0, cells := 0, slots := 0, locals := 0 }) (va_Pc [.int p1] (x_R D cT (([] : va_W)))) (vp_Si post) 0 0 (fun _ => False) := by
  refine Met.ofW (cc := cX9_bitsOf) (maxL := 3) (ret := (some .int)) (by decide) rfl ?_
  intro p e s m args below meth c s₁ B hml hpre
  obtain ⟨rfl, hP, hK, hN⟩ := hpre
  have hx := B.exec
  have hb := B.bytes
  have hr := B.returns
  have hts := atoms_spec (ws := wsX9_bitsOf) B.pre
  have hown : s.vm.findClass RX9 = some m.cls := findClass_of_methodNamed B.named
  have hlocks := B.notSynchronized
  have hS : va_S (fun _ : Nat => False) s.heap s.heap [] := va_S.rf
  have hl := lv_entry ([.int p1]) (n := 3) (Nat.le_of_ble_eq_true rfl)
  rw [lg_entry_eq]
  generalize (lg_sl ([.int p1]) ++ List.replicate (3 - (lg_sl ([.int p1])).length) Slot.unset).toArray = ls at hl ⊢
  have hl : lv_has ls 3 [(0, .int p1)] := hl
  refine lv_iconst (v := 0) hx hb dX9_bitsOf_0 (by decide) ?_
  refine lv_istore_n (lv' := [(1, .int 0), (0, .int p1)]) hx hb dX9_bitsOf_1 rfl hl (by decide) rfl (fun ls hl => ?_)
  refine lv_iconst (v := 0) hx hb dX9_bitsOf_2 (by decide) ?_
  refine lv_istore_n (lv' := [(2, .int 0), (1, .int 0), (0, .int p1)]) hx hb dX9_bitsOf_3 rfl hl (by decide) rfl (fun ls hl => ?_)
  obtain ⟨n_10, hv⟩ := hv
  have K_L_1 : ∀ (y_2 : Int32) (y_3 : Int32), (post y_3) → ∀ ls : Array Slot, lv_has ls 3 [(2, .int y_2), (1, .int y_3), (0, .int p1)] → W p l e (headSpec wsX9_bitsOf ({ frames := 0, cells := 0, slots := 0, locals := 0 })).room s m ([.int p1] : List Value).toArray below meth c s.heap [] 0 0 (MQ below (vp_Si post) ([.int p1] : List Value).toArray s 0 0 (fun _ => False)) (F0 m 24 ls []) := by
    intro y_2 y_3 hv ls hl
    refine lv_iload_n hx hb dX9_bitsOf_24 rfl (lv_at hl 1 rfl) ?_
    exact W.iret (v := y_3) hx hb hr (fun t ht hW => ⟨_, rfl, hv, ht⟩) (fun q h => absurd h List.not_mem_nil) dX9_bitsOf_25
  have L_1 : ∀ n_6 : Nat, ∀ (y_4 : Int32) (y_5 : Int32), (lp_X9_bitsOf_4 p1 post (fun (y_2 : Int32) (y_3 : Int32) => post y_3) n_6 y_4 y_5) → ∀ ls : Array Slot, lv_has ls 3 [(2, .int y_4), (1, .int y_5), (0, .int p1)] → W p l e (headSpec wsX9_bitsOf ({ frames := 0, cells := 0, slots := 0, locals := 0 })).room s m ([.int p1] : List Value).toArray below meth c s.heap [] 0 0 (MQ below (vp_Si post) ([.int p1] : List Value).toArray s 0 0 (fun _ => False)) (F0 m 4 ls []) := by
    intro n_6
    induction n_6 with
    | zero =>
      intro y_4 y_5 hv
      exact hv.elim
    | succ n_6 L_1_ih =>
      intro y_4 y_5 hv ls hl
      refine lv_iload_n hx hb dX9_bitsOf_4 rfl (lv_at hl 0 rfl) ?_
      refine lv_bipush (v := 10) hx hb dX9_bitsOf_5 (by decide) ?_
      refine lv_icmp_ge (tgt := 24) hx hb dX9_bitsOf_7 (by decide) (fun c_7 => ?_) (fun c_7 => ?_)
      · have hv := hv.1 c_7
        exact K_L_1 _ _ hv ls (lv_sub hl [0, 1, 2] rfl)
      · have hv := hv.2 c_7
        refine lv_iload_n hx hb dX9_bitsOf_10 rfl (lv_at hl 1 rfl) ?_
        refine lv_iload_n hx hb dX9_bitsOf_11 rfl (lv_at hl 2 rfl) ?_
        refine lv_iload_n hx hb dX9_bitsOf_12 rfl (lv_at hl 0 rfl) ?_
        refine lv_ishr hx hb dX9_bitsOf_13 ?_
        refine lv_iconst (v := 1) hx hb dX9_bitsOf_14 (by decide) ?_
        refine lv_iand hx hb dX9_bitsOf_15 ?_
        refine lv_iadd hx hb dX9_bitsOf_16 ?_
        refine lv_topi (fun x_8 ex_8 => ?_)
        have hv := hv x_8 ex_8
        refine lv_istore_n (lv' := [(1, .int x_8), (2, .int y_4), (0, .int p1)]) hx hb dX9_bitsOf_17 rfl hl (by decide) rfl (fun ls hl => ?_)
        obtain ⟨x_9, ex_9⟩ : ∃ z : Int32, z = y_4 + 1 := ⟨_, rfl⟩
        have hv := hv x_9 ex_9
        refine lv_iinc (v := x_9) (lv' := [(2, .int x_9), (1, .int x_8), (0, .int p1)]) hx hb dX9_bitsOf_18 hl (k := 1) rfl (by rw [ex_9]; rfl) (by decide) rfl (fun ls hl => ?_)
        refine lv_goto (tgt := 4) hx hb dX9_bitsOf_21 (by decide) ?_
        exact L_1_ih _ _ hv ls (lv_sub hl [0, 1, 2] rfl)
  exact L_1 n_10 _ _ hv ls hl
