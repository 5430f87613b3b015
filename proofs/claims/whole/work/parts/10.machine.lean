def v_X3_storeByte (M : ST) (p1 : Int32) (p2 : Int32) (post : ST → Prop) : Prop := ∃ k_1 : Nat, k_1 < 1024 ∧ (p1 &&& 1023) = nI k_1 ∧ ∀ M_2 : ST, M_2 = x_st M 26 k_1 (p2 &&& 255) → post M_2
set_option maxHeartbeats 4000000 in
set_option maxRecDepth 100000 in
theorem c_X3_storeByte (l : Launch) (D : va_G) (cT : Nat → ClassId) (a : Nat → Nat) (M : ST) (p1 : Int32) (p2 : Int32) (sz : Nat) (post : ST → Prop) (hv : v_X3_storeByte M p1 p2 post) : Met l yX3_storeByte wsX3_storeByte ({ frames := 0, cells := 0, slots := 0, locals := 0 }) (va_Pc [.ref (a 0), .int p1, .int p2] (x_U D cT ((w_Machine cT a M)) sz)) (va_Qv post (fun u t => x_B D cT ((w_Machine cT a u)) (va_A ((w_Machine cT a M)) sz) t) (va_A ((w_Machine cT a M)) sz)) 0 0 (va_A ((w_Machine cT a M)) sz) := by
  refine Met.ofW (cc := cX3_storeByte) (maxL := 3) (ret := none) (by decide) rfl ?_
  intro p e s m args below meth c s₁ B hml hpre
  obtain ⟨rfl, hsz, hP, hK, hD0, hN⟩ := hpre
  have hx := B.exec
  have hb := B.bytes
  have hr := B.returns
  have hts := atoms_spec (ws := wsX3_storeByte) B.pre
  have hown : s.vm.findClass RX3 = some m.cls := findClass_of_methodNamed B.named
  have hlocks := B.notSynchronized
  subst hsz
  have hD := hD0.self (sz := s.heap.size)
  generalize hAe : va_A ((w_Machine cT a M)) s.heap.size = A at hD hN ⊢
  have hA : ∀ q : Nat, s.heap.size ≤ q → A q := fun q h => by rw [← hAe]; exact Or.inr h
  have hS : va_S A s.heap s.heap [] := va_S.rf
  have hl := lv_entry ([.ref (a 0), .int p1, .int p2]) (n := 3) (Nat.le_of_ble_eq_true rfl)
  rw [lg_entry_eq]
  generalize (lg_sl ([.ref (a 0), .int p1, .int p2]) ++ List.replicate (3 - (lg_sl ([.ref (a 0), .int p1, .int p2])).length) Slot.unset).toArray = ls at hl ⊢
  have hl : lv_has ls 3 [(0, .ref (a 0)), (1, .int p1), (2, .int p2)] := hl
  have in_X3 : ∀ w ∈ wsX30, w ∈ wsX3_storeByte := by decide +kernel
  have kf_46 : (Cond.fieldLink RX3 46 "PictureBeats$Machine" "memory" "[I").before ([.ref (a 0), .int p1, .int p2] : List Value).toArray s = true := hts _ (by decide +kernel)
  refine lv_aload_n hx hb dX3_storeByte_0 rfl (lv_at hl 0 rfl) ?_
  refine va_get (D := D) (ci := 3) (v := .ref (a 26)) (C := RX3) (T := TX3) (N := 12) hx hb hts in_X3 hown hK hP 0 rfl rfl 5 (by decide) kf_46 (fun _ h9 => h9) rfl dX3_storeByte_1 ?_
  refine lv_iload_n hx hb dX3_storeByte_4 rfl (lv_at hl 1 rfl) ?_
  refine lv_sipush (v := 1023) hx hb dX3_storeByte_5 (by decide) ?_
  refine lv_iand hx hb dX3_storeByte_8 ?_
  refine lv_iload_n hx hb dX3_storeByte_9 rfl (lv_at hl 2 rfl) ?_
  refine lv_sipush (v := 255) hx hb dX3_storeByte_10 (by decide) ?_
  refine lv_iand hx hb dX3_storeByte_13 ?_
  obtain ⟨k_1, hk_1, ik_1, hv⟩ := hv
  refine x_ast hx hb hK hP hD hS 26 0 rfl rfl k_1 ik_1 hk_1 (by decide) dX3_storeByte_14 (fun H locs hP hD hS => ?_)
  obtain ⟨M_2, eM_2⟩ : ∃ z : ST, z = x_st M 26 k_1 (p2 &&& 255) := ⟨_, rfl⟩
  have hP : va_P D vwCl ((w_Machine cT a M_2)) H := by rw [eM_2]; exact hP
  have hD : va_D A ((w_Machine cT a M_2)) := by rw [eM_2]; exact hD
  have hv := hv M_2 eM_2
  exact W.vret hx hb hr (fun t ht hW => ⟨⟨M_2, rfl, hv, by rw [ht]; exact hP, va_K.moved hW.alike hK, hD⟩, hS.F ht⟩) hS.2.2 dX3_storeByte_15
def v_X3_isTaken (M : ST) (post : Int32 → Prop) : Prop := ((((M 0 8) ≤ 0) → post 0) ∧ ((¬ ((M 0 8) ≤ 0)) → ¬ ((M 0 8) = 0) ∧ (((¬ ((((M 0 9) >>> (((M 0 10) - (M 0 10) / (M 0 8) * (M 0 8)) &&& 31)) &&& 1) = 1)) → post 0) ∧ (((((M 0 9) >>> (((M 0 10) - (M 0 10) / (M 0 8) * (M 0 8)) &&& 31)) &&& 1) = 1) → post 1))))
set_option maxHeartbeats 4000000 in
set_option maxRecDepth 100000 in
theorem c_X3_isTaken (l : Launch) (D : va_G) (cT : Nat → ClassId) (a : Nat → Nat) (M : ST) (post : Int32 → Prop) (hv : v_X3_isTaken M post) : Met l yX3_isTaken wsX3_isTaken ({ frames := 0, cells := 0, slots := 0, locals := 0 }) (va_Pc [.ref (a 0)] (x_R D cT ((w_Machine cT a M)))) (vp_Si post) 0 0 (fun _ => False) := by
  refine Met.ofW (cc := cX3_isTaken) (maxL := 1) (ret := (some .boolean)) (by decide) rfl ?_
  intro p e s m args below meth c s₁ B hml hpre
  obtain ⟨rfl, hP, hK, hN⟩ := hpre
  have hx := B.exec
  have hb := B.bytes
  have hr := B.returns
  have hts := atoms_spec (ws := wsX3_isTaken) B.pre
  have hown : s.vm.findClass RX3 = some m.cls := findClass_of_methodNamed B.named
  have hlocks := B.notSynchronized
  have hS : va_S (fun _ : Nat => False) s.heap s.heap [] := va_S.rf
  have hl := lv_entry ([.ref (a 0)]) (n := 1) (Nat.le_of_ble_eq_true rfl)
  rw [lg_entry_eq]
  generalize (lg_sl ([.ref (a 0)]) ++ List.replicate (1 - (lg_sl ([.ref (a 0)])).length) Slot.unset).toArray = ls at hl ⊢
  have hl : lv_has ls 1 [(0, .ref (a 0))] := hl
  have in_X3 : ∀ w ∈ wsX30, w ∈ wsX3_isTaken := by decide +kernel
  have kf_56 : (Cond.fieldLink RX3 56 "PictureBeats$Machine" "period" "I").before ([.ref (a 0)] : List Value).toArray s = true := hts _ (by decide +kernel)
  have kf_66 : (Cond.fieldLink RX3 66 "PictureBeats$Machine" "pattern" "I").before ([.ref (a 0)] : List Value).toArray s = true := hts _ (by decide +kernel)
  have kf_69 : (Cond.fieldLink RX3 69 "PictureBeats$Machine" "ticks" "I").before ([.ref (a 0)] : List Value).toArray s = true := hts _ (by decide +kernel)
  refine lv_aload_n hx hb dX3_isTaken_0 rfl (lv_at hl 0 rfl) ?_
  refine va_get (D := D) (ci := 3) (v := .int (M 0 8)) (C := RX3) (T := TX3) (N := 12) hx hb hts in_X3 hown hK hP 0 rfl rfl 8 (by decide) kf_56 (fun _ h9 => h9) rfl dX3_isTaken_1 ?_
  refine lv_if_le (tgt := 31) hx hb dX3_isTaken_4 (by decide) (fun c_1 => ?_) (fun c_1 => ?_)
  · have hv := hv.1 c_1
    refine lv_iconst (v := 0) hx hb dX3_isTaken_31 (by decide) ?_
    exact W.zret (v := 0) hx hb hr rfl (fun t ht hW => ⟨_, rfl, hv, ht⟩) (fun q h => absurd h List.not_mem_nil) dX3_isTaken_32
  · have hv := hv.2 c_1
    refine lv_aload_n hx hb dX3_isTaken_7 rfl (lv_at hl 0 rfl) ?_
    refine va_get (D := D) (ci := 3) (v := .int (M 0 9)) (C := RX3) (T := TX3) (N := 12) hx hb hts in_X3 hown hK hP 0 rfl rfl 9 (by decide) kf_66 (fun _ h9 => h9) rfl dX3_isTaken_8 ?_
    refine lv_aload_n hx hb dX3_isTaken_11 rfl (lv_at hl 0 rfl) ?_
    refine va_get (D := D) (ci := 3) (v := .int (M 0 10)) (C := RX3) (T := TX3) (N := 12) hx hb hts in_X3 hown hK hP 0 rfl rfl 10 (by decide) kf_69 (fun _ h9 => h9) rfl dX3_isTaken_12 ?_
    refine lv_aload_n hx hb dX3_isTaken_15 rfl (lv_at hl 0 rfl) ?_
    refine va_get (D := D) (ci := 3) (v := .int (M 0 8)) (C := RX3) (T := TX3) (N := 12) hx hb hts in_X3 hown hK hP 0 rfl rfl 8 (by decide) kf_56 (fun _ h9 => h9) rfl dX3_isTaken_16 ?_
    obtain ⟨h_2, hv⟩ := hv
    refine lv_irem hx hb dX3_isTaken_19 h_2 ?_
    refine lv_ishr hx hb dX3_isTaken_20 ?_
    refine lv_iconst (v := 1) hx hb dX3_isTaken_21 (by decide) ?_
    refine lv_iand hx hb dX3_isTaken_22 ?_
    refine lv_iconst (v := 1) hx hb dX3_isTaken_23 (by decide) ?_
    refine lv_icmp_ne (tgt := 31) hx hb dX3_isTaken_24 (by decide) (fun c_3 => ?_) (fun c_3 => ?_)
    · have hv := hv.1 c_3
      refine lv_iconst (v := 0) hx hb dX3_isTaken_31 (by decide) ?_
      exact W.zret (v := 0) hx hb hr rfl (fun t ht hW => ⟨_, rfl, hv, ht⟩) (fun q h => absurd h List.not_mem_nil) dX3_isTaken_32
    · have hv := hv.2 c_3
      refine lv_iconst (v := 1) hx hb dX3_isTaken_27 (by decide) ?_
      refine lv_goto (tgt := 32) hx hb dX3_isTaken_28 (by decide) ?_
      exact W.zret (v := 1) hx hb hr rfl (fun t ht hW => ⟨_, rfl, hv, ht⟩) (fun q h => absurd h List.not_mem_nil) dX3_isTaken_32
def v_X3_startFeed_h (M : ST) (p2 : Int32) (p3 : Int32) (post : ST → Prop) : Prop := v_X6_isSeen (x_sh M 4) p2 (fun r_1 => (((r_1 = 0) → v_X4_rowOf (x_sh M 2) p2 p3 (fun r_3 => v_X2_startLine (x_sh M 11) r_3 0 (fun (u_4 : ST) => ∀ M_5 : ST, M_5 = x_wb M 11 2 u_4 → post M_5))) ∧ ((¬ (r_1 = 0)) → v_X8_bytesOfLine (M 3 0) (fun r_6 => v_X4_rowOf (x_sh M 2) p2 p3 (fun r_7 => v_X2_startLine (x_sh M 11) r_7 r_6 (fun (u_8 : ST) => ∀ M_9 : ST, M_9 = x_wb M 11 2 u_8 → post M_9))))))
set_option maxHeartbeats 4000000 in
set_option maxRecDepth 100000 in
theorem c_X3_startFeed_h (l : Launch) (D : va_G) (cT : Nat → ClassId) (a : Nat → Nat) (M : ST) (p2 : Int32) (p3 : Int32) (sz : Nat) (post : ST → Prop) (hv : v_X3_startFeed_h M p2 p3 post) : Met l yX3_startFeed wsX3_startFeed ({ frames := 1, cells := 0, slots := 0, locals := 22 }) (va_Pc [.ref (a 0), .ref (a 2), .int p2, .int p3] (x_U D cT ((w_Machine cT a M)) sz)) (va_Qv post (fun u t => x_B D cT ((w_Machine cT a u)) (va_A ((w_Machine cT a M)) sz) t) (va_A ((w_Machine cT a M)) sz)) 0 0 (va_A ((w_Machine cT a M)) sz) := by
  refine Met.ofW (cc := cX3_startFeed) (maxL := 5) (ret := none) (by decide) rfl ?_
  intro p e s m args below meth c s₁ B hml hpre
  obtain ⟨rfl, hsz, hP, hK, hD0, hN⟩ := hpre
  have hx := B.exec
  have hb := B.bytes
  have hr := B.returns
  have hts := atoms_spec (ws := wsX3_startFeed) B.pre
  have hown : s.vm.findClass RX3 = some m.cls := findClass_of_methodNamed B.named
  have hlocks := B.notSynchronized
  subst hsz
  have hD := hD0.self (sz := s.heap.size)
  generalize hAe : va_A ((w_Machine cT a M)) s.heap.size = A at hD hN ⊢
  have hA : ∀ q : Nat, s.heap.size ≤ q → A q := fun q h => by rw [← hAe]; exact Or.inr h
  have hS : va_S A s.heap s.heap [] := va_S.rf
  have hl := lv_entry ([.ref (a 0), .ref (a 2), .int p2, .int p3]) (n := 5) (Nat.le_of_ble_eq_true rfl)
  rw [lg_entry_eq]
  generalize (lg_sl ([.ref (a 0), .ref (a 2), .int p2, .int p3]) ++ List.replicate (5 - (lg_sl ([.ref (a 0), .ref (a 2), .int p2, .int p3])).length) Slot.unset).toArray = ls at hl ⊢
  have hl : lv_has ls 5 [(0, .ref (a 0)), (1, .ref (a 2)), (2, .int p2), (3, .int p3)] := hl
  have in_X3 : ∀ w ∈ wsX30, w ∈ wsX3_startFeed := by decide +kernel
  have in_X4 : ∀ w ∈ wsX40, w ∈ wsX3_startFeed := by decide +kernel
  have in_X6 : ∀ w ∈ wsX60, w ∈ wsX3_startFeed := by decide +kernel
  have kf_134 : (Cond.fieldLink RX3 134 "PictureBeats$Mode" "down" "LPictureBeats$Span;").before ([.ref (a 0), .ref (a 2), .int p2, .int p3] : List Value).toArray s = true := hts _ (by decide +kernel)
  have w_140 : CallW (headSpec wsX3_startFeed ({ frames := 1, cells := 0, slots := 0, locals := 22 })).room s ([.ref (a 0), .ref (a 2), .int p2, .int p3] : List Value).toArray RX3 RX6 140 yX6_isSeen cX6_isSeen 2 (some .boolean) wsX6_isSeen ({ frames := 0, cells := 0, slots := 0, locals := 0 } : Room) 0 0 1 := cwV 1 hts gX3_startFeed_X6_isSeen rfl rfl rfl (by decide +kernel) ⟨Nat.le_of_ble_eq_true rfl, Nat.le_of_ble_eq_true rfl⟩
  have kf_21 : (Cond.fieldLink RX3 21 "PictureBeats$Machine" "feed" "LPictureBeats$Feed;").before ([.ref (a 0), .ref (a 2), .int p2, .int p3] : List Value).toArray s = true := hts _ (by decide +kernel)
  have w_156 : CallW (headSpec wsX3_startFeed ({ frames := 1, cells := 0, slots := 0, locals := 22 })).room s ([.ref (a 0), .ref (a 2), .int p2, .int p3] : List Value).toArray RX3 RX4 156 yX4_rowOf cX4_rowOf 3 (some .int) wsX4_rowOf ({ frames := 0, cells := 0, slots := 0, locals := 0 } : Room) 0 0 2 := cwV 2 hts gX3_startFeed_X4_rowOf rfl rfl rfl (by decide +kernel) ⟨Nat.le_of_ble_eq_true rfl, Nat.le_of_ble_eq_true rfl⟩
  have w_160 : CallW (headSpec wsX3_startFeed ({ frames := 1, cells := 0, slots := 0, locals := 22 })).room s ([.ref (a 0), .ref (a 2), .int p2, .int p3] : List Value).toArray RX3 RX2 160 yX2_startLine cX2_startLine 3 none wsX2_startLine ({ frames := 0, cells := 0, slots := 0, locals := 0 } : Room) 0 0 2 := cwV 2 hts gX3_startFeed_X2_startLine rfl rfl rfl (by decide +kernel) ⟨Nat.le_of_ble_eq_true rfl, Nat.le_of_ble_eq_true rfl⟩
  have kf_146 : (Cond.fieldLink RX3 146 "PictureBeats$Mode" "across" "LPictureBeats$Span;").before ([.ref (a 0), .ref (a 2), .int p2, .int p3] : List Value).toArray s = true := hts _ (by decide +kernel)
  have kf_149 : (Cond.fieldLink RX3 149 "PictureBeats$Span" "seen" "I").before ([.ref (a 0), .ref (a 2), .int p2, .int p3] : List Value).toArray s = true := hts _ (by decide +kernel)
  have w_152 : va_CN (headSpec wsX3_startFeed ({ frames := 1, cells := 0, slots := 0, locals := 22 })).room s ([.ref (a 0), .ref (a 2), .int p2, .int p3] : List Value).toArray RX3 152 yX8_bytesOfLine RX8 cX8_bytesOfLine 1 (some .int) wsX8_bytesOfLine ({ frames := 0, cells := 0, slots := 0, locals := 0 } : Room) 0 0 1 ∧ (Cond.static yX8_bytesOfLine).before ([.ref (a 0), .ref (a 2), .int p2, .int p3] : List Value).toArray s = true ∧ True := ⟨va_cnB 1 hts gX3_startFeed_X8_bytesOfLine_n152 rfl rfl rfl (hN.1.2.2.2.2.2.2.2.2.1) (hts (.initialized RX8) (by decide +kernel)) (by decide +kernel) ⟨Nat.le_of_ble_eq_true rfl, Nat.le_of_ble_eq_true rfl⟩, hts _ (by decide +kernel), trivial⟩
  refine lv_aload_n hx hb dX3_startFeed_0 rfl (lv_at hl 1 rfl) ?_
  refine va_get (D := D) (ci := 4) (v := .ref (a 4)) (C := RX4) (T := TX4) (N := 3) hx hb hts in_X4 hown hK hP 2 rfl rfl 1 (by decide) kf_134 (fun _ h9 => h9) rfl dX3_startFeed_1 ?_
  refine lv_iload_n hx hb dX3_startFeed_4 rfl (lv_at hl 2 rfl) ?_
  refine x_rV (As := [.int p2]) (rest := []) ⟨hx, hb, hml, hown, hts⟩ (c_X6_isSeen l D cT (x_sh a 4) (x_sh M 4) p2 _ hv) w_140 hK hP hS hN [4] rfl 6 0 rfl rfl rfl hl.1 rfl (Nat.le_of_ble_eq_true rfl) dX3_startFeed_5 ⟨Nat.le_of_ble_eq_true rfl, Nat.le_of_ble_eq_true rfl⟩ (fun r_1 hv => ?_)
  refine lv_if_eq (tgt := 24) hx hb dX3_startFeed_8 (by decide) (fun c_2 => ?_) (fun c_2 => ?_)
  · have hv := hv.1 c_2
    refine lv_iconst (v := 0) hx hb dX3_startFeed_24 (by decide) ?_
    refine lv_istore (lv' := [(4, .int 0), (0, .ref (a 0)), (1, .ref (a 2)), (2, .int p2), (3, .int p3)]) hx hb dX3_startFeed_25 hl (by decide) rfl (fun ls hl => ?_)
    refine lv_aload_n hx hb dX3_startFeed_27 rfl (lv_at hl 1 rfl) ?_
    refine va_get (D := D) (ci := 3) (v := .ref (a 11)) (C := RX3) (T := TX3) (N := 12) hx hb hts in_X3 hown hK hP 0 rfl rfl 1 (by decide) kf_21 (fun _ h9 => h9) rfl dX3_startFeed_28 ?_
    refine lv_aload_n hx hb dX3_startFeed_31 rfl (lv_at hl 2 rfl) ?_
    refine lv_iload_n hx hb dX3_startFeed_32 rfl (lv_at hl 3 rfl) ?_
    refine lv_iload_n hx hb dX3_startFeed_33 rfl (lv_at hl 4 rfl) ?_
    refine x_rV (As := [.int p2, .int p3]) (rest := [.ref (a 11)]) ⟨hx, hb, hml, hown, hts⟩ (c_X4_rowOf l D cT (x_sh a 2) (x_sh M 2) p2 p3 _ hv) w_156 hK hP hS hN [2, 3, 4] rfl 4 0 rfl rfl rfl hl.1 rfl (Nat.le_of_ble_eq_true rfl) dX3_startFeed_34 ⟨Nat.le_of_ble_eq_true rfl, Nat.le_of_ble_eq_true rfl⟩ (fun r_3 hv => ?_)
    refine lv_iload hx hb dX3_startFeed_37 (lv_at hl 0 rfl) ?_
    refine x_cVv (As := [.int r_3, .int 0]) (rest := []) (wn := fun u_4 => (w_Machine cT a (x_wb M 11 2 u_4))) ⟨hx, hb, hml, hown, hts⟩ (c_X2_startLine l D cT (x_sh a 11) (x_sh M 11) r_3 0 _ _ hv) w_160 hK hP hD hS hA hN [11, 12] [0, 1, 2, 3, 4, 5, 6, 7, 8, 9, 10, 13, 14, 15, 16, 17, 18, 19, 20, 21, 22, 23, 24, 25, 26, 27, 28] [0, 1, 2, 3, 4, 5, 6, 7, 8, 9, 10, 27, 28, 11, 12, 13, 14, 15, 16, 17, 18, 19, 20, 21, 22, 23, 24, 25, 26] rfl rfl (fun _ => rfl) (by decide) (by decide) (by decide) (by decide) 2 0 rfl rfl rfl hl.1 rfl (Nat.le_of_ble_eq_true rfl) dX3_startFeed_39 ⟨Nat.le_of_ble_eq_true rfl, Nat.le_of_ble_eq_true rfl⟩ (fun u_4 H locs hv hP hD hS => ?_)
    obtain ⟨M_5, eM_5⟩ : ∃ z : ST, z = x_wb M 11 2 u_4 := ⟨_, rfl⟩
    have hP : va_P D vwCl ((w_Machine cT a M_5)) H := by rw [eM_5]; exact hP
    have hD : va_D A ((w_Machine cT a M_5)) := by rw [eM_5]; exact hD
    have hv := hv M_5 eM_5
    exact W.vret hx hb hr (fun t ht hW => ⟨⟨M_5, rfl, hv, by rw [ht]; exact hP, va_K.moved hW.alike hK, hD⟩, hS.F ht⟩) hS.2.2 dX3_startFeed_42
  · have hv := hv.2 c_2
    refine lv_aload_n hx hb dX3_startFeed_11 rfl (lv_at hl 1 rfl) ?_
    refine va_get (D := D) (ci := 4) (v := .ref (a 3)) (C := RX4) (T := TX4) (N := 3) hx hb hts in_X4 hown hK hP 2 rfl rfl 0 (by decide) kf_146 (fun _ h9 => h9) rfl dX3_startFeed_12 ?_
    refine va_get (D := D) (ci := 6) (v := .int (M 3 0)) (C := RX6) (T := TX6) (N := 4) hx hb hts in_X6 hown hK hP 3 rfl rfl 0 (by decide) kf_149 (fun _ h9 => h9) rfl dX3_startFeed_15 ?_
    refine x_rN (As := [.int (M 3 0)]) (rest := []) ⟨hx, hb, hml, hown, hts⟩ (c_X8_bytesOfLine l D cT (M 3 0) _ hv) w_152 hK hS hN rfl hl.1 rfl (Nat.le_of_ble_eq_true rfl) dX3_startFeed_18 ⟨Nat.le_of_ble_eq_true rfl, Nat.le_of_ble_eq_true rfl⟩ (fun r_6 hv => ?_)
    refine lv_goto (tgt := 25) hx hb dX3_startFeed_21 (by decide) ?_
    refine lv_istore (lv' := [(4, .int r_6), (0, .ref (a 0)), (1, .ref (a 2)), (2, .int p2), (3, .int p3)]) hx hb dX3_startFeed_25 hl (by decide) rfl (fun ls hl => ?_)
    refine lv_aload_n hx hb dX3_startFeed_27 rfl (lv_at hl 1 rfl) ?_
    refine va_get (D := D) (ci := 3) (v := .ref (a 11)) (C := RX3) (T := TX3) (N := 12) hx hb hts in_X3 hown hK hP 0 rfl rfl 1 (by decide) kf_21 (fun _ h9 => h9) rfl dX3_startFeed_28 ?_
    refine lv_aload_n hx hb dX3_startFeed_31 rfl (lv_at hl 2 rfl) ?_
    refine lv_iload_n hx hb dX3_startFeed_32 rfl (lv_at hl 3 rfl) ?_
    refine lv_iload_n hx hb dX3_startFeed_33 rfl (lv_at hl 4 rfl) ?_
    refine x_rV (As := [.int p2, .int p3]) (rest := [.ref (a 11)]) ⟨hx, hb, hml, hown, hts⟩ (c_X4_rowOf l D cT (x_sh a 2) (x_sh M 2) p2 p3 _ hv) w_156 hK hP hS hN [2, 3, 4] rfl 4 0 rfl rfl rfl hl.1 rfl (Nat.le_of_ble_eq_true rfl) dX3_startFeed_34 ⟨Nat.le_of_ble_eq_true rfl, Nat.le_of_ble_eq_true rfl⟩ (fun r_7 hv => ?_)
    refine lv_iload hx hb dX3_startFeed_37 (lv_at hl 0 rfl) ?_
    refine x_cVv (As := [.int r_7, .int r_6]) (rest := []) (wn := fun u_8 => (w_Machine cT a (x_wb M 11 2 u_8))) ⟨hx, hb, hml, hown, hts⟩ (c_X2_startLine l D cT (x_sh a 11) (x_sh M 11) r_7 r_6 _ _ hv) w_160 hK hP hD hS hA hN [11, 12] [0, 1, 2, 3, 4, 5, 6, 7, 8, 9, 10, 13, 14, 15, 16, 17, 18, 19, 20, 21, 22, 23, 24, 25, 26, 27, 28] [0, 1, 2, 3, 4, 5, 6, 7, 8, 9, 10, 27, 28, 11, 12, 13, 14, 15, 16, 17, 18, 19, 20, 21, 22, 23, 24, 25, 26] rfl rfl (fun _ => rfl) (by decide) (by decide) (by decide) (by decide) 2 0 rfl rfl rfl hl.1 rfl (Nat.le_of_ble_eq_true rfl) dX3_startFeed_39 ⟨Nat.le_of_ble_eq_true rfl, Nat.le_of_ble_eq_true rfl⟩ (fun u_8 H locs hv hP hD hS => ?_)
    obtain ⟨M_9, eM_9⟩ : ∃ z : ST, z = x_wb M 11 2 u_8 := ⟨_, rfl⟩
    have hP : va_P D vwCl ((w_Machine cT a M_9)) H := by rw [eM_9]; exact hP
    have hD : va_D A ((w_Machine cT a M_9)) := by rw [eM_9]; exact hD
    have hv := hv M_9 eM_9
    exact W.vret hx hb hr (fun t ht hW => ⟨⟨M_9, rfl, hv, by rw [ht]; exact hP, va_K.moved hW.alike hK, hD⟩, hS.F ht⟩) hS.2.2 dX3_startFeed_42
def v_X3_startFeed_t (M : ST) (p2 : Int32) (p3 : Int32) (post : ST → Prop) : Prop := v_X6_isSeen (x_sh M 7) p2 (fun r_1 => (((r_1 = 0) → v_X4_rowOf (x_sh M 5) p2 p3 (fun r_3 => v_X2_startLine (x_sh M 11) r_3 0 (fun (u_4 : ST) => ∀ M_5 : ST, M_5 = x_wb M 11 2 u_4 → post M_5))) ∧ ((¬ (r_1 = 0)) → v_X8_bytesOfLine (M 6 0) (fun r_6 => v_X4_rowOf (x_sh M 5) p2 p3 (fun r_7 => v_X2_startLine (x_sh M 11) r_7 r_6 (fun (u_8 : ST) => ∀ M_9 : ST, M_9 = x_wb M 11 2 u_8 → post M_9))))))
set_option maxHeartbeats 4000000 in
set_option maxRecDepth 100000 in
theorem c_X3_startFeed_t (l : Launch) (D : va_G) (cT : Nat → ClassId) (a : Nat → Nat) (M : ST) (p2 : Int32) (p3 : Int32) (sz : Nat) (post : ST → Prop) (hv : v_X3_startFeed_t M p2 p3 post) : Met l yX3_startFeed wsX3_startFeed ({ frames := 1, cells := 0, slots := 0, locals := 22 }) (va_Pc [.ref (a 0), .ref (a 5), .int p2, .int p3] (x_U D cT ((w_Machine cT a M)) sz)) (va_Qv post (fun u t => x_B D cT ((w_Machine cT a u)) (va_A ((w_Machine cT a M)) sz) t) (va_A ((w_Machine cT a M)) sz)) 0 0 (va_A ((w_Machine cT a M)) sz) := by
  refine Met.ofW (cc := cX3_startFeed) (maxL := 5) (ret := none) (by decide) rfl ?_
  intro p e s m args below meth c s₁ B hml hpre
  obtain ⟨rfl, hsz, hP, hK, hD0, hN⟩ := hpre
  have hx := B.exec
  have hb := B.bytes
  have hr := B.returns
  have hts := atoms_spec (ws := wsX3_startFeed) B.pre
  have hown : s.vm.findClass RX3 = some m.cls := findClass_of_methodNamed B.named
  have hlocks := B.notSynchronized
  subst hsz
  have hD := hD0.self (sz := s.heap.size)
  generalize hAe : va_A ((w_Machine cT a M)) s.heap.size = A at hD hN ⊢
  have hA : ∀ q : Nat, s.heap.size ≤ q → A q := fun q h => by rw [← hAe]; exact Or.inr h
  have hS : va_S A s.heap s.heap [] := va_S.rf
  have hl := lv_entry ([.ref (a 0), .ref (a 5), .int p2, .int p3]) (n := 5) (Nat.le_of_ble_eq_true rfl)
  rw [lg_entry_eq]
  generalize (lg_sl ([.ref (a 0), .ref (a 5), .int p2, .int p3]) ++ List.replicate (5 - (lg_sl ([.ref (a 0), .ref (a 5), .int p2, .int p3])).length) Slot.unset).toArray = ls at hl ⊢
  have hl : lv_has ls 5 [(0, .ref (a 0)), (1, .ref (a 5)), (2, .int p2), (3, .int p3)] := hl
  have in_X3 : ∀ w ∈ wsX30, w ∈ wsX3_startFeed := by decide +kernel
  have in_X4 : ∀ w ∈ wsX40, w ∈ wsX3_startFeed := by decide +kernel
  have in_X6 : ∀ w ∈ wsX60, w ∈ wsX3_startFeed := by decide +kernel
  have kf_134 : (Cond.fieldLink RX3 134 "PictureBeats$Mode" "down" "LPictureBeats$Span;").before ([.ref (a 0), .ref (a 5), .int p2, .int p3] : List Value).toArray s = true := hts _ (by decide +kernel)
  have w_140 : CallW (headSpec wsX3_startFeed ({ frames := 1, cells := 0, slots := 0, locals := 22 })).room s ([.ref (a 0), .ref (a 5), .int p2, .int p3] : List Value).toArray RX3 RX6 140 yX6_isSeen cX6_isSeen 2 (some .boolean) wsX6_isSeen ({ frames := 0, cells := 0, slots := 0, locals := 0 } : Room) 0 0 1 := cwV 1 hts gX3_startFeed_X6_isSeen rfl rfl rfl (by decide +kernel) ⟨Nat.le_of_ble_eq_true rfl, Nat.le_of_ble_eq_true rfl⟩
  have kf_21 : (Cond.fieldLink RX3 21 "PictureBeats$Machine" "feed" "LPictureBeats$Feed;").before ([.ref (a 0), .ref (a 5), .int p2, .int p3] : List Value).toArray s = true := hts _ (by decide +kernel)
  have w_156 : CallW (headSpec wsX3_startFeed ({ frames := 1, cells := 0, slots := 0, locals := 22 })).room s ([.ref (a 0), .ref (a 5), .int p2, .int p3] : List Value).toArray RX3 RX4 156 yX4_rowOf cX4_rowOf 3 (some .int) wsX4_rowOf ({ frames := 0, cells := 0, slots := 0, locals := 0 } : Room) 0 0 2 := cwV 2 hts gX3_startFeed_X4_rowOf rfl rfl rfl (by decide +kernel) ⟨Nat.le_of_ble_eq_true rfl, Nat.le_of_ble_eq_true rfl⟩
  have w_160 : CallW (headSpec wsX3_startFeed ({ frames := 1, cells := 0, slots := 0, locals := 22 })).room s ([.ref (a 0), .ref (a 5), .int p2, .int p3] : List Value).toArray RX3 RX2 160 yX2_startLine cX2_startLine 3 none wsX2_startLine ({ frames := 0, cells := 0, slots := 0, locals := 0 } : Room) 0 0 2 := cwV 2 hts gX3_startFeed_X2_startLine rfl rfl rfl (by decide +kernel) ⟨Nat.le_of_ble_eq_true rfl, Nat.le_of_ble_eq_true rfl⟩
  have kf_146 : (Cond.fieldLink RX3 146 "PictureBeats$Mode" "across" "LPictureBeats$Span;").before ([.ref (a 0), .ref (a 5), .int p2, .int p3] : List Value).toArray s = true := hts _ (by decide +kernel)
  have kf_149 : (Cond.fieldLink RX3 149 "PictureBeats$Span" "seen" "I").before ([.ref (a 0), .ref (a 5), .int p2, .int p3] : List Value).toArray s = true := hts _ (by decide +kernel)
  have w_152 : va_CN (headSpec wsX3_startFeed ({ frames := 1, cells := 0, slots := 0, locals := 22 })).room s ([.ref (a 0), .ref (a 5), .int p2, .int p3] : List Value).toArray RX3 152 yX8_bytesOfLine RX8 cX8_bytesOfLine 1 (some .int) wsX8_bytesOfLine ({ frames := 0, cells := 0, slots := 0, locals := 0 } : Room) 0 0 1 ∧ (Cond.static yX8_bytesOfLine).before ([.ref (a 0), .ref (a 5), .int p2, .int p3] : List Value).toArray s = true ∧ True := ⟨va_cnB 1 hts gX3_startFeed_X8_bytesOfLine_n152 rfl rfl rfl (hN.1.2.2.2.2.2.2.2.2.1) (hts (.initialized RX8) (by decide +kernel)) (by decide +kernel) ⟨Nat.le_of_ble_eq_true rfl, Nat.le_of_ble_eq_true rfl⟩, hts _ (by decide +kernel), trivial⟩
  refine lv_aload_n hx hb dX3_startFeed_0 rfl (lv_at hl 1 rfl) ?_
  refine va_get (D := D) (ci := 4) (v := .ref (a 7)) (C := RX4) (T := TX4) (N := 3) hx hb hts in_X4 hown hK hP 5 rfl rfl 1 (by decide) kf_134 (fun _ h9 => h9) rfl dX3_startFeed_1 ?_
  refine lv_iload_n hx hb dX3_startFeed_4 rfl (lv_at hl 2 rfl) ?_
  refine x_rV (As := [.int p2]) (rest := []) ⟨hx, hb, hml, hown, hts⟩ (c_X6_isSeen l D cT (x_sh a 7) (x_sh M 7) p2 _ hv) w_140 hK hP hS hN [7] rfl 6 0 rfl rfl rfl hl.1 rfl (Nat.le_of_ble_eq_true rfl) dX3_startFeed_5 ⟨Nat.le_of_ble_eq_true rfl, Nat.le_of_ble_eq_true rfl⟩ (fun r_1 hv => ?_)
  refine lv_if_eq (tgt := 24) hx hb dX3_startFeed_8 (by decide) (fun c_2 => ?_) (fun c_2 => ?_)
  · have hv := hv.1 c_2
    refine lv_iconst (v := 0) hx hb dX3_startFeed_24 (by decide) ?_
    refine lv_istore (lv' := [(4, .int 0), (0, .ref (a 0)), (1, .ref (a 5)), (2, .int p2), (3, .int p3)]) hx hb dX3_startFeed_25 hl (by decide) rfl (fun ls hl => ?_)
    refine lv_aload_n hx hb dX3_startFeed_27 rfl (lv_at hl 1 rfl) ?_
    refine va_get (D := D) (ci := 3) (v := .ref (a 11)) (C := RX3) (T := TX3) (N := 12) hx hb hts in_X3 hown hK hP 0 rfl rfl 1 (by decide) kf_21 (fun _ h9 => h9) rfl dX3_startFeed_28 ?_
    refine lv_aload_n hx hb dX3_startFeed_31 rfl (lv_at hl 2 rfl) ?_
    refine lv_iload_n hx hb dX3_startFeed_32 rfl (lv_at hl 3 rfl) ?_
    refine lv_iload_n hx hb dX3_startFeed_33 rfl (lv_at hl 4 rfl) ?_
    refine x_rV (As := [.int p2, .int p3]) (rest := [.ref (a 11)]) ⟨hx, hb, hml, hown, hts⟩ (c_X4_rowOf l D cT (x_sh a 5) (x_sh M 5) p2 p3 _ hv) w_156 hK hP hS hN [5, 6, 7] rfl 4 0 rfl rfl rfl hl.1 rfl (Nat.le_of_ble_eq_true rfl) dX3_startFeed_34 ⟨Nat.le_of_ble_eq_true rfl, Nat.le_of_ble_eq_true rfl⟩ (fun r_3 hv => ?_)
    refine lv_iload hx hb dX3_startFeed_37 (lv_at hl 0 rfl) ?_
    refine x_cVv (As := [.int r_3, .int 0]) (rest := []) (wn := fun u_4 => (w_Machine cT a (x_wb M 11 2 u_4))) ⟨hx, hb, hml, hown, hts⟩ (c_X2_startLine l D cT (x_sh a 11) (x_sh M 11) r_3 0 _ _ hv) w_160 hK hP hD hS hA hN [11, 12] [0, 1, 2, 3, 4, 5, 6, 7, 8, 9, 10, 13, 14, 15, 16, 17, 18, 19, 20, 21, 22, 23, 24, 25, 26, 27, 28] [0, 1, 2, 3, 4, 5, 6, 7, 8, 9, 10, 27, 28, 11, 12, 13, 14, 15, 16, 17, 18, 19, 20, 21, 22, 23, 24, 25, 26] rfl rfl (fun _ => rfl) (by decide) (by decide) (by decide) (by decide) 2 0 rfl rfl rfl hl.1 rfl (Nat.le_of_ble_eq_true rfl) dX3_startFeed_39 ⟨Nat.le_of_ble_eq_true rfl, Nat.le_of_ble_eq_true rfl⟩ (fun u_4 H locs hv hP hD hS => ?_)
    obtain ⟨M_5, eM_5⟩ : ∃ z : ST, z = x_wb M 11 2 u_4 := ⟨_, rfl⟩
    have hP : va_P D vwCl ((w_Machine cT a M_5)) H := by rw [eM_5]; exact hP
    have hD : va_D A ((w_Machine cT a M_5)) := by rw [eM_5]; exact hD
    have hv := hv M_5 eM_5
    exact W.vret hx hb hr (fun t ht hW => ⟨⟨M_5, rfl, hv, by rw [ht]; exact hP, va_K.moved hW.alike hK, hD⟩, hS.F ht⟩) hS.2.2 dX3_startFeed_42
  · have hv := hv.2 c_2
    refine lv_aload_n hx hb dX3_startFeed_11 rfl (lv_at hl 1 rfl) ?_
    refine va_get (D := D) (ci := 4) (v := .ref (a 6)) (C := RX4) (T := TX4) (N := 3) hx hb hts in_X4 hown hK hP 5 rfl rfl 0 (by decide) kf_146 (fun _ h9 => h9) rfl dX3_startFeed_12 ?_
    refine va_get (D := D) (ci := 6) (v := .int (M 6 0)) (C := RX6) (T := TX6) (N := 4) hx hb hts in_X6 hown hK hP 6 rfl rfl 0 (by decide) kf_149 (fun _ h9 => h9) rfl dX3_startFeed_15 ?_
    refine x_rN (As := [.int (M 6 0)]) (rest := []) ⟨hx, hb, hml, hown, hts⟩ (c_X8_bytesOfLine l D cT (M 6 0) _ hv) w_152 hK hS hN rfl hl.1 rfl (Nat.le_of_ble_eq_true rfl) dX3_startFeed_18 ⟨Nat.le_of_ble_eq_true rfl, Nat.le_of_ble_eq_true rfl⟩ (fun r_6 hv => ?_)
    refine lv_goto (tgt := 25) hx hb dX3_startFeed_21 (by decide) ?_
    refine lv_istore (lv' := [(4, .int r_6), (0, .ref (a 0)), (1, .ref (a 5)), (2, .int p2), (3, .int p3)]) hx hb dX3_startFeed_25 hl (by decide) rfl (fun ls hl => ?_)
    refine lv_aload_n hx hb dX3_startFeed_27 rfl (lv_at hl 1 rfl) ?_
    refine va_get (D := D) (ci := 3) (v := .ref (a 11)) (C := RX3) (T := TX3) (N := 12) hx hb hts in_X3 hown hK hP 0 rfl rfl 1 (by decide) kf_21 (fun _ h9 => h9) rfl dX3_startFeed_28 ?_
    refine lv_aload_n hx hb dX3_startFeed_31 rfl (lv_at hl 2 rfl) ?_
    refine lv_iload_n hx hb dX3_startFeed_32 rfl (lv_at hl 3 rfl) ?_
    refine lv_iload_n hx hb dX3_startFeed_33 rfl (lv_at hl 4 rfl) ?_
    refine x_rV (As := [.int p2, .int p3]) (rest := [.ref (a 11)]) ⟨hx, hb, hml, hown, hts⟩ (c_X4_rowOf l D cT (x_sh a 5) (x_sh M 5) p2 p3 _ hv) w_156 hK hP hS hN [5, 6, 7] rfl 4 0 rfl rfl rfl hl.1 rfl (Nat.le_of_ble_eq_true rfl) dX3_startFeed_34 ⟨Nat.le_of_ble_eq_true rfl, Nat.le_of_ble_eq_true rfl⟩ (fun r_7 hv => ?_)
    refine lv_iload hx hb dX3_startFeed_37 (lv_at hl 0 rfl) ?_
    refine x_cVv (As := [.int r_7, .int r_6]) (rest := []) (wn := fun u_8 => (w_Machine cT a (x_wb M 11 2 u_8))) ⟨hx, hb, hml, hown, hts⟩ (c_X2_startLine l D cT (x_sh a 11) (x_sh M 11) r_7 r_6 _ _ hv) w_160 hK hP hD hS hA hN [11, 12] [0, 1, 2, 3, 4, 5, 6, 7, 8, 9, 10, 13, 14, 15, 16, 17, 18, 19, 20, 21, 22, 23, 24, 25, 26, 27, 28] [0, 1, 2, 3, 4, 5, 6, 7, 8, 9, 10, 27, 28, 11, 12, 13, 14, 15, 16, 17, 18, 19, 20, 21, 22, 23, 24, 25, 26] rfl rfl (fun _ => rfl) (by decide) (by decide) (by decide) (by decide) 2 0 rfl rfl rfl hl.1 rfl (Nat.le_of_ble_eq_true rfl) dX3_startFeed_39 ⟨Nat.le_of_ble_eq_true rfl, Nat.le_of_ble_eq_true rfl⟩ (fun u_8 H locs hv hP hD hS => ?_)
    obtain ⟨M_9, eM_9⟩ : ∃ z : ST, z = x_wb M 11 2 u_8 := ⟨_, rfl⟩
    have hP : va_P D vwCl ((w_Machine cT a M_9)) H := by rw [eM_9]; exact hP
    have hD : va_D A ((w_Machine cT a M_9)) := by rw [eM_9]; exact hD
    have hv := hv M_9 eM_9
    exact W.vret hx hb hr (fun t ht hW => ⟨⟨M_9, rfl, hv, by rw [ht]; exact hP, va_K.moved hW.alike hK, hD⟩, hS.F ht⟩) hS.2.2 dX3_startFeed_42
def v_X3_turnToNextLine (M : ST) (post : ST → Prop) : Prop := v_X0_isOnLastLine (x_sh M 1) (fun r_1 => (((r_1 = 0) → v_X3_startFeed_h M ((M 1 4) + 1) (M 1 5) (fun (u_3 : ST) => post u_3)) ∧ ((¬ (r_1 = 0)) → v_X0_takeUp (x_sh M 1) (fun (u_4 : ST) => ∀ M_5 : ST, M_5 = x_wb M 1 10 u_4 → v_X3_startFeed_t M_5 0 (M_5 1 6) (fun (u_6 : ST) => post u_6)))))
set_option maxHeartbeats 4000000 in
set_option maxRecDepth 100000 in
theorem c_X3_turnToNextLine (l : Launch) (D : va_G) (cT : Nat → ClassId) (a : Nat → Nat) (M : ST) (sz : Nat) (post : ST → Prop) (hv : v_X3_turnToNextLine M post) : Met l yX3_turnToNextLine wsX3_turnToNextLine ({ frames := 4, cells := 0, slots := 0, locals := 86 }) (va_Pc [.ref (a 0)] (x_U D cT ((w_Machine cT a M)) sz)) (va_Qv post (fun u t => x_B D cT ((w_Machine cT a u)) (va_A ((w_Machine cT a M)) sz) t) (va_A ((w_Machine cT a M)) sz)) 0 0 (va_A ((w_Machine cT a M)) sz) := by
  refine Met.ofW (cc := cX3_turnToNextLine) (maxL := 1) (ret := none) (by decide) rfl ?_
  intro p e s m args below meth c s₁ B hml hpre
  obtain ⟨rfl, hsz, hP, hK, hD0, hN⟩ := hpre
  have hx := B.exec
  have hb := B.bytes
  have hr := B.returns
  have hts := atoms_spec (ws := wsX3_turnToNextLine) B.pre
  have hown : s.vm.findClass RX3 = some m.cls := findClass_of_methodNamed B.named
  have hlocks := B.notSynchronized
  subst hsz
  have hD := hD0.self (sz := s.heap.size)
  generalize hAe : va_A ((w_Machine cT a M)) s.heap.size = A at hD hN ⊢
  have hA : ∀ q : Nat, s.heap.size ≤ q → A q := fun q h => by rw [← hAe]; exact Or.inr h
  have hS : va_S A s.heap s.heap [] := va_S.rf
  have hl := lv_entry ([.ref (a 0)]) (n := 1) (Nat.le_of_ble_eq_true rfl)
  rw [lg_entry_eq]
  generalize (lg_sl ([.ref (a 0)]) ++ List.replicate (1 - (lg_sl ([.ref (a 0)])).length) Slot.unset).toArray = ls at hl ⊢
  have hl : lv_has ls 1 [(0, .ref (a 0))] := hl
  have in_X0 : ∀ w ∈ wsX00, w ∈ wsX3_turnToNextLine := by decide +kernel
  have in_X3 : ∀ w ∈ wsX30, w ∈ wsX3_turnToNextLine := by decide +kernel
  have kf_12 : (Cond.fieldLink RX3 12 "PictureBeats$Machine" "beam" "LPictureBeats$Beam;").before ([.ref (a 0)] : List Value).toArray s = true := hts _ (by decide +kernel)
  have w_111 : CallW (headSpec wsX3_turnToNextLine ({ frames := 4, cells := 0, slots := 0, locals := 86 })).room s ([.ref (a 0)] : List Value).toArray RX3 RX0 111 yX0_isOnLastLine cX0_isOnLastLine 1 (some .boolean) wsX0_isOnLastLine ({ frames := 1, cells := 0, slots := 0, locals := 20 } : Room) 0 0 0 := cwV 0 hts gX3_turnToNextLine_X0_isOnLastLine rfl rfl rfl (by decide +kernel) ⟨Nat.le_of_ble_eq_true rfl, Nat.le_of_ble_eq_true rfl⟩
  have kf_128 : (Cond.fieldLink RX3 128 "PictureBeats$Beam" "holding" "LPictureBeats$Mode;").before ([.ref (a 0)] : List Value).toArray s = true := hts _ (by decide +kernel)
  have kf_72 : (Cond.fieldLink RX3 72 "PictureBeats$Beam" "y" "I").before ([.ref (a 0)] : List Value).toArray s = true := hts _ (by decide +kernel)
  have kf_131 : (Cond.fieldLink RX3 131 "PictureBeats$Beam" "field" "I").before ([.ref (a 0)] : List Value).toArray s = true := hts _ (by decide +kernel)
  have w_124_h : CallW (headSpec wsX3_turnToNextLine ({ frames := 4, cells := 0, slots := 0, locals := 86 })).room s ([.ref (a 0)] : List Value).toArray RX3 RX3 124 yX3_startFeed cX3_startFeed 5 none wsX3_startFeed ({ frames := 1, cells := 0, slots := 0, locals := 22 } : Room) 0 0 3 := cwV 3 hts gX3_turnToNextLine_X3_startFeed rfl rfl rfl (by decide +kernel) ⟨Nat.le_of_ble_eq_true rfl, Nat.le_of_ble_eq_true rfl⟩
  have w_114 : CallW (headSpec wsX3_turnToNextLine ({ frames := 4, cells := 0, slots := 0, locals := 86 })).room s ([.ref (a 0)] : List Value).toArray RX3 RX0 114 yX0_takeUp cX0_takeUp 1 none wsX0_takeUp ({ frames := 3, cells := 0, slots := 0, locals := 66 } : Room) 0 0 0 := cwV 0 hts gX3_turnToNextLine_X0_takeUp rfl rfl rfl (by decide +kernel) ⟨Nat.le_of_ble_eq_true rfl, Nat.le_of_ble_eq_true rfl⟩
  have kf_117 : (Cond.fieldLink RX3 117 "PictureBeats$Beam" "takenUp" "LPictureBeats$Mode;").before ([.ref (a 0)] : List Value).toArray s = true := hts _ (by decide +kernel)
  have kf_121 : (Cond.fieldLink RX3 121 "PictureBeats$Beam" "nextField" "I").before ([.ref (a 0)] : List Value).toArray s = true := hts _ (by decide +kernel)
  have w_124_t : CallW (headSpec wsX3_turnToNextLine ({ frames := 4, cells := 0, slots := 0, locals := 86 })).room s ([.ref (a 0)] : List Value).toArray RX3 RX3 124 yX3_startFeed cX3_startFeed 5 none wsX3_startFeed ({ frames := 1, cells := 0, slots := 0, locals := 22 } : Room) 0 0 3 := cwV 3 hts gX3_turnToNextLine_X3_startFeed rfl rfl rfl (by decide +kernel) ⟨Nat.le_of_ble_eq_true rfl, Nat.le_of_ble_eq_true rfl⟩
  refine lv_aload_n hx hb dX3_turnToNextLine_0 rfl (lv_at hl 0 rfl) ?_
  refine va_get (D := D) (ci := 3) (v := .ref (a 1)) (C := RX3) (T := TX3) (N := 12) hx hb hts in_X3 hown hK hP 0 rfl rfl 0 (by decide) kf_12 (fun _ h9 => h9) rfl dX3_turnToNextLine_1 ?_
  refine x_rV (As := []) (rest := []) ⟨hx, hb, hml, hown, hts⟩ (c_X0_isOnLastLine l D cT (x_sh a 1) (x_sh M 1) _ hv) w_111 hK hP hS hN [1, 2, 3, 4, 5, 6, 7, 8, 9, 10] rfl 0 0 rfl rfl rfl hl.1 rfl (Nat.le_of_ble_eq_true rfl) dX3_turnToNextLine_4 ⟨Nat.le_of_ble_eq_true rfl, Nat.le_of_ble_eq_true rfl⟩ (fun r_1 hv => ?_)
  refine lv_if_eq (tgt := 39) hx hb dX3_turnToNextLine_7 (by decide) (fun c_2 => ?_) (fun c_2 => ?_)
  · have hv := hv.1 c_2
    refine lv_aload_n hx hb dX3_turnToNextLine_39 rfl (lv_at hl 0 rfl) ?_
    refine lv_aload_n hx hb dX3_turnToNextLine_40 rfl (lv_at hl 0 rfl) ?_
    refine va_get (D := D) (ci := 3) (v := .ref (a 1)) (C := RX3) (T := TX3) (N := 12) hx hb hts in_X3 hown hK hP 0 rfl rfl 0 (by decide) kf_12 (fun _ h9 => h9) rfl dX3_turnToNextLine_41 ?_
    refine va_get (D := D) (ci := 0) (v := .ref (a 2)) (C := RX0) (T := TX0) (N := 7) hx hb hts in_X0 hown hK hP 1 rfl rfl 0 (by decide) kf_128 (fun _ h9 => h9) rfl dX3_turnToNextLine_44 ?_
    refine lv_aload_n hx hb dX3_turnToNextLine_47 rfl (lv_at hl 0 rfl) ?_
    refine va_get (D := D) (ci := 3) (v := .ref (a 1)) (C := RX3) (T := TX3) (N := 12) hx hb hts in_X3 hown hK hP 0 rfl rfl 0 (by decide) kf_12 (fun _ h9 => h9) rfl dX3_turnToNextLine_48 ?_
    refine va_get (D := D) (ci := 0) (v := .int (M 1 4)) (C := RX0) (T := TX0) (N := 7) hx hb hts in_X0 hown hK hP 1 rfl rfl 4 (by decide) kf_72 (fun _ h9 => h9) rfl dX3_turnToNextLine_51 ?_
    refine lv_iconst (v := 1) hx hb dX3_turnToNextLine_54 (by decide) ?_
    refine lv_iadd hx hb dX3_turnToNextLine_55 ?_
    refine lv_aload_n hx hb dX3_turnToNextLine_56 rfl (lv_at hl 0 rfl) ?_
    refine va_get (D := D) (ci := 3) (v := .ref (a 1)) (C := RX3) (T := TX3) (N := 12) hx hb hts in_X3 hown hK hP 0 rfl rfl 0 (by decide) kf_12 (fun _ h9 => h9) rfl dX3_turnToNextLine_57 ?_
    refine va_get (D := D) (ci := 0) (v := .int (M 1 5)) (C := RX0) (T := TX0) (N := 7) hx hb hts in_X0 hown hK hP 1 rfl rfl 5 (by decide) kf_131 (fun _ h9 => h9) rfl dX3_turnToNextLine_60 ?_
    refine x_cVv (As := [.ref (a 2), .int ((M 1 4) + 1), .int (M 1 5)]) (rest := []) (wn := fun u_3 => (w_Machine cT a u_3)) ⟨hx, hb, hml, hown, hts⟩ (c_X3_startFeed_h l D cT a M ((M 1 4) + 1) (M 1 5) _ _ hv) w_124_h hK hP hD hS hA hN [0, 1, 2, 3, 4, 5, 6, 7, 8, 9, 10, 11, 12, 13, 14, 15, 16, 17, 18, 19, 20, 21, 22, 23, 24, 25, 26, 27, 28] [] [0, 1, 2, 3, 4, 5, 6, 7, 8, 9, 10, 11, 12, 13, 14, 15, 16, 17, 18, 19, 20, 21, 22, 23, 24, 25, 26, 27, 28] rfl rfl (fun _ => rfl) (by decide) (by decide) (by decide) (by decide) 3 0 rfl rfl rfl hl.1 rfl (Nat.le_of_ble_eq_true rfl) dX3_turnToNextLine_63 ⟨Nat.le_of_ble_eq_true rfl, Nat.le_of_ble_eq_true rfl⟩ (fun u_3 H locs hv hP hD hS => ?_)
    exact W.vret hx hb hr (fun t ht hW => ⟨⟨u_3, rfl, hv, by rw [ht]; exact hP, va_K.moved hW.alike hK, hD⟩, hS.F ht⟩) hS.2.2 dX3_turnToNextLine_66
  · have hv := hv.2 c_2
    refine lv_aload_n hx hb dX3_turnToNextLine_10 rfl (lv_at hl 0 rfl) ?_
    refine va_get (D := D) (ci := 3) (v := .ref (a 1)) (C := RX3) (T := TX3) (N := 12) hx hb hts in_X3 hown hK hP 0 rfl rfl 0 (by decide) kf_12 (fun _ h9 => h9) rfl dX3_turnToNextLine_11 ?_
    refine x_cVv (As := []) (rest := []) (wn := fun u_4 => (w_Machine cT a (x_wb M 1 10 u_4))) ⟨hx, hb, hml, hown, hts⟩ (c_X0_takeUp l D cT (x_sh a 1) (x_sh M 1) _ _ hv) w_114 hK hP hD hS hA hN [1, 2, 3, 4, 5, 6, 7, 8, 9, 10] [0, 11, 12, 13, 14, 15, 16, 17, 18, 19, 20, 21, 22, 23, 24, 25, 26, 27, 28] [0, 19, 20, 21, 22, 23, 24, 25, 26, 27, 28, 1, 2, 3, 4, 5, 6, 7, 8, 9, 10, 11, 12, 13, 14, 15, 16, 17, 18] rfl rfl (fun _ => rfl) (by decide) (by decide) (by decide) (by decide) 0 0 rfl rfl rfl hl.1 rfl (Nat.le_of_ble_eq_true rfl) dX3_turnToNextLine_14 ⟨Nat.le_of_ble_eq_true rfl, Nat.le_of_ble_eq_true rfl⟩ (fun u_4 H locs hv hP hD hS => ?_)
    obtain ⟨M_5, eM_5⟩ : ∃ z : ST, z = x_wb M 1 10 u_4 := ⟨_, rfl⟩
    have hP : va_P D vwCl ((w_Machine cT a M_5)) H := by rw [eM_5]; exact hP
    have hD : va_D A ((w_Machine cT a M_5)) := by rw [eM_5]; exact hD
    have hv := hv M_5 eM_5
    refine lv_aload_n hx hb dX3_turnToNextLine_17 rfl (lv_at hl 0 rfl) ?_
    refine lv_aload_n hx hb dX3_turnToNextLine_18 rfl (lv_at hl 0 rfl) ?_
    refine va_get (D := D) (ci := 3) (v := .ref (a 1)) (C := RX3) (T := TX3) (N := 12) hx hb hts in_X3 hown hK hP 0 rfl rfl 0 (by decide) kf_12 (fun _ h9 => h9) rfl dX3_turnToNextLine_19 ?_
    refine va_get (D := D) (ci := 0) (v := .ref (a 5)) (C := RX0) (T := TX0) (N := 7) hx hb hts in_X0 hown hK hP 1 rfl rfl 1 (by decide) kf_117 (fun _ h9 => h9) rfl dX3_turnToNextLine_22 ?_
    refine lv_iconst (v := 0) hx hb dX3_turnToNextLine_25 (by decide) ?_
    refine lv_aload_n hx hb dX3_turnToNextLine_26 rfl (lv_at hl 0 rfl) ?_
    refine va_get (D := D) (ci := 3) (v := .ref (a 1)) (C := RX3) (T := TX3) (N := 12) hx hb hts in_X3 hown hK hP 0 rfl rfl 0 (by decide) kf_12 (fun _ h9 => h9) rfl dX3_turnToNextLine_27 ?_
    refine va_get (D := D) (ci := 0) (v := .int (M_5 1 6)) (C := RX0) (T := TX0) (N := 7) hx hb hts in_X0 hown hK hP 1 rfl rfl 6 (by decide) kf_121 (fun _ h9 => h9) rfl dX3_turnToNextLine_30 ?_
    refine x_cVv (As := [.ref (a 5), .int 0, .int (M_5 1 6)]) (rest := []) (wn := fun u_6 => (w_Machine cT a u_6)) ⟨hx, hb, hml, hown, hts⟩ (c_X3_startFeed_t l D cT a M_5 0 (M_5 1 6) _ _ hv) w_124_t hK hP hD hS hA hN [0, 1, 2, 3, 4, 5, 6, 7, 8, 9, 10, 11, 12, 13, 14, 15, 16, 17, 18, 19, 20, 21, 22, 23, 24, 25, 26, 27, 28] [] [0, 1, 2, 3, 4, 5, 6, 7, 8, 9, 10, 11, 12, 13, 14, 15, 16, 17, 18, 19, 20, 21, 22, 23, 24, 25, 26, 27, 28] rfl rfl (fun _ => rfl) (by decide) (by decide) (by decide) (by decide) 3 0 rfl rfl rfl hl.1 rfl (Nat.le_of_ble_eq_true rfl) dX3_turnToNextLine_33 ⟨Nat.le_of_ble_eq_true rfl, Nat.le_of_ble_eq_true rfl⟩ (fun u_6 H locs hv hP hD hS => ?_)
    refine lv_goto (tgt := 66) hx hb dX3_turnToNextLine_36 (by decide) ?_
    exact W.vret hx hb hr (fun t ht hW => ⟨⟨u_6, rfl, hv, by rw [ht]; exact hP, va_K.moved hW.alike hK, hD⟩, hS.F ht⟩) hS.2.2 dX3_turnToNextLine_66
def v_X3_fetchByte (M : ST) (post : ST → Prop) : Prop := v_X5_read (x_sh M 13) 0 (fun r_1 => v_X5_read (x_sh M 13) 1 (fun r_2 => ∀ x_3 : Int32, x_3 = ((r_1 + (r_2 * (M 11 6))) + (M 11 7)) → ∃ k_4 : Nat, k_4 < 1024 ∧ (x_3 &&& 1023) = nI k_4 ∧ v_X2_append (x_sh M 11) (M 26 k_4) (fun (u_5 : ST) => ∀ M_6 : ST, M_6 = x_wb M 11 2 u_5 → post M_6)))
set_option maxHeartbeats 4000000 in
set_option maxRecDepth 100000 in
theorem c_X3_fetchByte (l : Launch) (D : va_G) (cT : Nat → ClassId) (a : Nat → Nat) (M : ST) (sz : Nat) (post : ST → Prop) (hv : v_X3_fetchByte M post) : Met l yX3_fetchByte wsX3_fetchByte ({ frames := 2, cells := 0, slots := 0, locals := 43 }) (va_Pc [.ref (a 0)] (x_U D cT ((w_Machine cT a M)) sz)) (va_Qv post (fun u t => x_B D cT ((w_Machine cT a u)) (va_A ((w_Machine cT a M)) sz) t) (va_A ((w_Machine cT a M)) sz)) 0 0 (va_A ((w_Machine cT a M)) sz) := by
  refine Met.ofW (cc := cX3_fetchByte) (maxL := 2) (ret := none) (by decide) rfl ?_
  intro p e s m args below meth c s₁ B hml hpre
  obtain ⟨rfl, hsz, hP, hK, hD0, hN⟩ := hpre
  have hx := B.exec
  have hb := B.bytes
  have hr := B.returns
  have hts := atoms_spec (ws := wsX3_fetchByte) B.pre
  have hown : s.vm.findClass RX3 = some m.cls := findClass_of_methodNamed B.named
  have hlocks := B.notSynchronized
  subst hsz
  have hD := hD0.self (sz := s.heap.size)
  generalize hAe : va_A ((w_Machine cT a M)) s.heap.size = A at hD hN ⊢
  have hA : ∀ q : Nat, s.heap.size ≤ q → A q := fun q h => by rw [← hAe]; exact Or.inr h
  have hS : va_S A s.heap s.heap [] := va_S.rf
  have hl := lv_entry ([.ref (a 0)]) (n := 2) (Nat.le_of_ble_eq_true rfl)
  rw [lg_entry_eq]
  generalize (lg_sl ([.ref (a 0)]) ++ List.replicate (2 - (lg_sl ([.ref (a 0)])).length) Slot.unset).toArray = ls at hl ⊢
  have hl : lv_has ls 2 [(0, .ref (a 0))] := hl
  have in_X2 : ∀ w ∈ wsX20, w ∈ wsX3_fetchByte := by decide +kernel
  have in_X3 : ∀ w ∈ wsX30, w ∈ wsX3_fetchByte := by decide +kernel
  have kf_28 : (Cond.fieldLink RX3 28 "PictureBeats$Machine" "registers" "LPictureBeats$Registers;").before ([.ref (a 0)] : List Value).toArray s = true := hts _ (by decide +kernel)
  have w_164 : CallW (headSpec wsX3_fetchByte ({ frames := 2, cells := 0, slots := 0, locals := 43 })).room s ([.ref (a 0)] : List Value).toArray RX3 RX5 164 yX5_read cX5_read 2 (some .int) wsX5_read ({ frames := 1, cells := 0, slots := 0, locals := 22 } : Room) 0 0 1 := cwV 1 hts gX3_fetchByte_X5_read rfl rfl rfl (by decide +kernel) ⟨Nat.le_of_ble_eq_true rfl, Nat.le_of_ble_eq_true rfl⟩
  have kf_21 : (Cond.fieldLink RX3 21 "PictureBeats$Machine" "feed" "LPictureBeats$Feed;").before ([.ref (a 0)] : List Value).toArray s = true := hts _ (by decide +kernel)
  have kf_167 : (Cond.fieldLink RX3 167 "PictureBeats$Feed" "row" "I").before ([.ref (a 0)] : List Value).toArray s = true := hts _ (by decide +kernel)
  have kf_170 : (Cond.fieldLink RX3 170 "PictureBeats$Feed" "nextByte" "I").before ([.ref (a 0)] : List Value).toArray s = true := hts _ (by decide +kernel)
  have kf_46 : (Cond.fieldLink RX3 46 "PictureBeats$Machine" "memory" "[I").before ([.ref (a 0)] : List Value).toArray s = true := hts _ (by decide +kernel)
  have w_173 : CallW (headSpec wsX3_fetchByte ({ frames := 2, cells := 0, slots := 0, locals := 43 })).room s ([.ref (a 0)] : List Value).toArray RX3 RX2 173 yX2_append cX2_append 2 none wsX2_append ({ frames := 0, cells := 0, slots := 0, locals := 0 } : Room) 0 0 1 := cwV 1 hts gX3_fetchByte_X2_append rfl rfl rfl (by decide +kernel) ⟨Nat.le_of_ble_eq_true rfl, Nat.le_of_ble_eq_true rfl⟩
  refine lv_aload_n hx hb dX3_fetchByte_0 rfl (lv_at hl 0 rfl) ?_
  refine va_get (D := D) (ci := 3) (v := .ref (a 13)) (C := RX3) (T := TX3) (N := 12) hx hb hts in_X3 hown hK hP 0 rfl rfl 2 (by decide) kf_28 (fun _ h9 => h9) rfl dX3_fetchByte_1 ?_
  refine lv_iconst (v := 0) hx hb dX3_fetchByte_4 (by decide) ?_
  refine x_rV (As := [.int 0]) (rest := []) ⟨hx, hb, hml, hown, hts⟩ (c_X5_read l D cT (x_sh a 13) (x_sh M 13) 0 _ hv) w_164 hK hP hS hN [13, 14] rfl 5 0 rfl rfl rfl hl.1 rfl (Nat.le_of_ble_eq_true rfl) dX3_fetchByte_5 ⟨Nat.le_of_ble_eq_true rfl, Nat.le_of_ble_eq_true rfl⟩ (fun r_1 hv => ?_)
  refine lv_aload_n hx hb dX3_fetchByte_8 rfl (lv_at hl 0 rfl) ?_
  refine va_get (D := D) (ci := 3) (v := .ref (a 13)) (C := RX3) (T := TX3) (N := 12) hx hb hts in_X3 hown hK hP 0 rfl rfl 2 (by decide) kf_28 (fun _ h9 => h9) rfl dX3_fetchByte_9 ?_
  refine lv_iconst (v := 1) hx hb dX3_fetchByte_12 (by decide) ?_
  refine x_rV (As := [.int 1]) (rest := [.int r_1]) ⟨hx, hb, hml, hown, hts⟩ (c_X5_read l D cT (x_sh a 13) (x_sh M 13) 1 _ hv) w_164 hK hP hS hN [13, 14] rfl 5 0 rfl rfl rfl hl.1 rfl (Nat.le_of_ble_eq_true rfl) dX3_fetchByte_13 ⟨Nat.le_of_ble_eq_true rfl, Nat.le_of_ble_eq_true rfl⟩ (fun r_2 hv => ?_)
  refine lv_aload_n hx hb dX3_fetchByte_16 rfl (lv_at hl 0 rfl) ?_
  refine va_get (D := D) (ci := 3) (v := .ref (a 11)) (C := RX3) (T := TX3) (N := 12) hx hb hts in_X3 hown hK hP 0 rfl rfl 1 (by decide) kf_21 (fun _ h9 => h9) rfl dX3_fetchByte_17 ?_
  refine va_get (D := D) (ci := 2) (v := .int (M 11 6)) (C := RX2) (T := TX2) (N := 11) hx hb hts in_X2 hown hK hP 11 rfl rfl 6 (by decide) kf_167 (fun _ h9 => h9) rfl dX3_fetchByte_20 ?_
  refine lv_imul hx hb dX3_fetchByte_23 ?_
  refine lv_iadd hx hb dX3_fetchByte_24 ?_
  refine lv_aload_n hx hb dX3_fetchByte_25 rfl (lv_at hl 0 rfl) ?_
  refine va_get (D := D) (ci := 3) (v := .ref (a 11)) (C := RX3) (T := TX3) (N := 12) hx hb hts in_X3 hown hK hP 0 rfl rfl 1 (by decide) kf_21 (fun _ h9 => h9) rfl dX3_fetchByte_26 ?_
  refine va_get (D := D) (ci := 2) (v := .int (M 11 7)) (C := RX2) (T := TX2) (N := 11) hx hb hts in_X2 hown hK hP 11 rfl rfl 7 (by decide) kf_170 (fun _ h9 => h9) rfl dX3_fetchByte_29 ?_
  refine lv_iadd hx hb dX3_fetchByte_32 ?_
  refine lv_topi (fun x_3 ex_3 => ?_)
  have hv := hv x_3 ex_3
  refine lv_istore_n (lv' := [(1, .int x_3), (0, .ref (a 0))]) hx hb dX3_fetchByte_33 rfl hl (by decide) rfl (fun ls hl => ?_)
  refine lv_aload_n hx hb dX3_fetchByte_34 rfl (lv_at hl 1 rfl) ?_
  refine va_get (D := D) (ci := 3) (v := .ref (a 11)) (C := RX3) (T := TX3) (N := 12) hx hb hts in_X3 hown hK hP 0 rfl rfl 1 (by decide) kf_21 (fun _ h9 => h9) rfl dX3_fetchByte_35 ?_
  refine lv_aload_n hx hb dX3_fetchByte_38 rfl (lv_at hl 1 rfl) ?_
  refine va_get (D := D) (ci := 3) (v := .ref (a 26)) (C := RX3) (T := TX3) (N := 12) hx hb hts in_X3 hown hK hP 0 rfl rfl 5 (by decide) kf_46 (fun _ h9 => h9) rfl dX3_fetchByte_39 ?_
  refine lv_iload_n hx hb dX3_fetchByte_42 rfl (lv_at hl 0 rfl) ?_
  refine lv_sipush (v := 1023) hx hb dX3_fetchByte_43 (by decide) ?_
  refine lv_iand hx hb dX3_fetchByte_46 ?_
  obtain ⟨k_4, hk_4, ik_4, hv⟩ := hv
  refine x_ald hx hb hK hP 26 0 rfl rfl k_4 ik_4 hk_4 (by decide) dX3_fetchByte_47 ?_
  refine x_cVv (As := [.int (M 26 k_4)]) (rest := []) (wn := fun u_5 => (w_Machine cT a (x_wb M 11 2 u_5))) ⟨hx, hb, hml, hown, hts⟩ (c_X2_append l D cT (x_sh a 11) (x_sh M 11) (M 26 k_4) _ _ hv) w_173 hK hP hD hS hA hN [11, 12] [0, 1, 2, 3, 4, 5, 6, 7, 8, 9, 10, 13, 14, 15, 16, 17, 18, 19, 20, 21, 22, 23, 24, 25, 26, 27, 28] [0, 1, 2, 3, 4, 5, 6, 7, 8, 9, 10, 27, 28, 11, 12, 13, 14, 15, 16, 17, 18, 19, 20, 21, 22, 23, 24, 25, 26] rfl rfl (fun _ => rfl) (by decide) (by decide) (by decide) (by decide) 2 0 rfl rfl rfl hl.1 rfl (Nat.le_of_ble_eq_true rfl) dX3_fetchByte_48 ⟨Nat.le_of_ble_eq_true rfl, Nat.le_of_ble_eq_true rfl⟩ (fun u_5 H locs hv hP hD hS => ?_)
  obtain ⟨M_6, eM_6⟩ : ∃ z : ST, z = x_wb M 11 2 u_5 := ⟨_, rfl⟩
  have hP : va_P D vwCl ((w_Machine cT a M_6)) H := by rw [eM_6]; exact hP
  have hD : va_D A ((w_Machine cT a M_6)) := by rw [eM_6]; exact hD
  have hv := hv M_6 eM_6
  exact W.vret hx hb hr (fun t ht hW => ⟨⟨M_6, rfl, hv, by rw [ht]; exact hP, va_K.moved hW.alike hK, hD⟩, hS.F ht⟩) hS.2.2 dX3_fetchByte_51
def lp_X3_takeScroll_11 (r_1 : Int32) (post : ST → Prop) (K_ : Int32 → ST → Prop) : Nat → Int32 → ST → Prop
  | 0, _, _ => False
  | n_7 + 1, y_5, M_6 => (((r_1 ≤ y_5) → K_ y_5 M_6) ∧ ((¬ (r_1 ≤ y_5)) → v_X2_takeBit (x_sh M_6 11) (fun r_10 (u_9 : ST) => ∀ M_11 : ST, M_11 = x_wb M_6 11 2 u_9 → (((¬ (r_10 = (-1))) → ∀ x_13 : Int32, x_13 = y_5 + 1 → lp_X3_takeScroll_11 r_1 post K_ n_7 x_13 M_11) ∧ ((r_10 = (-1)) → post M_11)))))
def v_X3_takeScroll (M : ST) (post : ST → Prop) : Prop := v_X5_read (x_sh M 13) 2 (fun r_1 => (∃ n_14 : Nat, lp_X3_takeScroll_11 r_1 post (fun (y_3 : Int32) (M_4 : ST) => post M_4) n_14 0 M))
set_option maxHeartbeats 4000000 in
set_option maxRecDepth 100000 in
theorem c_X3_takeScroll (l : Launch) (D : va_G) (cT : Nat → ClassId) (a : Nat → Nat) (M : ST) (sz : Nat) (post : ST → Prop) (hv : v_X3_takeScroll M post) : Met l yX3_takeScroll wsX3_takeScroll ({ frames := 2, cells := 0, slots := 0, locals := 43 }) (va_Pc [.ref (a 0)] (x_U D cT ((w_Machine cT a M)) sz)) (va_Qv post (fun u t => x_B D cT ((w_Machine cT a u)) (va_A ((w_Machine cT a M)) sz) t) (va_A ((w_Machine cT a M)) sz)) 0 0 (va_A ((w_Machine cT a M)) sz) := by
  refine Met.ofW (cc := cX3_takeScroll) (maxL := 3) (ret := none) (by decide) rfl ?_
  intro p e s m args below meth c s₁ B hml hpre
  obtain ⟨rfl, hsz, hP, hK, hD0, hN⟩ := hpre
  have hx := B.exec
  have hb := B.bytes
  have hr := B.returns
  have hts := atoms_spec (ws := wsX3_takeScroll) B.pre
  have hown : s.vm.findClass RX3 = some m.cls := findClass_of_methodNamed B.named
  have hlocks := B.notSynchronized
  subst hsz
  have hD := hD0.self (sz := s.heap.size)
  generalize hAe : va_A ((w_Machine cT a M)) s.heap.size = A at hD hN ⊢
  have hA : ∀ q : Nat, s.heap.size ≤ q → A q := fun q h => by rw [← hAe]; exact Or.inr h
  have hS : va_S A s.heap s.heap [] := va_S.rf
  have hl := lv_entry ([.ref (a 0)]) (n := 3) (Nat.le_of_ble_eq_true rfl)
  rw [lg_entry_eq]
  generalize (lg_sl ([.ref (a 0)]) ++ List.replicate (3 - (lg_sl ([.ref (a 0)])).length) Slot.unset).toArray = ls at hl ⊢
  have hl : lv_has ls 3 [(0, .ref (a 0))] := hl
  have in_X3 : ∀ w ∈ wsX30, w ∈ wsX3_takeScroll := by decide +kernel
  have kf_28 : (Cond.fieldLink RX3 28 "PictureBeats$Machine" "registers" "LPictureBeats$Registers;").before ([.ref (a 0)] : List Value).toArray s = true := hts _ (by decide +kernel)
  have w_164 : CallW (headSpec wsX3_takeScroll ({ frames := 2, cells := 0, slots := 0, locals := 43 })).room s ([.ref (a 0)] : List Value).toArray RX3 RX5 164 yX5_read cX5_read 2 (some .int) wsX5_read ({ frames := 1, cells := 0, slots := 0, locals := 22 } : Room) 0 0 1 := cwV 1 hts gX3_takeScroll_X5_read rfl rfl rfl (by decide +kernel) ⟨Nat.le_of_ble_eq_true rfl, Nat.le_of_ble_eq_true rfl⟩
  have kf_21 : (Cond.fieldLink RX3 21 "PictureBeats$Machine" "feed" "LPictureBeats$Feed;").before ([.ref (a 0)] : List Value).toArray s = true := hts _ (by decide +kernel)
  have w_180 : CallW (headSpec wsX3_takeScroll ({ frames := 2, cells := 0, slots := 0, locals := 43 })).room s ([.ref (a 0)] : List Value).toArray RX3 RX2 180 yX2_takeBit cX2_takeBit 1 (some .int) wsX2_takeBit ({ frames := 0, cells := 0, slots := 0, locals := 0 } : Room) 0 0 0 := cwV 0 hts gX3_takeScroll_X2_takeBit rfl rfl rfl (by decide +kernel) ⟨Nat.le_of_ble_eq_true rfl, Nat.le_of_ble_eq_true rfl⟩
  refine lv_aload_n hx hb dX3_takeScroll_0 rfl (lv_at hl 0 rfl) ?_
  refine va_get (D := D) (ci := 3) (v := .ref (a 13)) (C := RX3) (T := TX3) (N := 12) hx hb hts in_X3 hown hK hP 0 rfl rfl 2 (by decide) kf_28 (fun _ h9 => h9) rfl dX3_takeScroll_1 ?_
  refine lv_iconst (v := 2) hx hb dX3_takeScroll_4 (by decide) ?_
  refine x_rV (As := [.int 2]) (rest := []) ⟨hx, hb, hml, hown, hts⟩ (c_X5_read l D cT (x_sh a 13) (x_sh M 13) 2 _ hv) w_164 hK hP hS hN [13, 14] rfl 5 0 rfl rfl rfl hl.1 rfl (Nat.le_of_ble_eq_true rfl) dX3_takeScroll_5 ⟨Nat.le_of_ble_eq_true rfl, Nat.le_of_ble_eq_true rfl⟩ (fun r_1 hv => ?_)
  refine lv_istore_n (lv' := [(1, .int r_1), (0, .ref (a 0))]) hx hb dX3_takeScroll_8 rfl hl (by decide) rfl (fun ls hl => ?_)
  refine lv_iconst (v := 0) hx hb dX3_takeScroll_9 (by decide) ?_
  refine lv_istore_n (lv' := [(2, .int 0), (1, .int r_1), (0, .ref (a 0))]) hx hb dX3_takeScroll_10 rfl hl (by decide) rfl (fun ls hl => ?_)
  obtain ⟨n_14, hv⟩ := hv
  have K_L_2 : ∀ (y_3 : Int32) (M_4 : ST), (post M_4) → ∀ (H : Heap) (locs : List Loc), va_P D vwCl ((w_Machine cT a M_4)) H → va_D A ((w_Machine cT a M_4)) → va_S A s.heap H locs → ∀ ls : Array Slot, lv_has ls 3 [(2, .int y_3), (1, .int r_1), (0, .ref (a 0))] → W p l e (headSpec wsX3_takeScroll ({ frames := 2, cells := 0, slots := 0, locals := 43 })).room s m ([.ref (a 0)] : List Value).toArray below meth c H locs 0 0 (MQ below (va_Qv post (fun u t => x_B D cT ((w_Machine cT a u)) A t) A) ([.ref (a 0)] : List Value).toArray s 0 0 A) (F0 m 34 ls []) := by
    intro y_3 M_4 hv H locs hP hD hS ls hl
    exact W.vret hx hb hr (fun t ht hW => ⟨⟨M_4, rfl, hv, by rw [ht]; exact hP, va_K.moved hW.alike hK, hD⟩, hS.F ht⟩) hS.2.2 dX3_takeScroll_34
  have L_2 : ∀ n_7 : Nat, ∀ (y_5 : Int32) (M_6 : ST), (lp_X3_takeScroll_11 r_1 post (fun (y_3 : Int32) (M_4 : ST) => post M_4) n_7 y_5 M_6) → ∀ (H : Heap) (locs : List Loc), va_P D vwCl ((w_Machine cT a M_6)) H → va_D A ((w_Machine cT a M_6)) → va_S A s.heap H locs → ∀ ls : Array Slot, lv_has ls 3 [(2, .int y_5), (1, .int r_1), (0, .ref (a 0))] → W p l e (headSpec wsX3_takeScroll ({ frames := 2, cells := 0, slots := 0, locals := 43 })).room s m ([.ref (a 0)] : List Value).toArray below meth c H locs 0 0 (MQ below (va_Qv post (fun u t => x_B D cT ((w_Machine cT a u)) A t) A) ([.ref (a 0)] : List Value).toArray s 0 0 A) (F0 m 11 ls []) := by
    intro n_7
    induction n_7 with
    | zero =>
      intro y_5 M_6 hv
      exact hv.elim
    | succ n_7 L_2_ih =>
      intro y_5 M_6 hv H locs hP hD hS ls hl
      refine lv_iload_n hx hb dX3_takeScroll_11 rfl (lv_at hl 0 rfl) ?_
      refine lv_iload_n hx hb dX3_takeScroll_12 rfl (lv_at hl 1 rfl) ?_
      refine lv_icmp_ge (tgt := 34) hx hb dX3_takeScroll_13 (by decide) (fun c_8 => ?_) (fun c_8 => ?_)
      · have hv := hv.1 c_8
        exact K_L_2 _ _ hv H locs hP hD hS ls (lv_sub hl [0, 1, 2] rfl)
      · have hv := hv.2 c_8
        refine lv_aload_n hx hb dX3_takeScroll_16 rfl (lv_at hl 2 rfl) ?_
        refine va_get (D := D) (ci := 3) (v := .ref (a 11)) (C := RX3) (T := TX3) (N := 12) hx hb hts in_X3 hown hK hP 0 rfl rfl 1 (by decide) kf_21 (fun _ h9 => h9) rfl dX3_takeScroll_17 ?_
        refine x_cVi (As := []) (rest := []) (wn := fun u_9 => (w_Machine cT a (x_wb M_6 11 2 u_9))) ⟨hx, hb, hml, hown, hts⟩ (c_X2_takeBit l D cT (x_sh a 11) (x_sh M_6 11) _ _ hv) w_180 hK hP hD hS hA hN [11, 12] [0, 1, 2, 3, 4, 5, 6, 7, 8, 9, 10, 13, 14, 15, 16, 17, 18, 19, 20, 21, 22, 23, 24, 25, 26, 27, 28] [0, 1, 2, 3, 4, 5, 6, 7, 8, 9, 10, 27, 28, 11, 12, 13, 14, 15, 16, 17, 18, 19, 20, 21, 22, 23, 24, 25, 26] rfl rfl (fun _ => rfl) (by decide) (by decide) (by decide) (by decide) 2 0 rfl rfl rfl hl.1 rfl (Nat.le_of_ble_eq_true rfl) dX3_takeScroll_20 ⟨Nat.le_of_ble_eq_true rfl, Nat.le_of_ble_eq_true rfl⟩ (fun r_10 u_9 H locs hv hP hD hS => ?_)
        obtain ⟨M_11, eM_11⟩ : ∃ z : ST, z = x_wb M_6 11 2 u_9 := ⟨_, rfl⟩
        have hP : va_P D vwCl ((w_Machine cT a M_11)) H := by rw [eM_11]; exact hP
        have hD : va_D A ((w_Machine cT a M_11)) := by rw [eM_11]; exact hD
        have hv := hv M_11 eM_11
        refine lv_iconst (v := (-1)) hx hb dX3_takeScroll_23 (by decide) ?_
        refine lv_icmp_ne (tgt := 28) hx hb dX3_takeScroll_24 (by decide) (fun c_12 => ?_) (fun c_12 => ?_)
        · have hv := hv.1 c_12
          obtain ⟨x_13, ex_13⟩ : ∃ z : Int32, z = y_5 + 1 := ⟨_, rfl⟩
          have hv := hv x_13 ex_13
          refine lv_iinc (v := x_13) (lv' := [(2, .int x_13), (1, .int r_1), (0, .ref (a 0))]) hx hb dX3_takeScroll_28 hl (k := 0) rfl (by rw [ex_13]; rfl) (by decide) rfl (fun ls hl => ?_)
          refine lv_goto (tgt := 11) hx hb dX3_takeScroll_31 (by decide) ?_
          exact L_2_ih _ _ hv H locs hP hD hS ls (lv_sub hl [0, 1, 2] rfl)
        · have hv := hv.2 c_12
          exact W.vret hx hb hr (fun t ht hW => ⟨⟨M_11, rfl, hv, by rw [ht]; exact hP, va_K.moved hW.alike hK, hD⟩, hS.F ht⟩) hS.2.2 dX3_takeScroll_27
  exact L_2 n_14 _ _ hv _ _ hP hD hS ls hl
def v_X3_colourOf (M : ST) (p1 : Int32) (post : Int32 → Prop) : Prop := (((¬ (p1 = (-1))) → (((¬ (p1 = 1)) → v_X5_read (x_sh M 13) 4 (fun r_3 => post r_3)) ∧ ((p1 = 1) → v_X5_read (x_sh M 13) 3 (fun r_4 => post r_4)))) ∧ ((p1 = (-1)) → post 512))
set_option maxHeartbeats 4000000 in
set_option maxRecDepth 100000 in
theorem c_X3_colourOf (l : Launch) (D : va_G) (cT : Nat → ClassId) (a : Nat → Nat) (M : ST) (p1 : Int32) (post : Int32 → Prop) (hv : v_X3_colourOf M p1 post) : Met l yX3_colourOf wsX3_colourOf ({ frames := 2, cells := 0, slots := 0, locals := 43 }) (va_Pc [.ref (a 0), .int p1] (x_R D cT ((w_Machine cT a M)))) (vp_Si post) 0 0 (fun _ => False) := by
  refine Met.ofW (cc := cX3_colourOf) (maxL := 2) (ret := (some .int)) (by decide) rfl ?_
  intro p e s m args below meth c s₁ B hml hpre
  obtain ⟨rfl, hP, hK, hN⟩ := hpre
  have hx := B.exec
  have hb := B.bytes
  have hr := B.returns
  have hts := atoms_spec (ws := wsX3_colourOf) B.pre
  have hown : s.vm.findClass RX3 = some m.cls := findClass_of_methodNamed B.named
  have hlocks := B.notSynchronized
  have hS : va_S (fun _ : Nat => False) s.heap s.heap [] := va_S.rf
  have hl := lv_entry ([.ref (a 0), .int p1]) (n := 2) (Nat.le_of_ble_eq_true rfl)
  rw [lg_entry_eq]
  generalize (lg_sl ([.ref (a 0), .int p1]) ++ List.replicate (2 - (lg_sl ([.ref (a 0), .int p1])).length) Slot.unset).toArray = ls at hl ⊢
  have hl : lv_has ls 2 [(0, .ref (a 0)), (1, .int p1)] := hl
  have in_X3 : ∀ w ∈ wsX30, w ∈ wsX3_colourOf := by decide +kernel
  have kf_28 : (Cond.fieldLink RX3 28 "PictureBeats$Machine" "registers" "LPictureBeats$Registers;").before ([.ref (a 0), .int p1] : List Value).toArray s = true := hts _ (by decide +kernel)
  have w_164 : CallW (headSpec wsX3_colourOf ({ frames := 2, cells := 0, slots := 0, locals := 43 })).room s ([.ref (a 0), .int p1] : List Value).toArray RX3 RX5 164 yX5_read cX5_read 2 (some .int) wsX5_read ({ frames := 1, cells := 0, slots := 0, locals := 22 } : Room) 0 0 1 := cwV 1 hts gX3_colourOf_X5_read rfl rfl rfl (by decide +kernel) ⟨Nat.le_of_ble_eq_true rfl, Nat.le_of_ble_eq_true rfl⟩
  refine lv_iload_n hx hb dX3_colourOf_0 rfl (lv_at hl 1 rfl) ?_
  refine lv_iconst (v := (-1)) hx hb dX3_colourOf_1 (by decide) ?_
  refine lv_icmp_ne (tgt := 9) hx hb dX3_colourOf_2 (by decide) (fun c_1 => ?_) (fun c_1 => ?_)
  · have hv := hv.1 c_1
    refine lv_aload_n hx hb dX3_colourOf_9 rfl (lv_at hl 0 rfl) ?_
    refine va_get (D := D) (ci := 3) (v := .ref (a 13)) (C := RX3) (T := TX3) (N := 12) hx hb hts in_X3 hown hK hP 0 rfl rfl 2 (by decide) kf_28 (fun _ h9 => h9) rfl dX3_colourOf_10 ?_
    refine lv_iload_n hx hb dX3_colourOf_13 rfl (lv_at hl 1 rfl) ?_
    refine lv_iconst (v := 1) hx hb dX3_colourOf_14 (by decide) ?_
    refine lv_icmp_ne (tgt := 22) hx hb dX3_colourOf_15 (by decide) (fun c_2 => ?_) (fun c_2 => ?_)
    · have hv := hv.1 c_2
      refine lv_iconst (v := 4) hx hb dX3_colourOf_22 (by decide) ?_
      refine x_rV (As := [.int 4]) (rest := []) ⟨hx, hb, hml, hown, hts⟩ (c_X5_read l D cT (x_sh a 13) (x_sh M 13) 4 _ hv) w_164 hK hP hS hN [13, 14] rfl 5 0 rfl rfl rfl hl.1 rfl (Nat.le_of_ble_eq_true rfl) dX3_colourOf_23 ⟨Nat.le_of_ble_eq_true rfl, Nat.le_of_ble_eq_true rfl⟩ (fun r_3 hv => ?_)
      exact W.iret (v := r_3) hx hb hr (fun t ht hW => ⟨_, rfl, hv, ht⟩) (fun q h => absurd h List.not_mem_nil) dX3_colourOf_26
    · have hv := hv.2 c_2
      refine lv_iconst (v := 3) hx hb dX3_colourOf_18 (by decide) ?_
      refine lv_goto (tgt := 23) hx hb dX3_colourOf_19 (by decide) ?_
      refine x_rV (As := [.int 3]) (rest := []) ⟨hx, hb, hml, hown, hts⟩ (c_X5_read l D cT (x_sh a 13) (x_sh M 13) 3 _ hv) w_164 hK hP hS hN [13, 14] rfl 5 0 rfl rfl rfl hl.1 rfl (Nat.le_of_ble_eq_true rfl) dX3_colourOf_23 ⟨Nat.le_of_ble_eq_true rfl, Nat.le_of_ble_eq_true rfl⟩ (fun r_4 hv => ?_)
      exact W.iret (v := r_4) hx hb hr (fun t ht hW => ⟨_, rfl, hv, ht⟩) (fun q h => absurd h List.not_mem_nil) dX3_colourOf_26
  · have hv := hv.2 c_1
    refine lv_sipush (v := 512) hx hb dX3_colourOf_5 (by decide) ?_
    exact W.iret (v := 512) hx hb hr (fun t ht hW => ⟨_, rfl, hv, ht⟩) (fun q h => absurd h List.not_mem_nil) dX3_colourOf_8
def v_X3_makeDot (M : ST) (post : ST → Prop) : Prop := (((¬ ((M 1 3) = 0)) → v_X2_takeBit (x_sh M 11) (fun r_3 (u_2 : ST) => ∀ M_4 : ST, M_4 = x_wb M 11 2 u_2 → v_X0_rowHere (x_sh M_4 1) (fun r_5 => v_X8_placeOf (M_4 1 3) r_5 (fun r_6 => (((r_6 = (-1)) → ∀ M_8 : ST, M_8 = x_st M_4 0 11 ((M_4 0 11) + 1) → post M_8) ∧ ((¬ (r_6 = (-1))) → v_X7_showing (x_sh M_4 20) (M_4 1 3) r_5 (fun r_9 => (((¬ (r_9 = (-1))) → ∃ k_11 : Nat, k_11 < 4096 ∧ r_6 = nI k_11 ∧ ∀ M_12 : ST, M_12 = x_st M_4 27 k_11 (256 + r_9) → ∀ M_13 : ST, M_13 = x_st M_12 0 11 ((M_12 0 11) + 1) → post M_13) ∧ ((r_9 = (-1)) → v_X3_colourOf M_4 r_3 (fun r_14 => ∃ k_15 : Nat, k_15 < 4096 ∧ r_6 = nI k_15 ∧ ∀ M_16 : ST, M_16 = x_st M_4 27 k_15 r_14 → ∀ M_17 : ST, M_17 = x_st M_16 0 11 ((M_16 0 11) + 1) → post M_17)))))))))) ∧ (((M 1 3) = 0) → v_X3_takeScroll M (fun (u_18 : ST) => v_X2_takeBit (x_sh u_18 11) (fun r_20 (u_19 : ST) => ∀ M_21 : ST, M_21 = x_wb u_18 11 2 u_19 → v_X0_rowHere (x_sh M_21 1) (fun r_22 => v_X8_placeOf (M_21 1 3) r_22 (fun r_23 => (((r_23 = (-1)) → ∀ M_25 : ST, M_25 = x_st M_21 0 11 ((M_21 0 11) + 1) → post M_25) ∧ ((¬ (r_23 = (-1))) → v_X7_showing (x_sh M_21 20) (M_21 1 3) r_22 (fun r_26 => (((¬ (r_26 = (-1))) → ∃ k_28 : Nat, k_28 < 4096 ∧ r_23 = nI k_28 ∧ ∀ M_29 : ST, M_29 = x_st M_21 27 k_28 (256 + r_26) → ∀ M_30 : ST, M_30 = x_st M_29 0 11 ((M_29 0 11) + 1) → post M_30) ∧ ((r_26 = (-1)) → v_X3_colourOf M_21 r_20 (fun r_31 => ∃ k_32 : Nat, k_32 < 4096 ∧ r_23 = nI k_32 ∧ ∀ M_33 : ST, M_33 = x_st M_21 27 k_32 r_31 → ∀ M_34 : ST, M_34 = x_st M_33 0 11 ((M_33 0 11) + 1) → post M_34))))))))))))
set_option maxHeartbeats 4000000 in
set_option maxRecDepth 100000 in
theorem c_X3_makeDot (l : Launch) (D : va_G) (cT : Nat → ClassId) (a : Nat → Nat) (M : ST) (sz : Nat) (post : ST → Prop) (hv : v_X3_makeDot M post) : Met l yX3_makeDot wsX3_makeDot ({ frames := 3, cells := 0, slots := 0, locals := 71 }) (va_Pc [.ref (a 0)] (x_U D cT ((w_Machine cT a M)) sz)) (va_Qv post (fun u t => x_B D cT ((w_Machine cT a u)) (va_A ((w_Machine cT a M)) sz) t) (va_A ((w_Machine cT a M)) sz)) 0 0 (va_A ((w_Machine cT a M)) sz) := by
  refine Met.ofW (cc := cX3_makeDot) (maxL := 5) (ret := none) (by decide) rfl ?_
  intro p e s m args below meth c s₁ B hml hpre
  obtain ⟨rfl, hsz, hP, hK, hD0, hN⟩ := hpre
  have hx := B.exec
  have hb := B.bytes
  have hr := B.returns
  have hts := atoms_spec (ws := wsX3_makeDot) B.pre
  have hown : s.vm.findClass RX3 = some m.cls := findClass_of_methodNamed B.named
  have hlocks := B.notSynchronized
  subst hsz
  have hD := hD0.self (sz := s.heap.size)
  generalize hAe : va_A ((w_Machine cT a M)) s.heap.size = A at hD hN ⊢
  have hA : ∀ q : Nat, s.heap.size ≤ q → A q := fun q h => by rw [← hAe]; exact Or.inr h
  have hS : va_S A s.heap s.heap [] := va_S.rf
  have hl := lv_entry ([.ref (a 0)]) (n := 5) (Nat.le_of_ble_eq_true rfl)
  rw [lg_entry_eq]
  generalize (lg_sl ([.ref (a 0)]) ++ List.replicate (5 - (lg_sl ([.ref (a 0)])).length) Slot.unset).toArray = ls at hl ⊢
  have hl : lv_has ls 5 [(0, .ref (a 0))] := hl
  have in_X0 : ∀ w ∈ wsX00, w ∈ wsX3_makeDot := by decide +kernel
  have in_X3 : ∀ w ∈ wsX30, w ∈ wsX3_makeDot := by decide +kernel
  have kf_12 : (Cond.fieldLink RX3 12 "PictureBeats$Machine" "beam" "LPictureBeats$Beam;").before ([.ref (a 0)] : List Value).toArray s = true := hts _ (by decide +kernel)
  have kf_75 : (Cond.fieldLink RX3 75 "PictureBeats$Beam" "x" "I").before ([.ref (a 0)] : List Value).toArray s = true := hts _ (by decide +kernel)
  have kf_21 : (Cond.fieldLink RX3 21 "PictureBeats$Machine" "feed" "LPictureBeats$Feed;").before ([.ref (a 0)] : List Value).toArray s = true := hts _ (by decide +kernel)
  have w_180 : CallW (headSpec wsX3_makeDot ({ frames := 3, cells := 0, slots := 0, locals := 71 })).room s ([.ref (a 0)] : List Value).toArray RX3 RX2 180 yX2_takeBit cX2_takeBit 1 (some .int) wsX2_takeBit ({ frames := 0, cells := 0, slots := 0, locals := 0 } : Room) 0 0 0 := cwV 0 hts gX3_makeDot_X2_takeBit rfl rfl rfl (by decide +kernel) ⟨Nat.le_of_ble_eq_true rfl, Nat.le_of_ble_eq_true rfl⟩
  have w_183 : CallW (headSpec wsX3_makeDot ({ frames := 3, cells := 0, slots := 0, locals := 71 })).room s ([.ref (a 0)] : List Value).toArray RX3 RX0 183 yX0_rowHere cX0_rowHere 1 (some .int) wsX0_rowHere ({ frames := 1, cells := 0, slots := 0, locals := 22 } : Room) 0 0 0 := cwV 0 hts gX3_makeDot_X0_rowHere rfl rfl rfl (by decide +kernel) ⟨Nat.le_of_ble_eq_true rfl, Nat.le_of_ble_eq_true rfl⟩
  have w_186 : va_CN (headSpec wsX3_makeDot ({ frames := 3, cells := 0, slots := 0, locals := 71 })).room s ([.ref (a 0)] : List Value).toArray RX3 186 yX8_placeOf RX8 cX8_placeOf 2 (some .int) wsX8_placeOf ({ frames := 1, cells := 0, slots := 0, locals := 22 } : Room) 0 0 2 ∧ (Cond.static yX8_placeOf).before ([.ref (a 0)] : List Value).toArray s = true ∧ True := ⟨va_cnB 2 hts gX3_makeDot_X8_placeOf_n186 rfl rfl rfl (hN.1.2.2.2.2.2.2.2.2.2.1) (hts (.initialized RX8) (by decide +kernel)) (by decide +kernel) ⟨Nat.le_of_ble_eq_true rfl, Nat.le_of_ble_eq_true rfl⟩, hts _ (by decide +kernel), trivial⟩
  have kf_195 : (Cond.fieldLink RX3 195 "PictureBeats$Machine" "dots" "I").before ([.ref (a 0)] : List Value).toArray s = true := hts _ (by decide +kernel)
  have kf_42 : (Cond.fieldLink RX3 42 "PictureBeats$Machine" "sprites" "LPictureBeats$Sprites;").before ([.ref (a 0)] : List Value).toArray s = true := hts _ (by decide +kernel)
  have w_189 : CallW (headSpec wsX3_makeDot ({ frames := 3, cells := 0, slots := 0, locals := 71 })).room s ([.ref (a 0)] : List Value).toArray RX3 RX7 189 yX7_showing cX7_showing 5 (some .int) wsX7_showing ({ frames := 2, cells := 0, slots := 0, locals := 47 } : Room) 0 0 2 := cwV 2 hts gX3_makeDot_X7_showing rfl rfl rfl (by decide +kernel) ⟨Nat.le_of_ble_eq_true rfl, Nat.le_of_ble_eq_true rfl⟩
  have kf_50 : (Cond.fieldLink RX3 50 "PictureBeats$Machine" "shown" "[I").before ([.ref (a 0)] : List Value).toArray s = true := hts _ (by decide +kernel)
  have w_192 : CallW (headSpec wsX3_makeDot ({ frames := 3, cells := 0, slots := 0, locals := 71 })).room s ([.ref (a 0)] : List Value).toArray RX3 RX3 192 yX3_colourOf cX3_colourOf 2 (some .int) wsX3_colourOf ({ frames := 2, cells := 0, slots := 0, locals := 43 } : Room) 0 0 1 := cwV 1 hts gX3_makeDot_X3_colourOf rfl rfl rfl (by decide +kernel) ⟨Nat.le_of_ble_eq_true rfl, Nat.le_of_ble_eq_true rfl⟩
  have w_177 : CallW (headSpec wsX3_makeDot ({ frames := 3, cells := 0, slots := 0, locals := 71 })).room s ([.ref (a 0)] : List Value).toArray RX3 RX3 177 yX3_takeScroll cX3_takeScroll 3 none wsX3_takeScroll ({ frames := 2, cells := 0, slots := 0, locals := 43 } : Room) 0 0 0 := cwV 0 hts gX3_makeDot_X3_takeScroll rfl rfl rfl (by decide +kernel) ⟨Nat.le_of_ble_eq_true rfl, Nat.le_of_ble_eq_true rfl⟩
  refine lv_aload_n hx hb dX3_makeDot_0 rfl (lv_at hl 0 rfl) ?_
  refine va_get (D := D) (ci := 3) (v := .ref (a 1)) (C := RX3) (T := TX3) (N := 12) hx hb hts in_X3 hown hK hP 0 rfl rfl 0 (by decide) kf_12 (fun _ h9 => h9) rfl dX3_makeDot_1 ?_
  refine va_get (D := D) (ci := 0) (v := .int (M 1 3)) (C := RX0) (T := TX0) (N := 7) hx hb hts in_X0 hown hK hP 1 rfl rfl 3 (by decide) kf_75 (fun _ h9 => h9) rfl dX3_makeDot_4 ?_
  refine lv_if_ne (tgt := 14) hx hb dX3_makeDot_7 (by decide) (fun c_1 => ?_) (fun c_1 => ?_)
  · have hv := hv.1 c_1
    refine lv_aload_n hx hb dX3_makeDot_14 rfl (lv_at hl 0 rfl) ?_
    refine va_get (D := D) (ci := 3) (v := .ref (a 11)) (C := RX3) (T := TX3) (N := 12) hx hb hts in_X3 hown hK hP 0 rfl rfl 1 (by decide) kf_21 (fun _ h9 => h9) rfl dX3_makeDot_15 ?_
    refine x_cVi (As := []) (rest := []) (wn := fun u_2 => (w_Machine cT a (x_wb M 11 2 u_2))) ⟨hx, hb, hml, hown, hts⟩ (c_X2_takeBit l D cT (x_sh a 11) (x_sh M 11) _ _ hv) w_180 hK hP hD hS hA hN [11, 12] [0, 1, 2, 3, 4, 5, 6, 7, 8, 9, 10, 13, 14, 15, 16, 17, 18, 19, 20, 21, 22, 23, 24, 25, 26, 27, 28] [0, 1, 2, 3, 4, 5, 6, 7, 8, 9, 10, 27, 28, 11, 12, 13, 14, 15, 16, 17, 18, 19, 20, 21, 22, 23, 24, 25, 26] rfl rfl (fun _ => rfl) (by decide) (by decide) (by decide) (by decide) 2 0 rfl rfl rfl hl.1 rfl (Nat.le_of_ble_eq_true rfl) dX3_makeDot_18 ⟨Nat.le_of_ble_eq_true rfl, Nat.le_of_ble_eq_true rfl⟩ (fun r_3 u_2 H locs hv hP hD hS => ?_)
    obtain ⟨M_4, eM_4⟩ : ∃ z : ST, z = x_wb M 11 2 u_2 := ⟨_, rfl⟩
    have hP : va_P D vwCl ((w_Machine cT a M_4)) H := by rw [eM_4]; exact hP
    have hD : va_D A ((w_Machine cT a M_4)) := by rw [eM_4]; exact hD
    have hv := hv M_4 eM_4
    refine lv_istore_n (lv' := [(1, .int r_3), (0, .ref (a 0))]) hx hb dX3_makeDot_21 rfl hl (by decide) rfl (fun ls hl => ?_)
    refine lv_aload_n hx hb dX3_makeDot_22 rfl (lv_at hl 1 rfl) ?_
    refine va_get (D := D) (ci := 3) (v := .ref (a 1)) (C := RX3) (T := TX3) (N := 12) hx hb hts in_X3 hown hK hP 0 rfl rfl 0 (by decide) kf_12 (fun _ h9 => h9) rfl dX3_makeDot_23 ?_
    refine x_rV (As := []) (rest := []) ⟨hx, hb, hml, hown, hts⟩ (c_X0_rowHere l D cT (x_sh a 1) (x_sh M_4 1) _ hv) w_183 hK hP hS hN [1, 2, 3, 4, 5, 6, 7, 8, 9, 10] rfl 0 0 rfl rfl rfl hl.1 rfl (Nat.le_of_ble_eq_true rfl) dX3_makeDot_26 ⟨Nat.le_of_ble_eq_true rfl, Nat.le_of_ble_eq_true rfl⟩ (fun r_5 hv => ?_)
    refine lv_istore_n (lv' := [(2, .int r_5), (1, .int r_3), (0, .ref (a 0))]) hx hb dX3_makeDot_29 rfl hl (by decide) rfl (fun ls hl => ?_)
    refine lv_aload_n hx hb dX3_makeDot_30 rfl (lv_at hl 2 rfl) ?_
    refine va_get (D := D) (ci := 3) (v := .ref (a 1)) (C := RX3) (T := TX3) (N := 12) hx hb hts in_X3 hown hK hP 0 rfl rfl 0 (by decide) kf_12 (fun _ h9 => h9) rfl dX3_makeDot_31 ?_
    refine va_get (D := D) (ci := 0) (v := .int (M_4 1 3)) (C := RX0) (T := TX0) (N := 7) hx hb hts in_X0 hown hK hP 1 rfl rfl 3 (by decide) kf_75 (fun _ h9 => h9) rfl dX3_makeDot_34 ?_
    refine lv_iload_n hx hb dX3_makeDot_37 rfl (lv_at hl 0 rfl) ?_
    refine x_rN (As := [.int (M_4 1 3), .int r_5]) (rest := []) ⟨hx, hb, hml, hown, hts⟩ (c_X8_placeOf l D cT (M_4 1 3) r_5 _ hv) w_186 hK hS hN rfl hl.1 rfl (Nat.le_of_ble_eq_true rfl) dX3_makeDot_38 ⟨Nat.le_of_ble_eq_true rfl, Nat.le_of_ble_eq_true rfl⟩ (fun r_6 hv => ?_)
    refine lv_istore_n (lv' := [(3, .int r_6), (2, .int r_5), (1, .int r_3), (0, .ref (a 0))]) hx hb dX3_makeDot_41 rfl hl (by decide) rfl (fun ls hl => ?_)
    refine lv_iload_n hx hb dX3_makeDot_42 rfl (lv_at hl 0 rfl) ?_
    refine lv_iconst (v := (-1)) hx hb dX3_makeDot_43 (by decide) ?_
    refine lv_icmp_eq (tgt := 90) hx hb dX3_makeDot_44 (by decide) (fun c_7 => ?_) (fun c_7 => ?_)
    · have hv := hv.1 c_7
      refine lv_aload_n hx hb dX3_makeDot_90 rfl (lv_at hl 3 rfl) ?_
      refine lv_dup hx hb dX3_makeDot_91 rfl ?_
      refine va_get (D := D) (ci := 3) (v := .int (M_4 0 11)) (C := RX3) (T := TX3) (N := 12) hx hb hts in_X3 hown hK hP 0 rfl rfl 11 (by decide) kf_195 (fun _ h9 => h9) rfl dX3_makeDot_92 ?_
      refine lv_iconst (v := 1) hx hb dX3_makeDot_95 (by decide) ?_
      refine lv_iadd hx hb dX3_makeDot_96 ?_
      refine va_put (D := D) (ci := 3) (v := .int ((M_4 0 11) + 1)) (ty := .int) (C := RX3) (T := TX3) (N := 12) hx hb hts in_X3 tyX3 tyX3_ok nmX3 hown hK hP hD hS 0 rfl rfl 11 (by decide) kf_195 (fun _ h9 => h9) rfl (by decide +kernel) rfl rfl (Nat.le_of_ble_eq_true rfl) dX3_makeDot_97 (fun H locs hP hD hS => ?_)
      obtain ⟨M_8, eM_8⟩ : ∃ z : ST, z = x_st M_4 0 11 ((M_4 0 11) + 1) := ⟨_, rfl⟩
      have hP : va_P D vwCl ((w_Machine cT a M_8)) H := by rw [eM_8]; exact hP
      have hD : va_D A ((w_Machine cT a M_8)) := by rw [eM_8]; exact hD
      have hv := hv M_8 eM_8
      exact W.vret hx hb hr (fun t ht hW => ⟨⟨M_8, rfl, hv, by rw [ht]; exact hP, va_K.moved hW.alike hK, hD⟩, hS.F ht⟩) hS.2.2 dX3_makeDot_100
    · have hv := hv.2 c_7
      refine lv_aload_n hx hb dX3_makeDot_47 rfl (lv_at hl 3 rfl) ?_
      refine va_get (D := D) (ci := 3) (v := .ref (a 20)) (C := RX3) (T := TX3) (N := 12) hx hb hts in_X3 hown hK hP 0 rfl rfl 4 (by decide) kf_42 (fun _ h9 => h9) rfl dX3_makeDot_48 ?_
      refine lv_aload_n hx hb dX3_makeDot_51 rfl (lv_at hl 3 rfl) ?_
      refine va_get (D := D) (ci := 3) (v := .ref (a 1)) (C := RX3) (T := TX3) (N := 12) hx hb hts in_X3 hown hK hP 0 rfl rfl 0 (by decide) kf_12 (fun _ h9 => h9) rfl dX3_makeDot_52 ?_
      refine va_get (D := D) (ci := 0) (v := .int (M_4 1 3)) (C := RX0) (T := TX0) (N := 7) hx hb hts in_X0 hown hK hP 1 rfl rfl 3 (by decide) kf_75 (fun _ h9 => h9) rfl dX3_makeDot_55 ?_
      refine lv_iload_n hx hb dX3_makeDot_58 rfl (lv_at hl 1 rfl) ?_
      refine x_rV (As := [.int (M_4 1 3), .int r_5]) (rest := []) ⟨hx, hb, hml, hown, hts⟩ (c_X7_showing l D cT (x_sh a 20) (x_sh M_4 20) (M_4 1 3) r_5 _ hv) w_189 hK hP hS hN [20, 21, 22, 23, 24, 25] rfl 7 0 rfl rfl rfl hl.1 rfl (Nat.le_of_ble_eq_true rfl) dX3_makeDot_59 ⟨Nat.le_of_ble_eq_true rfl, Nat.le_of_ble_eq_true rfl⟩ (fun r_9 hv => ?_)
      refine lv_istore (lv' := [(4, .int r_9), (3, .int r_6), (2, .int r_5), (1, .int r_3), (0, .ref (a 0))]) hx hb dX3_makeDot_62 hl (by decide) rfl (fun ls hl => ?_)
      refine lv_aload_n hx hb dX3_makeDot_64 rfl (lv_at hl 4 rfl) ?_
      refine va_get (D := D) (ci := 3) (v := .ref (a 27)) (C := RX3) (T := TX3) (N := 12) hx hb hts in_X3 hown hK hP 0 rfl rfl 6 (by decide) kf_50 (fun _ h9 => h9) rfl dX3_makeDot_65 ?_
      refine lv_iload_n hx hb dX3_makeDot_68 rfl (lv_at hl 1 rfl) ?_
      refine lv_iload hx hb dX3_makeDot_69 (lv_at hl 0 rfl) ?_
      refine lv_iconst (v := (-1)) hx hb dX3_makeDot_71 (by decide) ?_
      refine lv_icmp_ne (tgt := 83) hx hb dX3_makeDot_72 (by decide) (fun c_10 => ?_) (fun c_10 => ?_)
      · have hv := hv.1 c_10
        refine lv_sipush (v := 256) hx hb dX3_makeDot_83 (by decide) ?_
        refine lv_iload hx hb dX3_makeDot_86 (lv_at hl 0 rfl) ?_
        refine lv_iadd hx hb dX3_makeDot_88 ?_
        obtain ⟨k_11, hk_11, ik_11, hv⟩ := hv
        refine x_ast hx hb hK hP hD hS 27 0 rfl rfl k_11 ik_11 hk_11 (by decide) dX3_makeDot_89 (fun H locs hP hD hS => ?_)
        obtain ⟨M_12, eM_12⟩ : ∃ z : ST, z = x_st M_4 27 k_11 (256 + r_9) := ⟨_, rfl⟩
        have hP : va_P D vwCl ((w_Machine cT a M_12)) H := by rw [eM_12]; exact hP
        have hD : va_D A ((w_Machine cT a M_12)) := by rw [eM_12]; exact hD
        have hv := hv M_12 eM_12
        refine lv_aload_n hx hb dX3_makeDot_90 rfl (lv_at hl 4 rfl) ?_
        refine lv_dup hx hb dX3_makeDot_91 rfl ?_
        refine va_get (D := D) (ci := 3) (v := .int (M_12 0 11)) (C := RX3) (T := TX3) (N := 12) hx hb hts in_X3 hown hK hP 0 rfl rfl 11 (by decide) kf_195 (fun _ h9 => h9) rfl dX3_makeDot_92 ?_
        refine lv_iconst (v := 1) hx hb dX3_makeDot_95 (by decide) ?_
        refine lv_iadd hx hb dX3_makeDot_96 ?_
        refine va_put (D := D) (ci := 3) (v := .int ((M_12 0 11) + 1)) (ty := .int) (C := RX3) (T := TX3) (N := 12) hx hb hts in_X3 tyX3 tyX3_ok nmX3 hown hK hP hD hS 0 rfl rfl 11 (by decide) kf_195 (fun _ h9 => h9) rfl (by decide +kernel) rfl rfl (Nat.le_of_ble_eq_true rfl) dX3_makeDot_97 (fun H locs hP hD hS => ?_)
        obtain ⟨M_13, eM_13⟩ : ∃ z : ST, z = x_st M_12 0 11 ((M_12 0 11) + 1) := ⟨_, rfl⟩
        have hP : va_P D vwCl ((w_Machine cT a M_13)) H := by rw [eM_13]; exact hP
        have hD : va_D A ((w_Machine cT a M_13)) := by rw [eM_13]; exact hD
        have hv := hv M_13 eM_13
        exact W.vret hx hb hr (fun t ht hW => ⟨⟨M_13, rfl, hv, by rw [ht]; exact hP, va_K.moved hW.alike hK, hD⟩, hS.F ht⟩) hS.2.2 dX3_makeDot_100
      · have hv := hv.2 c_10
        refine lv_aload_n hx hb dX3_makeDot_75 rfl (lv_at hl 4 rfl) ?_
        refine lv_iload_n hx hb dX3_makeDot_76 rfl (lv_at hl 3 rfl) ?_
        refine x_rV (As := [.int r_3]) (rest := [.int r_6, .ref (a 27)]) ⟨hx, hb, hml, hown, hts⟩ (c_X3_colourOf l D cT a M_4 r_3 _ hv) w_192 hK hP hS hN [0, 1, 2, 3, 4, 5, 6, 7, 8, 9, 10, 11, 12, 13, 14, 15, 16, 17, 18, 19, 20, 21, 22, 23, 24, 25, 26, 27, 28] rfl 3 0 rfl rfl rfl hl.1 rfl (Nat.le_of_ble_eq_true rfl) dX3_makeDot_77 ⟨Nat.le_of_ble_eq_true rfl, Nat.le_of_ble_eq_true rfl⟩ (fun r_14 hv => ?_)
        refine lv_goto (tgt := 89) hx hb dX3_makeDot_80 (by decide) ?_
        obtain ⟨k_15, hk_15, ik_15, hv⟩ := hv
        refine x_ast hx hb hK hP hD hS 27 0 rfl rfl k_15 ik_15 hk_15 (by decide) dX3_makeDot_89 (fun H locs hP hD hS => ?_)
        obtain ⟨M_16, eM_16⟩ : ∃ z : ST, z = x_st M_4 27 k_15 r_14 := ⟨_, rfl⟩
        have hP : va_P D vwCl ((w_Machine cT a M_16)) H := by rw [eM_16]; exact hP
        have hD : va_D A ((w_Machine cT a M_16)) := by rw [eM_16]; exact hD
        have hv := hv M_16 eM_16
        refine lv_aload_n hx hb dX3_makeDot_90 rfl (lv_at hl 4 rfl) ?_
        refine lv_dup hx hb dX3_makeDot_91 rfl ?_
        refine va_get (D := D) (ci := 3) (v := .int (M_16 0 11)) (C := RX3) (T := TX3) (N := 12) hx hb hts in_X3 hown hK hP 0 rfl rfl 11 (by decide) kf_195 (fun _ h9 => h9) rfl dX3_makeDot_92 ?_
        refine lv_iconst (v := 1) hx hb dX3_makeDot_95 (by decide) ?_
        refine lv_iadd hx hb dX3_makeDot_96 ?_
        refine va_put (D := D) (ci := 3) (v := .int ((M_16 0 11) + 1)) (ty := .int) (C := RX3) (T := TX3) (N := 12) hx hb hts in_X3 tyX3 tyX3_ok nmX3 hown hK hP hD hS 0 rfl rfl 11 (by decide) kf_195 (fun _ h9 => h9) rfl (by decide +kernel) rfl rfl (Nat.le_of_ble_eq_true rfl) dX3_makeDot_97 (fun H locs hP hD hS => ?_)
        obtain ⟨M_17, eM_17⟩ : ∃ z : ST, z = x_st M_16 0 11 ((M_16 0 11) + 1) := ⟨_, rfl⟩
        have hP : va_P D vwCl ((w_Machine cT a M_17)) H := by rw [eM_17]; exact hP
        have hD : va_D A ((w_Machine cT a M_17)) := by rw [eM_17]; exact hD
        have hv := hv M_17 eM_17
        exact W.vret hx hb hr (fun t ht hW => ⟨⟨M_17, rfl, hv, by rw [ht]; exact hP, va_K.moved hW.alike hK, hD⟩, hS.F ht⟩) hS.2.2 dX3_makeDot_100
  · have hv := hv.2 c_1
    refine lv_aload_n hx hb dX3_makeDot_10 rfl (lv_at hl 0 rfl) ?_
    refine x_cVv (As := []) (rest := []) (wn := fun u_18 => (w_Machine cT a u_18)) ⟨hx, hb, hml, hown, hts⟩ (c_X3_takeScroll l D cT a M _ _ hv) w_177 hK hP hD hS hA hN [0, 1, 2, 3, 4, 5, 6, 7, 8, 9, 10, 11, 12, 13, 14, 15, 16, 17, 18, 19, 20, 21, 22, 23, 24, 25, 26, 27, 28] [] [0, 1, 2, 3, 4, 5, 6, 7, 8, 9, 10, 11, 12, 13, 14, 15, 16, 17, 18, 19, 20, 21, 22, 23, 24, 25, 26, 27, 28] rfl rfl (fun _ => rfl) (by decide) (by decide) (by decide) (by decide) 3 0 rfl rfl rfl hl.1 rfl (Nat.le_of_ble_eq_true rfl) dX3_makeDot_11 ⟨Nat.le_of_ble_eq_true rfl, Nat.le_of_ble_eq_true rfl⟩ (fun u_18 H locs hv hP hD hS => ?_)
    refine lv_aload_n hx hb dX3_makeDot_14 rfl (lv_at hl 0 rfl) ?_
    refine va_get (D := D) (ci := 3) (v := .ref (a 11)) (C := RX3) (T := TX3) (N := 12) hx hb hts in_X3 hown hK hP 0 rfl rfl 1 (by decide) kf_21 (fun _ h9 => h9) rfl dX3_makeDot_15 ?_
    refine x_cVi (As := []) (rest := []) (wn := fun u_19 => (w_Machine cT a (x_wb u_18 11 2 u_19))) ⟨hx, hb, hml, hown, hts⟩ (c_X2_takeBit l D cT (x_sh a 11) (x_sh u_18 11) _ _ hv) w_180 hK hP hD hS hA hN [11, 12] [0, 1, 2, 3, 4, 5, 6, 7, 8, 9, 10, 13, 14, 15, 16, 17, 18, 19, 20, 21, 22, 23, 24, 25, 26, 27, 28] [0, 1, 2, 3, 4, 5, 6, 7, 8, 9, 10, 27, 28, 11, 12, 13, 14, 15, 16, 17, 18, 19, 20, 21, 22, 23, 24, 25, 26] rfl rfl (fun _ => rfl) (by decide) (by decide) (by decide) (by decide) 2 0 rfl rfl rfl hl.1 rfl (Nat.le_of_ble_eq_true rfl) dX3_makeDot_18 ⟨Nat.le_of_ble_eq_true rfl, Nat.le_of_ble_eq_true rfl⟩ (fun r_20 u_19 H locs hv hP hD hS => ?_)
    obtain ⟨M_21, eM_21⟩ : ∃ z : ST, z = x_wb u_18 11 2 u_19 := ⟨_, rfl⟩
    have hP : va_P D vwCl ((w_Machine cT a M_21)) H := by rw [eM_21]; exact hP
    have hD : va_D A ((w_Machine cT a M_21)) := by rw [eM_21]; exact hD
    have hv := hv M_21 eM_21
    refine lv_istore_n (lv' := [(1, .int r_20), (0, .ref (a 0))]) hx hb dX3_makeDot_21 rfl hl (by decide) rfl (fun ls hl => ?_)
    refine lv_aload_n hx hb dX3_makeDot_22 rfl (lv_at hl 1 rfl) ?_
    refine va_get (D := D) (ci := 3) (v := .ref (a 1)) (C := RX3) (T := TX3) (N := 12) hx hb hts in_X3 hown hK hP 0 rfl rfl 0 (by decide) kf_12 (fun _ h9 => h9) rfl dX3_makeDot_23 ?_
    refine x_rV (As := []) (rest := []) ⟨hx, hb, hml, hown, hts⟩ (c_X0_rowHere l D cT (x_sh a 1) (x_sh M_21 1) _ hv) w_183 hK hP hS hN [1, 2, 3, 4, 5, 6, 7, 8, 9, 10] rfl 0 0 rfl rfl rfl hl.1 rfl (Nat.le_of_ble_eq_true rfl) dX3_makeDot_26 ⟨Nat.le_of_ble_eq_true rfl, Nat.le_of_ble_eq_true rfl⟩ (fun r_22 hv => ?_)
    refine lv_istore_n (lv' := [(2, .int r_22), (1, .int r_20), (0, .ref (a 0))]) hx hb dX3_makeDot_29 rfl hl (by decide) rfl (fun ls hl => ?_)
    refine lv_aload_n hx hb dX3_makeDot_30 rfl (lv_at hl 2 rfl) ?_
    refine va_get (D := D) (ci := 3) (v := .ref (a 1)) (C := RX3) (T := TX3) (N := 12) hx hb hts in_X3 hown hK hP 0 rfl rfl 0 (by decide) kf_12 (fun _ h9 => h9) rfl dX3_makeDot_31 ?_
    refine va_get (D := D) (ci := 0) (v := .int (M_21 1 3)) (C := RX0) (T := TX0) (N := 7) hx hb hts in_X0 hown hK hP 1 rfl rfl 3 (by decide) kf_75 (fun _ h9 => h9) rfl dX3_makeDot_34 ?_
    refine lv_iload_n hx hb dX3_makeDot_37 rfl (lv_at hl 0 rfl) ?_
    refine x_rN (As := [.int (M_21 1 3), .int r_22]) (rest := []) ⟨hx, hb, hml, hown, hts⟩ (c_X8_placeOf l D cT (M_21 1 3) r_22 _ hv) w_186 hK hS hN rfl hl.1 rfl (Nat.le_of_ble_eq_true rfl) dX3_makeDot_38 ⟨Nat.le_of_ble_eq_true rfl, Nat.le_of_ble_eq_true rfl⟩ (fun r_23 hv => ?_)
    refine lv_istore_n (lv' := [(3, .int r_23), (2, .int r_22), (1, .int r_20), (0, .ref (a 0))]) hx hb dX3_makeDot_41 rfl hl (by decide) rfl (fun ls hl => ?_)
    refine lv_iload_n hx hb dX3_makeDot_42 rfl (lv_at hl 0 rfl) ?_
    refine lv_iconst (v := (-1)) hx hb dX3_makeDot_43 (by decide) ?_
    refine lv_icmp_eq (tgt := 90) hx hb dX3_makeDot_44 (by decide) (fun c_24 => ?_) (fun c_24 => ?_)
    · have hv := hv.1 c_24
      refine lv_aload_n hx hb dX3_makeDot_90 rfl (lv_at hl 3 rfl) ?_
      refine lv_dup hx hb dX3_makeDot_91 rfl ?_
      refine va_get (D := D) (ci := 3) (v := .int (M_21 0 11)) (C := RX3) (T := TX3) (N := 12) hx hb hts in_X3 hown hK hP 0 rfl rfl 11 (by decide) kf_195 (fun _ h9 => h9) rfl dX3_makeDot_92 ?_
      refine lv_iconst (v := 1) hx hb dX3_makeDot_95 (by decide) ?_
      refine lv_iadd hx hb dX3_makeDot_96 ?_
      refine va_put (D := D) (ci := 3) (v := .int ((M_21 0 11) + 1)) (ty := .int) (C := RX3) (T := TX3) (N := 12) hx hb hts in_X3 tyX3 tyX3_ok nmX3 hown hK hP hD hS 0 rfl rfl 11 (by decide) kf_195 (fun _ h9 => h9) rfl (by decide +kernel) rfl rfl (Nat.le_of_ble_eq_true rfl) dX3_makeDot_97 (fun H locs hP hD hS => ?_)
      obtain ⟨M_25, eM_25⟩ : ∃ z : ST, z = x_st M_21 0 11 ((M_21 0 11) + 1) := ⟨_, rfl⟩
      have hP : va_P D vwCl ((w_Machine cT a M_25)) H := by rw [eM_25]; exact hP
      have hD : va_D A ((w_Machine cT a M_25)) := by rw [eM_25]; exact hD
      have hv := hv M_25 eM_25
      exact W.vret hx hb hr (fun t ht hW => ⟨⟨M_25, rfl, hv, by rw [ht]; exact hP, va_K.moved hW.alike hK, hD⟩, hS.F ht⟩) hS.2.2 dX3_makeDot_100
    · have hv := hv.2 c_24
      refine lv_aload_n hx hb dX3_makeDot_47 rfl (lv_at hl 3 rfl) ?_
      refine va_get (D := D) (ci := 3) (v := .ref (a 20)) (C := RX3) (T := TX3) (N := 12) hx hb hts in_X3 hown hK hP 0 rfl rfl 4 (by decide) kf_42 (fun _ h9 => h9) rfl dX3_makeDot_48 ?_
      refine lv_aload_n hx hb dX3_makeDot_51 rfl (lv_at hl 3 rfl) ?_
      refine va_get (D := D) (ci := 3) (v := .ref (a 1)) (C := RX3) (T := TX3) (N := 12) hx hb hts in_X3 hown hK hP 0 rfl rfl 0 (by decide) kf_12 (fun _ h9 => h9) rfl dX3_makeDot_52 ?_
      refine va_get (D := D) (ci := 0) (v := .int (M_21 1 3)) (C := RX0) (T := TX0) (N := 7) hx hb hts in_X0 hown hK hP 1 rfl rfl 3 (by decide) kf_75 (fun _ h9 => h9) rfl dX3_makeDot_55 ?_
      refine lv_iload_n hx hb dX3_makeDot_58 rfl (lv_at hl 1 rfl) ?_
      refine x_rV (As := [.int (M_21 1 3), .int r_22]) (rest := []) ⟨hx, hb, hml, hown, hts⟩ (c_X7_showing l D cT (x_sh a 20) (x_sh M_21 20) (M_21 1 3) r_22 _ hv) w_189 hK hP hS hN [20, 21, 22, 23, 24, 25] rfl 7 0 rfl rfl rfl hl.1 rfl (Nat.le_of_ble_eq_true rfl) dX3_makeDot_59 ⟨Nat.le_of_ble_eq_true rfl, Nat.le_of_ble_eq_true rfl⟩ (fun r_26 hv => ?_)
      refine lv_istore (lv' := [(4, .int r_26), (3, .int r_23), (2, .int r_22), (1, .int r_20), (0, .ref (a 0))]) hx hb dX3_makeDot_62 hl (by decide) rfl (fun ls hl => ?_)
      refine lv_aload_n hx hb dX3_makeDot_64 rfl (lv_at hl 4 rfl) ?_
      refine va_get (D := D) (ci := 3) (v := .ref (a 27)) (C := RX3) (T := TX3) (N := 12) hx hb hts in_X3 hown hK hP 0 rfl rfl 6 (by decide) kf_50 (fun _ h9 => h9) rfl dX3_makeDot_65 ?_
      refine lv_iload_n hx hb dX3_makeDot_68 rfl (lv_at hl 1 rfl) ?_
      refine lv_iload hx hb dX3_makeDot_69 (lv_at hl 0 rfl) ?_
      refine lv_iconst (v := (-1)) hx hb dX3_makeDot_71 (by decide) ?_
      refine lv_icmp_ne (tgt := 83) hx hb dX3_makeDot_72 (by decide) (fun c_27 => ?_) (fun c_27 => ?_)
      · have hv := hv.1 c_27
        refine lv_sipush (v := 256) hx hb dX3_makeDot_83 (by decide) ?_
        refine lv_iload hx hb dX3_makeDot_86 (lv_at hl 0 rfl) ?_
        refine lv_iadd hx hb dX3_makeDot_88 ?_
        obtain ⟨k_28, hk_28, ik_28, hv⟩ := hv
        refine x_ast hx hb hK hP hD hS 27 0 rfl rfl k_28 ik_28 hk_28 (by decide) dX3_makeDot_89 (fun H locs hP hD hS => ?_)
        obtain ⟨M_29, eM_29⟩ : ∃ z : ST, z = x_st M_21 27 k_28 (256 + r_26) := ⟨_, rfl⟩
        have hP : va_P D vwCl ((w_Machine cT a M_29)) H := by rw [eM_29]; exact hP
        have hD : va_D A ((w_Machine cT a M_29)) := by rw [eM_29]; exact hD
        have hv := hv M_29 eM_29
        refine lv_aload_n hx hb dX3_makeDot_90 rfl (lv_at hl 4 rfl) ?_
        refine lv_dup hx hb dX3_makeDot_91 rfl ?_
        refine va_get (D := D) (ci := 3) (v := .int (M_29 0 11)) (C := RX3) (T := TX3) (N := 12) hx hb hts in_X3 hown hK hP 0 rfl rfl 11 (by decide) kf_195 (fun _ h9 => h9) rfl dX3_makeDot_92 ?_
        refine lv_iconst (v := 1) hx hb dX3_makeDot_95 (by decide) ?_
        refine lv_iadd hx hb dX3_makeDot_96 ?_
        refine va_put (D := D) (ci := 3) (v := .int ((M_29 0 11) + 1)) (ty := .int) (C := RX3) (T := TX3) (N := 12) hx hb hts in_X3 tyX3 tyX3_ok nmX3 hown hK hP hD hS 0 rfl rfl 11 (by decide) kf_195 (fun _ h9 => h9) rfl (by decide +kernel) rfl rfl (Nat.le_of_ble_eq_true rfl) dX3_makeDot_97 (fun H locs hP hD hS => ?_)
        obtain ⟨M_30, eM_30⟩ : ∃ z : ST, z = x_st M_29 0 11 ((M_29 0 11) + 1) := ⟨_, rfl⟩
        have hP : va_P D vwCl ((w_Machine cT a M_30)) H := by rw [eM_30]; exact hP
        have hD : va_D A ((w_Machine cT a M_30)) := by rw [eM_30]; exact hD
        have hv := hv M_30 eM_30
        exact W.vret hx hb hr (fun t ht hW => ⟨⟨M_30, rfl, hv, by rw [ht]; exact hP, va_K.moved hW.alike hK, hD⟩, hS.F ht⟩) hS.2.2 dX3_makeDot_100
      · have hv := hv.2 c_27
        refine lv_aload_n hx hb dX3_makeDot_75 rfl (lv_at hl 4 rfl) ?_
        refine lv_iload_n hx hb dX3_makeDot_76 rfl (lv_at hl 3 rfl) ?_
        refine x_rV (As := [.int r_20]) (rest := [.int r_23, .ref (a 27)]) ⟨hx, hb, hml, hown, hts⟩ (c_X3_colourOf l D cT a M_21 r_20 _ hv) w_192 hK hP hS hN [0, 1, 2, 3, 4, 5, 6, 7, 8, 9, 10, 11, 12, 13, 14, 15, 16, 17, 18, 19, 20, 21, 22, 23, 24, 25, 26, 27, 28] rfl 3 0 rfl rfl rfl hl.1 rfl (Nat.le_of_ble_eq_true rfl) dX3_makeDot_77 ⟨Nat.le_of_ble_eq_true rfl, Nat.le_of_ble_eq_true rfl⟩ (fun r_31 hv => ?_)
        refine lv_goto (tgt := 89) hx hb dX3_makeDot_80 (by decide) ?_
        obtain ⟨k_32, hk_32, ik_32, hv⟩ := hv
        refine x_ast hx hb hK hP hD hS 27 0 rfl rfl k_32 ik_32 hk_32 (by decide) dX3_makeDot_89 (fun H locs hP hD hS => ?_)
        obtain ⟨M_33, eM_33⟩ : ∃ z : ST, z = x_st M_21 27 k_32 r_31 := ⟨_, rfl⟩
        have hP : va_P D vwCl ((w_Machine cT a M_33)) H := by rw [eM_33]; exact hP
        have hD : va_D A ((w_Machine cT a M_33)) := by rw [eM_33]; exact hD
        have hv := hv M_33 eM_33
        refine lv_aload_n hx hb dX3_makeDot_90 rfl (lv_at hl 4 rfl) ?_
        refine lv_dup hx hb dX3_makeDot_91 rfl ?_
        refine va_get (D := D) (ci := 3) (v := .int (M_33 0 11)) (C := RX3) (T := TX3) (N := 12) hx hb hts in_X3 hown hK hP 0 rfl rfl 11 (by decide) kf_195 (fun _ h9 => h9) rfl dX3_makeDot_92 ?_
        refine lv_iconst (v := 1) hx hb dX3_makeDot_95 (by decide) ?_
        refine lv_iadd hx hb dX3_makeDot_96 ?_
        refine va_put (D := D) (ci := 3) (v := .int ((M_33 0 11) + 1)) (ty := .int) (C := RX3) (T := TX3) (N := 12) hx hb hts in_X3 tyX3 tyX3_ok nmX3 hown hK hP hD hS 0 rfl rfl 11 (by decide) kf_195 (fun _ h9 => h9) rfl (by decide +kernel) rfl rfl (Nat.le_of_ble_eq_true rfl) dX3_makeDot_97 (fun H locs hP hD hS => ?_)
        obtain ⟨M_34, eM_34⟩ : ∃ z : ST, z = x_st M_33 0 11 ((M_33 0 11) + 1) := ⟨_, rfl⟩
        have hP : va_P D vwCl ((w_Machine cT a M_34)) H := by rw [eM_34]; exact hP
        have hD : va_D A ((w_Machine cT a M_34)) := by rw [eM_34]; exact hD
        have hv := hv M_34 eM_34
        exact W.vret hx hb hr (fun t ht hW => ⟨⟨M_34, rfl, hv, by rw [ht]; exact hP, va_K.moved hW.alike hK, hD⟩, hS.F ht⟩) hS.2.2 dX3_makeDot_100
