def v_X4_rowOf (M : ST) (p1 : Int32) (p2 : Int32) (post : Int32 → Prop) : Prop := ((((M 0 2) = 0) → post p1) ∧ ((¬ ((M 0 2) = 0)) → post ((2 * p1) + p2)))
set_option maxHeartbeats 4000000 in
set_option maxRecDepth 100000 in
theorem c_X4_rowOf (l : Launch) (D : va_G) (cT : Nat → ClassId) (a : Nat → Nat) (M : ST) (p1 : Int32) (p2 : Int32) (post : Int32 → Prop) (hv : v_X4_rowOf M p1 p2 post) : Met l yX4_rowOf wsX4_rowOf ({ frames := 0, cells := 0, slots := 0, locals := 0 }) (va_Pc [.ref (a 0), .int p1, .int p2] (x_R D cT ((w_Mode cT a M)))) (vp_Si post) 0 0 (fun _ => False) := by
  refine Met.ofW (cc := cX4_rowOf) (maxL := 3) (ret := (some .int)) (by decide) rfl ?_
  intro p e s m args below meth c s₁ B hml hpre
  obtain ⟨rfl, hP, hK, hN⟩ := hpre
  have hx := B.exec
  have hb := B.bytes
  have hr := B.returns
  have hts := atoms_spec (ws := wsX4_rowOf) B.pre
  have hown : s.vm.findClass RX4 = some m.cls := findClass_of_methodNamed B.named
  have hlocks := B.notSynchronized
  have hS : va_S (fun _ : Nat => False) s.heap s.heap [] := va_S.rf
  have hl := lv_entry ([.ref (a 0), .int p1, .int p2]) (n := 3) (Nat.le_of_ble_eq_true rfl)
  rw [lg_entry_eq]
  generalize (lg_sl ([.ref (a 0), .int p1, .int p2]) ++ List.replicate (3 - (lg_sl ([.ref (a 0), .int p1, .int p2])).length) Slot.unset).toArray = ls at hl ⊢
  have hl : lv_has ls 3 [(0, .ref (a 0)), (1, .int p1), (2, .int p2)] := hl
  have in_X4 : ∀ w ∈ wsX40, w ∈ wsX4_rowOf := by decide +kernel
  have kf_21 : (Cond.fieldLink RX4 21 "PictureBeats$Mode" "interlaced" "Z").before ([.ref (a 0), .int p1, .int p2] : List Value).toArray s = true := hts _ (by decide +kernel)
  refine lv_aload_n hx hb dX4_rowOf_0 rfl (lv_at hl 0 rfl) ?_
  refine va_get (D := D) (ci := 4) (v := .int (M 0 2)) (C := RX4) (T := TX4) (N := 3) hx hb hts in_X4 hown hK hP 0 rfl rfl 2 (by decide) kf_21 (fun _ h9 => h9) rfl dX4_rowOf_1 ?_
  refine lv_if_eq (tgt := 15) hx hb dX4_rowOf_4 (by decide) (fun c_1 => ?_) (fun c_1 => ?_)
  · have hv := hv.1 c_1
    refine lv_iload_n hx hb dX4_rowOf_15 rfl (lv_at hl 1 rfl) ?_
    exact W.iret (v := p1) hx hb hr (fun t ht hW => ⟨_, rfl, hv, ht⟩) (fun q h => absurd h List.not_mem_nil) dX4_rowOf_16
  · have hv := hv.2 c_1
    refine lv_iconst (v := 2) hx hb dX4_rowOf_7 (by decide) ?_
    refine lv_iload_n hx hb dX4_rowOf_8 rfl (lv_at hl 1 rfl) ?_
    refine lv_imul hx hb dX4_rowOf_9 ?_
    refine lv_iload_n hx hb dX4_rowOf_10 rfl (lv_at hl 2 rfl) ?_
    refine lv_iadd hx hb dX4_rowOf_11 ?_
    refine lv_goto (tgt := 16) hx hb dX4_rowOf_12 (by decide) ?_
    exact W.iret (v := ((2 * p1) + p2)) hx hb hr (fun t ht hW => ⟨_, rfl, hv, ht⟩) (fun q h => absurd h List.not_mem_nil) dX4_rowOf_16
def v_X4_copyFrom (M : ST) (N : ST) (post : ST → Prop) : Prop := v_X6_copyFrom (x_sh M 1) (x_sh N 1) (fun (u_1 : ST) => ∀ M_2 : ST, M_2 = x_wb M 1 1 u_1 → v_X6_copyFrom (x_sh M_2 2) (x_sh N 2) (fun (u_3 : ST) => ∀ M_4 : ST, M_4 = x_wb M_2 2 1 u_3 → x_bool (N 0 2) ∧ ∀ M_6 : ST, M_6 = x_st M_4 0 2 (N 0 2) → post M_6))
set_option maxHeartbeats 4000000 in
set_option maxRecDepth 100000 in
theorem c_X4_copyFrom (l : Launch) (D : va_G) (cT : Nat → ClassId) (a : Nat → Nat) (M : ST) (b : Nat → Nat) (N : ST) (sz : Nat) (post : ST → Prop) (hv : v_X4_copyFrom M N post) : Met l yX4_copyFrom wsX4_copyFrom ({ frames := 2, cells := 0, slots := 0, locals := 45 }) (va_Pc [.ref (a 0), .ref (b 0)] (x_U D cT ((w_Mode cT a M) ++ (w_Mode cT b N)) sz)) (va_Qv post (fun u t => x_B D cT ((w_Mode cT a u) ++ (w_Mode cT b N)) (va_A ((w_Mode cT a M) ++ (w_Mode cT b N)) sz) t) (va_A ((w_Mode cT a M) ++ (w_Mode cT b N)) sz)) 0 0 (va_A ((w_Mode cT a M) ++ (w_Mode cT b N)) sz) := by
  refine Met.ofW (cc := cX4_copyFrom) (maxL := 2) (ret := none) (by decide) rfl ?_
  intro p e s m args below meth c s₁ B hml hpre
  obtain ⟨rfl, hsz, hP, hK, hD0, hN⟩ := hpre
  have hx := B.exec
  have hb := B.bytes
  have hr := B.returns
  have hts := atoms_spec (ws := wsX4_copyFrom) B.pre
  have hown : s.vm.findClass RX4 = some m.cls := findClass_of_methodNamed B.named
  have hlocks := B.notSynchronized
  subst hsz
  have hD := hD0.self (sz := s.heap.size)
  generalize hAe : va_A ((w_Mode cT a M) ++ (w_Mode cT b N)) s.heap.size = A at hD hN ⊢
  have hA : ∀ q : Nat, s.heap.size ≤ q → A q := fun q h => by rw [← hAe]; exact Or.inr h
  have hS : va_S A s.heap s.heap [] := va_S.rf
  have hl := lv_entry ([.ref (a 0), .ref (b 0)]) (n := 2) (Nat.le_of_ble_eq_true rfl)
  rw [lg_entry_eq]
  generalize (lg_sl ([.ref (a 0), .ref (b 0)]) ++ List.replicate (2 - (lg_sl ([.ref (a 0), .ref (b 0)])).length) Slot.unset).toArray = ls at hl ⊢
  have hl : lv_has ls 2 [(0, .ref (a 0)), (1, .ref (b 0))] := hl
  have in_X4 : ∀ w ∈ wsX40, w ∈ wsX4_copyFrom := by decide +kernel
  have kf_12 : (Cond.fieldLink RX4 12 "PictureBeats$Mode" "across" "LPictureBeats$Span;").before ([.ref (a 0), .ref (b 0)] : List Value).toArray s = true := hts _ (by decide +kernel)
  have w_25 : CallW (headSpec wsX4_copyFrom ({ frames := 2, cells := 0, slots := 0, locals := 45 })).room s ([.ref (a 0), .ref (b 0)] : List Value).toArray RX4 RX6 25 yX6_copyFrom cX6_copyFrom 2 none wsX6_copyFrom ({ frames := 1, cells := 0, slots := 0, locals := 24 } : Room) 0 0 1 := cwV 1 hts gX4_copyFrom_X6_copyFrom rfl rfl rfl (by decide +kernel) ⟨Nat.le_of_ble_eq_true rfl, Nat.le_of_ble_eq_true rfl⟩
  have kf_18 : (Cond.fieldLink RX4 18 "PictureBeats$Mode" "down" "LPictureBeats$Span;").before ([.ref (a 0), .ref (b 0)] : List Value).toArray s = true := hts _ (by decide +kernel)
  have kf_21 : (Cond.fieldLink RX4 21 "PictureBeats$Mode" "interlaced" "Z").before ([.ref (a 0), .ref (b 0)] : List Value).toArray s = true := hts _ (by decide +kernel)
  refine lv_aload_n hx hb dX4_copyFrom_0 rfl (lv_at hl 0 rfl) ?_
  refine va_get (D := D) (ci := 4) (v := .ref (a 1)) (C := RX4) (T := TX4) (N := 3) hx hb hts in_X4 hown hK hP 0 rfl rfl 0 (by decide) kf_12 (fun _ h9 => h9) rfl dX4_copyFrom_1 ?_
  refine lv_aload_n hx hb dX4_copyFrom_4 rfl (lv_at hl 1 rfl) ?_
  refine va_get (D := D) (ci := 4) (v := .ref (b 1)) (C := RX4) (T := TX4) (N := 3) hx hb hts in_X4 hown hK hP 3 rfl rfl 0 (by decide) kf_12 (fun _ h9 => h9) rfl dX4_copyFrom_5 ?_
  refine x_cVv (As := [.ref (b 1)]) (rest := []) (wn := fun u_1 => (w_Mode cT a (x_wb M 1 1 u_1)) ++ (w_Mode cT b N)) ⟨hx, hb, hml, hown, hts⟩ (c_X6_copyFrom l D cT (x_sh a 1) (x_sh M 1) (x_sh b 1) (x_sh N 1) _ _ hv) w_25 hK hP hD hS hA hN [1, 4] [0, 2, 3, 5] [0, 4, 1, 2, 5, 3] rfl rfl (fun _ => rfl) (by decide) (by decide) (by decide) (by decide) 6 0 rfl rfl rfl hl.1 rfl (Nat.le_of_ble_eq_true rfl) dX4_copyFrom_8 ⟨Nat.le_of_ble_eq_true rfl, Nat.le_of_ble_eq_true rfl⟩ (fun u_1 H locs hv hP hD hS => ?_)
  obtain ⟨M_2, eM_2⟩ : ∃ z : ST, z = x_wb M 1 1 u_1 := ⟨_, rfl⟩
  have hP : va_P D vwCl ((w_Mode cT a M_2) ++ (w_Mode cT b N)) H := by rw [eM_2]; exact hP
  have hD : va_D A ((w_Mode cT a M_2) ++ (w_Mode cT b N)) := by rw [eM_2]; exact hD
  have hv := hv M_2 eM_2
  refine lv_aload_n hx hb dX4_copyFrom_11 rfl (lv_at hl 0 rfl) ?_
  refine va_get (D := D) (ci := 4) (v := .ref (a 2)) (C := RX4) (T := TX4) (N := 3) hx hb hts in_X4 hown hK hP 0 rfl rfl 1 (by decide) kf_18 (fun _ h9 => h9) rfl dX4_copyFrom_12 ?_
  refine lv_aload_n hx hb dX4_copyFrom_15 rfl (lv_at hl 1 rfl) ?_
  refine va_get (D := D) (ci := 4) (v := .ref (b 2)) (C := RX4) (T := TX4) (N := 3) hx hb hts in_X4 hown hK hP 3 rfl rfl 1 (by decide) kf_18 (fun _ h9 => h9) rfl dX4_copyFrom_16 ?_
  refine x_cVv (As := [.ref (b 2)]) (rest := []) (wn := fun u_3 => (w_Mode cT a (x_wb M_2 2 1 u_3)) ++ (w_Mode cT b N)) ⟨hx, hb, hml, hown, hts⟩ (c_X6_copyFrom l D cT (x_sh a 2) (x_sh M_2 2) (x_sh b 2) (x_sh N 2) _ _ hv) w_25 hK hP hD hS hA hN [2, 5] [0, 1, 3, 4] [0, 1, 4, 2, 3, 5] rfl rfl (fun _ => rfl) (by decide) (by decide) (by decide) (by decide) 6 0 rfl rfl rfl hl.1 rfl (Nat.le_of_ble_eq_true rfl) dX4_copyFrom_19 ⟨Nat.le_of_ble_eq_true rfl, Nat.le_of_ble_eq_true rfl⟩ (fun u_3 H locs hv hP hD hS => ?_)
  obtain ⟨M_4, eM_4⟩ : ∃ z : ST, z = x_wb M_2 2 1 u_3 := ⟨_, rfl⟩
  have hP : va_P D vwCl ((w_Mode cT a M_4) ++ (w_Mode cT b N)) H := by rw [eM_4]; exact hP
  have hD : va_D A ((w_Mode cT a M_4) ++ (w_Mode cT b N)) := by rw [eM_4]; exact hD
  have hv := hv M_4 eM_4
  refine lv_aload_n hx hb dX4_copyFrom_22 rfl (lv_at hl 0 rfl) ?_
  refine lv_aload_n hx hb dX4_copyFrom_23 rfl (lv_at hl 1 rfl) ?_
  refine va_get (D := D) (ci := 4) (v := .int (N 0 2)) (C := RX4) (T := TX4) (N := 3) hx hb hts in_X4 hown hK hP 3 rfl rfl 2 (by decide) kf_21 (fun _ h9 => h9) rfl dX4_copyFrom_24 ?_
  obtain ⟨h_5, hv⟩ := hv
  refine va_put (D := D) (ci := 4) (v := .int (N 0 2)) (ty := .boolean) (C := RX4) (T := TX4) (N := 3) hx hb hts in_X4 tyX4 tyX4_ok nmX4 hown hK hP hD hS 0 rfl rfl 2 (by decide) kf_21 (fun _ h9 => h9) rfl (by decide +kernel) (x_bool_n h_5) (x_bool_f h_5) (Nat.le_of_ble_eq_true rfl) dX4_copyFrom_27 (fun H locs hP hD hS => ?_)
  obtain ⟨M_6, eM_6⟩ : ∃ z : ST, z = x_st M_4 0 2 (N 0 2) := ⟨_, rfl⟩
  have hP : va_P D vwCl ((w_Mode cT a M_6) ++ (w_Mode cT b N)) H := by rw [eM_6]; exact hP
  have hD : va_D A ((w_Mode cT a M_6) ++ (w_Mode cT b N)) := by rw [eM_6]; exact hD
  have hv := hv M_6 eM_6
  exact W.vret hx hb hr (fun t ht hW => ⟨⟨M_6, rfl, hv, by rw [ht]; exact hP, va_K.moved hW.alike hK, hD⟩, hS.F ht⟩) hS.2.2 dX4_copyFrom_30
def v_X0_isBehindSeen (M : ST) (post : Int32 → Prop) : Prop := (((¬ ((M 0 3) = (M 2 0))) → post 0) ∧ (((M 0 3) = (M 2 0)) → post 1))
set_option maxHeartbeats 4000000 in
set_option maxRecDepth 100000 in
theorem c_X0_isBehindSeen (l : Launch) (D : va_G) (cT : Nat → ClassId) (a : Nat → Nat) (M : ST) (post : Int32 → Prop) (hv : v_X0_isBehindSeen M post) : Met l yX0_isBehindSeen wsX0_isBehindSeen ({ frames := 0, cells := 0, slots := 0, locals := 0 }) (va_Pc [.ref (a 0)] (x_R D cT ((w_Beam cT a M)))) (vp_Si post) 0 0 (fun _ => False) := by
  refine Met.ofW (cc := cX0_isBehindSeen) (maxL := 1) (ret := (some .boolean)) (by decide) rfl ?_
  intro p e s m args below meth c s₁ B hml hpre
  obtain ⟨rfl, hP, hK, hN⟩ := hpre
  have hx := B.exec
  have hb := B.bytes
  have hr := B.returns
  have hts := atoms_spec (ws := wsX0_isBehindSeen) B.pre
  have hown : s.vm.findClass RX0 = some m.cls := findClass_of_methodNamed B.named
  have hlocks := B.notSynchronized
  have hS : va_S (fun _ : Nat => False) s.heap s.heap [] := va_S.rf
  have hl := lv_entry ([.ref (a 0)]) (n := 1) (Nat.le_of_ble_eq_true rfl)
  rw [lg_entry_eq]
  generalize (lg_sl ([.ref (a 0)]) ++ List.replicate (1 - (lg_sl ([.ref (a 0)])).length) Slot.unset).toArray = ls at hl ⊢
  have hl : lv_has ls 1 [(0, .ref (a 0))] := hl
  have in_X0 : ∀ w ∈ wsX00, w ∈ wsX0_isBehindSeen := by decide +kernel
  have in_X4 : ∀ w ∈ wsX40, w ∈ wsX0_isBehindSeen := by decide +kernel
  have in_X6 : ∀ w ∈ wsX60, w ∈ wsX0_isBehindSeen := by decide +kernel
  have kf_34 : (Cond.fieldLink RX0 34 "PictureBeats$Beam" "x" "I").before ([.ref (a 0)] : List Value).toArray s = true := hts _ (by decide +kernel)
  have kf_12 : (Cond.fieldLink RX0 12 "PictureBeats$Beam" "holding" "LPictureBeats$Mode;").before ([.ref (a 0)] : List Value).toArray s = true := hts _ (by decide +kernel)
  have kf_24 : (Cond.fieldLink RX0 24 "PictureBeats$Mode" "across" "LPictureBeats$Span;").before ([.ref (a 0)] : List Value).toArray s = true := hts _ (by decide +kernel)
  have kf_28 : (Cond.fieldLink RX0 28 "PictureBeats$Span" "seen" "I").before ([.ref (a 0)] : List Value).toArray s = true := hts _ (by decide +kernel)
  refine lv_aload_n hx hb dX0_isBehindSeen_0 rfl (lv_at hl 0 rfl) ?_
  refine va_get (D := D) (ci := 0) (v := .int (M 0 3)) (C := RX0) (T := TX0) (N := 7) hx hb hts in_X0 hown hK hP 0 rfl rfl 3 (by decide) kf_34 (fun _ h9 => h9) rfl dX0_isBehindSeen_1 ?_
  refine lv_aload_n hx hb dX0_isBehindSeen_4 rfl (lv_at hl 0 rfl) ?_
  refine va_get (D := D) (ci := 0) (v := .ref (a 1)) (C := RX0) (T := TX0) (N := 7) hx hb hts in_X0 hown hK hP 0 rfl rfl 0 (by decide) kf_12 (fun _ h9 => h9) rfl dX0_isBehindSeen_5 ?_
  refine va_get (D := D) (ci := 4) (v := .ref (a 2)) (C := RX4) (T := TX4) (N := 3) hx hb hts in_X4 hown hK hP 1 rfl rfl 0 (by decide) kf_24 (fun _ h9 => h9) rfl dX0_isBehindSeen_8 ?_
  refine va_get (D := D) (ci := 6) (v := .int (M 2 0)) (C := RX6) (T := TX6) (N := 4) hx hb hts in_X6 hown hK hP 2 rfl rfl 0 (by decide) kf_28 (fun _ h9 => h9) rfl dX0_isBehindSeen_11 ?_
  refine lv_icmp_ne (tgt := 21) hx hb dX0_isBehindSeen_14 (by decide) (fun c_1 => ?_) (fun c_1 => ?_)
  · have hv := hv.1 c_1
    refine lv_iconst (v := 0) hx hb dX0_isBehindSeen_21 (by decide) ?_
    exact W.zret (v := 0) hx hb hr rfl (fun t ht hW => ⟨_, rfl, hv, ht⟩) (fun q h => absurd h List.not_mem_nil) dX0_isBehindSeen_22
  · have hv := hv.2 c_1
    refine lv_iconst (v := 1) hx hb dX0_isBehindSeen_17 (by decide) ?_
    refine lv_goto (tgt := 22) hx hb dX0_isBehindSeen_18 (by decide) ?_
    exact W.zret (v := 1) hx hb hr rfl (fun t ht hW => ⟨_, rfl, hv, ht⟩) (fun q h => absurd h List.not_mem_nil) dX0_isBehindSeen_22
def v_X0_isOnLastLine (M : ST) (post : Int32 → Prop) : Prop := v_X6_whole (x_sh M 3) (fun r_1 => (((¬ ((M 0 4) = (r_1 - 1))) → post 0) ∧ (((M 0 4) = (r_1 - 1)) → post 1)))
set_option maxHeartbeats 4000000 in
set_option maxRecDepth 100000 in
theorem c_X0_isOnLastLine (l : Launch) (D : va_G) (cT : Nat → ClassId) (a : Nat → Nat) (M : ST) (post : Int32 → Prop) (hv : v_X0_isOnLastLine M post) : Met l yX0_isOnLastLine wsX0_isOnLastLine ({ frames := 1, cells := 0, slots := 0, locals := 20 }) (va_Pc [.ref (a 0)] (x_R D cT ((w_Beam cT a M)))) (vp_Si post) 0 0 (fun _ => False) := by
  refine Met.ofW (cc := cX0_isOnLastLine) (maxL := 1) (ret := (some .boolean)) (by decide) rfl ?_
  intro p e s m args below meth c s₁ B hml hpre
  obtain ⟨rfl, hP, hK, hN⟩ := hpre
  have hx := B.exec
  have hb := B.bytes
  have hr := B.returns
  have hts := atoms_spec (ws := wsX0_isOnLastLine) B.pre
  have hown : s.vm.findClass RX0 = some m.cls := findClass_of_methodNamed B.named
  have hlocks := B.notSynchronized
  have hS : va_S (fun _ : Nat => False) s.heap s.heap [] := va_S.rf
  have hl := lv_entry ([.ref (a 0)]) (n := 1) (Nat.le_of_ble_eq_true rfl)
  rw [lg_entry_eq]
  generalize (lg_sl ([.ref (a 0)]) ++ List.replicate (1 - (lg_sl ([.ref (a 0)])).length) Slot.unset).toArray = ls at hl ⊢
  have hl : lv_has ls 1 [(0, .ref (a 0))] := hl
  have in_X0 : ∀ w ∈ wsX00, w ∈ wsX0_isOnLastLine := by decide +kernel
  have in_X4 : ∀ w ∈ wsX40, w ∈ wsX0_isOnLastLine := by decide +kernel
  have kf_44 : (Cond.fieldLink RX0 44 "PictureBeats$Beam" "y" "I").before ([.ref (a 0)] : List Value).toArray s = true := hts _ (by decide +kernel)
  have kf_12 : (Cond.fieldLink RX0 12 "PictureBeats$Beam" "holding" "LPictureBeats$Mode;").before ([.ref (a 0)] : List Value).toArray s = true := hts _ (by decide +kernel)
  have kf_37 : (Cond.fieldLink RX0 37 "PictureBeats$Mode" "down" "LPictureBeats$Span;").before ([.ref (a 0)] : List Value).toArray s = true := hts _ (by decide +kernel)
  have w_40 : CallW (headSpec wsX0_isOnLastLine ({ frames := 1, cells := 0, slots := 0, locals := 20 })).room s ([.ref (a 0)] : List Value).toArray RX0 RX6 40 yX6_whole cX6_whole 1 (some .int) wsX6_whole ({ frames := 0, cells := 0, slots := 0, locals := 0 } : Room) 0 0 0 := cwV 0 hts gX0_isOnLastLine_X6_whole rfl rfl rfl (by decide +kernel) ⟨Nat.le_of_ble_eq_true rfl, Nat.le_of_ble_eq_true rfl⟩
  refine lv_aload_n hx hb dX0_isOnLastLine_0 rfl (lv_at hl 0 rfl) ?_
  refine va_get (D := D) (ci := 0) (v := .int (M 0 4)) (C := RX0) (T := TX0) (N := 7) hx hb hts in_X0 hown hK hP 0 rfl rfl 4 (by decide) kf_44 (fun _ h9 => h9) rfl dX0_isOnLastLine_1 ?_
  refine lv_aload_n hx hb dX0_isOnLastLine_4 rfl (lv_at hl 0 rfl) ?_
  refine va_get (D := D) (ci := 0) (v := .ref (a 1)) (C := RX0) (T := TX0) (N := 7) hx hb hts in_X0 hown hK hP 0 rfl rfl 0 (by decide) kf_12 (fun _ h9 => h9) rfl dX0_isOnLastLine_5 ?_
  refine va_get (D := D) (ci := 4) (v := .ref (a 3)) (C := RX4) (T := TX4) (N := 3) hx hb hts in_X4 hown hK hP 1 rfl rfl 1 (by decide) kf_37 (fun _ h9 => h9) rfl dX0_isOnLastLine_8 ?_
  refine x_rV (As := []) (rest := [.int (M 0 4)]) ⟨hx, hb, hml, hown, hts⟩ (c_X6_whole l D cT (x_sh a 3) (x_sh M 3) _ hv) w_40 hK hP hS hN [3] rfl 6 0 rfl rfl rfl hl.1 rfl (Nat.le_of_ble_eq_true rfl) dX0_isOnLastLine_11 ⟨Nat.le_of_ble_eq_true rfl, Nat.le_of_ble_eq_true rfl⟩ (fun r_1 hv => ?_)
  refine lv_iconst (v := 1) hx hb dX0_isOnLastLine_14 (by decide) ?_
  refine lv_isub hx hb dX0_isOnLastLine_15 ?_
  refine lv_icmp_ne (tgt := 23) hx hb dX0_isOnLastLine_16 (by decide) (fun c_2 => ?_) (fun c_2 => ?_)
  · have hv := hv.1 c_2
    refine lv_iconst (v := 0) hx hb dX0_isOnLastLine_23 (by decide) ?_
    exact W.zret (v := 0) hx hb hr rfl (fun t ht hW => ⟨_, rfl, hv, ht⟩) (fun q h => absurd h List.not_mem_nil) dX0_isOnLastLine_24
  · have hv := hv.2 c_2
    refine lv_iconst (v := 1) hx hb dX0_isOnLastLine_19 (by decide) ?_
    refine lv_goto (tgt := 24) hx hb dX0_isOnLastLine_20 (by decide) ?_
    exact W.zret (v := 1) hx hb hr rfl (fun t ht hW => ⟨_, rfl, hv, ht⟩) (fun q h => absurd h List.not_mem_nil) dX0_isOnLastLine_24
def v_X0_isOnDot (M : ST) (post : Int32 → Prop) : Prop := v_X6_isSeen (x_sh M 2) (M 0 3) (fun r_1 => (((r_1 = 0) → post 0) ∧ ((¬ (r_1 = 0)) → v_X6_isSeen (x_sh M 3) (M 0 4) (fun r_3 => (((r_3 = 0) → post 0) ∧ ((¬ (r_3 = 0)) → post 1))))))
set_option maxHeartbeats 4000000 in
set_option maxRecDepth 100000 in
theorem c_X0_isOnDot (l : Launch) (D : va_G) (cT : Nat → ClassId) (a : Nat → Nat) (M : ST) (post : Int32 → Prop) (hv : v_X0_isOnDot M post) : Met l yX0_isOnDot wsX0_isOnDot ({ frames := 1, cells := 0, slots := 0, locals := 21 }) (va_Pc [.ref (a 0)] (x_R D cT ((w_Beam cT a M)))) (vp_Si post) 0 0 (fun _ => False) := by
  refine Met.ofW (cc := cX0_isOnDot) (maxL := 1) (ret := (some .boolean)) (by decide) rfl ?_
  intro p e s m args below meth c s₁ B hml hpre
  obtain ⟨rfl, hP, hK, hN⟩ := hpre
  have hx := B.exec
  have hb := B.bytes
  have hr := B.returns
  have hts := atoms_spec (ws := wsX0_isOnDot) B.pre
  have hown : s.vm.findClass RX0 = some m.cls := findClass_of_methodNamed B.named
  have hlocks := B.notSynchronized
  have hS : va_S (fun _ : Nat => False) s.heap s.heap [] := va_S.rf
  have hl := lv_entry ([.ref (a 0)]) (n := 1) (Nat.le_of_ble_eq_true rfl)
  rw [lg_entry_eq]
  generalize (lg_sl ([.ref (a 0)]) ++ List.replicate (1 - (lg_sl ([.ref (a 0)])).length) Slot.unset).toArray = ls at hl ⊢
  have hl : lv_has ls 1 [(0, .ref (a 0))] := hl
  have in_X0 : ∀ w ∈ wsX00, w ∈ wsX0_isOnDot := by decide +kernel
  have in_X4 : ∀ w ∈ wsX40, w ∈ wsX0_isOnDot := by decide +kernel
  have kf_12 : (Cond.fieldLink RX0 12 "PictureBeats$Beam" "holding" "LPictureBeats$Mode;").before ([.ref (a 0)] : List Value).toArray s = true := hts _ (by decide +kernel)
  have kf_24 : (Cond.fieldLink RX0 24 "PictureBeats$Mode" "across" "LPictureBeats$Span;").before ([.ref (a 0)] : List Value).toArray s = true := hts _ (by decide +kernel)
  have kf_34 : (Cond.fieldLink RX0 34 "PictureBeats$Beam" "x" "I").before ([.ref (a 0)] : List Value).toArray s = true := hts _ (by decide +kernel)
  have w_47 : CallW (headSpec wsX0_isOnDot ({ frames := 1, cells := 0, slots := 0, locals := 21 })).room s ([.ref (a 0)] : List Value).toArray RX0 RX6 47 yX6_isSeen cX6_isSeen 2 (some .boolean) wsX6_isSeen ({ frames := 0, cells := 0, slots := 0, locals := 0 } : Room) 0 0 1 := cwV 1 hts gX0_isOnDot_X6_isSeen rfl rfl rfl (by decide +kernel) ⟨Nat.le_of_ble_eq_true rfl, Nat.le_of_ble_eq_true rfl⟩
  have kf_37 : (Cond.fieldLink RX0 37 "PictureBeats$Mode" "down" "LPictureBeats$Span;").before ([.ref (a 0)] : List Value).toArray s = true := hts _ (by decide +kernel)
  have kf_44 : (Cond.fieldLink RX0 44 "PictureBeats$Beam" "y" "I").before ([.ref (a 0)] : List Value).toArray s = true := hts _ (by decide +kernel)
  refine lv_aload_n hx hb dX0_isOnDot_0 rfl (lv_at hl 0 rfl) ?_
  refine va_get (D := D) (ci := 0) (v := .ref (a 1)) (C := RX0) (T := TX0) (N := 7) hx hb hts in_X0 hown hK hP 0 rfl rfl 0 (by decide) kf_12 (fun _ h9 => h9) rfl dX0_isOnDot_1 ?_
  refine va_get (D := D) (ci := 4) (v := .ref (a 2)) (C := RX4) (T := TX4) (N := 3) hx hb hts in_X4 hown hK hP 1 rfl rfl 0 (by decide) kf_24 (fun _ h9 => h9) rfl dX0_isOnDot_4 ?_
  refine lv_aload_n hx hb dX0_isOnDot_7 rfl (lv_at hl 0 rfl) ?_
  refine va_get (D := D) (ci := 0) (v := .int (M 0 3)) (C := RX0) (T := TX0) (N := 7) hx hb hts in_X0 hown hK hP 0 rfl rfl 3 (by decide) kf_34 (fun _ h9 => h9) rfl dX0_isOnDot_8 ?_
  refine x_rV (As := [.int (M 0 3)]) (rest := []) ⟨hx, hb, hml, hown, hts⟩ (c_X6_isSeen l D cT (x_sh a 2) (x_sh M 2) (M 0 3) _ hv) w_47 hK hP hS hN [2] rfl 6 0 rfl rfl rfl hl.1 rfl (Nat.le_of_ble_eq_true rfl) dX0_isOnDot_11 ⟨Nat.le_of_ble_eq_true rfl, Nat.le_of_ble_eq_true rfl⟩ (fun r_1 hv => ?_)
  refine lv_if_eq (tgt := 38) hx hb dX0_isOnDot_14 (by decide) (fun c_2 => ?_) (fun c_2 => ?_)
  · have hv := hv.1 c_2
    refine lv_iconst (v := 0) hx hb dX0_isOnDot_38 (by decide) ?_
    exact W.zret (v := 0) hx hb hr rfl (fun t ht hW => ⟨_, rfl, hv, ht⟩) (fun q h => absurd h List.not_mem_nil) dX0_isOnDot_39
  · have hv := hv.2 c_2
    refine lv_aload_n hx hb dX0_isOnDot_17 rfl (lv_at hl 0 rfl) ?_
    refine va_get (D := D) (ci := 0) (v := .ref (a 1)) (C := RX0) (T := TX0) (N := 7) hx hb hts in_X0 hown hK hP 0 rfl rfl 0 (by decide) kf_12 (fun _ h9 => h9) rfl dX0_isOnDot_18 ?_
    refine va_get (D := D) (ci := 4) (v := .ref (a 3)) (C := RX4) (T := TX4) (N := 3) hx hb hts in_X4 hown hK hP 1 rfl rfl 1 (by decide) kf_37 (fun _ h9 => h9) rfl dX0_isOnDot_21 ?_
    refine lv_aload_n hx hb dX0_isOnDot_24 rfl (lv_at hl 0 rfl) ?_
    refine va_get (D := D) (ci := 0) (v := .int (M 0 4)) (C := RX0) (T := TX0) (N := 7) hx hb hts in_X0 hown hK hP 0 rfl rfl 4 (by decide) kf_44 (fun _ h9 => h9) rfl dX0_isOnDot_25 ?_
    refine x_rV (As := [.int (M 0 4)]) (rest := []) ⟨hx, hb, hml, hown, hts⟩ (c_X6_isSeen l D cT (x_sh a 3) (x_sh M 3) (M 0 4) _ hv) w_47 hK hP hS hN [3] rfl 6 0 rfl rfl rfl hl.1 rfl (Nat.le_of_ble_eq_true rfl) dX0_isOnDot_28 ⟨Nat.le_of_ble_eq_true rfl, Nat.le_of_ble_eq_true rfl⟩ (fun r_3 hv => ?_)
    refine lv_if_eq (tgt := 38) hx hb dX0_isOnDot_31 (by decide) (fun c_4 => ?_) (fun c_4 => ?_)
    · have hv := hv.1 c_4
      refine lv_iconst (v := 0) hx hb dX0_isOnDot_38 (by decide) ?_
      exact W.zret (v := 0) hx hb hr rfl (fun t ht hW => ⟨_, rfl, hv, ht⟩) (fun q h => absurd h List.not_mem_nil) dX0_isOnDot_39
    · have hv := hv.2 c_4
      refine lv_iconst (v := 1) hx hb dX0_isOnDot_34 (by decide) ?_
      refine lv_goto (tgt := 39) hx hb dX0_isOnDot_35 (by decide) ?_
      exact W.zret (v := 1) hx hb hr rfl (fun t ht hW => ⟨_, rfl, hv, ht⟩) (fun q h => absurd h List.not_mem_nil) dX0_isOnDot_39
def v_X0_rowHere (M : ST) (post : Int32 → Prop) : Prop := v_X4_rowOf (x_sh M 1) (M 0 4) (M 0 5) (fun r_1 => post r_1)
set_option maxHeartbeats 4000000 in
set_option maxRecDepth 100000 in
theorem c_X0_rowHere (l : Launch) (D : va_G) (cT : Nat → ClassId) (a : Nat → Nat) (M : ST) (post : Int32 → Prop) (hv : v_X0_rowHere M post) : Met l yX0_rowHere wsX0_rowHere ({ frames := 1, cells := 0, slots := 0, locals := 22 }) (va_Pc [.ref (a 0)] (x_R D cT ((w_Beam cT a M)))) (vp_Si post) 0 0 (fun _ => False) := by
  refine Met.ofW (cc := cX0_rowHere) (maxL := 1) (ret := (some .int)) (by decide) rfl ?_
  intro p e s m args below meth c s₁ B hml hpre
  obtain ⟨rfl, hP, hK, hN⟩ := hpre
  have hx := B.exec
  have hb := B.bytes
  have hr := B.returns
  have hts := atoms_spec (ws := wsX0_rowHere) B.pre
  have hown : s.vm.findClass RX0 = some m.cls := findClass_of_methodNamed B.named
  have hlocks := B.notSynchronized
  have hS : va_S (fun _ : Nat => False) s.heap s.heap [] := va_S.rf
  have hl := lv_entry ([.ref (a 0)]) (n := 1) (Nat.le_of_ble_eq_true rfl)
  rw [lg_entry_eq]
  generalize (lg_sl ([.ref (a 0)]) ++ List.replicate (1 - (lg_sl ([.ref (a 0)])).length) Slot.unset).toArray = ls at hl ⊢
  have hl : lv_has ls 1 [(0, .ref (a 0))] := hl
  have in_X0 : ∀ w ∈ wsX00, w ∈ wsX0_rowHere := by decide +kernel
  have kf_12 : (Cond.fieldLink RX0 12 "PictureBeats$Beam" "holding" "LPictureBeats$Mode;").before ([.ref (a 0)] : List Value).toArray s = true := hts _ (by decide +kernel)
  have kf_44 : (Cond.fieldLink RX0 44 "PictureBeats$Beam" "y" "I").before ([.ref (a 0)] : List Value).toArray s = true := hts _ (by decide +kernel)
  have kf_51 : (Cond.fieldLink RX0 51 "PictureBeats$Beam" "field" "I").before ([.ref (a 0)] : List Value).toArray s = true := hts _ (by decide +kernel)
  have w_54 : CallW (headSpec wsX0_rowHere ({ frames := 1, cells := 0, slots := 0, locals := 22 })).room s ([.ref (a 0)] : List Value).toArray RX0 RX4 54 yX4_rowOf cX4_rowOf 3 (some .int) wsX4_rowOf ({ frames := 0, cells := 0, slots := 0, locals := 0 } : Room) 0 0 2 := cwV 2 hts gX0_rowHere_X4_rowOf rfl rfl rfl (by decide +kernel) ⟨Nat.le_of_ble_eq_true rfl, Nat.le_of_ble_eq_true rfl⟩
  refine lv_aload_n hx hb dX0_rowHere_0 rfl (lv_at hl 0 rfl) ?_
  refine va_get (D := D) (ci := 0) (v := .ref (a 1)) (C := RX0) (T := TX0) (N := 7) hx hb hts in_X0 hown hK hP 0 rfl rfl 0 (by decide) kf_12 (fun _ h9 => h9) rfl dX0_rowHere_1 ?_
  refine lv_aload_n hx hb dX0_rowHere_4 rfl (lv_at hl 0 rfl) ?_
  refine va_get (D := D) (ci := 0) (v := .int (M 0 4)) (C := RX0) (T := TX0) (N := 7) hx hb hts in_X0 hown hK hP 0 rfl rfl 4 (by decide) kf_44 (fun _ h9 => h9) rfl dX0_rowHere_5 ?_
  refine lv_aload_n hx hb dX0_rowHere_8 rfl (lv_at hl 0 rfl) ?_
  refine va_get (D := D) (ci := 0) (v := .int (M 0 5)) (C := RX0) (T := TX0) (N := 7) hx hb hts in_X0 hown hK hP 0 rfl rfl 5 (by decide) kf_51 (fun _ h9 => h9) rfl dX0_rowHere_9 ?_
  refine x_rV (As := [.int (M 0 4), .int (M 0 5)]) (rest := []) ⟨hx, hb, hml, hown, hts⟩ (c_X4_rowOf l D cT (x_sh a 1) (x_sh M 1) (M 0 4) (M 0 5) _ hv) w_54 hK hP hS hN [1, 2, 3] rfl 4 0 rfl rfl rfl hl.1 rfl (Nat.le_of_ble_eq_true rfl) dX0_rowHere_12 ⟨Nat.le_of_ble_eq_true rfl, Nat.le_of_ble_eq_true rfl⟩ (fun r_1 hv => ?_)
  exact W.iret (v := r_1) hx hb hr (fun t ht hW => ⟨_, rfl, hv, ht⟩) (fun q h => absurd h List.not_mem_nil) dX0_rowHere_15
def v_X0_signalsHere (M : ST) (post : Int32 → Prop) : Prop := v_X6_isSync (x_sh M 2) (M 0 3) (fun r_1 => (((r_1 = 0) → v_X6_isSync (x_sh M 3) (M 0 4) (fun r_3 => (((r_3 = 0) → v_X0_isOnDot M (fun r_5 => (((r_5 = 0) → post ((0 ||| 0) ||| 4)) ∧ ((¬ (r_5 = 0)) → post ((0 ||| 0) ||| 0))))) ∧ ((¬ (r_3 = 0)) → v_X0_isOnDot M (fun r_7 => (((r_7 = 0) → post ((0 ||| 2) ||| 4)) ∧ ((¬ (r_7 = 0)) → post ((0 ||| 2) ||| 0)))))))) ∧ ((¬ (r_1 = 0)) → v_X6_isSync (x_sh M 3) (M 0 4) (fun r_9 => (((r_9 = 0) → v_X0_isOnDot M (fun r_11 => (((r_11 = 0) → post ((1 ||| 0) ||| 4)) ∧ ((¬ (r_11 = 0)) → post ((1 ||| 0) ||| 0))))) ∧ ((¬ (r_9 = 0)) → v_X0_isOnDot M (fun r_13 => (((r_13 = 0) → post ((1 ||| 2) ||| 4)) ∧ ((¬ (r_13 = 0)) → post ((1 ||| 2) ||| 0))))))))))
set_option maxHeartbeats 4000000 in
set_option maxRecDepth 100000 in
theorem c_X0_signalsHere (l : Launch) (D : va_G) (cT : Nat → ClassId) (a : Nat → Nat) (M : ST) (post : Int32 → Prop) (hv : v_X0_signalsHere M post) : Met l yX0_signalsHere wsX0_signalsHere ({ frames := 2, cells := 0, slots := 0, locals := 41 }) (va_Pc [.ref (a 0)] (x_R D cT ((w_Beam cT a M)))) (vp_Si post) 0 0 (fun _ => False) := by
  refine Met.ofW (cc := cX0_signalsHere) (maxL := 1) (ret := (some .int)) (by decide) rfl ?_
  intro p e s m args below meth c s₁ B hml hpre
  obtain ⟨rfl, hP, hK, hN⟩ := hpre
  have hx := B.exec
  have hb := B.bytes
  have hr := B.returns
  have hts := atoms_spec (ws := wsX0_signalsHere) B.pre
  have hown : s.vm.findClass RX0 = some m.cls := findClass_of_methodNamed B.named
  have hlocks := B.notSynchronized
  have hS : va_S (fun _ : Nat => False) s.heap s.heap [] := va_S.rf
  have hl := lv_entry ([.ref (a 0)]) (n := 1) (Nat.le_of_ble_eq_true rfl)
  rw [lg_entry_eq]
  generalize (lg_sl ([.ref (a 0)]) ++ List.replicate (1 - (lg_sl ([.ref (a 0)])).length) Slot.unset).toArray = ls at hl ⊢
  have hl : lv_has ls 1 [(0, .ref (a 0))] := hl
  have in_X0 : ∀ w ∈ wsX00, w ∈ wsX0_signalsHere := by decide +kernel
  have in_X4 : ∀ w ∈ wsX40, w ∈ wsX0_signalsHere := by decide +kernel
  have kf_12 : (Cond.fieldLink RX0 12 "PictureBeats$Beam" "holding" "LPictureBeats$Mode;").before ([.ref (a 0)] : List Value).toArray s = true := hts _ (by decide +kernel)
  have kf_24 : (Cond.fieldLink RX0 24 "PictureBeats$Mode" "across" "LPictureBeats$Span;").before ([.ref (a 0)] : List Value).toArray s = true := hts _ (by decide +kernel)
  have kf_34 : (Cond.fieldLink RX0 34 "PictureBeats$Beam" "x" "I").before ([.ref (a 0)] : List Value).toArray s = true := hts _ (by decide +kernel)
  have w_58 : CallW (headSpec wsX0_signalsHere ({ frames := 2, cells := 0, slots := 0, locals := 41 })).room s ([.ref (a 0)] : List Value).toArray RX0 RX6 58 yX6_isSync cX6_isSync 3 (some .boolean) wsX6_isSync ({ frames := 0, cells := 0, slots := 0, locals := 0 } : Room) 0 0 1 := cwV 1 hts gX0_signalsHere_X6_isSync rfl rfl rfl (by decide +kernel) ⟨Nat.le_of_ble_eq_true rfl, Nat.le_of_ble_eq_true rfl⟩
  have kf_37 : (Cond.fieldLink RX0 37 "PictureBeats$Mode" "down" "LPictureBeats$Span;").before ([.ref (a 0)] : List Value).toArray s = true := hts _ (by decide +kernel)
  have kf_44 : (Cond.fieldLink RX0 44 "PictureBeats$Beam" "y" "I").before ([.ref (a 0)] : List Value).toArray s = true := hts _ (by decide +kernel)
  have w_61 : CallW (headSpec wsX0_signalsHere ({ frames := 2, cells := 0, slots := 0, locals := 41 })).room s ([.ref (a 0)] : List Value).toArray RX0 RX0 61 yX0_isOnDot cX0_isOnDot 1 (some .boolean) wsX0_isOnDot ({ frames := 1, cells := 0, slots := 0, locals := 21 } : Room) 0 0 0 := cwV 0 hts gX0_signalsHere_X0_isOnDot rfl rfl rfl (by decide +kernel) ⟨Nat.le_of_ble_eq_true rfl, Nat.le_of_ble_eq_true rfl⟩
  refine lv_aload_n hx hb dX0_signalsHere_0 rfl (lv_at hl 0 rfl) ?_
  refine va_get (D := D) (ci := 0) (v := .ref (a 1)) (C := RX0) (T := TX0) (N := 7) hx hb hts in_X0 hown hK hP 0 rfl rfl 0 (by decide) kf_12 (fun _ h9 => h9) rfl dX0_signalsHere_1 ?_
  refine va_get (D := D) (ci := 4) (v := .ref (a 2)) (C := RX4) (T := TX4) (N := 3) hx hb hts in_X4 hown hK hP 1 rfl rfl 0 (by decide) kf_24 (fun _ h9 => h9) rfl dX0_signalsHere_4 ?_
  refine lv_aload_n hx hb dX0_signalsHere_7 rfl (lv_at hl 0 rfl) ?_
  refine va_get (D := D) (ci := 0) (v := .int (M 0 3)) (C := RX0) (T := TX0) (N := 7) hx hb hts in_X0 hown hK hP 0 rfl rfl 3 (by decide) kf_34 (fun _ h9 => h9) rfl dX0_signalsHere_8 ?_
  refine x_rV (As := [.int (M 0 3)]) (rest := []) ⟨hx, hb, hml, hown, hts⟩ (c_X6_isSync l D cT (x_sh a 2) (x_sh M 2) (M 0 3) _ hv) w_58 hK hP hS hN [2] rfl 6 0 rfl rfl rfl hl.1 rfl (Nat.le_of_ble_eq_true rfl) dX0_signalsHere_11 ⟨Nat.le_of_ble_eq_true rfl, Nat.le_of_ble_eq_true rfl⟩ (fun r_1 hv => ?_)
  refine lv_if_eq (tgt := 21) hx hb dX0_signalsHere_14 (by decide) (fun c_2 => ?_) (fun c_2 => ?_)
  · have hv := hv.1 c_2
    refine lv_iconst (v := 0) hx hb dX0_signalsHere_21 (by decide) ?_
    refine lv_aload_n hx hb dX0_signalsHere_22 rfl (lv_at hl 0 rfl) ?_
    refine va_get (D := D) (ci := 0) (v := .ref (a 1)) (C := RX0) (T := TX0) (N := 7) hx hb hts in_X0 hown hK hP 0 rfl rfl 0 (by decide) kf_12 (fun _ h9 => h9) rfl dX0_signalsHere_23 ?_
    refine va_get (D := D) (ci := 4) (v := .ref (a 3)) (C := RX4) (T := TX4) (N := 3) hx hb hts in_X4 hown hK hP 1 rfl rfl 1 (by decide) kf_37 (fun _ h9 => h9) rfl dX0_signalsHere_26 ?_
    refine lv_aload_n hx hb dX0_signalsHere_29 rfl (lv_at hl 0 rfl) ?_
    refine va_get (D := D) (ci := 0) (v := .int (M 0 4)) (C := RX0) (T := TX0) (N := 7) hx hb hts in_X0 hown hK hP 0 rfl rfl 4 (by decide) kf_44 (fun _ h9 => h9) rfl dX0_signalsHere_30 ?_
    refine x_rV (As := [.int (M 0 4)]) (rest := [.int 0]) ⟨hx, hb, hml, hown, hts⟩ (c_X6_isSync l D cT (x_sh a 3) (x_sh M 3) (M 0 4) _ hv) w_58 hK hP hS hN [3] rfl 6 0 rfl rfl rfl hl.1 rfl (Nat.le_of_ble_eq_true rfl) dX0_signalsHere_33 ⟨Nat.le_of_ble_eq_true rfl, Nat.le_of_ble_eq_true rfl⟩ (fun r_3 hv => ?_)
    refine lv_if_eq (tgt := 43) hx hb dX0_signalsHere_36 (by decide) (fun c_4 => ?_) (fun c_4 => ?_)
    · have hv := hv.1 c_4
      refine lv_iconst (v := 0) hx hb dX0_signalsHere_43 (by decide) ?_
      refine lv_ior hx hb dX0_signalsHere_44 ?_
      refine lv_aload_n hx hb dX0_signalsHere_45 rfl (lv_at hl 0 rfl) ?_
      refine x_rV (As := []) (rest := [.int (0 ||| 0)]) ⟨hx, hb, hml, hown, hts⟩ (c_X0_isOnDot l D cT a M _ hv) w_61 hK hP hS hN [0, 1, 2, 3, 4, 5, 6, 7, 8, 9] rfl 0 0 rfl rfl rfl hl.1 rfl (Nat.le_of_ble_eq_true rfl) dX0_signalsHere_46 ⟨Nat.le_of_ble_eq_true rfl, Nat.le_of_ble_eq_true rfl⟩ (fun r_5 hv => ?_)
      refine lv_if_eq (tgt := 56) hx hb dX0_signalsHere_49 (by decide) (fun c_6 => ?_) (fun c_6 => ?_)
      · have hv := hv.1 c_6
        refine lv_iconst (v := 4) hx hb dX0_signalsHere_56 (by decide) ?_
        refine lv_ior hx hb dX0_signalsHere_57 ?_
        exact W.iret (v := ((0 ||| 0) ||| 4)) hx hb hr (fun t ht hW => ⟨_, rfl, hv, ht⟩) (fun q h => absurd h List.not_mem_nil) dX0_signalsHere_58
      · have hv := hv.2 c_6
        refine lv_iconst (v := 0) hx hb dX0_signalsHere_52 (by decide) ?_
        refine lv_goto (tgt := 57) hx hb dX0_signalsHere_53 (by decide) ?_
        refine lv_ior hx hb dX0_signalsHere_57 ?_
        exact W.iret (v := ((0 ||| 0) ||| 0)) hx hb hr (fun t ht hW => ⟨_, rfl, hv, ht⟩) (fun q h => absurd h List.not_mem_nil) dX0_signalsHere_58
    · have hv := hv.2 c_4
      refine lv_iconst (v := 2) hx hb dX0_signalsHere_39 (by decide) ?_
      refine lv_goto (tgt := 44) hx hb dX0_signalsHere_40 (by decide) ?_
      refine lv_ior hx hb dX0_signalsHere_44 ?_
      refine lv_aload_n hx hb dX0_signalsHere_45 rfl (lv_at hl 0 rfl) ?_
      refine x_rV (As := []) (rest := [.int (0 ||| 2)]) ⟨hx, hb, hml, hown, hts⟩ (c_X0_isOnDot l D cT a M _ hv) w_61 hK hP hS hN [0, 1, 2, 3, 4, 5, 6, 7, 8, 9] rfl 0 0 rfl rfl rfl hl.1 rfl (Nat.le_of_ble_eq_true rfl) dX0_signalsHere_46 ⟨Nat.le_of_ble_eq_true rfl, Nat.le_of_ble_eq_true rfl⟩ (fun r_7 hv => ?_)
      refine lv_if_eq (tgt := 56) hx hb dX0_signalsHere_49 (by decide) (fun c_8 => ?_) (fun c_8 => ?_)
      · have hv := hv.1 c_8
        refine lv_iconst (v := 4) hx hb dX0_signalsHere_56 (by decide) ?_
        refine lv_ior hx hb dX0_signalsHere_57 ?_
        exact W.iret (v := ((0 ||| 2) ||| 4)) hx hb hr (fun t ht hW => ⟨_, rfl, hv, ht⟩) (fun q h => absurd h List.not_mem_nil) dX0_signalsHere_58
      · have hv := hv.2 c_8
        refine lv_iconst (v := 0) hx hb dX0_signalsHere_52 (by decide) ?_
        refine lv_goto (tgt := 57) hx hb dX0_signalsHere_53 (by decide) ?_
        refine lv_ior hx hb dX0_signalsHere_57 ?_
        exact W.iret (v := ((0 ||| 2) ||| 0)) hx hb hr (fun t ht hW => ⟨_, rfl, hv, ht⟩) (fun q h => absurd h List.not_mem_nil) dX0_signalsHere_58
  · have hv := hv.2 c_2
    refine lv_iconst (v := 1) hx hb dX0_signalsHere_17 (by decide) ?_
    refine lv_goto (tgt := 22) hx hb dX0_signalsHere_18 (by decide) ?_
    refine lv_aload_n hx hb dX0_signalsHere_22 rfl (lv_at hl 0 rfl) ?_
    refine va_get (D := D) (ci := 0) (v := .ref (a 1)) (C := RX0) (T := TX0) (N := 7) hx hb hts in_X0 hown hK hP 0 rfl rfl 0 (by decide) kf_12 (fun _ h9 => h9) rfl dX0_signalsHere_23 ?_
    refine va_get (D := D) (ci := 4) (v := .ref (a 3)) (C := RX4) (T := TX4) (N := 3) hx hb hts in_X4 hown hK hP 1 rfl rfl 1 (by decide) kf_37 (fun _ h9 => h9) rfl dX0_signalsHere_26 ?_
    refine lv_aload_n hx hb dX0_signalsHere_29 rfl (lv_at hl 0 rfl) ?_
    refine va_get (D := D) (ci := 0) (v := .int (M 0 4)) (C := RX0) (T := TX0) (N := 7) hx hb hts in_X0 hown hK hP 0 rfl rfl 4 (by decide) kf_44 (fun _ h9 => h9) rfl dX0_signalsHere_30 ?_
    refine x_rV (As := [.int (M 0 4)]) (rest := [.int 1]) ⟨hx, hb, hml, hown, hts⟩ (c_X6_isSync l D cT (x_sh a 3) (x_sh M 3) (M 0 4) _ hv) w_58 hK hP hS hN [3] rfl 6 0 rfl rfl rfl hl.1 rfl (Nat.le_of_ble_eq_true rfl) dX0_signalsHere_33 ⟨Nat.le_of_ble_eq_true rfl, Nat.le_of_ble_eq_true rfl⟩ (fun r_9 hv => ?_)
    refine lv_if_eq (tgt := 43) hx hb dX0_signalsHere_36 (by decide) (fun c_10 => ?_) (fun c_10 => ?_)
    · have hv := hv.1 c_10
      refine lv_iconst (v := 0) hx hb dX0_signalsHere_43 (by decide) ?_
      refine lv_ior hx hb dX0_signalsHere_44 ?_
      refine lv_aload_n hx hb dX0_signalsHere_45 rfl (lv_at hl 0 rfl) ?_
      refine x_rV (As := []) (rest := [.int (1 ||| 0)]) ⟨hx, hb, hml, hown, hts⟩ (c_X0_isOnDot l D cT a M _ hv) w_61 hK hP hS hN [0, 1, 2, 3, 4, 5, 6, 7, 8, 9] rfl 0 0 rfl rfl rfl hl.1 rfl (Nat.le_of_ble_eq_true rfl) dX0_signalsHere_46 ⟨Nat.le_of_ble_eq_true rfl, Nat.le_of_ble_eq_true rfl⟩ (fun r_11 hv => ?_)
      refine lv_if_eq (tgt := 56) hx hb dX0_signalsHere_49 (by decide) (fun c_12 => ?_) (fun c_12 => ?_)
      · have hv := hv.1 c_12
        refine lv_iconst (v := 4) hx hb dX0_signalsHere_56 (by decide) ?_
        refine lv_ior hx hb dX0_signalsHere_57 ?_
        exact W.iret (v := ((1 ||| 0) ||| 4)) hx hb hr (fun t ht hW => ⟨_, rfl, hv, ht⟩) (fun q h => absurd h List.not_mem_nil) dX0_signalsHere_58
      · have hv := hv.2 c_12
        refine lv_iconst (v := 0) hx hb dX0_signalsHere_52 (by decide) ?_
        refine lv_goto (tgt := 57) hx hb dX0_signalsHere_53 (by decide) ?_
        refine lv_ior hx hb dX0_signalsHere_57 ?_
        exact W.iret (v := ((1 ||| 0) ||| 0)) hx hb hr (fun t ht hW => ⟨_, rfl, hv, ht⟩) (fun q h => absurd h List.not_mem_nil) dX0_signalsHere_58
    · have hv := hv.2 c_10
      refine lv_iconst (v := 2) hx hb dX0_signalsHere_39 (by decide) ?_
      refine lv_goto (tgt := 44) hx hb dX0_signalsHere_40 (by decide) ?_
      refine lv_ior hx hb dX0_signalsHere_44 ?_
      refine lv_aload_n hx hb dX0_signalsHere_45 rfl (lv_at hl 0 rfl) ?_
      refine x_rV (As := []) (rest := [.int (1 ||| 2)]) ⟨hx, hb, hml, hown, hts⟩ (c_X0_isOnDot l D cT a M _ hv) w_61 hK hP hS hN [0, 1, 2, 3, 4, 5, 6, 7, 8, 9] rfl 0 0 rfl rfl rfl hl.1 rfl (Nat.le_of_ble_eq_true rfl) dX0_signalsHere_46 ⟨Nat.le_of_ble_eq_true rfl, Nat.le_of_ble_eq_true rfl⟩ (fun r_13 hv => ?_)
      refine lv_if_eq (tgt := 56) hx hb dX0_signalsHere_49 (by decide) (fun c_14 => ?_) (fun c_14 => ?_)
      · have hv := hv.1 c_14
        refine lv_iconst (v := 4) hx hb dX0_signalsHere_56 (by decide) ?_
        refine lv_ior hx hb dX0_signalsHere_57 ?_
        exact W.iret (v := ((1 ||| 2) ||| 4)) hx hb hr (fun t ht hW => ⟨_, rfl, hv, ht⟩) (fun q h => absurd h List.not_mem_nil) dX0_signalsHere_58
      · have hv := hv.2 c_14
        refine lv_iconst (v := 0) hx hb dX0_signalsHere_52 (by decide) ?_
        refine lv_goto (tgt := 57) hx hb dX0_signalsHere_53 (by decide) ?_
        refine lv_ior hx hb dX0_signalsHere_57 ?_
        exact W.iret (v := ((1 ||| 2) ||| 0)) hx hb hr (fun t ht hW => ⟨_, rfl, hv, ht⟩) (fun q h => absurd h List.not_mem_nil) dX0_signalsHere_58
def v_X0_takeUp (M : ST) (post : ST → Prop) : Prop := v_X4_copyFrom (x_sh M 4) (x_sh M 7) (fun (u_1 : ST) => ∀ M_2 : ST, M_2 = x_wb M 4 3 u_1 → ((((M_2 1 2) = 0) → ∀ M_4 : ST, M_4 = x_st M_2 0 6 0 → post M_4) ∧ ((¬ ((M_2 1 2) = 0)) → ((((M_2 4 2) = 0) → ∀ M_6 : ST, M_6 = x_st M_2 0 6 0 → post M_6) ∧ ((¬ ((M_2 4 2) = 0)) → ∀ M_7 : ST, M_7 = x_st M_2 0 6 (1 - (M_2 0 5)) → post M_7)))))
set_option maxHeartbeats 4000000 in
set_option maxRecDepth 100000 in
theorem c_X0_takeUp (l : Launch) (D : va_G) (cT : Nat → ClassId) (a : Nat → Nat) (M : ST) (sz : Nat) (post : ST → Prop) (hv : v_X0_takeUp M post) : Met l yX0_takeUp wsX0_takeUp ({ frames := 3, cells := 0, slots := 0, locals := 66 }) (va_Pc [.ref (a 0)] (x_U D cT ((w_Beam cT a M)) sz)) (va_Qv post (fun u t => x_B D cT ((w_Beam cT a u)) (va_A ((w_Beam cT a M)) sz) t) (va_A ((w_Beam cT a M)) sz)) 0 0 (va_A ((w_Beam cT a M)) sz) := by
  refine Met.ofW (cc := cX0_takeUp) (maxL := 1) (ret := none) (by decide) rfl ?_
  intro p e s m args below meth c s₁ B hml hpre
  obtain ⟨rfl, hsz, hP, hK, hD0, hN⟩ := hpre
  have hx := B.exec
  have hb := B.bytes
  have hr := B.returns
  have hts := atoms_spec (ws := wsX0_takeUp) B.pre
  have hown : s.vm.findClass RX0 = some m.cls := findClass_of_methodNamed B.named
  have hlocks := B.notSynchronized
  subst hsz
  have hD := hD0.self (sz := s.heap.size)
  generalize hAe : va_A ((w_Beam cT a M)) s.heap.size = A at hD hN ⊢
  have hA : ∀ q : Nat, s.heap.size ≤ q → A q := fun q h => by rw [← hAe]; exact Or.inr h
  have hS : va_S A s.heap s.heap [] := va_S.rf
  have hl := lv_entry ([.ref (a 0)]) (n := 1) (Nat.le_of_ble_eq_true rfl)
  rw [lg_entry_eq]
  generalize (lg_sl ([.ref (a 0)]) ++ List.replicate (1 - (lg_sl ([.ref (a 0)])).length) Slot.unset).toArray = ls at hl ⊢
  have hl : lv_has ls 1 [(0, .ref (a 0))] := hl
  have in_X0 : ∀ w ∈ wsX00, w ∈ wsX0_takeUp := by decide +kernel
  have in_X4 : ∀ w ∈ wsX40, w ∈ wsX0_takeUp := by decide +kernel
  have kf_18 : (Cond.fieldLink RX0 18 "PictureBeats$Beam" "takenUp" "LPictureBeats$Mode;").before ([.ref (a 0)] : List Value).toArray s = true := hts _ (by decide +kernel)
  have kf_21 : (Cond.fieldLink RX0 21 "PictureBeats$Beam" "told" "LPictureBeats$Mode;").before ([.ref (a 0)] : List Value).toArray s = true := hts _ (by decide +kernel)
  have w_65 : CallW (headSpec wsX0_takeUp ({ frames := 3, cells := 0, slots := 0, locals := 66 })).room s ([.ref (a 0)] : List Value).toArray RX0 RX4 65 yX4_copyFrom cX4_copyFrom 2 none wsX4_copyFrom ({ frames := 2, cells := 0, slots := 0, locals := 45 } : Room) 0 0 1 := cwV 1 hts gX0_takeUp_X4_copyFrom rfl rfl rfl (by decide +kernel) ⟨Nat.le_of_ble_eq_true rfl, Nat.le_of_ble_eq_true rfl⟩
  have kf_12 : (Cond.fieldLink RX0 12 "PictureBeats$Beam" "holding" "LPictureBeats$Mode;").before ([.ref (a 0)] : List Value).toArray s = true := hts _ (by decide +kernel)
  have kf_69 : (Cond.fieldLink RX0 69 "PictureBeats$Mode" "interlaced" "Z").before ([.ref (a 0)] : List Value).toArray s = true := hts _ (by decide +kernel)
  have kf_73 : (Cond.fieldLink RX0 73 "PictureBeats$Beam" "nextField" "I").before ([.ref (a 0)] : List Value).toArray s = true := hts _ (by decide +kernel)
  have kf_51 : (Cond.fieldLink RX0 51 "PictureBeats$Beam" "field" "I").before ([.ref (a 0)] : List Value).toArray s = true := hts _ (by decide +kernel)
  refine lv_aload_n hx hb dX0_takeUp_0 rfl (lv_at hl 0 rfl) ?_
  refine va_get (D := D) (ci := 0) (v := .ref (a 4)) (C := RX0) (T := TX0) (N := 7) hx hb hts in_X0 hown hK hP 0 rfl rfl 1 (by decide) kf_18 (fun _ h9 => h9) rfl dX0_takeUp_1 ?_
  refine lv_aload_n hx hb dX0_takeUp_4 rfl (lv_at hl 0 rfl) ?_
  refine va_get (D := D) (ci := 0) (v := .ref (a 7)) (C := RX0) (T := TX0) (N := 7) hx hb hts in_X0 hown hK hP 0 rfl rfl 2 (by decide) kf_21 (fun _ h9 => h9) rfl dX0_takeUp_5 ?_
  refine x_cVv (As := [.ref (a 7)]) (rest := []) (wn := fun u_1 => (w_Beam cT a (x_wb M 4 3 u_1))) ⟨hx, hb, hml, hown, hts⟩ (c_X4_copyFrom l D cT (x_sh a 4) (x_sh M 4) (x_sh a 7) (x_sh M 7) _ _ hv) w_65 hK hP hD hS hA hN [4, 5, 6, 7, 8, 9] [0, 1, 2, 3] [0, 1, 2, 3, 4, 5, 6, 7, 8, 9] rfl rfl (fun _ => rfl) (by decide) (by decide) (by decide) (by decide) 4 0 rfl rfl rfl hl.1 rfl (Nat.le_of_ble_eq_true rfl) dX0_takeUp_8 ⟨Nat.le_of_ble_eq_true rfl, Nat.le_of_ble_eq_true rfl⟩ (fun u_1 H locs hv hP hD hS => ?_)
  obtain ⟨M_2, eM_2⟩ : ∃ z : ST, z = x_wb M 4 3 u_1 := ⟨_, rfl⟩
  have hP : va_P D vwCl ((w_Beam cT a M_2)) H := by rw [eM_2]; exact hP
  have hD : va_D A ((w_Beam cT a M_2)) := by rw [eM_2]; exact hD
  have hv := hv M_2 eM_2
  refine lv_aload_n hx hb dX0_takeUp_11 rfl (lv_at hl 0 rfl) ?_
  refine lv_aload_n hx hb dX0_takeUp_12 rfl (lv_at hl 0 rfl) ?_
  refine va_get (D := D) (ci := 0) (v := .ref (a 1)) (C := RX0) (T := TX0) (N := 7) hx hb hts in_X0 hown hK hP 0 rfl rfl 0 (by decide) kf_12 (fun _ h9 => h9) rfl dX0_takeUp_13 ?_
  refine va_get (D := D) (ci := 4) (v := .int (M_2 1 2)) (C := RX4) (T := TX4) (N := 3) hx hb hts in_X4 hown hK hP 1 rfl rfl 2 (by decide) kf_69 (fun _ h9 => h9) rfl dX0_takeUp_16 ?_
  refine lv_if_eq (tgt := 41) hx hb dX0_takeUp_19 (by decide) (fun c_3 => ?_) (fun c_3 => ?_)
  · have hv := hv.1 c_3
    refine lv_iconst (v := 0) hx hb dX0_takeUp_41 (by decide) ?_
    refine va_put (D := D) (ci := 0) (v := .int 0) (ty := .int) (C := RX0) (T := TX0) (N := 7) hx hb hts in_X0 tyX0 tyX0_ok nmX0 hown hK hP hD hS 0 rfl rfl 6 (by decide) kf_73 (fun _ h9 => h9) rfl (by decide +kernel) rfl rfl (Nat.le_of_ble_eq_true rfl) dX0_takeUp_42 (fun H locs hP hD hS => ?_)
    obtain ⟨M_4, eM_4⟩ : ∃ z : ST, z = x_st M_2 0 6 0 := ⟨_, rfl⟩
    have hP : va_P D vwCl ((w_Beam cT a M_4)) H := by rw [eM_4]; exact hP
    have hD : va_D A ((w_Beam cT a M_4)) := by rw [eM_4]; exact hD
    have hv := hv M_4 eM_4
    exact W.vret hx hb hr (fun t ht hW => ⟨⟨M_4, rfl, hv, by rw [ht]; exact hP, va_K.moved hW.alike hK, hD⟩, hS.F ht⟩) hS.2.2 dX0_takeUp_45
  · have hv := hv.2 c_3
    refine lv_aload_n hx hb dX0_takeUp_22 rfl (lv_at hl 0 rfl) ?_
    refine va_get (D := D) (ci := 0) (v := .ref (a 4)) (C := RX0) (T := TX0) (N := 7) hx hb hts in_X0 hown hK hP 0 rfl rfl 1 (by decide) kf_18 (fun _ h9 => h9) rfl dX0_takeUp_23 ?_
    refine va_get (D := D) (ci := 4) (v := .int (M_2 4 2)) (C := RX4) (T := TX4) (N := 3) hx hb hts in_X4 hown hK hP 4 rfl rfl 2 (by decide) kf_69 (fun _ h9 => h9) rfl dX0_takeUp_26 ?_
    refine lv_if_eq (tgt := 41) hx hb dX0_takeUp_29 (by decide) (fun c_5 => ?_) (fun c_5 => ?_)
    · have hv := hv.1 c_5
      refine lv_iconst (v := 0) hx hb dX0_takeUp_41 (by decide) ?_
      refine va_put (D := D) (ci := 0) (v := .int 0) (ty := .int) (C := RX0) (T := TX0) (N := 7) hx hb hts in_X0 tyX0 tyX0_ok nmX0 hown hK hP hD hS 0 rfl rfl 6 (by decide) kf_73 (fun _ h9 => h9) rfl (by decide +kernel) rfl rfl (Nat.le_of_ble_eq_true rfl) dX0_takeUp_42 (fun H locs hP hD hS => ?_)
      obtain ⟨M_6, eM_6⟩ : ∃ z : ST, z = x_st M_2 0 6 0 := ⟨_, rfl⟩
      have hP : va_P D vwCl ((w_Beam cT a M_6)) H := by rw [eM_6]; exact hP
      have hD : va_D A ((w_Beam cT a M_6)) := by rw [eM_6]; exact hD
      have hv := hv M_6 eM_6
      exact W.vret hx hb hr (fun t ht hW => ⟨⟨M_6, rfl, hv, by rw [ht]; exact hP, va_K.moved hW.alike hK, hD⟩, hS.F ht⟩) hS.2.2 dX0_takeUp_45
    · have hv := hv.2 c_5
      refine lv_iconst (v := 1) hx hb dX0_takeUp_32 (by decide) ?_
      refine lv_aload_n hx hb dX0_takeUp_33 rfl (lv_at hl 0 rfl) ?_
      refine va_get (D := D) (ci := 0) (v := .int (M_2 0 5)) (C := RX0) (T := TX0) (N := 7) hx hb hts in_X0 hown hK hP 0 rfl rfl 5 (by decide) kf_51 (fun _ h9 => h9) rfl dX0_takeUp_34 ?_
      refine lv_isub hx hb dX0_takeUp_37 ?_
      refine lv_goto (tgt := 42) hx hb dX0_takeUp_38 (by decide) ?_
      refine va_put (D := D) (ci := 0) (v := .int (1 - (M_2 0 5))) (ty := .int) (C := RX0) (T := TX0) (N := 7) hx hb hts in_X0 tyX0 tyX0_ok nmX0 hown hK hP hD hS 0 rfl rfl 6 (by decide) kf_73 (fun _ h9 => h9) rfl (by decide +kernel) rfl rfl (Nat.le_of_ble_eq_true rfl) dX0_takeUp_42 (fun H locs hP hD hS => ?_)
      obtain ⟨M_7, eM_7⟩ : ∃ z : ST, z = x_st M_2 0 6 (1 - (M_2 0 5)) := ⟨_, rfl⟩
      have hP : va_P D vwCl ((w_Beam cT a M_7)) H := by rw [eM_7]; exact hP
      have hD : va_D A ((w_Beam cT a M_7)) := by rw [eM_7]; exact hD
      have hv := hv M_7 eM_7
      exact W.vret hx hb hr (fun t ht hW => ⟨⟨M_7, rfl, hv, by rw [ht]; exact hP, va_K.moved hW.alike hK, hD⟩, hS.F ht⟩) hS.2.2 dX0_takeUp_45
def v_X0_goOn (M : ST) (post : ST → Prop) : Prop := ∀ M_1 : ST, M_1 = x_st M 0 3 ((M 0 3) + 1) → v_X6_whole (x_sh M_1 2) (fun r_2 => (((r_2 ≤ (M_1 0 3)) → ∀ M_4 : ST, M_4 = x_st M_1 0 3 0 → ∀ M_5 : ST, M_5 = x_st M_4 0 4 ((M_4 0 4) + 1) → v_X6_whole (x_sh M_5 3) (fun r_6 => (((r_6 ≤ (M_5 0 4)) → ∀ M_8 : ST, M_8 = x_st M_5 0 4 0 → ∀ M_9 : ST, M_9 = x_st M_8 0 5 (M_8 0 6) → v_X4_copyFrom (x_sh M_9 1) (x_sh M_9 4) (fun (u_10 : ST) => ∀ M_11 : ST, M_11 = x_wb M_9 1 3 u_10 → post M_11)) ∧ ((¬ (r_6 ≤ (M_5 0 4))) → post M_5)))) ∧ ((¬ (r_2 ≤ (M_1 0 3))) → post M_1)))
set_option maxHeartbeats 4000000 in
set_option maxRecDepth 100000 in
theorem c_X0_goOn (l : Launch) (D : va_G) (cT : Nat → ClassId) (a : Nat → Nat) (M : ST) (sz : Nat) (post : ST → Prop) (hv : v_X0_goOn M post) : Met l yX0_goOn wsX0_goOn ({ frames := 3, cells := 0, slots := 0, locals := 66 }) (va_Pc [.ref (a 0)] (x_U D cT ((w_Beam cT a M)) sz)) (va_Qv post (fun u t => x_B D cT ((w_Beam cT a u)) (va_A ((w_Beam cT a M)) sz) t) (va_A ((w_Beam cT a M)) sz)) 0 0 (va_A ((w_Beam cT a M)) sz) := by
  refine Met.ofW (cc := cX0_goOn) (maxL := 1) (ret := none) (by decide) rfl ?_
  intro p e s m args below meth c s₁ B hml hpre
  obtain ⟨rfl, hsz, hP, hK, hD0, hN⟩ := hpre
  have hx := B.exec
  have hb := B.bytes
  have hr := B.returns
  have hts := atoms_spec (ws := wsX0_goOn) B.pre
  have hown : s.vm.findClass RX0 = some m.cls := findClass_of_methodNamed B.named
  have hlocks := B.notSynchronized
  subst hsz
  have hD := hD0.self (sz := s.heap.size)
  generalize hAe : va_A ((w_Beam cT a M)) s.heap.size = A at hD hN ⊢
  have hA : ∀ q : Nat, s.heap.size ≤ q → A q := fun q h => by rw [← hAe]; exact Or.inr h
  have hS : va_S A s.heap s.heap [] := va_S.rf
  have hl := lv_entry ([.ref (a 0)]) (n := 1) (Nat.le_of_ble_eq_true rfl)
  rw [lg_entry_eq]
  generalize (lg_sl ([.ref (a 0)]) ++ List.replicate (1 - (lg_sl ([.ref (a 0)])).length) Slot.unset).toArray = ls at hl ⊢
  have hl : lv_has ls 1 [(0, .ref (a 0))] := hl
  have in_X0 : ∀ w ∈ wsX00, w ∈ wsX0_goOn := by decide +kernel
  have in_X4 : ∀ w ∈ wsX40, w ∈ wsX0_goOn := by decide +kernel
  have kf_34 : (Cond.fieldLink RX0 34 "PictureBeats$Beam" "x" "I").before ([.ref (a 0)] : List Value).toArray s = true := hts _ (by decide +kernel)
  have kf_12 : (Cond.fieldLink RX0 12 "PictureBeats$Beam" "holding" "LPictureBeats$Mode;").before ([.ref (a 0)] : List Value).toArray s = true := hts _ (by decide +kernel)
  have kf_24 : (Cond.fieldLink RX0 24 "PictureBeats$Mode" "across" "LPictureBeats$Span;").before ([.ref (a 0)] : List Value).toArray s = true := hts _ (by decide +kernel)
  have w_40 : CallW (headSpec wsX0_goOn ({ frames := 3, cells := 0, slots := 0, locals := 66 })).room s ([.ref (a 0)] : List Value).toArray RX0 RX6 40 yX6_whole cX6_whole 1 (some .int) wsX6_whole ({ frames := 0, cells := 0, slots := 0, locals := 0 } : Room) 0 0 0 := cwV 0 hts gX0_goOn_X6_whole rfl rfl rfl (by decide +kernel) ⟨Nat.le_of_ble_eq_true rfl, Nat.le_of_ble_eq_true rfl⟩
  have kf_44 : (Cond.fieldLink RX0 44 "PictureBeats$Beam" "y" "I").before ([.ref (a 0)] : List Value).toArray s = true := hts _ (by decide +kernel)
  have kf_37 : (Cond.fieldLink RX0 37 "PictureBeats$Mode" "down" "LPictureBeats$Span;").before ([.ref (a 0)] : List Value).toArray s = true := hts _ (by decide +kernel)
  have kf_73 : (Cond.fieldLink RX0 73 "PictureBeats$Beam" "nextField" "I").before ([.ref (a 0)] : List Value).toArray s = true := hts _ (by decide +kernel)
  have kf_51 : (Cond.fieldLink RX0 51 "PictureBeats$Beam" "field" "I").before ([.ref (a 0)] : List Value).toArray s = true := hts _ (by decide +kernel)
  have kf_18 : (Cond.fieldLink RX0 18 "PictureBeats$Beam" "takenUp" "LPictureBeats$Mode;").before ([.ref (a 0)] : List Value).toArray s = true := hts _ (by decide +kernel)
  have w_65 : CallW (headSpec wsX0_goOn ({ frames := 3, cells := 0, slots := 0, locals := 66 })).room s ([.ref (a 0)] : List Value).toArray RX0 RX4 65 yX4_copyFrom cX4_copyFrom 2 none wsX4_copyFrom ({ frames := 2, cells := 0, slots := 0, locals := 45 } : Room) 0 0 1 := cwV 1 hts gX0_goOn_X4_copyFrom rfl rfl rfl (by decide +kernel) ⟨Nat.le_of_ble_eq_true rfl, Nat.le_of_ble_eq_true rfl⟩
  refine lv_aload_n hx hb dX0_goOn_0 rfl (lv_at hl 0 rfl) ?_
  refine lv_dup hx hb dX0_goOn_1 rfl ?_
  refine va_get (D := D) (ci := 0) (v := .int (M 0 3)) (C := RX0) (T := TX0) (N := 7) hx hb hts in_X0 hown hK hP 0 rfl rfl 3 (by decide) kf_34 (fun _ h9 => h9) rfl dX0_goOn_2 ?_
  refine lv_iconst (v := 1) hx hb dX0_goOn_5 (by decide) ?_
  refine lv_iadd hx hb dX0_goOn_6 ?_
  refine va_put (D := D) (ci := 0) (v := .int ((M 0 3) + 1)) (ty := .int) (C := RX0) (T := TX0) (N := 7) hx hb hts in_X0 tyX0 tyX0_ok nmX0 hown hK hP hD hS 0 rfl rfl 3 (by decide) kf_34 (fun _ h9 => h9) rfl (by decide +kernel) rfl rfl (Nat.le_of_ble_eq_true rfl) dX0_goOn_7 (fun H locs hP hD hS => ?_)
  obtain ⟨M_1, eM_1⟩ : ∃ z : ST, z = x_st M 0 3 ((M 0 3) + 1) := ⟨_, rfl⟩
  have hP : va_P D vwCl ((w_Beam cT a M_1)) H := by rw [eM_1]; exact hP
  have hD : va_D A ((w_Beam cT a M_1)) := by rw [eM_1]; exact hD
  have hv := hv M_1 eM_1
  refine lv_aload_n hx hb dX0_goOn_10 rfl (lv_at hl 0 rfl) ?_
  refine va_get (D := D) (ci := 0) (v := .int (M_1 0 3)) (C := RX0) (T := TX0) (N := 7) hx hb hts in_X0 hown hK hP 0 rfl rfl 3 (by decide) kf_34 (fun _ h9 => h9) rfl dX0_goOn_11 ?_
  refine lv_aload_n hx hb dX0_goOn_14 rfl (lv_at hl 0 rfl) ?_
  refine va_get (D := D) (ci := 0) (v := .ref (a 1)) (C := RX0) (T := TX0) (N := 7) hx hb hts in_X0 hown hK hP 0 rfl rfl 0 (by decide) kf_12 (fun _ h9 => h9) rfl dX0_goOn_15 ?_
  refine va_get (D := D) (ci := 4) (v := .ref (a 2)) (C := RX4) (T := TX4) (N := 3) hx hb hts in_X4 hown hK hP 1 rfl rfl 0 (by decide) kf_24 (fun _ h9 => h9) rfl dX0_goOn_18 ?_
  refine x_rV (As := []) (rest := [.int (M_1 0 3)]) ⟨hx, hb, hml, hown, hts⟩ (c_X6_whole l D cT (x_sh a 2) (x_sh M_1 2) _ hv) w_40 hK hP hS hN [2] rfl 6 0 rfl rfl rfl hl.1 rfl (Nat.le_of_ble_eq_true rfl) dX0_goOn_21 ⟨Nat.le_of_ble_eq_true rfl, Nat.le_of_ble_eq_true rfl⟩ (fun r_2 hv => ?_)
  refine lv_icmp_ge (tgt := 28) hx hb dX0_goOn_24 (by decide) (fun c_3 => ?_) (fun c_3 => ?_)
  · have hv := hv.1 c_3
    refine lv_aload_n hx hb dX0_goOn_28 rfl (lv_at hl 0 rfl) ?_
    refine lv_iconst (v := 0) hx hb dX0_goOn_29 (by decide) ?_
    refine va_put (D := D) (ci := 0) (v := .int 0) (ty := .int) (C := RX0) (T := TX0) (N := 7) hx hb hts in_X0 tyX0 tyX0_ok nmX0 hown hK hP hD hS 0 rfl rfl 3 (by decide) kf_34 (fun _ h9 => h9) rfl (by decide +kernel) rfl rfl (Nat.le_of_ble_eq_true rfl) dX0_goOn_30 (fun H locs hP hD hS => ?_)
    obtain ⟨M_4, eM_4⟩ : ∃ z : ST, z = x_st M_1 0 3 0 := ⟨_, rfl⟩
    have hP : va_P D vwCl ((w_Beam cT a M_4)) H := by rw [eM_4]; exact hP
    have hD : va_D A ((w_Beam cT a M_4)) := by rw [eM_4]; exact hD
    have hv := hv M_4 eM_4
    refine lv_aload_n hx hb dX0_goOn_33 rfl (lv_at hl 0 rfl) ?_
    refine lv_dup hx hb dX0_goOn_34 rfl ?_
    refine va_get (D := D) (ci := 0) (v := .int (M_4 0 4)) (C := RX0) (T := TX0) (N := 7) hx hb hts in_X0 hown hK hP 0 rfl rfl 4 (by decide) kf_44 (fun _ h9 => h9) rfl dX0_goOn_35 ?_
    refine lv_iconst (v := 1) hx hb dX0_goOn_38 (by decide) ?_
    refine lv_iadd hx hb dX0_goOn_39 ?_
    refine va_put (D := D) (ci := 0) (v := .int ((M_4 0 4) + 1)) (ty := .int) (C := RX0) (T := TX0) (N := 7) hx hb hts in_X0 tyX0 tyX0_ok nmX0 hown hK hP hD hS 0 rfl rfl 4 (by decide) kf_44 (fun _ h9 => h9) rfl (by decide +kernel) rfl rfl (Nat.le_of_ble_eq_true rfl) dX0_goOn_40 (fun H locs hP hD hS => ?_)
    obtain ⟨M_5, eM_5⟩ : ∃ z : ST, z = x_st M_4 0 4 ((M_4 0 4) + 1) := ⟨_, rfl⟩
    have hP : va_P D vwCl ((w_Beam cT a M_5)) H := by rw [eM_5]; exact hP
    have hD : va_D A ((w_Beam cT a M_5)) := by rw [eM_5]; exact hD
    have hv := hv M_5 eM_5
    refine lv_aload_n hx hb dX0_goOn_43 rfl (lv_at hl 0 rfl) ?_
    refine va_get (D := D) (ci := 0) (v := .int (M_5 0 4)) (C := RX0) (T := TX0) (N := 7) hx hb hts in_X0 hown hK hP 0 rfl rfl 4 (by decide) kf_44 (fun _ h9 => h9) rfl dX0_goOn_44 ?_
    refine lv_aload_n hx hb dX0_goOn_47 rfl (lv_at hl 0 rfl) ?_
    refine va_get (D := D) (ci := 0) (v := .ref (a 1)) (C := RX0) (T := TX0) (N := 7) hx hb hts in_X0 hown hK hP 0 rfl rfl 0 (by decide) kf_12 (fun _ h9 => h9) rfl dX0_goOn_48 ?_
    refine va_get (D := D) (ci := 4) (v := .ref (a 3)) (C := RX4) (T := TX4) (N := 3) hx hb hts in_X4 hown hK hP 1 rfl rfl 1 (by decide) kf_37 (fun _ h9 => h9) rfl dX0_goOn_51 ?_
    refine x_rV (As := []) (rest := [.int (M_5 0 4)]) ⟨hx, hb, hml, hown, hts⟩ (c_X6_whole l D cT (x_sh a 3) (x_sh M_5 3) _ hv) w_40 hK hP hS hN [3] rfl 6 0 rfl rfl rfl hl.1 rfl (Nat.le_of_ble_eq_true rfl) dX0_goOn_54 ⟨Nat.le_of_ble_eq_true rfl, Nat.le_of_ble_eq_true rfl⟩ (fun r_6 hv => ?_)
    refine lv_icmp_ge (tgt := 61) hx hb dX0_goOn_57 (by decide) (fun c_7 => ?_) (fun c_7 => ?_)
    · have hv := hv.1 c_7
      refine lv_aload_n hx hb dX0_goOn_61 rfl (lv_at hl 0 rfl) ?_
      refine lv_iconst (v := 0) hx hb dX0_goOn_62 (by decide) ?_
      refine va_put (D := D) (ci := 0) (v := .int 0) (ty := .int) (C := RX0) (T := TX0) (N := 7) hx hb hts in_X0 tyX0 tyX0_ok nmX0 hown hK hP hD hS 0 rfl rfl 4 (by decide) kf_44 (fun _ h9 => h9) rfl (by decide +kernel) rfl rfl (Nat.le_of_ble_eq_true rfl) dX0_goOn_63 (fun H locs hP hD hS => ?_)
      obtain ⟨M_8, eM_8⟩ : ∃ z : ST, z = x_st M_5 0 4 0 := ⟨_, rfl⟩
      have hP : va_P D vwCl ((w_Beam cT a M_8)) H := by rw [eM_8]; exact hP
      have hD : va_D A ((w_Beam cT a M_8)) := by rw [eM_8]; exact hD
      have hv := hv M_8 eM_8
      refine lv_aload_n hx hb dX0_goOn_66 rfl (lv_at hl 0 rfl) ?_
      refine lv_aload_n hx hb dX0_goOn_67 rfl (lv_at hl 0 rfl) ?_
      refine va_get (D := D) (ci := 0) (v := .int (M_8 0 6)) (C := RX0) (T := TX0) (N := 7) hx hb hts in_X0 hown hK hP 0 rfl rfl 6 (by decide) kf_73 (fun _ h9 => h9) rfl dX0_goOn_68 ?_
      refine va_put (D := D) (ci := 0) (v := .int (M_8 0 6)) (ty := .int) (C := RX0) (T := TX0) (N := 7) hx hb hts in_X0 tyX0 tyX0_ok nmX0 hown hK hP hD hS 0 rfl rfl 5 (by decide) kf_51 (fun _ h9 => h9) rfl (by decide +kernel) rfl rfl (Nat.le_of_ble_eq_true rfl) dX0_goOn_71 (fun H locs hP hD hS => ?_)
      obtain ⟨M_9, eM_9⟩ : ∃ z : ST, z = x_st M_8 0 5 (M_8 0 6) := ⟨_, rfl⟩
      have hP : va_P D vwCl ((w_Beam cT a M_9)) H := by rw [eM_9]; exact hP
      have hD : va_D A ((w_Beam cT a M_9)) := by rw [eM_9]; exact hD
      have hv := hv M_9 eM_9
      refine lv_aload_n hx hb dX0_goOn_74 rfl (lv_at hl 0 rfl) ?_
      refine va_get (D := D) (ci := 0) (v := .ref (a 1)) (C := RX0) (T := TX0) (N := 7) hx hb hts in_X0 hown hK hP 0 rfl rfl 0 (by decide) kf_12 (fun _ h9 => h9) rfl dX0_goOn_75 ?_
      refine lv_aload_n hx hb dX0_goOn_78 rfl (lv_at hl 0 rfl) ?_
      refine va_get (D := D) (ci := 0) (v := .ref (a 4)) (C := RX0) (T := TX0) (N := 7) hx hb hts in_X0 hown hK hP 0 rfl rfl 1 (by decide) kf_18 (fun _ h9 => h9) rfl dX0_goOn_79 ?_
      refine x_cVv (As := [.ref (a 4)]) (rest := []) (wn := fun u_10 => (w_Beam cT a (x_wb M_9 1 3 u_10))) ⟨hx, hb, hml, hown, hts⟩ (c_X4_copyFrom l D cT (x_sh a 1) (x_sh M_9 1) (x_sh a 4) (x_sh M_9 4) _ _ hv) w_65 hK hP hD hS hA hN [1, 2, 3, 4, 5, 6] [0, 7, 8, 9] [0, 4, 5, 6, 7, 8, 9, 1, 2, 3] rfl rfl (fun _ => rfl) (by decide) (by decide) (by decide) (by decide) 4 0 rfl rfl rfl hl.1 rfl (Nat.le_of_ble_eq_true rfl) dX0_goOn_82 ⟨Nat.le_of_ble_eq_true rfl, Nat.le_of_ble_eq_true rfl⟩ (fun u_10 H locs hv hP hD hS => ?_)
      obtain ⟨M_11, eM_11⟩ : ∃ z : ST, z = x_wb M_9 1 3 u_10 := ⟨_, rfl⟩
      have hP : va_P D vwCl ((w_Beam cT a M_11)) H := by rw [eM_11]; exact hP
      have hD : va_D A ((w_Beam cT a M_11)) := by rw [eM_11]; exact hD
      have hv := hv M_11 eM_11
      exact W.vret hx hb hr (fun t ht hW => ⟨⟨M_11, rfl, hv, by rw [ht]; exact hP, va_K.moved hW.alike hK, hD⟩, hS.F ht⟩) hS.2.2 dX0_goOn_85
    · have hv := hv.2 c_7
      exact W.vret hx hb hr (fun t ht hW => ⟨⟨M_5, rfl, hv, by rw [ht]; exact hP, va_K.moved hW.alike hK, hD⟩, hS.F ht⟩) hS.2.2 dX0_goOn_60
  · have hv := hv.2 c_3
    exact W.vret hx hb hr (fun t ht hW => ⟨⟨M_1, rfl, hv, by rw [ht]; exact hP, va_K.moved hW.alike hK, hD⟩, hS.F ht⟩) hS.2.2 dX0_goOn_27
def v_X0_copyFrom (M : ST) (N : ST) (post : ST → Prop) : Prop := v_X4_copyFrom (x_sh M 1) (x_sh N 1) (fun (u_1 : ST) => ∀ M_2 : ST, M_2 = x_wb M 1 3 u_1 → v_X4_copyFrom (x_sh M_2 4) (x_sh N 4) (fun (u_3 : ST) => ∀ M_4 : ST, M_4 = x_wb M_2 4 3 u_3 → v_X4_copyFrom (x_sh M_4 7) (x_sh N 7) (fun (u_5 : ST) => ∀ M_6 : ST, M_6 = x_wb M_4 7 3 u_5 → ∀ M_7 : ST, M_7 = x_st M_6 0 3 (N 0 3) → ∀ M_8 : ST, M_8 = x_st M_7 0 4 (N 0 4) → ∀ M_9 : ST, M_9 = x_st M_8 0 5 (N 0 5) → ∀ M_10 : ST, M_10 = x_st M_9 0 6 (N 0 6) → post M_10)))
set_option maxHeartbeats 4000000 in
set_option maxRecDepth 100000 in
theorem c_X0_copyFrom (l : Launch) (D : va_G) (cT : Nat → ClassId) (a : Nat → Nat) (M : ST) (b : Nat → Nat) (N : ST) (sz : Nat) (post : ST → Prop) (hv : v_X0_copyFrom M N post) : Met l yX0_copyFrom wsX0_copyFrom ({ frames := 3, cells := 0, slots := 0, locals := 66 }) (va_Pc [.ref (a 0), .ref (b 0)] (x_U D cT ((w_Beam cT a M) ++ (w_Beam cT b N)) sz)) (va_Qv post (fun u t => x_B D cT ((w_Beam cT a u) ++ (w_Beam cT b N)) (va_A ((w_Beam cT a M) ++ (w_Beam cT b N)) sz) t) (va_A ((w_Beam cT a M) ++ (w_Beam cT b N)) sz)) 0 0 (va_A ((w_Beam cT a M) ++ (w_Beam cT b N)) sz) := by
  refine Met.ofW (cc := cX0_copyFrom) (maxL := 2) (ret := none) (by decide) rfl ?_
  intro p e s m args below meth c s₁ B hml hpre
  obtain ⟨rfl, hsz, hP, hK, hD0, hN⟩ := hpre
  have hx := B.exec
  have hb := B.bytes
  have hr := B.returns
  have hts := atoms_spec (ws := wsX0_copyFrom) B.pre
  have hown : s.vm.findClass RX0 = some m.cls := findClass_of_methodNamed B.named
  have hlocks := B.notSynchronized
  subst hsz
  have hD := hD0.self (sz := s.heap.size)
  generalize hAe : va_A ((w_Beam cT a M) ++ (w_Beam cT b N)) s.heap.size = A at hD hN ⊢
  have hA : ∀ q : Nat, s.heap.size ≤ q → A q := fun q h => by rw [← hAe]; exact Or.inr h
  have hS : va_S A s.heap s.heap [] := va_S.rf
  have hl := lv_entry ([.ref (a 0), .ref (b 0)]) (n := 2) (Nat.le_of_ble_eq_true rfl)
  rw [lg_entry_eq]
  generalize (lg_sl ([.ref (a 0), .ref (b 0)]) ++ List.replicate (2 - (lg_sl ([.ref (a 0), .ref (b 0)])).length) Slot.unset).toArray = ls at hl ⊢
  have hl : lv_has ls 2 [(0, .ref (a 0)), (1, .ref (b 0))] := hl
  have in_X0 : ∀ w ∈ wsX00, w ∈ wsX0_copyFrom := by decide +kernel
  have kf_12 : (Cond.fieldLink RX0 12 "PictureBeats$Beam" "holding" "LPictureBeats$Mode;").before ([.ref (a 0), .ref (b 0)] : List Value).toArray s = true := hts _ (by decide +kernel)
  have w_65 : CallW (headSpec wsX0_copyFrom ({ frames := 3, cells := 0, slots := 0, locals := 66 })).room s ([.ref (a 0), .ref (b 0)] : List Value).toArray RX0 RX4 65 yX4_copyFrom cX4_copyFrom 2 none wsX4_copyFrom ({ frames := 2, cells := 0, slots := 0, locals := 45 } : Room) 0 0 1 := cwV 1 hts gX0_copyFrom_X4_copyFrom rfl rfl rfl (by decide +kernel) ⟨Nat.le_of_ble_eq_true rfl, Nat.le_of_ble_eq_true rfl⟩
  have kf_18 : (Cond.fieldLink RX0 18 "PictureBeats$Beam" "takenUp" "LPictureBeats$Mode;").before ([.ref (a 0), .ref (b 0)] : List Value).toArray s = true := hts _ (by decide +kernel)
  have kf_21 : (Cond.fieldLink RX0 21 "PictureBeats$Beam" "told" "LPictureBeats$Mode;").before ([.ref (a 0), .ref (b 0)] : List Value).toArray s = true := hts _ (by decide +kernel)
  have kf_34 : (Cond.fieldLink RX0 34 "PictureBeats$Beam" "x" "I").before ([.ref (a 0), .ref (b 0)] : List Value).toArray s = true := hts _ (by decide +kernel)
  have kf_44 : (Cond.fieldLink RX0 44 "PictureBeats$Beam" "y" "I").before ([.ref (a 0), .ref (b 0)] : List Value).toArray s = true := hts _ (by decide +kernel)
  have kf_51 : (Cond.fieldLink RX0 51 "PictureBeats$Beam" "field" "I").before ([.ref (a 0), .ref (b 0)] : List Value).toArray s = true := hts _ (by decide +kernel)
  have kf_73 : (Cond.fieldLink RX0 73 "PictureBeats$Beam" "nextField" "I").before ([.ref (a 0), .ref (b 0)] : List Value).toArray s = true := hts _ (by decide +kernel)
  refine lv_aload_n hx hb dX0_copyFrom_0 rfl (lv_at hl 0 rfl) ?_
  refine va_get (D := D) (ci := 0) (v := .ref (a 1)) (C := RX0) (T := TX0) (N := 7) hx hb hts in_X0 hown hK hP 0 rfl rfl 0 (by decide) kf_12 (fun _ h9 => h9) rfl dX0_copyFrom_1 ?_
  refine lv_aload_n hx hb dX0_copyFrom_4 rfl (lv_at hl 1 rfl) ?_
  refine va_get (D := D) (ci := 0) (v := .ref (b 1)) (C := RX0) (T := TX0) (N := 7) hx hb hts in_X0 hown hK hP 10 rfl rfl 0 (by decide) kf_12 (fun _ h9 => h9) rfl dX0_copyFrom_5 ?_
  refine x_cVv (As := [.ref (b 1)]) (rest := []) (wn := fun u_1 => (w_Beam cT a (x_wb M 1 3 u_1)) ++ (w_Beam cT b N)) ⟨hx, hb, hml, hown, hts⟩ (c_X4_copyFrom l D cT (x_sh a 1) (x_sh M 1) (x_sh b 1) (x_sh N 1) _ _ hv) w_65 hK hP hD hS hA hN [1, 2, 3, 11, 12, 13] [0, 4, 5, 6, 7, 8, 9, 10, 14, 15, 16, 17, 18, 19] [0, 14, 15, 16, 1, 2, 3, 4, 5, 6, 7, 17, 18, 19, 8, 9, 10, 11, 12, 13] rfl rfl (fun _ => rfl) (by decide) (by decide) (by decide) (by decide) 4 0 rfl rfl rfl hl.1 rfl (Nat.le_of_ble_eq_true rfl) dX0_copyFrom_8 ⟨Nat.le_of_ble_eq_true rfl, Nat.le_of_ble_eq_true rfl⟩ (fun u_1 H locs hv hP hD hS => ?_)
  obtain ⟨M_2, eM_2⟩ : ∃ z : ST, z = x_wb M 1 3 u_1 := ⟨_, rfl⟩
  have hP : va_P D vwCl ((w_Beam cT a M_2) ++ (w_Beam cT b N)) H := by rw [eM_2]; exact hP
  have hD : va_D A ((w_Beam cT a M_2) ++ (w_Beam cT b N)) := by rw [eM_2]; exact hD
  have hv := hv M_2 eM_2
  refine lv_aload_n hx hb dX0_copyFrom_11 rfl (lv_at hl 0 rfl) ?_
  refine va_get (D := D) (ci := 0) (v := .ref (a 4)) (C := RX0) (T := TX0) (N := 7) hx hb hts in_X0 hown hK hP 0 rfl rfl 1 (by decide) kf_18 (fun _ h9 => h9) rfl dX0_copyFrom_12 ?_
  refine lv_aload_n hx hb dX0_copyFrom_15 rfl (lv_at hl 1 rfl) ?_
  refine va_get (D := D) (ci := 0) (v := .ref (b 4)) (C := RX0) (T := TX0) (N := 7) hx hb hts in_X0 hown hK hP 10 rfl rfl 1 (by decide) kf_18 (fun _ h9 => h9) rfl dX0_copyFrom_16 ?_
  refine x_cVv (As := [.ref (b 4)]) (rest := []) (wn := fun u_3 => (w_Beam cT a (x_wb M_2 4 3 u_3)) ++ (w_Beam cT b N)) ⟨hx, hb, hml, hown, hts⟩ (c_X4_copyFrom l D cT (x_sh a 4) (x_sh M_2 4) (x_sh b 4) (x_sh N 4) _ _ hv) w_65 hK hP hD hS hA hN [4, 5, 6, 14, 15, 16] [0, 1, 2, 3, 7, 8, 9, 10, 11, 12, 13, 17, 18, 19] [0, 1, 2, 3, 14, 15, 16, 4, 5, 6, 7, 8, 9, 10, 17, 18, 19, 11, 12, 13] rfl rfl (fun _ => rfl) (by decide) (by decide) (by decide) (by decide) 4 0 rfl rfl rfl hl.1 rfl (Nat.le_of_ble_eq_true rfl) dX0_copyFrom_19 ⟨Nat.le_of_ble_eq_true rfl, Nat.le_of_ble_eq_true rfl⟩ (fun u_3 H locs hv hP hD hS => ?_)
  obtain ⟨M_4, eM_4⟩ : ∃ z : ST, z = x_wb M_2 4 3 u_3 := ⟨_, rfl⟩
  have hP : va_P D vwCl ((w_Beam cT a M_4) ++ (w_Beam cT b N)) H := by rw [eM_4]; exact hP
  have hD : va_D A ((w_Beam cT a M_4) ++ (w_Beam cT b N)) := by rw [eM_4]; exact hD
  have hv := hv M_4 eM_4
  refine lv_aload_n hx hb dX0_copyFrom_22 rfl (lv_at hl 0 rfl) ?_
  refine va_get (D := D) (ci := 0) (v := .ref (a 7)) (C := RX0) (T := TX0) (N := 7) hx hb hts in_X0 hown hK hP 0 rfl rfl 2 (by decide) kf_21 (fun _ h9 => h9) rfl dX0_copyFrom_23 ?_
  refine lv_aload_n hx hb dX0_copyFrom_26 rfl (lv_at hl 1 rfl) ?_
  refine va_get (D := D) (ci := 0) (v := .ref (b 7)) (C := RX0) (T := TX0) (N := 7) hx hb hts in_X0 hown hK hP 10 rfl rfl 2 (by decide) kf_21 (fun _ h9 => h9) rfl dX0_copyFrom_27 ?_
  refine x_cVv (As := [.ref (b 7)]) (rest := []) (wn := fun u_5 => (w_Beam cT a (x_wb M_4 7 3 u_5)) ++ (w_Beam cT b N)) ⟨hx, hb, hml, hown, hts⟩ (c_X4_copyFrom l D cT (x_sh a 7) (x_sh M_4 7) (x_sh b 7) (x_sh N 7) _ _ hv) w_65 hK hP hD hS hA hN [7, 8, 9, 17, 18, 19] [0, 1, 2, 3, 4, 5, 6, 10, 11, 12, 13, 14, 15, 16] [0, 1, 2, 3, 4, 5, 6, 14, 15, 16, 7, 8, 9, 10, 11, 12, 13, 17, 18, 19] rfl rfl (fun _ => rfl) (by decide) (by decide) (by decide) (by decide) 4 0 rfl rfl rfl hl.1 rfl (Nat.le_of_ble_eq_true rfl) dX0_copyFrom_30 ⟨Nat.le_of_ble_eq_true rfl, Nat.le_of_ble_eq_true rfl⟩ (fun u_5 H locs hv hP hD hS => ?_)
  obtain ⟨M_6, eM_6⟩ : ∃ z : ST, z = x_wb M_4 7 3 u_5 := ⟨_, rfl⟩
  have hP : va_P D vwCl ((w_Beam cT a M_6) ++ (w_Beam cT b N)) H := by rw [eM_6]; exact hP
  have hD : va_D A ((w_Beam cT a M_6) ++ (w_Beam cT b N)) := by rw [eM_6]; exact hD
  have hv := hv M_6 eM_6
  refine lv_aload_n hx hb dX0_copyFrom_33 rfl (lv_at hl 0 rfl) ?_
  refine lv_aload_n hx hb dX0_copyFrom_34 rfl (lv_at hl 1 rfl) ?_
  refine va_get (D := D) (ci := 0) (v := .int (N 0 3)) (C := RX0) (T := TX0) (N := 7) hx hb hts in_X0 hown hK hP 10 rfl rfl 3 (by decide) kf_34 (fun _ h9 => h9) rfl dX0_copyFrom_35 ?_
  refine va_put (D := D) (ci := 0) (v := .int (N 0 3)) (ty := .int) (C := RX0) (T := TX0) (N := 7) hx hb hts in_X0 tyX0 tyX0_ok nmX0 hown hK hP hD hS 0 rfl rfl 3 (by decide) kf_34 (fun _ h9 => h9) rfl (by decide +kernel) rfl rfl (Nat.le_of_ble_eq_true rfl) dX0_copyFrom_38 (fun H locs hP hD hS => ?_)
  obtain ⟨M_7, eM_7⟩ : ∃ z : ST, z = x_st M_6 0 3 (N 0 3) := ⟨_, rfl⟩
  have hP : va_P D vwCl ((w_Beam cT a M_7) ++ (w_Beam cT b N)) H := by rw [eM_7]; exact hP
  have hD : va_D A ((w_Beam cT a M_7) ++ (w_Beam cT b N)) := by rw [eM_7]; exact hD
  have hv := hv M_7 eM_7
  refine lv_aload_n hx hb dX0_copyFrom_41 rfl (lv_at hl 0 rfl) ?_
  refine lv_aload_n hx hb dX0_copyFrom_42 rfl (lv_at hl 1 rfl) ?_
  refine va_get (D := D) (ci := 0) (v := .int (N 0 4)) (C := RX0) (T := TX0) (N := 7) hx hb hts in_X0 hown hK hP 10 rfl rfl 4 (by decide) kf_44 (fun _ h9 => h9) rfl dX0_copyFrom_43 ?_
  refine va_put (D := D) (ci := 0) (v := .int (N 0 4)) (ty := .int) (C := RX0) (T := TX0) (N := 7) hx hb hts in_X0 tyX0 tyX0_ok nmX0 hown hK hP hD hS 0 rfl rfl 4 (by decide) kf_44 (fun _ h9 => h9) rfl (by decide +kernel) rfl rfl (Nat.le_of_ble_eq_true rfl) dX0_copyFrom_46 (fun H locs hP hD hS => ?_)
  obtain ⟨M_8, eM_8⟩ : ∃ z : ST, z = x_st M_7 0 4 (N 0 4) := ⟨_, rfl⟩
  have hP : va_P D vwCl ((w_Beam cT a M_8) ++ (w_Beam cT b N)) H := by rw [eM_8]; exact hP
  have hD : va_D A ((w_Beam cT a M_8) ++ (w_Beam cT b N)) := by rw [eM_8]; exact hD
  have hv := hv M_8 eM_8
  refine lv_aload_n hx hb dX0_copyFrom_49 rfl (lv_at hl 0 rfl) ?_
  refine lv_aload_n hx hb dX0_copyFrom_50 rfl (lv_at hl 1 rfl) ?_
  refine va_get (D := D) (ci := 0) (v := .int (N 0 5)) (C := RX0) (T := TX0) (N := 7) hx hb hts in_X0 hown hK hP 10 rfl rfl 5 (by decide) kf_51 (fun _ h9 => h9) rfl dX0_copyFrom_51 ?_
  refine va_put (D := D) (ci := 0) (v := .int (N 0 5)) (ty := .int) (C := RX0) (T := TX0) (N := 7) hx hb hts in_X0 tyX0 tyX0_ok nmX0 hown hK hP hD hS 0 rfl rfl 5 (by decide) kf_51 (fun _ h9 => h9) rfl (by decide +kernel) rfl rfl (Nat.le_of_ble_eq_true rfl) dX0_copyFrom_54 (fun H locs hP hD hS => ?_)
  obtain ⟨M_9, eM_9⟩ : ∃ z : ST, z = x_st M_8 0 5 (N 0 5) := ⟨_, rfl⟩
  have hP : va_P D vwCl ((w_Beam cT a M_9) ++ (w_Beam cT b N)) H := by rw [eM_9]; exact hP
  have hD : va_D A ((w_Beam cT a M_9) ++ (w_Beam cT b N)) := by rw [eM_9]; exact hD
  have hv := hv M_9 eM_9
  refine lv_aload_n hx hb dX0_copyFrom_57 rfl (lv_at hl 0 rfl) ?_
  refine lv_aload_n hx hb dX0_copyFrom_58 rfl (lv_at hl 1 rfl) ?_
  refine va_get (D := D) (ci := 0) (v := .int (N 0 6)) (C := RX0) (T := TX0) (N := 7) hx hb hts in_X0 hown hK hP 10 rfl rfl 6 (by decide) kf_73 (fun _ h9 => h9) rfl dX0_copyFrom_59 ?_
  refine va_put (D := D) (ci := 0) (v := .int (N 0 6)) (ty := .int) (C := RX0) (T := TX0) (N := 7) hx hb hts in_X0 tyX0 tyX0_ok nmX0 hown hK hP hD hS 0 rfl rfl 6 (by decide) kf_73 (fun _ h9 => h9) rfl (by decide +kernel) rfl rfl (Nat.le_of_ble_eq_true rfl) dX0_copyFrom_62 (fun H locs hP hD hS => ?_)
  obtain ⟨M_10, eM_10⟩ : ∃ z : ST, z = x_st M_9 0 6 (N 0 6) := ⟨_, rfl⟩
  have hP : va_P D vwCl ((w_Beam cT a M_10) ++ (w_Beam cT b N)) H := by rw [eM_10]; exact hP
  have hD : va_D A ((w_Beam cT a M_10) ++ (w_Beam cT b N)) := by rw [eM_10]; exact hD
  have hv := hv M_10 eM_10
  exact W.vret hx hb hr (fun t ht hW => ⟨⟨M_10, rfl, hv, by rw [ht]; exact hP, va_K.moved hW.alike hK, hD⟩, hS.F ht⟩) hS.2.2 dX0_copyFrom_65
