def v_X2_startLine (M : ST) (p1 : Int32) (p2 : Int32) (post : ST → Prop) : Prop := ∀ M_1 : ST, M_1 = x_st M 0 2 0 → ∀ M_2 : ST, M_2 = x_st M_1 0 5 0 → ∀ M_3 : ST, M_3 = x_st M_2 0 6 p1 → ∀ M_4 : ST, M_4 = x_st M_3 0 7 0 → ∀ M_5 : ST, M_5 = x_st M_4 0 8 p2 → post M_5
set_option maxHeartbeats 4000000 in
set_option maxRecDepth 100000 in
theorem c_X2_startLine (l : Launch) (D : va_G) (cT : Nat → ClassId) (a : Nat → Nat) (M : ST) (p1 : Int32) (p2 : Int32) (sz : Nat) (post : ST → Prop) (hv : v_X2_startLine M p1 p2 post) : Met l yX2_startLine wsX2_startLine ({ frames := 0, cells := 0, slots := 0, locals := 0 }) (va_Pc [.ref (a 0), .int p1, .int p2] (x_U D cT ((w_Feed cT a M)) sz)) (va_Qv post (fun u t => x_B D cT ((w_Feed cT a u)) (va_A ((w_Feed cT a M)) sz) t) (va_A ((w_Feed cT a M)) sz)) 0 0 (va_A ((w_Feed cT a M)) sz) := by
  refine Met.ofW (cc := cX2_startLine) (maxL := 3) (ret := none) (by decide) rfl ?_
  intro p e s m args below meth c s₁ B hml hpre
  obtain ⟨rfl, hsz, hP, hK, hD0, hN⟩ := hpre
  have hx := B.exec
  have hb := B.bytes
  have hr := B.returns
  have hts := atoms_spec (ws := wsX2_startLine) B.pre
  have hown : s.vm.findClass RX2 = some m.cls := findClass_of_methodNamed B.named
  have hlocks := B.notSynchronized
  subst hsz
  have hD := hD0.self (sz := s.heap.size)
  generalize hAe : va_A ((w_Feed cT a M)) s.heap.size = A at hD hN ⊢
  have hA : ∀ q : Nat, s.heap.size ≤ q → A q := fun q h => by rw [← hAe]; exact Or.inr h
  have hS : va_S A s.heap s.heap [] := va_S.rf
  have hl := lv_entry ([.ref (a 0), .int p1, .int p2]) (n := 3) (Nat.le_of_ble_eq_true rfl)
  rw [lg_entry_eq]
  generalize (lg_sl ([.ref (a 0), .int p1, .int p2]) ++ List.replicate (3 - (lg_sl ([.ref (a 0), .int p1, .int p2])).length) Slot.unset).toArray = ls at hl ⊢
  have hl : lv_has ls 3 [(0, .ref (a 0)), (1, .int p1), (2, .int p2)] := hl
  have in_X2 : ∀ w ∈ wsX20, w ∈ wsX2_startLine := by decide +kernel
  have kf_19 : (Cond.fieldLink RX2 19 "PictureBeats$Feed" "count" "I").before ([.ref (a 0), .int p1, .int p2] : List Value).toArray s = true := hts _ (by decide +kernel)
  have kf_22 : (Cond.fieldLink RX2 22 "PictureBeats$Feed" "leftBits" "I").before ([.ref (a 0), .int p1, .int p2] : List Value).toArray s = true := hts _ (by decide +kernel)
  have kf_25 : (Cond.fieldLink RX2 25 "PictureBeats$Feed" "row" "I").before ([.ref (a 0), .int p1, .int p2] : List Value).toArray s = true := hts _ (by decide +kernel)
  have kf_28 : (Cond.fieldLink RX2 28 "PictureBeats$Feed" "nextByte" "I").before ([.ref (a 0), .int p1, .int p2] : List Value).toArray s = true := hts _ (by decide +kernel)
  have kf_31 : (Cond.fieldLink RX2 31 "PictureBeats$Feed" "bytes" "I").before ([.ref (a 0), .int p1, .int p2] : List Value).toArray s = true := hts _ (by decide +kernel)
  refine lv_aload_n hx hb dX2_startLine_0 rfl (lv_at hl 0 rfl) ?_
  refine lv_iconst (v := 0) hx hb dX2_startLine_1 (by decide) ?_
  refine va_put (D := D) (ci := 2) (v := .int 0) (ty := .int) (C := RX2) (T := TX2) (N := 11) hx hb hts in_X2 tyX2 tyX2_ok nmX2 hown hK hP hD hS 0 rfl rfl 2 (by decide) kf_19 (fun _ h9 => h9) rfl (by decide +kernel) rfl rfl (Nat.le_of_ble_eq_true rfl) dX2_startLine_2 (fun H locs hP hD hS => ?_)
  obtain ⟨M_1, eM_1⟩ : ∃ z : ST, z = x_st M 0 2 0 := ⟨_, rfl⟩
  have hP : va_P D vwCl ((w_Feed cT a M_1)) H := by rw [eM_1]; exact hP
  have hD : va_D A ((w_Feed cT a M_1)) := by rw [eM_1]; exact hD
  have hv := hv M_1 eM_1
  refine lv_aload_n hx hb dX2_startLine_5 rfl (lv_at hl 0 rfl) ?_
  refine lv_iconst (v := 0) hx hb dX2_startLine_6 (by decide) ?_
  refine va_put (D := D) (ci := 2) (v := .int 0) (ty := .int) (C := RX2) (T := TX2) (N := 11) hx hb hts in_X2 tyX2 tyX2_ok nmX2 hown hK hP hD hS 0 rfl rfl 5 (by decide) kf_22 (fun _ h9 => h9) rfl (by decide +kernel) rfl rfl (Nat.le_of_ble_eq_true rfl) dX2_startLine_7 (fun H locs hP hD hS => ?_)
  obtain ⟨M_2, eM_2⟩ : ∃ z : ST, z = x_st M_1 0 5 0 := ⟨_, rfl⟩
  have hP : va_P D vwCl ((w_Feed cT a M_2)) H := by rw [eM_2]; exact hP
  have hD : va_D A ((w_Feed cT a M_2)) := by rw [eM_2]; exact hD
  have hv := hv M_2 eM_2
  refine lv_aload_n hx hb dX2_startLine_10 rfl (lv_at hl 0 rfl) ?_
  refine lv_iload_n hx hb dX2_startLine_11 rfl (lv_at hl 1 rfl) ?_
  refine va_put (D := D) (ci := 2) (v := .int p1) (ty := .int) (C := RX2) (T := TX2) (N := 11) hx hb hts in_X2 tyX2 tyX2_ok nmX2 hown hK hP hD hS 0 rfl rfl 6 (by decide) kf_25 (fun _ h9 => h9) rfl (by decide +kernel) rfl rfl (Nat.le_of_ble_eq_true rfl) dX2_startLine_12 (fun H locs hP hD hS => ?_)
  obtain ⟨M_3, eM_3⟩ : ∃ z : ST, z = x_st M_2 0 6 p1 := ⟨_, rfl⟩
  have hP : va_P D vwCl ((w_Feed cT a M_3)) H := by rw [eM_3]; exact hP
  have hD : va_D A ((w_Feed cT a M_3)) := by rw [eM_3]; exact hD
  have hv := hv M_3 eM_3
  refine lv_aload_n hx hb dX2_startLine_15 rfl (lv_at hl 0 rfl) ?_
  refine lv_iconst (v := 0) hx hb dX2_startLine_16 (by decide) ?_
  refine va_put (D := D) (ci := 2) (v := .int 0) (ty := .int) (C := RX2) (T := TX2) (N := 11) hx hb hts in_X2 tyX2 tyX2_ok nmX2 hown hK hP hD hS 0 rfl rfl 7 (by decide) kf_28 (fun _ h9 => h9) rfl (by decide +kernel) rfl rfl (Nat.le_of_ble_eq_true rfl) dX2_startLine_17 (fun H locs hP hD hS => ?_)
  obtain ⟨M_4, eM_4⟩ : ∃ z : ST, z = x_st M_3 0 7 0 := ⟨_, rfl⟩
  have hP : va_P D vwCl ((w_Feed cT a M_4)) H := by rw [eM_4]; exact hP
  have hD : va_D A ((w_Feed cT a M_4)) := by rw [eM_4]; exact hD
  have hv := hv M_4 eM_4
  refine lv_aload_n hx hb dX2_startLine_20 rfl (lv_at hl 0 rfl) ?_
  refine lv_iload_n hx hb dX2_startLine_21 rfl (lv_at hl 2 rfl) ?_
  refine va_put (D := D) (ci := 2) (v := .int p2) (ty := .int) (C := RX2) (T := TX2) (N := 11) hx hb hts in_X2 tyX2 tyX2_ok nmX2 hown hK hP hD hS 0 rfl rfl 8 (by decide) kf_31 (fun _ h9 => h9) rfl (by decide +kernel) rfl rfl (Nat.le_of_ble_eq_true rfl) dX2_startLine_22 (fun H locs hP hD hS => ?_)
  obtain ⟨M_5, eM_5⟩ : ∃ z : ST, z = x_st M_4 0 8 p2 := ⟨_, rfl⟩
  have hP : va_P D vwCl ((w_Feed cT a M_5)) H := by rw [eM_5]; exact hP
  have hD : va_D A ((w_Feed cT a M_5)) := by rw [eM_5]; exact hD
  have hv := hv M_5 eM_5
  exact W.vret hx hb hr (fun t ht hW => ⟨⟨M_5, rfl, hv, by rw [ht]; exact hP, va_K.moved hW.alike hK, hD⟩, hS.F ht⟩) hS.2.2 dX2_startLine_25
def v_X2_wantsByte (M : ST) (post : Int32 → Prop) : Prop := ((((M 0 3) ≤ (M 0 2)) → post 0) ∧ ((¬ ((M 0 3) ≤ (M 0 2))) → ((((M 0 8) ≤ (M 0 7)) → post 0) ∧ ((¬ ((M 0 8) ≤ (M 0 7))) → post 1))))
set_option maxHeartbeats 4000000 in
set_option maxRecDepth 100000 in
theorem c_X2_wantsByte (l : Launch) (D : va_G) (cT : Nat → ClassId) (a : Nat → Nat) (M : ST) (post : Int32 → Prop) (hv : v_X2_wantsByte M post) : Met l yX2_wantsByte wsX2_wantsByte ({ frames := 0, cells := 0, slots := 0, locals := 0 }) (va_Pc [.ref (a 0)] (x_R D cT ((w_Feed cT a M)))) (vp_Si post) 0 0 (fun _ => False) := by
  refine Met.ofW (cc := cX2_wantsByte) (maxL := 1) (ret := (some .boolean)) (by decide) rfl ?_
  intro p e s m args below meth c s₁ B hml hpre
  obtain ⟨rfl, hP, hK, hN⟩ := hpre
  have hx := B.exec
  have hb := B.bytes
  have hr := B.returns
  have hts := atoms_spec (ws := wsX2_wantsByte) B.pre
  have hown : s.vm.findClass RX2 = some m.cls := findClass_of_methodNamed B.named
  have hlocks := B.notSynchronized
  have hS : va_S (fun _ : Nat => False) s.heap s.heap [] := va_S.rf
  have hl := lv_entry ([.ref (a 0)]) (n := 1) (Nat.le_of_ble_eq_true rfl)
  rw [lg_entry_eq]
  generalize (lg_sl ([.ref (a 0)]) ++ List.replicate (1 - (lg_sl ([.ref (a 0)])).length) Slot.unset).toArray = ls at hl ⊢
  have hl : lv_has ls 1 [(0, .ref (a 0))] := hl
  have in_X2 : ∀ w ∈ wsX20, w ∈ wsX2_wantsByte := by decide +kernel
  have kf_19 : (Cond.fieldLink RX2 19 "PictureBeats$Feed" "count" "I").before ([.ref (a 0)] : List Value).toArray s = true := hts _ (by decide +kernel)
  have kf_15 : (Cond.fieldLink RX2 15 "PictureBeats$Feed" "depth" "I").before ([.ref (a 0)] : List Value).toArray s = true := hts _ (by decide +kernel)
  have kf_28 : (Cond.fieldLink RX2 28 "PictureBeats$Feed" "nextByte" "I").before ([.ref (a 0)] : List Value).toArray s = true := hts _ (by decide +kernel)
  have kf_31 : (Cond.fieldLink RX2 31 "PictureBeats$Feed" "bytes" "I").before ([.ref (a 0)] : List Value).toArray s = true := hts _ (by decide +kernel)
  refine lv_aload_n hx hb dX2_wantsByte_0 rfl (lv_at hl 0 rfl) ?_
  refine va_get (D := D) (ci := 2) (v := .int (M 0 2)) (C := RX2) (T := TX2) (N := 11) hx hb hts in_X2 hown hK hP 0 rfl rfl 2 (by decide) kf_19 (fun _ h9 => h9) rfl dX2_wantsByte_1 ?_
  refine lv_aload_n hx hb dX2_wantsByte_4 rfl (lv_at hl 0 rfl) ?_
  refine va_get (D := D) (ci := 2) (v := .int (M 0 3)) (C := RX2) (T := TX2) (N := 11) hx hb hts in_X2 hown hK hP 0 rfl rfl 3 (by decide) kf_15 (fun _ h9 => h9) rfl dX2_wantsByte_5 ?_
  refine lv_icmp_ge (tgt := 26) hx hb dX2_wantsByte_8 (by decide) (fun c_1 => ?_) (fun c_1 => ?_)
  · have hv := hv.1 c_1
    refine lv_iconst (v := 0) hx hb dX2_wantsByte_26 (by decide) ?_
    exact W.zret (v := 0) hx hb hr rfl (fun t ht hW => ⟨_, rfl, hv, ht⟩) (fun q h => absurd h List.not_mem_nil) dX2_wantsByte_27
  · have hv := hv.2 c_1
    refine lv_aload_n hx hb dX2_wantsByte_11 rfl (lv_at hl 0 rfl) ?_
    refine va_get (D := D) (ci := 2) (v := .int (M 0 7)) (C := RX2) (T := TX2) (N := 11) hx hb hts in_X2 hown hK hP 0 rfl rfl 7 (by decide) kf_28 (fun _ h9 => h9) rfl dX2_wantsByte_12 ?_
    refine lv_aload_n hx hb dX2_wantsByte_15 rfl (lv_at hl 0 rfl) ?_
    refine va_get (D := D) (ci := 2) (v := .int (M 0 8)) (C := RX2) (T := TX2) (N := 11) hx hb hts in_X2 hown hK hP 0 rfl rfl 8 (by decide) kf_31 (fun _ h9 => h9) rfl dX2_wantsByte_16 ?_
    refine lv_icmp_ge (tgt := 26) hx hb dX2_wantsByte_19 (by decide) (fun c_2 => ?_) (fun c_2 => ?_)
    · have hv := hv.1 c_2
      refine lv_iconst (v := 0) hx hb dX2_wantsByte_26 (by decide) ?_
      exact W.zret (v := 0) hx hb hr rfl (fun t ht hW => ⟨_, rfl, hv, ht⟩) (fun q h => absurd h List.not_mem_nil) dX2_wantsByte_27
    · have hv := hv.2 c_2
      refine lv_iconst (v := 1) hx hb dX2_wantsByte_22 (by decide) ?_
      refine lv_goto (tgt := 27) hx hb dX2_wantsByte_23 (by decide) ?_
      exact W.zret (v := 1) hx hb hr rfl (fun t ht hW => ⟨_, rfl, hv, ht⟩) (fun q h => absurd h List.not_mem_nil) dX2_wantsByte_27
def v_X2_append (M : ST) (p1 : Int32) (post : ST → Prop) : Prop := ∃ k_1 : Nat, k_1 < 8 ∧ (((M 0 1) + (M 0 2)) - ((M 0 1) + (M 0 2)) / 8 * 8) = nI k_1 ∧ ∀ M_2 : ST, M_2 = x_st M 1 k_1 p1 → ∀ M_3 : ST, M_3 = x_st M_2 0 2 ((M_2 0 2) + 1) → ∀ M_4 : ST, M_4 = x_st M_3 0 7 ((M_3 0 7) + 1) → ∀ M_5 : ST, M_5 = x_st M_4 0 10 ((M_4 0 10) + 1) → post M_5
set_option maxHeartbeats 4000000 in
set_option maxRecDepth 100000 in
theorem c_X2_append (l : Launch) (D : va_G) (cT : Nat → ClassId) (a : Nat → Nat) (M : ST) (p1 : Int32) (sz : Nat) (post : ST → Prop) (hv : v_X2_append M p1 post) : Met l yX2_append wsX2_append ({ frames := 0, cells := 0, slots := 0, locals := 0 }) (va_Pc [.ref (a 0), .int p1] (x_U D cT ((w_Feed cT a M)) sz)) (va_Qv post (fun u t => x_B D cT ((w_Feed cT a u)) (va_A ((w_Feed cT a M)) sz) t) (va_A ((w_Feed cT a M)) sz)) 0 0 (va_A ((w_Feed cT a M)) sz) := by
  refine Met.ofW (cc := cX2_append) (maxL := 2) (ret := none) (by decide) rfl ?_
  intro p e s m args below meth c s₁ B hml hpre
  obtain ⟨rfl, hsz, hP, hK, hD0, hN⟩ := hpre
  have hx := B.exec
  have hb := B.bytes
  have hr := B.returns
  have hts := atoms_spec (ws := wsX2_append) B.pre
  have hown : s.vm.findClass RX2 = some m.cls := findClass_of_methodNamed B.named
  have hlocks := B.notSynchronized
  subst hsz
  have hD := hD0.self (sz := s.heap.size)
  generalize hAe : va_A ((w_Feed cT a M)) s.heap.size = A at hD hN ⊢
  have hA : ∀ q : Nat, s.heap.size ≤ q → A q := fun q h => by rw [← hAe]; exact Or.inr h
  have hS : va_S A s.heap s.heap [] := va_S.rf
  have hl := lv_entry ([.ref (a 0), .int p1]) (n := 2) (Nat.le_of_ble_eq_true rfl)
  rw [lg_entry_eq]
  generalize (lg_sl ([.ref (a 0), .int p1]) ++ List.replicate (2 - (lg_sl ([.ref (a 0), .int p1])).length) Slot.unset).toArray = ls at hl ⊢
  have hl : lv_has ls 2 [(0, .ref (a 0)), (1, .int p1)] := hl
  have in_X2 : ∀ w ∈ wsX20, w ∈ wsX2_append := by decide +kernel
  have kf_9 : (Cond.fieldLink RX2 9 "PictureBeats$Feed" "queue" "[I").before ([.ref (a 0), .int p1] : List Value).toArray s = true := hts _ (by decide +kernel)
  have kf_34 : (Cond.fieldLink RX2 34 "PictureBeats$Feed" "first" "I").before ([.ref (a 0), .int p1] : List Value).toArray s = true := hts _ (by decide +kernel)
  have kf_19 : (Cond.fieldLink RX2 19 "PictureBeats$Feed" "count" "I").before ([.ref (a 0), .int p1] : List Value).toArray s = true := hts _ (by decide +kernel)
  have kf_28 : (Cond.fieldLink RX2 28 "PictureBeats$Feed" "nextByte" "I").before ([.ref (a 0), .int p1] : List Value).toArray s = true := hts _ (by decide +kernel)
  have kf_37 : (Cond.fieldLink RX2 37 "PictureBeats$Feed" "fetched" "I").before ([.ref (a 0), .int p1] : List Value).toArray s = true := hts _ (by decide +kernel)
  refine lv_aload_n hx hb dX2_append_0 rfl (lv_at hl 0 rfl) ?_
  refine va_get (D := D) (ci := 2) (v := .ref (a 1)) (C := RX2) (T := TX2) (N := 11) hx hb hts in_X2 hown hK hP 0 rfl rfl 0 (by decide) kf_9 (fun _ h9 => h9) rfl dX2_append_1 ?_
  refine lv_aload_n hx hb dX2_append_4 rfl (lv_at hl 0 rfl) ?_
  refine va_get (D := D) (ci := 2) (v := .int (M 0 1)) (C := RX2) (T := TX2) (N := 11) hx hb hts in_X2 hown hK hP 0 rfl rfl 1 (by decide) kf_34 (fun _ h9 => h9) rfl dX2_append_5 ?_
  refine lv_aload_n hx hb dX2_append_8 rfl (lv_at hl 0 rfl) ?_
  refine va_get (D := D) (ci := 2) (v := .int (M 0 2)) (C := RX2) (T := TX2) (N := 11) hx hb hts in_X2 hown hK hP 0 rfl rfl 2 (by decide) kf_19 (fun _ h9 => h9) rfl dX2_append_9 ?_
  refine lv_iadd hx hb dX2_append_12 ?_
  refine lv_bipush (v := 8) hx hb dX2_append_13 (by decide) ?_
  refine lv_irem hx hb dX2_append_15 (by decide) ?_
  refine lv_iload_n hx hb dX2_append_16 rfl (lv_at hl 1 rfl) ?_
  obtain ⟨k_1, hk_1, ik_1, hv⟩ := hv
  refine x_ast hx hb hK hP hD hS 1 0 rfl rfl k_1 ik_1 hk_1 (by decide) dX2_append_17 (fun H locs hP hD hS => ?_)
  obtain ⟨M_2, eM_2⟩ : ∃ z : ST, z = x_st M 1 k_1 p1 := ⟨_, rfl⟩
  have hP : va_P D vwCl ((w_Feed cT a M_2)) H := by rw [eM_2]; exact hP
  have hD : va_D A ((w_Feed cT a M_2)) := by rw [eM_2]; exact hD
  have hv := hv M_2 eM_2
  refine lv_aload_n hx hb dX2_append_18 rfl (lv_at hl 0 rfl) ?_
  refine lv_dup hx hb dX2_append_19 rfl ?_
  refine va_get (D := D) (ci := 2) (v := .int (M_2 0 2)) (C := RX2) (T := TX2) (N := 11) hx hb hts in_X2 hown hK hP 0 rfl rfl 2 (by decide) kf_19 (fun _ h9 => h9) rfl dX2_append_20 ?_
  refine lv_iconst (v := 1) hx hb dX2_append_23 (by decide) ?_
  refine lv_iadd hx hb dX2_append_24 ?_
  refine va_put (D := D) (ci := 2) (v := .int ((M_2 0 2) + 1)) (ty := .int) (C := RX2) (T := TX2) (N := 11) hx hb hts in_X2 tyX2 tyX2_ok nmX2 hown hK hP hD hS 0 rfl rfl 2 (by decide) kf_19 (fun _ h9 => h9) rfl (by decide +kernel) rfl rfl (Nat.le_of_ble_eq_true rfl) dX2_append_25 (fun H locs hP hD hS => ?_)
  obtain ⟨M_3, eM_3⟩ : ∃ z : ST, z = x_st M_2 0 2 ((M_2 0 2) + 1) := ⟨_, rfl⟩
  have hP : va_P D vwCl ((w_Feed cT a M_3)) H := by rw [eM_3]; exact hP
  have hD : va_D A ((w_Feed cT a M_3)) := by rw [eM_3]; exact hD
  have hv := hv M_3 eM_3
  refine lv_aload_n hx hb dX2_append_28 rfl (lv_at hl 0 rfl) ?_
  refine lv_dup hx hb dX2_append_29 rfl ?_
  refine va_get (D := D) (ci := 2) (v := .int (M_3 0 7)) (C := RX2) (T := TX2) (N := 11) hx hb hts in_X2 hown hK hP 0 rfl rfl 7 (by decide) kf_28 (fun _ h9 => h9) rfl dX2_append_30 ?_
  refine lv_iconst (v := 1) hx hb dX2_append_33 (by decide) ?_
  refine lv_iadd hx hb dX2_append_34 ?_
  refine va_put (D := D) (ci := 2) (v := .int ((M_3 0 7) + 1)) (ty := .int) (C := RX2) (T := TX2) (N := 11) hx hb hts in_X2 tyX2 tyX2_ok nmX2 hown hK hP hD hS 0 rfl rfl 7 (by decide) kf_28 (fun _ h9 => h9) rfl (by decide +kernel) rfl rfl (Nat.le_of_ble_eq_true rfl) dX2_append_35 (fun H locs hP hD hS => ?_)
  obtain ⟨M_4, eM_4⟩ : ∃ z : ST, z = x_st M_3 0 7 ((M_3 0 7) + 1) := ⟨_, rfl⟩
  have hP : va_P D vwCl ((w_Feed cT a M_4)) H := by rw [eM_4]; exact hP
  have hD : va_D A ((w_Feed cT a M_4)) := by rw [eM_4]; exact hD
  have hv := hv M_4 eM_4
  refine lv_aload_n hx hb dX2_append_38 rfl (lv_at hl 0 rfl) ?_
  refine lv_dup hx hb dX2_append_39 rfl ?_
  refine va_get (D := D) (ci := 2) (v := .int (M_4 0 10)) (C := RX2) (T := TX2) (N := 11) hx hb hts in_X2 hown hK hP 0 rfl rfl 10 (by decide) kf_37 (fun _ h9 => h9) rfl dX2_append_40 ?_
  refine lv_iconst (v := 1) hx hb dX2_append_43 (by decide) ?_
  refine lv_iadd hx hb dX2_append_44 ?_
  refine va_put (D := D) (ci := 2) (v := .int ((M_4 0 10) + 1)) (ty := .int) (C := RX2) (T := TX2) (N := 11) hx hb hts in_X2 tyX2 tyX2_ok nmX2 hown hK hP hD hS 0 rfl rfl 10 (by decide) kf_37 (fun _ h9 => h9) rfl (by decide +kernel) rfl rfl (Nat.le_of_ble_eq_true rfl) dX2_append_45 (fun H locs hP hD hS => ?_)
  obtain ⟨M_5, eM_5⟩ : ∃ z : ST, z = x_st M_4 0 10 ((M_4 0 10) + 1) := ⟨_, rfl⟩
  have hP : va_P D vwCl ((w_Feed cT a M_5)) H := by rw [eM_5]; exact hP
  have hD : va_D A ((w_Feed cT a M_5)) := by rw [eM_5]; exact hD
  have hv := hv M_5 eM_5
  exact W.vret hx hb hr (fun t ht hW => ⟨⟨M_5, rfl, hv, by rw [ht]; exact hP, va_K.moved hW.alike hK, hD⟩, hS.F ht⟩) hS.2.2 dX2_append_48
def v_X2_takeBit (M : ST) (post : Int32 → ST → Prop) : Prop := (((¬ ((M 0 5) = 0)) → ∀ M_2 : ST, M_2 = x_st M 0 5 ((M 0 5) - 1) → post (((M_2 0 4) >>> ((M_2 0 5) &&& 31)) &&& 1) M_2) ∧ (((M 0 5) = 0) → (((¬ ((M 0 2) = 0)) → ∃ k_4 : Nat, k_4 < 8 ∧ (M 0 1) = nI k_4 ∧ ∀ M_5 : ST, M_5 = x_st M 0 4 (M 1 k_4) → ∀ M_6 : ST, M_6 = x_st M_5 0 5 8 → ∀ M_7 : ST, M_7 = x_st M_6 0 1 (((M_6 0 1) + 1) - ((M_6 0 1) + 1) / 8 * 8) → ∀ M_8 : ST, M_8 = x_st M_7 0 2 ((M_7 0 2) - 1) → ∀ M_9 : ST, M_9 = x_st M_8 0 5 ((M_8 0 5) - 1) → post (((M_9 0 4) >>> ((M_9 0 5) &&& 31)) &&& 1) M_9) ∧ (((M 0 2) = 0) → ∀ M_10 : ST, M_10 = x_st M 0 9 ((M 0 9) + 1) → post (-1) M_10))))
set_option maxHeartbeats 4000000 in
set_option maxRecDepth 100000 in
theorem c_X2_takeBit (l : Launch) (D : va_G) (cT : Nat → ClassId) (a : Nat → Nat) (M : ST) (sz : Nat) (post : Int32 → ST → Prop) (hv : v_X2_takeBit M post) : Met l yX2_takeBit wsX2_takeBit ({ frames := 0, cells := 0, slots := 0, locals := 0 }) (va_Pc [.ref (a 0)] (x_U D cT ((w_Feed cT a M)) sz)) (va_Qi post (fun u t => x_B D cT ((w_Feed cT a u)) (va_A ((w_Feed cT a M)) sz) t) (va_A ((w_Feed cT a M)) sz)) 0 0 (va_A ((w_Feed cT a M)) sz) := by
  refine Met.ofW (cc := cX2_takeBit) (maxL := 1) (ret := (some .int)) (by decide) rfl ?_
  intro p e s m args below meth c s₁ B hml hpre
  obtain ⟨rfl, hsz, hP, hK, hD0, hN⟩ := hpre
  have hx := B.exec
  have hb := B.bytes
  have hr := B.returns
  have hts := atoms_spec (ws := wsX2_takeBit) B.pre
  have hown : s.vm.findClass RX2 = some m.cls := findClass_of_methodNamed B.named
  have hlocks := B.notSynchronized
  subst hsz
  have hD := hD0.self (sz := s.heap.size)
  generalize hAe : va_A ((w_Feed cT a M)) s.heap.size = A at hD hN ⊢
  have hA : ∀ q : Nat, s.heap.size ≤ q → A q := fun q h => by rw [← hAe]; exact Or.inr h
  have hS : va_S A s.heap s.heap [] := va_S.rf
  have hl := lv_entry ([.ref (a 0)]) (n := 1) (Nat.le_of_ble_eq_true rfl)
  rw [lg_entry_eq]
  generalize (lg_sl ([.ref (a 0)]) ++ List.replicate (1 - (lg_sl ([.ref (a 0)])).length) Slot.unset).toArray = ls at hl ⊢
  have hl : lv_has ls 1 [(0, .ref (a 0))] := hl
  have in_X2 : ∀ w ∈ wsX20, w ∈ wsX2_takeBit := by decide +kernel
  have kf_22 : (Cond.fieldLink RX2 22 "PictureBeats$Feed" "leftBits" "I").before ([.ref (a 0)] : List Value).toArray s = true := hts _ (by decide +kernel)
  have kf_43 : (Cond.fieldLink RX2 43 "PictureBeats$Feed" "left" "I").before ([.ref (a 0)] : List Value).toArray s = true := hts _ (by decide +kernel)
  have kf_19 : (Cond.fieldLink RX2 19 "PictureBeats$Feed" "count" "I").before ([.ref (a 0)] : List Value).toArray s = true := hts _ (by decide +kernel)
  have kf_9 : (Cond.fieldLink RX2 9 "PictureBeats$Feed" "queue" "[I").before ([.ref (a 0)] : List Value).toArray s = true := hts _ (by decide +kernel)
  have kf_34 : (Cond.fieldLink RX2 34 "PictureBeats$Feed" "first" "I").before ([.ref (a 0)] : List Value).toArray s = true := hts _ (by decide +kernel)
  have kf_40 : (Cond.fieldLink RX2 40 "PictureBeats$Feed" "unders" "I").before ([.ref (a 0)] : List Value).toArray s = true := hts _ (by decide +kernel)
  refine lv_aload_n hx hb dX2_takeBit_0 rfl (lv_at hl 0 rfl) ?_
  refine va_get (D := D) (ci := 2) (v := .int (M 0 5)) (C := RX2) (T := TX2) (N := 11) hx hb hts in_X2 hown hK hP 0 rfl rfl 5 (by decide) kf_22 (fun _ h9 => h9) rfl dX2_takeBit_1 ?_
  refine lv_if_ne (tgt := 68) hx hb dX2_takeBit_4 (by decide) (fun c_1 => ?_) (fun c_1 => ?_)
  · have hv := hv.1 c_1
    refine lv_aload_n hx hb dX2_takeBit_68 rfl (lv_at hl 0 rfl) ?_
    refine lv_dup hx hb dX2_takeBit_69 rfl ?_
    refine va_get (D := D) (ci := 2) (v := .int (M 0 5)) (C := RX2) (T := TX2) (N := 11) hx hb hts in_X2 hown hK hP 0 rfl rfl 5 (by decide) kf_22 (fun _ h9 => h9) rfl dX2_takeBit_70 ?_
    refine lv_iconst (v := 1) hx hb dX2_takeBit_73 (by decide) ?_
    refine lv_isub hx hb dX2_takeBit_74 ?_
    refine va_put (D := D) (ci := 2) (v := .int ((M 0 5) - 1)) (ty := .int) (C := RX2) (T := TX2) (N := 11) hx hb hts in_X2 tyX2 tyX2_ok nmX2 hown hK hP hD hS 0 rfl rfl 5 (by decide) kf_22 (fun _ h9 => h9) rfl (by decide +kernel) rfl rfl (Nat.le_of_ble_eq_true rfl) dX2_takeBit_75 (fun H locs hP hD hS => ?_)
    obtain ⟨M_2, eM_2⟩ : ∃ z : ST, z = x_st M 0 5 ((M 0 5) - 1) := ⟨_, rfl⟩
    have hP : va_P D vwCl ((w_Feed cT a M_2)) H := by rw [eM_2]; exact hP
    have hD : va_D A ((w_Feed cT a M_2)) := by rw [eM_2]; exact hD
    have hv := hv M_2 eM_2
    refine lv_aload_n hx hb dX2_takeBit_78 rfl (lv_at hl 0 rfl) ?_
    refine va_get (D := D) (ci := 2) (v := .int (M_2 0 4)) (C := RX2) (T := TX2) (N := 11) hx hb hts in_X2 hown hK hP 0 rfl rfl 4 (by decide) kf_43 (fun _ h9 => h9) rfl dX2_takeBit_79 ?_
    refine lv_aload_n hx hb dX2_takeBit_82 rfl (lv_at hl 0 rfl) ?_
    refine va_get (D := D) (ci := 2) (v := .int (M_2 0 5)) (C := RX2) (T := TX2) (N := 11) hx hb hts in_X2 hown hK hP 0 rfl rfl 5 (by decide) kf_22 (fun _ h9 => h9) rfl dX2_takeBit_83 ?_
    refine lv_ishr hx hb dX2_takeBit_86 ?_
    refine lv_iconst (v := 1) hx hb dX2_takeBit_87 (by decide) ?_
    refine lv_iand hx hb dX2_takeBit_88 ?_
    exact W.iret (v := (((M_2 0 4) >>> ((M_2 0 5) &&& 31)) &&& 1)) hx hb hr (fun t ht hW => ⟨⟨_, M_2, rfl, hv, by rw [ht]; exact hP, va_K.moved hW.alike hK, hD⟩, hS.F ht⟩) hS.2.2 dX2_takeBit_89
  · have hv := hv.2 c_1
    refine lv_aload_n hx hb dX2_takeBit_7 rfl (lv_at hl 0 rfl) ?_
    refine va_get (D := D) (ci := 2) (v := .int (M 0 2)) (C := RX2) (T := TX2) (N := 11) hx hb hts in_X2 hown hK hP 0 rfl rfl 2 (by decide) kf_19 (fun _ h9 => h9) rfl dX2_takeBit_8 ?_
    refine lv_if_ne (tgt := 26) hx hb dX2_takeBit_11 (by decide) (fun c_3 => ?_) (fun c_3 => ?_)
    · have hv := hv.1 c_3
      refine lv_aload_n hx hb dX2_takeBit_26 rfl (lv_at hl 0 rfl) ?_
      refine lv_aload_n hx hb dX2_takeBit_27 rfl (lv_at hl 0 rfl) ?_
      refine va_get (D := D) (ci := 2) (v := .ref (a 1)) (C := RX2) (T := TX2) (N := 11) hx hb hts in_X2 hown hK hP 0 rfl rfl 0 (by decide) kf_9 (fun _ h9 => h9) rfl dX2_takeBit_28 ?_
      refine lv_aload_n hx hb dX2_takeBit_31 rfl (lv_at hl 0 rfl) ?_
      refine va_get (D := D) (ci := 2) (v := .int (M 0 1)) (C := RX2) (T := TX2) (N := 11) hx hb hts in_X2 hown hK hP 0 rfl rfl 1 (by decide) kf_34 (fun _ h9 => h9) rfl dX2_takeBit_32 ?_
      obtain ⟨k_4, hk_4, ik_4, hv⟩ := hv
      refine x_ald hx hb hK hP 1 0 rfl rfl k_4 ik_4 hk_4 (by decide) dX2_takeBit_35 ?_
      refine va_put (D := D) (ci := 2) (v := .int (M 1 k_4)) (ty := .int) (C := RX2) (T := TX2) (N := 11) hx hb hts in_X2 tyX2 tyX2_ok nmX2 hown hK hP hD hS 0 rfl rfl 4 (by decide) kf_43 (fun _ h9 => h9) rfl (by decide +kernel) rfl rfl (Nat.le_of_ble_eq_true rfl) dX2_takeBit_36 (fun H locs hP hD hS => ?_)
      obtain ⟨M_5, eM_5⟩ : ∃ z : ST, z = x_st M 0 4 (M 1 k_4) := ⟨_, rfl⟩
      have hP : va_P D vwCl ((w_Feed cT a M_5)) H := by rw [eM_5]; exact hP
      have hD : va_D A ((w_Feed cT a M_5)) := by rw [eM_5]; exact hD
      have hv := hv M_5 eM_5
      refine lv_aload_n hx hb dX2_takeBit_39 rfl (lv_at hl 0 rfl) ?_
      refine lv_bipush (v := 8) hx hb dX2_takeBit_40 (by decide) ?_
      refine va_put (D := D) (ci := 2) (v := .int 8) (ty := .int) (C := RX2) (T := TX2) (N := 11) hx hb hts in_X2 tyX2 tyX2_ok nmX2 hown hK hP hD hS 0 rfl rfl 5 (by decide) kf_22 (fun _ h9 => h9) rfl (by decide +kernel) rfl rfl (Nat.le_of_ble_eq_true rfl) dX2_takeBit_42 (fun H locs hP hD hS => ?_)
      obtain ⟨M_6, eM_6⟩ : ∃ z : ST, z = x_st M_5 0 5 8 := ⟨_, rfl⟩
      have hP : va_P D vwCl ((w_Feed cT a M_6)) H := by rw [eM_6]; exact hP
      have hD : va_D A ((w_Feed cT a M_6)) := by rw [eM_6]; exact hD
      have hv := hv M_6 eM_6
      refine lv_aload_n hx hb dX2_takeBit_45 rfl (lv_at hl 0 rfl) ?_
      refine lv_aload_n hx hb dX2_takeBit_46 rfl (lv_at hl 0 rfl) ?_
      refine va_get (D := D) (ci := 2) (v := .int (M_6 0 1)) (C := RX2) (T := TX2) (N := 11) hx hb hts in_X2 hown hK hP 0 rfl rfl 1 (by decide) kf_34 (fun _ h9 => h9) rfl dX2_takeBit_47 ?_
      refine lv_iconst (v := 1) hx hb dX2_takeBit_50 (by decide) ?_
      refine lv_iadd hx hb dX2_takeBit_51 ?_
      refine lv_bipush (v := 8) hx hb dX2_takeBit_52 (by decide) ?_
      refine lv_irem hx hb dX2_takeBit_54 (by decide) ?_
      refine va_put (D := D) (ci := 2) (v := .int (((M_6 0 1) + 1) - ((M_6 0 1) + 1) / 8 * 8)) (ty := .int) (C := RX2) (T := TX2) (N := 11) hx hb hts in_X2 tyX2 tyX2_ok nmX2 hown hK hP hD hS 0 rfl rfl 1 (by decide) kf_34 (fun _ h9 => h9) rfl (by decide +kernel) rfl rfl (Nat.le_of_ble_eq_true rfl) dX2_takeBit_55 (fun H locs hP hD hS => ?_)
      obtain ⟨M_7, eM_7⟩ : ∃ z : ST, z = x_st M_6 0 1 (((M_6 0 1) + 1) - ((M_6 0 1) + 1) / 8 * 8) := ⟨_, rfl⟩
      have hP : va_P D vwCl ((w_Feed cT a M_7)) H := by rw [eM_7]; exact hP
      have hD : va_D A ((w_Feed cT a M_7)) := by rw [eM_7]; exact hD
      have hv := hv M_7 eM_7
      refine lv_aload_n hx hb dX2_takeBit_58 rfl (lv_at hl 0 rfl) ?_
      refine lv_dup hx hb dX2_takeBit_59 rfl ?_
      refine va_get (D := D) (ci := 2) (v := .int (M_7 0 2)) (C := RX2) (T := TX2) (N := 11) hx hb hts in_X2 hown hK hP 0 rfl rfl 2 (by decide) kf_19 (fun _ h9 => h9) rfl dX2_takeBit_60 ?_
      refine lv_iconst (v := 1) hx hb dX2_takeBit_63 (by decide) ?_
      refine lv_isub hx hb dX2_takeBit_64 ?_
      refine va_put (D := D) (ci := 2) (v := .int ((M_7 0 2) - 1)) (ty := .int) (C := RX2) (T := TX2) (N := 11) hx hb hts in_X2 tyX2 tyX2_ok nmX2 hown hK hP hD hS 0 rfl rfl 2 (by decide) kf_19 (fun _ h9 => h9) rfl (by decide +kernel) rfl rfl (Nat.le_of_ble_eq_true rfl) dX2_takeBit_65 (fun H locs hP hD hS => ?_)
      obtain ⟨M_8, eM_8⟩ : ∃ z : ST, z = x_st M_7 0 2 ((M_7 0 2) - 1) := ⟨_, rfl⟩
      have hP : va_P D vwCl ((w_Feed cT a M_8)) H := by rw [eM_8]; exact hP
      have hD : va_D A ((w_Feed cT a M_8)) := by rw [eM_8]; exact hD
      have hv := hv M_8 eM_8
      refine lv_aload_n hx hb dX2_takeBit_68 rfl (lv_at hl 0 rfl) ?_
      refine lv_dup hx hb dX2_takeBit_69 rfl ?_
      refine va_get (D := D) (ci := 2) (v := .int (M_8 0 5)) (C := RX2) (T := TX2) (N := 11) hx hb hts in_X2 hown hK hP 0 rfl rfl 5 (by decide) kf_22 (fun _ h9 => h9) rfl dX2_takeBit_70 ?_
      refine lv_iconst (v := 1) hx hb dX2_takeBit_73 (by decide) ?_
      refine lv_isub hx hb dX2_takeBit_74 ?_
      refine va_put (D := D) (ci := 2) (v := .int ((M_8 0 5) - 1)) (ty := .int) (C := RX2) (T := TX2) (N := 11) hx hb hts in_X2 tyX2 tyX2_ok nmX2 hown hK hP hD hS 0 rfl rfl 5 (by decide) kf_22 (fun _ h9 => h9) rfl (by decide +kernel) rfl rfl (Nat.le_of_ble_eq_true rfl) dX2_takeBit_75 (fun H locs hP hD hS => ?_)
      obtain ⟨M_9, eM_9⟩ : ∃ z : ST, z = x_st M_8 0 5 ((M_8 0 5) - 1) := ⟨_, rfl⟩
      have hP : va_P D vwCl ((w_Feed cT a M_9)) H := by rw [eM_9]; exact hP
      have hD : va_D A ((w_Feed cT a M_9)) := by rw [eM_9]; exact hD
      have hv := hv M_9 eM_9
      refine lv_aload_n hx hb dX2_takeBit_78 rfl (lv_at hl 0 rfl) ?_
      refine va_get (D := D) (ci := 2) (v := .int (M_9 0 4)) (C := RX2) (T := TX2) (N := 11) hx hb hts in_X2 hown hK hP 0 rfl rfl 4 (by decide) kf_43 (fun _ h9 => h9) rfl dX2_takeBit_79 ?_
      refine lv_aload_n hx hb dX2_takeBit_82 rfl (lv_at hl 0 rfl) ?_
      refine va_get (D := D) (ci := 2) (v := .int (M_9 0 5)) (C := RX2) (T := TX2) (N := 11) hx hb hts in_X2 hown hK hP 0 rfl rfl 5 (by decide) kf_22 (fun _ h9 => h9) rfl dX2_takeBit_83 ?_
      refine lv_ishr hx hb dX2_takeBit_86 ?_
      refine lv_iconst (v := 1) hx hb dX2_takeBit_87 (by decide) ?_
      refine lv_iand hx hb dX2_takeBit_88 ?_
      exact W.iret (v := (((M_9 0 4) >>> ((M_9 0 5) &&& 31)) &&& 1)) hx hb hr (fun t ht hW => ⟨⟨_, M_9, rfl, hv, by rw [ht]; exact hP, va_K.moved hW.alike hK, hD⟩, hS.F ht⟩) hS.2.2 dX2_takeBit_89
    · have hv := hv.2 c_3
      refine lv_aload_n hx hb dX2_takeBit_14 rfl (lv_at hl 0 rfl) ?_
      refine lv_dup hx hb dX2_takeBit_15 rfl ?_
      refine va_get (D := D) (ci := 2) (v := .int (M 0 9)) (C := RX2) (T := TX2) (N := 11) hx hb hts in_X2 hown hK hP 0 rfl rfl 9 (by decide) kf_40 (fun _ h9 => h9) rfl dX2_takeBit_16 ?_
      refine lv_iconst (v := 1) hx hb dX2_takeBit_19 (by decide) ?_
      refine lv_iadd hx hb dX2_takeBit_20 ?_
      refine va_put (D := D) (ci := 2) (v := .int ((M 0 9) + 1)) (ty := .int) (C := RX2) (T := TX2) (N := 11) hx hb hts in_X2 tyX2 tyX2_ok nmX2 hown hK hP hD hS 0 rfl rfl 9 (by decide) kf_40 (fun _ h9 => h9) rfl (by decide +kernel) rfl rfl (Nat.le_of_ble_eq_true rfl) dX2_takeBit_21 (fun H locs hP hD hS => ?_)
      obtain ⟨M_10, eM_10⟩ : ∃ z : ST, z = x_st M 0 9 ((M 0 9) + 1) := ⟨_, rfl⟩
      have hP : va_P D vwCl ((w_Feed cT a M_10)) H := by rw [eM_10]; exact hP
      have hD : va_D A ((w_Feed cT a M_10)) := by rw [eM_10]; exact hD
      have hv := hv M_10 eM_10
      refine lv_iconst (v := (-1)) hx hb dX2_takeBit_24 (by decide) ?_
      exact W.iret (v := (-1)) hx hb hr (fun t ht hW => ⟨⟨_, M_10, rfl, hv, by rw [ht]; exact hP, va_K.moved hW.alike hK, hD⟩, hS.F ht⟩) hS.2.2 dX2_takeBit_25
def v_X2_copyFrom (M : ST) (N : ST) (post : ST → Prop) : Prop := ∀ M_1 : ST, M_1 = x_cp M 1 8 (N 1) → ∀ M_2 : ST, M_2 = x_st M_1 0 1 (N 0 1) → ∀ M_3 : ST, M_3 = x_st M_2 0 2 (N 0 2) → ∀ M_4 : ST, M_4 = x_st M_3 0 3 (N 0 3) → ∀ M_5 : ST, M_5 = x_st M_4 0 4 (N 0 4) → ∀ M_6 : ST, M_6 = x_st M_5 0 5 (N 0 5) → ∀ M_7 : ST, M_7 = x_st M_6 0 6 (N 0 6) → ∀ M_8 : ST, M_8 = x_st M_7 0 7 (N 0 7) → ∀ M_9 : ST, M_9 = x_st M_8 0 8 (N 0 8) → ∀ M_10 : ST, M_10 = x_st M_9 0 9 (N 0 9) → ∀ M_11 : ST, M_11 = x_st M_10 0 10 (N 0 10) → post M_11
set_option maxHeartbeats 4000000 in
set_option maxRecDepth 100000 in
theorem c_X2_copyFrom (l : Launch) (D : va_G) (cT : Nat → ClassId) (a : Nat → Nat) (M : ST) (b : Nat → Nat) (N : ST) (sz : Nat) (post : ST → Prop) (hv : v_X2_copyFrom M N post) : Met l yX2_copyFrom wsX2_copyFrom ({ frames := 1, cells := 0, slots := 0, locals := 40 }) (va_Pc [.ref (a 0), .ref (b 0)] (x_U D cT ((w_Feed cT a M) ++ (w_Feed cT b N)) sz)) (va_Qv post (fun u t => x_B D cT ((w_Feed cT a u) ++ (w_Feed cT b N)) (va_A ((w_Feed cT a M) ++ (w_Feed cT b N)) sz) t) (va_A ((w_Feed cT a M) ++ (w_Feed cT b N)) sz)) 0 0 (va_A ((w_Feed cT a M) ++ (w_Feed cT b N)) sz) := by
  refine Met.ofW (cc := cX2_copyFrom) (maxL := 2) (ret := none) (by decide) rfl ?_
  intro p e s m args below meth c s₁ B hml hpre
  obtain ⟨rfl, hsz, hP, hK, hD0, hN⟩ := hpre
  have hx := B.exec
  have hb := B.bytes
  have hr := B.returns
  have hts := atoms_spec (ws := wsX2_copyFrom) B.pre
  have hown : s.vm.findClass RX2 = some m.cls := findClass_of_methodNamed B.named
  have hlocks := B.notSynchronized
  subst hsz
  have hD := hD0.self (sz := s.heap.size)
  generalize hAe : va_A ((w_Feed cT a M) ++ (w_Feed cT b N)) s.heap.size = A at hD hN ⊢
  have hA : ∀ q : Nat, s.heap.size ≤ q → A q := fun q h => by rw [← hAe]; exact Or.inr h
  have hS : va_S A s.heap s.heap [] := va_S.rf
  have hl := lv_entry ([.ref (a 0), .ref (b 0)]) (n := 2) (Nat.le_of_ble_eq_true rfl)
  rw [lg_entry_eq]
  generalize (lg_sl ([.ref (a 0), .ref (b 0)]) ++ List.replicate (2 - (lg_sl ([.ref (a 0), .ref (b 0)])).length) Slot.unset).toArray = ls at hl ⊢
  have hl : lv_has ls 2 [(0, .ref (a 0)), (1, .ref (b 0))] := hl
  have in_X2 : ∀ w ∈ wsX20, w ∈ wsX2_copyFrom := by decide +kernel
  have kf_9 : (Cond.fieldLink RX2 9 "PictureBeats$Feed" "queue" "[I").before ([.ref (a 0), .ref (b 0)] : List Value).toArray s = true := hts _ (by decide +kernel)
  have k_cpl : (Cond.methodLink RX2 46 arraycopyName).before ([.ref (a 0), .ref (b 0)] : List Value).toArray s = true := hts _ (by decide +kernel)
  have k_cpn : (Cond.native arraycopyName).before ([.ref (a 0), .ref (b 0)] : List Value).toArray s = true := hts _ (by decide +kernel)
  have k_cps : (Cond.static arraycopyName).before ([.ref (a 0), .ref (b 0)] : List Value).toArray s = true := hts _ (by decide +kernel)
  have k_cpi : (Cond.initialized "java/lang/System").before ([.ref (a 0), .ref (b 0)] : List Value).toArray s = true := hts _ (by decide +kernel)
  have kf_34 : (Cond.fieldLink RX2 34 "PictureBeats$Feed" "first" "I").before ([.ref (a 0), .ref (b 0)] : List Value).toArray s = true := hts _ (by decide +kernel)
  have kf_19 : (Cond.fieldLink RX2 19 "PictureBeats$Feed" "count" "I").before ([.ref (a 0), .ref (b 0)] : List Value).toArray s = true := hts _ (by decide +kernel)
  have kf_15 : (Cond.fieldLink RX2 15 "PictureBeats$Feed" "depth" "I").before ([.ref (a 0), .ref (b 0)] : List Value).toArray s = true := hts _ (by decide +kernel)
  have kf_43 : (Cond.fieldLink RX2 43 "PictureBeats$Feed" "left" "I").before ([.ref (a 0), .ref (b 0)] : List Value).toArray s = true := hts _ (by decide +kernel)
  have kf_22 : (Cond.fieldLink RX2 22 "PictureBeats$Feed" "leftBits" "I").before ([.ref (a 0), .ref (b 0)] : List Value).toArray s = true := hts _ (by decide +kernel)
  have kf_25 : (Cond.fieldLink RX2 25 "PictureBeats$Feed" "row" "I").before ([.ref (a 0), .ref (b 0)] : List Value).toArray s = true := hts _ (by decide +kernel)
  have kf_28 : (Cond.fieldLink RX2 28 "PictureBeats$Feed" "nextByte" "I").before ([.ref (a 0), .ref (b 0)] : List Value).toArray s = true := hts _ (by decide +kernel)
  have kf_31 : (Cond.fieldLink RX2 31 "PictureBeats$Feed" "bytes" "I").before ([.ref (a 0), .ref (b 0)] : List Value).toArray s = true := hts _ (by decide +kernel)
  have kf_40 : (Cond.fieldLink RX2 40 "PictureBeats$Feed" "unders" "I").before ([.ref (a 0), .ref (b 0)] : List Value).toArray s = true := hts _ (by decide +kernel)
  have kf_37 : (Cond.fieldLink RX2 37 "PictureBeats$Feed" "fetched" "I").before ([.ref (a 0), .ref (b 0)] : List Value).toArray s = true := hts _ (by decide +kernel)
  refine lv_aload_n hx hb dX2_copyFrom_0 rfl (lv_at hl 1 rfl) ?_
  refine va_get (D := D) (ci := 2) (v := .ref (b 1)) (C := RX2) (T := TX2) (N := 11) hx hb hts in_X2 hown hK hP 2 rfl rfl 0 (by decide) kf_9 (fun _ h9 => h9) rfl dX2_copyFrom_1 ?_
  refine lv_iconst (v := 0) hx hb dX2_copyFrom_4 (by decide) ?_
  refine lv_aload_n hx hb dX2_copyFrom_5 rfl (lv_at hl 0 rfl) ?_
  refine va_get (D := D) (ci := 2) (v := .ref (a 1)) (C := RX2) (T := TX2) (N := 11) hx hb hts in_X2 hown hK hP 0 rfl rfl 0 (by decide) kf_9 (fun _ h9 => h9) rfl dX2_copyFrom_6 ?_
  refine lv_iconst (v := 0) hx hb dX2_copyFrom_9 (by decide) ?_
  refine lv_bipush (v := 8) hx hb dX2_copyFrom_10 (by decide) ?_
  refine x_cpy (N := 8) (f := N 1) hx hb (hml.trans hl.1.symm) hown k_cpl k_cpn k_cps k_cpi hK hP hD hS 3 1 rfl rfl rfl (by decide) (by decide) (by decide) (Nat.le_of_ble_eq_true rfl) (Nat.le_of_ble_eq_true rfl) dX2_copyFrom_12 (fun H locs hP hD hS => ?_)
  obtain ⟨M_1, eM_1⟩ : ∃ z : ST, z = x_cp M 1 8 (N 1) := ⟨_, rfl⟩
  have hP : va_P D vwCl ((w_Feed cT a M_1) ++ (w_Feed cT b N)) H := by rw [eM_1]; exact hP
  have hD : va_D A ((w_Feed cT a M_1) ++ (w_Feed cT b N)) := by rw [eM_1]; exact hD
  have hv := hv M_1 eM_1
  refine lv_aload_n hx hb dX2_copyFrom_15 rfl (lv_at hl 0 rfl) ?_
  refine lv_aload_n hx hb dX2_copyFrom_16 rfl (lv_at hl 1 rfl) ?_
  refine va_get (D := D) (ci := 2) (v := .int (N 0 1)) (C := RX2) (T := TX2) (N := 11) hx hb hts in_X2 hown hK hP 2 rfl rfl 1 (by decide) kf_34 (fun _ h9 => h9) rfl dX2_copyFrom_17 ?_
  refine va_put (D := D) (ci := 2) (v := .int (N 0 1)) (ty := .int) (C := RX2) (T := TX2) (N := 11) hx hb hts in_X2 tyX2 tyX2_ok nmX2 hown hK hP hD hS 0 rfl rfl 1 (by decide) kf_34 (fun _ h9 => h9) rfl (by decide +kernel) rfl rfl (Nat.le_of_ble_eq_true rfl) dX2_copyFrom_20 (fun H locs hP hD hS => ?_)
  obtain ⟨M_2, eM_2⟩ : ∃ z : ST, z = x_st M_1 0 1 (N 0 1) := ⟨_, rfl⟩
  have hP : va_P D vwCl ((w_Feed cT a M_2) ++ (w_Feed cT b N)) H := by rw [eM_2]; exact hP
  have hD : va_D A ((w_Feed cT a M_2) ++ (w_Feed cT b N)) := by rw [eM_2]; exact hD
  have hv := hv M_2 eM_2
  refine lv_aload_n hx hb dX2_copyFrom_23 rfl (lv_at hl 0 rfl) ?_
  refine lv_aload_n hx hb dX2_copyFrom_24 rfl (lv_at hl 1 rfl) ?_
  refine va_get (D := D) (ci := 2) (v := .int (N 0 2)) (C := RX2) (T := TX2) (N := 11) hx hb hts in_X2 hown hK hP 2 rfl rfl 2 (by decide) kf_19 (fun _ h9 => h9) rfl dX2_copyFrom_25 ?_
  refine va_put (D := D) (ci := 2) (v := .int (N 0 2)) (ty := .int) (C := RX2) (T := TX2) (N := 11) hx hb hts in_X2 tyX2 tyX2_ok nmX2 hown hK hP hD hS 0 rfl rfl 2 (by decide) kf_19 (fun _ h9 => h9) rfl (by decide +kernel) rfl rfl (Nat.le_of_ble_eq_true rfl) dX2_copyFrom_28 (fun H locs hP hD hS => ?_)
  obtain ⟨M_3, eM_3⟩ : ∃ z : ST, z = x_st M_2 0 2 (N 0 2) := ⟨_, rfl⟩
  have hP : va_P D vwCl ((w_Feed cT a M_3) ++ (w_Feed cT b N)) H := by rw [eM_3]; exact hP
  have hD : va_D A ((w_Feed cT a M_3) ++ (w_Feed cT b N)) := by rw [eM_3]; exact hD
  have hv := hv M_3 eM_3
  refine lv_aload_n hx hb dX2_copyFrom_31 rfl (lv_at hl 0 rfl) ?_
  refine lv_aload_n hx hb dX2_copyFrom_32 rfl (lv_at hl 1 rfl) ?_
  refine va_get (D := D) (ci := 2) (v := .int (N 0 3)) (C := RX2) (T := TX2) (N := 11) hx hb hts in_X2 hown hK hP 2 rfl rfl 3 (by decide) kf_15 (fun _ h9 => h9) rfl dX2_copyFrom_33 ?_
  refine va_put (D := D) (ci := 2) (v := .int (N 0 3)) (ty := .int) (C := RX2) (T := TX2) (N := 11) hx hb hts in_X2 tyX2 tyX2_ok nmX2 hown hK hP hD hS 0 rfl rfl 3 (by decide) kf_15 (fun _ h9 => h9) rfl (by decide +kernel) rfl rfl (Nat.le_of_ble_eq_true rfl) dX2_copyFrom_36 (fun H locs hP hD hS => ?_)
  obtain ⟨M_4, eM_4⟩ : ∃ z : ST, z = x_st M_3 0 3 (N 0 3) := ⟨_, rfl⟩
  have hP : va_P D vwCl ((w_Feed cT a M_4) ++ (w_Feed cT b N)) H := by rw [eM_4]; exact hP
  have hD : va_D A ((w_Feed cT a M_4) ++ (w_Feed cT b N)) := by rw [eM_4]; exact hD
  have hv := hv M_4 eM_4
  refine lv_aload_n hx hb dX2_copyFrom_39 rfl (lv_at hl 0 rfl) ?_
  refine lv_aload_n hx hb dX2_copyFrom_40 rfl (lv_at hl 1 rfl) ?_
  refine va_get (D := D) (ci := 2) (v := .int (N 0 4)) (C := RX2) (T := TX2) (N := 11) hx hb hts in_X2 hown hK hP 2 rfl rfl 4 (by decide) kf_43 (fun _ h9 => h9) rfl dX2_copyFrom_41 ?_
  refine va_put (D := D) (ci := 2) (v := .int (N 0 4)) (ty := .int) (C := RX2) (T := TX2) (N := 11) hx hb hts in_X2 tyX2 tyX2_ok nmX2 hown hK hP hD hS 0 rfl rfl 4 (by decide) kf_43 (fun _ h9 => h9) rfl (by decide +kernel) rfl rfl (Nat.le_of_ble_eq_true rfl) dX2_copyFrom_44 (fun H locs hP hD hS => ?_)
  obtain ⟨M_5, eM_5⟩ : ∃ z : ST, z = x_st M_4 0 4 (N 0 4) := ⟨_, rfl⟩
  have hP : va_P D vwCl ((w_Feed cT a M_5) ++ (w_Feed cT b N)) H := by rw [eM_5]; exact hP
  have hD : va_D A ((w_Feed cT a M_5) ++ (w_Feed cT b N)) := by rw [eM_5]; exact hD
  have hv := hv M_5 eM_5
  refine lv_aload_n hx hb dX2_copyFrom_47 rfl (lv_at hl 0 rfl) ?_
  refine lv_aload_n hx hb dX2_copyFrom_48 rfl (lv_at hl 1 rfl) ?_
  refine va_get (D := D) (ci := 2) (v := .int (N 0 5)) (C := RX2) (T := TX2) (N := 11) hx hb hts in_X2 hown hK hP 2 rfl rfl 5 (by decide) kf_22 (fun _ h9 => h9) rfl dX2_copyFrom_49 ?_
  refine va_put (D := D) (ci := 2) (v := .int (N 0 5)) (ty := .int) (C := RX2) (T := TX2) (N := 11) hx hb hts in_X2 tyX2 tyX2_ok nmX2 hown hK hP hD hS 0 rfl rfl 5 (by decide) kf_22 (fun _ h9 => h9) rfl (by decide +kernel) rfl rfl (Nat.le_of_ble_eq_true rfl) dX2_copyFrom_52 (fun H locs hP hD hS => ?_)
  obtain ⟨M_6, eM_6⟩ : ∃ z : ST, z = x_st M_5 0 5 (N 0 5) := ⟨_, rfl⟩
  have hP : va_P D vwCl ((w_Feed cT a M_6) ++ (w_Feed cT b N)) H := by rw [eM_6]; exact hP
  have hD : va_D A ((w_Feed cT a M_6) ++ (w_Feed cT b N)) := by rw [eM_6]; exact hD
  have hv := hv M_6 eM_6
  refine lv_aload_n hx hb dX2_copyFrom_55 rfl (lv_at hl 0 rfl) ?_
  refine lv_aload_n hx hb dX2_copyFrom_56 rfl (lv_at hl 1 rfl) ?_
  refine va_get (D := D) (ci := 2) (v := .int (N 0 6)) (C := RX2) (T := TX2) (N := 11) hx hb hts in_X2 hown hK hP 2 rfl rfl 6 (by decide) kf_25 (fun _ h9 => h9) rfl dX2_copyFrom_57 ?_
  refine va_put (D := D) (ci := 2) (v := .int (N 0 6)) (ty := .int) (C := RX2) (T := TX2) (N := 11) hx hb hts in_X2 tyX2 tyX2_ok nmX2 hown hK hP hD hS 0 rfl rfl 6 (by decide) kf_25 (fun _ h9 => h9) rfl (by decide +kernel) rfl rfl (Nat.le_of_ble_eq_true rfl) dX2_copyFrom_60 (fun H locs hP hD hS => ?_)
  obtain ⟨M_7, eM_7⟩ : ∃ z : ST, z = x_st M_6 0 6 (N 0 6) := ⟨_, rfl⟩
  have hP : va_P D vwCl ((w_Feed cT a M_7) ++ (w_Feed cT b N)) H := by rw [eM_7]; exact hP
  have hD : va_D A ((w_Feed cT a M_7) ++ (w_Feed cT b N)) := by rw [eM_7]; exact hD
  have hv := hv M_7 eM_7
  refine lv_aload_n hx hb dX2_copyFrom_63 rfl (lv_at hl 0 rfl) ?_
  refine lv_aload_n hx hb dX2_copyFrom_64 rfl (lv_at hl 1 rfl) ?_
  refine va_get (D := D) (ci := 2) (v := .int (N 0 7)) (C := RX2) (T := TX2) (N := 11) hx hb hts in_X2 hown hK hP 2 rfl rfl 7 (by decide) kf_28 (fun _ h9 => h9) rfl dX2_copyFrom_65 ?_
  refine va_put (D := D) (ci := 2) (v := .int (N 0 7)) (ty := .int) (C := RX2) (T := TX2) (N := 11) hx hb hts in_X2 tyX2 tyX2_ok nmX2 hown hK hP hD hS 0 rfl rfl 7 (by decide) kf_28 (fun _ h9 => h9) rfl (by decide +kernel) rfl rfl (Nat.le_of_ble_eq_true rfl) dX2_copyFrom_68 (fun H locs hP hD hS => ?_)
  obtain ⟨M_8, eM_8⟩ : ∃ z : ST, z = x_st M_7 0 7 (N 0 7) := ⟨_, rfl⟩
  have hP : va_P D vwCl ((w_Feed cT a M_8) ++ (w_Feed cT b N)) H := by rw [eM_8]; exact hP
  have hD : va_D A ((w_Feed cT a M_8) ++ (w_Feed cT b N)) := by rw [eM_8]; exact hD
  have hv := hv M_8 eM_8
  refine lv_aload_n hx hb dX2_copyFrom_71 rfl (lv_at hl 0 rfl) ?_
  refine lv_aload_n hx hb dX2_copyFrom_72 rfl (lv_at hl 1 rfl) ?_
  refine va_get (D := D) (ci := 2) (v := .int (N 0 8)) (C := RX2) (T := TX2) (N := 11) hx hb hts in_X2 hown hK hP 2 rfl rfl 8 (by decide) kf_31 (fun _ h9 => h9) rfl dX2_copyFrom_73 ?_
  refine va_put (D := D) (ci := 2) (v := .int (N 0 8)) (ty := .int) (C := RX2) (T := TX2) (N := 11) hx hb hts in_X2 tyX2 tyX2_ok nmX2 hown hK hP hD hS 0 rfl rfl 8 (by decide) kf_31 (fun _ h9 => h9) rfl (by decide +kernel) rfl rfl (Nat.le_of_ble_eq_true rfl) dX2_copyFrom_76 (fun H locs hP hD hS => ?_)
  obtain ⟨M_9, eM_9⟩ : ∃ z : ST, z = x_st M_8 0 8 (N 0 8) := ⟨_, rfl⟩
  have hP : va_P D vwCl ((w_Feed cT a M_9) ++ (w_Feed cT b N)) H := by rw [eM_9]; exact hP
  have hD : va_D A ((w_Feed cT a M_9) ++ (w_Feed cT b N)) := by rw [eM_9]; exact hD
  have hv := hv M_9 eM_9
  refine lv_aload_n hx hb dX2_copyFrom_79 rfl (lv_at hl 0 rfl) ?_
  refine lv_aload_n hx hb dX2_copyFrom_80 rfl (lv_at hl 1 rfl) ?_
  refine va_get (D := D) (ci := 2) (v := .int (N 0 9)) (C := RX2) (T := TX2) (N := 11) hx hb hts in_X2 hown hK hP 2 rfl rfl 9 (by decide) kf_40 (fun _ h9 => h9) rfl dX2_copyFrom_81 ?_
  refine va_put (D := D) (ci := 2) (v := .int (N 0 9)) (ty := .int) (C := RX2) (T := TX2) (N := 11) hx hb hts in_X2 tyX2 tyX2_ok nmX2 hown hK hP hD hS 0 rfl rfl 9 (by decide) kf_40 (fun _ h9 => h9) rfl (by decide +kernel) rfl rfl (Nat.le_of_ble_eq_true rfl) dX2_copyFrom_84 (fun H locs hP hD hS => ?_)
  obtain ⟨M_10, eM_10⟩ : ∃ z : ST, z = x_st M_9 0 9 (N 0 9) := ⟨_, rfl⟩
  have hP : va_P D vwCl ((w_Feed cT a M_10) ++ (w_Feed cT b N)) H := by rw [eM_10]; exact hP
  have hD : va_D A ((w_Feed cT a M_10) ++ (w_Feed cT b N)) := by rw [eM_10]; exact hD
  have hv := hv M_10 eM_10
  refine lv_aload_n hx hb dX2_copyFrom_87 rfl (lv_at hl 0 rfl) ?_
  refine lv_aload_n hx hb dX2_copyFrom_88 rfl (lv_at hl 1 rfl) ?_
  refine va_get (D := D) (ci := 2) (v := .int (N 0 10)) (C := RX2) (T := TX2) (N := 11) hx hb hts in_X2 hown hK hP 2 rfl rfl 10 (by decide) kf_37 (fun _ h9 => h9) rfl dX2_copyFrom_89 ?_
  refine va_put (D := D) (ci := 2) (v := .int (N 0 10)) (ty := .int) (C := RX2) (T := TX2) (N := 11) hx hb hts in_X2 tyX2 tyX2_ok nmX2 hown hK hP hD hS 0 rfl rfl 10 (by decide) kf_37 (fun _ h9 => h9) rfl (by decide +kernel) rfl rfl (Nat.le_of_ble_eq_true rfl) dX2_copyFrom_92 (fun H locs hP hD hS => ?_)
  obtain ⟨M_11, eM_11⟩ : ∃ z : ST, z = x_st M_10 0 10 (N 0 10) := ⟨_, rfl⟩
  have hP : va_P D vwCl ((w_Feed cT a M_11) ++ (w_Feed cT b N)) H := by rw [eM_11]; exact hP
  have hD : va_D A ((w_Feed cT a M_11) ++ (w_Feed cT b N)) := by rw [eM_11]; exact hD
  have hv := hv M_11 eM_11
  exact W.vret hx hb hr (fun t ht hW => ⟨⟨M_11, rfl, hv, by rw [ht]; exact hP, va_K.moved hW.alike hK, hD⟩, hS.F ht⟩) hS.2.2 dX2_copyFrom_95
def v_X5_change (M : ST) (p1 : Int32) (p2 : Int32) (post : Int32 → ST → Prop) : Prop := v_X5_takes p1 p2 (fun r_1 => (((¬ (r_1 = 0)) → ∃ k_3 : Nat, k_3 < 5 ∧ p1 = nI k_3 ∧ ∀ M_4 : ST, M_4 = x_st M 1 k_3 p2 → post 1 M_4) ∧ ((r_1 = 0) → post 0 M)))
set_option maxHeartbeats 4000000 in
set_option maxRecDepth 100000 in
theorem c_X5_change (l : Launch) (D : va_G) (cT : Nat → ClassId) (a : Nat → Nat) (M : ST) (p1 : Int32) (p2 : Int32) (sz : Nat) (post : Int32 → ST → Prop) (hv : v_X5_change M p1 p2 post) : Met l yX5_change wsX5_change ({ frames := 2, cells := 0, slots := 0, locals := 43 }) (va_Pc [.ref (a 0), .int p1, .int p2] (x_U D cT ((w_Registers cT a M)) sz)) (va_Qi post (fun u t => x_B D cT ((w_Registers cT a u)) (va_A ((w_Registers cT a M)) sz) t) (va_A ((w_Registers cT a M)) sz)) 0 0 (va_A ((w_Registers cT a M)) sz) := by
  refine Met.ofW (cc := cX5_change) (maxL := 3) (ret := (some .boolean)) (by decide) rfl ?_
  intro p e s m args below meth c s₁ B hml hpre
  obtain ⟨rfl, hsz, hP, hK, hD0, hN⟩ := hpre
  have hx := B.exec
  have hb := B.bytes
  have hr := B.returns
  have hts := atoms_spec (ws := wsX5_change) B.pre
  have hown : s.vm.findClass RX5 = some m.cls := findClass_of_methodNamed B.named
  have hlocks := B.notSynchronized
  subst hsz
  have hD := hD0.self (sz := s.heap.size)
  generalize hAe : va_A ((w_Registers cT a M)) s.heap.size = A at hD hN ⊢
  have hA : ∀ q : Nat, s.heap.size ≤ q → A q := fun q h => by rw [← hAe]; exact Or.inr h
  have hS : va_S A s.heap s.heap [] := va_S.rf
  have hl := lv_entry ([.ref (a 0), .int p1, .int p2]) (n := 3) (Nat.le_of_ble_eq_true rfl)
  rw [lg_entry_eq]
  generalize (lg_sl ([.ref (a 0), .int p1, .int p2]) ++ List.replicate (3 - (lg_sl ([.ref (a 0), .int p1, .int p2])).length) Slot.unset).toArray = ls at hl ⊢
  have hl : lv_has ls 3 [(0, .ref (a 0)), (1, .int p1), (2, .int p2)] := hl
  have in_X5 : ∀ w ∈ wsX50, w ∈ wsX5_change := by decide +kernel
  have w_22 : CallB (headSpec wsX5_change ({ frames := 2, cells := 0, slots := 0, locals := 43 })).room s ([.ref (a 0), .int p1, .int p2] : List Value).toArray RX5 22 yX5_takes cX5_takes 2 (some .boolean) wsX5_takes ({ frames := 1, cells := 0, slots := 0, locals := 22 } : Room) 0 0 2 ∧ (Cond.static yX5_takes).before ([.ref (a 0), .int p1, .int p2] : List Value).toArray s = true := va_cwS 2 hts gX5_change_X5_takes rfl rfl rfl (by decide +kernel) ⟨Nat.le_of_ble_eq_true rfl, Nat.le_of_ble_eq_true rfl⟩
  have kf_9 : (Cond.fieldLink RX5 9 "PictureBeats$Registers" "values" "[I").before ([.ref (a 0), .int p1, .int p2] : List Value).toArray s = true := hts _ (by decide +kernel)
  refine lv_iload_n hx hb dX5_change_0 rfl (lv_at hl 1 rfl) ?_
  refine lv_iload_n hx hb dX5_change_1 rfl (lv_at hl 2 rfl) ?_
  refine x_rS (As := [.int p1, .int p2]) (rest := []) ⟨hx, hb, hml, hown, hts⟩ (c_X5_takes l D cT p1 p2 _ hv) w_22 hK hS hN rfl hl.1 rfl (Nat.le_of_ble_eq_true rfl) dX5_change_2 ⟨Nat.le_of_ble_eq_true rfl, Nat.le_of_ble_eq_true rfl⟩ (fun r_1 hv => ?_)
  refine lv_if_ne (tgt := 10) hx hb dX5_change_5 (by decide) (fun c_2 => ?_) (fun c_2 => ?_)
  · have hv := hv.1 c_2
    refine lv_aload_n hx hb dX5_change_10 rfl (lv_at hl 0 rfl) ?_
    refine va_get (D := D) (ci := 5) (v := .ref (a 1)) (C := RX5) (T := TX5) (N := 1) hx hb hts in_X5 hown hK hP 0 rfl rfl 0 (by decide) kf_9 (fun _ h9 => h9) rfl dX5_change_11 ?_
    refine lv_iload_n hx hb dX5_change_14 rfl (lv_at hl 1 rfl) ?_
    refine lv_iload_n hx hb dX5_change_15 rfl (lv_at hl 2 rfl) ?_
    obtain ⟨k_3, hk_3, ik_3, hv⟩ := hv
    refine x_ast hx hb hK hP hD hS 1 0 rfl rfl k_3 ik_3 hk_3 (by decide) dX5_change_16 (fun H locs hP hD hS => ?_)
    obtain ⟨M_4, eM_4⟩ : ∃ z : ST, z = x_st M 1 k_3 p2 := ⟨_, rfl⟩
    have hP : va_P D vwCl ((w_Registers cT a M_4)) H := by rw [eM_4]; exact hP
    have hD : va_D A ((w_Registers cT a M_4)) := by rw [eM_4]; exact hD
    have hv := hv M_4 eM_4
    refine lv_iconst (v := 1) hx hb dX5_change_17 (by decide) ?_
    exact W.zret (v := 1) hx hb hr rfl (fun t ht hW => ⟨⟨_, M_4, rfl, hv, by rw [ht]; exact hP, va_K.moved hW.alike hK, hD⟩, hS.F ht⟩) hS.2.2 dX5_change_18
  · have hv := hv.2 c_2
    refine lv_iconst (v := 0) hx hb dX5_change_8 (by decide) ?_
    exact W.zret (v := 0) hx hb hr rfl (fun t ht hW => ⟨⟨_, M, rfl, hv, by rw [ht]; exact hP, va_K.moved hW.alike hK, hD⟩, hS.F ht⟩) hS.2.2 dX5_change_9
def v_X5_read (M : ST) (p1 : Int32) (post : Int32 → Prop) : Prop := v_X8_within p1 0 (5 - 1) (fun r_1 => (((r_1 = 0) → post (-1)) ∧ ((¬ (r_1 = 0)) → ∃ k_3 : Nat, k_3 < 5 ∧ p1 = nI k_3 ∧ post (M 1 k_3))))
set_option maxHeartbeats 4000000 in
set_option maxRecDepth 100000 in
theorem c_X5_read (l : Launch) (D : va_G) (cT : Nat → ClassId) (a : Nat → Nat) (M : ST) (p1 : Int32) (post : Int32 → Prop) (hv : v_X5_read M p1 post) : Met l yX5_read wsX5_read ({ frames := 1, cells := 0, slots := 0, locals := 22 }) (va_Pc [.ref (a 0), .int p1] (x_R D cT ((w_Registers cT a M)))) (vp_Si post) 0 0 (fun _ => False) := by
  refine Met.ofW (cc := cX5_read) (maxL := 2) (ret := (some .int)) (by decide) rfl ?_
  intro p e s m args below meth c s₁ B hml hpre
  obtain ⟨rfl, hP, hK, hN⟩ := hpre
  have hx := B.exec
  have hb := B.bytes
  have hr := B.returns
  have hts := atoms_spec (ws := wsX5_read) B.pre
  have hown : s.vm.findClass RX5 = some m.cls := findClass_of_methodNamed B.named
  have hlocks := B.notSynchronized
  have hS : va_S (fun _ : Nat => False) s.heap s.heap [] := va_S.rf
  have hl := lv_entry ([.ref (a 0), .int p1]) (n := 2) (Nat.le_of_ble_eq_true rfl)
  rw [lg_entry_eq]
  generalize (lg_sl ([.ref (a 0), .int p1]) ++ List.replicate (2 - (lg_sl ([.ref (a 0), .int p1])).length) Slot.unset).toArray = ls at hl ⊢
  have hl : lv_has ls 2 [(0, .ref (a 0)), (1, .int p1)] := hl
  have in_X5 : ∀ w ∈ wsX50, w ∈ wsX5_read := by decide +kernel
  have kf_9 : (Cond.fieldLink RX5 9 "PictureBeats$Registers" "values" "[I").before ([.ref (a 0), .int p1] : List Value).toArray s = true := hts _ (by decide +kernel)
  have w_18 : va_CN (headSpec wsX5_read ({ frames := 1, cells := 0, slots := 0, locals := 22 })).room s ([.ref (a 0), .int p1] : List Value).toArray RX5 18 yX8_within RX8 cX8_within 3 (some .boolean) wsX8_within ({ frames := 0, cells := 0, slots := 0, locals := 0 } : Room) 0 0 3 ∧ (Cond.static yX8_within).before ([.ref (a 0), .int p1] : List Value).toArray s = true ∧ True := ⟨va_cnB 3 hts gX5_read_X8_within_n18 rfl rfl rfl (hN.1.2.2.2.2.2.2.2.1) (hts (.initialized RX8) (by decide +kernel)) (by decide +kernel) ⟨Nat.le_of_ble_eq_true rfl, Nat.le_of_ble_eq_true rfl⟩, hts _ (by decide +kernel), trivial⟩
  refine lv_iload_n hx hb dX5_read_0 rfl (lv_at hl 1 rfl) ?_
  refine lv_iconst (v := 0) hx hb dX5_read_1 (by decide) ?_
  refine lv_aload_n hx hb dX5_read_2 rfl (lv_at hl 0 rfl) ?_
  refine va_get (D := D) (ci := 5) (v := .ref (a 1)) (C := RX5) (T := TX5) (N := 1) hx hb hts in_X5 hown hK hP 0 rfl rfl 0 (by decide) kf_9 (fun _ h9 => h9) rfl dX5_read_3 ?_
  refine va_alen hx hb hK hP 1 0 rfl rfl (v := 5) rfl dX5_read_6 ?_
  refine lv_iconst (v := 1) hx hb dX5_read_7 (by decide) ?_
  refine lv_isub hx hb dX5_read_8 ?_
  refine x_rN (As := [.int p1, .int 0, .int (5 - 1)]) (rest := []) ⟨hx, hb, hml, hown, hts⟩ (c_X8_within l D cT p1 0 (5 - 1) _ hv) w_18 hK hS hN rfl hl.1 rfl (Nat.le_of_ble_eq_true rfl) dX5_read_9 ⟨Nat.le_of_ble_eq_true rfl, Nat.le_of_ble_eq_true rfl⟩ (fun r_1 hv => ?_)
  refine lv_if_eq (tgt := 24) hx hb dX5_read_12 (by decide) (fun c_2 => ?_) (fun c_2 => ?_)
  · have hv := hv.1 c_2
    refine lv_iconst (v := (-1)) hx hb dX5_read_24 (by decide) ?_
    exact W.iret (v := (-1)) hx hb hr (fun t ht hW => ⟨_, rfl, hv, ht⟩) (fun q h => absurd h List.not_mem_nil) dX5_read_25
  · have hv := hv.2 c_2
    refine lv_aload_n hx hb dX5_read_15 rfl (lv_at hl 0 rfl) ?_
    refine va_get (D := D) (ci := 5) (v := .ref (a 1)) (C := RX5) (T := TX5) (N := 1) hx hb hts in_X5 hown hK hP 0 rfl rfl 0 (by decide) kf_9 (fun _ h9 => h9) rfl dX5_read_16 ?_
    refine lv_iload_n hx hb dX5_read_19 rfl (lv_at hl 1 rfl) ?_
    obtain ⟨k_3, hk_3, ik_3, hv⟩ := hv
    refine x_ald hx hb hK hP 1 0 rfl rfl k_3 ik_3 hk_3 (by decide) dX5_read_20 ?_
    refine lv_goto (tgt := 25) hx hb dX5_read_21 (by decide) ?_
    exact W.iret (v := (M 1 k_3)) hx hb hr (fun t ht hW => ⟨_, rfl, hv, ht⟩) (fun q h => absurd h List.not_mem_nil) dX5_read_25
def v_X5_copyFrom (M : ST) (N : ST) (post : ST → Prop) : Prop := ∀ M_1 : ST, M_1 = x_cp M 1 5 (N 1) → post M_1
set_option maxHeartbeats 4000000 in
set_option maxRecDepth 100000 in
theorem c_X5_copyFrom (l : Launch) (D : va_G) (cT : Nat → ClassId) (a : Nat → Nat) (M : ST) (b : Nat → Nat) (N : ST) (sz : Nat) (post : ST → Prop) (hv : v_X5_copyFrom M N post) : Met l yX5_copyFrom wsX5_copyFrom ({ frames := 1, cells := 0, slots := 0, locals := 40 }) (va_Pc [.ref (a 0), .ref (b 0)] (x_U D cT ((w_Registers cT a M) ++ (w_Registers cT b N)) sz)) (va_Qv post (fun u t => x_B D cT ((w_Registers cT a u) ++ (w_Registers cT b N)) (va_A ((w_Registers cT a M) ++ (w_Registers cT b N)) sz) t) (va_A ((w_Registers cT a M) ++ (w_Registers cT b N)) sz)) 0 0 (va_A ((w_Registers cT a M) ++ (w_Registers cT b N)) sz) := by
  refine Met.ofW (cc := cX5_copyFrom) (maxL := 2) (ret := none) (by decide) rfl ?_
  intro p e s m args below meth c s₁ B hml hpre
  obtain ⟨rfl, hsz, hP, hK, hD0, hN⟩ := hpre
  have hx := B.exec
  have hb := B.bytes
  have hr := B.returns
  have hts := atoms_spec (ws := wsX5_copyFrom) B.pre
  have hown : s.vm.findClass RX5 = some m.cls := findClass_of_methodNamed B.named
  have hlocks := B.notSynchronized
  subst hsz
  have hD := hD0.self (sz := s.heap.size)
  generalize hAe : va_A ((w_Registers cT a M) ++ (w_Registers cT b N)) s.heap.size = A at hD hN ⊢
  have hA : ∀ q : Nat, s.heap.size ≤ q → A q := fun q h => by rw [← hAe]; exact Or.inr h
  have hS : va_S A s.heap s.heap [] := va_S.rf
  have hl := lv_entry ([.ref (a 0), .ref (b 0)]) (n := 2) (Nat.le_of_ble_eq_true rfl)
  rw [lg_entry_eq]
  generalize (lg_sl ([.ref (a 0), .ref (b 0)]) ++ List.replicate (2 - (lg_sl ([.ref (a 0), .ref (b 0)])).length) Slot.unset).toArray = ls at hl ⊢
  have hl : lv_has ls 2 [(0, .ref (a 0)), (1, .ref (b 0))] := hl
  have in_X5 : ∀ w ∈ wsX50, w ∈ wsX5_copyFrom := by decide +kernel
  have kf_9 : (Cond.fieldLink RX5 9 "PictureBeats$Registers" "values" "[I").before ([.ref (a 0), .ref (b 0)] : List Value).toArray s = true := hts _ (by decide +kernel)
  have k_cpl : (Cond.methodLink RX5 26 arraycopyName).before ([.ref (a 0), .ref (b 0)] : List Value).toArray s = true := hts _ (by decide +kernel)
  have k_cpn : (Cond.native arraycopyName).before ([.ref (a 0), .ref (b 0)] : List Value).toArray s = true := hts _ (by decide +kernel)
  have k_cps : (Cond.static arraycopyName).before ([.ref (a 0), .ref (b 0)] : List Value).toArray s = true := hts _ (by decide +kernel)
  have k_cpi : (Cond.initialized "java/lang/System").before ([.ref (a 0), .ref (b 0)] : List Value).toArray s = true := hts _ (by decide +kernel)
  refine lv_aload_n hx hb dX5_copyFrom_0 rfl (lv_at hl 1 rfl) ?_
  refine va_get (D := D) (ci := 5) (v := .ref (b 1)) (C := RX5) (T := TX5) (N := 1) hx hb hts in_X5 hown hK hP 2 rfl rfl 0 (by decide) kf_9 (fun _ h9 => h9) rfl dX5_copyFrom_1 ?_
  refine lv_iconst (v := 0) hx hb dX5_copyFrom_4 (by decide) ?_
  refine lv_aload_n hx hb dX5_copyFrom_5 rfl (lv_at hl 0 rfl) ?_
  refine va_get (D := D) (ci := 5) (v := .ref (a 1)) (C := RX5) (T := TX5) (N := 1) hx hb hts in_X5 hown hK hP 0 rfl rfl 0 (by decide) kf_9 (fun _ h9 => h9) rfl dX5_copyFrom_6 ?_
  refine lv_iconst (v := 0) hx hb dX5_copyFrom_9 (by decide) ?_
  refine lv_aload_n hx hb dX5_copyFrom_10 rfl (lv_at hl 0 rfl) ?_
  refine va_get (D := D) (ci := 5) (v := .ref (a 1)) (C := RX5) (T := TX5) (N := 1) hx hb hts in_X5 hown hK hP 0 rfl rfl 0 (by decide) kf_9 (fun _ h9 => h9) rfl dX5_copyFrom_11 ?_
  refine va_alen hx hb hK hP 1 0 rfl rfl (v := 5) rfl dX5_copyFrom_14 ?_
  refine x_cpy (N := 5) (f := N 1) hx hb (hml.trans hl.1.symm) hown k_cpl k_cpn k_cps k_cpi hK hP hD hS 3 1 rfl rfl rfl (by decide) (by decide) (by decide) (Nat.le_of_ble_eq_true rfl) (Nat.le_of_ble_eq_true rfl) dX5_copyFrom_15 (fun H locs hP hD hS => ?_)
  obtain ⟨M_1, eM_1⟩ : ∃ z : ST, z = x_cp M 1 5 (N 1) := ⟨_, rfl⟩
  have hP : va_P D vwCl ((w_Registers cT a M_1) ++ (w_Registers cT b N)) H := by rw [eM_1]; exact hP
  have hD : va_D A ((w_Registers cT a M_1) ++ (w_Registers cT b N)) := by rw [eM_1]; exact hD
  have hv := hv M_1 eM_1
  exact W.vret hx hb hr (fun t ht hW => ⟨⟨M_1, rfl, hv, by rw [ht]; exact hP, va_K.moved hW.alike hK, hD⟩, hS.F ht⟩) hS.2.2 dX5_copyFrom_18
def v_X1_append (M : ST) (p1 : Int32) (p2 : Int32) (p3 : Int32) (p4 : Int32) (post : Int32 → ST → Prop) : Prop := ((((M 0 4) < 16) → ∃ k_2 : Nat, k_2 < 16 ∧ (M 0 4) = nI k_2 ∧ ∀ M_3 : ST, M_3 = x_st M 1 k_2 p1 → ∃ k_4 : Nat, k_4 < 16 ∧ (M_3 0 4) = nI k_4 ∧ ∀ M_5 : ST, M_5 = x_st M_3 2 k_4 p2 → ∃ k_6 : Nat, k_6 < 16 ∧ (M_5 0 4) = nI k_6 ∧ ∀ M_7 : ST, M_7 = x_st M_5 3 k_6 p3 → ∃ k_8 : Nat, k_8 < 16 ∧ (M_7 0 4) = nI k_8 ∧ ∀ M_9 : ST, M_9 = x_st M_7 4 k_8 p4 → ∀ M_10 : ST, M_10 = x_st M_9 0 4 ((M_9 0 4) + 1) → post (M_10 0 4) M_10) ∧ ((¬ ((M 0 4) < 16)) → post (-1) M))
set_option maxHeartbeats 4000000 in
set_option maxRecDepth 100000 in
theorem c_X1_append (l : Launch) (D : va_G) (cT : Nat → ClassId) (a : Nat → Nat) (M : ST) (p1 : Int32) (p2 : Int32) (p3 : Int32) (p4 : Int32) (sz : Nat) (post : Int32 → ST → Prop) (hv : v_X1_append M p1 p2 p3 p4 post) : Met l yX1_append wsX1_append ({ frames := 0, cells := 0, slots := 0, locals := 0 }) (va_Pc [.ref (a 0), .int p1, .int p2, .int p3, .int p4] (x_U D cT ((w_Changes cT a M)) sz)) (va_Qi post (fun u t => x_B D cT ((w_Changes cT a u)) (va_A ((w_Changes cT a M)) sz) t) (va_A ((w_Changes cT a M)) sz)) 0 0 (va_A ((w_Changes cT a M)) sz) := by
  refine Met.ofW (cc := cX1_append) (maxL := 5) (ret := (some .int)) (by decide) rfl ?_
  intro p e s m args below meth c s₁ B hml hpre
  obtain ⟨rfl, hsz, hP, hK, hD0, hN⟩ := hpre
  have hx := B.exec
  have hb := B.bytes
  have hr := B.returns
  have hts := atoms_spec (ws := wsX1_append) B.pre
  have hown : s.vm.findClass RX1 = some m.cls := findClass_of_methodNamed B.named
  have hlocks := B.notSynchronized
  subst hsz
  have hD := hD0.self (sz := s.heap.size)
  generalize hAe : va_A ((w_Changes cT a M)) s.heap.size = A at hD hN ⊢
  have hA : ∀ q : Nat, s.heap.size ≤ q → A q := fun q h => by rw [← hAe]; exact Or.inr h
  have hS : va_S A s.heap s.heap [] := va_S.rf
  have hl := lv_entry ([.ref (a 0), .int p1, .int p2, .int p3, .int p4]) (n := 5) (Nat.le_of_ble_eq_true rfl)
  rw [lg_entry_eq]
  generalize (lg_sl ([.ref (a 0), .int p1, .int p2, .int p3, .int p4]) ++ List.replicate (5 - (lg_sl ([.ref (a 0), .int p1, .int p2, .int p3, .int p4])).length) Slot.unset).toArray = ls at hl ⊢
  have hl : lv_has ls 5 [(0, .ref (a 0)), (1, .int p1), (2, .int p2), (3, .int p3), (4, .int p4)] := hl
  have in_X1 : ∀ w ∈ wsX10, w ∈ wsX1_append := by decide +kernel
  have kf_24 : (Cond.fieldLink RX1 24 "PictureBeats$Changes" "count" "I").before ([.ref (a 0), .int p1, .int p2, .int p3, .int p4] : List Value).toArray s = true := hts _ (by decide +kernel)
  have kf_9 : (Cond.fieldLink RX1 9 "PictureBeats$Changes" "ys" "[I").before ([.ref (a 0), .int p1, .int p2, .int p3, .int p4] : List Value).toArray s = true := hts _ (by decide +kernel)
  have kf_15 : (Cond.fieldLink RX1 15 "PictureBeats$Changes" "xs" "[I").before ([.ref (a 0), .int p1, .int p2, .int p3, .int p4] : List Value).toArray s = true := hts _ (by decide +kernel)
  have kf_18 : (Cond.fieldLink RX1 18 "PictureBeats$Changes" "registers" "[I").before ([.ref (a 0), .int p1, .int p2, .int p3, .int p4] : List Value).toArray s = true := hts _ (by decide +kernel)
  have kf_21 : (Cond.fieldLink RX1 21 "PictureBeats$Changes" "values" "[I").before ([.ref (a 0), .int p1, .int p2, .int p3, .int p4] : List Value).toArray s = true := hts _ (by decide +kernel)
  refine lv_aload_n hx hb dX1_append_0 rfl (lv_at hl 0 rfl) ?_
  refine va_get (D := D) (ci := 1) (v := .int (M 0 4)) (C := RX1) (T := TX1) (N := 5) hx hb hts in_X1 hown hK hP 0 rfl rfl 4 (by decide) kf_24 (fun _ h9 => h9) rfl dX1_append_1 ?_
  refine lv_bipush (v := 16) hx hb dX1_append_4 (by decide) ?_
  refine lv_icmp_lt (tgt := 11) hx hb dX1_append_6 (by decide) (fun c_1 => ?_) (fun c_1 => ?_)
  · have hv := hv.1 c_1
    refine lv_aload_n hx hb dX1_append_11 rfl (lv_at hl 0 rfl) ?_
    refine va_get (D := D) (ci := 1) (v := .ref (a 1)) (C := RX1) (T := TX1) (N := 5) hx hb hts in_X1 hown hK hP 0 rfl rfl 0 (by decide) kf_9 (fun _ h9 => h9) rfl dX1_append_12 ?_
    refine lv_aload_n hx hb dX1_append_15 rfl (lv_at hl 0 rfl) ?_
    refine va_get (D := D) (ci := 1) (v := .int (M 0 4)) (C := RX1) (T := TX1) (N := 5) hx hb hts in_X1 hown hK hP 0 rfl rfl 4 (by decide) kf_24 (fun _ h9 => h9) rfl dX1_append_16 ?_
    refine lv_iload_n hx hb dX1_append_19 rfl (lv_at hl 1 rfl) ?_
    obtain ⟨k_2, hk_2, ik_2, hv⟩ := hv
    refine x_ast hx hb hK hP hD hS 1 0 rfl rfl k_2 ik_2 hk_2 (by decide) dX1_append_20 (fun H locs hP hD hS => ?_)
    obtain ⟨M_3, eM_3⟩ : ∃ z : ST, z = x_st M 1 k_2 p1 := ⟨_, rfl⟩
    have hP : va_P D vwCl ((w_Changes cT a M_3)) H := by rw [eM_3]; exact hP
    have hD : va_D A ((w_Changes cT a M_3)) := by rw [eM_3]; exact hD
    have hv := hv M_3 eM_3
    refine lv_aload_n hx hb dX1_append_21 rfl (lv_at hl 0 rfl) ?_
    refine va_get (D := D) (ci := 1) (v := .ref (a 2)) (C := RX1) (T := TX1) (N := 5) hx hb hts in_X1 hown hK hP 0 rfl rfl 1 (by decide) kf_15 (fun _ h9 => h9) rfl dX1_append_22 ?_
    refine lv_aload_n hx hb dX1_append_25 rfl (lv_at hl 0 rfl) ?_
    refine va_get (D := D) (ci := 1) (v := .int (M_3 0 4)) (C := RX1) (T := TX1) (N := 5) hx hb hts in_X1 hown hK hP 0 rfl rfl 4 (by decide) kf_24 (fun _ h9 => h9) rfl dX1_append_26 ?_
    refine lv_iload_n hx hb dX1_append_29 rfl (lv_at hl 2 rfl) ?_
    obtain ⟨k_4, hk_4, ik_4, hv⟩ := hv
    refine x_ast hx hb hK hP hD hS 2 0 rfl rfl k_4 ik_4 hk_4 (by decide) dX1_append_30 (fun H locs hP hD hS => ?_)
    obtain ⟨M_5, eM_5⟩ : ∃ z : ST, z = x_st M_3 2 k_4 p2 := ⟨_, rfl⟩
    have hP : va_P D vwCl ((w_Changes cT a M_5)) H := by rw [eM_5]; exact hP
    have hD : va_D A ((w_Changes cT a M_5)) := by rw [eM_5]; exact hD
    have hv := hv M_5 eM_5
    refine lv_aload_n hx hb dX1_append_31 rfl (lv_at hl 0 rfl) ?_
    refine va_get (D := D) (ci := 1) (v := .ref (a 3)) (C := RX1) (T := TX1) (N := 5) hx hb hts in_X1 hown hK hP 0 rfl rfl 2 (by decide) kf_18 (fun _ h9 => h9) rfl dX1_append_32 ?_
    refine lv_aload_n hx hb dX1_append_35 rfl (lv_at hl 0 rfl) ?_
    refine va_get (D := D) (ci := 1) (v := .int (M_5 0 4)) (C := RX1) (T := TX1) (N := 5) hx hb hts in_X1 hown hK hP 0 rfl rfl 4 (by decide) kf_24 (fun _ h9 => h9) rfl dX1_append_36 ?_
    refine lv_iload_n hx hb dX1_append_39 rfl (lv_at hl 3 rfl) ?_
    obtain ⟨k_6, hk_6, ik_6, hv⟩ := hv
    refine x_ast hx hb hK hP hD hS 3 0 rfl rfl k_6 ik_6 hk_6 (by decide) dX1_append_40 (fun H locs hP hD hS => ?_)
    obtain ⟨M_7, eM_7⟩ : ∃ z : ST, z = x_st M_5 3 k_6 p3 := ⟨_, rfl⟩
    have hP : va_P D vwCl ((w_Changes cT a M_7)) H := by rw [eM_7]; exact hP
    have hD : va_D A ((w_Changes cT a M_7)) := by rw [eM_7]; exact hD
    have hv := hv M_7 eM_7
    refine lv_aload_n hx hb dX1_append_41 rfl (lv_at hl 0 rfl) ?_
    refine va_get (D := D) (ci := 1) (v := .ref (a 4)) (C := RX1) (T := TX1) (N := 5) hx hb hts in_X1 hown hK hP 0 rfl rfl 3 (by decide) kf_21 (fun _ h9 => h9) rfl dX1_append_42 ?_
    refine lv_aload_n hx hb dX1_append_45 rfl (lv_at hl 0 rfl) ?_
    refine va_get (D := D) (ci := 1) (v := .int (M_7 0 4)) (C := RX1) (T := TX1) (N := 5) hx hb hts in_X1 hown hK hP 0 rfl rfl 4 (by decide) kf_24 (fun _ h9 => h9) rfl dX1_append_46 ?_
    refine lv_iload hx hb dX1_append_49 (lv_at hl 4 rfl) ?_
    obtain ⟨k_8, hk_8, ik_8, hv⟩ := hv
    refine x_ast hx hb hK hP hD hS 4 0 rfl rfl k_8 ik_8 hk_8 (by decide) dX1_append_51 (fun H locs hP hD hS => ?_)
    obtain ⟨M_9, eM_9⟩ : ∃ z : ST, z = x_st M_7 4 k_8 p4 := ⟨_, rfl⟩
    have hP : va_P D vwCl ((w_Changes cT a M_9)) H := by rw [eM_9]; exact hP
    have hD : va_D A ((w_Changes cT a M_9)) := by rw [eM_9]; exact hD
    have hv := hv M_9 eM_9
    refine lv_aload_n hx hb dX1_append_52 rfl (lv_at hl 0 rfl) ?_
    refine lv_dup hx hb dX1_append_53 rfl ?_
    refine va_get (D := D) (ci := 1) (v := .int (M_9 0 4)) (C := RX1) (T := TX1) (N := 5) hx hb hts in_X1 hown hK hP 0 rfl rfl 4 (by decide) kf_24 (fun _ h9 => h9) rfl dX1_append_54 ?_
    refine lv_iconst (v := 1) hx hb dX1_append_57 (by decide) ?_
    refine lv_iadd hx hb dX1_append_58 ?_
    refine va_put (D := D) (ci := 1) (v := .int ((M_9 0 4) + 1)) (ty := .int) (C := RX1) (T := TX1) (N := 5) hx hb hts in_X1 tyX1 tyX1_ok nmX1 hown hK hP hD hS 0 rfl rfl 4 (by decide) kf_24 (fun _ h9 => h9) rfl (by decide +kernel) rfl rfl (Nat.le_of_ble_eq_true rfl) dX1_append_59 (fun H locs hP hD hS => ?_)
    obtain ⟨M_10, eM_10⟩ : ∃ z : ST, z = x_st M_9 0 4 ((M_9 0 4) + 1) := ⟨_, rfl⟩
    have hP : va_P D vwCl ((w_Changes cT a M_10)) H := by rw [eM_10]; exact hP
    have hD : va_D A ((w_Changes cT a M_10)) := by rw [eM_10]; exact hD
    have hv := hv M_10 eM_10
    refine lv_aload_n hx hb dX1_append_62 rfl (lv_at hl 0 rfl) ?_
    refine va_get (D := D) (ci := 1) (v := .int (M_10 0 4)) (C := RX1) (T := TX1) (N := 5) hx hb hts in_X1 hown hK hP 0 rfl rfl 4 (by decide) kf_24 (fun _ h9 => h9) rfl dX1_append_63 ?_
    exact W.iret (v := (M_10 0 4)) hx hb hr (fun t ht hW => ⟨⟨_, M_10, rfl, hv, by rw [ht]; exact hP, va_K.moved hW.alike hK, hD⟩, hS.F ht⟩) hS.2.2 dX1_append_66
  · have hv := hv.2 c_1
    refine lv_iconst (v := (-1)) hx hb dX1_append_9 (by decide) ?_
    exact W.iret (v := (-1)) hx hb hr (fun t ht hW => ⟨⟨_, M, rfl, hv, by rw [ht]; exact hP, va_K.moved hW.alike hK, hD⟩, hS.F ht⟩) hS.2.2 dX1_append_10
def lp_X1_apply_3 (M : ST) (p1 : Int32) (p2 : Int32) (post : ST → Prop) (K_ : Int32 → ST → Prop) : Nat → Int32 → ST → Prop
  | 0, _, _ => False
  | n_6 + 1, y_4, M_5 => ((((M 0 4) ≤ y_4) → K_ y_4 M_5) ∧ ((¬ ((M 0 4) ≤ y_4)) → ∃ k_8 : Nat, k_8 < 16 ∧ y_4 = nI k_8 ∧ (((¬ ((M 2 k_8) = p2)) → ∀ x_10 : Int32, x_10 = y_4 + 1 → lp_X1_apply_3 M p1 p2 post K_ n_6 x_10 M_5) ∧ (((M 2 k_8) = p2) → (((¬ ((M 1 k_8) = p1)) → ∀ x_12 : Int32, x_12 = y_4 + 1 → lp_X1_apply_3 M p1 p2 post K_ n_6 x_12 M_5) ∧ (((M 1 k_8) = p1) → v_X5_change M_5 (M 3 k_8) (M 4 k_8) (fun r_14 (u_13 : ST) => ∀ x_15 : Int32, x_15 = y_4 + 1 → lp_X1_apply_3 M p1 p2 post K_ n_6 x_15 u_13)))))))
def v_X1_apply (M : ST) (N : ST) (p1 : Int32) (p2 : Int32) (post : ST → Prop) : Prop := (∃ n_16 : Nat, lp_X1_apply_3 M p1 p2 post (fun (y_2 : Int32) (M_3 : ST) => post M_3) n_16 0 N)
set_option maxHeartbeats 4000000 in
set_option maxRecDepth 100000 in
theorem c_X1_apply (l : Launch) (D : va_G) (cT : Nat → ClassId) (a : Nat → Nat) (M : ST) (b : Nat → Nat) (N : ST) (p1 : Int32) (p2 : Int32) (sz : Nat) (post : ST → Prop) (hv : v_X1_apply M N p1 p2 post) : Met l yX1_apply wsX1_apply ({ frames := 3, cells := 0, slots := 0, locals := 65 }) (va_Pc [.ref (a 0), .int p1, .int p2, .ref (b 0)] (x_U D cT ((w_Changes cT a M) ++ (w_Registers cT b N)) sz)) (va_Qv post (fun u t => x_B D cT ((w_Changes cT a M) ++ (w_Registers cT b u)) (va_A ((w_Changes cT a M) ++ (w_Registers cT b N)) sz) t) (va_A ((w_Changes cT a M) ++ (w_Registers cT b N)) sz)) 0 0 (va_A ((w_Changes cT a M) ++ (w_Registers cT b N)) sz) := by
  refine Met.ofW (cc := cX1_apply) (maxL := 5) (ret := none) (by decide) rfl ?_
  intro p e s m args below meth c s₁ B hml hpre
  obtain ⟨rfl, hsz, hP, hK, hD0, hN⟩ := hpre
  have hx := B.exec
  have hb := B.bytes
  have hr := B.returns
  have hts := atoms_spec (ws := wsX1_apply) B.pre
  have hown : s.vm.findClass RX1 = some m.cls := findClass_of_methodNamed B.named
  have hlocks := B.notSynchronized
  subst hsz
  have hD := hD0.self (sz := s.heap.size)
  generalize hAe : va_A ((w_Changes cT a M) ++ (w_Registers cT b N)) s.heap.size = A at hD hN ⊢
  have hA : ∀ q : Nat, s.heap.size ≤ q → A q := fun q h => by rw [← hAe]; exact Or.inr h
  have hS : va_S A s.heap s.heap [] := va_S.rf
  have hl := lv_entry ([.ref (a 0), .int p1, .int p2, .ref (b 0)]) (n := 5) (Nat.le_of_ble_eq_true rfl)
  rw [lg_entry_eq]
  generalize (lg_sl ([.ref (a 0), .int p1, .int p2, .ref (b 0)]) ++ List.replicate (5 - (lg_sl ([.ref (a 0), .int p1, .int p2, .ref (b 0)])).length) Slot.unset).toArray = ls at hl ⊢
  have hl : lv_has ls 5 [(0, .ref (a 0)), (1, .int p1), (2, .int p2), (3, .ref (b 0))] := hl
  have in_X1 : ∀ w ∈ wsX10, w ∈ wsX1_apply := by decide +kernel
  have kf_24 : (Cond.fieldLink RX1 24 "PictureBeats$Changes" "count" "I").before ([.ref (a 0), .int p1, .int p2, .ref (b 0)] : List Value).toArray s = true := hts _ (by decide +kernel)
  have kf_15 : (Cond.fieldLink RX1 15 "PictureBeats$Changes" "xs" "[I").before ([.ref (a 0), .int p1, .int p2, .ref (b 0)] : List Value).toArray s = true := hts _ (by decide +kernel)
  have kf_9 : (Cond.fieldLink RX1 9 "PictureBeats$Changes" "ys" "[I").before ([.ref (a 0), .int p1, .int p2, .ref (b 0)] : List Value).toArray s = true := hts _ (by decide +kernel)
  have kf_18 : (Cond.fieldLink RX1 18 "PictureBeats$Changes" "registers" "[I").before ([.ref (a 0), .int p1, .int p2, .ref (b 0)] : List Value).toArray s = true := hts _ (by decide +kernel)
  have kf_21 : (Cond.fieldLink RX1 21 "PictureBeats$Changes" "values" "[I").before ([.ref (a 0), .int p1, .int p2, .ref (b 0)] : List Value).toArray s = true := hts _ (by decide +kernel)
  have w_28 : CallW (headSpec wsX1_apply ({ frames := 3, cells := 0, slots := 0, locals := 65 })).room s ([.ref (a 0), .int p1, .int p2, .ref (b 0)] : List Value).toArray RX1 RX5 28 yX5_change cX5_change 3 (some .boolean) wsX5_change ({ frames := 2, cells := 0, slots := 0, locals := 43 } : Room) 0 0 2 := cwV 2 hts gX1_apply_X5_change rfl rfl rfl (by decide +kernel) ⟨Nat.le_of_ble_eq_true rfl, Nat.le_of_ble_eq_true rfl⟩
  refine lv_iconst (v := 0) hx hb dX1_apply_0 (by decide) ?_
  refine lv_istore (lv' := [(4, .int 0), (0, .ref (a 0)), (1, .int p1), (2, .int p2), (3, .ref (b 0))]) hx hb dX1_apply_1 hl (by decide) rfl (fun ls hl => ?_)
  obtain ⟨n_16, hv⟩ := hv
  have K_L_1 : ∀ (y_2 : Int32) (M_3 : ST), (post M_3) → ∀ (H : Heap) (locs : List Loc), va_P D vwCl ((w_Changes cT a M) ++ (w_Registers cT b M_3)) H → va_D A ((w_Changes cT a M) ++ (w_Registers cT b M_3)) → va_S A s.heap H locs → ∀ ls : Array Slot, lv_has ls 5 [(4, .int y_2), (0, .ref (a 0)), (1, .int p1), (2, .int p2), (3, .ref (b 0))] → W p l e (headSpec wsX1_apply ({ frames := 3, cells := 0, slots := 0, locals := 65 })).room s m ([.ref (a 0), .int p1, .int p2, .ref (b 0)] : List Value).toArray below meth c H locs 0 0 (MQ below (va_Qv post (fun u t => x_B D cT ((w_Changes cT a M) ++ (w_Registers cT b u)) A t) A) ([.ref (a 0), .int p1, .int p2, .ref (b 0)] : List Value).toArray s 0 0 A) (F0 m 59 ls []) := by
    intro y_2 M_3 hv H locs hP hD hS ls hl
    exact W.vret hx hb hr (fun t ht hW => ⟨⟨M_3, rfl, hv, by rw [ht]; exact hP, va_K.moved hW.alike hK, hD⟩, hS.F ht⟩) hS.2.2 dX1_apply_59
  have L_1 : ∀ n_6 : Nat, ∀ (y_4 : Int32) (M_5 : ST), (lp_X1_apply_3 M p1 p2 post (fun (y_2 : Int32) (M_3 : ST) => post M_3) n_6 y_4 M_5) → ∀ (H : Heap) (locs : List Loc), va_P D vwCl ((w_Changes cT a M) ++ (w_Registers cT b M_5)) H → va_D A ((w_Changes cT a M) ++ (w_Registers cT b M_5)) → va_S A s.heap H locs → ∀ ls : Array Slot, lv_has ls 5 [(4, .int y_4), (0, .ref (a 0)), (1, .int p1), (2, .int p2), (3, .ref (b 0))] → W p l e (headSpec wsX1_apply ({ frames := 3, cells := 0, slots := 0, locals := 65 })).room s m ([.ref (a 0), .int p1, .int p2, .ref (b 0)] : List Value).toArray below meth c H locs 0 0 (MQ below (va_Qv post (fun u t => x_B D cT ((w_Changes cT a M) ++ (w_Registers cT b u)) A t) A) ([.ref (a 0), .int p1, .int p2, .ref (b 0)] : List Value).toArray s 0 0 A) (F0 m 3 ls []) := by
    intro n_6
    induction n_6 with
    | zero =>
      intro y_4 M_5 hv
      exact hv.elim
    | succ n_6 L_1_ih =>
      intro y_4 M_5 hv H locs hP hD hS ls hl
      refine lv_iload hx hb dX1_apply_3 (lv_at hl 0 rfl) ?_
      refine lv_aload_n hx hb dX1_apply_5 rfl (lv_at hl 1 rfl) ?_
      refine va_get (D := D) (ci := 1) (v := .int (M 0 4)) (C := RX1) (T := TX1) (N := 5) hx hb hts in_X1 hown hK hP 0 rfl rfl 4 (by decide) kf_24 (fun _ h9 => h9) rfl dX1_apply_6 ?_
      refine lv_icmp_ge (tgt := 59) hx hb dX1_apply_9 (by decide) (fun c_7 => ?_) (fun c_7 => ?_)
      · have hv := hv.1 c_7
        exact K_L_1 _ _ hv H locs hP hD hS ls (lv_sub hl [0, 1, 2, 3, 4] rfl)
      · have hv := hv.2 c_7
        refine lv_aload_n hx hb dX1_apply_12 rfl (lv_at hl 1 rfl) ?_
        refine va_get (D := D) (ci := 1) (v := .ref (a 2)) (C := RX1) (T := TX1) (N := 5) hx hb hts in_X1 hown hK hP 0 rfl rfl 1 (by decide) kf_15 (fun _ h9 => h9) rfl dX1_apply_13 ?_
        refine lv_iload hx hb dX1_apply_16 (lv_at hl 0 rfl) ?_
        obtain ⟨k_8, hk_8, ik_8, hv⟩ := hv
        refine x_ald hx hb hK hP 2 0 rfl rfl k_8 ik_8 hk_8 (by decide) dX1_apply_18 ?_
        refine lv_iload_n hx hb dX1_apply_19 rfl (lv_at hl 3 rfl) ?_
        refine lv_icmp_ne (tgt := 53) hx hb dX1_apply_20 (by decide) (fun c_9 => ?_) (fun c_9 => ?_)
        · have hv := hv.1 c_9
          obtain ⟨x_10, ex_10⟩ : ∃ z : Int32, z = y_4 + 1 := ⟨_, rfl⟩
          have hv := hv x_10 ex_10
          refine lv_iinc (v := x_10) (lv' := [(4, .int x_10), (0, .ref (a 0)), (1, .int p1), (2, .int p2), (3, .ref (b 0))]) hx hb dX1_apply_53 hl (k := 0) rfl (by rw [ex_10]; rfl) (by decide) rfl (fun ls hl => ?_)
          refine lv_goto (tgt := 3) hx hb dX1_apply_56 (by decide) ?_
          exact L_1_ih _ _ hv H locs hP hD hS ls (lv_sub hl [0, 1, 2, 3, 4] rfl)
        · have hv := hv.2 c_9
          refine lv_aload_n hx hb dX1_apply_23 rfl (lv_at hl 1 rfl) ?_
          refine va_get (D := D) (ci := 1) (v := .ref (a 1)) (C := RX1) (T := TX1) (N := 5) hx hb hts in_X1 hown hK hP 0 rfl rfl 0 (by decide) kf_9 (fun _ h9 => h9) rfl dX1_apply_24 ?_
          refine lv_iload hx hb dX1_apply_27 (lv_at hl 0 rfl) ?_
          refine x_ald hx hb hK hP 1 0 rfl rfl k_8 ik_8 hk_8 (by decide) dX1_apply_29 ?_
          refine lv_iload_n hx hb dX1_apply_30 rfl (lv_at hl 2 rfl) ?_
          refine lv_icmp_ne (tgt := 53) hx hb dX1_apply_31 (by decide) (fun c_11 => ?_) (fun c_11 => ?_)
          · have hv := hv.1 c_11
            obtain ⟨x_12, ex_12⟩ : ∃ z : Int32, z = y_4 + 1 := ⟨_, rfl⟩
            have hv := hv x_12 ex_12
            refine lv_iinc (v := x_12) (lv' := [(4, .int x_12), (0, .ref (a 0)), (1, .int p1), (2, .int p2), (3, .ref (b 0))]) hx hb dX1_apply_53 hl (k := 0) rfl (by rw [ex_12]; rfl) (by decide) rfl (fun ls hl => ?_)
            refine lv_goto (tgt := 3) hx hb dX1_apply_56 (by decide) ?_
            exact L_1_ih _ _ hv H locs hP hD hS ls (lv_sub hl [0, 1, 2, 3, 4] rfl)
          · have hv := hv.2 c_11
            refine lv_aload_n hx hb dX1_apply_34 rfl (lv_at hl 4 rfl) ?_
            refine lv_aload_n hx hb dX1_apply_35 rfl (lv_at hl 1 rfl) ?_
            refine va_get (D := D) (ci := 1) (v := .ref (a 3)) (C := RX1) (T := TX1) (N := 5) hx hb hts in_X1 hown hK hP 0 rfl rfl 2 (by decide) kf_18 (fun _ h9 => h9) rfl dX1_apply_36 ?_
            refine lv_iload hx hb dX1_apply_39 (lv_at hl 0 rfl) ?_
            refine x_ald hx hb hK hP 3 0 rfl rfl k_8 ik_8 hk_8 (by decide) dX1_apply_41 ?_
            refine lv_aload_n hx hb dX1_apply_42 rfl (lv_at hl 1 rfl) ?_
            refine va_get (D := D) (ci := 1) (v := .ref (a 4)) (C := RX1) (T := TX1) (N := 5) hx hb hts in_X1 hown hK hP 0 rfl rfl 3 (by decide) kf_21 (fun _ h9 => h9) rfl dX1_apply_43 ?_
            refine lv_iload hx hb dX1_apply_46 (lv_at hl 0 rfl) ?_
            refine x_ald hx hb hK hP 4 0 rfl rfl k_8 ik_8 hk_8 (by decide) dX1_apply_48 ?_
            refine x_cVi (As := [.int (M 3 k_8), .int (M 4 k_8)]) (rest := []) (wn := fun u_13 => (w_Changes cT a M) ++ (w_Registers cT b u_13)) ⟨hx, hb, hml, hown, hts⟩ (c_X5_change l D cT b M_5 (M 3 k_8) (M 4 k_8) _ _ hv) w_28 hK hP hD hS hA hN [5, 6] [0, 1, 2, 3, 4] [0, 1, 2, 3, 4, 5, 6] rfl rfl (fun _ => rfl) (by decide) (by decide) (by decide) (by decide) 5 0 rfl rfl rfl hl.1 rfl (Nat.le_of_ble_eq_true rfl) dX1_apply_49 ⟨Nat.le_of_ble_eq_true rfl, Nat.le_of_ble_eq_true rfl⟩ (fun r_14 u_13 H locs hv hP hD hS => ?_)
            refine lv_pop hx hb dX1_apply_52 rfl ?_
            obtain ⟨x_15, ex_15⟩ : ∃ z : Int32, z = y_4 + 1 := ⟨_, rfl⟩
            have hv := hv x_15 ex_15
            refine lv_iinc (v := x_15) (lv' := [(4, .int x_15), (0, .ref (a 0)), (1, .int p1), (2, .int p2), (3, .ref (b 0))]) hx hb dX1_apply_53 hl (k := 0) rfl (by rw [ex_15]; rfl) (by decide) rfl (fun ls hl => ?_)
            refine lv_goto (tgt := 3) hx hb dX1_apply_56 (by decide) ?_
            exact L_1_ih _ _ hv H locs hP hD hS ls (lv_sub hl [0, 1, 2, 3, 4] rfl)
  exact L_1 n_16 _ _ hv _ _ hP hD hS ls hl
def v_X1_copyFrom (M : ST) (N : ST) (post : ST → Prop) : Prop := ∀ M_1 : ST, M_1 = x_cp M 1 16 (N 1) → ∀ M_2 : ST, M_2 = x_cp M_1 2 16 (N 2) → ∀ M_3 : ST, M_3 = x_cp M_2 3 16 (N 3) → ∀ M_4 : ST, M_4 = x_cp M_3 4 16 (N 4) → ∀ M_5 : ST, M_5 = x_st M_4 0 4 (N 0 4) → post M_5
set_option maxHeartbeats 4000000 in
set_option maxRecDepth 100000 in
theorem c_X1_copyFrom (l : Launch) (D : va_G) (cT : Nat → ClassId) (a : Nat → Nat) (M : ST) (b : Nat → Nat) (N : ST) (sz : Nat) (post : ST → Prop) (hv : v_X1_copyFrom M N post) : Met l yX1_copyFrom wsX1_copyFrom ({ frames := 1, cells := 0, slots := 0, locals := 40 }) (va_Pc [.ref (a 0), .ref (b 0)] (x_U D cT ((w_Changes cT a M) ++ (w_Changes cT b N)) sz)) (va_Qv post (fun u t => x_B D cT ((w_Changes cT a u) ++ (w_Changes cT b N)) (va_A ((w_Changes cT a M) ++ (w_Changes cT b N)) sz) t) (va_A ((w_Changes cT a M) ++ (w_Changes cT b N)) sz)) 0 0 (va_A ((w_Changes cT a M) ++ (w_Changes cT b N)) sz) := by
  refine Met.ofW (cc := cX1_copyFrom) (maxL := 2) (ret := none) (by decide) rfl ?_
  intro p e s m args below meth c s₁ B hml hpre
  obtain ⟨rfl, hsz, hP, hK, hD0, hN⟩ := hpre
  have hx := B.exec
  have hb := B.bytes
  have hr := B.returns
  have hts := atoms_spec (ws := wsX1_copyFrom) B.pre
  have hown : s.vm.findClass RX1 = some m.cls := findClass_of_methodNamed B.named
  have hlocks := B.notSynchronized
  subst hsz
  have hD := hD0.self (sz := s.heap.size)
  generalize hAe : va_A ((w_Changes cT a M) ++ (w_Changes cT b N)) s.heap.size = A at hD hN ⊢
  have hA : ∀ q : Nat, s.heap.size ≤ q → A q := fun q h => by rw [← hAe]; exact Or.inr h
  have hS : va_S A s.heap s.heap [] := va_S.rf
  have hl := lv_entry ([.ref (a 0), .ref (b 0)]) (n := 2) (Nat.le_of_ble_eq_true rfl)
  rw [lg_entry_eq]
  generalize (lg_sl ([.ref (a 0), .ref (b 0)]) ++ List.replicate (2 - (lg_sl ([.ref (a 0), .ref (b 0)])).length) Slot.unset).toArray = ls at hl ⊢
  have hl : lv_has ls 2 [(0, .ref (a 0)), (1, .ref (b 0))] := hl
  have in_X1 : ∀ w ∈ wsX10, w ∈ wsX1_copyFrom := by decide +kernel
  have kf_9 : (Cond.fieldLink RX1 9 "PictureBeats$Changes" "ys" "[I").before ([.ref (a 0), .ref (b 0)] : List Value).toArray s = true := hts _ (by decide +kernel)
  have k_cpl : (Cond.methodLink RX1 34 arraycopyName).before ([.ref (a 0), .ref (b 0)] : List Value).toArray s = true := hts _ (by decide +kernel)
  have k_cpn : (Cond.native arraycopyName).before ([.ref (a 0), .ref (b 0)] : List Value).toArray s = true := hts _ (by decide +kernel)
  have k_cps : (Cond.static arraycopyName).before ([.ref (a 0), .ref (b 0)] : List Value).toArray s = true := hts _ (by decide +kernel)
  have k_cpi : (Cond.initialized "java/lang/System").before ([.ref (a 0), .ref (b 0)] : List Value).toArray s = true := hts _ (by decide +kernel)
  have kf_15 : (Cond.fieldLink RX1 15 "PictureBeats$Changes" "xs" "[I").before ([.ref (a 0), .ref (b 0)] : List Value).toArray s = true := hts _ (by decide +kernel)
  have kf_18 : (Cond.fieldLink RX1 18 "PictureBeats$Changes" "registers" "[I").before ([.ref (a 0), .ref (b 0)] : List Value).toArray s = true := hts _ (by decide +kernel)
  have kf_21 : (Cond.fieldLink RX1 21 "PictureBeats$Changes" "values" "[I").before ([.ref (a 0), .ref (b 0)] : List Value).toArray s = true := hts _ (by decide +kernel)
  have kf_24 : (Cond.fieldLink RX1 24 "PictureBeats$Changes" "count" "I").before ([.ref (a 0), .ref (b 0)] : List Value).toArray s = true := hts _ (by decide +kernel)
  refine lv_aload_n hx hb dX1_copyFrom_0 rfl (lv_at hl 1 rfl) ?_
  refine va_get (D := D) (ci := 1) (v := .ref (b 1)) (C := RX1) (T := TX1) (N := 5) hx hb hts in_X1 hown hK hP 5 rfl rfl 0 (by decide) kf_9 (fun _ h9 => h9) rfl dX1_copyFrom_1 ?_
  refine lv_iconst (v := 0) hx hb dX1_copyFrom_4 (by decide) ?_
  refine lv_aload_n hx hb dX1_copyFrom_5 rfl (lv_at hl 0 rfl) ?_
  refine va_get (D := D) (ci := 1) (v := .ref (a 1)) (C := RX1) (T := TX1) (N := 5) hx hb hts in_X1 hown hK hP 0 rfl rfl 0 (by decide) kf_9 (fun _ h9 => h9) rfl dX1_copyFrom_6 ?_
  refine lv_iconst (v := 0) hx hb dX1_copyFrom_9 (by decide) ?_
  refine lv_bipush (v := 16) hx hb dX1_copyFrom_10 (by decide) ?_
  refine x_cpy (N := 16) (f := N 1) hx hb (hml.trans hl.1.symm) hown k_cpl k_cpn k_cps k_cpi hK hP hD hS 6 1 rfl rfl rfl (by decide) (by decide) (by decide) (Nat.le_of_ble_eq_true rfl) (Nat.le_of_ble_eq_true rfl) dX1_copyFrom_12 (fun H locs hP hD hS => ?_)
  obtain ⟨M_1, eM_1⟩ : ∃ z : ST, z = x_cp M 1 16 (N 1) := ⟨_, rfl⟩
  have hP : va_P D vwCl ((w_Changes cT a M_1) ++ (w_Changes cT b N)) H := by rw [eM_1]; exact hP
  have hD : va_D A ((w_Changes cT a M_1) ++ (w_Changes cT b N)) := by rw [eM_1]; exact hD
  have hv := hv M_1 eM_1
  refine lv_aload_n hx hb dX1_copyFrom_15 rfl (lv_at hl 1 rfl) ?_
  refine va_get (D := D) (ci := 1) (v := .ref (b 2)) (C := RX1) (T := TX1) (N := 5) hx hb hts in_X1 hown hK hP 5 rfl rfl 1 (by decide) kf_15 (fun _ h9 => h9) rfl dX1_copyFrom_16 ?_
  refine lv_iconst (v := 0) hx hb dX1_copyFrom_19 (by decide) ?_
  refine lv_aload_n hx hb dX1_copyFrom_20 rfl (lv_at hl 0 rfl) ?_
  refine va_get (D := D) (ci := 1) (v := .ref (a 2)) (C := RX1) (T := TX1) (N := 5) hx hb hts in_X1 hown hK hP 0 rfl rfl 1 (by decide) kf_15 (fun _ h9 => h9) rfl dX1_copyFrom_21 ?_
  refine lv_iconst (v := 0) hx hb dX1_copyFrom_24 (by decide) ?_
  refine lv_bipush (v := 16) hx hb dX1_copyFrom_25 (by decide) ?_
  refine x_cpy (N := 16) (f := N 2) hx hb (hml.trans hl.1.symm) hown k_cpl k_cpn k_cps k_cpi hK hP hD hS 7 2 rfl rfl rfl (by decide) (by decide) (by decide) (Nat.le_of_ble_eq_true rfl) (Nat.le_of_ble_eq_true rfl) dX1_copyFrom_27 (fun H locs hP hD hS => ?_)
  obtain ⟨M_2, eM_2⟩ : ∃ z : ST, z = x_cp M_1 2 16 (N 2) := ⟨_, rfl⟩
  have hP : va_P D vwCl ((w_Changes cT a M_2) ++ (w_Changes cT b N)) H := by rw [eM_2]; exact hP
  have hD : va_D A ((w_Changes cT a M_2) ++ (w_Changes cT b N)) := by rw [eM_2]; exact hD
  have hv := hv M_2 eM_2
  refine lv_aload_n hx hb dX1_copyFrom_30 rfl (lv_at hl 1 rfl) ?_
  refine va_get (D := D) (ci := 1) (v := .ref (b 3)) (C := RX1) (T := TX1) (N := 5) hx hb hts in_X1 hown hK hP 5 rfl rfl 2 (by decide) kf_18 (fun _ h9 => h9) rfl dX1_copyFrom_31 ?_
  refine lv_iconst (v := 0) hx hb dX1_copyFrom_34 (by decide) ?_
  refine lv_aload_n hx hb dX1_copyFrom_35 rfl (lv_at hl 0 rfl) ?_
  refine va_get (D := D) (ci := 1) (v := .ref (a 3)) (C := RX1) (T := TX1) (N := 5) hx hb hts in_X1 hown hK hP 0 rfl rfl 2 (by decide) kf_18 (fun _ h9 => h9) rfl dX1_copyFrom_36 ?_
  refine lv_iconst (v := 0) hx hb dX1_copyFrom_39 (by decide) ?_
  refine lv_bipush (v := 16) hx hb dX1_copyFrom_40 (by decide) ?_
  refine x_cpy (N := 16) (f := N 3) hx hb (hml.trans hl.1.symm) hown k_cpl k_cpn k_cps k_cpi hK hP hD hS 8 3 rfl rfl rfl (by decide) (by decide) (by decide) (Nat.le_of_ble_eq_true rfl) (Nat.le_of_ble_eq_true rfl) dX1_copyFrom_42 (fun H locs hP hD hS => ?_)
  obtain ⟨M_3, eM_3⟩ : ∃ z : ST, z = x_cp M_2 3 16 (N 3) := ⟨_, rfl⟩
  have hP : va_P D vwCl ((w_Changes cT a M_3) ++ (w_Changes cT b N)) H := by rw [eM_3]; exact hP
  have hD : va_D A ((w_Changes cT a M_3) ++ (w_Changes cT b N)) := by rw [eM_3]; exact hD
  have hv := hv M_3 eM_3
  refine lv_aload_n hx hb dX1_copyFrom_45 rfl (lv_at hl 1 rfl) ?_
  refine va_get (D := D) (ci := 1) (v := .ref (b 4)) (C := RX1) (T := TX1) (N := 5) hx hb hts in_X1 hown hK hP 5 rfl rfl 3 (by decide) kf_21 (fun _ h9 => h9) rfl dX1_copyFrom_46 ?_
  refine lv_iconst (v := 0) hx hb dX1_copyFrom_49 (by decide) ?_
  refine lv_aload_n hx hb dX1_copyFrom_50 rfl (lv_at hl 0 rfl) ?_
  refine va_get (D := D) (ci := 1) (v := .ref (a 4)) (C := RX1) (T := TX1) (N := 5) hx hb hts in_X1 hown hK hP 0 rfl rfl 3 (by decide) kf_21 (fun _ h9 => h9) rfl dX1_copyFrom_51 ?_
  refine lv_iconst (v := 0) hx hb dX1_copyFrom_54 (by decide) ?_
  refine lv_bipush (v := 16) hx hb dX1_copyFrom_55 (by decide) ?_
  refine x_cpy (N := 16) (f := N 4) hx hb (hml.trans hl.1.symm) hown k_cpl k_cpn k_cps k_cpi hK hP hD hS 9 4 rfl rfl rfl (by decide) (by decide) (by decide) (Nat.le_of_ble_eq_true rfl) (Nat.le_of_ble_eq_true rfl) dX1_copyFrom_57 (fun H locs hP hD hS => ?_)
  obtain ⟨M_4, eM_4⟩ : ∃ z : ST, z = x_cp M_3 4 16 (N 4) := ⟨_, rfl⟩
  have hP : va_P D vwCl ((w_Changes cT a M_4) ++ (w_Changes cT b N)) H := by rw [eM_4]; exact hP
  have hD : va_D A ((w_Changes cT a M_4) ++ (w_Changes cT b N)) := by rw [eM_4]; exact hD
  have hv := hv M_4 eM_4
  refine lv_aload_n hx hb dX1_copyFrom_60 rfl (lv_at hl 0 rfl) ?_
  refine lv_aload_n hx hb dX1_copyFrom_61 rfl (lv_at hl 1 rfl) ?_
  refine va_get (D := D) (ci := 1) (v := .int (N 0 4)) (C := RX1) (T := TX1) (N := 5) hx hb hts in_X1 hown hK hP 5 rfl rfl 4 (by decide) kf_24 (fun _ h9 => h9) rfl dX1_copyFrom_62 ?_
  refine va_put (D := D) (ci := 1) (v := .int (N 0 4)) (ty := .int) (C := RX1) (T := TX1) (N := 5) hx hb hts in_X1 tyX1 tyX1_ok nmX1 hown hK hP hD hS 0 rfl rfl 4 (by decide) kf_24 (fun _ h9 => h9) rfl (by decide +kernel) rfl rfl (Nat.le_of_ble_eq_true rfl) dX1_copyFrom_65 (fun H locs hP hD hS => ?_)
  obtain ⟨M_5, eM_5⟩ : ∃ z : ST, z = x_st M_4 0 4 (N 0 4) := ⟨_, rfl⟩
  have hP : va_P D vwCl ((w_Changes cT a M_5) ++ (w_Changes cT b N)) H := by rw [eM_5]; exact hP
  have hD : va_D A ((w_Changes cT a M_5) ++ (w_Changes cT b N)) := by rw [eM_5]; exact hD
  have hv := hv M_5 eM_5
  exact W.vret hx hb hr (fun t ht hW => ⟨⟨M_5, rfl, hv, by rw [ht]; exact hP, va_K.moved hW.alike hK, hD⟩, hS.F ht⟩) hS.2.2 dX1_copyFrom_68
