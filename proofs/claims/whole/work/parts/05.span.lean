def v_X6_whole (M : ST) (post : Int32 → Prop) : Prop := post ((((M 0 0) + (M 0 1)) + (M 0 2)) + (M 0 3))
set_option maxHeartbeats 4000000 in
set_option maxRecDepth 100000 in
theorem c_X6_whole (l : Launch) (D : va_G) (cT : Nat → ClassId) (a : Nat → Nat) (M : ST) (post : Int32 → Prop) (hv : v_X6_whole M post) : Met l yX6_whole wsX6_whole ({ frames := 0, cells := 0, slots := 0, locals := 0 }) (va_Pc [.ref (a 0)] (x_R D cT ((w_Span cT a M)))) (vp_Si post) 0 0 (fun _ => False) := by
  refine Met.ofW (cc := cX6_whole) (maxL := 1) (ret := (some .int)) (by decide) rfl ?_
  intro p e s m args below meth c s₁ B hml hpre
  obtain ⟨rfl, hP, hK, hN⟩ := hpre
  have hx := B.exec
  have hb := B.bytes
  have hr := B.returns
  have hts := atoms_spec (ws := wsX6_whole) B.pre
  have hown : s.vm.findClass RX6 = some m.cls := findClass_of_methodNamed B.named
  have hlocks := B.notSynchronized
  have hS : va_S (fun _ : Nat => False) s.heap s.heap [] := va_S.rf
  have hl := lv_entry ([.ref (a 0)]) (n := 1) (Nat.le_of_ble_eq_true rfl)
  rw [lg_entry_eq]
  generalize (lg_sl ([.ref (a 0)]) ++ List.replicate (1 - (lg_sl ([.ref (a 0)])).length) Slot.unset).toArray = ls at hl ⊢
  have hl : lv_has ls 1 [(0, .ref (a 0))] := hl
  have in_X6 : ∀ w ∈ wsX60, w ∈ wsX6_whole := by decide +kernel
  have kf_7 : (Cond.fieldLink RX6 7 "PictureBeats$Span" "seen" "I").before ([.ref (a 0)] : List Value).toArray s = true := hts _ (by decide +kernel)
  have kf_13 : (Cond.fieldLink RX6 13 "PictureBeats$Span" "front" "I").before ([.ref (a 0)] : List Value).toArray s = true := hts _ (by decide +kernel)
  have kf_16 : (Cond.fieldLink RX6 16 "PictureBeats$Span" "sync" "I").before ([.ref (a 0)] : List Value).toArray s = true := hts _ (by decide +kernel)
  have kf_19 : (Cond.fieldLink RX6 19 "PictureBeats$Span" "back" "I").before ([.ref (a 0)] : List Value).toArray s = true := hts _ (by decide +kernel)
  refine lv_aload_n hx hb dX6_whole_0 rfl (lv_at hl 0 rfl) ?_
  refine va_get (D := D) (ci := 6) (v := .int (M 0 0)) (C := RX6) (T := TX6) (N := 4) hx hb hts in_X6 hown hK hP 0 rfl rfl 0 (by decide) kf_7 (fun _ h9 => h9) rfl dX6_whole_1 ?_
  refine lv_aload_n hx hb dX6_whole_4 rfl (lv_at hl 0 rfl) ?_
  refine va_get (D := D) (ci := 6) (v := .int (M 0 1)) (C := RX6) (T := TX6) (N := 4) hx hb hts in_X6 hown hK hP 0 rfl rfl 1 (by decide) kf_13 (fun _ h9 => h9) rfl dX6_whole_5 ?_
  refine lv_iadd hx hb dX6_whole_8 ?_
  refine lv_aload_n hx hb dX6_whole_9 rfl (lv_at hl 0 rfl) ?_
  refine va_get (D := D) (ci := 6) (v := .int (M 0 2)) (C := RX6) (T := TX6) (N := 4) hx hb hts in_X6 hown hK hP 0 rfl rfl 2 (by decide) kf_16 (fun _ h9 => h9) rfl dX6_whole_10 ?_
  refine lv_iadd hx hb dX6_whole_13 ?_
  refine lv_aload_n hx hb dX6_whole_14 rfl (lv_at hl 0 rfl) ?_
  refine va_get (D := D) (ci := 6) (v := .int (M 0 3)) (C := RX6) (T := TX6) (N := 4) hx hb hts in_X6 hown hK hP 0 rfl rfl 3 (by decide) kf_19 (fun _ h9 => h9) rfl dX6_whole_15 ?_
  refine lv_iadd hx hb dX6_whole_18 ?_
  exact W.iret (v := ((((M 0 0) + (M 0 1)) + (M 0 2)) + (M 0 3))) hx hb hr (fun t ht hW => ⟨_, rfl, hv, ht⟩) (fun q h => absurd h List.not_mem_nil) dX6_whole_19
def v_X6_isSeen (M : ST) (p1 : Int32) (post : Int32 → Prop) : Prop := ((((M 0 0) ≤ p1) → post 0) ∧ ((¬ ((M 0 0) ≤ p1)) → post 1))
set_option maxHeartbeats 4000000 in
set_option maxRecDepth 100000 in
theorem c_X6_isSeen (l : Launch) (D : va_G) (cT : Nat → ClassId) (a : Nat → Nat) (M : ST) (p1 : Int32) (post : Int32 → Prop) (hv : v_X6_isSeen M p1 post) : Met l yX6_isSeen wsX6_isSeen ({ frames := 0, cells := 0, slots := 0, locals := 0 }) (va_Pc [.ref (a 0), .int p1] (x_R D cT ((w_Span cT a M)))) (vp_Si post) 0 0 (fun _ => False) := by
  refine Met.ofW (cc := cX6_isSeen) (maxL := 2) (ret := (some .boolean)) (by decide) rfl ?_
  intro p e s m args below meth c s₁ B hml hpre
  obtain ⟨rfl, hP, hK, hN⟩ := hpre
  have hx := B.exec
  have hb := B.bytes
  have hr := B.returns
  have hts := atoms_spec (ws := wsX6_isSeen) B.pre
  have hown : s.vm.findClass RX6 = some m.cls := findClass_of_methodNamed B.named
  have hlocks := B.notSynchronized
  have hS : va_S (fun _ : Nat => False) s.heap s.heap [] := va_S.rf
  have hl := lv_entry ([.ref (a 0), .int p1]) (n := 2) (Nat.le_of_ble_eq_true rfl)
  rw [lg_entry_eq]
  generalize (lg_sl ([.ref (a 0), .int p1]) ++ List.replicate (2 - (lg_sl ([.ref (a 0), .int p1])).length) Slot.unset).toArray = ls at hl ⊢
  have hl : lv_has ls 2 [(0, .ref (a 0)), (1, .int p1)] := hl
  have in_X6 : ∀ w ∈ wsX60, w ∈ wsX6_isSeen := by decide +kernel
  have kf_7 : (Cond.fieldLink RX6 7 "PictureBeats$Span" "seen" "I").before ([.ref (a 0), .int p1] : List Value).toArray s = true := hts _ (by decide +kernel)
  refine lv_iload_n hx hb dX6_isSeen_0 rfl (lv_at hl 1 rfl) ?_
  refine lv_aload_n hx hb dX6_isSeen_1 rfl (lv_at hl 0 rfl) ?_
  refine va_get (D := D) (ci := 6) (v := .int (M 0 0)) (C := RX6) (T := TX6) (N := 4) hx hb hts in_X6 hown hK hP 0 rfl rfl 0 (by decide) kf_7 (fun _ h9 => h9) rfl dX6_isSeen_2 ?_
  refine lv_icmp_ge (tgt := 12) hx hb dX6_isSeen_5 (by decide) (fun c_1 => ?_) (fun c_1 => ?_)
  · have hv := hv.1 c_1
    refine lv_iconst (v := 0) hx hb dX6_isSeen_12 (by decide) ?_
    exact W.zret (v := 0) hx hb hr rfl (fun t ht hW => ⟨_, rfl, hv, ht⟩) (fun q h => absurd h List.not_mem_nil) dX6_isSeen_13
  · have hv := hv.2 c_1
    refine lv_iconst (v := 1) hx hb dX6_isSeen_8 (by decide) ?_
    refine lv_goto (tgt := 13) hx hb dX6_isSeen_9 (by decide) ?_
    exact W.zret (v := 1) hx hb hr rfl (fun t ht hW => ⟨_, rfl, hv, ht⟩) (fun q h => absurd h List.not_mem_nil) dX6_isSeen_13
def v_X6_isSync (M : ST) (p1 : Int32) (post : Int32 → Prop) : Prop := ∀ x_1 : Int32, x_1 = ((M 0 0) + (M 0 1)) → (((p1 < x_1) → post 0) ∧ ((¬ (p1 < x_1)) → ((((x_1 + (M 0 2)) ≤ p1) → post 0) ∧ ((¬ ((x_1 + (M 0 2)) ≤ p1)) → post 1))))
set_option maxHeartbeats 4000000 in
set_option maxRecDepth 100000 in
theorem c_X6_isSync (l : Launch) (D : va_G) (cT : Nat → ClassId) (a : Nat → Nat) (M : ST) (p1 : Int32) (post : Int32 → Prop) (hv : v_X6_isSync M p1 post) : Met l yX6_isSync wsX6_isSync ({ frames := 0, cells := 0, slots := 0, locals := 0 }) (va_Pc [.ref (a 0), .int p1] (x_R D cT ((w_Span cT a M)))) (vp_Si post) 0 0 (fun _ => False) := by
  refine Met.ofW (cc := cX6_isSync) (maxL := 3) (ret := (some .boolean)) (by decide) rfl ?_
  intro p e s m args below meth c s₁ B hml hpre
  obtain ⟨rfl, hP, hK, hN⟩ := hpre
  have hx := B.exec
  have hb := B.bytes
  have hr := B.returns
  have hts := atoms_spec (ws := wsX6_isSync) B.pre
  have hown : s.vm.findClass RX6 = some m.cls := findClass_of_methodNamed B.named
  have hlocks := B.notSynchronized
  have hS : va_S (fun _ : Nat => False) s.heap s.heap [] := va_S.rf
  have hl := lv_entry ([.ref (a 0), .int p1]) (n := 3) (Nat.le_of_ble_eq_true rfl)
  rw [lg_entry_eq]
  generalize (lg_sl ([.ref (a 0), .int p1]) ++ List.replicate (3 - (lg_sl ([.ref (a 0), .int p1])).length) Slot.unset).toArray = ls at hl ⊢
  have hl : lv_has ls 3 [(0, .ref (a 0)), (1, .int p1)] := hl
  have in_X6 : ∀ w ∈ wsX60, w ∈ wsX6_isSync := by decide +kernel
  have kf_7 : (Cond.fieldLink RX6 7 "PictureBeats$Span" "seen" "I").before ([.ref (a 0), .int p1] : List Value).toArray s = true := hts _ (by decide +kernel)
  have kf_13 : (Cond.fieldLink RX6 13 "PictureBeats$Span" "front" "I").before ([.ref (a 0), .int p1] : List Value).toArray s = true := hts _ (by decide +kernel)
  have kf_16 : (Cond.fieldLink RX6 16 "PictureBeats$Span" "sync" "I").before ([.ref (a 0), .int p1] : List Value).toArray s = true := hts _ (by decide +kernel)
  refine lv_aload_n hx hb dX6_isSync_0 rfl (lv_at hl 0 rfl) ?_
  refine va_get (D := D) (ci := 6) (v := .int (M 0 0)) (C := RX6) (T := TX6) (N := 4) hx hb hts in_X6 hown hK hP 0 rfl rfl 0 (by decide) kf_7 (fun _ h9 => h9) rfl dX6_isSync_1 ?_
  refine lv_aload_n hx hb dX6_isSync_4 rfl (lv_at hl 0 rfl) ?_
  refine va_get (D := D) (ci := 6) (v := .int (M 0 1)) (C := RX6) (T := TX6) (N := 4) hx hb hts in_X6 hown hK hP 0 rfl rfl 1 (by decide) kf_13 (fun _ h9 => h9) rfl dX6_isSync_5 ?_
  refine lv_iadd hx hb dX6_isSync_8 ?_
  refine lv_topi (fun x_1 ex_1 => ?_)
  have hv := hv x_1 ex_1
  refine lv_istore_n (lv' := [(2, .int x_1), (0, .ref (a 0)), (1, .int p1)]) hx hb dX6_isSync_9 rfl hl (by decide) rfl (fun ls hl => ?_)
  refine lv_iload_n hx hb dX6_isSync_10 rfl (lv_at hl 2 rfl) ?_
  refine lv_iload_n hx hb dX6_isSync_11 rfl (lv_at hl 0 rfl) ?_
  refine lv_icmp_lt (tgt := 29) hx hb dX6_isSync_12 (by decide) (fun c_2 => ?_) (fun c_2 => ?_)
  · have hv := hv.1 c_2
    refine lv_iconst (v := 0) hx hb dX6_isSync_29 (by decide) ?_
    exact W.zret (v := 0) hx hb hr rfl (fun t ht hW => ⟨_, rfl, hv, ht⟩) (fun q h => absurd h List.not_mem_nil) dX6_isSync_30
  · have hv := hv.2 c_2
    refine lv_iload_n hx hb dX6_isSync_15 rfl (lv_at hl 2 rfl) ?_
    refine lv_iload_n hx hb dX6_isSync_16 rfl (lv_at hl 0 rfl) ?_
    refine lv_aload_n hx hb dX6_isSync_17 rfl (lv_at hl 1 rfl) ?_
    refine va_get (D := D) (ci := 6) (v := .int (M 0 2)) (C := RX6) (T := TX6) (N := 4) hx hb hts in_X6 hown hK hP 0 rfl rfl 2 (by decide) kf_16 (fun _ h9 => h9) rfl dX6_isSync_18 ?_
    refine lv_iadd hx hb dX6_isSync_21 ?_
    refine lv_icmp_ge (tgt := 29) hx hb dX6_isSync_22 (by decide) (fun c_3 => ?_) (fun c_3 => ?_)
    · have hv := hv.1 c_3
      refine lv_iconst (v := 0) hx hb dX6_isSync_29 (by decide) ?_
      exact W.zret (v := 0) hx hb hr rfl (fun t ht hW => ⟨_, rfl, hv, ht⟩) (fun q h => absurd h List.not_mem_nil) dX6_isSync_30
    · have hv := hv.2 c_3
      refine lv_iconst (v := 1) hx hb dX6_isSync_25 (by decide) ?_
      refine lv_goto (tgt := 30) hx hb dX6_isSync_26 (by decide) ?_
      exact W.zret (v := 1) hx hb hr rfl (fun t ht hW => ⟨_, rfl, hv, ht⟩) (fun q h => absurd h List.not_mem_nil) dX6_isSync_30
def v_X6_tell (M : ST) (p1 : Int32) (p2 : Int32) (p3 : Int32) (p4 : Int32) (post : ST → Prop) : Prop := ∀ M_1 : ST, M_1 = x_st M 0 0 p1 → ∀ M_2 : ST, M_2 = x_st M_1 0 1 p2 → ∀ M_3 : ST, M_3 = x_st M_2 0 2 p3 → ∀ M_4 : ST, M_4 = x_st M_3 0 3 p4 → post M_4
set_option maxHeartbeats 4000000 in
set_option maxRecDepth 100000 in
theorem c_X6_tell (l : Launch) (D : va_G) (cT : Nat → ClassId) (a : Nat → Nat) (M : ST) (p1 : Int32) (p2 : Int32) (p3 : Int32) (p4 : Int32) (sz : Nat) (post : ST → Prop) (hv : v_X6_tell M p1 p2 p3 p4 post) : Met l yX6_tell wsX6_tell ({ frames := 0, cells := 0, slots := 0, locals := 0 }) (va_Pc [.ref (a 0), .int p1, .int p2, .int p3, .int p4] (x_U D cT ((w_Span cT a M)) sz)) (va_Qv post (fun u t => x_B D cT ((w_Span cT a u)) (va_A ((w_Span cT a M)) sz) t) (va_A ((w_Span cT a M)) sz)) 0 0 (va_A ((w_Span cT a M)) sz) := by
  refine Met.ofW (cc := cX6_tell) (maxL := 5) (ret := none) (by decide) rfl ?_
  intro p e s m args below meth c s₁ B hml hpre
  obtain ⟨rfl, hsz, hP, hK, hD0, hN⟩ := hpre
  have hx := B.exec
  have hb := B.bytes
  have hr := B.returns
  have hts := atoms_spec (ws := wsX6_tell) B.pre
  have hown : s.vm.findClass RX6 = some m.cls := findClass_of_methodNamed B.named
  have hlocks := B.notSynchronized
  subst hsz
  have hD := hD0.self (sz := s.heap.size)
  generalize hAe : va_A ((w_Span cT a M)) s.heap.size = A at hD hN ⊢
  have hA : ∀ q : Nat, s.heap.size ≤ q → A q := fun q h => by rw [← hAe]; exact Or.inr h
  have hS : va_S A s.heap s.heap [] := va_S.rf
  have hl := lv_entry ([.ref (a 0), .int p1, .int p2, .int p3, .int p4]) (n := 5) (Nat.le_of_ble_eq_true rfl)
  rw [lg_entry_eq]
  generalize (lg_sl ([.ref (a 0), .int p1, .int p2, .int p3, .int p4]) ++ List.replicate (5 - (lg_sl ([.ref (a 0), .int p1, .int p2, .int p3, .int p4])).length) Slot.unset).toArray = ls at hl ⊢
  have hl : lv_has ls 5 [(0, .ref (a 0)), (1, .int p1), (2, .int p2), (3, .int p3), (4, .int p4)] := hl
  have in_X6 : ∀ w ∈ wsX60, w ∈ wsX6_tell := by decide +kernel
  have kf_7 : (Cond.fieldLink RX6 7 "PictureBeats$Span" "seen" "I").before ([.ref (a 0), .int p1, .int p2, .int p3, .int p4] : List Value).toArray s = true := hts _ (by decide +kernel)
  have kf_13 : (Cond.fieldLink RX6 13 "PictureBeats$Span" "front" "I").before ([.ref (a 0), .int p1, .int p2, .int p3, .int p4] : List Value).toArray s = true := hts _ (by decide +kernel)
  have kf_16 : (Cond.fieldLink RX6 16 "PictureBeats$Span" "sync" "I").before ([.ref (a 0), .int p1, .int p2, .int p3, .int p4] : List Value).toArray s = true := hts _ (by decide +kernel)
  have kf_19 : (Cond.fieldLink RX6 19 "PictureBeats$Span" "back" "I").before ([.ref (a 0), .int p1, .int p2, .int p3, .int p4] : List Value).toArray s = true := hts _ (by decide +kernel)
  refine lv_aload_n hx hb dX6_tell_0 rfl (lv_at hl 0 rfl) ?_
  refine lv_iload_n hx hb dX6_tell_1 rfl (lv_at hl 1 rfl) ?_
  refine va_put (D := D) (ci := 6) (v := .int p1) (ty := .int) (C := RX6) (T := TX6) (N := 4) hx hb hts in_X6 tyX6 tyX6_ok nmX6 hown hK hP hD hS 0 rfl rfl 0 (by decide) kf_7 (fun _ h9 => h9) rfl (by decide +kernel) rfl rfl (Nat.le_of_ble_eq_true rfl) dX6_tell_2 (fun H locs hP hD hS => ?_)
  obtain ⟨M_1, eM_1⟩ : ∃ z : ST, z = x_st M 0 0 p1 := ⟨_, rfl⟩
  have hP : va_P D vwCl ((w_Span cT a M_1)) H := by rw [eM_1]; exact hP
  have hD : va_D A ((w_Span cT a M_1)) := by rw [eM_1]; exact hD
  have hv := hv M_1 eM_1
  refine lv_aload_n hx hb dX6_tell_5 rfl (lv_at hl 0 rfl) ?_
  refine lv_iload_n hx hb dX6_tell_6 rfl (lv_at hl 2 rfl) ?_
  refine va_put (D := D) (ci := 6) (v := .int p2) (ty := .int) (C := RX6) (T := TX6) (N := 4) hx hb hts in_X6 tyX6 tyX6_ok nmX6 hown hK hP hD hS 0 rfl rfl 1 (by decide) kf_13 (fun _ h9 => h9) rfl (by decide +kernel) rfl rfl (Nat.le_of_ble_eq_true rfl) dX6_tell_7 (fun H locs hP hD hS => ?_)
  obtain ⟨M_2, eM_2⟩ : ∃ z : ST, z = x_st M_1 0 1 p2 := ⟨_, rfl⟩
  have hP : va_P D vwCl ((w_Span cT a M_2)) H := by rw [eM_2]; exact hP
  have hD : va_D A ((w_Span cT a M_2)) := by rw [eM_2]; exact hD
  have hv := hv M_2 eM_2
  refine lv_aload_n hx hb dX6_tell_10 rfl (lv_at hl 0 rfl) ?_
  refine lv_iload_n hx hb dX6_tell_11 rfl (lv_at hl 3 rfl) ?_
  refine va_put (D := D) (ci := 6) (v := .int p3) (ty := .int) (C := RX6) (T := TX6) (N := 4) hx hb hts in_X6 tyX6 tyX6_ok nmX6 hown hK hP hD hS 0 rfl rfl 2 (by decide) kf_16 (fun _ h9 => h9) rfl (by decide +kernel) rfl rfl (Nat.le_of_ble_eq_true rfl) dX6_tell_12 (fun H locs hP hD hS => ?_)
  obtain ⟨M_3, eM_3⟩ : ∃ z : ST, z = x_st M_2 0 2 p3 := ⟨_, rfl⟩
  have hP : va_P D vwCl ((w_Span cT a M_3)) H := by rw [eM_3]; exact hP
  have hD : va_D A ((w_Span cT a M_3)) := by rw [eM_3]; exact hD
  have hv := hv M_3 eM_3
  refine lv_aload_n hx hb dX6_tell_15 rfl (lv_at hl 0 rfl) ?_
  refine lv_iload hx hb dX6_tell_16 (lv_at hl 4 rfl) ?_
  refine va_put (D := D) (ci := 6) (v := .int p4) (ty := .int) (C := RX6) (T := TX6) (N := 4) hx hb hts in_X6 tyX6 tyX6_ok nmX6 hown hK hP hD hS 0 rfl rfl 3 (by decide) kf_19 (fun _ h9 => h9) rfl (by decide +kernel) rfl rfl (Nat.le_of_ble_eq_true rfl) dX6_tell_18 (fun H locs hP hD hS => ?_)
  obtain ⟨M_4, eM_4⟩ : ∃ z : ST, z = x_st M_3 0 3 p4 := ⟨_, rfl⟩
  have hP : va_P D vwCl ((w_Span cT a M_4)) H := by rw [eM_4]; exact hP
  have hD : va_D A ((w_Span cT a M_4)) := by rw [eM_4]; exact hD
  have hv := hv M_4 eM_4
  exact W.vret hx hb hr (fun t ht hW => ⟨⟨M_4, rfl, hv, by rw [ht]; exact hP, va_K.moved hW.alike hK, hD⟩, hS.F ht⟩) hS.2.2 dX6_tell_21
def v_X6_copyFrom (M : ST) (N : ST) (post : ST → Prop) : Prop := v_X6_tell M (N 0 0) (N 0 1) (N 0 2) (N 0 3) (fun (u_1 : ST) => post u_1)
set_option maxHeartbeats 4000000 in
set_option maxRecDepth 100000 in
theorem c_X6_copyFrom (l : Launch) (D : va_G) (cT : Nat → ClassId) (a : Nat → Nat) (M : ST) (b : Nat → Nat) (N : ST) (sz : Nat) (post : ST → Prop) (hv : v_X6_copyFrom M N post) : Met l yX6_copyFrom wsX6_copyFrom ({ frames := 1, cells := 0, slots := 0, locals := 24 }) (va_Pc [.ref (a 0), .ref (b 0)] (x_U D cT ((w_Span cT a M) ++ (w_Span cT b N)) sz)) (va_Qv post (fun u t => x_B D cT ((w_Span cT a u) ++ (w_Span cT b N)) (va_A ((w_Span cT a M) ++ (w_Span cT b N)) sz) t) (va_A ((w_Span cT a M) ++ (w_Span cT b N)) sz)) 0 0 (va_A ((w_Span cT a M) ++ (w_Span cT b N)) sz) := by
  refine Met.ofW (cc := cX6_copyFrom) (maxL := 2) (ret := none) (by decide) rfl ?_
  intro p e s m args below meth c s₁ B hml hpre
  obtain ⟨rfl, hsz, hP, hK, hD0, hN⟩ := hpre
  have hx := B.exec
  have hb := B.bytes
  have hr := B.returns
  have hts := atoms_spec (ws := wsX6_copyFrom) B.pre
  have hown : s.vm.findClass RX6 = some m.cls := findClass_of_methodNamed B.named
  have hlocks := B.notSynchronized
  subst hsz
  have hD := hD0.self (sz := s.heap.size)
  generalize hAe : va_A ((w_Span cT a M) ++ (w_Span cT b N)) s.heap.size = A at hD hN ⊢
  have hA : ∀ q : Nat, s.heap.size ≤ q → A q := fun q h => by rw [← hAe]; exact Or.inr h
  have hS : va_S A s.heap s.heap [] := va_S.rf
  have hl := lv_entry ([.ref (a 0), .ref (b 0)]) (n := 2) (Nat.le_of_ble_eq_true rfl)
  rw [lg_entry_eq]
  generalize (lg_sl ([.ref (a 0), .ref (b 0)]) ++ List.replicate (2 - (lg_sl ([.ref (a 0), .ref (b 0)])).length) Slot.unset).toArray = ls at hl ⊢
  have hl : lv_has ls 2 [(0, .ref (a 0)), (1, .ref (b 0))] := hl
  have in_X6 : ∀ w ∈ wsX60, w ∈ wsX6_copyFrom := by decide +kernel
  have kf_7 : (Cond.fieldLink RX6 7 "PictureBeats$Span" "seen" "I").before ([.ref (a 0), .ref (b 0)] : List Value).toArray s = true := hts _ (by decide +kernel)
  have kf_13 : (Cond.fieldLink RX6 13 "PictureBeats$Span" "front" "I").before ([.ref (a 0), .ref (b 0)] : List Value).toArray s = true := hts _ (by decide +kernel)
  have kf_16 : (Cond.fieldLink RX6 16 "PictureBeats$Span" "sync" "I").before ([.ref (a 0), .ref (b 0)] : List Value).toArray s = true := hts _ (by decide +kernel)
  have kf_19 : (Cond.fieldLink RX6 19 "PictureBeats$Span" "back" "I").before ([.ref (a 0), .ref (b 0)] : List Value).toArray s = true := hts _ (by decide +kernel)
  have w_22 : CallW (headSpec wsX6_copyFrom ({ frames := 1, cells := 0, slots := 0, locals := 24 })).room s ([.ref (a 0), .ref (b 0)] : List Value).toArray RX6 RX6 22 yX6_tell cX6_tell 5 none wsX6_tell ({ frames := 0, cells := 0, slots := 0, locals := 0 } : Room) 0 0 4 := cwV 4 hts gX6_copyFrom_X6_tell rfl rfl rfl (by decide +kernel) ⟨Nat.le_of_ble_eq_true rfl, Nat.le_of_ble_eq_true rfl⟩
  refine lv_aload_n hx hb dX6_copyFrom_0 rfl (lv_at hl 0 rfl) ?_
  refine lv_aload_n hx hb dX6_copyFrom_1 rfl (lv_at hl 1 rfl) ?_
  refine va_get (D := D) (ci := 6) (v := .int (N 0 0)) (C := RX6) (T := TX6) (N := 4) hx hb hts in_X6 hown hK hP 1 rfl rfl 0 (by decide) kf_7 (fun _ h9 => h9) rfl dX6_copyFrom_2 ?_
  refine lv_aload_n hx hb dX6_copyFrom_5 rfl (lv_at hl 1 rfl) ?_
  refine va_get (D := D) (ci := 6) (v := .int (N 0 1)) (C := RX6) (T := TX6) (N := 4) hx hb hts in_X6 hown hK hP 1 rfl rfl 1 (by decide) kf_13 (fun _ h9 => h9) rfl dX6_copyFrom_6 ?_
  refine lv_aload_n hx hb dX6_copyFrom_9 rfl (lv_at hl 1 rfl) ?_
  refine va_get (D := D) (ci := 6) (v := .int (N 0 2)) (C := RX6) (T := TX6) (N := 4) hx hb hts in_X6 hown hK hP 1 rfl rfl 2 (by decide) kf_16 (fun _ h9 => h9) rfl dX6_copyFrom_10 ?_
  refine lv_aload_n hx hb dX6_copyFrom_13 rfl (lv_at hl 1 rfl) ?_
  refine va_get (D := D) (ci := 6) (v := .int (N 0 3)) (C := RX6) (T := TX6) (N := 4) hx hb hts in_X6 hown hK hP 1 rfl rfl 3 (by decide) kf_19 (fun _ h9 => h9) rfl dX6_copyFrom_14 ?_
  refine x_cVv (As := [.int (N 0 0), .int (N 0 1), .int (N 0 2), .int (N 0 3)]) (rest := []) (wn := fun u_1 => (w_Span cT a u_1) ++ (w_Span cT b N)) ⟨hx, hb, hml, hown, hts⟩ (c_X6_tell l D cT a M (N 0 0) (N 0 1) (N 0 2) (N 0 3) _ _ hv) w_22 hK hP hD hS hA hN [0] [1] [1, 0] rfl rfl (fun _ => rfl) (by decide) (by decide) (by decide) (by decide) 6 0 rfl rfl rfl hl.1 rfl (Nat.le_of_ble_eq_true rfl) dX6_copyFrom_17 ⟨Nat.le_of_ble_eq_true rfl, Nat.le_of_ble_eq_true rfl⟩ (fun u_1 H locs hv hP hD hS => ?_)
  exact W.vret hx hb hr (fun t ht hW => ⟨⟨u_1, rfl, hv, by rw [ht]; exact hP, va_K.moved hW.alike hK, hD⟩, hS.F ht⟩) hS.2.2 dX6_copyFrom_20
