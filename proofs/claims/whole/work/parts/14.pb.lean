def lp_X8_ticks_29 (p1 : Int32) (post : Int32 → ST → Prop) (K_ : Int32 → ST → Prop) : Nat → Int32 → ST → Prop
  | 0, _, _ => False
  | n_9 + 1, y_7, M_8 => (((p1 ≤ y_7) → K_ y_7 M_8) ∧ ((¬ (p1 ≤ y_7)) → v_X3_tick (x_sh M_8 2) (fun (u_11 : ST) => ∀ M_12 : ST, M_12 = x_wb M_8 2 29 u_11 → ∀ x_13 : Int32, x_13 = y_7 + 1 → lp_X8_ticks_29 p1 post K_ n_9 x_13 M_12)))
def v_X8_ticks (M : ST) (p1 : Int32) (post : Int32 → ST → Prop) : Prop := v_X8_within p1 1 4000 (fun r_1 => (((r_1 = 0) → post (-1) M) ∧ ((¬ (r_1 = 0)) → ((((M 2 10) ≤ (1000000 - p1)) → (∃ n_14 : Nat, lp_X8_ticks_29 p1 post (fun (y_5 : Int32) (M_6 : ST) => post (M_6 2 10) M_6) n_14 0 M)) ∧ ((¬ ((M 2 10) ≤ (1000000 - p1))) → post (-1) M)))))
set_option maxHeartbeats 4000000 in
set_option maxRecDepth 100000 in
theorem c_X8_ticks (l : Launch) (D : va_G) (cT : Nat → ClassId) (a : Nat → Nat) (M : ST) (im : Nat → Option Nat) (p1 : Int32) (sz : Nat) (post : Int32 → ST → Prop) (hv : v_X8_ticks M p1 post) : Met l yX8_ticks wsX8_ticks ({ frames := 6, cells := 0, slots := 0, locals := 126 }) (va_Pc [.ref (a 0), .int p1] (x_U D cT ((w_PB cT a M im)) sz)) (va_Qi post (fun u t => x_B D cT ((w_PB cT a u im)) (va_A ((w_PB cT a M im)) sz) t) (va_A ((w_PB cT a M im)) sz)) 0 0 (va_A ((w_PB cT a M im)) sz) := by
  refine Met.ofW (cc := cX8_ticks) (maxL := 3) (ret := (some .int)) (by decide) rfl ?_
  intro p e s m args below meth c s₁ B hml hpre
  obtain ⟨rfl, hsz, hP, hK, hD0, hN⟩ := hpre
  have hx := B.exec
  have hb := B.bytes
  have hr := B.returns
  have hts := atoms_spec (ws := wsX8_ticks) B.pre
  have hown : s.vm.findClass RX8 = some m.cls := findClass_of_methodNamed B.named
  have hlocks := B.notSynchronized
  subst hsz
  have hD := hD0.self (sz := s.heap.size)
  generalize hAe : va_A ((w_PB cT a M im)) s.heap.size = A at hD hN ⊢
  have hA : ∀ q : Nat, s.heap.size ≤ q → A q := fun q h => by rw [← hAe]; exact Or.inr h
  have hS : va_S A s.heap s.heap [] := va_S.rf
  have hl := lv_entry ([.ref (a 0), .int p1]) (n := 3) (Nat.le_of_ble_eq_true rfl)
  rw [lg_entry_eq]
  generalize (lg_sl ([.ref (a 0), .int p1]) ++ List.replicate (3 - (lg_sl ([.ref (a 0), .int p1])).length) Slot.unset).toArray = ls at hl ⊢
  have hl : lv_has ls 3 [(0, .ref (a 0)), (1, .int p1)] := hl
  have in_X3 : ∀ w ∈ wsX30, w ∈ wsX8_ticks := by decide +kernel
  have in_X8 : ∀ w ∈ wsX80, w ∈ wsX8_ticks := by decide +kernel
  have w_20 : CallB (headSpec wsX8_ticks ({ frames := 6, cells := 0, slots := 0, locals := 126 })).room s ([.ref (a 0), .int p1] : List Value).toArray RX8 20 yX8_within cX8_within 3 (some .boolean) wsX8_within ({ frames := 0, cells := 0, slots := 0, locals := 0 } : Room) 0 0 3 ∧ (Cond.static yX8_within).before ([.ref (a 0), .int p1] : List Value).toArray s = true := va_cwS 3 hts gX8_ticks_X8_within rfl rfl rfl (by decide +kernel) ⟨Nat.le_of_ble_eq_true rfl, Nat.le_of_ble_eq_true rfl⟩
  have kf_10 : (Cond.fieldLink RX8 10 "PictureBeats" "machine" "LPictureBeats$Machine;").before ([.ref (a 0), .int p1] : List Value).toArray s = true := hts _ (by decide +kernel)
  have kf_112 : (Cond.fieldLink RX8 112 "PictureBeats$Machine" "ticks" "I").before ([.ref (a 0), .int p1] : List Value).toArray s = true := hts _ (by decide +kernel)
  have kc_115 : (Cond.constant RX8 115 (1000000)).before ([.ref (a 0), .int p1] : List Value).toArray s = true := hts _ (by decide +kernel)
  have w_116 : CallW (headSpec wsX8_ticks ({ frames := 6, cells := 0, slots := 0, locals := 126 })).room s ([.ref (a 0), .int p1] : List Value).toArray RX8 RX3 116 yX3_tick cX3_tick 1 none wsX3_tick ({ frames := 5, cells := 0, slots := 0, locals := 106 } : Room) 0 0 0 := cwV 0 hts gX8_ticks_X3_tick rfl rfl rfl (by decide +kernel) ⟨Nat.le_of_ble_eq_true rfl, Nat.le_of_ble_eq_true rfl⟩
  refine lv_iload_n hx hb dX8_ticks_0 rfl (lv_at hl 1 rfl) ?_
  refine lv_iconst (v := 1) hx hb dX8_ticks_1 (by decide) ?_
  refine lv_sipush (v := 4000) hx hb dX8_ticks_2 (by decide) ?_
  refine x_rS (As := [.int p1, .int 1, .int 4000]) (rest := []) ⟨hx, hb, hml, hown, hts⟩ (c_X8_within l D cT p1 1 4000 _ hv) w_20 hK hS hN rfl hl.1 rfl (Nat.le_of_ble_eq_true rfl) dX8_ticks_5 ⟨Nat.le_of_ble_eq_true rfl, Nat.le_of_ble_eq_true rfl⟩ (fun r_1 hv => ?_)
  refine lv_if_eq (tgt := 25) hx hb dX8_ticks_8 (by decide) (fun c_2 => ?_) (fun c_2 => ?_)
  · have hv := hv.1 c_2
    refine lv_iconst (v := (-1)) hx hb dX8_ticks_25 (by decide) ?_
    exact W.iret (v := (-1)) hx hb hr (fun t ht hW => ⟨⟨_, M, rfl, hv, by rw [ht]; exact hP, va_K.moved hW.alike hK, hD⟩, hS.F ht⟩) hS.2.2 dX8_ticks_26
  · have hv := hv.2 c_2
    refine lv_aload_n hx hb dX8_ticks_11 rfl (lv_at hl 0 rfl) ?_
    refine va_get (D := D) (ci := 8) (v := .ref (a 2)) (C := RX8) (T := TX8) (N := 2) hx hb hts in_X8 hown hK hP 0 rfl rfl 0 (by decide) kf_10 (fun _ h9 => h9) rfl dX8_ticks_12 ?_
    refine va_get (D := D) (ci := 3) (v := .int (M 2 10)) (C := RX3) (T := TX3) (N := 12) hx hb hts in_X3 hown hK hP 2 rfl rfl 10 (by decide) kf_112 (fun _ h9 => h9) rfl dX8_ticks_15 ?_
    refine lv_ldc (v := 1000000) hx hb hown kc_115 dX8_ticks_18 ?_
    refine lv_iload_n hx hb dX8_ticks_20 rfl (lv_at hl 1 rfl) ?_
    refine lv_isub hx hb dX8_ticks_21 ?_
    refine lv_icmp_le (tgt := 27) hx hb dX8_ticks_22 (by decide) (fun c_3 => ?_) (fun c_3 => ?_)
    · have hv := hv.1 c_3
      refine lv_iconst (v := 0) hx hb dX8_ticks_27 (by decide) ?_
      refine lv_istore_n (lv' := [(2, .int 0), (0, .ref (a 0)), (1, .int p1)]) hx hb dX8_ticks_28 rfl hl (by decide) rfl (fun ls hl => ?_)
      obtain ⟨n_14, hv⟩ := hv
      have K_L_4 : ∀ (y_5 : Int32) (M_6 : ST), (post (M_6 2 10) M_6) → ∀ (H : Heap) (locs : List Loc), va_P D vwCl ((w_PB cT a M_6 im)) H → va_D A ((w_PB cT a M_6 im)) → va_S A s.heap H locs → ∀ ls : Array Slot, lv_has ls 3 [(2, .int y_5), (0, .ref (a 0)), (1, .int p1)] → W p l e (headSpec wsX8_ticks ({ frames := 6, cells := 0, slots := 0, locals := 126 })).room s m ([.ref (a 0), .int p1] : List Value).toArray below meth c H locs 0 0 (MQ below (va_Qi post (fun u t => x_B D cT ((w_PB cT a u im)) A t) A) ([.ref (a 0), .int p1] : List Value).toArray s 0 0 A) (F0 m 47 ls []) := by
        intro y_5 M_6 hv H locs hP hD hS ls hl
        refine lv_aload_n hx hb dX8_ticks_47 rfl (lv_at hl 1 rfl) ?_
        refine va_get (D := D) (ci := 8) (v := .ref (a 2)) (C := RX8) (T := TX8) (N := 2) hx hb hts in_X8 hown hK hP 0 rfl rfl 0 (by decide) kf_10 (fun _ h9 => h9) rfl dX8_ticks_48 ?_
        refine va_get (D := D) (ci := 3) (v := .int (M_6 2 10)) (C := RX3) (T := TX3) (N := 12) hx hb hts in_X3 hown hK hP 2 rfl rfl 10 (by decide) kf_112 (fun _ h9 => h9) rfl dX8_ticks_51 ?_
        exact W.iret (v := (M_6 2 10)) hx hb hr (fun t ht hW => ⟨⟨_, M_6, rfl, hv, by rw [ht]; exact hP, va_K.moved hW.alike hK, hD⟩, hS.F ht⟩) hS.2.2 dX8_ticks_54
      have L_4 : ∀ n_9 : Nat, ∀ (y_7 : Int32) (M_8 : ST), (lp_X8_ticks_29 p1 post (fun (y_5 : Int32) (M_6 : ST) => post (M_6 2 10) M_6) n_9 y_7 M_8) → ∀ (H : Heap) (locs : List Loc), va_P D vwCl ((w_PB cT a M_8 im)) H → va_D A ((w_PB cT a M_8 im)) → va_S A s.heap H locs → ∀ ls : Array Slot, lv_has ls 3 [(2, .int y_7), (0, .ref (a 0)), (1, .int p1)] → W p l e (headSpec wsX8_ticks ({ frames := 6, cells := 0, slots := 0, locals := 126 })).room s m ([.ref (a 0), .int p1] : List Value).toArray below meth c H locs 0 0 (MQ below (va_Qi post (fun u t => x_B D cT ((w_PB cT a u im)) A t) A) ([.ref (a 0), .int p1] : List Value).toArray s 0 0 A) (F0 m 29 ls []) := by
        intro n_9
        induction n_9 with
        | zero =>
          intro y_7 M_8 hv
          exact hv.elim
        | succ n_9 L_4_ih =>
          intro y_7 M_8 hv H locs hP hD hS ls hl
          refine lv_iload_n hx hb dX8_ticks_29 rfl (lv_at hl 0 rfl) ?_
          refine lv_iload_n hx hb dX8_ticks_30 rfl (lv_at hl 2 rfl) ?_
          refine lv_icmp_ge (tgt := 47) hx hb dX8_ticks_31 (by decide) (fun c_10 => ?_) (fun c_10 => ?_)
          · have hv := hv.1 c_10
            exact K_L_4 _ _ hv H locs hP hD hS ls (lv_sub hl [0, 1, 2] rfl)
          · have hv := hv.2 c_10
            refine lv_aload_n hx hb dX8_ticks_34 rfl (lv_at hl 1 rfl) ?_
            refine va_get (D := D) (ci := 8) (v := .ref (a 2)) (C := RX8) (T := TX8) (N := 2) hx hb hts in_X8 hown hK hP 0 rfl rfl 0 (by decide) kf_10 (fun _ h9 => h9) rfl dX8_ticks_35 ?_
            refine x_cVv (As := []) (rest := []) (wn := fun u_11 => (w_PB cT a (x_wb M_8 2 29 u_11) im)) ⟨hx, hb, hml, hown, hts⟩ (c_X3_tick l D cT (x_sh a 2) (x_sh M_8 2) _ _ hv) w_116 hK hP hD hS hA hN [2, 3, 4, 5, 6, 7, 8, 9, 10, 11, 12, 13, 14, 15, 16, 17, 18, 19, 20, 21, 22, 23, 24, 25, 26, 27, 28, 29, 30] [0, 1] [0, 1, 2, 3, 4, 5, 6, 7, 8, 9, 10, 11, 12, 13, 14, 15, 16, 17, 18, 19, 20, 21, 22, 23, 24, 25, 26, 27, 28, 29, 30] rfl rfl (fun _ => rfl) (by decide) (by decide) (by decide) (by decide) 3 0 rfl rfl rfl hl.1 rfl (Nat.le_of_ble_eq_true rfl) dX8_ticks_38 ⟨Nat.le_of_ble_eq_true rfl, Nat.le_of_ble_eq_true rfl⟩ (fun u_11 H locs hv hP hD hS => ?_)
            obtain ⟨M_12, eM_12⟩ : ∃ z : ST, z = x_wb M_8 2 29 u_11 := ⟨_, rfl⟩
            have hP : va_P D vwCl ((w_PB cT a M_12 im)) H := by rw [eM_12]; exact hP
            have hD : va_D A ((w_PB cT a M_12 im)) := by rw [eM_12]; exact hD
            have hv := hv M_12 eM_12
            obtain ⟨x_13, ex_13⟩ : ∃ z : Int32, z = y_7 + 1 := ⟨_, rfl⟩
            have hv := hv x_13 ex_13
            refine lv_iinc (v := x_13) (lv' := [(2, .int x_13), (0, .ref (a 0)), (1, .int p1)]) hx hb dX8_ticks_41 hl (k := 0) rfl (by rw [ex_13]; rfl) (by decide) rfl (fun ls hl => ?_)
            refine lv_goto (tgt := 29) hx hb dX8_ticks_44 (by decide) ?_
            exact L_4_ih _ _ hv H locs hP hD hS ls (lv_sub hl [0, 1, 2] rfl)
      exact L_4 n_14 _ _ hv _ _ hP hD hS ls hl
    · have hv := hv.2 c_3
      refine lv_iconst (v := (-1)) hx hb dX8_ticks_25 (by decide) ?_
      exact W.iret (v := (-1)) hx hb hr (fun t ht hW => ⟨⟨_, M, rfl, hv, by rw [ht]; exact hP, va_K.moved hW.alike hK, hD⟩, hS.F ht⟩) hS.2.2 dX8_ticks_26
def v_X8_shown (M : ST) (p1 : Int32) (p2 : Int32) (post : Int32 → Prop) : Prop := v_X8_placeOf p1 p2 (fun r_1 => (((¬ (r_1 = (-1))) → ∃ k_3 : Nat, k_3 < 4096 ∧ r_1 = nI k_3 ∧ post (M 29 k_3)) ∧ ((r_1 = (-1)) → post (-2))))
set_option maxHeartbeats 4000000 in
set_option maxRecDepth 100000 in
theorem c_X8_shown (l : Launch) (D : va_G) (cT : Nat → ClassId) (a : Nat → Nat) (M : ST) (im : Nat → Option Nat) (p1 : Int32) (p2 : Int32) (post : Int32 → Prop) (hv : v_X8_shown M p1 p2 post) : Met l yX8_shown wsX8_shown ({ frames := 2, cells := 0, slots := 0, locals := 43 }) (va_Pc [.ref (a 0), .int p1, .int p2] (x_R D cT ((w_PB cT a M im)))) (vp_Si post) 0 0 (fun _ => False) := by
  refine Met.ofW (cc := cX8_shown) (maxL := 4) (ret := (some .int)) (by decide) rfl ?_
  intro p e s m args below meth c s₁ B hml hpre
  obtain ⟨rfl, hP, hK, hN⟩ := hpre
  have hx := B.exec
  have hb := B.bytes
  have hr := B.returns
  have hts := atoms_spec (ws := wsX8_shown) B.pre
  have hown : s.vm.findClass RX8 = some m.cls := findClass_of_methodNamed B.named
  have hlocks := B.notSynchronized
  have hS : va_S (fun _ : Nat => False) s.heap s.heap [] := va_S.rf
  have hl := lv_entry ([.ref (a 0), .int p1, .int p2]) (n := 4) (Nat.le_of_ble_eq_true rfl)
  rw [lg_entry_eq]
  generalize (lg_sl ([.ref (a 0), .int p1, .int p2]) ++ List.replicate (4 - (lg_sl ([.ref (a 0), .int p1, .int p2])).length) Slot.unset).toArray = ls at hl ⊢
  have hl : lv_has ls 4 [(0, .ref (a 0)), (1, .int p1), (2, .int p2)] := hl
  have in_X3 : ∀ w ∈ wsX30, w ∈ wsX8_shown := by decide +kernel
  have in_X8 : ∀ w ∈ wsX80, w ∈ wsX8_shown := by decide +kernel
  have w_119 : CallB (headSpec wsX8_shown ({ frames := 2, cells := 0, slots := 0, locals := 43 })).room s ([.ref (a 0), .int p1, .int p2] : List Value).toArray RX8 119 yX8_placeOf cX8_placeOf 2 (some .int) wsX8_placeOf ({ frames := 1, cells := 0, slots := 0, locals := 22 } : Room) 0 0 2 ∧ (Cond.static yX8_placeOf).before ([.ref (a 0), .int p1, .int p2] : List Value).toArray s = true := va_cwS 2 hts gX8_shown_X8_placeOf rfl rfl rfl (by decide +kernel) ⟨Nat.le_of_ble_eq_true rfl, Nat.le_of_ble_eq_true rfl⟩
  have kf_10 : (Cond.fieldLink RX8 10 "PictureBeats" "machine" "LPictureBeats$Machine;").before ([.ref (a 0), .int p1, .int p2] : List Value).toArray s = true := hts _ (by decide +kernel)
  have kf_123 : (Cond.fieldLink RX8 123 "PictureBeats$Machine" "shown" "[I").before ([.ref (a 0), .int p1, .int p2] : List Value).toArray s = true := hts _ (by decide +kernel)
  refine lv_iload_n hx hb dX8_shown_0 rfl (lv_at hl 1 rfl) ?_
  refine lv_iload_n hx hb dX8_shown_1 rfl (lv_at hl 2 rfl) ?_
  refine x_rS (As := [.int p1, .int p2]) (rest := []) ⟨hx, hb, hml, hown, hts⟩ (c_X8_placeOf l D cT p1 p2 _ hv) w_119 hK hS hN rfl hl.1 rfl (Nat.le_of_ble_eq_true rfl) dX8_shown_2 ⟨Nat.le_of_ble_eq_true rfl, Nat.le_of_ble_eq_true rfl⟩ (fun r_1 hv => ?_)
  refine lv_istore_n (lv' := [(3, .int r_1), (0, .ref (a 0)), (1, .int p1), (2, .int p2)]) hx hb dX8_shown_5 rfl hl (by decide) rfl (fun ls hl => ?_)
  refine lv_iload_n hx hb dX8_shown_6 rfl (lv_at hl 0 rfl) ?_
  refine lv_iconst (v := (-1)) hx hb dX8_shown_7 (by decide) ?_
  refine lv_icmp_ne (tgt := 16) hx hb dX8_shown_8 (by decide) (fun c_2 => ?_) (fun c_2 => ?_)
  · have hv := hv.1 c_2
    refine lv_aload_n hx hb dX8_shown_16 rfl (lv_at hl 1 rfl) ?_
    refine va_get (D := D) (ci := 8) (v := .ref (a 2)) (C := RX8) (T := TX8) (N := 2) hx hb hts in_X8 hown hK hP 0 rfl rfl 0 (by decide) kf_10 (fun _ h9 => h9) rfl dX8_shown_17 ?_
    refine va_get (D := D) (ci := 3) (v := .ref (a 29)) (C := RX3) (T := TX3) (N := 12) hx hb hts in_X3 hown hK hP 2 rfl rfl 6 (by decide) kf_123 (fun _ h9 => h9) rfl dX8_shown_20 ?_
    refine lv_iload_n hx hb dX8_shown_23 rfl (lv_at hl 0 rfl) ?_
    obtain ⟨k_3, hk_3, ik_3, hv⟩ := hv
    refine x_ald hx hb hK hP 29 0 rfl rfl k_3 ik_3 hk_3 (by decide) dX8_shown_24 ?_
    exact W.iret (v := (M 29 k_3)) hx hb hr (fun t ht hW => ⟨_, rfl, hv, ht⟩) (fun q h => absurd h List.not_mem_nil) dX8_shown_25
  · have hv := hv.2 c_2
    refine lv_bipush (v := (-2)) hx hb dX8_shown_11 (by decide) ?_
    refine lv_goto (tgt := 25) hx hb dX8_shown_13 (by decide) ?_
    exact W.iret (v := (-2)) hx hb hr (fun t ht hW => ⟨_, rfl, hv, ht⟩) (fun q h => absurd h List.not_mem_nil) dX8_shown_25
def v_X8_now (M : ST) (p1 : Int32) (post : Int32 → Prop) : Prop := (((p1 = 0) → post (M 3 3)) ∧ ((p1 = 1) → post (M 3 4)) ∧ ((p1 = 2) → post (M 3 5)) ∧ ((p1 = 3) → v_X0_signalsHere (x_sh M 3) (fun r_3 => post r_3)) ∧ ((p1 = 4) → v_X6_whole (x_sh M 5) (fun r_4 => post r_4)) ∧ ((p1 = 5) → v_X6_whole (x_sh M 6) (fun r_5 => post r_5)) ∧ ((p1 = 6) → post (M 13 2)) ∧ ((p1 = 7) → post (M 13 5)) ∧ ((p1 = 8) → post (M 13 9)) ∧ ((p1 = 9) → post (M 2 11)) ∧ ((p1 = 10) → post (M 13 10)) ∧ ((p1 = 11) → v_X3_isTaken (x_sh M 2) (fun r_6 => (((r_6 = 0) → post 0) ∧ ((¬ (r_6 = 0)) → post 1)))) ∧ ((Int32.toInt p1 < 0 ∨ 11 < Int32.toInt p1) → post (-1)))
set_option maxHeartbeats 4000000 in
set_option maxRecDepth 100000 in
theorem c_X8_now (l : Launch) (D : va_G) (cT : Nat → ClassId) (a : Nat → Nat) (M : ST) (im : Nat → Option Nat) (p1 : Int32) (post : Int32 → Prop) (hv : v_X8_now M p1 post) : Met l yX8_now wsX8_now ({ frames := 3, cells := 0, slots := 0, locals := 61 }) (va_Pc [.ref (a 0), .int p1] (x_R D cT ((w_PB cT a M im)))) (vp_Si post) 0 0 (fun _ => False) := by
  refine Met.ofW (cc := cX8_now) (maxL := 3) (ret := (some .int)) (by decide) rfl ?_
  intro p e s m args below meth c s₁ B hml hpre
  obtain ⟨rfl, hP, hK, hN⟩ := hpre
  have hx := B.exec
  have hb := B.bytes
  have hr := B.returns
  have hts := atoms_spec (ws := wsX8_now) B.pre
  have hown : s.vm.findClass RX8 = some m.cls := findClass_of_methodNamed B.named
  have hlocks := B.notSynchronized
  have hS : va_S (fun _ : Nat => False) s.heap s.heap [] := va_S.rf
  have hl := lv_entry ([.ref (a 0), .int p1]) (n := 3) (Nat.le_of_ble_eq_true rfl)
  rw [lg_entry_eq]
  generalize (lg_sl ([.ref (a 0), .int p1]) ++ List.replicate (3 - (lg_sl ([.ref (a 0), .int p1])).length) Slot.unset).toArray = ls at hl ⊢
  have hl : lv_has ls 3 [(0, .ref (a 0)), (1, .int p1)] := hl
  have in_X0 : ∀ w ∈ wsX00, w ∈ wsX8_now := by decide +kernel
  have in_X2 : ∀ w ∈ wsX20, w ∈ wsX8_now := by decide +kernel
  have in_X3 : ∀ w ∈ wsX30, w ∈ wsX8_now := by decide +kernel
  have in_X4 : ∀ w ∈ wsX40, w ∈ wsX8_now := by decide +kernel
  have in_X8 : ∀ w ∈ wsX80, w ∈ wsX8_now := by decide +kernel
  have kf_10 : (Cond.fieldLink RX8 10 "PictureBeats" "machine" "LPictureBeats$Machine;").before ([.ref (a 0), .int p1] : List Value).toArray s = true := hts _ (by decide +kernel)
  have kf_24 : (Cond.fieldLink RX8 24 "PictureBeats$Machine" "beam" "LPictureBeats$Beam;").before ([.ref (a 0), .int p1] : List Value).toArray s = true := hts _ (by decide +kernel)
  have kf_127 : (Cond.fieldLink RX8 127 "PictureBeats$Beam" "x" "I").before ([.ref (a 0), .int p1] : List Value).toArray s = true := hts _ (by decide +kernel)
  have kf_130 : (Cond.fieldLink RX8 130 "PictureBeats$Beam" "y" "I").before ([.ref (a 0), .int p1] : List Value).toArray s = true := hts _ (by decide +kernel)
  have kf_133 : (Cond.fieldLink RX8 133 "PictureBeats$Beam" "field" "I").before ([.ref (a 0), .int p1] : List Value).toArray s = true := hts _ (by decide +kernel)
  have w_136 : CallW (headSpec wsX8_now ({ frames := 3, cells := 0, slots := 0, locals := 61 })).room s ([.ref (a 0), .int p1] : List Value).toArray RX8 RX0 136 yX0_signalsHere cX0_signalsHere 1 (some .int) wsX0_signalsHere ({ frames := 2, cells := 0, slots := 0, locals := 41 } : Room) 0 0 0 := cwV 0 hts gX8_now_X0_signalsHere rfl rfl rfl (by decide +kernel) ⟨Nat.le_of_ble_eq_true rfl, Nat.le_of_ble_eq_true rfl⟩
  have kf_140 : (Cond.fieldLink RX8 140 "PictureBeats$Beam" "holding" "LPictureBeats$Mode;").before ([.ref (a 0), .int p1] : List Value).toArray s = true := hts _ (by decide +kernel)
  have kf_34 : (Cond.fieldLink RX8 34 "PictureBeats$Mode" "across" "LPictureBeats$Span;").before ([.ref (a 0), .int p1] : List Value).toArray s = true := hts _ (by decide +kernel)
  have w_143 : CallW (headSpec wsX8_now ({ frames := 3, cells := 0, slots := 0, locals := 61 })).room s ([.ref (a 0), .int p1] : List Value).toArray RX8 RX6 143 yX6_whole cX6_whole 1 (some .int) wsX6_whole ({ frames := 0, cells := 0, slots := 0, locals := 0 } : Room) 0 0 0 := cwV 0 hts gX8_now_X6_whole rfl rfl rfl (by decide +kernel) ⟨Nat.le_of_ble_eq_true rfl, Nat.le_of_ble_eq_true rfl⟩
  have kf_46 : (Cond.fieldLink RX8 46 "PictureBeats$Mode" "down" "LPictureBeats$Span;").before ([.ref (a 0), .int p1] : List Value).toArray s = true := hts _ (by decide +kernel)
  have kf_90 : (Cond.fieldLink RX8 90 "PictureBeats$Machine" "feed" "LPictureBeats$Feed;").before ([.ref (a 0), .int p1] : List Value).toArray s = true := hts _ (by decide +kernel)
  have kf_146 : (Cond.fieldLink RX8 146 "PictureBeats$Feed" "count" "I").before ([.ref (a 0), .int p1] : List Value).toArray s = true := hts _ (by decide +kernel)
  have kf_147 : (Cond.fieldLink RX8 147 "PictureBeats$Feed" "leftBits" "I").before ([.ref (a 0), .int p1] : List Value).toArray s = true := hts _ (by decide +kernel)
  have kf_150 : (Cond.fieldLink RX8 150 "PictureBeats$Feed" "unders" "I").before ([.ref (a 0), .int p1] : List Value).toArray s = true := hts _ (by decide +kernel)
  have kf_153 : (Cond.fieldLink RX8 153 "PictureBeats$Machine" "dots" "I").before ([.ref (a 0), .int p1] : List Value).toArray s = true := hts _ (by decide +kernel)
  have kf_156 : (Cond.fieldLink RX8 156 "PictureBeats$Feed" "fetched" "I").before ([.ref (a 0), .int p1] : List Value).toArray s = true := hts _ (by decide +kernel)
  have w_159 : CallW (headSpec wsX8_now ({ frames := 3, cells := 0, slots := 0, locals := 61 })).room s ([.ref (a 0), .int p1] : List Value).toArray RX8 RX3 159 yX3_isTaken cX3_isTaken 1 (some .boolean) wsX3_isTaken ({ frames := 0, cells := 0, slots := 0, locals := 0 } : Room) 0 0 0 := cwV 0 hts gX8_now_X3_isTaken rfl rfl rfl (by decide +kernel) ⟨Nat.le_of_ble_eq_true rfl, Nat.le_of_ble_eq_true rfl⟩
  refine lv_aload_n hx hb dX8_now_0 rfl (lv_at hl 0 rfl) ?_
  refine va_get (D := D) (ci := 8) (v := .ref (a 2)) (C := RX8) (T := TX8) (N := 2) hx hb hts in_X8 hown hK hP 0 rfl rfl 0 (by decide) kf_10 (fun _ h9 => h9) rfl dX8_now_1 ?_
  refine va_get (D := D) (ci := 3) (v := .ref (a 3)) (C := RX3) (T := TX3) (N := 12) hx hb hts in_X3 hown hK hP 2 rfl rfl 0 (by decide) kf_24 (fun _ h9 => h9) rfl dX8_now_4 ?_
  refine lv_astore_n (lv' := [(2, .ref (a 3)), (0, .ref (a 0)), (1, .int p1)]) hx hb dX8_now_7 rfl hl (by decide) rfl (fun ls hl => ?_)
  refine lv_iload_n hx hb dX8_now_8 rfl (lv_at hl 2 rfl) ?_
  rcases x_sw p1 12 (by decide) with ⟨k_1, hk_1, c_2⟩ | c_2
  · match k_1, hk_1, c_2 with
    | 0, _, c_2 =>
      have hv := hv.1 c_2
      refine lv_tableIn (off := 63) (tgt := 72) hx hb dX8_now_9 (by rw [c_2]; decide) (by rw [c_2]; decide) (by rw [c_2]; rfl) (by decide) ?_
      refine lv_aload_n hx hb dX8_now_72 rfl (lv_at hl 0 rfl) ?_
      refine va_get (D := D) (ci := 0) (v := .int (M 3 3)) (C := RX0) (T := TX0) (N := 7) hx hb hts in_X0 hown hK hP 3 rfl rfl 3 (by decide) kf_127 (fun _ h9 => h9) rfl dX8_now_73 ?_
      exact W.iret (v := (M 3 3)) hx hb hr (fun t ht hW => ⟨_, rfl, hv, ht⟩) (fun q h => absurd h List.not_mem_nil) dX8_now_76
    | 1, _, c_2 =>
      have hv := hv.2.1 c_2
      refine lv_tableIn (off := 68) (tgt := 77) hx hb dX8_now_9 (by rw [c_2]; decide) (by rw [c_2]; decide) (by rw [c_2]; rfl) (by decide) ?_
      refine lv_aload_n hx hb dX8_now_77 rfl (lv_at hl 0 rfl) ?_
      refine va_get (D := D) (ci := 0) (v := .int (M 3 4)) (C := RX0) (T := TX0) (N := 7) hx hb hts in_X0 hown hK hP 3 rfl rfl 4 (by decide) kf_130 (fun _ h9 => h9) rfl dX8_now_78 ?_
      exact W.iret (v := (M 3 4)) hx hb hr (fun t ht hW => ⟨_, rfl, hv, ht⟩) (fun q h => absurd h List.not_mem_nil) dX8_now_81
    | 2, _, c_2 =>
      have hv := hv.2.2.1 c_2
      refine lv_tableIn (off := 73) (tgt := 82) hx hb dX8_now_9 (by rw [c_2]; decide) (by rw [c_2]; decide) (by rw [c_2]; rfl) (by decide) ?_
      refine lv_aload_n hx hb dX8_now_82 rfl (lv_at hl 0 rfl) ?_
      refine va_get (D := D) (ci := 0) (v := .int (M 3 5)) (C := RX0) (T := TX0) (N := 7) hx hb hts in_X0 hown hK hP 3 rfl rfl 5 (by decide) kf_133 (fun _ h9 => h9) rfl dX8_now_83 ?_
      exact W.iret (v := (M 3 5)) hx hb hr (fun t ht hW => ⟨_, rfl, hv, ht⟩) (fun q h => absurd h List.not_mem_nil) dX8_now_86
    | 3, _, c_2 =>
      have hv := hv.2.2.2.1 c_2
      refine lv_tableIn (off := 78) (tgt := 87) hx hb dX8_now_9 (by rw [c_2]; decide) (by rw [c_2]; decide) (by rw [c_2]; rfl) (by decide) ?_
      refine lv_aload_n hx hb dX8_now_87 rfl (lv_at hl 0 rfl) ?_
      refine x_rV (As := []) (rest := []) ⟨hx, hb, hml, hown, hts⟩ (c_X0_signalsHere l D cT (x_sh a 3) (x_sh M 3) _ hv) w_136 hK hP hS hN [3, 4, 5, 6, 7, 8, 9, 10, 11, 12] rfl 0 0 rfl rfl rfl hl.1 rfl (Nat.le_of_ble_eq_true rfl) dX8_now_88 ⟨Nat.le_of_ble_eq_true rfl, Nat.le_of_ble_eq_true rfl⟩ (fun r_3 hv => ?_)
      exact W.iret (v := r_3) hx hb hr (fun t ht hW => ⟨_, rfl, hv, ht⟩) (fun q h => absurd h List.not_mem_nil) dX8_now_91
    | 4, _, c_2 =>
      have hv := hv.2.2.2.2.1 c_2
      refine lv_tableIn (off := 83) (tgt := 92) hx hb dX8_now_9 (by rw [c_2]; decide) (by rw [c_2]; decide) (by rw [c_2]; rfl) (by decide) ?_
      refine lv_aload_n hx hb dX8_now_92 rfl (lv_at hl 0 rfl) ?_
      refine va_get (D := D) (ci := 0) (v := .ref (a 4)) (C := RX0) (T := TX0) (N := 7) hx hb hts in_X0 hown hK hP 3 rfl rfl 0 (by decide) kf_140 (fun _ h9 => h9) rfl dX8_now_93 ?_
      refine va_get (D := D) (ci := 4) (v := .ref (a 5)) (C := RX4) (T := TX4) (N := 3) hx hb hts in_X4 hown hK hP 4 rfl rfl 0 (by decide) kf_34 (fun _ h9 => h9) rfl dX8_now_96 ?_
      refine x_rV (As := []) (rest := []) ⟨hx, hb, hml, hown, hts⟩ (c_X6_whole l D cT (x_sh a 5) (x_sh M 5) _ hv) w_143 hK hP hS hN [5] rfl 6 0 rfl rfl rfl hl.1 rfl (Nat.le_of_ble_eq_true rfl) dX8_now_99 ⟨Nat.le_of_ble_eq_true rfl, Nat.le_of_ble_eq_true rfl⟩ (fun r_4 hv => ?_)
      exact W.iret (v := r_4) hx hb hr (fun t ht hW => ⟨_, rfl, hv, ht⟩) (fun q h => absurd h List.not_mem_nil) dX8_now_102
    | 5, _, c_2 =>
      have hv := hv.2.2.2.2.2.1 c_2
      refine lv_tableIn (off := 94) (tgt := 103) hx hb dX8_now_9 (by rw [c_2]; decide) (by rw [c_2]; decide) (by rw [c_2]; rfl) (by decide) ?_
      refine lv_aload_n hx hb dX8_now_103 rfl (lv_at hl 0 rfl) ?_
      refine va_get (D := D) (ci := 0) (v := .ref (a 4)) (C := RX0) (T := TX0) (N := 7) hx hb hts in_X0 hown hK hP 3 rfl rfl 0 (by decide) kf_140 (fun _ h9 => h9) rfl dX8_now_104 ?_
      refine va_get (D := D) (ci := 4) (v := .ref (a 6)) (C := RX4) (T := TX4) (N := 3) hx hb hts in_X4 hown hK hP 4 rfl rfl 1 (by decide) kf_46 (fun _ h9 => h9) rfl dX8_now_107 ?_
      refine x_rV (As := []) (rest := []) ⟨hx, hb, hml, hown, hts⟩ (c_X6_whole l D cT (x_sh a 6) (x_sh M 6) _ hv) w_143 hK hP hS hN [6] rfl 6 0 rfl rfl rfl hl.1 rfl (Nat.le_of_ble_eq_true rfl) dX8_now_110 ⟨Nat.le_of_ble_eq_true rfl, Nat.le_of_ble_eq_true rfl⟩ (fun r_5 hv => ?_)
      exact W.iret (v := r_5) hx hb hr (fun t ht hW => ⟨_, rfl, hv, ht⟩) (fun q h => absurd h List.not_mem_nil) dX8_now_113
    | 6, _, c_2 =>
      have hv := hv.2.2.2.2.2.2.1 c_2
      refine lv_tableIn (off := 105) (tgt := 114) hx hb dX8_now_9 (by rw [c_2]; decide) (by rw [c_2]; decide) (by rw [c_2]; rfl) (by decide) ?_
      refine lv_aload_n hx hb dX8_now_114 rfl (lv_at hl 1 rfl) ?_
      refine va_get (D := D) (ci := 8) (v := .ref (a 2)) (C := RX8) (T := TX8) (N := 2) hx hb hts in_X8 hown hK hP 0 rfl rfl 0 (by decide) kf_10 (fun _ h9 => h9) rfl dX8_now_115 ?_
      refine va_get (D := D) (ci := 3) (v := .ref (a 13)) (C := RX3) (T := TX3) (N := 12) hx hb hts in_X3 hown hK hP 2 rfl rfl 1 (by decide) kf_90 (fun _ h9 => h9) rfl dX8_now_118 ?_
      refine va_get (D := D) (ci := 2) (v := .int (M 13 2)) (C := RX2) (T := TX2) (N := 11) hx hb hts in_X2 hown hK hP 13 rfl rfl 2 (by decide) kf_146 (fun _ h9 => h9) rfl dX8_now_121 ?_
      exact W.iret (v := (M 13 2)) hx hb hr (fun t ht hW => ⟨_, rfl, hv, ht⟩) (fun q h => absurd h List.not_mem_nil) dX8_now_124
    | 7, _, c_2 =>
      have hv := hv.2.2.2.2.2.2.2.1 c_2
      refine lv_tableIn (off := 116) (tgt := 125) hx hb dX8_now_9 (by rw [c_2]; decide) (by rw [c_2]; decide) (by rw [c_2]; rfl) (by decide) ?_
      refine lv_aload_n hx hb dX8_now_125 rfl (lv_at hl 1 rfl) ?_
      refine va_get (D := D) (ci := 8) (v := .ref (a 2)) (C := RX8) (T := TX8) (N := 2) hx hb hts in_X8 hown hK hP 0 rfl rfl 0 (by decide) kf_10 (fun _ h9 => h9) rfl dX8_now_126 ?_
      refine va_get (D := D) (ci := 3) (v := .ref (a 13)) (C := RX3) (T := TX3) (N := 12) hx hb hts in_X3 hown hK hP 2 rfl rfl 1 (by decide) kf_90 (fun _ h9 => h9) rfl dX8_now_129 ?_
      refine va_get (D := D) (ci := 2) (v := .int (M 13 5)) (C := RX2) (T := TX2) (N := 11) hx hb hts in_X2 hown hK hP 13 rfl rfl 5 (by decide) kf_147 (fun _ h9 => h9) rfl dX8_now_132 ?_
      exact W.iret (v := (M 13 5)) hx hb hr (fun t ht hW => ⟨_, rfl, hv, ht⟩) (fun q h => absurd h List.not_mem_nil) dX8_now_135
    | 8, _, c_2 =>
      have hv := hv.2.2.2.2.2.2.2.2.1 c_2
      refine lv_tableIn (off := 127) (tgt := 136) hx hb dX8_now_9 (by rw [c_2]; decide) (by rw [c_2]; decide) (by rw [c_2]; rfl) (by decide) ?_
      refine lv_aload_n hx hb dX8_now_136 rfl (lv_at hl 1 rfl) ?_
      refine va_get (D := D) (ci := 8) (v := .ref (a 2)) (C := RX8) (T := TX8) (N := 2) hx hb hts in_X8 hown hK hP 0 rfl rfl 0 (by decide) kf_10 (fun _ h9 => h9) rfl dX8_now_137 ?_
      refine va_get (D := D) (ci := 3) (v := .ref (a 13)) (C := RX3) (T := TX3) (N := 12) hx hb hts in_X3 hown hK hP 2 rfl rfl 1 (by decide) kf_90 (fun _ h9 => h9) rfl dX8_now_140 ?_
      refine va_get (D := D) (ci := 2) (v := .int (M 13 9)) (C := RX2) (T := TX2) (N := 11) hx hb hts in_X2 hown hK hP 13 rfl rfl 9 (by decide) kf_150 (fun _ h9 => h9) rfl dX8_now_143 ?_
      exact W.iret (v := (M 13 9)) hx hb hr (fun t ht hW => ⟨_, rfl, hv, ht⟩) (fun q h => absurd h List.not_mem_nil) dX8_now_146
    | 9, _, c_2 =>
      have hv := hv.2.2.2.2.2.2.2.2.2.1 c_2
      refine lv_tableIn (off := 138) (tgt := 147) hx hb dX8_now_9 (by rw [c_2]; decide) (by rw [c_2]; decide) (by rw [c_2]; rfl) (by decide) ?_
      refine lv_aload_n hx hb dX8_now_147 rfl (lv_at hl 1 rfl) ?_
      refine va_get (D := D) (ci := 8) (v := .ref (a 2)) (C := RX8) (T := TX8) (N := 2) hx hb hts in_X8 hown hK hP 0 rfl rfl 0 (by decide) kf_10 (fun _ h9 => h9) rfl dX8_now_148 ?_
      refine va_get (D := D) (ci := 3) (v := .int (M 2 11)) (C := RX3) (T := TX3) (N := 12) hx hb hts in_X3 hown hK hP 2 rfl rfl 11 (by decide) kf_153 (fun _ h9 => h9) rfl dX8_now_151 ?_
      exact W.iret (v := (M 2 11)) hx hb hr (fun t ht hW => ⟨_, rfl, hv, ht⟩) (fun q h => absurd h List.not_mem_nil) dX8_now_154
    | 10, _, c_2 =>
      have hv := hv.2.2.2.2.2.2.2.2.2.2.1 c_2
      refine lv_tableIn (off := 146) (tgt := 155) hx hb dX8_now_9 (by rw [c_2]; decide) (by rw [c_2]; decide) (by rw [c_2]; rfl) (by decide) ?_
      refine lv_aload_n hx hb dX8_now_155 rfl (lv_at hl 1 rfl) ?_
      refine va_get (D := D) (ci := 8) (v := .ref (a 2)) (C := RX8) (T := TX8) (N := 2) hx hb hts in_X8 hown hK hP 0 rfl rfl 0 (by decide) kf_10 (fun _ h9 => h9) rfl dX8_now_156 ?_
      refine va_get (D := D) (ci := 3) (v := .ref (a 13)) (C := RX3) (T := TX3) (N := 12) hx hb hts in_X3 hown hK hP 2 rfl rfl 1 (by decide) kf_90 (fun _ h9 => h9) rfl dX8_now_159 ?_
      refine va_get (D := D) (ci := 2) (v := .int (M 13 10)) (C := RX2) (T := TX2) (N := 11) hx hb hts in_X2 hown hK hP 13 rfl rfl 10 (by decide) kf_156 (fun _ h9 => h9) rfl dX8_now_162 ?_
      exact W.iret (v := (M 13 10)) hx hb hr (fun t ht hW => ⟨_, rfl, hv, ht⟩) (fun q h => absurd h List.not_mem_nil) dX8_now_165
    | 11, _, c_2 =>
      have hv := hv.2.2.2.2.2.2.2.2.2.2.2.1 c_2
      refine lv_tableIn (off := 157) (tgt := 166) hx hb dX8_now_9 (by rw [c_2]; decide) (by rw [c_2]; decide) (by rw [c_2]; rfl) (by decide) ?_
      refine lv_aload_n hx hb dX8_now_166 rfl (lv_at hl 1 rfl) ?_
      refine va_get (D := D) (ci := 8) (v := .ref (a 2)) (C := RX8) (T := TX8) (N := 2) hx hb hts in_X8 hown hK hP 0 rfl rfl 0 (by decide) kf_10 (fun _ h9 => h9) rfl dX8_now_167 ?_
      refine x_rV (As := []) (rest := []) ⟨hx, hb, hml, hown, hts⟩ (c_X3_isTaken l D cT (x_sh a 2) (x_sh M 2) _ hv) w_159 hK hP hS hN [2, 3, 4, 5, 6, 7, 8, 9, 10, 11, 12, 13, 14, 15, 16, 17, 18, 19, 20, 21, 22, 23, 24, 25, 26, 27, 28, 29, 30] rfl 3 0 rfl rfl rfl hl.1 rfl (Nat.le_of_ble_eq_true rfl) dX8_now_170 ⟨Nat.le_of_ble_eq_true rfl, Nat.le_of_ble_eq_true rfl⟩ (fun r_6 hv => ?_)
      refine lv_if_eq (tgt := 180) hx hb dX8_now_173 (by decide) (fun c_7 => ?_) (fun c_7 => ?_)
      · have hv := hv.1 c_7
        refine lv_iconst (v := 0) hx hb dX8_now_180 (by decide) ?_
        exact W.iret (v := 0) hx hb hr (fun t ht hW => ⟨_, rfl, hv, ht⟩) (fun q h => absurd h List.not_mem_nil) dX8_now_181
      · have hv := hv.2 c_7
        refine lv_iconst (v := 1) hx hb dX8_now_176 (by decide) ?_
        refine lv_goto (tgt := 181) hx hb dX8_now_177 (by decide) ?_
        exact W.iret (v := 1) hx hb hr (fun t ht hW => ⟨_, rfl, hv, ht⟩) (fun q h => absurd h List.not_mem_nil) dX8_now_181
    | (k + 12), hk, _ => exact absurd hk (by omega)
  · have hv := hv.2.2.2.2.2.2.2.2.2.2.2.2 c_2
    refine lv_tableOut (tgt := 182) hx hb dX8_now_9 c_2 (by decide) ?_
    refine lv_iconst (v := (-1)) hx hb dX8_now_182 (by decide) ?_
    exact W.iret (v := (-1)) hx hb hr (fun t ht hW => ⟨_, rfl, hv, ht⟩) (fun q h => absurd h List.not_mem_nil) dX8_now_183
def v_X8_signals (M : ST) (p1 : Int32) (post : Int32 → Prop) : Prop := v_X8_within p1 1 512 (fun r_1 => (((r_1 = 0) → post (-1)) ∧ ((¬ (r_1 = 0)) → (((p1 ≤ (M 2 10)) → ∃ k_4 : Nat, k_4 < 512 ∧ (((M 2 10) - p1) - ((M 2 10) - p1) / 512 * 512) = nI k_4 ∧ post (M 30 k_4)) ∧ ((¬ (p1 ≤ (M 2 10))) → post (-1))))))
set_option maxHeartbeats 4000000 in
set_option maxRecDepth 100000 in
theorem c_X8_signals (l : Launch) (D : va_G) (cT : Nat → ClassId) (a : Nat → Nat) (M : ST) (im : Nat → Option Nat) (p1 : Int32) (post : Int32 → Prop) (hv : v_X8_signals M p1 post) : Met l yX8_signals wsX8_signals ({ frames := 1, cells := 0, slots := 0, locals := 22 }) (va_Pc [.ref (a 0), .int p1] (x_R D cT ((w_PB cT a M im)))) (vp_Si post) 0 0 (fun _ => False) := by
  refine Met.ofW (cc := cX8_signals) (maxL := 2) (ret := (some .int)) (by decide) rfl ?_
  intro p e s m args below meth c s₁ B hml hpre
  obtain ⟨rfl, hP, hK, hN⟩ := hpre
  have hx := B.exec
  have hb := B.bytes
  have hr := B.returns
  have hts := atoms_spec (ws := wsX8_signals) B.pre
  have hown : s.vm.findClass RX8 = some m.cls := findClass_of_methodNamed B.named
  have hlocks := B.notSynchronized
  have hS : va_S (fun _ : Nat => False) s.heap s.heap [] := va_S.rf
  have hl := lv_entry ([.ref (a 0), .int p1]) (n := 2) (Nat.le_of_ble_eq_true rfl)
  rw [lg_entry_eq]
  generalize (lg_sl ([.ref (a 0), .int p1]) ++ List.replicate (2 - (lg_sl ([.ref (a 0), .int p1])).length) Slot.unset).toArray = ls at hl ⊢
  have hl : lv_has ls 2 [(0, .ref (a 0)), (1, .int p1)] := hl
  have in_X3 : ∀ w ∈ wsX30, w ∈ wsX8_signals := by decide +kernel
  have in_X8 : ∀ w ∈ wsX80, w ∈ wsX8_signals := by decide +kernel
  have w_20 : CallB (headSpec wsX8_signals ({ frames := 1, cells := 0, slots := 0, locals := 22 })).room s ([.ref (a 0), .int p1] : List Value).toArray RX8 20 yX8_within cX8_within 3 (some .boolean) wsX8_within ({ frames := 0, cells := 0, slots := 0, locals := 0 } : Room) 0 0 3 ∧ (Cond.static yX8_within).before ([.ref (a 0), .int p1] : List Value).toArray s = true := va_cwS 3 hts gX8_signals_X8_within rfl rfl rfl (by decide +kernel) ⟨Nat.le_of_ble_eq_true rfl, Nat.le_of_ble_eq_true rfl⟩
  have kf_10 : (Cond.fieldLink RX8 10 "PictureBeats" "machine" "LPictureBeats$Machine;").before ([.ref (a 0), .int p1] : List Value).toArray s = true := hts _ (by decide +kernel)
  have kf_112 : (Cond.fieldLink RX8 112 "PictureBeats$Machine" "ticks" "I").before ([.ref (a 0), .int p1] : List Value).toArray s = true := hts _ (by decide +kernel)
  have kf_163 : (Cond.fieldLink RX8 163 "PictureBeats$Machine" "signals" "[I").before ([.ref (a 0), .int p1] : List Value).toArray s = true := hts _ (by decide +kernel)
  refine lv_iload_n hx hb dX8_signals_0 rfl (lv_at hl 1 rfl) ?_
  refine lv_iconst (v := 1) hx hb dX8_signals_1 (by decide) ?_
  refine lv_sipush (v := 512) hx hb dX8_signals_2 (by decide) ?_
  refine x_rS (As := [.int p1, .int 1, .int 512]) (rest := []) ⟨hx, hb, hml, hown, hts⟩ (c_X8_within l D cT p1 1 512 _ hv) w_20 hK hS hN rfl hl.1 rfl (Nat.le_of_ble_eq_true rfl) dX8_signals_5 ⟨Nat.le_of_ble_eq_true rfl, Nat.le_of_ble_eq_true rfl⟩ (fun r_1 hv => ?_)
  refine lv_if_eq (tgt := 22) hx hb dX8_signals_8 (by decide) (fun c_2 => ?_) (fun c_2 => ?_)
  · have hv := hv.1 c_2
    refine lv_iconst (v := (-1)) hx hb dX8_signals_22 (by decide) ?_
    exact W.iret (v := (-1)) hx hb hr (fun t ht hW => ⟨_, rfl, hv, ht⟩) (fun q h => absurd h List.not_mem_nil) dX8_signals_23
  · have hv := hv.2 c_2
    refine lv_iload_n hx hb dX8_signals_11 rfl (lv_at hl 1 rfl) ?_
    refine lv_aload_n hx hb dX8_signals_12 rfl (lv_at hl 0 rfl) ?_
    refine va_get (D := D) (ci := 8) (v := .ref (a 2)) (C := RX8) (T := TX8) (N := 2) hx hb hts in_X8 hown hK hP 0 rfl rfl 0 (by decide) kf_10 (fun _ h9 => h9) rfl dX8_signals_13 ?_
    refine va_get (D := D) (ci := 3) (v := .int (M 2 10)) (C := RX3) (T := TX3) (N := 12) hx hb hts in_X3 hown hK hP 2 rfl rfl 10 (by decide) kf_112 (fun _ h9 => h9) rfl dX8_signals_16 ?_
    refine lv_icmp_le (tgt := 24) hx hb dX8_signals_19 (by decide) (fun c_3 => ?_) (fun c_3 => ?_)
    · have hv := hv.1 c_3
      refine lv_aload_n hx hb dX8_signals_24 rfl (lv_at hl 0 rfl) ?_
      refine va_get (D := D) (ci := 8) (v := .ref (a 2)) (C := RX8) (T := TX8) (N := 2) hx hb hts in_X8 hown hK hP 0 rfl rfl 0 (by decide) kf_10 (fun _ h9 => h9) rfl dX8_signals_25 ?_
      refine va_get (D := D) (ci := 3) (v := .ref (a 30)) (C := RX3) (T := TX3) (N := 12) hx hb hts in_X3 hown hK hP 2 rfl rfl 7 (by decide) kf_163 (fun _ h9 => h9) rfl dX8_signals_28 ?_
      refine lv_aload_n hx hb dX8_signals_31 rfl (lv_at hl 0 rfl) ?_
      refine va_get (D := D) (ci := 8) (v := .ref (a 2)) (C := RX8) (T := TX8) (N := 2) hx hb hts in_X8 hown hK hP 0 rfl rfl 0 (by decide) kf_10 (fun _ h9 => h9) rfl dX8_signals_32 ?_
      refine va_get (D := D) (ci := 3) (v := .int (M 2 10)) (C := RX3) (T := TX3) (N := 12) hx hb hts in_X3 hown hK hP 2 rfl rfl 10 (by decide) kf_112 (fun _ h9 => h9) rfl dX8_signals_35 ?_
      refine lv_iload_n hx hb dX8_signals_38 rfl (lv_at hl 1 rfl) ?_
      refine lv_isub hx hb dX8_signals_39 ?_
      refine lv_sipush (v := 512) hx hb dX8_signals_40 (by decide) ?_
      refine lv_irem hx hb dX8_signals_43 (by decide) ?_
      obtain ⟨k_4, hk_4, ik_4, hv⟩ := hv
      refine x_ald hx hb hK hP 30 0 rfl rfl k_4 ik_4 hk_4 (by decide) dX8_signals_44 ?_
      exact W.iret (v := (M 30 k_4)) hx hb hr (fun t ht hW => ⟨_, rfl, hv, ht⟩) (fun q h => absurd h List.not_mem_nil) dX8_signals_45
    · have hv := hv.2 c_3
      refine lv_iconst (v := (-1)) hx hb dX8_signals_22 (by decide) ?_
      exact W.iret (v := (-1)) hx hb hr (fun t ht hW => ⟨_, rfl, hv, ht⟩) (fun q h => absurd h List.not_mem_nil) dX8_signals_23
def v_X8_value (M : ST) (p1 : Int32) (post : Int32 → Prop) : Prop := v_X5_read (x_sh M 15) p1 (fun r_1 => post r_1)
set_option maxHeartbeats 4000000 in
set_option maxRecDepth 100000 in
theorem c_X8_value (l : Launch) (D : va_G) (cT : Nat → ClassId) (a : Nat → Nat) (M : ST) (im : Nat → Option Nat) (p1 : Int32) (post : Int32 → Prop) (hv : v_X8_value M p1 post) : Met l yX8_value wsX8_value ({ frames := 2, cells := 0, slots := 0, locals := 43 }) (va_Pc [.ref (a 0), .int p1] (x_R D cT ((w_PB cT a M im)))) (vp_Si post) 0 0 (fun _ => False) := by
  refine Met.ofW (cc := cX8_value) (maxL := 2) (ret := (some .int)) (by decide) rfl ?_
  intro p e s m args below meth c s₁ B hml hpre
  obtain ⟨rfl, hP, hK, hN⟩ := hpre
  have hx := B.exec
  have hb := B.bytes
  have hr := B.returns
  have hts := atoms_spec (ws := wsX8_value) B.pre
  have hown : s.vm.findClass RX8 = some m.cls := findClass_of_methodNamed B.named
  have hlocks := B.notSynchronized
  have hS : va_S (fun _ : Nat => False) s.heap s.heap [] := va_S.rf
  have hl := lv_entry ([.ref (a 0), .int p1]) (n := 2) (Nat.le_of_ble_eq_true rfl)
  rw [lg_entry_eq]
  generalize (lg_sl ([.ref (a 0), .int p1]) ++ List.replicate (2 - (lg_sl ([.ref (a 0), .int p1])).length) Slot.unset).toArray = ls at hl ⊢
  have hl : lv_has ls 2 [(0, .ref (a 0)), (1, .int p1)] := hl
  have in_X3 : ∀ w ∈ wsX30, w ∈ wsX8_value := by decide +kernel
  have in_X8 : ∀ w ∈ wsX80, w ∈ wsX8_value := by decide +kernel
  have kf_10 : (Cond.fieldLink RX8 10 "PictureBeats" "machine" "LPictureBeats$Machine;").before ([.ref (a 0), .int p1] : List Value).toArray s = true := hts _ (by decide +kernel)
  have kf_57 : (Cond.fieldLink RX8 57 "PictureBeats$Machine" "registers" "LPictureBeats$Registers;").before ([.ref (a 0), .int p1] : List Value).toArray s = true := hts _ (by decide +kernel)
  have w_166 : CallW (headSpec wsX8_value ({ frames := 2, cells := 0, slots := 0, locals := 43 })).room s ([.ref (a 0), .int p1] : List Value).toArray RX8 RX5 166 yX5_read cX5_read 2 (some .int) wsX5_read ({ frames := 1, cells := 0, slots := 0, locals := 22 } : Room) 0 0 1 := cwV 1 hts gX8_value_X5_read rfl rfl rfl (by decide +kernel) ⟨Nat.le_of_ble_eq_true rfl, Nat.le_of_ble_eq_true rfl⟩
  refine lv_aload_n hx hb dX8_value_0 rfl (lv_at hl 0 rfl) ?_
  refine va_get (D := D) (ci := 8) (v := .ref (a 2)) (C := RX8) (T := TX8) (N := 2) hx hb hts in_X8 hown hK hP 0 rfl rfl 0 (by decide) kf_10 (fun _ h9 => h9) rfl dX8_value_1 ?_
  refine va_get (D := D) (ci := 3) (v := .ref (a 15)) (C := RX3) (T := TX3) (N := 12) hx hb hts in_X3 hown hK hP 2 rfl rfl 2 (by decide) kf_57 (fun _ h9 => h9) rfl dX8_value_4 ?_
  refine lv_iload_n hx hb dX8_value_7 rfl (lv_at hl 1 rfl) ?_
  refine x_rV (As := [.int p1]) (rest := []) ⟨hx, hb, hml, hown, hts⟩ (c_X5_read l D cT (x_sh a 15) (x_sh M 15) p1 _ hv) w_166 hK hP hS hN [15, 16] rfl 5 0 rfl rfl rfl hl.1 rfl (Nat.le_of_ble_eq_true rfl) dX8_value_8 ⟨Nat.le_of_ble_eq_true rfl, Nat.le_of_ble_eq_true rfl⟩ (fun r_1 hv => ?_)
  exact W.iret (v := r_1) hx hb hr (fun t ht hW => ⟨_, rfl, hv, ht⟩) (fun q h => absurd h List.not_mem_nil) dX8_value_11
def v_X8_row (M : ST) (p1 : Int32) (p2 : Int32) (post : Int32 → Prop) : Prop := v_X8_within p1 0 63 (fun r_1 => (((¬ (r_1 = 0)) → ∃ k_3 : Nat, k_3 < 64 ∧ p1 = nI k_3 ∧ v_J6_bitCount_0f7a4 (M 27 k_3) (fun r_4 => (((p2 = 0) → post (if (r_4 - 3) < 0 then 0 else (r_4 - 3))) ∧ ((p2 = 1) → post (if 3 < r_4 then 3 else r_4)) ∧ ((p2 = 2) → v_X7_membersOf (x_sh M 22) p1 (fun r_7 => post r_7)) ∧ ((Int32.toInt p2 < 0 ∨ 2 < Int32.toInt p2) → post (-1))))) ∧ ((r_1 = 0) → post (-1))))
set_option maxHeartbeats 4000000 in
set_option maxRecDepth 100000 in
theorem c_X8_row (l : Launch) (D : va_G) (cT : Nat → ClassId) (a : Nat → Nat) (M : ST) (im : Nat → Option Nat) (p1 : Int32) (p2 : Int32) (post : Int32 → Prop) (hv : v_X8_row M p1 p2 post) : Met l yX8_row wsX8_row ({ frames := 1, cells := 0, slots := 0, locals := 25 }) (va_Pc [.ref (a 0), .int p1, .int p2] (x_R D cT ((w_PB cT a M im)))) (vp_Si post) 0 0 (fun _ => False) := by
  refine Met.ofW (cc := cX8_row) (maxL := 4) (ret := (some .int)) (by decide) rfl ?_
  intro p e s m args below meth c s₁ B hml hpre
  obtain ⟨rfl, hP, hK, hN⟩ := hpre
  have hx := B.exec
  have hb := B.bytes
  have hr := B.returns
  have hts := atoms_spec (ws := wsX8_row) B.pre
  have hown : s.vm.findClass RX8 = some m.cls := findClass_of_methodNamed B.named
  have hlocks := B.notSynchronized
  have hS : va_S (fun _ : Nat => False) s.heap s.heap [] := va_S.rf
  have hl := lv_entry ([.ref (a 0), .int p1, .int p2]) (n := 4) (Nat.le_of_ble_eq_true rfl)
  rw [lg_entry_eq]
  generalize (lg_sl ([.ref (a 0), .int p1, .int p2]) ++ List.replicate (4 - (lg_sl ([.ref (a 0), .int p1, .int p2])).length) Slot.unset).toArray = ls at hl ⊢
  have hl : lv_has ls 4 [(0, .ref (a 0)), (1, .int p1), (2, .int p2)] := hl
  have in_X3 : ∀ w ∈ wsX30, w ∈ wsX8_row := by decide +kernel
  have in_X7 : ∀ w ∈ wsX70, w ∈ wsX8_row := by decide +kernel
  have in_X8 : ∀ w ∈ wsX80, w ∈ wsX8_row := by decide +kernel
  have w_20 : CallB (headSpec wsX8_row ({ frames := 1, cells := 0, slots := 0, locals := 25 })).room s ([.ref (a 0), .int p1, .int p2] : List Value).toArray RX8 20 yX8_within cX8_within 3 (some .boolean) wsX8_within ({ frames := 0, cells := 0, slots := 0, locals := 0 } : Room) 0 0 3 ∧ (Cond.static yX8_within).before ([.ref (a 0), .int p1, .int p2] : List Value).toArray s = true := va_cwS 3 hts gX8_row_X8_within rfl rfl rfl (by decide +kernel) ⟨Nat.le_of_ble_eq_true rfl, Nat.le_of_ble_eq_true rfl⟩
  have kf_10 : (Cond.fieldLink RX8 10 "PictureBeats" "machine" "LPictureBeats$Machine;").before ([.ref (a 0), .int p1, .int p2] : List Value).toArray s = true := hts _ (by decide +kernel)
  have kf_99 : (Cond.fieldLink RX8 99 "PictureBeats$Machine" "sprites" "LPictureBeats$Sprites;").before ([.ref (a 0), .int p1, .int p2] : List Value).toArray s = true := hts _ (by decide +kernel)
  have kf_170 : (Cond.fieldLink RX8 170 "PictureBeats$Sprites" "present" "[I").before ([.ref (a 0), .int p1, .int p2] : List Value).toArray s = true := hts _ (by decide +kernel)
  have w_173 : CallB (headSpec wsX8_row ({ frames := 1, cells := 0, slots := 0, locals := 25 })).room s ([.ref (a 0), .int p1, .int p2] : List Value).toArray RX8 173 yJ6_bitCount_0f7a4 cJ6_bitCount_0f7a4 1 (some .int) wsJ6_bitCount_0f7a4 ({ frames := 0, cells := 0, slots := 0, locals := 0 } : Room) 0 0 1 ∧ (Cond.static yJ6_bitCount_0f7a4).before ([.ref (a 0), .int p1, .int p2] : List Value).toArray s = true := va_cwS 1 hts gX8_row_J6_bitCount_0f7a4 rfl rfl rfl (by decide +kernel) ⟨Nat.le_of_ble_eq_true rfl, Nat.le_of_ble_eq_true rfl⟩
  have k_max178 : (Cond.methodLink RX8 178 Lib.Math.max.name).before ([.ref (a 0), .int p1, .int p2] : List Value).toArray s = true := hts _ (by decide +kernel)
  have k_maxs : (Cond.static Lib.Math.max.name).before ([.ref (a 0), .int p1, .int p2] : List Value).toArray s = true := hts _ (by decide +kernel)
  have k_maxi : (Cond.initialized "java/lang/Math").before ([.ref (a 0), .int p1, .int p2] : List Value).toArray s = true := hts _ (by decide +kernel)
  have k_maxc : (Cond.code Lib.Math.max.name Lib.Math.max.code 2 (some .int)).before ([.ref (a 0), .int p1, .int p2] : List Value).toArray s = true := hts _ (by decide +kernel)
  have k_min183 : (Cond.methodLink RX8 183 Lib.Math.min.name).before ([.ref (a 0), .int p1, .int p2] : List Value).toArray s = true := hts _ (by decide +kernel)
  have k_mins : (Cond.static Lib.Math.min.name).before ([.ref (a 0), .int p1, .int p2] : List Value).toArray s = true := hts _ (by decide +kernel)
  have k_mini : (Cond.initialized "java/lang/Math").before ([.ref (a 0), .int p1, .int p2] : List Value).toArray s = true := hts _ (by decide +kernel)
  have k_minc : (Cond.code Lib.Math.min.name Lib.Math.min.code 2 (some .int)).before ([.ref (a 0), .int p1, .int p2] : List Value).toArray s = true := hts _ (by decide +kernel)
  have w_186 : CallW (headSpec wsX8_row ({ frames := 1, cells := 0, slots := 0, locals := 25 })).room s ([.ref (a 0), .int p1, .int p2] : List Value).toArray RX8 RX7 186 yX7_membersOf cX7_membersOf 6 (some .int) wsX7_membersOf ({ frames := 0, cells := 0, slots := 0, locals := 0 } : Room) 0 0 1 := cwV 1 hts gX8_row_X7_membersOf rfl rfl rfl (by decide +kernel) ⟨Nat.le_of_ble_eq_true rfl, Nat.le_of_ble_eq_true rfl⟩
  refine lv_iload_n hx hb dX8_row_0 rfl (lv_at hl 1 rfl) ?_
  refine lv_iconst (v := 0) hx hb dX8_row_1 (by decide) ?_
  refine lv_bipush (v := 63) hx hb dX8_row_2 (by decide) ?_
  refine x_rS (As := [.int p1, .int 0, .int 63]) (rest := []) ⟨hx, hb, hml, hown, hts⟩ (c_X8_within l D cT p1 0 63 _ hv) w_20 hK hS hN rfl hl.1 rfl (Nat.le_of_ble_eq_true rfl) dX8_row_4 ⟨Nat.le_of_ble_eq_true rfl, Nat.le_of_ble_eq_true rfl⟩ (fun r_1 hv => ?_)
  refine lv_if_ne (tgt := 12) hx hb dX8_row_7 (by decide) (fun c_2 => ?_) (fun c_2 => ?_)
  · have hv := hv.1 c_2
    refine lv_aload_n hx hb dX8_row_12 rfl (lv_at hl 0 rfl) ?_
    refine va_get (D := D) (ci := 8) (v := .ref (a 2)) (C := RX8) (T := TX8) (N := 2) hx hb hts in_X8 hown hK hP 0 rfl rfl 0 (by decide) kf_10 (fun _ h9 => h9) rfl dX8_row_13 ?_
    refine va_get (D := D) (ci := 3) (v := .ref (a 22)) (C := RX3) (T := TX3) (N := 12) hx hb hts in_X3 hown hK hP 2 rfl rfl 4 (by decide) kf_99 (fun _ h9 => h9) rfl dX8_row_16 ?_
    refine va_get (D := D) (ci := 7) (v := .ref (a 27)) (C := RX7) (T := TX7) (N := 5) hx hb hts in_X7 hown hK hP 22 rfl rfl 4 (by decide) kf_170 (fun _ h9 => h9) rfl dX8_row_19 ?_
    refine lv_iload_n hx hb dX8_row_22 rfl (lv_at hl 1 rfl) ?_
    obtain ⟨k_3, hk_3, ik_3, hv⟩ := hv
    refine x_ald hx hb hK hP 27 0 rfl rfl k_3 ik_3 hk_3 (by decide) dX8_row_23 ?_
    refine x_rS (As := [.int (M 27 k_3)]) (rest := []) ⟨hx, hb, hml, hown, hts⟩ (c_J6_bitCount_0f7a4 l D cT (M 27 k_3) _ hv) w_173 hK hS hN rfl hl.1 rfl (Nat.le_of_ble_eq_true rfl) dX8_row_24 ⟨Nat.le_of_ble_eq_true rfl, Nat.le_of_ble_eq_true rfl⟩ (fun r_4 hv => ?_)
    refine lv_istore_n (lv' := [(3, .int r_4), (0, .ref (a 0)), (1, .int p1), (2, .int p2)]) hx hb dX8_row_27 rfl hl (by decide) rfl (fun ls hl => ?_)
    refine lv_iload_n hx hb dX8_row_28 rfl (lv_at hl 3 rfl) ?_
    rcases x_sw p2 3 (by decide) with ⟨k_5, hk_5, c_6⟩ | c_6
    · match k_5, hk_5, c_6 with
      | 0, _, c_6 =>
        have hv := hv.1 c_6
        refine lv_tableIn (off := 27) (tgt := 56) hx hb dX8_row_29 (by rw [c_6]; decide) (by rw [c_6]; decide) (by rw [c_6]; rfl) (by decide) ?_
        refine lv_iload_n hx hb dX8_row_56 rfl (lv_at hl 0 rfl) ?_
        refine lv_iconst (v := 3) hx hb dX8_row_57 (by decide) ?_
        refine lv_isub hx hb dX8_row_58 ?_
        refine lv_iconst (v := 0) hx hb dX8_row_59 (by decide) ?_
        refine va_mmax hx hb (hml.trans hl.1.symm) hown k_max178 k_maxs k_maxi k_maxc (Nat.le_of_ble_eq_true rfl) (Nat.le_of_ble_eq_true rfl) (Nat.zero_le _) (Nat.zero_le _) dX8_row_60 ?_
        exact W.iret (v := (if (r_4 - 3) < 0 then 0 else (r_4 - 3))) hx hb hr (fun t ht hW => ⟨_, rfl, hv, ht⟩) (fun q h => absurd h List.not_mem_nil) dX8_row_63
      | 1, _, c_6 =>
        have hv := hv.2.1 c_6
        refine lv_tableIn (off := 35) (tgt := 64) hx hb dX8_row_29 (by rw [c_6]; decide) (by rw [c_6]; decide) (by rw [c_6]; rfl) (by decide) ?_
        refine lv_iload_n hx hb dX8_row_64 rfl (lv_at hl 0 rfl) ?_
        refine lv_iconst (v := 3) hx hb dX8_row_65 (by decide) ?_
        refine va_mmin hx hb (hml.trans hl.1.symm) hown k_min183 k_mins k_mini k_minc (Nat.le_of_ble_eq_true rfl) (Nat.le_of_ble_eq_true rfl) (Nat.zero_le _) (Nat.zero_le _) dX8_row_66 ?_
        exact W.iret (v := (if 3 < r_4 then 3 else r_4)) hx hb hr (fun t ht hW => ⟨_, rfl, hv, ht⟩) (fun q h => absurd h List.not_mem_nil) dX8_row_69
      | 2, _, c_6 =>
        have hv := hv.2.2.1 c_6
        refine lv_tableIn (off := 41) (tgt := 70) hx hb dX8_row_29 (by rw [c_6]; decide) (by rw [c_6]; decide) (by rw [c_6]; rfl) (by decide) ?_
        refine lv_aload_n hx hb dX8_row_70 rfl (lv_at hl 1 rfl) ?_
        refine va_get (D := D) (ci := 8) (v := .ref (a 2)) (C := RX8) (T := TX8) (N := 2) hx hb hts in_X8 hown hK hP 0 rfl rfl 0 (by decide) kf_10 (fun _ h9 => h9) rfl dX8_row_71 ?_
        refine va_get (D := D) (ci := 3) (v := .ref (a 22)) (C := RX3) (T := TX3) (N := 12) hx hb hts in_X3 hown hK hP 2 rfl rfl 4 (by decide) kf_99 (fun _ h9 => h9) rfl dX8_row_74 ?_
        refine lv_iload_n hx hb dX8_row_77 rfl (lv_at hl 2 rfl) ?_
        refine x_rV (As := [.int p1]) (rest := []) ⟨hx, hb, hml, hown, hts⟩ (c_X7_membersOf l D cT (x_sh a 22) (x_sh M 22) p1 _ hv) w_186 hK hP hS hN [22, 23, 24, 25, 26, 27] rfl 7 0 rfl rfl rfl hl.1 rfl (Nat.le_of_ble_eq_true rfl) dX8_row_78 ⟨Nat.le_of_ble_eq_true rfl, Nat.le_of_ble_eq_true rfl⟩ (fun r_7 hv => ?_)
        exact W.iret (v := r_7) hx hb hr (fun t ht hW => ⟨_, rfl, hv, ht⟩) (fun q h => absurd h List.not_mem_nil) dX8_row_81
      | (k + 3), hk, _ => exact absurd hk (by omega)
    · have hv := hv.2.2.2 c_6
      refine lv_tableOut (tgt := 82) hx hb dX8_row_29 c_6 (by decide) ?_
      refine lv_iconst (v := (-1)) hx hb dX8_row_82 (by decide) ?_
      exact W.iret (v := (-1)) hx hb hr (fun t ht hW => ⟨_, rfl, hv, ht⟩) (fun q h => absurd h List.not_mem_nil) dX8_row_83
  · have hv := hv.2 c_2
    refine lv_iconst (v := (-1)) hx hb dX8_row_10 (by decide) ?_
    exact W.iret (v := (-1)) hx hb hr (fun t ht hW => ⟨_, rfl, hv, ht⟩) (fun q h => absurd h List.not_mem_nil) dX8_row_11
def lp_X8_fewestQueued_63 (M : ST) (p1 : Int32) (p2 : Int32) (x_3 : Int32) (post : Int32 → Prop) (K_ : Int32 → Int32 → Int32 → Int32 → Int32 → Prop) : Nat → Int32 → Int32 → Int32 → Int32 → Int32 → Prop
  | 0, _, _, _, _, _ => False
  | n_15 + 1, y_10, y_11, y_12, y_13, y_14 => v_X6_whole (x_sh M 5) (fun r_16 => (((r_16 ≤ y_10) → K_ y_10 y_11 y_12 y_13 y_14) ∧ ((¬ (r_16 ≤ y_10)) → (((y_11 < p2) → (((p1 ≤ (y_11 + 1)) → (((y_10 < x_3) → ∀ x_21 : Int32, x_21 = y_10 + 1 → lp_X8_fewestQueued_63 M p1 p2 x_3 post K_ n_15 x_21 0 y_12 y_13 y_14) ∧ ((¬ (y_10 < x_3)) → (((¬ (((y_10 - x_3) - (y_10 - x_3) / 8 * 8) = 0)) → ∀ x_23 : Int32, x_23 = y_10 + 1 → lp_X8_fewestQueued_63 M p1 p2 x_3 post K_ n_15 x_23 0 y_12 y_13 y_14) ∧ ((((y_10 - x_3) - (y_10 - x_3) / 8 * 8) = 0) → (((¬ (y_12 = 0)) → ∀ x_25 : Int32, x_25 = (if y_12 < y_13 then y_12 else y_13) → ∀ x_26 : Int32, x_26 = y_12 + (-1) → ∀ x_27 : Int32, x_27 = y_10 + 1 → lp_X8_fewestQueued_63 M p1 p2 x_3 post K_ n_15 x_27 0 x_26 x_25 y_14) ∧ ((y_12 = 0) → post 0))))))) ∧ ((¬ (p1 ≤ (y_11 + 1))) → ∀ x_28 : Int32, x_28 = (y_11 + 1) → (((y_10 < x_3) → ∀ x_30 : Int32, x_30 = y_10 + 1 → lp_X8_fewestQueued_63 M p1 p2 x_3 post K_ n_15 x_30 x_28 y_12 y_13 y_14) ∧ ((¬ (y_10 < x_3)) → (((¬ (((y_10 - x_3) - (y_10 - x_3) / 8 * 8) = 0)) → ∀ x_32 : Int32, x_32 = y_10 + 1 → lp_X8_fewestQueued_63 M p1 p2 x_3 post K_ n_15 x_32 x_28 y_12 y_13 y_14) ∧ ((((y_10 - x_3) - (y_10 - x_3) / 8 * 8) = 0) → (((¬ (y_12 = 0)) → ∀ x_34 : Int32, x_34 = (if y_12 < y_13 then y_12 else y_13) → ∀ x_35 : Int32, x_35 = y_12 + (-1) → ∀ x_36 : Int32, x_36 = y_10 + 1 → lp_X8_fewestQueued_63 M p1 p2 x_3 post K_ n_15 x_36 x_28 x_35 x_34 y_14) ∧ ((y_12 = 0) → post 0))))))))) ∧ ((¬ (y_11 < p2)) → ((((M 13 3) ≤ y_12) → (((p1 ≤ (y_11 + 1)) → (((y_10 < x_3) → ∀ x_40 : Int32, x_40 = y_10 + 1 → lp_X8_fewestQueued_63 M p1 p2 x_3 post K_ n_15 x_40 0 y_12 y_13 y_14) ∧ ((¬ (y_10 < x_3)) → (((¬ (((y_10 - x_3) - (y_10 - x_3) / 8 * 8) = 0)) → ∀ x_42 : Int32, x_42 = y_10 + 1 → lp_X8_fewestQueued_63 M p1 p2 x_3 post K_ n_15 x_42 0 y_12 y_13 y_14) ∧ ((((y_10 - x_3) - (y_10 - x_3) / 8 * 8) = 0) → (((¬ (y_12 = 0)) → ∀ x_44 : Int32, x_44 = (if y_12 < y_13 then y_12 else y_13) → ∀ x_45 : Int32, x_45 = y_12 + (-1) → ∀ x_46 : Int32, x_46 = y_10 + 1 → lp_X8_fewestQueued_63 M p1 p2 x_3 post K_ n_15 x_46 0 x_45 x_44 y_14) ∧ ((y_12 = 0) → post 0))))))) ∧ ((¬ (p1 ≤ (y_11 + 1))) → ∀ x_47 : Int32, x_47 = (y_11 + 1) → (((y_10 < x_3) → ∀ x_49 : Int32, x_49 = y_10 + 1 → lp_X8_fewestQueued_63 M p1 p2 x_3 post K_ n_15 x_49 x_47 y_12 y_13 y_14) ∧ ((¬ (y_10 < x_3)) → (((¬ (((y_10 - x_3) - (y_10 - x_3) / 8 * 8) = 0)) → ∀ x_51 : Int32, x_51 = y_10 + 1 → lp_X8_fewestQueued_63 M p1 p2 x_3 post K_ n_15 x_51 x_47 y_12 y_13 y_14) ∧ ((((y_10 - x_3) - (y_10 - x_3) / 8 * 8) = 0) → (((¬ (y_12 = 0)) → ∀ x_53 : Int32, x_53 = (if y_12 < y_13 then y_12 else y_13) → ∀ x_54 : Int32, x_54 = y_12 + (-1) → ∀ x_55 : Int32, x_55 = y_10 + 1 → lp_X8_fewestQueued_63 M p1 p2 x_3 post K_ n_15 x_55 x_47 x_54 x_53 y_14) ∧ ((y_12 = 0) → post 0))))))))) ∧ ((¬ ((M 13 3) ≤ y_12)) → (((y_14 ≤ 0) → (((p1 ≤ (y_11 + 1)) → (((y_10 < x_3) → ∀ x_59 : Int32, x_59 = y_10 + 1 → lp_X8_fewestQueued_63 M p1 p2 x_3 post K_ n_15 x_59 0 y_12 y_13 y_14) ∧ ((¬ (y_10 < x_3)) → (((¬ (((y_10 - x_3) - (y_10 - x_3) / 8 * 8) = 0)) → ∀ x_61 : Int32, x_61 = y_10 + 1 → lp_X8_fewestQueued_63 M p1 p2 x_3 post K_ n_15 x_61 0 y_12 y_13 y_14) ∧ ((((y_10 - x_3) - (y_10 - x_3) / 8 * 8) = 0) → (((¬ (y_12 = 0)) → ∀ x_63 : Int32, x_63 = (if y_12 < y_13 then y_12 else y_13) → ∀ x_64 : Int32, x_64 = y_12 + (-1) → ∀ x_65 : Int32, x_65 = y_10 + 1 → lp_X8_fewestQueued_63 M p1 p2 x_3 post K_ n_15 x_65 0 x_64 x_63 y_14) ∧ ((y_12 = 0) → post 0))))))) ∧ ((¬ (p1 ≤ (y_11 + 1))) → ∀ x_66 : Int32, x_66 = (y_11 + 1) → (((y_10 < x_3) → ∀ x_68 : Int32, x_68 = y_10 + 1 → lp_X8_fewestQueued_63 M p1 p2 x_3 post K_ n_15 x_68 x_66 y_12 y_13 y_14) ∧ ((¬ (y_10 < x_3)) → (((¬ (((y_10 - x_3) - (y_10 - x_3) / 8 * 8) = 0)) → ∀ x_70 : Int32, x_70 = y_10 + 1 → lp_X8_fewestQueued_63 M p1 p2 x_3 post K_ n_15 x_70 x_66 y_12 y_13 y_14) ∧ ((((y_10 - x_3) - (y_10 - x_3) / 8 * 8) = 0) → (((¬ (y_12 = 0)) → ∀ x_72 : Int32, x_72 = (if y_12 < y_13 then y_12 else y_13) → ∀ x_73 : Int32, x_73 = y_12 + (-1) → ∀ x_74 : Int32, x_74 = y_10 + 1 → lp_X8_fewestQueued_63 M p1 p2 x_3 post K_ n_15 x_74 x_66 x_73 x_72 y_14) ∧ ((y_12 = 0) → post 0))))))))) ∧ ((¬ (y_14 ≤ 0)) → ∀ x_75 : Int32, x_75 = y_12 + 1 → ∀ x_76 : Int32, x_76 = y_14 + (-1) → (((p1 ≤ (y_11 + 1)) → (((y_10 < x_3) → ∀ x_79 : Int32, x_79 = y_10 + 1 → lp_X8_fewestQueued_63 M p1 p2 x_3 post K_ n_15 x_79 0 x_75 y_13 x_76) ∧ ((¬ (y_10 < x_3)) → (((¬ (((y_10 - x_3) - (y_10 - x_3) / 8 * 8) = 0)) → ∀ x_81 : Int32, x_81 = y_10 + 1 → lp_X8_fewestQueued_63 M p1 p2 x_3 post K_ n_15 x_81 0 x_75 y_13 x_76) ∧ ((((y_10 - x_3) - (y_10 - x_3) / 8 * 8) = 0) → (((¬ (x_75 = 0)) → ∀ x_83 : Int32, x_83 = (if x_75 < y_13 then x_75 else y_13) → ∀ x_84 : Int32, x_84 = x_75 + (-1) → ∀ x_85 : Int32, x_85 = y_10 + 1 → lp_X8_fewestQueued_63 M p1 p2 x_3 post K_ n_15 x_85 0 x_84 x_83 x_76) ∧ ((x_75 = 0) → post 0))))))) ∧ ((¬ (p1 ≤ (y_11 + 1))) → ∀ x_86 : Int32, x_86 = (y_11 + 1) → (((y_10 < x_3) → ∀ x_88 : Int32, x_88 = y_10 + 1 → lp_X8_fewestQueued_63 M p1 p2 x_3 post K_ n_15 x_88 x_86 x_75 y_13 x_76) ∧ ((¬ (y_10 < x_3)) → (((¬ (((y_10 - x_3) - (y_10 - x_3) / 8 * 8) = 0)) → ∀ x_90 : Int32, x_90 = y_10 + 1 → lp_X8_fewestQueued_63 M p1 p2 x_3 post K_ n_15 x_90 x_86 x_75 y_13 x_76) ∧ ((((y_10 - x_3) - (y_10 - x_3) / 8 * 8) = 0) → (((¬ (x_75 = 0)) → ∀ x_92 : Int32, x_92 = (if x_75 < y_13 then x_75 else y_13) → ∀ x_93 : Int32, x_93 = x_75 + (-1) → ∀ x_94 : Int32, x_94 = y_10 + 1 → lp_X8_fewestQueued_63 M p1 p2 x_3 post K_ n_15 x_94 x_86 x_93 x_92 x_76) ∧ ((x_75 = 0) → post 0)))))))))))))))))
def v_X8_fewestQueued (M : ST) (p1 : Int32) (p2 : Int32) (p3 : Int32) (post : Int32 → Prop) : Prop := v_X8_bytesOfLine (M 5 0) (fun r_1 => v_X6_whole (x_sh M 5) (fun r_2 => ∀ x_3 : Int32, x_3 = (r_2 - (M 5 0)) → (∃ n_95 : Nat, lp_X8_fewestQueued_63 M p1 p2 x_3 post (fun (y_5 : Int32) (y_6 : Int32) (y_7 : Int32) (y_8 : Int32) (y_9 : Int32) => post y_8) n_95 0 p3 0 (M 13 3) r_1)))
set_option maxHeartbeats 4000000 in
set_option maxRecDepth 100000 in
theorem c_X8_fewestQueued (l : Launch) (D : va_G) (cT : Nat → ClassId) (a : Nat → Nat) (M : ST) (im : Nat → Option Nat) (p1 : Int32) (p2 : Int32) (p3 : Int32) (post : Int32 → Prop) (hv : v_X8_fewestQueued M p1 p2 p3 post) : Met l yX8_fewestQueued wsX8_fewestQueued ({ frames := 1, cells := 0, slots := 0, locals := 21 }) (va_Pc [.ref (a 0), .int p1, .int p2, .int p3] (x_R D cT ((w_PB cT a M im)))) (vp_Si post) 0 0 (fun _ => False) := by
  refine Met.ofW (cc := cX8_fewestQueued) (maxL := 12) (ret := (some .int)) (by decide) rfl ?_
  intro p e s m args below meth c s₁ B hml hpre
  obtain ⟨rfl, hP, hK, hN⟩ := hpre
  have hx := B.exec
  have hb := B.bytes
  have hr := B.returns
  have hts := atoms_spec (ws := wsX8_fewestQueued) B.pre
  have hown : s.vm.findClass RX8 = some m.cls := findClass_of_methodNamed B.named
  have hlocks := B.notSynchronized
  have hS : va_S (fun _ : Nat => False) s.heap s.heap [] := va_S.rf
  have hl := lv_entry ([.ref (a 0), .int p1, .int p2, .int p3]) (n := 12) (Nat.le_of_ble_eq_true rfl)
  rw [lg_entry_eq]
  generalize (lg_sl ([.ref (a 0), .int p1, .int p2, .int p3]) ++ List.replicate (12 - (lg_sl ([.ref (a 0), .int p1, .int p2, .int p3])).length) Slot.unset).toArray = ls at hl ⊢
  have hl : lv_has ls 12 [(0, .ref (a 0)), (1, .int p1), (2, .int p2), (3, .int p3)] := hl
  have in_X0 : ∀ w ∈ wsX00, w ∈ wsX8_fewestQueued := by decide +kernel
  have in_X2 : ∀ w ∈ wsX20, w ∈ wsX8_fewestQueued := by decide +kernel
  have in_X3 : ∀ w ∈ wsX30, w ∈ wsX8_fewestQueued := by decide +kernel
  have in_X4 : ∀ w ∈ wsX40, w ∈ wsX8_fewestQueued := by decide +kernel
  have in_X6 : ∀ w ∈ wsX60, w ∈ wsX8_fewestQueued := by decide +kernel
  have in_X8 : ∀ w ∈ wsX80, w ∈ wsX8_fewestQueued := by decide +kernel
  have kf_10 : (Cond.fieldLink RX8 10 "PictureBeats" "machine" "LPictureBeats$Machine;").before ([.ref (a 0), .int p1, .int p2, .int p3] : List Value).toArray s = true := hts _ (by decide +kernel)
  have kf_24 : (Cond.fieldLink RX8 24 "PictureBeats$Machine" "beam" "LPictureBeats$Beam;").before ([.ref (a 0), .int p1, .int p2, .int p3] : List Value).toArray s = true := hts _ (by decide +kernel)
  have kf_140 : (Cond.fieldLink RX8 140 "PictureBeats$Beam" "holding" "LPictureBeats$Mode;").before ([.ref (a 0), .int p1, .int p2, .int p3] : List Value).toArray s = true := hts _ (by decide +kernel)
  have kf_34 : (Cond.fieldLink RX8 34 "PictureBeats$Mode" "across" "LPictureBeats$Span;").before ([.ref (a 0), .int p1, .int p2, .int p3] : List Value).toArray s = true := hts _ (by decide +kernel)
  have kf_90 : (Cond.fieldLink RX8 90 "PictureBeats$Machine" "feed" "LPictureBeats$Feed;").before ([.ref (a 0), .int p1, .int p2, .int p3] : List Value).toArray s = true := hts _ (by decide +kernel)
  have kf_94 : (Cond.fieldLink RX8 94 "PictureBeats$Feed" "depth" "I").before ([.ref (a 0), .int p1, .int p2, .int p3] : List Value).toArray s = true := hts _ (by decide +kernel)
  have kf_204 : (Cond.fieldLink RX8 204 "PictureBeats$Span" "seen" "I").before ([.ref (a 0), .int p1, .int p2, .int p3] : List Value).toArray s = true := hts _ (by decide +kernel)
  have w_207 : CallB (headSpec wsX8_fewestQueued ({ frames := 1, cells := 0, slots := 0, locals := 21 })).room s ([.ref (a 0), .int p1, .int p2, .int p3] : List Value).toArray RX8 207 yX8_bytesOfLine cX8_bytesOfLine 1 (some .int) wsX8_bytesOfLine ({ frames := 0, cells := 0, slots := 0, locals := 0 } : Room) 0 0 1 ∧ (Cond.static yX8_bytesOfLine).before ([.ref (a 0), .int p1, .int p2, .int p3] : List Value).toArray s = true := va_cwS 1 hts gX8_fewestQueued_X8_bytesOfLine rfl rfl rfl (by decide +kernel) ⟨Nat.le_of_ble_eq_true rfl, Nat.le_of_ble_eq_true rfl⟩
  have w_143 : CallW (headSpec wsX8_fewestQueued ({ frames := 1, cells := 0, slots := 0, locals := 21 })).room s ([.ref (a 0), .int p1, .int p2, .int p3] : List Value).toArray RX8 RX6 143 yX6_whole cX6_whole 1 (some .int) wsX6_whole ({ frames := 0, cells := 0, slots := 0, locals := 0 } : Room) 0 0 0 := cwV 0 hts gX8_fewestQueued_X6_whole rfl rfl rfl (by decide +kernel) ⟨Nat.le_of_ble_eq_true rfl, Nat.le_of_ble_eq_true rfl⟩
  have k_min183 : (Cond.methodLink RX8 183 Lib.Math.min.name).before ([.ref (a 0), .int p1, .int p2, .int p3] : List Value).toArray s = true := hts _ (by decide +kernel)
  have k_mins : (Cond.static Lib.Math.min.name).before ([.ref (a 0), .int p1, .int p2, .int p3] : List Value).toArray s = true := hts _ (by decide +kernel)
  have k_mini : (Cond.initialized "java/lang/Math").before ([.ref (a 0), .int p1, .int p2, .int p3] : List Value).toArray s = true := hts _ (by decide +kernel)
  have k_minc : (Cond.code Lib.Math.min.name Lib.Math.min.code 2 (some .int)).before ([.ref (a 0), .int p1, .int p2, .int p3] : List Value).toArray s = true := hts _ (by decide +kernel)
  refine lv_aload_n hx hb dX8_fewestQueued_0 rfl (lv_at hl 0 rfl) ?_
  refine va_get (D := D) (ci := 8) (v := .ref (a 2)) (C := RX8) (T := TX8) (N := 2) hx hb hts in_X8 hown hK hP 0 rfl rfl 0 (by decide) kf_10 (fun _ h9 => h9) rfl dX8_fewestQueued_1 ?_
  refine va_get (D := D) (ci := 3) (v := .ref (a 3)) (C := RX3) (T := TX3) (N := 12) hx hb hts in_X3 hown hK hP 2 rfl rfl 0 (by decide) kf_24 (fun _ h9 => h9) rfl dX8_fewestQueued_4 ?_
  refine va_get (D := D) (ci := 0) (v := .ref (a 4)) (C := RX0) (T := TX0) (N := 7) hx hb hts in_X0 hown hK hP 3 rfl rfl 0 (by decide) kf_140 (fun _ h9 => h9) rfl dX8_fewestQueued_7 ?_
  refine va_get (D := D) (ci := 4) (v := .ref (a 5)) (C := RX4) (T := TX4) (N := 3) hx hb hts in_X4 hown hK hP 4 rfl rfl 0 (by decide) kf_34 (fun _ h9 => h9) rfl dX8_fewestQueued_10 ?_
  refine lv_astore (lv' := [(4, .ref (a 5)), (0, .ref (a 0)), (1, .int p1), (2, .int p2), (3, .int p3)]) hx hb dX8_fewestQueued_13 hl (by decide) rfl (fun ls hl => ?_)
  refine lv_aload_n hx hb dX8_fewestQueued_15 rfl (lv_at hl 1 rfl) ?_
  refine va_get (D := D) (ci := 8) (v := .ref (a 2)) (C := RX8) (T := TX8) (N := 2) hx hb hts in_X8 hown hK hP 0 rfl rfl 0 (by decide) kf_10 (fun _ h9 => h9) rfl dX8_fewestQueued_16 ?_
  refine va_get (D := D) (ci := 3) (v := .ref (a 13)) (C := RX3) (T := TX3) (N := 12) hx hb hts in_X3 hown hK hP 2 rfl rfl 1 (by decide) kf_90 (fun _ h9 => h9) rfl dX8_fewestQueued_19 ?_
  refine va_get (D := D) (ci := 2) (v := .int (M 13 3)) (C := RX2) (T := TX2) (N := 11) hx hb hts in_X2 hown hK hP 13 rfl rfl 3 (by decide) kf_94 (fun _ h9 => h9) rfl dX8_fewestQueued_22 ?_
  refine lv_istore (lv' := [(5, .int (M 13 3)), (4, .ref (a 5)), (0, .ref (a 0)), (1, .int p1), (2, .int p2), (3, .int p3)]) hx hb dX8_fewestQueued_25 hl (by decide) rfl (fun ls hl => ?_)
  refine lv_aload hx hb dX8_fewestQueued_27 (lv_at hl 1 rfl) ?_
  refine va_get (D := D) (ci := 6) (v := .int (M 5 0)) (C := RX6) (T := TX6) (N := 4) hx hb hts in_X6 hown hK hP 5 rfl rfl 0 (by decide) kf_204 (fun _ h9 => h9) rfl dX8_fewestQueued_29 ?_
  refine x_rS (As := [.int (M 5 0)]) (rest := []) ⟨hx, hb, hml, hown, hts⟩ (c_X8_bytesOfLine l D cT (M 5 0) _ hv) w_207 hK hS hN rfl hl.1 rfl (Nat.le_of_ble_eq_true rfl) dX8_fewestQueued_32 ⟨Nat.le_of_ble_eq_true rfl, Nat.le_of_ble_eq_true rfl⟩ (fun r_1 hv => ?_)
  refine lv_istore (lv' := [(6, .int r_1), (5, .int (M 13 3)), (4, .ref (a 5)), (0, .ref (a 0)), (1, .int p1), (2, .int p2), (3, .int p3)]) hx hb dX8_fewestQueued_35 hl (by decide) rfl (fun ls hl => ?_)
  refine lv_aload hx hb dX8_fewestQueued_37 (lv_at hl 2 rfl) ?_
  refine x_rV (As := []) (rest := []) ⟨hx, hb, hml, hown, hts⟩ (c_X6_whole l D cT (x_sh a 5) (x_sh M 5) _ hv) w_143 hK hP hS hN [5] rfl 6 0 rfl rfl rfl hl.1 rfl (Nat.le_of_ble_eq_true rfl) dX8_fewestQueued_39 ⟨Nat.le_of_ble_eq_true rfl, Nat.le_of_ble_eq_true rfl⟩ (fun r_2 hv => ?_)
  refine lv_aload hx hb dX8_fewestQueued_42 (lv_at hl 2 rfl) ?_
  refine va_get (D := D) (ci := 6) (v := .int (M 5 0)) (C := RX6) (T := TX6) (N := 4) hx hb hts in_X6 hown hK hP 5 rfl rfl 0 (by decide) kf_204 (fun _ h9 => h9) rfl dX8_fewestQueued_44 ?_
  refine lv_isub hx hb dX8_fewestQueued_47 ?_
  refine lv_topi (fun x_3 ex_3 => ?_)
  have hv := hv x_3 ex_3
  refine lv_istore (lv' := [(7, .int x_3), (6, .int r_1), (5, .int (M 13 3)), (4, .ref (a 5)), (0, .ref (a 0)), (1, .int p1), (2, .int p2), (3, .int p3)]) hx hb dX8_fewestQueued_48 hl (by decide) rfl (fun ls hl => ?_)
  refine lv_iload hx hb dX8_fewestQueued_50 (lv_at hl 2 rfl) ?_
  refine lv_istore (lv' := [(8, .int (M 13 3)), (7, .int x_3), (6, .int r_1), (5, .int (M 13 3)), (4, .ref (a 5)), (0, .ref (a 0)), (1, .int p1), (2, .int p2), (3, .int p3)]) hx hb dX8_fewestQueued_52 hl (by decide) rfl (fun ls hl => ?_)
  refine lv_iconst (v := 0) hx hb dX8_fewestQueued_54 (by decide) ?_
  refine lv_istore (lv' := [(9, .int 0), (8, .int (M 13 3)), (7, .int x_3), (6, .int r_1), (5, .int (M 13 3)), (4, .ref (a 5)), (0, .ref (a 0)), (1, .int p1), (2, .int p2), (3, .int p3)]) hx hb dX8_fewestQueued_55 hl (by decide) rfl (fun ls hl => ?_)
  refine lv_iload_n hx hb dX8_fewestQueued_57 rfl (lv_at hl 9 rfl) ?_
  refine lv_istore (lv' := [(10, .int p3), (9, .int 0), (8, .int (M 13 3)), (7, .int x_3), (6, .int r_1), (5, .int (M 13 3)), (4, .ref (a 5)), (0, .ref (a 0)), (1, .int p1), (2, .int p2), (3, .int p3)]) hx hb dX8_fewestQueued_58 hl (by decide) rfl (fun ls hl => ?_)
  refine lv_iconst (v := 0) hx hb dX8_fewestQueued_60 (by decide) ?_
  refine lv_istore (lv' := [(11, .int 0), (10, .int p3), (9, .int 0), (8, .int (M 13 3)), (7, .int x_3), (6, .int r_1), (5, .int (M 13 3)), (4, .ref (a 5)), (0, .ref (a 0)), (1, .int p1), (2, .int p2), (3, .int p3)]) hx hb dX8_fewestQueued_61 hl (by decide) rfl (fun ls hl => ?_)
  obtain ⟨n_95, hv⟩ := hv
  have K_L_4 : ∀ (y_5 : Int32) (y_6 : Int32) (y_7 : Int32) (y_8 : Int32) (y_9 : Int32), (post y_8) → ∀ ls : Array Slot, lv_has ls 12 [(11, .int y_5), (10, .int y_6), (9, .int y_7), (8, .int y_8), (7, .int x_3), (6, .int y_9), (5, .int (M 13 3)), (4, .ref (a 5)), (0, .ref (a 0)), (1, .int p1), (2, .int p2), (3, .int p3)] → W p l e (headSpec wsX8_fewestQueued ({ frames := 1, cells := 0, slots := 0, locals := 21 })).room s m ([.ref (a 0), .int p1, .int p2, .int p3] : List Value).toArray below meth c s.heap [] 0 0 (MQ below (vp_Si post) ([.ref (a 0), .int p1, .int p2, .int p3] : List Value).toArray s 0 0 (fun _ => False)) (F0 m 158 ls []) := by
    intro y_5 y_6 y_7 y_8 y_9 hv ls hl
    refine lv_iload hx hb dX8_fewestQueued_158 (lv_at hl 3 rfl) ?_
    exact W.iret (v := y_8) hx hb hr (fun t ht hW => ⟨_, rfl, hv, ht⟩) (fun q h => absurd h List.not_mem_nil) dX8_fewestQueued_160
  have L_4 : ∀ n_15 : Nat, ∀ (y_10 : Int32) (y_11 : Int32) (y_12 : Int32) (y_13 : Int32) (y_14 : Int32), (lp_X8_fewestQueued_63 M p1 p2 x_3 post (fun (y_5 : Int32) (y_6 : Int32) (y_7 : Int32) (y_8 : Int32) (y_9 : Int32) => post y_8) n_15 y_10 y_11 y_12 y_13 y_14) → ∀ ls : Array Slot, lv_has ls 12 [(11, .int y_10), (10, .int y_11), (9, .int y_12), (8, .int y_13), (7, .int x_3), (6, .int y_14), (5, .int (M 13 3)), (4, .ref (a 5)), (0, .ref (a 0)), (1, .int p1), (2, .int p2), (3, .int p3)] → W p l e (headSpec wsX8_fewestQueued ({ frames := 1, cells := 0, slots := 0, locals := 21 })).room s m ([.ref (a 0), .int p1, .int p2, .int p3] : List Value).toArray below meth c s.heap [] 0 0 (MQ below (vp_Si post) ([.ref (a 0), .int p1, .int p2, .int p3] : List Value).toArray s 0 0 (fun _ => False)) (F0 m 63 ls []) := by
    intro n_15
    induction n_15 with
    | zero =>
      intro y_10 y_11 y_12 y_13 y_14 hv
      exact hv.elim
    | succ n_15 L_4_ih =>
      intro y_10 y_11 y_12 y_13 y_14 hv ls hl
      refine lv_iload hx hb dX8_fewestQueued_63 (lv_at hl 0 rfl) ?_
      refine lv_aload hx hb dX8_fewestQueued_65 (lv_at hl 7 rfl) ?_
      refine x_rV (As := []) (rest := [.int y_10]) ⟨hx, hb, hml, hown, hts⟩ (c_X6_whole l D cT (x_sh a 5) (x_sh M 5) _ hv) w_143 hK hP hS hN [5] rfl 6 0 rfl rfl rfl hl.1 rfl (Nat.le_of_ble_eq_true rfl) dX8_fewestQueued_67 ⟨Nat.le_of_ble_eq_true rfl, Nat.le_of_ble_eq_true rfl⟩ (fun r_16 hv => ?_)
      refine lv_icmp_ge (tgt := 158) hx hb dX8_fewestQueued_70 (by decide) (fun c_17 => ?_) (fun c_17 => ?_)
      · have hv := hv.1 c_17
        exact K_L_4 _ _ _ _ _ hv ls (lv_sub hl [0, 1, 2, 3, 4, 5, 6, 7, 8, 9, 10, 11] rfl)
      · have hv := hv.2 c_17
        refine lv_iload hx hb dX8_fewestQueued_73 (lv_at hl 1 rfl) ?_
        refine lv_iload_n hx hb dX8_fewestQueued_75 rfl (lv_at hl 10 rfl) ?_
        refine lv_icmp_lt (tgt := 97) hx hb dX8_fewestQueued_76 (by decide) (fun c_18 => ?_) (fun c_18 => ?_)
        · have hv := hv.1 c_18
          refine lv_iload hx hb dX8_fewestQueued_97 (lv_at hl 1 rfl) ?_
          refine lv_iconst (v := 1) hx hb dX8_fewestQueued_99 (by decide) ?_
          refine lv_iadd hx hb dX8_fewestQueued_100 ?_
          refine lv_iload_n hx hb dX8_fewestQueued_101 rfl (lv_at hl 9 rfl) ?_
          refine lv_icmp_ge (tgt := 112) hx hb dX8_fewestQueued_102 (by decide) (fun c_19 => ?_) (fun c_19 => ?_)
          · have hv := hv.1 c_19
            refine lv_iconst (v := 0) hx hb dX8_fewestQueued_112 (by decide) ?_
            refine lv_istore (lv' := [(10, .int 0), (11, .int y_10), (9, .int y_12), (8, .int y_13), (7, .int x_3), (6, .int y_14), (5, .int (M 13 3)), (4, .ref (a 5)), (0, .ref (a 0)), (1, .int p1), (2, .int p2), (3, .int p3)]) hx hb dX8_fewestQueued_113 hl (by decide) rfl (fun ls hl => ?_)
            refine lv_iload hx hb dX8_fewestQueued_115 (lv_at hl 1 rfl) ?_
            refine lv_iload hx hb dX8_fewestQueued_117 (lv_at hl 4 rfl) ?_
            refine lv_icmp_lt (tgt := 152) hx hb dX8_fewestQueued_119 (by decide) (fun c_20 => ?_) (fun c_20 => ?_)
            · have hv := hv.1 c_20
              obtain ⟨x_21, ex_21⟩ : ∃ z : Int32, z = y_10 + 1 := ⟨_, rfl⟩
              have hv := hv x_21 ex_21
              refine lv_iinc (v := x_21) (lv' := [(11, .int x_21), (10, .int 0), (9, .int y_12), (8, .int y_13), (7, .int x_3), (6, .int y_14), (5, .int (M 13 3)), (4, .ref (a 5)), (0, .ref (a 0)), (1, .int p1), (2, .int p2), (3, .int p3)]) hx hb dX8_fewestQueued_152 hl (k := 1) rfl (by rw [ex_21]; rfl) (by decide) rfl (fun ls hl => ?_)
              refine lv_goto (tgt := 63) hx hb dX8_fewestQueued_155 (by decide) ?_
              exact L_4_ih _ _ _ _ _ hv ls (lv_sub hl [0, 1, 2, 3, 4, 5, 6, 7, 8, 9, 10, 11] rfl)
            · have hv := hv.2 c_20
              refine lv_iload hx hb dX8_fewestQueued_122 (lv_at hl 1 rfl) ?_
              refine lv_iload hx hb dX8_fewestQueued_124 (lv_at hl 4 rfl) ?_
              refine lv_isub hx hb dX8_fewestQueued_126 ?_
              refine lv_bipush (v := 8) hx hb dX8_fewestQueued_127 (by decide) ?_
              refine lv_irem hx hb dX8_fewestQueued_129 (by decide) ?_
              refine lv_if_ne (tgt := 152) hx hb dX8_fewestQueued_130 (by decide) (fun c_22 => ?_) (fun c_22 => ?_)
              · have hv := hv.1 c_22
                obtain ⟨x_23, ex_23⟩ : ∃ z : Int32, z = y_10 + 1 := ⟨_, rfl⟩
                have hv := hv x_23 ex_23
                refine lv_iinc (v := x_23) (lv' := [(11, .int x_23), (10, .int 0), (9, .int y_12), (8, .int y_13), (7, .int x_3), (6, .int y_14), (5, .int (M 13 3)), (4, .ref (a 5)), (0, .ref (a 0)), (1, .int p1), (2, .int p2), (3, .int p3)]) hx hb dX8_fewestQueued_152 hl (k := 1) rfl (by rw [ex_23]; rfl) (by decide) rfl (fun ls hl => ?_)
                refine lv_goto (tgt := 63) hx hb dX8_fewestQueued_155 (by decide) ?_
                exact L_4_ih _ _ _ _ _ hv ls (lv_sub hl [0, 1, 2, 3, 4, 5, 6, 7, 8, 9, 10, 11] rfl)
              · have hv := hv.2 c_22
                refine lv_iload hx hb dX8_fewestQueued_133 (lv_at hl 2 rfl) ?_
                refine lv_if_ne (tgt := 140) hx hb dX8_fewestQueued_135 (by decide) (fun c_24 => ?_) (fun c_24 => ?_)
                · have hv := hv.1 c_24
                  refine lv_iload hx hb dX8_fewestQueued_140 (lv_at hl 3 rfl) ?_
                  refine lv_iload hx hb dX8_fewestQueued_142 (lv_at hl 2 rfl) ?_
                  refine va_mmin hx hb (hml.trans hl.1.symm) hown k_min183 k_mins k_mini k_minc (Nat.le_of_ble_eq_true rfl) (Nat.le_of_ble_eq_true rfl) (Nat.zero_le _) (Nat.zero_le _) dX8_fewestQueued_144 ?_
                  refine lv_topi (fun x_25 ex_25 => ?_)
                  have hv := hv x_25 ex_25
                  refine lv_istore (lv' := [(8, .int x_25), (10, .int 0), (11, .int y_10), (9, .int y_12), (7, .int x_3), (6, .int y_14), (5, .int (M 13 3)), (4, .ref (a 5)), (0, .ref (a 0)), (1, .int p1), (2, .int p2), (3, .int p3)]) hx hb dX8_fewestQueued_147 hl (by decide) rfl (fun ls hl => ?_)
                  obtain ⟨x_26, ex_26⟩ : ∃ z : Int32, z = y_12 + (-1) := ⟨_, rfl⟩
                  have hv := hv x_26 ex_26
                  refine lv_iinc (v := x_26) (lv' := [(9, .int x_26), (8, .int x_25), (10, .int 0), (11, .int y_10), (7, .int x_3), (6, .int y_14), (5, .int (M 13 3)), (4, .ref (a 5)), (0, .ref (a 0)), (1, .int p1), (2, .int p2), (3, .int p3)]) hx hb dX8_fewestQueued_149 hl (k := 3) rfl (by rw [ex_26]; rfl) (by decide) rfl (fun ls hl => ?_)
                  obtain ⟨x_27, ex_27⟩ : ∃ z : Int32, z = y_10 + 1 := ⟨_, rfl⟩
                  have hv := hv x_27 ex_27
                  refine lv_iinc (v := x_27) (lv' := [(11, .int x_27), (9, .int x_26), (8, .int x_25), (10, .int 0), (7, .int x_3), (6, .int y_14), (5, .int (M 13 3)), (4, .ref (a 5)), (0, .ref (a 0)), (1, .int p1), (2, .int p2), (3, .int p3)]) hx hb dX8_fewestQueued_152 hl (k := 3) rfl (by rw [ex_27]; rfl) (by decide) rfl (fun ls hl => ?_)
                  refine lv_goto (tgt := 63) hx hb dX8_fewestQueued_155 (by decide) ?_
                  exact L_4_ih _ _ _ _ _ hv ls (lv_sub hl [0, 3, 1, 2, 4, 5, 6, 7, 8, 9, 10, 11] rfl)
                · have hv := hv.2 c_24
                  refine lv_iconst (v := 0) hx hb dX8_fewestQueued_138 (by decide) ?_
                  exact W.iret (v := 0) hx hb hr (fun t ht hW => ⟨_, rfl, hv, ht⟩) (fun q h => absurd h List.not_mem_nil) dX8_fewestQueued_139
          · have hv := hv.2 c_19
            refine lv_iload hx hb dX8_fewestQueued_105 (lv_at hl 1 rfl) ?_
            refine lv_iconst (v := 1) hx hb dX8_fewestQueued_107 (by decide) ?_
            refine lv_iadd hx hb dX8_fewestQueued_108 ?_
            refine lv_goto (tgt := 113) hx hb dX8_fewestQueued_109 (by decide) ?_
            refine lv_topi (fun x_28 ex_28 => ?_)
            have hv := hv x_28 ex_28
            refine lv_istore (lv' := [(10, .int x_28), (11, .int y_10), (9, .int y_12), (8, .int y_13), (7, .int x_3), (6, .int y_14), (5, .int (M 13 3)), (4, .ref (a 5)), (0, .ref (a 0)), (1, .int p1), (2, .int p2), (3, .int p3)]) hx hb dX8_fewestQueued_113 hl (by decide) rfl (fun ls hl => ?_)
            refine lv_iload hx hb dX8_fewestQueued_115 (lv_at hl 1 rfl) ?_
            refine lv_iload hx hb dX8_fewestQueued_117 (lv_at hl 4 rfl) ?_
            refine lv_icmp_lt (tgt := 152) hx hb dX8_fewestQueued_119 (by decide) (fun c_29 => ?_) (fun c_29 => ?_)
            · have hv := hv.1 c_29
              obtain ⟨x_30, ex_30⟩ : ∃ z : Int32, z = y_10 + 1 := ⟨_, rfl⟩
              have hv := hv x_30 ex_30
              refine lv_iinc (v := x_30) (lv' := [(11, .int x_30), (10, .int x_28), (9, .int y_12), (8, .int y_13), (7, .int x_3), (6, .int y_14), (5, .int (M 13 3)), (4, .ref (a 5)), (0, .ref (a 0)), (1, .int p1), (2, .int p2), (3, .int p3)]) hx hb dX8_fewestQueued_152 hl (k := 1) rfl (by rw [ex_30]; rfl) (by decide) rfl (fun ls hl => ?_)
              refine lv_goto (tgt := 63) hx hb dX8_fewestQueued_155 (by decide) ?_
              exact L_4_ih _ _ _ _ _ hv ls (lv_sub hl [0, 1, 2, 3, 4, 5, 6, 7, 8, 9, 10, 11] rfl)
            · have hv := hv.2 c_29
              refine lv_iload hx hb dX8_fewestQueued_122 (lv_at hl 1 rfl) ?_
              refine lv_iload hx hb dX8_fewestQueued_124 (lv_at hl 4 rfl) ?_
              refine lv_isub hx hb dX8_fewestQueued_126 ?_
              refine lv_bipush (v := 8) hx hb dX8_fewestQueued_127 (by decide) ?_
              refine lv_irem hx hb dX8_fewestQueued_129 (by decide) ?_
              refine lv_if_ne (tgt := 152) hx hb dX8_fewestQueued_130 (by decide) (fun c_31 => ?_) (fun c_31 => ?_)
              · have hv := hv.1 c_31
                obtain ⟨x_32, ex_32⟩ : ∃ z : Int32, z = y_10 + 1 := ⟨_, rfl⟩
                have hv := hv x_32 ex_32
                refine lv_iinc (v := x_32) (lv' := [(11, .int x_32), (10, .int x_28), (9, .int y_12), (8, .int y_13), (7, .int x_3), (6, .int y_14), (5, .int (M 13 3)), (4, .ref (a 5)), (0, .ref (a 0)), (1, .int p1), (2, .int p2), (3, .int p3)]) hx hb dX8_fewestQueued_152 hl (k := 1) rfl (by rw [ex_32]; rfl) (by decide) rfl (fun ls hl => ?_)
                refine lv_goto (tgt := 63) hx hb dX8_fewestQueued_155 (by decide) ?_
                exact L_4_ih _ _ _ _ _ hv ls (lv_sub hl [0, 1, 2, 3, 4, 5, 6, 7, 8, 9, 10, 11] rfl)
              · have hv := hv.2 c_31
                refine lv_iload hx hb dX8_fewestQueued_133 (lv_at hl 2 rfl) ?_
                refine lv_if_ne (tgt := 140) hx hb dX8_fewestQueued_135 (by decide) (fun c_33 => ?_) (fun c_33 => ?_)
                · have hv := hv.1 c_33
                  refine lv_iload hx hb dX8_fewestQueued_140 (lv_at hl 3 rfl) ?_
                  refine lv_iload hx hb dX8_fewestQueued_142 (lv_at hl 2 rfl) ?_
                  refine va_mmin hx hb (hml.trans hl.1.symm) hown k_min183 k_mins k_mini k_minc (Nat.le_of_ble_eq_true rfl) (Nat.le_of_ble_eq_true rfl) (Nat.zero_le _) (Nat.zero_le _) dX8_fewestQueued_144 ?_
                  refine lv_topi (fun x_34 ex_34 => ?_)
                  have hv := hv x_34 ex_34
                  refine lv_istore (lv' := [(8, .int x_34), (10, .int x_28), (11, .int y_10), (9, .int y_12), (7, .int x_3), (6, .int y_14), (5, .int (M 13 3)), (4, .ref (a 5)), (0, .ref (a 0)), (1, .int p1), (2, .int p2), (3, .int p3)]) hx hb dX8_fewestQueued_147 hl (by decide) rfl (fun ls hl => ?_)
                  obtain ⟨x_35, ex_35⟩ : ∃ z : Int32, z = y_12 + (-1) := ⟨_, rfl⟩
                  have hv := hv x_35 ex_35
                  refine lv_iinc (v := x_35) (lv' := [(9, .int x_35), (8, .int x_34), (10, .int x_28), (11, .int y_10), (7, .int x_3), (6, .int y_14), (5, .int (M 13 3)), (4, .ref (a 5)), (0, .ref (a 0)), (1, .int p1), (2, .int p2), (3, .int p3)]) hx hb dX8_fewestQueued_149 hl (k := 3) rfl (by rw [ex_35]; rfl) (by decide) rfl (fun ls hl => ?_)
                  obtain ⟨x_36, ex_36⟩ : ∃ z : Int32, z = y_10 + 1 := ⟨_, rfl⟩
                  have hv := hv x_36 ex_36
                  refine lv_iinc (v := x_36) (lv' := [(11, .int x_36), (9, .int x_35), (8, .int x_34), (10, .int x_28), (7, .int x_3), (6, .int y_14), (5, .int (M 13 3)), (4, .ref (a 5)), (0, .ref (a 0)), (1, .int p1), (2, .int p2), (3, .int p3)]) hx hb dX8_fewestQueued_152 hl (k := 3) rfl (by rw [ex_36]; rfl) (by decide) rfl (fun ls hl => ?_)
                  refine lv_goto (tgt := 63) hx hb dX8_fewestQueued_155 (by decide) ?_
                  exact L_4_ih _ _ _ _ _ hv ls (lv_sub hl [0, 3, 1, 2, 4, 5, 6, 7, 8, 9, 10, 11] rfl)
                · have hv := hv.2 c_33
                  refine lv_iconst (v := 0) hx hb dX8_fewestQueued_138 (by decide) ?_
                  exact W.iret (v := 0) hx hb hr (fun t ht hW => ⟨_, rfl, hv, ht⟩) (fun q h => absurd h List.not_mem_nil) dX8_fewestQueued_139
        · have hv := hv.2 c_18
          refine lv_iload hx hb dX8_fewestQueued_79 (lv_at hl 2 rfl) ?_
          refine lv_iload hx hb dX8_fewestQueued_81 (lv_at hl 6 rfl) ?_
          refine lv_icmp_ge (tgt := 97) hx hb dX8_fewestQueued_83 (by decide) (fun c_37 => ?_) (fun c_37 => ?_)
          · have hv := hv.1 c_37
            refine lv_iload hx hb dX8_fewestQueued_97 (lv_at hl 1 rfl) ?_
            refine lv_iconst (v := 1) hx hb dX8_fewestQueued_99 (by decide) ?_
            refine lv_iadd hx hb dX8_fewestQueued_100 ?_
            refine lv_iload_n hx hb dX8_fewestQueued_101 rfl (lv_at hl 9 rfl) ?_
            refine lv_icmp_ge (tgt := 112) hx hb dX8_fewestQueued_102 (by decide) (fun c_38 => ?_) (fun c_38 => ?_)
            · have hv := hv.1 c_38
              refine lv_iconst (v := 0) hx hb dX8_fewestQueued_112 (by decide) ?_
              refine lv_istore (lv' := [(10, .int 0), (11, .int y_10), (9, .int y_12), (8, .int y_13), (7, .int x_3), (6, .int y_14), (5, .int (M 13 3)), (4, .ref (a 5)), (0, .ref (a 0)), (1, .int p1), (2, .int p2), (3, .int p3)]) hx hb dX8_fewestQueued_113 hl (by decide) rfl (fun ls hl => ?_)
              refine lv_iload hx hb dX8_fewestQueued_115 (lv_at hl 1 rfl) ?_
              refine lv_iload hx hb dX8_fewestQueued_117 (lv_at hl 4 rfl) ?_
              refine lv_icmp_lt (tgt := 152) hx hb dX8_fewestQueued_119 (by decide) (fun c_39 => ?_) (fun c_39 => ?_)
              · have hv := hv.1 c_39
                obtain ⟨x_40, ex_40⟩ : ∃ z : Int32, z = y_10 + 1 := ⟨_, rfl⟩
                have hv := hv x_40 ex_40
                refine lv_iinc (v := x_40) (lv' := [(11, .int x_40), (10, .int 0), (9, .int y_12), (8, .int y_13), (7, .int x_3), (6, .int y_14), (5, .int (M 13 3)), (4, .ref (a 5)), (0, .ref (a 0)), (1, .int p1), (2, .int p2), (3, .int p3)]) hx hb dX8_fewestQueued_152 hl (k := 1) rfl (by rw [ex_40]; rfl) (by decide) rfl (fun ls hl => ?_)
                refine lv_goto (tgt := 63) hx hb dX8_fewestQueued_155 (by decide) ?_
                exact L_4_ih _ _ _ _ _ hv ls (lv_sub hl [0, 1, 2, 3, 4, 5, 6, 7, 8, 9, 10, 11] rfl)
              · have hv := hv.2 c_39
                refine lv_iload hx hb dX8_fewestQueued_122 (lv_at hl 1 rfl) ?_
                refine lv_iload hx hb dX8_fewestQueued_124 (lv_at hl 4 rfl) ?_
                refine lv_isub hx hb dX8_fewestQueued_126 ?_
                refine lv_bipush (v := 8) hx hb dX8_fewestQueued_127 (by decide) ?_
                refine lv_irem hx hb dX8_fewestQueued_129 (by decide) ?_
                refine lv_if_ne (tgt := 152) hx hb dX8_fewestQueued_130 (by decide) (fun c_41 => ?_) (fun c_41 => ?_)
                · have hv := hv.1 c_41
                  obtain ⟨x_42, ex_42⟩ : ∃ z : Int32, z = y_10 + 1 := ⟨_, rfl⟩
                  have hv := hv x_42 ex_42
                  refine lv_iinc (v := x_42) (lv' := [(11, .int x_42), (10, .int 0), (9, .int y_12), (8, .int y_13), (7, .int x_3), (6, .int y_14), (5, .int (M 13 3)), (4, .ref (a 5)), (0, .ref (a 0)), (1, .int p1), (2, .int p2), (3, .int p3)]) hx hb dX8_fewestQueued_152 hl (k := 1) rfl (by rw [ex_42]; rfl) (by decide) rfl (fun ls hl => ?_)
                  refine lv_goto (tgt := 63) hx hb dX8_fewestQueued_155 (by decide) ?_
                  exact L_4_ih _ _ _ _ _ hv ls (lv_sub hl [0, 1, 2, 3, 4, 5, 6, 7, 8, 9, 10, 11] rfl)
                · have hv := hv.2 c_41
                  refine lv_iload hx hb dX8_fewestQueued_133 (lv_at hl 2 rfl) ?_
                  refine lv_if_ne (tgt := 140) hx hb dX8_fewestQueued_135 (by decide) (fun c_43 => ?_) (fun c_43 => ?_)
                  · have hv := hv.1 c_43
                    refine lv_iload hx hb dX8_fewestQueued_140 (lv_at hl 3 rfl) ?_
                    refine lv_iload hx hb dX8_fewestQueued_142 (lv_at hl 2 rfl) ?_
                    refine va_mmin hx hb (hml.trans hl.1.symm) hown k_min183 k_mins k_mini k_minc (Nat.le_of_ble_eq_true rfl) (Nat.le_of_ble_eq_true rfl) (Nat.zero_le _) (Nat.zero_le _) dX8_fewestQueued_144 ?_
                    refine lv_topi (fun x_44 ex_44 => ?_)
                    have hv := hv x_44 ex_44
                    refine lv_istore (lv' := [(8, .int x_44), (10, .int 0), (11, .int y_10), (9, .int y_12), (7, .int x_3), (6, .int y_14), (5, .int (M 13 3)), (4, .ref (a 5)), (0, .ref (a 0)), (1, .int p1), (2, .int p2), (3, .int p3)]) hx hb dX8_fewestQueued_147 hl (by decide) rfl (fun ls hl => ?_)
                    obtain ⟨x_45, ex_45⟩ : ∃ z : Int32, z = y_12 + (-1) := ⟨_, rfl⟩
                    have hv := hv x_45 ex_45
                    refine lv_iinc (v := x_45) (lv' := [(9, .int x_45), (8, .int x_44), (10, .int 0), (11, .int y_10), (7, .int x_3), (6, .int y_14), (5, .int (M 13 3)), (4, .ref (a 5)), (0, .ref (a 0)), (1, .int p1), (2, .int p2), (3, .int p3)]) hx hb dX8_fewestQueued_149 hl (k := 3) rfl (by rw [ex_45]; rfl) (by decide) rfl (fun ls hl => ?_)
                    obtain ⟨x_46, ex_46⟩ : ∃ z : Int32, z = y_10 + 1 := ⟨_, rfl⟩
                    have hv := hv x_46 ex_46
                    refine lv_iinc (v := x_46) (lv' := [(11, .int x_46), (9, .int x_45), (8, .int x_44), (10, .int 0), (7, .int x_3), (6, .int y_14), (5, .int (M 13 3)), (4, .ref (a 5)), (0, .ref (a 0)), (1, .int p1), (2, .int p2), (3, .int p3)]) hx hb dX8_fewestQueued_152 hl (k := 3) rfl (by rw [ex_46]; rfl) (by decide) rfl (fun ls hl => ?_)
                    refine lv_goto (tgt := 63) hx hb dX8_fewestQueued_155 (by decide) ?_
                    exact L_4_ih _ _ _ _ _ hv ls (lv_sub hl [0, 3, 1, 2, 4, 5, 6, 7, 8, 9, 10, 11] rfl)
                  · have hv := hv.2 c_43
                    refine lv_iconst (v := 0) hx hb dX8_fewestQueued_138 (by decide) ?_
                    exact W.iret (v := 0) hx hb hr (fun t ht hW => ⟨_, rfl, hv, ht⟩) (fun q h => absurd h List.not_mem_nil) dX8_fewestQueued_139
            · have hv := hv.2 c_38
              refine lv_iload hx hb dX8_fewestQueued_105 (lv_at hl 1 rfl) ?_
              refine lv_iconst (v := 1) hx hb dX8_fewestQueued_107 (by decide) ?_
              refine lv_iadd hx hb dX8_fewestQueued_108 ?_
              refine lv_goto (tgt := 113) hx hb dX8_fewestQueued_109 (by decide) ?_
              refine lv_topi (fun x_47 ex_47 => ?_)
              have hv := hv x_47 ex_47
              refine lv_istore (lv' := [(10, .int x_47), (11, .int y_10), (9, .int y_12), (8, .int y_13), (7, .int x_3), (6, .int y_14), (5, .int (M 13 3)), (4, .ref (a 5)), (0, .ref (a 0)), (1, .int p1), (2, .int p2), (3, .int p3)]) hx hb dX8_fewestQueued_113 hl (by decide) rfl (fun ls hl => ?_)
              refine lv_iload hx hb dX8_fewestQueued_115 (lv_at hl 1 rfl) ?_
              refine lv_iload hx hb dX8_fewestQueued_117 (lv_at hl 4 rfl) ?_
              refine lv_icmp_lt (tgt := 152) hx hb dX8_fewestQueued_119 (by decide) (fun c_48 => ?_) (fun c_48 => ?_)
              · have hv := hv.1 c_48
                obtain ⟨x_49, ex_49⟩ : ∃ z : Int32, z = y_10 + 1 := ⟨_, rfl⟩
                have hv := hv x_49 ex_49
                refine lv_iinc (v := x_49) (lv' := [(11, .int x_49), (10, .int x_47), (9, .int y_12), (8, .int y_13), (7, .int x_3), (6, .int y_14), (5, .int (M 13 3)), (4, .ref (a 5)), (0, .ref (a 0)), (1, .int p1), (2, .int p2), (3, .int p3)]) hx hb dX8_fewestQueued_152 hl (k := 1) rfl (by rw [ex_49]; rfl) (by decide) rfl (fun ls hl => ?_)
                refine lv_goto (tgt := 63) hx hb dX8_fewestQueued_155 (by decide) ?_
                exact L_4_ih _ _ _ _ _ hv ls (lv_sub hl [0, 1, 2, 3, 4, 5, 6, 7, 8, 9, 10, 11] rfl)
              · have hv := hv.2 c_48
                refine lv_iload hx hb dX8_fewestQueued_122 (lv_at hl 1 rfl) ?_
                refine lv_iload hx hb dX8_fewestQueued_124 (lv_at hl 4 rfl) ?_
                refine lv_isub hx hb dX8_fewestQueued_126 ?_
                refine lv_bipush (v := 8) hx hb dX8_fewestQueued_127 (by decide) ?_
                refine lv_irem hx hb dX8_fewestQueued_129 (by decide) ?_
                refine lv_if_ne (tgt := 152) hx hb dX8_fewestQueued_130 (by decide) (fun c_50 => ?_) (fun c_50 => ?_)
                · have hv := hv.1 c_50
                  obtain ⟨x_51, ex_51⟩ : ∃ z : Int32, z = y_10 + 1 := ⟨_, rfl⟩
                  have hv := hv x_51 ex_51
                  refine lv_iinc (v := x_51) (lv' := [(11, .int x_51), (10, .int x_47), (9, .int y_12), (8, .int y_13), (7, .int x_3), (6, .int y_14), (5, .int (M 13 3)), (4, .ref (a 5)), (0, .ref (a 0)), (1, .int p1), (2, .int p2), (3, .int p3)]) hx hb dX8_fewestQueued_152 hl (k := 1) rfl (by rw [ex_51]; rfl) (by decide) rfl (fun ls hl => ?_)
                  refine lv_goto (tgt := 63) hx hb dX8_fewestQueued_155 (by decide) ?_
                  exact L_4_ih _ _ _ _ _ hv ls (lv_sub hl [0, 1, 2, 3, 4, 5, 6, 7, 8, 9, 10, 11] rfl)
                · have hv := hv.2 c_50
                  refine lv_iload hx hb dX8_fewestQueued_133 (lv_at hl 2 rfl) ?_
                  refine lv_if_ne (tgt := 140) hx hb dX8_fewestQueued_135 (by decide) (fun c_52 => ?_) (fun c_52 => ?_)
                  · have hv := hv.1 c_52
                    refine lv_iload hx hb dX8_fewestQueued_140 (lv_at hl 3 rfl) ?_
                    refine lv_iload hx hb dX8_fewestQueued_142 (lv_at hl 2 rfl) ?_
                    refine va_mmin hx hb (hml.trans hl.1.symm) hown k_min183 k_mins k_mini k_minc (Nat.le_of_ble_eq_true rfl) (Nat.le_of_ble_eq_true rfl) (Nat.zero_le _) (Nat.zero_le _) dX8_fewestQueued_144 ?_
                    refine lv_topi (fun x_53 ex_53 => ?_)
                    have hv := hv x_53 ex_53
                    refine lv_istore (lv' := [(8, .int x_53), (10, .int x_47), (11, .int y_10), (9, .int y_12), (7, .int x_3), (6, .int y_14), (5, .int (M 13 3)), (4, .ref (a 5)), (0, .ref (a 0)), (1, .int p1), (2, .int p2), (3, .int p3)]) hx hb dX8_fewestQueued_147 hl (by decide) rfl (fun ls hl => ?_)
                    obtain ⟨x_54, ex_54⟩ : ∃ z : Int32, z = y_12 + (-1) := ⟨_, rfl⟩
                    have hv := hv x_54 ex_54
                    refine lv_iinc (v := x_54) (lv' := [(9, .int x_54), (8, .int x_53), (10, .int x_47), (11, .int y_10), (7, .int x_3), (6, .int y_14), (5, .int (M 13 3)), (4, .ref (a 5)), (0, .ref (a 0)), (1, .int p1), (2, .int p2), (3, .int p3)]) hx hb dX8_fewestQueued_149 hl (k := 3) rfl (by rw [ex_54]; rfl) (by decide) rfl (fun ls hl => ?_)
                    obtain ⟨x_55, ex_55⟩ : ∃ z : Int32, z = y_10 + 1 := ⟨_, rfl⟩
                    have hv := hv x_55 ex_55
                    refine lv_iinc (v := x_55) (lv' := [(11, .int x_55), (9, .int x_54), (8, .int x_53), (10, .int x_47), (7, .int x_3), (6, .int y_14), (5, .int (M 13 3)), (4, .ref (a 5)), (0, .ref (a 0)), (1, .int p1), (2, .int p2), (3, .int p3)]) hx hb dX8_fewestQueued_152 hl (k := 3) rfl (by rw [ex_55]; rfl) (by decide) rfl (fun ls hl => ?_)
                    refine lv_goto (tgt := 63) hx hb dX8_fewestQueued_155 (by decide) ?_
                    exact L_4_ih _ _ _ _ _ hv ls (lv_sub hl [0, 3, 1, 2, 4, 5, 6, 7, 8, 9, 10, 11] rfl)
                  · have hv := hv.2 c_52
                    refine lv_iconst (v := 0) hx hb dX8_fewestQueued_138 (by decide) ?_
                    exact W.iret (v := 0) hx hb hr (fun t ht hW => ⟨_, rfl, hv, ht⟩) (fun q h => absurd h List.not_mem_nil) dX8_fewestQueued_139
          · have hv := hv.2 c_37
            refine lv_iload hx hb dX8_fewestQueued_86 (lv_at hl 5 rfl) ?_
            refine lv_if_le (tgt := 97) hx hb dX8_fewestQueued_88 (by decide) (fun c_56 => ?_) (fun c_56 => ?_)
            · have hv := hv.1 c_56
              refine lv_iload hx hb dX8_fewestQueued_97 (lv_at hl 1 rfl) ?_
              refine lv_iconst (v := 1) hx hb dX8_fewestQueued_99 (by decide) ?_
              refine lv_iadd hx hb dX8_fewestQueued_100 ?_
              refine lv_iload_n hx hb dX8_fewestQueued_101 rfl (lv_at hl 9 rfl) ?_
              refine lv_icmp_ge (tgt := 112) hx hb dX8_fewestQueued_102 (by decide) (fun c_57 => ?_) (fun c_57 => ?_)
              · have hv := hv.1 c_57
                refine lv_iconst (v := 0) hx hb dX8_fewestQueued_112 (by decide) ?_
                refine lv_istore (lv' := [(10, .int 0), (11, .int y_10), (9, .int y_12), (8, .int y_13), (7, .int x_3), (6, .int y_14), (5, .int (M 13 3)), (4, .ref (a 5)), (0, .ref (a 0)), (1, .int p1), (2, .int p2), (3, .int p3)]) hx hb dX8_fewestQueued_113 hl (by decide) rfl (fun ls hl => ?_)
                refine lv_iload hx hb dX8_fewestQueued_115 (lv_at hl 1 rfl) ?_
                refine lv_iload hx hb dX8_fewestQueued_117 (lv_at hl 4 rfl) ?_
                refine lv_icmp_lt (tgt := 152) hx hb dX8_fewestQueued_119 (by decide) (fun c_58 => ?_) (fun c_58 => ?_)
                · have hv := hv.1 c_58
                  obtain ⟨x_59, ex_59⟩ : ∃ z : Int32, z = y_10 + 1 := ⟨_, rfl⟩
                  have hv := hv x_59 ex_59
                  refine lv_iinc (v := x_59) (lv' := [(11, .int x_59), (10, .int 0), (9, .int y_12), (8, .int y_13), (7, .int x_3), (6, .int y_14), (5, .int (M 13 3)), (4, .ref (a 5)), (0, .ref (a 0)), (1, .int p1), (2, .int p2), (3, .int p3)]) hx hb dX8_fewestQueued_152 hl (k := 1) rfl (by rw [ex_59]; rfl) (by decide) rfl (fun ls hl => ?_)
                  refine lv_goto (tgt := 63) hx hb dX8_fewestQueued_155 (by decide) ?_
                  exact L_4_ih _ _ _ _ _ hv ls (lv_sub hl [0, 1, 2, 3, 4, 5, 6, 7, 8, 9, 10, 11] rfl)
                · have hv := hv.2 c_58
                  refine lv_iload hx hb dX8_fewestQueued_122 (lv_at hl 1 rfl) ?_
                  refine lv_iload hx hb dX8_fewestQueued_124 (lv_at hl 4 rfl) ?_
                  refine lv_isub hx hb dX8_fewestQueued_126 ?_
                  refine lv_bipush (v := 8) hx hb dX8_fewestQueued_127 (by decide) ?_
                  refine lv_irem hx hb dX8_fewestQueued_129 (by decide) ?_
                  refine lv_if_ne (tgt := 152) hx hb dX8_fewestQueued_130 (by decide) (fun c_60 => ?_) (fun c_60 => ?_)
                  · have hv := hv.1 c_60
                    obtain ⟨x_61, ex_61⟩ : ∃ z : Int32, z = y_10 + 1 := ⟨_, rfl⟩
                    have hv := hv x_61 ex_61
                    refine lv_iinc (v := x_61) (lv' := [(11, .int x_61), (10, .int 0), (9, .int y_12), (8, .int y_13), (7, .int x_3), (6, .int y_14), (5, .int (M 13 3)), (4, .ref (a 5)), (0, .ref (a 0)), (1, .int p1), (2, .int p2), (3, .int p3)]) hx hb dX8_fewestQueued_152 hl (k := 1) rfl (by rw [ex_61]; rfl) (by decide) rfl (fun ls hl => ?_)
                    refine lv_goto (tgt := 63) hx hb dX8_fewestQueued_155 (by decide) ?_
                    exact L_4_ih _ _ _ _ _ hv ls (lv_sub hl [0, 1, 2, 3, 4, 5, 6, 7, 8, 9, 10, 11] rfl)
                  · have hv := hv.2 c_60
                    refine lv_iload hx hb dX8_fewestQueued_133 (lv_at hl 2 rfl) ?_
                    refine lv_if_ne (tgt := 140) hx hb dX8_fewestQueued_135 (by decide) (fun c_62 => ?_) (fun c_62 => ?_)
                    · have hv := hv.1 c_62
                      refine lv_iload hx hb dX8_fewestQueued_140 (lv_at hl 3 rfl) ?_
                      refine lv_iload hx hb dX8_fewestQueued_142 (lv_at hl 2 rfl) ?_
                      refine va_mmin hx hb (hml.trans hl.1.symm) hown k_min183 k_mins k_mini k_minc (Nat.le_of_ble_eq_true rfl) (Nat.le_of_ble_eq_true rfl) (Nat.zero_le _) (Nat.zero_le _) dX8_fewestQueued_144 ?_
                      refine lv_topi (fun x_63 ex_63 => ?_)
                      have hv := hv x_63 ex_63
                      refine lv_istore (lv' := [(8, .int x_63), (10, .int 0), (11, .int y_10), (9, .int y_12), (7, .int x_3), (6, .int y_14), (5, .int (M 13 3)), (4, .ref (a 5)), (0, .ref (a 0)), (1, .int p1), (2, .int p2), (3, .int p3)]) hx hb dX8_fewestQueued_147 hl (by decide) rfl (fun ls hl => ?_)
                      obtain ⟨x_64, ex_64⟩ : ∃ z : Int32, z = y_12 + (-1) := ⟨_, rfl⟩
                      have hv := hv x_64 ex_64
                      refine lv_iinc (v := x_64) (lv' := [(9, .int x_64), (8, .int x_63), (10, .int 0), (11, .int y_10), (7, .int x_3), (6, .int y_14), (5, .int (M 13 3)), (4, .ref (a 5)), (0, .ref (a 0)), (1, .int p1), (2, .int p2), (3, .int p3)]) hx hb dX8_fewestQueued_149 hl (k := 3) rfl (by rw [ex_64]; rfl) (by decide) rfl (fun ls hl => ?_)
                      obtain ⟨x_65, ex_65⟩ : ∃ z : Int32, z = y_10 + 1 := ⟨_, rfl⟩
                      have hv := hv x_65 ex_65
                      refine lv_iinc (v := x_65) (lv' := [(11, .int x_65), (9, .int x_64), (8, .int x_63), (10, .int 0), (7, .int x_3), (6, .int y_14), (5, .int (M 13 3)), (4, .ref (a 5)), (0, .ref (a 0)), (1, .int p1), (2, .int p2), (3, .int p3)]) hx hb dX8_fewestQueued_152 hl (k := 3) rfl (by rw [ex_65]; rfl) (by decide) rfl (fun ls hl => ?_)
                      refine lv_goto (tgt := 63) hx hb dX8_fewestQueued_155 (by decide) ?_
                      exact L_4_ih _ _ _ _ _ hv ls (lv_sub hl [0, 3, 1, 2, 4, 5, 6, 7, 8, 9, 10, 11] rfl)
                    · have hv := hv.2 c_62
                      refine lv_iconst (v := 0) hx hb dX8_fewestQueued_138 (by decide) ?_
                      exact W.iret (v := 0) hx hb hr (fun t ht hW => ⟨_, rfl, hv, ht⟩) (fun q h => absurd h List.not_mem_nil) dX8_fewestQueued_139
              · have hv := hv.2 c_57
                refine lv_iload hx hb dX8_fewestQueued_105 (lv_at hl 1 rfl) ?_
                refine lv_iconst (v := 1) hx hb dX8_fewestQueued_107 (by decide) ?_
                refine lv_iadd hx hb dX8_fewestQueued_108 ?_
                refine lv_goto (tgt := 113) hx hb dX8_fewestQueued_109 (by decide) ?_
                refine lv_topi (fun x_66 ex_66 => ?_)
                have hv := hv x_66 ex_66
                refine lv_istore (lv' := [(10, .int x_66), (11, .int y_10), (9, .int y_12), (8, .int y_13), (7, .int x_3), (6, .int y_14), (5, .int (M 13 3)), (4, .ref (a 5)), (0, .ref (a 0)), (1, .int p1), (2, .int p2), (3, .int p3)]) hx hb dX8_fewestQueued_113 hl (by decide) rfl (fun ls hl => ?_)
                refine lv_iload hx hb dX8_fewestQueued_115 (lv_at hl 1 rfl) ?_
                refine lv_iload hx hb dX8_fewestQueued_117 (lv_at hl 4 rfl) ?_
                refine lv_icmp_lt (tgt := 152) hx hb dX8_fewestQueued_119 (by decide) (fun c_67 => ?_) (fun c_67 => ?_)
                · have hv := hv.1 c_67
                  obtain ⟨x_68, ex_68⟩ : ∃ z : Int32, z = y_10 + 1 := ⟨_, rfl⟩
                  have hv := hv x_68 ex_68
                  refine lv_iinc (v := x_68) (lv' := [(11, .int x_68), (10, .int x_66), (9, .int y_12), (8, .int y_13), (7, .int x_3), (6, .int y_14), (5, .int (M 13 3)), (4, .ref (a 5)), (0, .ref (a 0)), (1, .int p1), (2, .int p2), (3, .int p3)]) hx hb dX8_fewestQueued_152 hl (k := 1) rfl (by rw [ex_68]; rfl) (by decide) rfl (fun ls hl => ?_)
                  refine lv_goto (tgt := 63) hx hb dX8_fewestQueued_155 (by decide) ?_
                  exact L_4_ih _ _ _ _ _ hv ls (lv_sub hl [0, 1, 2, 3, 4, 5, 6, 7, 8, 9, 10, 11] rfl)
                · have hv := hv.2 c_67
                  refine lv_iload hx hb dX8_fewestQueued_122 (lv_at hl 1 rfl) ?_
                  refine lv_iload hx hb dX8_fewestQueued_124 (lv_at hl 4 rfl) ?_
                  refine lv_isub hx hb dX8_fewestQueued_126 ?_
                  refine lv_bipush (v := 8) hx hb dX8_fewestQueued_127 (by decide) ?_
                  refine lv_irem hx hb dX8_fewestQueued_129 (by decide) ?_
                  refine lv_if_ne (tgt := 152) hx hb dX8_fewestQueued_130 (by decide) (fun c_69 => ?_) (fun c_69 => ?_)
                  · have hv := hv.1 c_69
                    obtain ⟨x_70, ex_70⟩ : ∃ z : Int32, z = y_10 + 1 := ⟨_, rfl⟩
                    have hv := hv x_70 ex_70
                    refine lv_iinc (v := x_70) (lv' := [(11, .int x_70), (10, .int x_66), (9, .int y_12), (8, .int y_13), (7, .int x_3), (6, .int y_14), (5, .int (M 13 3)), (4, .ref (a 5)), (0, .ref (a 0)), (1, .int p1), (2, .int p2), (3, .int p3)]) hx hb dX8_fewestQueued_152 hl (k := 1) rfl (by rw [ex_70]; rfl) (by decide) rfl (fun ls hl => ?_)
                    refine lv_goto (tgt := 63) hx hb dX8_fewestQueued_155 (by decide) ?_
                    exact L_4_ih _ _ _ _ _ hv ls (lv_sub hl [0, 1, 2, 3, 4, 5, 6, 7, 8, 9, 10, 11] rfl)
                  · have hv := hv.2 c_69
                    refine lv_iload hx hb dX8_fewestQueued_133 (lv_at hl 2 rfl) ?_
                    refine lv_if_ne (tgt := 140) hx hb dX8_fewestQueued_135 (by decide) (fun c_71 => ?_) (fun c_71 => ?_)
                    · have hv := hv.1 c_71
                      refine lv_iload hx hb dX8_fewestQueued_140 (lv_at hl 3 rfl) ?_
                      refine lv_iload hx hb dX8_fewestQueued_142 (lv_at hl 2 rfl) ?_
                      refine va_mmin hx hb (hml.trans hl.1.symm) hown k_min183 k_mins k_mini k_minc (Nat.le_of_ble_eq_true rfl) (Nat.le_of_ble_eq_true rfl) (Nat.zero_le _) (Nat.zero_le _) dX8_fewestQueued_144 ?_
                      refine lv_topi (fun x_72 ex_72 => ?_)
                      have hv := hv x_72 ex_72
                      refine lv_istore (lv' := [(8, .int x_72), (10, .int x_66), (11, .int y_10), (9, .int y_12), (7, .int x_3), (6, .int y_14), (5, .int (M 13 3)), (4, .ref (a 5)), (0, .ref (a 0)), (1, .int p1), (2, .int p2), (3, .int p3)]) hx hb dX8_fewestQueued_147 hl (by decide) rfl (fun ls hl => ?_)
                      obtain ⟨x_73, ex_73⟩ : ∃ z : Int32, z = y_12 + (-1) := ⟨_, rfl⟩
                      have hv := hv x_73 ex_73
                      refine lv_iinc (v := x_73) (lv' := [(9, .int x_73), (8, .int x_72), (10, .int x_66), (11, .int y_10), (7, .int x_3), (6, .int y_14), (5, .int (M 13 3)), (4, .ref (a 5)), (0, .ref (a 0)), (1, .int p1), (2, .int p2), (3, .int p3)]) hx hb dX8_fewestQueued_149 hl (k := 3) rfl (by rw [ex_73]; rfl) (by decide) rfl (fun ls hl => ?_)
                      obtain ⟨x_74, ex_74⟩ : ∃ z : Int32, z = y_10 + 1 := ⟨_, rfl⟩
                      have hv := hv x_74 ex_74
                      refine lv_iinc (v := x_74) (lv' := [(11, .int x_74), (9, .int x_73), (8, .int x_72), (10, .int x_66), (7, .int x_3), (6, .int y_14), (5, .int (M 13 3)), (4, .ref (a 5)), (0, .ref (a 0)), (1, .int p1), (2, .int p2), (3, .int p3)]) hx hb dX8_fewestQueued_152 hl (k := 3) rfl (by rw [ex_74]; rfl) (by decide) rfl (fun ls hl => ?_)
                      refine lv_goto (tgt := 63) hx hb dX8_fewestQueued_155 (by decide) ?_
                      exact L_4_ih _ _ _ _ _ hv ls (lv_sub hl [0, 3, 1, 2, 4, 5, 6, 7, 8, 9, 10, 11] rfl)
                    · have hv := hv.2 c_71
                      refine lv_iconst (v := 0) hx hb dX8_fewestQueued_138 (by decide) ?_
                      exact W.iret (v := 0) hx hb hr (fun t ht hW => ⟨_, rfl, hv, ht⟩) (fun q h => absurd h List.not_mem_nil) dX8_fewestQueued_139
            · have hv := hv.2 c_56
              obtain ⟨x_75, ex_75⟩ : ∃ z : Int32, z = y_12 + 1 := ⟨_, rfl⟩
              have hv := hv x_75 ex_75
              refine lv_iinc (v := x_75) (lv' := [(9, .int x_75), (11, .int y_10), (10, .int y_11), (8, .int y_13), (7, .int x_3), (6, .int y_14), (5, .int (M 13 3)), (4, .ref (a 5)), (0, .ref (a 0)), (1, .int p1), (2, .int p2), (3, .int p3)]) hx hb dX8_fewestQueued_91 hl (k := 2) rfl (by rw [ex_75]; rfl) (by decide) rfl (fun ls hl => ?_)
              obtain ⟨x_76, ex_76⟩ : ∃ z : Int32, z = y_14 + (-1) := ⟨_, rfl⟩
              have hv := hv x_76 ex_76
              refine lv_iinc (v := x_76) (lv' := [(6, .int x_76), (9, .int x_75), (11, .int y_10), (10, .int y_11), (8, .int y_13), (7, .int x_3), (5, .int (M 13 3)), (4, .ref (a 5)), (0, .ref (a 0)), (1, .int p1), (2, .int p2), (3, .int p3)]) hx hb dX8_fewestQueued_94 hl (k := 5) rfl (by rw [ex_76]; rfl) (by decide) rfl (fun ls hl => ?_)
              refine lv_iload hx hb dX8_fewestQueued_97 (lv_at hl 3 rfl) ?_
              refine lv_iconst (v := 1) hx hb dX8_fewestQueued_99 (by decide) ?_
              refine lv_iadd hx hb dX8_fewestQueued_100 ?_
              refine lv_iload_n hx hb dX8_fewestQueued_101 rfl (lv_at hl 9 rfl) ?_
              refine lv_icmp_ge (tgt := 112) hx hb dX8_fewestQueued_102 (by decide) (fun c_77 => ?_) (fun c_77 => ?_)
              · have hv := hv.1 c_77
                refine lv_iconst (v := 0) hx hb dX8_fewestQueued_112 (by decide) ?_
                refine lv_istore (lv' := [(10, .int 0), (6, .int x_76), (9, .int x_75), (11, .int y_10), (8, .int y_13), (7, .int x_3), (5, .int (M 13 3)), (4, .ref (a 5)), (0, .ref (a 0)), (1, .int p1), (2, .int p2), (3, .int p3)]) hx hb dX8_fewestQueued_113 hl (by decide) rfl (fun ls hl => ?_)
                refine lv_iload hx hb dX8_fewestQueued_115 (lv_at hl 3 rfl) ?_
                refine lv_iload hx hb dX8_fewestQueued_117 (lv_at hl 5 rfl) ?_
                refine lv_icmp_lt (tgt := 152) hx hb dX8_fewestQueued_119 (by decide) (fun c_78 => ?_) (fun c_78 => ?_)
                · have hv := hv.1 c_78
                  obtain ⟨x_79, ex_79⟩ : ∃ z : Int32, z = y_10 + 1 := ⟨_, rfl⟩
                  have hv := hv x_79 ex_79
                  refine lv_iinc (v := x_79) (lv' := [(11, .int x_79), (10, .int 0), (6, .int x_76), (9, .int x_75), (8, .int y_13), (7, .int x_3), (5, .int (M 13 3)), (4, .ref (a 5)), (0, .ref (a 0)), (1, .int p1), (2, .int p2), (3, .int p3)]) hx hb dX8_fewestQueued_152 hl (k := 3) rfl (by rw [ex_79]; rfl) (by decide) rfl (fun ls hl => ?_)
                  refine lv_goto (tgt := 63) hx hb dX8_fewestQueued_155 (by decide) ?_
                  exact L_4_ih _ _ _ _ _ hv ls (lv_sub hl [0, 1, 3, 4, 5, 2, 6, 7, 8, 9, 10, 11] rfl)
                · have hv := hv.2 c_78
                  refine lv_iload hx hb dX8_fewestQueued_122 (lv_at hl 3 rfl) ?_
                  refine lv_iload hx hb dX8_fewestQueued_124 (lv_at hl 5 rfl) ?_
                  refine lv_isub hx hb dX8_fewestQueued_126 ?_
                  refine lv_bipush (v := 8) hx hb dX8_fewestQueued_127 (by decide) ?_
                  refine lv_irem hx hb dX8_fewestQueued_129 (by decide) ?_
                  refine lv_if_ne (tgt := 152) hx hb dX8_fewestQueued_130 (by decide) (fun c_80 => ?_) (fun c_80 => ?_)
                  · have hv := hv.1 c_80
                    obtain ⟨x_81, ex_81⟩ : ∃ z : Int32, z = y_10 + 1 := ⟨_, rfl⟩
                    have hv := hv x_81 ex_81
                    refine lv_iinc (v := x_81) (lv' := [(11, .int x_81), (10, .int 0), (6, .int x_76), (9, .int x_75), (8, .int y_13), (7, .int x_3), (5, .int (M 13 3)), (4, .ref (a 5)), (0, .ref (a 0)), (1, .int p1), (2, .int p2), (3, .int p3)]) hx hb dX8_fewestQueued_152 hl (k := 3) rfl (by rw [ex_81]; rfl) (by decide) rfl (fun ls hl => ?_)
                    refine lv_goto (tgt := 63) hx hb dX8_fewestQueued_155 (by decide) ?_
                    exact L_4_ih _ _ _ _ _ hv ls (lv_sub hl [0, 1, 3, 4, 5, 2, 6, 7, 8, 9, 10, 11] rfl)
                  · have hv := hv.2 c_80
                    refine lv_iload hx hb dX8_fewestQueued_133 (lv_at hl 2 rfl) ?_
                    refine lv_if_ne (tgt := 140) hx hb dX8_fewestQueued_135 (by decide) (fun c_82 => ?_) (fun c_82 => ?_)
                    · have hv := hv.1 c_82
                      refine lv_iload hx hb dX8_fewestQueued_140 (lv_at hl 4 rfl) ?_
                      refine lv_iload hx hb dX8_fewestQueued_142 (lv_at hl 2 rfl) ?_
                      refine va_mmin hx hb (hml.trans hl.1.symm) hown k_min183 k_mins k_mini k_minc (Nat.le_of_ble_eq_true rfl) (Nat.le_of_ble_eq_true rfl) (Nat.zero_le _) (Nat.zero_le _) dX8_fewestQueued_144 ?_
                      refine lv_topi (fun x_83 ex_83 => ?_)
                      have hv := hv x_83 ex_83
                      refine lv_istore (lv' := [(8, .int x_83), (10, .int 0), (6, .int x_76), (9, .int x_75), (11, .int y_10), (7, .int x_3), (5, .int (M 13 3)), (4, .ref (a 5)), (0, .ref (a 0)), (1, .int p1), (2, .int p2), (3, .int p3)]) hx hb dX8_fewestQueued_147 hl (by decide) rfl (fun ls hl => ?_)
                      obtain ⟨x_84, ex_84⟩ : ∃ z : Int32, z = x_75 + (-1) := ⟨_, rfl⟩
                      have hv := hv x_84 ex_84
                      refine lv_iinc (v := x_84) (lv' := [(9, .int x_84), (8, .int x_83), (10, .int 0), (6, .int x_76), (11, .int y_10), (7, .int x_3), (5, .int (M 13 3)), (4, .ref (a 5)), (0, .ref (a 0)), (1, .int p1), (2, .int p2), (3, .int p3)]) hx hb dX8_fewestQueued_149 hl (k := 3) rfl (by rw [ex_84]; rfl) (by decide) rfl (fun ls hl => ?_)
                      obtain ⟨x_85, ex_85⟩ : ∃ z : Int32, z = y_10 + 1 := ⟨_, rfl⟩
                      have hv := hv x_85 ex_85
                      refine lv_iinc (v := x_85) (lv' := [(11, .int x_85), (9, .int x_84), (8, .int x_83), (10, .int 0), (6, .int x_76), (7, .int x_3), (5, .int (M 13 3)), (4, .ref (a 5)), (0, .ref (a 0)), (1, .int p1), (2, .int p2), (3, .int p3)]) hx hb dX8_fewestQueued_152 hl (k := 4) rfl (by rw [ex_85]; rfl) (by decide) rfl (fun ls hl => ?_)
                      refine lv_goto (tgt := 63) hx hb dX8_fewestQueued_155 (by decide) ?_
                      exact L_4_ih _ _ _ _ _ hv ls (lv_sub hl [0, 3, 1, 2, 5, 4, 6, 7, 8, 9, 10, 11] rfl)
                    · have hv := hv.2 c_82
                      refine lv_iconst (v := 0) hx hb dX8_fewestQueued_138 (by decide) ?_
                      exact W.iret (v := 0) hx hb hr (fun t ht hW => ⟨_, rfl, hv, ht⟩) (fun q h => absurd h List.not_mem_nil) dX8_fewestQueued_139
              · have hv := hv.2 c_77
                refine lv_iload hx hb dX8_fewestQueued_105 (lv_at hl 3 rfl) ?_
                refine lv_iconst (v := 1) hx hb dX8_fewestQueued_107 (by decide) ?_
                refine lv_iadd hx hb dX8_fewestQueued_108 ?_
                refine lv_goto (tgt := 113) hx hb dX8_fewestQueued_109 (by decide) ?_
                refine lv_topi (fun x_86 ex_86 => ?_)
                have hv := hv x_86 ex_86
                refine lv_istore (lv' := [(10, .int x_86), (6, .int x_76), (9, .int x_75), (11, .int y_10), (8, .int y_13), (7, .int x_3), (5, .int (M 13 3)), (4, .ref (a 5)), (0, .ref (a 0)), (1, .int p1), (2, .int p2), (3, .int p3)]) hx hb dX8_fewestQueued_113 hl (by decide) rfl (fun ls hl => ?_)
                refine lv_iload hx hb dX8_fewestQueued_115 (lv_at hl 3 rfl) ?_
                refine lv_iload hx hb dX8_fewestQueued_117 (lv_at hl 5 rfl) ?_
                refine lv_icmp_lt (tgt := 152) hx hb dX8_fewestQueued_119 (by decide) (fun c_87 => ?_) (fun c_87 => ?_)
                · have hv := hv.1 c_87
                  obtain ⟨x_88, ex_88⟩ : ∃ z : Int32, z = y_10 + 1 := ⟨_, rfl⟩
                  have hv := hv x_88 ex_88
                  refine lv_iinc (v := x_88) (lv' := [(11, .int x_88), (10, .int x_86), (6, .int x_76), (9, .int x_75), (8, .int y_13), (7, .int x_3), (5, .int (M 13 3)), (4, .ref (a 5)), (0, .ref (a 0)), (1, .int p1), (2, .int p2), (3, .int p3)]) hx hb dX8_fewestQueued_152 hl (k := 3) rfl (by rw [ex_88]; rfl) (by decide) rfl (fun ls hl => ?_)
                  refine lv_goto (tgt := 63) hx hb dX8_fewestQueued_155 (by decide) ?_
                  exact L_4_ih _ _ _ _ _ hv ls (lv_sub hl [0, 1, 3, 4, 5, 2, 6, 7, 8, 9, 10, 11] rfl)
                · have hv := hv.2 c_87
                  refine lv_iload hx hb dX8_fewestQueued_122 (lv_at hl 3 rfl) ?_
                  refine lv_iload hx hb dX8_fewestQueued_124 (lv_at hl 5 rfl) ?_
                  refine lv_isub hx hb dX8_fewestQueued_126 ?_
                  refine lv_bipush (v := 8) hx hb dX8_fewestQueued_127 (by decide) ?_
                  refine lv_irem hx hb dX8_fewestQueued_129 (by decide) ?_
                  refine lv_if_ne (tgt := 152) hx hb dX8_fewestQueued_130 (by decide) (fun c_89 => ?_) (fun c_89 => ?_)
                  · have hv := hv.1 c_89
                    obtain ⟨x_90, ex_90⟩ : ∃ z : Int32, z = y_10 + 1 := ⟨_, rfl⟩
                    have hv := hv x_90 ex_90
                    refine lv_iinc (v := x_90) (lv' := [(11, .int x_90), (10, .int x_86), (6, .int x_76), (9, .int x_75), (8, .int y_13), (7, .int x_3), (5, .int (M 13 3)), (4, .ref (a 5)), (0, .ref (a 0)), (1, .int p1), (2, .int p2), (3, .int p3)]) hx hb dX8_fewestQueued_152 hl (k := 3) rfl (by rw [ex_90]; rfl) (by decide) rfl (fun ls hl => ?_)
                    refine lv_goto (tgt := 63) hx hb dX8_fewestQueued_155 (by decide) ?_
                    exact L_4_ih _ _ _ _ _ hv ls (lv_sub hl [0, 1, 3, 4, 5, 2, 6, 7, 8, 9, 10, 11] rfl)
                  · have hv := hv.2 c_89
                    refine lv_iload hx hb dX8_fewestQueued_133 (lv_at hl 2 rfl) ?_
                    refine lv_if_ne (tgt := 140) hx hb dX8_fewestQueued_135 (by decide) (fun c_91 => ?_) (fun c_91 => ?_)
                    · have hv := hv.1 c_91
                      refine lv_iload hx hb dX8_fewestQueued_140 (lv_at hl 4 rfl) ?_
                      refine lv_iload hx hb dX8_fewestQueued_142 (lv_at hl 2 rfl) ?_
                      refine va_mmin hx hb (hml.trans hl.1.symm) hown k_min183 k_mins k_mini k_minc (Nat.le_of_ble_eq_true rfl) (Nat.le_of_ble_eq_true rfl) (Nat.zero_le _) (Nat.zero_le _) dX8_fewestQueued_144 ?_
                      refine lv_topi (fun x_92 ex_92 => ?_)
                      have hv := hv x_92 ex_92
                      refine lv_istore (lv' := [(8, .int x_92), (10, .int x_86), (6, .int x_76), (9, .int x_75), (11, .int y_10), (7, .int x_3), (5, .int (M 13 3)), (4, .ref (a 5)), (0, .ref (a 0)), (1, .int p1), (2, .int p2), (3, .int p3)]) hx hb dX8_fewestQueued_147 hl (by decide) rfl (fun ls hl => ?_)
                      obtain ⟨x_93, ex_93⟩ : ∃ z : Int32, z = x_75 + (-1) := ⟨_, rfl⟩
                      have hv := hv x_93 ex_93
                      refine lv_iinc (v := x_93) (lv' := [(9, .int x_93), (8, .int x_92), (10, .int x_86), (6, .int x_76), (11, .int y_10), (7, .int x_3), (5, .int (M 13 3)), (4, .ref (a 5)), (0, .ref (a 0)), (1, .int p1), (2, .int p2), (3, .int p3)]) hx hb dX8_fewestQueued_149 hl (k := 3) rfl (by rw [ex_93]; rfl) (by decide) rfl (fun ls hl => ?_)
                      obtain ⟨x_94, ex_94⟩ : ∃ z : Int32, z = y_10 + 1 := ⟨_, rfl⟩
                      have hv := hv x_94 ex_94
                      refine lv_iinc (v := x_94) (lv' := [(11, .int x_94), (9, .int x_93), (8, .int x_92), (10, .int x_86), (6, .int x_76), (7, .int x_3), (5, .int (M 13 3)), (4, .ref (a 5)), (0, .ref (a 0)), (1, .int p1), (2, .int p2), (3, .int p3)]) hx hb dX8_fewestQueued_152 hl (k := 4) rfl (by rw [ex_94]; rfl) (by decide) rfl (fun ls hl => ?_)
                      refine lv_goto (tgt := 63) hx hb dX8_fewestQueued_155 (by decide) ?_
                      exact L_4_ih _ _ _ _ _ hv ls (lv_sub hl [0, 3, 1, 2, 5, 4, 6, 7, 8, 9, 10, 11] rfl)
                    · have hv := hv.2 c_91
                      refine lv_iconst (v := 0) hx hb dX8_fewestQueued_138 (by decide) ?_
                      exact W.iret (v := 0) hx hb hr (fun t ht hW => ⟨_, rfl, hv, ht⟩) (fun q h => absurd h List.not_mem_nil) dX8_fewestQueued_139
  exact L_4 n_95 _ _ _ _ _ hv ls hl
def lp_X8_least_35 (M : ST) (p1 : Int32) (p2 : Int32) (post : Int32 → Prop) (K_ : Int32 → Int32 → Prop) : Nat → Int32 → Int32 → Prop
  | 0, _, _ => False
  | n_10 + 1, y_8, y_9 => (((p1 ≤ y_8) → K_ y_8 y_9) ∧ ((¬ (p1 ≤ y_8)) → v_X8_fewestQueued M p1 p2 y_8 (fun r_12 => ∀ x_13 : Int32, x_13 = (if r_12 < y_9 then r_12 else y_9) → ∀ x_14 : Int32, x_14 = y_8 + 1 → lp_X8_least_35 M p1 p2 post K_ n_10 x_14 x_13)))
def v_X8_least (M : ST) (p1 : Int32) (p2 : Int32) (post : Int32 → Prop) : Prop := v_X8_within p1 1 10 (fun r_1 => (((r_1 = 0) → post (-1)) ∧ ((¬ (r_1 = 0)) → v_X8_within p2 0 p1 (fun r_3 => (((¬ (r_3 = 0)) → (∃ n_15 : Nat, lp_X8_least_35 M p1 p2 post (fun (y_6 : Int32) (y_7 : Int32) => post y_7) n_15 0 (M 13 3))) ∧ ((r_3 = 0) → post (-1)))))))
set_option maxHeartbeats 4000000 in
set_option maxRecDepth 100000 in
theorem c_X8_least (l : Launch) (D : va_G) (cT : Nat → ClassId) (a : Nat → Nat) (M : ST) (im : Nat → Option Nat) (p1 : Int32) (p2 : Int32) (post : Int32 → Prop) (hv : v_X8_least M p1 p2 post) : Met l yX8_least wsX8_least ({ frames := 2, cells := 0, slots := 0, locals := 52 }) (va_Pc [.ref (a 0), .int p1, .int p2] (x_R D cT ((w_PB cT a M im)))) (vp_Si post) 0 0 (fun _ => False) := by
  refine Met.ofW (cc := cX8_least) (maxL := 5) (ret := (some .int)) (by decide) rfl ?_
  intro p e s m args below meth c s₁ B hml hpre
  obtain ⟨rfl, hP, hK, hN⟩ := hpre
  have hx := B.exec
  have hb := B.bytes
  have hr := B.returns
  have hts := atoms_spec (ws := wsX8_least) B.pre
  have hown : s.vm.findClass RX8 = some m.cls := findClass_of_methodNamed B.named
  have hlocks := B.notSynchronized
  have hS : va_S (fun _ : Nat => False) s.heap s.heap [] := va_S.rf
  have hl := lv_entry ([.ref (a 0), .int p1, .int p2]) (n := 5) (Nat.le_of_ble_eq_true rfl)
  rw [lg_entry_eq]
  generalize (lg_sl ([.ref (a 0), .int p1, .int p2]) ++ List.replicate (5 - (lg_sl ([.ref (a 0), .int p1, .int p2])).length) Slot.unset).toArray = ls at hl ⊢
  have hl : lv_has ls 5 [(0, .ref (a 0)), (1, .int p1), (2, .int p2)] := hl
  have in_X2 : ∀ w ∈ wsX20, w ∈ wsX8_least := by decide +kernel
  have in_X3 : ∀ w ∈ wsX30, w ∈ wsX8_least := by decide +kernel
  have in_X8 : ∀ w ∈ wsX80, w ∈ wsX8_least := by decide +kernel
  have w_20 : CallB (headSpec wsX8_least ({ frames := 2, cells := 0, slots := 0, locals := 52 })).room s ([.ref (a 0), .int p1, .int p2] : List Value).toArray RX8 20 yX8_within cX8_within 3 (some .boolean) wsX8_within ({ frames := 0, cells := 0, slots := 0, locals := 0 } : Room) 0 0 3 ∧ (Cond.static yX8_within).before ([.ref (a 0), .int p1, .int p2] : List Value).toArray s = true := va_cwS 3 hts gX8_least_X8_within rfl rfl rfl (by decide +kernel) ⟨Nat.le_of_ble_eq_true rfl, Nat.le_of_ble_eq_true rfl⟩
  have kf_10 : (Cond.fieldLink RX8 10 "PictureBeats" "machine" "LPictureBeats$Machine;").before ([.ref (a 0), .int p1, .int p2] : List Value).toArray s = true := hts _ (by decide +kernel)
  have kf_90 : (Cond.fieldLink RX8 90 "PictureBeats$Machine" "feed" "LPictureBeats$Feed;").before ([.ref (a 0), .int p1, .int p2] : List Value).toArray s = true := hts _ (by decide +kernel)
  have kf_94 : (Cond.fieldLink RX8 94 "PictureBeats$Feed" "depth" "I").before ([.ref (a 0), .int p1, .int p2] : List Value).toArray s = true := hts _ (by decide +kernel)
  have w_189 : CallW (headSpec wsX8_least ({ frames := 2, cells := 0, slots := 0, locals := 52 })).room s ([.ref (a 0), .int p1, .int p2] : List Value).toArray RX8 RX8 189 yX8_fewestQueued cX8_fewestQueued 12 (some .int) wsX8_fewestQueued ({ frames := 1, cells := 0, slots := 0, locals := 21 } : Room) 0 0 3 := cwV 3 hts gX8_least_X8_fewestQueued rfl rfl rfl (by decide +kernel) ⟨Nat.le_of_ble_eq_true rfl, Nat.le_of_ble_eq_true rfl⟩
  have k_min183 : (Cond.methodLink RX8 183 Lib.Math.min.name).before ([.ref (a 0), .int p1, .int p2] : List Value).toArray s = true := hts _ (by decide +kernel)
  have k_mins : (Cond.static Lib.Math.min.name).before ([.ref (a 0), .int p1, .int p2] : List Value).toArray s = true := hts _ (by decide +kernel)
  have k_mini : (Cond.initialized "java/lang/Math").before ([.ref (a 0), .int p1, .int p2] : List Value).toArray s = true := hts _ (by decide +kernel)
  have k_minc : (Cond.code Lib.Math.min.name Lib.Math.min.code 2 (some .int)).before ([.ref (a 0), .int p1, .int p2] : List Value).toArray s = true := hts _ (by decide +kernel)
  refine lv_iload_n hx hb dX8_least_0 rfl (lv_at hl 1 rfl) ?_
  refine lv_iconst (v := 1) hx hb dX8_least_1 (by decide) ?_
  refine lv_bipush (v := 10) hx hb dX8_least_2 (by decide) ?_
  refine x_rS (As := [.int p1, .int 1, .int 10]) (rest := []) ⟨hx, hb, hml, hown, hts⟩ (c_X8_within l D cT p1 1 10 _ hv) w_20 hK hS hN rfl hl.1 rfl (Nat.le_of_ble_eq_true rfl) dX8_least_4 ⟨Nat.le_of_ble_eq_true rfl, Nat.le_of_ble_eq_true rfl⟩ (fun r_1 hv => ?_)
  refine lv_if_eq (tgt := 19) hx hb dX8_least_7 (by decide) (fun c_2 => ?_) (fun c_2 => ?_)
  · have hv := hv.1 c_2
    refine lv_iconst (v := (-1)) hx hb dX8_least_19 (by decide) ?_
    exact W.iret (v := (-1)) hx hb hr (fun t ht hW => ⟨_, rfl, hv, ht⟩) (fun q h => absurd h List.not_mem_nil) dX8_least_20
  · have hv := hv.2 c_2
    refine lv_iload_n hx hb dX8_least_10 rfl (lv_at hl 2 rfl) ?_
    refine lv_iconst (v := 0) hx hb dX8_least_11 (by decide) ?_
    refine lv_iload_n hx hb dX8_least_12 rfl (lv_at hl 1 rfl) ?_
    refine x_rS (As := [.int p2, .int 0, .int p1]) (rest := []) ⟨hx, hb, hml, hown, hts⟩ (c_X8_within l D cT p2 0 p1 _ hv) w_20 hK hS hN rfl hl.1 rfl (Nat.le_of_ble_eq_true rfl) dX8_least_13 ⟨Nat.le_of_ble_eq_true rfl, Nat.le_of_ble_eq_true rfl⟩ (fun r_3 hv => ?_)
    refine lv_if_ne (tgt := 21) hx hb dX8_least_16 (by decide) (fun c_4 => ?_) (fun c_4 => ?_)
    · have hv := hv.1 c_4
      refine lv_aload_n hx hb dX8_least_21 rfl (lv_at hl 0 rfl) ?_
      refine va_get (D := D) (ci := 8) (v := .ref (a 2)) (C := RX8) (T := TX8) (N := 2) hx hb hts in_X8 hown hK hP 0 rfl rfl 0 (by decide) kf_10 (fun _ h9 => h9) rfl dX8_least_22 ?_
      refine va_get (D := D) (ci := 3) (v := .ref (a 13)) (C := RX3) (T := TX3) (N := 12) hx hb hts in_X3 hown hK hP 2 rfl rfl 1 (by decide) kf_90 (fun _ h9 => h9) rfl dX8_least_25 ?_
      refine va_get (D := D) (ci := 2) (v := .int (M 13 3)) (C := RX2) (T := TX2) (N := 11) hx hb hts in_X2 hown hK hP 13 rfl rfl 3 (by decide) kf_94 (fun _ h9 => h9) rfl dX8_least_28 ?_
      refine lv_istore_n (lv' := [(3, .int (M 13 3)), (0, .ref (a 0)), (1, .int p1), (2, .int p2)]) hx hb dX8_least_31 rfl hl (by decide) rfl (fun ls hl => ?_)
      refine lv_iconst (v := 0) hx hb dX8_least_32 (by decide) ?_
      refine lv_istore (lv' := [(4, .int 0), (3, .int (M 13 3)), (0, .ref (a 0)), (1, .int p1), (2, .int p2)]) hx hb dX8_least_33 hl (by decide) rfl (fun ls hl => ?_)
      obtain ⟨n_15, hv⟩ := hv
      have K_L_5 : ∀ (y_6 : Int32) (y_7 : Int32), (post y_7) → ∀ ls : Array Slot, lv_has ls 5 [(4, .int y_6), (3, .int y_7), (0, .ref (a 0)), (1, .int p1), (2, .int p2)] → W p l e (headSpec wsX8_least ({ frames := 2, cells := 0, slots := 0, locals := 52 })).room s m ([.ref (a 0), .int p1, .int p2] : List Value).toArray below meth c s.heap [] 0 0 (MQ below (vp_Si post) ([.ref (a 0), .int p1, .int p2] : List Value).toArray s 0 0 (fun _ => False)) (F0 m 60 ls []) := by
        intro y_6 y_7 hv ls hl
        refine lv_iload_n hx hb dX8_least_60 rfl (lv_at hl 1 rfl) ?_
        exact W.iret (v := y_7) hx hb hr (fun t ht hW => ⟨_, rfl, hv, ht⟩) (fun q h => absurd h List.not_mem_nil) dX8_least_61
      have L_5 : ∀ n_10 : Nat, ∀ (y_8 : Int32) (y_9 : Int32), (lp_X8_least_35 M p1 p2 post (fun (y_6 : Int32) (y_7 : Int32) => post y_7) n_10 y_8 y_9) → ∀ ls : Array Slot, lv_has ls 5 [(4, .int y_8), (3, .int y_9), (0, .ref (a 0)), (1, .int p1), (2, .int p2)] → W p l e (headSpec wsX8_least ({ frames := 2, cells := 0, slots := 0, locals := 52 })).room s m ([.ref (a 0), .int p1, .int p2] : List Value).toArray below meth c s.heap [] 0 0 (MQ below (vp_Si post) ([.ref (a 0), .int p1, .int p2] : List Value).toArray s 0 0 (fun _ => False)) (F0 m 35 ls []) := by
        intro n_10
        induction n_10 with
        | zero =>
          intro y_8 y_9 hv
          exact hv.elim
        | succ n_10 L_5_ih =>
          intro y_8 y_9 hv ls hl
          refine lv_iload hx hb dX8_least_35 (lv_at hl 0 rfl) ?_
          refine lv_iload_n hx hb dX8_least_37 rfl (lv_at hl 3 rfl) ?_
          refine lv_icmp_ge (tgt := 60) hx hb dX8_least_38 (by decide) (fun c_11 => ?_) (fun c_11 => ?_)
          · have hv := hv.1 c_11
            exact K_L_5 _ _ hv ls (lv_sub hl [0, 1, 2, 3, 4] rfl)
          · have hv := hv.2 c_11
            refine lv_iload_n hx hb dX8_least_41 rfl (lv_at hl 1 rfl) ?_
            refine lv_aload_n hx hb dX8_least_42 rfl (lv_at hl 2 rfl) ?_
            refine lv_iload_n hx hb dX8_least_43 rfl (lv_at hl 3 rfl) ?_
            refine lv_iload_n hx hb dX8_least_44 rfl (lv_at hl 4 rfl) ?_
            refine lv_iload hx hb dX8_least_45 (lv_at hl 0 rfl) ?_
            refine x_rV (As := [.int p1, .int p2, .int y_8]) (rest := [.int y_9]) ⟨hx, hb, hml, hown, hts⟩ (c_X8_fewestQueued l D cT a M im p1 p2 y_8 _ hv) w_189 hK hP hS hN [0, 1, 2, 3, 4, 5, 6, 7, 8, 9, 10, 11, 12, 13, 14, 15, 16, 17, 18, 19, 20, 21, 22, 23, 24, 25, 26, 27, 28, 29, 30] rfl 8 0 rfl rfl rfl hl.1 rfl (Nat.le_of_ble_eq_true rfl) dX8_least_47 ⟨Nat.le_of_ble_eq_true rfl, Nat.le_of_ble_eq_true rfl⟩ (fun r_12 hv => ?_)
            refine va_mmin hx hb (hml.trans hl.1.symm) hown k_min183 k_mins k_mini k_minc (Nat.le_of_ble_eq_true rfl) (Nat.le_of_ble_eq_true rfl) (Nat.zero_le _) (Nat.zero_le _) dX8_least_50 ?_
            refine lv_topi (fun x_13 ex_13 => ?_)
            have hv := hv x_13 ex_13
            refine lv_istore_n (lv' := [(3, .int x_13), (4, .int y_8), (0, .ref (a 0)), (1, .int p1), (2, .int p2)]) hx hb dX8_least_53 rfl hl (by decide) rfl (fun ls hl => ?_)
            obtain ⟨x_14, ex_14⟩ : ∃ z : Int32, z = y_8 + 1 := ⟨_, rfl⟩
            have hv := hv x_14 ex_14
            refine lv_iinc (v := x_14) (lv' := [(4, .int x_14), (3, .int x_13), (0, .ref (a 0)), (1, .int p1), (2, .int p2)]) hx hb dX8_least_54 hl (k := 1) rfl (by rw [ex_14]; rfl) (by decide) rfl (fun ls hl => ?_)
            refine lv_goto (tgt := 35) hx hb dX8_least_57 (by decide) ?_
            exact L_5_ih _ _ hv ls (lv_sub hl [0, 1, 2, 3, 4] rfl)
      exact L_5 n_15 _ _ hv ls hl
    · have hv := hv.2 c_4
      refine lv_iconst (v := (-1)) hx hb dX8_least_19 (by decide) ?_
      exact W.iret (v := (-1)) hx hb hr (fun t ht hW => ⟨_, rfl, hv, ht⟩) (fun q h => absurd h List.not_mem_nil) dX8_least_20
def lp_X8_fit_101 (p1 : Int32) (p2 : Int32) (y_13 : Int32) (x_21 : Int32) (post : Int32 → Prop) (K_ : Int32 → Int32 → Int32 → Prop) : Nat → Int32 → Int32 → Int32 → Prop
  | 0, _, _, _ => False
  | n_30 + 1, y_27, y_28, y_29 => (((x_21 < y_27) → K_ y_27 y_28 y_29) ∧ ((¬ (x_21 < y_27)) → v_X8_isNearer p1 p2 (y_13 * y_27) (y_29 * y_28) (fun r_32 => (((r_32 = 0) → ∀ x_34 : Int32, x_34 = y_27 + 1 → lp_X8_fit_101 p1 p2 y_13 x_21 post K_ n_30 x_34 y_28 y_29) ∧ ((¬ (r_32 = 0)) → ∀ x_35 : Int32, x_35 = y_27 + 1 → lp_X8_fit_101 p1 p2 y_13 x_21 post K_ n_30 x_35 y_27 y_13)))))
def lp_X8_fit_52 (p1 : Int32) (p2 : Int32) (p4 : Int32) (p5 : Int32) (p6 : Int32) (post : Int32 → Prop) (K_ : Int32 → Int32 → Int32 → Prop) : Nat → Int32 → Int32 → Int32 → Prop
  | 0, _, _, _ => False
  | n_16 + 1, y_13, y_14, y_15 => (((p4 < y_13) → K_ y_13 y_14 y_15) ∧ ((¬ (p4 < y_13)) → ¬ ((p2 * y_13) = 0) ∧ ∀ x_19 : Int32, x_19 = (p1 / (p2 * y_13)) → ∀ x_20 : Int32, x_20 = (if p5 < (if p6 < x_19 then p6 else x_19) then (if p6 < x_19 then p6 else x_19) else p5) → ∀ x_21 : Int32, x_21 = (if p5 < (if p6 < (x_19 + 1) then p6 else (x_19 + 1)) then (if p6 < (x_19 + 1) then p6 else (x_19 + 1)) else p5) → (∃ n_36 : Nat, lp_X8_fit_101 p1 p2 y_13 x_21 post (fun (y_23 : Int32) (y_24 : Int32) (y_25 : Int32) => ∀ x_26 : Int32, x_26 = y_13 + 1 → lp_X8_fit_52 p1 p2 p4 p5 p6 post K_ n_16 x_26 y_24 y_25) n_36 x_20 y_14 y_15)))
def v_X8_fit (M : ST) (p1 : Int32) (p2 : Int32) (p3 : Int32) (p4 : Int32) (p5 : Int32) (p6 : Int32) (post : Int32 → Prop) : Prop := v_X8_within p1 1 1000000 (fun r_1 => (((r_1 = 0) → post (-1)) ∧ ((¬ (r_1 = 0)) → v_X8_within p2 1 1000 (fun r_3 => (((r_3 = 0) → post (-1)) ∧ ((¬ (r_3 = 0)) → v_X8_areFitBounds p3 p4 (fun r_5 => (((r_5 = 0) → post (-1)) ∧ ((¬ (r_5 = 0)) → v_X8_areFitBounds p5 p6 (fun r_7 => (((¬ (r_7 = 0)) → (∃ n_37 : Nat, lp_X8_fit_52 p1 p2 p4 p5 p6 post (fun (y_10 : Int32) (y_11 : Int32) (y_12 : Int32) => post ((y_12 * 1000) + y_11)) n_37 p3 p5 p3)) ∧ ((r_7 = 0) → post (-1)))))))))))))
set_option maxHeartbeats 4000000 in
set_option maxRecDepth 100000 in
theorem c_X8_fit (l : Launch) (D : va_G) (cT : Nat → ClassId) (a : Nat → Nat) (M : ST) (im : Nat → Option Nat) (p1 : Int32) (p2 : Int32) (p3 : Int32) (p4 : Int32) (p5 : Int32) (p6 : Int32) (post : Int32 → Prop) (hv : v_X8_fit M p1 p2 p3 p4 p5 p6 post) : Met l yX8_fit wsX8_fit ({ frames := 2, cells := 0, slots := 0, locals := 48 }) (va_Pc [.ref (a 0), .int p1, .int p2, .int p3, .int p4, .int p5, .int p6] (x_R D cT ((w_PB cT a M im)))) (vp_Si post) 0 0 (fun _ => False) := by
  refine Met.ofW (cc := cX8_fit) (maxL := 14) (ret := (some .int)) (by decide) rfl ?_
  intro p e s m args below meth c s₁ B hml hpre
  obtain ⟨rfl, hP, hK, hN⟩ := hpre
  have hx := B.exec
  have hb := B.bytes
  have hr := B.returns
  have hts := atoms_spec (ws := wsX8_fit) B.pre
  have hown : s.vm.findClass RX8 = some m.cls := findClass_of_methodNamed B.named
  have hlocks := B.notSynchronized
  have hS : va_S (fun _ : Nat => False) s.heap s.heap [] := va_S.rf
  have hl := lv_entry ([.ref (a 0), .int p1, .int p2, .int p3, .int p4, .int p5, .int p6]) (n := 14) (Nat.le_of_ble_eq_true rfl)
  rw [lg_entry_eq]
  generalize (lg_sl ([.ref (a 0), .int p1, .int p2, .int p3, .int p4, .int p5, .int p6]) ++ List.replicate (14 - (lg_sl ([.ref (a 0), .int p1, .int p2, .int p3, .int p4, .int p5, .int p6])).length) Slot.unset).toArray = ls at hl ⊢
  have hl : lv_has ls 14 [(0, .ref (a 0)), (1, .int p1), (2, .int p2), (3, .int p3), (4, .int p4), (5, .int p5), (6, .int p6)] := hl
  have kc_115 : (Cond.constant RX8 115 (1000000)).before ([.ref (a 0), .int p1, .int p2, .int p3, .int p4, .int p5, .int p6] : List Value).toArray s = true := hts _ (by decide +kernel)
  have w_20 : CallB (headSpec wsX8_fit ({ frames := 2, cells := 0, slots := 0, locals := 48 })).room s ([.ref (a 0), .int p1, .int p2, .int p3, .int p4, .int p5, .int p6] : List Value).toArray RX8 20 yX8_within cX8_within 3 (some .boolean) wsX8_within ({ frames := 0, cells := 0, slots := 0, locals := 0 } : Room) 0 0 3 ∧ (Cond.static yX8_within).before ([.ref (a 0), .int p1, .int p2, .int p3, .int p4, .int p5, .int p6] : List Value).toArray s = true := va_cwS 3 hts gX8_fit_X8_within rfl rfl rfl (by decide +kernel) ⟨Nat.le_of_ble_eq_true rfl, Nat.le_of_ble_eq_true rfl⟩
  have w_193 : CallB (headSpec wsX8_fit ({ frames := 2, cells := 0, slots := 0, locals := 48 })).room s ([.ref (a 0), .int p1, .int p2, .int p3, .int p4, .int p5, .int p6] : List Value).toArray RX8 193 yX8_areFitBounds cX8_areFitBounds 2 (some .boolean) wsX8_areFitBounds ({ frames := 1, cells := 0, slots := 0, locals := 22 } : Room) 0 0 2 ∧ (Cond.static yX8_areFitBounds).before ([.ref (a 0), .int p1, .int p2, .int p3, .int p4, .int p5, .int p6] : List Value).toArray s = true := va_cwS 2 hts gX8_fit_X8_areFitBounds rfl rfl rfl (by decide +kernel) ⟨Nat.le_of_ble_eq_true rfl, Nat.le_of_ble_eq_true rfl⟩
  have k_min183 : (Cond.methodLink RX8 183 Lib.Math.min.name).before ([.ref (a 0), .int p1, .int p2, .int p3, .int p4, .int p5, .int p6] : List Value).toArray s = true := hts _ (by decide +kernel)
  have k_mins : (Cond.static Lib.Math.min.name).before ([.ref (a 0), .int p1, .int p2, .int p3, .int p4, .int p5, .int p6] : List Value).toArray s = true := hts _ (by decide +kernel)
  have k_mini : (Cond.initialized "java/lang/Math").before ([.ref (a 0), .int p1, .int p2, .int p3, .int p4, .int p5, .int p6] : List Value).toArray s = true := hts _ (by decide +kernel)
  have k_minc : (Cond.code Lib.Math.min.name Lib.Math.min.code 2 (some .int)).before ([.ref (a 0), .int p1, .int p2, .int p3, .int p4, .int p5, .int p6] : List Value).toArray s = true := hts _ (by decide +kernel)
  have k_max178 : (Cond.methodLink RX8 178 Lib.Math.max.name).before ([.ref (a 0), .int p1, .int p2, .int p3, .int p4, .int p5, .int p6] : List Value).toArray s = true := hts _ (by decide +kernel)
  have k_maxs : (Cond.static Lib.Math.max.name).before ([.ref (a 0), .int p1, .int p2, .int p3, .int p4, .int p5, .int p6] : List Value).toArray s = true := hts _ (by decide +kernel)
  have k_maxi : (Cond.initialized "java/lang/Math").before ([.ref (a 0), .int p1, .int p2, .int p3, .int p4, .int p5, .int p6] : List Value).toArray s = true := hts _ (by decide +kernel)
  have k_maxc : (Cond.code Lib.Math.max.name Lib.Math.max.code 2 (some .int)).before ([.ref (a 0), .int p1, .int p2, .int p3, .int p4, .int p5, .int p6] : List Value).toArray s = true := hts _ (by decide +kernel)
  have w_196 : CallB (headSpec wsX8_fit ({ frames := 2, cells := 0, slots := 0, locals := 48 })).room s ([.ref (a 0), .int p1, .int p2, .int p3, .int p4, .int p5, .int p6] : List Value).toArray RX8 196 yX8_isNearer cX8_isNearer 8 (some .boolean) wsX8_isNearer ({ frames := 1, cells := 0, slots := 0, locals := 21 } : Room) 0 0 4 ∧ (Cond.static yX8_isNearer).before ([.ref (a 0), .int p1, .int p2, .int p3, .int p4, .int p5, .int p6] : List Value).toArray s = true := va_cwS 4 hts gX8_fit_X8_isNearer rfl rfl rfl (by decide +kernel) ⟨Nat.le_of_ble_eq_true rfl, Nat.le_of_ble_eq_true rfl⟩
  refine lv_iload_n hx hb dX8_fit_0 rfl (lv_at hl 1 rfl) ?_
  refine lv_iconst (v := 1) hx hb dX8_fit_1 (by decide) ?_
  refine lv_ldc (v := 1000000) hx hb hown kc_115 dX8_fit_2 ?_
  refine x_rS (As := [.int p1, .int 1, .int 1000000]) (rest := []) ⟨hx, hb, hml, hown, hts⟩ (c_X8_within l D cT p1 1 1000000 _ hv) w_20 hK hS hN rfl hl.1 rfl (Nat.le_of_ble_eq_true rfl) dX8_fit_4 ⟨Nat.le_of_ble_eq_true rfl, Nat.le_of_ble_eq_true rfl⟩ (fun r_1 hv => ?_)
  refine lv_if_eq (tgt := 40) hx hb dX8_fit_7 (by decide) (fun c_2 => ?_) (fun c_2 => ?_)
  · have hv := hv.1 c_2
    refine lv_iconst (v := (-1)) hx hb dX8_fit_40 (by decide) ?_
    exact W.iret (v := (-1)) hx hb hr (fun t ht hW => ⟨_, rfl, hv, ht⟩) (fun q h => absurd h List.not_mem_nil) dX8_fit_41
  · have hv := hv.2 c_2
    refine lv_iload_n hx hb dX8_fit_10 rfl (lv_at hl 2 rfl) ?_
    refine lv_iconst (v := 1) hx hb dX8_fit_11 (by decide) ?_
    refine lv_sipush (v := 1000) hx hb dX8_fit_12 (by decide) ?_
    refine x_rS (As := [.int p2, .int 1, .int 1000]) (rest := []) ⟨hx, hb, hml, hown, hts⟩ (c_X8_within l D cT p2 1 1000 _ hv) w_20 hK hS hN rfl hl.1 rfl (Nat.le_of_ble_eq_true rfl) dX8_fit_15 ⟨Nat.le_of_ble_eq_true rfl, Nat.le_of_ble_eq_true rfl⟩ (fun r_3 hv => ?_)
    refine lv_if_eq (tgt := 40) hx hb dX8_fit_18 (by decide) (fun c_4 => ?_) (fun c_4 => ?_)
    · have hv := hv.1 c_4
      refine lv_iconst (v := (-1)) hx hb dX8_fit_40 (by decide) ?_
      exact W.iret (v := (-1)) hx hb hr (fun t ht hW => ⟨_, rfl, hv, ht⟩) (fun q h => absurd h List.not_mem_nil) dX8_fit_41
    · have hv := hv.2 c_4
      refine lv_iload_n hx hb dX8_fit_21 rfl (lv_at hl 3 rfl) ?_
      refine lv_iload hx hb dX8_fit_22 (lv_at hl 4 rfl) ?_
      refine x_rS (As := [.int p3, .int p4]) (rest := []) ⟨hx, hb, hml, hown, hts⟩ (c_X8_areFitBounds l D cT p3 p4 _ hv) w_193 hK hS hN rfl hl.1 rfl (Nat.le_of_ble_eq_true rfl) dX8_fit_24 ⟨Nat.le_of_ble_eq_true rfl, Nat.le_of_ble_eq_true rfl⟩ (fun r_5 hv => ?_)
      refine lv_if_eq (tgt := 40) hx hb dX8_fit_27 (by decide) (fun c_6 => ?_) (fun c_6 => ?_)
      · have hv := hv.1 c_6
        refine lv_iconst (v := (-1)) hx hb dX8_fit_40 (by decide) ?_
        exact W.iret (v := (-1)) hx hb hr (fun t ht hW => ⟨_, rfl, hv, ht⟩) (fun q h => absurd h List.not_mem_nil) dX8_fit_41
      · have hv := hv.2 c_6
        refine lv_iload hx hb dX8_fit_30 (lv_at hl 5 rfl) ?_
        refine lv_iload hx hb dX8_fit_32 (lv_at hl 6 rfl) ?_
        refine x_rS (As := [.int p5, .int p6]) (rest := []) ⟨hx, hb, hml, hown, hts⟩ (c_X8_areFitBounds l D cT p5 p6 _ hv) w_193 hK hS hN rfl hl.1 rfl (Nat.le_of_ble_eq_true rfl) dX8_fit_34 ⟨Nat.le_of_ble_eq_true rfl, Nat.le_of_ble_eq_true rfl⟩ (fun r_7 hv => ?_)
        refine lv_if_ne (tgt := 42) hx hb dX8_fit_37 (by decide) (fun c_8 => ?_) (fun c_8 => ?_)
        · have hv := hv.1 c_8
          refine lv_iload_n hx hb dX8_fit_42 rfl (lv_at hl 3 rfl) ?_
          refine lv_istore (lv' := [(7, .int p3), (0, .ref (a 0)), (1, .int p1), (2, .int p2), (3, .int p3), (4, .int p4), (5, .int p5), (6, .int p6)]) hx hb dX8_fit_43 hl (by decide) rfl (fun ls hl => ?_)
          refine lv_iload hx hb dX8_fit_45 (lv_at hl 6 rfl) ?_
          refine lv_istore (lv' := [(8, .int p5), (7, .int p3), (0, .ref (a 0)), (1, .int p1), (2, .int p2), (3, .int p3), (4, .int p4), (5, .int p5), (6, .int p6)]) hx hb dX8_fit_47 hl (by decide) rfl (fun ls hl => ?_)
          refine lv_iload_n hx hb dX8_fit_49 rfl (lv_at hl 5 rfl) ?_
          refine lv_istore (lv' := [(9, .int p3), (8, .int p5), (7, .int p3), (0, .ref (a 0)), (1, .int p1), (2, .int p2), (3, .int p3), (4, .int p4), (5, .int p5), (6, .int p6)]) hx hb dX8_fit_50 hl (by decide) rfl (fun ls hl => ?_)
          obtain ⟨n_37, hv⟩ := hv
          have K_L_9 : ∀ (y_10 : Int32) (y_11 : Int32) (y_12 : Int32), (post ((y_12 * 1000) + y_11)) → ∀ ls : Array Slot, lv_has ls 14 [(9, .int y_10), (8, .int y_11), (7, .int y_12), (0, .ref (a 0)), (1, .int p1), (2, .int p2), (3, .int p3), (4, .int p4), (5, .int p5), (6, .int p6)] → W p l e (headSpec wsX8_fit ({ frames := 2, cells := 0, slots := 0, locals := 48 })).room s m ([.ref (a 0), .int p1, .int p2, .int p3, .int p4, .int p5, .int p6] : List Value).toArray below meth c s.heap [] 0 0 (MQ below (vp_Si post) ([.ref (a 0), .int p1, .int p2, .int p3, .int p4, .int p5, .int p6] : List Value).toArray s 0 0 (fun _ => False)) (F0 m 146 ls []) := by
            intro y_10 y_11 y_12 hv ls hl
            refine lv_iload hx hb dX8_fit_146 (lv_at hl 2 rfl) ?_
            refine lv_sipush (v := 1000) hx hb dX8_fit_148 (by decide) ?_
            refine lv_imul hx hb dX8_fit_151 ?_
            refine lv_iload hx hb dX8_fit_152 (lv_at hl 1 rfl) ?_
            refine lv_iadd hx hb dX8_fit_154 ?_
            exact W.iret (v := ((y_12 * 1000) + y_11)) hx hb hr (fun t ht hW => ⟨_, rfl, hv, ht⟩) (fun q h => absurd h List.not_mem_nil) dX8_fit_155
          have L_9 : ∀ n_16 : Nat, ∀ (y_13 : Int32) (y_14 : Int32) (y_15 : Int32), (lp_X8_fit_52 p1 p2 p4 p5 p6 post (fun (y_10 : Int32) (y_11 : Int32) (y_12 : Int32) => post ((y_12 * 1000) + y_11)) n_16 y_13 y_14 y_15) → ∀ ls : Array Slot, lv_has ls 14 [(9, .int y_13), (8, .int y_14), (7, .int y_15), (0, .ref (a 0)), (1, .int p1), (2, .int p2), (3, .int p3), (4, .int p4), (5, .int p5), (6, .int p6)] → W p l e (headSpec wsX8_fit ({ frames := 2, cells := 0, slots := 0, locals := 48 })).room s m ([.ref (a 0), .int p1, .int p2, .int p3, .int p4, .int p5, .int p6] : List Value).toArray below meth c s.heap [] 0 0 (MQ below (vp_Si post) ([.ref (a 0), .int p1, .int p2, .int p3, .int p4, .int p5, .int p6] : List Value).toArray s 0 0 (fun _ => False)) (F0 m 52 ls []) := by
            intro n_16
            induction n_16 with
            | zero =>
              intro y_13 y_14 y_15 hv
              exact hv.elim
            | succ n_16 L_9_ih =>
              intro y_13 y_14 y_15 hv ls hl
              refine lv_iload hx hb dX8_fit_52 (lv_at hl 0 rfl) ?_
              refine lv_iload hx hb dX8_fit_54 (lv_at hl 7 rfl) ?_
              refine lv_icmp_gt (tgt := 146) hx hb dX8_fit_56 (by decide) (fun c_17 => ?_) (fun c_17 => ?_)
              · have hv := hv.1 c_17
                exact K_L_9 _ _ _ hv ls (lv_sub hl [0, 1, 2, 3, 4, 5, 6, 7, 8, 9] rfl)
              · have hv := hv.2 c_17
                refine lv_iload_n hx hb dX8_fit_59 rfl (lv_at hl 4 rfl) ?_
                refine lv_iload_n hx hb dX8_fit_60 rfl (lv_at hl 5 rfl) ?_
                refine lv_iload hx hb dX8_fit_61 (lv_at hl 0 rfl) ?_
                refine lv_imul hx hb dX8_fit_63 ?_
                obtain ⟨h_18, hv⟩ := hv
                refine lv_idiv hx hb dX8_fit_64 h_18 ?_
                refine lv_topi (fun x_19 ex_19 => ?_)
                have hv := hv x_19 ex_19
                refine lv_istore (lv' := [(10, .int x_19), (9, .int y_13), (8, .int y_14), (7, .int y_15), (0, .ref (a 0)), (1, .int p1), (2, .int p2), (3, .int p3), (4, .int p4), (5, .int p5), (6, .int p6)]) hx hb dX8_fit_65 hl (by decide) rfl (fun ls hl => ?_)
                refine lv_iload hx hb dX8_fit_67 (lv_at hl 9 rfl) ?_
                refine lv_iload hx hb dX8_fit_69 (lv_at hl 0 rfl) ?_
                refine lv_iload hx hb dX8_fit_71 (lv_at hl 10 rfl) ?_
                refine va_mmin hx hb (hml.trans hl.1.symm) hown k_min183 k_mins k_mini k_minc (Nat.le_of_ble_eq_true rfl) (Nat.le_of_ble_eq_true rfl) (Nat.zero_le _) (Nat.zero_le _) dX8_fit_73 ?_
                refine va_mmax hx hb (hml.trans hl.1.symm) hown k_max178 k_maxs k_maxi k_maxc (Nat.le_of_ble_eq_true rfl) (Nat.le_of_ble_eq_true rfl) (Nat.zero_le _) (Nat.zero_le _) dX8_fit_76 ?_
                refine lv_topi (fun x_20 ex_20 => ?_)
                have hv := hv x_20 ex_20
                refine lv_istore (lv' := [(11, .int x_20), (10, .int x_19), (9, .int y_13), (8, .int y_14), (7, .int y_15), (0, .ref (a 0)), (1, .int p1), (2, .int p2), (3, .int p3), (4, .int p4), (5, .int p5), (6, .int p6)]) hx hb dX8_fit_79 hl (by decide) rfl (fun ls hl => ?_)
                refine lv_iload hx hb dX8_fit_81 (lv_at hl 10 rfl) ?_
                refine lv_iload hx hb dX8_fit_83 (lv_at hl 1 rfl) ?_
                refine lv_iconst (v := 1) hx hb dX8_fit_85 (by decide) ?_
                refine lv_iadd hx hb dX8_fit_86 ?_
                refine lv_iload hx hb dX8_fit_87 (lv_at hl 11 rfl) ?_
                refine va_mmin hx hb (hml.trans hl.1.symm) hown k_min183 k_mins k_mini k_minc (Nat.le_of_ble_eq_true rfl) (Nat.le_of_ble_eq_true rfl) (Nat.zero_le _) (Nat.zero_le _) dX8_fit_89 ?_
                refine va_mmax hx hb (hml.trans hl.1.symm) hown k_max178 k_maxs k_maxi k_maxc (Nat.le_of_ble_eq_true rfl) (Nat.le_of_ble_eq_true rfl) (Nat.zero_le _) (Nat.zero_le _) dX8_fit_92 ?_
                refine lv_topi (fun x_21 ex_21 => ?_)
                have hv := hv x_21 ex_21
                refine lv_istore (lv' := [(12, .int x_21), (11, .int x_20), (10, .int x_19), (9, .int y_13), (8, .int y_14), (7, .int y_15), (0, .ref (a 0)), (1, .int p1), (2, .int p2), (3, .int p3), (4, .int p4), (5, .int p5), (6, .int p6)]) hx hb dX8_fit_95 hl (by decide) rfl (fun ls hl => ?_)
                refine lv_iload hx hb dX8_fit_97 (lv_at hl 1 rfl) ?_
                refine lv_istore (lv' := [(13, .int x_20), (12, .int x_21), (11, .int x_20), (10, .int x_19), (9, .int y_13), (8, .int y_14), (7, .int y_15), (0, .ref (a 0)), (1, .int p1), (2, .int p2), (3, .int p3), (4, .int p4), (5, .int p5), (6, .int p6)]) hx hb dX8_fit_99 hl (by decide) rfl (fun ls hl => ?_)
                obtain ⟨n_36, hv⟩ := hv
                have K_L_22 : ∀ (y_23 : Int32) (y_24 : Int32) (y_25 : Int32), (∀ x_26 : Int32, x_26 = y_13 + 1 → lp_X8_fit_52 p1 p2 p4 p5 p6 post (fun (y_10 : Int32) (y_11 : Int32) (y_12 : Int32) => post ((y_12 * 1000) + y_11)) n_16 x_26 y_24 y_25) → ∀ ls : Array Slot, lv_has ls 14 [(13, .int y_23), (12, .int x_21), (11, .int x_20), (10, .int x_19), (9, .int y_13), (8, .int y_24), (7, .int y_25), (0, .ref (a 0)), (1, .int p1), (2, .int p2), (3, .int p3), (4, .int p4), (5, .int p5), (6, .int p6)] → W p l e (headSpec wsX8_fit ({ frames := 2, cells := 0, slots := 0, locals := 48 })).room s m ([.ref (a 0), .int p1, .int p2, .int p3, .int p4, .int p5, .int p6] : List Value).toArray below meth c s.heap [] 0 0 (MQ below (vp_Si post) ([.ref (a 0), .int p1, .int p2, .int p3, .int p4, .int p5, .int p6] : List Value).toArray s 0 0 (fun _ => False)) (F0 m 140 ls []) := by
                  intro y_23 y_24 y_25 hv ls hl
                  obtain ⟨x_26, ex_26⟩ : ∃ z : Int32, z = y_13 + 1 := ⟨_, rfl⟩
                  have hv := hv x_26 ex_26
                  refine lv_iinc (v := x_26) (lv' := [(9, .int x_26), (13, .int y_23), (12, .int x_21), (11, .int x_20), (10, .int x_19), (8, .int y_24), (7, .int y_25), (0, .ref (a 0)), (1, .int p1), (2, .int p2), (3, .int p3), (4, .int p4), (5, .int p5), (6, .int p6)]) hx hb dX8_fit_140 hl (k := 4) rfl (by rw [ex_26]; rfl) (by decide) rfl (fun ls hl => ?_)
                  refine lv_goto (tgt := 52) hx hb dX8_fit_143 (by decide) ?_
                  exact L_9_ih _ _ _ hv ls (lv_sub hl [0, 5, 6, 7, 8, 9, 10, 11, 12, 13] rfl)
                have L_22 : ∀ n_30 : Nat, ∀ (y_27 : Int32) (y_28 : Int32) (y_29 : Int32), (lp_X8_fit_101 p1 p2 y_13 x_21 post (fun (y_23 : Int32) (y_24 : Int32) (y_25 : Int32) => ∀ x_26 : Int32, x_26 = y_13 + 1 → lp_X8_fit_52 p1 p2 p4 p5 p6 post (fun (y_10 : Int32) (y_11 : Int32) (y_12 : Int32) => post ((y_12 * 1000) + y_11)) n_16 x_26 y_24 y_25) n_30 y_27 y_28 y_29) → ∀ ls : Array Slot, lv_has ls 14 [(13, .int y_27), (12, .int x_21), (11, .int x_20), (10, .int x_19), (9, .int y_13), (8, .int y_28), (7, .int y_29), (0, .ref (a 0)), (1, .int p1), (2, .int p2), (3, .int p3), (4, .int p4), (5, .int p5), (6, .int p6)] → W p l e (headSpec wsX8_fit ({ frames := 2, cells := 0, slots := 0, locals := 48 })).room s m ([.ref (a 0), .int p1, .int p2, .int p3, .int p4, .int p5, .int p6] : List Value).toArray below meth c s.heap [] 0 0 (MQ below (vp_Si post) ([.ref (a 0), .int p1, .int p2, .int p3, .int p4, .int p5, .int p6] : List Value).toArray s 0 0 (fun _ => False)) (F0 m 101 ls []) := by
                  intro n_30
                  induction n_30 with
                  | zero =>
                    intro y_27 y_28 y_29 hv
                    exact hv.elim
                  | succ n_30 L_22_ih =>
                    intro y_27 y_28 y_29 hv ls hl
                    refine lv_iload hx hb dX8_fit_101 (lv_at hl 0 rfl) ?_
                    refine lv_iload hx hb dX8_fit_103 (lv_at hl 1 rfl) ?_
                    refine lv_icmp_gt (tgt := 140) hx hb dX8_fit_105 (by decide) (fun c_31 => ?_) (fun c_31 => ?_)
                    · have hv := hv.1 c_31
                      exact K_L_22 _ _ _ hv ls (lv_sub hl [0, 1, 2, 3, 4, 5, 6, 7, 8, 9, 10, 11, 12, 13] rfl)
                    · have hv := hv.2 c_31
                      refine lv_iload_n hx hb dX8_fit_108 rfl (lv_at hl 8 rfl) ?_
                      refine lv_iload_n hx hb dX8_fit_109 rfl (lv_at hl 9 rfl) ?_
                      refine lv_iload hx hb dX8_fit_110 (lv_at hl 4 rfl) ?_
                      refine lv_iload hx hb dX8_fit_112 (lv_at hl 0 rfl) ?_
                      refine lv_imul hx hb dX8_fit_114 ?_
                      refine lv_iload hx hb dX8_fit_115 (lv_at hl 6 rfl) ?_
                      refine lv_iload hx hb dX8_fit_117 (lv_at hl 5 rfl) ?_
                      refine lv_imul hx hb dX8_fit_119 ?_
                      refine x_rS (As := [.int p1, .int p2, .int (y_13 * y_27), .int (y_29 * y_28)]) (rest := []) ⟨hx, hb, hml, hown, hts⟩ (c_X8_isNearer l D cT p1 p2 (y_13 * y_27) (y_29 * y_28) _ hv) w_196 hK hS hN rfl hl.1 rfl (Nat.le_of_ble_eq_true rfl) dX8_fit_120 ⟨Nat.le_of_ble_eq_true rfl, Nat.le_of_ble_eq_true rfl⟩ (fun r_32 hv => ?_)
                      refine lv_if_eq (tgt := 134) hx hb dX8_fit_123 (by decide) (fun c_33 => ?_) (fun c_33 => ?_)
                      · have hv := hv.1 c_33
                        obtain ⟨x_34, ex_34⟩ : ∃ z : Int32, z = y_27 + 1 := ⟨_, rfl⟩
                        have hv := hv x_34 ex_34
                        refine lv_iinc (v := x_34) (lv' := [(13, .int x_34), (12, .int x_21), (11, .int x_20), (10, .int x_19), (9, .int y_13), (8, .int y_28), (7, .int y_29), (0, .ref (a 0)), (1, .int p1), (2, .int p2), (3, .int p3), (4, .int p4), (5, .int p5), (6, .int p6)]) hx hb dX8_fit_134 hl (k := 0) rfl (by rw [ex_34]; rfl) (by decide) rfl (fun ls hl => ?_)
                        refine lv_goto (tgt := 101) hx hb dX8_fit_137 (by decide) ?_
                        exact L_22_ih _ _ _ hv ls (lv_sub hl [0, 1, 2, 3, 4, 5, 6, 7, 8, 9, 10, 11, 12, 13] rfl)
                      · have hv := hv.2 c_33
                        refine lv_iload hx hb dX8_fit_126 (lv_at hl 4 rfl) ?_
                        refine lv_istore (lv' := [(7, .int y_13), (13, .int y_27), (12, .int x_21), (11, .int x_20), (10, .int x_19), (9, .int y_13), (8, .int y_28), (0, .ref (a 0)), (1, .int p1), (2, .int p2), (3, .int p3), (4, .int p4), (5, .int p5), (6, .int p6)]) hx hb dX8_fit_128 hl (by decide) rfl (fun ls hl => ?_)
                        refine lv_iload hx hb dX8_fit_130 (lv_at hl 1 rfl) ?_
                        refine lv_istore (lv' := [(8, .int y_27), (7, .int y_13), (13, .int y_27), (12, .int x_21), (11, .int x_20), (10, .int x_19), (9, .int y_13), (0, .ref (a 0)), (1, .int p1), (2, .int p2), (3, .int p3), (4, .int p4), (5, .int p5), (6, .int p6)]) hx hb dX8_fit_132 hl (by decide) rfl (fun ls hl => ?_)
                        obtain ⟨x_35, ex_35⟩ : ∃ z : Int32, z = y_27 + 1 := ⟨_, rfl⟩
                        have hv := hv x_35 ex_35
                        refine lv_iinc (v := x_35) (lv' := [(13, .int x_35), (8, .int y_27), (7, .int y_13), (12, .int x_21), (11, .int x_20), (10, .int x_19), (9, .int y_13), (0, .ref (a 0)), (1, .int p1), (2, .int p2), (3, .int p3), (4, .int p4), (5, .int p5), (6, .int p6)]) hx hb dX8_fit_134 hl (k := 2) rfl (by rw [ex_35]; rfl) (by decide) rfl (fun ls hl => ?_)
                        refine lv_goto (tgt := 101) hx hb dX8_fit_137 (by decide) ?_
                        exact L_22_ih _ _ _ hv ls (lv_sub hl [0, 3, 4, 5, 6, 1, 2, 7, 8, 9, 10, 11, 12, 13] rfl)
                exact L_22 n_36 _ _ _ hv ls hl
          exact L_9 n_37 _ _ _ hv ls hl
        · have hv := hv.2 c_8
          refine lv_iconst (v := (-1)) hx hb dX8_fit_40 (by decide) ?_
          exact W.iret (v := (-1)) hx hb hr (fun t ht hW => ⟨_, rfl, hv, ht⟩) (fun q h => absurd h List.not_mem_nil) dX8_fit_41
