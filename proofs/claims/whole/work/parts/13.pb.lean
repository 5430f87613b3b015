def v_X8_line (M : ST) (p1 : Int32) (p2 : Int32) (p3 : Int32) (p4 : Int32) (post : Int32 → ST → Prop) : Prop := v_X8_within p1 8 64 (fun r_1 => (((r_1 = 0) → post 0 M) ∧ ((¬ (r_1 = 0)) → v_X8_within p2 1 32 (fun r_3 => (((r_3 = 0) → post 0 M) ∧ ((¬ (r_3 = 0)) → v_X8_within p3 1 32 (fun r_5 => (((r_5 = 0) → post 0 M) ∧ ((¬ (r_5 = 0)) → v_X8_within p4 1 32 (fun r_7 => (((¬ (r_7 = 0)) → v_X6_tell (x_sh M 11) p1 p2 p3 p4 (fun (u_9 : ST) => ∀ M_10 : ST, M_10 = x_wb M 11 1 u_9 → post 1 M_10)) ∧ ((r_7 = 0) → post 0 M))))))))))))
set_option maxHeartbeats 4000000 in
set_option maxRecDepth 100000 in
theorem c_X8_line (l : Launch) (D : va_G) (cT : Nat → ClassId) (a : Nat → Nat) (M : ST) (im : Nat → Option Nat) (p1 : Int32) (p2 : Int32) (p3 : Int32) (p4 : Int32) (sz : Nat) (post : Int32 → ST → Prop) (hv : v_X8_line M p1 p2 p3 p4 post) : Met l yX8_line wsX8_line ({ frames := 1, cells := 0, slots := 0, locals := 24 }) (va_Pc [.ref (a 0), .int p1, .int p2, .int p3, .int p4] (x_U D cT ((w_PB cT a M im)) sz)) (va_Qi post (fun u t => x_B D cT ((w_PB cT a u im)) (va_A ((w_PB cT a M im)) sz) t) (va_A ((w_PB cT a M im)) sz)) 0 0 (va_A ((w_PB cT a M im)) sz) := by
  refine Met.ofW (cc := cX8_line) (maxL := 5) (ret := (some .boolean)) (by decide) rfl ?_
  intro p e s m args below meth c s₁ B hml hpre
  obtain ⟨rfl, hsz, hP, hK, hD0, hN⟩ := hpre
  have hx := B.exec
  have hb := B.bytes
  have hr := B.returns
  have hts := atoms_spec (ws := wsX8_line) B.pre
  have hown : s.vm.findClass RX8 = some m.cls := findClass_of_methodNamed B.named
  have hlocks := B.notSynchronized
  subst hsz
  have hD := hD0.self (sz := s.heap.size)
  generalize hAe : va_A ((w_PB cT a M im)) s.heap.size = A at hD hN ⊢
  have hA : ∀ q : Nat, s.heap.size ≤ q → A q := fun q h => by rw [← hAe]; exact Or.inr h
  have hS : va_S A s.heap s.heap [] := va_S.rf
  have hl := lv_entry ([.ref (a 0), .int p1, .int p2, .int p3, .int p4]) (n := 5) (Nat.le_of_ble_eq_true rfl)
  rw [lg_entry_eq]
  generalize (lg_sl ([.ref (a 0), .int p1, .int p2, .int p3, .int p4]) ++ List.replicate (5 - (lg_sl ([.ref (a 0), .int p1, .int p2, .int p3, .int p4])).length) Slot.unset).toArray = ls at hl ⊢
  have hl : lv_has ls 5 [(0, .ref (a 0)), (1, .int p1), (2, .int p2), (3, .int p3), (4, .int p4)] := hl
  have in_X0 : ∀ w ∈ wsX00, w ∈ wsX8_line := by decide +kernel
  have in_X3 : ∀ w ∈ wsX30, w ∈ wsX8_line := by decide +kernel
  have in_X4 : ∀ w ∈ wsX40, w ∈ wsX8_line := by decide +kernel
  have in_X8 : ∀ w ∈ wsX80, w ∈ wsX8_line := by decide +kernel
  have w_20 : CallB (headSpec wsX8_line ({ frames := 1, cells := 0, slots := 0, locals := 24 })).room s ([.ref (a 0), .int p1, .int p2, .int p3, .int p4] : List Value).toArray RX8 20 yX8_within cX8_within 3 (some .boolean) wsX8_within ({ frames := 0, cells := 0, slots := 0, locals := 0 } : Room) 0 0 3 ∧ (Cond.static yX8_within).before ([.ref (a 0), .int p1, .int p2, .int p3, .int p4] : List Value).toArray s = true := va_cwS 3 hts gX8_line_X8_within rfl rfl rfl (by decide +kernel) ⟨Nat.le_of_ble_eq_true rfl, Nat.le_of_ble_eq_true rfl⟩
  have kf_10 : (Cond.fieldLink RX8 10 "PictureBeats" "machine" "LPictureBeats$Machine;").before ([.ref (a 0), .int p1, .int p2, .int p3, .int p4] : List Value).toArray s = true := hts _ (by decide +kernel)
  have kf_24 : (Cond.fieldLink RX8 24 "PictureBeats$Machine" "beam" "LPictureBeats$Beam;").before ([.ref (a 0), .int p1, .int p2, .int p3, .int p4] : List Value).toArray s = true := hts _ (by decide +kernel)
  have kf_28 : (Cond.fieldLink RX8 28 "PictureBeats$Beam" "told" "LPictureBeats$Mode;").before ([.ref (a 0), .int p1, .int p2, .int p3, .int p4] : List Value).toArray s = true := hts _ (by decide +kernel)
  have kf_34 : (Cond.fieldLink RX8 34 "PictureBeats$Mode" "across" "LPictureBeats$Span;").before ([.ref (a 0), .int p1, .int p2, .int p3, .int p4] : List Value).toArray s = true := hts _ (by decide +kernel)
  have w_40 : CallW (headSpec wsX8_line ({ frames := 1, cells := 0, slots := 0, locals := 24 })).room s ([.ref (a 0), .int p1, .int p2, .int p3, .int p4] : List Value).toArray RX8 RX6 40 yX6_tell cX6_tell 5 none wsX6_tell ({ frames := 0, cells := 0, slots := 0, locals := 0 } : Room) 0 0 4 := cwV 4 hts gX8_line_X6_tell rfl rfl rfl (by decide +kernel) ⟨Nat.le_of_ble_eq_true rfl, Nat.le_of_ble_eq_true rfl⟩
  refine lv_iload_n hx hb dX8_line_0 rfl (lv_at hl 1 rfl) ?_
  refine lv_bipush (v := 8) hx hb dX8_line_1 (by decide) ?_
  refine lv_bipush (v := 64) hx hb dX8_line_3 (by decide) ?_
  refine x_rS (As := [.int p1, .int 8, .int 64]) (rest := []) ⟨hx, hb, hml, hown, hts⟩ (c_X8_within l D cT p1 8 64 _ hv) w_20 hK hS hN rfl hl.1 rfl (Nat.le_of_ble_eq_true rfl) dX8_line_5 ⟨Nat.le_of_ble_eq_true rfl, Nat.le_of_ble_eq_true rfl⟩ (fun r_1 hv => ?_)
  refine lv_if_eq (tgt := 42) hx hb dX8_line_8 (by decide) (fun c_2 => ?_) (fun c_2 => ?_)
  · have hv := hv.1 c_2
    refine lv_iconst (v := 0) hx hb dX8_line_42 (by decide) ?_
    exact W.zret (v := 0) hx hb hr rfl (fun t ht hW => ⟨⟨_, M, rfl, hv, by rw [ht]; exact hP, va_K.moved hW.alike hK, hD⟩, hS.F ht⟩) hS.2.2 dX8_line_43
  · have hv := hv.2 c_2
    refine lv_iload_n hx hb dX8_line_11 rfl (lv_at hl 2 rfl) ?_
    refine lv_iconst (v := 1) hx hb dX8_line_12 (by decide) ?_
    refine lv_bipush (v := 32) hx hb dX8_line_13 (by decide) ?_
    refine x_rS (As := [.int p2, .int 1, .int 32]) (rest := []) ⟨hx, hb, hml, hown, hts⟩ (c_X8_within l D cT p2 1 32 _ hv) w_20 hK hS hN rfl hl.1 rfl (Nat.le_of_ble_eq_true rfl) dX8_line_15 ⟨Nat.le_of_ble_eq_true rfl, Nat.le_of_ble_eq_true rfl⟩ (fun r_3 hv => ?_)
    refine lv_if_eq (tgt := 42) hx hb dX8_line_18 (by decide) (fun c_4 => ?_) (fun c_4 => ?_)
    · have hv := hv.1 c_4
      refine lv_iconst (v := 0) hx hb dX8_line_42 (by decide) ?_
      exact W.zret (v := 0) hx hb hr rfl (fun t ht hW => ⟨⟨_, M, rfl, hv, by rw [ht]; exact hP, va_K.moved hW.alike hK, hD⟩, hS.F ht⟩) hS.2.2 dX8_line_43
    · have hv := hv.2 c_4
      refine lv_iload_n hx hb dX8_line_21 rfl (lv_at hl 3 rfl) ?_
      refine lv_iconst (v := 1) hx hb dX8_line_22 (by decide) ?_
      refine lv_bipush (v := 32) hx hb dX8_line_23 (by decide) ?_
      refine x_rS (As := [.int p3, .int 1, .int 32]) (rest := []) ⟨hx, hb, hml, hown, hts⟩ (c_X8_within l D cT p3 1 32 _ hv) w_20 hK hS hN rfl hl.1 rfl (Nat.le_of_ble_eq_true rfl) dX8_line_25 ⟨Nat.le_of_ble_eq_true rfl, Nat.le_of_ble_eq_true rfl⟩ (fun r_5 hv => ?_)
      refine lv_if_eq (tgt := 42) hx hb dX8_line_28 (by decide) (fun c_6 => ?_) (fun c_6 => ?_)
      · have hv := hv.1 c_6
        refine lv_iconst (v := 0) hx hb dX8_line_42 (by decide) ?_
        exact W.zret (v := 0) hx hb hr rfl (fun t ht hW => ⟨⟨_, M, rfl, hv, by rw [ht]; exact hP, va_K.moved hW.alike hK, hD⟩, hS.F ht⟩) hS.2.2 dX8_line_43
      · have hv := hv.2 c_6
        refine lv_iload hx hb dX8_line_31 (lv_at hl 4 rfl) ?_
        refine lv_iconst (v := 1) hx hb dX8_line_33 (by decide) ?_
        refine lv_bipush (v := 32) hx hb dX8_line_34 (by decide) ?_
        refine x_rS (As := [.int p4, .int 1, .int 32]) (rest := []) ⟨hx, hb, hml, hown, hts⟩ (c_X8_within l D cT p4 1 32 _ hv) w_20 hK hS hN rfl hl.1 rfl (Nat.le_of_ble_eq_true rfl) dX8_line_36 ⟨Nat.le_of_ble_eq_true rfl, Nat.le_of_ble_eq_true rfl⟩ (fun r_7 hv => ?_)
        refine lv_if_ne (tgt := 44) hx hb dX8_line_39 (by decide) (fun c_8 => ?_) (fun c_8 => ?_)
        · have hv := hv.1 c_8
          refine lv_aload_n hx hb dX8_line_44 rfl (lv_at hl 0 rfl) ?_
          refine va_get (D := D) (ci := 8) (v := .ref (a 2)) (C := RX8) (T := TX8) (N := 2) hx hb hts in_X8 hown hK hP 0 rfl rfl 0 (by decide) kf_10 (fun _ h9 => h9) rfl dX8_line_45 ?_
          refine va_get (D := D) (ci := 3) (v := .ref (a 3)) (C := RX3) (T := TX3) (N := 12) hx hb hts in_X3 hown hK hP 2 rfl rfl 0 (by decide) kf_24 (fun _ h9 => h9) rfl dX8_line_48 ?_
          refine va_get (D := D) (ci := 0) (v := .ref (a 10)) (C := RX0) (T := TX0) (N := 7) hx hb hts in_X0 hown hK hP 3 rfl rfl 2 (by decide) kf_28 (fun _ h9 => h9) rfl dX8_line_51 ?_
          refine va_get (D := D) (ci := 4) (v := .ref (a 11)) (C := RX4) (T := TX4) (N := 3) hx hb hts in_X4 hown hK hP 10 rfl rfl 0 (by decide) kf_34 (fun _ h9 => h9) rfl dX8_line_54 ?_
          refine lv_iload_n hx hb dX8_line_57 rfl (lv_at hl 1 rfl) ?_
          refine lv_iload_n hx hb dX8_line_58 rfl (lv_at hl 2 rfl) ?_
          refine lv_iload_n hx hb dX8_line_59 rfl (lv_at hl 3 rfl) ?_
          refine lv_iload hx hb dX8_line_60 (lv_at hl 4 rfl) ?_
          refine x_cVv (As := [.int p1, .int p2, .int p3, .int p4]) (rest := []) (wn := fun u_9 => (w_PB cT a (x_wb M 11 1 u_9) im)) ⟨hx, hb, hml, hown, hts⟩ (c_X6_tell l D cT (x_sh a 11) (x_sh M 11) p1 p2 p3 p4 _ _ hv) w_40 hK hP hD hS hA hN [11] [0, 1, 2, 3, 4, 5, 6, 7, 8, 9, 10, 12, 13, 14, 15, 16, 17, 18, 19, 20, 21, 22, 23, 24, 25, 26, 27, 28, 29, 30] [0, 1, 2, 3, 4, 5, 6, 7, 8, 9, 10, 30, 11, 12, 13, 14, 15, 16, 17, 18, 19, 20, 21, 22, 23, 24, 25, 26, 27, 28, 29] rfl rfl (fun _ => rfl) (by decide) (by decide) (by decide) (by decide) 6 0 rfl rfl rfl hl.1 rfl (Nat.le_of_ble_eq_true rfl) dX8_line_62 ⟨Nat.le_of_ble_eq_true rfl, Nat.le_of_ble_eq_true rfl⟩ (fun u_9 H locs hv hP hD hS => ?_)
          obtain ⟨M_10, eM_10⟩ : ∃ z : ST, z = x_wb M 11 1 u_9 := ⟨_, rfl⟩
          have hP : va_P D vwCl ((w_PB cT a M_10 im)) H := by rw [eM_10]; exact hP
          have hD : va_D A ((w_PB cT a M_10 im)) := by rw [eM_10]; exact hD
          have hv := hv M_10 eM_10
          refine lv_iconst (v := 1) hx hb dX8_line_65 (by decide) ?_
          exact W.zret (v := 1) hx hb hr rfl (fun t ht hW => ⟨⟨_, M_10, rfl, hv, by rw [ht]; exact hP, va_K.moved hW.alike hK, hD⟩, hS.F ht⟩) hS.2.2 dX8_line_66
        · have hv := hv.2 c_8
          refine lv_iconst (v := 0) hx hb dX8_line_42 (by decide) ?_
          exact W.zret (v := 0) hx hb hr rfl (fun t ht hW => ⟨⟨_, M, rfl, hv, by rw [ht]; exact hP, va_K.moved hW.alike hK, hD⟩, hS.F ht⟩) hS.2.2 dX8_line_43
def v_X8_field (M : ST) (p1 : Int32) (p2 : Int32) (p3 : Int32) (p4 : Int32) (p5 : Int32) (post : Int32 → ST → Prop) : Prop := v_X8_within p1 1 32 (fun r_1 => (((r_1 = 0) → post 0 M) ∧ ((¬ (r_1 = 0)) → v_X8_within p2 1 8 (fun r_3 => (((r_3 = 0) → post 0 M) ∧ ((¬ (r_3 = 0)) → v_X8_within p3 1 8 (fun r_5 => (((r_5 = 0) → post 0 M) ∧ ((¬ (r_5 = 0)) → v_X8_within p4 1 8 (fun r_7 => (((¬ (r_7 = 0)) → v_X6_tell (x_sh M 12) p1 p2 p3 p4 (fun (u_9 : ST) => ∀ M_10 : ST, M_10 = x_wb M 12 1 u_9 → x_bool p5 ∧ ∀ M_12 : ST, M_12 = x_st M_10 10 2 p5 → post 1 M_12)) ∧ ((r_7 = 0) → post 0 M))))))))))))
set_option maxHeartbeats 4000000 in
set_option maxRecDepth 100000 in
theorem c_X8_field (l : Launch) (D : va_G) (cT : Nat → ClassId) (a : Nat → Nat) (M : ST) (im : Nat → Option Nat) (p1 : Int32) (p2 : Int32) (p3 : Int32) (p4 : Int32) (p5 : Int32) (sz : Nat) (post : Int32 → ST → Prop) (hv : v_X8_field M p1 p2 p3 p4 p5 post) : Met l yX8_field wsX8_field ({ frames := 1, cells := 0, slots := 0, locals := 24 }) (va_Pc [.ref (a 0), .int p1, .int p2, .int p3, .int p4, .int p5] (x_U D cT ((w_PB cT a M im)) sz)) (va_Qi post (fun u t => x_B D cT ((w_PB cT a u im)) (va_A ((w_PB cT a M im)) sz) t) (va_A ((w_PB cT a M im)) sz)) 0 0 (va_A ((w_PB cT a M im)) sz) := by
  refine Met.ofW (cc := cX8_field) (maxL := 6) (ret := (some .boolean)) (by decide) rfl ?_
  intro p e s m args below meth c s₁ B hml hpre
  obtain ⟨rfl, hsz, hP, hK, hD0, hN⟩ := hpre
  have hx := B.exec
  have hb := B.bytes
  have hr := B.returns
  have hts := atoms_spec (ws := wsX8_field) B.pre
  have hown : s.vm.findClass RX8 = some m.cls := findClass_of_methodNamed B.named
  have hlocks := B.notSynchronized
  subst hsz
  have hD := hD0.self (sz := s.heap.size)
  generalize hAe : va_A ((w_PB cT a M im)) s.heap.size = A at hD hN ⊢
  have hA : ∀ q : Nat, s.heap.size ≤ q → A q := fun q h => by rw [← hAe]; exact Or.inr h
  have hS : va_S A s.heap s.heap [] := va_S.rf
  have hl := lv_entry ([.ref (a 0), .int p1, .int p2, .int p3, .int p4, .int p5]) (n := 6) (Nat.le_of_ble_eq_true rfl)
  rw [lg_entry_eq]
  generalize (lg_sl ([.ref (a 0), .int p1, .int p2, .int p3, .int p4, .int p5]) ++ List.replicate (6 - (lg_sl ([.ref (a 0), .int p1, .int p2, .int p3, .int p4, .int p5])).length) Slot.unset).toArray = ls at hl ⊢
  have hl : lv_has ls 6 [(0, .ref (a 0)), (1, .int p1), (2, .int p2), (3, .int p3), (4, .int p4), (5, .int p5)] := hl
  have in_X0 : ∀ w ∈ wsX00, w ∈ wsX8_field := by decide +kernel
  have in_X3 : ∀ w ∈ wsX30, w ∈ wsX8_field := by decide +kernel
  have in_X4 : ∀ w ∈ wsX40, w ∈ wsX8_field := by decide +kernel
  have in_X8 : ∀ w ∈ wsX80, w ∈ wsX8_field := by decide +kernel
  have w_20 : CallB (headSpec wsX8_field ({ frames := 1, cells := 0, slots := 0, locals := 24 })).room s ([.ref (a 0), .int p1, .int p2, .int p3, .int p4, .int p5] : List Value).toArray RX8 20 yX8_within cX8_within 3 (some .boolean) wsX8_within ({ frames := 0, cells := 0, slots := 0, locals := 0 } : Room) 0 0 3 ∧ (Cond.static yX8_within).before ([.ref (a 0), .int p1, .int p2, .int p3, .int p4, .int p5] : List Value).toArray s = true := va_cwS 3 hts gX8_field_X8_within rfl rfl rfl (by decide +kernel) ⟨Nat.le_of_ble_eq_true rfl, Nat.le_of_ble_eq_true rfl⟩
  have kf_10 : (Cond.fieldLink RX8 10 "PictureBeats" "machine" "LPictureBeats$Machine;").before ([.ref (a 0), .int p1, .int p2, .int p3, .int p4, .int p5] : List Value).toArray s = true := hts _ (by decide +kernel)
  have kf_24 : (Cond.fieldLink RX8 24 "PictureBeats$Machine" "beam" "LPictureBeats$Beam;").before ([.ref (a 0), .int p1, .int p2, .int p3, .int p4, .int p5] : List Value).toArray s = true := hts _ (by decide +kernel)
  have kf_28 : (Cond.fieldLink RX8 28 "PictureBeats$Beam" "told" "LPictureBeats$Mode;").before ([.ref (a 0), .int p1, .int p2, .int p3, .int p4, .int p5] : List Value).toArray s = true := hts _ (by decide +kernel)
  have kf_46 : (Cond.fieldLink RX8 46 "PictureBeats$Mode" "down" "LPictureBeats$Span;").before ([.ref (a 0), .int p1, .int p2, .int p3, .int p4, .int p5] : List Value).toArray s = true := hts _ (by decide +kernel)
  have w_40 : CallW (headSpec wsX8_field ({ frames := 1, cells := 0, slots := 0, locals := 24 })).room s ([.ref (a 0), .int p1, .int p2, .int p3, .int p4, .int p5] : List Value).toArray RX8 RX6 40 yX6_tell cX6_tell 5 none wsX6_tell ({ frames := 0, cells := 0, slots := 0, locals := 0 } : Room) 0 0 4 := cwV 4 hts gX8_field_X6_tell rfl rfl rfl (by decide +kernel) ⟨Nat.le_of_ble_eq_true rfl, Nat.le_of_ble_eq_true rfl⟩
  have kf_49 : (Cond.fieldLink RX8 49 "PictureBeats$Mode" "interlaced" "Z").before ([.ref (a 0), .int p1, .int p2, .int p3, .int p4, .int p5] : List Value).toArray s = true := hts _ (by decide +kernel)
  refine lv_iload_n hx hb dX8_field_0 rfl (lv_at hl 1 rfl) ?_
  refine lv_iconst (v := 1) hx hb dX8_field_1 (by decide) ?_
  refine lv_bipush (v := 32) hx hb dX8_field_2 (by decide) ?_
  refine x_rS (As := [.int p1, .int 1, .int 32]) (rest := []) ⟨hx, hb, hml, hown, hts⟩ (c_X8_within l D cT p1 1 32 _ hv) w_20 hK hS hN rfl hl.1 rfl (Nat.le_of_ble_eq_true rfl) dX8_field_4 ⟨Nat.le_of_ble_eq_true rfl, Nat.le_of_ble_eq_true rfl⟩ (fun r_1 hv => ?_)
  refine lv_if_eq (tgt := 41) hx hb dX8_field_7 (by decide) (fun c_2 => ?_) (fun c_2 => ?_)
  · have hv := hv.1 c_2
    refine lv_iconst (v := 0) hx hb dX8_field_41 (by decide) ?_
    exact W.zret (v := 0) hx hb hr rfl (fun t ht hW => ⟨⟨_, M, rfl, hv, by rw [ht]; exact hP, va_K.moved hW.alike hK, hD⟩, hS.F ht⟩) hS.2.2 dX8_field_42
  · have hv := hv.2 c_2
    refine lv_iload_n hx hb dX8_field_10 rfl (lv_at hl 2 rfl) ?_
    refine lv_iconst (v := 1) hx hb dX8_field_11 (by decide) ?_
    refine lv_bipush (v := 8) hx hb dX8_field_12 (by decide) ?_
    refine x_rS (As := [.int p2, .int 1, .int 8]) (rest := []) ⟨hx, hb, hml, hown, hts⟩ (c_X8_within l D cT p2 1 8 _ hv) w_20 hK hS hN rfl hl.1 rfl (Nat.le_of_ble_eq_true rfl) dX8_field_14 ⟨Nat.le_of_ble_eq_true rfl, Nat.le_of_ble_eq_true rfl⟩ (fun r_3 hv => ?_)
    refine lv_if_eq (tgt := 41) hx hb dX8_field_17 (by decide) (fun c_4 => ?_) (fun c_4 => ?_)
    · have hv := hv.1 c_4
      refine lv_iconst (v := 0) hx hb dX8_field_41 (by decide) ?_
      exact W.zret (v := 0) hx hb hr rfl (fun t ht hW => ⟨⟨_, M, rfl, hv, by rw [ht]; exact hP, va_K.moved hW.alike hK, hD⟩, hS.F ht⟩) hS.2.2 dX8_field_42
    · have hv := hv.2 c_4
      refine lv_iload_n hx hb dX8_field_20 rfl (lv_at hl 3 rfl) ?_
      refine lv_iconst (v := 1) hx hb dX8_field_21 (by decide) ?_
      refine lv_bipush (v := 8) hx hb dX8_field_22 (by decide) ?_
      refine x_rS (As := [.int p3, .int 1, .int 8]) (rest := []) ⟨hx, hb, hml, hown, hts⟩ (c_X8_within l D cT p3 1 8 _ hv) w_20 hK hS hN rfl hl.1 rfl (Nat.le_of_ble_eq_true rfl) dX8_field_24 ⟨Nat.le_of_ble_eq_true rfl, Nat.le_of_ble_eq_true rfl⟩ (fun r_5 hv => ?_)
      refine lv_if_eq (tgt := 41) hx hb dX8_field_27 (by decide) (fun c_6 => ?_) (fun c_6 => ?_)
      · have hv := hv.1 c_6
        refine lv_iconst (v := 0) hx hb dX8_field_41 (by decide) ?_
        exact W.zret (v := 0) hx hb hr rfl (fun t ht hW => ⟨⟨_, M, rfl, hv, by rw [ht]; exact hP, va_K.moved hW.alike hK, hD⟩, hS.F ht⟩) hS.2.2 dX8_field_42
      · have hv := hv.2 c_6
        refine lv_iload hx hb dX8_field_30 (lv_at hl 4 rfl) ?_
        refine lv_iconst (v := 1) hx hb dX8_field_32 (by decide) ?_
        refine lv_bipush (v := 8) hx hb dX8_field_33 (by decide) ?_
        refine x_rS (As := [.int p4, .int 1, .int 8]) (rest := []) ⟨hx, hb, hml, hown, hts⟩ (c_X8_within l D cT p4 1 8 _ hv) w_20 hK hS hN rfl hl.1 rfl (Nat.le_of_ble_eq_true rfl) dX8_field_35 ⟨Nat.le_of_ble_eq_true rfl, Nat.le_of_ble_eq_true rfl⟩ (fun r_7 hv => ?_)
        refine lv_if_ne (tgt := 43) hx hb dX8_field_38 (by decide) (fun c_8 => ?_) (fun c_8 => ?_)
        · have hv := hv.1 c_8
          refine lv_aload_n hx hb dX8_field_43 rfl (lv_at hl 0 rfl) ?_
          refine va_get (D := D) (ci := 8) (v := .ref (a 2)) (C := RX8) (T := TX8) (N := 2) hx hb hts in_X8 hown hK hP 0 rfl rfl 0 (by decide) kf_10 (fun _ h9 => h9) rfl dX8_field_44 ?_
          refine va_get (D := D) (ci := 3) (v := .ref (a 3)) (C := RX3) (T := TX3) (N := 12) hx hb hts in_X3 hown hK hP 2 rfl rfl 0 (by decide) kf_24 (fun _ h9 => h9) rfl dX8_field_47 ?_
          refine va_get (D := D) (ci := 0) (v := .ref (a 10)) (C := RX0) (T := TX0) (N := 7) hx hb hts in_X0 hown hK hP 3 rfl rfl 2 (by decide) kf_28 (fun _ h9 => h9) rfl dX8_field_50 ?_
          refine va_get (D := D) (ci := 4) (v := .ref (a 12)) (C := RX4) (T := TX4) (N := 3) hx hb hts in_X4 hown hK hP 10 rfl rfl 1 (by decide) kf_46 (fun _ h9 => h9) rfl dX8_field_53 ?_
          refine lv_iload_n hx hb dX8_field_56 rfl (lv_at hl 1 rfl) ?_
          refine lv_iload_n hx hb dX8_field_57 rfl (lv_at hl 2 rfl) ?_
          refine lv_iload_n hx hb dX8_field_58 rfl (lv_at hl 3 rfl) ?_
          refine lv_iload hx hb dX8_field_59 (lv_at hl 4 rfl) ?_
          refine x_cVv (As := [.int p1, .int p2, .int p3, .int p4]) (rest := []) (wn := fun u_9 => (w_PB cT a (x_wb M 12 1 u_9) im)) ⟨hx, hb, hml, hown, hts⟩ (c_X6_tell l D cT (x_sh a 12) (x_sh M 12) p1 p2 p3 p4 _ _ hv) w_40 hK hP hD hS hA hN [12] [0, 1, 2, 3, 4, 5, 6, 7, 8, 9, 10, 11, 13, 14, 15, 16, 17, 18, 19, 20, 21, 22, 23, 24, 25, 26, 27, 28, 29, 30] [0, 1, 2, 3, 4, 5, 6, 7, 8, 9, 10, 11, 30, 12, 13, 14, 15, 16, 17, 18, 19, 20, 21, 22, 23, 24, 25, 26, 27, 28, 29] rfl rfl (fun _ => rfl) (by decide) (by decide) (by decide) (by decide) 6 0 rfl rfl rfl hl.1 rfl (Nat.le_of_ble_eq_true rfl) dX8_field_61 ⟨Nat.le_of_ble_eq_true rfl, Nat.le_of_ble_eq_true rfl⟩ (fun u_9 H locs hv hP hD hS => ?_)
          obtain ⟨M_10, eM_10⟩ : ∃ z : ST, z = x_wb M 12 1 u_9 := ⟨_, rfl⟩
          have hP : va_P D vwCl ((w_PB cT a M_10 im)) H := by rw [eM_10]; exact hP
          have hD : va_D A ((w_PB cT a M_10 im)) := by rw [eM_10]; exact hD
          have hv := hv M_10 eM_10
          refine lv_aload_n hx hb dX8_field_64 rfl (lv_at hl 0 rfl) ?_
          refine va_get (D := D) (ci := 8) (v := .ref (a 2)) (C := RX8) (T := TX8) (N := 2) hx hb hts in_X8 hown hK hP 0 rfl rfl 0 (by decide) kf_10 (fun _ h9 => h9) rfl dX8_field_65 ?_
          refine va_get (D := D) (ci := 3) (v := .ref (a 3)) (C := RX3) (T := TX3) (N := 12) hx hb hts in_X3 hown hK hP 2 rfl rfl 0 (by decide) kf_24 (fun _ h9 => h9) rfl dX8_field_68 ?_
          refine va_get (D := D) (ci := 0) (v := .ref (a 10)) (C := RX0) (T := TX0) (N := 7) hx hb hts in_X0 hown hK hP 3 rfl rfl 2 (by decide) kf_28 (fun _ h9 => h9) rfl dX8_field_71 ?_
          refine lv_iload hx hb dX8_field_74 (lv_at hl 5 rfl) ?_
          obtain ⟨h_11, hv⟩ := hv
          refine va_put (D := D) (ci := 4) (v := .int p5) (ty := .boolean) (C := RX4) (T := TX4) (N := 3) hx hb hts in_X4 tyX4 tyX4_ok nmX4 hown hK hP hD hS 10 rfl rfl 2 (by decide) kf_49 (fun _ h9 => h9) rfl (by decide +kernel) (x_bool_n h_11) (x_bool_f h_11) (Nat.le_of_ble_eq_true rfl) dX8_field_76 (fun H locs hP hD hS => ?_)
          obtain ⟨M_12, eM_12⟩ : ∃ z : ST, z = x_st M_10 10 2 p5 := ⟨_, rfl⟩
          have hP : va_P D vwCl ((w_PB cT a M_12 im)) H := by rw [eM_12]; exact hP
          have hD : va_D A ((w_PB cT a M_12 im)) := by rw [eM_12]; exact hD
          have hv := hv M_12 eM_12
          refine lv_iconst (v := 1) hx hb dX8_field_79 (by decide) ?_
          exact W.zret (v := 1) hx hb hr rfl (fun t ht hW => ⟨⟨_, M_12, rfl, hv, by rw [ht]; exact hP, va_K.moved hW.alike hK, hD⟩, hS.F ht⟩) hS.2.2 dX8_field_80
        · have hv := hv.2 c_8
          refine lv_iconst (v := 0) hx hb dX8_field_41 (by decide) ?_
          exact W.zret (v := 0) hx hb hr rfl (fun t ht hW => ⟨⟨_, M, rfl, hv, by rw [ht]; exact hP, va_K.moved hW.alike hK, hD⟩, hS.F ht⟩) hS.2.2 dX8_field_42
def v_X8_put (M : ST) (p1 : Int32) (p2 : Int32) (post : Int32 → ST → Prop) : Prop := v_X8_within p1 0 1023 (fun r_1 => (((¬ (r_1 = 0)) → v_X3_storeByte (x_sh M 2) p1 p2 (fun (u_3 : ST) => ∀ M_4 : ST, M_4 = x_wb M 2 29 u_3 → post 1 M_4)) ∧ ((r_1 = 0) → post 0 M)))
set_option maxHeartbeats 4000000 in
set_option maxRecDepth 100000 in
theorem c_X8_put (l : Launch) (D : va_G) (cT : Nat → ClassId) (a : Nat → Nat) (M : ST) (im : Nat → Option Nat) (p1 : Int32) (p2 : Int32) (sz : Nat) (post : Int32 → ST → Prop) (hv : v_X8_put M p1 p2 post) : Met l yX8_put wsX8_put ({ frames := 1, cells := 0, slots := 0, locals := 22 }) (va_Pc [.ref (a 0), .int p1, .int p2] (x_U D cT ((w_PB cT a M im)) sz)) (va_Qi post (fun u t => x_B D cT ((w_PB cT a u im)) (va_A ((w_PB cT a M im)) sz) t) (va_A ((w_PB cT a M im)) sz)) 0 0 (va_A ((w_PB cT a M im)) sz) := by
  refine Met.ofW (cc := cX8_put) (maxL := 3) (ret := (some .boolean)) (by decide) rfl ?_
  intro p e s m args below meth c s₁ B hml hpre
  obtain ⟨rfl, hsz, hP, hK, hD0, hN⟩ := hpre
  have hx := B.exec
  have hb := B.bytes
  have hr := B.returns
  have hts := atoms_spec (ws := wsX8_put) B.pre
  have hown : s.vm.findClass RX8 = some m.cls := findClass_of_methodNamed B.named
  have hlocks := B.notSynchronized
  subst hsz
  have hD := hD0.self (sz := s.heap.size)
  generalize hAe : va_A ((w_PB cT a M im)) s.heap.size = A at hD hN ⊢
  have hA : ∀ q : Nat, s.heap.size ≤ q → A q := fun q h => by rw [← hAe]; exact Or.inr h
  have hS : va_S A s.heap s.heap [] := va_S.rf
  have hl := lv_entry ([.ref (a 0), .int p1, .int p2]) (n := 3) (Nat.le_of_ble_eq_true rfl)
  rw [lg_entry_eq]
  generalize (lg_sl ([.ref (a 0), .int p1, .int p2]) ++ List.replicate (3 - (lg_sl ([.ref (a 0), .int p1, .int p2])).length) Slot.unset).toArray = ls at hl ⊢
  have hl : lv_has ls 3 [(0, .ref (a 0)), (1, .int p1), (2, .int p2)] := hl
  have in_X8 : ∀ w ∈ wsX80, w ∈ wsX8_put := by decide +kernel
  have w_20 : CallB (headSpec wsX8_put ({ frames := 1, cells := 0, slots := 0, locals := 22 })).room s ([.ref (a 0), .int p1, .int p2] : List Value).toArray RX8 20 yX8_within cX8_within 3 (some .boolean) wsX8_within ({ frames := 0, cells := 0, slots := 0, locals := 0 } : Room) 0 0 3 ∧ (Cond.static yX8_within).before ([.ref (a 0), .int p1, .int p2] : List Value).toArray s = true := va_cwS 3 hts gX8_put_X8_within rfl rfl rfl (by decide +kernel) ⟨Nat.le_of_ble_eq_true rfl, Nat.le_of_ble_eq_true rfl⟩
  have kf_10 : (Cond.fieldLink RX8 10 "PictureBeats" "machine" "LPictureBeats$Machine;").before ([.ref (a 0), .int p1, .int p2] : List Value).toArray s = true := hts _ (by decide +kernel)
  have w_53 : CallW (headSpec wsX8_put ({ frames := 1, cells := 0, slots := 0, locals := 22 })).room s ([.ref (a 0), .int p1, .int p2] : List Value).toArray RX8 RX3 53 yX3_storeByte cX3_storeByte 3 none wsX3_storeByte ({ frames := 0, cells := 0, slots := 0, locals := 0 } : Room) 0 0 2 := cwV 2 hts gX8_put_X3_storeByte rfl rfl rfl (by decide +kernel) ⟨Nat.le_of_ble_eq_true rfl, Nat.le_of_ble_eq_true rfl⟩
  refine lv_iload_n hx hb dX8_put_0 rfl (lv_at hl 1 rfl) ?_
  refine lv_iconst (v := 0) hx hb dX8_put_1 (by decide) ?_
  refine lv_sipush (v := 1023) hx hb dX8_put_2 (by decide) ?_
  refine x_rS (As := [.int p1, .int 0, .int 1023]) (rest := []) ⟨hx, hb, hml, hown, hts⟩ (c_X8_within l D cT p1 0 1023 _ hv) w_20 hK hS hN rfl hl.1 rfl (Nat.le_of_ble_eq_true rfl) dX8_put_5 ⟨Nat.le_of_ble_eq_true rfl, Nat.le_of_ble_eq_true rfl⟩ (fun r_1 hv => ?_)
  refine lv_if_ne (tgt := 13) hx hb dX8_put_8 (by decide) (fun c_2 => ?_) (fun c_2 => ?_)
  · have hv := hv.1 c_2
    refine lv_aload_n hx hb dX8_put_13 rfl (lv_at hl 0 rfl) ?_
    refine va_get (D := D) (ci := 8) (v := .ref (a 2)) (C := RX8) (T := TX8) (N := 2) hx hb hts in_X8 hown hK hP 0 rfl rfl 0 (by decide) kf_10 (fun _ h9 => h9) rfl dX8_put_14 ?_
    refine lv_iload_n hx hb dX8_put_17 rfl (lv_at hl 1 rfl) ?_
    refine lv_iload_n hx hb dX8_put_18 rfl (lv_at hl 2 rfl) ?_
    refine x_cVv (As := [.int p1, .int p2]) (rest := []) (wn := fun u_3 => (w_PB cT a (x_wb M 2 29 u_3) im)) ⟨hx, hb, hml, hown, hts⟩ (c_X3_storeByte l D cT (x_sh a 2) (x_sh M 2) p1 p2 _ _ hv) w_53 hK hP hD hS hA hN [2, 3, 4, 5, 6, 7, 8, 9, 10, 11, 12, 13, 14, 15, 16, 17, 18, 19, 20, 21, 22, 23, 24, 25, 26, 27, 28, 29, 30] [0, 1] [0, 1, 2, 3, 4, 5, 6, 7, 8, 9, 10, 11, 12, 13, 14, 15, 16, 17, 18, 19, 20, 21, 22, 23, 24, 25, 26, 27, 28, 29, 30] rfl rfl (fun _ => rfl) (by decide) (by decide) (by decide) (by decide) 3 0 rfl rfl rfl hl.1 rfl (Nat.le_of_ble_eq_true rfl) dX8_put_19 ⟨Nat.le_of_ble_eq_true rfl, Nat.le_of_ble_eq_true rfl⟩ (fun u_3 H locs hv hP hD hS => ?_)
    obtain ⟨M_4, eM_4⟩ : ∃ z : ST, z = x_wb M 2 29 u_3 := ⟨_, rfl⟩
    have hP : va_P D vwCl ((w_PB cT a M_4 im)) H := by rw [eM_4]; exact hP
    have hD : va_D A ((w_PB cT a M_4 im)) := by rw [eM_4]; exact hD
    have hv := hv M_4 eM_4
    refine lv_iconst (v := 1) hx hb dX8_put_22 (by decide) ?_
    exact W.zret (v := 1) hx hb hr rfl (fun t ht hW => ⟨⟨_, M_4, rfl, hv, by rw [ht]; exact hP, va_K.moved hW.alike hK, hD⟩, hS.F ht⟩) hS.2.2 dX8_put_23
  · have hv := hv.2 c_2
    refine lv_iconst (v := 0) hx hb dX8_put_11 (by decide) ?_
    exact W.zret (v := 0) hx hb hr rfl (fun t ht hW => ⟨⟨_, M, rfl, hv, by rw [ht]; exact hP, va_K.moved hW.alike hK, hD⟩, hS.F ht⟩) hS.2.2 dX8_put_12
def lp_X8_four_15 (p1 : Int32) (p2 : Int32) (post : Int32 → ST → Prop) (K_ : Int32 → ST → Prop) : Nat → Int32 → ST → Prop
  | 0, _, _ => False
  | n_8 + 1, y_6, M_7 => (((4 ≤ y_6) → K_ y_6 M_7) ∧ ((¬ (4 ≤ y_6)) → v_X3_storeByte (x_sh M_7 2) (p1 + y_6) (x_ushr p2 (24 - (8 * y_6))) (fun (u_10 : ST) => ∀ M_11 : ST, M_11 = x_wb M_7 2 29 u_10 → ∀ x_12 : Int32, x_12 = y_6 + 1 → lp_X8_four_15 p1 p2 post K_ n_8 x_12 M_11)))
def v_X8_four (M : ST) (p1 : Int32) (p2 : Int32) (post : Int32 → ST → Prop) : Prop := v_X8_within p1 0 1023 (fun r_1 => (((¬ (r_1 = 0)) → (∃ n_13 : Nat, lp_X8_four_15 p1 p2 post (fun (y_4 : Int32) (M_5 : ST) => post 1 M_5) n_13 0 M)) ∧ ((r_1 = 0) → post 0 M)))
set_option maxHeartbeats 4000000 in
set_option maxRecDepth 100000 in
theorem c_X8_four (l : Launch) (D : va_G) (cT : Nat → ClassId) (a : Nat → Nat) (M : ST) (im : Nat → Option Nat) (p1 : Int32) (p2 : Int32) (sz : Nat) (post : Int32 → ST → Prop) (hv : v_X8_four M p1 p2 post) : Met l yX8_four wsX8_four ({ frames := 1, cells := 0, slots := 0, locals := 22 }) (va_Pc [.ref (a 0), .int p1, .int p2] (x_U D cT ((w_PB cT a M im)) sz)) (va_Qi post (fun u t => x_B D cT ((w_PB cT a u im)) (va_A ((w_PB cT a M im)) sz) t) (va_A ((w_PB cT a M im)) sz)) 0 0 (va_A ((w_PB cT a M im)) sz) := by
  refine Met.ofW (cc := cX8_four) (maxL := 4) (ret := (some .boolean)) (by decide) rfl ?_
  intro p e s m args below meth c s₁ B hml hpre
  obtain ⟨rfl, hsz, hP, hK, hD0, hN⟩ := hpre
  have hx := B.exec
  have hb := B.bytes
  have hr := B.returns
  have hts := atoms_spec (ws := wsX8_four) B.pre
  have hown : s.vm.findClass RX8 = some m.cls := findClass_of_methodNamed B.named
  have hlocks := B.notSynchronized
  subst hsz
  have hD := hD0.self (sz := s.heap.size)
  generalize hAe : va_A ((w_PB cT a M im)) s.heap.size = A at hD hN ⊢
  have hA : ∀ q : Nat, s.heap.size ≤ q → A q := fun q h => by rw [← hAe]; exact Or.inr h
  have hS : va_S A s.heap s.heap [] := va_S.rf
  have hl := lv_entry ([.ref (a 0), .int p1, .int p2]) (n := 4) (Nat.le_of_ble_eq_true rfl)
  rw [lg_entry_eq]
  generalize (lg_sl ([.ref (a 0), .int p1, .int p2]) ++ List.replicate (4 - (lg_sl ([.ref (a 0), .int p1, .int p2])).length) Slot.unset).toArray = ls at hl ⊢
  have hl : lv_has ls 4 [(0, .ref (a 0)), (1, .int p1), (2, .int p2)] := hl
  have in_X8 : ∀ w ∈ wsX80, w ∈ wsX8_four := by decide +kernel
  have w_20 : CallB (headSpec wsX8_four ({ frames := 1, cells := 0, slots := 0, locals := 22 })).room s ([.ref (a 0), .int p1, .int p2] : List Value).toArray RX8 20 yX8_within cX8_within 3 (some .boolean) wsX8_within ({ frames := 0, cells := 0, slots := 0, locals := 0 } : Room) 0 0 3 ∧ (Cond.static yX8_within).before ([.ref (a 0), .int p1, .int p2] : List Value).toArray s = true := va_cwS 3 hts gX8_four_X8_within rfl rfl rfl (by decide +kernel) ⟨Nat.le_of_ble_eq_true rfl, Nat.le_of_ble_eq_true rfl⟩
  have kf_10 : (Cond.fieldLink RX8 10 "PictureBeats" "machine" "LPictureBeats$Machine;").before ([.ref (a 0), .int p1, .int p2] : List Value).toArray s = true := hts _ (by decide +kernel)
  have w_53 : CallW (headSpec wsX8_four ({ frames := 1, cells := 0, slots := 0, locals := 22 })).room s ([.ref (a 0), .int p1, .int p2] : List Value).toArray RX8 RX3 53 yX3_storeByte cX3_storeByte 3 none wsX3_storeByte ({ frames := 0, cells := 0, slots := 0, locals := 0 } : Room) 0 0 2 := cwV 2 hts gX8_four_X3_storeByte rfl rfl rfl (by decide +kernel) ⟨Nat.le_of_ble_eq_true rfl, Nat.le_of_ble_eq_true rfl⟩
  refine lv_iload_n hx hb dX8_four_0 rfl (lv_at hl 1 rfl) ?_
  refine lv_iconst (v := 0) hx hb dX8_four_1 (by decide) ?_
  refine lv_sipush (v := 1023) hx hb dX8_four_2 (by decide) ?_
  refine x_rS (As := [.int p1, .int 0, .int 1023]) (rest := []) ⟨hx, hb, hml, hown, hts⟩ (c_X8_within l D cT p1 0 1023 _ hv) w_20 hK hS hN rfl hl.1 rfl (Nat.le_of_ble_eq_true rfl) dX8_four_5 ⟨Nat.le_of_ble_eq_true rfl, Nat.le_of_ble_eq_true rfl⟩ (fun r_1 hv => ?_)
  refine lv_if_ne (tgt := 13) hx hb dX8_four_8 (by decide) (fun c_2 => ?_) (fun c_2 => ?_)
  · have hv := hv.1 c_2
    refine lv_iconst (v := 0) hx hb dX8_four_13 (by decide) ?_
    refine lv_istore_n (lv' := [(3, .int 0), (0, .ref (a 0)), (1, .int p1), (2, .int p2)]) hx hb dX8_four_14 rfl hl (by decide) rfl (fun ls hl => ?_)
    obtain ⟨n_13, hv⟩ := hv
    have K_L_3 : ∀ (y_4 : Int32) (M_5 : ST), (post 1 M_5) → ∀ (H : Heap) (locs : List Loc), va_P D vwCl ((w_PB cT a M_5 im)) H → va_D A ((w_PB cT a M_5 im)) → va_S A s.heap H locs → ∀ ls : Array Slot, lv_has ls 4 [(3, .int y_4), (0, .ref (a 0)), (1, .int p1), (2, .int p2)] → W p l e (headSpec wsX8_four ({ frames := 1, cells := 0, slots := 0, locals := 22 })).room s m ([.ref (a 0), .int p1, .int p2] : List Value).toArray below meth c H locs 0 0 (MQ below (va_Qi post (fun u t => x_B D cT ((w_PB cT a u im)) A t) A) ([.ref (a 0), .int p1, .int p2] : List Value).toArray s 0 0 A) (F0 m 45 ls []) := by
      intro y_4 M_5 hv H locs hP hD hS ls hl
      refine lv_iconst (v := 1) hx hb dX8_four_45 (by decide) ?_
      exact W.zret (v := 1) hx hb hr rfl (fun t ht hW => ⟨⟨_, M_5, rfl, hv, by rw [ht]; exact hP, va_K.moved hW.alike hK, hD⟩, hS.F ht⟩) hS.2.2 dX8_four_46
    have L_3 : ∀ n_8 : Nat, ∀ (y_6 : Int32) (M_7 : ST), (lp_X8_four_15 p1 p2 post (fun (y_4 : Int32) (M_5 : ST) => post 1 M_5) n_8 y_6 M_7) → ∀ (H : Heap) (locs : List Loc), va_P D vwCl ((w_PB cT a M_7 im)) H → va_D A ((w_PB cT a M_7 im)) → va_S A s.heap H locs → ∀ ls : Array Slot, lv_has ls 4 [(3, .int y_6), (0, .ref (a 0)), (1, .int p1), (2, .int p2)] → W p l e (headSpec wsX8_four ({ frames := 1, cells := 0, slots := 0, locals := 22 })).room s m ([.ref (a 0), .int p1, .int p2] : List Value).toArray below meth c H locs 0 0 (MQ below (va_Qi post (fun u t => x_B D cT ((w_PB cT a u im)) A t) A) ([.ref (a 0), .int p1, .int p2] : List Value).toArray s 0 0 A) (F0 m 15 ls []) := by
      intro n_8
      induction n_8 with
      | zero =>
        intro y_6 M_7 hv
        exact hv.elim
      | succ n_8 L_3_ih =>
        intro y_6 M_7 hv H locs hP hD hS ls hl
        refine lv_iload_n hx hb dX8_four_15 rfl (lv_at hl 0 rfl) ?_
        refine lv_iconst (v := 4) hx hb dX8_four_16 (by decide) ?_
        refine lv_icmp_ge (tgt := 45) hx hb dX8_four_17 (by decide) (fun c_9 => ?_) (fun c_9 => ?_)
        · have hv := hv.1 c_9
          exact K_L_3 _ _ hv H locs hP hD hS ls (lv_sub hl [0, 1, 2, 3] rfl)
        · have hv := hv.2 c_9
          refine lv_aload_n hx hb dX8_four_20 rfl (lv_at hl 1 rfl) ?_
          refine va_get (D := D) (ci := 8) (v := .ref (a 2)) (C := RX8) (T := TX8) (N := 2) hx hb hts in_X8 hown hK hP 0 rfl rfl 0 (by decide) kf_10 (fun _ h9 => h9) rfl dX8_four_21 ?_
          refine lv_iload_n hx hb dX8_four_24 rfl (lv_at hl 2 rfl) ?_
          refine lv_iload_n hx hb dX8_four_25 rfl (lv_at hl 0 rfl) ?_
          refine lv_iadd hx hb dX8_four_26 ?_
          refine lv_iload_n hx hb dX8_four_27 rfl (lv_at hl 3 rfl) ?_
          refine lv_bipush (v := 24) hx hb dX8_four_28 (by decide) ?_
          refine lv_bipush (v := 8) hx hb dX8_four_30 (by decide) ?_
          refine lv_iload_n hx hb dX8_four_32 rfl (lv_at hl 0 rfl) ?_
          refine lv_imul hx hb dX8_four_33 ?_
          refine lv_isub hx hb dX8_four_34 ?_
          refine lv_iushr (v := x_ushr p2 (24 - (8 * y_6))) hx hb dX8_four_35 rfl ?_
          refine x_cVv (As := [.int (p1 + y_6), .int (x_ushr p2 (24 - (8 * y_6)))]) (rest := []) (wn := fun u_10 => (w_PB cT a (x_wb M_7 2 29 u_10) im)) ⟨hx, hb, hml, hown, hts⟩ (c_X3_storeByte l D cT (x_sh a 2) (x_sh M_7 2) (p1 + y_6) (x_ushr p2 (24 - (8 * y_6))) _ _ hv) w_53 hK hP hD hS hA hN [2, 3, 4, 5, 6, 7, 8, 9, 10, 11, 12, 13, 14, 15, 16, 17, 18, 19, 20, 21, 22, 23, 24, 25, 26, 27, 28, 29, 30] [0, 1] [0, 1, 2, 3, 4, 5, 6, 7, 8, 9, 10, 11, 12, 13, 14, 15, 16, 17, 18, 19, 20, 21, 22, 23, 24, 25, 26, 27, 28, 29, 30] rfl rfl (fun _ => rfl) (by decide) (by decide) (by decide) (by decide) 3 0 rfl rfl rfl hl.1 rfl (Nat.le_of_ble_eq_true rfl) dX8_four_36 ⟨Nat.le_of_ble_eq_true rfl, Nat.le_of_ble_eq_true rfl⟩ (fun u_10 H locs hv hP hD hS => ?_)
          obtain ⟨M_11, eM_11⟩ : ∃ z : ST, z = x_wb M_7 2 29 u_10 := ⟨_, rfl⟩
          have hP : va_P D vwCl ((w_PB cT a M_11 im)) H := by rw [eM_11]; exact hP
          have hD : va_D A ((w_PB cT a M_11 im)) := by rw [eM_11]; exact hD
          have hv := hv M_11 eM_11
          obtain ⟨x_12, ex_12⟩ : ∃ z : Int32, z = y_6 + 1 := ⟨_, rfl⟩
          have hv := hv x_12 ex_12
          refine lv_iinc (v := x_12) (lv' := [(3, .int x_12), (0, .ref (a 0)), (1, .int p1), (2, .int p2)]) hx hb dX8_four_39 hl (k := 0) rfl (by rw [ex_12]; rfl) (by decide) rfl (fun ls hl => ?_)
          refine lv_goto (tgt := 15) hx hb dX8_four_42 (by decide) ?_
          exact L_3_ih _ _ hv H locs hP hD hS ls (lv_sub hl [0, 1, 2, 3] rfl)
    exact L_3 n_13 _ _ hv _ _ hP hD hS ls hl
  · have hv := hv.2 c_2
    refine lv_iconst (v := 0) hx hb dX8_four_11 (by decide) ?_
    exact W.zret (v := 0) hx hb hr rfl (fun t ht hW => ⟨⟨_, M, rfl, hv, by rw [ht]; exact hP, va_K.moved hW.alike hK, hD⟩, hS.F ht⟩) hS.2.2 dX8_four_12
def v_X8_register (M : ST) (p1 : Int32) (p2 : Int32) (post : Int32 → ST → Prop) : Prop := v_X5_change (x_sh M 15) p1 p2 (fun r_2 (u_1 : ST) => ∀ M_3 : ST, M_3 = x_wb M 15 2 u_1 → x_bool r_2 ∧ post r_2 M_3)
set_option maxHeartbeats 4000000 in
set_option maxRecDepth 100000 in
theorem c_X8_register (l : Launch) (D : va_G) (cT : Nat → ClassId) (a : Nat → Nat) (M : ST) (im : Nat → Option Nat) (p1 : Int32) (p2 : Int32) (sz : Nat) (post : Int32 → ST → Prop) (hv : v_X8_register M p1 p2 post) : Met l yX8_register wsX8_register ({ frames := 3, cells := 0, slots := 0, locals := 65 }) (va_Pc [.ref (a 0), .int p1, .int p2] (x_U D cT ((w_PB cT a M im)) sz)) (va_Qi post (fun u t => x_B D cT ((w_PB cT a u im)) (va_A ((w_PB cT a M im)) sz) t) (va_A ((w_PB cT a M im)) sz)) 0 0 (va_A ((w_PB cT a M im)) sz) := by
  refine Met.ofW (cc := cX8_register) (maxL := 3) (ret := (some .boolean)) (by decide) rfl ?_
  intro p e s m args below meth c s₁ B hml hpre
  obtain ⟨rfl, hsz, hP, hK, hD0, hN⟩ := hpre
  have hx := B.exec
  have hb := B.bytes
  have hr := B.returns
  have hts := atoms_spec (ws := wsX8_register) B.pre
  have hown : s.vm.findClass RX8 = some m.cls := findClass_of_methodNamed B.named
  have hlocks := B.notSynchronized
  subst hsz
  have hD := hD0.self (sz := s.heap.size)
  generalize hAe : va_A ((w_PB cT a M im)) s.heap.size = A at hD hN ⊢
  have hA : ∀ q : Nat, s.heap.size ≤ q → A q := fun q h => by rw [← hAe]; exact Or.inr h
  have hS : va_S A s.heap s.heap [] := va_S.rf
  have hl := lv_entry ([.ref (a 0), .int p1, .int p2]) (n := 3) (Nat.le_of_ble_eq_true rfl)
  rw [lg_entry_eq]
  generalize (lg_sl ([.ref (a 0), .int p1, .int p2]) ++ List.replicate (3 - (lg_sl ([.ref (a 0), .int p1, .int p2])).length) Slot.unset).toArray = ls at hl ⊢
  have hl : lv_has ls 3 [(0, .ref (a 0)), (1, .int p1), (2, .int p2)] := hl
  have in_X3 : ∀ w ∈ wsX30, w ∈ wsX8_register := by decide +kernel
  have in_X8 : ∀ w ∈ wsX80, w ∈ wsX8_register := by decide +kernel
  have kf_10 : (Cond.fieldLink RX8 10 "PictureBeats" "machine" "LPictureBeats$Machine;").before ([.ref (a 0), .int p1, .int p2] : List Value).toArray s = true := hts _ (by decide +kernel)
  have kf_57 : (Cond.fieldLink RX8 57 "PictureBeats$Machine" "registers" "LPictureBeats$Registers;").before ([.ref (a 0), .int p1, .int p2] : List Value).toArray s = true := hts _ (by decide +kernel)
  have w_61 : CallW (headSpec wsX8_register ({ frames := 3, cells := 0, slots := 0, locals := 65 })).room s ([.ref (a 0), .int p1, .int p2] : List Value).toArray RX8 RX5 61 yX5_change cX5_change 3 (some .boolean) wsX5_change ({ frames := 2, cells := 0, slots := 0, locals := 43 } : Room) 0 0 2 := cwV 2 hts gX8_register_X5_change rfl rfl rfl (by decide +kernel) ⟨Nat.le_of_ble_eq_true rfl, Nat.le_of_ble_eq_true rfl⟩
  refine lv_aload_n hx hb dX8_register_0 rfl (lv_at hl 0 rfl) ?_
  refine va_get (D := D) (ci := 8) (v := .ref (a 2)) (C := RX8) (T := TX8) (N := 2) hx hb hts in_X8 hown hK hP 0 rfl rfl 0 (by decide) kf_10 (fun _ h9 => h9) rfl dX8_register_1 ?_
  refine va_get (D := D) (ci := 3) (v := .ref (a 15)) (C := RX3) (T := TX3) (N := 12) hx hb hts in_X3 hown hK hP 2 rfl rfl 2 (by decide) kf_57 (fun _ h9 => h9) rfl dX8_register_4 ?_
  refine lv_iload_n hx hb dX8_register_7 rfl (lv_at hl 1 rfl) ?_
  refine lv_iload_n hx hb dX8_register_8 rfl (lv_at hl 2 rfl) ?_
  refine x_cVi (As := [.int p1, .int p2]) (rest := []) (wn := fun u_1 => (w_PB cT a (x_wb M 15 2 u_1) im)) ⟨hx, hb, hml, hown, hts⟩ (c_X5_change l D cT (x_sh a 15) (x_sh M 15) p1 p2 _ _ hv) w_61 hK hP hD hS hA hN [15, 16] [0, 1, 2, 3, 4, 5, 6, 7, 8, 9, 10, 11, 12, 13, 14, 17, 18, 19, 20, 21, 22, 23, 24, 25, 26, 27, 28, 29, 30] [0, 1, 2, 3, 4, 5, 6, 7, 8, 9, 10, 11, 12, 13, 14, 29, 30, 15, 16, 17, 18, 19, 20, 21, 22, 23, 24, 25, 26, 27, 28] rfl rfl (fun _ => rfl) (by decide) (by decide) (by decide) (by decide) 5 0 rfl rfl rfl hl.1 rfl (Nat.le_of_ble_eq_true rfl) dX8_register_9 ⟨Nat.le_of_ble_eq_true rfl, Nat.le_of_ble_eq_true rfl⟩ (fun r_2 u_1 H locs hv hP hD hS => ?_)
  obtain ⟨M_3, eM_3⟩ : ∃ z : ST, z = x_wb M 15 2 u_1 := ⟨_, rfl⟩
  have hP : va_P D vwCl ((w_PB cT a M_3 im)) H := by rw [eM_3]; exact hP
  have hD : va_D A ((w_PB cT a M_3 im)) := by rw [eM_3]; exact hD
  have hv := hv M_3 eM_3
  obtain ⟨h_4, hv⟩ := hv
  exact W.zret (v := r_2) hx hb hr (x_bool_n h_4) (fun t ht hW => ⟨⟨_, M_3, rfl, hv, by rw [ht]; exact hP, va_K.moved hW.alike hK, hD⟩, hS.F ht⟩) hS.2.2 dX8_register_12
def v_X8_entry (M : ST) (p1 : Int32) (p2 : Int32) (p3 : Int32) (p4 : Int32) (post : Int32 → ST → Prop) : Prop := v_X8_within p1 0 63 (fun r_1 => (((r_1 = 0) → post (-1) M) ∧ ((¬ (r_1 = 0)) → v_X8_within p2 0 159 (fun r_3 => (((r_3 = 0) → post (-1) M) ∧ ((¬ (r_3 = 0)) → v_X5_takes p3 p4 (fun r_5 => (((¬ (r_5 = 0)) → v_X1_append (x_sh M 17) p1 p2 p3 p4 (fun r_8 (u_7 : ST) => ∀ M_9 : ST, M_9 = x_wb M 17 5 u_7 → post r_8 M_9)) ∧ ((r_5 = 0) → post (-1) M)))))))))
set_option maxHeartbeats 4000000 in
set_option maxRecDepth 100000 in
theorem c_X8_entry (l : Launch) (D : va_G) (cT : Nat → ClassId) (a : Nat → Nat) (M : ST) (im : Nat → Option Nat) (p1 : Int32) (p2 : Int32) (p3 : Int32) (p4 : Int32) (sz : Nat) (post : Int32 → ST → Prop) (hv : v_X8_entry M p1 p2 p3 p4 post) : Met l yX8_entry wsX8_entry ({ frames := 2, cells := 0, slots := 0, locals := 43 }) (va_Pc [.ref (a 0), .int p1, .int p2, .int p3, .int p4] (x_U D cT ((w_PB cT a M im)) sz)) (va_Qi post (fun u t => x_B D cT ((w_PB cT a u im)) (va_A ((w_PB cT a M im)) sz) t) (va_A ((w_PB cT a M im)) sz)) 0 0 (va_A ((w_PB cT a M im)) sz) := by
  refine Met.ofW (cc := cX8_entry) (maxL := 5) (ret := (some .int)) (by decide) rfl ?_
  intro p e s m args below meth c s₁ B hml hpre
  obtain ⟨rfl, hsz, hP, hK, hD0, hN⟩ := hpre
  have hx := B.exec
  have hb := B.bytes
  have hr := B.returns
  have hts := atoms_spec (ws := wsX8_entry) B.pre
  have hown : s.vm.findClass RX8 = some m.cls := findClass_of_methodNamed B.named
  have hlocks := B.notSynchronized
  subst hsz
  have hD := hD0.self (sz := s.heap.size)
  generalize hAe : va_A ((w_PB cT a M im)) s.heap.size = A at hD hN ⊢
  have hA : ∀ q : Nat, s.heap.size ≤ q → A q := fun q h => by rw [← hAe]; exact Or.inr h
  have hS : va_S A s.heap s.heap [] := va_S.rf
  have hl := lv_entry ([.ref (a 0), .int p1, .int p2, .int p3, .int p4]) (n := 5) (Nat.le_of_ble_eq_true rfl)
  rw [lg_entry_eq]
  generalize (lg_sl ([.ref (a 0), .int p1, .int p2, .int p3, .int p4]) ++ List.replicate (5 - (lg_sl ([.ref (a 0), .int p1, .int p2, .int p3, .int p4])).length) Slot.unset).toArray = ls at hl ⊢
  have hl : lv_has ls 5 [(0, .ref (a 0)), (1, .int p1), (2, .int p2), (3, .int p3), (4, .int p4)] := hl
  have in_X3 : ∀ w ∈ wsX30, w ∈ wsX8_entry := by decide +kernel
  have in_X8 : ∀ w ∈ wsX80, w ∈ wsX8_entry := by decide +kernel
  have w_20 : CallB (headSpec wsX8_entry ({ frames := 2, cells := 0, slots := 0, locals := 43 })).room s ([.ref (a 0), .int p1, .int p2, .int p3, .int p4] : List Value).toArray RX8 20 yX8_within cX8_within 3 (some .boolean) wsX8_within ({ frames := 0, cells := 0, slots := 0, locals := 0 } : Room) 0 0 3 ∧ (Cond.static yX8_within).before ([.ref (a 0), .int p1, .int p2, .int p3, .int p4] : List Value).toArray s = true := va_cwS 3 hts gX8_entry_X8_within rfl rfl rfl (by decide +kernel) ⟨Nat.le_of_ble_eq_true rfl, Nat.le_of_ble_eq_true rfl⟩
  have w_67 : CallB (headSpec wsX8_entry ({ frames := 2, cells := 0, slots := 0, locals := 43 })).room s ([.ref (a 0), .int p1, .int p2, .int p3, .int p4] : List Value).toArray RX8 67 yX5_takes cX5_takes 2 (some .boolean) wsX5_takes ({ frames := 1, cells := 0, slots := 0, locals := 22 } : Room) 0 0 2 ∧ (Cond.static yX5_takes).before ([.ref (a 0), .int p1, .int p2, .int p3, .int p4] : List Value).toArray s = true := va_cwS 2 hts gX8_entry_X5_takes rfl rfl rfl (by decide +kernel) ⟨Nat.le_of_ble_eq_true rfl, Nat.le_of_ble_eq_true rfl⟩
  have kf_10 : (Cond.fieldLink RX8 10 "PictureBeats" "machine" "LPictureBeats$Machine;").before ([.ref (a 0), .int p1, .int p2, .int p3, .int p4] : List Value).toArray s = true := hts _ (by decide +kernel)
  have kf_70 : (Cond.fieldLink RX8 70 "PictureBeats$Machine" "changes" "LPictureBeats$Changes;").before ([.ref (a 0), .int p1, .int p2, .int p3, .int p4] : List Value).toArray s = true := hts _ (by decide +kernel)
  have w_74 : CallW (headSpec wsX8_entry ({ frames := 2, cells := 0, slots := 0, locals := 43 })).room s ([.ref (a 0), .int p1, .int p2, .int p3, .int p4] : List Value).toArray RX8 RX1 74 yX1_append cX1_append 5 (some .int) wsX1_append ({ frames := 0, cells := 0, slots := 0, locals := 0 } : Room) 0 0 4 := cwV 4 hts gX8_entry_X1_append rfl rfl rfl (by decide +kernel) ⟨Nat.le_of_ble_eq_true rfl, Nat.le_of_ble_eq_true rfl⟩
  refine lv_iload_n hx hb dX8_entry_0 rfl (lv_at hl 1 rfl) ?_
  refine lv_iconst (v := 0) hx hb dX8_entry_1 (by decide) ?_
  refine lv_bipush (v := 63) hx hb dX8_entry_2 (by decide) ?_
  refine x_rS (As := [.int p1, .int 0, .int 63]) (rest := []) ⟨hx, hb, hml, hown, hts⟩ (c_X8_within l D cT p1 0 63 _ hv) w_20 hK hS hN rfl hl.1 rfl (Nat.le_of_ble_eq_true rfl) dX8_entry_4 ⟨Nat.le_of_ble_eq_true rfl, Nat.le_of_ble_eq_true rfl⟩ (fun r_1 hv => ?_)
  refine lv_if_eq (tgt := 30) hx hb dX8_entry_7 (by decide) (fun c_2 => ?_) (fun c_2 => ?_)
  · have hv := hv.1 c_2
    refine lv_iconst (v := (-1)) hx hb dX8_entry_30 (by decide) ?_
    exact W.iret (v := (-1)) hx hb hr (fun t ht hW => ⟨⟨_, M, rfl, hv, by rw [ht]; exact hP, va_K.moved hW.alike hK, hD⟩, hS.F ht⟩) hS.2.2 dX8_entry_31
  · have hv := hv.2 c_2
    refine lv_iload_n hx hb dX8_entry_10 rfl (lv_at hl 2 rfl) ?_
    refine lv_iconst (v := 0) hx hb dX8_entry_11 (by decide) ?_
    refine lv_sipush (v := 159) hx hb dX8_entry_12 (by decide) ?_
    refine x_rS (As := [.int p2, .int 0, .int 159]) (rest := []) ⟨hx, hb, hml, hown, hts⟩ (c_X8_within l D cT p2 0 159 _ hv) w_20 hK hS hN rfl hl.1 rfl (Nat.le_of_ble_eq_true rfl) dX8_entry_15 ⟨Nat.le_of_ble_eq_true rfl, Nat.le_of_ble_eq_true rfl⟩ (fun r_3 hv => ?_)
    refine lv_if_eq (tgt := 30) hx hb dX8_entry_18 (by decide) (fun c_4 => ?_) (fun c_4 => ?_)
    · have hv := hv.1 c_4
      refine lv_iconst (v := (-1)) hx hb dX8_entry_30 (by decide) ?_
      exact W.iret (v := (-1)) hx hb hr (fun t ht hW => ⟨⟨_, M, rfl, hv, by rw [ht]; exact hP, va_K.moved hW.alike hK, hD⟩, hS.F ht⟩) hS.2.2 dX8_entry_31
    · have hv := hv.2 c_4
      refine lv_iload_n hx hb dX8_entry_21 rfl (lv_at hl 3 rfl) ?_
      refine lv_iload hx hb dX8_entry_22 (lv_at hl 4 rfl) ?_
      refine x_rS (As := [.int p3, .int p4]) (rest := []) ⟨hx, hb, hml, hown, hts⟩ (c_X5_takes l D cT p3 p4 _ hv) w_67 hK hS hN rfl hl.1 rfl (Nat.le_of_ble_eq_true rfl) dX8_entry_24 ⟨Nat.le_of_ble_eq_true rfl, Nat.le_of_ble_eq_true rfl⟩ (fun r_5 hv => ?_)
      refine lv_if_ne (tgt := 32) hx hb dX8_entry_27 (by decide) (fun c_6 => ?_) (fun c_6 => ?_)
      · have hv := hv.1 c_6
        refine lv_aload_n hx hb dX8_entry_32 rfl (lv_at hl 0 rfl) ?_
        refine va_get (D := D) (ci := 8) (v := .ref (a 2)) (C := RX8) (T := TX8) (N := 2) hx hb hts in_X8 hown hK hP 0 rfl rfl 0 (by decide) kf_10 (fun _ h9 => h9) rfl dX8_entry_33 ?_
        refine va_get (D := D) (ci := 3) (v := .ref (a 17)) (C := RX3) (T := TX3) (N := 12) hx hb hts in_X3 hown hK hP 2 rfl rfl 3 (by decide) kf_70 (fun _ h9 => h9) rfl dX8_entry_36 ?_
        refine lv_iload_n hx hb dX8_entry_39 rfl (lv_at hl 1 rfl) ?_
        refine lv_iload_n hx hb dX8_entry_40 rfl (lv_at hl 2 rfl) ?_
        refine lv_iload_n hx hb dX8_entry_41 rfl (lv_at hl 3 rfl) ?_
        refine lv_iload hx hb dX8_entry_42 (lv_at hl 4 rfl) ?_
        refine x_cVi (As := [.int p1, .int p2, .int p3, .int p4]) (rest := []) (wn := fun u_7 => (w_PB cT a (x_wb M 17 5 u_7) im)) ⟨hx, hb, hml, hown, hts⟩ (c_X1_append l D cT (x_sh a 17) (x_sh M 17) p1 p2 p3 p4 _ _ hv) w_74 hK hP hD hS hA hN [17, 18, 19, 20, 21] [0, 1, 2, 3, 4, 5, 6, 7, 8, 9, 10, 11, 12, 13, 14, 15, 16, 22, 23, 24, 25, 26, 27, 28, 29, 30] [0, 1, 2, 3, 4, 5, 6, 7, 8, 9, 10, 11, 12, 13, 14, 15, 16, 26, 27, 28, 29, 30, 17, 18, 19, 20, 21, 22, 23, 24, 25] rfl rfl (fun _ => rfl) (by decide) (by decide) (by decide) (by decide) 1 0 rfl rfl rfl hl.1 rfl (Nat.le_of_ble_eq_true rfl) dX8_entry_44 ⟨Nat.le_of_ble_eq_true rfl, Nat.le_of_ble_eq_true rfl⟩ (fun r_8 u_7 H locs hv hP hD hS => ?_)
        obtain ⟨M_9, eM_9⟩ : ∃ z : ST, z = x_wb M 17 5 u_7 := ⟨_, rfl⟩
        have hP : va_P D vwCl ((w_PB cT a M_9 im)) H := by rw [eM_9]; exact hP
        have hD : va_D A ((w_PB cT a M_9 im)) := by rw [eM_9]; exact hD
        have hv := hv M_9 eM_9
        exact W.iret (v := r_8) hx hb hr (fun t ht hW => ⟨⟨_, M_9, rfl, hv, by rw [ht]; exact hP, va_K.moved hW.alike hK, hD⟩, hS.F ht⟩) hS.2.2 dX8_entry_47
      · have hv := hv.2 c_6
        refine lv_iconst (v := (-1)) hx hb dX8_entry_30 (by decide) ?_
        exact W.iret (v := (-1)) hx hb hr (fun t ht hW => ⟨⟨_, M, rfl, hv, by rw [ht]; exact hP, va_K.moved hW.alike hK, hD⟩, hS.F ht⟩) hS.2.2 dX8_entry_31
def v_X8_clear (M : ST) (post : ST → Prop) : Prop := ∀ M_1 : ST, M_1 = x_st M 17 4 0 → post M_1
set_option maxHeartbeats 4000000 in
set_option maxRecDepth 100000 in
theorem c_X8_clear (l : Launch) (D : va_G) (cT : Nat → ClassId) (a : Nat → Nat) (M : ST) (im : Nat → Option Nat) (sz : Nat) (post : ST → Prop) (hv : v_X8_clear M post) : Met l yX8_clear wsX8_clear ({ frames := 0, cells := 0, slots := 0, locals := 0 }) (va_Pc [.ref (a 0)] (x_U D cT ((w_PB cT a M im)) sz)) (va_Qv post (fun u t => x_B D cT ((w_PB cT a u im)) (va_A ((w_PB cT a M im)) sz) t) (va_A ((w_PB cT a M im)) sz)) 0 0 (va_A ((w_PB cT a M im)) sz) := by
  refine Met.ofW (cc := cX8_clear) (maxL := 1) (ret := none) (by decide) rfl ?_
  intro p e s m args below meth c s₁ B hml hpre
  obtain ⟨rfl, hsz, hP, hK, hD0, hN⟩ := hpre
  have hx := B.exec
  have hb := B.bytes
  have hr := B.returns
  have hts := atoms_spec (ws := wsX8_clear) B.pre
  have hown : s.vm.findClass RX8 = some m.cls := findClass_of_methodNamed B.named
  have hlocks := B.notSynchronized
  subst hsz
  have hD := hD0.self (sz := s.heap.size)
  generalize hAe : va_A ((w_PB cT a M im)) s.heap.size = A at hD hN ⊢
  have hA : ∀ q : Nat, s.heap.size ≤ q → A q := fun q h => by rw [← hAe]; exact Or.inr h
  have hS : va_S A s.heap s.heap [] := va_S.rf
  have hl := lv_entry ([.ref (a 0)]) (n := 1) (Nat.le_of_ble_eq_true rfl)
  rw [lg_entry_eq]
  generalize (lg_sl ([.ref (a 0)]) ++ List.replicate (1 - (lg_sl ([.ref (a 0)])).length) Slot.unset).toArray = ls at hl ⊢
  have hl : lv_has ls 1 [(0, .ref (a 0))] := hl
  have in_X1 : ∀ w ∈ wsX10, w ∈ wsX8_clear := by decide +kernel
  have in_X3 : ∀ w ∈ wsX30, w ∈ wsX8_clear := by decide +kernel
  have in_X8 : ∀ w ∈ wsX80, w ∈ wsX8_clear := by decide +kernel
  have kf_10 : (Cond.fieldLink RX8 10 "PictureBeats" "machine" "LPictureBeats$Machine;").before ([.ref (a 0)] : List Value).toArray s = true := hts _ (by decide +kernel)
  have kf_70 : (Cond.fieldLink RX8 70 "PictureBeats$Machine" "changes" "LPictureBeats$Changes;").before ([.ref (a 0)] : List Value).toArray s = true := hts _ (by decide +kernel)
  have kf_80 : (Cond.fieldLink RX8 80 "PictureBeats$Changes" "count" "I").before ([.ref (a 0)] : List Value).toArray s = true := hts _ (by decide +kernel)
  refine lv_aload_n hx hb dX8_clear_0 rfl (lv_at hl 0 rfl) ?_
  refine va_get (D := D) (ci := 8) (v := .ref (a 2)) (C := RX8) (T := TX8) (N := 2) hx hb hts in_X8 hown hK hP 0 rfl rfl 0 (by decide) kf_10 (fun _ h9 => h9) rfl dX8_clear_1 ?_
  refine va_get (D := D) (ci := 3) (v := .ref (a 17)) (C := RX3) (T := TX3) (N := 12) hx hb hts in_X3 hown hK hP 2 rfl rfl 3 (by decide) kf_70 (fun _ h9 => h9) rfl dX8_clear_4 ?_
  refine lv_iconst (v := 0) hx hb dX8_clear_7 (by decide) ?_
  refine va_put (D := D) (ci := 1) (v := .int 0) (ty := .int) (C := RX1) (T := TX1) (N := 5) hx hb hts in_X1 tyX1 tyX1_ok nmX1 hown hK hP hD hS 17 rfl rfl 4 (by decide) kf_80 (fun _ h9 => h9) rfl (by decide +kernel) rfl rfl (Nat.le_of_ble_eq_true rfl) dX8_clear_8 (fun H locs hP hD hS => ?_)
  obtain ⟨M_1, eM_1⟩ : ∃ z : ST, z = x_st M 17 4 0 := ⟨_, rfl⟩
  have hP : va_P D vwCl ((w_PB cT a M_1 im)) H := by rw [eM_1]; exact hP
  have hD : va_D A ((w_PB cT a M_1 im)) := by rw [eM_1]; exact hD
  have hv := hv M_1 eM_1
  exact W.vret hx hb hr (fun t ht hW => ⟨⟨M_1, rfl, hv, by rw [ht]; exact hP, va_K.moved hW.alike hK, hD⟩, hS.F ht⟩) hS.2.2 dX8_clear_11
def v_X8_readers (M : ST) (p1 : Int32) (p2 : Int32) (post : Int32 → ST → Prop) : Prop := v_X8_within p1 1 16 (fun r_1 => (((¬ (r_1 = 0)) → ∀ M_3 : ST, M_3 = x_st M 2 8 p1 → ∀ M_4 : ST, M_4 = x_st M_3 2 9 p2 → post 1 M_4) ∧ ((r_1 = 0) → post 0 M)))
set_option maxHeartbeats 4000000 in
set_option maxRecDepth 100000 in
theorem c_X8_readers (l : Launch) (D : va_G) (cT : Nat → ClassId) (a : Nat → Nat) (M : ST) (im : Nat → Option Nat) (p1 : Int32) (p2 : Int32) (sz : Nat) (post : Int32 → ST → Prop) (hv : v_X8_readers M p1 p2 post) : Met l yX8_readers wsX8_readers ({ frames := 1, cells := 0, slots := 0, locals := 22 }) (va_Pc [.ref (a 0), .int p1, .int p2] (x_U D cT ((w_PB cT a M im)) sz)) (va_Qi post (fun u t => x_B D cT ((w_PB cT a u im)) (va_A ((w_PB cT a M im)) sz) t) (va_A ((w_PB cT a M im)) sz)) 0 0 (va_A ((w_PB cT a M im)) sz) := by
  refine Met.ofW (cc := cX8_readers) (maxL := 3) (ret := (some .boolean)) (by decide) rfl ?_
  intro p e s m args below meth c s₁ B hml hpre
  obtain ⟨rfl, hsz, hP, hK, hD0, hN⟩ := hpre
  have hx := B.exec
  have hb := B.bytes
  have hr := B.returns
  have hts := atoms_spec (ws := wsX8_readers) B.pre
  have hown : s.vm.findClass RX8 = some m.cls := findClass_of_methodNamed B.named
  have hlocks := B.notSynchronized
  subst hsz
  have hD := hD0.self (sz := s.heap.size)
  generalize hAe : va_A ((w_PB cT a M im)) s.heap.size = A at hD hN ⊢
  have hA : ∀ q : Nat, s.heap.size ≤ q → A q := fun q h => by rw [← hAe]; exact Or.inr h
  have hS : va_S A s.heap s.heap [] := va_S.rf
  have hl := lv_entry ([.ref (a 0), .int p1, .int p2]) (n := 3) (Nat.le_of_ble_eq_true rfl)
  rw [lg_entry_eq]
  generalize (lg_sl ([.ref (a 0), .int p1, .int p2]) ++ List.replicate (3 - (lg_sl ([.ref (a 0), .int p1, .int p2])).length) Slot.unset).toArray = ls at hl ⊢
  have hl : lv_has ls 3 [(0, .ref (a 0)), (1, .int p1), (2, .int p2)] := hl
  have in_X3 : ∀ w ∈ wsX30, w ∈ wsX8_readers := by decide +kernel
  have in_X8 : ∀ w ∈ wsX80, w ∈ wsX8_readers := by decide +kernel
  have w_20 : CallB (headSpec wsX8_readers ({ frames := 1, cells := 0, slots := 0, locals := 22 })).room s ([.ref (a 0), .int p1, .int p2] : List Value).toArray RX8 20 yX8_within cX8_within 3 (some .boolean) wsX8_within ({ frames := 0, cells := 0, slots := 0, locals := 0 } : Room) 0 0 3 ∧ (Cond.static yX8_within).before ([.ref (a 0), .int p1, .int p2] : List Value).toArray s = true := va_cwS 3 hts gX8_readers_X8_within rfl rfl rfl (by decide +kernel) ⟨Nat.le_of_ble_eq_true rfl, Nat.le_of_ble_eq_true rfl⟩
  have kf_10 : (Cond.fieldLink RX8 10 "PictureBeats" "machine" "LPictureBeats$Machine;").before ([.ref (a 0), .int p1, .int p2] : List Value).toArray s = true := hts _ (by decide +kernel)
  have kf_84 : (Cond.fieldLink RX8 84 "PictureBeats$Machine" "period" "I").before ([.ref (a 0), .int p1, .int p2] : List Value).toArray s = true := hts _ (by decide +kernel)
  have kf_87 : (Cond.fieldLink RX8 87 "PictureBeats$Machine" "pattern" "I").before ([.ref (a 0), .int p1, .int p2] : List Value).toArray s = true := hts _ (by decide +kernel)
  refine lv_iload_n hx hb dX8_readers_0 rfl (lv_at hl 1 rfl) ?_
  refine lv_iconst (v := 1) hx hb dX8_readers_1 (by decide) ?_
  refine lv_bipush (v := 16) hx hb dX8_readers_2 (by decide) ?_
  refine x_rS (As := [.int p1, .int 1, .int 16]) (rest := []) ⟨hx, hb, hml, hown, hts⟩ (c_X8_within l D cT p1 1 16 _ hv) w_20 hK hS hN rfl hl.1 rfl (Nat.le_of_ble_eq_true rfl) dX8_readers_4 ⟨Nat.le_of_ble_eq_true rfl, Nat.le_of_ble_eq_true rfl⟩ (fun r_1 hv => ?_)
  refine lv_if_ne (tgt := 12) hx hb dX8_readers_7 (by decide) (fun c_2 => ?_) (fun c_2 => ?_)
  · have hv := hv.1 c_2
    refine lv_aload_n hx hb dX8_readers_12 rfl (lv_at hl 0 rfl) ?_
    refine va_get (D := D) (ci := 8) (v := .ref (a 2)) (C := RX8) (T := TX8) (N := 2) hx hb hts in_X8 hown hK hP 0 rfl rfl 0 (by decide) kf_10 (fun _ h9 => h9) rfl dX8_readers_13 ?_
    refine lv_iload_n hx hb dX8_readers_16 rfl (lv_at hl 1 rfl) ?_
    refine va_put (D := D) (ci := 3) (v := .int p1) (ty := .int) (C := RX3) (T := TX3) (N := 12) hx hb hts in_X3 tyX3 tyX3_ok nmX3 hown hK hP hD hS 2 rfl rfl 8 (by decide) kf_84 (fun _ h9 => h9) rfl (by decide +kernel) rfl rfl (Nat.le_of_ble_eq_true rfl) dX8_readers_17 (fun H locs hP hD hS => ?_)
    obtain ⟨M_3, eM_3⟩ : ∃ z : ST, z = x_st M 2 8 p1 := ⟨_, rfl⟩
    have hP : va_P D vwCl ((w_PB cT a M_3 im)) H := by rw [eM_3]; exact hP
    have hD : va_D A ((w_PB cT a M_3 im)) := by rw [eM_3]; exact hD
    have hv := hv M_3 eM_3
    refine lv_aload_n hx hb dX8_readers_20 rfl (lv_at hl 0 rfl) ?_
    refine va_get (D := D) (ci := 8) (v := .ref (a 2)) (C := RX8) (T := TX8) (N := 2) hx hb hts in_X8 hown hK hP 0 rfl rfl 0 (by decide) kf_10 (fun _ h9 => h9) rfl dX8_readers_21 ?_
    refine lv_iload_n hx hb dX8_readers_24 rfl (lv_at hl 2 rfl) ?_
    refine va_put (D := D) (ci := 3) (v := .int p2) (ty := .int) (C := RX3) (T := TX3) (N := 12) hx hb hts in_X3 tyX3 tyX3_ok nmX3 hown hK hP hD hS 2 rfl rfl 9 (by decide) kf_87 (fun _ h9 => h9) rfl (by decide +kernel) rfl rfl (Nat.le_of_ble_eq_true rfl) dX8_readers_25 (fun H locs hP hD hS => ?_)
    obtain ⟨M_4, eM_4⟩ : ∃ z : ST, z = x_st M_3 2 9 p2 := ⟨_, rfl⟩
    have hP : va_P D vwCl ((w_PB cT a M_4 im)) H := by rw [eM_4]; exact hP
    have hD : va_D A ((w_PB cT a M_4 im)) := by rw [eM_4]; exact hD
    have hv := hv M_4 eM_4
    refine lv_iconst (v := 1) hx hb dX8_readers_28 (by decide) ?_
    exact W.zret (v := 1) hx hb hr rfl (fun t ht hW => ⟨⟨_, M_4, rfl, hv, by rw [ht]; exact hP, va_K.moved hW.alike hK, hD⟩, hS.F ht⟩) hS.2.2 dX8_readers_29
  · have hv := hv.2 c_2
    refine lv_iconst (v := 0) hx hb dX8_readers_10 (by decide) ?_
    exact W.zret (v := 0) hx hb hr rfl (fun t ht hW => ⟨⟨_, M, rfl, hv, by rw [ht]; exact hP, va_K.moved hW.alike hK, hD⟩, hS.F ht⟩) hS.2.2 dX8_readers_11
def v_X8_depth (M : ST) (p1 : Int32) (post : Int32 → ST → Prop) : Prop := v_X8_within p1 1 8 (fun r_1 => (((¬ (r_1 = 0)) → ∀ M_3 : ST, M_3 = x_st M 13 3 p1 → post 1 M_3) ∧ ((r_1 = 0) → post 0 M)))
set_option maxHeartbeats 4000000 in
set_option maxRecDepth 100000 in
theorem c_X8_depth (l : Launch) (D : va_G) (cT : Nat → ClassId) (a : Nat → Nat) (M : ST) (im : Nat → Option Nat) (p1 : Int32) (sz : Nat) (post : Int32 → ST → Prop) (hv : v_X8_depth M p1 post) : Met l yX8_depth wsX8_depth ({ frames := 1, cells := 0, slots := 0, locals := 22 }) (va_Pc [.ref (a 0), .int p1] (x_U D cT ((w_PB cT a M im)) sz)) (va_Qi post (fun u t => x_B D cT ((w_PB cT a u im)) (va_A ((w_PB cT a M im)) sz) t) (va_A ((w_PB cT a M im)) sz)) 0 0 (va_A ((w_PB cT a M im)) sz) := by
  refine Met.ofW (cc := cX8_depth) (maxL := 2) (ret := (some .boolean)) (by decide) rfl ?_
  intro p e s m args below meth c s₁ B hml hpre
  obtain ⟨rfl, hsz, hP, hK, hD0, hN⟩ := hpre
  have hx := B.exec
  have hb := B.bytes
  have hr := B.returns
  have hts := atoms_spec (ws := wsX8_depth) B.pre
  have hown : s.vm.findClass RX8 = some m.cls := findClass_of_methodNamed B.named
  have hlocks := B.notSynchronized
  subst hsz
  have hD := hD0.self (sz := s.heap.size)
  generalize hAe : va_A ((w_PB cT a M im)) s.heap.size = A at hD hN ⊢
  have hA : ∀ q : Nat, s.heap.size ≤ q → A q := fun q h => by rw [← hAe]; exact Or.inr h
  have hS : va_S A s.heap s.heap [] := va_S.rf
  have hl := lv_entry ([.ref (a 0), .int p1]) (n := 2) (Nat.le_of_ble_eq_true rfl)
  rw [lg_entry_eq]
  generalize (lg_sl ([.ref (a 0), .int p1]) ++ List.replicate (2 - (lg_sl ([.ref (a 0), .int p1])).length) Slot.unset).toArray = ls at hl ⊢
  have hl : lv_has ls 2 [(0, .ref (a 0)), (1, .int p1)] := hl
  have in_X2 : ∀ w ∈ wsX20, w ∈ wsX8_depth := by decide +kernel
  have in_X3 : ∀ w ∈ wsX30, w ∈ wsX8_depth := by decide +kernel
  have in_X8 : ∀ w ∈ wsX80, w ∈ wsX8_depth := by decide +kernel
  have w_20 : CallB (headSpec wsX8_depth ({ frames := 1, cells := 0, slots := 0, locals := 22 })).room s ([.ref (a 0), .int p1] : List Value).toArray RX8 20 yX8_within cX8_within 3 (some .boolean) wsX8_within ({ frames := 0, cells := 0, slots := 0, locals := 0 } : Room) 0 0 3 ∧ (Cond.static yX8_within).before ([.ref (a 0), .int p1] : List Value).toArray s = true := va_cwS 3 hts gX8_depth_X8_within rfl rfl rfl (by decide +kernel) ⟨Nat.le_of_ble_eq_true rfl, Nat.le_of_ble_eq_true rfl⟩
  have kf_10 : (Cond.fieldLink RX8 10 "PictureBeats" "machine" "LPictureBeats$Machine;").before ([.ref (a 0), .int p1] : List Value).toArray s = true := hts _ (by decide +kernel)
  have kf_90 : (Cond.fieldLink RX8 90 "PictureBeats$Machine" "feed" "LPictureBeats$Feed;").before ([.ref (a 0), .int p1] : List Value).toArray s = true := hts _ (by decide +kernel)
  have kf_94 : (Cond.fieldLink RX8 94 "PictureBeats$Feed" "depth" "I").before ([.ref (a 0), .int p1] : List Value).toArray s = true := hts _ (by decide +kernel)
  refine lv_iload_n hx hb dX8_depth_0 rfl (lv_at hl 1 rfl) ?_
  refine lv_iconst (v := 1) hx hb dX8_depth_1 (by decide) ?_
  refine lv_bipush (v := 8) hx hb dX8_depth_2 (by decide) ?_
  refine x_rS (As := [.int p1, .int 1, .int 8]) (rest := []) ⟨hx, hb, hml, hown, hts⟩ (c_X8_within l D cT p1 1 8 _ hv) w_20 hK hS hN rfl hl.1 rfl (Nat.le_of_ble_eq_true rfl) dX8_depth_4 ⟨Nat.le_of_ble_eq_true rfl, Nat.le_of_ble_eq_true rfl⟩ (fun r_1 hv => ?_)
  refine lv_if_ne (tgt := 12) hx hb dX8_depth_7 (by decide) (fun c_2 => ?_) (fun c_2 => ?_)
  · have hv := hv.1 c_2
    refine lv_aload_n hx hb dX8_depth_12 rfl (lv_at hl 0 rfl) ?_
    refine va_get (D := D) (ci := 8) (v := .ref (a 2)) (C := RX8) (T := TX8) (N := 2) hx hb hts in_X8 hown hK hP 0 rfl rfl 0 (by decide) kf_10 (fun _ h9 => h9) rfl dX8_depth_13 ?_
    refine va_get (D := D) (ci := 3) (v := .ref (a 13)) (C := RX3) (T := TX3) (N := 12) hx hb hts in_X3 hown hK hP 2 rfl rfl 1 (by decide) kf_90 (fun _ h9 => h9) rfl dX8_depth_16 ?_
    refine lv_iload_n hx hb dX8_depth_19 rfl (lv_at hl 1 rfl) ?_
    refine va_put (D := D) (ci := 2) (v := .int p1) (ty := .int) (C := RX2) (T := TX2) (N := 11) hx hb hts in_X2 tyX2 tyX2_ok nmX2 hown hK hP hD hS 13 rfl rfl 3 (by decide) kf_94 (fun _ h9 => h9) rfl (by decide +kernel) rfl rfl (Nat.le_of_ble_eq_true rfl) dX8_depth_20 (fun H locs hP hD hS => ?_)
    obtain ⟨M_3, eM_3⟩ : ∃ z : ST, z = x_st M 13 3 p1 := ⟨_, rfl⟩
    have hP : va_P D vwCl ((w_PB cT a M_3 im)) H := by rw [eM_3]; exact hP
    have hD : va_D A ((w_PB cT a M_3 im)) := by rw [eM_3]; exact hD
    have hv := hv M_3 eM_3
    refine lv_iconst (v := 1) hx hb dX8_depth_23 (by decide) ?_
    exact W.zret (v := 1) hx hb hr rfl (fun t ht hW => ⟨⟨_, M_3, rfl, hv, by rw [ht]; exact hP, va_K.moved hW.alike hK, hD⟩, hS.F ht⟩) hS.2.2 dX8_depth_24
  · have hv := hv.2 c_2
    refine lv_iconst (v := 0) hx hb dX8_depth_10 (by decide) ?_
    exact W.zret (v := 0) hx hb hr rfl (fun t ht hW => ⟨⟨_, M, rfl, hv, by rw [ht]; exact hP, va_K.moved hW.alike hK, hD⟩, hS.F ht⟩) hS.2.2 dX8_depth_11
def v_X8_sprite (M : ST) (p1 : Int32) (p2 : Int32) (p3 : Int32) (p4 : Int32) (post : Int32 → ST → Prop) : Prop := v_X8_within p1 0 7 (fun r_1 => (((r_1 = 0) → post 0 M) ∧ ((¬ (r_1 = 0)) → v_X8_within p2 (-8) 63 (fun r_3 => (((r_3 = 0) → post 0 M) ∧ ((¬ (r_3 = 0)) → v_X8_within p3 0 63 (fun r_5 => (((r_5 = 0) → post 0 M) ∧ ((¬ (r_5 = 0)) → v_X8_within p4 0 8 (fun r_7 => (((¬ (r_7 = 0)) → v_X7_move (x_sh M 22) p1 p2 p3 p4 (fun (u_9 : ST) => ∀ M_10 : ST, M_10 = x_wb M 22 6 u_9 → post 1 M_10)) ∧ ((r_7 = 0) → post 0 M))))))))))))
set_option maxHeartbeats 4000000 in
set_option maxRecDepth 100000 in
theorem c_X8_sprite (l : Launch) (D : va_G) (cT : Nat → ClassId) (a : Nat → Nat) (M : ST) (im : Nat → Option Nat) (p1 : Int32) (p2 : Int32) (p3 : Int32) (p4 : Int32) (sz : Nat) (post : Int32 → ST → Prop) (hv : v_X8_sprite M p1 p2 p3 p4 post) : Met l yX8_sprite wsX8_sprite ({ frames := 3, cells := 0, slots := 0, locals := 68 }) (va_Pc [.ref (a 0), .int p1, .int p2, .int p3, .int p4] (x_U D cT ((w_PB cT a M im)) sz)) (va_Qi post (fun u t => x_B D cT ((w_PB cT a u im)) (va_A ((w_PB cT a M im)) sz) t) (va_A ((w_PB cT a M im)) sz)) 0 0 (va_A ((w_PB cT a M im)) sz) := by
  refine Met.ofW (cc := cX8_sprite) (maxL := 5) (ret := (some .boolean)) (by decide) rfl ?_
  intro p e s m args below meth c s₁ B hml hpre
  obtain ⟨rfl, hsz, hP, hK, hD0, hN⟩ := hpre
  have hx := B.exec
  have hb := B.bytes
  have hr := B.returns
  have hts := atoms_spec (ws := wsX8_sprite) B.pre
  have hown : s.vm.findClass RX8 = some m.cls := findClass_of_methodNamed B.named
  have hlocks := B.notSynchronized
  subst hsz
  have hD := hD0.self (sz := s.heap.size)
  generalize hAe : va_A ((w_PB cT a M im)) s.heap.size = A at hD hN ⊢
  have hA : ∀ q : Nat, s.heap.size ≤ q → A q := fun q h => by rw [← hAe]; exact Or.inr h
  have hS : va_S A s.heap s.heap [] := va_S.rf
  have hl := lv_entry ([.ref (a 0), .int p1, .int p2, .int p3, .int p4]) (n := 5) (Nat.le_of_ble_eq_true rfl)
  rw [lg_entry_eq]
  generalize (lg_sl ([.ref (a 0), .int p1, .int p2, .int p3, .int p4]) ++ List.replicate (5 - (lg_sl ([.ref (a 0), .int p1, .int p2, .int p3, .int p4])).length) Slot.unset).toArray = ls at hl ⊢
  have hl : lv_has ls 5 [(0, .ref (a 0)), (1, .int p1), (2, .int p2), (3, .int p3), (4, .int p4)] := hl
  have in_X3 : ∀ w ∈ wsX30, w ∈ wsX8_sprite := by decide +kernel
  have in_X8 : ∀ w ∈ wsX80, w ∈ wsX8_sprite := by decide +kernel
  have w_20 : CallB (headSpec wsX8_sprite ({ frames := 3, cells := 0, slots := 0, locals := 68 })).room s ([.ref (a 0), .int p1, .int p2, .int p3, .int p4] : List Value).toArray RX8 20 yX8_within cX8_within 3 (some .boolean) wsX8_within ({ frames := 0, cells := 0, slots := 0, locals := 0 } : Room) 0 0 3 ∧ (Cond.static yX8_within).before ([.ref (a 0), .int p1, .int p2, .int p3, .int p4] : List Value).toArray s = true := va_cwS 3 hts gX8_sprite_X8_within rfl rfl rfl (by decide +kernel) ⟨Nat.le_of_ble_eq_true rfl, Nat.le_of_ble_eq_true rfl⟩
  have kf_10 : (Cond.fieldLink RX8 10 "PictureBeats" "machine" "LPictureBeats$Machine;").before ([.ref (a 0), .int p1, .int p2, .int p3, .int p4] : List Value).toArray s = true := hts _ (by decide +kernel)
  have kf_99 : (Cond.fieldLink RX8 99 "PictureBeats$Machine" "sprites" "LPictureBeats$Sprites;").before ([.ref (a 0), .int p1, .int p2, .int p3, .int p4] : List Value).toArray s = true := hts _ (by decide +kernel)
  have w_103 : CallW (headSpec wsX8_sprite ({ frames := 3, cells := 0, slots := 0, locals := 68 })).room s ([.ref (a 0), .int p1, .int p2, .int p3, .int p4] : List Value).toArray RX8 RX7 103 yX7_move cX7_move 5 none wsX7_move ({ frames := 2, cells := 0, slots := 0, locals := 44 } : Room) 0 0 4 := cwV 4 hts gX8_sprite_X7_move rfl rfl rfl (by decide +kernel) ⟨Nat.le_of_ble_eq_true rfl, Nat.le_of_ble_eq_true rfl⟩
  refine lv_iload_n hx hb dX8_sprite_0 rfl (lv_at hl 1 rfl) ?_
  refine lv_iconst (v := 0) hx hb dX8_sprite_1 (by decide) ?_
  refine lv_bipush (v := 7) hx hb dX8_sprite_2 (by decide) ?_
  refine x_rS (As := [.int p1, .int 0, .int 7]) (rest := []) ⟨hx, hb, hml, hown, hts⟩ (c_X8_within l D cT p1 0 7 _ hv) w_20 hK hS hN rfl hl.1 rfl (Nat.le_of_ble_eq_true rfl) dX8_sprite_4 ⟨Nat.le_of_ble_eq_true rfl, Nat.le_of_ble_eq_true rfl⟩ (fun r_1 hv => ?_)
  refine lv_if_eq (tgt := 42) hx hb dX8_sprite_7 (by decide) (fun c_2 => ?_) (fun c_2 => ?_)
  · have hv := hv.1 c_2
    refine lv_iconst (v := 0) hx hb dX8_sprite_42 (by decide) ?_
    exact W.zret (v := 0) hx hb hr rfl (fun t ht hW => ⟨⟨_, M, rfl, hv, by rw [ht]; exact hP, va_K.moved hW.alike hK, hD⟩, hS.F ht⟩) hS.2.2 dX8_sprite_43
  · have hv := hv.2 c_2
    refine lv_iload_n hx hb dX8_sprite_10 rfl (lv_at hl 2 rfl) ?_
    refine lv_bipush (v := (-8)) hx hb dX8_sprite_11 (by decide) ?_
    refine lv_bipush (v := 63) hx hb dX8_sprite_13 (by decide) ?_
    refine x_rS (As := [.int p2, .int (-8), .int 63]) (rest := []) ⟨hx, hb, hml, hown, hts⟩ (c_X8_within l D cT p2 (-8) 63 _ hv) w_20 hK hS hN rfl hl.1 rfl (Nat.le_of_ble_eq_true rfl) dX8_sprite_15 ⟨Nat.le_of_ble_eq_true rfl, Nat.le_of_ble_eq_true rfl⟩ (fun r_3 hv => ?_)
    refine lv_if_eq (tgt := 42) hx hb dX8_sprite_18 (by decide) (fun c_4 => ?_) (fun c_4 => ?_)
    · have hv := hv.1 c_4
      refine lv_iconst (v := 0) hx hb dX8_sprite_42 (by decide) ?_
      exact W.zret (v := 0) hx hb hr rfl (fun t ht hW => ⟨⟨_, M, rfl, hv, by rw [ht]; exact hP, va_K.moved hW.alike hK, hD⟩, hS.F ht⟩) hS.2.2 dX8_sprite_43
    · have hv := hv.2 c_4
      refine lv_iload_n hx hb dX8_sprite_21 rfl (lv_at hl 3 rfl) ?_
      refine lv_iconst (v := 0) hx hb dX8_sprite_22 (by decide) ?_
      refine lv_bipush (v := 63) hx hb dX8_sprite_23 (by decide) ?_
      refine x_rS (As := [.int p3, .int 0, .int 63]) (rest := []) ⟨hx, hb, hml, hown, hts⟩ (c_X8_within l D cT p3 0 63 _ hv) w_20 hK hS hN rfl hl.1 rfl (Nat.le_of_ble_eq_true rfl) dX8_sprite_25 ⟨Nat.le_of_ble_eq_true rfl, Nat.le_of_ble_eq_true rfl⟩ (fun r_5 hv => ?_)
      refine lv_if_eq (tgt := 42) hx hb dX8_sprite_28 (by decide) (fun c_6 => ?_) (fun c_6 => ?_)
      · have hv := hv.1 c_6
        refine lv_iconst (v := 0) hx hb dX8_sprite_42 (by decide) ?_
        exact W.zret (v := 0) hx hb hr rfl (fun t ht hW => ⟨⟨_, M, rfl, hv, by rw [ht]; exact hP, va_K.moved hW.alike hK, hD⟩, hS.F ht⟩) hS.2.2 dX8_sprite_43
      · have hv := hv.2 c_6
        refine lv_iload hx hb dX8_sprite_31 (lv_at hl 4 rfl) ?_
        refine lv_iconst (v := 0) hx hb dX8_sprite_33 (by decide) ?_
        refine lv_bipush (v := 8) hx hb dX8_sprite_34 (by decide) ?_
        refine x_rS (As := [.int p4, .int 0, .int 8]) (rest := []) ⟨hx, hb, hml, hown, hts⟩ (c_X8_within l D cT p4 0 8 _ hv) w_20 hK hS hN rfl hl.1 rfl (Nat.le_of_ble_eq_true rfl) dX8_sprite_36 ⟨Nat.le_of_ble_eq_true rfl, Nat.le_of_ble_eq_true rfl⟩ (fun r_7 hv => ?_)
        refine lv_if_ne (tgt := 44) hx hb dX8_sprite_39 (by decide) (fun c_8 => ?_) (fun c_8 => ?_)
        · have hv := hv.1 c_8
          refine lv_aload_n hx hb dX8_sprite_44 rfl (lv_at hl 0 rfl) ?_
          refine va_get (D := D) (ci := 8) (v := .ref (a 2)) (C := RX8) (T := TX8) (N := 2) hx hb hts in_X8 hown hK hP 0 rfl rfl 0 (by decide) kf_10 (fun _ h9 => h9) rfl dX8_sprite_45 ?_
          refine va_get (D := D) (ci := 3) (v := .ref (a 22)) (C := RX3) (T := TX3) (N := 12) hx hb hts in_X3 hown hK hP 2 rfl rfl 4 (by decide) kf_99 (fun _ h9 => h9) rfl dX8_sprite_48 ?_
          refine lv_iload_n hx hb dX8_sprite_51 rfl (lv_at hl 1 rfl) ?_
          refine lv_iload_n hx hb dX8_sprite_52 rfl (lv_at hl 2 rfl) ?_
          refine lv_iload_n hx hb dX8_sprite_53 rfl (lv_at hl 3 rfl) ?_
          refine lv_iload hx hb dX8_sprite_54 (lv_at hl 4 rfl) ?_
          refine x_cVv (As := [.int p1, .int p2, .int p3, .int p4]) (rest := []) (wn := fun u_9 => (w_PB cT a (x_wb M 22 6 u_9) im)) ⟨hx, hb, hml, hown, hts⟩ (c_X7_move l D cT (x_sh a 22) (x_sh M 22) p1 p2 p3 p4 _ _ hv) w_103 hK hP hD hS hA hN [22, 23, 24, 25, 26, 27] [0, 1, 2, 3, 4, 5, 6, 7, 8, 9, 10, 11, 12, 13, 14, 15, 16, 17, 18, 19, 20, 21, 28, 29, 30] [0, 1, 2, 3, 4, 5, 6, 7, 8, 9, 10, 11, 12, 13, 14, 15, 16, 17, 18, 19, 20, 21, 25, 26, 27, 28, 29, 30, 22, 23, 24] rfl rfl (fun _ => rfl) (by decide) (by decide) (by decide) (by decide) 7 0 rfl rfl rfl hl.1 rfl (Nat.le_of_ble_eq_true rfl) dX8_sprite_56 ⟨Nat.le_of_ble_eq_true rfl, Nat.le_of_ble_eq_true rfl⟩ (fun u_9 H locs hv hP hD hS => ?_)
          obtain ⟨M_10, eM_10⟩ : ∃ z : ST, z = x_wb M 22 6 u_9 := ⟨_, rfl⟩
          have hP : va_P D vwCl ((w_PB cT a M_10 im)) H := by rw [eM_10]; exact hP
          have hD : va_D A ((w_PB cT a M_10 im)) := by rw [eM_10]; exact hD
          have hv := hv M_10 eM_10
          refine lv_iconst (v := 1) hx hb dX8_sprite_59 (by decide) ?_
          exact W.zret (v := 1) hx hb hr rfl (fun t ht hW => ⟨⟨_, M_10, rfl, hv, by rw [ht]; exact hP, va_K.moved hW.alike hK, hD⟩, hS.F ht⟩) hS.2.2 dX8_sprite_60
        · have hv := hv.2 c_8
          refine lv_iconst (v := 0) hx hb dX8_sprite_42 (by decide) ?_
          exact W.zret (v := 0) hx hb hr rfl (fun t ht hW => ⟨⟨_, M, rfl, hv, by rw [ht]; exact hP, va_K.moved hW.alike hK, hD⟩, hS.F ht⟩) hS.2.2 dX8_sprite_43
def v_X8_bits (M : ST) (p1 : Int32) (p2 : Int32) (p3 : Int32) (post : Int32 → ST → Prop) : Prop := v_X8_within p1 0 7 (fun r_1 => (((¬ (r_1 = 0)) → (((p2 = 0) → v_X7_draw (x_sh M 22) p1 4 p3 (fun (u_4 : ST) => ∀ M_5 : ST, M_5 = x_wb M 22 6 u_4 → post 1 M_5)) ∧ ((¬ (p2 = 0)) → v_X7_draw (x_sh M 22) p1 0 p3 (fun (u_6 : ST) => ∀ M_7 : ST, M_7 = x_wb M 22 6 u_6 → post 1 M_7)))) ∧ ((r_1 = 0) → post 0 M)))
set_option maxHeartbeats 4000000 in
set_option maxRecDepth 100000 in
theorem c_X8_bits (l : Launch) (D : va_G) (cT : Nat → ClassId) (a : Nat → Nat) (M : ST) (im : Nat → Option Nat) (p1 : Int32) (p2 : Int32) (p3 : Int32) (sz : Nat) (post : Int32 → ST → Prop) (hv : v_X8_bits M p1 p2 p3 post) : Met l yX8_bits wsX8_bits ({ frames := 1, cells := 0, slots := 0, locals := 24 }) (va_Pc [.ref (a 0), .int p1, .int p2, .int p3] (x_U D cT ((w_PB cT a M im)) sz)) (va_Qi post (fun u t => x_B D cT ((w_PB cT a u im)) (va_A ((w_PB cT a M im)) sz) t) (va_A ((w_PB cT a M im)) sz)) 0 0 (va_A ((w_PB cT a M im)) sz) := by
  refine Met.ofW (cc := cX8_bits) (maxL := 4) (ret := (some .boolean)) (by decide) rfl ?_
  intro p e s m args below meth c s₁ B hml hpre
  obtain ⟨rfl, hsz, hP, hK, hD0, hN⟩ := hpre
  have hx := B.exec
  have hb := B.bytes
  have hr := B.returns
  have hts := atoms_spec (ws := wsX8_bits) B.pre
  have hown : s.vm.findClass RX8 = some m.cls := findClass_of_methodNamed B.named
  have hlocks := B.notSynchronized
  subst hsz
  have hD := hD0.self (sz := s.heap.size)
  generalize hAe : va_A ((w_PB cT a M im)) s.heap.size = A at hD hN ⊢
  have hA : ∀ q : Nat, s.heap.size ≤ q → A q := fun q h => by rw [← hAe]; exact Or.inr h
  have hS : va_S A s.heap s.heap [] := va_S.rf
  have hl := lv_entry ([.ref (a 0), .int p1, .int p2, .int p3]) (n := 4) (Nat.le_of_ble_eq_true rfl)
  rw [lg_entry_eq]
  generalize (lg_sl ([.ref (a 0), .int p1, .int p2, .int p3]) ++ List.replicate (4 - (lg_sl ([.ref (a 0), .int p1, .int p2, .int p3])).length) Slot.unset).toArray = ls at hl ⊢
  have hl : lv_has ls 4 [(0, .ref (a 0)), (1, .int p1), (2, .int p2), (3, .int p3)] := hl
  have in_X3 : ∀ w ∈ wsX30, w ∈ wsX8_bits := by decide +kernel
  have in_X8 : ∀ w ∈ wsX80, w ∈ wsX8_bits := by decide +kernel
  have w_20 : CallB (headSpec wsX8_bits ({ frames := 1, cells := 0, slots := 0, locals := 24 })).room s ([.ref (a 0), .int p1, .int p2, .int p3] : List Value).toArray RX8 20 yX8_within cX8_within 3 (some .boolean) wsX8_within ({ frames := 0, cells := 0, slots := 0, locals := 0 } : Room) 0 0 3 ∧ (Cond.static yX8_within).before ([.ref (a 0), .int p1, .int p2, .int p3] : List Value).toArray s = true := va_cwS 3 hts gX8_bits_X8_within rfl rfl rfl (by decide +kernel) ⟨Nat.le_of_ble_eq_true rfl, Nat.le_of_ble_eq_true rfl⟩
  have kf_10 : (Cond.fieldLink RX8 10 "PictureBeats" "machine" "LPictureBeats$Machine;").before ([.ref (a 0), .int p1, .int p2, .int p3] : List Value).toArray s = true := hts _ (by decide +kernel)
  have kf_99 : (Cond.fieldLink RX8 99 "PictureBeats$Machine" "sprites" "LPictureBeats$Sprites;").before ([.ref (a 0), .int p1, .int p2, .int p3] : List Value).toArray s = true := hts _ (by decide +kernel)
  have w_108 : CallW (headSpec wsX8_bits ({ frames := 1, cells := 0, slots := 0, locals := 24 })).room s ([.ref (a 0), .int p1, .int p2, .int p3] : List Value).toArray RX8 RX7 108 yX7_draw cX7_draw 5 none wsX7_draw ({ frames := 0, cells := 0, slots := 0, locals := 0 } : Room) 0 0 3 := cwV 3 hts gX8_bits_X7_draw rfl rfl rfl (by decide +kernel) ⟨Nat.le_of_ble_eq_true rfl, Nat.le_of_ble_eq_true rfl⟩
  refine lv_iload_n hx hb dX8_bits_0 rfl (lv_at hl 1 rfl) ?_
  refine lv_iconst (v := 0) hx hb dX8_bits_1 (by decide) ?_
  refine lv_bipush (v := 7) hx hb dX8_bits_2 (by decide) ?_
  refine x_rS (As := [.int p1, .int 0, .int 7]) (rest := []) ⟨hx, hb, hml, hown, hts⟩ (c_X8_within l D cT p1 0 7 _ hv) w_20 hK hS hN rfl hl.1 rfl (Nat.le_of_ble_eq_true rfl) dX8_bits_4 ⟨Nat.le_of_ble_eq_true rfl, Nat.le_of_ble_eq_true rfl⟩ (fun r_1 hv => ?_)
  refine lv_if_ne (tgt := 12) hx hb dX8_bits_7 (by decide) (fun c_2 => ?_) (fun c_2 => ?_)
  · have hv := hv.1 c_2
    refine lv_aload_n hx hb dX8_bits_12 rfl (lv_at hl 0 rfl) ?_
    refine va_get (D := D) (ci := 8) (v := .ref (a 2)) (C := RX8) (T := TX8) (N := 2) hx hb hts in_X8 hown hK hP 0 rfl rfl 0 (by decide) kf_10 (fun _ h9 => h9) rfl dX8_bits_13 ?_
    refine va_get (D := D) (ci := 3) (v := .ref (a 22)) (C := RX3) (T := TX3) (N := 12) hx hb hts in_X3 hown hK hP 2 rfl rfl 4 (by decide) kf_99 (fun _ h9 => h9) rfl dX8_bits_16 ?_
    refine lv_iload_n hx hb dX8_bits_19 rfl (lv_at hl 1 rfl) ?_
    refine lv_iload_n hx hb dX8_bits_20 rfl (lv_at hl 2 rfl) ?_
    refine lv_if_eq (tgt := 28) hx hb dX8_bits_21 (by decide) (fun c_3 => ?_) (fun c_3 => ?_)
    · have hv := hv.1 c_3
      refine lv_iconst (v := 4) hx hb dX8_bits_28 (by decide) ?_
      refine lv_iload_n hx hb dX8_bits_29 rfl (lv_at hl 3 rfl) ?_
      refine x_cVv (As := [.int p1, .int 4, .int p3]) (rest := []) (wn := fun u_4 => (w_PB cT a (x_wb M 22 6 u_4) im)) ⟨hx, hb, hml, hown, hts⟩ (c_X7_draw l D cT (x_sh a 22) (x_sh M 22) p1 4 p3 _ _ hv) w_108 hK hP hD hS hA hN [22, 23, 24, 25, 26, 27] [0, 1, 2, 3, 4, 5, 6, 7, 8, 9, 10, 11, 12, 13, 14, 15, 16, 17, 18, 19, 20, 21, 28, 29, 30] [0, 1, 2, 3, 4, 5, 6, 7, 8, 9, 10, 11, 12, 13, 14, 15, 16, 17, 18, 19, 20, 21, 25, 26, 27, 28, 29, 30, 22, 23, 24] rfl rfl (fun _ => rfl) (by decide) (by decide) (by decide) (by decide) 7 0 rfl rfl rfl hl.1 rfl (Nat.le_of_ble_eq_true rfl) dX8_bits_30 ⟨Nat.le_of_ble_eq_true rfl, Nat.le_of_ble_eq_true rfl⟩ (fun u_4 H locs hv hP hD hS => ?_)
      obtain ⟨M_5, eM_5⟩ : ∃ z : ST, z = x_wb M 22 6 u_4 := ⟨_, rfl⟩
      have hP : va_P D vwCl ((w_PB cT a M_5 im)) H := by rw [eM_5]; exact hP
      have hD : va_D A ((w_PB cT a M_5 im)) := by rw [eM_5]; exact hD
      have hv := hv M_5 eM_5
      refine lv_iconst (v := 1) hx hb dX8_bits_33 (by decide) ?_
      exact W.zret (v := 1) hx hb hr rfl (fun t ht hW => ⟨⟨_, M_5, rfl, hv, by rw [ht]; exact hP, va_K.moved hW.alike hK, hD⟩, hS.F ht⟩) hS.2.2 dX8_bits_34
    · have hv := hv.2 c_3
      refine lv_iconst (v := 0) hx hb dX8_bits_24 (by decide) ?_
      refine lv_goto (tgt := 29) hx hb dX8_bits_25 (by decide) ?_
      refine lv_iload_n hx hb dX8_bits_29 rfl (lv_at hl 3 rfl) ?_
      refine x_cVv (As := [.int p1, .int 0, .int p3]) (rest := []) (wn := fun u_6 => (w_PB cT a (x_wb M 22 6 u_6) im)) ⟨hx, hb, hml, hown, hts⟩ (c_X7_draw l D cT (x_sh a 22) (x_sh M 22) p1 0 p3 _ _ hv) w_108 hK hP hD hS hA hN [22, 23, 24, 25, 26, 27] [0, 1, 2, 3, 4, 5, 6, 7, 8, 9, 10, 11, 12, 13, 14, 15, 16, 17, 18, 19, 20, 21, 28, 29, 30] [0, 1, 2, 3, 4, 5, 6, 7, 8, 9, 10, 11, 12, 13, 14, 15, 16, 17, 18, 19, 20, 21, 25, 26, 27, 28, 29, 30, 22, 23, 24] rfl rfl (fun _ => rfl) (by decide) (by decide) (by decide) (by decide) 7 0 rfl rfl rfl hl.1 rfl (Nat.le_of_ble_eq_true rfl) dX8_bits_30 ⟨Nat.le_of_ble_eq_true rfl, Nat.le_of_ble_eq_true rfl⟩ (fun u_6 H locs hv hP hD hS => ?_)
      obtain ⟨M_7, eM_7⟩ : ∃ z : ST, z = x_wb M 22 6 u_6 := ⟨_, rfl⟩
      have hP : va_P D vwCl ((w_PB cT a M_7 im)) H := by rw [eM_7]; exact hP
      have hD : va_D A ((w_PB cT a M_7 im)) := by rw [eM_7]; exact hD
      have hv := hv M_7 eM_7
      refine lv_iconst (v := 1) hx hb dX8_bits_33 (by decide) ?_
      exact W.zret (v := 1) hx hb hr rfl (fun t ht hW => ⟨⟨_, M_7, rfl, hv, by rw [ht]; exact hP, va_K.moved hW.alike hK, hD⟩, hS.F ht⟩) hS.2.2 dX8_bits_34
  · have hv := hv.2 c_2
    refine lv_iconst (v := 0) hx hb dX8_bits_10 (by decide) ?_
    exact W.zret (v := 0) hx hb hr rfl (fun t ht hW => ⟨⟨_, M, rfl, hv, by rw [ht]; exact hP, va_K.moved hW.alike hK, hD⟩, hS.F ht⟩) hS.2.2 dX8_bits_11
