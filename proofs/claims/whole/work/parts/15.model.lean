def v_X9_line (M : ST) (p1 : Int32) (p2 : Int32) (p3 : Int32) (p4 : Int32) (post : Int32 → ST → Prop) : Prop := v_X9_isIn p1 8 64 (fun r_1 => (((r_1 = 0) → post 0 M) ∧ ((¬ (r_1 = 0)) → v_X9_isIn p2 1 32 (fun r_3 => (((r_3 = 0) → post 0 M) ∧ ((¬ (r_3 = 0)) → v_X9_isIn p3 1 32 (fun r_5 => (((r_5 = 0) → post 0 M) ∧ ((¬ (r_5 = 0)) → v_X9_isIn p4 1 32 (fun r_7 => (((¬ (r_7 = 0)) → ∀ M_9 : ST, M_9 = x_st M 1 10 p1 → ∀ M_10 : ST, M_10 = x_st M_9 1 11 p2 → ∀ M_11 : ST, M_11 = x_st M_10 1 12 p3 → ∀ M_12 : ST, M_12 = x_st M_11 1 13 p4 → post 1 M_12) ∧ ((r_7 = 0) → post 0 M))))))))))))
set_option maxHeartbeats 4000000 in
set_option maxRecDepth 100000 in
theorem c_X9_line (l : Launch) (D : va_G) (cT : Nat → ClassId) (a : Nat → Nat) (M : ST) (p1 : Int32) (p2 : Int32) (p3 : Int32) (p4 : Int32) (sz : Nat) (post : Int32 → ST → Prop) (hv : v_X9_line M p1 p2 p3 p4 post) : Met l yX9_line wsX9_line ({ frames := 1, cells := 0, slots := 0, locals := 22 }) (va_Pc [.ref (a 0), .int p1, .int p2, .int p3, .int p4] (x_U D cT ((w_Model cT a M)) sz)) (va_Qi post (fun u t => x_B D cT ((w_Model cT a u)) (va_A ((w_Model cT a M)) sz) t) (va_A ((w_Model cT a M)) sz)) 0 0 (va_A ((w_Model cT a M)) sz) := by
  refine Met.ofW (cc := cX9_line) (maxL := 5) (ret := (some .boolean)) (by decide) rfl ?_
  intro p e s m args below meth c s₁ B hml hpre
  obtain ⟨rfl, hsz, hP, hK, hD0, hN⟩ := hpre
  have hx := B.exec
  have hb := B.bytes
  have hr := B.returns
  have hts := atoms_spec (ws := wsX9_line) B.pre
  have hown : s.vm.findClass RX9 = some m.cls := findClass_of_methodNamed B.named
  have hlocks := B.notSynchronized
  subst hsz
  have hD := hD0.self (sz := s.heap.size)
  generalize hAe : va_A ((w_Model cT a M)) s.heap.size = A at hD hN ⊢
  have hA : ∀ q : Nat, s.heap.size ≤ q → A q := fun q h => by rw [← hAe]; exact Or.inr h
  have hS : va_S A s.heap s.heap [] := va_S.rf
  have hl := lv_entry ([.ref (a 0), .int p1, .int p2, .int p3, .int p4]) (n := 5) (Nat.le_of_ble_eq_true rfl)
  rw [lg_entry_eq]
  generalize (lg_sl ([.ref (a 0), .int p1, .int p2, .int p3, .int p4]) ++ List.replicate (5 - (lg_sl ([.ref (a 0), .int p1, .int p2, .int p3, .int p4])).length) Slot.unset).toArray = ls at hl ⊢
  have hl : lv_has ls 5 [(0, .ref (a 0)), (1, .int p1), (2, .int p2), (3, .int p3), (4, .int p4)] := hl
  have in_X9 : ∀ w ∈ wsX90, w ∈ wsX9_line := by decide +kernel
  have w_17 : CallB (headSpec wsX9_line ({ frames := 1, cells := 0, slots := 0, locals := 22 })).room s ([.ref (a 0), .int p1, .int p2, .int p3, .int p4] : List Value).toArray RX9 17 yX9_isIn cX9_isIn 3 (some .boolean) wsX9_isIn ({ frames := 0, cells := 0, slots := 0, locals := 0 } : Room) 0 0 3 ∧ (Cond.static yX9_isIn).before ([.ref (a 0), .int p1, .int p2, .int p3, .int p4] : List Value).toArray s = true := va_cwS 3 hts gX9_line_X9_isIn rfl rfl rfl (by decide +kernel) ⟨Nat.le_of_ble_eq_true rfl, Nat.le_of_ble_eq_true rfl⟩
  have kf_7 : (Cond.fieldLink RX9 7 "PictureBeatsModel" "all" "[I").before ([.ref (a 0), .int p1, .int p2, .int p3, .int p4] : List Value).toArray s = true := hts _ (by decide +kernel)
  refine lv_iload_n hx hb dX9_line_0 rfl (lv_at hl 1 rfl) ?_
  refine lv_bipush (v := 8) hx hb dX9_line_1 (by decide) ?_
  refine lv_bipush (v := 64) hx hb dX9_line_3 (by decide) ?_
  refine x_rS (As := [.int p1, .int 8, .int 64]) (rest := []) ⟨hx, hb, hml, hown, hts⟩ (c_X9_isIn l D cT p1 8 64 _ hv) w_17 hK hS hN rfl hl.1 rfl (Nat.le_of_ble_eq_true rfl) dX9_line_5 ⟨Nat.le_of_ble_eq_true rfl, Nat.le_of_ble_eq_true rfl⟩ (fun r_1 hv => ?_)
  refine lv_if_eq (tgt := 42) hx hb dX9_line_8 (by decide) (fun c_2 => ?_) (fun c_2 => ?_)
  · have hv := hv.1 c_2
    refine lv_iconst (v := 0) hx hb dX9_line_42 (by decide) ?_
    exact W.zret (v := 0) hx hb hr rfl (fun t ht hW => ⟨⟨_, M, rfl, hv, by rw [ht]; exact hP, va_K.moved hW.alike hK, hD⟩, hS.F ht⟩) hS.2.2 dX9_line_43
  · have hv := hv.2 c_2
    refine lv_iload_n hx hb dX9_line_11 rfl (lv_at hl 2 rfl) ?_
    refine lv_iconst (v := 1) hx hb dX9_line_12 (by decide) ?_
    refine lv_bipush (v := 32) hx hb dX9_line_13 (by decide) ?_
    refine x_rS (As := [.int p2, .int 1, .int 32]) (rest := []) ⟨hx, hb, hml, hown, hts⟩ (c_X9_isIn l D cT p2 1 32 _ hv) w_17 hK hS hN rfl hl.1 rfl (Nat.le_of_ble_eq_true rfl) dX9_line_15 ⟨Nat.le_of_ble_eq_true rfl, Nat.le_of_ble_eq_true rfl⟩ (fun r_3 hv => ?_)
    refine lv_if_eq (tgt := 42) hx hb dX9_line_18 (by decide) (fun c_4 => ?_) (fun c_4 => ?_)
    · have hv := hv.1 c_4
      refine lv_iconst (v := 0) hx hb dX9_line_42 (by decide) ?_
      exact W.zret (v := 0) hx hb hr rfl (fun t ht hW => ⟨⟨_, M, rfl, hv, by rw [ht]; exact hP, va_K.moved hW.alike hK, hD⟩, hS.F ht⟩) hS.2.2 dX9_line_43
    · have hv := hv.2 c_4
      refine lv_iload_n hx hb dX9_line_21 rfl (lv_at hl 3 rfl) ?_
      refine lv_iconst (v := 1) hx hb dX9_line_22 (by decide) ?_
      refine lv_bipush (v := 32) hx hb dX9_line_23 (by decide) ?_
      refine x_rS (As := [.int p3, .int 1, .int 32]) (rest := []) ⟨hx, hb, hml, hown, hts⟩ (c_X9_isIn l D cT p3 1 32 _ hv) w_17 hK hS hN rfl hl.1 rfl (Nat.le_of_ble_eq_true rfl) dX9_line_25 ⟨Nat.le_of_ble_eq_true rfl, Nat.le_of_ble_eq_true rfl⟩ (fun r_5 hv => ?_)
      refine lv_if_eq (tgt := 42) hx hb dX9_line_28 (by decide) (fun c_6 => ?_) (fun c_6 => ?_)
      · have hv := hv.1 c_6
        refine lv_iconst (v := 0) hx hb dX9_line_42 (by decide) ?_
        exact W.zret (v := 0) hx hb hr rfl (fun t ht hW => ⟨⟨_, M, rfl, hv, by rw [ht]; exact hP, va_K.moved hW.alike hK, hD⟩, hS.F ht⟩) hS.2.2 dX9_line_43
      · have hv := hv.2 c_6
        refine lv_iload hx hb dX9_line_31 (lv_at hl 4 rfl) ?_
        refine lv_iconst (v := 1) hx hb dX9_line_33 (by decide) ?_
        refine lv_bipush (v := 32) hx hb dX9_line_34 (by decide) ?_
        refine x_rS (As := [.int p4, .int 1, .int 32]) (rest := []) ⟨hx, hb, hml, hown, hts⟩ (c_X9_isIn l D cT p4 1 32 _ hv) w_17 hK hS hN rfl hl.1 rfl (Nat.le_of_ble_eq_true rfl) dX9_line_36 ⟨Nat.le_of_ble_eq_true rfl, Nat.le_of_ble_eq_true rfl⟩ (fun r_7 hv => ?_)
        refine lv_if_ne (tgt := 44) hx hb dX9_line_39 (by decide) (fun c_8 => ?_) (fun c_8 => ?_)
        · have hv := hv.1 c_8
          refine lv_aload_n hx hb dX9_line_44 rfl (lv_at hl 0 rfl) ?_
          refine va_get (D := D) (ci := 9) (v := .ref (a 1)) (C := RX9) (T := TX9) (N := 2) hx hb hts in_X9 hown hK hP 0 rfl rfl 0 (by decide) kf_7 (fun _ h9 => h9) rfl dX9_line_45 ?_
          refine lv_bipush (v := 10) hx hb dX9_line_48 (by decide) ?_
          refine lv_iload_n hx hb dX9_line_50 rfl (lv_at hl 1 rfl) ?_
          refine x_ast hx hb hK hP hD hS 1 0 rfl rfl 10 rfl (by decide) (by decide) dX9_line_51 (fun H locs hP hD hS => ?_)
          obtain ⟨M_9, eM_9⟩ : ∃ z : ST, z = x_st M 1 10 p1 := ⟨_, rfl⟩
          have hP : va_P D vwCl ((w_Model cT a M_9)) H := by rw [eM_9]; exact hP
          have hD : va_D A ((w_Model cT a M_9)) := by rw [eM_9]; exact hD
          have hv := hv M_9 eM_9
          refine lv_aload_n hx hb dX9_line_52 rfl (lv_at hl 0 rfl) ?_
          refine va_get (D := D) (ci := 9) (v := .ref (a 1)) (C := RX9) (T := TX9) (N := 2) hx hb hts in_X9 hown hK hP 0 rfl rfl 0 (by decide) kf_7 (fun _ h9 => h9) rfl dX9_line_53 ?_
          refine lv_bipush (v := 11) hx hb dX9_line_56 (by decide) ?_
          refine lv_iload_n hx hb dX9_line_58 rfl (lv_at hl 2 rfl) ?_
          refine x_ast hx hb hK hP hD hS 1 0 rfl rfl 11 rfl (by decide) (by decide) dX9_line_59 (fun H locs hP hD hS => ?_)
          obtain ⟨M_10, eM_10⟩ : ∃ z : ST, z = x_st M_9 1 11 p2 := ⟨_, rfl⟩
          have hP : va_P D vwCl ((w_Model cT a M_10)) H := by rw [eM_10]; exact hP
          have hD : va_D A ((w_Model cT a M_10)) := by rw [eM_10]; exact hD
          have hv := hv M_10 eM_10
          refine lv_aload_n hx hb dX9_line_60 rfl (lv_at hl 0 rfl) ?_
          refine va_get (D := D) (ci := 9) (v := .ref (a 1)) (C := RX9) (T := TX9) (N := 2) hx hb hts in_X9 hown hK hP 0 rfl rfl 0 (by decide) kf_7 (fun _ h9 => h9) rfl dX9_line_61 ?_
          refine lv_bipush (v := 12) hx hb dX9_line_64 (by decide) ?_
          refine lv_iload_n hx hb dX9_line_66 rfl (lv_at hl 3 rfl) ?_
          refine x_ast hx hb hK hP hD hS 1 0 rfl rfl 12 rfl (by decide) (by decide) dX9_line_67 (fun H locs hP hD hS => ?_)
          obtain ⟨M_11, eM_11⟩ : ∃ z : ST, z = x_st M_10 1 12 p3 := ⟨_, rfl⟩
          have hP : va_P D vwCl ((w_Model cT a M_11)) H := by rw [eM_11]; exact hP
          have hD : va_D A ((w_Model cT a M_11)) := by rw [eM_11]; exact hD
          have hv := hv M_11 eM_11
          refine lv_aload_n hx hb dX9_line_68 rfl (lv_at hl 0 rfl) ?_
          refine va_get (D := D) (ci := 9) (v := .ref (a 1)) (C := RX9) (T := TX9) (N := 2) hx hb hts in_X9 hown hK hP 0 rfl rfl 0 (by decide) kf_7 (fun _ h9 => h9) rfl dX9_line_69 ?_
          refine lv_bipush (v := 13) hx hb dX9_line_72 (by decide) ?_
          refine lv_iload hx hb dX9_line_74 (lv_at hl 4 rfl) ?_
          refine x_ast hx hb hK hP hD hS 1 0 rfl rfl 13 rfl (by decide) (by decide) dX9_line_76 (fun H locs hP hD hS => ?_)
          obtain ⟨M_12, eM_12⟩ : ∃ z : ST, z = x_st M_11 1 13 p4 := ⟨_, rfl⟩
          have hP : va_P D vwCl ((w_Model cT a M_12)) H := by rw [eM_12]; exact hP
          have hD : va_D A ((w_Model cT a M_12)) := by rw [eM_12]; exact hD
          have hv := hv M_12 eM_12
          refine lv_iconst (v := 1) hx hb dX9_line_77 (by decide) ?_
          exact W.zret (v := 1) hx hb hr rfl (fun t ht hW => ⟨⟨_, M_12, rfl, hv, by rw [ht]; exact hP, va_K.moved hW.alike hK, hD⟩, hS.F ht⟩) hS.2.2 dX9_line_78
        · have hv := hv.2 c_8
          refine lv_iconst (v := 0) hx hb dX9_line_42 (by decide) ?_
          exact W.zret (v := 0) hx hb hr rfl (fun t ht hW => ⟨⟨_, M, rfl, hv, by rw [ht]; exact hP, va_K.moved hW.alike hK, hD⟩, hS.F ht⟩) hS.2.2 dX9_line_43
def v_X9_field (M : ST) (p1 : Int32) (p2 : Int32) (p3 : Int32) (p4 : Int32) (p5 : Int32) (post : Int32 → ST → Prop) : Prop := v_X9_isIn p1 1 32 (fun r_1 => (((r_1 = 0) → post 0 M) ∧ ((¬ (r_1 = 0)) → v_X9_isIn p2 1 8 (fun r_3 => (((r_3 = 0) → post 0 M) ∧ ((¬ (r_3 = 0)) → v_X9_isIn p3 1 8 (fun r_5 => (((r_5 = 0) → post 0 M) ∧ ((¬ (r_5 = 0)) → v_X9_isIn p4 1 8 (fun r_7 => (((¬ (r_7 = 0)) → ∀ M_9 : ST, M_9 = x_st M 1 14 p1 → ∀ M_10 : ST, M_10 = x_st M_9 1 15 p2 → ∀ M_11 : ST, M_11 = x_st M_10 1 16 p3 → ∀ M_12 : ST, M_12 = x_st M_11 1 17 p4 → (((p5 = 0) → ∀ M_14 : ST, M_14 = x_st M_12 1 18 0 → post 1 M_14) ∧ ((¬ (p5 = 0)) → ∀ M_15 : ST, M_15 = x_st M_12 1 18 1 → post 1 M_15))) ∧ ((r_7 = 0) → post 0 M))))))))))))
set_option maxHeartbeats 4000000 in
set_option maxRecDepth 100000 in
theorem c_X9_field (l : Launch) (D : va_G) (cT : Nat → ClassId) (a : Nat → Nat) (M : ST) (p1 : Int32) (p2 : Int32) (p3 : Int32) (p4 : Int32) (p5 : Int32) (sz : Nat) (post : Int32 → ST → Prop) (hv : v_X9_field M p1 p2 p3 p4 p5 post) : Met l yX9_field wsX9_field ({ frames := 1, cells := 0, slots := 0, locals := 22 }) (va_Pc [.ref (a 0), .int p1, .int p2, .int p3, .int p4, .int p5] (x_U D cT ((w_Model cT a M)) sz)) (va_Qi post (fun u t => x_B D cT ((w_Model cT a u)) (va_A ((w_Model cT a M)) sz) t) (va_A ((w_Model cT a M)) sz)) 0 0 (va_A ((w_Model cT a M)) sz) := by
  refine Met.ofW (cc := cX9_field) (maxL := 6) (ret := (some .boolean)) (by decide) rfl ?_
  intro p e s m args below meth c s₁ B hml hpre
  obtain ⟨rfl, hsz, hP, hK, hD0, hN⟩ := hpre
  have hx := B.exec
  have hb := B.bytes
  have hr := B.returns
  have hts := atoms_spec (ws := wsX9_field) B.pre
  have hown : s.vm.findClass RX9 = some m.cls := findClass_of_methodNamed B.named
  have hlocks := B.notSynchronized
  subst hsz
  have hD := hD0.self (sz := s.heap.size)
  generalize hAe : va_A ((w_Model cT a M)) s.heap.size = A at hD hN ⊢
  have hA : ∀ q : Nat, s.heap.size ≤ q → A q := fun q h => by rw [← hAe]; exact Or.inr h
  have hS : va_S A s.heap s.heap [] := va_S.rf
  have hl := lv_entry ([.ref (a 0), .int p1, .int p2, .int p3, .int p4, .int p5]) (n := 6) (Nat.le_of_ble_eq_true rfl)
  rw [lg_entry_eq]
  generalize (lg_sl ([.ref (a 0), .int p1, .int p2, .int p3, .int p4, .int p5]) ++ List.replicate (6 - (lg_sl ([.ref (a 0), .int p1, .int p2, .int p3, .int p4, .int p5])).length) Slot.unset).toArray = ls at hl ⊢
  have hl : lv_has ls 6 [(0, .ref (a 0)), (1, .int p1), (2, .int p2), (3, .int p3), (4, .int p4), (5, .int p5)] := hl
  have in_X9 : ∀ w ∈ wsX90, w ∈ wsX9_field := by decide +kernel
  have w_17 : CallB (headSpec wsX9_field ({ frames := 1, cells := 0, slots := 0, locals := 22 })).room s ([.ref (a 0), .int p1, .int p2, .int p3, .int p4, .int p5] : List Value).toArray RX9 17 yX9_isIn cX9_isIn 3 (some .boolean) wsX9_isIn ({ frames := 0, cells := 0, slots := 0, locals := 0 } : Room) 0 0 3 ∧ (Cond.static yX9_isIn).before ([.ref (a 0), .int p1, .int p2, .int p3, .int p4, .int p5] : List Value).toArray s = true := va_cwS 3 hts gX9_field_X9_isIn rfl rfl rfl (by decide +kernel) ⟨Nat.le_of_ble_eq_true rfl, Nat.le_of_ble_eq_true rfl⟩
  have kf_7 : (Cond.fieldLink RX9 7 "PictureBeatsModel" "all" "[I").before ([.ref (a 0), .int p1, .int p2, .int p3, .int p4, .int p5] : List Value).toArray s = true := hts _ (by decide +kernel)
  refine lv_iload_n hx hb dX9_field_0 rfl (lv_at hl 1 rfl) ?_
  refine lv_iconst (v := 1) hx hb dX9_field_1 (by decide) ?_
  refine lv_bipush (v := 32) hx hb dX9_field_2 (by decide) ?_
  refine x_rS (As := [.int p1, .int 1, .int 32]) (rest := []) ⟨hx, hb, hml, hown, hts⟩ (c_X9_isIn l D cT p1 1 32 _ hv) w_17 hK hS hN rfl hl.1 rfl (Nat.le_of_ble_eq_true rfl) dX9_field_4 ⟨Nat.le_of_ble_eq_true rfl, Nat.le_of_ble_eq_true rfl⟩ (fun r_1 hv => ?_)
  refine lv_if_eq (tgt := 41) hx hb dX9_field_7 (by decide) (fun c_2 => ?_) (fun c_2 => ?_)
  · have hv := hv.1 c_2
    refine lv_iconst (v := 0) hx hb dX9_field_41 (by decide) ?_
    exact W.zret (v := 0) hx hb hr rfl (fun t ht hW => ⟨⟨_, M, rfl, hv, by rw [ht]; exact hP, va_K.moved hW.alike hK, hD⟩, hS.F ht⟩) hS.2.2 dX9_field_42
  · have hv := hv.2 c_2
    refine lv_iload_n hx hb dX9_field_10 rfl (lv_at hl 2 rfl) ?_
    refine lv_iconst (v := 1) hx hb dX9_field_11 (by decide) ?_
    refine lv_bipush (v := 8) hx hb dX9_field_12 (by decide) ?_
    refine x_rS (As := [.int p2, .int 1, .int 8]) (rest := []) ⟨hx, hb, hml, hown, hts⟩ (c_X9_isIn l D cT p2 1 8 _ hv) w_17 hK hS hN rfl hl.1 rfl (Nat.le_of_ble_eq_true rfl) dX9_field_14 ⟨Nat.le_of_ble_eq_true rfl, Nat.le_of_ble_eq_true rfl⟩ (fun r_3 hv => ?_)
    refine lv_if_eq (tgt := 41) hx hb dX9_field_17 (by decide) (fun c_4 => ?_) (fun c_4 => ?_)
    · have hv := hv.1 c_4
      refine lv_iconst (v := 0) hx hb dX9_field_41 (by decide) ?_
      exact W.zret (v := 0) hx hb hr rfl (fun t ht hW => ⟨⟨_, M, rfl, hv, by rw [ht]; exact hP, va_K.moved hW.alike hK, hD⟩, hS.F ht⟩) hS.2.2 dX9_field_42
    · have hv := hv.2 c_4
      refine lv_iload_n hx hb dX9_field_20 rfl (lv_at hl 3 rfl) ?_
      refine lv_iconst (v := 1) hx hb dX9_field_21 (by decide) ?_
      refine lv_bipush (v := 8) hx hb dX9_field_22 (by decide) ?_
      refine x_rS (As := [.int p3, .int 1, .int 8]) (rest := []) ⟨hx, hb, hml, hown, hts⟩ (c_X9_isIn l D cT p3 1 8 _ hv) w_17 hK hS hN rfl hl.1 rfl (Nat.le_of_ble_eq_true rfl) dX9_field_24 ⟨Nat.le_of_ble_eq_true rfl, Nat.le_of_ble_eq_true rfl⟩ (fun r_5 hv => ?_)
      refine lv_if_eq (tgt := 41) hx hb dX9_field_27 (by decide) (fun c_6 => ?_) (fun c_6 => ?_)
      · have hv := hv.1 c_6
        refine lv_iconst (v := 0) hx hb dX9_field_41 (by decide) ?_
        exact W.zret (v := 0) hx hb hr rfl (fun t ht hW => ⟨⟨_, M, rfl, hv, by rw [ht]; exact hP, va_K.moved hW.alike hK, hD⟩, hS.F ht⟩) hS.2.2 dX9_field_42
      · have hv := hv.2 c_6
        refine lv_iload hx hb dX9_field_30 (lv_at hl 4 rfl) ?_
        refine lv_iconst (v := 1) hx hb dX9_field_32 (by decide) ?_
        refine lv_bipush (v := 8) hx hb dX9_field_33 (by decide) ?_
        refine x_rS (As := [.int p4, .int 1, .int 8]) (rest := []) ⟨hx, hb, hml, hown, hts⟩ (c_X9_isIn l D cT p4 1 8 _ hv) w_17 hK hS hN rfl hl.1 rfl (Nat.le_of_ble_eq_true rfl) dX9_field_35 ⟨Nat.le_of_ble_eq_true rfl, Nat.le_of_ble_eq_true rfl⟩ (fun r_7 hv => ?_)
        refine lv_if_ne (tgt := 43) hx hb dX9_field_38 (by decide) (fun c_8 => ?_) (fun c_8 => ?_)
        · have hv := hv.1 c_8
          refine lv_aload_n hx hb dX9_field_43 rfl (lv_at hl 0 rfl) ?_
          refine va_get (D := D) (ci := 9) (v := .ref (a 1)) (C := RX9) (T := TX9) (N := 2) hx hb hts in_X9 hown hK hP 0 rfl rfl 0 (by decide) kf_7 (fun _ h9 => h9) rfl dX9_field_44 ?_
          refine lv_bipush (v := 14) hx hb dX9_field_47 (by decide) ?_
          refine lv_iload_n hx hb dX9_field_49 rfl (lv_at hl 1 rfl) ?_
          refine x_ast hx hb hK hP hD hS 1 0 rfl rfl 14 rfl (by decide) (by decide) dX9_field_50 (fun H locs hP hD hS => ?_)
          obtain ⟨M_9, eM_9⟩ : ∃ z : ST, z = x_st M 1 14 p1 := ⟨_, rfl⟩
          have hP : va_P D vwCl ((w_Model cT a M_9)) H := by rw [eM_9]; exact hP
          have hD : va_D A ((w_Model cT a M_9)) := by rw [eM_9]; exact hD
          have hv := hv M_9 eM_9
          refine lv_aload_n hx hb dX9_field_51 rfl (lv_at hl 0 rfl) ?_
          refine va_get (D := D) (ci := 9) (v := .ref (a 1)) (C := RX9) (T := TX9) (N := 2) hx hb hts in_X9 hown hK hP 0 rfl rfl 0 (by decide) kf_7 (fun _ h9 => h9) rfl dX9_field_52 ?_
          refine lv_bipush (v := 15) hx hb dX9_field_55 (by decide) ?_
          refine lv_iload_n hx hb dX9_field_57 rfl (lv_at hl 2 rfl) ?_
          refine x_ast hx hb hK hP hD hS 1 0 rfl rfl 15 rfl (by decide) (by decide) dX9_field_58 (fun H locs hP hD hS => ?_)
          obtain ⟨M_10, eM_10⟩ : ∃ z : ST, z = x_st M_9 1 15 p2 := ⟨_, rfl⟩
          have hP : va_P D vwCl ((w_Model cT a M_10)) H := by rw [eM_10]; exact hP
          have hD : va_D A ((w_Model cT a M_10)) := by rw [eM_10]; exact hD
          have hv := hv M_10 eM_10
          refine lv_aload_n hx hb dX9_field_59 rfl (lv_at hl 0 rfl) ?_
          refine va_get (D := D) (ci := 9) (v := .ref (a 1)) (C := RX9) (T := TX9) (N := 2) hx hb hts in_X9 hown hK hP 0 rfl rfl 0 (by decide) kf_7 (fun _ h9 => h9) rfl dX9_field_60 ?_
          refine lv_bipush (v := 16) hx hb dX9_field_63 (by decide) ?_
          refine lv_iload_n hx hb dX9_field_65 rfl (lv_at hl 3 rfl) ?_
          refine x_ast hx hb hK hP hD hS 1 0 rfl rfl 16 rfl (by decide) (by decide) dX9_field_66 (fun H locs hP hD hS => ?_)
          obtain ⟨M_11, eM_11⟩ : ∃ z : ST, z = x_st M_10 1 16 p3 := ⟨_, rfl⟩
          have hP : va_P D vwCl ((w_Model cT a M_11)) H := by rw [eM_11]; exact hP
          have hD : va_D A ((w_Model cT a M_11)) := by rw [eM_11]; exact hD
          have hv := hv M_11 eM_11
          refine lv_aload_n hx hb dX9_field_67 rfl (lv_at hl 0 rfl) ?_
          refine va_get (D := D) (ci := 9) (v := .ref (a 1)) (C := RX9) (T := TX9) (N := 2) hx hb hts in_X9 hown hK hP 0 rfl rfl 0 (by decide) kf_7 (fun _ h9 => h9) rfl dX9_field_68 ?_
          refine lv_bipush (v := 17) hx hb dX9_field_71 (by decide) ?_
          refine lv_iload hx hb dX9_field_73 (lv_at hl 4 rfl) ?_
          refine x_ast hx hb hK hP hD hS 1 0 rfl rfl 17 rfl (by decide) (by decide) dX9_field_75 (fun H locs hP hD hS => ?_)
          obtain ⟨M_12, eM_12⟩ : ∃ z : ST, z = x_st M_11 1 17 p4 := ⟨_, rfl⟩
          have hP : va_P D vwCl ((w_Model cT a M_12)) H := by rw [eM_12]; exact hP
          have hD : va_D A ((w_Model cT a M_12)) := by rw [eM_12]; exact hD
          have hv := hv M_12 eM_12
          refine lv_aload_n hx hb dX9_field_76 rfl (lv_at hl 0 rfl) ?_
          refine va_get (D := D) (ci := 9) (v := .ref (a 1)) (C := RX9) (T := TX9) (N := 2) hx hb hts in_X9 hown hK hP 0 rfl rfl 0 (by decide) kf_7 (fun _ h9 => h9) rfl dX9_field_77 ?_
          refine lv_bipush (v := 18) hx hb dX9_field_80 (by decide) ?_
          refine lv_iload hx hb dX9_field_82 (lv_at hl 5 rfl) ?_
          refine lv_if_eq (tgt := 91) hx hb dX9_field_84 (by decide) (fun c_13 => ?_) (fun c_13 => ?_)
          · have hv := hv.1 c_13
            refine lv_iconst (v := 0) hx hb dX9_field_91 (by decide) ?_
            refine x_ast hx hb hK hP hD hS 1 0 rfl rfl 18 rfl (by decide) (by decide) dX9_field_92 (fun H locs hP hD hS => ?_)
            obtain ⟨M_14, eM_14⟩ : ∃ z : ST, z = x_st M_12 1 18 0 := ⟨_, rfl⟩
            have hP : va_P D vwCl ((w_Model cT a M_14)) H := by rw [eM_14]; exact hP
            have hD : va_D A ((w_Model cT a M_14)) := by rw [eM_14]; exact hD
            have hv := hv M_14 eM_14
            refine lv_iconst (v := 1) hx hb dX9_field_93 (by decide) ?_
            exact W.zret (v := 1) hx hb hr rfl (fun t ht hW => ⟨⟨_, M_14, rfl, hv, by rw [ht]; exact hP, va_K.moved hW.alike hK, hD⟩, hS.F ht⟩) hS.2.2 dX9_field_94
          · have hv := hv.2 c_13
            refine lv_iconst (v := 1) hx hb dX9_field_87 (by decide) ?_
            refine lv_goto (tgt := 92) hx hb dX9_field_88 (by decide) ?_
            refine x_ast hx hb hK hP hD hS 1 0 rfl rfl 18 rfl (by decide) (by decide) dX9_field_92 (fun H locs hP hD hS => ?_)
            obtain ⟨M_15, eM_15⟩ : ∃ z : ST, z = x_st M_12 1 18 1 := ⟨_, rfl⟩
            have hP : va_P D vwCl ((w_Model cT a M_15)) H := by rw [eM_15]; exact hP
            have hD : va_D A ((w_Model cT a M_15)) := by rw [eM_15]; exact hD
            have hv := hv M_15 eM_15
            refine lv_iconst (v := 1) hx hb dX9_field_93 (by decide) ?_
            exact W.zret (v := 1) hx hb hr rfl (fun t ht hW => ⟨⟨_, M_15, rfl, hv, by rw [ht]; exact hP, va_K.moved hW.alike hK, hD⟩, hS.F ht⟩) hS.2.2 dX9_field_94
        · have hv := hv.2 c_8
          refine lv_iconst (v := 0) hx hb dX9_field_41 (by decide) ?_
          exact W.zret (v := 0) hx hb hr rfl (fun t ht hW => ⟨⟨_, M, rfl, hv, by rw [ht]; exact hP, va_K.moved hW.alike hK, hD⟩, hS.F ht⟩) hS.2.2 dX9_field_42
def v_X9_ticksOf (M : ST) (p1 : Int32) (post : Int32 → Prop) : Prop := ∃ k_1 : Nat, k_1 < 23520 ∧ p1 = nI k_1 ∧ ∃ k_2 : Nat, k_2 < 23520 ∧ (p1 + 1) = nI k_2 ∧ ∃ k_3 : Nat, k_3 < 23520 ∧ (p1 + 2) = nI k_3 ∧ ∃ k_4 : Nat, k_4 < 23520 ∧ (p1 + 3) = nI k_4 ∧ post ((((M 1 k_1) + (M 1 k_2)) + (M 1 k_3)) + (M 1 k_4))
set_option maxHeartbeats 4000000 in
set_option maxRecDepth 100000 in
theorem c_X9_ticksOf (l : Launch) (D : va_G) (cT : Nat → ClassId) (a : Nat → Nat) (M : ST) (p1 : Int32) (post : Int32 → Prop) (hv : v_X9_ticksOf M p1 post) : Met l yX9_ticksOf wsX9_ticksOf ({ frames := 0, cells := 0, slots := 0, locals := 0 }) (va_Pc [.ref (a 0), .int p1] (x_R D cT ((w_Model cT a M)))) (vp_Si post) 0 0 (fun _ => False) := by
  refine Met.ofW (cc := cX9_ticksOf) (maxL := 2) (ret := (some .int)) (by decide) rfl ?_
  intro p e s m args below meth c s₁ B hml hpre
  obtain ⟨rfl, hP, hK, hN⟩ := hpre
  have hx := B.exec
  have hb := B.bytes
  have hr := B.returns
  have hts := atoms_spec (ws := wsX9_ticksOf) B.pre
  have hown : s.vm.findClass RX9 = some m.cls := findClass_of_methodNamed B.named
  have hlocks := B.notSynchronized
  have hS : va_S (fun _ : Nat => False) s.heap s.heap [] := va_S.rf
  have hl := lv_entry ([.ref (a 0), .int p1]) (n := 2) (Nat.le_of_ble_eq_true rfl)
  rw [lg_entry_eq]
  generalize (lg_sl ([.ref (a 0), .int p1]) ++ List.replicate (2 - (lg_sl ([.ref (a 0), .int p1])).length) Slot.unset).toArray = ls at hl ⊢
  have hl : lv_has ls 2 [(0, .ref (a 0)), (1, .int p1)] := hl
  have in_X9 : ∀ w ∈ wsX90, w ∈ wsX9_ticksOf := by decide +kernel
  have kf_7 : (Cond.fieldLink RX9 7 "PictureBeatsModel" "all" "[I").before ([.ref (a 0), .int p1] : List Value).toArray s = true := hts _ (by decide +kernel)
  refine lv_aload_n hx hb dX9_ticksOf_0 rfl (lv_at hl 0 rfl) ?_
  refine va_get (D := D) (ci := 9) (v := .ref (a 1)) (C := RX9) (T := TX9) (N := 2) hx hb hts in_X9 hown hK hP 0 rfl rfl 0 (by decide) kf_7 (fun _ h9 => h9) rfl dX9_ticksOf_1 ?_
  refine lv_iload_n hx hb dX9_ticksOf_4 rfl (lv_at hl 1 rfl) ?_
  obtain ⟨k_1, hk_1, ik_1, hv⟩ := hv
  refine x_ald hx hb hK hP 1 0 rfl rfl k_1 ik_1 hk_1 (by decide) dX9_ticksOf_5 ?_
  refine lv_aload_n hx hb dX9_ticksOf_6 rfl (lv_at hl 0 rfl) ?_
  refine va_get (D := D) (ci := 9) (v := .ref (a 1)) (C := RX9) (T := TX9) (N := 2) hx hb hts in_X9 hown hK hP 0 rfl rfl 0 (by decide) kf_7 (fun _ h9 => h9) rfl dX9_ticksOf_7 ?_
  refine lv_iload_n hx hb dX9_ticksOf_10 rfl (lv_at hl 1 rfl) ?_
  refine lv_iconst (v := 1) hx hb dX9_ticksOf_11 (by decide) ?_
  refine lv_iadd hx hb dX9_ticksOf_12 ?_
  obtain ⟨k_2, hk_2, ik_2, hv⟩ := hv
  refine x_ald hx hb hK hP 1 0 rfl rfl k_2 ik_2 hk_2 (by decide) dX9_ticksOf_13 ?_
  refine lv_iadd hx hb dX9_ticksOf_14 ?_
  refine lv_aload_n hx hb dX9_ticksOf_15 rfl (lv_at hl 0 rfl) ?_
  refine va_get (D := D) (ci := 9) (v := .ref (a 1)) (C := RX9) (T := TX9) (N := 2) hx hb hts in_X9 hown hK hP 0 rfl rfl 0 (by decide) kf_7 (fun _ h9 => h9) rfl dX9_ticksOf_16 ?_
  refine lv_iload_n hx hb dX9_ticksOf_19 rfl (lv_at hl 1 rfl) ?_
  refine lv_iconst (v := 2) hx hb dX9_ticksOf_20 (by decide) ?_
  refine lv_iadd hx hb dX9_ticksOf_21 ?_
  obtain ⟨k_3, hk_3, ik_3, hv⟩ := hv
  refine x_ald hx hb hK hP 1 0 rfl rfl k_3 ik_3 hk_3 (by decide) dX9_ticksOf_22 ?_
  refine lv_iadd hx hb dX9_ticksOf_23 ?_
  refine lv_aload_n hx hb dX9_ticksOf_24 rfl (lv_at hl 0 rfl) ?_
  refine va_get (D := D) (ci := 9) (v := .ref (a 1)) (C := RX9) (T := TX9) (N := 2) hx hb hts in_X9 hown hK hP 0 rfl rfl 0 (by decide) kf_7 (fun _ h9 => h9) rfl dX9_ticksOf_25 ?_
  refine lv_iload_n hx hb dX9_ticksOf_28 rfl (lv_at hl 1 rfl) ?_
  refine lv_iconst (v := 3) hx hb dX9_ticksOf_29 (by decide) ?_
  refine lv_iadd hx hb dX9_ticksOf_30 ?_
  obtain ⟨k_4, hk_4, ik_4, hv⟩ := hv
  refine x_ald hx hb hK hP 1 0 rfl rfl k_4 ik_4 hk_4 (by decide) dX9_ticksOf_31 ?_
  refine lv_iadd hx hb dX9_ticksOf_32 ?_
  exact W.iret (v := ((((M 1 k_1) + (M 1 k_2)) + (M 1 k_3)) + (M 1 k_4))) hx hb hr (fun t ht hW => ⟨_, rfl, hv, ht⟩) (fun q h => absurd h List.not_mem_nil) dX9_ticksOf_33
def v_X9_linesOf (M : ST) (p1 : Int32) (post : Int32 → Prop) : Prop := ∃ k_1 : Nat, k_1 < 23520 ∧ (p1 + 4) = nI k_1 ∧ ∃ k_2 : Nat, k_2 < 23520 ∧ (p1 + 5) = nI k_2 ∧ ∃ k_3 : Nat, k_3 < 23520 ∧ (p1 + 6) = nI k_3 ∧ ∃ k_4 : Nat, k_4 < 23520 ∧ (p1 + 7) = nI k_4 ∧ post ((((M 1 k_1) + (M 1 k_2)) + (M 1 k_3)) + (M 1 k_4))
set_option maxHeartbeats 4000000 in
set_option maxRecDepth 100000 in
theorem c_X9_linesOf (l : Launch) (D : va_G) (cT : Nat → ClassId) (a : Nat → Nat) (M : ST) (p1 : Int32) (post : Int32 → Prop) (hv : v_X9_linesOf M p1 post) : Met l yX9_linesOf wsX9_linesOf ({ frames := 0, cells := 0, slots := 0, locals := 0 }) (va_Pc [.ref (a 0), .int p1] (x_R D cT ((w_Model cT a M)))) (vp_Si post) 0 0 (fun _ => False) := by
  refine Met.ofW (cc := cX9_linesOf) (maxL := 2) (ret := (some .int)) (by decide) rfl ?_
  intro p e s m args below meth c s₁ B hml hpre
  obtain ⟨rfl, hP, hK, hN⟩ := hpre
  have hx := B.exec
  have hb := B.bytes
  have hr := B.returns
  have hts := atoms_spec (ws := wsX9_linesOf) B.pre
  have hown : s.vm.findClass RX9 = some m.cls := findClass_of_methodNamed B.named
  have hlocks := B.notSynchronized
  have hS : va_S (fun _ : Nat => False) s.heap s.heap [] := va_S.rf
  have hl := lv_entry ([.ref (a 0), .int p1]) (n := 2) (Nat.le_of_ble_eq_true rfl)
  rw [lg_entry_eq]
  generalize (lg_sl ([.ref (a 0), .int p1]) ++ List.replicate (2 - (lg_sl ([.ref (a 0), .int p1])).length) Slot.unset).toArray = ls at hl ⊢
  have hl : lv_has ls 2 [(0, .ref (a 0)), (1, .int p1)] := hl
  have in_X9 : ∀ w ∈ wsX90, w ∈ wsX9_linesOf := by decide +kernel
  have kf_7 : (Cond.fieldLink RX9 7 "PictureBeatsModel" "all" "[I").before ([.ref (a 0), .int p1] : List Value).toArray s = true := hts _ (by decide +kernel)
  refine lv_aload_n hx hb dX9_linesOf_0 rfl (lv_at hl 0 rfl) ?_
  refine va_get (D := D) (ci := 9) (v := .ref (a 1)) (C := RX9) (T := TX9) (N := 2) hx hb hts in_X9 hown hK hP 0 rfl rfl 0 (by decide) kf_7 (fun _ h9 => h9) rfl dX9_linesOf_1 ?_
  refine lv_iload_n hx hb dX9_linesOf_4 rfl (lv_at hl 1 rfl) ?_
  refine lv_iconst (v := 4) hx hb dX9_linesOf_5 (by decide) ?_
  refine lv_iadd hx hb dX9_linesOf_6 ?_
  obtain ⟨k_1, hk_1, ik_1, hv⟩ := hv
  refine x_ald hx hb hK hP 1 0 rfl rfl k_1 ik_1 hk_1 (by decide) dX9_linesOf_7 ?_
  refine lv_aload_n hx hb dX9_linesOf_8 rfl (lv_at hl 0 rfl) ?_
  refine va_get (D := D) (ci := 9) (v := .ref (a 1)) (C := RX9) (T := TX9) (N := 2) hx hb hts in_X9 hown hK hP 0 rfl rfl 0 (by decide) kf_7 (fun _ h9 => h9) rfl dX9_linesOf_9 ?_
  refine lv_iload_n hx hb dX9_linesOf_12 rfl (lv_at hl 1 rfl) ?_
  refine lv_iconst (v := 5) hx hb dX9_linesOf_13 (by decide) ?_
  refine lv_iadd hx hb dX9_linesOf_14 ?_
  obtain ⟨k_2, hk_2, ik_2, hv⟩ := hv
  refine x_ald hx hb hK hP 1 0 rfl rfl k_2 ik_2 hk_2 (by decide) dX9_linesOf_15 ?_
  refine lv_iadd hx hb dX9_linesOf_16 ?_
  refine lv_aload_n hx hb dX9_linesOf_17 rfl (lv_at hl 0 rfl) ?_
  refine va_get (D := D) (ci := 9) (v := .ref (a 1)) (C := RX9) (T := TX9) (N := 2) hx hb hts in_X9 hown hK hP 0 rfl rfl 0 (by decide) kf_7 (fun _ h9 => h9) rfl dX9_linesOf_18 ?_
  refine lv_iload_n hx hb dX9_linesOf_21 rfl (lv_at hl 1 rfl) ?_
  refine lv_bipush (v := 6) hx hb dX9_linesOf_22 (by decide) ?_
  refine lv_iadd hx hb dX9_linesOf_24 ?_
  obtain ⟨k_3, hk_3, ik_3, hv⟩ := hv
  refine x_ald hx hb hK hP 1 0 rfl rfl k_3 ik_3 hk_3 (by decide) dX9_linesOf_25 ?_
  refine lv_iadd hx hb dX9_linesOf_26 ?_
  refine lv_aload_n hx hb dX9_linesOf_27 rfl (lv_at hl 0 rfl) ?_
  refine va_get (D := D) (ci := 9) (v := .ref (a 1)) (C := RX9) (T := TX9) (N := 2) hx hb hts in_X9 hown hK hP 0 rfl rfl 0 (by decide) kf_7 (fun _ h9 => h9) rfl dX9_linesOf_28 ?_
  refine lv_iload_n hx hb dX9_linesOf_31 rfl (lv_at hl 1 rfl) ?_
  refine lv_bipush (v := 7) hx hb dX9_linesOf_32 (by decide) ?_
  refine lv_iadd hx hb dX9_linesOf_34 ?_
  obtain ⟨k_4, hk_4, ik_4, hv⟩ := hv
  refine x_ald hx hb hK hP 1 0 rfl rfl k_4 ik_4 hk_4 (by decide) dX9_linesOf_35 ?_
  refine lv_iadd hx hb dX9_linesOf_36 ?_
  exact W.iret (v := ((((M 1 k_1) + (M 1 k_2)) + (M 1 k_3)) + (M 1 k_4))) hx hb hr (fun t ht hW => ⟨_, rfl, hv, ht⟩) (fun q h => absurd h List.not_mem_nil) dX9_linesOf_37
def v_X9_nextField (M : ST) (post : Int32 → Prop) : Prop := (((¬ ((M 1 8) = 1)) → post 0) ∧ (((M 1 8) = 1) → (((¬ ((M 1 5878) = 1)) → post 0) ∧ (((M 1 5878) = 1) → post (1 - (M 1 22))))))
set_option maxHeartbeats 4000000 in
set_option maxRecDepth 100000 in
theorem c_X9_nextField (l : Launch) (D : va_G) (cT : Nat → ClassId) (a : Nat → Nat) (M : ST) (post : Int32 → Prop) (hv : v_X9_nextField M post) : Met l yX9_nextField wsX9_nextField ({ frames := 0, cells := 0, slots := 0, locals := 0 }) (va_Pc [.ref (a 0)] (x_R D cT ((w_Model cT a M)))) (vp_Si post) 0 0 (fun _ => False) := by
  refine Met.ofW (cc := cX9_nextField) (maxL := 1) (ret := (some .int)) (by decide) rfl ?_
  intro p e s m args below meth c s₁ B hml hpre
  obtain ⟨rfl, hP, hK, hN⟩ := hpre
  have hx := B.exec
  have hb := B.bytes
  have hr := B.returns
  have hts := atoms_spec (ws := wsX9_nextField) B.pre
  have hown : s.vm.findClass RX9 = some m.cls := findClass_of_methodNamed B.named
  have hlocks := B.notSynchronized
  have hS : va_S (fun _ : Nat => False) s.heap s.heap [] := va_S.rf
  have hl := lv_entry ([.ref (a 0)]) (n := 1) (Nat.le_of_ble_eq_true rfl)
  rw [lg_entry_eq]
  generalize (lg_sl ([.ref (a 0)]) ++ List.replicate (1 - (lg_sl ([.ref (a 0)])).length) Slot.unset).toArray = ls at hl ⊢
  have hl : lv_has ls 1 [(0, .ref (a 0))] := hl
  have in_X9 : ∀ w ∈ wsX90, w ∈ wsX9_nextField := by decide +kernel
  have kf_7 : (Cond.fieldLink RX9 7 "PictureBeatsModel" "all" "[I").before ([.ref (a 0)] : List Value).toArray s = true := hts _ (by decide +kernel)
  refine lv_aload_n hx hb dX9_nextField_0 rfl (lv_at hl 0 rfl) ?_
  refine va_get (D := D) (ci := 9) (v := .ref (a 1)) (C := RX9) (T := TX9) (N := 2) hx hb hts in_X9 hown hK hP 0 rfl rfl 0 (by decide) kf_7 (fun _ h9 => h9) rfl dX9_nextField_1 ?_
  refine lv_bipush (v := 8) hx hb dX9_nextField_4 (by decide) ?_
  refine x_ald hx hb hK hP 1 0 rfl rfl 8 rfl (by decide) (by decide) dX9_nextField_6 ?_
  refine lv_iconst (v := 1) hx hb dX9_nextField_7 (by decide) ?_
  refine lv_icmp_ne (tgt := 35) hx hb dX9_nextField_8 (by decide) (fun c_1 => ?_) (fun c_1 => ?_)
  · have hv := hv.1 c_1
    refine lv_iconst (v := 0) hx hb dX9_nextField_35 (by decide) ?_
    exact W.iret (v := 0) hx hb hr (fun t ht hW => ⟨_, rfl, hv, ht⟩) (fun q h => absurd h List.not_mem_nil) dX9_nextField_36
  · have hv := hv.2 c_1
    refine lv_aload_n hx hb dX9_nextField_11 rfl (lv_at hl 0 rfl) ?_
    refine va_get (D := D) (ci := 9) (v := .ref (a 1)) (C := RX9) (T := TX9) (N := 2) hx hb hts in_X9 hown hK hP 0 rfl rfl 0 (by decide) kf_7 (fun _ h9 => h9) rfl dX9_nextField_12 ?_
    refine lv_sipush (v := 5878) hx hb dX9_nextField_15 (by decide) ?_
    refine x_ald hx hb hK hP 1 0 rfl rfl 5878 rfl (by decide) (by decide) dX9_nextField_18 ?_
    refine lv_iconst (v := 1) hx hb dX9_nextField_19 (by decide) ?_
    refine lv_icmp_ne (tgt := 35) hx hb dX9_nextField_20 (by decide) (fun c_2 => ?_) (fun c_2 => ?_)
    · have hv := hv.1 c_2
      refine lv_iconst (v := 0) hx hb dX9_nextField_35 (by decide) ?_
      exact W.iret (v := 0) hx hb hr (fun t ht hW => ⟨_, rfl, hv, ht⟩) (fun q h => absurd h List.not_mem_nil) dX9_nextField_36
    · have hv := hv.2 c_2
      refine lv_iconst (v := 1) hx hb dX9_nextField_23 (by decide) ?_
      refine lv_aload_n hx hb dX9_nextField_24 rfl (lv_at hl 0 rfl) ?_
      refine va_get (D := D) (ci := 9) (v := .ref (a 1)) (C := RX9) (T := TX9) (N := 2) hx hb hts in_X9 hown hK hP 0 rfl rfl 0 (by decide) kf_7 (fun _ h9 => h9) rfl dX9_nextField_25 ?_
      refine lv_bipush (v := 22) hx hb dX9_nextField_28 (by decide) ?_
      refine x_ald hx hb hK hP 1 0 rfl rfl 22 rfl (by decide) (by decide) dX9_nextField_30 ?_
      refine lv_isub hx hb dX9_nextField_31 ?_
      refine lv_goto (tgt := 36) hx hb dX9_nextField_32 (by decide) ?_
      exact W.iret (v := (1 - (M 1 22))) hx hb hr (fun t ht hW => ⟨_, rfl, hv, ht⟩) (fun q h => absurd h List.not_mem_nil) dX9_nextField_36
def v_X9_put (M : ST) (p1 : Int32) (p2 : Int32) (post : Int32 → ST → Prop) : Prop := v_X9_isIn p1 0 1023 (fun r_1 => (((¬ (r_1 = 0)) → ∃ k_3 : Nat, k_3 < 23520 ∧ (740 + p1) = nI k_3 ∧ ∀ M_4 : ST, M_4 = x_st M 1 k_3 (p2 &&& 255) → post 1 M_4) ∧ ((r_1 = 0) → post 0 M)))
set_option maxHeartbeats 4000000 in
set_option maxRecDepth 100000 in
theorem c_X9_put (l : Launch) (D : va_G) (cT : Nat → ClassId) (a : Nat → Nat) (M : ST) (p1 : Int32) (p2 : Int32) (sz : Nat) (post : Int32 → ST → Prop) (hv : v_X9_put M p1 p2 post) : Met l yX9_put wsX9_put ({ frames := 1, cells := 0, slots := 0, locals := 22 }) (va_Pc [.ref (a 0), .int p1, .int p2] (x_U D cT ((w_Model cT a M)) sz)) (va_Qi post (fun u t => x_B D cT ((w_Model cT a u)) (va_A ((w_Model cT a M)) sz) t) (va_A ((w_Model cT a M)) sz)) 0 0 (va_A ((w_Model cT a M)) sz) := by
  refine Met.ofW (cc := cX9_put) (maxL := 3) (ret := (some .boolean)) (by decide) rfl ?_
  intro p e s m args below meth c s₁ B hml hpre
  obtain ⟨rfl, hsz, hP, hK, hD0, hN⟩ := hpre
  have hx := B.exec
  have hb := B.bytes
  have hr := B.returns
  have hts := atoms_spec (ws := wsX9_put) B.pre
  have hown : s.vm.findClass RX9 = some m.cls := findClass_of_methodNamed B.named
  have hlocks := B.notSynchronized
  subst hsz
  have hD := hD0.self (sz := s.heap.size)
  generalize hAe : va_A ((w_Model cT a M)) s.heap.size = A at hD hN ⊢
  have hA : ∀ q : Nat, s.heap.size ≤ q → A q := fun q h => by rw [← hAe]; exact Or.inr h
  have hS : va_S A s.heap s.heap [] := va_S.rf
  have hl := lv_entry ([.ref (a 0), .int p1, .int p2]) (n := 3) (Nat.le_of_ble_eq_true rfl)
  rw [lg_entry_eq]
  generalize (lg_sl ([.ref (a 0), .int p1, .int p2]) ++ List.replicate (3 - (lg_sl ([.ref (a 0), .int p1, .int p2])).length) Slot.unset).toArray = ls at hl ⊢
  have hl : lv_has ls 3 [(0, .ref (a 0)), (1, .int p1), (2, .int p2)] := hl
  have in_X9 : ∀ w ∈ wsX90, w ∈ wsX9_put := by decide +kernel
  have w_17 : CallB (headSpec wsX9_put ({ frames := 1, cells := 0, slots := 0, locals := 22 })).room s ([.ref (a 0), .int p1, .int p2] : List Value).toArray RX9 17 yX9_isIn cX9_isIn 3 (some .boolean) wsX9_isIn ({ frames := 0, cells := 0, slots := 0, locals := 0 } : Room) 0 0 3 ∧ (Cond.static yX9_isIn).before ([.ref (a 0), .int p1, .int p2] : List Value).toArray s = true := va_cwS 3 hts gX9_put_X9_isIn rfl rfl rfl (by decide +kernel) ⟨Nat.le_of_ble_eq_true rfl, Nat.le_of_ble_eq_true rfl⟩
  have kf_7 : (Cond.fieldLink RX9 7 "PictureBeatsModel" "all" "[I").before ([.ref (a 0), .int p1, .int p2] : List Value).toArray s = true := hts _ (by decide +kernel)
  refine lv_iload_n hx hb dX9_put_0 rfl (lv_at hl 1 rfl) ?_
  refine lv_iconst (v := 0) hx hb dX9_put_1 (by decide) ?_
  refine lv_sipush (v := 1023) hx hb dX9_put_2 (by decide) ?_
  refine x_rS (As := [.int p1, .int 0, .int 1023]) (rest := []) ⟨hx, hb, hml, hown, hts⟩ (c_X9_isIn l D cT p1 0 1023 _ hv) w_17 hK hS hN rfl hl.1 rfl (Nat.le_of_ble_eq_true rfl) dX9_put_5 ⟨Nat.le_of_ble_eq_true rfl, Nat.le_of_ble_eq_true rfl⟩ (fun r_1 hv => ?_)
  refine lv_if_ne (tgt := 13) hx hb dX9_put_8 (by decide) (fun c_2 => ?_) (fun c_2 => ?_)
  · have hv := hv.1 c_2
    refine lv_aload_n hx hb dX9_put_13 rfl (lv_at hl 0 rfl) ?_
    refine va_get (D := D) (ci := 9) (v := .ref (a 1)) (C := RX9) (T := TX9) (N := 2) hx hb hts in_X9 hown hK hP 0 rfl rfl 0 (by decide) kf_7 (fun _ h9 => h9) rfl dX9_put_14 ?_
    refine lv_sipush (v := 740) hx hb dX9_put_17 (by decide) ?_
    refine lv_iload_n hx hb dX9_put_20 rfl (lv_at hl 1 rfl) ?_
    refine lv_iadd hx hb dX9_put_21 ?_
    refine lv_iload_n hx hb dX9_put_22 rfl (lv_at hl 2 rfl) ?_
    refine lv_sipush (v := 255) hx hb dX9_put_23 (by decide) ?_
    refine lv_iand hx hb dX9_put_26 ?_
    obtain ⟨k_3, hk_3, ik_3, hv⟩ := hv
    refine x_ast hx hb hK hP hD hS 1 0 rfl rfl k_3 ik_3 hk_3 (by decide) dX9_put_27 (fun H locs hP hD hS => ?_)
    obtain ⟨M_4, eM_4⟩ : ∃ z : ST, z = x_st M 1 k_3 (p2 &&& 255) := ⟨_, rfl⟩
    have hP : va_P D vwCl ((w_Model cT a M_4)) H := by rw [eM_4]; exact hP
    have hD : va_D A ((w_Model cT a M_4)) := by rw [eM_4]; exact hD
    have hv := hv M_4 eM_4
    refine lv_iconst (v := 1) hx hb dX9_put_28 (by decide) ?_
    exact W.zret (v := 1) hx hb hr rfl (fun t ht hW => ⟨⟨_, M_4, rfl, hv, by rw [ht]; exact hP, va_K.moved hW.alike hK, hD⟩, hS.F ht⟩) hS.2.2 dX9_put_29
  · have hv := hv.2 c_2
    refine lv_iconst (v := 0) hx hb dX9_put_11 (by decide) ?_
    exact W.zret (v := 0) hx hb hr rfl (fun t ht hW => ⟨⟨_, M, rfl, hv, by rw [ht]; exact hP, va_K.moved hW.alike hK, hD⟩, hS.F ht⟩) hS.2.2 dX9_put_12
def lp_X9_four_15 (p1 : Int32) (p2 : Int32) (post : Int32 → ST → Prop) (K_ : Int32 → ST → Prop) : Nat → Int32 → ST → Prop
  | 0, _, _ => False
  | n_8 + 1, y_6, M_7 => (((4 ≤ y_6) → K_ y_6 M_7) ∧ ((¬ (4 ≤ y_6)) → ∃ k_10 : Nat, k_10 < 23520 ∧ (740 + ((p1 + y_6) - (p1 + y_6) / 1024 * 1024)) = nI k_10 ∧ ∀ M_11 : ST, M_11 = x_st M_7 1 k_10 ((p2 >>> ((24 - (8 * y_6)) &&& 31)) &&& 255) → ∀ x_12 : Int32, x_12 = y_6 + 1 → lp_X9_four_15 p1 p2 post K_ n_8 x_12 M_11))
def v_X9_four (M : ST) (p1 : Int32) (p2 : Int32) (post : Int32 → ST → Prop) : Prop := v_X9_isIn p1 0 1023 (fun r_1 => (((¬ (r_1 = 0)) → (∃ n_13 : Nat, lp_X9_four_15 p1 p2 post (fun (y_4 : Int32) (M_5 : ST) => post 1 M_5) n_13 0 M)) ∧ ((r_1 = 0) → post 0 M)))
set_option maxHeartbeats 4000000 in
set_option maxRecDepth 100000 in
theorem c_X9_four (l : Launch) (D : va_G) (cT : Nat → ClassId) (a : Nat → Nat) (M : ST) (p1 : Int32) (p2 : Int32) (sz : Nat) (post : Int32 → ST → Prop) (hv : v_X9_four M p1 p2 post) : Met l yX9_four wsX9_four ({ frames := 1, cells := 0, slots := 0, locals := 22 }) (va_Pc [.ref (a 0), .int p1, .int p2] (x_U D cT ((w_Model cT a M)) sz)) (va_Qi post (fun u t => x_B D cT ((w_Model cT a u)) (va_A ((w_Model cT a M)) sz) t) (va_A ((w_Model cT a M)) sz)) 0 0 (va_A ((w_Model cT a M)) sz) := by
  refine Met.ofW (cc := cX9_four) (maxL := 4) (ret := (some .boolean)) (by decide) rfl ?_
  intro p e s m args below meth c s₁ B hml hpre
  obtain ⟨rfl, hsz, hP, hK, hD0, hN⟩ := hpre
  have hx := B.exec
  have hb := B.bytes
  have hr := B.returns
  have hts := atoms_spec (ws := wsX9_four) B.pre
  have hown : s.vm.findClass RX9 = some m.cls := findClass_of_methodNamed B.named
  have hlocks := B.notSynchronized
  subst hsz
  have hD := hD0.self (sz := s.heap.size)
  generalize hAe : va_A ((w_Model cT a M)) s.heap.size = A at hD hN ⊢
  have hA : ∀ q : Nat, s.heap.size ≤ q → A q := fun q h => by rw [← hAe]; exact Or.inr h
  have hS : va_S A s.heap s.heap [] := va_S.rf
  have hl := lv_entry ([.ref (a 0), .int p1, .int p2]) (n := 4) (Nat.le_of_ble_eq_true rfl)
  rw [lg_entry_eq]
  generalize (lg_sl ([.ref (a 0), .int p1, .int p2]) ++ List.replicate (4 - (lg_sl ([.ref (a 0), .int p1, .int p2])).length) Slot.unset).toArray = ls at hl ⊢
  have hl : lv_has ls 4 [(0, .ref (a 0)), (1, .int p1), (2, .int p2)] := hl
  have in_X9 : ∀ w ∈ wsX90, w ∈ wsX9_four := by decide +kernel
  have w_17 : CallB (headSpec wsX9_four ({ frames := 1, cells := 0, slots := 0, locals := 22 })).room s ([.ref (a 0), .int p1, .int p2] : List Value).toArray RX9 17 yX9_isIn cX9_isIn 3 (some .boolean) wsX9_isIn ({ frames := 0, cells := 0, slots := 0, locals := 0 } : Room) 0 0 3 ∧ (Cond.static yX9_isIn).before ([.ref (a 0), .int p1, .int p2] : List Value).toArray s = true := va_cwS 3 hts gX9_four_X9_isIn rfl rfl rfl (by decide +kernel) ⟨Nat.le_of_ble_eq_true rfl, Nat.le_of_ble_eq_true rfl⟩
  have kf_7 : (Cond.fieldLink RX9 7 "PictureBeatsModel" "all" "[I").before ([.ref (a 0), .int p1, .int p2] : List Value).toArray s = true := hts _ (by decide +kernel)
  refine lv_iload_n hx hb dX9_four_0 rfl (lv_at hl 1 rfl) ?_
  refine lv_iconst (v := 0) hx hb dX9_four_1 (by decide) ?_
  refine lv_sipush (v := 1023) hx hb dX9_four_2 (by decide) ?_
  refine x_rS (As := [.int p1, .int 0, .int 1023]) (rest := []) ⟨hx, hb, hml, hown, hts⟩ (c_X9_isIn l D cT p1 0 1023 _ hv) w_17 hK hS hN rfl hl.1 rfl (Nat.le_of_ble_eq_true rfl) dX9_four_5 ⟨Nat.le_of_ble_eq_true rfl, Nat.le_of_ble_eq_true rfl⟩ (fun r_1 hv => ?_)
  refine lv_if_ne (tgt := 13) hx hb dX9_four_8 (by decide) (fun c_2 => ?_) (fun c_2 => ?_)
  · have hv := hv.1 c_2
    refine lv_iconst (v := 0) hx hb dX9_four_13 (by decide) ?_
    refine lv_istore_n (lv' := [(3, .int 0), (0, .ref (a 0)), (1, .int p1), (2, .int p2)]) hx hb dX9_four_14 rfl hl (by decide) rfl (fun ls hl => ?_)
    obtain ⟨n_13, hv⟩ := hv
    have K_L_3 : ∀ (y_4 : Int32) (M_5 : ST), (post 1 M_5) → ∀ (H : Heap) (locs : List Loc), va_P D vwCl ((w_Model cT a M_5)) H → va_D A ((w_Model cT a M_5)) → va_S A s.heap H locs → ∀ ls : Array Slot, lv_has ls 4 [(3, .int y_4), (0, .ref (a 0)), (1, .int p1), (2, .int p2)] → W p l e (headSpec wsX9_four ({ frames := 1, cells := 0, slots := 0, locals := 22 })).room s m ([.ref (a 0), .int p1, .int p2] : List Value).toArray below meth c H locs 0 0 (MQ below (va_Qi post (fun u t => x_B D cT ((w_Model cT a u)) A t) A) ([.ref (a 0), .int p1, .int p2] : List Value).toArray s 0 0 A) (F0 m 55 ls []) := by
      intro y_4 M_5 hv H locs hP hD hS ls hl
      refine lv_iconst (v := 1) hx hb dX9_four_55 (by decide) ?_
      exact W.zret (v := 1) hx hb hr rfl (fun t ht hW => ⟨⟨_, M_5, rfl, hv, by rw [ht]; exact hP, va_K.moved hW.alike hK, hD⟩, hS.F ht⟩) hS.2.2 dX9_four_56
    have L_3 : ∀ n_8 : Nat, ∀ (y_6 : Int32) (M_7 : ST), (lp_X9_four_15 p1 p2 post (fun (y_4 : Int32) (M_5 : ST) => post 1 M_5) n_8 y_6 M_7) → ∀ (H : Heap) (locs : List Loc), va_P D vwCl ((w_Model cT a M_7)) H → va_D A ((w_Model cT a M_7)) → va_S A s.heap H locs → ∀ ls : Array Slot, lv_has ls 4 [(3, .int y_6), (0, .ref (a 0)), (1, .int p1), (2, .int p2)] → W p l e (headSpec wsX9_four ({ frames := 1, cells := 0, slots := 0, locals := 22 })).room s m ([.ref (a 0), .int p1, .int p2] : List Value).toArray below meth c H locs 0 0 (MQ below (va_Qi post (fun u t => x_B D cT ((w_Model cT a u)) A t) A) ([.ref (a 0), .int p1, .int p2] : List Value).toArray s 0 0 A) (F0 m 15 ls []) := by
      intro n_8
      induction n_8 with
      | zero =>
        intro y_6 M_7 hv
        exact hv.elim
      | succ n_8 L_3_ih =>
        intro y_6 M_7 hv H locs hP hD hS ls hl
        refine lv_iload_n hx hb dX9_four_15 rfl (lv_at hl 0 rfl) ?_
        refine lv_iconst (v := 4) hx hb dX9_four_16 (by decide) ?_
        refine lv_icmp_ge (tgt := 55) hx hb dX9_four_17 (by decide) (fun c_9 => ?_) (fun c_9 => ?_)
        · have hv := hv.1 c_9
          exact K_L_3 _ _ hv H locs hP hD hS ls (lv_sub hl [0, 1, 2, 3] rfl)
        · have hv := hv.2 c_9
          refine lv_aload_n hx hb dX9_four_20 rfl (lv_at hl 1 rfl) ?_
          refine va_get (D := D) (ci := 9) (v := .ref (a 1)) (C := RX9) (T := TX9) (N := 2) hx hb hts in_X9 hown hK hP 0 rfl rfl 0 (by decide) kf_7 (fun _ h9 => h9) rfl dX9_four_21 ?_
          refine lv_sipush (v := 740) hx hb dX9_four_24 (by decide) ?_
          refine lv_iload_n hx hb dX9_four_27 rfl (lv_at hl 2 rfl) ?_
          refine lv_iload_n hx hb dX9_four_28 rfl (lv_at hl 0 rfl) ?_
          refine lv_iadd hx hb dX9_four_29 ?_
          refine lv_sipush (v := 1024) hx hb dX9_four_30 (by decide) ?_
          refine lv_irem hx hb dX9_four_33 (by decide) ?_
          refine lv_iadd hx hb dX9_four_34 ?_
          refine lv_iload_n hx hb dX9_four_35 rfl (lv_at hl 3 rfl) ?_
          refine lv_bipush (v := 24) hx hb dX9_four_36 (by decide) ?_
          refine lv_bipush (v := 8) hx hb dX9_four_38 (by decide) ?_
          refine lv_iload_n hx hb dX9_four_40 rfl (lv_at hl 0 rfl) ?_
          refine lv_imul hx hb dX9_four_41 ?_
          refine lv_isub hx hb dX9_four_42 ?_
          refine lv_ishr hx hb dX9_four_43 ?_
          refine lv_sipush (v := 255) hx hb dX9_four_44 (by decide) ?_
          refine lv_iand hx hb dX9_four_47 ?_
          obtain ⟨k_10, hk_10, ik_10, hv⟩ := hv
          refine x_ast hx hb hK hP hD hS 1 0 rfl rfl k_10 ik_10 hk_10 (by decide) dX9_four_48 (fun H locs hP hD hS => ?_)
          obtain ⟨M_11, eM_11⟩ : ∃ z : ST, z = x_st M_7 1 k_10 ((p2 >>> ((24 - (8 * y_6)) &&& 31)) &&& 255) := ⟨_, rfl⟩
          have hP : va_P D vwCl ((w_Model cT a M_11)) H := by rw [eM_11]; exact hP
          have hD : va_D A ((w_Model cT a M_11)) := by rw [eM_11]; exact hD
          have hv := hv M_11 eM_11
          obtain ⟨x_12, ex_12⟩ : ∃ z : Int32, z = y_6 + 1 := ⟨_, rfl⟩
          have hv := hv x_12 ex_12
          refine lv_iinc (v := x_12) (lv' := [(3, .int x_12), (0, .ref (a 0)), (1, .int p1), (2, .int p2)]) hx hb dX9_four_49 hl (k := 0) rfl (by rw [ex_12]; rfl) (by decide) rfl (fun ls hl => ?_)
          refine lv_goto (tgt := 15) hx hb dX9_four_52 (by decide) ?_
          exact L_3_ih _ _ hv H locs hP hD hS ls (lv_sub hl [0, 1, 2, 3] rfl)
    exact L_3 n_13 _ _ hv _ _ hP hD hS ls hl
  · have hv := hv.2 c_2
    refine lv_iconst (v := 0) hx hb dX9_four_11 (by decide) ?_
    exact W.zret (v := 0) hx hb hr rfl (fun t ht hW => ⟨⟨_, M, rfl, hv, by rw [ht]; exact hP, va_K.moved hW.alike hK, hD⟩, hS.F ht⟩) hS.2.2 dX9_four_12
def v_X9_register (M : ST) (p1 : Int32) (p2 : Int32) (post : Int32 → ST → Prop) : Prop := v_X9_isValue p1 p2 (fun r_1 => (((¬ (r_1 = 0)) → ∃ k_3 : Nat, k_3 < 23520 ∧ (40 + p1) = nI k_3 ∧ ∀ M_4 : ST, M_4 = x_st M 1 k_3 p2 → post 1 M_4) ∧ ((r_1 = 0) → post 0 M)))
set_option maxHeartbeats 4000000 in
set_option maxRecDepth 100000 in
theorem c_X9_register (l : Launch) (D : va_G) (cT : Nat → ClassId) (a : Nat → Nat) (M : ST) (p1 : Int32) (p2 : Int32) (sz : Nat) (post : Int32 → ST → Prop) (hv : v_X9_register M p1 p2 post) : Met l yX9_register wsX9_register ({ frames := 2, cells := 0, slots := 0, locals := 43 }) (va_Pc [.ref (a 0), .int p1, .int p2] (x_U D cT ((w_Model cT a M)) sz)) (va_Qi post (fun u t => x_B D cT ((w_Model cT a u)) (va_A ((w_Model cT a M)) sz) t) (va_A ((w_Model cT a M)) sz)) 0 0 (va_A ((w_Model cT a M)) sz) := by
  refine Met.ofW (cc := cX9_register) (maxL := 3) (ret := (some .boolean)) (by decide) rfl ?_
  intro p e s m args below meth c s₁ B hml hpre
  obtain ⟨rfl, hsz, hP, hK, hD0, hN⟩ := hpre
  have hx := B.exec
  have hb := B.bytes
  have hr := B.returns
  have hts := atoms_spec (ws := wsX9_register) B.pre
  have hown : s.vm.findClass RX9 = some m.cls := findClass_of_methodNamed B.named
  have hlocks := B.notSynchronized
  subst hsz
  have hD := hD0.self (sz := s.heap.size)
  generalize hAe : va_A ((w_Model cT a M)) s.heap.size = A at hD hN ⊢
  have hA : ∀ q : Nat, s.heap.size ≤ q → A q := fun q h => by rw [← hAe]; exact Or.inr h
  have hS : va_S A s.heap s.heap [] := va_S.rf
  have hl := lv_entry ([.ref (a 0), .int p1, .int p2]) (n := 3) (Nat.le_of_ble_eq_true rfl)
  rw [lg_entry_eq]
  generalize (lg_sl ([.ref (a 0), .int p1, .int p2]) ++ List.replicate (3 - (lg_sl ([.ref (a 0), .int p1, .int p2])).length) Slot.unset).toArray = ls at hl ⊢
  have hl : lv_has ls 3 [(0, .ref (a 0)), (1, .int p1), (2, .int p2)] := hl
  have in_X9 : ∀ w ∈ wsX90, w ∈ wsX9_register := by decide +kernel
  have w_21 : CallB (headSpec wsX9_register ({ frames := 2, cells := 0, slots := 0, locals := 43 })).room s ([.ref (a 0), .int p1, .int p2] : List Value).toArray RX9 21 yX9_isValue cX9_isValue 2 (some .boolean) wsX9_isValue ({ frames := 1, cells := 0, slots := 0, locals := 22 } : Room) 0 0 2 ∧ (Cond.static yX9_isValue).before ([.ref (a 0), .int p1, .int p2] : List Value).toArray s = true := va_cwS 2 hts gX9_register_X9_isValue rfl rfl rfl (by decide +kernel) ⟨Nat.le_of_ble_eq_true rfl, Nat.le_of_ble_eq_true rfl⟩
  have kf_7 : (Cond.fieldLink RX9 7 "PictureBeatsModel" "all" "[I").before ([.ref (a 0), .int p1, .int p2] : List Value).toArray s = true := hts _ (by decide +kernel)
  refine lv_iload_n hx hb dX9_register_0 rfl (lv_at hl 1 rfl) ?_
  refine lv_iload_n hx hb dX9_register_1 rfl (lv_at hl 2 rfl) ?_
  refine x_rS (As := [.int p1, .int p2]) (rest := []) ⟨hx, hb, hml, hown, hts⟩ (c_X9_isValue l D cT p1 p2 _ hv) w_21 hK hS hN rfl hl.1 rfl (Nat.le_of_ble_eq_true rfl) dX9_register_2 ⟨Nat.le_of_ble_eq_true rfl, Nat.le_of_ble_eq_true rfl⟩ (fun r_1 hv => ?_)
  refine lv_if_ne (tgt := 10) hx hb dX9_register_5 (by decide) (fun c_2 => ?_) (fun c_2 => ?_)
  · have hv := hv.1 c_2
    refine lv_aload_n hx hb dX9_register_10 rfl (lv_at hl 0 rfl) ?_
    refine va_get (D := D) (ci := 9) (v := .ref (a 1)) (C := RX9) (T := TX9) (N := 2) hx hb hts in_X9 hown hK hP 0 rfl rfl 0 (by decide) kf_7 (fun _ h9 => h9) rfl dX9_register_11 ?_
    refine lv_bipush (v := 40) hx hb dX9_register_14 (by decide) ?_
    refine lv_iload_n hx hb dX9_register_16 rfl (lv_at hl 1 rfl) ?_
    refine lv_iadd hx hb dX9_register_17 ?_
    refine lv_iload_n hx hb dX9_register_18 rfl (lv_at hl 2 rfl) ?_
    obtain ⟨k_3, hk_3, ik_3, hv⟩ := hv
    refine x_ast hx hb hK hP hD hS 1 0 rfl rfl k_3 ik_3 hk_3 (by decide) dX9_register_19 (fun H locs hP hD hS => ?_)
    obtain ⟨M_4, eM_4⟩ : ∃ z : ST, z = x_st M 1 k_3 p2 := ⟨_, rfl⟩
    have hP : va_P D vwCl ((w_Model cT a M_4)) H := by rw [eM_4]; exact hP
    have hD : va_D A ((w_Model cT a M_4)) := by rw [eM_4]; exact hD
    have hv := hv M_4 eM_4
    refine lv_iconst (v := 1) hx hb dX9_register_20 (by decide) ?_
    exact W.zret (v := 1) hx hb hr rfl (fun t ht hW => ⟨⟨_, M_4, rfl, hv, by rw [ht]; exact hP, va_K.moved hW.alike hK, hD⟩, hS.F ht⟩) hS.2.2 dX9_register_21
  · have hv := hv.2 c_2
    refine lv_iconst (v := 0) hx hb dX9_register_8 (by decide) ?_
    exact W.zret (v := 0) hx hb hr rfl (fun t ht hW => ⟨⟨_, M, rfl, hv, by rw [ht]; exact hP, va_K.moved hW.alike hK, hD⟩, hS.F ht⟩) hS.2.2 dX9_register_9
def v_X9_entry (M : ST) (p1 : Int32) (p2 : Int32) (p3 : Int32) (p4 : Int32) (post : Int32 → ST → Prop) : Prop := ((((M 1 36) = 16) → post (-1) M) ∧ ((¬ ((M 1 36) = 16)) → v_X9_isIn p1 0 63 (fun r_2 => (((r_2 = 0) → post (-1) M) ∧ ((¬ (r_2 = 0)) → v_X9_isIn p2 0 159 (fun r_4 => (((r_4 = 0) → post (-1) M) ∧ ((¬ (r_4 = 0)) → v_X9_isValue p3 p4 (fun r_6 => (((¬ (r_6 = 0)) → ∀ x_8 : Int32, x_8 = (60 + (4 * (M 1 36))) → ∃ k_9 : Nat, k_9 < 23520 ∧ x_8 = nI k_9 ∧ ∀ M_10 : ST, M_10 = x_st M 1 k_9 p1 → ∃ k_11 : Nat, k_11 < 23520 ∧ (x_8 + 1) = nI k_11 ∧ ∀ M_12 : ST, M_12 = x_st M_10 1 k_11 p2 → ∃ k_13 : Nat, k_13 < 23520 ∧ (x_8 + 2) = nI k_13 ∧ ∀ M_14 : ST, M_14 = x_st M_12 1 k_13 p3 → ∃ k_15 : Nat, k_15 < 23520 ∧ (x_8 + 3) = nI k_15 ∧ ∀ M_16 : ST, M_16 = x_st M_14 1 k_15 p4 → ∀ M_17 : ST, M_17 = x_st M_16 1 36 ((M_16 1 36) + 1) → post (M_17 1 36) M_17) ∧ ((r_6 = 0) → post (-1) M)))))))))))
set_option maxHeartbeats 4000000 in
set_option maxRecDepth 100000 in
theorem c_X9_entry (l : Launch) (D : va_G) (cT : Nat → ClassId) (a : Nat → Nat) (M : ST) (p1 : Int32) (p2 : Int32) (p3 : Int32) (p4 : Int32) (sz : Nat) (post : Int32 → ST → Prop) (hv : v_X9_entry M p1 p2 p3 p4 post) : Met l yX9_entry wsX9_entry ({ frames := 2, cells := 0, slots := 0, locals := 43 }) (va_Pc [.ref (a 0), .int p1, .int p2, .int p3, .int p4] (x_U D cT ((w_Model cT a M)) sz)) (va_Qi post (fun u t => x_B D cT ((w_Model cT a u)) (va_A ((w_Model cT a M)) sz) t) (va_A ((w_Model cT a M)) sz)) 0 0 (va_A ((w_Model cT a M)) sz) := by
  refine Met.ofW (cc := cX9_entry) (maxL := 6) (ret := (some .int)) (by decide) rfl ?_
  intro p e s m args below meth c s₁ B hml hpre
  obtain ⟨rfl, hsz, hP, hK, hD0, hN⟩ := hpre
  have hx := B.exec
  have hb := B.bytes
  have hr := B.returns
  have hts := atoms_spec (ws := wsX9_entry) B.pre
  have hown : s.vm.findClass RX9 = some m.cls := findClass_of_methodNamed B.named
  have hlocks := B.notSynchronized
  subst hsz
  have hD := hD0.self (sz := s.heap.size)
  generalize hAe : va_A ((w_Model cT a M)) s.heap.size = A at hD hN ⊢
  have hA : ∀ q : Nat, s.heap.size ≤ q → A q := fun q h => by rw [← hAe]; exact Or.inr h
  have hS : va_S A s.heap s.heap [] := va_S.rf
  have hl := lv_entry ([.ref (a 0), .int p1, .int p2, .int p3, .int p4]) (n := 6) (Nat.le_of_ble_eq_true rfl)
  rw [lg_entry_eq]
  generalize (lg_sl ([.ref (a 0), .int p1, .int p2, .int p3, .int p4]) ++ List.replicate (6 - (lg_sl ([.ref (a 0), .int p1, .int p2, .int p3, .int p4])).length) Slot.unset).toArray = ls at hl ⊢
  have hl : lv_has ls 6 [(0, .ref (a 0)), (1, .int p1), (2, .int p2), (3, .int p3), (4, .int p4)] := hl
  have in_X9 : ∀ w ∈ wsX90, w ∈ wsX9_entry := by decide +kernel
  have kf_7 : (Cond.fieldLink RX9 7 "PictureBeatsModel" "all" "[I").before ([.ref (a 0), .int p1, .int p2, .int p3, .int p4] : List Value).toArray s = true := hts _ (by decide +kernel)
  have w_17 : CallB (headSpec wsX9_entry ({ frames := 2, cells := 0, slots := 0, locals := 43 })).room s ([.ref (a 0), .int p1, .int p2, .int p3, .int p4] : List Value).toArray RX9 17 yX9_isIn cX9_isIn 3 (some .boolean) wsX9_isIn ({ frames := 0, cells := 0, slots := 0, locals := 0 } : Room) 0 0 3 ∧ (Cond.static yX9_isIn).before ([.ref (a 0), .int p1, .int p2, .int p3, .int p4] : List Value).toArray s = true := va_cwS 3 hts gX9_entry_X9_isIn rfl rfl rfl (by decide +kernel) ⟨Nat.le_of_ble_eq_true rfl, Nat.le_of_ble_eq_true rfl⟩
  have w_21 : CallB (headSpec wsX9_entry ({ frames := 2, cells := 0, slots := 0, locals := 43 })).room s ([.ref (a 0), .int p1, .int p2, .int p3, .int p4] : List Value).toArray RX9 21 yX9_isValue cX9_isValue 2 (some .boolean) wsX9_isValue ({ frames := 1, cells := 0, slots := 0, locals := 22 } : Room) 0 0 2 ∧ (Cond.static yX9_isValue).before ([.ref (a 0), .int p1, .int p2, .int p3, .int p4] : List Value).toArray s = true := va_cwS 2 hts gX9_entry_X9_isValue rfl rfl rfl (by decide +kernel) ⟨Nat.le_of_ble_eq_true rfl, Nat.le_of_ble_eq_true rfl⟩
  refine lv_aload_n hx hb dX9_entry_0 rfl (lv_at hl 0 rfl) ?_
  refine va_get (D := D) (ci := 9) (v := .ref (a 1)) (C := RX9) (T := TX9) (N := 2) hx hb hts in_X9 hown hK hP 0 rfl rfl 0 (by decide) kf_7 (fun _ h9 => h9) rfl dX9_entry_1 ?_
  refine lv_bipush (v := 36) hx hb dX9_entry_4 (by decide) ?_
  refine x_ald hx hb hK hP 1 0 rfl rfl 36 rfl (by decide) (by decide) dX9_entry_6 ?_
  refine lv_bipush (v := 16) hx hb dX9_entry_7 (by decide) ?_
  refine lv_icmp_eq (tgt := 42) hx hb dX9_entry_9 (by decide) (fun c_1 => ?_) (fun c_1 => ?_)
  · have hv := hv.1 c_1
    refine lv_iconst (v := (-1)) hx hb dX9_entry_42 (by decide) ?_
    exact W.iret (v := (-1)) hx hb hr (fun t ht hW => ⟨⟨_, M, rfl, hv, by rw [ht]; exact hP, va_K.moved hW.alike hK, hD⟩, hS.F ht⟩) hS.2.2 dX9_entry_43
  · have hv := hv.2 c_1
    refine lv_iload_n hx hb dX9_entry_12 rfl (lv_at hl 1 rfl) ?_
    refine lv_iconst (v := 0) hx hb dX9_entry_13 (by decide) ?_
    refine lv_bipush (v := 63) hx hb dX9_entry_14 (by decide) ?_
    refine x_rS (As := [.int p1, .int 0, .int 63]) (rest := []) ⟨hx, hb, hml, hown, hts⟩ (c_X9_isIn l D cT p1 0 63 _ hv) w_17 hK hS hN rfl hl.1 rfl (Nat.le_of_ble_eq_true rfl) dX9_entry_16 ⟨Nat.le_of_ble_eq_true rfl, Nat.le_of_ble_eq_true rfl⟩ (fun r_2 hv => ?_)
    refine lv_if_eq (tgt := 42) hx hb dX9_entry_19 (by decide) (fun c_3 => ?_) (fun c_3 => ?_)
    · have hv := hv.1 c_3
      refine lv_iconst (v := (-1)) hx hb dX9_entry_42 (by decide) ?_
      exact W.iret (v := (-1)) hx hb hr (fun t ht hW => ⟨⟨_, M, rfl, hv, by rw [ht]; exact hP, va_K.moved hW.alike hK, hD⟩, hS.F ht⟩) hS.2.2 dX9_entry_43
    · have hv := hv.2 c_3
      refine lv_iload_n hx hb dX9_entry_22 rfl (lv_at hl 2 rfl) ?_
      refine lv_iconst (v := 0) hx hb dX9_entry_23 (by decide) ?_
      refine lv_sipush (v := 159) hx hb dX9_entry_24 (by decide) ?_
      refine x_rS (As := [.int p2, .int 0, .int 159]) (rest := []) ⟨hx, hb, hml, hown, hts⟩ (c_X9_isIn l D cT p2 0 159 _ hv) w_17 hK hS hN rfl hl.1 rfl (Nat.le_of_ble_eq_true rfl) dX9_entry_27 ⟨Nat.le_of_ble_eq_true rfl, Nat.le_of_ble_eq_true rfl⟩ (fun r_4 hv => ?_)
      refine lv_if_eq (tgt := 42) hx hb dX9_entry_30 (by decide) (fun c_5 => ?_) (fun c_5 => ?_)
      · have hv := hv.1 c_5
        refine lv_iconst (v := (-1)) hx hb dX9_entry_42 (by decide) ?_
        exact W.iret (v := (-1)) hx hb hr (fun t ht hW => ⟨⟨_, M, rfl, hv, by rw [ht]; exact hP, va_K.moved hW.alike hK, hD⟩, hS.F ht⟩) hS.2.2 dX9_entry_43
      · have hv := hv.2 c_5
        refine lv_iload_n hx hb dX9_entry_33 rfl (lv_at hl 3 rfl) ?_
        refine lv_iload hx hb dX9_entry_34 (lv_at hl 4 rfl) ?_
        refine x_rS (As := [.int p3, .int p4]) (rest := []) ⟨hx, hb, hml, hown, hts⟩ (c_X9_isValue l D cT p3 p4 _ hv) w_21 hK hS hN rfl hl.1 rfl (Nat.le_of_ble_eq_true rfl) dX9_entry_36 ⟨Nat.le_of_ble_eq_true rfl, Nat.le_of_ble_eq_true rfl⟩ (fun r_6 hv => ?_)
        refine lv_if_ne (tgt := 44) hx hb dX9_entry_39 (by decide) (fun c_7 => ?_) (fun c_7 => ?_)
        · have hv := hv.1 c_7
          refine lv_bipush (v := 60) hx hb dX9_entry_44 (by decide) ?_
          refine lv_iconst (v := 4) hx hb dX9_entry_46 (by decide) ?_
          refine lv_aload_n hx hb dX9_entry_47 rfl (lv_at hl 0 rfl) ?_
          refine va_get (D := D) (ci := 9) (v := .ref (a 1)) (C := RX9) (T := TX9) (N := 2) hx hb hts in_X9 hown hK hP 0 rfl rfl 0 (by decide) kf_7 (fun _ h9 => h9) rfl dX9_entry_48 ?_
          refine lv_bipush (v := 36) hx hb dX9_entry_51 (by decide) ?_
          refine x_ald hx hb hK hP 1 0 rfl rfl 36 rfl (by decide) (by decide) dX9_entry_53 ?_
          refine lv_imul hx hb dX9_entry_54 ?_
          refine lv_iadd hx hb dX9_entry_55 ?_
          refine lv_topi (fun x_8 ex_8 => ?_)
          have hv := hv x_8 ex_8
          refine lv_istore (lv' := [(5, .int x_8), (0, .ref (a 0)), (1, .int p1), (2, .int p2), (3, .int p3), (4, .int p4)]) hx hb dX9_entry_56 hl (by decide) rfl (fun ls hl => ?_)
          refine lv_aload_n hx hb dX9_entry_58 rfl (lv_at hl 1 rfl) ?_
          refine va_get (D := D) (ci := 9) (v := .ref (a 1)) (C := RX9) (T := TX9) (N := 2) hx hb hts in_X9 hown hK hP 0 rfl rfl 0 (by decide) kf_7 (fun _ h9 => h9) rfl dX9_entry_59 ?_
          refine lv_iload hx hb dX9_entry_62 (lv_at hl 0 rfl) ?_
          refine lv_iload_n hx hb dX9_entry_64 rfl (lv_at hl 2 rfl) ?_
          obtain ⟨k_9, hk_9, ik_9, hv⟩ := hv
          refine x_ast hx hb hK hP hD hS 1 0 rfl rfl k_9 ik_9 hk_9 (by decide) dX9_entry_65 (fun H locs hP hD hS => ?_)
          obtain ⟨M_10, eM_10⟩ : ∃ z : ST, z = x_st M 1 k_9 p1 := ⟨_, rfl⟩
          have hP : va_P D vwCl ((w_Model cT a M_10)) H := by rw [eM_10]; exact hP
          have hD : va_D A ((w_Model cT a M_10)) := by rw [eM_10]; exact hD
          have hv := hv M_10 eM_10
          refine lv_aload_n hx hb dX9_entry_66 rfl (lv_at hl 1 rfl) ?_
          refine va_get (D := D) (ci := 9) (v := .ref (a 1)) (C := RX9) (T := TX9) (N := 2) hx hb hts in_X9 hown hK hP 0 rfl rfl 0 (by decide) kf_7 (fun _ h9 => h9) rfl dX9_entry_67 ?_
          refine lv_iload hx hb dX9_entry_70 (lv_at hl 0 rfl) ?_
          refine lv_iconst (v := 1) hx hb dX9_entry_72 (by decide) ?_
          refine lv_iadd hx hb dX9_entry_73 ?_
          refine lv_iload_n hx hb dX9_entry_74 rfl (lv_at hl 3 rfl) ?_
          obtain ⟨k_11, hk_11, ik_11, hv⟩ := hv
          refine x_ast hx hb hK hP hD hS 1 0 rfl rfl k_11 ik_11 hk_11 (by decide) dX9_entry_75 (fun H locs hP hD hS => ?_)
          obtain ⟨M_12, eM_12⟩ : ∃ z : ST, z = x_st M_10 1 k_11 p2 := ⟨_, rfl⟩
          have hP : va_P D vwCl ((w_Model cT a M_12)) H := by rw [eM_12]; exact hP
          have hD : va_D A ((w_Model cT a M_12)) := by rw [eM_12]; exact hD
          have hv := hv M_12 eM_12
          refine lv_aload_n hx hb dX9_entry_76 rfl (lv_at hl 1 rfl) ?_
          refine va_get (D := D) (ci := 9) (v := .ref (a 1)) (C := RX9) (T := TX9) (N := 2) hx hb hts in_X9 hown hK hP 0 rfl rfl 0 (by decide) kf_7 (fun _ h9 => h9) rfl dX9_entry_77 ?_
          refine lv_iload hx hb dX9_entry_80 (lv_at hl 0 rfl) ?_
          refine lv_iconst (v := 2) hx hb dX9_entry_82 (by decide) ?_
          refine lv_iadd hx hb dX9_entry_83 ?_
          refine lv_iload_n hx hb dX9_entry_84 rfl (lv_at hl 4 rfl) ?_
          obtain ⟨k_13, hk_13, ik_13, hv⟩ := hv
          refine x_ast hx hb hK hP hD hS 1 0 rfl rfl k_13 ik_13 hk_13 (by decide) dX9_entry_85 (fun H locs hP hD hS => ?_)
          obtain ⟨M_14, eM_14⟩ : ∃ z : ST, z = x_st M_12 1 k_13 p3 := ⟨_, rfl⟩
          have hP : va_P D vwCl ((w_Model cT a M_14)) H := by rw [eM_14]; exact hP
          have hD : va_D A ((w_Model cT a M_14)) := by rw [eM_14]; exact hD
          have hv := hv M_14 eM_14
          refine lv_aload_n hx hb dX9_entry_86 rfl (lv_at hl 1 rfl) ?_
          refine va_get (D := D) (ci := 9) (v := .ref (a 1)) (C := RX9) (T := TX9) (N := 2) hx hb hts in_X9 hown hK hP 0 rfl rfl 0 (by decide) kf_7 (fun _ h9 => h9) rfl dX9_entry_87 ?_
          refine lv_iload hx hb dX9_entry_90 (lv_at hl 0 rfl) ?_
          refine lv_iconst (v := 3) hx hb dX9_entry_92 (by decide) ?_
          refine lv_iadd hx hb dX9_entry_93 ?_
          refine lv_iload hx hb dX9_entry_94 (lv_at hl 5 rfl) ?_
          obtain ⟨k_15, hk_15, ik_15, hv⟩ := hv
          refine x_ast hx hb hK hP hD hS 1 0 rfl rfl k_15 ik_15 hk_15 (by decide) dX9_entry_96 (fun H locs hP hD hS => ?_)
          obtain ⟨M_16, eM_16⟩ : ∃ z : ST, z = x_st M_14 1 k_15 p4 := ⟨_, rfl⟩
          have hP : va_P D vwCl ((w_Model cT a M_16)) H := by rw [eM_16]; exact hP
          have hD : va_D A ((w_Model cT a M_16)) := by rw [eM_16]; exact hD
          have hv := hv M_16 eM_16
          refine lv_aload_n hx hb dX9_entry_97 rfl (lv_at hl 1 rfl) ?_
          refine va_get (D := D) (ci := 9) (v := .ref (a 1)) (C := RX9) (T := TX9) (N := 2) hx hb hts in_X9 hown hK hP 0 rfl rfl 0 (by decide) kf_7 (fun _ h9 => h9) rfl dX9_entry_98 ?_
          refine lv_bipush (v := 36) hx hb dX9_entry_101 (by decide) ?_
          refine lv_dup2_11 hx hb dX9_entry_103 rfl rfl ?_
          refine x_ald hx hb hK hP 1 0 rfl rfl 36 rfl (by decide) (by decide) dX9_entry_104 ?_
          refine lv_iconst (v := 1) hx hb dX9_entry_105 (by decide) ?_
          refine lv_iadd hx hb dX9_entry_106 ?_
          refine x_ast hx hb hK hP hD hS 1 0 rfl rfl 36 rfl (by decide) (by decide) dX9_entry_107 (fun H locs hP hD hS => ?_)
          obtain ⟨M_17, eM_17⟩ : ∃ z : ST, z = x_st M_16 1 36 ((M_16 1 36) + 1) := ⟨_, rfl⟩
          have hP : va_P D vwCl ((w_Model cT a M_17)) H := by rw [eM_17]; exact hP
          have hD : va_D A ((w_Model cT a M_17)) := by rw [eM_17]; exact hD
          have hv := hv M_17 eM_17
          refine lv_aload_n hx hb dX9_entry_108 rfl (lv_at hl 1 rfl) ?_
          refine va_get (D := D) (ci := 9) (v := .ref (a 1)) (C := RX9) (T := TX9) (N := 2) hx hb hts in_X9 hown hK hP 0 rfl rfl 0 (by decide) kf_7 (fun _ h9 => h9) rfl dX9_entry_109 ?_
          refine lv_bipush (v := 36) hx hb dX9_entry_112 (by decide) ?_
          refine x_ald hx hb hK hP 1 0 rfl rfl 36 rfl (by decide) (by decide) dX9_entry_114 ?_
          exact W.iret (v := (M_17 1 36)) hx hb hr (fun t ht hW => ⟨⟨_, M_17, rfl, hv, by rw [ht]; exact hP, va_K.moved hW.alike hK, hD⟩, hS.F ht⟩) hS.2.2 dX9_entry_115
        · have hv := hv.2 c_7
          refine lv_iconst (v := (-1)) hx hb dX9_entry_42 (by decide) ?_
          exact W.iret (v := (-1)) hx hb hr (fun t ht hW => ⟨⟨_, M, rfl, hv, by rw [ht]; exact hP, va_K.moved hW.alike hK, hD⟩, hS.F ht⟩) hS.2.2 dX9_entry_43
def v_X9_clear (M : ST) (post : ST → Prop) : Prop := ∀ M_1 : ST, M_1 = x_st M 1 36 0 → post M_1
set_option maxHeartbeats 4000000 in
set_option maxRecDepth 100000 in
theorem c_X9_clear (l : Launch) (D : va_G) (cT : Nat → ClassId) (a : Nat → Nat) (M : ST) (sz : Nat) (post : ST → Prop) (hv : v_X9_clear M post) : Met l yX9_clear wsX9_clear ({ frames := 0, cells := 0, slots := 0, locals := 0 }) (va_Pc [.ref (a 0)] (x_U D cT ((w_Model cT a M)) sz)) (va_Qv post (fun u t => x_B D cT ((w_Model cT a u)) (va_A ((w_Model cT a M)) sz) t) (va_A ((w_Model cT a M)) sz)) 0 0 (va_A ((w_Model cT a M)) sz) := by
  refine Met.ofW (cc := cX9_clear) (maxL := 1) (ret := none) (by decide) rfl ?_
  intro p e s m args below meth c s₁ B hml hpre
  obtain ⟨rfl, hsz, hP, hK, hD0, hN⟩ := hpre
  have hx := B.exec
  have hb := B.bytes
  have hr := B.returns
  have hts := atoms_spec (ws := wsX9_clear) B.pre
  have hown : s.vm.findClass RX9 = some m.cls := findClass_of_methodNamed B.named
  have hlocks := B.notSynchronized
  subst hsz
  have hD := hD0.self (sz := s.heap.size)
  generalize hAe : va_A ((w_Model cT a M)) s.heap.size = A at hD hN ⊢
  have hA : ∀ q : Nat, s.heap.size ≤ q → A q := fun q h => by rw [← hAe]; exact Or.inr h
  have hS : va_S A s.heap s.heap [] := va_S.rf
  have hl := lv_entry ([.ref (a 0)]) (n := 1) (Nat.le_of_ble_eq_true rfl)
  rw [lg_entry_eq]
  generalize (lg_sl ([.ref (a 0)]) ++ List.replicate (1 - (lg_sl ([.ref (a 0)])).length) Slot.unset).toArray = ls at hl ⊢
  have hl : lv_has ls 1 [(0, .ref (a 0))] := hl
  have in_X9 : ∀ w ∈ wsX90, w ∈ wsX9_clear := by decide +kernel
  have kf_7 : (Cond.fieldLink RX9 7 "PictureBeatsModel" "all" "[I").before ([.ref (a 0)] : List Value).toArray s = true := hts _ (by decide +kernel)
  refine lv_aload_n hx hb dX9_clear_0 rfl (lv_at hl 0 rfl) ?_
  refine va_get (D := D) (ci := 9) (v := .ref (a 1)) (C := RX9) (T := TX9) (N := 2) hx hb hts in_X9 hown hK hP 0 rfl rfl 0 (by decide) kf_7 (fun _ h9 => h9) rfl dX9_clear_1 ?_
  refine lv_bipush (v := 36) hx hb dX9_clear_4 (by decide) ?_
  refine lv_iconst (v := 0) hx hb dX9_clear_6 (by decide) ?_
  refine x_ast hx hb hK hP hD hS 1 0 rfl rfl 36 rfl (by decide) (by decide) dX9_clear_7 (fun H locs hP hD hS => ?_)
  obtain ⟨M_1, eM_1⟩ : ∃ z : ST, z = x_st M 1 36 0 := ⟨_, rfl⟩
  have hP : va_P D vwCl ((w_Model cT a M_1)) H := by rw [eM_1]; exact hP
  have hD : va_D A ((w_Model cT a M_1)) := by rw [eM_1]; exact hD
  have hv := hv M_1 eM_1
  exact W.vret hx hb hr (fun t ht hW => ⟨⟨M_1, rfl, hv, by rw [ht]; exact hP, va_K.moved hW.alike hK, hD⟩, hS.F ht⟩) hS.2.2 dX9_clear_8
def v_X9_readers (M : ST) (p1 : Int32) (p2 : Int32) (post : Int32 → ST → Prop) : Prop := v_X9_isIn p1 1 16 (fun r_1 => (((¬ (r_1 = 0)) → ∀ M_3 : ST, M_3 = x_st M 1 27 p1 → ∀ M_4 : ST, M_4 = x_st M_3 1 28 p2 → post 1 M_4) ∧ ((r_1 = 0) → post 0 M)))
set_option maxHeartbeats 4000000 in
set_option maxRecDepth 100000 in
theorem c_X9_readers (l : Launch) (D : va_G) (cT : Nat → ClassId) (a : Nat → Nat) (M : ST) (p1 : Int32) (p2 : Int32) (sz : Nat) (post : Int32 → ST → Prop) (hv : v_X9_readers M p1 p2 post) : Met l yX9_readers wsX9_readers ({ frames := 1, cells := 0, slots := 0, locals := 22 }) (va_Pc [.ref (a 0), .int p1, .int p2] (x_U D cT ((w_Model cT a M)) sz)) (va_Qi post (fun u t => x_B D cT ((w_Model cT a u)) (va_A ((w_Model cT a M)) sz) t) (va_A ((w_Model cT a M)) sz)) 0 0 (va_A ((w_Model cT a M)) sz) := by
  refine Met.ofW (cc := cX9_readers) (maxL := 3) (ret := (some .boolean)) (by decide) rfl ?_
  intro p e s m args below meth c s₁ B hml hpre
  obtain ⟨rfl, hsz, hP, hK, hD0, hN⟩ := hpre
  have hx := B.exec
  have hb := B.bytes
  have hr := B.returns
  have hts := atoms_spec (ws := wsX9_readers) B.pre
  have hown : s.vm.findClass RX9 = some m.cls := findClass_of_methodNamed B.named
  have hlocks := B.notSynchronized
  subst hsz
  have hD := hD0.self (sz := s.heap.size)
  generalize hAe : va_A ((w_Model cT a M)) s.heap.size = A at hD hN ⊢
  have hA : ∀ q : Nat, s.heap.size ≤ q → A q := fun q h => by rw [← hAe]; exact Or.inr h
  have hS : va_S A s.heap s.heap [] := va_S.rf
  have hl := lv_entry ([.ref (a 0), .int p1, .int p2]) (n := 3) (Nat.le_of_ble_eq_true rfl)
  rw [lg_entry_eq]
  generalize (lg_sl ([.ref (a 0), .int p1, .int p2]) ++ List.replicate (3 - (lg_sl ([.ref (a 0), .int p1, .int p2])).length) Slot.unset).toArray = ls at hl ⊢
  have hl : lv_has ls 3 [(0, .ref (a 0)), (1, .int p1), (2, .int p2)] := hl
  have in_X9 : ∀ w ∈ wsX90, w ∈ wsX9_readers := by decide +kernel
  have w_17 : CallB (headSpec wsX9_readers ({ frames := 1, cells := 0, slots := 0, locals := 22 })).room s ([.ref (a 0), .int p1, .int p2] : List Value).toArray RX9 17 yX9_isIn cX9_isIn 3 (some .boolean) wsX9_isIn ({ frames := 0, cells := 0, slots := 0, locals := 0 } : Room) 0 0 3 ∧ (Cond.static yX9_isIn).before ([.ref (a 0), .int p1, .int p2] : List Value).toArray s = true := va_cwS 3 hts gX9_readers_X9_isIn rfl rfl rfl (by decide +kernel) ⟨Nat.le_of_ble_eq_true rfl, Nat.le_of_ble_eq_true rfl⟩
  have kf_7 : (Cond.fieldLink RX9 7 "PictureBeatsModel" "all" "[I").before ([.ref (a 0), .int p1, .int p2] : List Value).toArray s = true := hts _ (by decide +kernel)
  refine lv_iload_n hx hb dX9_readers_0 rfl (lv_at hl 1 rfl) ?_
  refine lv_iconst (v := 1) hx hb dX9_readers_1 (by decide) ?_
  refine lv_bipush (v := 16) hx hb dX9_readers_2 (by decide) ?_
  refine x_rS (As := [.int p1, .int 1, .int 16]) (rest := []) ⟨hx, hb, hml, hown, hts⟩ (c_X9_isIn l D cT p1 1 16 _ hv) w_17 hK hS hN rfl hl.1 rfl (Nat.le_of_ble_eq_true rfl) dX9_readers_4 ⟨Nat.le_of_ble_eq_true rfl, Nat.le_of_ble_eq_true rfl⟩ (fun r_1 hv => ?_)
  refine lv_if_ne (tgt := 12) hx hb dX9_readers_7 (by decide) (fun c_2 => ?_) (fun c_2 => ?_)
  · have hv := hv.1 c_2
    refine lv_aload_n hx hb dX9_readers_12 rfl (lv_at hl 0 rfl) ?_
    refine va_get (D := D) (ci := 9) (v := .ref (a 1)) (C := RX9) (T := TX9) (N := 2) hx hb hts in_X9 hown hK hP 0 rfl rfl 0 (by decide) kf_7 (fun _ h9 => h9) rfl dX9_readers_13 ?_
    refine lv_bipush (v := 27) hx hb dX9_readers_16 (by decide) ?_
    refine lv_iload_n hx hb dX9_readers_18 rfl (lv_at hl 1 rfl) ?_
    refine x_ast hx hb hK hP hD hS 1 0 rfl rfl 27 rfl (by decide) (by decide) dX9_readers_19 (fun H locs hP hD hS => ?_)
    obtain ⟨M_3, eM_3⟩ : ∃ z : ST, z = x_st M 1 27 p1 := ⟨_, rfl⟩
    have hP : va_P D vwCl ((w_Model cT a M_3)) H := by rw [eM_3]; exact hP
    have hD : va_D A ((w_Model cT a M_3)) := by rw [eM_3]; exact hD
    have hv := hv M_3 eM_3
    refine lv_aload_n hx hb dX9_readers_20 rfl (lv_at hl 0 rfl) ?_
    refine va_get (D := D) (ci := 9) (v := .ref (a 1)) (C := RX9) (T := TX9) (N := 2) hx hb hts in_X9 hown hK hP 0 rfl rfl 0 (by decide) kf_7 (fun _ h9 => h9) rfl dX9_readers_21 ?_
    refine lv_bipush (v := 28) hx hb dX9_readers_24 (by decide) ?_
    refine lv_iload_n hx hb dX9_readers_26 rfl (lv_at hl 2 rfl) ?_
    refine x_ast hx hb hK hP hD hS 1 0 rfl rfl 28 rfl (by decide) (by decide) dX9_readers_27 (fun H locs hP hD hS => ?_)
    obtain ⟨M_4, eM_4⟩ : ∃ z : ST, z = x_st M_3 1 28 p2 := ⟨_, rfl⟩
    have hP : va_P D vwCl ((w_Model cT a M_4)) H := by rw [eM_4]; exact hP
    have hD : va_D A ((w_Model cT a M_4)) := by rw [eM_4]; exact hD
    have hv := hv M_4 eM_4
    refine lv_iconst (v := 1) hx hb dX9_readers_28 (by decide) ?_
    exact W.zret (v := 1) hx hb hr rfl (fun t ht hW => ⟨⟨_, M_4, rfl, hv, by rw [ht]; exact hP, va_K.moved hW.alike hK, hD⟩, hS.F ht⟩) hS.2.2 dX9_readers_29
  · have hv := hv.2 c_2
    refine lv_iconst (v := 0) hx hb dX9_readers_10 (by decide) ?_
    exact W.zret (v := 0) hx hb hr rfl (fun t ht hW => ⟨⟨_, M, rfl, hv, by rw [ht]; exact hP, va_K.moved hW.alike hK, hD⟩, hS.F ht⟩) hS.2.2 dX9_readers_11
def v_X9_depth (M : ST) (p1 : Int32) (post : Int32 → ST → Prop) : Prop := v_X9_isIn p1 1 8 (fun r_1 => (((¬ (r_1 = 0)) → ∀ M_3 : ST, M_3 = x_st M 1 29 p1 → post 1 M_3) ∧ ((r_1 = 0) → post 0 M)))
set_option maxHeartbeats 4000000 in
set_option maxRecDepth 100000 in
theorem c_X9_depth (l : Launch) (D : va_G) (cT : Nat → ClassId) (a : Nat → Nat) (M : ST) (p1 : Int32) (sz : Nat) (post : Int32 → ST → Prop) (hv : v_X9_depth M p1 post) : Met l yX9_depth wsX9_depth ({ frames := 1, cells := 0, slots := 0, locals := 22 }) (va_Pc [.ref (a 0), .int p1] (x_U D cT ((w_Model cT a M)) sz)) (va_Qi post (fun u t => x_B D cT ((w_Model cT a u)) (va_A ((w_Model cT a M)) sz) t) (va_A ((w_Model cT a M)) sz)) 0 0 (va_A ((w_Model cT a M)) sz) := by
  refine Met.ofW (cc := cX9_depth) (maxL := 2) (ret := (some .boolean)) (by decide) rfl ?_
  intro p e s m args below meth c s₁ B hml hpre
  obtain ⟨rfl, hsz, hP, hK, hD0, hN⟩ := hpre
  have hx := B.exec
  have hb := B.bytes
  have hr := B.returns
  have hts := atoms_spec (ws := wsX9_depth) B.pre
  have hown : s.vm.findClass RX9 = some m.cls := findClass_of_methodNamed B.named
  have hlocks := B.notSynchronized
  subst hsz
  have hD := hD0.self (sz := s.heap.size)
  generalize hAe : va_A ((w_Model cT a M)) s.heap.size = A at hD hN ⊢
  have hA : ∀ q : Nat, s.heap.size ≤ q → A q := fun q h => by rw [← hAe]; exact Or.inr h
  have hS : va_S A s.heap s.heap [] := va_S.rf
  have hl := lv_entry ([.ref (a 0), .int p1]) (n := 2) (Nat.le_of_ble_eq_true rfl)
  rw [lg_entry_eq]
  generalize (lg_sl ([.ref (a 0), .int p1]) ++ List.replicate (2 - (lg_sl ([.ref (a 0), .int p1])).length) Slot.unset).toArray = ls at hl ⊢
  have hl : lv_has ls 2 [(0, .ref (a 0)), (1, .int p1)] := hl
  have in_X9 : ∀ w ∈ wsX90, w ∈ wsX9_depth := by decide +kernel
  have w_17 : CallB (headSpec wsX9_depth ({ frames := 1, cells := 0, slots := 0, locals := 22 })).room s ([.ref (a 0), .int p1] : List Value).toArray RX9 17 yX9_isIn cX9_isIn 3 (some .boolean) wsX9_isIn ({ frames := 0, cells := 0, slots := 0, locals := 0 } : Room) 0 0 3 ∧ (Cond.static yX9_isIn).before ([.ref (a 0), .int p1] : List Value).toArray s = true := va_cwS 3 hts gX9_depth_X9_isIn rfl rfl rfl (by decide +kernel) ⟨Nat.le_of_ble_eq_true rfl, Nat.le_of_ble_eq_true rfl⟩
  have kf_7 : (Cond.fieldLink RX9 7 "PictureBeatsModel" "all" "[I").before ([.ref (a 0), .int p1] : List Value).toArray s = true := hts _ (by decide +kernel)
  refine lv_iload_n hx hb dX9_depth_0 rfl (lv_at hl 1 rfl) ?_
  refine lv_iconst (v := 1) hx hb dX9_depth_1 (by decide) ?_
  refine lv_bipush (v := 8) hx hb dX9_depth_2 (by decide) ?_
  refine x_rS (As := [.int p1, .int 1, .int 8]) (rest := []) ⟨hx, hb, hml, hown, hts⟩ (c_X9_isIn l D cT p1 1 8 _ hv) w_17 hK hS hN rfl hl.1 rfl (Nat.le_of_ble_eq_true rfl) dX9_depth_4 ⟨Nat.le_of_ble_eq_true rfl, Nat.le_of_ble_eq_true rfl⟩ (fun r_1 hv => ?_)
  refine lv_if_ne (tgt := 12) hx hb dX9_depth_7 (by decide) (fun c_2 => ?_) (fun c_2 => ?_)
  · have hv := hv.1 c_2
    refine lv_aload_n hx hb dX9_depth_12 rfl (lv_at hl 0 rfl) ?_
    refine va_get (D := D) (ci := 9) (v := .ref (a 1)) (C := RX9) (T := TX9) (N := 2) hx hb hts in_X9 hown hK hP 0 rfl rfl 0 (by decide) kf_7 (fun _ h9 => h9) rfl dX9_depth_13 ?_
    refine lv_bipush (v := 29) hx hb dX9_depth_16 (by decide) ?_
    refine lv_iload_n hx hb dX9_depth_18 rfl (lv_at hl 1 rfl) ?_
    refine x_ast hx hb hK hP hD hS 1 0 rfl rfl 29 rfl (by decide) (by decide) dX9_depth_19 (fun H locs hP hD hS => ?_)
    obtain ⟨M_3, eM_3⟩ : ∃ z : ST, z = x_st M 1 29 p1 := ⟨_, rfl⟩
    have hP : va_P D vwCl ((w_Model cT a M_3)) H := by rw [eM_3]; exact hP
    have hD : va_D A ((w_Model cT a M_3)) := by rw [eM_3]; exact hD
    have hv := hv M_3 eM_3
    refine lv_iconst (v := 1) hx hb dX9_depth_20 (by decide) ?_
    exact W.zret (v := 1) hx hb hr rfl (fun t ht hW => ⟨⟨_, M_3, rfl, hv, by rw [ht]; exact hP, va_K.moved hW.alike hK, hD⟩, hS.F ht⟩) hS.2.2 dX9_depth_21
  · have hv := hv.2 c_2
    refine lv_iconst (v := 0) hx hb dX9_depth_10 (by decide) ?_
    exact W.zret (v := 0) hx hb hr rfl (fun t ht hW => ⟨⟨_, M, rfl, hv, by rw [ht]; exact hP, va_K.moved hW.alike hK, hD⟩, hS.F ht⟩) hS.2.2 dX9_depth_11
def v_X9_sprite (M : ST) (p1 : Int32) (p2 : Int32) (p3 : Int32) (p4 : Int32) (post : Int32 → ST → Prop) : Prop := v_X9_isIn p1 0 7 (fun r_1 => (((r_1 = 0) → post 0 M) ∧ ((¬ (r_1 = 0)) → v_X9_isIn p2 (-8) 63 (fun r_3 => (((r_3 = 0) → post 0 M) ∧ ((¬ (r_3 = 0)) → v_X9_isIn p3 0 63 (fun r_5 => (((r_5 = 0) → post 0 M) ∧ ((¬ (r_5 = 0)) → v_X9_isIn p4 0 8 (fun r_7 => (((¬ (r_7 = 0)) → ∃ k_9 : Nat, k_9 < 23520 ∧ (130 + (11 * p1)) = nI k_9 ∧ ∀ M_10 : ST, M_10 = x_st M 1 k_9 p2 → ∃ k_11 : Nat, k_11 < 23520 ∧ ((130 + (11 * p1)) + 1) = nI k_11 ∧ ∀ M_12 : ST, M_12 = x_st M_10 1 k_11 p3 → ∃ k_13 : Nat, k_13 < 23520 ∧ ((130 + (11 * p1)) + 2) = nI k_13 ∧ ∀ M_14 : ST, M_14 = x_st M_12 1 k_13 p4 → post 1 M_14) ∧ ((r_7 = 0) → post 0 M))))))))))))
set_option maxHeartbeats 4000000 in
set_option maxRecDepth 100000 in
theorem c_X9_sprite (l : Launch) (D : va_G) (cT : Nat → ClassId) (a : Nat → Nat) (M : ST) (p1 : Int32) (p2 : Int32) (p3 : Int32) (p4 : Int32) (sz : Nat) (post : Int32 → ST → Prop) (hv : v_X9_sprite M p1 p2 p3 p4 post) : Met l yX9_sprite wsX9_sprite ({ frames := 1, cells := 0, slots := 0, locals := 22 }) (va_Pc [.ref (a 0), .int p1, .int p2, .int p3, .int p4] (x_U D cT ((w_Model cT a M)) sz)) (va_Qi post (fun u t => x_B D cT ((w_Model cT a u)) (va_A ((w_Model cT a M)) sz) t) (va_A ((w_Model cT a M)) sz)) 0 0 (va_A ((w_Model cT a M)) sz) := by
  refine Met.ofW (cc := cX9_sprite) (maxL := 5) (ret := (some .boolean)) (by decide) rfl ?_
  intro p e s m args below meth c s₁ B hml hpre
  obtain ⟨rfl, hsz, hP, hK, hD0, hN⟩ := hpre
  have hx := B.exec
  have hb := B.bytes
  have hr := B.returns
  have hts := atoms_spec (ws := wsX9_sprite) B.pre
  have hown : s.vm.findClass RX9 = some m.cls := findClass_of_methodNamed B.named
  have hlocks := B.notSynchronized
  subst hsz
  have hD := hD0.self (sz := s.heap.size)
  generalize hAe : va_A ((w_Model cT a M)) s.heap.size = A at hD hN ⊢
  have hA : ∀ q : Nat, s.heap.size ≤ q → A q := fun q h => by rw [← hAe]; exact Or.inr h
  have hS : va_S A s.heap s.heap [] := va_S.rf
  have hl := lv_entry ([.ref (a 0), .int p1, .int p2, .int p3, .int p4]) (n := 5) (Nat.le_of_ble_eq_true rfl)
  rw [lg_entry_eq]
  generalize (lg_sl ([.ref (a 0), .int p1, .int p2, .int p3, .int p4]) ++ List.replicate (5 - (lg_sl ([.ref (a 0), .int p1, .int p2, .int p3, .int p4])).length) Slot.unset).toArray = ls at hl ⊢
  have hl : lv_has ls 5 [(0, .ref (a 0)), (1, .int p1), (2, .int p2), (3, .int p3), (4, .int p4)] := hl
  have in_X9 : ∀ w ∈ wsX90, w ∈ wsX9_sprite := by decide +kernel
  have w_17 : CallB (headSpec wsX9_sprite ({ frames := 1, cells := 0, slots := 0, locals := 22 })).room s ([.ref (a 0), .int p1, .int p2, .int p3, .int p4] : List Value).toArray RX9 17 yX9_isIn cX9_isIn 3 (some .boolean) wsX9_isIn ({ frames := 0, cells := 0, slots := 0, locals := 0 } : Room) 0 0 3 ∧ (Cond.static yX9_isIn).before ([.ref (a 0), .int p1, .int p2, .int p3, .int p4] : List Value).toArray s = true := va_cwS 3 hts gX9_sprite_X9_isIn rfl rfl rfl (by decide +kernel) ⟨Nat.le_of_ble_eq_true rfl, Nat.le_of_ble_eq_true rfl⟩
  have kf_7 : (Cond.fieldLink RX9 7 "PictureBeatsModel" "all" "[I").before ([.ref (a 0), .int p1, .int p2, .int p3, .int p4] : List Value).toArray s = true := hts _ (by decide +kernel)
  refine lv_iload_n hx hb dX9_sprite_0 rfl (lv_at hl 1 rfl) ?_
  refine lv_iconst (v := 0) hx hb dX9_sprite_1 (by decide) ?_
  refine lv_bipush (v := 7) hx hb dX9_sprite_2 (by decide) ?_
  refine x_rS (As := [.int p1, .int 0, .int 7]) (rest := []) ⟨hx, hb, hml, hown, hts⟩ (c_X9_isIn l D cT p1 0 7 _ hv) w_17 hK hS hN rfl hl.1 rfl (Nat.le_of_ble_eq_true rfl) dX9_sprite_4 ⟨Nat.le_of_ble_eq_true rfl, Nat.le_of_ble_eq_true rfl⟩ (fun r_1 hv => ?_)
  refine lv_if_eq (tgt := 42) hx hb dX9_sprite_7 (by decide) (fun c_2 => ?_) (fun c_2 => ?_)
  · have hv := hv.1 c_2
    refine lv_iconst (v := 0) hx hb dX9_sprite_42 (by decide) ?_
    exact W.zret (v := 0) hx hb hr rfl (fun t ht hW => ⟨⟨_, M, rfl, hv, by rw [ht]; exact hP, va_K.moved hW.alike hK, hD⟩, hS.F ht⟩) hS.2.2 dX9_sprite_43
  · have hv := hv.2 c_2
    refine lv_iload_n hx hb dX9_sprite_10 rfl (lv_at hl 2 rfl) ?_
    refine lv_bipush (v := (-8)) hx hb dX9_sprite_11 (by decide) ?_
    refine lv_bipush (v := 63) hx hb dX9_sprite_13 (by decide) ?_
    refine x_rS (As := [.int p2, .int (-8), .int 63]) (rest := []) ⟨hx, hb, hml, hown, hts⟩ (c_X9_isIn l D cT p2 (-8) 63 _ hv) w_17 hK hS hN rfl hl.1 rfl (Nat.le_of_ble_eq_true rfl) dX9_sprite_15 ⟨Nat.le_of_ble_eq_true rfl, Nat.le_of_ble_eq_true rfl⟩ (fun r_3 hv => ?_)
    refine lv_if_eq (tgt := 42) hx hb dX9_sprite_18 (by decide) (fun c_4 => ?_) (fun c_4 => ?_)
    · have hv := hv.1 c_4
      refine lv_iconst (v := 0) hx hb dX9_sprite_42 (by decide) ?_
      exact W.zret (v := 0) hx hb hr rfl (fun t ht hW => ⟨⟨_, M, rfl, hv, by rw [ht]; exact hP, va_K.moved hW.alike hK, hD⟩, hS.F ht⟩) hS.2.2 dX9_sprite_43
    · have hv := hv.2 c_4
      refine lv_iload_n hx hb dX9_sprite_21 rfl (lv_at hl 3 rfl) ?_
      refine lv_iconst (v := 0) hx hb dX9_sprite_22 (by decide) ?_
      refine lv_bipush (v := 63) hx hb dX9_sprite_23 (by decide) ?_
      refine x_rS (As := [.int p3, .int 0, .int 63]) (rest := []) ⟨hx, hb, hml, hown, hts⟩ (c_X9_isIn l D cT p3 0 63 _ hv) w_17 hK hS hN rfl hl.1 rfl (Nat.le_of_ble_eq_true rfl) dX9_sprite_25 ⟨Nat.le_of_ble_eq_true rfl, Nat.le_of_ble_eq_true rfl⟩ (fun r_5 hv => ?_)
      refine lv_if_eq (tgt := 42) hx hb dX9_sprite_28 (by decide) (fun c_6 => ?_) (fun c_6 => ?_)
      · have hv := hv.1 c_6
        refine lv_iconst (v := 0) hx hb dX9_sprite_42 (by decide) ?_
        exact W.zret (v := 0) hx hb hr rfl (fun t ht hW => ⟨⟨_, M, rfl, hv, by rw [ht]; exact hP, va_K.moved hW.alike hK, hD⟩, hS.F ht⟩) hS.2.2 dX9_sprite_43
      · have hv := hv.2 c_6
        refine lv_iload hx hb dX9_sprite_31 (lv_at hl 4 rfl) ?_
        refine lv_iconst (v := 0) hx hb dX9_sprite_33 (by decide) ?_
        refine lv_bipush (v := 8) hx hb dX9_sprite_34 (by decide) ?_
        refine x_rS (As := [.int p4, .int 0, .int 8]) (rest := []) ⟨hx, hb, hml, hown, hts⟩ (c_X9_isIn l D cT p4 0 8 _ hv) w_17 hK hS hN rfl hl.1 rfl (Nat.le_of_ble_eq_true rfl) dX9_sprite_36 ⟨Nat.le_of_ble_eq_true rfl, Nat.le_of_ble_eq_true rfl⟩ (fun r_7 hv => ?_)
        refine lv_if_ne (tgt := 44) hx hb dX9_sprite_39 (by decide) (fun c_8 => ?_) (fun c_8 => ?_)
        · have hv := hv.1 c_8
          refine lv_aload_n hx hb dX9_sprite_44 rfl (lv_at hl 0 rfl) ?_
          refine va_get (D := D) (ci := 9) (v := .ref (a 1)) (C := RX9) (T := TX9) (N := 2) hx hb hts in_X9 hown hK hP 0 rfl rfl 0 (by decide) kf_7 (fun _ h9 => h9) rfl dX9_sprite_45 ?_
          refine lv_sipush (v := 130) hx hb dX9_sprite_48 (by decide) ?_
          refine lv_bipush (v := 11) hx hb dX9_sprite_51 (by decide) ?_
          refine lv_iload_n hx hb dX9_sprite_53 rfl (lv_at hl 1 rfl) ?_
          refine lv_imul hx hb dX9_sprite_54 ?_
          refine lv_iadd hx hb dX9_sprite_55 ?_
          refine lv_iload_n hx hb dX9_sprite_56 rfl (lv_at hl 2 rfl) ?_
          obtain ⟨k_9, hk_9, ik_9, hv⟩ := hv
          refine x_ast hx hb hK hP hD hS 1 0 rfl rfl k_9 ik_9 hk_9 (by decide) dX9_sprite_57 (fun H locs hP hD hS => ?_)
          obtain ⟨M_10, eM_10⟩ : ∃ z : ST, z = x_st M 1 k_9 p2 := ⟨_, rfl⟩
          have hP : va_P D vwCl ((w_Model cT a M_10)) H := by rw [eM_10]; exact hP
          have hD : va_D A ((w_Model cT a M_10)) := by rw [eM_10]; exact hD
          have hv := hv M_10 eM_10
          refine lv_aload_n hx hb dX9_sprite_58 rfl (lv_at hl 0 rfl) ?_
          refine va_get (D := D) (ci := 9) (v := .ref (a 1)) (C := RX9) (T := TX9) (N := 2) hx hb hts in_X9 hown hK hP 0 rfl rfl 0 (by decide) kf_7 (fun _ h9 => h9) rfl dX9_sprite_59 ?_
          refine lv_sipush (v := 130) hx hb dX9_sprite_62 (by decide) ?_
          refine lv_bipush (v := 11) hx hb dX9_sprite_65 (by decide) ?_
          refine lv_iload_n hx hb dX9_sprite_67 rfl (lv_at hl 1 rfl) ?_
          refine lv_imul hx hb dX9_sprite_68 ?_
          refine lv_iadd hx hb dX9_sprite_69 ?_
          refine lv_iconst (v := 1) hx hb dX9_sprite_70 (by decide) ?_
          refine lv_iadd hx hb dX9_sprite_71 ?_
          refine lv_iload_n hx hb dX9_sprite_72 rfl (lv_at hl 3 rfl) ?_
          obtain ⟨k_11, hk_11, ik_11, hv⟩ := hv
          refine x_ast hx hb hK hP hD hS 1 0 rfl rfl k_11 ik_11 hk_11 (by decide) dX9_sprite_73 (fun H locs hP hD hS => ?_)
          obtain ⟨M_12, eM_12⟩ : ∃ z : ST, z = x_st M_10 1 k_11 p3 := ⟨_, rfl⟩
          have hP : va_P D vwCl ((w_Model cT a M_12)) H := by rw [eM_12]; exact hP
          have hD : va_D A ((w_Model cT a M_12)) := by rw [eM_12]; exact hD
          have hv := hv M_12 eM_12
          refine lv_aload_n hx hb dX9_sprite_74 rfl (lv_at hl 0 rfl) ?_
          refine va_get (D := D) (ci := 9) (v := .ref (a 1)) (C := RX9) (T := TX9) (N := 2) hx hb hts in_X9 hown hK hP 0 rfl rfl 0 (by decide) kf_7 (fun _ h9 => h9) rfl dX9_sprite_75 ?_
          refine lv_sipush (v := 130) hx hb dX9_sprite_78 (by decide) ?_
          refine lv_bipush (v := 11) hx hb dX9_sprite_81 (by decide) ?_
          refine lv_iload_n hx hb dX9_sprite_83 rfl (lv_at hl 1 rfl) ?_
          refine lv_imul hx hb dX9_sprite_84 ?_
          refine lv_iadd hx hb dX9_sprite_85 ?_
          refine lv_iconst (v := 2) hx hb dX9_sprite_86 (by decide) ?_
          refine lv_iadd hx hb dX9_sprite_87 ?_
          refine lv_iload hx hb dX9_sprite_88 (lv_at hl 4 rfl) ?_
          obtain ⟨k_13, hk_13, ik_13, hv⟩ := hv
          refine x_ast hx hb hK hP hD hS 1 0 rfl rfl k_13 ik_13 hk_13 (by decide) dX9_sprite_90 (fun H locs hP hD hS => ?_)
          obtain ⟨M_14, eM_14⟩ : ∃ z : ST, z = x_st M_12 1 k_13 p4 := ⟨_, rfl⟩
          have hP : va_P D vwCl ((w_Model cT a M_14)) H := by rw [eM_14]; exact hP
          have hD : va_D A ((w_Model cT a M_14)) := by rw [eM_14]; exact hD
          have hv := hv M_14 eM_14
          refine lv_iconst (v := 1) hx hb dX9_sprite_91 (by decide) ?_
          exact W.zret (v := 1) hx hb hr rfl (fun t ht hW => ⟨⟨_, M_14, rfl, hv, by rw [ht]; exact hP, va_K.moved hW.alike hK, hD⟩, hS.F ht⟩) hS.2.2 dX9_sprite_92
        · have hv := hv.2 c_8
          refine lv_iconst (v := 0) hx hb dX9_sprite_42 (by decide) ?_
          exact W.zret (v := 0) hx hb hr rfl (fun t ht hW => ⟨⟨_, M, rfl, hv, by rw [ht]; exact hP, va_K.moved hW.alike hK, hD⟩, hS.F ht⟩) hS.2.2 dX9_sprite_43
def lp_X9_bits_15 (p1 : Int32) (p2 : Int32) (p3 : Int32) (post : Int32 → ST → Prop) (K_ : Int32 → ST → Prop) : Nat → Int32 → ST → Prop
  | 0, _, _ => False
  | n_8 + 1, y_6, M_7 => (((4 ≤ y_6) → K_ y_6 M_7) ∧ ((¬ (4 ≤ y_6)) → (((p2 = 0) → ∃ k_11 : Nat, k_11 < 23520 ∧ (((130 + (11 * p1)) + 7) + y_6) = nI k_11 ∧ ∀ M_12 : ST, M_12 = x_st M_7 1 k_11 ((p3 >>> ((24 - (8 * y_6)) &&& 31)) &&& 255) → ∀ x_13 : Int32, x_13 = y_6 + 1 → lp_X9_bits_15 p1 p2 p3 post K_ n_8 x_13 M_12) ∧ ((¬ (p2 = 0)) → ∃ k_14 : Nat, k_14 < 23520 ∧ (((130 + (11 * p1)) + 3) + y_6) = nI k_14 ∧ ∀ M_15 : ST, M_15 = x_st M_7 1 k_14 ((p3 >>> ((24 - (8 * y_6)) &&& 31)) &&& 255) → ∀ x_16 : Int32, x_16 = y_6 + 1 → lp_X9_bits_15 p1 p2 p3 post K_ n_8 x_16 M_15))))
def v_X9_bits (M : ST) (p1 : Int32) (p2 : Int32) (p3 : Int32) (post : Int32 → ST → Prop) : Prop := v_X9_isIn p1 0 7 (fun r_1 => (((¬ (r_1 = 0)) → (∃ n_17 : Nat, lp_X9_bits_15 p1 p2 p3 post (fun (y_4 : Int32) (M_5 : ST) => post 1 M_5) n_17 0 M)) ∧ ((r_1 = 0) → post 0 M)))
set_option maxHeartbeats 4000000 in
set_option maxRecDepth 100000 in
theorem c_X9_bits (l : Launch) (D : va_G) (cT : Nat → ClassId) (a : Nat → Nat) (M : ST) (p1 : Int32) (p2 : Int32) (p3 : Int32) (sz : Nat) (post : Int32 → ST → Prop) (hv : v_X9_bits M p1 p2 p3 post) : Met l yX9_bits wsX9_bits ({ frames := 1, cells := 0, slots := 0, locals := 22 }) (va_Pc [.ref (a 0), .int p1, .int p2, .int p3] (x_U D cT ((w_Model cT a M)) sz)) (va_Qi post (fun u t => x_B D cT ((w_Model cT a u)) (va_A ((w_Model cT a M)) sz) t) (va_A ((w_Model cT a M)) sz)) 0 0 (va_A ((w_Model cT a M)) sz) := by
  refine Met.ofW (cc := cX9_bits) (maxL := 5) (ret := (some .boolean)) (by decide) rfl ?_
  intro p e s m args below meth c s₁ B hml hpre
  obtain ⟨rfl, hsz, hP, hK, hD0, hN⟩ := hpre
  have hx := B.exec
  have hb := B.bytes
  have hr := B.returns
  have hts := atoms_spec (ws := wsX9_bits) B.pre
  have hown : s.vm.findClass RX9 = some m.cls := findClass_of_methodNamed B.named
  have hlocks := B.notSynchronized
  subst hsz
  have hD := hD0.self (sz := s.heap.size)
  generalize hAe : va_A ((w_Model cT a M)) s.heap.size = A at hD hN ⊢
  have hA : ∀ q : Nat, s.heap.size ≤ q → A q := fun q h => by rw [← hAe]; exact Or.inr h
  have hS : va_S A s.heap s.heap [] := va_S.rf
  have hl := lv_entry ([.ref (a 0), .int p1, .int p2, .int p3]) (n := 5) (Nat.le_of_ble_eq_true rfl)
  rw [lg_entry_eq]
  generalize (lg_sl ([.ref (a 0), .int p1, .int p2, .int p3]) ++ List.replicate (5 - (lg_sl ([.ref (a 0), .int p1, .int p2, .int p3])).length) Slot.unset).toArray = ls at hl ⊢
  have hl : lv_has ls 5 [(0, .ref (a 0)), (1, .int p1), (2, .int p2), (3, .int p3)] := hl
  have in_X9 : ∀ w ∈ wsX90, w ∈ wsX9_bits := by decide +kernel
  have w_17 : CallB (headSpec wsX9_bits ({ frames := 1, cells := 0, slots := 0, locals := 22 })).room s ([.ref (a 0), .int p1, .int p2, .int p3] : List Value).toArray RX9 17 yX9_isIn cX9_isIn 3 (some .boolean) wsX9_isIn ({ frames := 0, cells := 0, slots := 0, locals := 0 } : Room) 0 0 3 ∧ (Cond.static yX9_isIn).before ([.ref (a 0), .int p1, .int p2, .int p3] : List Value).toArray s = true := va_cwS 3 hts gX9_bits_X9_isIn rfl rfl rfl (by decide +kernel) ⟨Nat.le_of_ble_eq_true rfl, Nat.le_of_ble_eq_true rfl⟩
  have kf_7 : (Cond.fieldLink RX9 7 "PictureBeatsModel" "all" "[I").before ([.ref (a 0), .int p1, .int p2, .int p3] : List Value).toArray s = true := hts _ (by decide +kernel)
  refine lv_iload_n hx hb dX9_bits_0 rfl (lv_at hl 1 rfl) ?_
  refine lv_iconst (v := 0) hx hb dX9_bits_1 (by decide) ?_
  refine lv_bipush (v := 7) hx hb dX9_bits_2 (by decide) ?_
  refine x_rS (As := [.int p1, .int 0, .int 7]) (rest := []) ⟨hx, hb, hml, hown, hts⟩ (c_X9_isIn l D cT p1 0 7 _ hv) w_17 hK hS hN rfl hl.1 rfl (Nat.le_of_ble_eq_true rfl) dX9_bits_4 ⟨Nat.le_of_ble_eq_true rfl, Nat.le_of_ble_eq_true rfl⟩ (fun r_1 hv => ?_)
  refine lv_if_ne (tgt := 12) hx hb dX9_bits_7 (by decide) (fun c_2 => ?_) (fun c_2 => ?_)
  · have hv := hv.1 c_2
    refine lv_iconst (v := 0) hx hb dX9_bits_12 (by decide) ?_
    refine lv_istore (lv' := [(4, .int 0), (0, .ref (a 0)), (1, .int p1), (2, .int p2), (3, .int p3)]) hx hb dX9_bits_13 hl (by decide) rfl (fun ls hl => ?_)
    obtain ⟨n_17, hv⟩ := hv
    have K_L_3 : ∀ (y_4 : Int32) (M_5 : ST), (post 1 M_5) → ∀ (H : Heap) (locs : List Loc), va_P D vwCl ((w_Model cT a M_5)) H → va_D A ((w_Model cT a M_5)) → va_S A s.heap H locs → ∀ ls : Array Slot, lv_has ls 5 [(4, .int y_4), (0, .ref (a 0)), (1, .int p1), (2, .int p2), (3, .int p3)] → W p l e (headSpec wsX9_bits ({ frames := 1, cells := 0, slots := 0, locals := 22 })).room s m ([.ref (a 0), .int p1, .int p2, .int p3] : List Value).toArray below meth c H locs 0 0 (MQ below (va_Qi post (fun u t => x_B D cT ((w_Model cT a u)) A t) A) ([.ref (a 0), .int p1, .int p2, .int p3] : List Value).toArray s 0 0 A) (F0 m 68 ls []) := by
      intro y_4 M_5 hv H locs hP hD hS ls hl
      refine lv_iconst (v := 1) hx hb dX9_bits_68 (by decide) ?_
      exact W.zret (v := 1) hx hb hr rfl (fun t ht hW => ⟨⟨_, M_5, rfl, hv, by rw [ht]; exact hP, va_K.moved hW.alike hK, hD⟩, hS.F ht⟩) hS.2.2 dX9_bits_69
    have L_3 : ∀ n_8 : Nat, ∀ (y_6 : Int32) (M_7 : ST), (lp_X9_bits_15 p1 p2 p3 post (fun (y_4 : Int32) (M_5 : ST) => post 1 M_5) n_8 y_6 M_7) → ∀ (H : Heap) (locs : List Loc), va_P D vwCl ((w_Model cT a M_7)) H → va_D A ((w_Model cT a M_7)) → va_S A s.heap H locs → ∀ ls : Array Slot, lv_has ls 5 [(4, .int y_6), (0, .ref (a 0)), (1, .int p1), (2, .int p2), (3, .int p3)] → W p l e (headSpec wsX9_bits ({ frames := 1, cells := 0, slots := 0, locals := 22 })).room s m ([.ref (a 0), .int p1, .int p2, .int p3] : List Value).toArray below meth c H locs 0 0 (MQ below (va_Qi post (fun u t => x_B D cT ((w_Model cT a u)) A t) A) ([.ref (a 0), .int p1, .int p2, .int p3] : List Value).toArray s 0 0 A) (F0 m 15 ls []) := by
      intro n_8
      induction n_8 with
      | zero =>
        intro y_6 M_7 hv
        exact hv.elim
      | succ n_8 L_3_ih =>
        intro y_6 M_7 hv H locs hP hD hS ls hl
        refine lv_iload hx hb dX9_bits_15 (lv_at hl 0 rfl) ?_
        refine lv_iconst (v := 4) hx hb dX9_bits_17 (by decide) ?_
        refine lv_icmp_ge (tgt := 68) hx hb dX9_bits_18 (by decide) (fun c_9 => ?_) (fun c_9 => ?_)
        · have hv := hv.1 c_9
          exact K_L_3 _ _ hv H locs hP hD hS ls (lv_sub hl [0, 1, 2, 3, 4] rfl)
        · have hv := hv.2 c_9
          refine lv_aload_n hx hb dX9_bits_21 rfl (lv_at hl 1 rfl) ?_
          refine va_get (D := D) (ci := 9) (v := .ref (a 1)) (C := RX9) (T := TX9) (N := 2) hx hb hts in_X9 hown hK hP 0 rfl rfl 0 (by decide) kf_7 (fun _ h9 => h9) rfl dX9_bits_22 ?_
          refine lv_sipush (v := 130) hx hb dX9_bits_25 (by decide) ?_
          refine lv_bipush (v := 11) hx hb dX9_bits_28 (by decide) ?_
          refine lv_iload_n hx hb dX9_bits_30 rfl (lv_at hl 2 rfl) ?_
          refine lv_imul hx hb dX9_bits_31 ?_
          refine lv_iadd hx hb dX9_bits_32 ?_
          refine lv_iload_n hx hb dX9_bits_33 rfl (lv_at hl 3 rfl) ?_
          refine lv_if_eq (tgt := 41) hx hb dX9_bits_34 (by decide) (fun c_10 => ?_) (fun c_10 => ?_)
          · have hv := hv.1 c_10
            refine lv_bipush (v := 7) hx hb dX9_bits_41 (by decide) ?_
            refine lv_iadd hx hb dX9_bits_43 ?_
            refine lv_iload hx hb dX9_bits_44 (lv_at hl 0 rfl) ?_
            refine lv_iadd hx hb dX9_bits_46 ?_
            refine lv_iload_n hx hb dX9_bits_47 rfl (lv_at hl 4 rfl) ?_
            refine lv_bipush (v := 24) hx hb dX9_bits_48 (by decide) ?_
            refine lv_bipush (v := 8) hx hb dX9_bits_50 (by decide) ?_
            refine lv_iload hx hb dX9_bits_52 (lv_at hl 0 rfl) ?_
            refine lv_imul hx hb dX9_bits_54 ?_
            refine lv_isub hx hb dX9_bits_55 ?_
            refine lv_ishr hx hb dX9_bits_56 ?_
            refine lv_sipush (v := 255) hx hb dX9_bits_57 (by decide) ?_
            refine lv_iand hx hb dX9_bits_60 ?_
            obtain ⟨k_11, hk_11, ik_11, hv⟩ := hv
            refine x_ast hx hb hK hP hD hS 1 0 rfl rfl k_11 ik_11 hk_11 (by decide) dX9_bits_61 (fun H locs hP hD hS => ?_)
            obtain ⟨M_12, eM_12⟩ : ∃ z : ST, z = x_st M_7 1 k_11 ((p3 >>> ((24 - (8 * y_6)) &&& 31)) &&& 255) := ⟨_, rfl⟩
            have hP : va_P D vwCl ((w_Model cT a M_12)) H := by rw [eM_12]; exact hP
            have hD : va_D A ((w_Model cT a M_12)) := by rw [eM_12]; exact hD
            have hv := hv M_12 eM_12
            obtain ⟨x_13, ex_13⟩ : ∃ z : Int32, z = y_6 + 1 := ⟨_, rfl⟩
            have hv := hv x_13 ex_13
            refine lv_iinc (v := x_13) (lv' := [(4, .int x_13), (0, .ref (a 0)), (1, .int p1), (2, .int p2), (3, .int p3)]) hx hb dX9_bits_62 hl (k := 0) rfl (by rw [ex_13]; rfl) (by decide) rfl (fun ls hl => ?_)
            refine lv_goto (tgt := 15) hx hb dX9_bits_65 (by decide) ?_
            exact L_3_ih _ _ hv H locs hP hD hS ls (lv_sub hl [0, 1, 2, 3, 4] rfl)
          · have hv := hv.2 c_10
            refine lv_iconst (v := 3) hx hb dX9_bits_37 (by decide) ?_
            refine lv_goto (tgt := 43) hx hb dX9_bits_38 (by decide) ?_
            refine lv_iadd hx hb dX9_bits_43 ?_
            refine lv_iload hx hb dX9_bits_44 (lv_at hl 0 rfl) ?_
            refine lv_iadd hx hb dX9_bits_46 ?_
            refine lv_iload_n hx hb dX9_bits_47 rfl (lv_at hl 4 rfl) ?_
            refine lv_bipush (v := 24) hx hb dX9_bits_48 (by decide) ?_
            refine lv_bipush (v := 8) hx hb dX9_bits_50 (by decide) ?_
            refine lv_iload hx hb dX9_bits_52 (lv_at hl 0 rfl) ?_
            refine lv_imul hx hb dX9_bits_54 ?_
            refine lv_isub hx hb dX9_bits_55 ?_
            refine lv_ishr hx hb dX9_bits_56 ?_
            refine lv_sipush (v := 255) hx hb dX9_bits_57 (by decide) ?_
            refine lv_iand hx hb dX9_bits_60 ?_
            obtain ⟨k_14, hk_14, ik_14, hv⟩ := hv
            refine x_ast hx hb hK hP hD hS 1 0 rfl rfl k_14 ik_14 hk_14 (by decide) dX9_bits_61 (fun H locs hP hD hS => ?_)
            obtain ⟨M_15, eM_15⟩ : ∃ z : ST, z = x_st M_7 1 k_14 ((p3 >>> ((24 - (8 * y_6)) &&& 31)) &&& 255) := ⟨_, rfl⟩
            have hP : va_P D vwCl ((w_Model cT a M_15)) H := by rw [eM_15]; exact hP
            have hD : va_D A ((w_Model cT a M_15)) := by rw [eM_15]; exact hD
            have hv := hv M_15 eM_15
            obtain ⟨x_16, ex_16⟩ : ∃ z : Int32, z = y_6 + 1 := ⟨_, rfl⟩
            have hv := hv x_16 ex_16
            refine lv_iinc (v := x_16) (lv' := [(4, .int x_16), (0, .ref (a 0)), (1, .int p1), (2, .int p2), (3, .int p3)]) hx hb dX9_bits_62 hl (k := 0) rfl (by rw [ex_16]; rfl) (by decide) rfl (fun ls hl => ?_)
            refine lv_goto (tgt := 15) hx hb dX9_bits_65 (by decide) ?_
            exact L_3_ih _ _ hv H locs hP hD hS ls (lv_sub hl [0, 1, 2, 3, 4] rfl)
    exact L_3 n_17 _ _ hv _ _ hP hD hS ls hl
  · have hv := hv.2 c_2
    refine lv_iconst (v := 0) hx hb dX9_bits_10 (by decide) ?_
    exact W.zret (v := 0) hx hb hr rfl (fun t ht hW => ⟨⟨_, M, rfl, hv, by rw [ht]; exact hP, va_K.moved hW.alike hK, hD⟩, hS.F ht⟩) hS.2.2 dX9_bits_11
def v_X9_hasRow (M : ST) (p1 : Int32) (p2 : Int32) (post : Int32 → Prop) : Prop := ∃ k_1 : Nat, k_1 < 23520 ∧ ((130 + (11 * p1)) + 1) = nI k_1 ∧ ∀ x_2 : Int32, x_2 = (p2 - (M 1 k_1)) → (((x_2 < 0) → post 0) ∧ ((¬ (x_2 < 0)) → ∃ k_4 : Nat, k_4 < 23520 ∧ ((130 + (11 * p1)) + 2) = nI k_4 ∧ ((((M 1 k_4) ≤ x_2) → post 0) ∧ ((¬ ((M 1 k_4) ≤ x_2)) → post 1))))
set_option maxHeartbeats 4000000 in
set_option maxRecDepth 100000 in
theorem c_X9_hasRow (l : Launch) (D : va_G) (cT : Nat → ClassId) (a : Nat → Nat) (M : ST) (p1 : Int32) (p2 : Int32) (post : Int32 → Prop) (hv : v_X9_hasRow M p1 p2 post) : Met l yX9_hasRow wsX9_hasRow ({ frames := 0, cells := 0, slots := 0, locals := 0 }) (va_Pc [.ref (a 0), .int p1, .int p2] (x_R D cT ((w_Model cT a M)))) (vp_Si post) 0 0 (fun _ => False) := by
  refine Met.ofW (cc := cX9_hasRow) (maxL := 4) (ret := (some .boolean)) (by decide) rfl ?_
  intro p e s m args below meth c s₁ B hml hpre
  obtain ⟨rfl, hP, hK, hN⟩ := hpre
  have hx := B.exec
  have hb := B.bytes
  have hr := B.returns
  have hts := atoms_spec (ws := wsX9_hasRow) B.pre
  have hown : s.vm.findClass RX9 = some m.cls := findClass_of_methodNamed B.named
  have hlocks := B.notSynchronized
  have hS : va_S (fun _ : Nat => False) s.heap s.heap [] := va_S.rf
  have hl := lv_entry ([.ref (a 0), .int p1, .int p2]) (n := 4) (Nat.le_of_ble_eq_true rfl)
  rw [lg_entry_eq]
  generalize (lg_sl ([.ref (a 0), .int p1, .int p2]) ++ List.replicate (4 - (lg_sl ([.ref (a 0), .int p1, .int p2])).length) Slot.unset).toArray = ls at hl ⊢
  have hl : lv_has ls 4 [(0, .ref (a 0)), (1, .int p1), (2, .int p2)] := hl
  have in_X9 : ∀ w ∈ wsX90, w ∈ wsX9_hasRow := by decide +kernel
  have kf_7 : (Cond.fieldLink RX9 7 "PictureBeatsModel" "all" "[I").before ([.ref (a 0), .int p1, .int p2] : List Value).toArray s = true := hts _ (by decide +kernel)
  refine lv_iload_n hx hb dX9_hasRow_0 rfl (lv_at hl 2 rfl) ?_
  refine lv_aload_n hx hb dX9_hasRow_1 rfl (lv_at hl 0 rfl) ?_
  refine va_get (D := D) (ci := 9) (v := .ref (a 1)) (C := RX9) (T := TX9) (N := 2) hx hb hts in_X9 hown hK hP 0 rfl rfl 0 (by decide) kf_7 (fun _ h9 => h9) rfl dX9_hasRow_2 ?_
  refine lv_sipush (v := 130) hx hb dX9_hasRow_5 (by decide) ?_
  refine lv_bipush (v := 11) hx hb dX9_hasRow_8 (by decide) ?_
  refine lv_iload_n hx hb dX9_hasRow_10 rfl (lv_at hl 1 rfl) ?_
  refine lv_imul hx hb dX9_hasRow_11 ?_
  refine lv_iadd hx hb dX9_hasRow_12 ?_
  refine lv_iconst (v := 1) hx hb dX9_hasRow_13 (by decide) ?_
  refine lv_iadd hx hb dX9_hasRow_14 ?_
  obtain ⟨k_1, hk_1, ik_1, hv⟩ := hv
  refine x_ald hx hb hK hP 1 0 rfl rfl k_1 ik_1 hk_1 (by decide) dX9_hasRow_15 ?_
  refine lv_isub hx hb dX9_hasRow_16 ?_
  refine lv_topi (fun x_2 ex_2 => ?_)
  have hv := hv x_2 ex_2
  refine lv_istore_n (lv' := [(3, .int x_2), (0, .ref (a 0)), (1, .int p1), (2, .int p2)]) hx hb dX9_hasRow_17 rfl hl (by decide) rfl (fun ls hl => ?_)
  refine lv_iload_n hx hb dX9_hasRow_18 rfl (lv_at hl 0 rfl) ?_
  refine lv_if_lt (tgt := 45) hx hb dX9_hasRow_19 (by decide) (fun c_3 => ?_) (fun c_3 => ?_)
  · have hv := hv.1 c_3
    refine lv_iconst (v := 0) hx hb dX9_hasRow_45 (by decide) ?_
    exact W.zret (v := 0) hx hb hr rfl (fun t ht hW => ⟨_, rfl, hv, ht⟩) (fun q h => absurd h List.not_mem_nil) dX9_hasRow_46
  · have hv := hv.2 c_3
    refine lv_iload_n hx hb dX9_hasRow_22 rfl (lv_at hl 0 rfl) ?_
    refine lv_aload_n hx hb dX9_hasRow_23 rfl (lv_at hl 1 rfl) ?_
    refine va_get (D := D) (ci := 9) (v := .ref (a 1)) (C := RX9) (T := TX9) (N := 2) hx hb hts in_X9 hown hK hP 0 rfl rfl 0 (by decide) kf_7 (fun _ h9 => h9) rfl dX9_hasRow_24 ?_
    refine lv_sipush (v := 130) hx hb dX9_hasRow_27 (by decide) ?_
    refine lv_bipush (v := 11) hx hb dX9_hasRow_30 (by decide) ?_
    refine lv_iload_n hx hb dX9_hasRow_32 rfl (lv_at hl 2 rfl) ?_
    refine lv_imul hx hb dX9_hasRow_33 ?_
    refine lv_iadd hx hb dX9_hasRow_34 ?_
    refine lv_iconst (v := 2) hx hb dX9_hasRow_35 (by decide) ?_
    refine lv_iadd hx hb dX9_hasRow_36 ?_
    obtain ⟨k_4, hk_4, ik_4, hv⟩ := hv
    refine x_ald hx hb hK hP 1 0 rfl rfl k_4 ik_4 hk_4 (by decide) dX9_hasRow_37 ?_
    refine lv_icmp_ge (tgt := 45) hx hb dX9_hasRow_38 (by decide) (fun c_5 => ?_) (fun c_5 => ?_)
    · have hv := hv.1 c_5
      refine lv_iconst (v := 0) hx hb dX9_hasRow_45 (by decide) ?_
      exact W.zret (v := 0) hx hb hr rfl (fun t ht hW => ⟨_, rfl, hv, ht⟩) (fun q h => absurd h List.not_mem_nil) dX9_hasRow_46
    · have hv := hv.2 c_5
      refine lv_iconst (v := 1) hx hb dX9_hasRow_41 (by decide) ?_
      refine lv_goto (tgt := 46) hx hb dX9_hasRow_42 (by decide) ?_
      exact W.zret (v := 1) hx hb hr rfl (fun t ht hW => ⟨_, rfl, hv, ht⟩) (fun q h => absurd h List.not_mem_nil) dX9_hasRow_46
def lp_X9_spritesOf_7 (M : ST) (p1 : Int32) (post : Int32 → Prop) (K_ : Int32 → Int32 → Int32 → Prop) : Nat → Int32 → Int32 → Int32 → Prop
  | 0, _, _, _ => False
  | n_8 + 1, y_5, y_6, y_7 => (((8 ≤ y_5) → K_ y_5 y_6 y_7) ∧ ((¬ (8 ≤ y_5)) → v_X9_hasRow M y_5 p1 (fun r_10 => (((r_10 = 0) → ∀ x_12 : Int32, x_12 = y_5 + 1 → lp_X9_spritesOf_7 M p1 post K_ n_8 x_12 y_6 y_7) ∧ ((¬ (r_10 = 0)) → (((¬ (y_6 = 3)) → ∀ x_14 : Int32, x_14 = (y_7 ||| (1 <<< (y_5 &&& 31))) → ∀ x_15 : Int32, x_15 = y_6 + 1 → ∀ x_16 : Int32, x_16 = y_5 + 1 → lp_X9_spritesOf_7 M p1 post K_ n_8 x_16 x_15 x_14) ∧ ((y_6 = 3) → ∀ x_17 : Int32, x_17 = y_5 + 1 → lp_X9_spritesOf_7 M p1 post K_ n_8 x_17 y_6 y_7)))))))
def v_X9_spritesOf (M : ST) (p1 : Int32) (post : Int32 → Prop) : Prop := (∃ n_18 : Nat, lp_X9_spritesOf_7 M p1 post (fun (y_2 : Int32) (y_3 : Int32) (y_4 : Int32) => post y_4) n_18 0 0 0)
set_option maxHeartbeats 4000000 in
set_option maxRecDepth 100000 in
theorem c_X9_spritesOf (l : Launch) (D : va_G) (cT : Nat → ClassId) (a : Nat → Nat) (M : ST) (p1 : Int32) (post : Int32 → Prop) (hv : v_X9_spritesOf M p1 post) : Met l yX9_spritesOf wsX9_spritesOf ({ frames := 1, cells := 0, slots := 0, locals := 23 }) (va_Pc [.ref (a 0), .int p1] (x_R D cT ((w_Model cT a M)))) (vp_Si post) 0 0 (fun _ => False) := by
  refine Met.ofW (cc := cX9_spritesOf) (maxL := 5) (ret := (some .int)) (by decide) rfl ?_
  intro p e s m args below meth c s₁ B hml hpre
  obtain ⟨rfl, hP, hK, hN⟩ := hpre
  have hx := B.exec
  have hb := B.bytes
  have hr := B.returns
  have hts := atoms_spec (ws := wsX9_spritesOf) B.pre
  have hown : s.vm.findClass RX9 = some m.cls := findClass_of_methodNamed B.named
  have hlocks := B.notSynchronized
  have hS : va_S (fun _ : Nat => False) s.heap s.heap [] := va_S.rf
  have hl := lv_entry ([.ref (a 0), .int p1]) (n := 5) (Nat.le_of_ble_eq_true rfl)
  rw [lg_entry_eq]
  generalize (lg_sl ([.ref (a 0), .int p1]) ++ List.replicate (5 - (lg_sl ([.ref (a 0), .int p1])).length) Slot.unset).toArray = ls at hl ⊢
  have hl : lv_has ls 5 [(0, .ref (a 0)), (1, .int p1)] := hl
  have w_25 : CallW (headSpec wsX9_spritesOf ({ frames := 1, cells := 0, slots := 0, locals := 23 })).room s ([.ref (a 0), .int p1] : List Value).toArray RX9 RX9 25 yX9_hasRow cX9_hasRow 4 (some .boolean) wsX9_hasRow ({ frames := 0, cells := 0, slots := 0, locals := 0 } : Room) 0 0 2 := cwV 2 hts gX9_spritesOf_X9_hasRow rfl rfl rfl (by decide +kernel) ⟨Nat.le_of_ble_eq_true rfl, Nat.le_of_ble_eq_true rfl⟩
  refine lv_iconst (v := 0) hx hb dX9_spritesOf_0 (by decide) ?_
  refine lv_istore_n (lv' := [(2, .int 0), (0, .ref (a 0)), (1, .int p1)]) hx hb dX9_spritesOf_1 rfl hl (by decide) rfl (fun ls hl => ?_)
  refine lv_iconst (v := 0) hx hb dX9_spritesOf_2 (by decide) ?_
  refine lv_istore_n (lv' := [(3, .int 0), (2, .int 0), (0, .ref (a 0)), (1, .int p1)]) hx hb dX9_spritesOf_3 rfl hl (by decide) rfl (fun ls hl => ?_)
  refine lv_iconst (v := 0) hx hb dX9_spritesOf_4 (by decide) ?_
  refine lv_istore (lv' := [(4, .int 0), (3, .int 0), (2, .int 0), (0, .ref (a 0)), (1, .int p1)]) hx hb dX9_spritesOf_5 hl (by decide) rfl (fun ls hl => ?_)
  obtain ⟨n_18, hv⟩ := hv
  have K_L_1 : ∀ (y_2 : Int32) (y_3 : Int32) (y_4 : Int32), (post y_4) → ∀ ls : Array Slot, lv_has ls 5 [(4, .int y_2), (3, .int y_3), (2, .int y_4), (0, .ref (a 0)), (1, .int p1)] → W p l e (headSpec wsX9_spritesOf ({ frames := 1, cells := 0, slots := 0, locals := 23 })).room s m ([.ref (a 0), .int p1] : List Value).toArray below meth c s.heap [] 0 0 (MQ below (vp_Si post) ([.ref (a 0), .int p1] : List Value).toArray s 0 0 (fun _ => False)) (F0 m 48 ls []) := by
    intro y_2 y_3 y_4 hv ls hl
    refine lv_iload_n hx hb dX9_spritesOf_48 rfl (lv_at hl 2 rfl) ?_
    exact W.iret (v := y_4) hx hb hr (fun t ht hW => ⟨_, rfl, hv, ht⟩) (fun q h => absurd h List.not_mem_nil) dX9_spritesOf_49
  have L_1 : ∀ n_8 : Nat, ∀ (y_5 : Int32) (y_6 : Int32) (y_7 : Int32), (lp_X9_spritesOf_7 M p1 post (fun (y_2 : Int32) (y_3 : Int32) (y_4 : Int32) => post y_4) n_8 y_5 y_6 y_7) → ∀ ls : Array Slot, lv_has ls 5 [(4, .int y_5), (3, .int y_6), (2, .int y_7), (0, .ref (a 0)), (1, .int p1)] → W p l e (headSpec wsX9_spritesOf ({ frames := 1, cells := 0, slots := 0, locals := 23 })).room s m ([.ref (a 0), .int p1] : List Value).toArray below meth c s.heap [] 0 0 (MQ below (vp_Si post) ([.ref (a 0), .int p1] : List Value).toArray s 0 0 (fun _ => False)) (F0 m 7 ls []) := by
    intro n_8
    induction n_8 with
    | zero =>
      intro y_5 y_6 y_7 hv
      exact hv.elim
    | succ n_8 L_1_ih =>
      intro y_5 y_6 y_7 hv ls hl
      refine lv_iload hx hb dX9_spritesOf_7 (lv_at hl 0 rfl) ?_
      refine lv_bipush (v := 8) hx hb dX9_spritesOf_9 (by decide) ?_
      refine lv_icmp_ge (tgt := 48) hx hb dX9_spritesOf_11 (by decide) (fun c_9 => ?_) (fun c_9 => ?_)
      · have hv := hv.1 c_9
        exact K_L_1 _ _ _ hv ls (lv_sub hl [0, 1, 2, 3, 4] rfl)
      · have hv := hv.2 c_9
        refine lv_aload_n hx hb dX9_spritesOf_14 rfl (lv_at hl 3 rfl) ?_
        refine lv_iload hx hb dX9_spritesOf_15 (lv_at hl 0 rfl) ?_
        refine lv_iload_n hx hb dX9_spritesOf_17 rfl (lv_at hl 4 rfl) ?_
        refine x_rV (As := [.int y_5, .int p1]) (rest := []) ⟨hx, hb, hml, hown, hts⟩ (c_X9_hasRow l D cT a M y_5 p1 _ hv) w_25 hK hP hS hN [0, 1, 2] rfl 9 0 rfl rfl rfl hl.1 rfl (Nat.le_of_ble_eq_true rfl) dX9_spritesOf_18 ⟨Nat.le_of_ble_eq_true rfl, Nat.le_of_ble_eq_true rfl⟩ (fun r_10 hv => ?_)
        refine lv_if_eq (tgt := 42) hx hb dX9_spritesOf_21 (by decide) (fun c_11 => ?_) (fun c_11 => ?_)
        · have hv := hv.1 c_11
          obtain ⟨x_12, ex_12⟩ : ∃ z : Int32, z = y_5 + 1 := ⟨_, rfl⟩
          have hv := hv x_12 ex_12
          refine lv_iinc (v := x_12) (lv' := [(4, .int x_12), (3, .int y_6), (2, .int y_7), (0, .ref (a 0)), (1, .int p1)]) hx hb dX9_spritesOf_42 hl (k := 0) rfl (by rw [ex_12]; rfl) (by decide) rfl (fun ls hl => ?_)
          refine lv_goto (tgt := 7) hx hb dX9_spritesOf_45 (by decide) ?_
          exact L_1_ih _ _ _ hv ls (lv_sub hl [0, 1, 2, 3, 4] rfl)
        · have hv := hv.2 c_11
          refine lv_iload_n hx hb dX9_spritesOf_24 rfl (lv_at hl 1 rfl) ?_
          refine lv_iconst (v := 3) hx hb dX9_spritesOf_25 (by decide) ?_
          refine lv_icmp_ne (tgt := 32) hx hb dX9_spritesOf_26 (by decide) (fun c_13 => ?_) (fun c_13 => ?_)
          · have hv := hv.1 c_13
            refine lv_iload_n hx hb dX9_spritesOf_32 rfl (lv_at hl 2 rfl) ?_
            refine lv_iconst (v := 1) hx hb dX9_spritesOf_33 (by decide) ?_
            refine lv_iload hx hb dX9_spritesOf_34 (lv_at hl 0 rfl) ?_
            refine lv_ishl hx hb dX9_spritesOf_36 ?_
            refine lv_ior hx hb dX9_spritesOf_37 ?_
            refine lv_topi (fun x_14 ex_14 => ?_)
            have hv := hv x_14 ex_14
            refine lv_istore_n (lv' := [(2, .int x_14), (4, .int y_5), (3, .int y_6), (0, .ref (a 0)), (1, .int p1)]) hx hb dX9_spritesOf_38 rfl hl (by decide) rfl (fun ls hl => ?_)
            obtain ⟨x_15, ex_15⟩ : ∃ z : Int32, z = y_6 + 1 := ⟨_, rfl⟩
            have hv := hv x_15 ex_15
            refine lv_iinc (v := x_15) (lv' := [(3, .int x_15), (2, .int x_14), (4, .int y_5), (0, .ref (a 0)), (1, .int p1)]) hx hb dX9_spritesOf_39 hl (k := 2) rfl (by rw [ex_15]; rfl) (by decide) rfl (fun ls hl => ?_)
            obtain ⟨x_16, ex_16⟩ : ∃ z : Int32, z = y_5 + 1 := ⟨_, rfl⟩
            have hv := hv x_16 ex_16
            refine lv_iinc (v := x_16) (lv' := [(4, .int x_16), (3, .int x_15), (2, .int x_14), (0, .ref (a 0)), (1, .int p1)]) hx hb dX9_spritesOf_42 hl (k := 2) rfl (by rw [ex_16]; rfl) (by decide) rfl (fun ls hl => ?_)
            refine lv_goto (tgt := 7) hx hb dX9_spritesOf_45 (by decide) ?_
            exact L_1_ih _ _ _ hv ls (lv_sub hl [0, 1, 2, 3, 4] rfl)
          · have hv := hv.2 c_13
            refine lv_goto (tgt := 42) hx hb dX9_spritesOf_29 (by decide) ?_
            obtain ⟨x_17, ex_17⟩ : ∃ z : Int32, z = y_5 + 1 := ⟨_, rfl⟩
            have hv := hv x_17 ex_17
            refine lv_iinc (v := x_17) (lv' := [(4, .int x_17), (3, .int y_6), (2, .int y_7), (0, .ref (a 0)), (1, .int p1)]) hx hb dX9_spritesOf_42 hl (k := 0) rfl (by rw [ex_17]; rfl) (by decide) rfl (fun ls hl => ?_)
            refine lv_goto (tgt := 7) hx hb dX9_spritesOf_45 (by decide) ?_
            exact L_1_ih _ _ _ hv ls (lv_sub hl [0, 1, 2, 3, 4] rfl)
  exact L_1 n_18 _ _ _ hv ls hl
