def v_X9_shown (M : ST) (p1 : Int32) (p2 : Int32) (post : Int32 → Prop) : Prop := v_X9_isIn p1 0 63 (fun r_1 => (((r_1 = 0) → post (-2)) ∧ ((¬ (r_1 = 0)) → v_X9_isIn p2 0 63 (fun r_3 => (((r_3 = 0) → post (-2)) ∧ ((¬ (r_3 = 0)) → ∃ k_5 : Nat, k_5 < 23520 ∧ ((1770 + (64 * p2)) + p1) = nI k_5 ∧ post ((M 1 k_5) - 1)))))))
set_option maxHeartbeats 4000000 in
set_option maxRecDepth 100000 in
theorem c_X9_shown (l : Launch) (D : va_G) (cT : Nat → ClassId) (a : Nat → Nat) (M : ST) (p1 : Int32) (p2 : Int32) (post : Int32 → Prop) (hv : v_X9_shown M p1 p2 post) : Met l yX9_shown wsX9_shown ({ frames := 1, cells := 0, slots := 0, locals := 22 }) (va_Pc [.ref (a 0), .int p1, .int p2] (x_R D cT ((w_Model cT a M)))) (vp_Si post) 0 0 (fun _ => False) := by
  refine Met.ofW (cc := cX9_shown) (maxL := 3) (ret := (some .int)) (by decide) rfl ?_
  intro p e s m args below meth c s₁ B hml hpre
  obtain ⟨rfl, hP, hK, hN⟩ := hpre
  have hx := B.exec
  have hb := B.bytes
  have hr := B.returns
  have hts := atoms_spec (ws := wsX9_shown) B.pre
  have hown : s.vm.findClass RX9 = some m.cls := findClass_of_methodNamed B.named
  have hlocks := B.notSynchronized
  have hS : va_S (fun _ : Nat => False) s.heap s.heap [] := va_S.rf
  have hl := lv_entry ([.ref (a 0), .int p1, .int p2]) (n := 3) (Nat.le_of_ble_eq_true rfl)
  rw [lg_entry_eq]
  generalize (lg_sl ([.ref (a 0), .int p1, .int p2]) ++ List.replicate (3 - (lg_sl ([.ref (a 0), .int p1, .int p2])).length) Slot.unset).toArray = ls at hl ⊢
  have hl : lv_has ls 3 [(0, .ref (a 0)), (1, .int p1), (2, .int p2)] := hl
  have in_X9 : ∀ w ∈ wsX90, w ∈ wsX9_shown := by decide +kernel
  have w_17 : CallB (headSpec wsX9_shown ({ frames := 1, cells := 0, slots := 0, locals := 22 })).room s ([.ref (a 0), .int p1, .int p2] : List Value).toArray RX9 17 yX9_isIn cX9_isIn 3 (some .boolean) wsX9_isIn ({ frames := 0, cells := 0, slots := 0, locals := 0 } : Room) 0 0 3 ∧ (Cond.static yX9_isIn).before ([.ref (a 0), .int p1, .int p2] : List Value).toArray s = true := va_cwS 3 hts gX9_shown_X9_isIn rfl rfl rfl (by decide +kernel) ⟨Nat.le_of_ble_eq_true rfl, Nat.le_of_ble_eq_true rfl⟩
  have kf_7 : (Cond.fieldLink RX9 7 "PictureBeatsModel" "all" "[I").before ([.ref (a 0), .int p1, .int p2] : List Value).toArray s = true := hts _ (by decide +kernel)
  refine lv_iload_n hx hb dX9_shown_0 rfl (lv_at hl 1 rfl) ?_
  refine lv_iconst (v := 0) hx hb dX9_shown_1 (by decide) ?_
  refine lv_bipush (v := 63) hx hb dX9_shown_2 (by decide) ?_
  refine x_rS (As := [.int p1, .int 0, .int 63]) (rest := []) ⟨hx, hb, hml, hown, hts⟩ (c_X9_isIn l D cT p1 0 63 _ hv) w_17 hK hS hN rfl hl.1 rfl (Nat.le_of_ble_eq_true rfl) dX9_shown_4 ⟨Nat.le_of_ble_eq_true rfl, Nat.le_of_ble_eq_true rfl⟩ (fun r_1 hv => ?_)
  refine lv_if_eq (tgt := 40) hx hb dX9_shown_7 (by decide) (fun c_2 => ?_) (fun c_2 => ?_)
  · have hv := hv.1 c_2
    refine lv_bipush (v := (-2)) hx hb dX9_shown_40 (by decide) ?_
    exact W.iret (v := (-2)) hx hb hr (fun t ht hW => ⟨_, rfl, hv, ht⟩) (fun q h => absurd h List.not_mem_nil) dX9_shown_42
  · have hv := hv.2 c_2
    refine lv_iload_n hx hb dX9_shown_10 rfl (lv_at hl 2 rfl) ?_
    refine lv_iconst (v := 0) hx hb dX9_shown_11 (by decide) ?_
    refine lv_bipush (v := 63) hx hb dX9_shown_12 (by decide) ?_
    refine x_rS (As := [.int p2, .int 0, .int 63]) (rest := []) ⟨hx, hb, hml, hown, hts⟩ (c_X9_isIn l D cT p2 0 63 _ hv) w_17 hK hS hN rfl hl.1 rfl (Nat.le_of_ble_eq_true rfl) dX9_shown_14 ⟨Nat.le_of_ble_eq_true rfl, Nat.le_of_ble_eq_true rfl⟩ (fun r_3 hv => ?_)
    refine lv_if_eq (tgt := 40) hx hb dX9_shown_17 (by decide) (fun c_4 => ?_) (fun c_4 => ?_)
    · have hv := hv.1 c_4
      refine lv_bipush (v := (-2)) hx hb dX9_shown_40 (by decide) ?_
      exact W.iret (v := (-2)) hx hb hr (fun t ht hW => ⟨_, rfl, hv, ht⟩) (fun q h => absurd h List.not_mem_nil) dX9_shown_42
    · have hv := hv.2 c_4
      refine lv_aload_n hx hb dX9_shown_20 rfl (lv_at hl 0 rfl) ?_
      refine va_get (D := D) (ci := 9) (v := .ref (a 1)) (C := RX9) (T := TX9) (N := 2) hx hb hts in_X9 hown hK hP 0 rfl rfl 0 (by decide) kf_7 (fun _ h9 => h9) rfl dX9_shown_21 ?_
      refine lv_sipush (v := 1770) hx hb dX9_shown_24 (by decide) ?_
      refine lv_bipush (v := 64) hx hb dX9_shown_27 (by decide) ?_
      refine lv_iload_n hx hb dX9_shown_29 rfl (lv_at hl 2 rfl) ?_
      refine lv_imul hx hb dX9_shown_30 ?_
      refine lv_iadd hx hb dX9_shown_31 ?_
      refine lv_iload_n hx hb dX9_shown_32 rfl (lv_at hl 1 rfl) ?_
      refine lv_iadd hx hb dX9_shown_33 ?_
      obtain ⟨k_5, hk_5, ik_5, hv⟩ := hv
      refine x_ald hx hb hK hP 1 0 rfl rfl k_5 ik_5 hk_5 (by decide) dX9_shown_34 ?_
      refine lv_iconst (v := 1) hx hb dX9_shown_35 (by decide) ?_
      refine lv_isub hx hb dX9_shown_36 ?_
      refine lv_goto (tgt := 42) hx hb dX9_shown_37 (by decide) ?_
      exact W.iret (v := ((M 1 k_5) - 1)) hx hb hr (fun t ht hW => ⟨_, rfl, hv, ht⟩) (fun q h => absurd h List.not_mem_nil) dX9_shown_42
def v_X9_now (M : ST) (p1 : Int32) (post : Int32 → Prop) : Prop := (((p1 = 0) → post (M 1 20)) ∧ ((p1 = 1) → post (M 1 21)) ∧ ((p1 = 2) → post (M 1 22)) ∧ ((p1 = 3) → v_X9_signalsNow M (fun r_3 => post r_3)) ∧ ((p1 = 4) → v_X9_ticksOf M 0 (fun r_4 => post r_4)) ∧ ((p1 = 5) → v_X9_linesOf M 0 (fun r_5 => post r_5)) ∧ ((p1 = 6) → post (M 1 33)) ∧ ((p1 = 7) → post (M 1 35)) ∧ ((p1 = 8) → post (M 1 24)) ∧ ((p1 = 9) → post (M 1 25)) ∧ ((p1 = 10) → post (M 1 26)) ∧ ((p1 = 11) → v_X9_isTaken M (fun r_6 => (((r_6 = 0) → post 0) ∧ ((¬ (r_6 = 0)) → post 1)))) ∧ ((Int32.toInt p1 < 0 ∨ 11 < Int32.toInt p1) → post (-1)))
set_option maxHeartbeats 4000000 in
set_option maxRecDepth 100000 in
theorem c_X9_now (l : Launch) (D : va_G) (cT : Nat → ClassId) (a : Nat → Nat) (M : ST) (p1 : Int32) (post : Int32 → Prop) (hv : v_X9_now M p1 post) : Met l yX9_now wsX9_now ({ frames := 2, cells := 0, slots := 0, locals := 45 }) (va_Pc [.ref (a 0), .int p1] (x_R D cT ((w_Model cT a M)))) (vp_Si post) 0 0 (fun _ => False) := by
  refine Met.ofW (cc := cX9_now) (maxL := 2) (ret := (some .int)) (by decide) rfl ?_
  intro p e s m args below meth c s₁ B hml hpre
  obtain ⟨rfl, hP, hK, hN⟩ := hpre
  have hx := B.exec
  have hb := B.bytes
  have hr := B.returns
  have hts := atoms_spec (ws := wsX9_now) B.pre
  have hown : s.vm.findClass RX9 = some m.cls := findClass_of_methodNamed B.named
  have hlocks := B.notSynchronized
  have hS : va_S (fun _ : Nat => False) s.heap s.heap [] := va_S.rf
  have hl := lv_entry ([.ref (a 0), .int p1]) (n := 2) (Nat.le_of_ble_eq_true rfl)
  rw [lg_entry_eq]
  generalize (lg_sl ([.ref (a 0), .int p1]) ++ List.replicate (2 - (lg_sl ([.ref (a 0), .int p1])).length) Slot.unset).toArray = ls at hl ⊢
  have hl : lv_has ls 2 [(0, .ref (a 0)), (1, .int p1)] := hl
  have in_X9 : ∀ w ∈ wsX90, w ∈ wsX9_now := by decide +kernel
  have kf_7 : (Cond.fieldLink RX9 7 "PictureBeatsModel" "all" "[I").before ([.ref (a 0), .int p1] : List Value).toArray s = true := hts _ (by decide +kernel)
  have w_65 : CallW (headSpec wsX9_now ({ frames := 2, cells := 0, slots := 0, locals := 45 })).room s ([.ref (a 0), .int p1] : List Value).toArray RX9 RX9 65 yX9_signalsNow cX9_signalsNow 4 (some .int) wsX9_signalsNow ({ frames := 1, cells := 0, slots := 0, locals := 22 } : Room) 0 0 0 := cwV 0 hts gX9_now_X9_signalsNow rfl rfl rfl (by decide +kernel) ⟨Nat.le_of_ble_eq_true rfl, Nat.le_of_ble_eq_true rfl⟩
  have w_53 : CallW (headSpec wsX9_now ({ frames := 2, cells := 0, slots := 0, locals := 45 })).room s ([.ref (a 0), .int p1] : List Value).toArray RX9 RX9 53 yX9_ticksOf cX9_ticksOf 2 (some .int) wsX9_ticksOf ({ frames := 0, cells := 0, slots := 0, locals := 0 } : Room) 0 0 1 := cwV 1 hts gX9_now_X9_ticksOf rfl rfl rfl (by decide +kernel) ⟨Nat.le_of_ble_eq_true rfl, Nat.le_of_ble_eq_true rfl⟩
  have w_28 : CallW (headSpec wsX9_now ({ frames := 2, cells := 0, slots := 0, locals := 45 })).room s ([.ref (a 0), .int p1] : List Value).toArray RX9 RX9 28 yX9_linesOf cX9_linesOf 2 (some .int) wsX9_linesOf ({ frames := 0, cells := 0, slots := 0, locals := 0 } : Room) 0 0 1 := cwV 1 hts gX9_now_X9_linesOf rfl rfl rfl (by decide +kernel) ⟨Nat.le_of_ble_eq_true rfl, Nat.le_of_ble_eq_true rfl⟩
  have w_43 : CallW (headSpec wsX9_now ({ frames := 2, cells := 0, slots := 0, locals := 45 })).room s ([.ref (a 0), .int p1] : List Value).toArray RX9 RX9 43 yX9_isTaken cX9_isTaken 1 (some .boolean) wsX9_isTaken ({ frames := 0, cells := 0, slots := 0, locals := 0 } : Room) 0 0 0 := cwV 0 hts gX9_now_X9_isTaken rfl rfl rfl (by decide +kernel) ⟨Nat.le_of_ble_eq_true rfl, Nat.le_of_ble_eq_true rfl⟩
  refine lv_iload_n hx hb dX9_now_0 rfl (lv_at hl 1 rfl) ?_
  rcases x_sw p1 12 (by decide) with ⟨k_1, hk_1, c_2⟩ | c_2
  · match k_1, hk_1, c_2 with
    | 0, _, c_2 =>
      have hv := hv.1 c_2
      refine lv_tableIn (off := 63) (tgt := 64) hx hb dX9_now_1 (by rw [c_2]; decide) (by rw [c_2]; decide) (by rw [c_2]; rfl) (by decide) ?_
      refine lv_aload_n hx hb dX9_now_64 rfl (lv_at hl 0 rfl) ?_
      refine va_get (D := D) (ci := 9) (v := .ref (a 1)) (C := RX9) (T := TX9) (N := 2) hx hb hts in_X9 hown hK hP 0 rfl rfl 0 (by decide) kf_7 (fun _ h9 => h9) rfl dX9_now_65 ?_
      refine lv_bipush (v := 20) hx hb dX9_now_68 (by decide) ?_
      refine x_ald hx hb hK hP 1 0 rfl rfl 20 rfl (by decide) (by decide) dX9_now_70 ?_
      exact W.iret (v := (M 1 20)) hx hb hr (fun t ht hW => ⟨_, rfl, hv, ht⟩) (fun q h => absurd h List.not_mem_nil) dX9_now_71
    | 1, _, c_2 =>
      have hv := hv.2.1 c_2
      refine lv_tableIn (off := 71) (tgt := 72) hx hb dX9_now_1 (by rw [c_2]; decide) (by rw [c_2]; decide) (by rw [c_2]; rfl) (by decide) ?_
      refine lv_aload_n hx hb dX9_now_72 rfl (lv_at hl 0 rfl) ?_
      refine va_get (D := D) (ci := 9) (v := .ref (a 1)) (C := RX9) (T := TX9) (N := 2) hx hb hts in_X9 hown hK hP 0 rfl rfl 0 (by decide) kf_7 (fun _ h9 => h9) rfl dX9_now_73 ?_
      refine lv_bipush (v := 21) hx hb dX9_now_76 (by decide) ?_
      refine x_ald hx hb hK hP 1 0 rfl rfl 21 rfl (by decide) (by decide) dX9_now_78 ?_
      exact W.iret (v := (M 1 21)) hx hb hr (fun t ht hW => ⟨_, rfl, hv, ht⟩) (fun q h => absurd h List.not_mem_nil) dX9_now_79
    | 2, _, c_2 =>
      have hv := hv.2.2.1 c_2
      refine lv_tableIn (off := 79) (tgt := 80) hx hb dX9_now_1 (by rw [c_2]; decide) (by rw [c_2]; decide) (by rw [c_2]; rfl) (by decide) ?_
      refine lv_aload_n hx hb dX9_now_80 rfl (lv_at hl 0 rfl) ?_
      refine va_get (D := D) (ci := 9) (v := .ref (a 1)) (C := RX9) (T := TX9) (N := 2) hx hb hts in_X9 hown hK hP 0 rfl rfl 0 (by decide) kf_7 (fun _ h9 => h9) rfl dX9_now_81 ?_
      refine lv_bipush (v := 22) hx hb dX9_now_84 (by decide) ?_
      refine x_ald hx hb hK hP 1 0 rfl rfl 22 rfl (by decide) (by decide) dX9_now_86 ?_
      exact W.iret (v := (M 1 22)) hx hb hr (fun t ht hW => ⟨_, rfl, hv, ht⟩) (fun q h => absurd h List.not_mem_nil) dX9_now_87
    | 3, _, c_2 =>
      have hv := hv.2.2.2.1 c_2
      refine lv_tableIn (off := 87) (tgt := 88) hx hb dX9_now_1 (by rw [c_2]; decide) (by rw [c_2]; decide) (by rw [c_2]; rfl) (by decide) ?_
      refine lv_aload_n hx hb dX9_now_88 rfl (lv_at hl 0 rfl) ?_
      refine x_rV (As := []) (rest := []) ⟨hx, hb, hml, hown, hts⟩ (c_X9_signalsNow l D cT a M _ hv) w_65 hK hP hS hN [0, 1, 2] rfl 9 0 rfl rfl rfl hl.1 rfl (Nat.le_of_ble_eq_true rfl) dX9_now_89 ⟨Nat.le_of_ble_eq_true rfl, Nat.le_of_ble_eq_true rfl⟩ (fun r_3 hv => ?_)
      exact W.iret (v := r_3) hx hb hr (fun t ht hW => ⟨_, rfl, hv, ht⟩) (fun q h => absurd h List.not_mem_nil) dX9_now_92
    | 4, _, c_2 =>
      have hv := hv.2.2.2.2.1 c_2
      refine lv_tableIn (off := 92) (tgt := 93) hx hb dX9_now_1 (by rw [c_2]; decide) (by rw [c_2]; decide) (by rw [c_2]; rfl) (by decide) ?_
      refine lv_aload_n hx hb dX9_now_93 rfl (lv_at hl 0 rfl) ?_
      refine lv_iconst (v := 0) hx hb dX9_now_94 (by decide) ?_
      refine x_rV (As := [.int 0]) (rest := []) ⟨hx, hb, hml, hown, hts⟩ (c_X9_ticksOf l D cT a M 0 _ hv) w_53 hK hP hS hN [0, 1, 2] rfl 9 0 rfl rfl rfl hl.1 rfl (Nat.le_of_ble_eq_true rfl) dX9_now_95 ⟨Nat.le_of_ble_eq_true rfl, Nat.le_of_ble_eq_true rfl⟩ (fun r_4 hv => ?_)
      exact W.iret (v := r_4) hx hb hr (fun t ht hW => ⟨_, rfl, hv, ht⟩) (fun q h => absurd h List.not_mem_nil) dX9_now_98
    | 5, _, c_2 =>
      have hv := hv.2.2.2.2.2.1 c_2
      refine lv_tableIn (off := 98) (tgt := 99) hx hb dX9_now_1 (by rw [c_2]; decide) (by rw [c_2]; decide) (by rw [c_2]; rfl) (by decide) ?_
      refine lv_aload_n hx hb dX9_now_99 rfl (lv_at hl 0 rfl) ?_
      refine lv_iconst (v := 0) hx hb dX9_now_100 (by decide) ?_
      refine x_rV (As := [.int 0]) (rest := []) ⟨hx, hb, hml, hown, hts⟩ (c_X9_linesOf l D cT a M 0 _ hv) w_28 hK hP hS hN [0, 1, 2] rfl 9 0 rfl rfl rfl hl.1 rfl (Nat.le_of_ble_eq_true rfl) dX9_now_101 ⟨Nat.le_of_ble_eq_true rfl, Nat.le_of_ble_eq_true rfl⟩ (fun r_5 hv => ?_)
      exact W.iret (v := r_5) hx hb hr (fun t ht hW => ⟨_, rfl, hv, ht⟩) (fun q h => absurd h List.not_mem_nil) dX9_now_104
    | 6, _, c_2 =>
      have hv := hv.2.2.2.2.2.2.1 c_2
      refine lv_tableIn (off := 104) (tgt := 105) hx hb dX9_now_1 (by rw [c_2]; decide) (by rw [c_2]; decide) (by rw [c_2]; rfl) (by decide) ?_
      refine lv_aload_n hx hb dX9_now_105 rfl (lv_at hl 0 rfl) ?_
      refine va_get (D := D) (ci := 9) (v := .ref (a 1)) (C := RX9) (T := TX9) (N := 2) hx hb hts in_X9 hown hK hP 0 rfl rfl 0 (by decide) kf_7 (fun _ h9 => h9) rfl dX9_now_106 ?_
      refine lv_bipush (v := 33) hx hb dX9_now_109 (by decide) ?_
      refine x_ald hx hb hK hP 1 0 rfl rfl 33 rfl (by decide) (by decide) dX9_now_111 ?_
      exact W.iret (v := (M 1 33)) hx hb hr (fun t ht hW => ⟨_, rfl, hv, ht⟩) (fun q h => absurd h List.not_mem_nil) dX9_now_112
    | 7, _, c_2 =>
      have hv := hv.2.2.2.2.2.2.2.1 c_2
      refine lv_tableIn (off := 112) (tgt := 113) hx hb dX9_now_1 (by rw [c_2]; decide) (by rw [c_2]; decide) (by rw [c_2]; rfl) (by decide) ?_
      refine lv_aload_n hx hb dX9_now_113 rfl (lv_at hl 0 rfl) ?_
      refine va_get (D := D) (ci := 9) (v := .ref (a 1)) (C := RX9) (T := TX9) (N := 2) hx hb hts in_X9 hown hK hP 0 rfl rfl 0 (by decide) kf_7 (fun _ h9 => h9) rfl dX9_now_114 ?_
      refine lv_bipush (v := 35) hx hb dX9_now_117 (by decide) ?_
      refine x_ald hx hb hK hP 1 0 rfl rfl 35 rfl (by decide) (by decide) dX9_now_119 ?_
      exact W.iret (v := (M 1 35)) hx hb hr (fun t ht hW => ⟨_, rfl, hv, ht⟩) (fun q h => absurd h List.not_mem_nil) dX9_now_120
    | 8, _, c_2 =>
      have hv := hv.2.2.2.2.2.2.2.2.1 c_2
      refine lv_tableIn (off := 120) (tgt := 121) hx hb dX9_now_1 (by rw [c_2]; decide) (by rw [c_2]; decide) (by rw [c_2]; rfl) (by decide) ?_
      refine lv_aload_n hx hb dX9_now_121 rfl (lv_at hl 0 rfl) ?_
      refine va_get (D := D) (ci := 9) (v := .ref (a 1)) (C := RX9) (T := TX9) (N := 2) hx hb hts in_X9 hown hK hP 0 rfl rfl 0 (by decide) kf_7 (fun _ h9 => h9) rfl dX9_now_122 ?_
      refine lv_bipush (v := 24) hx hb dX9_now_125 (by decide) ?_
      refine x_ald hx hb hK hP 1 0 rfl rfl 24 rfl (by decide) (by decide) dX9_now_127 ?_
      exact W.iret (v := (M 1 24)) hx hb hr (fun t ht hW => ⟨_, rfl, hv, ht⟩) (fun q h => absurd h List.not_mem_nil) dX9_now_128
    | 9, _, c_2 =>
      have hv := hv.2.2.2.2.2.2.2.2.2.1 c_2
      refine lv_tableIn (off := 128) (tgt := 129) hx hb dX9_now_1 (by rw [c_2]; decide) (by rw [c_2]; decide) (by rw [c_2]; rfl) (by decide) ?_
      refine lv_aload_n hx hb dX9_now_129 rfl (lv_at hl 0 rfl) ?_
      refine va_get (D := D) (ci := 9) (v := .ref (a 1)) (C := RX9) (T := TX9) (N := 2) hx hb hts in_X9 hown hK hP 0 rfl rfl 0 (by decide) kf_7 (fun _ h9 => h9) rfl dX9_now_130 ?_
      refine lv_bipush (v := 25) hx hb dX9_now_133 (by decide) ?_
      refine x_ald hx hb hK hP 1 0 rfl rfl 25 rfl (by decide) (by decide) dX9_now_135 ?_
      exact W.iret (v := (M 1 25)) hx hb hr (fun t ht hW => ⟨_, rfl, hv, ht⟩) (fun q h => absurd h List.not_mem_nil) dX9_now_136
    | 10, _, c_2 =>
      have hv := hv.2.2.2.2.2.2.2.2.2.2.1 c_2
      refine lv_tableIn (off := 136) (tgt := 137) hx hb dX9_now_1 (by rw [c_2]; decide) (by rw [c_2]; decide) (by rw [c_2]; rfl) (by decide) ?_
      refine lv_aload_n hx hb dX9_now_137 rfl (lv_at hl 0 rfl) ?_
      refine va_get (D := D) (ci := 9) (v := .ref (a 1)) (C := RX9) (T := TX9) (N := 2) hx hb hts in_X9 hown hK hP 0 rfl rfl 0 (by decide) kf_7 (fun _ h9 => h9) rfl dX9_now_138 ?_
      refine lv_bipush (v := 26) hx hb dX9_now_141 (by decide) ?_
      refine x_ald hx hb hK hP 1 0 rfl rfl 26 rfl (by decide) (by decide) dX9_now_143 ?_
      exact W.iret (v := (M 1 26)) hx hb hr (fun t ht hW => ⟨_, rfl, hv, ht⟩) (fun q h => absurd h List.not_mem_nil) dX9_now_144
    | 11, _, c_2 =>
      have hv := hv.2.2.2.2.2.2.2.2.2.2.2.1 c_2
      refine lv_tableIn (off := 144) (tgt := 145) hx hb dX9_now_1 (by rw [c_2]; decide) (by rw [c_2]; decide) (by rw [c_2]; rfl) (by decide) ?_
      refine lv_aload_n hx hb dX9_now_145 rfl (lv_at hl 0 rfl) ?_
      refine x_rV (As := []) (rest := []) ⟨hx, hb, hml, hown, hts⟩ (c_X9_isTaken l D cT a M _ hv) w_43 hK hP hS hN [0, 1, 2] rfl 9 0 rfl rfl rfl hl.1 rfl (Nat.le_of_ble_eq_true rfl) dX9_now_146 ⟨Nat.le_of_ble_eq_true rfl, Nat.le_of_ble_eq_true rfl⟩ (fun r_6 hv => ?_)
      refine lv_if_eq (tgt := 156) hx hb dX9_now_149 (by decide) (fun c_7 => ?_) (fun c_7 => ?_)
      · have hv := hv.1 c_7
        refine lv_iconst (v := 0) hx hb dX9_now_156 (by decide) ?_
        exact W.iret (v := 0) hx hb hr (fun t ht hW => ⟨_, rfl, hv, ht⟩) (fun q h => absurd h List.not_mem_nil) dX9_now_157
      · have hv := hv.2 c_7
        refine lv_iconst (v := 1) hx hb dX9_now_152 (by decide) ?_
        refine lv_goto (tgt := 157) hx hb dX9_now_153 (by decide) ?_
        exact W.iret (v := 1) hx hb hr (fun t ht hW => ⟨_, rfl, hv, ht⟩) (fun q h => absurd h List.not_mem_nil) dX9_now_157
    | (k + 12), hk, _ => exact absurd hk (by omega)
  · have hv := hv.2.2.2.2.2.2.2.2.2.2.2.2 c_2
    refine lv_tableOut (tgt := 158) hx hb dX9_now_1 c_2 (by decide) ?_
    refine lv_iconst (v := (-1)) hx hb dX9_now_158 (by decide) ?_
    exact W.iret (v := (-1)) hx hb hr (fun t ht hW => ⟨_, rfl, hv, ht⟩) (fun q h => absurd h List.not_mem_nil) dX9_now_159
def v_X9_signals (M : ST) (p1 : Int32) (post : Int32 → Prop) : Prop := ((((M 1 23) ≤ 512) → v_X9_isIn p1 1 (M 1 23) (fun r_2 => (((r_2 = 0) → post (-1)) ∧ ((¬ (r_2 = 0)) → ∃ k_4 : Nat, k_4 < 23520 ∧ (220 + (((M 1 23) - p1) - ((M 1 23) - p1) / 512 * 512)) = nI k_4 ∧ post (M 1 k_4))))) ∧ ((¬ ((M 1 23) ≤ 512)) → v_X9_isIn p1 1 512 (fun r_5 => (((r_5 = 0) → post (-1)) ∧ ((¬ (r_5 = 0)) → ∃ k_7 : Nat, k_7 < 23520 ∧ (220 + (((M 1 23) - p1) - ((M 1 23) - p1) / 512 * 512)) = nI k_7 ∧ post (M 1 k_7))))))
set_option maxHeartbeats 4000000 in
set_option maxRecDepth 100000 in
theorem c_X9_signals (l : Launch) (D : va_G) (cT : Nat → ClassId) (a : Nat → Nat) (M : ST) (p1 : Int32) (post : Int32 → Prop) (hv : v_X9_signals M p1 post) : Met l yX9_signals wsX9_signals ({ frames := 1, cells := 0, slots := 0, locals := 22 }) (va_Pc [.ref (a 0), .int p1] (x_R D cT ((w_Model cT a M)))) (vp_Si post) 0 0 (fun _ => False) := by
  refine Met.ofW (cc := cX9_signals) (maxL := 2) (ret := (some .int)) (by decide) rfl ?_
  intro p e s m args below meth c s₁ B hml hpre
  obtain ⟨rfl, hP, hK, hN⟩ := hpre
  have hx := B.exec
  have hb := B.bytes
  have hr := B.returns
  have hts := atoms_spec (ws := wsX9_signals) B.pre
  have hown : s.vm.findClass RX9 = some m.cls := findClass_of_methodNamed B.named
  have hlocks := B.notSynchronized
  have hS : va_S (fun _ : Nat => False) s.heap s.heap [] := va_S.rf
  have hl := lv_entry ([.ref (a 0), .int p1]) (n := 2) (Nat.le_of_ble_eq_true rfl)
  rw [lg_entry_eq]
  generalize (lg_sl ([.ref (a 0), .int p1]) ++ List.replicate (2 - (lg_sl ([.ref (a 0), .int p1])).length) Slot.unset).toArray = ls at hl ⊢
  have hl : lv_has ls 2 [(0, .ref (a 0)), (1, .int p1)] := hl
  have in_X9 : ∀ w ∈ wsX90, w ∈ wsX9_signals := by decide +kernel
  have kf_7 : (Cond.fieldLink RX9 7 "PictureBeatsModel" "all" "[I").before ([.ref (a 0), .int p1] : List Value).toArray s = true := hts _ (by decide +kernel)
  have w_17 : CallB (headSpec wsX9_signals ({ frames := 1, cells := 0, slots := 0, locals := 22 })).room s ([.ref (a 0), .int p1] : List Value).toArray RX9 17 yX9_isIn cX9_isIn 3 (some .boolean) wsX9_isIn ({ frames := 0, cells := 0, slots := 0, locals := 0 } : Room) 0 0 3 ∧ (Cond.static yX9_isIn).before ([.ref (a 0), .int p1] : List Value).toArray s = true := va_cwS 3 hts gX9_signals_X9_isIn rfl rfl rfl (by decide +kernel) ⟨Nat.le_of_ble_eq_true rfl, Nat.le_of_ble_eq_true rfl⟩
  refine lv_iload_n hx hb dX9_signals_0 rfl (lv_at hl 1 rfl) ?_
  refine lv_iconst (v := 1) hx hb dX9_signals_1 (by decide) ?_
  refine lv_aload_n hx hb dX9_signals_2 rfl (lv_at hl 0 rfl) ?_
  refine va_get (D := D) (ci := 9) (v := .ref (a 1)) (C := RX9) (T := TX9) (N := 2) hx hb hts in_X9 hown hK hP 0 rfl rfl 0 (by decide) kf_7 (fun _ h9 => h9) rfl dX9_signals_3 ?_
  refine lv_bipush (v := 23) hx hb dX9_signals_6 (by decide) ?_
  refine x_ald hx hb hK hP 1 0 rfl rfl 23 rfl (by decide) (by decide) dX9_signals_8 ?_
  refine lv_sipush (v := 512) hx hb dX9_signals_9 (by decide) ?_
  refine lv_icmp_le (tgt := 21) hx hb dX9_signals_12 (by decide) (fun c_1 => ?_) (fun c_1 => ?_)
  · have hv := hv.1 c_1
    refine lv_aload_n hx hb dX9_signals_21 rfl (lv_at hl 0 rfl) ?_
    refine va_get (D := D) (ci := 9) (v := .ref (a 1)) (C := RX9) (T := TX9) (N := 2) hx hb hts in_X9 hown hK hP 0 rfl rfl 0 (by decide) kf_7 (fun _ h9 => h9) rfl dX9_signals_22 ?_
    refine lv_bipush (v := 23) hx hb dX9_signals_25 (by decide) ?_
    refine x_ald hx hb hK hP 1 0 rfl rfl 23 rfl (by decide) (by decide) dX9_signals_27 ?_
    refine x_rS (As := [.int p1, .int 1, .int (M 1 23)]) (rest := []) ⟨hx, hb, hml, hown, hts⟩ (c_X9_isIn l D cT p1 1 (M 1 23) _ hv) w_17 hK hS hN rfl hl.1 rfl (Nat.le_of_ble_eq_true rfl) dX9_signals_28 ⟨Nat.le_of_ble_eq_true rfl, Nat.le_of_ble_eq_true rfl⟩ (fun r_2 hv => ?_)
    refine lv_if_eq (tgt := 59) hx hb dX9_signals_31 (by decide) (fun c_3 => ?_) (fun c_3 => ?_)
    · have hv := hv.1 c_3
      refine lv_iconst (v := (-1)) hx hb dX9_signals_59 (by decide) ?_
      exact W.iret (v := (-1)) hx hb hr (fun t ht hW => ⟨_, rfl, hv, ht⟩) (fun q h => absurd h List.not_mem_nil) dX9_signals_60
    · have hv := hv.2 c_3
      refine lv_aload_n hx hb dX9_signals_34 rfl (lv_at hl 0 rfl) ?_
      refine va_get (D := D) (ci := 9) (v := .ref (a 1)) (C := RX9) (T := TX9) (N := 2) hx hb hts in_X9 hown hK hP 0 rfl rfl 0 (by decide) kf_7 (fun _ h9 => h9) rfl dX9_signals_35 ?_
      refine lv_sipush (v := 220) hx hb dX9_signals_38 (by decide) ?_
      refine lv_aload_n hx hb dX9_signals_41 rfl (lv_at hl 0 rfl) ?_
      refine va_get (D := D) (ci := 9) (v := .ref (a 1)) (C := RX9) (T := TX9) (N := 2) hx hb hts in_X9 hown hK hP 0 rfl rfl 0 (by decide) kf_7 (fun _ h9 => h9) rfl dX9_signals_42 ?_
      refine lv_bipush (v := 23) hx hb dX9_signals_45 (by decide) ?_
      refine x_ald hx hb hK hP 1 0 rfl rfl 23 rfl (by decide) (by decide) dX9_signals_47 ?_
      refine lv_iload_n hx hb dX9_signals_48 rfl (lv_at hl 1 rfl) ?_
      refine lv_isub hx hb dX9_signals_49 ?_
      refine lv_sipush (v := 512) hx hb dX9_signals_50 (by decide) ?_
      refine lv_irem hx hb dX9_signals_53 (by decide) ?_
      refine lv_iadd hx hb dX9_signals_54 ?_
      obtain ⟨k_4, hk_4, ik_4, hv⟩ := hv
      refine x_ald hx hb hK hP 1 0 rfl rfl k_4 ik_4 hk_4 (by decide) dX9_signals_55 ?_
      refine lv_goto (tgt := 60) hx hb dX9_signals_56 (by decide) ?_
      exact W.iret (v := (M 1 k_4)) hx hb hr (fun t ht hW => ⟨_, rfl, hv, ht⟩) (fun q h => absurd h List.not_mem_nil) dX9_signals_60
  · have hv := hv.2 c_1
    refine lv_sipush (v := 512) hx hb dX9_signals_15 (by decide) ?_
    refine lv_goto (tgt := 28) hx hb dX9_signals_18 (by decide) ?_
    refine x_rS (As := [.int p1, .int 1, .int 512]) (rest := []) ⟨hx, hb, hml, hown, hts⟩ (c_X9_isIn l D cT p1 1 512 _ hv) w_17 hK hS hN rfl hl.1 rfl (Nat.le_of_ble_eq_true rfl) dX9_signals_28 ⟨Nat.le_of_ble_eq_true rfl, Nat.le_of_ble_eq_true rfl⟩ (fun r_5 hv => ?_)
    refine lv_if_eq (tgt := 59) hx hb dX9_signals_31 (by decide) (fun c_6 => ?_) (fun c_6 => ?_)
    · have hv := hv.1 c_6
      refine lv_iconst (v := (-1)) hx hb dX9_signals_59 (by decide) ?_
      exact W.iret (v := (-1)) hx hb hr (fun t ht hW => ⟨_, rfl, hv, ht⟩) (fun q h => absurd h List.not_mem_nil) dX9_signals_60
    · have hv := hv.2 c_6
      refine lv_aload_n hx hb dX9_signals_34 rfl (lv_at hl 0 rfl) ?_
      refine va_get (D := D) (ci := 9) (v := .ref (a 1)) (C := RX9) (T := TX9) (N := 2) hx hb hts in_X9 hown hK hP 0 rfl rfl 0 (by decide) kf_7 (fun _ h9 => h9) rfl dX9_signals_35 ?_
      refine lv_sipush (v := 220) hx hb dX9_signals_38 (by decide) ?_
      refine lv_aload_n hx hb dX9_signals_41 rfl (lv_at hl 0 rfl) ?_
      refine va_get (D := D) (ci := 9) (v := .ref (a 1)) (C := RX9) (T := TX9) (N := 2) hx hb hts in_X9 hown hK hP 0 rfl rfl 0 (by decide) kf_7 (fun _ h9 => h9) rfl dX9_signals_42 ?_
      refine lv_bipush (v := 23) hx hb dX9_signals_45 (by decide) ?_
      refine x_ald hx hb hK hP 1 0 rfl rfl 23 rfl (by decide) (by decide) dX9_signals_47 ?_
      refine lv_iload_n hx hb dX9_signals_48 rfl (lv_at hl 1 rfl) ?_
      refine lv_isub hx hb dX9_signals_49 ?_
      refine lv_sipush (v := 512) hx hb dX9_signals_50 (by decide) ?_
      refine lv_irem hx hb dX9_signals_53 (by decide) ?_
      refine lv_iadd hx hb dX9_signals_54 ?_
      obtain ⟨k_7, hk_7, ik_7, hv⟩ := hv
      refine x_ald hx hb hK hP 1 0 rfl rfl k_7 ik_7 hk_7 (by decide) dX9_signals_55 ?_
      refine lv_goto (tgt := 60) hx hb dX9_signals_56 (by decide) ?_
      exact W.iret (v := (M 1 k_7)) hx hb hr (fun t ht hW => ⟨_, rfl, hv, ht⟩) (fun q h => absurd h List.not_mem_nil) dX9_signals_60
def v_X9_value (M : ST) (p1 : Int32) (post : Int32 → Prop) : Prop := v_X9_isIn p1 0 4 (fun r_1 => (((r_1 = 0) → post (-1)) ∧ ((¬ (r_1 = 0)) → ∃ k_3 : Nat, k_3 < 23520 ∧ (40 + p1) = nI k_3 ∧ post (M 1 k_3))))
set_option maxHeartbeats 4000000 in
set_option maxRecDepth 100000 in
theorem c_X9_value (l : Launch) (D : va_G) (cT : Nat → ClassId) (a : Nat → Nat) (M : ST) (p1 : Int32) (post : Int32 → Prop) (hv : v_X9_value M p1 post) : Met l yX9_value wsX9_value ({ frames := 1, cells := 0, slots := 0, locals := 22 }) (va_Pc [.ref (a 0), .int p1] (x_R D cT ((w_Model cT a M)))) (vp_Si post) 0 0 (fun _ => False) := by
  refine Met.ofW (cc := cX9_value) (maxL := 2) (ret := (some .int)) (by decide) rfl ?_
  intro p e s m args below meth c s₁ B hml hpre
  obtain ⟨rfl, hP, hK, hN⟩ := hpre
  have hx := B.exec
  have hb := B.bytes
  have hr := B.returns
  have hts := atoms_spec (ws := wsX9_value) B.pre
  have hown : s.vm.findClass RX9 = some m.cls := findClass_of_methodNamed B.named
  have hlocks := B.notSynchronized
  have hS : va_S (fun _ : Nat => False) s.heap s.heap [] := va_S.rf
  have hl := lv_entry ([.ref (a 0), .int p1]) (n := 2) (Nat.le_of_ble_eq_true rfl)
  rw [lg_entry_eq]
  generalize (lg_sl ([.ref (a 0), .int p1]) ++ List.replicate (2 - (lg_sl ([.ref (a 0), .int p1])).length) Slot.unset).toArray = ls at hl ⊢
  have hl : lv_has ls 2 [(0, .ref (a 0)), (1, .int p1)] := hl
  have in_X9 : ∀ w ∈ wsX90, w ∈ wsX9_value := by decide +kernel
  have w_17 : CallB (headSpec wsX9_value ({ frames := 1, cells := 0, slots := 0, locals := 22 })).room s ([.ref (a 0), .int p1] : List Value).toArray RX9 17 yX9_isIn cX9_isIn 3 (some .boolean) wsX9_isIn ({ frames := 0, cells := 0, slots := 0, locals := 0 } : Room) 0 0 3 ∧ (Cond.static yX9_isIn).before ([.ref (a 0), .int p1] : List Value).toArray s = true := va_cwS 3 hts gX9_value_X9_isIn rfl rfl rfl (by decide +kernel) ⟨Nat.le_of_ble_eq_true rfl, Nat.le_of_ble_eq_true rfl⟩
  have kf_7 : (Cond.fieldLink RX9 7 "PictureBeatsModel" "all" "[I").before ([.ref (a 0), .int p1] : List Value).toArray s = true := hts _ (by decide +kernel)
  refine lv_iload_n hx hb dX9_value_0 rfl (lv_at hl 1 rfl) ?_
  refine lv_iconst (v := 0) hx hb dX9_value_1 (by decide) ?_
  refine lv_iconst (v := 4) hx hb dX9_value_2 (by decide) ?_
  refine x_rS (As := [.int p1, .int 0, .int 4]) (rest := []) ⟨hx, hb, hml, hown, hts⟩ (c_X9_isIn l D cT p1 0 4 _ hv) w_17 hK hS hN rfl hl.1 rfl (Nat.le_of_ble_eq_true rfl) dX9_value_3 ⟨Nat.le_of_ble_eq_true rfl, Nat.le_of_ble_eq_true rfl⟩ (fun r_1 hv => ?_)
  refine lv_if_eq (tgt := 21) hx hb dX9_value_6 (by decide) (fun c_2 => ?_) (fun c_2 => ?_)
  · have hv := hv.1 c_2
    refine lv_iconst (v := (-1)) hx hb dX9_value_21 (by decide) ?_
    exact W.iret (v := (-1)) hx hb hr (fun t ht hW => ⟨_, rfl, hv, ht⟩) (fun q h => absurd h List.not_mem_nil) dX9_value_22
  · have hv := hv.2 c_2
    refine lv_aload_n hx hb dX9_value_9 rfl (lv_at hl 0 rfl) ?_
    refine va_get (D := D) (ci := 9) (v := .ref (a 1)) (C := RX9) (T := TX9) (N := 2) hx hb hts in_X9 hown hK hP 0 rfl rfl 0 (by decide) kf_7 (fun _ h9 => h9) rfl dX9_value_10 ?_
    refine lv_bipush (v := 40) hx hb dX9_value_13 (by decide) ?_
    refine lv_iload_n hx hb dX9_value_15 rfl (lv_at hl 1 rfl) ?_
    refine lv_iadd hx hb dX9_value_16 ?_
    obtain ⟨k_3, hk_3, ik_3, hv⟩ := hv
    refine x_ald hx hb hK hP 1 0 rfl rfl k_3 ik_3 hk_3 (by decide) dX9_value_17 ?_
    refine lv_goto (tgt := 22) hx hb dX9_value_18 (by decide) ?_
    exact W.iret (v := (M 1 k_3)) hx hb hr (fun t ht hW => ⟨_, rfl, hv, ht⟩) (fun q h => absurd h List.not_mem_nil) dX9_value_22
def lp_X9_row_36 (M : ST) (p1 : Int32) (r_5 : Int32) (post : Int32 → Prop) (K_ : Int32 → Int32 → Int32 → Prop) : Nat → Int32 → Int32 → Int32 → Prop
  | 0, _, _, _ => False
  | n_15 + 1, y_12, y_13, y_14 => (((8 ≤ y_12) → K_ y_12 y_13 y_14) ∧ ((¬ (8 ≤ y_12)) → ∀ x_17 : Int32, x_17 = (y_14 + ((r_5 >>> (y_12 &&& 31)) &&& 1)) → v_X9_hasRow M y_12 p1 (fun r_18 => (((r_18 = 0) → ∀ x_20 : Int32, x_20 = (y_13 + 0) → ∀ x_21 : Int32, x_21 = y_12 + 1 → lp_X9_row_36 M p1 r_5 post K_ n_15 x_21 x_20 x_17) ∧ ((¬ (r_18 = 0)) → ∀ x_22 : Int32, x_22 = (y_13 + 1) → ∀ x_23 : Int32, x_23 = y_12 + 1 → lp_X9_row_36 M p1 r_5 post K_ n_15 x_23 x_22 x_17)))))
def v_X9_row (M : ST) (p1 : Int32) (p2 : Int32) (post : Int32 → Prop) : Prop := v_X9_isIn p1 0 63 (fun r_1 => (((r_1 = 0) → post (-1)) ∧ ((¬ (r_1 = 0)) → v_X9_isIn p2 0 2 (fun r_3 => (((¬ (r_3 = 0)) → v_X9_spritesOf M p1 (fun r_5 => (∃ n_24 : Nat, lp_X9_row_36 M p1 r_5 post (fun (y_7 : Int32) (y_8 : Int32) (y_9 : Int32) => (((¬ (p2 = 0)) → (((¬ (p2 = 1)) → post r_5) ∧ ((p2 = 1) → post y_9))) ∧ ((p2 = 0) → post (y_8 - y_9)))) n_24 0 0 0))) ∧ ((r_3 = 0) → post (-1)))))))
set_option maxHeartbeats 4000000 in
set_option maxRecDepth 100000 in
theorem c_X9_row (l : Launch) (D : va_G) (cT : Nat → ClassId) (a : Nat → Nat) (M : ST) (p1 : Int32) (p2 : Int32) (post : Int32 → Prop) (hv : v_X9_row M p1 p2 post) : Met l yX9_row wsX9_row ({ frames := 2, cells := 0, slots := 0, locals := 47 }) (va_Pc [.ref (a 0), .int p1, .int p2] (x_R D cT ((w_Model cT a M)))) (vp_Si post) 0 0 (fun _ => False) := by
  refine Met.ofW (cc := cX9_row) (maxL := 7) (ret := (some .int)) (by decide) rfl ?_
  intro p e s m args below meth c s₁ B hml hpre
  obtain ⟨rfl, hP, hK, hN⟩ := hpre
  have hx := B.exec
  have hb := B.bytes
  have hr := B.returns
  have hts := atoms_spec (ws := wsX9_row) B.pre
  have hown : s.vm.findClass RX9 = some m.cls := findClass_of_methodNamed B.named
  have hlocks := B.notSynchronized
  have hS : va_S (fun _ : Nat => False) s.heap s.heap [] := va_S.rf
  have hl := lv_entry ([.ref (a 0), .int p1, .int p2]) (n := 7) (Nat.le_of_ble_eq_true rfl)
  rw [lg_entry_eq]
  generalize (lg_sl ([.ref (a 0), .int p1, .int p2]) ++ List.replicate (7 - (lg_sl ([.ref (a 0), .int p1, .int p2])).length) Slot.unset).toArray = ls at hl ⊢
  have hl : lv_has ls 7 [(0, .ref (a 0)), (1, .int p1), (2, .int p2)] := hl
  have w_17 : CallB (headSpec wsX9_row ({ frames := 2, cells := 0, slots := 0, locals := 47 })).room s ([.ref (a 0), .int p1, .int p2] : List Value).toArray RX9 17 yX9_isIn cX9_isIn 3 (some .boolean) wsX9_isIn ({ frames := 0, cells := 0, slots := 0, locals := 0 } : Room) 0 0 3 ∧ (Cond.static yX9_isIn).before ([.ref (a 0), .int p1, .int p2] : List Value).toArray s = true := va_cwS 3 hts gX9_row_X9_isIn rfl rfl rfl (by decide +kernel) ⟨Nat.le_of_ble_eq_true rfl, Nat.le_of_ble_eq_true rfl⟩
  have w_50 : CallW (headSpec wsX9_row ({ frames := 2, cells := 0, slots := 0, locals := 47 })).room s ([.ref (a 0), .int p1, .int p2] : List Value).toArray RX9 RX9 50 yX9_spritesOf cX9_spritesOf 5 (some .int) wsX9_spritesOf ({ frames := 1, cells := 0, slots := 0, locals := 23 } : Room) 0 0 1 := cwV 1 hts gX9_row_X9_spritesOf rfl rfl rfl (by decide +kernel) ⟨Nat.le_of_ble_eq_true rfl, Nat.le_of_ble_eq_true rfl⟩
  have w_25 : CallW (headSpec wsX9_row ({ frames := 2, cells := 0, slots := 0, locals := 47 })).room s ([.ref (a 0), .int p1, .int p2] : List Value).toArray RX9 RX9 25 yX9_hasRow cX9_hasRow 4 (some .boolean) wsX9_hasRow ({ frames := 0, cells := 0, slots := 0, locals := 0 } : Room) 0 0 2 := cwV 2 hts gX9_row_X9_hasRow rfl rfl rfl (by decide +kernel) ⟨Nat.le_of_ble_eq_true rfl, Nat.le_of_ble_eq_true rfl⟩
  refine lv_iload_n hx hb dX9_row_0 rfl (lv_at hl 1 rfl) ?_
  refine lv_iconst (v := 0) hx hb dX9_row_1 (by decide) ?_
  refine lv_bipush (v := 63) hx hb dX9_row_2 (by decide) ?_
  refine x_rS (As := [.int p1, .int 0, .int 63]) (rest := []) ⟨hx, hb, hml, hown, hts⟩ (c_X9_isIn l D cT p1 0 63 _ hv) w_17 hK hS hN rfl hl.1 rfl (Nat.le_of_ble_eq_true rfl) dX9_row_4 ⟨Nat.le_of_ble_eq_true rfl, Nat.le_of_ble_eq_true rfl⟩ (fun r_1 hv => ?_)
  refine lv_if_eq (tgt := 19) hx hb dX9_row_7 (by decide) (fun c_2 => ?_) (fun c_2 => ?_)
  · have hv := hv.1 c_2
    refine lv_iconst (v := (-1)) hx hb dX9_row_19 (by decide) ?_
    exact W.iret (v := (-1)) hx hb hr (fun t ht hW => ⟨_, rfl, hv, ht⟩) (fun q h => absurd h List.not_mem_nil) dX9_row_20
  · have hv := hv.2 c_2
    refine lv_iload_n hx hb dX9_row_10 rfl (lv_at hl 2 rfl) ?_
    refine lv_iconst (v := 0) hx hb dX9_row_11 (by decide) ?_
    refine lv_iconst (v := 2) hx hb dX9_row_12 (by decide) ?_
    refine x_rS (As := [.int p2, .int 0, .int 2]) (rest := []) ⟨hx, hb, hml, hown, hts⟩ (c_X9_isIn l D cT p2 0 2 _ hv) w_17 hK hS hN rfl hl.1 rfl (Nat.le_of_ble_eq_true rfl) dX9_row_13 ⟨Nat.le_of_ble_eq_true rfl, Nat.le_of_ble_eq_true rfl⟩ (fun r_3 hv => ?_)
    refine lv_if_ne (tgt := 21) hx hb dX9_row_16 (by decide) (fun c_4 => ?_) (fun c_4 => ?_)
    · have hv := hv.1 c_4
      refine lv_aload_n hx hb dX9_row_21 rfl (lv_at hl 0 rfl) ?_
      refine lv_iload_n hx hb dX9_row_22 rfl (lv_at hl 1 rfl) ?_
      refine x_rV (As := [.int p1]) (rest := []) ⟨hx, hb, hml, hown, hts⟩ (c_X9_spritesOf l D cT a M p1 _ hv) w_50 hK hP hS hN [0, 1, 2] rfl 9 0 rfl rfl rfl hl.1 rfl (Nat.le_of_ble_eq_true rfl) dX9_row_23 ⟨Nat.le_of_ble_eq_true rfl, Nat.le_of_ble_eq_true rfl⟩ (fun r_5 hv => ?_)
      refine lv_istore_n (lv' := [(3, .int r_5), (0, .ref (a 0)), (1, .int p1), (2, .int p2)]) hx hb dX9_row_26 rfl hl (by decide) rfl (fun ls hl => ?_)
      refine lv_iconst (v := 0) hx hb dX9_row_27 (by decide) ?_
      refine lv_istore (lv' := [(4, .int 0), (3, .int r_5), (0, .ref (a 0)), (1, .int p1), (2, .int p2)]) hx hb dX9_row_28 hl (by decide) rfl (fun ls hl => ?_)
      refine lv_iconst (v := 0) hx hb dX9_row_30 (by decide) ?_
      refine lv_istore (lv' := [(5, .int 0), (4, .int 0), (3, .int r_5), (0, .ref (a 0)), (1, .int p1), (2, .int p2)]) hx hb dX9_row_31 hl (by decide) rfl (fun ls hl => ?_)
      refine lv_iconst (v := 0) hx hb dX9_row_33 (by decide) ?_
      refine lv_istore (lv' := [(6, .int 0), (5, .int 0), (4, .int 0), (3, .int r_5), (0, .ref (a 0)), (1, .int p1), (2, .int p2)]) hx hb dX9_row_34 hl (by decide) rfl (fun ls hl => ?_)
      obtain ⟨n_24, hv⟩ := hv
      have K_L_6 : ∀ (y_7 : Int32) (y_8 : Int32) (y_9 : Int32), ((((¬ (p2 = 0)) → (((¬ (p2 = 1)) → post r_5) ∧ ((p2 = 1) → post y_9))) ∧ ((p2 = 0) → post (y_8 - y_9)))) → ∀ ls : Array Slot, lv_has ls 7 [(6, .int y_7), (5, .int y_8), (4, .int y_9), (3, .int r_5), (0, .ref (a 0)), (1, .int p1), (2, .int p2)] → W p l e (headSpec wsX9_row ({ frames := 2, cells := 0, slots := 0, locals := 47 })).room s m ([.ref (a 0), .int p1, .int p2] : List Value).toArray below meth c s.heap [] 0 0 (MQ below (vp_Si post) ([.ref (a 0), .int p1, .int p2] : List Value).toArray s 0 0 (fun _ => False)) (F0 m 80 ls []) := by
        intro y_7 y_8 y_9 hv ls hl
        refine lv_iload_n hx hb dX9_row_80 rfl (lv_at hl 6 rfl) ?_
        refine lv_if_ne (tgt := 92) hx hb dX9_row_81 (by decide) (fun c_10 => ?_) (fun c_10 => ?_)
        · have hv := hv.1 c_10
          refine lv_iload_n hx hb dX9_row_92 rfl (lv_at hl 6 rfl) ?_
          refine lv_iconst (v := 1) hx hb dX9_row_93 (by decide) ?_
          refine lv_icmp_ne (tgt := 102) hx hb dX9_row_94 (by decide) (fun c_11 => ?_) (fun c_11 => ?_)
          · have hv := hv.1 c_11
            refine lv_iload_n hx hb dX9_row_102 rfl (lv_at hl 3 rfl) ?_
            exact W.iret (v := r_5) hx hb hr (fun t ht hW => ⟨_, rfl, hv, ht⟩) (fun q h => absurd h List.not_mem_nil) dX9_row_103
          · have hv := hv.2 c_11
            refine lv_iload hx hb dX9_row_97 (lv_at hl 2 rfl) ?_
            refine lv_goto (tgt := 103) hx hb dX9_row_99 (by decide) ?_
            exact W.iret (v := y_9) hx hb hr (fun t ht hW => ⟨_, rfl, hv, ht⟩) (fun q h => absurd h List.not_mem_nil) dX9_row_103
        · have hv := hv.2 c_10
          refine lv_iload hx hb dX9_row_84 (lv_at hl 1 rfl) ?_
          refine lv_iload hx hb dX9_row_86 (lv_at hl 2 rfl) ?_
          refine lv_isub hx hb dX9_row_88 ?_
          refine lv_goto (tgt := 103) hx hb dX9_row_89 (by decide) ?_
          exact W.iret (v := (y_8 - y_9)) hx hb hr (fun t ht hW => ⟨_, rfl, hv, ht⟩) (fun q h => absurd h List.not_mem_nil) dX9_row_103
      have L_6 : ∀ n_15 : Nat, ∀ (y_12 : Int32) (y_13 : Int32) (y_14 : Int32), (lp_X9_row_36 M p1 r_5 post (fun (y_7 : Int32) (y_8 : Int32) (y_9 : Int32) => (((¬ (p2 = 0)) → (((¬ (p2 = 1)) → post r_5) ∧ ((p2 = 1) → post y_9))) ∧ ((p2 = 0) → post (y_8 - y_9)))) n_15 y_12 y_13 y_14) → ∀ ls : Array Slot, lv_has ls 7 [(6, .int y_12), (5, .int y_13), (4, .int y_14), (3, .int r_5), (0, .ref (a 0)), (1, .int p1), (2, .int p2)] → W p l e (headSpec wsX9_row ({ frames := 2, cells := 0, slots := 0, locals := 47 })).room s m ([.ref (a 0), .int p1, .int p2] : List Value).toArray below meth c s.heap [] 0 0 (MQ below (vp_Si post) ([.ref (a 0), .int p1, .int p2] : List Value).toArray s 0 0 (fun _ => False)) (F0 m 36 ls []) := by
        intro n_15
        induction n_15 with
        | zero =>
          intro y_12 y_13 y_14 hv
          exact hv.elim
        | succ n_15 L_6_ih =>
          intro y_12 y_13 y_14 hv ls hl
          refine lv_iload hx hb dX9_row_36 (lv_at hl 0 rfl) ?_
          refine lv_bipush (v := 8) hx hb dX9_row_38 (by decide) ?_
          refine lv_icmp_ge (tgt := 80) hx hb dX9_row_40 (by decide) (fun c_16 => ?_) (fun c_16 => ?_)
          · have hv := hv.1 c_16
            exact K_L_6 _ _ _ hv ls (lv_sub hl [0, 1, 2, 3, 4, 5, 6] rfl)
          · have hv := hv.2 c_16
            refine lv_iload hx hb dX9_row_43 (lv_at hl 2 rfl) ?_
            refine lv_iload_n hx hb dX9_row_45 rfl (lv_at hl 3 rfl) ?_
            refine lv_iload hx hb dX9_row_46 (lv_at hl 0 rfl) ?_
            refine lv_ishr hx hb dX9_row_48 ?_
            refine lv_iconst (v := 1) hx hb dX9_row_49 (by decide) ?_
            refine lv_iand hx hb dX9_row_50 ?_
            refine lv_iadd hx hb dX9_row_51 ?_
            refine lv_topi (fun x_17 ex_17 => ?_)
            have hv := hv x_17 ex_17
            refine lv_istore (lv' := [(4, .int x_17), (6, .int y_12), (5, .int y_13), (3, .int r_5), (0, .ref (a 0)), (1, .int p1), (2, .int p2)]) hx hb dX9_row_52 hl (by decide) rfl (fun ls hl => ?_)
            refine lv_iload hx hb dX9_row_54 (lv_at hl 2 rfl) ?_
            refine lv_aload_n hx hb dX9_row_56 rfl (lv_at hl 4 rfl) ?_
            refine lv_iload hx hb dX9_row_57 (lv_at hl 1 rfl) ?_
            refine lv_iload_n hx hb dX9_row_59 rfl (lv_at hl 5 rfl) ?_
            refine x_rV (As := [.int y_12, .int p1]) (rest := [.int y_13]) ⟨hx, hb, hml, hown, hts⟩ (c_X9_hasRow l D cT a M y_12 p1 _ hv) w_25 hK hP hS hN [0, 1, 2] rfl 9 0 rfl rfl rfl hl.1 rfl (Nat.le_of_ble_eq_true rfl) dX9_row_60 ⟨Nat.le_of_ble_eq_true rfl, Nat.le_of_ble_eq_true rfl⟩ (fun r_18 hv => ?_)
            refine lv_if_eq (tgt := 70) hx hb dX9_row_63 (by decide) (fun c_19 => ?_) (fun c_19 => ?_)
            · have hv := hv.1 c_19
              refine lv_iconst (v := 0) hx hb dX9_row_70 (by decide) ?_
              refine lv_iadd hx hb dX9_row_71 ?_
              refine lv_topi (fun x_20 ex_20 => ?_)
              have hv := hv x_20 ex_20
              refine lv_istore (lv' := [(5, .int x_20), (4, .int x_17), (6, .int y_12), (3, .int r_5), (0, .ref (a 0)), (1, .int p1), (2, .int p2)]) hx hb dX9_row_72 hl (by decide) rfl (fun ls hl => ?_)
              obtain ⟨x_21, ex_21⟩ : ∃ z : Int32, z = y_12 + 1 := ⟨_, rfl⟩
              have hv := hv x_21 ex_21
              refine lv_iinc (v := x_21) (lv' := [(6, .int x_21), (5, .int x_20), (4, .int x_17), (3, .int r_5), (0, .ref (a 0)), (1, .int p1), (2, .int p2)]) hx hb dX9_row_74 hl (k := 2) rfl (by rw [ex_21]; rfl) (by decide) rfl (fun ls hl => ?_)
              refine lv_goto (tgt := 36) hx hb dX9_row_77 (by decide) ?_
              exact L_6_ih _ _ _ hv ls (lv_sub hl [0, 1, 2, 3, 4, 5, 6] rfl)
            · have hv := hv.2 c_19
              refine lv_iconst (v := 1) hx hb dX9_row_66 (by decide) ?_
              refine lv_goto (tgt := 71) hx hb dX9_row_67 (by decide) ?_
              refine lv_iadd hx hb dX9_row_71 ?_
              refine lv_topi (fun x_22 ex_22 => ?_)
              have hv := hv x_22 ex_22
              refine lv_istore (lv' := [(5, .int x_22), (4, .int x_17), (6, .int y_12), (3, .int r_5), (0, .ref (a 0)), (1, .int p1), (2, .int p2)]) hx hb dX9_row_72 hl (by decide) rfl (fun ls hl => ?_)
              obtain ⟨x_23, ex_23⟩ : ∃ z : Int32, z = y_12 + 1 := ⟨_, rfl⟩
              have hv := hv x_23 ex_23
              refine lv_iinc (v := x_23) (lv' := [(6, .int x_23), (5, .int x_22), (4, .int x_17), (3, .int r_5), (0, .ref (a 0)), (1, .int p1), (2, .int p2)]) hx hb dX9_row_74 hl (k := 2) rfl (by rw [ex_23]; rfl) (by decide) rfl (fun ls hl => ?_)
              refine lv_goto (tgt := 36) hx hb dX9_row_77 (by decide) ?_
              exact L_6_ih _ _ _ hv ls (lv_sub hl [0, 1, 2, 3, 4, 5, 6] rfl)
      exact L_6 n_24 _ _ _ hv ls hl
    · have hv := hv.2 c_4
      refine lv_iconst (v := (-1)) hx hb dX9_row_19 (by decide) ?_
      exact W.iret (v := (-1)) hx hb hr (fun t ht hW => ⟨_, rfl, hv, ht⟩) (fun q h => absurd h List.not_mem_nil) dX9_row_20
def lp_X9_leastOf_35 (M : ST) (p1 : Int32) (p2 : Int32) (x_2 : Int32) (post : Int32 → Prop) (K_ : Int32 → Int32 → Int32 → Int32 → Int32 → Prop) : Nat → Int32 → Int32 → Int32 → Int32 → Int32 → Prop
  | 0, _, _, _, _, _ => False
  | n_15 + 1, y_10, y_11, y_12, y_13, y_14 => ((((x_2 + (M 1 0)) ≤ y_10) → K_ y_10 y_11 y_12 y_13 y_14) ∧ ((¬ ((x_2 + (M 1 0)) ≤ y_10)) → ¬ (p1 = 0) ∧ (((¬ (((p2 >>> ((y_10 - y_10 / p1 * p1) &&& 31)) &&& 1) = 0)) → (((x_2 ≤ y_10) → (((¬ (y_12 = 0)) → ∀ x_21 : Int32, x_21 = y_12 + (-1) → ∀ x_22 : Int32, x_22 = y_10 + 1 → lp_X9_leastOf_35 M p1 p2 x_2 post K_ n_15 x_22 y_11 x_21 y_13 y_14) ∧ ((y_12 = 0) → (((y_11 ≤ y_13) → (((¬ (y_13 = 0)) → ∀ x_25 : Int32, x_25 = y_13 + (-1) → ∀ x_26 : Int32, x_26 = 8 + (-1) → ∀ x_27 : Int32, x_27 = y_10 + 1 → lp_X9_leastOf_35 M p1 p2 x_2 post K_ n_15 x_27 y_11 x_26 x_25 y_14) ∧ ((y_13 = 0) → ∀ x_28 : Int32, x_28 = y_10 + 1 → lp_X9_leastOf_35 M p1 p2 x_2 post K_ n_15 x_28 y_11 y_12 y_13 y_14))) ∧ ((¬ (y_11 ≤ y_13)) → (((¬ (y_13 = 0)) → ∀ x_30 : Int32, x_30 = y_13 + (-1) → ∀ x_31 : Int32, x_31 = 8 + (-1) → ∀ x_32 : Int32, x_32 = y_10 + 1 → lp_X9_leastOf_35 M p1 p2 x_2 post K_ n_15 x_32 y_13 x_31 x_30 y_14) ∧ ((y_13 = 0) → ∀ x_33 : Int32, x_33 = y_10 + 1 → lp_X9_leastOf_35 M p1 p2 x_2 post K_ n_15 x_33 y_13 y_12 y_13 y_14))))))) ∧ ((¬ (x_2 ≤ y_10)) → ∀ x_34 : Int32, x_34 = y_10 + 1 → lp_X9_leastOf_35 M p1 p2 x_2 post K_ n_15 x_34 y_11 y_12 y_13 y_14))) ∧ ((((p2 >>> ((y_10 - y_10 / p1 * p1) &&& 31)) &&& 1) = 0) → ((((M 1 29) ≤ y_13) → (((x_2 ≤ y_10) → (((¬ (y_12 = 0)) → ∀ x_38 : Int32, x_38 = y_12 + (-1) → ∀ x_39 : Int32, x_39 = y_10 + 1 → lp_X9_leastOf_35 M p1 p2 x_2 post K_ n_15 x_39 y_11 x_38 y_13 y_14) ∧ ((y_12 = 0) → (((y_11 ≤ y_13) → (((¬ (y_13 = 0)) → ∀ x_42 : Int32, x_42 = y_13 + (-1) → ∀ x_43 : Int32, x_43 = 8 + (-1) → ∀ x_44 : Int32, x_44 = y_10 + 1 → lp_X9_leastOf_35 M p1 p2 x_2 post K_ n_15 x_44 y_11 x_43 x_42 y_14) ∧ ((y_13 = 0) → ∀ x_45 : Int32, x_45 = y_10 + 1 → lp_X9_leastOf_35 M p1 p2 x_2 post K_ n_15 x_45 y_11 y_12 y_13 y_14))) ∧ ((¬ (y_11 ≤ y_13)) → (((¬ (y_13 = 0)) → ∀ x_47 : Int32, x_47 = y_13 + (-1) → ∀ x_48 : Int32, x_48 = 8 + (-1) → ∀ x_49 : Int32, x_49 = y_10 + 1 → lp_X9_leastOf_35 M p1 p2 x_2 post K_ n_15 x_49 y_13 x_48 x_47 y_14) ∧ ((y_13 = 0) → ∀ x_50 : Int32, x_50 = y_10 + 1 → lp_X9_leastOf_35 M p1 p2 x_2 post K_ n_15 x_50 y_13 y_12 y_13 y_14))))))) ∧ ((¬ (x_2 ≤ y_10)) → ∀ x_51 : Int32, x_51 = y_10 + 1 → lp_X9_leastOf_35 M p1 p2 x_2 post K_ n_15 x_51 y_11 y_12 y_13 y_14))) ∧ ((¬ ((M 1 29) ≤ y_13)) → (((y_14 ≤ 0) → (((x_2 ≤ y_10) → (((¬ (y_12 = 0)) → ∀ x_55 : Int32, x_55 = y_12 + (-1) → ∀ x_56 : Int32, x_56 = y_10 + 1 → lp_X9_leastOf_35 M p1 p2 x_2 post K_ n_15 x_56 y_11 x_55 y_13 y_14) ∧ ((y_12 = 0) → (((y_11 ≤ y_13) → (((¬ (y_13 = 0)) → ∀ x_59 : Int32, x_59 = y_13 + (-1) → ∀ x_60 : Int32, x_60 = 8 + (-1) → ∀ x_61 : Int32, x_61 = y_10 + 1 → lp_X9_leastOf_35 M p1 p2 x_2 post K_ n_15 x_61 y_11 x_60 x_59 y_14) ∧ ((y_13 = 0) → ∀ x_62 : Int32, x_62 = y_10 + 1 → lp_X9_leastOf_35 M p1 p2 x_2 post K_ n_15 x_62 y_11 y_12 y_13 y_14))) ∧ ((¬ (y_11 ≤ y_13)) → (((¬ (y_13 = 0)) → ∀ x_64 : Int32, x_64 = y_13 + (-1) → ∀ x_65 : Int32, x_65 = 8 + (-1) → ∀ x_66 : Int32, x_66 = y_10 + 1 → lp_X9_leastOf_35 M p1 p2 x_2 post K_ n_15 x_66 y_13 x_65 x_64 y_14) ∧ ((y_13 = 0) → ∀ x_67 : Int32, x_67 = y_10 + 1 → lp_X9_leastOf_35 M p1 p2 x_2 post K_ n_15 x_67 y_13 y_12 y_13 y_14))))))) ∧ ((¬ (x_2 ≤ y_10)) → ∀ x_68 : Int32, x_68 = y_10 + 1 → lp_X9_leastOf_35 M p1 p2 x_2 post K_ n_15 x_68 y_11 y_12 y_13 y_14))) ∧ ((¬ (y_14 ≤ 0)) → ∀ x_69 : Int32, x_69 = y_13 + 1 → ∀ x_70 : Int32, x_70 = y_14 + (-1) → (((x_2 ≤ y_10) → (((¬ (y_12 = 0)) → ∀ x_73 : Int32, x_73 = y_12 + (-1) → ∀ x_74 : Int32, x_74 = y_10 + 1 → lp_X9_leastOf_35 M p1 p2 x_2 post K_ n_15 x_74 y_11 x_73 x_69 x_70) ∧ ((y_12 = 0) → (((y_11 ≤ x_69) → (((¬ (x_69 = 0)) → ∀ x_77 : Int32, x_77 = x_69 + (-1) → ∀ x_78 : Int32, x_78 = 8 + (-1) → ∀ x_79 : Int32, x_79 = y_10 + 1 → lp_X9_leastOf_35 M p1 p2 x_2 post K_ n_15 x_79 y_11 x_78 x_77 x_70) ∧ ((x_69 = 0) → ∀ x_80 : Int32, x_80 = y_10 + 1 → lp_X9_leastOf_35 M p1 p2 x_2 post K_ n_15 x_80 y_11 y_12 x_69 x_70))) ∧ ((¬ (y_11 ≤ x_69)) → (((¬ (x_69 = 0)) → ∀ x_82 : Int32, x_82 = x_69 + (-1) → ∀ x_83 : Int32, x_83 = 8 + (-1) → ∀ x_84 : Int32, x_84 = y_10 + 1 → lp_X9_leastOf_35 M p1 p2 x_2 post K_ n_15 x_84 x_69 x_83 x_82 x_70) ∧ ((x_69 = 0) → ∀ x_85 : Int32, x_85 = y_10 + 1 → lp_X9_leastOf_35 M p1 p2 x_2 post K_ n_15 x_85 x_69 y_12 x_69 x_70))))))) ∧ ((¬ (x_2 ≤ y_10)) → ∀ x_86 : Int32, x_86 = y_10 + 1 → lp_X9_leastOf_35 M p1 p2 x_2 post K_ n_15 x_86 y_11 y_12 x_69 x_70))))))))))
def v_X9_leastOf (M : ST) (p1 : Int32) (p2 : Int32) (post : Int32 → Prop) : Prop := v_X9_ticksOf M 0 (fun r_1 => ∀ x_2 : Int32, x_2 = (r_1 - (M 1 0)) → v_X9_bytesOf (M 1 0) (fun r_3 => (∃ n_87 : Nat, lp_X9_leastOf_35 M p1 p2 x_2 post (fun (y_5 : Int32) (y_6 : Int32) (y_7 : Int32) (y_8 : Int32) (y_9 : Int32) => post y_6) n_87 0 9 0 0 r_3)))
set_option maxHeartbeats 4000000 in
set_option maxRecDepth 100000 in
theorem c_X9_leastOf (l : Launch) (D : va_G) (cT : Nat → ClassId) (a : Nat → Nat) (M : ST) (p1 : Int32) (p2 : Int32) (post : Int32 → Prop) (hv : v_X9_leastOf M p1 p2 post) : Met l yX9_leastOf wsX9_leastOf ({ frames := 1, cells := 0, slots := 0, locals := 21 }) (va_Pc [.ref (a 0), .int p1, .int p2] (x_R D cT ((w_Model cT a M)))) (vp_Si post) 0 0 (fun _ => False) := by
  refine Met.ofW (cc := cX9_leastOf) (maxL := 10) (ret := (some .int)) (by decide) rfl ?_
  intro p e s m args below meth c s₁ B hml hpre
  obtain ⟨rfl, hP, hK, hN⟩ := hpre
  have hx := B.exec
  have hb := B.bytes
  have hr := B.returns
  have hts := atoms_spec (ws := wsX9_leastOf) B.pre
  have hown : s.vm.findClass RX9 = some m.cls := findClass_of_methodNamed B.named
  have hlocks := B.notSynchronized
  have hS : va_S (fun _ : Nat => False) s.heap s.heap [] := va_S.rf
  have hl := lv_entry ([.ref (a 0), .int p1, .int p2]) (n := 10) (Nat.le_of_ble_eq_true rfl)
  rw [lg_entry_eq]
  generalize (lg_sl ([.ref (a 0), .int p1, .int p2]) ++ List.replicate (10 - (lg_sl ([.ref (a 0), .int p1, .int p2])).length) Slot.unset).toArray = ls at hl ⊢
  have hl : lv_has ls 10 [(0, .ref (a 0)), (1, .int p1), (2, .int p2)] := hl
  have in_X9 : ∀ w ∈ wsX90, w ∈ wsX9_leastOf := by decide +kernel
  have kf_7 : (Cond.fieldLink RX9 7 "PictureBeatsModel" "all" "[I").before ([.ref (a 0), .int p1, .int p2] : List Value).toArray s = true := hts _ (by decide +kernel)
  have w_53 : CallW (headSpec wsX9_leastOf ({ frames := 1, cells := 0, slots := 0, locals := 21 })).room s ([.ref (a 0), .int p1, .int p2] : List Value).toArray RX9 RX9 53 yX9_ticksOf cX9_ticksOf 2 (some .int) wsX9_ticksOf ({ frames := 0, cells := 0, slots := 0, locals := 0 } : Room) 0 0 1 := cwV 1 hts gX9_leastOf_X9_ticksOf rfl rfl rfl (by decide +kernel) ⟨Nat.le_of_ble_eq_true rfl, Nat.le_of_ble_eq_true rfl⟩
  have w_40 : CallB (headSpec wsX9_leastOf ({ frames := 1, cells := 0, slots := 0, locals := 21 })).room s ([.ref (a 0), .int p1, .int p2] : List Value).toArray RX9 40 yX9_bytesOf cX9_bytesOf 1 (some .int) wsX9_bytesOf ({ frames := 0, cells := 0, slots := 0, locals := 0 } : Room) 0 0 1 ∧ (Cond.static yX9_bytesOf).before ([.ref (a 0), .int p1, .int p2] : List Value).toArray s = true := va_cwS 1 hts gX9_leastOf_X9_bytesOf rfl rfl rfl (by decide +kernel) ⟨Nat.le_of_ble_eq_true rfl, Nat.le_of_ble_eq_true rfl⟩
  refine lv_aload_n hx hb dX9_leastOf_0 rfl (lv_at hl 0 rfl) ?_
  refine va_get (D := D) (ci := 9) (v := .ref (a 1)) (C := RX9) (T := TX9) (N := 2) hx hb hts in_X9 hown hK hP 0 rfl rfl 0 (by decide) kf_7 (fun _ h9 => h9) rfl dX9_leastOf_1 ?_
  refine lv_iconst (v := 0) hx hb dX9_leastOf_4 (by decide) ?_
  refine x_ald hx hb hK hP 1 0 rfl rfl 0 rfl (by decide) (by decide) dX9_leastOf_5 ?_
  refine lv_istore_n (lv' := [(3, .int (M 1 0)), (0, .ref (a 0)), (1, .int p1), (2, .int p2)]) hx hb dX9_leastOf_6 rfl hl (by decide) rfl (fun ls hl => ?_)
  refine lv_aload_n hx hb dX9_leastOf_7 rfl (lv_at hl 1 rfl) ?_
  refine lv_iconst (v := 0) hx hb dX9_leastOf_8 (by decide) ?_
  refine x_rV (As := [.int 0]) (rest := []) ⟨hx, hb, hml, hown, hts⟩ (c_X9_ticksOf l D cT a M 0 _ hv) w_53 hK hP hS hN [0, 1, 2] rfl 9 0 rfl rfl rfl hl.1 rfl (Nat.le_of_ble_eq_true rfl) dX9_leastOf_9 ⟨Nat.le_of_ble_eq_true rfl, Nat.le_of_ble_eq_true rfl⟩ (fun r_1 hv => ?_)
  refine lv_iload_n hx hb dX9_leastOf_12 rfl (lv_at hl 0 rfl) ?_
  refine lv_isub hx hb dX9_leastOf_13 ?_
  refine lv_topi (fun x_2 ex_2 => ?_)
  have hv := hv x_2 ex_2
  refine lv_istore (lv' := [(4, .int x_2), (3, .int (M 1 0)), (0, .ref (a 0)), (1, .int p1), (2, .int p2)]) hx hb dX9_leastOf_14 hl (by decide) rfl (fun ls hl => ?_)
  refine lv_iload_n hx hb dX9_leastOf_16 rfl (lv_at hl 1 rfl) ?_
  refine x_rS (As := [.int (M 1 0)]) (rest := []) ⟨hx, hb, hml, hown, hts⟩ (c_X9_bytesOf l D cT (M 1 0) _ hv) w_40 hK hS hN rfl hl.1 rfl (Nat.le_of_ble_eq_true rfl) dX9_leastOf_17 ⟨Nat.le_of_ble_eq_true rfl, Nat.le_of_ble_eq_true rfl⟩ (fun r_3 hv => ?_)
  refine lv_istore (lv' := [(5, .int r_3), (4, .int x_2), (3, .int (M 1 0)), (0, .ref (a 0)), (1, .int p1), (2, .int p2)]) hx hb dX9_leastOf_20 hl (by decide) rfl (fun ls hl => ?_)
  refine lv_iconst (v := 0) hx hb dX9_leastOf_22 (by decide) ?_
  refine lv_istore (lv' := [(6, .int 0), (5, .int r_3), (4, .int x_2), (3, .int (M 1 0)), (0, .ref (a 0)), (1, .int p1), (2, .int p2)]) hx hb dX9_leastOf_23 hl (by decide) rfl (fun ls hl => ?_)
  refine lv_iconst (v := 0) hx hb dX9_leastOf_25 (by decide) ?_
  refine lv_istore (lv' := [(7, .int 0), (6, .int 0), (5, .int r_3), (4, .int x_2), (3, .int (M 1 0)), (0, .ref (a 0)), (1, .int p1), (2, .int p2)]) hx hb dX9_leastOf_26 hl (by decide) rfl (fun ls hl => ?_)
  refine lv_bipush (v := 9) hx hb dX9_leastOf_28 (by decide) ?_
  refine lv_istore (lv' := [(8, .int 9), (7, .int 0), (6, .int 0), (5, .int r_3), (4, .int x_2), (3, .int (M 1 0)), (0, .ref (a 0)), (1, .int p1), (2, .int p2)]) hx hb dX9_leastOf_30 hl (by decide) rfl (fun ls hl => ?_)
  refine lv_iconst (v := 0) hx hb dX9_leastOf_32 (by decide) ?_
  refine lv_istore (lv' := [(9, .int 0), (8, .int 9), (7, .int 0), (6, .int 0), (5, .int r_3), (4, .int x_2), (3, .int (M 1 0)), (0, .ref (a 0)), (1, .int p1), (2, .int p2)]) hx hb dX9_leastOf_33 hl (by decide) rfl (fun ls hl => ?_)
  obtain ⟨n_87, hv⟩ := hv
  have K_L_4 : ∀ (y_5 : Int32) (y_6 : Int32) (y_7 : Int32) (y_8 : Int32) (y_9 : Int32), (post y_6) → ∀ ls : Array Slot, lv_has ls 10 [(9, .int y_5), (8, .int y_6), (7, .int y_7), (6, .int y_8), (5, .int y_9), (4, .int x_2), (3, .int (M 1 0)), (0, .ref (a 0)), (1, .int p1), (2, .int p2)] → W p l e (headSpec wsX9_leastOf ({ frames := 1, cells := 0, slots := 0, locals := 21 })).room s m ([.ref (a 0), .int p1, .int p2] : List Value).toArray below meth c s.heap [] 0 0 (MQ below (vp_Si post) ([.ref (a 0), .int p1, .int p2] : List Value).toArray s 0 0 (fun _ => False)) (F0 m 128 ls []) := by
    intro y_5 y_6 y_7 y_8 y_9 hv ls hl
    refine lv_iload hx hb dX9_leastOf_128 (lv_at hl 1 rfl) ?_
    exact W.iret (v := y_6) hx hb hr (fun t ht hW => ⟨_, rfl, hv, ht⟩) (fun q h => absurd h List.not_mem_nil) dX9_leastOf_130
  have L_4 : ∀ n_15 : Nat, ∀ (y_10 : Int32) (y_11 : Int32) (y_12 : Int32) (y_13 : Int32) (y_14 : Int32), (lp_X9_leastOf_35 M p1 p2 x_2 post (fun (y_5 : Int32) (y_6 : Int32) (y_7 : Int32) (y_8 : Int32) (y_9 : Int32) => post y_6) n_15 y_10 y_11 y_12 y_13 y_14) → ∀ ls : Array Slot, lv_has ls 10 [(9, .int y_10), (8, .int y_11), (7, .int y_12), (6, .int y_13), (5, .int y_14), (4, .int x_2), (3, .int (M 1 0)), (0, .ref (a 0)), (1, .int p1), (2, .int p2)] → W p l e (headSpec wsX9_leastOf ({ frames := 1, cells := 0, slots := 0, locals := 21 })).room s m ([.ref (a 0), .int p1, .int p2] : List Value).toArray below meth c s.heap [] 0 0 (MQ below (vp_Si post) ([.ref (a 0), .int p1, .int p2] : List Value).toArray s 0 0 (fun _ => False)) (F0 m 35 ls []) := by
    intro n_15
    induction n_15 with
    | zero =>
      intro y_10 y_11 y_12 y_13 y_14 hv
      exact hv.elim
    | succ n_15 L_4_ih =>
      intro y_10 y_11 y_12 y_13 y_14 hv ls hl
      refine lv_iload hx hb dX9_leastOf_35 (lv_at hl 0 rfl) ?_
      refine lv_iload hx hb dX9_leastOf_37 (lv_at hl 5 rfl) ?_
      refine lv_iload_n hx hb dX9_leastOf_39 rfl (lv_at hl 6 rfl) ?_
      refine lv_iadd hx hb dX9_leastOf_40 ?_
      refine lv_icmp_ge (tgt := 128) hx hb dX9_leastOf_41 (by decide) (fun c_16 => ?_) (fun c_16 => ?_)
      · have hv := hv.1 c_16
        exact K_L_4 _ _ _ _ _ hv ls (lv_sub hl [0, 1, 2, 3, 4, 5, 6, 7, 8, 9] rfl)
      · have hv := hv.2 c_16
        refine lv_iload_n hx hb dX9_leastOf_44 rfl (lv_at hl 9 rfl) ?_
        refine lv_iload hx hb dX9_leastOf_45 (lv_at hl 0 rfl) ?_
        refine lv_iload_n hx hb dX9_leastOf_47 rfl (lv_at hl 8 rfl) ?_
        obtain ⟨h_17, hv⟩ := hv
        refine lv_irem hx hb dX9_leastOf_48 h_17 ?_
        refine lv_ishr hx hb dX9_leastOf_49 ?_
        refine lv_iconst (v := 1) hx hb dX9_leastOf_50 (by decide) ?_
        refine lv_iand hx hb dX9_leastOf_51 ?_
        refine lv_if_ne (tgt := 78) hx hb dX9_leastOf_52 (by decide) (fun c_18 => ?_) (fun c_18 => ?_)
        · have hv := hv.1 c_18
          refine lv_iload hx hb dX9_leastOf_78 (lv_at hl 0 rfl) ?_
          refine lv_iload hx hb dX9_leastOf_80 (lv_at hl 5 rfl) ?_
          refine lv_icmp_ge (tgt := 88) hx hb dX9_leastOf_82 (by decide) (fun c_19 => ?_) (fun c_19 => ?_)
          · have hv := hv.1 c_19
            refine lv_iload hx hb dX9_leastOf_88 (lv_at hl 2 rfl) ?_
            refine lv_if_ne (tgt := 119) hx hb dX9_leastOf_90 (by decide) (fun c_20 => ?_) (fun c_20 => ?_)
            · have hv := hv.1 c_20
              obtain ⟨x_21, ex_21⟩ : ∃ z : Int32, z = y_12 + (-1) := ⟨_, rfl⟩
              have hv := hv x_21 ex_21
              refine lv_iinc (v := x_21) (lv' := [(7, .int x_21), (9, .int y_10), (8, .int y_11), (6, .int y_13), (5, .int y_14), (4, .int x_2), (3, .int (M 1 0)), (0, .ref (a 0)), (1, .int p1), (2, .int p2)]) hx hb dX9_leastOf_119 hl (k := 2) rfl (by rw [ex_21]; rfl) (by decide) rfl (fun ls hl => ?_)
              obtain ⟨x_22, ex_22⟩ : ∃ z : Int32, z = y_10 + 1 := ⟨_, rfl⟩
              have hv := hv x_22 ex_22
              refine lv_iinc (v := x_22) (lv' := [(9, .int x_22), (7, .int x_21), (8, .int y_11), (6, .int y_13), (5, .int y_14), (4, .int x_2), (3, .int (M 1 0)), (0, .ref (a 0)), (1, .int p1), (2, .int p2)]) hx hb dX9_leastOf_122 hl (k := 1) rfl (by rw [ex_22]; rfl) (by decide) rfl (fun ls hl => ?_)
              refine lv_goto (tgt := 35) hx hb dX9_leastOf_125 (by decide) ?_
              exact L_4_ih _ _ _ _ _ hv ls (lv_sub hl [0, 2, 1, 3, 4, 5, 6, 7, 8, 9] rfl)
            · have hv := hv.2 c_20
              refine lv_iload hx hb dX9_leastOf_93 (lv_at hl 3 rfl) ?_
              refine lv_iload hx hb dX9_leastOf_95 (lv_at hl 1 rfl) ?_
              refine lv_icmp_ge (tgt := 104) hx hb dX9_leastOf_97 (by decide) (fun c_23 => ?_) (fun c_23 => ?_)
              · have hv := hv.1 c_23
                refine lv_iload hx hb dX9_leastOf_104 (lv_at hl 3 rfl) ?_
                refine lv_if_ne (tgt := 112) hx hb dX9_leastOf_106 (by decide) (fun c_24 => ?_) (fun c_24 => ?_)
                · have hv := hv.1 c_24
                  obtain ⟨x_25, ex_25⟩ : ∃ z : Int32, z = y_13 + (-1) := ⟨_, rfl⟩
                  have hv := hv x_25 ex_25
                  refine lv_iinc (v := x_25) (lv' := [(6, .int x_25), (9, .int y_10), (8, .int y_11), (7, .int y_12), (5, .int y_14), (4, .int x_2), (3, .int (M 1 0)), (0, .ref (a 0)), (1, .int p1), (2, .int p2)]) hx hb dX9_leastOf_112 hl (k := 3) rfl (by rw [ex_25]; rfl) (by decide) rfl (fun ls hl => ?_)
                  refine lv_bipush (v := 8) hx hb dX9_leastOf_115 (by decide) ?_
                  refine lv_istore (lv' := [(7, .int 8), (6, .int x_25), (9, .int y_10), (8, .int y_11), (5, .int y_14), (4, .int x_2), (3, .int (M 1 0)), (0, .ref (a 0)), (1, .int p1), (2, .int p2)]) hx hb dX9_leastOf_117 hl (by decide) rfl (fun ls hl => ?_)
                  obtain ⟨x_26, ex_26⟩ : ∃ z : Int32, z = 8 + (-1) := ⟨_, rfl⟩
                  have hv := hv x_26 ex_26
                  refine lv_iinc (v := x_26) (lv' := [(7, .int x_26), (6, .int x_25), (9, .int y_10), (8, .int y_11), (5, .int y_14), (4, .int x_2), (3, .int (M 1 0)), (0, .ref (a 0)), (1, .int p1), (2, .int p2)]) hx hb dX9_leastOf_119 hl (k := 0) rfl (by rw [ex_26]; rfl) (by decide) rfl (fun ls hl => ?_)
                  obtain ⟨x_27, ex_27⟩ : ∃ z : Int32, z = y_10 + 1 := ⟨_, rfl⟩
                  have hv := hv x_27 ex_27
                  refine lv_iinc (v := x_27) (lv' := [(9, .int x_27), (7, .int x_26), (6, .int x_25), (8, .int y_11), (5, .int y_14), (4, .int x_2), (3, .int (M 1 0)), (0, .ref (a 0)), (1, .int p1), (2, .int p2)]) hx hb dX9_leastOf_122 hl (k := 2) rfl (by rw [ex_27]; rfl) (by decide) rfl (fun ls hl => ?_)
                  refine lv_goto (tgt := 35) hx hb dX9_leastOf_125 (by decide) ?_
                  exact L_4_ih _ _ _ _ _ hv ls (lv_sub hl [0, 3, 1, 2, 4, 5, 6, 7, 8, 9] rfl)
                · have hv := hv.2 c_24
                  refine lv_goto (tgt := 122) hx hb dX9_leastOf_109 (by decide) ?_
                  obtain ⟨x_28, ex_28⟩ : ∃ z : Int32, z = y_10 + 1 := ⟨_, rfl⟩
                  have hv := hv x_28 ex_28
                  refine lv_iinc (v := x_28) (lv' := [(9, .int x_28), (8, .int y_11), (7, .int y_12), (6, .int y_13), (5, .int y_14), (4, .int x_2), (3, .int (M 1 0)), (0, .ref (a 0)), (1, .int p1), (2, .int p2)]) hx hb dX9_leastOf_122 hl (k := 0) rfl (by rw [ex_28]; rfl) (by decide) rfl (fun ls hl => ?_)
                  refine lv_goto (tgt := 35) hx hb dX9_leastOf_125 (by decide) ?_
                  exact L_4_ih _ _ _ _ _ hv ls (lv_sub hl [0, 1, 2, 3, 4, 5, 6, 7, 8, 9] rfl)
              · have hv := hv.2 c_23
                refine lv_iload hx hb dX9_leastOf_100 (lv_at hl 3 rfl) ?_
                refine lv_istore (lv' := [(8, .int y_13), (9, .int y_10), (7, .int y_12), (6, .int y_13), (5, .int y_14), (4, .int x_2), (3, .int (M 1 0)), (0, .ref (a 0)), (1, .int p1), (2, .int p2)]) hx hb dX9_leastOf_102 hl (by decide) rfl (fun ls hl => ?_)
                refine lv_iload hx hb dX9_leastOf_104 (lv_at hl 3 rfl) ?_
                refine lv_if_ne (tgt := 112) hx hb dX9_leastOf_106 (by decide) (fun c_29 => ?_) (fun c_29 => ?_)
                · have hv := hv.1 c_29
                  obtain ⟨x_30, ex_30⟩ : ∃ z : Int32, z = y_13 + (-1) := ⟨_, rfl⟩
                  have hv := hv x_30 ex_30
                  refine lv_iinc (v := x_30) (lv' := [(6, .int x_30), (8, .int y_13), (9, .int y_10), (7, .int y_12), (5, .int y_14), (4, .int x_2), (3, .int (M 1 0)), (0, .ref (a 0)), (1, .int p1), (2, .int p2)]) hx hb dX9_leastOf_112 hl (k := 3) rfl (by rw [ex_30]; rfl) (by decide) rfl (fun ls hl => ?_)
                  refine lv_bipush (v := 8) hx hb dX9_leastOf_115 (by decide) ?_
                  refine lv_istore (lv' := [(7, .int 8), (6, .int x_30), (8, .int y_13), (9, .int y_10), (5, .int y_14), (4, .int x_2), (3, .int (M 1 0)), (0, .ref (a 0)), (1, .int p1), (2, .int p2)]) hx hb dX9_leastOf_117 hl (by decide) rfl (fun ls hl => ?_)
                  obtain ⟨x_31, ex_31⟩ : ∃ z : Int32, z = 8 + (-1) := ⟨_, rfl⟩
                  have hv := hv x_31 ex_31
                  refine lv_iinc (v := x_31) (lv' := [(7, .int x_31), (6, .int x_30), (8, .int y_13), (9, .int y_10), (5, .int y_14), (4, .int x_2), (3, .int (M 1 0)), (0, .ref (a 0)), (1, .int p1), (2, .int p2)]) hx hb dX9_leastOf_119 hl (k := 0) rfl (by rw [ex_31]; rfl) (by decide) rfl (fun ls hl => ?_)
                  obtain ⟨x_32, ex_32⟩ : ∃ z : Int32, z = y_10 + 1 := ⟨_, rfl⟩
                  have hv := hv x_32 ex_32
                  refine lv_iinc (v := x_32) (lv' := [(9, .int x_32), (7, .int x_31), (6, .int x_30), (8, .int y_13), (5, .int y_14), (4, .int x_2), (3, .int (M 1 0)), (0, .ref (a 0)), (1, .int p1), (2, .int p2)]) hx hb dX9_leastOf_122 hl (k := 3) rfl (by rw [ex_32]; rfl) (by decide) rfl (fun ls hl => ?_)
                  refine lv_goto (tgt := 35) hx hb dX9_leastOf_125 (by decide) ?_
                  exact L_4_ih _ _ _ _ _ hv ls (lv_sub hl [0, 3, 1, 2, 4, 5, 6, 7, 8, 9] rfl)
                · have hv := hv.2 c_29
                  refine lv_goto (tgt := 122) hx hb dX9_leastOf_109 (by decide) ?_
                  obtain ⟨x_33, ex_33⟩ : ∃ z : Int32, z = y_10 + 1 := ⟨_, rfl⟩
                  have hv := hv x_33 ex_33
                  refine lv_iinc (v := x_33) (lv' := [(9, .int x_33), (8, .int y_13), (7, .int y_12), (6, .int y_13), (5, .int y_14), (4, .int x_2), (3, .int (M 1 0)), (0, .ref (a 0)), (1, .int p1), (2, .int p2)]) hx hb dX9_leastOf_122 hl (k := 1) rfl (by rw [ex_33]; rfl) (by decide) rfl (fun ls hl => ?_)
                  refine lv_goto (tgt := 35) hx hb dX9_leastOf_125 (by decide) ?_
                  exact L_4_ih _ _ _ _ _ hv ls (lv_sub hl [0, 1, 2, 3, 4, 5, 6, 7, 8, 9] rfl)
          · have hv := hv.2 c_19
            refine lv_goto (tgt := 122) hx hb dX9_leastOf_85 (by decide) ?_
            obtain ⟨x_34, ex_34⟩ : ∃ z : Int32, z = y_10 + 1 := ⟨_, rfl⟩
            have hv := hv x_34 ex_34
            refine lv_iinc (v := x_34) (lv' := [(9, .int x_34), (8, .int y_11), (7, .int y_12), (6, .int y_13), (5, .int y_14), (4, .int x_2), (3, .int (M 1 0)), (0, .ref (a 0)), (1, .int p1), (2, .int p2)]) hx hb dX9_leastOf_122 hl (k := 0) rfl (by rw [ex_34]; rfl) (by decide) rfl (fun ls hl => ?_)
            refine lv_goto (tgt := 35) hx hb dX9_leastOf_125 (by decide) ?_
            exact L_4_ih _ _ _ _ _ hv ls (lv_sub hl [0, 1, 2, 3, 4, 5, 6, 7, 8, 9] rfl)
        · have hv := hv.2 c_18
          refine lv_iload hx hb dX9_leastOf_55 (lv_at hl 3 rfl) ?_
          refine lv_aload_n hx hb dX9_leastOf_57 rfl (lv_at hl 7 rfl) ?_
          refine va_get (D := D) (ci := 9) (v := .ref (a 1)) (C := RX9) (T := TX9) (N := 2) hx hb hts in_X9 hown hK hP 0 rfl rfl 0 (by decide) kf_7 (fun _ h9 => h9) rfl dX9_leastOf_58 ?_
          refine lv_bipush (v := 29) hx hb dX9_leastOf_61 (by decide) ?_
          refine x_ald hx hb hK hP 1 0 rfl rfl 29 rfl (by decide) (by decide) dX9_leastOf_63 ?_
          refine lv_icmp_ge (tgt := 78) hx hb dX9_leastOf_64 (by decide) (fun c_35 => ?_) (fun c_35 => ?_)
          · have hv := hv.1 c_35
            refine lv_iload hx hb dX9_leastOf_78 (lv_at hl 0 rfl) ?_
            refine lv_iload hx hb dX9_leastOf_80 (lv_at hl 5 rfl) ?_
            refine lv_icmp_ge (tgt := 88) hx hb dX9_leastOf_82 (by decide) (fun c_36 => ?_) (fun c_36 => ?_)
            · have hv := hv.1 c_36
              refine lv_iload hx hb dX9_leastOf_88 (lv_at hl 2 rfl) ?_
              refine lv_if_ne (tgt := 119) hx hb dX9_leastOf_90 (by decide) (fun c_37 => ?_) (fun c_37 => ?_)
              · have hv := hv.1 c_37
                obtain ⟨x_38, ex_38⟩ : ∃ z : Int32, z = y_12 + (-1) := ⟨_, rfl⟩
                have hv := hv x_38 ex_38
                refine lv_iinc (v := x_38) (lv' := [(7, .int x_38), (9, .int y_10), (8, .int y_11), (6, .int y_13), (5, .int y_14), (4, .int x_2), (3, .int (M 1 0)), (0, .ref (a 0)), (1, .int p1), (2, .int p2)]) hx hb dX9_leastOf_119 hl (k := 2) rfl (by rw [ex_38]; rfl) (by decide) rfl (fun ls hl => ?_)
                obtain ⟨x_39, ex_39⟩ : ∃ z : Int32, z = y_10 + 1 := ⟨_, rfl⟩
                have hv := hv x_39 ex_39
                refine lv_iinc (v := x_39) (lv' := [(9, .int x_39), (7, .int x_38), (8, .int y_11), (6, .int y_13), (5, .int y_14), (4, .int x_2), (3, .int (M 1 0)), (0, .ref (a 0)), (1, .int p1), (2, .int p2)]) hx hb dX9_leastOf_122 hl (k := 1) rfl (by rw [ex_39]; rfl) (by decide) rfl (fun ls hl => ?_)
                refine lv_goto (tgt := 35) hx hb dX9_leastOf_125 (by decide) ?_
                exact L_4_ih _ _ _ _ _ hv ls (lv_sub hl [0, 2, 1, 3, 4, 5, 6, 7, 8, 9] rfl)
              · have hv := hv.2 c_37
                refine lv_iload hx hb dX9_leastOf_93 (lv_at hl 3 rfl) ?_
                refine lv_iload hx hb dX9_leastOf_95 (lv_at hl 1 rfl) ?_
                refine lv_icmp_ge (tgt := 104) hx hb dX9_leastOf_97 (by decide) (fun c_40 => ?_) (fun c_40 => ?_)
                · have hv := hv.1 c_40
                  refine lv_iload hx hb dX9_leastOf_104 (lv_at hl 3 rfl) ?_
                  refine lv_if_ne (tgt := 112) hx hb dX9_leastOf_106 (by decide) (fun c_41 => ?_) (fun c_41 => ?_)
                  · have hv := hv.1 c_41
                    obtain ⟨x_42, ex_42⟩ : ∃ z : Int32, z = y_13 + (-1) := ⟨_, rfl⟩
                    have hv := hv x_42 ex_42
                    refine lv_iinc (v := x_42) (lv' := [(6, .int x_42), (9, .int y_10), (8, .int y_11), (7, .int y_12), (5, .int y_14), (4, .int x_2), (3, .int (M 1 0)), (0, .ref (a 0)), (1, .int p1), (2, .int p2)]) hx hb dX9_leastOf_112 hl (k := 3) rfl (by rw [ex_42]; rfl) (by decide) rfl (fun ls hl => ?_)
                    refine lv_bipush (v := 8) hx hb dX9_leastOf_115 (by decide) ?_
                    refine lv_istore (lv' := [(7, .int 8), (6, .int x_42), (9, .int y_10), (8, .int y_11), (5, .int y_14), (4, .int x_2), (3, .int (M 1 0)), (0, .ref (a 0)), (1, .int p1), (2, .int p2)]) hx hb dX9_leastOf_117 hl (by decide) rfl (fun ls hl => ?_)
                    obtain ⟨x_43, ex_43⟩ : ∃ z : Int32, z = 8 + (-1) := ⟨_, rfl⟩
                    have hv := hv x_43 ex_43
                    refine lv_iinc (v := x_43) (lv' := [(7, .int x_43), (6, .int x_42), (9, .int y_10), (8, .int y_11), (5, .int y_14), (4, .int x_2), (3, .int (M 1 0)), (0, .ref (a 0)), (1, .int p1), (2, .int p2)]) hx hb dX9_leastOf_119 hl (k := 0) rfl (by rw [ex_43]; rfl) (by decide) rfl (fun ls hl => ?_)
                    obtain ⟨x_44, ex_44⟩ : ∃ z : Int32, z = y_10 + 1 := ⟨_, rfl⟩
                    have hv := hv x_44 ex_44
                    refine lv_iinc (v := x_44) (lv' := [(9, .int x_44), (7, .int x_43), (6, .int x_42), (8, .int y_11), (5, .int y_14), (4, .int x_2), (3, .int (M 1 0)), (0, .ref (a 0)), (1, .int p1), (2, .int p2)]) hx hb dX9_leastOf_122 hl (k := 2) rfl (by rw [ex_44]; rfl) (by decide) rfl (fun ls hl => ?_)
                    refine lv_goto (tgt := 35) hx hb dX9_leastOf_125 (by decide) ?_
                    exact L_4_ih _ _ _ _ _ hv ls (lv_sub hl [0, 3, 1, 2, 4, 5, 6, 7, 8, 9] rfl)
                  · have hv := hv.2 c_41
                    refine lv_goto (tgt := 122) hx hb dX9_leastOf_109 (by decide) ?_
                    obtain ⟨x_45, ex_45⟩ : ∃ z : Int32, z = y_10 + 1 := ⟨_, rfl⟩
                    have hv := hv x_45 ex_45
                    refine lv_iinc (v := x_45) (lv' := [(9, .int x_45), (8, .int y_11), (7, .int y_12), (6, .int y_13), (5, .int y_14), (4, .int x_2), (3, .int (M 1 0)), (0, .ref (a 0)), (1, .int p1), (2, .int p2)]) hx hb dX9_leastOf_122 hl (k := 0) rfl (by rw [ex_45]; rfl) (by decide) rfl (fun ls hl => ?_)
                    refine lv_goto (tgt := 35) hx hb dX9_leastOf_125 (by decide) ?_
                    exact L_4_ih _ _ _ _ _ hv ls (lv_sub hl [0, 1, 2, 3, 4, 5, 6, 7, 8, 9] rfl)
                · have hv := hv.2 c_40
                  refine lv_iload hx hb dX9_leastOf_100 (lv_at hl 3 rfl) ?_
                  refine lv_istore (lv' := [(8, .int y_13), (9, .int y_10), (7, .int y_12), (6, .int y_13), (5, .int y_14), (4, .int x_2), (3, .int (M 1 0)), (0, .ref (a 0)), (1, .int p1), (2, .int p2)]) hx hb dX9_leastOf_102 hl (by decide) rfl (fun ls hl => ?_)
                  refine lv_iload hx hb dX9_leastOf_104 (lv_at hl 3 rfl) ?_
                  refine lv_if_ne (tgt := 112) hx hb dX9_leastOf_106 (by decide) (fun c_46 => ?_) (fun c_46 => ?_)
                  · have hv := hv.1 c_46
                    obtain ⟨x_47, ex_47⟩ : ∃ z : Int32, z = y_13 + (-1) := ⟨_, rfl⟩
                    have hv := hv x_47 ex_47
                    refine lv_iinc (v := x_47) (lv' := [(6, .int x_47), (8, .int y_13), (9, .int y_10), (7, .int y_12), (5, .int y_14), (4, .int x_2), (3, .int (M 1 0)), (0, .ref (a 0)), (1, .int p1), (2, .int p2)]) hx hb dX9_leastOf_112 hl (k := 3) rfl (by rw [ex_47]; rfl) (by decide) rfl (fun ls hl => ?_)
                    refine lv_bipush (v := 8) hx hb dX9_leastOf_115 (by decide) ?_
                    refine lv_istore (lv' := [(7, .int 8), (6, .int x_47), (8, .int y_13), (9, .int y_10), (5, .int y_14), (4, .int x_2), (3, .int (M 1 0)), (0, .ref (a 0)), (1, .int p1), (2, .int p2)]) hx hb dX9_leastOf_117 hl (by decide) rfl (fun ls hl => ?_)
                    obtain ⟨x_48, ex_48⟩ : ∃ z : Int32, z = 8 + (-1) := ⟨_, rfl⟩
                    have hv := hv x_48 ex_48
                    refine lv_iinc (v := x_48) (lv' := [(7, .int x_48), (6, .int x_47), (8, .int y_13), (9, .int y_10), (5, .int y_14), (4, .int x_2), (3, .int (M 1 0)), (0, .ref (a 0)), (1, .int p1), (2, .int p2)]) hx hb dX9_leastOf_119 hl (k := 0) rfl (by rw [ex_48]; rfl) (by decide) rfl (fun ls hl => ?_)
                    obtain ⟨x_49, ex_49⟩ : ∃ z : Int32, z = y_10 + 1 := ⟨_, rfl⟩
                    have hv := hv x_49 ex_49
                    refine lv_iinc (v := x_49) (lv' := [(9, .int x_49), (7, .int x_48), (6, .int x_47), (8, .int y_13), (5, .int y_14), (4, .int x_2), (3, .int (M 1 0)), (0, .ref (a 0)), (1, .int p1), (2, .int p2)]) hx hb dX9_leastOf_122 hl (k := 3) rfl (by rw [ex_49]; rfl) (by decide) rfl (fun ls hl => ?_)
                    refine lv_goto (tgt := 35) hx hb dX9_leastOf_125 (by decide) ?_
                    exact L_4_ih _ _ _ _ _ hv ls (lv_sub hl [0, 3, 1, 2, 4, 5, 6, 7, 8, 9] rfl)
                  · have hv := hv.2 c_46
                    refine lv_goto (tgt := 122) hx hb dX9_leastOf_109 (by decide) ?_
                    obtain ⟨x_50, ex_50⟩ : ∃ z : Int32, z = y_10 + 1 := ⟨_, rfl⟩
                    have hv := hv x_50 ex_50
                    refine lv_iinc (v := x_50) (lv' := [(9, .int x_50), (8, .int y_13), (7, .int y_12), (6, .int y_13), (5, .int y_14), (4, .int x_2), (3, .int (M 1 0)), (0, .ref (a 0)), (1, .int p1), (2, .int p2)]) hx hb dX9_leastOf_122 hl (k := 1) rfl (by rw [ex_50]; rfl) (by decide) rfl (fun ls hl => ?_)
                    refine lv_goto (tgt := 35) hx hb dX9_leastOf_125 (by decide) ?_
                    exact L_4_ih _ _ _ _ _ hv ls (lv_sub hl [0, 1, 2, 3, 4, 5, 6, 7, 8, 9] rfl)
            · have hv := hv.2 c_36
              refine lv_goto (tgt := 122) hx hb dX9_leastOf_85 (by decide) ?_
              obtain ⟨x_51, ex_51⟩ : ∃ z : Int32, z = y_10 + 1 := ⟨_, rfl⟩
              have hv := hv x_51 ex_51
              refine lv_iinc (v := x_51) (lv' := [(9, .int x_51), (8, .int y_11), (7, .int y_12), (6, .int y_13), (5, .int y_14), (4, .int x_2), (3, .int (M 1 0)), (0, .ref (a 0)), (1, .int p1), (2, .int p2)]) hx hb dX9_leastOf_122 hl (k := 0) rfl (by rw [ex_51]; rfl) (by decide) rfl (fun ls hl => ?_)
              refine lv_goto (tgt := 35) hx hb dX9_leastOf_125 (by decide) ?_
              exact L_4_ih _ _ _ _ _ hv ls (lv_sub hl [0, 1, 2, 3, 4, 5, 6, 7, 8, 9] rfl)
          · have hv := hv.2 c_35
            refine lv_iload hx hb dX9_leastOf_67 (lv_at hl 4 rfl) ?_
            refine lv_if_le (tgt := 78) hx hb dX9_leastOf_69 (by decide) (fun c_52 => ?_) (fun c_52 => ?_)
            · have hv := hv.1 c_52
              refine lv_iload hx hb dX9_leastOf_78 (lv_at hl 0 rfl) ?_
              refine lv_iload hx hb dX9_leastOf_80 (lv_at hl 5 rfl) ?_
              refine lv_icmp_ge (tgt := 88) hx hb dX9_leastOf_82 (by decide) (fun c_53 => ?_) (fun c_53 => ?_)
              · have hv := hv.1 c_53
                refine lv_iload hx hb dX9_leastOf_88 (lv_at hl 2 rfl) ?_
                refine lv_if_ne (tgt := 119) hx hb dX9_leastOf_90 (by decide) (fun c_54 => ?_) (fun c_54 => ?_)
                · have hv := hv.1 c_54
                  obtain ⟨x_55, ex_55⟩ : ∃ z : Int32, z = y_12 + (-1) := ⟨_, rfl⟩
                  have hv := hv x_55 ex_55
                  refine lv_iinc (v := x_55) (lv' := [(7, .int x_55), (9, .int y_10), (8, .int y_11), (6, .int y_13), (5, .int y_14), (4, .int x_2), (3, .int (M 1 0)), (0, .ref (a 0)), (1, .int p1), (2, .int p2)]) hx hb dX9_leastOf_119 hl (k := 2) rfl (by rw [ex_55]; rfl) (by decide) rfl (fun ls hl => ?_)
                  obtain ⟨x_56, ex_56⟩ : ∃ z : Int32, z = y_10 + 1 := ⟨_, rfl⟩
                  have hv := hv x_56 ex_56
                  refine lv_iinc (v := x_56) (lv' := [(9, .int x_56), (7, .int x_55), (8, .int y_11), (6, .int y_13), (5, .int y_14), (4, .int x_2), (3, .int (M 1 0)), (0, .ref (a 0)), (1, .int p1), (2, .int p2)]) hx hb dX9_leastOf_122 hl (k := 1) rfl (by rw [ex_56]; rfl) (by decide) rfl (fun ls hl => ?_)
                  refine lv_goto (tgt := 35) hx hb dX9_leastOf_125 (by decide) ?_
                  exact L_4_ih _ _ _ _ _ hv ls (lv_sub hl [0, 2, 1, 3, 4, 5, 6, 7, 8, 9] rfl)
                · have hv := hv.2 c_54
                  refine lv_iload hx hb dX9_leastOf_93 (lv_at hl 3 rfl) ?_
                  refine lv_iload hx hb dX9_leastOf_95 (lv_at hl 1 rfl) ?_
                  refine lv_icmp_ge (tgt := 104) hx hb dX9_leastOf_97 (by decide) (fun c_57 => ?_) (fun c_57 => ?_)
                  · have hv := hv.1 c_57
                    refine lv_iload hx hb dX9_leastOf_104 (lv_at hl 3 rfl) ?_
                    refine lv_if_ne (tgt := 112) hx hb dX9_leastOf_106 (by decide) (fun c_58 => ?_) (fun c_58 => ?_)
                    · have hv := hv.1 c_58
                      obtain ⟨x_59, ex_59⟩ : ∃ z : Int32, z = y_13 + (-1) := ⟨_, rfl⟩
                      have hv := hv x_59 ex_59
                      refine lv_iinc (v := x_59) (lv' := [(6, .int x_59), (9, .int y_10), (8, .int y_11), (7, .int y_12), (5, .int y_14), (4, .int x_2), (3, .int (M 1 0)), (0, .ref (a 0)), (1, .int p1), (2, .int p2)]) hx hb dX9_leastOf_112 hl (k := 3) rfl (by rw [ex_59]; rfl) (by decide) rfl (fun ls hl => ?_)
                      refine lv_bipush (v := 8) hx hb dX9_leastOf_115 (by decide) ?_
                      refine lv_istore (lv' := [(7, .int 8), (6, .int x_59), (9, .int y_10), (8, .int y_11), (5, .int y_14), (4, .int x_2), (3, .int (M 1 0)), (0, .ref (a 0)), (1, .int p1), (2, .int p2)]) hx hb dX9_leastOf_117 hl (by decide) rfl (fun ls hl => ?_)
                      obtain ⟨x_60, ex_60⟩ : ∃ z : Int32, z = 8 + (-1) := ⟨_, rfl⟩
                      have hv := hv x_60 ex_60
                      refine lv_iinc (v := x_60) (lv' := [(7, .int x_60), (6, .int x_59), (9, .int y_10), (8, .int y_11), (5, .int y_14), (4, .int x_2), (3, .int (M 1 0)), (0, .ref (a 0)), (1, .int p1), (2, .int p2)]) hx hb dX9_leastOf_119 hl (k := 0) rfl (by rw [ex_60]; rfl) (by decide) rfl (fun ls hl => ?_)
                      obtain ⟨x_61, ex_61⟩ : ∃ z : Int32, z = y_10 + 1 := ⟨_, rfl⟩
                      have hv := hv x_61 ex_61
                      refine lv_iinc (v := x_61) (lv' := [(9, .int x_61), (7, .int x_60), (6, .int x_59), (8, .int y_11), (5, .int y_14), (4, .int x_2), (3, .int (M 1 0)), (0, .ref (a 0)), (1, .int p1), (2, .int p2)]) hx hb dX9_leastOf_122 hl (k := 2) rfl (by rw [ex_61]; rfl) (by decide) rfl (fun ls hl => ?_)
                      refine lv_goto (tgt := 35) hx hb dX9_leastOf_125 (by decide) ?_
                      exact L_4_ih _ _ _ _ _ hv ls (lv_sub hl [0, 3, 1, 2, 4, 5, 6, 7, 8, 9] rfl)
                    · have hv := hv.2 c_58
                      refine lv_goto (tgt := 122) hx hb dX9_leastOf_109 (by decide) ?_
                      obtain ⟨x_62, ex_62⟩ : ∃ z : Int32, z = y_10 + 1 := ⟨_, rfl⟩
                      have hv := hv x_62 ex_62
                      refine lv_iinc (v := x_62) (lv' := [(9, .int x_62), (8, .int y_11), (7, .int y_12), (6, .int y_13), (5, .int y_14), (4, .int x_2), (3, .int (M 1 0)), (0, .ref (a 0)), (1, .int p1), (2, .int p2)]) hx hb dX9_leastOf_122 hl (k := 0) rfl (by rw [ex_62]; rfl) (by decide) rfl (fun ls hl => ?_)
                      refine lv_goto (tgt := 35) hx hb dX9_leastOf_125 (by decide) ?_
                      exact L_4_ih _ _ _ _ _ hv ls (lv_sub hl [0, 1, 2, 3, 4, 5, 6, 7, 8, 9] rfl)
                  · have hv := hv.2 c_57
                    refine lv_iload hx hb dX9_leastOf_100 (lv_at hl 3 rfl) ?_
                    refine lv_istore (lv' := [(8, .int y_13), (9, .int y_10), (7, .int y_12), (6, .int y_13), (5, .int y_14), (4, .int x_2), (3, .int (M 1 0)), (0, .ref (a 0)), (1, .int p1), (2, .int p2)]) hx hb dX9_leastOf_102 hl (by decide) rfl (fun ls hl => ?_)
                    refine lv_iload hx hb dX9_leastOf_104 (lv_at hl 3 rfl) ?_
                    refine lv_if_ne (tgt := 112) hx hb dX9_leastOf_106 (by decide) (fun c_63 => ?_) (fun c_63 => ?_)
                    · have hv := hv.1 c_63
                      obtain ⟨x_64, ex_64⟩ : ∃ z : Int32, z = y_13 + (-1) := ⟨_, rfl⟩
                      have hv := hv x_64 ex_64
                      refine lv_iinc (v := x_64) (lv' := [(6, .int x_64), (8, .int y_13), (9, .int y_10), (7, .int y_12), (5, .int y_14), (4, .int x_2), (3, .int (M 1 0)), (0, .ref (a 0)), (1, .int p1), (2, .int p2)]) hx hb dX9_leastOf_112 hl (k := 3) rfl (by rw [ex_64]; rfl) (by decide) rfl (fun ls hl => ?_)
                      refine lv_bipush (v := 8) hx hb dX9_leastOf_115 (by decide) ?_
                      refine lv_istore (lv' := [(7, .int 8), (6, .int x_64), (8, .int y_13), (9, .int y_10), (5, .int y_14), (4, .int x_2), (3, .int (M 1 0)), (0, .ref (a 0)), (1, .int p1), (2, .int p2)]) hx hb dX9_leastOf_117 hl (by decide) rfl (fun ls hl => ?_)
                      obtain ⟨x_65, ex_65⟩ : ∃ z : Int32, z = 8 + (-1) := ⟨_, rfl⟩
                      have hv := hv x_65 ex_65
                      refine lv_iinc (v := x_65) (lv' := [(7, .int x_65), (6, .int x_64), (8, .int y_13), (9, .int y_10), (5, .int y_14), (4, .int x_2), (3, .int (M 1 0)), (0, .ref (a 0)), (1, .int p1), (2, .int p2)]) hx hb dX9_leastOf_119 hl (k := 0) rfl (by rw [ex_65]; rfl) (by decide) rfl (fun ls hl => ?_)
                      obtain ⟨x_66, ex_66⟩ : ∃ z : Int32, z = y_10 + 1 := ⟨_, rfl⟩
                      have hv := hv x_66 ex_66
                      refine lv_iinc (v := x_66) (lv' := [(9, .int x_66), (7, .int x_65), (6, .int x_64), (8, .int y_13), (5, .int y_14), (4, .int x_2), (3, .int (M 1 0)), (0, .ref (a 0)), (1, .int p1), (2, .int p2)]) hx hb dX9_leastOf_122 hl (k := 3) rfl (by rw [ex_66]; rfl) (by decide) rfl (fun ls hl => ?_)
                      refine lv_goto (tgt := 35) hx hb dX9_leastOf_125 (by decide) ?_
                      exact L_4_ih _ _ _ _ _ hv ls (lv_sub hl [0, 3, 1, 2, 4, 5, 6, 7, 8, 9] rfl)
                    · have hv := hv.2 c_63
                      refine lv_goto (tgt := 122) hx hb dX9_leastOf_109 (by decide) ?_
                      obtain ⟨x_67, ex_67⟩ : ∃ z : Int32, z = y_10 + 1 := ⟨_, rfl⟩
                      have hv := hv x_67 ex_67
                      refine lv_iinc (v := x_67) (lv' := [(9, .int x_67), (8, .int y_13), (7, .int y_12), (6, .int y_13), (5, .int y_14), (4, .int x_2), (3, .int (M 1 0)), (0, .ref (a 0)), (1, .int p1), (2, .int p2)]) hx hb dX9_leastOf_122 hl (k := 1) rfl (by rw [ex_67]; rfl) (by decide) rfl (fun ls hl => ?_)
                      refine lv_goto (tgt := 35) hx hb dX9_leastOf_125 (by decide) ?_
                      exact L_4_ih _ _ _ _ _ hv ls (lv_sub hl [0, 1, 2, 3, 4, 5, 6, 7, 8, 9] rfl)
              · have hv := hv.2 c_53
                refine lv_goto (tgt := 122) hx hb dX9_leastOf_85 (by decide) ?_
                obtain ⟨x_68, ex_68⟩ : ∃ z : Int32, z = y_10 + 1 := ⟨_, rfl⟩
                have hv := hv x_68 ex_68
                refine lv_iinc (v := x_68) (lv' := [(9, .int x_68), (8, .int y_11), (7, .int y_12), (6, .int y_13), (5, .int y_14), (4, .int x_2), (3, .int (M 1 0)), (0, .ref (a 0)), (1, .int p1), (2, .int p2)]) hx hb dX9_leastOf_122 hl (k := 0) rfl (by rw [ex_68]; rfl) (by decide) rfl (fun ls hl => ?_)
                refine lv_goto (tgt := 35) hx hb dX9_leastOf_125 (by decide) ?_
                exact L_4_ih _ _ _ _ _ hv ls (lv_sub hl [0, 1, 2, 3, 4, 5, 6, 7, 8, 9] rfl)
            · have hv := hv.2 c_52
              obtain ⟨x_69, ex_69⟩ : ∃ z : Int32, z = y_13 + 1 := ⟨_, rfl⟩
              have hv := hv x_69 ex_69
              refine lv_iinc (v := x_69) (lv' := [(6, .int x_69), (9, .int y_10), (8, .int y_11), (7, .int y_12), (5, .int y_14), (4, .int x_2), (3, .int (M 1 0)), (0, .ref (a 0)), (1, .int p1), (2, .int p2)]) hx hb dX9_leastOf_72 hl (k := 3) rfl (by rw [ex_69]; rfl) (by decide) rfl (fun ls hl => ?_)
              obtain ⟨x_70, ex_70⟩ : ∃ z : Int32, z = y_14 + (-1) := ⟨_, rfl⟩
              have hv := hv x_70 ex_70
              refine lv_iinc (v := x_70) (lv' := [(5, .int x_70), (6, .int x_69), (9, .int y_10), (8, .int y_11), (7, .int y_12), (4, .int x_2), (3, .int (M 1 0)), (0, .ref (a 0)), (1, .int p1), (2, .int p2)]) hx hb dX9_leastOf_75 hl (k := 4) rfl (by rw [ex_70]; rfl) (by decide) rfl (fun ls hl => ?_)
              refine lv_iload hx hb dX9_leastOf_78 (lv_at hl 2 rfl) ?_
              refine lv_iload hx hb dX9_leastOf_80 (lv_at hl 5 rfl) ?_
              refine lv_icmp_ge (tgt := 88) hx hb dX9_leastOf_82 (by decide) (fun c_71 => ?_) (fun c_71 => ?_)
              · have hv := hv.1 c_71
                refine lv_iload hx hb dX9_leastOf_88 (lv_at hl 4 rfl) ?_
                refine lv_if_ne (tgt := 119) hx hb dX9_leastOf_90 (by decide) (fun c_72 => ?_) (fun c_72 => ?_)
                · have hv := hv.1 c_72
                  obtain ⟨x_73, ex_73⟩ : ∃ z : Int32, z = y_12 + (-1) := ⟨_, rfl⟩
                  have hv := hv x_73 ex_73
                  refine lv_iinc (v := x_73) (lv' := [(7, .int x_73), (5, .int x_70), (6, .int x_69), (9, .int y_10), (8, .int y_11), (4, .int x_2), (3, .int (M 1 0)), (0, .ref (a 0)), (1, .int p1), (2, .int p2)]) hx hb dX9_leastOf_119 hl (k := 4) rfl (by rw [ex_73]; rfl) (by decide) rfl (fun ls hl => ?_)
                  obtain ⟨x_74, ex_74⟩ : ∃ z : Int32, z = y_10 + 1 := ⟨_, rfl⟩
                  have hv := hv x_74 ex_74
                  refine lv_iinc (v := x_74) (lv' := [(9, .int x_74), (7, .int x_73), (5, .int x_70), (6, .int x_69), (8, .int y_11), (4, .int x_2), (3, .int (M 1 0)), (0, .ref (a 0)), (1, .int p1), (2, .int p2)]) hx hb dX9_leastOf_122 hl (k := 3) rfl (by rw [ex_74]; rfl) (by decide) rfl (fun ls hl => ?_)
                  refine lv_goto (tgt := 35) hx hb dX9_leastOf_125 (by decide) ?_
                  exact L_4_ih _ _ _ _ _ hv ls (lv_sub hl [0, 4, 1, 3, 2, 5, 6, 7, 8, 9] rfl)
                · have hv := hv.2 c_72
                  refine lv_iload hx hb dX9_leastOf_93 (lv_at hl 1 rfl) ?_
                  refine lv_iload hx hb dX9_leastOf_95 (lv_at hl 3 rfl) ?_
                  refine lv_icmp_ge (tgt := 104) hx hb dX9_leastOf_97 (by decide) (fun c_75 => ?_) (fun c_75 => ?_)
                  · have hv := hv.1 c_75
                    refine lv_iload hx hb dX9_leastOf_104 (lv_at hl 1 rfl) ?_
                    refine lv_if_ne (tgt := 112) hx hb dX9_leastOf_106 (by decide) (fun c_76 => ?_) (fun c_76 => ?_)
                    · have hv := hv.1 c_76
                      obtain ⟨x_77, ex_77⟩ : ∃ z : Int32, z = x_69 + (-1) := ⟨_, rfl⟩
                      have hv := hv x_77 ex_77
                      refine lv_iinc (v := x_77) (lv' := [(6, .int x_77), (5, .int x_70), (9, .int y_10), (8, .int y_11), (7, .int y_12), (4, .int x_2), (3, .int (M 1 0)), (0, .ref (a 0)), (1, .int p1), (2, .int p2)]) hx hb dX9_leastOf_112 hl (k := 1) rfl (by rw [ex_77]; rfl) (by decide) rfl (fun ls hl => ?_)
                      refine lv_bipush (v := 8) hx hb dX9_leastOf_115 (by decide) ?_
                      refine lv_istore (lv' := [(7, .int 8), (6, .int x_77), (5, .int x_70), (9, .int y_10), (8, .int y_11), (4, .int x_2), (3, .int (M 1 0)), (0, .ref (a 0)), (1, .int p1), (2, .int p2)]) hx hb dX9_leastOf_117 hl (by decide) rfl (fun ls hl => ?_)
                      obtain ⟨x_78, ex_78⟩ : ∃ z : Int32, z = 8 + (-1) := ⟨_, rfl⟩
                      have hv := hv x_78 ex_78
                      refine lv_iinc (v := x_78) (lv' := [(7, .int x_78), (6, .int x_77), (5, .int x_70), (9, .int y_10), (8, .int y_11), (4, .int x_2), (3, .int (M 1 0)), (0, .ref (a 0)), (1, .int p1), (2, .int p2)]) hx hb dX9_leastOf_119 hl (k := 0) rfl (by rw [ex_78]; rfl) (by decide) rfl (fun ls hl => ?_)
                      obtain ⟨x_79, ex_79⟩ : ∃ z : Int32, z = y_10 + 1 := ⟨_, rfl⟩
                      have hv := hv x_79 ex_79
                      refine lv_iinc (v := x_79) (lv' := [(9, .int x_79), (7, .int x_78), (6, .int x_77), (5, .int x_70), (8, .int y_11), (4, .int x_2), (3, .int (M 1 0)), (0, .ref (a 0)), (1, .int p1), (2, .int p2)]) hx hb dX9_leastOf_122 hl (k := 3) rfl (by rw [ex_79]; rfl) (by decide) rfl (fun ls hl => ?_)
                      refine lv_goto (tgt := 35) hx hb dX9_leastOf_125 (by decide) ?_
                      exact L_4_ih _ _ _ _ _ hv ls (lv_sub hl [0, 4, 1, 2, 3, 5, 6, 7, 8, 9] rfl)
                    · have hv := hv.2 c_76
                      refine lv_goto (tgt := 122) hx hb dX9_leastOf_109 (by decide) ?_
                      obtain ⟨x_80, ex_80⟩ : ∃ z : Int32, z = y_10 + 1 := ⟨_, rfl⟩
                      have hv := hv x_80 ex_80
                      refine lv_iinc (v := x_80) (lv' := [(9, .int x_80), (5, .int x_70), (6, .int x_69), (8, .int y_11), (7, .int y_12), (4, .int x_2), (3, .int (M 1 0)), (0, .ref (a 0)), (1, .int p1), (2, .int p2)]) hx hb dX9_leastOf_122 hl (k := 2) rfl (by rw [ex_80]; rfl) (by decide) rfl (fun ls hl => ?_)
                      refine lv_goto (tgt := 35) hx hb dX9_leastOf_125 (by decide) ?_
                      exact L_4_ih _ _ _ _ _ hv ls (lv_sub hl [0, 3, 4, 2, 1, 5, 6, 7, 8, 9] rfl)
                  · have hv := hv.2 c_75
                    refine lv_iload hx hb dX9_leastOf_100 (lv_at hl 1 rfl) ?_
                    refine lv_istore (lv' := [(8, .int x_69), (5, .int x_70), (6, .int x_69), (9, .int y_10), (7, .int y_12), (4, .int x_2), (3, .int (M 1 0)), (0, .ref (a 0)), (1, .int p1), (2, .int p2)]) hx hb dX9_leastOf_102 hl (by decide) rfl (fun ls hl => ?_)
                    refine lv_iload hx hb dX9_leastOf_104 (lv_at hl 2 rfl) ?_
                    refine lv_if_ne (tgt := 112) hx hb dX9_leastOf_106 (by decide) (fun c_81 => ?_) (fun c_81 => ?_)
                    · have hv := hv.1 c_81
                      obtain ⟨x_82, ex_82⟩ : ∃ z : Int32, z = x_69 + (-1) := ⟨_, rfl⟩
                      have hv := hv x_82 ex_82
                      refine lv_iinc (v := x_82) (lv' := [(6, .int x_82), (8, .int x_69), (5, .int x_70), (9, .int y_10), (7, .int y_12), (4, .int x_2), (3, .int (M 1 0)), (0, .ref (a 0)), (1, .int p1), (2, .int p2)]) hx hb dX9_leastOf_112 hl (k := 2) rfl (by rw [ex_82]; rfl) (by decide) rfl (fun ls hl => ?_)
                      refine lv_bipush (v := 8) hx hb dX9_leastOf_115 (by decide) ?_
                      refine lv_istore (lv' := [(7, .int 8), (6, .int x_82), (8, .int x_69), (5, .int x_70), (9, .int y_10), (4, .int x_2), (3, .int (M 1 0)), (0, .ref (a 0)), (1, .int p1), (2, .int p2)]) hx hb dX9_leastOf_117 hl (by decide) rfl (fun ls hl => ?_)
                      obtain ⟨x_83, ex_83⟩ : ∃ z : Int32, z = 8 + (-1) := ⟨_, rfl⟩
                      have hv := hv x_83 ex_83
                      refine lv_iinc (v := x_83) (lv' := [(7, .int x_83), (6, .int x_82), (8, .int x_69), (5, .int x_70), (9, .int y_10), (4, .int x_2), (3, .int (M 1 0)), (0, .ref (a 0)), (1, .int p1), (2, .int p2)]) hx hb dX9_leastOf_119 hl (k := 0) rfl (by rw [ex_83]; rfl) (by decide) rfl (fun ls hl => ?_)
                      obtain ⟨x_84, ex_84⟩ : ∃ z : Int32, z = y_10 + 1 := ⟨_, rfl⟩
                      have hv := hv x_84 ex_84
                      refine lv_iinc (v := x_84) (lv' := [(9, .int x_84), (7, .int x_83), (6, .int x_82), (8, .int x_69), (5, .int x_70), (4, .int x_2), (3, .int (M 1 0)), (0, .ref (a 0)), (1, .int p1), (2, .int p2)]) hx hb dX9_leastOf_122 hl (k := 4) rfl (by rw [ex_84]; rfl) (by decide) rfl (fun ls hl => ?_)
                      refine lv_goto (tgt := 35) hx hb dX9_leastOf_125 (by decide) ?_
                      exact L_4_ih _ _ _ _ _ hv ls (lv_sub hl [0, 3, 1, 2, 4, 5, 6, 7, 8, 9] rfl)
                    · have hv := hv.2 c_81
                      refine lv_goto (tgt := 122) hx hb dX9_leastOf_109 (by decide) ?_
                      obtain ⟨x_85, ex_85⟩ : ∃ z : Int32, z = y_10 + 1 := ⟨_, rfl⟩
                      have hv := hv x_85 ex_85
                      refine lv_iinc (v := x_85) (lv' := [(9, .int x_85), (8, .int x_69), (5, .int x_70), (6, .int x_69), (7, .int y_12), (4, .int x_2), (3, .int (M 1 0)), (0, .ref (a 0)), (1, .int p1), (2, .int p2)]) hx hb dX9_leastOf_122 hl (k := 3) rfl (by rw [ex_85]; rfl) (by decide) rfl (fun ls hl => ?_)
                      refine lv_goto (tgt := 35) hx hb dX9_leastOf_125 (by decide) ?_
                      exact L_4_ih _ _ _ _ _ hv ls (lv_sub hl [0, 1, 4, 3, 2, 5, 6, 7, 8, 9] rfl)
              · have hv := hv.2 c_71
                refine lv_goto (tgt := 122) hx hb dX9_leastOf_85 (by decide) ?_
                obtain ⟨x_86, ex_86⟩ : ∃ z : Int32, z = y_10 + 1 := ⟨_, rfl⟩
                have hv := hv x_86 ex_86
                refine lv_iinc (v := x_86) (lv' := [(9, .int x_86), (5, .int x_70), (6, .int x_69), (8, .int y_11), (7, .int y_12), (4, .int x_2), (3, .int (M 1 0)), (0, .ref (a 0)), (1, .int p1), (2, .int p2)]) hx hb dX9_leastOf_122 hl (k := 2) rfl (by rw [ex_86]; rfl) (by decide) rfl (fun ls hl => ?_)
                refine lv_goto (tgt := 35) hx hb dX9_leastOf_125 (by decide) ?_
                exact L_4_ih _ _ _ _ _ hv ls (lv_sub hl [0, 3, 4, 2, 1, 5, 6, 7, 8, 9] rfl)
  exact L_4 n_87 _ _ _ _ _ hv ls hl
def lp_X9_least_27 (M : ST) (p1 : Int32) (p2 : Int32) (post : Int32 → Prop) (K_ : Int32 → Int32 → Prop) : Nat → Int32 → Int32 → Prop
  | 0, _, _ => False
  | n_10 + 1, y_8, y_9 => ((((1 <<< (p1 &&& 31)) ≤ y_8) → K_ y_8 y_9) ∧ ((¬ ((1 <<< (p1 &&& 31)) ≤ y_8)) → v_X9_bitsOf y_8 (fun r_12 => (((p2 < r_12) → (((y_9 ≤ 9) → ∀ x_15 : Int32, x_15 = y_8 + 1 → lp_X9_least_27 M p1 p2 post K_ n_10 x_15 y_9) ∧ ((¬ (y_9 ≤ 9)) → ∀ x_16 : Int32, x_16 = y_8 + 1 → lp_X9_least_27 M p1 p2 post K_ n_10 x_16 9))) ∧ ((¬ (p2 < r_12)) → v_X9_leastOf M p1 y_8 (fun r_17 => (((y_9 ≤ r_17) → ∀ x_19 : Int32, x_19 = y_8 + 1 → lp_X9_least_27 M p1 p2 post K_ n_10 x_19 y_9) ∧ ((¬ (y_9 ≤ r_17)) → ∀ x_20 : Int32, x_20 = y_8 + 1 → lp_X9_least_27 M p1 p2 post K_ n_10 x_20 r_17))))))))
def v_X9_least (M : ST) (p1 : Int32) (p2 : Int32) (post : Int32 → Prop) : Prop := v_X9_isIn p1 1 10 (fun r_1 => (((r_1 = 0) → post (-1)) ∧ ((¬ (r_1 = 0)) → v_X9_isIn p2 0 p1 (fun r_3 => (((¬ (r_3 = 0)) → (∃ n_21 : Nat, lp_X9_least_27 M p1 p2 post (fun (y_6 : Int32) (y_7 : Int32) => post y_7) n_21 0 9)) ∧ ((r_3 = 0) → post (-1)))))))
set_option maxHeartbeats 4000000 in
set_option maxRecDepth 100000 in
theorem c_X9_least (l : Launch) (D : va_G) (cT : Nat → ClassId) (a : Nat → Nat) (M : ST) (p1 : Int32) (p2 : Int32) (post : Int32 → Prop) (hv : v_X9_least M p1 p2 post) : Met l yX9_least wsX9_least ({ frames := 2, cells := 0, slots := 0, locals := 50 }) (va_Pc [.ref (a 0), .int p1, .int p2] (x_R D cT ((w_Model cT a M)))) (vp_Si post) 0 0 (fun _ => False) := by
  refine Met.ofW (cc := cX9_least) (maxL := 6) (ret := (some .int)) (by decide) rfl ?_
  intro p e s m args below meth c s₁ B hml hpre
  obtain ⟨rfl, hP, hK, hN⟩ := hpre
  have hx := B.exec
  have hb := B.bytes
  have hr := B.returns
  have hts := atoms_spec (ws := wsX9_least) B.pre
  have hown : s.vm.findClass RX9 = some m.cls := findClass_of_methodNamed B.named
  have hlocks := B.notSynchronized
  have hS : va_S (fun _ : Nat => False) s.heap s.heap [] := va_S.rf
  have hl := lv_entry ([.ref (a 0), .int p1, .int p2]) (n := 6) (Nat.le_of_ble_eq_true rfl)
  rw [lg_entry_eq]
  generalize (lg_sl ([.ref (a 0), .int p1, .int p2]) ++ List.replicate (6 - (lg_sl ([.ref (a 0), .int p1, .int p2])).length) Slot.unset).toArray = ls at hl ⊢
  have hl : lv_has ls 6 [(0, .ref (a 0)), (1, .int p1), (2, .int p2)] := hl
  have w_17 : CallB (headSpec wsX9_least ({ frames := 2, cells := 0, slots := 0, locals := 50 })).room s ([.ref (a 0), .int p1, .int p2] : List Value).toArray RX9 17 yX9_isIn cX9_isIn 3 (some .boolean) wsX9_isIn ({ frames := 0, cells := 0, slots := 0, locals := 0 } : Room) 0 0 3 ∧ (Cond.static yX9_isIn).before ([.ref (a 0), .int p1, .int p2] : List Value).toArray s = true := va_cwS 3 hts gX9_least_X9_isIn rfl rfl rfl (by decide +kernel) ⟨Nat.le_of_ble_eq_true rfl, Nat.le_of_ble_eq_true rfl⟩
  have w_75 : CallB (headSpec wsX9_least ({ frames := 2, cells := 0, slots := 0, locals := 50 })).room s ([.ref (a 0), .int p1, .int p2] : List Value).toArray RX9 75 yX9_bitsOf cX9_bitsOf 3 (some .int) wsX9_bitsOf ({ frames := 0, cells := 0, slots := 0, locals := 0 } : Room) 0 0 1 ∧ (Cond.static yX9_bitsOf).before ([.ref (a 0), .int p1, .int p2] : List Value).toArray s = true := va_cwS 1 hts gX9_least_X9_bitsOf rfl rfl rfl (by decide +kernel) ⟨Nat.le_of_ble_eq_true rfl, Nat.le_of_ble_eq_true rfl⟩
  have w_78 : CallW (headSpec wsX9_least ({ frames := 2, cells := 0, slots := 0, locals := 50 })).room s ([.ref (a 0), .int p1, .int p2] : List Value).toArray RX9 RX9 78 yX9_leastOf cX9_leastOf 10 (some .int) wsX9_leastOf ({ frames := 1, cells := 0, slots := 0, locals := 21 } : Room) 0 0 2 := cwV 2 hts gX9_least_X9_leastOf rfl rfl rfl (by decide +kernel) ⟨Nat.le_of_ble_eq_true rfl, Nat.le_of_ble_eq_true rfl⟩
  refine lv_iload_n hx hb dX9_least_0 rfl (lv_at hl 1 rfl) ?_
  refine lv_iconst (v := 1) hx hb dX9_least_1 (by decide) ?_
  refine lv_bipush (v := 10) hx hb dX9_least_2 (by decide) ?_
  refine x_rS (As := [.int p1, .int 1, .int 10]) (rest := []) ⟨hx, hb, hml, hown, hts⟩ (c_X9_isIn l D cT p1 1 10 _ hv) w_17 hK hS hN rfl hl.1 rfl (Nat.le_of_ble_eq_true rfl) dX9_least_4 ⟨Nat.le_of_ble_eq_true rfl, Nat.le_of_ble_eq_true rfl⟩ (fun r_1 hv => ?_)
  refine lv_if_eq (tgt := 19) hx hb dX9_least_7 (by decide) (fun c_2 => ?_) (fun c_2 => ?_)
  · have hv := hv.1 c_2
    refine lv_iconst (v := (-1)) hx hb dX9_least_19 (by decide) ?_
    exact W.iret (v := (-1)) hx hb hr (fun t ht hW => ⟨_, rfl, hv, ht⟩) (fun q h => absurd h List.not_mem_nil) dX9_least_20
  · have hv := hv.2 c_2
    refine lv_iload_n hx hb dX9_least_10 rfl (lv_at hl 2 rfl) ?_
    refine lv_iconst (v := 0) hx hb dX9_least_11 (by decide) ?_
    refine lv_iload_n hx hb dX9_least_12 rfl (lv_at hl 1 rfl) ?_
    refine x_rS (As := [.int p2, .int 0, .int p1]) (rest := []) ⟨hx, hb, hml, hown, hts⟩ (c_X9_isIn l D cT p2 0 p1 _ hv) w_17 hK hS hN rfl hl.1 rfl (Nat.le_of_ble_eq_true rfl) dX9_least_13 ⟨Nat.le_of_ble_eq_true rfl, Nat.le_of_ble_eq_true rfl⟩ (fun r_3 hv => ?_)
    refine lv_if_ne (tgt := 21) hx hb dX9_least_16 (by decide) (fun c_4 => ?_) (fun c_4 => ?_)
    · have hv := hv.1 c_4
      refine lv_bipush (v := 9) hx hb dX9_least_21 (by decide) ?_
      refine lv_istore_n (lv' := [(3, .int 9), (0, .ref (a 0)), (1, .int p1), (2, .int p2)]) hx hb dX9_least_23 rfl hl (by decide) rfl (fun ls hl => ?_)
      refine lv_iconst (v := 0) hx hb dX9_least_24 (by decide) ?_
      refine lv_istore (lv' := [(4, .int 0), (3, .int 9), (0, .ref (a 0)), (1, .int p1), (2, .int p2)]) hx hb dX9_least_25 hl (by decide) rfl (fun ls hl => ?_)
      obtain ⟨n_21, hv⟩ := hv
      have K_L_5 : ∀ (y_6 : Int32) (y_7 : Int32), (post y_7) → ∀ ls : Array Slot, lv_has ls 6 [(4, .int y_6), (3, .int y_7), (0, .ref (a 0)), (1, .int p1), (2, .int p2)] → W p l e (headSpec wsX9_least ({ frames := 2, cells := 0, slots := 0, locals := 50 })).room s m ([.ref (a 0), .int p1, .int p2] : List Value).toArray below meth c s.heap [] 0 0 (MQ below (vp_Si post) ([.ref (a 0), .int p1, .int p2] : List Value).toArray s 0 0 (fun _ => False)) (F0 m 73 ls []) := by
        intro y_6 y_7 hv ls hl
        refine lv_iload_n hx hb dX9_least_73 rfl (lv_at hl 1 rfl) ?_
        exact W.iret (v := y_7) hx hb hr (fun t ht hW => ⟨_, rfl, hv, ht⟩) (fun q h => absurd h List.not_mem_nil) dX9_least_74
      have L_5 : ∀ n_10 : Nat, ∀ (y_8 : Int32) (y_9 : Int32), (lp_X9_least_27 M p1 p2 post (fun (y_6 : Int32) (y_7 : Int32) => post y_7) n_10 y_8 y_9) → ∀ ls : Array Slot, lv_has ls 6 [(4, .int y_8), (3, .int y_9), (0, .ref (a 0)), (1, .int p1), (2, .int p2)] → W p l e (headSpec wsX9_least ({ frames := 2, cells := 0, slots := 0, locals := 50 })).room s m ([.ref (a 0), .int p1, .int p2] : List Value).toArray below meth c s.heap [] 0 0 (MQ below (vp_Si post) ([.ref (a 0), .int p1, .int p2] : List Value).toArray s 0 0 (fun _ => False)) (F0 m 27 ls []) := by
        intro n_10
        induction n_10 with
        | zero =>
          intro y_8 y_9 hv
          exact hv.elim
        | succ n_10 L_5_ih =>
          intro y_8 y_9 hv ls hl
          refine lv_iload hx hb dX9_least_27 (lv_at hl 0 rfl) ?_
          refine lv_iconst (v := 1) hx hb dX9_least_29 (by decide) ?_
          refine lv_iload_n hx hb dX9_least_30 rfl (lv_at hl 3 rfl) ?_
          refine lv_ishl hx hb dX9_least_31 ?_
          refine lv_icmp_ge (tgt := 73) hx hb dX9_least_32 (by decide) (fun c_11 => ?_) (fun c_11 => ?_)
          · have hv := hv.1 c_11
            exact K_L_5 _ _ hv ls (lv_sub hl [0, 1, 2, 3, 4] rfl)
          · have hv := hv.2 c_11
            refine lv_iload hx hb dX9_least_35 (lv_at hl 0 rfl) ?_
            refine x_rS (As := [.int y_8]) (rest := []) ⟨hx, hb, hml, hown, hts⟩ (c_X9_bitsOf l D cT y_8 _ hv) w_75 hK hS hN rfl hl.1 rfl (Nat.le_of_ble_eq_true rfl) dX9_least_37 ⟨Nat.le_of_ble_eq_true rfl, Nat.le_of_ble_eq_true rfl⟩ (fun r_12 hv => ?_)
            refine lv_iload_n hx hb dX9_least_40 rfl (lv_at hl 4 rfl) ?_
            refine lv_icmp_gt (tgt := 54) hx hb dX9_least_41 (by decide) (fun c_13 => ?_) (fun c_13 => ?_)
            · have hv := hv.1 c_13
              refine lv_bipush (v := 9) hx hb dX9_least_54 (by decide) ?_
              refine lv_istore (lv' := [(5, .int 9), (4, .int y_8), (3, .int y_9), (0, .ref (a 0)), (1, .int p1), (2, .int p2)]) hx hb dX9_least_56 hl (by decide) rfl (fun ls hl => ?_)
              refine lv_iload hx hb dX9_least_58 (lv_at hl 0 rfl) ?_
              refine lv_iload_n hx hb dX9_least_60 rfl (lv_at hl 2 rfl) ?_
              refine lv_icmp_ge (tgt := 67) hx hb dX9_least_61 (by decide) (fun c_14 => ?_) (fun c_14 => ?_)
              · have hv := hv.1 c_14
                obtain ⟨x_15, ex_15⟩ : ∃ z : Int32, z = y_8 + 1 := ⟨_, rfl⟩
                have hv := hv x_15 ex_15
                refine lv_iinc (v := x_15) (lv' := [(4, .int x_15), (5, .int 9), (3, .int y_9), (0, .ref (a 0)), (1, .int p1), (2, .int p2)]) hx hb dX9_least_67 hl (k := 1) rfl (by rw [ex_15]; rfl) (by decide) rfl (fun ls hl => ?_)
                refine lv_goto (tgt := 27) hx hb dX9_least_70 (by decide) ?_
                exact L_5_ih _ _ hv ls (lv_sub hl [0, 2, 3, 4, 5] rfl)
              · have hv := hv.2 c_14
                refine lv_iload hx hb dX9_least_64 (lv_at hl 0 rfl) ?_
                refine lv_istore_n (lv' := [(3, .int 9), (5, .int 9), (4, .int y_8), (0, .ref (a 0)), (1, .int p1), (2, .int p2)]) hx hb dX9_least_66 rfl hl (by decide) rfl (fun ls hl => ?_)
                obtain ⟨x_16, ex_16⟩ : ∃ z : Int32, z = y_8 + 1 := ⟨_, rfl⟩
                have hv := hv x_16 ex_16
                refine lv_iinc (v := x_16) (lv' := [(4, .int x_16), (3, .int 9), (5, .int 9), (0, .ref (a 0)), (1, .int p1), (2, .int p2)]) hx hb dX9_least_67 hl (k := 2) rfl (by rw [ex_16]; rfl) (by decide) rfl (fun ls hl => ?_)
                refine lv_goto (tgt := 27) hx hb dX9_least_70 (by decide) ?_
                exact L_5_ih _ _ hv ls (lv_sub hl [0, 1, 3, 4, 5] rfl)
            · have hv := hv.2 c_13
              refine lv_aload_n hx hb dX9_least_44 rfl (lv_at hl 2 rfl) ?_
              refine lv_iload_n hx hb dX9_least_45 rfl (lv_at hl 3 rfl) ?_
              refine lv_iload hx hb dX9_least_46 (lv_at hl 0 rfl) ?_
              refine x_rV (As := [.int p1, .int y_8]) (rest := []) ⟨hx, hb, hml, hown, hts⟩ (c_X9_leastOf l D cT a M p1 y_8 _ hv) w_78 hK hP hS hN [0, 1, 2] rfl 9 0 rfl rfl rfl hl.1 rfl (Nat.le_of_ble_eq_true rfl) dX9_least_48 ⟨Nat.le_of_ble_eq_true rfl, Nat.le_of_ble_eq_true rfl⟩ (fun r_17 hv => ?_)
              refine lv_goto (tgt := 56) hx hb dX9_least_51 (by decide) ?_
              refine lv_istore (lv' := [(5, .int r_17), (4, .int y_8), (3, .int y_9), (0, .ref (a 0)), (1, .int p1), (2, .int p2)]) hx hb dX9_least_56 hl (by decide) rfl (fun ls hl => ?_)
              refine lv_iload hx hb dX9_least_58 (lv_at hl 0 rfl) ?_
              refine lv_iload_n hx hb dX9_least_60 rfl (lv_at hl 2 rfl) ?_
              refine lv_icmp_ge (tgt := 67) hx hb dX9_least_61 (by decide) (fun c_18 => ?_) (fun c_18 => ?_)
              · have hv := hv.1 c_18
                obtain ⟨x_19, ex_19⟩ : ∃ z : Int32, z = y_8 + 1 := ⟨_, rfl⟩
                have hv := hv x_19 ex_19
                refine lv_iinc (v := x_19) (lv' := [(4, .int x_19), (5, .int r_17), (3, .int y_9), (0, .ref (a 0)), (1, .int p1), (2, .int p2)]) hx hb dX9_least_67 hl (k := 1) rfl (by rw [ex_19]; rfl) (by decide) rfl (fun ls hl => ?_)
                refine lv_goto (tgt := 27) hx hb dX9_least_70 (by decide) ?_
                exact L_5_ih _ _ hv ls (lv_sub hl [0, 2, 3, 4, 5] rfl)
              · have hv := hv.2 c_18
                refine lv_iload hx hb dX9_least_64 (lv_at hl 0 rfl) ?_
                refine lv_istore_n (lv' := [(3, .int r_17), (5, .int r_17), (4, .int y_8), (0, .ref (a 0)), (1, .int p1), (2, .int p2)]) hx hb dX9_least_66 rfl hl (by decide) rfl (fun ls hl => ?_)
                obtain ⟨x_20, ex_20⟩ : ∃ z : Int32, z = y_8 + 1 := ⟨_, rfl⟩
                have hv := hv x_20 ex_20
                refine lv_iinc (v := x_20) (lv' := [(4, .int x_20), (3, .int r_17), (5, .int r_17), (0, .ref (a 0)), (1, .int p1), (2, .int p2)]) hx hb dX9_least_67 hl (k := 2) rfl (by rw [ex_20]; rfl) (by decide) rfl (fun ls hl => ?_)
                refine lv_goto (tgt := 27) hx hb dX9_least_70 (by decide) ?_
                exact L_5_ih _ _ hv ls (lv_sub hl [0, 1, 3, 4, 5] rfl)
      exact L_5 n_21 _ _ hv ls hl
    · have hv := hv.2 c_4
      refine lv_iconst (v := (-1)) hx hb dX9_least_19 (by decide) ?_
      exact W.iret (v := (-1)) hx hb hr (fun t ht hW => ⟨_, rfl, hv, ht⟩) (fun q h => absurd h List.not_mem_nil) dX9_least_20
def lp_X9_fit_94 (p1 : Int32) (p2 : Int32) (p6 : Int32) (y_18 : Int32) (post : Int32 → Prop) (K_ : Int32 → Int64 → Int64 → Int32 → Prop) : Nat → Int32 → Int64 → Int64 → Int32 → Prop
  | 0, _, _, _, _ => False
  | n_34 + 1, y_30, y_31, y_32, y_33 => (((p6 < y_30) → K_ y_30 y_31 y_32 y_33) ∧ ((¬ (p6 < y_30)) → ∀ x_36 : Int64, x_36 = ((Int32.toInt64 p1) - (((Int32.toInt64 p2) * (Int32.toInt64 y_18)) * (Int32.toInt64 y_30))) → (((0 ≤ (lg_cmp x_36 0)) → (((y_33 < 0) → ∀ x_39 : Int32, x_39 = ((1000 * y_18) + y_30) → ∀ x_40 : Int64, x_40 = (Int32.toInt64 (y_18 * y_30)) → ∀ x_41 : Int32, x_41 = y_30 + 1 → lp_X9_fit_94 p1 p2 p6 y_18 post K_ n_34 x_41 x_40 x_36 x_39) ∧ ((¬ (y_33 < 0)) → ((((lg_cmp (x_36 * y_31) ((y_32 * (Int32.toInt64 y_18)) * (Int32.toInt64 y_30))) < 0) → ∀ x_43 : Int32, x_43 = ((1000 * y_18) + y_30) → ∀ x_44 : Int64, x_44 = (Int32.toInt64 (y_18 * y_30)) → ∀ x_45 : Int32, x_45 = y_30 + 1 → lp_X9_fit_94 p1 p2 p6 y_18 post K_ n_34 x_45 x_44 x_36 x_43) ∧ ((¬ ((lg_cmp (x_36 * y_31) ((y_32 * (Int32.toInt64 y_18)) * (Int32.toInt64 y_30))) < 0)) → ∀ x_46 : Int32, x_46 = y_30 + 1 → lp_X9_fit_94 p1 p2 p6 y_18 post K_ n_34 x_46 y_31 y_32 y_33))))) ∧ ((¬ (0 ≤ (lg_cmp x_36 0))) → (((y_33 < 0) → ∀ x_48 : Int32, x_48 = ((1000 * y_18) + y_30) → ∀ x_49 : Int64, x_49 = (Int32.toInt64 (y_18 * y_30)) → ∀ x_50 : Int32, x_50 = y_30 + 1 → lp_X9_fit_94 p1 p2 p6 y_18 post K_ n_34 x_50 x_49 (-x_36) x_48) ∧ ((¬ (y_33 < 0)) → ((((lg_cmp ((-x_36) * y_31) ((y_32 * (Int32.toInt64 y_18)) * (Int32.toInt64 y_30))) < 0) → ∀ x_52 : Int32, x_52 = ((1000 * y_18) + y_30) → ∀ x_53 : Int64, x_53 = (Int32.toInt64 (y_18 * y_30)) → ∀ x_54 : Int32, x_54 = y_30 + 1 → lp_X9_fit_94 p1 p2 p6 y_18 post K_ n_34 x_54 x_53 (-x_36) x_52) ∧ ((¬ ((lg_cmp ((-x_36) * y_31) ((y_32 * (Int32.toInt64 y_18)) * (Int32.toInt64 y_30))) < 0)) → ∀ x_55 : Int32, x_55 = y_30 + 1 → lp_X9_fit_94 p1 p2 p6 y_18 post K_ n_34 x_55 y_31 y_32 y_33))))))))
def lp_X9_fit_83 (p1 : Int32) (p2 : Int32) (p4 : Int32) (p5 : Int32) (p6 : Int32) (post : Int32 → Prop) (K_ : Int32 → Int64 → Int64 → Int32 → Prop) : Nat → Int32 → Int64 → Int64 → Int32 → Prop
  | 0, _, _, _, _ => False
  | n_22 + 1, y_18, y_19, y_20, y_21 => (((p4 < y_18) → K_ y_18 y_19 y_20 y_21) ∧ ((¬ (p4 < y_18)) → (∃ n_56 : Nat, lp_X9_fit_94 p1 p2 p6 y_18 post (fun (y_25 : Int32) (y_26 : Int64) (y_27 : Int64) (y_28 : Int32) => ∀ x_29 : Int32, x_29 = y_18 + 1 → lp_X9_fit_83 p1 p2 p4 p5 p6 post K_ n_22 x_29 y_26 y_27 y_28) n_56 p5 y_19 y_20 y_21)))
def v_X9_fit (M : ST) (p1 : Int32) (p2 : Int32) (p3 : Int32) (p4 : Int32) (p5 : Int32) (p6 : Int32) (post : Int32 → Prop) : Prop := v_X9_isIn p1 1 1000000 (fun r_1 => (((r_1 = 0) → post (-1)) ∧ ((¬ (r_1 = 0)) → v_X9_isIn p2 1 1000 (fun r_3 => (((r_3 = 0) → post (-1)) ∧ ((¬ (r_3 = 0)) → v_X9_isIn p3 1 200 (fun r_5 => (((r_5 = 0) → post (-1)) ∧ ((¬ (r_5 = 0)) → v_X9_isIn p4 p3 200 (fun r_7 => (((r_7 = 0) → post (-1)) ∧ ((¬ (r_7 = 0)) → v_X9_isIn p5 1 200 (fun r_9 => (((r_9 = 0) → post (-1)) ∧ ((¬ (r_9 = 0)) → v_X9_isIn p6 p5 200 (fun r_11 => (((¬ (r_11 = 0)) → (∃ n_57 : Nat, lp_X9_fit_83 p1 p2 p4 p5 p6 post (fun (y_14 : Int32) (y_15 : Int64) (y_16 : Int64) (y_17 : Int32) => post y_17) n_57 p3 1 0 (-1))) ∧ ((r_11 = 0) → post (-1)))))))))))))))))))
set_option maxHeartbeats 4000000 in
set_option maxRecDepth 100000 in
theorem c_X9_fit (l : Launch) (D : va_G) (cT : Nat → ClassId) (a : Nat → Nat) (M : ST) (p1 : Int32) (p2 : Int32) (p3 : Int32) (p4 : Int32) (p5 : Int32) (p6 : Int32) (post : Int32 → Prop) (hv : v_X9_fit M p1 p2 p3 p4 p5 p6 post) : Met l yX9_fit wsX9_fit ({ frames := 1, cells := 0, slots := 0, locals := 22 }) (va_Pc [.ref (a 0), .int p1, .int p2, .int p3, .int p4, .int p5, .int p6] (x_R D cT ((w_Model cT a M)))) (vp_Si post) 0 0 (fun _ => False) := by
  refine Met.ofW (cc := cX9_fit) (maxL := 16) (ret := (some .int)) (by decide) rfl ?_
  intro p e s m args below meth c s₁ B hml hpre
  obtain ⟨rfl, hP, hK, hN⟩ := hpre
  have hx := B.exec
  have hb := B.bytes
  have hr := B.returns
  have hts := atoms_spec (ws := wsX9_fit) B.pre
  have hown : s.vm.findClass RX9 = some m.cls := findClass_of_methodNamed B.named
  have hlocks := B.notSynchronized
  have hS : va_S (fun _ : Nat => False) s.heap s.heap [] := va_S.rf
  have hl := lv_entry ([.ref (a 0), .int p1, .int p2, .int p3, .int p4, .int p5, .int p6]) (n := 16) (Nat.le_of_ble_eq_true rfl)
  rw [lg_entry_eq]
  generalize (lg_sl ([.ref (a 0), .int p1, .int p2, .int p3, .int p4, .int p5, .int p6]) ++ List.replicate (16 - (lg_sl ([.ref (a 0), .int p1, .int p2, .int p3, .int p4, .int p5, .int p6])).length) Slot.unset).toArray = ls at hl ⊢
  have hl : lv_has ls 16 [(0, .ref (a 0)), (1, .int p1), (2, .int p2), (3, .int p3), (4, .int p4), (5, .int p5), (6, .int p6)] := hl
  have kc_71 : (Cond.constant RX9 71 (1000000)).before ([.ref (a 0), .int p1, .int p2, .int p3, .int p4, .int p5, .int p6] : List Value).toArray s = true := hts _ (by decide +kernel)
  have w_17 : CallB (headSpec wsX9_fit ({ frames := 1, cells := 0, slots := 0, locals := 22 })).room s ([.ref (a 0), .int p1, .int p2, .int p3, .int p4, .int p5, .int p6] : List Value).toArray RX9 17 yX9_isIn cX9_isIn 3 (some .boolean) wsX9_isIn ({ frames := 0, cells := 0, slots := 0, locals := 0 } : Room) 0 0 3 ∧ (Cond.static yX9_isIn).before ([.ref (a 0), .int p1, .int p2, .int p3, .int p4, .int p5, .int p6] : List Value).toArray s = true := va_cwS 3 hts gX9_fit_X9_isIn rfl rfl rfl (by decide +kernel) ⟨Nat.le_of_ble_eq_true rfl, Nat.le_of_ble_eq_true rfl⟩
  refine lv_iload_n hx hb dX9_fit_0 rfl (lv_at hl 1 rfl) ?_
  refine lv_iconst (v := 1) hx hb dX9_fit_1 (by decide) ?_
  refine lv_ldc (v := 1000000) hx hb hown kc_71 dX9_fit_2 ?_
  refine x_rS (As := [.int p1, .int 1, .int 1000000]) (rest := []) ⟨hx, hb, hml, hown, hts⟩ (c_X9_isIn l D cT p1 1 1000000 _ hv) w_17 hK hS hN rfl hl.1 rfl (Nat.le_of_ble_eq_true rfl) dX9_fit_4 ⟨Nat.le_of_ble_eq_true rfl, Nat.le_of_ble_eq_true rfl⟩ (fun r_1 hv => ?_)
  refine lv_if_eq (tgt := 69) hx hb dX9_fit_7 (by decide) (fun c_2 => ?_) (fun c_2 => ?_)
  · have hv := hv.1 c_2
    refine lv_iconst (v := (-1)) hx hb dX9_fit_69 (by decide) ?_
    exact W.iret (v := (-1)) hx hb hr (fun t ht hW => ⟨_, rfl, hv, ht⟩) (fun q h => absurd h List.not_mem_nil) dX9_fit_70
  · have hv := hv.2 c_2
    refine lv_iload_n hx hb dX9_fit_10 rfl (lv_at hl 2 rfl) ?_
    refine lv_iconst (v := 1) hx hb dX9_fit_11 (by decide) ?_
    refine lv_sipush (v := 1000) hx hb dX9_fit_12 (by decide) ?_
    refine x_rS (As := [.int p2, .int 1, .int 1000]) (rest := []) ⟨hx, hb, hml, hown, hts⟩ (c_X9_isIn l D cT p2 1 1000 _ hv) w_17 hK hS hN rfl hl.1 rfl (Nat.le_of_ble_eq_true rfl) dX9_fit_15 ⟨Nat.le_of_ble_eq_true rfl, Nat.le_of_ble_eq_true rfl⟩ (fun r_3 hv => ?_)
    refine lv_if_eq (tgt := 69) hx hb dX9_fit_18 (by decide) (fun c_4 => ?_) (fun c_4 => ?_)
    · have hv := hv.1 c_4
      refine lv_iconst (v := (-1)) hx hb dX9_fit_69 (by decide) ?_
      exact W.iret (v := (-1)) hx hb hr (fun t ht hW => ⟨_, rfl, hv, ht⟩) (fun q h => absurd h List.not_mem_nil) dX9_fit_70
    · have hv := hv.2 c_4
      refine lv_iload_n hx hb dX9_fit_21 rfl (lv_at hl 3 rfl) ?_
      refine lv_iconst (v := 1) hx hb dX9_fit_22 (by decide) ?_
      refine lv_sipush (v := 200) hx hb dX9_fit_23 (by decide) ?_
      refine x_rS (As := [.int p3, .int 1, .int 200]) (rest := []) ⟨hx, hb, hml, hown, hts⟩ (c_X9_isIn l D cT p3 1 200 _ hv) w_17 hK hS hN rfl hl.1 rfl (Nat.le_of_ble_eq_true rfl) dX9_fit_26 ⟨Nat.le_of_ble_eq_true rfl, Nat.le_of_ble_eq_true rfl⟩ (fun r_5 hv => ?_)
      refine lv_if_eq (tgt := 69) hx hb dX9_fit_29 (by decide) (fun c_6 => ?_) (fun c_6 => ?_)
      · have hv := hv.1 c_6
        refine lv_iconst (v := (-1)) hx hb dX9_fit_69 (by decide) ?_
        exact W.iret (v := (-1)) hx hb hr (fun t ht hW => ⟨_, rfl, hv, ht⟩) (fun q h => absurd h List.not_mem_nil) dX9_fit_70
      · have hv := hv.2 c_6
        refine lv_iload hx hb dX9_fit_32 (lv_at hl 4 rfl) ?_
        refine lv_iload_n hx hb dX9_fit_34 rfl (lv_at hl 3 rfl) ?_
        refine lv_sipush (v := 200) hx hb dX9_fit_35 (by decide) ?_
        refine x_rS (As := [.int p4, .int p3, .int 200]) (rest := []) ⟨hx, hb, hml, hown, hts⟩ (c_X9_isIn l D cT p4 p3 200 _ hv) w_17 hK hS hN rfl hl.1 rfl (Nat.le_of_ble_eq_true rfl) dX9_fit_38 ⟨Nat.le_of_ble_eq_true rfl, Nat.le_of_ble_eq_true rfl⟩ (fun r_7 hv => ?_)
        refine lv_if_eq (tgt := 69) hx hb dX9_fit_41 (by decide) (fun c_8 => ?_) (fun c_8 => ?_)
        · have hv := hv.1 c_8
          refine lv_iconst (v := (-1)) hx hb dX9_fit_69 (by decide) ?_
          exact W.iret (v := (-1)) hx hb hr (fun t ht hW => ⟨_, rfl, hv, ht⟩) (fun q h => absurd h List.not_mem_nil) dX9_fit_70
        · have hv := hv.2 c_8
          refine lv_iload hx hb dX9_fit_44 (lv_at hl 5 rfl) ?_
          refine lv_iconst (v := 1) hx hb dX9_fit_46 (by decide) ?_
          refine lv_sipush (v := 200) hx hb dX9_fit_47 (by decide) ?_
          refine x_rS (As := [.int p5, .int 1, .int 200]) (rest := []) ⟨hx, hb, hml, hown, hts⟩ (c_X9_isIn l D cT p5 1 200 _ hv) w_17 hK hS hN rfl hl.1 rfl (Nat.le_of_ble_eq_true rfl) dX9_fit_50 ⟨Nat.le_of_ble_eq_true rfl, Nat.le_of_ble_eq_true rfl⟩ (fun r_9 hv => ?_)
          refine lv_if_eq (tgt := 69) hx hb dX9_fit_53 (by decide) (fun c_10 => ?_) (fun c_10 => ?_)
          · have hv := hv.1 c_10
            refine lv_iconst (v := (-1)) hx hb dX9_fit_69 (by decide) ?_
            exact W.iret (v := (-1)) hx hb hr (fun t ht hW => ⟨_, rfl, hv, ht⟩) (fun q h => absurd h List.not_mem_nil) dX9_fit_70
          · have hv := hv.2 c_10
            refine lv_iload hx hb dX9_fit_56 (lv_at hl 6 rfl) ?_
            refine lv_iload hx hb dX9_fit_58 (lv_at hl 5 rfl) ?_
            refine lv_sipush (v := 200) hx hb dX9_fit_60 (by decide) ?_
            refine x_rS (As := [.int p6, .int p5, .int 200]) (rest := []) ⟨hx, hb, hml, hown, hts⟩ (c_X9_isIn l D cT p6 p5 200 _ hv) w_17 hK hS hN rfl hl.1 rfl (Nat.le_of_ble_eq_true rfl) dX9_fit_63 ⟨Nat.le_of_ble_eq_true rfl, Nat.le_of_ble_eq_true rfl⟩ (fun r_11 hv => ?_)
            refine lv_if_ne (tgt := 71) hx hb dX9_fit_66 (by decide) (fun c_12 => ?_) (fun c_12 => ?_)
            · have hv := hv.1 c_12
              refine lv_iconst (v := (-1)) hx hb dX9_fit_71 (by decide) ?_
              refine lv_istore (lv' := [(7, .int (-1)), (0, .ref (a 0)), (1, .int p1), (2, .int p2), (3, .int p3), (4, .int p4), (5, .int p5), (6, .int p6)]) hx hb dX9_fit_72 hl (by decide) rfl (fun ls hl => ?_)
              refine lv_lconst (v := 0) hx hb dX9_fit_74 (by decide) ?_
              refine lv_lstore (lv' := [(8, .long 0), (7, .int (-1)), (0, .ref (a 0)), (1, .int p1), (2, .int p2), (3, .int p3), (4, .int p4), (5, .int p5), (6, .int p6)]) hx hb dX9_fit_75 hl (by decide) rfl (fun ls hl => ?_)
              refine lv_lconst (v := 1) hx hb dX9_fit_77 (by decide) ?_
              refine lv_lstore (lv' := [(10, .long 1), (8, .long 0), (7, .int (-1)), (0, .ref (a 0)), (1, .int p1), (2, .int p2), (3, .int p3), (4, .int p4), (5, .int p5), (6, .int p6)]) hx hb dX9_fit_78 hl (by decide) rfl (fun ls hl => ?_)
              refine lv_iload_n hx hb dX9_fit_80 rfl (lv_at hl 6 rfl) ?_
              refine lv_istore (lv' := [(12, .int p3), (10, .long 1), (8, .long 0), (7, .int (-1)), (0, .ref (a 0)), (1, .int p1), (2, .int p2), (3, .int p3), (4, .int p4), (5, .int p5), (6, .int p6)]) hx hb dX9_fit_81 hl (by decide) rfl (fun ls hl => ?_)
              obtain ⟨n_57, hv⟩ := hv
              have K_L_13 : ∀ (y_14 : Int32) (y_15 : Int64) (y_16 : Int64) (y_17 : Int32), (post y_17) → ∀ ls : Array Slot, lv_has ls 16 [(12, .int y_14), (10, .long y_15), (8, .long y_16), (7, .int y_17), (0, .ref (a 0)), (1, .int p1), (2, .int p2), (3, .int p3), (4, .int p4), (5, .int p5), (6, .int p6)] → W p l e (headSpec wsX9_fit ({ frames := 1, cells := 0, slots := 0, locals := 22 })).room s m ([.ref (a 0), .int p1, .int p2, .int p3, .int p4, .int p5, .int p6] : List Value).toArray below meth c s.heap [] 0 0 (MQ below (vp_Si post) ([.ref (a 0), .int p1, .int p2, .int p3, .int p4, .int p5, .int p6] : List Value).toArray s 0 0 (fun _ => False)) (F0 m 190 ls []) := by
                intro y_14 y_15 y_16 y_17 hv ls hl
                refine lv_iload hx hb dX9_fit_190 (lv_at hl 3 rfl) ?_
                exact W.iret (v := y_17) hx hb hr (fun t ht hW => ⟨_, rfl, hv, ht⟩) (fun q h => absurd h List.not_mem_nil) dX9_fit_192
              have L_13 : ∀ n_22 : Nat, ∀ (y_18 : Int32) (y_19 : Int64) (y_20 : Int64) (y_21 : Int32), (lp_X9_fit_83 p1 p2 p4 p5 p6 post (fun (y_14 : Int32) (y_15 : Int64) (y_16 : Int64) (y_17 : Int32) => post y_17) n_22 y_18 y_19 y_20 y_21) → ∀ ls : Array Slot, lv_has ls 16 [(12, .int y_18), (10, .long y_19), (8, .long y_20), (7, .int y_21), (0, .ref (a 0)), (1, .int p1), (2, .int p2), (3, .int p3), (4, .int p4), (5, .int p5), (6, .int p6)] → W p l e (headSpec wsX9_fit ({ frames := 1, cells := 0, slots := 0, locals := 22 })).room s m ([.ref (a 0), .int p1, .int p2, .int p3, .int p4, .int p5, .int p6] : List Value).toArray below meth c s.heap [] 0 0 (MQ below (vp_Si post) ([.ref (a 0), .int p1, .int p2, .int p3, .int p4, .int p5, .int p6] : List Value).toArray s 0 0 (fun _ => False)) (F0 m 83 ls []) := by
                intro n_22
                induction n_22 with
                | zero =>
                  intro y_18 y_19 y_20 y_21 hv
                  exact hv.elim
                | succ n_22 L_13_ih =>
                  intro y_18 y_19 y_20 y_21 hv ls hl
                  refine lv_iload hx hb dX9_fit_83 (lv_at hl 0 rfl) ?_
                  refine lv_iload hx hb dX9_fit_85 (lv_at hl 8 rfl) ?_
                  refine lv_icmp_gt (tgt := 190) hx hb dX9_fit_87 (by decide) (fun c_23 => ?_) (fun c_23 => ?_)
                  · have hv := hv.1 c_23
                    exact K_L_13 _ _ _ _ hv ls (lv_sub hl [0, 1, 2, 3, 4, 5, 6, 7, 8, 9, 10] rfl)
                  · have hv := hv.2 c_23
                    refine lv_iload hx hb dX9_fit_90 (lv_at hl 9 rfl) ?_
                    refine lv_istore (lv' := [(13, .int p5), (12, .int y_18), (10, .long y_19), (8, .long y_20), (7, .int y_21), (0, .ref (a 0)), (1, .int p1), (2, .int p2), (3, .int p3), (4, .int p4), (5, .int p5), (6, .int p6)]) hx hb dX9_fit_92 hl (by decide) rfl (fun ls hl => ?_)
                    obtain ⟨n_56, hv⟩ := hv
                    have K_L_24 : ∀ (y_25 : Int32) (y_26 : Int64) (y_27 : Int64) (y_28 : Int32), (∀ x_29 : Int32, x_29 = y_18 + 1 → lp_X9_fit_83 p1 p2 p4 p5 p6 post (fun (y_14 : Int32) (y_15 : Int64) (y_16 : Int64) (y_17 : Int32) => post y_17) n_22 x_29 y_26 y_27 y_28) → ∀ ls : Array Slot, lv_has ls 16 [(13, .int y_25), (12, .int y_18), (10, .long y_26), (8, .long y_27), (7, .int y_28), (0, .ref (a 0)), (1, .int p1), (2, .int p2), (3, .int p3), (4, .int p4), (5, .int p5), (6, .int p6)] → W p l e (headSpec wsX9_fit ({ frames := 1, cells := 0, slots := 0, locals := 22 })).room s m ([.ref (a 0), .int p1, .int p2, .int p3, .int p4, .int p5, .int p6] : List Value).toArray below meth c s.heap [] 0 0 (MQ below (vp_Si post) ([.ref (a 0), .int p1, .int p2, .int p3, .int p4, .int p5, .int p6] : List Value).toArray s 0 0 (fun _ => False)) (F0 m 184 ls []) := by
                      intro y_25 y_26 y_27 y_28 hv ls hl
                      obtain ⟨x_29, ex_29⟩ : ∃ z : Int32, z = y_18 + 1 := ⟨_, rfl⟩
                      have hv := hv x_29 ex_29
                      refine lv_iinc (v := x_29) (lv' := [(12, .int x_29), (13, .int y_25), (10, .long y_26), (8, .long y_27), (7, .int y_28), (0, .ref (a 0)), (1, .int p1), (2, .int p2), (3, .int p3), (4, .int p4), (5, .int p5), (6, .int p6)]) hx hb dX9_fit_184 hl (k := 1) rfl (by rw [ex_29]; rfl) (by decide) rfl (fun ls hl => ?_)
                      refine lv_goto (tgt := 83) hx hb dX9_fit_187 (by decide) ?_
                      exact L_13_ih _ _ _ _ hv ls (lv_sub hl [0, 2, 3, 4, 5, 6, 7, 8, 9, 10, 11] rfl)
                    have L_24 : ∀ n_34 : Nat, ∀ (y_30 : Int32) (y_31 : Int64) (y_32 : Int64) (y_33 : Int32), (lp_X9_fit_94 p1 p2 p6 y_18 post (fun (y_25 : Int32) (y_26 : Int64) (y_27 : Int64) (y_28 : Int32) => ∀ x_29 : Int32, x_29 = y_18 + 1 → lp_X9_fit_83 p1 p2 p4 p5 p6 post (fun (y_14 : Int32) (y_15 : Int64) (y_16 : Int64) (y_17 : Int32) => post y_17) n_22 x_29 y_26 y_27 y_28) n_34 y_30 y_31 y_32 y_33) → ∀ ls : Array Slot, lv_has ls 16 [(13, .int y_30), (12, .int y_18), (10, .long y_31), (8, .long y_32), (7, .int y_33), (0, .ref (a 0)), (1, .int p1), (2, .int p2), (3, .int p3), (4, .int p4), (5, .int p5), (6, .int p6)] → W p l e (headSpec wsX9_fit ({ frames := 1, cells := 0, slots := 0, locals := 22 })).room s m ([.ref (a 0), .int p1, .int p2, .int p3, .int p4, .int p5, .int p6] : List Value).toArray below meth c s.heap [] 0 0 (MQ below (vp_Si post) ([.ref (a 0), .int p1, .int p2, .int p3, .int p4, .int p5, .int p6] : List Value).toArray s 0 0 (fun _ => False)) (F0 m 94 ls []) := by
                      intro n_34
                      induction n_34 with
                      | zero =>
                        intro y_30 y_31 y_32 y_33 hv
                        exact hv.elim
                      | succ n_34 L_24_ih =>
                        intro y_30 y_31 y_32 y_33 hv ls hl
                        refine lv_iload hx hb dX9_fit_94 (lv_at hl 0 rfl) ?_
                        refine lv_iload hx hb dX9_fit_96 (lv_at hl 11 rfl) ?_
                        refine lv_icmp_gt (tgt := 184) hx hb dX9_fit_98 (by decide) (fun c_35 => ?_) (fun c_35 => ?_)
                        · have hv := hv.1 c_35
                          exact K_L_24 _ _ _ _ hv ls (lv_sub hl [0, 1, 2, 3, 4, 5, 6, 7, 8, 9, 10, 11] rfl)
                        · have hv := hv.2 c_35
                          refine lv_iload_n hx hb dX9_fit_101 rfl (lv_at hl 6 rfl) ?_
                          refine lv_i2l hx hb dX9_fit_102 rfl ?_
                          refine lv_iload_n hx hb dX9_fit_103 rfl (lv_at hl 7 rfl) ?_
                          refine lv_i2l hx hb dX9_fit_104 rfl ?_
                          refine lv_iload hx hb dX9_fit_105 (lv_at hl 1 rfl) ?_
                          refine lv_i2l hx hb dX9_fit_107 rfl ?_
                          refine lv_lmul hx hb dX9_fit_108 ?_
                          refine lv_iload hx hb dX9_fit_109 (lv_at hl 0 rfl) ?_
                          refine lv_i2l hx hb dX9_fit_111 rfl ?_
                          refine lv_lmul hx hb dX9_fit_112 ?_
                          refine lv_lsub hx hb dX9_fit_113 ?_
                          refine lv_topl (fun x_36 ex_36 => ?_)
                          have hv := hv x_36 ex_36
                          refine lv_lstore (lv' := [(14, .long x_36), (13, .int y_30), (12, .int y_18), (10, .long y_31), (8, .long y_32), (7, .int y_33), (0, .ref (a 0)), (1, .int p1), (2, .int p2), (3, .int p3), (4, .int p4), (5, .int p5), (6, .int p6)]) hx hb dX9_fit_114 hl (by decide) rfl (fun ls hl => ?_)
                          refine lv_lload hx hb dX9_fit_116 (lv_at hl 0 rfl) ?_
                          refine lv_lconst (v := 0) hx hb dX9_fit_118 (by decide) ?_
                          refine W.lcmp hx hb dX9_fit_119 ?_
                          refine lv_if_ge (tgt := 128) hx hb dX9_fit_120 (by decide) (fun c_37 => ?_) (fun c_37 => ?_)
                          · have hv := hv.1 c_37
                            refine lv_iload hx hb dX9_fit_128 (lv_at hl 5 rfl) ?_
                            refine lv_if_lt (tgt := 155) hx hb dX9_fit_130 (by decide) (fun c_38 => ?_) (fun c_38 => ?_)
                            · have hv := hv.1 c_38
                              refine lv_sipush (v := 1000) hx hb dX9_fit_155 (by decide) ?_
                              refine lv_iload hx hb dX9_fit_158 (lv_at hl 2 rfl) ?_
                              refine lv_imul hx hb dX9_fit_160 ?_
                              refine lv_iload hx hb dX9_fit_161 (lv_at hl 1 rfl) ?_
                              refine lv_iadd hx hb dX9_fit_163 ?_
                              refine lv_topi (fun x_39 ex_39 => ?_)
                              have hv := hv x_39 ex_39
                              refine lv_istore (lv' := [(7, .int x_39), (14, .long x_36), (13, .int y_30), (12, .int y_18), (10, .long y_31), (8, .long y_32), (0, .ref (a 0)), (1, .int p1), (2, .int p2), (3, .int p3), (4, .int p4), (5, .int p5), (6, .int p6)]) hx hb dX9_fit_164 hl (by decide) rfl (fun ls hl => ?_)
                              refine lv_lload hx hb dX9_fit_166 (lv_at hl 1 rfl) ?_
                              refine lv_lstore (lv' := [(8, .long x_36), (7, .int x_39), (14, .long x_36), (13, .int y_30), (12, .int y_18), (10, .long y_31), (0, .ref (a 0)), (1, .int p1), (2, .int p2), (3, .int p3), (4, .int p4), (5, .int p5), (6, .int p6)]) hx hb dX9_fit_168 hl (by decide) rfl (fun ls hl => ?_)
                              refine lv_iload hx hb dX9_fit_170 (lv_at hl 4 rfl) ?_
                              refine lv_iload hx hb dX9_fit_172 (lv_at hl 3 rfl) ?_
                              refine lv_imul hx hb dX9_fit_174 ?_
                              refine lv_i2l hx hb dX9_fit_175 rfl ?_
                              refine lv_topl (fun x_40 ex_40 => ?_)
                              have hv := hv x_40 ex_40
                              refine lv_lstore (lv' := [(10, .long x_40), (8, .long x_36), (7, .int x_39), (14, .long x_36), (13, .int y_30), (12, .int y_18), (0, .ref (a 0)), (1, .int p1), (2, .int p2), (3, .int p3), (4, .int p4), (5, .int p5), (6, .int p6)]) hx hb dX9_fit_176 hl (by decide) rfl (fun ls hl => ?_)
                              obtain ⟨x_41, ex_41⟩ : ∃ z : Int32, z = y_30 + 1 := ⟨_, rfl⟩
                              have hv := hv x_41 ex_41
                              refine lv_iinc (v := x_41) (lv' := [(13, .int x_41), (10, .long x_40), (8, .long x_36), (7, .int x_39), (14, .long x_36), (12, .int y_18), (0, .ref (a 0)), (1, .int p1), (2, .int p2), (3, .int p3), (4, .int p4), (5, .int p5), (6, .int p6)]) hx hb dX9_fit_178 hl (k := 4) rfl (by rw [ex_41]; rfl) (by decide) rfl (fun ls hl => ?_)
                              refine lv_goto (tgt := 94) hx hb dX9_fit_181 (by decide) ?_
                              exact L_24_ih _ _ _ _ hv ls (lv_sub hl [0, 5, 1, 2, 3, 6, 7, 8, 9, 10, 11, 12] rfl)
                            · have hv := hv.2 c_38
                              refine lv_lload hx hb dX9_fit_133 (lv_at hl 0 rfl) ?_
                              refine lv_lload hx hb dX9_fit_135 (lv_at hl 3 rfl) ?_
                              refine lv_lmul hx hb dX9_fit_137 ?_
                              refine lv_lload hx hb dX9_fit_138 (lv_at hl 4 rfl) ?_
                              refine lv_iload hx hb dX9_fit_140 (lv_at hl 2 rfl) ?_
                              refine lv_i2l hx hb dX9_fit_142 rfl ?_
                              refine lv_lmul hx hb dX9_fit_143 ?_
                              refine lv_iload hx hb dX9_fit_144 (lv_at hl 1 rfl) ?_
                              refine lv_i2l hx hb dX9_fit_146 rfl ?_
                              refine lv_lmul hx hb dX9_fit_147 ?_
                              refine W.lcmp hx hb dX9_fit_148 ?_
                              refine lv_if_lt (tgt := 155) hx hb dX9_fit_149 (by decide) (fun c_42 => ?_) (fun c_42 => ?_)
                              · have hv := hv.1 c_42
                                refine lv_sipush (v := 1000) hx hb dX9_fit_155 (by decide) ?_
                                refine lv_iload hx hb dX9_fit_158 (lv_at hl 2 rfl) ?_
                                refine lv_imul hx hb dX9_fit_160 ?_
                                refine lv_iload hx hb dX9_fit_161 (lv_at hl 1 rfl) ?_
                                refine lv_iadd hx hb dX9_fit_163 ?_
                                refine lv_topi (fun x_43 ex_43 => ?_)
                                have hv := hv x_43 ex_43
                                refine lv_istore (lv' := [(7, .int x_43), (14, .long x_36), (13, .int y_30), (12, .int y_18), (10, .long y_31), (8, .long y_32), (0, .ref (a 0)), (1, .int p1), (2, .int p2), (3, .int p3), (4, .int p4), (5, .int p5), (6, .int p6)]) hx hb dX9_fit_164 hl (by decide) rfl (fun ls hl => ?_)
                                refine lv_lload hx hb dX9_fit_166 (lv_at hl 1 rfl) ?_
                                refine lv_lstore (lv' := [(8, .long x_36), (7, .int x_43), (14, .long x_36), (13, .int y_30), (12, .int y_18), (10, .long y_31), (0, .ref (a 0)), (1, .int p1), (2, .int p2), (3, .int p3), (4, .int p4), (5, .int p5), (6, .int p6)]) hx hb dX9_fit_168 hl (by decide) rfl (fun ls hl => ?_)
                                refine lv_iload hx hb dX9_fit_170 (lv_at hl 4 rfl) ?_
                                refine lv_iload hx hb dX9_fit_172 (lv_at hl 3 rfl) ?_
                                refine lv_imul hx hb dX9_fit_174 ?_
                                refine lv_i2l hx hb dX9_fit_175 rfl ?_
                                refine lv_topl (fun x_44 ex_44 => ?_)
                                have hv := hv x_44 ex_44
                                refine lv_lstore (lv' := [(10, .long x_44), (8, .long x_36), (7, .int x_43), (14, .long x_36), (13, .int y_30), (12, .int y_18), (0, .ref (a 0)), (1, .int p1), (2, .int p2), (3, .int p3), (4, .int p4), (5, .int p5), (6, .int p6)]) hx hb dX9_fit_176 hl (by decide) rfl (fun ls hl => ?_)
                                obtain ⟨x_45, ex_45⟩ : ∃ z : Int32, z = y_30 + 1 := ⟨_, rfl⟩
                                have hv := hv x_45 ex_45
                                refine lv_iinc (v := x_45) (lv' := [(13, .int x_45), (10, .long x_44), (8, .long x_36), (7, .int x_43), (14, .long x_36), (12, .int y_18), (0, .ref (a 0)), (1, .int p1), (2, .int p2), (3, .int p3), (4, .int p4), (5, .int p5), (6, .int p6)]) hx hb dX9_fit_178 hl (k := 4) rfl (by rw [ex_45]; rfl) (by decide) rfl (fun ls hl => ?_)
                                refine lv_goto (tgt := 94) hx hb dX9_fit_181 (by decide) ?_
                                exact L_24_ih _ _ _ _ hv ls (lv_sub hl [0, 5, 1, 2, 3, 6, 7, 8, 9, 10, 11, 12] rfl)
                              · have hv := hv.2 c_42
                                refine lv_goto (tgt := 178) hx hb dX9_fit_152 (by decide) ?_
                                obtain ⟨x_46, ex_46⟩ : ∃ z : Int32, z = y_30 + 1 := ⟨_, rfl⟩
                                have hv := hv x_46 ex_46
                                refine lv_iinc (v := x_46) (lv' := [(13, .int x_46), (14, .long x_36), (12, .int y_18), (10, .long y_31), (8, .long y_32), (7, .int y_33), (0, .ref (a 0)), (1, .int p1), (2, .int p2), (3, .int p3), (4, .int p4), (5, .int p5), (6, .int p6)]) hx hb dX9_fit_178 hl (k := 1) rfl (by rw [ex_46]; rfl) (by decide) rfl (fun ls hl => ?_)
                                refine lv_goto (tgt := 94) hx hb dX9_fit_181 (by decide) ?_
                                exact L_24_ih _ _ _ _ hv ls (lv_sub hl [0, 2, 3, 4, 5, 6, 7, 8, 9, 10, 11, 12] rfl)
                          · have hv := hv.2 c_37
                            refine lv_lload hx hb dX9_fit_123 (lv_at hl 0 rfl) ?_
                            refine lv_lneg hx hb dX9_fit_125 ?_
                            refine lv_lstore (lv' := [(14, .long (-x_36)), (13, .int y_30), (12, .int y_18), (10, .long y_31), (8, .long y_32), (7, .int y_33), (0, .ref (a 0)), (1, .int p1), (2, .int p2), (3, .int p3), (4, .int p4), (5, .int p5), (6, .int p6)]) hx hb dX9_fit_126 hl (by decide) rfl (fun ls hl => ?_)
                            refine lv_iload hx hb dX9_fit_128 (lv_at hl 5 rfl) ?_
                            refine lv_if_lt (tgt := 155) hx hb dX9_fit_130 (by decide) (fun c_47 => ?_) (fun c_47 => ?_)
                            · have hv := hv.1 c_47
                              refine lv_sipush (v := 1000) hx hb dX9_fit_155 (by decide) ?_
                              refine lv_iload hx hb dX9_fit_158 (lv_at hl 2 rfl) ?_
                              refine lv_imul hx hb dX9_fit_160 ?_
                              refine lv_iload hx hb dX9_fit_161 (lv_at hl 1 rfl) ?_
                              refine lv_iadd hx hb dX9_fit_163 ?_
                              refine lv_topi (fun x_48 ex_48 => ?_)
                              have hv := hv x_48 ex_48
                              refine lv_istore (lv' := [(7, .int x_48), (14, .long (-x_36)), (13, .int y_30), (12, .int y_18), (10, .long y_31), (8, .long y_32), (0, .ref (a 0)), (1, .int p1), (2, .int p2), (3, .int p3), (4, .int p4), (5, .int p5), (6, .int p6)]) hx hb dX9_fit_164 hl (by decide) rfl (fun ls hl => ?_)
                              refine lv_lload hx hb dX9_fit_166 (lv_at hl 1 rfl) ?_
                              refine lv_lstore (lv' := [(8, .long (-x_36)), (7, .int x_48), (14, .long (-x_36)), (13, .int y_30), (12, .int y_18), (10, .long y_31), (0, .ref (a 0)), (1, .int p1), (2, .int p2), (3, .int p3), (4, .int p4), (5, .int p5), (6, .int p6)]) hx hb dX9_fit_168 hl (by decide) rfl (fun ls hl => ?_)
                              refine lv_iload hx hb dX9_fit_170 (lv_at hl 4 rfl) ?_
                              refine lv_iload hx hb dX9_fit_172 (lv_at hl 3 rfl) ?_
                              refine lv_imul hx hb dX9_fit_174 ?_
                              refine lv_i2l hx hb dX9_fit_175 rfl ?_
                              refine lv_topl (fun x_49 ex_49 => ?_)
                              have hv := hv x_49 ex_49
                              refine lv_lstore (lv' := [(10, .long x_49), (8, .long (-x_36)), (7, .int x_48), (14, .long (-x_36)), (13, .int y_30), (12, .int y_18), (0, .ref (a 0)), (1, .int p1), (2, .int p2), (3, .int p3), (4, .int p4), (5, .int p5), (6, .int p6)]) hx hb dX9_fit_176 hl (by decide) rfl (fun ls hl => ?_)
                              obtain ⟨x_50, ex_50⟩ : ∃ z : Int32, z = y_30 + 1 := ⟨_, rfl⟩
                              have hv := hv x_50 ex_50
                              refine lv_iinc (v := x_50) (lv' := [(13, .int x_50), (10, .long x_49), (8, .long (-x_36)), (7, .int x_48), (14, .long (-x_36)), (12, .int y_18), (0, .ref (a 0)), (1, .int p1), (2, .int p2), (3, .int p3), (4, .int p4), (5, .int p5), (6, .int p6)]) hx hb dX9_fit_178 hl (k := 4) rfl (by rw [ex_50]; rfl) (by decide) rfl (fun ls hl => ?_)
                              refine lv_goto (tgt := 94) hx hb dX9_fit_181 (by decide) ?_
                              exact L_24_ih _ _ _ _ hv ls (lv_sub hl [0, 5, 1, 2, 3, 6, 7, 8, 9, 10, 11, 12] rfl)
                            · have hv := hv.2 c_47
                              refine lv_lload hx hb dX9_fit_133 (lv_at hl 0 rfl) ?_
                              refine lv_lload hx hb dX9_fit_135 (lv_at hl 3 rfl) ?_
                              refine lv_lmul hx hb dX9_fit_137 ?_
                              refine lv_lload hx hb dX9_fit_138 (lv_at hl 4 rfl) ?_
                              refine lv_iload hx hb dX9_fit_140 (lv_at hl 2 rfl) ?_
                              refine lv_i2l hx hb dX9_fit_142 rfl ?_
                              refine lv_lmul hx hb dX9_fit_143 ?_
                              refine lv_iload hx hb dX9_fit_144 (lv_at hl 1 rfl) ?_
                              refine lv_i2l hx hb dX9_fit_146 rfl ?_
                              refine lv_lmul hx hb dX9_fit_147 ?_
                              refine W.lcmp hx hb dX9_fit_148 ?_
                              refine lv_if_lt (tgt := 155) hx hb dX9_fit_149 (by decide) (fun c_51 => ?_) (fun c_51 => ?_)
                              · have hv := hv.1 c_51
                                refine lv_sipush (v := 1000) hx hb dX9_fit_155 (by decide) ?_
                                refine lv_iload hx hb dX9_fit_158 (lv_at hl 2 rfl) ?_
                                refine lv_imul hx hb dX9_fit_160 ?_
                                refine lv_iload hx hb dX9_fit_161 (lv_at hl 1 rfl) ?_
                                refine lv_iadd hx hb dX9_fit_163 ?_
                                refine lv_topi (fun x_52 ex_52 => ?_)
                                have hv := hv x_52 ex_52
                                refine lv_istore (lv' := [(7, .int x_52), (14, .long (-x_36)), (13, .int y_30), (12, .int y_18), (10, .long y_31), (8, .long y_32), (0, .ref (a 0)), (1, .int p1), (2, .int p2), (3, .int p3), (4, .int p4), (5, .int p5), (6, .int p6)]) hx hb dX9_fit_164 hl (by decide) rfl (fun ls hl => ?_)
                                refine lv_lload hx hb dX9_fit_166 (lv_at hl 1 rfl) ?_
                                refine lv_lstore (lv' := [(8, .long (-x_36)), (7, .int x_52), (14, .long (-x_36)), (13, .int y_30), (12, .int y_18), (10, .long y_31), (0, .ref (a 0)), (1, .int p1), (2, .int p2), (3, .int p3), (4, .int p4), (5, .int p5), (6, .int p6)]) hx hb dX9_fit_168 hl (by decide) rfl (fun ls hl => ?_)
                                refine lv_iload hx hb dX9_fit_170 (lv_at hl 4 rfl) ?_
                                refine lv_iload hx hb dX9_fit_172 (lv_at hl 3 rfl) ?_
                                refine lv_imul hx hb dX9_fit_174 ?_
                                refine lv_i2l hx hb dX9_fit_175 rfl ?_
                                refine lv_topl (fun x_53 ex_53 => ?_)
                                have hv := hv x_53 ex_53
                                refine lv_lstore (lv' := [(10, .long x_53), (8, .long (-x_36)), (7, .int x_52), (14, .long (-x_36)), (13, .int y_30), (12, .int y_18), (0, .ref (a 0)), (1, .int p1), (2, .int p2), (3, .int p3), (4, .int p4), (5, .int p5), (6, .int p6)]) hx hb dX9_fit_176 hl (by decide) rfl (fun ls hl => ?_)
                                obtain ⟨x_54, ex_54⟩ : ∃ z : Int32, z = y_30 + 1 := ⟨_, rfl⟩
                                have hv := hv x_54 ex_54
                                refine lv_iinc (v := x_54) (lv' := [(13, .int x_54), (10, .long x_53), (8, .long (-x_36)), (7, .int x_52), (14, .long (-x_36)), (12, .int y_18), (0, .ref (a 0)), (1, .int p1), (2, .int p2), (3, .int p3), (4, .int p4), (5, .int p5), (6, .int p6)]) hx hb dX9_fit_178 hl (k := 4) rfl (by rw [ex_54]; rfl) (by decide) rfl (fun ls hl => ?_)
                                refine lv_goto (tgt := 94) hx hb dX9_fit_181 (by decide) ?_
                                exact L_24_ih _ _ _ _ hv ls (lv_sub hl [0, 5, 1, 2, 3, 6, 7, 8, 9, 10, 11, 12] rfl)
                              · have hv := hv.2 c_51
                                refine lv_goto (tgt := 178) hx hb dX9_fit_152 (by decide) ?_
                                obtain ⟨x_55, ex_55⟩ : ∃ z : Int32, z = y_30 + 1 := ⟨_, rfl⟩
                                have hv := hv x_55 ex_55
                                refine lv_iinc (v := x_55) (lv' := [(13, .int x_55), (14, .long (-x_36)), (12, .int y_18), (10, .long y_31), (8, .long y_32), (7, .int y_33), (0, .ref (a 0)), (1, .int p1), (2, .int p2), (3, .int p3), (4, .int p4), (5, .int p5), (6, .int p6)]) hx hb dX9_fit_178 hl (k := 1) rfl (by rw [ex_55]; rfl) (by decide) rfl (fun ls hl => ?_)
                                refine lv_goto (tgt := 94) hx hb dX9_fit_181 (by decide) ?_
                                exact L_24_ih _ _ _ _ hv ls (lv_sub hl [0, 2, 3, 4, 5, 6, 7, 8, 9, 10, 11, 12] rfl)
                    exact L_24 n_56 _ _ _ _ hv ls hl
              exact L_13 n_57 _ _ _ _ hv ls hl
            · have hv := hv.2 c_12
              refine lv_iconst (v := (-1)) hx hb dX9_fit_69 (by decide) ?_
              exact W.iret (v := (-1)) hx hb hr (fun t ht hW => ⟨_, rfl, hv, ht⟩) (fun q h => absurd h List.not_mem_nil) dX9_fit_70
def lp_X9_image_20 (p1 : Int32) (post : Int32 → ST → Prop) (K_ : Int32 → ST → Prop) : Nat → Int32 → ST → Prop
  | 0, _, _ => False
  | n_10 + 1, y_8, M_9 => (((5880 ≤ y_8) → K_ y_8 M_9) ∧ ((¬ (5880 ≤ y_8)) → ∃ k_12 : Nat, k_12 < 23520 ∧ y_8 = nI k_12 ∧ ∃ k_13 : Nat, k_13 < 23520 ∧ ((5880 * (p1 + 1)) + y_8) = nI k_13 ∧ ∀ M_14 : ST, M_14 = x_st M_9 1 k_13 (M_9 1 k_12) → ∀ x_15 : Int32, x_15 = y_8 + 1 → lp_X9_image_20 p1 post K_ n_10 x_15 M_14))
def v_X9_image (M : ST) (p1 : Int32) (post : Int32 → ST → Prop) : Prop := v_X9_isIn p1 0 2 (fun r_1 => (((¬ (r_1 = 0)) → ∃ k_3 : Nat, k_3 < 3 ∧ p1 = nI k_3 ∧ ∀ M_4 : ST, M_4 = x_st M 2 k_3 1 → (∃ n_16 : Nat, lp_X9_image_20 p1 post (fun (y_6 : Int32) (M_7 : ST) => post 1 M_7) n_16 0 M_4)) ∧ ((r_1 = 0) → post 0 M)))
set_option maxHeartbeats 4000000 in
set_option maxRecDepth 100000 in
theorem c_X9_image (l : Launch) (D : va_G) (cT : Nat → ClassId) (a : Nat → Nat) (M : ST) (p1 : Int32) (sz : Nat) (post : Int32 → ST → Prop) (hv : v_X9_image M p1 post) : Met l yX9_image wsX9_image ({ frames := 1, cells := 0, slots := 0, locals := 22 }) (va_Pc [.ref (a 0), .int p1] (x_U D cT ((w_Model cT a M)) sz)) (va_Qi post (fun u t => x_B D cT ((w_Model cT a u)) (va_A ((w_Model cT a M)) sz) t) (va_A ((w_Model cT a M)) sz)) 0 0 (va_A ((w_Model cT a M)) sz) := by
  refine Met.ofW (cc := cX9_image) (maxL := 3) (ret := (some .boolean)) (by decide) rfl ?_
  intro p e s m args below meth c s₁ B hml hpre
  obtain ⟨rfl, hsz, hP, hK, hD0, hN⟩ := hpre
  have hx := B.exec
  have hb := B.bytes
  have hr := B.returns
  have hts := atoms_spec (ws := wsX9_image) B.pre
  have hown : s.vm.findClass RX9 = some m.cls := findClass_of_methodNamed B.named
  have hlocks := B.notSynchronized
  subst hsz
  have hD := hD0.self (sz := s.heap.size)
  generalize hAe : va_A ((w_Model cT a M)) s.heap.size = A at hD hN ⊢
  have hA : ∀ q : Nat, s.heap.size ≤ q → A q := fun q h => by rw [← hAe]; exact Or.inr h
  have hS : va_S A s.heap s.heap [] := va_S.rf
  have hl := lv_entry ([.ref (a 0), .int p1]) (n := 3) (Nat.le_of_ble_eq_true rfl)
  rw [lg_entry_eq]
  generalize (lg_sl ([.ref (a 0), .int p1]) ++ List.replicate (3 - (lg_sl ([.ref (a 0), .int p1])).length) Slot.unset).toArray = ls at hl ⊢
  have hl : lv_has ls 3 [(0, .ref (a 0)), (1, .int p1)] := hl
  have in_X9 : ∀ w ∈ wsX90, w ∈ wsX9_image := by decide +kernel
  have w_17 : CallB (headSpec wsX9_image ({ frames := 1, cells := 0, slots := 0, locals := 22 })).room s ([.ref (a 0), .int p1] : List Value).toArray RX9 17 yX9_isIn cX9_isIn 3 (some .boolean) wsX9_isIn ({ frames := 0, cells := 0, slots := 0, locals := 0 } : Room) 0 0 3 ∧ (Cond.static yX9_isIn).before ([.ref (a 0), .int p1] : List Value).toArray s = true := va_cwS 3 hts gX9_image_X9_isIn rfl rfl rfl (by decide +kernel) ⟨Nat.le_of_ble_eq_true rfl, Nat.le_of_ble_eq_true rfl⟩
  have kf_13 : (Cond.fieldLink RX9 13 "PictureBeatsModel" "has" "[Z").before ([.ref (a 0), .int p1] : List Value).toArray s = true := hts _ (by decide +kernel)
  have kf_7 : (Cond.fieldLink RX9 7 "PictureBeatsModel" "all" "[I").before ([.ref (a 0), .int p1] : List Value).toArray s = true := hts _ (by decide +kernel)
  refine lv_iload_n hx hb dX9_image_0 rfl (lv_at hl 1 rfl) ?_
  refine lv_iconst (v := 0) hx hb dX9_image_1 (by decide) ?_
  refine lv_iconst (v := 2) hx hb dX9_image_2 (by decide) ?_
  refine x_rS (As := [.int p1, .int 0, .int 2]) (rest := []) ⟨hx, hb, hml, hown, hts⟩ (c_X9_isIn l D cT p1 0 2 _ hv) w_17 hK hS hN rfl hl.1 rfl (Nat.le_of_ble_eq_true rfl) dX9_image_3 ⟨Nat.le_of_ble_eq_true rfl, Nat.le_of_ble_eq_true rfl⟩ (fun r_1 hv => ?_)
  refine lv_if_ne (tgt := 11) hx hb dX9_image_6 (by decide) (fun c_2 => ?_) (fun c_2 => ?_)
  · have hv := hv.1 c_2
    refine lv_aload_n hx hb dX9_image_11 rfl (lv_at hl 0 rfl) ?_
    refine va_get (D := D) (ci := 9) (v := .ref (a 2)) (C := RX9) (T := TX9) (N := 2) hx hb hts in_X9 hown hK hP 0 rfl rfl 1 (by decide) kf_13 (fun _ h9 => h9) rfl dX9_image_12 ?_
    refine lv_iload_n hx hb dX9_image_15 rfl (lv_at hl 1 rfl) ?_
    refine lv_iconst (v := 1) hx hb dX9_image_16 (by decide) ?_
    obtain ⟨k_3, hk_3, ik_3, hv⟩ := hv
    refine x_zast hx hb hK hP hD hS 2 1 rfl rfl k_3 ik_3 hk_3 (by decide) dX9_image_17 (fun H locs hP hD hS => ?_)
    obtain ⟨M_4, eM_4⟩ : ∃ z : ST, z = x_st M 2 k_3 1 := ⟨_, rfl⟩
    have hP : va_P D vwCl ((w_Model cT a M_4)) H := by rw [eM_4]; exact hP
    have hD : va_D A ((w_Model cT a M_4)) := by rw [eM_4]; exact hD
    have hv := hv M_4 eM_4
    refine lv_iconst (v := 0) hx hb dX9_image_18 (by decide) ?_
    refine lv_istore_n (lv' := [(2, .int 0), (0, .ref (a 0)), (1, .int p1)]) hx hb dX9_image_19 rfl hl (by decide) rfl (fun ls hl => ?_)
    obtain ⟨n_16, hv⟩ := hv
    have K_L_5 : ∀ (y_6 : Int32) (M_7 : ST), (post 1 M_7) → ∀ (H : Heap) (locs : List Loc), va_P D vwCl ((w_Model cT a M_7)) H → va_D A ((w_Model cT a M_7)) → va_S A s.heap H locs → ∀ ls : Array Slot, lv_has ls 3 [(2, .int y_6), (0, .ref (a 0)), (1, .int p1)] → W p l e (headSpec wsX9_image ({ frames := 1, cells := 0, slots := 0, locals := 22 })).room s m ([.ref (a 0), .int p1] : List Value).toArray below meth c H locs 0 0 (MQ below (va_Qi post (fun u t => x_B D cT ((w_Model cT a u)) A t) A) ([.ref (a 0), .int p1] : List Value).toArray s 0 0 A) (F0 m 53 ls []) := by
      intro y_6 M_7 hv H locs hP hD hS ls hl
      refine lv_iconst (v := 1) hx hb dX9_image_53 (by decide) ?_
      exact W.zret (v := 1) hx hb hr rfl (fun t ht hW => ⟨⟨_, M_7, rfl, hv, by rw [ht]; exact hP, va_K.moved hW.alike hK, hD⟩, hS.F ht⟩) hS.2.2 dX9_image_54
    have L_5 : ∀ n_10 : Nat, ∀ (y_8 : Int32) (M_9 : ST), (lp_X9_image_20 p1 post (fun (y_6 : Int32) (M_7 : ST) => post 1 M_7) n_10 y_8 M_9) → ∀ (H : Heap) (locs : List Loc), va_P D vwCl ((w_Model cT a M_9)) H → va_D A ((w_Model cT a M_9)) → va_S A s.heap H locs → ∀ ls : Array Slot, lv_has ls 3 [(2, .int y_8), (0, .ref (a 0)), (1, .int p1)] → W p l e (headSpec wsX9_image ({ frames := 1, cells := 0, slots := 0, locals := 22 })).room s m ([.ref (a 0), .int p1] : List Value).toArray below meth c H locs 0 0 (MQ below (va_Qi post (fun u t => x_B D cT ((w_Model cT a u)) A t) A) ([.ref (a 0), .int p1] : List Value).toArray s 0 0 A) (F0 m 20 ls []) := by
      intro n_10
      induction n_10 with
      | zero =>
        intro y_8 M_9 hv
        exact hv.elim
      | succ n_10 L_5_ih =>
        intro y_8 M_9 hv H locs hP hD hS ls hl
        refine lv_iload_n hx hb dX9_image_20 rfl (lv_at hl 0 rfl) ?_
        refine lv_sipush (v := 5880) hx hb dX9_image_21 (by decide) ?_
        refine lv_icmp_ge (tgt := 53) hx hb dX9_image_24 (by decide) (fun c_11 => ?_) (fun c_11 => ?_)
        · have hv := hv.1 c_11
          exact K_L_5 _ _ hv H locs hP hD hS ls (lv_sub hl [0, 1, 2] rfl)
        · have hv := hv.2 c_11
          refine lv_aload_n hx hb dX9_image_27 rfl (lv_at hl 1 rfl) ?_
          refine va_get (D := D) (ci := 9) (v := .ref (a 1)) (C := RX9) (T := TX9) (N := 2) hx hb hts in_X9 hown hK hP 0 rfl rfl 0 (by decide) kf_7 (fun _ h9 => h9) rfl dX9_image_28 ?_
          refine lv_sipush (v := 5880) hx hb dX9_image_31 (by decide) ?_
          refine lv_iload_n hx hb dX9_image_34 rfl (lv_at hl 2 rfl) ?_
          refine lv_iconst (v := 1) hx hb dX9_image_35 (by decide) ?_
          refine lv_iadd hx hb dX9_image_36 ?_
          refine lv_imul hx hb dX9_image_37 ?_
          refine lv_iload_n hx hb dX9_image_38 rfl (lv_at hl 0 rfl) ?_
          refine lv_iadd hx hb dX9_image_39 ?_
          refine lv_aload_n hx hb dX9_image_40 rfl (lv_at hl 1 rfl) ?_
          refine va_get (D := D) (ci := 9) (v := .ref (a 1)) (C := RX9) (T := TX9) (N := 2) hx hb hts in_X9 hown hK hP 0 rfl rfl 0 (by decide) kf_7 (fun _ h9 => h9) rfl dX9_image_41 ?_
          refine lv_iload_n hx hb dX9_image_44 rfl (lv_at hl 0 rfl) ?_
          obtain ⟨k_12, hk_12, ik_12, hv⟩ := hv
          refine x_ald hx hb hK hP 1 0 rfl rfl k_12 ik_12 hk_12 (by decide) dX9_image_45 ?_
          obtain ⟨k_13, hk_13, ik_13, hv⟩ := hv
          refine x_ast hx hb hK hP hD hS 1 0 rfl rfl k_13 ik_13 hk_13 (by decide) dX9_image_46 (fun H locs hP hD hS => ?_)
          obtain ⟨M_14, eM_14⟩ : ∃ z : ST, z = x_st M_9 1 k_13 (M_9 1 k_12) := ⟨_, rfl⟩
          have hP : va_P D vwCl ((w_Model cT a M_14)) H := by rw [eM_14]; exact hP
          have hD : va_D A ((w_Model cT a M_14)) := by rw [eM_14]; exact hD
          have hv := hv M_14 eM_14
          obtain ⟨x_15, ex_15⟩ : ∃ z : Int32, z = y_8 + 1 := ⟨_, rfl⟩
          have hv := hv x_15 ex_15
          refine lv_iinc (v := x_15) (lv' := [(2, .int x_15), (0, .ref (a 0)), (1, .int p1)]) hx hb dX9_image_47 hl (k := 0) rfl (by rw [ex_15]; rfl) (by decide) rfl (fun ls hl => ?_)
          refine lv_goto (tgt := 20) hx hb dX9_image_50 (by decide) ?_
          exact L_5_ih _ _ hv H locs hP hD hS ls (lv_sub hl [0, 1, 2] rfl)
    exact L_5 n_16 _ _ hv _ _ hP hD hS ls hl
  · have hv := hv.2 c_2
    refine lv_iconst (v := 0) hx hb dX9_image_9 (by decide) ?_
    exact W.zret (v := 0) hx hb hr rfl (fun t ht hW => ⟨⟨_, M, rfl, hv, by rw [ht]; exact hP, va_K.moved hW.alike hK, hD⟩, hS.F ht⟩) hS.2.2 dX9_image_10
def lp_X9_again_22 (p1 : Int32) (post : Int32 → ST → Prop) (K_ : Int32 → ST → Prop) : Nat → Int32 → ST → Prop
  | 0, _, _ => False
  | n_10 + 1, y_8, M_9 => (((5880 ≤ y_8) → K_ y_8 M_9) ∧ ((¬ (5880 ≤ y_8)) → ∃ k_12 : Nat, k_12 < 23520 ∧ ((5880 * (p1 + 1)) + y_8) = nI k_12 ∧ ∃ k_13 : Nat, k_13 < 23520 ∧ y_8 = nI k_13 ∧ ∀ M_14 : ST, M_14 = x_st M_9 1 k_13 (M_9 1 k_12) → ∀ x_15 : Int32, x_15 = y_8 + 1 → lp_X9_again_22 p1 post K_ n_10 x_15 M_14))
def v_X9_again (M : ST) (p1 : Int32) (post : Int32 → ST → Prop) : Prop := v_X9_isIn p1 0 2 (fun r_1 => (((r_1 = 0) → post 0 M) ∧ ((¬ (r_1 = 0)) → ∃ k_3 : Nat, k_3 < 3 ∧ p1 = nI k_3 ∧ (((¬ ((M 2 k_3) = 0)) → (∃ n_16 : Nat, lp_X9_again_22 p1 post (fun (y_6 : Int32) (M_7 : ST) => post 1 M_7) n_16 0 M)) ∧ (((M 2 k_3) = 0) → post 0 M)))))
set_option maxHeartbeats 4000000 in
set_option maxRecDepth 100000 in
theorem c_X9_again (l : Launch) (D : va_G) (cT : Nat → ClassId) (a : Nat → Nat) (M : ST) (p1 : Int32) (sz : Nat) (post : Int32 → ST → Prop) (hv : v_X9_again M p1 post) : Met l yX9_again wsX9_again ({ frames := 1, cells := 0, slots := 0, locals := 22 }) (va_Pc [.ref (a 0), .int p1] (x_U D cT ((w_Model cT a M)) sz)) (va_Qi post (fun u t => x_B D cT ((w_Model cT a u)) (va_A ((w_Model cT a M)) sz) t) (va_A ((w_Model cT a M)) sz)) 0 0 (va_A ((w_Model cT a M)) sz) := by
  refine Met.ofW (cc := cX9_again) (maxL := 3) (ret := (some .boolean)) (by decide) rfl ?_
  intro p e s m args below meth c s₁ B hml hpre
  obtain ⟨rfl, hsz, hP, hK, hD0, hN⟩ := hpre
  have hx := B.exec
  have hb := B.bytes
  have hr := B.returns
  have hts := atoms_spec (ws := wsX9_again) B.pre
  have hown : s.vm.findClass RX9 = some m.cls := findClass_of_methodNamed B.named
  have hlocks := B.notSynchronized
  subst hsz
  have hD := hD0.self (sz := s.heap.size)
  generalize hAe : va_A ((w_Model cT a M)) s.heap.size = A at hD hN ⊢
  have hA : ∀ q : Nat, s.heap.size ≤ q → A q := fun q h => by rw [← hAe]; exact Or.inr h
  have hS : va_S A s.heap s.heap [] := va_S.rf
  have hl := lv_entry ([.ref (a 0), .int p1]) (n := 3) (Nat.le_of_ble_eq_true rfl)
  rw [lg_entry_eq]
  generalize (lg_sl ([.ref (a 0), .int p1]) ++ List.replicate (3 - (lg_sl ([.ref (a 0), .int p1])).length) Slot.unset).toArray = ls at hl ⊢
  have hl : lv_has ls 3 [(0, .ref (a 0)), (1, .int p1)] := hl
  have in_X9 : ∀ w ∈ wsX90, w ∈ wsX9_again := by decide +kernel
  have w_17 : CallB (headSpec wsX9_again ({ frames := 1, cells := 0, slots := 0, locals := 22 })).room s ([.ref (a 0), .int p1] : List Value).toArray RX9 17 yX9_isIn cX9_isIn 3 (some .boolean) wsX9_isIn ({ frames := 0, cells := 0, slots := 0, locals := 0 } : Room) 0 0 3 ∧ (Cond.static yX9_isIn).before ([.ref (a 0), .int p1] : List Value).toArray s = true := va_cwS 3 hts gX9_again_X9_isIn rfl rfl rfl (by decide +kernel) ⟨Nat.le_of_ble_eq_true rfl, Nat.le_of_ble_eq_true rfl⟩
  have kf_13 : (Cond.fieldLink RX9 13 "PictureBeatsModel" "has" "[Z").before ([.ref (a 0), .int p1] : List Value).toArray s = true := hts _ (by decide +kernel)
  have kf_7 : (Cond.fieldLink RX9 7 "PictureBeatsModel" "all" "[I").before ([.ref (a 0), .int p1] : List Value).toArray s = true := hts _ (by decide +kernel)
  refine lv_iload_n hx hb dX9_again_0 rfl (lv_at hl 1 rfl) ?_
  refine lv_iconst (v := 0) hx hb dX9_again_1 (by decide) ?_
  refine lv_iconst (v := 2) hx hb dX9_again_2 (by decide) ?_
  refine x_rS (As := [.int p1, .int 0, .int 2]) (rest := []) ⟨hx, hb, hml, hown, hts⟩ (c_X9_isIn l D cT p1 0 2 _ hv) w_17 hK hS hN rfl hl.1 rfl (Nat.le_of_ble_eq_true rfl) dX9_again_3 ⟨Nat.le_of_ble_eq_true rfl, Nat.le_of_ble_eq_true rfl⟩ (fun r_1 hv => ?_)
  refine lv_if_eq (tgt := 18) hx hb dX9_again_6 (by decide) (fun c_2 => ?_) (fun c_2 => ?_)
  · have hv := hv.1 c_2
    refine lv_iconst (v := 0) hx hb dX9_again_18 (by decide) ?_
    exact W.zret (v := 0) hx hb hr rfl (fun t ht hW => ⟨⟨_, M, rfl, hv, by rw [ht]; exact hP, va_K.moved hW.alike hK, hD⟩, hS.F ht⟩) hS.2.2 dX9_again_19
  · have hv := hv.2 c_2
    refine lv_aload_n hx hb dX9_again_9 rfl (lv_at hl 0 rfl) ?_
    refine va_get (D := D) (ci := 9) (v := .ref (a 2)) (C := RX9) (T := TX9) (N := 2) hx hb hts in_X9 hown hK hP 0 rfl rfl 1 (by decide) kf_13 (fun _ h9 => h9) rfl dX9_again_10 ?_
    refine lv_iload_n hx hb dX9_again_13 rfl (lv_at hl 1 rfl) ?_
    obtain ⟨k_3, hk_3, ik_3, hv⟩ := hv
    refine x_zald hx hb hK hP 2 1 rfl rfl k_3 ik_3 hk_3 (by decide) dX9_again_14 ?_
    refine lv_if_ne (tgt := 20) hx hb dX9_again_15 (by decide) (fun c_4 => ?_) (fun c_4 => ?_)
    · have hv := hv.1 c_4
      refine lv_iconst (v := 0) hx hb dX9_again_20 (by decide) ?_
      refine lv_istore_n (lv' := [(2, .int 0), (0, .ref (a 0)), (1, .int p1)]) hx hb dX9_again_21 rfl hl (by decide) rfl (fun ls hl => ?_)
      obtain ⟨n_16, hv⟩ := hv
      have K_L_5 : ∀ (y_6 : Int32) (M_7 : ST), (post 1 M_7) → ∀ (H : Heap) (locs : List Loc), va_P D vwCl ((w_Model cT a M_7)) H → va_D A ((w_Model cT a M_7)) → va_S A s.heap H locs → ∀ ls : Array Slot, lv_has ls 3 [(2, .int y_6), (0, .ref (a 0)), (1, .int p1)] → W p l e (headSpec wsX9_again ({ frames := 1, cells := 0, slots := 0, locals := 22 })).room s m ([.ref (a 0), .int p1] : List Value).toArray below meth c H locs 0 0 (MQ below (va_Qi post (fun u t => x_B D cT ((w_Model cT a u)) A t) A) ([.ref (a 0), .int p1] : List Value).toArray s 0 0 A) (F0 m 55 ls []) := by
        intro y_6 M_7 hv H locs hP hD hS ls hl
        refine lv_iconst (v := 1) hx hb dX9_again_55 (by decide) ?_
        exact W.zret (v := 1) hx hb hr rfl (fun t ht hW => ⟨⟨_, M_7, rfl, hv, by rw [ht]; exact hP, va_K.moved hW.alike hK, hD⟩, hS.F ht⟩) hS.2.2 dX9_again_56
      have L_5 : ∀ n_10 : Nat, ∀ (y_8 : Int32) (M_9 : ST), (lp_X9_again_22 p1 post (fun (y_6 : Int32) (M_7 : ST) => post 1 M_7) n_10 y_8 M_9) → ∀ (H : Heap) (locs : List Loc), va_P D vwCl ((w_Model cT a M_9)) H → va_D A ((w_Model cT a M_9)) → va_S A s.heap H locs → ∀ ls : Array Slot, lv_has ls 3 [(2, .int y_8), (0, .ref (a 0)), (1, .int p1)] → W p l e (headSpec wsX9_again ({ frames := 1, cells := 0, slots := 0, locals := 22 })).room s m ([.ref (a 0), .int p1] : List Value).toArray below meth c H locs 0 0 (MQ below (va_Qi post (fun u t => x_B D cT ((w_Model cT a u)) A t) A) ([.ref (a 0), .int p1] : List Value).toArray s 0 0 A) (F0 m 22 ls []) := by
        intro n_10
        induction n_10 with
        | zero =>
          intro y_8 M_9 hv
          exact hv.elim
        | succ n_10 L_5_ih =>
          intro y_8 M_9 hv H locs hP hD hS ls hl
          refine lv_iload_n hx hb dX9_again_22 rfl (lv_at hl 0 rfl) ?_
          refine lv_sipush (v := 5880) hx hb dX9_again_23 (by decide) ?_
          refine lv_icmp_ge (tgt := 55) hx hb dX9_again_26 (by decide) (fun c_11 => ?_) (fun c_11 => ?_)
          · have hv := hv.1 c_11
            exact K_L_5 _ _ hv H locs hP hD hS ls (lv_sub hl [0, 1, 2] rfl)
          · have hv := hv.2 c_11
            refine lv_aload_n hx hb dX9_again_29 rfl (lv_at hl 1 rfl) ?_
            refine va_get (D := D) (ci := 9) (v := .ref (a 1)) (C := RX9) (T := TX9) (N := 2) hx hb hts in_X9 hown hK hP 0 rfl rfl 0 (by decide) kf_7 (fun _ h9 => h9) rfl dX9_again_30 ?_
            refine lv_iload_n hx hb dX9_again_33 rfl (lv_at hl 0 rfl) ?_
            refine lv_aload_n hx hb dX9_again_34 rfl (lv_at hl 1 rfl) ?_
            refine va_get (D := D) (ci := 9) (v := .ref (a 1)) (C := RX9) (T := TX9) (N := 2) hx hb hts in_X9 hown hK hP 0 rfl rfl 0 (by decide) kf_7 (fun _ h9 => h9) rfl dX9_again_35 ?_
            refine lv_sipush (v := 5880) hx hb dX9_again_38 (by decide) ?_
            refine lv_iload_n hx hb dX9_again_41 rfl (lv_at hl 2 rfl) ?_
            refine lv_iconst (v := 1) hx hb dX9_again_42 (by decide) ?_
            refine lv_iadd hx hb dX9_again_43 ?_
            refine lv_imul hx hb dX9_again_44 ?_
            refine lv_iload_n hx hb dX9_again_45 rfl (lv_at hl 0 rfl) ?_
            refine lv_iadd hx hb dX9_again_46 ?_
            obtain ⟨k_12, hk_12, ik_12, hv⟩ := hv
            refine x_ald hx hb hK hP 1 0 rfl rfl k_12 ik_12 hk_12 (by decide) dX9_again_47 ?_
            obtain ⟨k_13, hk_13, ik_13, hv⟩ := hv
            refine x_ast hx hb hK hP hD hS 1 0 rfl rfl k_13 ik_13 hk_13 (by decide) dX9_again_48 (fun H locs hP hD hS => ?_)
            obtain ⟨M_14, eM_14⟩ : ∃ z : ST, z = x_st M_9 1 k_13 (M_9 1 k_12) := ⟨_, rfl⟩
            have hP : va_P D vwCl ((w_Model cT a M_14)) H := by rw [eM_14]; exact hP
            have hD : va_D A ((w_Model cT a M_14)) := by rw [eM_14]; exact hD
            have hv := hv M_14 eM_14
            obtain ⟨x_15, ex_15⟩ : ∃ z : Int32, z = y_8 + 1 := ⟨_, rfl⟩
            have hv := hv x_15 ex_15
            refine lv_iinc (v := x_15) (lv' := [(2, .int x_15), (0, .ref (a 0)), (1, .int p1)]) hx hb dX9_again_49 hl (k := 0) rfl (by rw [ex_15]; rfl) (by decide) rfl (fun ls hl => ?_)
            refine lv_goto (tgt := 22) hx hb dX9_again_52 (by decide) ?_
            exact L_5_ih _ _ hv H locs hP hD hS ls (lv_sub hl [0, 1, 2] rfl)
      exact L_5 n_16 _ _ hv _ _ hP hD hS ls hl
    · have hv := hv.2 c_4
      refine lv_iconst (v := 0) hx hb dX9_again_18 (by decide) ?_
      exact W.zret (v := 0) hx hb hr rfl (fun t ht hW => ⟨⟨_, M, rfl, hv, by rw [ht]; exact hP, va_K.moved hW.alike hK, hD⟩, hS.F ht⟩) hS.2.2 dX9_again_19
