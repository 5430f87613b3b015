def v_X9_isTaken (M : ST) (post : Int32 → Prop) : Prop := ¬ ((M 1 27) = 0) ∧ (((¬ ((((M 1 28) >>> (((M 1 23) - (M 1 23) / (M 1 27) * (M 1 27)) &&& 31)) &&& 1) = 1)) → post 0) ∧ (((((M 1 28) >>> (((M 1 23) - (M 1 23) / (M 1 27) * (M 1 27)) &&& 31)) &&& 1) = 1) → post 1))
set_option maxHeartbeats 4000000 in
set_option maxRecDepth 100000 in
theorem c_X9_isTaken (l : Launch) (D : va_G) (cT : Nat → ClassId) (a : Nat → Nat) (M : ST) (post : Int32 → Prop) (hv : v_X9_isTaken M post) : Met l yX9_isTaken wsX9_isTaken ({ frames := 0, cells := 0, slots := 0, locals := 0 }) (va_Pc [.ref (a 0)] (x_R D cT ((w_Model cT a M)))) (vp_Si post) 0 0 (fun _ => False) := by
  refine Met.ofW (cc := cX9_isTaken) (maxL := 1) (ret := (some .boolean)) (by decide) rfl ?_
  intro p e s m args below meth c s₁ B hml hpre
  obtain ⟨rfl, hP, hK, hN⟩ := hpre
  have hx := B.exec
  have hb := B.bytes
  have hr := B.returns
  have hts := atoms_spec (ws := wsX9_isTaken) B.pre
  have hown : s.vm.findClass RX9 = some m.cls := findClass_of_methodNamed B.named
  have hlocks := B.notSynchronized
  have hS : va_S (fun _ : Nat => False) s.heap s.heap [] := va_S.rf
  have hl := lv_entry ([.ref (a 0)]) (n := 1) (Nat.le_of_ble_eq_true rfl)
  rw [lg_entry_eq]
  generalize (lg_sl ([.ref (a 0)]) ++ List.replicate (1 - (lg_sl ([.ref (a 0)])).length) Slot.unset).toArray = ls at hl ⊢
  have hl : lv_has ls 1 [(0, .ref (a 0))] := hl
  have in_X9 : ∀ w ∈ wsX90, w ∈ wsX9_isTaken := by decide +kernel
  have kf_7 : (Cond.fieldLink RX9 7 "PictureBeatsModel" "all" "[I").before ([.ref (a 0)] : List Value).toArray s = true := hts _ (by decide +kernel)
  refine lv_aload_n hx hb dX9_isTaken_0 rfl (lv_at hl 0 rfl) ?_
  refine va_get (D := D) (ci := 9) (v := .ref (a 1)) (C := RX9) (T := TX9) (N := 2) hx hb hts in_X9 hown hK hP 0 rfl rfl 0 (by decide) kf_7 (fun _ h9 => h9) rfl dX9_isTaken_1 ?_
  refine lv_bipush (v := 28) hx hb dX9_isTaken_4 (by decide) ?_
  refine x_ald hx hb hK hP 1 0 rfl rfl 28 rfl (by decide) (by decide) dX9_isTaken_6 ?_
  refine lv_aload_n hx hb dX9_isTaken_7 rfl (lv_at hl 0 rfl) ?_
  refine va_get (D := D) (ci := 9) (v := .ref (a 1)) (C := RX9) (T := TX9) (N := 2) hx hb hts in_X9 hown hK hP 0 rfl rfl 0 (by decide) kf_7 (fun _ h9 => h9) rfl dX9_isTaken_8 ?_
  refine lv_bipush (v := 23) hx hb dX9_isTaken_11 (by decide) ?_
  refine x_ald hx hb hK hP 1 0 rfl rfl 23 rfl (by decide) (by decide) dX9_isTaken_13 ?_
  refine lv_aload_n hx hb dX9_isTaken_14 rfl (lv_at hl 0 rfl) ?_
  refine va_get (D := D) (ci := 9) (v := .ref (a 1)) (C := RX9) (T := TX9) (N := 2) hx hb hts in_X9 hown hK hP 0 rfl rfl 0 (by decide) kf_7 (fun _ h9 => h9) rfl dX9_isTaken_15 ?_
  refine lv_bipush (v := 27) hx hb dX9_isTaken_18 (by decide) ?_
  refine x_ald hx hb hK hP 1 0 rfl rfl 27 rfl (by decide) (by decide) dX9_isTaken_20 ?_
  obtain ⟨h_1, hv⟩ := hv
  refine lv_irem hx hb dX9_isTaken_21 h_1 ?_
  refine lv_ishr hx hb dX9_isTaken_22 ?_
  refine lv_iconst (v := 1) hx hb dX9_isTaken_23 (by decide) ?_
  refine lv_iand hx hb dX9_isTaken_24 ?_
  refine lv_iconst (v := 1) hx hb dX9_isTaken_25 (by decide) ?_
  refine lv_icmp_ne (tgt := 33) hx hb dX9_isTaken_26 (by decide) (fun c_2 => ?_) (fun c_2 => ?_)
  · have hv := hv.1 c_2
    refine lv_iconst (v := 0) hx hb dX9_isTaken_33 (by decide) ?_
    exact W.zret (v := 0) hx hb hr rfl (fun t ht hW => ⟨_, rfl, hv, ht⟩) (fun q h => absurd h List.not_mem_nil) dX9_isTaken_34
  · have hv := hv.2 c_2
    refine lv_iconst (v := 1) hx hb dX9_isTaken_29 (by decide) ?_
    refine lv_goto (tgt := 34) hx hb dX9_isTaken_30 (by decide) ?_
    exact W.zret (v := 1) hx hb hr rfl (fun t ht hW => ⟨_, rfl, hv, ht⟩) (fun q h => absurd h List.not_mem_nil) dX9_isTaken_34
def v_X9_signalsNow (M : ST) (post : Int32 → Prop) : Prop := ∀ x_1 : Int32, x_1 = (((M 1 20) - (M 1 0)) - (M 1 1)) → ∀ x_2 : Int32, x_2 = (((M 1 21) - (M 1 4)) - (M 1 5)) → v_X9_isIn x_1 0 ((M 1 2) - 1) (fun r_3 => (((r_3 = 0) → v_X9_isIn x_2 0 ((M 1 6) - 1) (fun r_5 => (((r_5 = 0) → ((((M 1 0) ≤ (M 1 20)) → post (0 + 4)) ∧ ((¬ ((M 1 0) ≤ (M 1 20))) → ((((M 1 21) < (M 1 4)) → post 0) ∧ ((¬ ((M 1 21) < (M 1 4))) → post (0 + 4)))))) ∧ ((¬ (r_5 = 0)) → ∀ x_9 : Int32, x_9 = 0 + 2 → ((((M 1 0) ≤ (M 1 20)) → post (x_9 + 4)) ∧ ((¬ ((M 1 0) ≤ (M 1 20))) → ((((M 1 21) < (M 1 4)) → post x_9) ∧ ((¬ ((M 1 21) < (M 1 4))) → post (x_9 + 4))))))))) ∧ ((¬ (r_3 = 0)) → v_X9_isIn x_2 0 ((M 1 6) - 1) (fun r_12 => (((r_12 = 0) → ((((M 1 0) ≤ (M 1 20)) → post (1 + 4)) ∧ ((¬ ((M 1 0) ≤ (M 1 20))) → ((((M 1 21) < (M 1 4)) → post 1) ∧ ((¬ ((M 1 21) < (M 1 4))) → post (1 + 4)))))) ∧ ((¬ (r_12 = 0)) → ∀ x_16 : Int32, x_16 = 1 + 2 → ((((M 1 0) ≤ (M 1 20)) → post (x_16 + 4)) ∧ ((¬ ((M 1 0) ≤ (M 1 20))) → ((((M 1 21) < (M 1 4)) → post x_16) ∧ ((¬ ((M 1 21) < (M 1 4))) → post (x_16 + 4)))))))))))
set_option maxHeartbeats 4000000 in
set_option maxRecDepth 100000 in
theorem c_X9_signalsNow (l : Launch) (D : va_G) (cT : Nat → ClassId) (a : Nat → Nat) (M : ST) (post : Int32 → Prop) (hv : v_X9_signalsNow M post) : Met l yX9_signalsNow wsX9_signalsNow ({ frames := 1, cells := 0, slots := 0, locals := 22 }) (va_Pc [.ref (a 0)] (x_R D cT ((w_Model cT a M)))) (vp_Si post) 0 0 (fun _ => False) := by
  refine Met.ofW (cc := cX9_signalsNow) (maxL := 4) (ret := (some .int)) (by decide) rfl ?_
  intro p e s m args below meth c s₁ B hml hpre
  obtain ⟨rfl, hP, hK, hN⟩ := hpre
  have hx := B.exec
  have hb := B.bytes
  have hr := B.returns
  have hts := atoms_spec (ws := wsX9_signalsNow) B.pre
  have hown : s.vm.findClass RX9 = some m.cls := findClass_of_methodNamed B.named
  have hlocks := B.notSynchronized
  have hS : va_S (fun _ : Nat => False) s.heap s.heap [] := va_S.rf
  have hl := lv_entry ([.ref (a 0)]) (n := 4) (Nat.le_of_ble_eq_true rfl)
  rw [lg_entry_eq]
  generalize (lg_sl ([.ref (a 0)]) ++ List.replicate (4 - (lg_sl ([.ref (a 0)])).length) Slot.unset).toArray = ls at hl ⊢
  have hl : lv_has ls 4 [(0, .ref (a 0))] := hl
  have in_X9 : ∀ w ∈ wsX90, w ∈ wsX9_signalsNow := by decide +kernel
  have kf_7 : (Cond.fieldLink RX9 7 "PictureBeatsModel" "all" "[I").before ([.ref (a 0)] : List Value).toArray s = true := hts _ (by decide +kernel)
  have w_17 : CallB (headSpec wsX9_signalsNow ({ frames := 1, cells := 0, slots := 0, locals := 22 })).room s ([.ref (a 0)] : List Value).toArray RX9 17 yX9_isIn cX9_isIn 3 (some .boolean) wsX9_isIn ({ frames := 0, cells := 0, slots := 0, locals := 0 } : Room) 0 0 3 ∧ (Cond.static yX9_isIn).before ([.ref (a 0)] : List Value).toArray s = true := va_cwS 3 hts gX9_signalsNow_X9_isIn rfl rfl rfl (by decide +kernel) ⟨Nat.le_of_ble_eq_true rfl, Nat.le_of_ble_eq_true rfl⟩
  refine lv_aload_n hx hb dX9_signalsNow_0 rfl (lv_at hl 0 rfl) ?_
  refine va_get (D := D) (ci := 9) (v := .ref (a 1)) (C := RX9) (T := TX9) (N := 2) hx hb hts in_X9 hown hK hP 0 rfl rfl 0 (by decide) kf_7 (fun _ h9 => h9) rfl dX9_signalsNow_1 ?_
  refine lv_bipush (v := 20) hx hb dX9_signalsNow_4 (by decide) ?_
  refine x_ald hx hb hK hP 1 0 rfl rfl 20 rfl (by decide) (by decide) dX9_signalsNow_6 ?_
  refine lv_aload_n hx hb dX9_signalsNow_7 rfl (lv_at hl 0 rfl) ?_
  refine va_get (D := D) (ci := 9) (v := .ref (a 1)) (C := RX9) (T := TX9) (N := 2) hx hb hts in_X9 hown hK hP 0 rfl rfl 0 (by decide) kf_7 (fun _ h9 => h9) rfl dX9_signalsNow_8 ?_
  refine lv_iconst (v := 0) hx hb dX9_signalsNow_11 (by decide) ?_
  refine x_ald hx hb hK hP 1 0 rfl rfl 0 rfl (by decide) (by decide) dX9_signalsNow_12 ?_
  refine lv_isub hx hb dX9_signalsNow_13 ?_
  refine lv_aload_n hx hb dX9_signalsNow_14 rfl (lv_at hl 0 rfl) ?_
  refine va_get (D := D) (ci := 9) (v := .ref (a 1)) (C := RX9) (T := TX9) (N := 2) hx hb hts in_X9 hown hK hP 0 rfl rfl 0 (by decide) kf_7 (fun _ h9 => h9) rfl dX9_signalsNow_15 ?_
  refine lv_iconst (v := 1) hx hb dX9_signalsNow_18 (by decide) ?_
  refine x_ald hx hb hK hP 1 0 rfl rfl 1 rfl (by decide) (by decide) dX9_signalsNow_19 ?_
  refine lv_isub hx hb dX9_signalsNow_20 ?_
  refine lv_topi (fun x_1 ex_1 => ?_)
  have hv := hv x_1 ex_1
  refine lv_istore_n (lv' := [(1, .int x_1), (0, .ref (a 0))]) hx hb dX9_signalsNow_21 rfl hl (by decide) rfl (fun ls hl => ?_)
  refine lv_aload_n hx hb dX9_signalsNow_22 rfl (lv_at hl 1 rfl) ?_
  refine va_get (D := D) (ci := 9) (v := .ref (a 1)) (C := RX9) (T := TX9) (N := 2) hx hb hts in_X9 hown hK hP 0 rfl rfl 0 (by decide) kf_7 (fun _ h9 => h9) rfl dX9_signalsNow_23 ?_
  refine lv_bipush (v := 21) hx hb dX9_signalsNow_26 (by decide) ?_
  refine x_ald hx hb hK hP 1 0 rfl rfl 21 rfl (by decide) (by decide) dX9_signalsNow_28 ?_
  refine lv_aload_n hx hb dX9_signalsNow_29 rfl (lv_at hl 1 rfl) ?_
  refine va_get (D := D) (ci := 9) (v := .ref (a 1)) (C := RX9) (T := TX9) (N := 2) hx hb hts in_X9 hown hK hP 0 rfl rfl 0 (by decide) kf_7 (fun _ h9 => h9) rfl dX9_signalsNow_30 ?_
  refine lv_iconst (v := 4) hx hb dX9_signalsNow_33 (by decide) ?_
  refine x_ald hx hb hK hP 1 0 rfl rfl 4 rfl (by decide) (by decide) dX9_signalsNow_34 ?_
  refine lv_isub hx hb dX9_signalsNow_35 ?_
  refine lv_aload_n hx hb dX9_signalsNow_36 rfl (lv_at hl 1 rfl) ?_
  refine va_get (D := D) (ci := 9) (v := .ref (a 1)) (C := RX9) (T := TX9) (N := 2) hx hb hts in_X9 hown hK hP 0 rfl rfl 0 (by decide) kf_7 (fun _ h9 => h9) rfl dX9_signalsNow_37 ?_
  refine lv_iconst (v := 5) hx hb dX9_signalsNow_40 (by decide) ?_
  refine x_ald hx hb hK hP 1 0 rfl rfl 5 rfl (by decide) (by decide) dX9_signalsNow_41 ?_
  refine lv_isub hx hb dX9_signalsNow_42 ?_
  refine lv_topi (fun x_2 ex_2 => ?_)
  have hv := hv x_2 ex_2
  refine lv_istore_n (lv' := [(2, .int x_2), (1, .int x_1), (0, .ref (a 0))]) hx hb dX9_signalsNow_43 rfl hl (by decide) rfl (fun ls hl => ?_)
  refine lv_iload_n hx hb dX9_signalsNow_44 rfl (lv_at hl 1 rfl) ?_
  refine lv_iconst (v := 0) hx hb dX9_signalsNow_45 (by decide) ?_
  refine lv_aload_n hx hb dX9_signalsNow_46 rfl (lv_at hl 2 rfl) ?_
  refine va_get (D := D) (ci := 9) (v := .ref (a 1)) (C := RX9) (T := TX9) (N := 2) hx hb hts in_X9 hown hK hP 0 rfl rfl 0 (by decide) kf_7 (fun _ h9 => h9) rfl dX9_signalsNow_47 ?_
  refine lv_iconst (v := 2) hx hb dX9_signalsNow_50 (by decide) ?_
  refine x_ald hx hb hK hP 1 0 rfl rfl 2 rfl (by decide) (by decide) dX9_signalsNow_51 ?_
  refine lv_iconst (v := 1) hx hb dX9_signalsNow_52 (by decide) ?_
  refine lv_isub hx hb dX9_signalsNow_53 ?_
  refine x_rS (As := [.int x_1, .int 0, .int ((M 1 2) - 1)]) (rest := []) ⟨hx, hb, hml, hown, hts⟩ (c_X9_isIn l D cT x_1 0 ((M 1 2) - 1) _ hv) w_17 hK hS hN rfl hl.1 rfl (Nat.le_of_ble_eq_true rfl) dX9_signalsNow_54 ⟨Nat.le_of_ble_eq_true rfl, Nat.le_of_ble_eq_true rfl⟩ (fun r_3 hv => ?_)
  refine lv_if_eq (tgt := 64) hx hb dX9_signalsNow_57 (by decide) (fun c_4 => ?_) (fun c_4 => ?_)
  · have hv := hv.1 c_4
    refine lv_iconst (v := 0) hx hb dX9_signalsNow_64 (by decide) ?_
    refine lv_istore_n (lv' := [(3, .int 0), (2, .int x_2), (1, .int x_1), (0, .ref (a 0))]) hx hb dX9_signalsNow_65 rfl hl (by decide) rfl (fun ls hl => ?_)
    refine lv_iload_n hx hb dX9_signalsNow_66 rfl (lv_at hl 1 rfl) ?_
    refine lv_iconst (v := 0) hx hb dX9_signalsNow_67 (by decide) ?_
    refine lv_aload_n hx hb dX9_signalsNow_68 rfl (lv_at hl 3 rfl) ?_
    refine va_get (D := D) (ci := 9) (v := .ref (a 1)) (C := RX9) (T := TX9) (N := 2) hx hb hts in_X9 hown hK hP 0 rfl rfl 0 (by decide) kf_7 (fun _ h9 => h9) rfl dX9_signalsNow_69 ?_
    refine lv_bipush (v := 6) hx hb dX9_signalsNow_72 (by decide) ?_
    refine x_ald hx hb hK hP 1 0 rfl rfl 6 rfl (by decide) (by decide) dX9_signalsNow_74 ?_
    refine lv_iconst (v := 1) hx hb dX9_signalsNow_75 (by decide) ?_
    refine lv_isub hx hb dX9_signalsNow_76 ?_
    refine x_rS (As := [.int x_2, .int 0, .int ((M 1 6) - 1)]) (rest := []) ⟨hx, hb, hml, hown, hts⟩ (c_X9_isIn l D cT x_2 0 ((M 1 6) - 1) _ hv) w_17 hK hS hN rfl hl.1 rfl (Nat.le_of_ble_eq_true rfl) dX9_signalsNow_77 ⟨Nat.le_of_ble_eq_true rfl, Nat.le_of_ble_eq_true rfl⟩ (fun r_5 hv => ?_)
    refine lv_if_eq (tgt := 86) hx hb dX9_signalsNow_80 (by decide) (fun c_6 => ?_) (fun c_6 => ?_)
    · have hv := hv.1 c_6
      refine lv_aload_n hx hb dX9_signalsNow_86 rfl (lv_at hl 3 rfl) ?_
      refine va_get (D := D) (ci := 9) (v := .ref (a 1)) (C := RX9) (T := TX9) (N := 2) hx hb hts in_X9 hown hK hP 0 rfl rfl 0 (by decide) kf_7 (fun _ h9 => h9) rfl dX9_signalsNow_87 ?_
      refine lv_bipush (v := 20) hx hb dX9_signalsNow_90 (by decide) ?_
      refine x_ald hx hb hK hP 1 0 rfl rfl 20 rfl (by decide) (by decide) dX9_signalsNow_92 ?_
      refine lv_aload_n hx hb dX9_signalsNow_93 rfl (lv_at hl 3 rfl) ?_
      refine va_get (D := D) (ci := 9) (v := .ref (a 1)) (C := RX9) (T := TX9) (N := 2) hx hb hts in_X9 hown hK hP 0 rfl rfl 0 (by decide) kf_7 (fun _ h9 => h9) rfl dX9_signalsNow_94 ?_
      refine lv_iconst (v := 0) hx hb dX9_signalsNow_97 (by decide) ?_
      refine x_ald hx hb hK hP 1 0 rfl rfl 0 rfl (by decide) (by decide) dX9_signalsNow_98 ?_
      refine lv_icmp_ge (tgt := 118) hx hb dX9_signalsNow_99 (by decide) (fun c_7 => ?_) (fun c_7 => ?_)
      · have hv := hv.1 c_7
        refine lv_iload_n hx hb dX9_signalsNow_118 rfl (lv_at hl 0 rfl) ?_
        refine lv_iconst (v := 4) hx hb dX9_signalsNow_119 (by decide) ?_
        refine lv_iadd hx hb dX9_signalsNow_120 ?_
        refine lv_goto (tgt := 125) hx hb dX9_signalsNow_121 (by decide) ?_
        exact W.iret (v := (0 + 4)) hx hb hr (fun t ht hW => ⟨_, rfl, hv, ht⟩) (fun q h => absurd h List.not_mem_nil) dX9_signalsNow_125
      · have hv := hv.2 c_7
        refine lv_aload_n hx hb dX9_signalsNow_102 rfl (lv_at hl 3 rfl) ?_
        refine va_get (D := D) (ci := 9) (v := .ref (a 1)) (C := RX9) (T := TX9) (N := 2) hx hb hts in_X9 hown hK hP 0 rfl rfl 0 (by decide) kf_7 (fun _ h9 => h9) rfl dX9_signalsNow_103 ?_
        refine lv_bipush (v := 21) hx hb dX9_signalsNow_106 (by decide) ?_
        refine x_ald hx hb hK hP 1 0 rfl rfl 21 rfl (by decide) (by decide) dX9_signalsNow_108 ?_
        refine lv_aload_n hx hb dX9_signalsNow_109 rfl (lv_at hl 3 rfl) ?_
        refine va_get (D := D) (ci := 9) (v := .ref (a 1)) (C := RX9) (T := TX9) (N := 2) hx hb hts in_X9 hown hK hP 0 rfl rfl 0 (by decide) kf_7 (fun _ h9 => h9) rfl dX9_signalsNow_110 ?_
        refine lv_iconst (v := 4) hx hb dX9_signalsNow_113 (by decide) ?_
        refine x_ald hx hb hK hP 1 0 rfl rfl 4 rfl (by decide) (by decide) dX9_signalsNow_114 ?_
        refine lv_icmp_lt (tgt := 124) hx hb dX9_signalsNow_115 (by decide) (fun c_8 => ?_) (fun c_8 => ?_)
        · have hv := hv.1 c_8
          refine lv_iload_n hx hb dX9_signalsNow_124 rfl (lv_at hl 0 rfl) ?_
          exact W.iret (v := 0) hx hb hr (fun t ht hW => ⟨_, rfl, hv, ht⟩) (fun q h => absurd h List.not_mem_nil) dX9_signalsNow_125
        · have hv := hv.2 c_8
          refine lv_iload_n hx hb dX9_signalsNow_118 rfl (lv_at hl 0 rfl) ?_
          refine lv_iconst (v := 4) hx hb dX9_signalsNow_119 (by decide) ?_
          refine lv_iadd hx hb dX9_signalsNow_120 ?_
          refine lv_goto (tgt := 125) hx hb dX9_signalsNow_121 (by decide) ?_
          exact W.iret (v := (0 + 4)) hx hb hr (fun t ht hW => ⟨_, rfl, hv, ht⟩) (fun q h => absurd h List.not_mem_nil) dX9_signalsNow_125
    · have hv := hv.2 c_6
      obtain ⟨x_9, ex_9⟩ : ∃ z : Int32, z = 0 + 2 := ⟨_, rfl⟩
      have hv := hv x_9 ex_9
      refine lv_iinc (v := x_9) (lv' := [(3, .int x_9), (2, .int x_2), (1, .int x_1), (0, .ref (a 0))]) hx hb dX9_signalsNow_83 hl (k := 0) rfl (by rw [ex_9]; rfl) (by decide) rfl (fun ls hl => ?_)
      refine lv_aload_n hx hb dX9_signalsNow_86 rfl (lv_at hl 3 rfl) ?_
      refine va_get (D := D) (ci := 9) (v := .ref (a 1)) (C := RX9) (T := TX9) (N := 2) hx hb hts in_X9 hown hK hP 0 rfl rfl 0 (by decide) kf_7 (fun _ h9 => h9) rfl dX9_signalsNow_87 ?_
      refine lv_bipush (v := 20) hx hb dX9_signalsNow_90 (by decide) ?_
      refine x_ald hx hb hK hP 1 0 rfl rfl 20 rfl (by decide) (by decide) dX9_signalsNow_92 ?_
      refine lv_aload_n hx hb dX9_signalsNow_93 rfl (lv_at hl 3 rfl) ?_
      refine va_get (D := D) (ci := 9) (v := .ref (a 1)) (C := RX9) (T := TX9) (N := 2) hx hb hts in_X9 hown hK hP 0 rfl rfl 0 (by decide) kf_7 (fun _ h9 => h9) rfl dX9_signalsNow_94 ?_
      refine lv_iconst (v := 0) hx hb dX9_signalsNow_97 (by decide) ?_
      refine x_ald hx hb hK hP 1 0 rfl rfl 0 rfl (by decide) (by decide) dX9_signalsNow_98 ?_
      refine lv_icmp_ge (tgt := 118) hx hb dX9_signalsNow_99 (by decide) (fun c_10 => ?_) (fun c_10 => ?_)
      · have hv := hv.1 c_10
        refine lv_iload_n hx hb dX9_signalsNow_118 rfl (lv_at hl 0 rfl) ?_
        refine lv_iconst (v := 4) hx hb dX9_signalsNow_119 (by decide) ?_
        refine lv_iadd hx hb dX9_signalsNow_120 ?_
        refine lv_goto (tgt := 125) hx hb dX9_signalsNow_121 (by decide) ?_
        exact W.iret (v := (x_9 + 4)) hx hb hr (fun t ht hW => ⟨_, rfl, hv, ht⟩) (fun q h => absurd h List.not_mem_nil) dX9_signalsNow_125
      · have hv := hv.2 c_10
        refine lv_aload_n hx hb dX9_signalsNow_102 rfl (lv_at hl 3 rfl) ?_
        refine va_get (D := D) (ci := 9) (v := .ref (a 1)) (C := RX9) (T := TX9) (N := 2) hx hb hts in_X9 hown hK hP 0 rfl rfl 0 (by decide) kf_7 (fun _ h9 => h9) rfl dX9_signalsNow_103 ?_
        refine lv_bipush (v := 21) hx hb dX9_signalsNow_106 (by decide) ?_
        refine x_ald hx hb hK hP 1 0 rfl rfl 21 rfl (by decide) (by decide) dX9_signalsNow_108 ?_
        refine lv_aload_n hx hb dX9_signalsNow_109 rfl (lv_at hl 3 rfl) ?_
        refine va_get (D := D) (ci := 9) (v := .ref (a 1)) (C := RX9) (T := TX9) (N := 2) hx hb hts in_X9 hown hK hP 0 rfl rfl 0 (by decide) kf_7 (fun _ h9 => h9) rfl dX9_signalsNow_110 ?_
        refine lv_iconst (v := 4) hx hb dX9_signalsNow_113 (by decide) ?_
        refine x_ald hx hb hK hP 1 0 rfl rfl 4 rfl (by decide) (by decide) dX9_signalsNow_114 ?_
        refine lv_icmp_lt (tgt := 124) hx hb dX9_signalsNow_115 (by decide) (fun c_11 => ?_) (fun c_11 => ?_)
        · have hv := hv.1 c_11
          refine lv_iload_n hx hb dX9_signalsNow_124 rfl (lv_at hl 0 rfl) ?_
          exact W.iret (v := x_9) hx hb hr (fun t ht hW => ⟨_, rfl, hv, ht⟩) (fun q h => absurd h List.not_mem_nil) dX9_signalsNow_125
        · have hv := hv.2 c_11
          refine lv_iload_n hx hb dX9_signalsNow_118 rfl (lv_at hl 0 rfl) ?_
          refine lv_iconst (v := 4) hx hb dX9_signalsNow_119 (by decide) ?_
          refine lv_iadd hx hb dX9_signalsNow_120 ?_
          refine lv_goto (tgt := 125) hx hb dX9_signalsNow_121 (by decide) ?_
          exact W.iret (v := (x_9 + 4)) hx hb hr (fun t ht hW => ⟨_, rfl, hv, ht⟩) (fun q h => absurd h List.not_mem_nil) dX9_signalsNow_125
  · have hv := hv.2 c_4
    refine lv_iconst (v := 1) hx hb dX9_signalsNow_60 (by decide) ?_
    refine lv_goto (tgt := 65) hx hb dX9_signalsNow_61 (by decide) ?_
    refine lv_istore_n (lv' := [(3, .int 1), (2, .int x_2), (1, .int x_1), (0, .ref (a 0))]) hx hb dX9_signalsNow_65 rfl hl (by decide) rfl (fun ls hl => ?_)
    refine lv_iload_n hx hb dX9_signalsNow_66 rfl (lv_at hl 1 rfl) ?_
    refine lv_iconst (v := 0) hx hb dX9_signalsNow_67 (by decide) ?_
    refine lv_aload_n hx hb dX9_signalsNow_68 rfl (lv_at hl 3 rfl) ?_
    refine va_get (D := D) (ci := 9) (v := .ref (a 1)) (C := RX9) (T := TX9) (N := 2) hx hb hts in_X9 hown hK hP 0 rfl rfl 0 (by decide) kf_7 (fun _ h9 => h9) rfl dX9_signalsNow_69 ?_
    refine lv_bipush (v := 6) hx hb dX9_signalsNow_72 (by decide) ?_
    refine x_ald hx hb hK hP 1 0 rfl rfl 6 rfl (by decide) (by decide) dX9_signalsNow_74 ?_
    refine lv_iconst (v := 1) hx hb dX9_signalsNow_75 (by decide) ?_
    refine lv_isub hx hb dX9_signalsNow_76 ?_
    refine x_rS (As := [.int x_2, .int 0, .int ((M 1 6) - 1)]) (rest := []) ⟨hx, hb, hml, hown, hts⟩ (c_X9_isIn l D cT x_2 0 ((M 1 6) - 1) _ hv) w_17 hK hS hN rfl hl.1 rfl (Nat.le_of_ble_eq_true rfl) dX9_signalsNow_77 ⟨Nat.le_of_ble_eq_true rfl, Nat.le_of_ble_eq_true rfl⟩ (fun r_12 hv => ?_)
    refine lv_if_eq (tgt := 86) hx hb dX9_signalsNow_80 (by decide) (fun c_13 => ?_) (fun c_13 => ?_)
    · have hv := hv.1 c_13
      refine lv_aload_n hx hb dX9_signalsNow_86 rfl (lv_at hl 3 rfl) ?_
      refine va_get (D := D) (ci := 9) (v := .ref (a 1)) (C := RX9) (T := TX9) (N := 2) hx hb hts in_X9 hown hK hP 0 rfl rfl 0 (by decide) kf_7 (fun _ h9 => h9) rfl dX9_signalsNow_87 ?_
      refine lv_bipush (v := 20) hx hb dX9_signalsNow_90 (by decide) ?_
      refine x_ald hx hb hK hP 1 0 rfl rfl 20 rfl (by decide) (by decide) dX9_signalsNow_92 ?_
      refine lv_aload_n hx hb dX9_signalsNow_93 rfl (lv_at hl 3 rfl) ?_
      refine va_get (D := D) (ci := 9) (v := .ref (a 1)) (C := RX9) (T := TX9) (N := 2) hx hb hts in_X9 hown hK hP 0 rfl rfl 0 (by decide) kf_7 (fun _ h9 => h9) rfl dX9_signalsNow_94 ?_
      refine lv_iconst (v := 0) hx hb dX9_signalsNow_97 (by decide) ?_
      refine x_ald hx hb hK hP 1 0 rfl rfl 0 rfl (by decide) (by decide) dX9_signalsNow_98 ?_
      refine lv_icmp_ge (tgt := 118) hx hb dX9_signalsNow_99 (by decide) (fun c_14 => ?_) (fun c_14 => ?_)
      · have hv := hv.1 c_14
        refine lv_iload_n hx hb dX9_signalsNow_118 rfl (lv_at hl 0 rfl) ?_
        refine lv_iconst (v := 4) hx hb dX9_signalsNow_119 (by decide) ?_
        refine lv_iadd hx hb dX9_signalsNow_120 ?_
        refine lv_goto (tgt := 125) hx hb dX9_signalsNow_121 (by decide) ?_
        exact W.iret (v := (1 + 4)) hx hb hr (fun t ht hW => ⟨_, rfl, hv, ht⟩) (fun q h => absurd h List.not_mem_nil) dX9_signalsNow_125
      · have hv := hv.2 c_14
        refine lv_aload_n hx hb dX9_signalsNow_102 rfl (lv_at hl 3 rfl) ?_
        refine va_get (D := D) (ci := 9) (v := .ref (a 1)) (C := RX9) (T := TX9) (N := 2) hx hb hts in_X9 hown hK hP 0 rfl rfl 0 (by decide) kf_7 (fun _ h9 => h9) rfl dX9_signalsNow_103 ?_
        refine lv_bipush (v := 21) hx hb dX9_signalsNow_106 (by decide) ?_
        refine x_ald hx hb hK hP 1 0 rfl rfl 21 rfl (by decide) (by decide) dX9_signalsNow_108 ?_
        refine lv_aload_n hx hb dX9_signalsNow_109 rfl (lv_at hl 3 rfl) ?_
        refine va_get (D := D) (ci := 9) (v := .ref (a 1)) (C := RX9) (T := TX9) (N := 2) hx hb hts in_X9 hown hK hP 0 rfl rfl 0 (by decide) kf_7 (fun _ h9 => h9) rfl dX9_signalsNow_110 ?_
        refine lv_iconst (v := 4) hx hb dX9_signalsNow_113 (by decide) ?_
        refine x_ald hx hb hK hP 1 0 rfl rfl 4 rfl (by decide) (by decide) dX9_signalsNow_114 ?_
        refine lv_icmp_lt (tgt := 124) hx hb dX9_signalsNow_115 (by decide) (fun c_15 => ?_) (fun c_15 => ?_)
        · have hv := hv.1 c_15
          refine lv_iload_n hx hb dX9_signalsNow_124 rfl (lv_at hl 0 rfl) ?_
          exact W.iret (v := 1) hx hb hr (fun t ht hW => ⟨_, rfl, hv, ht⟩) (fun q h => absurd h List.not_mem_nil) dX9_signalsNow_125
        · have hv := hv.2 c_15
          refine lv_iload_n hx hb dX9_signalsNow_118 rfl (lv_at hl 0 rfl) ?_
          refine lv_iconst (v := 4) hx hb dX9_signalsNow_119 (by decide) ?_
          refine lv_iadd hx hb dX9_signalsNow_120 ?_
          refine lv_goto (tgt := 125) hx hb dX9_signalsNow_121 (by decide) ?_
          exact W.iret (v := (1 + 4)) hx hb hr (fun t ht hW => ⟨_, rfl, hv, ht⟩) (fun q h => absurd h List.not_mem_nil) dX9_signalsNow_125
    · have hv := hv.2 c_13
      obtain ⟨x_16, ex_16⟩ : ∃ z : Int32, z = 1 + 2 := ⟨_, rfl⟩
      have hv := hv x_16 ex_16
      refine lv_iinc (v := x_16) (lv' := [(3, .int x_16), (2, .int x_2), (1, .int x_1), (0, .ref (a 0))]) hx hb dX9_signalsNow_83 hl (k := 0) rfl (by rw [ex_16]; rfl) (by decide) rfl (fun ls hl => ?_)
      refine lv_aload_n hx hb dX9_signalsNow_86 rfl (lv_at hl 3 rfl) ?_
      refine va_get (D := D) (ci := 9) (v := .ref (a 1)) (C := RX9) (T := TX9) (N := 2) hx hb hts in_X9 hown hK hP 0 rfl rfl 0 (by decide) kf_7 (fun _ h9 => h9) rfl dX9_signalsNow_87 ?_
      refine lv_bipush (v := 20) hx hb dX9_signalsNow_90 (by decide) ?_
      refine x_ald hx hb hK hP 1 0 rfl rfl 20 rfl (by decide) (by decide) dX9_signalsNow_92 ?_
      refine lv_aload_n hx hb dX9_signalsNow_93 rfl (lv_at hl 3 rfl) ?_
      refine va_get (D := D) (ci := 9) (v := .ref (a 1)) (C := RX9) (T := TX9) (N := 2) hx hb hts in_X9 hown hK hP 0 rfl rfl 0 (by decide) kf_7 (fun _ h9 => h9) rfl dX9_signalsNow_94 ?_
      refine lv_iconst (v := 0) hx hb dX9_signalsNow_97 (by decide) ?_
      refine x_ald hx hb hK hP 1 0 rfl rfl 0 rfl (by decide) (by decide) dX9_signalsNow_98 ?_
      refine lv_icmp_ge (tgt := 118) hx hb dX9_signalsNow_99 (by decide) (fun c_17 => ?_) (fun c_17 => ?_)
      · have hv := hv.1 c_17
        refine lv_iload_n hx hb dX9_signalsNow_118 rfl (lv_at hl 0 rfl) ?_
        refine lv_iconst (v := 4) hx hb dX9_signalsNow_119 (by decide) ?_
        refine lv_iadd hx hb dX9_signalsNow_120 ?_
        refine lv_goto (tgt := 125) hx hb dX9_signalsNow_121 (by decide) ?_
        exact W.iret (v := (x_16 + 4)) hx hb hr (fun t ht hW => ⟨_, rfl, hv, ht⟩) (fun q h => absurd h List.not_mem_nil) dX9_signalsNow_125
      · have hv := hv.2 c_17
        refine lv_aload_n hx hb dX9_signalsNow_102 rfl (lv_at hl 3 rfl) ?_
        refine va_get (D := D) (ci := 9) (v := .ref (a 1)) (C := RX9) (T := TX9) (N := 2) hx hb hts in_X9 hown hK hP 0 rfl rfl 0 (by decide) kf_7 (fun _ h9 => h9) rfl dX9_signalsNow_103 ?_
        refine lv_bipush (v := 21) hx hb dX9_signalsNow_106 (by decide) ?_
        refine x_ald hx hb hK hP 1 0 rfl rfl 21 rfl (by decide) (by decide) dX9_signalsNow_108 ?_
        refine lv_aload_n hx hb dX9_signalsNow_109 rfl (lv_at hl 3 rfl) ?_
        refine va_get (D := D) (ci := 9) (v := .ref (a 1)) (C := RX9) (T := TX9) (N := 2) hx hb hts in_X9 hown hK hP 0 rfl rfl 0 (by decide) kf_7 (fun _ h9 => h9) rfl dX9_signalsNow_110 ?_
        refine lv_iconst (v := 4) hx hb dX9_signalsNow_113 (by decide) ?_
        refine x_ald hx hb hK hP 1 0 rfl rfl 4 rfl (by decide) (by decide) dX9_signalsNow_114 ?_
        refine lv_icmp_lt (tgt := 124) hx hb dX9_signalsNow_115 (by decide) (fun c_18 => ?_) (fun c_18 => ?_)
        · have hv := hv.1 c_18
          refine lv_iload_n hx hb dX9_signalsNow_124 rfl (lv_at hl 0 rfl) ?_
          exact W.iret (v := x_16) hx hb hr (fun t ht hW => ⟨_, rfl, hv, ht⟩) (fun q h => absurd h List.not_mem_nil) dX9_signalsNow_125
        · have hv := hv.2 c_18
          refine lv_iload_n hx hb dX9_signalsNow_118 rfl (lv_at hl 0 rfl) ?_
          refine lv_iconst (v := 4) hx hb dX9_signalsNow_119 (by decide) ?_
          refine lv_iadd hx hb dX9_signalsNow_120 ?_
          refine lv_goto (tgt := 125) hx hb dX9_signalsNow_121 (by decide) ?_
          exact W.iret (v := (x_16 + 4)) hx hb hr (fun t ht hW => ⟨_, rfl, hv, ht⟩) (fun q h => absurd h List.not_mem_nil) dX9_signalsNow_125
def lp_X9_begins_53  (post : ST → Prop) (K_ : Int32 → ST → Prop) : Nat → Int32 → ST → Prop
  | 0, _, _ => False
  | n_37 + 1, y_35, M_36 => (((10 ≤ y_35) → K_ y_35 M_36) ∧ ((¬ (10 ≤ y_35)) → ∃ k_39 : Nat, k_39 < 23520 ∧ (10 + y_35) = nI k_39 ∧ ∃ k_40 : Nat, k_40 < 23520 ∧ (5870 + y_35) = nI k_40 ∧ ∀ M_41 : ST, M_41 = x_st M_36 1 k_40 (M_36 1 k_39) → ∀ x_42 : Int32, x_42 = y_35 + 1 → lp_X9_begins_53  post K_ n_37 x_42 M_41))
def v_X9_begins (M : ST) (post : ST → Prop) : Prop := ∀ M_1 : ST, M_1 = x_st M 1 33 0 → ∀ M_2 : ST, M_2 = x_st M_1 1 35 0 → ∀ M_3 : ST, M_3 = x_st M_2 1 34 0 → v_X9_linesOf M_3 0 (fun r_4 => (((¬ ((M_3 1 21) = (r_4 - 1))) → ∀ x_9 : Int32, x_9 = ((M_3 1 21) + 1) → v_X9_rowOf x_9 (M_3 1 22) (M_3 1 8) (fun r_11 => ∀ M_12 : ST, M_12 = x_st M_3 1 30 r_11 → ((((M_12 1 4) ≤ x_9) → ∀ M_14 : ST, M_14 = x_st M_12 1 31 0 → ∀ M_15 : ST, M_15 = x_st M_14 1 32 0 → post M_15) ∧ ((¬ ((M_12 1 4) ≤ x_9)) → v_X9_bytesOf (M_12 1 0) (fun r_16 => ∀ M_17 : ST, M_17 = x_st M_12 1 31 r_16 → ∀ M_18 : ST, M_18 = x_st M_17 1 32 0 → post M_18))))) ∧ (((M_3 1 21) = (r_4 - 1)) → (∃ n_43 : Nat, lp_X9_begins_53  post (fun (y_21 : Int32) (M_22 : ST) => v_X9_nextField M_22 (fun r_26 => v_X9_rowOf 0 r_26 (M_22 1 5878) (fun r_27 => ∀ M_28 : ST, M_28 = x_st M_22 1 30 r_27 → ((((M_28 1 5874) ≤ 0) → ∀ M_30 : ST, M_30 = x_st M_28 1 31 0 → ∀ M_31 : ST, M_31 = x_st M_30 1 32 0 → post M_31) ∧ ((¬ ((M_28 1 5874) ≤ 0)) → v_X9_bytesOf (M_28 1 5870) (fun r_32 => ∀ M_33 : ST, M_33 = x_st M_28 1 31 r_32 → ∀ M_34 : ST, M_34 = x_st M_33 1 32 0 → post M_34)))))) n_43 0 M_3))))
set_option maxHeartbeats 4000000 in
set_option maxRecDepth 100000 in
theorem c_X9_begins (l : Launch) (D : va_G) (cT : Nat → ClassId) (a : Nat → Nat) (M : ST) (sz : Nat) (post : ST → Prop) (hv : v_X9_begins M post) : Met l yX9_begins wsX9_begins ({ frames := 1, cells := 0, slots := 0, locals := 22 }) (va_Pc [.ref (a 0)] (x_U D cT ((w_Model cT a M)) sz)) (va_Qv post (fun u t => x_B D cT ((w_Model cT a u)) (va_A ((w_Model cT a M)) sz) t) (va_A ((w_Model cT a M)) sz)) 0 0 (va_A ((w_Model cT a M)) sz) := by
  refine Met.ofW (cc := cX9_begins) (maxL := 4) (ret := none) (by decide) rfl ?_
  intro p e s m args below meth c s₁ B hml hpre
  obtain ⟨rfl, hsz, hP, hK, hD0, hN⟩ := hpre
  have hx := B.exec
  have hb := B.bytes
  have hr := B.returns
  have hts := atoms_spec (ws := wsX9_begins) B.pre
  have hown : s.vm.findClass RX9 = some m.cls := findClass_of_methodNamed B.named
  have hlocks := B.notSynchronized
  subst hsz
  have hD := hD0.self (sz := s.heap.size)
  generalize hAe : va_A ((w_Model cT a M)) s.heap.size = A at hD hN ⊢
  have hA : ∀ q : Nat, s.heap.size ≤ q → A q := fun q h => by rw [← hAe]; exact Or.inr h
  have hS : va_S A s.heap s.heap [] := va_S.rf
  have hl := lv_entry ([.ref (a 0)]) (n := 4) (Nat.le_of_ble_eq_true rfl)
  rw [lg_entry_eq]
  generalize (lg_sl ([.ref (a 0)]) ++ List.replicate (4 - (lg_sl ([.ref (a 0)])).length) Slot.unset).toArray = ls at hl ⊢
  have hl : lv_has ls 4 [(0, .ref (a 0))] := hl
  have in_X9 : ∀ w ∈ wsX90, w ∈ wsX9_begins := by decide +kernel
  have kf_7 : (Cond.fieldLink RX9 7 "PictureBeatsModel" "all" "[I").before ([.ref (a 0)] : List Value).toArray s = true := hts _ (by decide +kernel)
  have w_28 : CallW (headSpec wsX9_begins ({ frames := 1, cells := 0, slots := 0, locals := 22 })).room s ([.ref (a 0)] : List Value).toArray RX9 RX9 28 yX9_linesOf cX9_linesOf 2 (some .int) wsX9_linesOf ({ frames := 0, cells := 0, slots := 0, locals := 0 } : Room) 0 0 1 := cwV 1 hts gX9_begins_X9_linesOf rfl rfl rfl (by decide +kernel) ⟨Nat.le_of_ble_eq_true rfl, Nat.le_of_ble_eq_true rfl⟩
  have w_36 : CallB (headSpec wsX9_begins ({ frames := 1, cells := 0, slots := 0, locals := 22 })).room s ([.ref (a 0)] : List Value).toArray RX9 36 yX9_rowOf cX9_rowOf 3 (some .int) wsX9_rowOf ({ frames := 0, cells := 0, slots := 0, locals := 0 } : Room) 0 0 3 ∧ (Cond.static yX9_rowOf).before ([.ref (a 0)] : List Value).toArray s = true := va_cwS 3 hts gX9_begins_X9_rowOf rfl rfl rfl (by decide +kernel) ⟨Nat.le_of_ble_eq_true rfl, Nat.le_of_ble_eq_true rfl⟩
  have w_40 : CallB (headSpec wsX9_begins ({ frames := 1, cells := 0, slots := 0, locals := 22 })).room s ([.ref (a 0)] : List Value).toArray RX9 40 yX9_bytesOf cX9_bytesOf 1 (some .int) wsX9_bytesOf ({ frames := 0, cells := 0, slots := 0, locals := 0 } : Room) 0 0 1 ∧ (Cond.static yX9_bytesOf).before ([.ref (a 0)] : List Value).toArray s = true := va_cwS 1 hts gX9_begins_X9_bytesOf rfl rfl rfl (by decide +kernel) ⟨Nat.le_of_ble_eq_true rfl, Nat.le_of_ble_eq_true rfl⟩
  have w_32 : CallW (headSpec wsX9_begins ({ frames := 1, cells := 0, slots := 0, locals := 22 })).room s ([.ref (a 0)] : List Value).toArray RX9 RX9 32 yX9_nextField cX9_nextField 1 (some .int) wsX9_nextField ({ frames := 0, cells := 0, slots := 0, locals := 0 } : Room) 0 0 0 := cwV 0 hts gX9_begins_X9_nextField rfl rfl rfl (by decide +kernel) ⟨Nat.le_of_ble_eq_true rfl, Nat.le_of_ble_eq_true rfl⟩
  refine lv_aload_n hx hb dX9_begins_0 rfl (lv_at hl 0 rfl) ?_
  refine va_get (D := D) (ci := 9) (v := .ref (a 1)) (C := RX9) (T := TX9) (N := 2) hx hb hts in_X9 hown hK hP 0 rfl rfl 0 (by decide) kf_7 (fun _ h9 => h9) rfl dX9_begins_1 ?_
  refine lv_bipush (v := 33) hx hb dX9_begins_4 (by decide) ?_
  refine lv_iconst (v := 0) hx hb dX9_begins_6 (by decide) ?_
  refine x_ast hx hb hK hP hD hS 1 0 rfl rfl 33 rfl (by decide) (by decide) dX9_begins_7 (fun H locs hP hD hS => ?_)
  obtain ⟨M_1, eM_1⟩ : ∃ z : ST, z = x_st M 1 33 0 := ⟨_, rfl⟩
  have hP : va_P D vwCl ((w_Model cT a M_1)) H := by rw [eM_1]; exact hP
  have hD : va_D A ((w_Model cT a M_1)) := by rw [eM_1]; exact hD
  have hv := hv M_1 eM_1
  refine lv_aload_n hx hb dX9_begins_8 rfl (lv_at hl 0 rfl) ?_
  refine va_get (D := D) (ci := 9) (v := .ref (a 1)) (C := RX9) (T := TX9) (N := 2) hx hb hts in_X9 hown hK hP 0 rfl rfl 0 (by decide) kf_7 (fun _ h9 => h9) rfl dX9_begins_9 ?_
  refine lv_bipush (v := 35) hx hb dX9_begins_12 (by decide) ?_
  refine lv_iconst (v := 0) hx hb dX9_begins_14 (by decide) ?_
  refine x_ast hx hb hK hP hD hS 1 0 rfl rfl 35 rfl (by decide) (by decide) dX9_begins_15 (fun H locs hP hD hS => ?_)
  obtain ⟨M_2, eM_2⟩ : ∃ z : ST, z = x_st M_1 1 35 0 := ⟨_, rfl⟩
  have hP : va_P D vwCl ((w_Model cT a M_2)) H := by rw [eM_2]; exact hP
  have hD : va_D A ((w_Model cT a M_2)) := by rw [eM_2]; exact hD
  have hv := hv M_2 eM_2
  refine lv_aload_n hx hb dX9_begins_16 rfl (lv_at hl 0 rfl) ?_
  refine va_get (D := D) (ci := 9) (v := .ref (a 1)) (C := RX9) (T := TX9) (N := 2) hx hb hts in_X9 hown hK hP 0 rfl rfl 0 (by decide) kf_7 (fun _ h9 => h9) rfl dX9_begins_17 ?_
  refine lv_bipush (v := 34) hx hb dX9_begins_20 (by decide) ?_
  refine lv_iconst (v := 0) hx hb dX9_begins_22 (by decide) ?_
  refine x_ast hx hb hK hP hD hS 1 0 rfl rfl 34 rfl (by decide) (by decide) dX9_begins_23 (fun H locs hP hD hS => ?_)
  obtain ⟨M_3, eM_3⟩ : ∃ z : ST, z = x_st M_2 1 34 0 := ⟨_, rfl⟩
  have hP : va_P D vwCl ((w_Model cT a M_3)) H := by rw [eM_3]; exact hP
  have hD : va_D A ((w_Model cT a M_3)) := by rw [eM_3]; exact hD
  have hv := hv M_3 eM_3
  refine lv_aload_n hx hb dX9_begins_24 rfl (lv_at hl 0 rfl) ?_
  refine va_get (D := D) (ci := 9) (v := .ref (a 1)) (C := RX9) (T := TX9) (N := 2) hx hb hts in_X9 hown hK hP 0 rfl rfl 0 (by decide) kf_7 (fun _ h9 => h9) rfl dX9_begins_25 ?_
  refine lv_bipush (v := 21) hx hb dX9_begins_28 (by decide) ?_
  refine x_ald hx hb hK hP 1 0 rfl rfl 21 rfl (by decide) (by decide) dX9_begins_30 ?_
  refine lv_aload_n hx hb dX9_begins_31 rfl (lv_at hl 0 rfl) ?_
  refine lv_iconst (v := 0) hx hb dX9_begins_32 (by decide) ?_
  refine x_rV (As := [.int 0]) (rest := [.int (M_3 1 21)]) ⟨hx, hb, hml, hown, hts⟩ (c_X9_linesOf l D cT a M_3 0 _ hv) w_28 hK hP hS hN [0, 1, 2] rfl 9 0 rfl rfl rfl hl.1 rfl (Nat.le_of_ble_eq_true rfl) dX9_begins_33 ⟨Nat.le_of_ble_eq_true rfl, Nat.le_of_ble_eq_true rfl⟩ (fun r_4 hv => ?_)
  refine lv_iconst (v := 1) hx hb dX9_begins_36 (by decide) ?_
  refine lv_isub hx hb dX9_begins_37 ?_
  refine lv_icmp_ne (tgt := 45) hx hb dX9_begins_38 (by decide) (fun c_5 => ?_) (fun c_5 => ?_)
  · have hv := hv.1 c_5
    refine lv_iconst (v := 0) hx hb dX9_begins_45 (by decide) ?_
    refine lv_istore_n (lv' := [(1, .int 0), (0, .ref (a 0))]) hx hb dX9_begins_46 rfl hl (by decide) rfl (fun ls hl => ?_)
    refine lv_iload_n hx hb dX9_begins_47 rfl (lv_at hl 0 rfl) ?_
    refine lv_if_eq (tgt := 84) hx hb dX9_begins_48 (by decide) (fun c_6 => ?_) (fun c_6 => ?_)
    · refine lv_iload_n hx hb dX9_begins_84 rfl (lv_at hl 0 rfl) ?_
      refine lv_if_eq (tgt := 94) hx hb dX9_begins_85 (by decide) (fun c_7 => ?_) (fun c_7 => ?_)
      · refine lv_iconst (v := 0) hx hb dX9_begins_94 (by decide) ?_
        refine lv_istore_n (lv' := [(2, .int 0), (1, .int 0), (0, .ref (a 0))]) hx hb dX9_begins_95 rfl hl (by decide) rfl (fun ls hl => ?_)
        refine lv_iload_n hx hb dX9_begins_96 rfl (lv_at hl 1 rfl) ?_
        refine lv_if_eq (tgt := 104) hx hb dX9_begins_97 (by decide) (fun c_8 => ?_) (fun c_8 => ?_)
        · refine lv_aload_n hx hb dX9_begins_104 rfl (lv_at hl 2 rfl) ?_
          refine va_get (D := D) (ci := 9) (v := .ref (a 1)) (C := RX9) (T := TX9) (N := 2) hx hb hts in_X9 hown hK hP 0 rfl rfl 0 (by decide) kf_7 (fun _ h9 => h9) rfl dX9_begins_105 ?_
          refine lv_bipush (v := 21) hx hb dX9_begins_108 (by decide) ?_
          refine x_ald hx hb hK hP 1 0 rfl rfl 21 rfl (by decide) (by decide) dX9_begins_110 ?_
          refine lv_iconst (v := 1) hx hb dX9_begins_111 (by decide) ?_
          refine lv_iadd hx hb dX9_begins_112 ?_
          refine lv_topi (fun x_9 ex_9 => ?_)
          have hv := hv x_9 ex_9
          refine lv_istore_n (lv' := [(3, .int x_9), (2, .int 0), (1, .int 0), (0, .ref (a 0))]) hx hb dX9_begins_113 rfl hl (by decide) rfl (fun ls hl => ?_)
          refine lv_aload_n hx hb dX9_begins_114 rfl (lv_at hl 3 rfl) ?_
          refine va_get (D := D) (ci := 9) (v := .ref (a 1)) (C := RX9) (T := TX9) (N := 2) hx hb hts in_X9 hown hK hP 0 rfl rfl 0 (by decide) kf_7 (fun _ h9 => h9) rfl dX9_begins_115 ?_
          refine lv_bipush (v := 30) hx hb dX9_begins_118 (by decide) ?_
          refine lv_iload_n hx hb dX9_begins_120 rfl (lv_at hl 0 rfl) ?_
          refine lv_iload_n hx hb dX9_begins_121 rfl (lv_at hl 2 rfl) ?_
          refine lv_if_eq (tgt := 132) hx hb dX9_begins_122 (by decide) (fun c_10 => ?_) (fun c_10 => ?_)
          · refine lv_aload_n hx hb dX9_begins_132 rfl (lv_at hl 3 rfl) ?_
            refine va_get (D := D) (ci := 9) (v := .ref (a 1)) (C := RX9) (T := TX9) (N := 2) hx hb hts in_X9 hown hK hP 0 rfl rfl 0 (by decide) kf_7 (fun _ h9 => h9) rfl dX9_begins_133 ?_
            refine lv_bipush (v := 22) hx hb dX9_begins_136 (by decide) ?_
            refine x_ald hx hb hK hP 1 0 rfl rfl 22 rfl (by decide) (by decide) dX9_begins_138 ?_
            refine lv_aload_n hx hb dX9_begins_139 rfl (lv_at hl 3 rfl) ?_
            refine va_get (D := D) (ci := 9) (v := .ref (a 1)) (C := RX9) (T := TX9) (N := 2) hx hb hts in_X9 hown hK hP 0 rfl rfl 0 (by decide) kf_7 (fun _ h9 => h9) rfl dX9_begins_140 ?_
            refine lv_iload_n hx hb dX9_begins_143 rfl (lv_at hl 1 rfl) ?_
            refine lv_bipush (v := 8) hx hb dX9_begins_144 (by decide) ?_
            refine lv_iadd hx hb dX9_begins_146 ?_
            refine x_ald hx hb hK hP 1 0 rfl rfl 8 (by decide) (by decide) (by decide) dX9_begins_147 ?_
            refine x_rS (As := [.int x_9, .int (M_3 1 22), .int (M_3 1 8)]) (rest := [.int 30, .ref (a 1)]) ⟨hx, hb, hml, hown, hts⟩ (c_X9_rowOf l D cT x_9 (M_3 1 22) (M_3 1 8) _ hv) w_36 hK hS hN rfl hl.1 rfl (Nat.le_of_ble_eq_true rfl) dX9_begins_148 ⟨Nat.le_of_ble_eq_true rfl, Nat.le_of_ble_eq_true rfl⟩ (fun r_11 hv => ?_)
            refine x_ast hx hb hK hP hD hS 1 0 rfl rfl 30 rfl (by decide) (by decide) dX9_begins_151 (fun H locs hP hD hS => ?_)
            obtain ⟨M_12, eM_12⟩ : ∃ z : ST, z = x_st M_3 1 30 r_11 := ⟨_, rfl⟩
            have hP : va_P D vwCl ((w_Model cT a M_12)) H := by rw [eM_12]; exact hP
            have hD : va_D A ((w_Model cT a M_12)) := by rw [eM_12]; exact hD
            have hv := hv M_12 eM_12
            refine lv_aload_n hx hb dX9_begins_152 rfl (lv_at hl 3 rfl) ?_
            refine va_get (D := D) (ci := 9) (v := .ref (a 1)) (C := RX9) (T := TX9) (N := 2) hx hb hts in_X9 hown hK hP 0 rfl rfl 0 (by decide) kf_7 (fun _ h9 => h9) rfl dX9_begins_153 ?_
            refine lv_bipush (v := 31) hx hb dX9_begins_156 (by decide) ?_
            refine lv_iload_n hx hb dX9_begins_158 rfl (lv_at hl 0 rfl) ?_
            refine lv_aload_n hx hb dX9_begins_159 rfl (lv_at hl 3 rfl) ?_
            refine va_get (D := D) (ci := 9) (v := .ref (a 1)) (C := RX9) (T := TX9) (N := 2) hx hb hts in_X9 hown hK hP 0 rfl rfl 0 (by decide) kf_7 (fun _ h9 => h9) rfl dX9_begins_160 ?_
            refine lv_iload_n hx hb dX9_begins_163 rfl (lv_at hl 1 rfl) ?_
            refine lv_iconst (v := 4) hx hb dX9_begins_164 (by decide) ?_
            refine lv_iadd hx hb dX9_begins_165 ?_
            refine x_ald hx hb hK hP 1 0 rfl rfl 4 (by decide) (by decide) (by decide) dX9_begins_166 ?_
            refine lv_icmp_ge (tgt := 182) hx hb dX9_begins_167 (by decide) (fun c_13 => ?_) (fun c_13 => ?_)
            · have hv := hv.1 c_13
              refine lv_iconst (v := 0) hx hb dX9_begins_182 (by decide) ?_
              refine x_ast hx hb hK hP hD hS 1 0 rfl rfl 31 rfl (by decide) (by decide) dX9_begins_183 (fun H locs hP hD hS => ?_)
              obtain ⟨M_14, eM_14⟩ : ∃ z : ST, z = x_st M_12 1 31 0 := ⟨_, rfl⟩
              have hP : va_P D vwCl ((w_Model cT a M_14)) H := by rw [eM_14]; exact hP
              have hD : va_D A ((w_Model cT a M_14)) := by rw [eM_14]; exact hD
              have hv := hv M_14 eM_14
              refine lv_aload_n hx hb dX9_begins_184 rfl (lv_at hl 3 rfl) ?_
              refine va_get (D := D) (ci := 9) (v := .ref (a 1)) (C := RX9) (T := TX9) (N := 2) hx hb hts in_X9 hown hK hP 0 rfl rfl 0 (by decide) kf_7 (fun _ h9 => h9) rfl dX9_begins_185 ?_
              refine lv_bipush (v := 32) hx hb dX9_begins_188 (by decide) ?_
              refine lv_iconst (v := 0) hx hb dX9_begins_190 (by decide) ?_
              refine x_ast hx hb hK hP hD hS 1 0 rfl rfl 32 rfl (by decide) (by decide) dX9_begins_191 (fun H locs hP hD hS => ?_)
              obtain ⟨M_15, eM_15⟩ : ∃ z : ST, z = x_st M_14 1 32 0 := ⟨_, rfl⟩
              have hP : va_P D vwCl ((w_Model cT a M_15)) H := by rw [eM_15]; exact hP
              have hD : va_D A ((w_Model cT a M_15)) := by rw [eM_15]; exact hD
              have hv := hv M_15 eM_15
              exact W.vret hx hb hr (fun t ht hW => ⟨⟨M_15, rfl, hv, by rw [ht]; exact hP, va_K.moved hW.alike hK, hD⟩, hS.F ht⟩) hS.2.2 dX9_begins_192
            · have hv := hv.2 c_13
              refine lv_aload_n hx hb dX9_begins_170 rfl (lv_at hl 3 rfl) ?_
              refine va_get (D := D) (ci := 9) (v := .ref (a 1)) (C := RX9) (T := TX9) (N := 2) hx hb hts in_X9 hown hK hP 0 rfl rfl 0 (by decide) kf_7 (fun _ h9 => h9) rfl dX9_begins_171 ?_
              refine lv_iload_n hx hb dX9_begins_174 rfl (lv_at hl 1 rfl) ?_
              refine x_ald hx hb hK hP 1 0 rfl rfl 0 rfl (by decide) (by decide) dX9_begins_175 ?_
              refine x_rS (As := [.int (M_12 1 0)]) (rest := [.int 31, .ref (a 1)]) ⟨hx, hb, hml, hown, hts⟩ (c_X9_bytesOf l D cT (M_12 1 0) _ hv) w_40 hK hS hN rfl hl.1 rfl (Nat.le_of_ble_eq_true rfl) dX9_begins_176 ⟨Nat.le_of_ble_eq_true rfl, Nat.le_of_ble_eq_true rfl⟩ (fun r_16 hv => ?_)
              refine lv_goto (tgt := 183) hx hb dX9_begins_179 (by decide) ?_
              refine x_ast hx hb hK hP hD hS 1 0 rfl rfl 31 rfl (by decide) (by decide) dX9_begins_183 (fun H locs hP hD hS => ?_)
              obtain ⟨M_17, eM_17⟩ : ∃ z : ST, z = x_st M_12 1 31 r_16 := ⟨_, rfl⟩
              have hP : va_P D vwCl ((w_Model cT a M_17)) H := by rw [eM_17]; exact hP
              have hD : va_D A ((w_Model cT a M_17)) := by rw [eM_17]; exact hD
              have hv := hv M_17 eM_17
              refine lv_aload_n hx hb dX9_begins_184 rfl (lv_at hl 3 rfl) ?_
              refine va_get (D := D) (ci := 9) (v := .ref (a 1)) (C := RX9) (T := TX9) (N := 2) hx hb hts in_X9 hown hK hP 0 rfl rfl 0 (by decide) kf_7 (fun _ h9 => h9) rfl dX9_begins_185 ?_
              refine lv_bipush (v := 32) hx hb dX9_begins_188 (by decide) ?_
              refine lv_iconst (v := 0) hx hb dX9_begins_190 (by decide) ?_
              refine x_ast hx hb hK hP hD hS 1 0 rfl rfl 32 rfl (by decide) (by decide) dX9_begins_191 (fun H locs hP hD hS => ?_)
              obtain ⟨M_18, eM_18⟩ : ∃ z : ST, z = x_st M_17 1 32 0 := ⟨_, rfl⟩
              have hP : va_P D vwCl ((w_Model cT a M_18)) H := by rw [eM_18]; exact hP
              have hD : va_D A ((w_Model cT a M_18)) := by rw [eM_18]; exact hD
              have hv := hv M_18 eM_18
              exact W.vret hx hb hr (fun t ht hW => ⟨⟨M_18, rfl, hv, by rw [ht]; exact hP, va_K.moved hW.alike hK, hD⟩, hS.F ht⟩) hS.2.2 dX9_begins_192
          · exact absurd c_10 (by decide)
        · exact absurd c_8 (by decide)
      · exact absurd c_7 (by decide)
    · exact absurd c_6 (by decide)
  · have hv := hv.2 c_5
    refine lv_iconst (v := 1) hx hb dX9_begins_41 (by decide) ?_
    refine lv_goto (tgt := 46) hx hb dX9_begins_42 (by decide) ?_
    refine lv_istore_n (lv' := [(1, .int 1), (0, .ref (a 0))]) hx hb dX9_begins_46 rfl hl (by decide) rfl (fun ls hl => ?_)
    refine lv_iload_n hx hb dX9_begins_47 rfl (lv_at hl 0 rfl) ?_
    refine lv_if_eq (tgt := 84) hx hb dX9_begins_48 (by decide) (fun c_19 => ?_) (fun c_19 => ?_)
    · exact absurd c_19 (by decide)
    · refine lv_iconst (v := 0) hx hb dX9_begins_51 (by decide) ?_
      refine lv_istore_n (lv' := [(2, .int 0), (1, .int 1), (0, .ref (a 0))]) hx hb dX9_begins_52 rfl hl (by decide) rfl (fun ls hl => ?_)
      obtain ⟨n_43, hv⟩ := hv
      have K_L_20 : ∀ (y_21 : Int32) (M_22 : ST), (v_X9_nextField M_22 (fun r_26 => v_X9_rowOf 0 r_26 (M_22 1 5878) (fun r_27 => ∀ M_28 : ST, M_28 = x_st M_22 1 30 r_27 → ((((M_28 1 5874) ≤ 0) → ∀ M_30 : ST, M_30 = x_st M_28 1 31 0 → ∀ M_31 : ST, M_31 = x_st M_30 1 32 0 → post M_31) ∧ ((¬ ((M_28 1 5874) ≤ 0)) → v_X9_bytesOf (M_28 1 5870) (fun r_32 => ∀ M_33 : ST, M_33 = x_st M_28 1 31 r_32 → ∀ M_34 : ST, M_34 = x_st M_33 1 32 0 → post M_34)))))) → ∀ (H : Heap) (locs : List Loc), va_P D vwCl ((w_Model cT a M_22)) H → va_D A ((w_Model cT a M_22)) → va_S A s.heap H locs → ∀ ls : Array Slot, lv_has ls 4 [(2, .int y_21), (1, .int 1), (0, .ref (a 0))] → W p l e (headSpec wsX9_begins ({ frames := 1, cells := 0, slots := 0, locals := 22 })).room s m ([.ref (a 0)] : List Value).toArray below meth c H locs 0 0 (MQ below (va_Qv post (fun u t => x_B D cT ((w_Model cT a u)) A t) A) ([.ref (a 0)] : List Value).toArray s 0 0 A) (F0 m 84 ls []) := by
        intro y_21 M_22 hv H locs hP hD hS ls hl
        refine lv_iload_n hx hb dX9_begins_84 rfl (lv_at hl 1 rfl) ?_
        refine lv_if_eq (tgt := 94) hx hb dX9_begins_85 (by decide) (fun c_23 => ?_) (fun c_23 => ?_)
        · exact absurd c_23 (by decide)
        · refine lv_sipush (v := 5870) hx hb dX9_begins_88 (by decide) ?_
          refine lv_goto (tgt := 95) hx hb dX9_begins_91 (by decide) ?_
          refine lv_istore_n (lv' := [(2, .int 5870), (1, .int 1), (0, .ref (a 0))]) hx hb dX9_begins_95 rfl hl (by decide) rfl (fun ls hl => ?_)
          refine lv_iload_n hx hb dX9_begins_96 rfl (lv_at hl 1 rfl) ?_
          refine lv_if_eq (tgt := 104) hx hb dX9_begins_97 (by decide) (fun c_24 => ?_) (fun c_24 => ?_)
          · exact absurd c_24 (by decide)
          · refine lv_iconst (v := 0) hx hb dX9_begins_100 (by decide) ?_
            refine lv_goto (tgt := 113) hx hb dX9_begins_101 (by decide) ?_
            refine lv_istore_n (lv' := [(3, .int 0), (2, .int 5870), (1, .int 1), (0, .ref (a 0))]) hx hb dX9_begins_113 rfl hl (by decide) rfl (fun ls hl => ?_)
            refine lv_aload_n hx hb dX9_begins_114 rfl (lv_at hl 3 rfl) ?_
            refine va_get (D := D) (ci := 9) (v := .ref (a 1)) (C := RX9) (T := TX9) (N := 2) hx hb hts in_X9 hown hK hP 0 rfl rfl 0 (by decide) kf_7 (fun _ h9 => h9) rfl dX9_begins_115 ?_
            refine lv_bipush (v := 30) hx hb dX9_begins_118 (by decide) ?_
            refine lv_iload_n hx hb dX9_begins_120 rfl (lv_at hl 0 rfl) ?_
            refine lv_iload_n hx hb dX9_begins_121 rfl (lv_at hl 2 rfl) ?_
            refine lv_if_eq (tgt := 132) hx hb dX9_begins_122 (by decide) (fun c_25 => ?_) (fun c_25 => ?_)
            · exact absurd c_25 (by decide)
            · refine lv_aload_n hx hb dX9_begins_125 rfl (lv_at hl 3 rfl) ?_
              refine x_rV (As := []) (rest := [.int 0, .int 30, .ref (a 1)]) ⟨hx, hb, hml, hown, hts⟩ (c_X9_nextField l D cT a M_22 _ hv) w_32 hK hP hS hN [0, 1, 2] rfl 9 0 rfl rfl rfl hl.1 rfl (Nat.le_of_ble_eq_true rfl) dX9_begins_126 ⟨Nat.le_of_ble_eq_true rfl, Nat.le_of_ble_eq_true rfl⟩ (fun r_26 hv => ?_)
              refine lv_goto (tgt := 139) hx hb dX9_begins_129 (by decide) ?_
              refine lv_aload_n hx hb dX9_begins_139 rfl (lv_at hl 3 rfl) ?_
              refine va_get (D := D) (ci := 9) (v := .ref (a 1)) (C := RX9) (T := TX9) (N := 2) hx hb hts in_X9 hown hK hP 0 rfl rfl 0 (by decide) kf_7 (fun _ h9 => h9) rfl dX9_begins_140 ?_
              refine lv_iload_n hx hb dX9_begins_143 rfl (lv_at hl 1 rfl) ?_
              refine lv_bipush (v := 8) hx hb dX9_begins_144 (by decide) ?_
              refine lv_iadd hx hb dX9_begins_146 ?_
              refine x_ald hx hb hK hP 1 0 rfl rfl 5878 (by decide) (by decide) (by decide) dX9_begins_147 ?_
              refine x_rS (As := [.int 0, .int r_26, .int (M_22 1 5878)]) (rest := [.int 30, .ref (a 1)]) ⟨hx, hb, hml, hown, hts⟩ (c_X9_rowOf l D cT 0 r_26 (M_22 1 5878) _ hv) w_36 hK hS hN rfl hl.1 rfl (Nat.le_of_ble_eq_true rfl) dX9_begins_148 ⟨Nat.le_of_ble_eq_true rfl, Nat.le_of_ble_eq_true rfl⟩ (fun r_27 hv => ?_)
              refine x_ast hx hb hK hP hD hS 1 0 rfl rfl 30 rfl (by decide) (by decide) dX9_begins_151 (fun H locs hP hD hS => ?_)
              obtain ⟨M_28, eM_28⟩ : ∃ z : ST, z = x_st M_22 1 30 r_27 := ⟨_, rfl⟩
              have hP : va_P D vwCl ((w_Model cT a M_28)) H := by rw [eM_28]; exact hP
              have hD : va_D A ((w_Model cT a M_28)) := by rw [eM_28]; exact hD
              have hv := hv M_28 eM_28
              refine lv_aload_n hx hb dX9_begins_152 rfl (lv_at hl 3 rfl) ?_
              refine va_get (D := D) (ci := 9) (v := .ref (a 1)) (C := RX9) (T := TX9) (N := 2) hx hb hts in_X9 hown hK hP 0 rfl rfl 0 (by decide) kf_7 (fun _ h9 => h9) rfl dX9_begins_153 ?_
              refine lv_bipush (v := 31) hx hb dX9_begins_156 (by decide) ?_
              refine lv_iload_n hx hb dX9_begins_158 rfl (lv_at hl 0 rfl) ?_
              refine lv_aload_n hx hb dX9_begins_159 rfl (lv_at hl 3 rfl) ?_
              refine va_get (D := D) (ci := 9) (v := .ref (a 1)) (C := RX9) (T := TX9) (N := 2) hx hb hts in_X9 hown hK hP 0 rfl rfl 0 (by decide) kf_7 (fun _ h9 => h9) rfl dX9_begins_160 ?_
              refine lv_iload_n hx hb dX9_begins_163 rfl (lv_at hl 1 rfl) ?_
              refine lv_iconst (v := 4) hx hb dX9_begins_164 (by decide) ?_
              refine lv_iadd hx hb dX9_begins_165 ?_
              refine x_ald hx hb hK hP 1 0 rfl rfl 5874 (by decide) (by decide) (by decide) dX9_begins_166 ?_
              refine lv_icmp_ge (tgt := 182) hx hb dX9_begins_167 (by decide) (fun c_29 => ?_) (fun c_29 => ?_)
              · have hv := hv.1 c_29
                refine lv_iconst (v := 0) hx hb dX9_begins_182 (by decide) ?_
                refine x_ast hx hb hK hP hD hS 1 0 rfl rfl 31 rfl (by decide) (by decide) dX9_begins_183 (fun H locs hP hD hS => ?_)
                obtain ⟨M_30, eM_30⟩ : ∃ z : ST, z = x_st M_28 1 31 0 := ⟨_, rfl⟩
                have hP : va_P D vwCl ((w_Model cT a M_30)) H := by rw [eM_30]; exact hP
                have hD : va_D A ((w_Model cT a M_30)) := by rw [eM_30]; exact hD
                have hv := hv M_30 eM_30
                refine lv_aload_n hx hb dX9_begins_184 rfl (lv_at hl 3 rfl) ?_
                refine va_get (D := D) (ci := 9) (v := .ref (a 1)) (C := RX9) (T := TX9) (N := 2) hx hb hts in_X9 hown hK hP 0 rfl rfl 0 (by decide) kf_7 (fun _ h9 => h9) rfl dX9_begins_185 ?_
                refine lv_bipush (v := 32) hx hb dX9_begins_188 (by decide) ?_
                refine lv_iconst (v := 0) hx hb dX9_begins_190 (by decide) ?_
                refine x_ast hx hb hK hP hD hS 1 0 rfl rfl 32 rfl (by decide) (by decide) dX9_begins_191 (fun H locs hP hD hS => ?_)
                obtain ⟨M_31, eM_31⟩ : ∃ z : ST, z = x_st M_30 1 32 0 := ⟨_, rfl⟩
                have hP : va_P D vwCl ((w_Model cT a M_31)) H := by rw [eM_31]; exact hP
                have hD : va_D A ((w_Model cT a M_31)) := by rw [eM_31]; exact hD
                have hv := hv M_31 eM_31
                exact W.vret hx hb hr (fun t ht hW => ⟨⟨M_31, rfl, hv, by rw [ht]; exact hP, va_K.moved hW.alike hK, hD⟩, hS.F ht⟩) hS.2.2 dX9_begins_192
              · have hv := hv.2 c_29
                refine lv_aload_n hx hb dX9_begins_170 rfl (lv_at hl 3 rfl) ?_
                refine va_get (D := D) (ci := 9) (v := .ref (a 1)) (C := RX9) (T := TX9) (N := 2) hx hb hts in_X9 hown hK hP 0 rfl rfl 0 (by decide) kf_7 (fun _ h9 => h9) rfl dX9_begins_171 ?_
                refine lv_iload_n hx hb dX9_begins_174 rfl (lv_at hl 1 rfl) ?_
                refine x_ald hx hb hK hP 1 0 rfl rfl 5870 rfl (by decide) (by decide) dX9_begins_175 ?_
                refine x_rS (As := [.int (M_28 1 5870)]) (rest := [.int 31, .ref (a 1)]) ⟨hx, hb, hml, hown, hts⟩ (c_X9_bytesOf l D cT (M_28 1 5870) _ hv) w_40 hK hS hN rfl hl.1 rfl (Nat.le_of_ble_eq_true rfl) dX9_begins_176 ⟨Nat.le_of_ble_eq_true rfl, Nat.le_of_ble_eq_true rfl⟩ (fun r_32 hv => ?_)
                refine lv_goto (tgt := 183) hx hb dX9_begins_179 (by decide) ?_
                refine x_ast hx hb hK hP hD hS 1 0 rfl rfl 31 rfl (by decide) (by decide) dX9_begins_183 (fun H locs hP hD hS => ?_)
                obtain ⟨M_33, eM_33⟩ : ∃ z : ST, z = x_st M_28 1 31 r_32 := ⟨_, rfl⟩
                have hP : va_P D vwCl ((w_Model cT a M_33)) H := by rw [eM_33]; exact hP
                have hD : va_D A ((w_Model cT a M_33)) := by rw [eM_33]; exact hD
                have hv := hv M_33 eM_33
                refine lv_aload_n hx hb dX9_begins_184 rfl (lv_at hl 3 rfl) ?_
                refine va_get (D := D) (ci := 9) (v := .ref (a 1)) (C := RX9) (T := TX9) (N := 2) hx hb hts in_X9 hown hK hP 0 rfl rfl 0 (by decide) kf_7 (fun _ h9 => h9) rfl dX9_begins_185 ?_
                refine lv_bipush (v := 32) hx hb dX9_begins_188 (by decide) ?_
                refine lv_iconst (v := 0) hx hb dX9_begins_190 (by decide) ?_
                refine x_ast hx hb hK hP hD hS 1 0 rfl rfl 32 rfl (by decide) (by decide) dX9_begins_191 (fun H locs hP hD hS => ?_)
                obtain ⟨M_34, eM_34⟩ : ∃ z : ST, z = x_st M_33 1 32 0 := ⟨_, rfl⟩
                have hP : va_P D vwCl ((w_Model cT a M_34)) H := by rw [eM_34]; exact hP
                have hD : va_D A ((w_Model cT a M_34)) := by rw [eM_34]; exact hD
                have hv := hv M_34 eM_34
                exact W.vret hx hb hr (fun t ht hW => ⟨⟨M_34, rfl, hv, by rw [ht]; exact hP, va_K.moved hW.alike hK, hD⟩, hS.F ht⟩) hS.2.2 dX9_begins_192
      have L_20 : ∀ n_37 : Nat, ∀ (y_35 : Int32) (M_36 : ST), (lp_X9_begins_53  post (fun (y_21 : Int32) (M_22 : ST) => v_X9_nextField M_22 (fun r_26 => v_X9_rowOf 0 r_26 (M_22 1 5878) (fun r_27 => ∀ M_28 : ST, M_28 = x_st M_22 1 30 r_27 → ((((M_28 1 5874) ≤ 0) → ∀ M_30 : ST, M_30 = x_st M_28 1 31 0 → ∀ M_31 : ST, M_31 = x_st M_30 1 32 0 → post M_31) ∧ ((¬ ((M_28 1 5874) ≤ 0)) → v_X9_bytesOf (M_28 1 5870) (fun r_32 => ∀ M_33 : ST, M_33 = x_st M_28 1 31 r_32 → ∀ M_34 : ST, M_34 = x_st M_33 1 32 0 → post M_34)))))) n_37 y_35 M_36) → ∀ (H : Heap) (locs : List Loc), va_P D vwCl ((w_Model cT a M_36)) H → va_D A ((w_Model cT a M_36)) → va_S A s.heap H locs → ∀ ls : Array Slot, lv_has ls 4 [(2, .int y_35), (1, .int 1), (0, .ref (a 0))] → W p l e (headSpec wsX9_begins ({ frames := 1, cells := 0, slots := 0, locals := 22 })).room s m ([.ref (a 0)] : List Value).toArray below meth c H locs 0 0 (MQ below (va_Qv post (fun u t => x_B D cT ((w_Model cT a u)) A t) A) ([.ref (a 0)] : List Value).toArray s 0 0 A) (F0 m 53 ls []) := by
        intro n_37
        induction n_37 with
        | zero =>
          intro y_35 M_36 hv
          exact hv.elim
        | succ n_37 L_20_ih =>
          intro y_35 M_36 hv H locs hP hD hS ls hl
          refine lv_iload_n hx hb dX9_begins_53 rfl (lv_at hl 0 rfl) ?_
          refine lv_bipush (v := 10) hx hb dX9_begins_54 (by decide) ?_
          refine lv_icmp_ge (tgt := 84) hx hb dX9_begins_56 (by decide) (fun c_38 => ?_) (fun c_38 => ?_)
          · have hv := hv.1 c_38
            exact K_L_20 _ _ hv H locs hP hD hS ls (lv_sub hl [0, 1, 2] rfl)
          · have hv := hv.2 c_38
            refine lv_aload_n hx hb dX9_begins_59 rfl (lv_at hl 2 rfl) ?_
            refine va_get (D := D) (ci := 9) (v := .ref (a 1)) (C := RX9) (T := TX9) (N := 2) hx hb hts in_X9 hown hK hP 0 rfl rfl 0 (by decide) kf_7 (fun _ h9 => h9) rfl dX9_begins_60 ?_
            refine lv_sipush (v := 5870) hx hb dX9_begins_63 (by decide) ?_
            refine lv_iload_n hx hb dX9_begins_66 rfl (lv_at hl 0 rfl) ?_
            refine lv_iadd hx hb dX9_begins_67 ?_
            refine lv_aload_n hx hb dX9_begins_68 rfl (lv_at hl 2 rfl) ?_
            refine va_get (D := D) (ci := 9) (v := .ref (a 1)) (C := RX9) (T := TX9) (N := 2) hx hb hts in_X9 hown hK hP 0 rfl rfl 0 (by decide) kf_7 (fun _ h9 => h9) rfl dX9_begins_69 ?_
            refine lv_bipush (v := 10) hx hb dX9_begins_72 (by decide) ?_
            refine lv_iload_n hx hb dX9_begins_74 rfl (lv_at hl 0 rfl) ?_
            refine lv_iadd hx hb dX9_begins_75 ?_
            obtain ⟨k_39, hk_39, ik_39, hv⟩ := hv
            refine x_ald hx hb hK hP 1 0 rfl rfl k_39 ik_39 hk_39 (by decide) dX9_begins_76 ?_
            obtain ⟨k_40, hk_40, ik_40, hv⟩ := hv
            refine x_ast hx hb hK hP hD hS 1 0 rfl rfl k_40 ik_40 hk_40 (by decide) dX9_begins_77 (fun H locs hP hD hS => ?_)
            obtain ⟨M_41, eM_41⟩ : ∃ z : ST, z = x_st M_36 1 k_40 (M_36 1 k_39) := ⟨_, rfl⟩
            have hP : va_P D vwCl ((w_Model cT a M_41)) H := by rw [eM_41]; exact hP
            have hD : va_D A ((w_Model cT a M_41)) := by rw [eM_41]; exact hD
            have hv := hv M_41 eM_41
            obtain ⟨x_42, ex_42⟩ : ∃ z : Int32, z = y_35 + 1 := ⟨_, rfl⟩
            have hv := hv x_42 ex_42
            refine lv_iinc (v := x_42) (lv' := [(2, .int x_42), (1, .int 1), (0, .ref (a 0))]) hx hb dX9_begins_78 hl (k := 0) rfl (by rw [ex_42]; rfl) (by decide) rfl (fun ls hl => ?_)
            refine lv_goto (tgt := 53) hx hb dX9_begins_81 (by decide) ?_
            exact L_20_ih _ _ hv H locs hP hD hS ls (lv_sub hl [0, 1, 2] rfl)
      exact L_20 n_43 _ _ hv _ _ hP hD hS ls hl
def v_X9_fetches (M : ST) (post : ST → Prop) : Prop := v_X9_isTaken M (fun r_1 => (((¬ (r_1 = 0)) → post M) ∧ ((r_1 = 0) → ((((M 1 29) ≤ (M 1 33)) → post M) ∧ ((¬ ((M 1 29) ≤ (M 1 33))) → ((((M 1 32) < (M 1 31)) → ∀ x_5 : Int32, x_5 = ((((M 1 40) + ((M 1 41) * (M 1 30))) + (M 1 32)) - (((M 1 40) + ((M 1 41) * (M 1 30))) + (M 1 32)) / 1024 * 1024) → ∃ k_6 : Nat, k_6 < 23520 ∧ (740 + x_5) = nI k_6 ∧ ∃ k_7 : Nat, k_7 < 23520 ∧ (50 + (M 1 33)) = nI k_7 ∧ ∀ M_8 : ST, M_8 = x_st M 1 k_7 (M 1 k_6) → ∀ M_9 : ST, M_9 = x_st M_8 1 33 ((M_8 1 33) + 1) → ∀ M_10 : ST, M_10 = x_st M_9 1 32 ((M_9 1 32) + 1) → ∀ M_11 : ST, M_11 = x_st M_10 1 26 ((M_10 1 26) + 1) → post M_11) ∧ ((¬ ((M 1 32) < (M 1 31))) → post M)))))))
set_option maxHeartbeats 4000000 in
set_option maxRecDepth 100000 in
theorem c_X9_fetches (l : Launch) (D : va_G) (cT : Nat → ClassId) (a : Nat → Nat) (M : ST) (sz : Nat) (post : ST → Prop) (hv : v_X9_fetches M post) : Met l yX9_fetches wsX9_fetches ({ frames := 1, cells := 0, slots := 0, locals := 20 }) (va_Pc [.ref (a 0)] (x_U D cT ((w_Model cT a M)) sz)) (va_Qv post (fun u t => x_B D cT ((w_Model cT a u)) (va_A ((w_Model cT a M)) sz) t) (va_A ((w_Model cT a M)) sz)) 0 0 (va_A ((w_Model cT a M)) sz) := by
  refine Met.ofW (cc := cX9_fetches) (maxL := 2) (ret := none) (by decide) rfl ?_
  intro p e s m args below meth c s₁ B hml hpre
  obtain ⟨rfl, hsz, hP, hK, hD0, hN⟩ := hpre
  have hx := B.exec
  have hb := B.bytes
  have hr := B.returns
  have hts := atoms_spec (ws := wsX9_fetches) B.pre
  have hown : s.vm.findClass RX9 = some m.cls := findClass_of_methodNamed B.named
  have hlocks := B.notSynchronized
  subst hsz
  have hD := hD0.self (sz := s.heap.size)
  generalize hAe : va_A ((w_Model cT a M)) s.heap.size = A at hD hN ⊢
  have hA : ∀ q : Nat, s.heap.size ≤ q → A q := fun q h => by rw [← hAe]; exact Or.inr h
  have hS : va_S A s.heap s.heap [] := va_S.rf
  have hl := lv_entry ([.ref (a 0)]) (n := 2) (Nat.le_of_ble_eq_true rfl)
  rw [lg_entry_eq]
  generalize (lg_sl ([.ref (a 0)]) ++ List.replicate (2 - (lg_sl ([.ref (a 0)])).length) Slot.unset).toArray = ls at hl ⊢
  have hl : lv_has ls 2 [(0, .ref (a 0))] := hl
  have in_X9 : ∀ w ∈ wsX90, w ∈ wsX9_fetches := by decide +kernel
  have w_43 : CallW (headSpec wsX9_fetches ({ frames := 1, cells := 0, slots := 0, locals := 20 })).room s ([.ref (a 0)] : List Value).toArray RX9 RX9 43 yX9_isTaken cX9_isTaken 1 (some .boolean) wsX9_isTaken ({ frames := 0, cells := 0, slots := 0, locals := 0 } : Room) 0 0 0 := cwV 0 hts gX9_fetches_X9_isTaken rfl rfl rfl (by decide +kernel) ⟨Nat.le_of_ble_eq_true rfl, Nat.le_of_ble_eq_true rfl⟩
  have kf_7 : (Cond.fieldLink RX9 7 "PictureBeatsModel" "all" "[I").before ([.ref (a 0)] : List Value).toArray s = true := hts _ (by decide +kernel)
  refine lv_aload_n hx hb dX9_fetches_0 rfl (lv_at hl 0 rfl) ?_
  refine x_rV (As := []) (rest := []) ⟨hx, hb, hml, hown, hts⟩ (c_X9_isTaken l D cT a M _ hv) w_43 hK hP hS hN [0, 1, 2] rfl 9 0 rfl rfl rfl hl.1 rfl (Nat.le_of_ble_eq_true rfl) dX9_fetches_1 ⟨Nat.le_of_ble_eq_true rfl, Nat.le_of_ble_eq_true rfl⟩ (fun r_1 hv => ?_)
  refine lv_if_ne (tgt := 41) hx hb dX9_fetches_4 (by decide) (fun c_2 => ?_) (fun c_2 => ?_)
  · have hv := hv.1 c_2
    exact W.vret hx hb hr (fun t ht hW => ⟨⟨M, rfl, hv, by rw [ht]; exact hP, va_K.moved hW.alike hK, hD⟩, hS.F ht⟩) hS.2.2 dX9_fetches_41
  · have hv := hv.2 c_2
    refine lv_aload_n hx hb dX9_fetches_7 rfl (lv_at hl 0 rfl) ?_
    refine va_get (D := D) (ci := 9) (v := .ref (a 1)) (C := RX9) (T := TX9) (N := 2) hx hb hts in_X9 hown hK hP 0 rfl rfl 0 (by decide) kf_7 (fun _ h9 => h9) rfl dX9_fetches_8 ?_
    refine lv_bipush (v := 33) hx hb dX9_fetches_11 (by decide) ?_
    refine x_ald hx hb hK hP 1 0 rfl rfl 33 rfl (by decide) (by decide) dX9_fetches_13 ?_
    refine lv_aload_n hx hb dX9_fetches_14 rfl (lv_at hl 0 rfl) ?_
    refine va_get (D := D) (ci := 9) (v := .ref (a 1)) (C := RX9) (T := TX9) (N := 2) hx hb hts in_X9 hown hK hP 0 rfl rfl 0 (by decide) kf_7 (fun _ h9 => h9) rfl dX9_fetches_15 ?_
    refine lv_bipush (v := 29) hx hb dX9_fetches_18 (by decide) ?_
    refine x_ald hx hb hK hP 1 0 rfl rfl 29 rfl (by decide) (by decide) dX9_fetches_20 ?_
    refine lv_icmp_ge (tgt := 41) hx hb dX9_fetches_21 (by decide) (fun c_3 => ?_) (fun c_3 => ?_)
    · have hv := hv.1 c_3
      exact W.vret hx hb hr (fun t ht hW => ⟨⟨M, rfl, hv, by rw [ht]; exact hP, va_K.moved hW.alike hK, hD⟩, hS.F ht⟩) hS.2.2 dX9_fetches_41
    · have hv := hv.2 c_3
      refine lv_aload_n hx hb dX9_fetches_24 rfl (lv_at hl 0 rfl) ?_
      refine va_get (D := D) (ci := 9) (v := .ref (a 1)) (C := RX9) (T := TX9) (N := 2) hx hb hts in_X9 hown hK hP 0 rfl rfl 0 (by decide) kf_7 (fun _ h9 => h9) rfl dX9_fetches_25 ?_
      refine lv_bipush (v := 32) hx hb dX9_fetches_28 (by decide) ?_
      refine x_ald hx hb hK hP 1 0 rfl rfl 32 rfl (by decide) (by decide) dX9_fetches_30 ?_
      refine lv_aload_n hx hb dX9_fetches_31 rfl (lv_at hl 0 rfl) ?_
      refine va_get (D := D) (ci := 9) (v := .ref (a 1)) (C := RX9) (T := TX9) (N := 2) hx hb hts in_X9 hown hK hP 0 rfl rfl 0 (by decide) kf_7 (fun _ h9 => h9) rfl dX9_fetches_32 ?_
      refine lv_bipush (v := 31) hx hb dX9_fetches_35 (by decide) ?_
      refine x_ald hx hb hK hP 1 0 rfl rfl 31 rfl (by decide) (by decide) dX9_fetches_37 ?_
      refine lv_icmp_lt (tgt := 42) hx hb dX9_fetches_38 (by decide) (fun c_4 => ?_) (fun c_4 => ?_)
      · have hv := hv.1 c_4
        refine lv_aload_n hx hb dX9_fetches_42 rfl (lv_at hl 0 rfl) ?_
        refine va_get (D := D) (ci := 9) (v := .ref (a 1)) (C := RX9) (T := TX9) (N := 2) hx hb hts in_X9 hown hK hP 0 rfl rfl 0 (by decide) kf_7 (fun _ h9 => h9) rfl dX9_fetches_43 ?_
        refine lv_bipush (v := 40) hx hb dX9_fetches_46 (by decide) ?_
        refine x_ald hx hb hK hP 1 0 rfl rfl 40 rfl (by decide) (by decide) dX9_fetches_48 ?_
        refine lv_aload_n hx hb dX9_fetches_49 rfl (lv_at hl 0 rfl) ?_
        refine va_get (D := D) (ci := 9) (v := .ref (a 1)) (C := RX9) (T := TX9) (N := 2) hx hb hts in_X9 hown hK hP 0 rfl rfl 0 (by decide) kf_7 (fun _ h9 => h9) rfl dX9_fetches_50 ?_
        refine lv_bipush (v := 41) hx hb dX9_fetches_53 (by decide) ?_
        refine x_ald hx hb hK hP 1 0 rfl rfl 41 rfl (by decide) (by decide) dX9_fetches_55 ?_
        refine lv_aload_n hx hb dX9_fetches_56 rfl (lv_at hl 0 rfl) ?_
        refine va_get (D := D) (ci := 9) (v := .ref (a 1)) (C := RX9) (T := TX9) (N := 2) hx hb hts in_X9 hown hK hP 0 rfl rfl 0 (by decide) kf_7 (fun _ h9 => h9) rfl dX9_fetches_57 ?_
        refine lv_bipush (v := 30) hx hb dX9_fetches_60 (by decide) ?_
        refine x_ald hx hb hK hP 1 0 rfl rfl 30 rfl (by decide) (by decide) dX9_fetches_62 ?_
        refine lv_imul hx hb dX9_fetches_63 ?_
        refine lv_iadd hx hb dX9_fetches_64 ?_
        refine lv_aload_n hx hb dX9_fetches_65 rfl (lv_at hl 0 rfl) ?_
        refine va_get (D := D) (ci := 9) (v := .ref (a 1)) (C := RX9) (T := TX9) (N := 2) hx hb hts in_X9 hown hK hP 0 rfl rfl 0 (by decide) kf_7 (fun _ h9 => h9) rfl dX9_fetches_66 ?_
        refine lv_bipush (v := 32) hx hb dX9_fetches_69 (by decide) ?_
        refine x_ald hx hb hK hP 1 0 rfl rfl 32 rfl (by decide) (by decide) dX9_fetches_71 ?_
        refine lv_iadd hx hb dX9_fetches_72 ?_
        refine lv_sipush (v := 1024) hx hb dX9_fetches_73 (by decide) ?_
        refine lv_irem hx hb dX9_fetches_76 (by decide) ?_
        refine lv_topi (fun x_5 ex_5 => ?_)
        have hv := hv x_5 ex_5
        refine lv_istore_n (lv' := [(1, .int x_5), (0, .ref (a 0))]) hx hb dX9_fetches_77 rfl hl (by decide) rfl (fun ls hl => ?_)
        refine lv_aload_n hx hb dX9_fetches_78 rfl (lv_at hl 1 rfl) ?_
        refine va_get (D := D) (ci := 9) (v := .ref (a 1)) (C := RX9) (T := TX9) (N := 2) hx hb hts in_X9 hown hK hP 0 rfl rfl 0 (by decide) kf_7 (fun _ h9 => h9) rfl dX9_fetches_79 ?_
        refine lv_bipush (v := 50) hx hb dX9_fetches_82 (by decide) ?_
        refine lv_aload_n hx hb dX9_fetches_84 rfl (lv_at hl 1 rfl) ?_
        refine va_get (D := D) (ci := 9) (v := .ref (a 1)) (C := RX9) (T := TX9) (N := 2) hx hb hts in_X9 hown hK hP 0 rfl rfl 0 (by decide) kf_7 (fun _ h9 => h9) rfl dX9_fetches_85 ?_
        refine lv_bipush (v := 33) hx hb dX9_fetches_88 (by decide) ?_
        refine x_ald hx hb hK hP 1 0 rfl rfl 33 rfl (by decide) (by decide) dX9_fetches_90 ?_
        refine lv_iadd hx hb dX9_fetches_91 ?_
        refine lv_aload_n hx hb dX9_fetches_92 rfl (lv_at hl 1 rfl) ?_
        refine va_get (D := D) (ci := 9) (v := .ref (a 1)) (C := RX9) (T := TX9) (N := 2) hx hb hts in_X9 hown hK hP 0 rfl rfl 0 (by decide) kf_7 (fun _ h9 => h9) rfl dX9_fetches_93 ?_
        refine lv_sipush (v := 740) hx hb dX9_fetches_96 (by decide) ?_
        refine lv_iload_n hx hb dX9_fetches_99 rfl (lv_at hl 0 rfl) ?_
        refine lv_iadd hx hb dX9_fetches_100 ?_
        obtain ⟨k_6, hk_6, ik_6, hv⟩ := hv
        refine x_ald hx hb hK hP 1 0 rfl rfl k_6 ik_6 hk_6 (by decide) dX9_fetches_101 ?_
        obtain ⟨k_7, hk_7, ik_7, hv⟩ := hv
        refine x_ast hx hb hK hP hD hS 1 0 rfl rfl k_7 ik_7 hk_7 (by decide) dX9_fetches_102 (fun H locs hP hD hS => ?_)
        obtain ⟨M_8, eM_8⟩ : ∃ z : ST, z = x_st M 1 k_7 (M 1 k_6) := ⟨_, rfl⟩
        have hP : va_P D vwCl ((w_Model cT a M_8)) H := by rw [eM_8]; exact hP
        have hD : va_D A ((w_Model cT a M_8)) := by rw [eM_8]; exact hD
        have hv := hv M_8 eM_8
        refine lv_aload_n hx hb dX9_fetches_103 rfl (lv_at hl 1 rfl) ?_
        refine va_get (D := D) (ci := 9) (v := .ref (a 1)) (C := RX9) (T := TX9) (N := 2) hx hb hts in_X9 hown hK hP 0 rfl rfl 0 (by decide) kf_7 (fun _ h9 => h9) rfl dX9_fetches_104 ?_
        refine lv_bipush (v := 33) hx hb dX9_fetches_107 (by decide) ?_
        refine lv_dup2_11 hx hb dX9_fetches_109 rfl rfl ?_
        refine x_ald hx hb hK hP 1 0 rfl rfl 33 rfl (by decide) (by decide) dX9_fetches_110 ?_
        refine lv_iconst (v := 1) hx hb dX9_fetches_111 (by decide) ?_
        refine lv_iadd hx hb dX9_fetches_112 ?_
        refine x_ast hx hb hK hP hD hS 1 0 rfl rfl 33 rfl (by decide) (by decide) dX9_fetches_113 (fun H locs hP hD hS => ?_)
        obtain ⟨M_9, eM_9⟩ : ∃ z : ST, z = x_st M_8 1 33 ((M_8 1 33) + 1) := ⟨_, rfl⟩
        have hP : va_P D vwCl ((w_Model cT a M_9)) H := by rw [eM_9]; exact hP
        have hD : va_D A ((w_Model cT a M_9)) := by rw [eM_9]; exact hD
        have hv := hv M_9 eM_9
        refine lv_aload_n hx hb dX9_fetches_114 rfl (lv_at hl 1 rfl) ?_
        refine va_get (D := D) (ci := 9) (v := .ref (a 1)) (C := RX9) (T := TX9) (N := 2) hx hb hts in_X9 hown hK hP 0 rfl rfl 0 (by decide) kf_7 (fun _ h9 => h9) rfl dX9_fetches_115 ?_
        refine lv_bipush (v := 32) hx hb dX9_fetches_118 (by decide) ?_
        refine lv_dup2_11 hx hb dX9_fetches_120 rfl rfl ?_
        refine x_ald hx hb hK hP 1 0 rfl rfl 32 rfl (by decide) (by decide) dX9_fetches_121 ?_
        refine lv_iconst (v := 1) hx hb dX9_fetches_122 (by decide) ?_
        refine lv_iadd hx hb dX9_fetches_123 ?_
        refine x_ast hx hb hK hP hD hS 1 0 rfl rfl 32 rfl (by decide) (by decide) dX9_fetches_124 (fun H locs hP hD hS => ?_)
        obtain ⟨M_10, eM_10⟩ : ∃ z : ST, z = x_st M_9 1 32 ((M_9 1 32) + 1) := ⟨_, rfl⟩
        have hP : va_P D vwCl ((w_Model cT a M_10)) H := by rw [eM_10]; exact hP
        have hD : va_D A ((w_Model cT a M_10)) := by rw [eM_10]; exact hD
        have hv := hv M_10 eM_10
        refine lv_aload_n hx hb dX9_fetches_125 rfl (lv_at hl 1 rfl) ?_
        refine va_get (D := D) (ci := 9) (v := .ref (a 1)) (C := RX9) (T := TX9) (N := 2) hx hb hts in_X9 hown hK hP 0 rfl rfl 0 (by decide) kf_7 (fun _ h9 => h9) rfl dX9_fetches_126 ?_
        refine lv_bipush (v := 26) hx hb dX9_fetches_129 (by decide) ?_
        refine lv_dup2_11 hx hb dX9_fetches_131 rfl rfl ?_
        refine x_ald hx hb hK hP 1 0 rfl rfl 26 rfl (by decide) (by decide) dX9_fetches_132 ?_
        refine lv_iconst (v := 1) hx hb dX9_fetches_133 (by decide) ?_
        refine lv_iadd hx hb dX9_fetches_134 ?_
        refine x_ast hx hb hK hP hD hS 1 0 rfl rfl 26 rfl (by decide) (by decide) dX9_fetches_135 (fun H locs hP hD hS => ?_)
        obtain ⟨M_11, eM_11⟩ : ∃ z : ST, z = x_st M_10 1 26 ((M_10 1 26) + 1) := ⟨_, rfl⟩
        have hP : va_P D vwCl ((w_Model cT a M_11)) H := by rw [eM_11]; exact hP
        have hD : va_D A ((w_Model cT a M_11)) := by rw [eM_11]; exact hD
        have hv := hv M_11 eM_11
        exact W.vret hx hb hr (fun t ht hW => ⟨⟨M_11, rfl, hv, by rw [ht]; exact hP, va_K.moved hW.alike hK, hD⟩, hS.F ht⟩) hS.2.2 dX9_fetches_136
      · have hv := hv.2 c_4
        exact W.vret hx hb hr (fun t ht hW => ⟨⟨M, rfl, hv, by rw [ht]; exact hP, va_K.moved hW.alike hK, hD⟩, hS.F ht⟩) hS.2.2 dX9_fetches_41
def lp_X9_takes_58  (post : Int32 → ST → Prop) (K_ : Int32 → ST → Prop) : Nat → Int32 → ST → Prop
  | 0, _, _ => False
  | n_13 + 1, y_11, M_12 => ((((M_12 1 33) ≤ y_11) → K_ y_11 M_12) ∧ ((¬ ((M_12 1 33) ≤ y_11)) → ∃ k_15 : Nat, k_15 < 23520 ∧ (50 + y_11) = nI k_15 ∧ ∃ k_16 : Nat, k_16 < 23520 ∧ ((50 + y_11) - 1) = nI k_16 ∧ ∀ M_17 : ST, M_17 = x_st M_12 1 k_16 (M_12 1 k_15) → ∀ x_18 : Int32, x_18 = y_11 + 1 → lp_X9_takes_58  post K_ n_13 x_18 M_17))
def v_X9_takes (M : ST) (post : Int32 → ST → Prop) : Prop := (((¬ ((M 1 35) = 0)) → ∀ M_2 : ST, M_2 = x_st M 1 35 ((M 1 35) - 1) → post (((M_2 1 34) >>> ((M_2 1 35) &&& 31)) &&& 1) M_2) ∧ (((M 1 35) = 0) → (((¬ ((M 1 33) = 0)) → ∀ M_4 : ST, M_4 = x_st M 1 34 (M 1 50) → ∀ M_5 : ST, M_5 = x_st M_4 1 35 8 → (∃ n_19 : Nat, lp_X9_takes_58  post (fun (y_7 : Int32) (M_8 : ST) => ∀ M_9 : ST, M_9 = x_st M_8 1 33 ((M_8 1 33) - 1) → ∀ M_10 : ST, M_10 = x_st M_9 1 35 ((M_9 1 35) - 1) → post (((M_10 1 34) >>> ((M_10 1 35) &&& 31)) &&& 1) M_10) n_19 1 M_5)) ∧ (((M 1 33) = 0) → ∀ M_20 : ST, M_20 = x_st M 1 24 ((M 1 24) + 1) → post (-1) M_20))))
set_option maxHeartbeats 4000000 in
set_option maxRecDepth 100000 in
theorem c_X9_takes (l : Launch) (D : va_G) (cT : Nat → ClassId) (a : Nat → Nat) (M : ST) (sz : Nat) (post : Int32 → ST → Prop) (hv : v_X9_takes M post) : Met l yX9_takes wsX9_takes ({ frames := 0, cells := 0, slots := 0, locals := 0 }) (va_Pc [.ref (a 0)] (x_U D cT ((w_Model cT a M)) sz)) (va_Qi post (fun u t => x_B D cT ((w_Model cT a u)) (va_A ((w_Model cT a M)) sz) t) (va_A ((w_Model cT a M)) sz)) 0 0 (va_A ((w_Model cT a M)) sz) := by
  refine Met.ofW (cc := cX9_takes) (maxL := 2) (ret := (some .int)) (by decide) rfl ?_
  intro p e s m args below meth c s₁ B hml hpre
  obtain ⟨rfl, hsz, hP, hK, hD0, hN⟩ := hpre
  have hx := B.exec
  have hb := B.bytes
  have hr := B.returns
  have hts := atoms_spec (ws := wsX9_takes) B.pre
  have hown : s.vm.findClass RX9 = some m.cls := findClass_of_methodNamed B.named
  have hlocks := B.notSynchronized
  subst hsz
  have hD := hD0.self (sz := s.heap.size)
  generalize hAe : va_A ((w_Model cT a M)) s.heap.size = A at hD hN ⊢
  have hA : ∀ q : Nat, s.heap.size ≤ q → A q := fun q h => by rw [← hAe]; exact Or.inr h
  have hS : va_S A s.heap s.heap [] := va_S.rf
  have hl := lv_entry ([.ref (a 0)]) (n := 2) (Nat.le_of_ble_eq_true rfl)
  rw [lg_entry_eq]
  generalize (lg_sl ([.ref (a 0)]) ++ List.replicate (2 - (lg_sl ([.ref (a 0)])).length) Slot.unset).toArray = ls at hl ⊢
  have hl : lv_has ls 2 [(0, .ref (a 0))] := hl
  have in_X9 : ∀ w ∈ wsX90, w ∈ wsX9_takes := by decide +kernel
  have kf_7 : (Cond.fieldLink RX9 7 "PictureBeatsModel" "all" "[I").before ([.ref (a 0)] : List Value).toArray s = true := hts _ (by decide +kernel)
  refine lv_aload_n hx hb dX9_takes_0 rfl (lv_at hl 0 rfl) ?_
  refine va_get (D := D) (ci := 9) (v := .ref (a 1)) (C := RX9) (T := TX9) (N := 2) hx hb hts in_X9 hown hK hP 0 rfl rfl 0 (by decide) kf_7 (fun _ h9 => h9) rfl dX9_takes_1 ?_
  refine lv_bipush (v := 35) hx hb dX9_takes_4 (by decide) ?_
  refine x_ald hx hb hK hP 1 0 rfl rfl 35 rfl (by decide) (by decide) dX9_takes_6 ?_
  refine lv_if_ne (tgt := 106) hx hb dX9_takes_7 (by decide) (fun c_1 => ?_) (fun c_1 => ?_)
  · have hv := hv.1 c_1
    refine lv_aload_n hx hb dX9_takes_106 rfl (lv_at hl 0 rfl) ?_
    refine va_get (D := D) (ci := 9) (v := .ref (a 1)) (C := RX9) (T := TX9) (N := 2) hx hb hts in_X9 hown hK hP 0 rfl rfl 0 (by decide) kf_7 (fun _ h9 => h9) rfl dX9_takes_107 ?_
    refine lv_bipush (v := 35) hx hb dX9_takes_110 (by decide) ?_
    refine lv_dup2_11 hx hb dX9_takes_112 rfl rfl ?_
    refine x_ald hx hb hK hP 1 0 rfl rfl 35 rfl (by decide) (by decide) dX9_takes_113 ?_
    refine lv_iconst (v := 1) hx hb dX9_takes_114 (by decide) ?_
    refine lv_isub hx hb dX9_takes_115 ?_
    refine x_ast hx hb hK hP hD hS 1 0 rfl rfl 35 rfl (by decide) (by decide) dX9_takes_116 (fun H locs hP hD hS => ?_)
    obtain ⟨M_2, eM_2⟩ : ∃ z : ST, z = x_st M 1 35 ((M 1 35) - 1) := ⟨_, rfl⟩
    have hP : va_P D vwCl ((w_Model cT a M_2)) H := by rw [eM_2]; exact hP
    have hD : va_D A ((w_Model cT a M_2)) := by rw [eM_2]; exact hD
    have hv := hv M_2 eM_2
    refine lv_aload_n hx hb dX9_takes_117 rfl (lv_at hl 0 rfl) ?_
    refine va_get (D := D) (ci := 9) (v := .ref (a 1)) (C := RX9) (T := TX9) (N := 2) hx hb hts in_X9 hown hK hP 0 rfl rfl 0 (by decide) kf_7 (fun _ h9 => h9) rfl dX9_takes_118 ?_
    refine lv_bipush (v := 34) hx hb dX9_takes_121 (by decide) ?_
    refine x_ald hx hb hK hP 1 0 rfl rfl 34 rfl (by decide) (by decide) dX9_takes_123 ?_
    refine lv_aload_n hx hb dX9_takes_124 rfl (lv_at hl 0 rfl) ?_
    refine va_get (D := D) (ci := 9) (v := .ref (a 1)) (C := RX9) (T := TX9) (N := 2) hx hb hts in_X9 hown hK hP 0 rfl rfl 0 (by decide) kf_7 (fun _ h9 => h9) rfl dX9_takes_125 ?_
    refine lv_bipush (v := 35) hx hb dX9_takes_128 (by decide) ?_
    refine x_ald hx hb hK hP 1 0 rfl rfl 35 rfl (by decide) (by decide) dX9_takes_130 ?_
    refine lv_ishr hx hb dX9_takes_131 ?_
    refine lv_iconst (v := 1) hx hb dX9_takes_132 (by decide) ?_
    refine lv_iand hx hb dX9_takes_133 ?_
    exact W.iret (v := (((M_2 1 34) >>> ((M_2 1 35) &&& 31)) &&& 1)) hx hb hr (fun t ht hW => ⟨⟨_, M_2, rfl, hv, by rw [ht]; exact hP, va_K.moved hW.alike hK, hD⟩, hS.F ht⟩) hS.2.2 dX9_takes_134
  · have hv := hv.2 c_1
    refine lv_aload_n hx hb dX9_takes_10 rfl (lv_at hl 0 rfl) ?_
    refine va_get (D := D) (ci := 9) (v := .ref (a 1)) (C := RX9) (T := TX9) (N := 2) hx hb hts in_X9 hown hK hP 0 rfl rfl 0 (by decide) kf_7 (fun _ h9 => h9) rfl dX9_takes_11 ?_
    refine lv_bipush (v := 33) hx hb dX9_takes_14 (by decide) ?_
    refine x_ald hx hb hK hP 1 0 rfl rfl 33 rfl (by decide) (by decide) dX9_takes_16 ?_
    refine lv_if_ne (tgt := 33) hx hb dX9_takes_17 (by decide) (fun c_3 => ?_) (fun c_3 => ?_)
    · have hv := hv.1 c_3
      refine lv_aload_n hx hb dX9_takes_33 rfl (lv_at hl 0 rfl) ?_
      refine va_get (D := D) (ci := 9) (v := .ref (a 1)) (C := RX9) (T := TX9) (N := 2) hx hb hts in_X9 hown hK hP 0 rfl rfl 0 (by decide) kf_7 (fun _ h9 => h9) rfl dX9_takes_34 ?_
      refine lv_bipush (v := 34) hx hb dX9_takes_37 (by decide) ?_
      refine lv_aload_n hx hb dX9_takes_39 rfl (lv_at hl 0 rfl) ?_
      refine va_get (D := D) (ci := 9) (v := .ref (a 1)) (C := RX9) (T := TX9) (N := 2) hx hb hts in_X9 hown hK hP 0 rfl rfl 0 (by decide) kf_7 (fun _ h9 => h9) rfl dX9_takes_40 ?_
      refine lv_bipush (v := 50) hx hb dX9_takes_43 (by decide) ?_
      refine x_ald hx hb hK hP 1 0 rfl rfl 50 rfl (by decide) (by decide) dX9_takes_45 ?_
      refine x_ast hx hb hK hP hD hS 1 0 rfl rfl 34 rfl (by decide) (by decide) dX9_takes_46 (fun H locs hP hD hS => ?_)
      obtain ⟨M_4, eM_4⟩ : ∃ z : ST, z = x_st M 1 34 (M 1 50) := ⟨_, rfl⟩
      have hP : va_P D vwCl ((w_Model cT a M_4)) H := by rw [eM_4]; exact hP
      have hD : va_D A ((w_Model cT a M_4)) := by rw [eM_4]; exact hD
      have hv := hv M_4 eM_4
      refine lv_aload_n hx hb dX9_takes_47 rfl (lv_at hl 0 rfl) ?_
      refine va_get (D := D) (ci := 9) (v := .ref (a 1)) (C := RX9) (T := TX9) (N := 2) hx hb hts in_X9 hown hK hP 0 rfl rfl 0 (by decide) kf_7 (fun _ h9 => h9) rfl dX9_takes_48 ?_
      refine lv_bipush (v := 35) hx hb dX9_takes_51 (by decide) ?_
      refine lv_bipush (v := 8) hx hb dX9_takes_53 (by decide) ?_
      refine x_ast hx hb hK hP hD hS 1 0 rfl rfl 35 rfl (by decide) (by decide) dX9_takes_55 (fun H locs hP hD hS => ?_)
      obtain ⟨M_5, eM_5⟩ : ∃ z : ST, z = x_st M_4 1 35 8 := ⟨_, rfl⟩
      have hP : va_P D vwCl ((w_Model cT a M_5)) H := by rw [eM_5]; exact hP
      have hD : va_D A ((w_Model cT a M_5)) := by rw [eM_5]; exact hD
      have hv := hv M_5 eM_5
      refine lv_iconst (v := 1) hx hb dX9_takes_56 (by decide) ?_
      refine lv_istore_n (lv' := [(1, .int 1), (0, .ref (a 0))]) hx hb dX9_takes_57 rfl hl (by decide) rfl (fun ls hl => ?_)
      obtain ⟨n_19, hv⟩ := hv
      have K_L_6 : ∀ (y_7 : Int32) (M_8 : ST), (∀ M_9 : ST, M_9 = x_st M_8 1 33 ((M_8 1 33) - 1) → ∀ M_10 : ST, M_10 = x_st M_9 1 35 ((M_9 1 35) - 1) → post (((M_10 1 34) >>> ((M_10 1 35) &&& 31)) &&& 1) M_10) → ∀ (H : Heap) (locs : List Loc), va_P D vwCl ((w_Model cT a M_8)) H → va_D A ((w_Model cT a M_8)) → va_S A s.heap H locs → ∀ ls : Array Slot, lv_has ls 2 [(1, .int y_7), (0, .ref (a 0))] → W p l e (headSpec wsX9_takes ({ frames := 0, cells := 0, slots := 0, locals := 0 })).room s m ([.ref (a 0)] : List Value).toArray below meth c H locs 0 0 (MQ below (va_Qi post (fun u t => x_B D cT ((w_Model cT a u)) A t) A) ([.ref (a 0)] : List Value).toArray s 0 0 A) (F0 m 95 ls []) := by
        intro y_7 M_8 hv H locs hP hD hS ls hl
        refine lv_aload_n hx hb dX9_takes_95 rfl (lv_at hl 1 rfl) ?_
        refine va_get (D := D) (ci := 9) (v := .ref (a 1)) (C := RX9) (T := TX9) (N := 2) hx hb hts in_X9 hown hK hP 0 rfl rfl 0 (by decide) kf_7 (fun _ h9 => h9) rfl dX9_takes_96 ?_
        refine lv_bipush (v := 33) hx hb dX9_takes_99 (by decide) ?_
        refine lv_dup2_11 hx hb dX9_takes_101 rfl rfl ?_
        refine x_ald hx hb hK hP 1 0 rfl rfl 33 rfl (by decide) (by decide) dX9_takes_102 ?_
        refine lv_iconst (v := 1) hx hb dX9_takes_103 (by decide) ?_
        refine lv_isub hx hb dX9_takes_104 ?_
        refine x_ast hx hb hK hP hD hS 1 0 rfl rfl 33 rfl (by decide) (by decide) dX9_takes_105 (fun H locs hP hD hS => ?_)
        obtain ⟨M_9, eM_9⟩ : ∃ z : ST, z = x_st M_8 1 33 ((M_8 1 33) - 1) := ⟨_, rfl⟩
        have hP : va_P D vwCl ((w_Model cT a M_9)) H := by rw [eM_9]; exact hP
        have hD : va_D A ((w_Model cT a M_9)) := by rw [eM_9]; exact hD
        have hv := hv M_9 eM_9
        refine lv_aload_n hx hb dX9_takes_106 rfl (lv_at hl 1 rfl) ?_
        refine va_get (D := D) (ci := 9) (v := .ref (a 1)) (C := RX9) (T := TX9) (N := 2) hx hb hts in_X9 hown hK hP 0 rfl rfl 0 (by decide) kf_7 (fun _ h9 => h9) rfl dX9_takes_107 ?_
        refine lv_bipush (v := 35) hx hb dX9_takes_110 (by decide) ?_
        refine lv_dup2_11 hx hb dX9_takes_112 rfl rfl ?_
        refine x_ald hx hb hK hP 1 0 rfl rfl 35 rfl (by decide) (by decide) dX9_takes_113 ?_
        refine lv_iconst (v := 1) hx hb dX9_takes_114 (by decide) ?_
        refine lv_isub hx hb dX9_takes_115 ?_
        refine x_ast hx hb hK hP hD hS 1 0 rfl rfl 35 rfl (by decide) (by decide) dX9_takes_116 (fun H locs hP hD hS => ?_)
        obtain ⟨M_10, eM_10⟩ : ∃ z : ST, z = x_st M_9 1 35 ((M_9 1 35) - 1) := ⟨_, rfl⟩
        have hP : va_P D vwCl ((w_Model cT a M_10)) H := by rw [eM_10]; exact hP
        have hD : va_D A ((w_Model cT a M_10)) := by rw [eM_10]; exact hD
        have hv := hv M_10 eM_10
        refine lv_aload_n hx hb dX9_takes_117 rfl (lv_at hl 1 rfl) ?_
        refine va_get (D := D) (ci := 9) (v := .ref (a 1)) (C := RX9) (T := TX9) (N := 2) hx hb hts in_X9 hown hK hP 0 rfl rfl 0 (by decide) kf_7 (fun _ h9 => h9) rfl dX9_takes_118 ?_
        refine lv_bipush (v := 34) hx hb dX9_takes_121 (by decide) ?_
        refine x_ald hx hb hK hP 1 0 rfl rfl 34 rfl (by decide) (by decide) dX9_takes_123 ?_
        refine lv_aload_n hx hb dX9_takes_124 rfl (lv_at hl 1 rfl) ?_
        refine va_get (D := D) (ci := 9) (v := .ref (a 1)) (C := RX9) (T := TX9) (N := 2) hx hb hts in_X9 hown hK hP 0 rfl rfl 0 (by decide) kf_7 (fun _ h9 => h9) rfl dX9_takes_125 ?_
        refine lv_bipush (v := 35) hx hb dX9_takes_128 (by decide) ?_
        refine x_ald hx hb hK hP 1 0 rfl rfl 35 rfl (by decide) (by decide) dX9_takes_130 ?_
        refine lv_ishr hx hb dX9_takes_131 ?_
        refine lv_iconst (v := 1) hx hb dX9_takes_132 (by decide) ?_
        refine lv_iand hx hb dX9_takes_133 ?_
        exact W.iret (v := (((M_10 1 34) >>> ((M_10 1 35) &&& 31)) &&& 1)) hx hb hr (fun t ht hW => ⟨⟨_, M_10, rfl, hv, by rw [ht]; exact hP, va_K.moved hW.alike hK, hD⟩, hS.F ht⟩) hS.2.2 dX9_takes_134
      have L_6 : ∀ n_13 : Nat, ∀ (y_11 : Int32) (M_12 : ST), (lp_X9_takes_58  post (fun (y_7 : Int32) (M_8 : ST) => ∀ M_9 : ST, M_9 = x_st M_8 1 33 ((M_8 1 33) - 1) → ∀ M_10 : ST, M_10 = x_st M_9 1 35 ((M_9 1 35) - 1) → post (((M_10 1 34) >>> ((M_10 1 35) &&& 31)) &&& 1) M_10) n_13 y_11 M_12) → ∀ (H : Heap) (locs : List Loc), va_P D vwCl ((w_Model cT a M_12)) H → va_D A ((w_Model cT a M_12)) → va_S A s.heap H locs → ∀ ls : Array Slot, lv_has ls 2 [(1, .int y_11), (0, .ref (a 0))] → W p l e (headSpec wsX9_takes ({ frames := 0, cells := 0, slots := 0, locals := 0 })).room s m ([.ref (a 0)] : List Value).toArray below meth c H locs 0 0 (MQ below (va_Qi post (fun u t => x_B D cT ((w_Model cT a u)) A t) A) ([.ref (a 0)] : List Value).toArray s 0 0 A) (F0 m 58 ls []) := by
        intro n_13
        induction n_13 with
        | zero =>
          intro y_11 M_12 hv
          exact hv.elim
        | succ n_13 L_6_ih =>
          intro y_11 M_12 hv H locs hP hD hS ls hl
          refine lv_iload_n hx hb dX9_takes_58 rfl (lv_at hl 0 rfl) ?_
          refine lv_aload_n hx hb dX9_takes_59 rfl (lv_at hl 1 rfl) ?_
          refine va_get (D := D) (ci := 9) (v := .ref (a 1)) (C := RX9) (T := TX9) (N := 2) hx hb hts in_X9 hown hK hP 0 rfl rfl 0 (by decide) kf_7 (fun _ h9 => h9) rfl dX9_takes_60 ?_
          refine lv_bipush (v := 33) hx hb dX9_takes_63 (by decide) ?_
          refine x_ald hx hb hK hP 1 0 rfl rfl 33 rfl (by decide) (by decide) dX9_takes_65 ?_
          refine lv_icmp_ge (tgt := 95) hx hb dX9_takes_66 (by decide) (fun c_14 => ?_) (fun c_14 => ?_)
          · have hv := hv.1 c_14
            exact K_L_6 _ _ hv H locs hP hD hS ls (lv_sub hl [0, 1] rfl)
          · have hv := hv.2 c_14
            refine lv_aload_n hx hb dX9_takes_69 rfl (lv_at hl 1 rfl) ?_
            refine va_get (D := D) (ci := 9) (v := .ref (a 1)) (C := RX9) (T := TX9) (N := 2) hx hb hts in_X9 hown hK hP 0 rfl rfl 0 (by decide) kf_7 (fun _ h9 => h9) rfl dX9_takes_70 ?_
            refine lv_bipush (v := 50) hx hb dX9_takes_73 (by decide) ?_
            refine lv_iload_n hx hb dX9_takes_75 rfl (lv_at hl 0 rfl) ?_
            refine lv_iadd hx hb dX9_takes_76 ?_
            refine lv_iconst (v := 1) hx hb dX9_takes_77 (by decide) ?_
            refine lv_isub hx hb dX9_takes_78 ?_
            refine lv_aload_n hx hb dX9_takes_79 rfl (lv_at hl 1 rfl) ?_
            refine va_get (D := D) (ci := 9) (v := .ref (a 1)) (C := RX9) (T := TX9) (N := 2) hx hb hts in_X9 hown hK hP 0 rfl rfl 0 (by decide) kf_7 (fun _ h9 => h9) rfl dX9_takes_80 ?_
            refine lv_bipush (v := 50) hx hb dX9_takes_83 (by decide) ?_
            refine lv_iload_n hx hb dX9_takes_85 rfl (lv_at hl 0 rfl) ?_
            refine lv_iadd hx hb dX9_takes_86 ?_
            obtain ⟨k_15, hk_15, ik_15, hv⟩ := hv
            refine x_ald hx hb hK hP 1 0 rfl rfl k_15 ik_15 hk_15 (by decide) dX9_takes_87 ?_
            obtain ⟨k_16, hk_16, ik_16, hv⟩ := hv
            refine x_ast hx hb hK hP hD hS 1 0 rfl rfl k_16 ik_16 hk_16 (by decide) dX9_takes_88 (fun H locs hP hD hS => ?_)
            obtain ⟨M_17, eM_17⟩ : ∃ z : ST, z = x_st M_12 1 k_16 (M_12 1 k_15) := ⟨_, rfl⟩
            have hP : va_P D vwCl ((w_Model cT a M_17)) H := by rw [eM_17]; exact hP
            have hD : va_D A ((w_Model cT a M_17)) := by rw [eM_17]; exact hD
            have hv := hv M_17 eM_17
            obtain ⟨x_18, ex_18⟩ : ∃ z : Int32, z = y_11 + 1 := ⟨_, rfl⟩
            have hv := hv x_18 ex_18
            refine lv_iinc (v := x_18) (lv' := [(1, .int x_18), (0, .ref (a 0))]) hx hb dX9_takes_89 hl (k := 0) rfl (by rw [ex_18]; rfl) (by decide) rfl (fun ls hl => ?_)
            refine lv_goto (tgt := 58) hx hb dX9_takes_92 (by decide) ?_
            exact L_6_ih _ _ hv H locs hP hD hS ls (lv_sub hl [0, 1] rfl)
      exact L_6 n_19 _ _ hv _ _ hP hD hS ls hl
    · have hv := hv.2 c_3
      refine lv_aload_n hx hb dX9_takes_20 rfl (lv_at hl 0 rfl) ?_
      refine va_get (D := D) (ci := 9) (v := .ref (a 1)) (C := RX9) (T := TX9) (N := 2) hx hb hts in_X9 hown hK hP 0 rfl rfl 0 (by decide) kf_7 (fun _ h9 => h9) rfl dX9_takes_21 ?_
      refine lv_bipush (v := 24) hx hb dX9_takes_24 (by decide) ?_
      refine lv_dup2_11 hx hb dX9_takes_26 rfl rfl ?_
      refine x_ald hx hb hK hP 1 0 rfl rfl 24 rfl (by decide) (by decide) dX9_takes_27 ?_
      refine lv_iconst (v := 1) hx hb dX9_takes_28 (by decide) ?_
      refine lv_iadd hx hb dX9_takes_29 ?_
      refine x_ast hx hb hK hP hD hS 1 0 rfl rfl 24 rfl (by decide) (by decide) dX9_takes_30 (fun H locs hP hD hS => ?_)
      obtain ⟨M_20, eM_20⟩ : ∃ z : ST, z = x_st M 1 24 ((M 1 24) + 1) := ⟨_, rfl⟩
      have hP : va_P D vwCl ((w_Model cT a M_20)) H := by rw [eM_20]; exact hP
      have hD : va_D A ((w_Model cT a M_20)) := by rw [eM_20]; exact hD
      have hv := hv M_20 eM_20
      refine lv_iconst (v := (-1)) hx hb dX9_takes_31 (by decide) ?_
      exact W.iret (v := (-1)) hx hb hr (fun t ht hW => ⟨⟨_, M_20, rfl, hv, by rw [ht]; exact hP, va_K.moved hW.alike hK, hD⟩, hS.F ht⟩) hS.2.2 dX9_takes_32
