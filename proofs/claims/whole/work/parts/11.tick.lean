def v_X3_tick (M : ST) (post : ST → Prop) : Prop := v_X1_apply (x_sh M 15) (x_sh M 13) (M 1 4) (M 1 3) (fun (u_1 : ST) => ∀ M_2 : ST, M_2 = x_wb M 13 2 u_1 → v_X0_isBehindSeen (x_sh M_2 1) (fun r_3 => (((r_3 = 0) → v_X2_wantsByte (x_sh M_2 11) (fun r_5 => (((r_5 = 0) → v_X0_isOnDot (x_sh M_2 1) (fun r_7 => (((r_7 = 0) → v_X0_signalsHere (x_sh M_2 1) (fun r_9 => ∃ k_10 : Nat, k_10 < 512 ∧ ((M_2 0 10) - (M_2 0 10) / 512 * 512) = nI k_10 ∧ ∀ M_11 : ST, M_11 = x_st M_2 28 k_10 r_9 → ∀ M_12 : ST, M_12 = x_st M_11 0 10 ((M_11 0 10) + 1) → v_X0_goOn (x_sh M_12 1) (fun (u_13 : ST) => ∀ M_14 : ST, M_14 = x_wb M_12 1 10 u_13 → post M_14))) ∧ ((¬ (r_7 = 0)) → v_X3_makeDot M_2 (fun (u_15 : ST) => v_X0_signalsHere (x_sh u_15 1) (fun r_16 => ∃ k_17 : Nat, k_17 < 512 ∧ ((u_15 0 10) - (u_15 0 10) / 512 * 512) = nI k_17 ∧ ∀ M_18 : ST, M_18 = x_st u_15 28 k_17 r_16 → ∀ M_19 : ST, M_19 = x_st M_18 0 10 ((M_18 0 10) + 1) → v_X0_goOn (x_sh M_19 1) (fun (u_20 : ST) => ∀ M_21 : ST, M_21 = x_wb M_19 1 10 u_20 → post M_21))))))) ∧ ((¬ (r_5 = 0)) → v_X3_isTaken M_2 (fun r_22 => (((¬ (r_22 = 0)) → v_X0_isOnDot (x_sh M_2 1) (fun r_24 => (((r_24 = 0) → v_X0_signalsHere (x_sh M_2 1) (fun r_26 => ∃ k_27 : Nat, k_27 < 512 ∧ ((M_2 0 10) - (M_2 0 10) / 512 * 512) = nI k_27 ∧ ∀ M_28 : ST, M_28 = x_st M_2 28 k_27 r_26 → ∀ M_29 : ST, M_29 = x_st M_28 0 10 ((M_28 0 10) + 1) → v_X0_goOn (x_sh M_29 1) (fun (u_30 : ST) => ∀ M_31 : ST, M_31 = x_wb M_29 1 10 u_30 → post M_31))) ∧ ((¬ (r_24 = 0)) → v_X3_makeDot M_2 (fun (u_32 : ST) => v_X0_signalsHere (x_sh u_32 1) (fun r_33 => ∃ k_34 : Nat, k_34 < 512 ∧ ((u_32 0 10) - (u_32 0 10) / 512 * 512) = nI k_34 ∧ ∀ M_35 : ST, M_35 = x_st u_32 28 k_34 r_33 → ∀ M_36 : ST, M_36 = x_st M_35 0 10 ((M_35 0 10) + 1) → v_X0_goOn (x_sh M_36 1) (fun (u_37 : ST) => ∀ M_38 : ST, M_38 = x_wb M_36 1 10 u_37 → post M_38))))))) ∧ ((r_22 = 0) → v_X3_fetchByte M_2 (fun (u_39 : ST) => v_X0_isOnDot (x_sh u_39 1) (fun r_40 => (((r_40 = 0) → v_X0_signalsHere (x_sh u_39 1) (fun r_42 => ∃ k_43 : Nat, k_43 < 512 ∧ ((u_39 0 10) - (u_39 0 10) / 512 * 512) = nI k_43 ∧ ∀ M_44 : ST, M_44 = x_st u_39 28 k_43 r_42 → ∀ M_45 : ST, M_45 = x_st M_44 0 10 ((M_44 0 10) + 1) → v_X0_goOn (x_sh M_45 1) (fun (u_46 : ST) => ∀ M_47 : ST, M_47 = x_wb M_45 1 10 u_46 → post M_47))) ∧ ((¬ (r_40 = 0)) → v_X3_makeDot u_39 (fun (u_48 : ST) => v_X0_signalsHere (x_sh u_48 1) (fun r_49 => ∃ k_50 : Nat, k_50 < 512 ∧ ((u_48 0 10) - (u_48 0 10) / 512 * 512) = nI k_50 ∧ ∀ M_51 : ST, M_51 = x_st u_48 28 k_50 r_49 → ∀ M_52 : ST, M_52 = x_st M_51 0 10 ((M_51 0 10) + 1) → v_X0_goOn (x_sh M_52 1) (fun (u_53 : ST) => ∀ M_54 : ST, M_54 = x_wb M_52 1 10 u_53 → post M_54)))))))))))))) ∧ ((¬ (r_3 = 0)) → v_X3_turnToNextLine M_2 (fun (u_55 : ST) => v_X2_wantsByte (x_sh u_55 11) (fun r_56 => (((r_56 = 0) → v_X0_isOnDot (x_sh u_55 1) (fun r_58 => (((r_58 = 0) → v_X0_signalsHere (x_sh u_55 1) (fun r_60 => ∃ k_61 : Nat, k_61 < 512 ∧ ((u_55 0 10) - (u_55 0 10) / 512 * 512) = nI k_61 ∧ ∀ M_62 : ST, M_62 = x_st u_55 28 k_61 r_60 → ∀ M_63 : ST, M_63 = x_st M_62 0 10 ((M_62 0 10) + 1) → v_X0_goOn (x_sh M_63 1) (fun (u_64 : ST) => ∀ M_65 : ST, M_65 = x_wb M_63 1 10 u_64 → post M_65))) ∧ ((¬ (r_58 = 0)) → v_X3_makeDot u_55 (fun (u_66 : ST) => v_X0_signalsHere (x_sh u_66 1) (fun r_67 => ∃ k_68 : Nat, k_68 < 512 ∧ ((u_66 0 10) - (u_66 0 10) / 512 * 512) = nI k_68 ∧ ∀ M_69 : ST, M_69 = x_st u_66 28 k_68 r_67 → ∀ M_70 : ST, M_70 = x_st M_69 0 10 ((M_69 0 10) + 1) → v_X0_goOn (x_sh M_70 1) (fun (u_71 : ST) => ∀ M_72 : ST, M_72 = x_wb M_70 1 10 u_71 → post M_72))))))) ∧ ((¬ (r_56 = 0)) → v_X3_isTaken u_55 (fun r_73 => (((¬ (r_73 = 0)) → v_X0_isOnDot (x_sh u_55 1) (fun r_75 => (((r_75 = 0) → v_X0_signalsHere (x_sh u_55 1) (fun r_77 => ∃ k_78 : Nat, k_78 < 512 ∧ ((u_55 0 10) - (u_55 0 10) / 512 * 512) = nI k_78 ∧ ∀ M_79 : ST, M_79 = x_st u_55 28 k_78 r_77 → ∀ M_80 : ST, M_80 = x_st M_79 0 10 ((M_79 0 10) + 1) → v_X0_goOn (x_sh M_80 1) (fun (u_81 : ST) => ∀ M_82 : ST, M_82 = x_wb M_80 1 10 u_81 → post M_82))) ∧ ((¬ (r_75 = 0)) → v_X3_makeDot u_55 (fun (u_83 : ST) => v_X0_signalsHere (x_sh u_83 1) (fun r_84 => ∃ k_85 : Nat, k_85 < 512 ∧ ((u_83 0 10) - (u_83 0 10) / 512 * 512) = nI k_85 ∧ ∀ M_86 : ST, M_86 = x_st u_83 28 k_85 r_84 → ∀ M_87 : ST, M_87 = x_st M_86 0 10 ((M_86 0 10) + 1) → v_X0_goOn (x_sh M_87 1) (fun (u_88 : ST) => ∀ M_89 : ST, M_89 = x_wb M_87 1 10 u_88 → post M_89))))))) ∧ ((r_73 = 0) → v_X3_fetchByte u_55 (fun (u_90 : ST) => v_X0_isOnDot (x_sh u_90 1) (fun r_91 => (((r_91 = 0) → v_X0_signalsHere (x_sh u_90 1) (fun r_93 => ∃ k_94 : Nat, k_94 < 512 ∧ ((u_90 0 10) - (u_90 0 10) / 512 * 512) = nI k_94 ∧ ∀ M_95 : ST, M_95 = x_st u_90 28 k_94 r_93 → ∀ M_96 : ST, M_96 = x_st M_95 0 10 ((M_95 0 10) + 1) → v_X0_goOn (x_sh M_96 1) (fun (u_97 : ST) => ∀ M_98 : ST, M_98 = x_wb M_96 1 10 u_97 → post M_98))) ∧ ((¬ (r_91 = 0)) → v_X3_makeDot u_90 (fun (u_99 : ST) => v_X0_signalsHere (x_sh u_99 1) (fun r_100 => ∃ k_101 : Nat, k_101 < 512 ∧ ((u_99 0 10) - (u_99 0 10) / 512 * 512) = nI k_101 ∧ ∀ M_102 : ST, M_102 = x_st u_99 28 k_101 r_100 → ∀ M_103 : ST, M_103 = x_st M_102 0 10 ((M_102 0 10) + 1) → v_X0_goOn (x_sh M_103 1) (fun (u_104 : ST) => ∀ M_105 : ST, M_105 = x_wb M_103 1 10 u_104 → post M_105))))))))))))))))))
set_option maxHeartbeats 4000000 in
set_option maxRecDepth 100000 in
theorem c_X3_tick (l : Launch) (D : va_G) (cT : Nat → ClassId) (a : Nat → Nat) (M : ST) (sz : Nat) (post : ST → Prop) (hv : v_X3_tick M post) : Met l yX3_tick wsX3_tick ({ frames := 5, cells := 0, slots := 0, locals := 106 }) (va_Pc [.ref (a 0)] (x_U D cT ((w_Machine cT a M)) sz)) (va_Qv post (fun u t => x_B D cT ((w_Machine cT a u)) (va_A ((w_Machine cT a M)) sz) t) (va_A ((w_Machine cT a M)) sz)) 0 0 (va_A ((w_Machine cT a M)) sz) := by
  refine Met.ofW (cc := cX3_tick) (maxL := 1) (ret := none) (by decide) rfl ?_
  intro p e s m args below meth c s₁ B hml hpre
  obtain ⟨rfl, hsz, hP, hK, hD0, hN⟩ := hpre
  have hx := B.exec
  have hb := B.bytes
  have hr := B.returns
  have hts := atoms_spec (ws := wsX3_tick) B.pre
  have hown : s.vm.findClass RX3 = some m.cls := findClass_of_methodNamed B.named
  have hlocks := B.notSynchronized
  subst hsz
  have hD := hD0.self (sz := s.heap.size)
  generalize hAe : va_A ((w_Machine cT a M)) s.heap.size = A at hD hN ⊢
  have hA : ∀ q : Nat, s.heap.size ≤ q → A q := fun q h => by rw [← hAe]; exact Or.inr h
  have hS : va_S A s.heap s.heap [] := va_S.rf
  have hl := lv_entry ([.ref (a 0)]) (n := 1) (Nat.le_of_ble_eq_true rfl)
  rw [lg_entry_eq]
  generalize (lg_sl ([.ref (a 0)]) ++ List.replicate (1 - (lg_sl ([.ref (a 0)])).length) Slot.unset).toArray = ls at hl ⊢
  have hl : lv_has ls 1 [(0, .ref (a 0))] := hl
  have in_X0 : ∀ w ∈ wsX00, w ∈ wsX3_tick := by decide +kernel
  have in_X3 : ∀ w ∈ wsX30, w ∈ wsX3_tick := by decide +kernel
  have kf_35 : (Cond.fieldLink RX3 35 "PictureBeats$Machine" "changes" "LPictureBeats$Changes;").before ([.ref (a 0)] : List Value).toArray s = true := hts _ (by decide +kernel)
  have kf_12 : (Cond.fieldLink RX3 12 "PictureBeats$Machine" "beam" "LPictureBeats$Beam;").before ([.ref (a 0)] : List Value).toArray s = true := hts _ (by decide +kernel)
  have kf_72 : (Cond.fieldLink RX3 72 "PictureBeats$Beam" "y" "I").before ([.ref (a 0)] : List Value).toArray s = true := hts _ (by decide +kernel)
  have kf_75 : (Cond.fieldLink RX3 75 "PictureBeats$Beam" "x" "I").before ([.ref (a 0)] : List Value).toArray s = true := hts _ (by decide +kernel)
  have kf_28 : (Cond.fieldLink RX3 28 "PictureBeats$Machine" "registers" "LPictureBeats$Registers;").before ([.ref (a 0)] : List Value).toArray s = true := hts _ (by decide +kernel)
  have w_78 : CallW (headSpec wsX3_tick ({ frames := 5, cells := 0, slots := 0, locals := 106 })).room s ([.ref (a 0)] : List Value).toArray RX3 RX1 78 yX1_apply cX1_apply 5 none wsX1_apply ({ frames := 3, cells := 0, slots := 0, locals := 65 } : Room) 0 0 3 := cwV 3 hts gX3_tick_X1_apply rfl rfl rfl (by decide +kernel) ⟨Nat.le_of_ble_eq_true rfl, Nat.le_of_ble_eq_true rfl⟩
  have w_82 : CallW (headSpec wsX3_tick ({ frames := 5, cells := 0, slots := 0, locals := 106 })).room s ([.ref (a 0)] : List Value).toArray RX3 RX0 82 yX0_isBehindSeen cX0_isBehindSeen 1 (some .boolean) wsX0_isBehindSeen ({ frames := 0, cells := 0, slots := 0, locals := 0 } : Room) 0 0 0 := cwV 0 hts gX3_tick_X0_isBehindSeen rfl rfl rfl (by decide +kernel) ⟨Nat.le_of_ble_eq_true rfl, Nat.le_of_ble_eq_true rfl⟩
  have kf_21 : (Cond.fieldLink RX3 21 "PictureBeats$Machine" "feed" "LPictureBeats$Feed;").before ([.ref (a 0)] : List Value).toArray s = true := hts _ (by decide +kernel)
  have w_89 : CallW (headSpec wsX3_tick ({ frames := 5, cells := 0, slots := 0, locals := 106 })).room s ([.ref (a 0)] : List Value).toArray RX3 RX2 89 yX2_wantsByte cX2_wantsByte 1 (some .boolean) wsX2_wantsByte ({ frames := 0, cells := 0, slots := 0, locals := 0 } : Room) 0 0 0 := cwV 0 hts gX3_tick_X2_wantsByte rfl rfl rfl (by decide +kernel) ⟨Nat.le_of_ble_eq_true rfl, Nat.le_of_ble_eq_true rfl⟩
  have w_98 : CallW (headSpec wsX3_tick ({ frames := 5, cells := 0, slots := 0, locals := 106 })).room s ([.ref (a 0)] : List Value).toArray RX3 RX0 98 yX0_isOnDot cX0_isOnDot 1 (some .boolean) wsX0_isOnDot ({ frames := 1, cells := 0, slots := 0, locals := 21 } : Room) 0 0 0 := cwV 0 hts gX3_tick_X0_isOnDot rfl rfl rfl (by decide +kernel) ⟨Nat.le_of_ble_eq_true rfl, Nat.le_of_ble_eq_true rfl⟩
  have kf_53 : (Cond.fieldLink RX3 53 "PictureBeats$Machine" "signals" "[I").before ([.ref (a 0)] : List Value).toArray s = true := hts _ (by decide +kernel)
  have kf_69 : (Cond.fieldLink RX3 69 "PictureBeats$Machine" "ticks" "I").before ([.ref (a 0)] : List Value).toArray s = true := hts _ (by decide +kernel)
  have w_104 : CallW (headSpec wsX3_tick ({ frames := 5, cells := 0, slots := 0, locals := 106 })).room s ([.ref (a 0)] : List Value).toArray RX3 RX0 104 yX0_signalsHere cX0_signalsHere 1 (some .int) wsX0_signalsHere ({ frames := 2, cells := 0, slots := 0, locals := 41 } : Room) 0 0 0 := cwV 0 hts gX3_tick_X0_signalsHere rfl rfl rfl (by decide +kernel) ⟨Nat.le_of_ble_eq_true rfl, Nat.le_of_ble_eq_true rfl⟩
  have w_108 : CallW (headSpec wsX3_tick ({ frames := 5, cells := 0, slots := 0, locals := 106 })).room s ([.ref (a 0)] : List Value).toArray RX3 RX0 108 yX0_goOn cX0_goOn 1 none wsX0_goOn ({ frames := 3, cells := 0, slots := 0, locals := 66 } : Room) 0 0 0 := cwV 0 hts gX3_tick_X0_goOn rfl rfl rfl (by decide +kernel) ⟨Nat.le_of_ble_eq_true rfl, Nat.le_of_ble_eq_true rfl⟩
  have w_101 : CallW (headSpec wsX3_tick ({ frames := 5, cells := 0, slots := 0, locals := 106 })).room s ([.ref (a 0)] : List Value).toArray RX3 RX3 101 yX3_makeDot cX3_makeDot 5 none wsX3_makeDot ({ frames := 3, cells := 0, slots := 0, locals := 71 } : Room) 0 0 0 := cwV 0 hts gX3_tick_X3_makeDot rfl rfl rfl (by decide +kernel) ⟨Nat.le_of_ble_eq_true rfl, Nat.le_of_ble_eq_true rfl⟩
  have w_92 : CallW (headSpec wsX3_tick ({ frames := 5, cells := 0, slots := 0, locals := 106 })).room s ([.ref (a 0)] : List Value).toArray RX3 RX3 92 yX3_isTaken cX3_isTaken 1 (some .boolean) wsX3_isTaken ({ frames := 0, cells := 0, slots := 0, locals := 0 } : Room) 0 0 0 := cwV 0 hts gX3_tick_X3_isTaken rfl rfl rfl (by decide +kernel) ⟨Nat.le_of_ble_eq_true rfl, Nat.le_of_ble_eq_true rfl⟩
  have w_95 : CallW (headSpec wsX3_tick ({ frames := 5, cells := 0, slots := 0, locals := 106 })).room s ([.ref (a 0)] : List Value).toArray RX3 RX3 95 yX3_fetchByte cX3_fetchByte 2 none wsX3_fetchByte ({ frames := 2, cells := 0, slots := 0, locals := 43 } : Room) 0 0 0 := cwV 0 hts gX3_tick_X3_fetchByte rfl rfl rfl (by decide +kernel) ⟨Nat.le_of_ble_eq_true rfl, Nat.le_of_ble_eq_true rfl⟩
  have w_86 : CallW (headSpec wsX3_tick ({ frames := 5, cells := 0, slots := 0, locals := 106 })).room s ([.ref (a 0)] : List Value).toArray RX3 RX3 86 yX3_turnToNextLine cX3_turnToNextLine 1 none wsX3_turnToNextLine ({ frames := 4, cells := 0, slots := 0, locals := 86 } : Room) 0 0 0 := cwV 0 hts gX3_tick_X3_turnToNextLine rfl rfl rfl (by decide +kernel) ⟨Nat.le_of_ble_eq_true rfl, Nat.le_of_ble_eq_true rfl⟩
  refine lv_aload_n hx hb dX3_tick_0 rfl (lv_at hl 0 rfl) ?_
  refine va_get (D := D) (ci := 3) (v := .ref (a 15)) (C := RX3) (T := TX3) (N := 12) hx hb hts in_X3 hown hK hP 0 rfl rfl 3 (by decide) kf_35 (fun _ h9 => h9) rfl dX3_tick_1 ?_
  refine lv_aload_n hx hb dX3_tick_4 rfl (lv_at hl 0 rfl) ?_
  refine va_get (D := D) (ci := 3) (v := .ref (a 1)) (C := RX3) (T := TX3) (N := 12) hx hb hts in_X3 hown hK hP 0 rfl rfl 0 (by decide) kf_12 (fun _ h9 => h9) rfl dX3_tick_5 ?_
  refine va_get (D := D) (ci := 0) (v := .int (M 1 4)) (C := RX0) (T := TX0) (N := 7) hx hb hts in_X0 hown hK hP 1 rfl rfl 4 (by decide) kf_72 (fun _ h9 => h9) rfl dX3_tick_8 ?_
  refine lv_aload_n hx hb dX3_tick_11 rfl (lv_at hl 0 rfl) ?_
  refine va_get (D := D) (ci := 3) (v := .ref (a 1)) (C := RX3) (T := TX3) (N := 12) hx hb hts in_X3 hown hK hP 0 rfl rfl 0 (by decide) kf_12 (fun _ h9 => h9) rfl dX3_tick_12 ?_
  refine va_get (D := D) (ci := 0) (v := .int (M 1 3)) (C := RX0) (T := TX0) (N := 7) hx hb hts in_X0 hown hK hP 1 rfl rfl 3 (by decide) kf_75 (fun _ h9 => h9) rfl dX3_tick_15 ?_
  refine lv_aload_n hx hb dX3_tick_18 rfl (lv_at hl 0 rfl) ?_
  refine va_get (D := D) (ci := 3) (v := .ref (a 13)) (C := RX3) (T := TX3) (N := 12) hx hb hts in_X3 hown hK hP 0 rfl rfl 2 (by decide) kf_28 (fun _ h9 => h9) rfl dX3_tick_19 ?_
  refine x_cVv (As := [.int (M 1 4), .int (M 1 3), .ref (a 13)]) (rest := []) (wn := fun u_1 => (w_Machine cT a (x_wb M 13 2 u_1))) ⟨hx, hb, hml, hown, hts⟩ (c_X1_apply l D cT (x_sh a 15) (x_sh M 15) (x_sh a 13) (x_sh M 13) (M 1 4) (M 1 3) _ _ hv) w_78 hK hP hD hS hA hN [15, 16, 17, 18, 19, 13, 14] [0, 1, 2, 3, 4, 5, 6, 7, 8, 9, 10, 11, 12, 20, 21, 22, 23, 24, 25, 26, 27, 28] [0, 1, 2, 3, 4, 5, 6, 7, 8, 9, 10, 11, 12, 27, 28, 22, 23, 24, 25, 26, 13, 14, 15, 16, 17, 18, 19, 20, 21] rfl rfl (fun _ => rfl) (by decide) (by decide) (by decide) (by decide) 1 0 rfl rfl rfl hl.1 rfl (Nat.le_of_ble_eq_true rfl) dX3_tick_22 ⟨Nat.le_of_ble_eq_true rfl, Nat.le_of_ble_eq_true rfl⟩ (fun u_1 H locs hv hP hD hS => ?_)
  obtain ⟨M_2, eM_2⟩ : ∃ z : ST, z = x_wb M 13 2 u_1 := ⟨_, rfl⟩
  have hP : va_P D vwCl ((w_Machine cT a M_2)) H := by rw [eM_2]; exact hP
  have hD : va_D A ((w_Machine cT a M_2)) := by rw [eM_2]; exact hD
  have hv := hv M_2 eM_2
  refine lv_aload_n hx hb dX3_tick_25 rfl (lv_at hl 0 rfl) ?_
  refine va_get (D := D) (ci := 3) (v := .ref (a 1)) (C := RX3) (T := TX3) (N := 12) hx hb hts in_X3 hown hK hP 0 rfl rfl 0 (by decide) kf_12 (fun _ h9 => h9) rfl dX3_tick_26 ?_
  refine x_rV (As := []) (rest := []) ⟨hx, hb, hml, hown, hts⟩ (c_X0_isBehindSeen l D cT (x_sh a 1) (x_sh M_2 1) _ hv) w_82 hK hP hS hN [1, 2, 3, 4, 5, 6, 7, 8, 9, 10] rfl 0 0 rfl rfl rfl hl.1 rfl (Nat.le_of_ble_eq_true rfl) dX3_tick_29 ⟨Nat.le_of_ble_eq_true rfl, Nat.le_of_ble_eq_true rfl⟩ (fun r_3 hv => ?_)
  refine lv_if_eq (tgt := 39) hx hb dX3_tick_32 (by decide) (fun c_4 => ?_) (fun c_4 => ?_)
  · have hv := hv.1 c_4
    refine lv_aload_n hx hb dX3_tick_39 rfl (lv_at hl 0 rfl) ?_
    refine va_get (D := D) (ci := 3) (v := .ref (a 11)) (C := RX3) (T := TX3) (N := 12) hx hb hts in_X3 hown hK hP 0 rfl rfl 1 (by decide) kf_21 (fun _ h9 => h9) rfl dX3_tick_40 ?_
    refine x_rV (As := []) (rest := []) ⟨hx, hb, hml, hown, hts⟩ (c_X2_wantsByte l D cT (x_sh a 11) (x_sh M_2 11) _ hv) w_89 hK hP hS hN [11, 12] rfl 2 0 rfl rfl rfl hl.1 rfl (Nat.le_of_ble_eq_true rfl) dX3_tick_43 ⟨Nat.le_of_ble_eq_true rfl, Nat.le_of_ble_eq_true rfl⟩ (fun r_5 hv => ?_)
    refine lv_if_eq (tgt := 60) hx hb dX3_tick_46 (by decide) (fun c_6 => ?_) (fun c_6 => ?_)
    · have hv := hv.1 c_6
      refine lv_aload_n hx hb dX3_tick_60 rfl (lv_at hl 0 rfl) ?_
      refine va_get (D := D) (ci := 3) (v := .ref (a 1)) (C := RX3) (T := TX3) (N := 12) hx hb hts in_X3 hown hK hP 0 rfl rfl 0 (by decide) kf_12 (fun _ h9 => h9) rfl dX3_tick_61 ?_
      refine x_rV (As := []) (rest := []) ⟨hx, hb, hml, hown, hts⟩ (c_X0_isOnDot l D cT (x_sh a 1) (x_sh M_2 1) _ hv) w_98 hK hP hS hN [1, 2, 3, 4, 5, 6, 7, 8, 9, 10] rfl 0 0 rfl rfl rfl hl.1 rfl (Nat.le_of_ble_eq_true rfl) dX3_tick_64 ⟨Nat.le_of_ble_eq_true rfl, Nat.le_of_ble_eq_true rfl⟩ (fun r_7 hv => ?_)
      refine lv_if_eq (tgt := 74) hx hb dX3_tick_67 (by decide) (fun c_8 => ?_) (fun c_8 => ?_)
      · have hv := hv.1 c_8
        refine lv_aload_n hx hb dX3_tick_74 rfl (lv_at hl 0 rfl) ?_
        refine va_get (D := D) (ci := 3) (v := .ref (a 28)) (C := RX3) (T := TX3) (N := 12) hx hb hts in_X3 hown hK hP 0 rfl rfl 7 (by decide) kf_53 (fun _ h9 => h9) rfl dX3_tick_75 ?_
        refine lv_aload_n hx hb dX3_tick_78 rfl (lv_at hl 0 rfl) ?_
        refine va_get (D := D) (ci := 3) (v := .int (M_2 0 10)) (C := RX3) (T := TX3) (N := 12) hx hb hts in_X3 hown hK hP 0 rfl rfl 10 (by decide) kf_69 (fun _ h9 => h9) rfl dX3_tick_79 ?_
        refine lv_sipush (v := 512) hx hb dX3_tick_82 (by decide) ?_
        refine lv_irem hx hb dX3_tick_85 (by decide) ?_
        refine lv_aload_n hx hb dX3_tick_86 rfl (lv_at hl 0 rfl) ?_
        refine va_get (D := D) (ci := 3) (v := .ref (a 1)) (C := RX3) (T := TX3) (N := 12) hx hb hts in_X3 hown hK hP 0 rfl rfl 0 (by decide) kf_12 (fun _ h9 => h9) rfl dX3_tick_87 ?_
        refine x_rV (As := []) (rest := [.int ((M_2 0 10) - (M_2 0 10) / 512 * 512), .ref (a 28)]) ⟨hx, hb, hml, hown, hts⟩ (c_X0_signalsHere l D cT (x_sh a 1) (x_sh M_2 1) _ hv) w_104 hK hP hS hN [1, 2, 3, 4, 5, 6, 7, 8, 9, 10] rfl 0 0 rfl rfl rfl hl.1 rfl (Nat.le_of_ble_eq_true rfl) dX3_tick_90 ⟨Nat.le_of_ble_eq_true rfl, Nat.le_of_ble_eq_true rfl⟩ (fun r_9 hv => ?_)
        obtain ⟨k_10, hk_10, ik_10, hv⟩ := hv
        refine x_ast hx hb hK hP hD hS 28 0 rfl rfl k_10 ik_10 hk_10 (by decide) dX3_tick_93 (fun H locs hP hD hS => ?_)
        obtain ⟨M_11, eM_11⟩ : ∃ z : ST, z = x_st M_2 28 k_10 r_9 := ⟨_, rfl⟩
        have hP : va_P D vwCl ((w_Machine cT a M_11)) H := by rw [eM_11]; exact hP
        have hD : va_D A ((w_Machine cT a M_11)) := by rw [eM_11]; exact hD
        have hv := hv M_11 eM_11
        refine lv_aload_n hx hb dX3_tick_94 rfl (lv_at hl 0 rfl) ?_
        refine lv_dup hx hb dX3_tick_95 rfl ?_
        refine va_get (D := D) (ci := 3) (v := .int (M_11 0 10)) (C := RX3) (T := TX3) (N := 12) hx hb hts in_X3 hown hK hP 0 rfl rfl 10 (by decide) kf_69 (fun _ h9 => h9) rfl dX3_tick_96 ?_
        refine lv_iconst (v := 1) hx hb dX3_tick_99 (by decide) ?_
        refine lv_iadd hx hb dX3_tick_100 ?_
        refine va_put (D := D) (ci := 3) (v := .int ((M_11 0 10) + 1)) (ty := .int) (C := RX3) (T := TX3) (N := 12) hx hb hts in_X3 tyX3 tyX3_ok nmX3 hown hK hP hD hS 0 rfl rfl 10 (by decide) kf_69 (fun _ h9 => h9) rfl (by decide +kernel) rfl rfl (Nat.le_of_ble_eq_true rfl) dX3_tick_101 (fun H locs hP hD hS => ?_)
        obtain ⟨M_12, eM_12⟩ : ∃ z : ST, z = x_st M_11 0 10 ((M_11 0 10) + 1) := ⟨_, rfl⟩
        have hP : va_P D vwCl ((w_Machine cT a M_12)) H := by rw [eM_12]; exact hP
        have hD : va_D A ((w_Machine cT a M_12)) := by rw [eM_12]; exact hD
        have hv := hv M_12 eM_12
        refine lv_aload_n hx hb dX3_tick_104 rfl (lv_at hl 0 rfl) ?_
        refine va_get (D := D) (ci := 3) (v := .ref (a 1)) (C := RX3) (T := TX3) (N := 12) hx hb hts in_X3 hown hK hP 0 rfl rfl 0 (by decide) kf_12 (fun _ h9 => h9) rfl dX3_tick_105 ?_
        refine x_cVv (As := []) (rest := []) (wn := fun u_13 => (w_Machine cT a (x_wb M_12 1 10 u_13))) ⟨hx, hb, hml, hown, hts⟩ (c_X0_goOn l D cT (x_sh a 1) (x_sh M_12 1) _ _ hv) w_108 hK hP hD hS hA hN [1, 2, 3, 4, 5, 6, 7, 8, 9, 10] [0, 11, 12, 13, 14, 15, 16, 17, 18, 19, 20, 21, 22, 23, 24, 25, 26, 27, 28] [0, 19, 20, 21, 22, 23, 24, 25, 26, 27, 28, 1, 2, 3, 4, 5, 6, 7, 8, 9, 10, 11, 12, 13, 14, 15, 16, 17, 18] rfl rfl (fun _ => rfl) (by decide) (by decide) (by decide) (by decide) 0 0 rfl rfl rfl hl.1 rfl (Nat.le_of_ble_eq_true rfl) dX3_tick_108 ⟨Nat.le_of_ble_eq_true rfl, Nat.le_of_ble_eq_true rfl⟩ (fun u_13 H locs hv hP hD hS => ?_)
        obtain ⟨M_14, eM_14⟩ : ∃ z : ST, z = x_wb M_12 1 10 u_13 := ⟨_, rfl⟩
        have hP : va_P D vwCl ((w_Machine cT a M_14)) H := by rw [eM_14]; exact hP
        have hD : va_D A ((w_Machine cT a M_14)) := by rw [eM_14]; exact hD
        have hv := hv M_14 eM_14
        exact W.vret hx hb hr (fun t ht hW => ⟨⟨M_14, rfl, hv, by rw [ht]; exact hP, va_K.moved hW.alike hK, hD⟩, hS.F ht⟩) hS.2.2 dX3_tick_111
      · have hv := hv.2 c_8
        refine lv_aload_n hx hb dX3_tick_70 rfl (lv_at hl 0 rfl) ?_
        refine x_cVv (As := []) (rest := []) (wn := fun u_15 => (w_Machine cT a u_15)) ⟨hx, hb, hml, hown, hts⟩ (c_X3_makeDot l D cT a M_2 _ _ hv) w_101 hK hP hD hS hA hN [0, 1, 2, 3, 4, 5, 6, 7, 8, 9, 10, 11, 12, 13, 14, 15, 16, 17, 18, 19, 20, 21, 22, 23, 24, 25, 26, 27, 28] [] [0, 1, 2, 3, 4, 5, 6, 7, 8, 9, 10, 11, 12, 13, 14, 15, 16, 17, 18, 19, 20, 21, 22, 23, 24, 25, 26, 27, 28] rfl rfl (fun _ => rfl) (by decide) (by decide) (by decide) (by decide) 3 0 rfl rfl rfl hl.1 rfl (Nat.le_of_ble_eq_true rfl) dX3_tick_71 ⟨Nat.le_of_ble_eq_true rfl, Nat.le_of_ble_eq_true rfl⟩ (fun u_15 H locs hv hP hD hS => ?_)
        refine lv_aload_n hx hb dX3_tick_74 rfl (lv_at hl 0 rfl) ?_
        refine va_get (D := D) (ci := 3) (v := .ref (a 28)) (C := RX3) (T := TX3) (N := 12) hx hb hts in_X3 hown hK hP 0 rfl rfl 7 (by decide) kf_53 (fun _ h9 => h9) rfl dX3_tick_75 ?_
        refine lv_aload_n hx hb dX3_tick_78 rfl (lv_at hl 0 rfl) ?_
        refine va_get (D := D) (ci := 3) (v := .int (u_15 0 10)) (C := RX3) (T := TX3) (N := 12) hx hb hts in_X3 hown hK hP 0 rfl rfl 10 (by decide) kf_69 (fun _ h9 => h9) rfl dX3_tick_79 ?_
        refine lv_sipush (v := 512) hx hb dX3_tick_82 (by decide) ?_
        refine lv_irem hx hb dX3_tick_85 (by decide) ?_
        refine lv_aload_n hx hb dX3_tick_86 rfl (lv_at hl 0 rfl) ?_
        refine va_get (D := D) (ci := 3) (v := .ref (a 1)) (C := RX3) (T := TX3) (N := 12) hx hb hts in_X3 hown hK hP 0 rfl rfl 0 (by decide) kf_12 (fun _ h9 => h9) rfl dX3_tick_87 ?_
        refine x_rV (As := []) (rest := [.int ((u_15 0 10) - (u_15 0 10) / 512 * 512), .ref (a 28)]) ⟨hx, hb, hml, hown, hts⟩ (c_X0_signalsHere l D cT (x_sh a 1) (x_sh u_15 1) _ hv) w_104 hK hP hS hN [1, 2, 3, 4, 5, 6, 7, 8, 9, 10] rfl 0 0 rfl rfl rfl hl.1 rfl (Nat.le_of_ble_eq_true rfl) dX3_tick_90 ⟨Nat.le_of_ble_eq_true rfl, Nat.le_of_ble_eq_true rfl⟩ (fun r_16 hv => ?_)
        obtain ⟨k_17, hk_17, ik_17, hv⟩ := hv
        refine x_ast hx hb hK hP hD hS 28 0 rfl rfl k_17 ik_17 hk_17 (by decide) dX3_tick_93 (fun H locs hP hD hS => ?_)
        obtain ⟨M_18, eM_18⟩ : ∃ z : ST, z = x_st u_15 28 k_17 r_16 := ⟨_, rfl⟩
        have hP : va_P D vwCl ((w_Machine cT a M_18)) H := by rw [eM_18]; exact hP
        have hD : va_D A ((w_Machine cT a M_18)) := by rw [eM_18]; exact hD
        have hv := hv M_18 eM_18
        refine lv_aload_n hx hb dX3_tick_94 rfl (lv_at hl 0 rfl) ?_
        refine lv_dup hx hb dX3_tick_95 rfl ?_
        refine va_get (D := D) (ci := 3) (v := .int (M_18 0 10)) (C := RX3) (T := TX3) (N := 12) hx hb hts in_X3 hown hK hP 0 rfl rfl 10 (by decide) kf_69 (fun _ h9 => h9) rfl dX3_tick_96 ?_
        refine lv_iconst (v := 1) hx hb dX3_tick_99 (by decide) ?_
        refine lv_iadd hx hb dX3_tick_100 ?_
        refine va_put (D := D) (ci := 3) (v := .int ((M_18 0 10) + 1)) (ty := .int) (C := RX3) (T := TX3) (N := 12) hx hb hts in_X3 tyX3 tyX3_ok nmX3 hown hK hP hD hS 0 rfl rfl 10 (by decide) kf_69 (fun _ h9 => h9) rfl (by decide +kernel) rfl rfl (Nat.le_of_ble_eq_true rfl) dX3_tick_101 (fun H locs hP hD hS => ?_)
        obtain ⟨M_19, eM_19⟩ : ∃ z : ST, z = x_st M_18 0 10 ((M_18 0 10) + 1) := ⟨_, rfl⟩
        have hP : va_P D vwCl ((w_Machine cT a M_19)) H := by rw [eM_19]; exact hP
        have hD : va_D A ((w_Machine cT a M_19)) := by rw [eM_19]; exact hD
        have hv := hv M_19 eM_19
        refine lv_aload_n hx hb dX3_tick_104 rfl (lv_at hl 0 rfl) ?_
        refine va_get (D := D) (ci := 3) (v := .ref (a 1)) (C := RX3) (T := TX3) (N := 12) hx hb hts in_X3 hown hK hP 0 rfl rfl 0 (by decide) kf_12 (fun _ h9 => h9) rfl dX3_tick_105 ?_
        refine x_cVv (As := []) (rest := []) (wn := fun u_20 => (w_Machine cT a (x_wb M_19 1 10 u_20))) ⟨hx, hb, hml, hown, hts⟩ (c_X0_goOn l D cT (x_sh a 1) (x_sh M_19 1) _ _ hv) w_108 hK hP hD hS hA hN [1, 2, 3, 4, 5, 6, 7, 8, 9, 10] [0, 11, 12, 13, 14, 15, 16, 17, 18, 19, 20, 21, 22, 23, 24, 25, 26, 27, 28] [0, 19, 20, 21, 22, 23, 24, 25, 26, 27, 28, 1, 2, 3, 4, 5, 6, 7, 8, 9, 10, 11, 12, 13, 14, 15, 16, 17, 18] rfl rfl (fun _ => rfl) (by decide) (by decide) (by decide) (by decide) 0 0 rfl rfl rfl hl.1 rfl (Nat.le_of_ble_eq_true rfl) dX3_tick_108 ⟨Nat.le_of_ble_eq_true rfl, Nat.le_of_ble_eq_true rfl⟩ (fun u_20 H locs hv hP hD hS => ?_)
        obtain ⟨M_21, eM_21⟩ : ∃ z : ST, z = x_wb M_19 1 10 u_20 := ⟨_, rfl⟩
        have hP : va_P D vwCl ((w_Machine cT a M_21)) H := by rw [eM_21]; exact hP
        have hD : va_D A ((w_Machine cT a M_21)) := by rw [eM_21]; exact hD
        have hv := hv M_21 eM_21
        exact W.vret hx hb hr (fun t ht hW => ⟨⟨M_21, rfl, hv, by rw [ht]; exact hP, va_K.moved hW.alike hK, hD⟩, hS.F ht⟩) hS.2.2 dX3_tick_111
    · have hv := hv.2 c_6
      refine lv_aload_n hx hb dX3_tick_49 rfl (lv_at hl 0 rfl) ?_
      refine x_rV (As := []) (rest := []) ⟨hx, hb, hml, hown, hts⟩ (c_X3_isTaken l D cT a M_2 _ hv) w_92 hK hP hS hN [0, 1, 2, 3, 4, 5, 6, 7, 8, 9, 10, 11, 12, 13, 14, 15, 16, 17, 18, 19, 20, 21, 22, 23, 24, 25, 26, 27, 28] rfl 3 0 rfl rfl rfl hl.1 rfl (Nat.le_of_ble_eq_true rfl) dX3_tick_50 ⟨Nat.le_of_ble_eq_true rfl, Nat.le_of_ble_eq_true rfl⟩ (fun r_22 hv => ?_)
      refine lv_if_ne (tgt := 60) hx hb dX3_tick_53 (by decide) (fun c_23 => ?_) (fun c_23 => ?_)
      · have hv := hv.1 c_23
        refine lv_aload_n hx hb dX3_tick_60 rfl (lv_at hl 0 rfl) ?_
        refine va_get (D := D) (ci := 3) (v := .ref (a 1)) (C := RX3) (T := TX3) (N := 12) hx hb hts in_X3 hown hK hP 0 rfl rfl 0 (by decide) kf_12 (fun _ h9 => h9) rfl dX3_tick_61 ?_
        refine x_rV (As := []) (rest := []) ⟨hx, hb, hml, hown, hts⟩ (c_X0_isOnDot l D cT (x_sh a 1) (x_sh M_2 1) _ hv) w_98 hK hP hS hN [1, 2, 3, 4, 5, 6, 7, 8, 9, 10] rfl 0 0 rfl rfl rfl hl.1 rfl (Nat.le_of_ble_eq_true rfl) dX3_tick_64 ⟨Nat.le_of_ble_eq_true rfl, Nat.le_of_ble_eq_true rfl⟩ (fun r_24 hv => ?_)
        refine lv_if_eq (tgt := 74) hx hb dX3_tick_67 (by decide) (fun c_25 => ?_) (fun c_25 => ?_)
        · have hv := hv.1 c_25
          refine lv_aload_n hx hb dX3_tick_74 rfl (lv_at hl 0 rfl) ?_
          refine va_get (D := D) (ci := 3) (v := .ref (a 28)) (C := RX3) (T := TX3) (N := 12) hx hb hts in_X3 hown hK hP 0 rfl rfl 7 (by decide) kf_53 (fun _ h9 => h9) rfl dX3_tick_75 ?_
          refine lv_aload_n hx hb dX3_tick_78 rfl (lv_at hl 0 rfl) ?_
          refine va_get (D := D) (ci := 3) (v := .int (M_2 0 10)) (C := RX3) (T := TX3) (N := 12) hx hb hts in_X3 hown hK hP 0 rfl rfl 10 (by decide) kf_69 (fun _ h9 => h9) rfl dX3_tick_79 ?_
          refine lv_sipush (v := 512) hx hb dX3_tick_82 (by decide) ?_
          refine lv_irem hx hb dX3_tick_85 (by decide) ?_
          refine lv_aload_n hx hb dX3_tick_86 rfl (lv_at hl 0 rfl) ?_
          refine va_get (D := D) (ci := 3) (v := .ref (a 1)) (C := RX3) (T := TX3) (N := 12) hx hb hts in_X3 hown hK hP 0 rfl rfl 0 (by decide) kf_12 (fun _ h9 => h9) rfl dX3_tick_87 ?_
          refine x_rV (As := []) (rest := [.int ((M_2 0 10) - (M_2 0 10) / 512 * 512), .ref (a 28)]) ⟨hx, hb, hml, hown, hts⟩ (c_X0_signalsHere l D cT (x_sh a 1) (x_sh M_2 1) _ hv) w_104 hK hP hS hN [1, 2, 3, 4, 5, 6, 7, 8, 9, 10] rfl 0 0 rfl rfl rfl hl.1 rfl (Nat.le_of_ble_eq_true rfl) dX3_tick_90 ⟨Nat.le_of_ble_eq_true rfl, Nat.le_of_ble_eq_true rfl⟩ (fun r_26 hv => ?_)
          obtain ⟨k_27, hk_27, ik_27, hv⟩ := hv
          refine x_ast hx hb hK hP hD hS 28 0 rfl rfl k_27 ik_27 hk_27 (by decide) dX3_tick_93 (fun H locs hP hD hS => ?_)
          obtain ⟨M_28, eM_28⟩ : ∃ z : ST, z = x_st M_2 28 k_27 r_26 := ⟨_, rfl⟩
          have hP : va_P D vwCl ((w_Machine cT a M_28)) H := by rw [eM_28]; exact hP
          have hD : va_D A ((w_Machine cT a M_28)) := by rw [eM_28]; exact hD
          have hv := hv M_28 eM_28
          refine lv_aload_n hx hb dX3_tick_94 rfl (lv_at hl 0 rfl) ?_
          refine lv_dup hx hb dX3_tick_95 rfl ?_
          refine va_get (D := D) (ci := 3) (v := .int (M_28 0 10)) (C := RX3) (T := TX3) (N := 12) hx hb hts in_X3 hown hK hP 0 rfl rfl 10 (by decide) kf_69 (fun _ h9 => h9) rfl dX3_tick_96 ?_
          refine lv_iconst (v := 1) hx hb dX3_tick_99 (by decide) ?_
          refine lv_iadd hx hb dX3_tick_100 ?_
          refine va_put (D := D) (ci := 3) (v := .int ((M_28 0 10) + 1)) (ty := .int) (C := RX3) (T := TX3) (N := 12) hx hb hts in_X3 tyX3 tyX3_ok nmX3 hown hK hP hD hS 0 rfl rfl 10 (by decide) kf_69 (fun _ h9 => h9) rfl (by decide +kernel) rfl rfl (Nat.le_of_ble_eq_true rfl) dX3_tick_101 (fun H locs hP hD hS => ?_)
          obtain ⟨M_29, eM_29⟩ : ∃ z : ST, z = x_st M_28 0 10 ((M_28 0 10) + 1) := ⟨_, rfl⟩
          have hP : va_P D vwCl ((w_Machine cT a M_29)) H := by rw [eM_29]; exact hP
          have hD : va_D A ((w_Machine cT a M_29)) := by rw [eM_29]; exact hD
          have hv := hv M_29 eM_29
          refine lv_aload_n hx hb dX3_tick_104 rfl (lv_at hl 0 rfl) ?_
          refine va_get (D := D) (ci := 3) (v := .ref (a 1)) (C := RX3) (T := TX3) (N := 12) hx hb hts in_X3 hown hK hP 0 rfl rfl 0 (by decide) kf_12 (fun _ h9 => h9) rfl dX3_tick_105 ?_
          refine x_cVv (As := []) (rest := []) (wn := fun u_30 => (w_Machine cT a (x_wb M_29 1 10 u_30))) ⟨hx, hb, hml, hown, hts⟩ (c_X0_goOn l D cT (x_sh a 1) (x_sh M_29 1) _ _ hv) w_108 hK hP hD hS hA hN [1, 2, 3, 4, 5, 6, 7, 8, 9, 10] [0, 11, 12, 13, 14, 15, 16, 17, 18, 19, 20, 21, 22, 23, 24, 25, 26, 27, 28] [0, 19, 20, 21, 22, 23, 24, 25, 26, 27, 28, 1, 2, 3, 4, 5, 6, 7, 8, 9, 10, 11, 12, 13, 14, 15, 16, 17, 18] rfl rfl (fun _ => rfl) (by decide) (by decide) (by decide) (by decide) 0 0 rfl rfl rfl hl.1 rfl (Nat.le_of_ble_eq_true rfl) dX3_tick_108 ⟨Nat.le_of_ble_eq_true rfl, Nat.le_of_ble_eq_true rfl⟩ (fun u_30 H locs hv hP hD hS => ?_)
          obtain ⟨M_31, eM_31⟩ : ∃ z : ST, z = x_wb M_29 1 10 u_30 := ⟨_, rfl⟩
          have hP : va_P D vwCl ((w_Machine cT a M_31)) H := by rw [eM_31]; exact hP
          have hD : va_D A ((w_Machine cT a M_31)) := by rw [eM_31]; exact hD
          have hv := hv M_31 eM_31
          exact W.vret hx hb hr (fun t ht hW => ⟨⟨M_31, rfl, hv, by rw [ht]; exact hP, va_K.moved hW.alike hK, hD⟩, hS.F ht⟩) hS.2.2 dX3_tick_111
        · have hv := hv.2 c_25
          refine lv_aload_n hx hb dX3_tick_70 rfl (lv_at hl 0 rfl) ?_
          refine x_cVv (As := []) (rest := []) (wn := fun u_32 => (w_Machine cT a u_32)) ⟨hx, hb, hml, hown, hts⟩ (c_X3_makeDot l D cT a M_2 _ _ hv) w_101 hK hP hD hS hA hN [0, 1, 2, 3, 4, 5, 6, 7, 8, 9, 10, 11, 12, 13, 14, 15, 16, 17, 18, 19, 20, 21, 22, 23, 24, 25, 26, 27, 28] [] [0, 1, 2, 3, 4, 5, 6, 7, 8, 9, 10, 11, 12, 13, 14, 15, 16, 17, 18, 19, 20, 21, 22, 23, 24, 25, 26, 27, 28] rfl rfl (fun _ => rfl) (by decide) (by decide) (by decide) (by decide) 3 0 rfl rfl rfl hl.1 rfl (Nat.le_of_ble_eq_true rfl) dX3_tick_71 ⟨Nat.le_of_ble_eq_true rfl, Nat.le_of_ble_eq_true rfl⟩ (fun u_32 H locs hv hP hD hS => ?_)
          refine lv_aload_n hx hb dX3_tick_74 rfl (lv_at hl 0 rfl) ?_
          refine va_get (D := D) (ci := 3) (v := .ref (a 28)) (C := RX3) (T := TX3) (N := 12) hx hb hts in_X3 hown hK hP 0 rfl rfl 7 (by decide) kf_53 (fun _ h9 => h9) rfl dX3_tick_75 ?_
          refine lv_aload_n hx hb dX3_tick_78 rfl (lv_at hl 0 rfl) ?_
          refine va_get (D := D) (ci := 3) (v := .int (u_32 0 10)) (C := RX3) (T := TX3) (N := 12) hx hb hts in_X3 hown hK hP 0 rfl rfl 10 (by decide) kf_69 (fun _ h9 => h9) rfl dX3_tick_79 ?_
          refine lv_sipush (v := 512) hx hb dX3_tick_82 (by decide) ?_
          refine lv_irem hx hb dX3_tick_85 (by decide) ?_
          refine lv_aload_n hx hb dX3_tick_86 rfl (lv_at hl 0 rfl) ?_
          refine va_get (D := D) (ci := 3) (v := .ref (a 1)) (C := RX3) (T := TX3) (N := 12) hx hb hts in_X3 hown hK hP 0 rfl rfl 0 (by decide) kf_12 (fun _ h9 => h9) rfl dX3_tick_87 ?_
          refine x_rV (As := []) (rest := [.int ((u_32 0 10) - (u_32 0 10) / 512 * 512), .ref (a 28)]) ⟨hx, hb, hml, hown, hts⟩ (c_X0_signalsHere l D cT (x_sh a 1) (x_sh u_32 1) _ hv) w_104 hK hP hS hN [1, 2, 3, 4, 5, 6, 7, 8, 9, 10] rfl 0 0 rfl rfl rfl hl.1 rfl (Nat.le_of_ble_eq_true rfl) dX3_tick_90 ⟨Nat.le_of_ble_eq_true rfl, Nat.le_of_ble_eq_true rfl⟩ (fun r_33 hv => ?_)
          obtain ⟨k_34, hk_34, ik_34, hv⟩ := hv
          refine x_ast hx hb hK hP hD hS 28 0 rfl rfl k_34 ik_34 hk_34 (by decide) dX3_tick_93 (fun H locs hP hD hS => ?_)
          obtain ⟨M_35, eM_35⟩ : ∃ z : ST, z = x_st u_32 28 k_34 r_33 := ⟨_, rfl⟩
          have hP : va_P D vwCl ((w_Machine cT a M_35)) H := by rw [eM_35]; exact hP
          have hD : va_D A ((w_Machine cT a M_35)) := by rw [eM_35]; exact hD
          have hv := hv M_35 eM_35
          refine lv_aload_n hx hb dX3_tick_94 rfl (lv_at hl 0 rfl) ?_
          refine lv_dup hx hb dX3_tick_95 rfl ?_
          refine va_get (D := D) (ci := 3) (v := .int (M_35 0 10)) (C := RX3) (T := TX3) (N := 12) hx hb hts in_X3 hown hK hP 0 rfl rfl 10 (by decide) kf_69 (fun _ h9 => h9) rfl dX3_tick_96 ?_
          refine lv_iconst (v := 1) hx hb dX3_tick_99 (by decide) ?_
          refine lv_iadd hx hb dX3_tick_100 ?_
          refine va_put (D := D) (ci := 3) (v := .int ((M_35 0 10) + 1)) (ty := .int) (C := RX3) (T := TX3) (N := 12) hx hb hts in_X3 tyX3 tyX3_ok nmX3 hown hK hP hD hS 0 rfl rfl 10 (by decide) kf_69 (fun _ h9 => h9) rfl (by decide +kernel) rfl rfl (Nat.le_of_ble_eq_true rfl) dX3_tick_101 (fun H locs hP hD hS => ?_)
          obtain ⟨M_36, eM_36⟩ : ∃ z : ST, z = x_st M_35 0 10 ((M_35 0 10) + 1) := ⟨_, rfl⟩
          have hP : va_P D vwCl ((w_Machine cT a M_36)) H := by rw [eM_36]; exact hP
          have hD : va_D A ((w_Machine cT a M_36)) := by rw [eM_36]; exact hD
          have hv := hv M_36 eM_36
          refine lv_aload_n hx hb dX3_tick_104 rfl (lv_at hl 0 rfl) ?_
          refine va_get (D := D) (ci := 3) (v := .ref (a 1)) (C := RX3) (T := TX3) (N := 12) hx hb hts in_X3 hown hK hP 0 rfl rfl 0 (by decide) kf_12 (fun _ h9 => h9) rfl dX3_tick_105 ?_
          refine x_cVv (As := []) (rest := []) (wn := fun u_37 => (w_Machine cT a (x_wb M_36 1 10 u_37))) ⟨hx, hb, hml, hown, hts⟩ (c_X0_goOn l D cT (x_sh a 1) (x_sh M_36 1) _ _ hv) w_108 hK hP hD hS hA hN [1, 2, 3, 4, 5, 6, 7, 8, 9, 10] [0, 11, 12, 13, 14, 15, 16, 17, 18, 19, 20, 21, 22, 23, 24, 25, 26, 27, 28] [0, 19, 20, 21, 22, 23, 24, 25, 26, 27, 28, 1, 2, 3, 4, 5, 6, 7, 8, 9, 10, 11, 12, 13, 14, 15, 16, 17, 18] rfl rfl (fun _ => rfl) (by decide) (by decide) (by decide) (by decide) 0 0 rfl rfl rfl hl.1 rfl (Nat.le_of_ble_eq_true rfl) dX3_tick_108 ⟨Nat.le_of_ble_eq_true rfl, Nat.le_of_ble_eq_true rfl⟩ (fun u_37 H locs hv hP hD hS => ?_)
          obtain ⟨M_38, eM_38⟩ : ∃ z : ST, z = x_wb M_36 1 10 u_37 := ⟨_, rfl⟩
          have hP : va_P D vwCl ((w_Machine cT a M_38)) H := by rw [eM_38]; exact hP
          have hD : va_D A ((w_Machine cT a M_38)) := by rw [eM_38]; exact hD
          have hv := hv M_38 eM_38
          exact W.vret hx hb hr (fun t ht hW => ⟨⟨M_38, rfl, hv, by rw [ht]; exact hP, va_K.moved hW.alike hK, hD⟩, hS.F ht⟩) hS.2.2 dX3_tick_111
      · have hv := hv.2 c_23
        refine lv_aload_n hx hb dX3_tick_56 rfl (lv_at hl 0 rfl) ?_
        refine x_cVv (As := []) (rest := []) (wn := fun u_39 => (w_Machine cT a u_39)) ⟨hx, hb, hml, hown, hts⟩ (c_X3_fetchByte l D cT a M_2 _ _ hv) w_95 hK hP hD hS hA hN [0, 1, 2, 3, 4, 5, 6, 7, 8, 9, 10, 11, 12, 13, 14, 15, 16, 17, 18, 19, 20, 21, 22, 23, 24, 25, 26, 27, 28] [] [0, 1, 2, 3, 4, 5, 6, 7, 8, 9, 10, 11, 12, 13, 14, 15, 16, 17, 18, 19, 20, 21, 22, 23, 24, 25, 26, 27, 28] rfl rfl (fun _ => rfl) (by decide) (by decide) (by decide) (by decide) 3 0 rfl rfl rfl hl.1 rfl (Nat.le_of_ble_eq_true rfl) dX3_tick_57 ⟨Nat.le_of_ble_eq_true rfl, Nat.le_of_ble_eq_true rfl⟩ (fun u_39 H locs hv hP hD hS => ?_)
        refine lv_aload_n hx hb dX3_tick_60 rfl (lv_at hl 0 rfl) ?_
        refine va_get (D := D) (ci := 3) (v := .ref (a 1)) (C := RX3) (T := TX3) (N := 12) hx hb hts in_X3 hown hK hP 0 rfl rfl 0 (by decide) kf_12 (fun _ h9 => h9) rfl dX3_tick_61 ?_
        refine x_rV (As := []) (rest := []) ⟨hx, hb, hml, hown, hts⟩ (c_X0_isOnDot l D cT (x_sh a 1) (x_sh u_39 1) _ hv) w_98 hK hP hS hN [1, 2, 3, 4, 5, 6, 7, 8, 9, 10] rfl 0 0 rfl rfl rfl hl.1 rfl (Nat.le_of_ble_eq_true rfl) dX3_tick_64 ⟨Nat.le_of_ble_eq_true rfl, Nat.le_of_ble_eq_true rfl⟩ (fun r_40 hv => ?_)
        refine lv_if_eq (tgt := 74) hx hb dX3_tick_67 (by decide) (fun c_41 => ?_) (fun c_41 => ?_)
        · have hv := hv.1 c_41
          refine lv_aload_n hx hb dX3_tick_74 rfl (lv_at hl 0 rfl) ?_
          refine va_get (D := D) (ci := 3) (v := .ref (a 28)) (C := RX3) (T := TX3) (N := 12) hx hb hts in_X3 hown hK hP 0 rfl rfl 7 (by decide) kf_53 (fun _ h9 => h9) rfl dX3_tick_75 ?_
          refine lv_aload_n hx hb dX3_tick_78 rfl (lv_at hl 0 rfl) ?_
          refine va_get (D := D) (ci := 3) (v := .int (u_39 0 10)) (C := RX3) (T := TX3) (N := 12) hx hb hts in_X3 hown hK hP 0 rfl rfl 10 (by decide) kf_69 (fun _ h9 => h9) rfl dX3_tick_79 ?_
          refine lv_sipush (v := 512) hx hb dX3_tick_82 (by decide) ?_
          refine lv_irem hx hb dX3_tick_85 (by decide) ?_
          refine lv_aload_n hx hb dX3_tick_86 rfl (lv_at hl 0 rfl) ?_
          refine va_get (D := D) (ci := 3) (v := .ref (a 1)) (C := RX3) (T := TX3) (N := 12) hx hb hts in_X3 hown hK hP 0 rfl rfl 0 (by decide) kf_12 (fun _ h9 => h9) rfl dX3_tick_87 ?_
          refine x_rV (As := []) (rest := [.int ((u_39 0 10) - (u_39 0 10) / 512 * 512), .ref (a 28)]) ⟨hx, hb, hml, hown, hts⟩ (c_X0_signalsHere l D cT (x_sh a 1) (x_sh u_39 1) _ hv) w_104 hK hP hS hN [1, 2, 3, 4, 5, 6, 7, 8, 9, 10] rfl 0 0 rfl rfl rfl hl.1 rfl (Nat.le_of_ble_eq_true rfl) dX3_tick_90 ⟨Nat.le_of_ble_eq_true rfl, Nat.le_of_ble_eq_true rfl⟩ (fun r_42 hv => ?_)
          obtain ⟨k_43, hk_43, ik_43, hv⟩ := hv
          refine x_ast hx hb hK hP hD hS 28 0 rfl rfl k_43 ik_43 hk_43 (by decide) dX3_tick_93 (fun H locs hP hD hS => ?_)
          obtain ⟨M_44, eM_44⟩ : ∃ z : ST, z = x_st u_39 28 k_43 r_42 := ⟨_, rfl⟩
          have hP : va_P D vwCl ((w_Machine cT a M_44)) H := by rw [eM_44]; exact hP
          have hD : va_D A ((w_Machine cT a M_44)) := by rw [eM_44]; exact hD
          have hv := hv M_44 eM_44
          refine lv_aload_n hx hb dX3_tick_94 rfl (lv_at hl 0 rfl) ?_
          refine lv_dup hx hb dX3_tick_95 rfl ?_
          refine va_get (D := D) (ci := 3) (v := .int (M_44 0 10)) (C := RX3) (T := TX3) (N := 12) hx hb hts in_X3 hown hK hP 0 rfl rfl 10 (by decide) kf_69 (fun _ h9 => h9) rfl dX3_tick_96 ?_
          refine lv_iconst (v := 1) hx hb dX3_tick_99 (by decide) ?_
          refine lv_iadd hx hb dX3_tick_100 ?_
          refine va_put (D := D) (ci := 3) (v := .int ((M_44 0 10) + 1)) (ty := .int) (C := RX3) (T := TX3) (N := 12) hx hb hts in_X3 tyX3 tyX3_ok nmX3 hown hK hP hD hS 0 rfl rfl 10 (by decide) kf_69 (fun _ h9 => h9) rfl (by decide +kernel) rfl rfl (Nat.le_of_ble_eq_true rfl) dX3_tick_101 (fun H locs hP hD hS => ?_)
          obtain ⟨M_45, eM_45⟩ : ∃ z : ST, z = x_st M_44 0 10 ((M_44 0 10) + 1) := ⟨_, rfl⟩
          have hP : va_P D vwCl ((w_Machine cT a M_45)) H := by rw [eM_45]; exact hP
          have hD : va_D A ((w_Machine cT a M_45)) := by rw [eM_45]; exact hD
          have hv := hv M_45 eM_45
          refine lv_aload_n hx hb dX3_tick_104 rfl (lv_at hl 0 rfl) ?_
          refine va_get (D := D) (ci := 3) (v := .ref (a 1)) (C := RX3) (T := TX3) (N := 12) hx hb hts in_X3 hown hK hP 0 rfl rfl 0 (by decide) kf_12 (fun _ h9 => h9) rfl dX3_tick_105 ?_
          refine x_cVv (As := []) (rest := []) (wn := fun u_46 => (w_Machine cT a (x_wb M_45 1 10 u_46))) ⟨hx, hb, hml, hown, hts⟩ (c_X0_goOn l D cT (x_sh a 1) (x_sh M_45 1) _ _ hv) w_108 hK hP hD hS hA hN [1, 2, 3, 4, 5, 6, 7, 8, 9, 10] [0, 11, 12, 13, 14, 15, 16, 17, 18, 19, 20, 21, 22, 23, 24, 25, 26, 27, 28] [0, 19, 20, 21, 22, 23, 24, 25, 26, 27, 28, 1, 2, 3, 4, 5, 6, 7, 8, 9, 10, 11, 12, 13, 14, 15, 16, 17, 18] rfl rfl (fun _ => rfl) (by decide) (by decide) (by decide) (by decide) 0 0 rfl rfl rfl hl.1 rfl (Nat.le_of_ble_eq_true rfl) dX3_tick_108 ⟨Nat.le_of_ble_eq_true rfl, Nat.le_of_ble_eq_true rfl⟩ (fun u_46 H locs hv hP hD hS => ?_)
          obtain ⟨M_47, eM_47⟩ : ∃ z : ST, z = x_wb M_45 1 10 u_46 := ⟨_, rfl⟩
          have hP : va_P D vwCl ((w_Machine cT a M_47)) H := by rw [eM_47]; exact hP
          have hD : va_D A ((w_Machine cT a M_47)) := by rw [eM_47]; exact hD
          have hv := hv M_47 eM_47
          exact W.vret hx hb hr (fun t ht hW => ⟨⟨M_47, rfl, hv, by rw [ht]; exact hP, va_K.moved hW.alike hK, hD⟩, hS.F ht⟩) hS.2.2 dX3_tick_111
        · have hv := hv.2 c_41
          refine lv_aload_n hx hb dX3_tick_70 rfl (lv_at hl 0 rfl) ?_
          refine x_cVv (As := []) (rest := []) (wn := fun u_48 => (w_Machine cT a u_48)) ⟨hx, hb, hml, hown, hts⟩ (c_X3_makeDot l D cT a u_39 _ _ hv) w_101 hK hP hD hS hA hN [0, 1, 2, 3, 4, 5, 6, 7, 8, 9, 10, 11, 12, 13, 14, 15, 16, 17, 18, 19, 20, 21, 22, 23, 24, 25, 26, 27, 28] [] [0, 1, 2, 3, 4, 5, 6, 7, 8, 9, 10, 11, 12, 13, 14, 15, 16, 17, 18, 19, 20, 21, 22, 23, 24, 25, 26, 27, 28] rfl rfl (fun _ => rfl) (by decide) (by decide) (by decide) (by decide) 3 0 rfl rfl rfl hl.1 rfl (Nat.le_of_ble_eq_true rfl) dX3_tick_71 ⟨Nat.le_of_ble_eq_true rfl, Nat.le_of_ble_eq_true rfl⟩ (fun u_48 H locs hv hP hD hS => ?_)
          refine lv_aload_n hx hb dX3_tick_74 rfl (lv_at hl 0 rfl) ?_
          refine va_get (D := D) (ci := 3) (v := .ref (a 28)) (C := RX3) (T := TX3) (N := 12) hx hb hts in_X3 hown hK hP 0 rfl rfl 7 (by decide) kf_53 (fun _ h9 => h9) rfl dX3_tick_75 ?_
          refine lv_aload_n hx hb dX3_tick_78 rfl (lv_at hl 0 rfl) ?_
          refine va_get (D := D) (ci := 3) (v := .int (u_48 0 10)) (C := RX3) (T := TX3) (N := 12) hx hb hts in_X3 hown hK hP 0 rfl rfl 10 (by decide) kf_69 (fun _ h9 => h9) rfl dX3_tick_79 ?_
          refine lv_sipush (v := 512) hx hb dX3_tick_82 (by decide) ?_
          refine lv_irem hx hb dX3_tick_85 (by decide) ?_
          refine lv_aload_n hx hb dX3_tick_86 rfl (lv_at hl 0 rfl) ?_
          refine va_get (D := D) (ci := 3) (v := .ref (a 1)) (C := RX3) (T := TX3) (N := 12) hx hb hts in_X3 hown hK hP 0 rfl rfl 0 (by decide) kf_12 (fun _ h9 => h9) rfl dX3_tick_87 ?_
          refine x_rV (As := []) (rest := [.int ((u_48 0 10) - (u_48 0 10) / 512 * 512), .ref (a 28)]) ⟨hx, hb, hml, hown, hts⟩ (c_X0_signalsHere l D cT (x_sh a 1) (x_sh u_48 1) _ hv) w_104 hK hP hS hN [1, 2, 3, 4, 5, 6, 7, 8, 9, 10] rfl 0 0 rfl rfl rfl hl.1 rfl (Nat.le_of_ble_eq_true rfl) dX3_tick_90 ⟨Nat.le_of_ble_eq_true rfl, Nat.le_of_ble_eq_true rfl⟩ (fun r_49 hv => ?_)
          obtain ⟨k_50, hk_50, ik_50, hv⟩ := hv
          refine x_ast hx hb hK hP hD hS 28 0 rfl rfl k_50 ik_50 hk_50 (by decide) dX3_tick_93 (fun H locs hP hD hS => ?_)
          obtain ⟨M_51, eM_51⟩ : ∃ z : ST, z = x_st u_48 28 k_50 r_49 := ⟨_, rfl⟩
          have hP : va_P D vwCl ((w_Machine cT a M_51)) H := by rw [eM_51]; exact hP
          have hD : va_D A ((w_Machine cT a M_51)) := by rw [eM_51]; exact hD
          have hv := hv M_51 eM_51
          refine lv_aload_n hx hb dX3_tick_94 rfl (lv_at hl 0 rfl) ?_
          refine lv_dup hx hb dX3_tick_95 rfl ?_
          refine va_get (D := D) (ci := 3) (v := .int (M_51 0 10)) (C := RX3) (T := TX3) (N := 12) hx hb hts in_X3 hown hK hP 0 rfl rfl 10 (by decide) kf_69 (fun _ h9 => h9) rfl dX3_tick_96 ?_
          refine lv_iconst (v := 1) hx hb dX3_tick_99 (by decide) ?_
          refine lv_iadd hx hb dX3_tick_100 ?_
          refine va_put (D := D) (ci := 3) (v := .int ((M_51 0 10) + 1)) (ty := .int) (C := RX3) (T := TX3) (N := 12) hx hb hts in_X3 tyX3 tyX3_ok nmX3 hown hK hP hD hS 0 rfl rfl 10 (by decide) kf_69 (fun _ h9 => h9) rfl (by decide +kernel) rfl rfl (Nat.le_of_ble_eq_true rfl) dX3_tick_101 (fun H locs hP hD hS => ?_)
          obtain ⟨M_52, eM_52⟩ : ∃ z : ST, z = x_st M_51 0 10 ((M_51 0 10) + 1) := ⟨_, rfl⟩
          have hP : va_P D vwCl ((w_Machine cT a M_52)) H := by rw [eM_52]; exact hP
          have hD : va_D A ((w_Machine cT a M_52)) := by rw [eM_52]; exact hD
          have hv := hv M_52 eM_52
          refine lv_aload_n hx hb dX3_tick_104 rfl (lv_at hl 0 rfl) ?_
          refine va_get (D := D) (ci := 3) (v := .ref (a 1)) (C := RX3) (T := TX3) (N := 12) hx hb hts in_X3 hown hK hP 0 rfl rfl 0 (by decide) kf_12 (fun _ h9 => h9) rfl dX3_tick_105 ?_
          refine x_cVv (As := []) (rest := []) (wn := fun u_53 => (w_Machine cT a (x_wb M_52 1 10 u_53))) ⟨hx, hb, hml, hown, hts⟩ (c_X0_goOn l D cT (x_sh a 1) (x_sh M_52 1) _ _ hv) w_108 hK hP hD hS hA hN [1, 2, 3, 4, 5, 6, 7, 8, 9, 10] [0, 11, 12, 13, 14, 15, 16, 17, 18, 19, 20, 21, 22, 23, 24, 25, 26, 27, 28] [0, 19, 20, 21, 22, 23, 24, 25, 26, 27, 28, 1, 2, 3, 4, 5, 6, 7, 8, 9, 10, 11, 12, 13, 14, 15, 16, 17, 18] rfl rfl (fun _ => rfl) (by decide) (by decide) (by decide) (by decide) 0 0 rfl rfl rfl hl.1 rfl (Nat.le_of_ble_eq_true rfl) dX3_tick_108 ⟨Nat.le_of_ble_eq_true rfl, Nat.le_of_ble_eq_true rfl⟩ (fun u_53 H locs hv hP hD hS => ?_)
          obtain ⟨M_54, eM_54⟩ : ∃ z : ST, z = x_wb M_52 1 10 u_53 := ⟨_, rfl⟩
          have hP : va_P D vwCl ((w_Machine cT a M_54)) H := by rw [eM_54]; exact hP
          have hD : va_D A ((w_Machine cT a M_54)) := by rw [eM_54]; exact hD
          have hv := hv M_54 eM_54
          exact W.vret hx hb hr (fun t ht hW => ⟨⟨M_54, rfl, hv, by rw [ht]; exact hP, va_K.moved hW.alike hK, hD⟩, hS.F ht⟩) hS.2.2 dX3_tick_111
  · have hv := hv.2 c_4
    refine lv_aload_n hx hb dX3_tick_35 rfl (lv_at hl 0 rfl) ?_
    refine x_cVv (As := []) (rest := []) (wn := fun u_55 => (w_Machine cT a u_55)) ⟨hx, hb, hml, hown, hts⟩ (c_X3_turnToNextLine l D cT a M_2 _ _ hv) w_86 hK hP hD hS hA hN [0, 1, 2, 3, 4, 5, 6, 7, 8, 9, 10, 11, 12, 13, 14, 15, 16, 17, 18, 19, 20, 21, 22, 23, 24, 25, 26, 27, 28] [] [0, 1, 2, 3, 4, 5, 6, 7, 8, 9, 10, 11, 12, 13, 14, 15, 16, 17, 18, 19, 20, 21, 22, 23, 24, 25, 26, 27, 28] rfl rfl (fun _ => rfl) (by decide) (by decide) (by decide) (by decide) 3 0 rfl rfl rfl hl.1 rfl (Nat.le_of_ble_eq_true rfl) dX3_tick_36 ⟨Nat.le_of_ble_eq_true rfl, Nat.le_of_ble_eq_true rfl⟩ (fun u_55 H locs hv hP hD hS => ?_)
    refine lv_aload_n hx hb dX3_tick_39 rfl (lv_at hl 0 rfl) ?_
    refine va_get (D := D) (ci := 3) (v := .ref (a 11)) (C := RX3) (T := TX3) (N := 12) hx hb hts in_X3 hown hK hP 0 rfl rfl 1 (by decide) kf_21 (fun _ h9 => h9) rfl dX3_tick_40 ?_
    refine x_rV (As := []) (rest := []) ⟨hx, hb, hml, hown, hts⟩ (c_X2_wantsByte l D cT (x_sh a 11) (x_sh u_55 11) _ hv) w_89 hK hP hS hN [11, 12] rfl 2 0 rfl rfl rfl hl.1 rfl (Nat.le_of_ble_eq_true rfl) dX3_tick_43 ⟨Nat.le_of_ble_eq_true rfl, Nat.le_of_ble_eq_true rfl⟩ (fun r_56 hv => ?_)
    refine lv_if_eq (tgt := 60) hx hb dX3_tick_46 (by decide) (fun c_57 => ?_) (fun c_57 => ?_)
    · have hv := hv.1 c_57
      refine lv_aload_n hx hb dX3_tick_60 rfl (lv_at hl 0 rfl) ?_
      refine va_get (D := D) (ci := 3) (v := .ref (a 1)) (C := RX3) (T := TX3) (N := 12) hx hb hts in_X3 hown hK hP 0 rfl rfl 0 (by decide) kf_12 (fun _ h9 => h9) rfl dX3_tick_61 ?_
      refine x_rV (As := []) (rest := []) ⟨hx, hb, hml, hown, hts⟩ (c_X0_isOnDot l D cT (x_sh a 1) (x_sh u_55 1) _ hv) w_98 hK hP hS hN [1, 2, 3, 4, 5, 6, 7, 8, 9, 10] rfl 0 0 rfl rfl rfl hl.1 rfl (Nat.le_of_ble_eq_true rfl) dX3_tick_64 ⟨Nat.le_of_ble_eq_true rfl, Nat.le_of_ble_eq_true rfl⟩ (fun r_58 hv => ?_)
      refine lv_if_eq (tgt := 74) hx hb dX3_tick_67 (by decide) (fun c_59 => ?_) (fun c_59 => ?_)
      · have hv := hv.1 c_59
        refine lv_aload_n hx hb dX3_tick_74 rfl (lv_at hl 0 rfl) ?_
        refine va_get (D := D) (ci := 3) (v := .ref (a 28)) (C := RX3) (T := TX3) (N := 12) hx hb hts in_X3 hown hK hP 0 rfl rfl 7 (by decide) kf_53 (fun _ h9 => h9) rfl dX3_tick_75 ?_
        refine lv_aload_n hx hb dX3_tick_78 rfl (lv_at hl 0 rfl) ?_
        refine va_get (D := D) (ci := 3) (v := .int (u_55 0 10)) (C := RX3) (T := TX3) (N := 12) hx hb hts in_X3 hown hK hP 0 rfl rfl 10 (by decide) kf_69 (fun _ h9 => h9) rfl dX3_tick_79 ?_
        refine lv_sipush (v := 512) hx hb dX3_tick_82 (by decide) ?_
        refine lv_irem hx hb dX3_tick_85 (by decide) ?_
        refine lv_aload_n hx hb dX3_tick_86 rfl (lv_at hl 0 rfl) ?_
        refine va_get (D := D) (ci := 3) (v := .ref (a 1)) (C := RX3) (T := TX3) (N := 12) hx hb hts in_X3 hown hK hP 0 rfl rfl 0 (by decide) kf_12 (fun _ h9 => h9) rfl dX3_tick_87 ?_
        refine x_rV (As := []) (rest := [.int ((u_55 0 10) - (u_55 0 10) / 512 * 512), .ref (a 28)]) ⟨hx, hb, hml, hown, hts⟩ (c_X0_signalsHere l D cT (x_sh a 1) (x_sh u_55 1) _ hv) w_104 hK hP hS hN [1, 2, 3, 4, 5, 6, 7, 8, 9, 10] rfl 0 0 rfl rfl rfl hl.1 rfl (Nat.le_of_ble_eq_true rfl) dX3_tick_90 ⟨Nat.le_of_ble_eq_true rfl, Nat.le_of_ble_eq_true rfl⟩ (fun r_60 hv => ?_)
        obtain ⟨k_61, hk_61, ik_61, hv⟩ := hv
        refine x_ast hx hb hK hP hD hS 28 0 rfl rfl k_61 ik_61 hk_61 (by decide) dX3_tick_93 (fun H locs hP hD hS => ?_)
        obtain ⟨M_62, eM_62⟩ : ∃ z : ST, z = x_st u_55 28 k_61 r_60 := ⟨_, rfl⟩
        have hP : va_P D vwCl ((w_Machine cT a M_62)) H := by rw [eM_62]; exact hP
        have hD : va_D A ((w_Machine cT a M_62)) := by rw [eM_62]; exact hD
        have hv := hv M_62 eM_62
        refine lv_aload_n hx hb dX3_tick_94 rfl (lv_at hl 0 rfl) ?_
        refine lv_dup hx hb dX3_tick_95 rfl ?_
        refine va_get (D := D) (ci := 3) (v := .int (M_62 0 10)) (C := RX3) (T := TX3) (N := 12) hx hb hts in_X3 hown hK hP 0 rfl rfl 10 (by decide) kf_69 (fun _ h9 => h9) rfl dX3_tick_96 ?_
        refine lv_iconst (v := 1) hx hb dX3_tick_99 (by decide) ?_
        refine lv_iadd hx hb dX3_tick_100 ?_
        refine va_put (D := D) (ci := 3) (v := .int ((M_62 0 10) + 1)) (ty := .int) (C := RX3) (T := TX3) (N := 12) hx hb hts in_X3 tyX3 tyX3_ok nmX3 hown hK hP hD hS 0 rfl rfl 10 (by decide) kf_69 (fun _ h9 => h9) rfl (by decide +kernel) rfl rfl (Nat.le_of_ble_eq_true rfl) dX3_tick_101 (fun H locs hP hD hS => ?_)
        obtain ⟨M_63, eM_63⟩ : ∃ z : ST, z = x_st M_62 0 10 ((M_62 0 10) + 1) := ⟨_, rfl⟩
        have hP : va_P D vwCl ((w_Machine cT a M_63)) H := by rw [eM_63]; exact hP
        have hD : va_D A ((w_Machine cT a M_63)) := by rw [eM_63]; exact hD
        have hv := hv M_63 eM_63
        refine lv_aload_n hx hb dX3_tick_104 rfl (lv_at hl 0 rfl) ?_
        refine va_get (D := D) (ci := 3) (v := .ref (a 1)) (C := RX3) (T := TX3) (N := 12) hx hb hts in_X3 hown hK hP 0 rfl rfl 0 (by decide) kf_12 (fun _ h9 => h9) rfl dX3_tick_105 ?_
        refine x_cVv (As := []) (rest := []) (wn := fun u_64 => (w_Machine cT a (x_wb M_63 1 10 u_64))) ⟨hx, hb, hml, hown, hts⟩ (c_X0_goOn l D cT (x_sh a 1) (x_sh M_63 1) _ _ hv) w_108 hK hP hD hS hA hN [1, 2, 3, 4, 5, 6, 7, 8, 9, 10] [0, 11, 12, 13, 14, 15, 16, 17, 18, 19, 20, 21, 22, 23, 24, 25, 26, 27, 28] [0, 19, 20, 21, 22, 23, 24, 25, 26, 27, 28, 1, 2, 3, 4, 5, 6, 7, 8, 9, 10, 11, 12, 13, 14, 15, 16, 17, 18] rfl rfl (fun _ => rfl) (by decide) (by decide) (by decide) (by decide) 0 0 rfl rfl rfl hl.1 rfl (Nat.le_of_ble_eq_true rfl) dX3_tick_108 ⟨Nat.le_of_ble_eq_true rfl, Nat.le_of_ble_eq_true rfl⟩ (fun u_64 H locs hv hP hD hS => ?_)
        obtain ⟨M_65, eM_65⟩ : ∃ z : ST, z = x_wb M_63 1 10 u_64 := ⟨_, rfl⟩
        have hP : va_P D vwCl ((w_Machine cT a M_65)) H := by rw [eM_65]; exact hP
        have hD : va_D A ((w_Machine cT a M_65)) := by rw [eM_65]; exact hD
        have hv := hv M_65 eM_65
        exact W.vret hx hb hr (fun t ht hW => ⟨⟨M_65, rfl, hv, by rw [ht]; exact hP, va_K.moved hW.alike hK, hD⟩, hS.F ht⟩) hS.2.2 dX3_tick_111
      · have hv := hv.2 c_59
        refine lv_aload_n hx hb dX3_tick_70 rfl (lv_at hl 0 rfl) ?_
        refine x_cVv (As := []) (rest := []) (wn := fun u_66 => (w_Machine cT a u_66)) ⟨hx, hb, hml, hown, hts⟩ (c_X3_makeDot l D cT a u_55 _ _ hv) w_101 hK hP hD hS hA hN [0, 1, 2, 3, 4, 5, 6, 7, 8, 9, 10, 11, 12, 13, 14, 15, 16, 17, 18, 19, 20, 21, 22, 23, 24, 25, 26, 27, 28] [] [0, 1, 2, 3, 4, 5, 6, 7, 8, 9, 10, 11, 12, 13, 14, 15, 16, 17, 18, 19, 20, 21, 22, 23, 24, 25, 26, 27, 28] rfl rfl (fun _ => rfl) (by decide) (by decide) (by decide) (by decide) 3 0 rfl rfl rfl hl.1 rfl (Nat.le_of_ble_eq_true rfl) dX3_tick_71 ⟨Nat.le_of_ble_eq_true rfl, Nat.le_of_ble_eq_true rfl⟩ (fun u_66 H locs hv hP hD hS => ?_)
        refine lv_aload_n hx hb dX3_tick_74 rfl (lv_at hl 0 rfl) ?_
        refine va_get (D := D) (ci := 3) (v := .ref (a 28)) (C := RX3) (T := TX3) (N := 12) hx hb hts in_X3 hown hK hP 0 rfl rfl 7 (by decide) kf_53 (fun _ h9 => h9) rfl dX3_tick_75 ?_
        refine lv_aload_n hx hb dX3_tick_78 rfl (lv_at hl 0 rfl) ?_
        refine va_get (D := D) (ci := 3) (v := .int (u_66 0 10)) (C := RX3) (T := TX3) (N := 12) hx hb hts in_X3 hown hK hP 0 rfl rfl 10 (by decide) kf_69 (fun _ h9 => h9) rfl dX3_tick_79 ?_
        refine lv_sipush (v := 512) hx hb dX3_tick_82 (by decide) ?_
        refine lv_irem hx hb dX3_tick_85 (by decide) ?_
        refine lv_aload_n hx hb dX3_tick_86 rfl (lv_at hl 0 rfl) ?_
        refine va_get (D := D) (ci := 3) (v := .ref (a 1)) (C := RX3) (T := TX3) (N := 12) hx hb hts in_X3 hown hK hP 0 rfl rfl 0 (by decide) kf_12 (fun _ h9 => h9) rfl dX3_tick_87 ?_
        refine x_rV (As := []) (rest := [.int ((u_66 0 10) - (u_66 0 10) / 512 * 512), .ref (a 28)]) ⟨hx, hb, hml, hown, hts⟩ (c_X0_signalsHere l D cT (x_sh a 1) (x_sh u_66 1) _ hv) w_104 hK hP hS hN [1, 2, 3, 4, 5, 6, 7, 8, 9, 10] rfl 0 0 rfl rfl rfl hl.1 rfl (Nat.le_of_ble_eq_true rfl) dX3_tick_90 ⟨Nat.le_of_ble_eq_true rfl, Nat.le_of_ble_eq_true rfl⟩ (fun r_67 hv => ?_)
        obtain ⟨k_68, hk_68, ik_68, hv⟩ := hv
        refine x_ast hx hb hK hP hD hS 28 0 rfl rfl k_68 ik_68 hk_68 (by decide) dX3_tick_93 (fun H locs hP hD hS => ?_)
        obtain ⟨M_69, eM_69⟩ : ∃ z : ST, z = x_st u_66 28 k_68 r_67 := ⟨_, rfl⟩
        have hP : va_P D vwCl ((w_Machine cT a M_69)) H := by rw [eM_69]; exact hP
        have hD : va_D A ((w_Machine cT a M_69)) := by rw [eM_69]; exact hD
        have hv := hv M_69 eM_69
        refine lv_aload_n hx hb dX3_tick_94 rfl (lv_at hl 0 rfl) ?_
        refine lv_dup hx hb dX3_tick_95 rfl ?_
        refine va_get (D := D) (ci := 3) (v := .int (M_69 0 10)) (C := RX3) (T := TX3) (N := 12) hx hb hts in_X3 hown hK hP 0 rfl rfl 10 (by decide) kf_69 (fun _ h9 => h9) rfl dX3_tick_96 ?_
        refine lv_iconst (v := 1) hx hb dX3_tick_99 (by decide) ?_
        refine lv_iadd hx hb dX3_tick_100 ?_
        refine va_put (D := D) (ci := 3) (v := .int ((M_69 0 10) + 1)) (ty := .int) (C := RX3) (T := TX3) (N := 12) hx hb hts in_X3 tyX3 tyX3_ok nmX3 hown hK hP hD hS 0 rfl rfl 10 (by decide) kf_69 (fun _ h9 => h9) rfl (by decide +kernel) rfl rfl (Nat.le_of_ble_eq_true rfl) dX3_tick_101 (fun H locs hP hD hS => ?_)
        obtain ⟨M_70, eM_70⟩ : ∃ z : ST, z = x_st M_69 0 10 ((M_69 0 10) + 1) := ⟨_, rfl⟩
        have hP : va_P D vwCl ((w_Machine cT a M_70)) H := by rw [eM_70]; exact hP
        have hD : va_D A ((w_Machine cT a M_70)) := by rw [eM_70]; exact hD
        have hv := hv M_70 eM_70
        refine lv_aload_n hx hb dX3_tick_104 rfl (lv_at hl 0 rfl) ?_
        refine va_get (D := D) (ci := 3) (v := .ref (a 1)) (C := RX3) (T := TX3) (N := 12) hx hb hts in_X3 hown hK hP 0 rfl rfl 0 (by decide) kf_12 (fun _ h9 => h9) rfl dX3_tick_105 ?_
        refine x_cVv (As := []) (rest := []) (wn := fun u_71 => (w_Machine cT a (x_wb M_70 1 10 u_71))) ⟨hx, hb, hml, hown, hts⟩ (c_X0_goOn l D cT (x_sh a 1) (x_sh M_70 1) _ _ hv) w_108 hK hP hD hS hA hN [1, 2, 3, 4, 5, 6, 7, 8, 9, 10] [0, 11, 12, 13, 14, 15, 16, 17, 18, 19, 20, 21, 22, 23, 24, 25, 26, 27, 28] [0, 19, 20, 21, 22, 23, 24, 25, 26, 27, 28, 1, 2, 3, 4, 5, 6, 7, 8, 9, 10, 11, 12, 13, 14, 15, 16, 17, 18] rfl rfl (fun _ => rfl) (by decide) (by decide) (by decide) (by decide) 0 0 rfl rfl rfl hl.1 rfl (Nat.le_of_ble_eq_true rfl) dX3_tick_108 ⟨Nat.le_of_ble_eq_true rfl, Nat.le_of_ble_eq_true rfl⟩ (fun u_71 H locs hv hP hD hS => ?_)
        obtain ⟨M_72, eM_72⟩ : ∃ z : ST, z = x_wb M_70 1 10 u_71 := ⟨_, rfl⟩
        have hP : va_P D vwCl ((w_Machine cT a M_72)) H := by rw [eM_72]; exact hP
        have hD : va_D A ((w_Machine cT a M_72)) := by rw [eM_72]; exact hD
        have hv := hv M_72 eM_72
        exact W.vret hx hb hr (fun t ht hW => ⟨⟨M_72, rfl, hv, by rw [ht]; exact hP, va_K.moved hW.alike hK, hD⟩, hS.F ht⟩) hS.2.2 dX3_tick_111
    · have hv := hv.2 c_57
      refine lv_aload_n hx hb dX3_tick_49 rfl (lv_at hl 0 rfl) ?_
      refine x_rV (As := []) (rest := []) ⟨hx, hb, hml, hown, hts⟩ (c_X3_isTaken l D cT a u_55 _ hv) w_92 hK hP hS hN [0, 1, 2, 3, 4, 5, 6, 7, 8, 9, 10, 11, 12, 13, 14, 15, 16, 17, 18, 19, 20, 21, 22, 23, 24, 25, 26, 27, 28] rfl 3 0 rfl rfl rfl hl.1 rfl (Nat.le_of_ble_eq_true rfl) dX3_tick_50 ⟨Nat.le_of_ble_eq_true rfl, Nat.le_of_ble_eq_true rfl⟩ (fun r_73 hv => ?_)
      refine lv_if_ne (tgt := 60) hx hb dX3_tick_53 (by decide) (fun c_74 => ?_) (fun c_74 => ?_)
      · have hv := hv.1 c_74
        refine lv_aload_n hx hb dX3_tick_60 rfl (lv_at hl 0 rfl) ?_
        refine va_get (D := D) (ci := 3) (v := .ref (a 1)) (C := RX3) (T := TX3) (N := 12) hx hb hts in_X3 hown hK hP 0 rfl rfl 0 (by decide) kf_12 (fun _ h9 => h9) rfl dX3_tick_61 ?_
        refine x_rV (As := []) (rest := []) ⟨hx, hb, hml, hown, hts⟩ (c_X0_isOnDot l D cT (x_sh a 1) (x_sh u_55 1) _ hv) w_98 hK hP hS hN [1, 2, 3, 4, 5, 6, 7, 8, 9, 10] rfl 0 0 rfl rfl rfl hl.1 rfl (Nat.le_of_ble_eq_true rfl) dX3_tick_64 ⟨Nat.le_of_ble_eq_true rfl, Nat.le_of_ble_eq_true rfl⟩ (fun r_75 hv => ?_)
        refine lv_if_eq (tgt := 74) hx hb dX3_tick_67 (by decide) (fun c_76 => ?_) (fun c_76 => ?_)
        · have hv := hv.1 c_76
          refine lv_aload_n hx hb dX3_tick_74 rfl (lv_at hl 0 rfl) ?_
          refine va_get (D := D) (ci := 3) (v := .ref (a 28)) (C := RX3) (T := TX3) (N := 12) hx hb hts in_X3 hown hK hP 0 rfl rfl 7 (by decide) kf_53 (fun _ h9 => h9) rfl dX3_tick_75 ?_
          refine lv_aload_n hx hb dX3_tick_78 rfl (lv_at hl 0 rfl) ?_
          refine va_get (D := D) (ci := 3) (v := .int (u_55 0 10)) (C := RX3) (T := TX3) (N := 12) hx hb hts in_X3 hown hK hP 0 rfl rfl 10 (by decide) kf_69 (fun _ h9 => h9) rfl dX3_tick_79 ?_
          refine lv_sipush (v := 512) hx hb dX3_tick_82 (by decide) ?_
          refine lv_irem hx hb dX3_tick_85 (by decide) ?_
          refine lv_aload_n hx hb dX3_tick_86 rfl (lv_at hl 0 rfl) ?_
          refine va_get (D := D) (ci := 3) (v := .ref (a 1)) (C := RX3) (T := TX3) (N := 12) hx hb hts in_X3 hown hK hP 0 rfl rfl 0 (by decide) kf_12 (fun _ h9 => h9) rfl dX3_tick_87 ?_
          refine x_rV (As := []) (rest := [.int ((u_55 0 10) - (u_55 0 10) / 512 * 512), .ref (a 28)]) ⟨hx, hb, hml, hown, hts⟩ (c_X0_signalsHere l D cT (x_sh a 1) (x_sh u_55 1) _ hv) w_104 hK hP hS hN [1, 2, 3, 4, 5, 6, 7, 8, 9, 10] rfl 0 0 rfl rfl rfl hl.1 rfl (Nat.le_of_ble_eq_true rfl) dX3_tick_90 ⟨Nat.le_of_ble_eq_true rfl, Nat.le_of_ble_eq_true rfl⟩ (fun r_77 hv => ?_)
          obtain ⟨k_78, hk_78, ik_78, hv⟩ := hv
          refine x_ast hx hb hK hP hD hS 28 0 rfl rfl k_78 ik_78 hk_78 (by decide) dX3_tick_93 (fun H locs hP hD hS => ?_)
          obtain ⟨M_79, eM_79⟩ : ∃ z : ST, z = x_st u_55 28 k_78 r_77 := ⟨_, rfl⟩
          have hP : va_P D vwCl ((w_Machine cT a M_79)) H := by rw [eM_79]; exact hP
          have hD : va_D A ((w_Machine cT a M_79)) := by rw [eM_79]; exact hD
          have hv := hv M_79 eM_79
          refine lv_aload_n hx hb dX3_tick_94 rfl (lv_at hl 0 rfl) ?_
          refine lv_dup hx hb dX3_tick_95 rfl ?_
          refine va_get (D := D) (ci := 3) (v := .int (M_79 0 10)) (C := RX3) (T := TX3) (N := 12) hx hb hts in_X3 hown hK hP 0 rfl rfl 10 (by decide) kf_69 (fun _ h9 => h9) rfl dX3_tick_96 ?_
          refine lv_iconst (v := 1) hx hb dX3_tick_99 (by decide) ?_
          refine lv_iadd hx hb dX3_tick_100 ?_
          refine va_put (D := D) (ci := 3) (v := .int ((M_79 0 10) + 1)) (ty := .int) (C := RX3) (T := TX3) (N := 12) hx hb hts in_X3 tyX3 tyX3_ok nmX3 hown hK hP hD hS 0 rfl rfl 10 (by decide) kf_69 (fun _ h9 => h9) rfl (by decide +kernel) rfl rfl (Nat.le_of_ble_eq_true rfl) dX3_tick_101 (fun H locs hP hD hS => ?_)
          obtain ⟨M_80, eM_80⟩ : ∃ z : ST, z = x_st M_79 0 10 ((M_79 0 10) + 1) := ⟨_, rfl⟩
          have hP : va_P D vwCl ((w_Machine cT a M_80)) H := by rw [eM_80]; exact hP
          have hD : va_D A ((w_Machine cT a M_80)) := by rw [eM_80]; exact hD
          have hv := hv M_80 eM_80
          refine lv_aload_n hx hb dX3_tick_104 rfl (lv_at hl 0 rfl) ?_
          refine va_get (D := D) (ci := 3) (v := .ref (a 1)) (C := RX3) (T := TX3) (N := 12) hx hb hts in_X3 hown hK hP 0 rfl rfl 0 (by decide) kf_12 (fun _ h9 => h9) rfl dX3_tick_105 ?_
          refine x_cVv (As := []) (rest := []) (wn := fun u_81 => (w_Machine cT a (x_wb M_80 1 10 u_81))) ⟨hx, hb, hml, hown, hts⟩ (c_X0_goOn l D cT (x_sh a 1) (x_sh M_80 1) _ _ hv) w_108 hK hP hD hS hA hN [1, 2, 3, 4, 5, 6, 7, 8, 9, 10] [0, 11, 12, 13, 14, 15, 16, 17, 18, 19, 20, 21, 22, 23, 24, 25, 26, 27, 28] [0, 19, 20, 21, 22, 23, 24, 25, 26, 27, 28, 1, 2, 3, 4, 5, 6, 7, 8, 9, 10, 11, 12, 13, 14, 15, 16, 17, 18] rfl rfl (fun _ => rfl) (by decide) (by decide) (by decide) (by decide) 0 0 rfl rfl rfl hl.1 rfl (Nat.le_of_ble_eq_true rfl) dX3_tick_108 ⟨Nat.le_of_ble_eq_true rfl, Nat.le_of_ble_eq_true rfl⟩ (fun u_81 H locs hv hP hD hS => ?_)
          obtain ⟨M_82, eM_82⟩ : ∃ z : ST, z = x_wb M_80 1 10 u_81 := ⟨_, rfl⟩
          have hP : va_P D vwCl ((w_Machine cT a M_82)) H := by rw [eM_82]; exact hP
          have hD : va_D A ((w_Machine cT a M_82)) := by rw [eM_82]; exact hD
          have hv := hv M_82 eM_82
          exact W.vret hx hb hr (fun t ht hW => ⟨⟨M_82, rfl, hv, by rw [ht]; exact hP, va_K.moved hW.alike hK, hD⟩, hS.F ht⟩) hS.2.2 dX3_tick_111
        · have hv := hv.2 c_76
          refine lv_aload_n hx hb dX3_tick_70 rfl (lv_at hl 0 rfl) ?_
          refine x_cVv (As := []) (rest := []) (wn := fun u_83 => (w_Machine cT a u_83)) ⟨hx, hb, hml, hown, hts⟩ (c_X3_makeDot l D cT a u_55 _ _ hv) w_101 hK hP hD hS hA hN [0, 1, 2, 3, 4, 5, 6, 7, 8, 9, 10, 11, 12, 13, 14, 15, 16, 17, 18, 19, 20, 21, 22, 23, 24, 25, 26, 27, 28] [] [0, 1, 2, 3, 4, 5, 6, 7, 8, 9, 10, 11, 12, 13, 14, 15, 16, 17, 18, 19, 20, 21, 22, 23, 24, 25, 26, 27, 28] rfl rfl (fun _ => rfl) (by decide) (by decide) (by decide) (by decide) 3 0 rfl rfl rfl hl.1 rfl (Nat.le_of_ble_eq_true rfl) dX3_tick_71 ⟨Nat.le_of_ble_eq_true rfl, Nat.le_of_ble_eq_true rfl⟩ (fun u_83 H locs hv hP hD hS => ?_)
          refine lv_aload_n hx hb dX3_tick_74 rfl (lv_at hl 0 rfl) ?_
          refine va_get (D := D) (ci := 3) (v := .ref (a 28)) (C := RX3) (T := TX3) (N := 12) hx hb hts in_X3 hown hK hP 0 rfl rfl 7 (by decide) kf_53 (fun _ h9 => h9) rfl dX3_tick_75 ?_
          refine lv_aload_n hx hb dX3_tick_78 rfl (lv_at hl 0 rfl) ?_
          refine va_get (D := D) (ci := 3) (v := .int (u_83 0 10)) (C := RX3) (T := TX3) (N := 12) hx hb hts in_X3 hown hK hP 0 rfl rfl 10 (by decide) kf_69 (fun _ h9 => h9) rfl dX3_tick_79 ?_
          refine lv_sipush (v := 512) hx hb dX3_tick_82 (by decide) ?_
          refine lv_irem hx hb dX3_tick_85 (by decide) ?_
          refine lv_aload_n hx hb dX3_tick_86 rfl (lv_at hl 0 rfl) ?_
          refine va_get (D := D) (ci := 3) (v := .ref (a 1)) (C := RX3) (T := TX3) (N := 12) hx hb hts in_X3 hown hK hP 0 rfl rfl 0 (by decide) kf_12 (fun _ h9 => h9) rfl dX3_tick_87 ?_
          refine x_rV (As := []) (rest := [.int ((u_83 0 10) - (u_83 0 10) / 512 * 512), .ref (a 28)]) ⟨hx, hb, hml, hown, hts⟩ (c_X0_signalsHere l D cT (x_sh a 1) (x_sh u_83 1) _ hv) w_104 hK hP hS hN [1, 2, 3, 4, 5, 6, 7, 8, 9, 10] rfl 0 0 rfl rfl rfl hl.1 rfl (Nat.le_of_ble_eq_true rfl) dX3_tick_90 ⟨Nat.le_of_ble_eq_true rfl, Nat.le_of_ble_eq_true rfl⟩ (fun r_84 hv => ?_)
          obtain ⟨k_85, hk_85, ik_85, hv⟩ := hv
          refine x_ast hx hb hK hP hD hS 28 0 rfl rfl k_85 ik_85 hk_85 (by decide) dX3_tick_93 (fun H locs hP hD hS => ?_)
          obtain ⟨M_86, eM_86⟩ : ∃ z : ST, z = x_st u_83 28 k_85 r_84 := ⟨_, rfl⟩
          have hP : va_P D vwCl ((w_Machine cT a M_86)) H := by rw [eM_86]; exact hP
          have hD : va_D A ((w_Machine cT a M_86)) := by rw [eM_86]; exact hD
          have hv := hv M_86 eM_86
          refine lv_aload_n hx hb dX3_tick_94 rfl (lv_at hl 0 rfl) ?_
          refine lv_dup hx hb dX3_tick_95 rfl ?_
          refine va_get (D := D) (ci := 3) (v := .int (M_86 0 10)) (C := RX3) (T := TX3) (N := 12) hx hb hts in_X3 hown hK hP 0 rfl rfl 10 (by decide) kf_69 (fun _ h9 => h9) rfl dX3_tick_96 ?_
          refine lv_iconst (v := 1) hx hb dX3_tick_99 (by decide) ?_
          refine lv_iadd hx hb dX3_tick_100 ?_
          refine va_put (D := D) (ci := 3) (v := .int ((M_86 0 10) + 1)) (ty := .int) (C := RX3) (T := TX3) (N := 12) hx hb hts in_X3 tyX3 tyX3_ok nmX3 hown hK hP hD hS 0 rfl rfl 10 (by decide) kf_69 (fun _ h9 => h9) rfl (by decide +kernel) rfl rfl (Nat.le_of_ble_eq_true rfl) dX3_tick_101 (fun H locs hP hD hS => ?_)
          obtain ⟨M_87, eM_87⟩ : ∃ z : ST, z = x_st M_86 0 10 ((M_86 0 10) + 1) := ⟨_, rfl⟩
          have hP : va_P D vwCl ((w_Machine cT a M_87)) H := by rw [eM_87]; exact hP
          have hD : va_D A ((w_Machine cT a M_87)) := by rw [eM_87]; exact hD
          have hv := hv M_87 eM_87
          refine lv_aload_n hx hb dX3_tick_104 rfl (lv_at hl 0 rfl) ?_
          refine va_get (D := D) (ci := 3) (v := .ref (a 1)) (C := RX3) (T := TX3) (N := 12) hx hb hts in_X3 hown hK hP 0 rfl rfl 0 (by decide) kf_12 (fun _ h9 => h9) rfl dX3_tick_105 ?_
          refine x_cVv (As := []) (rest := []) (wn := fun u_88 => (w_Machine cT a (x_wb M_87 1 10 u_88))) ⟨hx, hb, hml, hown, hts⟩ (c_X0_goOn l D cT (x_sh a 1) (x_sh M_87 1) _ _ hv) w_108 hK hP hD hS hA hN [1, 2, 3, 4, 5, 6, 7, 8, 9, 10] [0, 11, 12, 13, 14, 15, 16, 17, 18, 19, 20, 21, 22, 23, 24, 25, 26, 27, 28] [0, 19, 20, 21, 22, 23, 24, 25, 26, 27, 28, 1, 2, 3, 4, 5, 6, 7, 8, 9, 10, 11, 12, 13, 14, 15, 16, 17, 18] rfl rfl (fun _ => rfl) (by decide) (by decide) (by decide) (by decide) 0 0 rfl rfl rfl hl.1 rfl (Nat.le_of_ble_eq_true rfl) dX3_tick_108 ⟨Nat.le_of_ble_eq_true rfl, Nat.le_of_ble_eq_true rfl⟩ (fun u_88 H locs hv hP hD hS => ?_)
          obtain ⟨M_89, eM_89⟩ : ∃ z : ST, z = x_wb M_87 1 10 u_88 := ⟨_, rfl⟩
          have hP : va_P D vwCl ((w_Machine cT a M_89)) H := by rw [eM_89]; exact hP
          have hD : va_D A ((w_Machine cT a M_89)) := by rw [eM_89]; exact hD
          have hv := hv M_89 eM_89
          exact W.vret hx hb hr (fun t ht hW => ⟨⟨M_89, rfl, hv, by rw [ht]; exact hP, va_K.moved hW.alike hK, hD⟩, hS.F ht⟩) hS.2.2 dX3_tick_111
      · have hv := hv.2 c_74
        refine lv_aload_n hx hb dX3_tick_56 rfl (lv_at hl 0 rfl) ?_
        refine x_cVv (As := []) (rest := []) (wn := fun u_90 => (w_Machine cT a u_90)) ⟨hx, hb, hml, hown, hts⟩ (c_X3_fetchByte l D cT a u_55 _ _ hv) w_95 hK hP hD hS hA hN [0, 1, 2, 3, 4, 5, 6, 7, 8, 9, 10, 11, 12, 13, 14, 15, 16, 17, 18, 19, 20, 21, 22, 23, 24, 25, 26, 27, 28] [] [0, 1, 2, 3, 4, 5, 6, 7, 8, 9, 10, 11, 12, 13, 14, 15, 16, 17, 18, 19, 20, 21, 22, 23, 24, 25, 26, 27, 28] rfl rfl (fun _ => rfl) (by decide) (by decide) (by decide) (by decide) 3 0 rfl rfl rfl hl.1 rfl (Nat.le_of_ble_eq_true rfl) dX3_tick_57 ⟨Nat.le_of_ble_eq_true rfl, Nat.le_of_ble_eq_true rfl⟩ (fun u_90 H locs hv hP hD hS => ?_)
        refine lv_aload_n hx hb dX3_tick_60 rfl (lv_at hl 0 rfl) ?_
        refine va_get (D := D) (ci := 3) (v := .ref (a 1)) (C := RX3) (T := TX3) (N := 12) hx hb hts in_X3 hown hK hP 0 rfl rfl 0 (by decide) kf_12 (fun _ h9 => h9) rfl dX3_tick_61 ?_
        refine x_rV (As := []) (rest := []) ⟨hx, hb, hml, hown, hts⟩ (c_X0_isOnDot l D cT (x_sh a 1) (x_sh u_90 1) _ hv) w_98 hK hP hS hN [1, 2, 3, 4, 5, 6, 7, 8, 9, 10] rfl 0 0 rfl rfl rfl hl.1 rfl (Nat.le_of_ble_eq_true rfl) dX3_tick_64 ⟨Nat.le_of_ble_eq_true rfl, Nat.le_of_ble_eq_true rfl⟩ (fun r_91 hv => ?_)
        refine lv_if_eq (tgt := 74) hx hb dX3_tick_67 (by decide) (fun c_92 => ?_) (fun c_92 => ?_)
        · have hv := hv.1 c_92
          refine lv_aload_n hx hb dX3_tick_74 rfl (lv_at hl 0 rfl) ?_
          refine va_get (D := D) (ci := 3) (v := .ref (a 28)) (C := RX3) (T := TX3) (N := 12) hx hb hts in_X3 hown hK hP 0 rfl rfl 7 (by decide) kf_53 (fun _ h9 => h9) rfl dX3_tick_75 ?_
          refine lv_aload_n hx hb dX3_tick_78 rfl (lv_at hl 0 rfl) ?_
          refine va_get (D := D) (ci := 3) (v := .int (u_90 0 10)) (C := RX3) (T := TX3) (N := 12) hx hb hts in_X3 hown hK hP 0 rfl rfl 10 (by decide) kf_69 (fun _ h9 => h9) rfl dX3_tick_79 ?_
          refine lv_sipush (v := 512) hx hb dX3_tick_82 (by decide) ?_
          refine lv_irem hx hb dX3_tick_85 (by decide) ?_
          refine lv_aload_n hx hb dX3_tick_86 rfl (lv_at hl 0 rfl) ?_
          refine va_get (D := D) (ci := 3) (v := .ref (a 1)) (C := RX3) (T := TX3) (N := 12) hx hb hts in_X3 hown hK hP 0 rfl rfl 0 (by decide) kf_12 (fun _ h9 => h9) rfl dX3_tick_87 ?_
          refine x_rV (As := []) (rest := [.int ((u_90 0 10) - (u_90 0 10) / 512 * 512), .ref (a 28)]) ⟨hx, hb, hml, hown, hts⟩ (c_X0_signalsHere l D cT (x_sh a 1) (x_sh u_90 1) _ hv) w_104 hK hP hS hN [1, 2, 3, 4, 5, 6, 7, 8, 9, 10] rfl 0 0 rfl rfl rfl hl.1 rfl (Nat.le_of_ble_eq_true rfl) dX3_tick_90 ⟨Nat.le_of_ble_eq_true rfl, Nat.le_of_ble_eq_true rfl⟩ (fun r_93 hv => ?_)
          obtain ⟨k_94, hk_94, ik_94, hv⟩ := hv
          refine x_ast hx hb hK hP hD hS 28 0 rfl rfl k_94 ik_94 hk_94 (by decide) dX3_tick_93 (fun H locs hP hD hS => ?_)
          obtain ⟨M_95, eM_95⟩ : ∃ z : ST, z = x_st u_90 28 k_94 r_93 := ⟨_, rfl⟩
          have hP : va_P D vwCl ((w_Machine cT a M_95)) H := by rw [eM_95]; exact hP
          have hD : va_D A ((w_Machine cT a M_95)) := by rw [eM_95]; exact hD
          have hv := hv M_95 eM_95
          refine lv_aload_n hx hb dX3_tick_94 rfl (lv_at hl 0 rfl) ?_
          refine lv_dup hx hb dX3_tick_95 rfl ?_
          refine va_get (D := D) (ci := 3) (v := .int (M_95 0 10)) (C := RX3) (T := TX3) (N := 12) hx hb hts in_X3 hown hK hP 0 rfl rfl 10 (by decide) kf_69 (fun _ h9 => h9) rfl dX3_tick_96 ?_
          refine lv_iconst (v := 1) hx hb dX3_tick_99 (by decide) ?_
          refine lv_iadd hx hb dX3_tick_100 ?_
          refine va_put (D := D) (ci := 3) (v := .int ((M_95 0 10) + 1)) (ty := .int) (C := RX3) (T := TX3) (N := 12) hx hb hts in_X3 tyX3 tyX3_ok nmX3 hown hK hP hD hS 0 rfl rfl 10 (by decide) kf_69 (fun _ h9 => h9) rfl (by decide +kernel) rfl rfl (Nat.le_of_ble_eq_true rfl) dX3_tick_101 (fun H locs hP hD hS => ?_)
          obtain ⟨M_96, eM_96⟩ : ∃ z : ST, z = x_st M_95 0 10 ((M_95 0 10) + 1) := ⟨_, rfl⟩
          have hP : va_P D vwCl ((w_Machine cT a M_96)) H := by rw [eM_96]; exact hP
          have hD : va_D A ((w_Machine cT a M_96)) := by rw [eM_96]; exact hD
          have hv := hv M_96 eM_96
          refine lv_aload_n hx hb dX3_tick_104 rfl (lv_at hl 0 rfl) ?_
          refine va_get (D := D) (ci := 3) (v := .ref (a 1)) (C := RX3) (T := TX3) (N := 12) hx hb hts in_X3 hown hK hP 0 rfl rfl 0 (by decide) kf_12 (fun _ h9 => h9) rfl dX3_tick_105 ?_
          refine x_cVv (As := []) (rest := []) (wn := fun u_97 => (w_Machine cT a (x_wb M_96 1 10 u_97))) ⟨hx, hb, hml, hown, hts⟩ (c_X0_goOn l D cT (x_sh a 1) (x_sh M_96 1) _ _ hv) w_108 hK hP hD hS hA hN [1, 2, 3, 4, 5, 6, 7, 8, 9, 10] [0, 11, 12, 13, 14, 15, 16, 17, 18, 19, 20, 21, 22, 23, 24, 25, 26, 27, 28] [0, 19, 20, 21, 22, 23, 24, 25, 26, 27, 28, 1, 2, 3, 4, 5, 6, 7, 8, 9, 10, 11, 12, 13, 14, 15, 16, 17, 18] rfl rfl (fun _ => rfl) (by decide) (by decide) (by decide) (by decide) 0 0 rfl rfl rfl hl.1 rfl (Nat.le_of_ble_eq_true rfl) dX3_tick_108 ⟨Nat.le_of_ble_eq_true rfl, Nat.le_of_ble_eq_true rfl⟩ (fun u_97 H locs hv hP hD hS => ?_)
          obtain ⟨M_98, eM_98⟩ : ∃ z : ST, z = x_wb M_96 1 10 u_97 := ⟨_, rfl⟩
          have hP : va_P D vwCl ((w_Machine cT a M_98)) H := by rw [eM_98]; exact hP
          have hD : va_D A ((w_Machine cT a M_98)) := by rw [eM_98]; exact hD
          have hv := hv M_98 eM_98
          exact W.vret hx hb hr (fun t ht hW => ⟨⟨M_98, rfl, hv, by rw [ht]; exact hP, va_K.moved hW.alike hK, hD⟩, hS.F ht⟩) hS.2.2 dX3_tick_111
        · have hv := hv.2 c_92
          refine lv_aload_n hx hb dX3_tick_70 rfl (lv_at hl 0 rfl) ?_
          refine x_cVv (As := []) (rest := []) (wn := fun u_99 => (w_Machine cT a u_99)) ⟨hx, hb, hml, hown, hts⟩ (c_X3_makeDot l D cT a u_90 _ _ hv) w_101 hK hP hD hS hA hN [0, 1, 2, 3, 4, 5, 6, 7, 8, 9, 10, 11, 12, 13, 14, 15, 16, 17, 18, 19, 20, 21, 22, 23, 24, 25, 26, 27, 28] [] [0, 1, 2, 3, 4, 5, 6, 7, 8, 9, 10, 11, 12, 13, 14, 15, 16, 17, 18, 19, 20, 21, 22, 23, 24, 25, 26, 27, 28] rfl rfl (fun _ => rfl) (by decide) (by decide) (by decide) (by decide) 3 0 rfl rfl rfl hl.1 rfl (Nat.le_of_ble_eq_true rfl) dX3_tick_71 ⟨Nat.le_of_ble_eq_true rfl, Nat.le_of_ble_eq_true rfl⟩ (fun u_99 H locs hv hP hD hS => ?_)
          refine lv_aload_n hx hb dX3_tick_74 rfl (lv_at hl 0 rfl) ?_
          refine va_get (D := D) (ci := 3) (v := .ref (a 28)) (C := RX3) (T := TX3) (N := 12) hx hb hts in_X3 hown hK hP 0 rfl rfl 7 (by decide) kf_53 (fun _ h9 => h9) rfl dX3_tick_75 ?_
          refine lv_aload_n hx hb dX3_tick_78 rfl (lv_at hl 0 rfl) ?_
          refine va_get (D := D) (ci := 3) (v := .int (u_99 0 10)) (C := RX3) (T := TX3) (N := 12) hx hb hts in_X3 hown hK hP 0 rfl rfl 10 (by decide) kf_69 (fun _ h9 => h9) rfl dX3_tick_79 ?_
          refine lv_sipush (v := 512) hx hb dX3_tick_82 (by decide) ?_
          refine lv_irem hx hb dX3_tick_85 (by decide) ?_
          refine lv_aload_n hx hb dX3_tick_86 rfl (lv_at hl 0 rfl) ?_
          refine va_get (D := D) (ci := 3) (v := .ref (a 1)) (C := RX3) (T := TX3) (N := 12) hx hb hts in_X3 hown hK hP 0 rfl rfl 0 (by decide) kf_12 (fun _ h9 => h9) rfl dX3_tick_87 ?_
          refine x_rV (As := []) (rest := [.int ((u_99 0 10) - (u_99 0 10) / 512 * 512), .ref (a 28)]) ⟨hx, hb, hml, hown, hts⟩ (c_X0_signalsHere l D cT (x_sh a 1) (x_sh u_99 1) _ hv) w_104 hK hP hS hN [1, 2, 3, 4, 5, 6, 7, 8, 9, 10] rfl 0 0 rfl rfl rfl hl.1 rfl (Nat.le_of_ble_eq_true rfl) dX3_tick_90 ⟨Nat.le_of_ble_eq_true rfl, Nat.le_of_ble_eq_true rfl⟩ (fun r_100 hv => ?_)
          obtain ⟨k_101, hk_101, ik_101, hv⟩ := hv
          refine x_ast hx hb hK hP hD hS 28 0 rfl rfl k_101 ik_101 hk_101 (by decide) dX3_tick_93 (fun H locs hP hD hS => ?_)
          obtain ⟨M_102, eM_102⟩ : ∃ z : ST, z = x_st u_99 28 k_101 r_100 := ⟨_, rfl⟩
          have hP : va_P D vwCl ((w_Machine cT a M_102)) H := by rw [eM_102]; exact hP
          have hD : va_D A ((w_Machine cT a M_102)) := by rw [eM_102]; exact hD
          have hv := hv M_102 eM_102
          refine lv_aload_n hx hb dX3_tick_94 rfl (lv_at hl 0 rfl) ?_
          refine lv_dup hx hb dX3_tick_95 rfl ?_
          refine va_get (D := D) (ci := 3) (v := .int (M_102 0 10)) (C := RX3) (T := TX3) (N := 12) hx hb hts in_X3 hown hK hP 0 rfl rfl 10 (by decide) kf_69 (fun _ h9 => h9) rfl dX3_tick_96 ?_
          refine lv_iconst (v := 1) hx hb dX3_tick_99 (by decide) ?_
          refine lv_iadd hx hb dX3_tick_100 ?_
          refine va_put (D := D) (ci := 3) (v := .int ((M_102 0 10) + 1)) (ty := .int) (C := RX3) (T := TX3) (N := 12) hx hb hts in_X3 tyX3 tyX3_ok nmX3 hown hK hP hD hS 0 rfl rfl 10 (by decide) kf_69 (fun _ h9 => h9) rfl (by decide +kernel) rfl rfl (Nat.le_of_ble_eq_true rfl) dX3_tick_101 (fun H locs hP hD hS => ?_)
          obtain ⟨M_103, eM_103⟩ : ∃ z : ST, z = x_st M_102 0 10 ((M_102 0 10) + 1) := ⟨_, rfl⟩
          have hP : va_P D vwCl ((w_Machine cT a M_103)) H := by rw [eM_103]; exact hP
          have hD : va_D A ((w_Machine cT a M_103)) := by rw [eM_103]; exact hD
          have hv := hv M_103 eM_103
          refine lv_aload_n hx hb dX3_tick_104 rfl (lv_at hl 0 rfl) ?_
          refine va_get (D := D) (ci := 3) (v := .ref (a 1)) (C := RX3) (T := TX3) (N := 12) hx hb hts in_X3 hown hK hP 0 rfl rfl 0 (by decide) kf_12 (fun _ h9 => h9) rfl dX3_tick_105 ?_
          refine x_cVv (As := []) (rest := []) (wn := fun u_104 => (w_Machine cT a (x_wb M_103 1 10 u_104))) ⟨hx, hb, hml, hown, hts⟩ (c_X0_goOn l D cT (x_sh a 1) (x_sh M_103 1) _ _ hv) w_108 hK hP hD hS hA hN [1, 2, 3, 4, 5, 6, 7, 8, 9, 10] [0, 11, 12, 13, 14, 15, 16, 17, 18, 19, 20, 21, 22, 23, 24, 25, 26, 27, 28] [0, 19, 20, 21, 22, 23, 24, 25, 26, 27, 28, 1, 2, 3, 4, 5, 6, 7, 8, 9, 10, 11, 12, 13, 14, 15, 16, 17, 18] rfl rfl (fun _ => rfl) (by decide) (by decide) (by decide) (by decide) 0 0 rfl rfl rfl hl.1 rfl (Nat.le_of_ble_eq_true rfl) dX3_tick_108 ⟨Nat.le_of_ble_eq_true rfl, Nat.le_of_ble_eq_true rfl⟩ (fun u_104 H locs hv hP hD hS => ?_)
          obtain ⟨M_105, eM_105⟩ : ∃ z : ST, z = x_wb M_103 1 10 u_104 := ⟨_, rfl⟩
          have hP : va_P D vwCl ((w_Machine cT a M_105)) H := by rw [eM_105]; exact hP
          have hD : va_D A ((w_Machine cT a M_105)) := by rw [eM_105]; exact hD
          have hv := hv M_105 eM_105
          exact W.vret hx hb hr (fun t ht hW => ⟨⟨M_105, rfl, hv, by rw [ht]; exact hP, va_K.moved hW.alike hK, hD⟩, hS.F ht⟩) hS.2.2 dX3_tick_111
