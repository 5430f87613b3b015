def v_X3_copyFrom (M : ST) (N : ST) (post : ST → Prop) : Prop := v_X0_copyFrom (x_sh M 1) (x_sh N 1) (fun (u_1 : ST) => ∀ M_2 : ST, M_2 = x_wb M 1 10 u_1 → v_X2_copyFrom (x_sh M_2 11) (x_sh N 11) (fun (u_3 : ST) => ∀ M_4 : ST, M_4 = x_wb M_2 11 2 u_3 → v_X5_copyFrom (x_sh M_4 13) (x_sh N 13) (fun (u_5 : ST) => ∀ M_6 : ST, M_6 = x_wb M_4 13 2 u_5 → v_X1_copyFrom (x_sh M_6 15) (x_sh N 15) (fun (u_7 : ST) => ∀ M_8 : ST, M_8 = x_wb M_6 15 5 u_7 → v_X7_copyFrom (x_sh M_8 20) (x_sh N 20) (fun (u_9 : ST) => ∀ M_10 : ST, M_10 = x_wb M_8 20 6 u_9 → ∀ M_11 : ST, M_11 = x_cp M_10 26 1024 (N 26) → ∀ M_12 : ST, M_12 = x_cp M_11 27 4096 (N 27) → ∀ M_13 : ST, M_13 = x_cp M_12 28 512 (N 28) → ∀ M_14 : ST, M_14 = x_st M_13 0 8 (N 0 8) → ∀ M_15 : ST, M_15 = x_st M_14 0 9 (N 0 9) → ∀ M_16 : ST, M_16 = x_st M_15 0 10 (N 0 10) → ∀ M_17 : ST, M_17 = x_st M_16 0 11 (N 0 11) → post M_17)))))
set_option maxHeartbeats 4000000 in
set_option maxRecDepth 100000 in
theorem c_X3_copyFrom (l : Launch) (D : va_G) (cT : Nat → ClassId) (a : Nat → Nat) (M : ST) (b : Nat → Nat) (N : ST) (sz : Nat) (post : ST → Prop) (hv : v_X3_copyFrom M N post) : Met l yX3_copyFrom wsX3_copyFrom ({ frames := 4, cells := 0, slots := 0, locals := 87 }) (va_Pc [.ref (a 0), .ref (b 0)] (x_U D cT ((w_Machine cT a M) ++ (w_Machine cT b N)) sz)) (va_Qv post (fun u t => x_B D cT ((w_Machine cT a u) ++ (w_Machine cT b N)) (va_A ((w_Machine cT a M) ++ (w_Machine cT b N)) sz) t) (va_A ((w_Machine cT a M) ++ (w_Machine cT b N)) sz)) 0 0 (va_A ((w_Machine cT a M) ++ (w_Machine cT b N)) sz) := by
  refine Met.ofW (cc := cX3_copyFrom) (maxL := 2) (ret := none) (by decide) rfl ?_
  intro p e s m args below meth c s₁ B hml hpre
  obtain ⟨rfl, hsz, hP, hK, hD0, hN⟩ := hpre
  have hx := B.exec
  have hb := B.bytes
  have hr := B.returns
  have hts := atoms_spec (ws := wsX3_copyFrom) B.pre
  have hown : s.vm.findClass RX3 = some m.cls := findClass_of_methodNamed B.named
  have hlocks := B.notSynchronized
  subst hsz
  have hD := hD0.self (sz := s.heap.size)
  generalize hAe : va_A ((w_Machine cT a M) ++ (w_Machine cT b N)) s.heap.size = A at hD hN ⊢
  have hA : ∀ q : Nat, s.heap.size ≤ q → A q := fun q h => by rw [← hAe]; exact Or.inr h
  have hS : va_S A s.heap s.heap [] := va_S.rf
  have hl := lv_entry ([.ref (a 0), .ref (b 0)]) (n := 2) (Nat.le_of_ble_eq_true rfl)
  rw [lg_entry_eq]
  generalize (lg_sl ([.ref (a 0), .ref (b 0)]) ++ List.replicate (2 - (lg_sl ([.ref (a 0), .ref (b 0)])).length) Slot.unset).toArray = ls at hl ⊢
  have hl : lv_has ls 2 [(0, .ref (a 0)), (1, .ref (b 0))] := hl
  have in_X3 : ∀ w ∈ wsX30, w ∈ wsX3_copyFrom := by decide +kernel
  have kf_12 : (Cond.fieldLink RX3 12 "PictureBeats$Machine" "beam" "LPictureBeats$Beam;").before ([.ref (a 0), .ref (b 0)] : List Value).toArray s = true := hts _ (by decide +kernel)
  have w_198 : CallW (headSpec wsX3_copyFrom ({ frames := 4, cells := 0, slots := 0, locals := 87 })).room s ([.ref (a 0), .ref (b 0)] : List Value).toArray RX3 RX0 198 yX0_copyFrom cX0_copyFrom 2 none wsX0_copyFrom ({ frames := 3, cells := 0, slots := 0, locals := 66 } : Room) 0 0 1 := cwV 1 hts gX3_copyFrom_X0_copyFrom rfl rfl rfl (by decide +kernel) ⟨Nat.le_of_ble_eq_true rfl, Nat.le_of_ble_eq_true rfl⟩
  have kf_21 : (Cond.fieldLink RX3 21 "PictureBeats$Machine" "feed" "LPictureBeats$Feed;").before ([.ref (a 0), .ref (b 0)] : List Value).toArray s = true := hts _ (by decide +kernel)
  have w_202 : CallW (headSpec wsX3_copyFrom ({ frames := 4, cells := 0, slots := 0, locals := 87 })).room s ([.ref (a 0), .ref (b 0)] : List Value).toArray RX3 RX2 202 yX2_copyFrom cX2_copyFrom 2 none wsX2_copyFrom ({ frames := 1, cells := 0, slots := 0, locals := 40 } : Room) 0 0 1 := cwV 1 hts gX3_copyFrom_X2_copyFrom rfl rfl rfl (by decide +kernel) ⟨Nat.le_of_ble_eq_true rfl, Nat.le_of_ble_eq_true rfl⟩
  have kf_28 : (Cond.fieldLink RX3 28 "PictureBeats$Machine" "registers" "LPictureBeats$Registers;").before ([.ref (a 0), .ref (b 0)] : List Value).toArray s = true := hts _ (by decide +kernel)
  have w_205 : CallW (headSpec wsX3_copyFrom ({ frames := 4, cells := 0, slots := 0, locals := 87 })).room s ([.ref (a 0), .ref (b 0)] : List Value).toArray RX3 RX5 205 yX5_copyFrom cX5_copyFrom 2 none wsX5_copyFrom ({ frames := 1, cells := 0, slots := 0, locals := 40 } : Room) 0 0 1 := cwV 1 hts gX3_copyFrom_X5_copyFrom rfl rfl rfl (by decide +kernel) ⟨Nat.le_of_ble_eq_true rfl, Nat.le_of_ble_eq_true rfl⟩
  have kf_35 : (Cond.fieldLink RX3 35 "PictureBeats$Machine" "changes" "LPictureBeats$Changes;").before ([.ref (a 0), .ref (b 0)] : List Value).toArray s = true := hts _ (by decide +kernel)
  have w_208 : CallW (headSpec wsX3_copyFrom ({ frames := 4, cells := 0, slots := 0, locals := 87 })).room s ([.ref (a 0), .ref (b 0)] : List Value).toArray RX3 RX1 208 yX1_copyFrom cX1_copyFrom 2 none wsX1_copyFrom ({ frames := 1, cells := 0, slots := 0, locals := 40 } : Room) 0 0 1 := cwV 1 hts gX3_copyFrom_X1_copyFrom rfl rfl rfl (by decide +kernel) ⟨Nat.le_of_ble_eq_true rfl, Nat.le_of_ble_eq_true rfl⟩
  have kf_42 : (Cond.fieldLink RX3 42 "PictureBeats$Machine" "sprites" "LPictureBeats$Sprites;").before ([.ref (a 0), .ref (b 0)] : List Value).toArray s = true := hts _ (by decide +kernel)
  have w_211 : CallW (headSpec wsX3_copyFrom ({ frames := 4, cells := 0, slots := 0, locals := 87 })).room s ([.ref (a 0), .ref (b 0)] : List Value).toArray RX3 RX7 211 yX7_copyFrom cX7_copyFrom 2 none wsX7_copyFrom ({ frames := 1, cells := 0, slots := 0, locals := 40 } : Room) 0 0 1 := cwV 1 hts gX3_copyFrom_X7_copyFrom rfl rfl rfl (by decide +kernel) ⟨Nat.le_of_ble_eq_true rfl, Nat.le_of_ble_eq_true rfl⟩
  have kf_46 : (Cond.fieldLink RX3 46 "PictureBeats$Machine" "memory" "[I").before ([.ref (a 0), .ref (b 0)] : List Value).toArray s = true := hts _ (by decide +kernel)
  have k_cpl : (Cond.methodLink RX3 214 arraycopyName).before ([.ref (a 0), .ref (b 0)] : List Value).toArray s = true := hts _ (by decide +kernel)
  have k_cpn : (Cond.native arraycopyName).before ([.ref (a 0), .ref (b 0)] : List Value).toArray s = true := hts _ (by decide +kernel)
  have k_cps : (Cond.static arraycopyName).before ([.ref (a 0), .ref (b 0)] : List Value).toArray s = true := hts _ (by decide +kernel)
  have k_cpi : (Cond.initialized "java/lang/System").before ([.ref (a 0), .ref (b 0)] : List Value).toArray s = true := hts _ (by decide +kernel)
  have kf_50 : (Cond.fieldLink RX3 50 "PictureBeats$Machine" "shown" "[I").before ([.ref (a 0), .ref (b 0)] : List Value).toArray s = true := hts _ (by decide +kernel)
  have kf_53 : (Cond.fieldLink RX3 53 "PictureBeats$Machine" "signals" "[I").before ([.ref (a 0), .ref (b 0)] : List Value).toArray s = true := hts _ (by decide +kernel)
  have kf_56 : (Cond.fieldLink RX3 56 "PictureBeats$Machine" "period" "I").before ([.ref (a 0), .ref (b 0)] : List Value).toArray s = true := hts _ (by decide +kernel)
  have kf_66 : (Cond.fieldLink RX3 66 "PictureBeats$Machine" "pattern" "I").before ([.ref (a 0), .ref (b 0)] : List Value).toArray s = true := hts _ (by decide +kernel)
  have kf_69 : (Cond.fieldLink RX3 69 "PictureBeats$Machine" "ticks" "I").before ([.ref (a 0), .ref (b 0)] : List Value).toArray s = true := hts _ (by decide +kernel)
  have kf_195 : (Cond.fieldLink RX3 195 "PictureBeats$Machine" "dots" "I").before ([.ref (a 0), .ref (b 0)] : List Value).toArray s = true := hts _ (by decide +kernel)
  refine lv_aload_n hx hb dX3_copyFrom_0 rfl (lv_at hl 0 rfl) ?_
  refine va_get (D := D) (ci := 3) (v := .ref (a 1)) (C := RX3) (T := TX3) (N := 12) hx hb hts in_X3 hown hK hP 0 rfl rfl 0 (by decide) kf_12 (fun _ h9 => h9) rfl dX3_copyFrom_1 ?_
  refine lv_aload_n hx hb dX3_copyFrom_4 rfl (lv_at hl 1 rfl) ?_
  refine va_get (D := D) (ci := 3) (v := .ref (b 1)) (C := RX3) (T := TX3) (N := 12) hx hb hts in_X3 hown hK hP 29 rfl rfl 0 (by decide) kf_12 (fun _ h9 => h9) rfl dX3_copyFrom_5 ?_
  refine x_qVv (As := [.ref (b 1)]) (rest := []) ⟨hx, hb, hml, hown, hts⟩ (c_X0_copyFrom l D cT (x_sh a 1) (x_sh M 1) (x_sh b 1) (x_sh N 1) _ _ hv) w_198 hK hP hD hS hA hN (x_pm2 (x_mB0 cT a M) (x_mB0 cT b N)) 0 0 rfl rfl rfl hl.1 rfl (Nat.le_of_ble_eq_true rfl) dX3_copyFrom_8 ⟨Nat.le_of_ble_eq_true rfl, Nat.le_of_ble_eq_true rfl⟩ (fun u_1 H locs hv hP hD hS => ?_)
  have hP := x_P_perm (x_pm2 (x_mB cT a M u_1) (x_mB0 cT b N)).symm hP
  have hD := x_D_perm (x_pm2 (x_mB cT a M u_1) (x_mB0 cT b N)).symm hD
  obtain ⟨M_2, eM_2⟩ : ∃ z : ST, z = x_wb M 1 10 u_1 := ⟨_, rfl⟩
  have hP : va_P D vwCl ((w_Machine cT a M_2) ++ (w_Machine cT b N)) H := by rw [eM_2]; exact hP
  have hD : va_D A ((w_Machine cT a M_2) ++ (w_Machine cT b N)) := by rw [eM_2]; exact hD
  have hv := hv M_2 eM_2
  refine lv_aload_n hx hb dX3_copyFrom_11 rfl (lv_at hl 0 rfl) ?_
  refine va_get (D := D) (ci := 3) (v := .ref (a 11)) (C := RX3) (T := TX3) (N := 12) hx hb hts in_X3 hown hK hP 0 rfl rfl 1 (by decide) kf_21 (fun _ h9 => h9) rfl dX3_copyFrom_12 ?_
  refine lv_aload_n hx hb dX3_copyFrom_15 rfl (lv_at hl 1 rfl) ?_
  refine va_get (D := D) (ci := 3) (v := .ref (b 11)) (C := RX3) (T := TX3) (N := 12) hx hb hts in_X3 hown hK hP 29 rfl rfl 1 (by decide) kf_21 (fun _ h9 => h9) rfl dX3_copyFrom_16 ?_
  refine x_qVv (As := [.ref (b 11)]) (rest := []) ⟨hx, hb, hml, hown, hts⟩ (c_X2_copyFrom l D cT (x_sh a 11) (x_sh M_2 11) (x_sh b 11) (x_sh N 11) _ _ hv) w_202 hK hP hD hS hA hN (x_pm2 (x_mF0 cT a M_2) (x_mF0 cT b N)) 2 0 rfl rfl rfl hl.1 rfl (Nat.le_of_ble_eq_true rfl) dX3_copyFrom_19 ⟨Nat.le_of_ble_eq_true rfl, Nat.le_of_ble_eq_true rfl⟩ (fun u_3 H locs hv hP hD hS => ?_)
  have hP := x_P_perm (x_pm2 (x_mF cT a M_2 u_3) (x_mF0 cT b N)).symm hP
  have hD := x_D_perm (x_pm2 (x_mF cT a M_2 u_3) (x_mF0 cT b N)).symm hD
  obtain ⟨M_4, eM_4⟩ : ∃ z : ST, z = x_wb M_2 11 2 u_3 := ⟨_, rfl⟩
  have hP : va_P D vwCl ((w_Machine cT a M_4) ++ (w_Machine cT b N)) H := by rw [eM_4]; exact hP
  have hD : va_D A ((w_Machine cT a M_4) ++ (w_Machine cT b N)) := by rw [eM_4]; exact hD
  have hv := hv M_4 eM_4
  refine lv_aload_n hx hb dX3_copyFrom_22 rfl (lv_at hl 0 rfl) ?_
  refine va_get (D := D) (ci := 3) (v := .ref (a 13)) (C := RX3) (T := TX3) (N := 12) hx hb hts in_X3 hown hK hP 0 rfl rfl 2 (by decide) kf_28 (fun _ h9 => h9) rfl dX3_copyFrom_23 ?_
  refine lv_aload_n hx hb dX3_copyFrom_26 rfl (lv_at hl 1 rfl) ?_
  refine va_get (D := D) (ci := 3) (v := .ref (b 13)) (C := RX3) (T := TX3) (N := 12) hx hb hts in_X3 hown hK hP 29 rfl rfl 2 (by decide) kf_28 (fun _ h9 => h9) rfl dX3_copyFrom_27 ?_
  refine x_qVv (As := [.ref (b 13)]) (rest := []) ⟨hx, hb, hml, hown, hts⟩ (c_X5_copyFrom l D cT (x_sh a 13) (x_sh M_4 13) (x_sh b 13) (x_sh N 13) _ _ hv) w_205 hK hP hD hS hA hN (x_pm2 (x_mR0 cT a M_4) (x_mR0 cT b N)) 5 0 rfl rfl rfl hl.1 rfl (Nat.le_of_ble_eq_true rfl) dX3_copyFrom_30 ⟨Nat.le_of_ble_eq_true rfl, Nat.le_of_ble_eq_true rfl⟩ (fun u_5 H locs hv hP hD hS => ?_)
  have hP := x_P_perm (x_pm2 (x_mR cT a M_4 u_5) (x_mR0 cT b N)).symm hP
  have hD := x_D_perm (x_pm2 (x_mR cT a M_4 u_5) (x_mR0 cT b N)).symm hD
  obtain ⟨M_6, eM_6⟩ : ∃ z : ST, z = x_wb M_4 13 2 u_5 := ⟨_, rfl⟩
  have hP : va_P D vwCl ((w_Machine cT a M_6) ++ (w_Machine cT b N)) H := by rw [eM_6]; exact hP
  have hD : va_D A ((w_Machine cT a M_6) ++ (w_Machine cT b N)) := by rw [eM_6]; exact hD
  have hv := hv M_6 eM_6
  refine lv_aload_n hx hb dX3_copyFrom_33 rfl (lv_at hl 0 rfl) ?_
  refine va_get (D := D) (ci := 3) (v := .ref (a 15)) (C := RX3) (T := TX3) (N := 12) hx hb hts in_X3 hown hK hP 0 rfl rfl 3 (by decide) kf_35 (fun _ h9 => h9) rfl dX3_copyFrom_34 ?_
  refine lv_aload_n hx hb dX3_copyFrom_37 rfl (lv_at hl 1 rfl) ?_
  refine va_get (D := D) (ci := 3) (v := .ref (b 15)) (C := RX3) (T := TX3) (N := 12) hx hb hts in_X3 hown hK hP 29 rfl rfl 3 (by decide) kf_35 (fun _ h9 => h9) rfl dX3_copyFrom_38 ?_
  refine x_qVv (As := [.ref (b 15)]) (rest := []) ⟨hx, hb, hml, hown, hts⟩ (c_X1_copyFrom l D cT (x_sh a 15) (x_sh M_6 15) (x_sh b 15) (x_sh N 15) _ _ hv) w_208 hK hP hD hS hA hN (x_pm2 (x_mC0 cT a M_6) (x_mC0 cT b N)) 1 0 rfl rfl rfl hl.1 rfl (Nat.le_of_ble_eq_true rfl) dX3_copyFrom_41 ⟨Nat.le_of_ble_eq_true rfl, Nat.le_of_ble_eq_true rfl⟩ (fun u_7 H locs hv hP hD hS => ?_)
  have hP := x_P_perm (x_pm2 (x_mC cT a M_6 u_7) (x_mC0 cT b N)).symm hP
  have hD := x_D_perm (x_pm2 (x_mC cT a M_6 u_7) (x_mC0 cT b N)).symm hD
  obtain ⟨M_8, eM_8⟩ : ∃ z : ST, z = x_wb M_6 15 5 u_7 := ⟨_, rfl⟩
  have hP : va_P D vwCl ((w_Machine cT a M_8) ++ (w_Machine cT b N)) H := by rw [eM_8]; exact hP
  have hD : va_D A ((w_Machine cT a M_8) ++ (w_Machine cT b N)) := by rw [eM_8]; exact hD
  have hv := hv M_8 eM_8
  refine lv_aload_n hx hb dX3_copyFrom_44 rfl (lv_at hl 0 rfl) ?_
  refine va_get (D := D) (ci := 3) (v := .ref (a 20)) (C := RX3) (T := TX3) (N := 12) hx hb hts in_X3 hown hK hP 0 rfl rfl 4 (by decide) kf_42 (fun _ h9 => h9) rfl dX3_copyFrom_45 ?_
  refine lv_aload_n hx hb dX3_copyFrom_48 rfl (lv_at hl 1 rfl) ?_
  refine va_get (D := D) (ci := 3) (v := .ref (b 20)) (C := RX3) (T := TX3) (N := 12) hx hb hts in_X3 hown hK hP 29 rfl rfl 4 (by decide) kf_42 (fun _ h9 => h9) rfl dX3_copyFrom_49 ?_
  refine x_qVv (As := [.ref (b 20)]) (rest := []) ⟨hx, hb, hml, hown, hts⟩ (c_X7_copyFrom l D cT (x_sh a 20) (x_sh M_8 20) (x_sh b 20) (x_sh N 20) _ _ hv) w_211 hK hP hD hS hA hN (x_pm2 (x_mS0 cT a M_8) (x_mS0 cT b N)) 7 0 rfl rfl rfl hl.1 rfl (Nat.le_of_ble_eq_true rfl) dX3_copyFrom_52 ⟨Nat.le_of_ble_eq_true rfl, Nat.le_of_ble_eq_true rfl⟩ (fun u_9 H locs hv hP hD hS => ?_)
  have hP := x_P_perm (x_pm2 (x_mS cT a M_8 u_9) (x_mS0 cT b N)).symm hP
  have hD := x_D_perm (x_pm2 (x_mS cT a M_8 u_9) (x_mS0 cT b N)).symm hD
  obtain ⟨M_10, eM_10⟩ : ∃ z : ST, z = x_wb M_8 20 6 u_9 := ⟨_, rfl⟩
  have hP : va_P D vwCl ((w_Machine cT a M_10) ++ (w_Machine cT b N)) H := by rw [eM_10]; exact hP
  have hD : va_D A ((w_Machine cT a M_10) ++ (w_Machine cT b N)) := by rw [eM_10]; exact hD
  have hv := hv M_10 eM_10
  refine lv_aload_n hx hb dX3_copyFrom_55 rfl (lv_at hl 1 rfl) ?_
  refine va_get (D := D) (ci := 3) (v := .ref (b 26)) (C := RX3) (T := TX3) (N := 12) hx hb hts in_X3 hown hK hP 29 rfl rfl 5 (by decide) kf_46 (fun _ h9 => h9) rfl dX3_copyFrom_56 ?_
  refine lv_iconst (v := 0) hx hb dX3_copyFrom_59 (by decide) ?_
  refine lv_aload_n hx hb dX3_copyFrom_60 rfl (lv_at hl 0 rfl) ?_
  refine va_get (D := D) (ci := 3) (v := .ref (a 26)) (C := RX3) (T := TX3) (N := 12) hx hb hts in_X3 hown hK hP 0 rfl rfl 5 (by decide) kf_46 (fun _ h9 => h9) rfl dX3_copyFrom_61 ?_
  refine lv_iconst (v := 0) hx hb dX3_copyFrom_64 (by decide) ?_
  refine lv_sipush (v := 1024) hx hb dX3_copyFrom_65 (by decide) ?_
  refine x_cpy (N := 1024) (f := N 26) hx hb (hml.trans hl.1.symm) hown k_cpl k_cpn k_cps k_cpi hK hP hD hS 55 26 rfl rfl rfl (by decide) (by decide) (by decide) (Nat.le_of_ble_eq_true rfl) (Nat.le_of_ble_eq_true rfl) dX3_copyFrom_68 (fun H locs hP hD hS => ?_)
  obtain ⟨M_11, eM_11⟩ : ∃ z : ST, z = x_cp M_10 26 1024 (N 26) := ⟨_, rfl⟩
  have hP : va_P D vwCl ((w_Machine cT a M_11) ++ (w_Machine cT b N)) H := by rw [eM_11]; exact hP
  have hD : va_D A ((w_Machine cT a M_11) ++ (w_Machine cT b N)) := by rw [eM_11]; exact hD
  have hv := hv M_11 eM_11
  refine lv_aload_n hx hb dX3_copyFrom_71 rfl (lv_at hl 1 rfl) ?_
  refine va_get (D := D) (ci := 3) (v := .ref (b 27)) (C := RX3) (T := TX3) (N := 12) hx hb hts in_X3 hown hK hP 29 rfl rfl 6 (by decide) kf_50 (fun _ h9 => h9) rfl dX3_copyFrom_72 ?_
  refine lv_iconst (v := 0) hx hb dX3_copyFrom_75 (by decide) ?_
  refine lv_aload_n hx hb dX3_copyFrom_76 rfl (lv_at hl 0 rfl) ?_
  refine va_get (D := D) (ci := 3) (v := .ref (a 27)) (C := RX3) (T := TX3) (N := 12) hx hb hts in_X3 hown hK hP 0 rfl rfl 6 (by decide) kf_50 (fun _ h9 => h9) rfl dX3_copyFrom_77 ?_
  refine lv_iconst (v := 0) hx hb dX3_copyFrom_80 (by decide) ?_
  refine lv_aload_n hx hb dX3_copyFrom_81 rfl (lv_at hl 0 rfl) ?_
  refine va_get (D := D) (ci := 3) (v := .ref (a 27)) (C := RX3) (T := TX3) (N := 12) hx hb hts in_X3 hown hK hP 0 rfl rfl 6 (by decide) kf_50 (fun _ h9 => h9) rfl dX3_copyFrom_82 ?_
  refine va_alen hx hb hK hP 27 0 rfl rfl (v := 4096) rfl dX3_copyFrom_85 ?_
  refine x_cpy (N := 4096) (f := N 27) hx hb (hml.trans hl.1.symm) hown k_cpl k_cpn k_cps k_cpi hK hP hD hS 56 27 rfl rfl rfl (by decide) (by decide) (by decide) (Nat.le_of_ble_eq_true rfl) (Nat.le_of_ble_eq_true rfl) dX3_copyFrom_86 (fun H locs hP hD hS => ?_)
  obtain ⟨M_12, eM_12⟩ : ∃ z : ST, z = x_cp M_11 27 4096 (N 27) := ⟨_, rfl⟩
  have hP : va_P D vwCl ((w_Machine cT a M_12) ++ (w_Machine cT b N)) H := by rw [eM_12]; exact hP
  have hD : va_D A ((w_Machine cT a M_12) ++ (w_Machine cT b N)) := by rw [eM_12]; exact hD
  have hv := hv M_12 eM_12
  refine lv_aload_n hx hb dX3_copyFrom_89 rfl (lv_at hl 1 rfl) ?_
  refine va_get (D := D) (ci := 3) (v := .ref (b 28)) (C := RX3) (T := TX3) (N := 12) hx hb hts in_X3 hown hK hP 29 rfl rfl 7 (by decide) kf_53 (fun _ h9 => h9) rfl dX3_copyFrom_90 ?_
  refine lv_iconst (v := 0) hx hb dX3_copyFrom_93 (by decide) ?_
  refine lv_aload_n hx hb dX3_copyFrom_94 rfl (lv_at hl 0 rfl) ?_
  refine va_get (D := D) (ci := 3) (v := .ref (a 28)) (C := RX3) (T := TX3) (N := 12) hx hb hts in_X3 hown hK hP 0 rfl rfl 7 (by decide) kf_53 (fun _ h9 => h9) rfl dX3_copyFrom_95 ?_
  refine lv_iconst (v := 0) hx hb dX3_copyFrom_98 (by decide) ?_
  refine lv_sipush (v := 512) hx hb dX3_copyFrom_99 (by decide) ?_
  refine x_cpy (N := 512) (f := N 28) hx hb (hml.trans hl.1.symm) hown k_cpl k_cpn k_cps k_cpi hK hP hD hS 57 28 rfl rfl rfl (by decide) (by decide) (by decide) (Nat.le_of_ble_eq_true rfl) (Nat.le_of_ble_eq_true rfl) dX3_copyFrom_102 (fun H locs hP hD hS => ?_)
  obtain ⟨M_13, eM_13⟩ : ∃ z : ST, z = x_cp M_12 28 512 (N 28) := ⟨_, rfl⟩
  have hP : va_P D vwCl ((w_Machine cT a M_13) ++ (w_Machine cT b N)) H := by rw [eM_13]; exact hP
  have hD : va_D A ((w_Machine cT a M_13) ++ (w_Machine cT b N)) := by rw [eM_13]; exact hD
  have hv := hv M_13 eM_13
  refine lv_aload_n hx hb dX3_copyFrom_105 rfl (lv_at hl 0 rfl) ?_
  refine lv_aload_n hx hb dX3_copyFrom_106 rfl (lv_at hl 1 rfl) ?_
  refine va_get (D := D) (ci := 3) (v := .int (N 0 8)) (C := RX3) (T := TX3) (N := 12) hx hb hts in_X3 hown hK hP 29 rfl rfl 8 (by decide) kf_56 (fun _ h9 => h9) rfl dX3_copyFrom_107 ?_
  refine va_put (D := D) (ci := 3) (v := .int (N 0 8)) (ty := .int) (C := RX3) (T := TX3) (N := 12) hx hb hts in_X3 tyX3 tyX3_ok nmX3 hown hK hP hD hS 0 rfl rfl 8 (by decide) kf_56 (fun _ h9 => h9) rfl (by decide +kernel) rfl rfl (Nat.le_of_ble_eq_true rfl) dX3_copyFrom_110 (fun H locs hP hD hS => ?_)
  obtain ⟨M_14, eM_14⟩ : ∃ z : ST, z = x_st M_13 0 8 (N 0 8) := ⟨_, rfl⟩
  have hP : va_P D vwCl ((w_Machine cT a M_14) ++ (w_Machine cT b N)) H := by rw [eM_14]; exact hP
  have hD : va_D A ((w_Machine cT a M_14) ++ (w_Machine cT b N)) := by rw [eM_14]; exact hD
  have hv := hv M_14 eM_14
  refine lv_aload_n hx hb dX3_copyFrom_113 rfl (lv_at hl 0 rfl) ?_
  refine lv_aload_n hx hb dX3_copyFrom_114 rfl (lv_at hl 1 rfl) ?_
  refine va_get (D := D) (ci := 3) (v := .int (N 0 9)) (C := RX3) (T := TX3) (N := 12) hx hb hts in_X3 hown hK hP 29 rfl rfl 9 (by decide) kf_66 (fun _ h9 => h9) rfl dX3_copyFrom_115 ?_
  refine va_put (D := D) (ci := 3) (v := .int (N 0 9)) (ty := .int) (C := RX3) (T := TX3) (N := 12) hx hb hts in_X3 tyX3 tyX3_ok nmX3 hown hK hP hD hS 0 rfl rfl 9 (by decide) kf_66 (fun _ h9 => h9) rfl (by decide +kernel) rfl rfl (Nat.le_of_ble_eq_true rfl) dX3_copyFrom_118 (fun H locs hP hD hS => ?_)
  obtain ⟨M_15, eM_15⟩ : ∃ z : ST, z = x_st M_14 0 9 (N 0 9) := ⟨_, rfl⟩
  have hP : va_P D vwCl ((w_Machine cT a M_15) ++ (w_Machine cT b N)) H := by rw [eM_15]; exact hP
  have hD : va_D A ((w_Machine cT a M_15) ++ (w_Machine cT b N)) := by rw [eM_15]; exact hD
  have hv := hv M_15 eM_15
  refine lv_aload_n hx hb dX3_copyFrom_121 rfl (lv_at hl 0 rfl) ?_
  refine lv_aload_n hx hb dX3_copyFrom_122 rfl (lv_at hl 1 rfl) ?_
  refine va_get (D := D) (ci := 3) (v := .int (N 0 10)) (C := RX3) (T := TX3) (N := 12) hx hb hts in_X3 hown hK hP 29 rfl rfl 10 (by decide) kf_69 (fun _ h9 => h9) rfl dX3_copyFrom_123 ?_
  refine va_put (D := D) (ci := 3) (v := .int (N 0 10)) (ty := .int) (C := RX3) (T := TX3) (N := 12) hx hb hts in_X3 tyX3 tyX3_ok nmX3 hown hK hP hD hS 0 rfl rfl 10 (by decide) kf_69 (fun _ h9 => h9) rfl (by decide +kernel) rfl rfl (Nat.le_of_ble_eq_true rfl) dX3_copyFrom_126 (fun H locs hP hD hS => ?_)
  obtain ⟨M_16, eM_16⟩ : ∃ z : ST, z = x_st M_15 0 10 (N 0 10) := ⟨_, rfl⟩
  have hP : va_P D vwCl ((w_Machine cT a M_16) ++ (w_Machine cT b N)) H := by rw [eM_16]; exact hP
  have hD : va_D A ((w_Machine cT a M_16) ++ (w_Machine cT b N)) := by rw [eM_16]; exact hD
  have hv := hv M_16 eM_16
  refine lv_aload_n hx hb dX3_copyFrom_129 rfl (lv_at hl 0 rfl) ?_
  refine lv_aload_n hx hb dX3_copyFrom_130 rfl (lv_at hl 1 rfl) ?_
  refine va_get (D := D) (ci := 3) (v := .int (N 0 11)) (C := RX3) (T := TX3) (N := 12) hx hb hts in_X3 hown hK hP 29 rfl rfl 11 (by decide) kf_195 (fun _ h9 => h9) rfl dX3_copyFrom_131 ?_
  refine va_put (D := D) (ci := 3) (v := .int (N 0 11)) (ty := .int) (C := RX3) (T := TX3) (N := 12) hx hb hts in_X3 tyX3 tyX3_ok nmX3 hown hK hP hD hS 0 rfl rfl 11 (by decide) kf_195 (fun _ h9 => h9) rfl (by decide +kernel) rfl rfl (Nat.le_of_ble_eq_true rfl) dX3_copyFrom_134 (fun H locs hP hD hS => ?_)
  obtain ⟨M_17, eM_17⟩ : ∃ z : ST, z = x_st M_16 0 11 (N 0 11) := ⟨_, rfl⟩
  have hP : va_P D vwCl ((w_Machine cT a M_17) ++ (w_Machine cT b N)) H := by rw [eM_17]; exact hP
  have hD : va_D A ((w_Machine cT a M_17) ++ (w_Machine cT b N)) := by rw [eM_17]; exact hD
  have hv := hv M_17 eM_17
  exact W.vret hx hb hr (fun t ht hW => ⟨⟨M_17, rfl, hv, by rw [ht]; exact hP, va_K.moved hW.alike hK, hD⟩, hS.F ht⟩) hS.2.2 dX3_copyFrom_137
