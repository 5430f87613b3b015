def lp_X9_dots_110 (u_2 : ST) (r_4 : Int32) (r_5 : Int32) (post : ST → Prop) (K_ : Int32 → Int32 → Prop) : Nat → Int32 → Int32 → Prop
  | 0, _, _ => False
  | n_17 + 1, y_15, y_16 => (((y_15 < 0) → K_ y_15 y_16) ∧ ((¬ (y_15 < 0)) → ∃ k_19 : Nat, k_19 < 23520 ∧ (130 + (11 * y_15)) = nI k_19 ∧ ∀ x_20 : Int32, x_20 = ((u_2 1 20) - (u_2 1 k_19)) → (((((r_5 >>> (y_15 &&& 31)) &&& 1) = 0) → ∀ x_22 : Int32, x_22 = y_15 + (-1) → lp_X9_dots_110 u_2 r_4 r_5 post K_ n_17 x_22 y_16) ∧ ((¬ (((r_5 >>> (y_15 &&& 31)) &&& 1) = 0)) → v_X9_isIn x_20 0 7 (fun r_23 => (((¬ (r_23 = 0)) → ∃ k_25 : Nat, k_25 < 23520 ∧ ((130 + (11 * y_15)) + 1) = nI k_25 ∧ ∃ k_26 : Nat, k_26 < 23520 ∧ ((((130 + (11 * y_15)) + 3) + r_4) - (u_2 1 k_25)) = nI k_26 ∧ ∀ x_27 : Int32, x_27 = (u_2 1 k_26) → (((¬ (((x_27 >>> ((7 - x_20) &&& 31)) &&& 1) = 1)) → ∀ x_29 : Int32, x_29 = y_15 + (-1) → lp_X9_dots_110 u_2 r_4 r_5 post K_ n_17 x_29 y_16) ∧ ((((x_27 >>> ((7 - x_20) &&& 31)) &&& 1) = 1) → ∀ x_30 : Int32, x_30 = (256 + y_15) → ∀ x_31 : Int32, x_31 = y_15 + (-1) → lp_X9_dots_110 u_2 r_4 r_5 post K_ n_17 x_31 x_30))) ∧ ((r_23 = 0) → ∀ x_32 : Int32, x_32 = y_15 + (-1) → lp_X9_dots_110 u_2 r_4 r_5 post K_ n_17 x_32 y_16)))))))
def lp_X9_dots_14  (post : ST → Prop) (K_ : Int32 → Int32 → ST → Prop) : Nat → Int32 → Int32 → ST → Prop
  | 0, _, _, _ => False
  | n_175 + 1, y_172, y_173, M_174 => ((((M_174 1 42) ≤ y_172) → K_ y_172 y_173 M_174) ∧ ((¬ ((M_174 1 42) ≤ y_172)) → (((y_173 < 0) → K_ y_172 y_173 M_174) ∧ ((¬ (y_173 < 0)) → v_X9_takes M_174 (fun r_179 (u_178 : ST) => ∀ x_180 : Int32, x_180 = y_172 + 1 → lp_X9_dots_14  post K_ n_175 x_180 r_179 u_178)))))
def v_X9_dots (M : ST) (post : ST → Prop) : Prop := (((¬ ((M 1 20) = 0)) → v_X9_takes M (fun r_3 (u_2 : ST) => v_X9_rowOf (u_2 1 21) (u_2 1 22) (u_2 1 8) (fun r_4 => v_X9_spritesOf u_2 r_4 (fun r_5 => (((0 ≤ r_3) → (((¬ (r_3 = 1)) → ∀ x_8 : Int32, x_8 = (u_2 1 44) → (∃ n_33 : Nat, lp_X9_dots_110 u_2 r_4 r_5 post (fun (y_10 : Int32) (y_11 : Int32) => ∃ k_12 : Nat, k_12 < 23520 ∧ ((1770 + (64 * r_4)) + (u_2 1 20)) = nI k_12 ∧ ∀ M_13 : ST, M_13 = x_st u_2 1 k_12 (y_11 + 1) → ∀ M_14 : ST, M_14 = x_st M_13 1 25 ((M_13 1 25) + 1) → post M_14) n_33 7 x_8)) ∧ ((r_3 = 1) → ∀ x_34 : Int32, x_34 = (u_2 1 43) → (∃ n_59 : Nat, lp_X9_dots_110 u_2 r_4 r_5 post (fun (y_36 : Int32) (y_37 : Int32) => ∃ k_38 : Nat, k_38 < 23520 ∧ ((1770 + (64 * r_4)) + (u_2 1 20)) = nI k_38 ∧ ∀ M_39 : ST, M_39 = x_st u_2 1 k_38 (y_37 + 1) → ∀ M_40 : ST, M_40 = x_st M_39 1 25 ((M_39 1 25) + 1) → post M_40) n_59 7 x_34)))) ∧ ((¬ (0 ≤ r_3)) → (∃ n_84 : Nat, lp_X9_dots_110 u_2 r_4 r_5 post (fun (y_61 : Int32) (y_62 : Int32) => ∃ k_63 : Nat, k_63 < 23520 ∧ ((1770 + (64 * r_4)) + (u_2 1 20)) = nI k_63 ∧ ∀ M_64 : ST, M_64 = x_st u_2 1 k_63 (y_62 + 1) → ∀ M_65 : ST, M_65 = x_st M_64 1 25 ((M_64 1 25) + 1) → post M_65) n_84 7 512))))))) ∧ (((M 1 20) = 0) → (∃ n_181 : Nat, lp_X9_dots_14  post (fun (y_86 : Int32) (y_87 : Int32) (M_88 : ST) => v_X9_takes M_88 (fun r_90 (u_89 : ST) => v_X9_rowOf (u_89 1 21) (u_89 1 22) (u_89 1 8) (fun r_91 => v_X9_spritesOf u_89 r_91 (fun r_92 => (((0 ≤ r_90) → (((¬ (r_90 = 1)) → ∀ x_95 : Int32, x_95 = (u_89 1 44) → (∃ n_120 : Nat, lp_X9_dots_110 u_89 r_91 r_92 post (fun (y_97 : Int32) (y_98 : Int32) => ∃ k_99 : Nat, k_99 < 23520 ∧ ((1770 + (64 * r_91)) + (u_89 1 20)) = nI k_99 ∧ ∀ M_100 : ST, M_100 = x_st u_89 1 k_99 (y_98 + 1) → ∀ M_101 : ST, M_101 = x_st M_100 1 25 ((M_100 1 25) + 1) → post M_101) n_120 7 x_95)) ∧ ((r_90 = 1) → ∀ x_121 : Int32, x_121 = (u_89 1 43) → (∃ n_146 : Nat, lp_X9_dots_110 u_89 r_91 r_92 post (fun (y_123 : Int32) (y_124 : Int32) => ∃ k_125 : Nat, k_125 < 23520 ∧ ((1770 + (64 * r_91)) + (u_89 1 20)) = nI k_125 ∧ ∀ M_126 : ST, M_126 = x_st u_89 1 k_125 (y_124 + 1) → ∀ M_127 : ST, M_127 = x_st M_126 1 25 ((M_126 1 25) + 1) → post M_127) n_146 7 x_121)))) ∧ ((¬ (0 ≤ r_90)) → (∃ n_171 : Nat, lp_X9_dots_110 u_89 r_91 r_92 post (fun (y_148 : Int32) (y_149 : Int32) => ∃ k_150 : Nat, k_150 < 23520 ∧ ((1770 + (64 * r_91)) + (u_89 1 20)) = nI k_150 ∧ ∀ M_151 : ST, M_151 = x_st u_89 1 k_150 (y_149 + 1) → ∀ M_152 : ST, M_152 = x_st M_151 1 25 ((M_151 1 25) + 1) → post M_152) n_171 7 512))))))) n_181 0 0 M)))
set_option maxHeartbeats 4000000 in
set_option maxRecDepth 100000 in
theorem c_X9_dots (l : Launch) (D : va_G) (cT : Nat → ClassId) (a : Nat → Nat) (M : ST) (sz : Nat) (post : ST → Prop) (hv : v_X9_dots M post) : Met l yX9_dots wsX9_dots ({ frames := 2, cells := 0, slots := 0, locals := 47 }) (va_Pc [.ref (a 0)] (x_U D cT ((w_Model cT a M)) sz)) (va_Qv post (fun u t => x_B D cT ((w_Model cT a u)) (va_A ((w_Model cT a M)) sz) t) (va_A ((w_Model cT a M)) sz)) 0 0 (va_A ((w_Model cT a M)) sz) := by
  refine Met.ofW (cc := cX9_dots) (maxL := 8) (ret := none) (by decide) rfl ?_
  intro p e s m args below meth c s₁ B hml hpre
  obtain ⟨rfl, hsz, hP, hK, hD0, hN⟩ := hpre
  have hx := B.exec
  have hb := B.bytes
  have hr := B.returns
  have hts := atoms_spec (ws := wsX9_dots) B.pre
  have hown : s.vm.findClass RX9 = some m.cls := findClass_of_methodNamed B.named
  have hlocks := B.notSynchronized
  subst hsz
  have hD := hD0.self (sz := s.heap.size)
  generalize hAe : va_A ((w_Model cT a M)) s.heap.size = A at hD hN ⊢
  have hA : ∀ q : Nat, s.heap.size ≤ q → A q := fun q h => by rw [← hAe]; exact Or.inr h
  have hS : va_S A s.heap s.heap [] := va_S.rf
  have hl := lv_entry ([.ref (a 0)]) (n := 8) (Nat.le_of_ble_eq_true rfl)
  rw [lg_entry_eq]
  generalize (lg_sl ([.ref (a 0)]) ++ List.replicate (8 - (lg_sl ([.ref (a 0)])).length) Slot.unset).toArray = ls at hl ⊢
  have hl : lv_has ls 8 [(0, .ref (a 0))] := hl
  have in_X9 : ∀ w ∈ wsX90, w ∈ wsX9_dots := by decide +kernel
  have kf_7 : (Cond.fieldLink RX9 7 "PictureBeatsModel" "all" "[I").before ([.ref (a 0)] : List Value).toArray s = true := hts _ (by decide +kernel)
  have w_47 : CallW (headSpec wsX9_dots ({ frames := 2, cells := 0, slots := 0, locals := 47 })).room s ([.ref (a 0)] : List Value).toArray RX9 RX9 47 yX9_takes cX9_takes 2 (some .int) wsX9_takes ({ frames := 0, cells := 0, slots := 0, locals := 0 } : Room) 0 0 0 := cwV 0 hts gX9_dots_X9_takes rfl rfl rfl (by decide +kernel) ⟨Nat.le_of_ble_eq_true rfl, Nat.le_of_ble_eq_true rfl⟩
  have w_36 : CallB (headSpec wsX9_dots ({ frames := 2, cells := 0, slots := 0, locals := 47 })).room s ([.ref (a 0)] : List Value).toArray RX9 36 yX9_rowOf cX9_rowOf 3 (some .int) wsX9_rowOf ({ frames := 0, cells := 0, slots := 0, locals := 0 } : Room) 0 0 3 ∧ (Cond.static yX9_rowOf).before ([.ref (a 0)] : List Value).toArray s = true := va_cwS 3 hts gX9_dots_X9_rowOf rfl rfl rfl (by decide +kernel) ⟨Nat.le_of_ble_eq_true rfl, Nat.le_of_ble_eq_true rfl⟩
  have w_50 : CallW (headSpec wsX9_dots ({ frames := 2, cells := 0, slots := 0, locals := 47 })).room s ([.ref (a 0)] : List Value).toArray RX9 RX9 50 yX9_spritesOf cX9_spritesOf 5 (some .int) wsX9_spritesOf ({ frames := 1, cells := 0, slots := 0, locals := 23 } : Room) 0 0 1 := cwV 1 hts gX9_dots_X9_spritesOf rfl rfl rfl (by decide +kernel) ⟨Nat.le_of_ble_eq_true rfl, Nat.le_of_ble_eq_true rfl⟩
  have w_17 : CallB (headSpec wsX9_dots ({ frames := 2, cells := 0, slots := 0, locals := 47 })).room s ([.ref (a 0)] : List Value).toArray RX9 17 yX9_isIn cX9_isIn 3 (some .boolean) wsX9_isIn ({ frames := 0, cells := 0, slots := 0, locals := 0 } : Room) 0 0 3 ∧ (Cond.static yX9_isIn).before ([.ref (a 0)] : List Value).toArray s = true := va_cwS 3 hts gX9_dots_X9_isIn rfl rfl rfl (by decide +kernel) ⟨Nat.le_of_ble_eq_true rfl, Nat.le_of_ble_eq_true rfl⟩
  refine lv_aload_n hx hb dX9_dots_0 rfl (lv_at hl 0 rfl) ?_
  refine va_get (D := D) (ci := 9) (v := .ref (a 1)) (C := RX9) (T := TX9) (N := 2) hx hb hts in_X9 hown hK hP 0 rfl rfl 0 (by decide) kf_7 (fun _ h9 => h9) rfl dX9_dots_1 ?_
  refine lv_bipush (v := 20) hx hb dX9_dots_4 (by decide) ?_
  refine x_ald hx hb hK hP 1 0 rfl rfl 20 rfl (by decide) (by decide) dX9_dots_6 ?_
  refine lv_if_ne (tgt := 40) hx hb dX9_dots_7 (by decide) (fun c_1 => ?_) (fun c_1 => ?_)
  · have hv := hv.1 c_1
    refine lv_aload_n hx hb dX9_dots_40 rfl (lv_at hl 0 rfl) ?_
    refine x_cVi (As := []) (rest := []) (wn := fun u_2 => (w_Model cT a u_2)) ⟨hx, hb, hml, hown, hts⟩ (c_X9_takes l D cT a M _ _ hv) w_47 hK hP hD hS hA hN [0, 1, 2] [] [0, 1, 2] rfl rfl (fun _ => rfl) (by decide) (by decide) (by decide) (by decide) 9 0 rfl rfl rfl hl.1 rfl (Nat.le_of_ble_eq_true rfl) dX9_dots_41 ⟨Nat.le_of_ble_eq_true rfl, Nat.le_of_ble_eq_true rfl⟩ (fun r_3 u_2 H locs hv hP hD hS => ?_)
    refine lv_istore_n (lv' := [(1, .int r_3), (0, .ref (a 0))]) hx hb dX9_dots_44 rfl hl (by decide) rfl (fun ls hl => ?_)
    refine lv_aload_n hx hb dX9_dots_45 rfl (lv_at hl 1 rfl) ?_
    refine va_get (D := D) (ci := 9) (v := .ref (a 1)) (C := RX9) (T := TX9) (N := 2) hx hb hts in_X9 hown hK hP 0 rfl rfl 0 (by decide) kf_7 (fun _ h9 => h9) rfl dX9_dots_46 ?_
    refine lv_bipush (v := 21) hx hb dX9_dots_49 (by decide) ?_
    refine x_ald hx hb hK hP 1 0 rfl rfl 21 rfl (by decide) (by decide) dX9_dots_51 ?_
    refine lv_aload_n hx hb dX9_dots_52 rfl (lv_at hl 1 rfl) ?_
    refine va_get (D := D) (ci := 9) (v := .ref (a 1)) (C := RX9) (T := TX9) (N := 2) hx hb hts in_X9 hown hK hP 0 rfl rfl 0 (by decide) kf_7 (fun _ h9 => h9) rfl dX9_dots_53 ?_
    refine lv_bipush (v := 22) hx hb dX9_dots_56 (by decide) ?_
    refine x_ald hx hb hK hP 1 0 rfl rfl 22 rfl (by decide) (by decide) dX9_dots_58 ?_
    refine lv_aload_n hx hb dX9_dots_59 rfl (lv_at hl 1 rfl) ?_
    refine va_get (D := D) (ci := 9) (v := .ref (a 1)) (C := RX9) (T := TX9) (N := 2) hx hb hts in_X9 hown hK hP 0 rfl rfl 0 (by decide) kf_7 (fun _ h9 => h9) rfl dX9_dots_60 ?_
    refine lv_bipush (v := 8) hx hb dX9_dots_63 (by decide) ?_
    refine x_ald hx hb hK hP 1 0 rfl rfl 8 rfl (by decide) (by decide) dX9_dots_65 ?_
    refine x_rS (As := [.int (u_2 1 21), .int (u_2 1 22), .int (u_2 1 8)]) (rest := []) ⟨hx, hb, hml, hown, hts⟩ (c_X9_rowOf l D cT (u_2 1 21) (u_2 1 22) (u_2 1 8) _ hv) w_36 hK hS hN rfl hl.1 rfl (Nat.le_of_ble_eq_true rfl) dX9_dots_66 ⟨Nat.le_of_ble_eq_true rfl, Nat.le_of_ble_eq_true rfl⟩ (fun r_4 hv => ?_)
    refine lv_istore_n (lv' := [(2, .int r_4), (1, .int r_3), (0, .ref (a 0))]) hx hb dX9_dots_69 rfl hl (by decide) rfl (fun ls hl => ?_)
    refine lv_aload_n hx hb dX9_dots_70 rfl (lv_at hl 2 rfl) ?_
    refine lv_iload_n hx hb dX9_dots_71 rfl (lv_at hl 0 rfl) ?_
    refine x_rV (As := [.int r_4]) (rest := []) ⟨hx, hb, hml, hown, hts⟩ (c_X9_spritesOf l D cT a u_2 r_4 _ hv) w_50 hK hP hS hN [0, 1, 2] rfl 9 0 rfl rfl rfl hl.1 rfl (Nat.le_of_ble_eq_true rfl) dX9_dots_72 ⟨Nat.le_of_ble_eq_true rfl, Nat.le_of_ble_eq_true rfl⟩ (fun r_5 hv => ?_)
    refine lv_istore_n (lv' := [(3, .int r_5), (2, .int r_4), (1, .int r_3), (0, .ref (a 0))]) hx hb dX9_dots_75 rfl hl (by decide) rfl (fun ls hl => ?_)
    refine lv_iload_n hx hb dX9_dots_76 rfl (lv_at hl 2 rfl) ?_
    refine lv_if_ge (tgt := 86) hx hb dX9_dots_77 (by decide) (fun c_6 => ?_) (fun c_6 => ?_)
    · have hv := hv.1 c_6
      refine lv_aload_n hx hb dX9_dots_86 rfl (lv_at hl 3 rfl) ?_
      refine va_get (D := D) (ci := 9) (v := .ref (a 1)) (C := RX9) (T := TX9) (N := 2) hx hb hts in_X9 hown hK hP 0 rfl rfl 0 (by decide) kf_7 (fun _ h9 => h9) rfl dX9_dots_87 ?_
      refine lv_bipush (v := 40) hx hb dX9_dots_90 (by decide) ?_
      refine lv_iload_n hx hb dX9_dots_92 rfl (lv_at hl 2 rfl) ?_
      refine lv_iconst (v := 1) hx hb dX9_dots_93 (by decide) ?_
      refine lv_icmp_ne (tgt := 101) hx hb dX9_dots_94 (by decide) (fun c_7 => ?_) (fun c_7 => ?_)
      · have hv := hv.1 c_7
        refine lv_iconst (v := 4) hx hb dX9_dots_101 (by decide) ?_
        refine lv_iadd hx hb dX9_dots_102 ?_
        refine x_ald hx hb hK hP 1 0 rfl rfl 44 (by decide) (by decide) (by decide) dX9_dots_103 ?_
        refine lv_topi (fun x_8 ex_8 => ?_)
        have hv := hv x_8 ex_8
        refine lv_istore (lv' := [(4, .int x_8), (3, .int r_5), (2, .int r_4), (1, .int r_3), (0, .ref (a 0))]) hx hb dX9_dots_104 hl (by decide) rfl (fun ls hl => ?_)
        refine lv_bipush (v := 7) hx hb dX9_dots_106 (by decide) ?_
        refine lv_istore (lv' := [(5, .int 7), (4, .int x_8), (3, .int r_5), (2, .int r_4), (1, .int r_3), (0, .ref (a 0))]) hx hb dX9_dots_108 hl (by decide) rfl (fun ls hl => ?_)
        obtain ⟨n_33, hv⟩ := hv
        have K_L_9 : ∀ (y_10 : Int32) (y_11 : Int32), (∃ k_12 : Nat, k_12 < 23520 ∧ ((1770 + (64 * r_4)) + (u_2 1 20)) = nI k_12 ∧ ∀ M_13 : ST, M_13 = x_st u_2 1 k_12 (y_11 + 1) → ∀ M_14 : ST, M_14 = x_st M_13 1 25 ((M_13 1 25) + 1) → post M_14) → ∀ ls : Array Slot, lv_has ls 8 [(5, .int y_10), (4, .int y_11), (3, .int r_5), (2, .int r_4), (1, .int r_3), (0, .ref (a 0))] → W p l e (headSpec wsX9_dots ({ frames := 2, cells := 0, slots := 0, locals := 47 })).room s m ([.ref (a 0)] : List Value).toArray below meth c H locs 0 0 (MQ below (va_Qv post (fun u t => x_B D cT ((w_Model cT a u)) A t) A) ([.ref (a 0)] : List Value).toArray s 0 0 A) (F0 m 227 ls []) := by
          intro y_10 y_11 hv ls hl
          refine lv_aload_n hx hb dX9_dots_227 rfl (lv_at hl 5 rfl) ?_
          refine va_get (D := D) (ci := 9) (v := .ref (a 1)) (C := RX9) (T := TX9) (N := 2) hx hb hts in_X9 hown hK hP 0 rfl rfl 0 (by decide) kf_7 (fun _ h9 => h9) rfl dX9_dots_228 ?_
          refine lv_sipush (v := 1770) hx hb dX9_dots_231 (by decide) ?_
          refine lv_bipush (v := 64) hx hb dX9_dots_234 (by decide) ?_
          refine lv_iload_n hx hb dX9_dots_236 rfl (lv_at hl 3 rfl) ?_
          refine lv_imul hx hb dX9_dots_237 ?_
          refine lv_iadd hx hb dX9_dots_238 ?_
          refine lv_aload_n hx hb dX9_dots_239 rfl (lv_at hl 5 rfl) ?_
          refine va_get (D := D) (ci := 9) (v := .ref (a 1)) (C := RX9) (T := TX9) (N := 2) hx hb hts in_X9 hown hK hP 0 rfl rfl 0 (by decide) kf_7 (fun _ h9 => h9) rfl dX9_dots_240 ?_
          refine lv_bipush (v := 20) hx hb dX9_dots_243 (by decide) ?_
          refine x_ald hx hb hK hP 1 0 rfl rfl 20 rfl (by decide) (by decide) dX9_dots_245 ?_
          refine lv_iadd hx hb dX9_dots_246 ?_
          refine lv_iload hx hb dX9_dots_247 (lv_at hl 1 rfl) ?_
          refine lv_iconst (v := 1) hx hb dX9_dots_249 (by decide) ?_
          refine lv_iadd hx hb dX9_dots_250 ?_
          obtain ⟨k_12, hk_12, ik_12, hv⟩ := hv
          refine x_ast hx hb hK hP hD hS 1 0 rfl rfl k_12 ik_12 hk_12 (by decide) dX9_dots_251 (fun H locs hP hD hS => ?_)
          obtain ⟨M_13, eM_13⟩ : ∃ z : ST, z = x_st u_2 1 k_12 (y_11 + 1) := ⟨_, rfl⟩
          have hP : va_P D vwCl ((w_Model cT a M_13)) H := by rw [eM_13]; exact hP
          have hD : va_D A ((w_Model cT a M_13)) := by rw [eM_13]; exact hD
          have hv := hv M_13 eM_13
          refine lv_aload_n hx hb dX9_dots_252 rfl (lv_at hl 5 rfl) ?_
          refine va_get (D := D) (ci := 9) (v := .ref (a 1)) (C := RX9) (T := TX9) (N := 2) hx hb hts in_X9 hown hK hP 0 rfl rfl 0 (by decide) kf_7 (fun _ h9 => h9) rfl dX9_dots_253 ?_
          refine lv_bipush (v := 25) hx hb dX9_dots_256 (by decide) ?_
          refine lv_dup2_11 hx hb dX9_dots_258 rfl rfl ?_
          refine x_ald hx hb hK hP 1 0 rfl rfl 25 rfl (by decide) (by decide) dX9_dots_259 ?_
          refine lv_iconst (v := 1) hx hb dX9_dots_260 (by decide) ?_
          refine lv_iadd hx hb dX9_dots_261 ?_
          refine x_ast hx hb hK hP hD hS 1 0 rfl rfl 25 rfl (by decide) (by decide) dX9_dots_262 (fun H locs hP hD hS => ?_)
          obtain ⟨M_14, eM_14⟩ : ∃ z : ST, z = x_st M_13 1 25 ((M_13 1 25) + 1) := ⟨_, rfl⟩
          have hP : va_P D vwCl ((w_Model cT a M_14)) H := by rw [eM_14]; exact hP
          have hD : va_D A ((w_Model cT a M_14)) := by rw [eM_14]; exact hD
          have hv := hv M_14 eM_14
          exact W.vret hx hb hr (fun t ht hW => ⟨⟨M_14, rfl, hv, by rw [ht]; exact hP, va_K.moved hW.alike hK, hD⟩, hS.F ht⟩) hS.2.2 dX9_dots_263
        have L_9 : ∀ n_17 : Nat, ∀ (y_15 : Int32) (y_16 : Int32), (lp_X9_dots_110 u_2 r_4 r_5 post (fun (y_10 : Int32) (y_11 : Int32) => ∃ k_12 : Nat, k_12 < 23520 ∧ ((1770 + (64 * r_4)) + (u_2 1 20)) = nI k_12 ∧ ∀ M_13 : ST, M_13 = x_st u_2 1 k_12 (y_11 + 1) → ∀ M_14 : ST, M_14 = x_st M_13 1 25 ((M_13 1 25) + 1) → post M_14) n_17 y_15 y_16) → ∀ ls : Array Slot, lv_has ls 8 [(5, .int y_15), (4, .int y_16), (3, .int r_5), (2, .int r_4), (1, .int r_3), (0, .ref (a 0))] → W p l e (headSpec wsX9_dots ({ frames := 2, cells := 0, slots := 0, locals := 47 })).room s m ([.ref (a 0)] : List Value).toArray below meth c H locs 0 0 (MQ below (va_Qv post (fun u t => x_B D cT ((w_Model cT a u)) A t) A) ([.ref (a 0)] : List Value).toArray s 0 0 A) (F0 m 110 ls []) := by
          intro n_17
          induction n_17 with
          | zero =>
            intro y_15 y_16 hv
            exact hv.elim
          | succ n_17 L_9_ih =>
            intro y_15 y_16 hv ls hl
            refine lv_iload hx hb dX9_dots_110 (lv_at hl 0 rfl) ?_
            refine lv_if_lt (tgt := 227) hx hb dX9_dots_112 (by decide) (fun c_18 => ?_) (fun c_18 => ?_)
            · have hv := hv.1 c_18
              exact K_L_9 _ _ hv ls (lv_sub hl [0, 1, 2, 3, 4, 5] rfl)
            · have hv := hv.2 c_18
              refine lv_aload_n hx hb dX9_dots_115 rfl (lv_at hl 5 rfl) ?_
              refine va_get (D := D) (ci := 9) (v := .ref (a 1)) (C := RX9) (T := TX9) (N := 2) hx hb hts in_X9 hown hK hP 0 rfl rfl 0 (by decide) kf_7 (fun _ h9 => h9) rfl dX9_dots_116 ?_
              refine lv_bipush (v := 20) hx hb dX9_dots_119 (by decide) ?_
              refine x_ald hx hb hK hP 1 0 rfl rfl 20 rfl (by decide) (by decide) dX9_dots_121 ?_
              refine lv_aload_n hx hb dX9_dots_122 rfl (lv_at hl 5 rfl) ?_
              refine va_get (D := D) (ci := 9) (v := .ref (a 1)) (C := RX9) (T := TX9) (N := 2) hx hb hts in_X9 hown hK hP 0 rfl rfl 0 (by decide) kf_7 (fun _ h9 => h9) rfl dX9_dots_123 ?_
              refine lv_sipush (v := 130) hx hb dX9_dots_126 (by decide) ?_
              refine lv_bipush (v := 11) hx hb dX9_dots_129 (by decide) ?_
              refine lv_iload hx hb dX9_dots_131 (lv_at hl 0 rfl) ?_
              refine lv_imul hx hb dX9_dots_133 ?_
              refine lv_iadd hx hb dX9_dots_134 ?_
              obtain ⟨k_19, hk_19, ik_19, hv⟩ := hv
              refine x_ald hx hb hK hP 1 0 rfl rfl k_19 ik_19 hk_19 (by decide) dX9_dots_135 ?_
              refine lv_isub hx hb dX9_dots_136 ?_
              refine lv_topi (fun x_20 ex_20 => ?_)
              have hv := hv x_20 ex_20
              refine lv_istore (lv' := [(6, .int x_20), (5, .int y_15), (4, .int y_16), (3, .int r_5), (2, .int r_4), (1, .int r_3), (0, .ref (a 0))]) hx hb dX9_dots_137 hl (by decide) rfl (fun ls hl => ?_)
              refine lv_iload_n hx hb dX9_dots_139 rfl (lv_at hl 3 rfl) ?_
              refine lv_iload hx hb dX9_dots_140 (lv_at hl 1 rfl) ?_
              refine lv_ishr hx hb dX9_dots_142 ?_
              refine lv_iconst (v := 1) hx hb dX9_dots_143 (by decide) ?_
              refine lv_iand hx hb dX9_dots_144 ?_
              refine lv_if_eq (tgt := 221) hx hb dX9_dots_145 (by decide) (fun c_21 => ?_) (fun c_21 => ?_)
              · have hv := hv.1 c_21
                obtain ⟨x_22, ex_22⟩ : ∃ z : Int32, z = y_15 + (-1) := ⟨_, rfl⟩
                have hv := hv x_22 ex_22
                refine lv_iinc (v := x_22) (lv' := [(5, .int x_22), (6, .int x_20), (4, .int y_16), (3, .int r_5), (2, .int r_4), (1, .int r_3), (0, .ref (a 0))]) hx hb dX9_dots_221 hl (k := 1) rfl (by rw [ex_22]; rfl) (by decide) rfl (fun ls hl => ?_)
                refine lv_goto (tgt := 110) hx hb dX9_dots_224 (by decide) ?_
                exact L_9_ih _ _ hv ls (lv_sub hl [0, 2, 3, 4, 5, 6] rfl)
              · have hv := hv.2 c_21
                refine lv_iload hx hb dX9_dots_148 (lv_at hl 0 rfl) ?_
                refine lv_iconst (v := 0) hx hb dX9_dots_150 (by decide) ?_
                refine lv_bipush (v := 7) hx hb dX9_dots_151 (by decide) ?_
                refine x_rS (As := [.int x_20, .int 0, .int 7]) (rest := []) ⟨hx, hb, hml, hown, hts⟩ (c_X9_isIn l D cT x_20 0 7 _ hv) w_17 hK hS hN rfl hl.1 rfl (Nat.le_of_ble_eq_true rfl) dX9_dots_153 ⟨Nat.le_of_ble_eq_true rfl, Nat.le_of_ble_eq_true rfl⟩ (fun r_23 hv => ?_)
                refine lv_if_ne (tgt := 162) hx hb dX9_dots_156 (by decide) (fun c_24 => ?_) (fun c_24 => ?_)
                · have hv := hv.1 c_24
                  refine lv_aload_n hx hb dX9_dots_162 rfl (lv_at hl 6 rfl) ?_
                  refine va_get (D := D) (ci := 9) (v := .ref (a 1)) (C := RX9) (T := TX9) (N := 2) hx hb hts in_X9 hown hK hP 0 rfl rfl 0 (by decide) kf_7 (fun _ h9 => h9) rfl dX9_dots_163 ?_
                  refine lv_sipush (v := 130) hx hb dX9_dots_166 (by decide) ?_
                  refine lv_bipush (v := 11) hx hb dX9_dots_169 (by decide) ?_
                  refine lv_iload hx hb dX9_dots_171 (lv_at hl 1 rfl) ?_
                  refine lv_imul hx hb dX9_dots_173 ?_
                  refine lv_iadd hx hb dX9_dots_174 ?_
                  refine lv_iconst (v := 3) hx hb dX9_dots_175 (by decide) ?_
                  refine lv_iadd hx hb dX9_dots_176 ?_
                  refine lv_iload_n hx hb dX9_dots_177 rfl (lv_at hl 4 rfl) ?_
                  refine lv_iadd hx hb dX9_dots_178 ?_
                  refine lv_aload_n hx hb dX9_dots_179 rfl (lv_at hl 6 rfl) ?_
                  refine va_get (D := D) (ci := 9) (v := .ref (a 1)) (C := RX9) (T := TX9) (N := 2) hx hb hts in_X9 hown hK hP 0 rfl rfl 0 (by decide) kf_7 (fun _ h9 => h9) rfl dX9_dots_180 ?_
                  refine lv_sipush (v := 130) hx hb dX9_dots_183 (by decide) ?_
                  refine lv_bipush (v := 11) hx hb dX9_dots_186 (by decide) ?_
                  refine lv_iload hx hb dX9_dots_188 (lv_at hl 1 rfl) ?_
                  refine lv_imul hx hb dX9_dots_190 ?_
                  refine lv_iadd hx hb dX9_dots_191 ?_
                  refine lv_iconst (v := 1) hx hb dX9_dots_192 (by decide) ?_
                  refine lv_iadd hx hb dX9_dots_193 ?_
                  obtain ⟨k_25, hk_25, ik_25, hv⟩ := hv
                  refine x_ald hx hb hK hP 1 0 rfl rfl k_25 ik_25 hk_25 (by decide) dX9_dots_194 ?_
                  refine lv_isub hx hb dX9_dots_195 ?_
                  obtain ⟨k_26, hk_26, ik_26, hv⟩ := hv
                  refine x_ald hx hb hK hP 1 0 rfl rfl k_26 ik_26 hk_26 (by decide) dX9_dots_196 ?_
                  refine lv_topi (fun x_27 ex_27 => ?_)
                  have hv := hv x_27 ex_27
                  refine lv_istore (lv' := [(7, .int x_27), (6, .int x_20), (5, .int y_15), (4, .int y_16), (3, .int r_5), (2, .int r_4), (1, .int r_3), (0, .ref (a 0))]) hx hb dX9_dots_197 hl (by decide) rfl (fun ls hl => ?_)
                  refine lv_iload hx hb dX9_dots_199 (lv_at hl 0 rfl) ?_
                  refine lv_bipush (v := 7) hx hb dX9_dots_201 (by decide) ?_
                  refine lv_iload hx hb dX9_dots_203 (lv_at hl 1 rfl) ?_
                  refine lv_isub hx hb dX9_dots_205 ?_
                  refine lv_ishr hx hb dX9_dots_206 ?_
                  refine lv_iconst (v := 1) hx hb dX9_dots_207 (by decide) ?_
                  refine lv_iand hx hb dX9_dots_208 ?_
                  refine lv_iconst (v := 1) hx hb dX9_dots_209 (by decide) ?_
                  refine lv_icmp_ne (tgt := 221) hx hb dX9_dots_210 (by decide) (fun c_28 => ?_) (fun c_28 => ?_)
                  · have hv := hv.1 c_28
                    obtain ⟨x_29, ex_29⟩ : ∃ z : Int32, z = y_15 + (-1) := ⟨_, rfl⟩
                    have hv := hv x_29 ex_29
                    refine lv_iinc (v := x_29) (lv' := [(5, .int x_29), (7, .int x_27), (6, .int x_20), (4, .int y_16), (3, .int r_5), (2, .int r_4), (1, .int r_3), (0, .ref (a 0))]) hx hb dX9_dots_221 hl (k := 2) rfl (by rw [ex_29]; rfl) (by decide) rfl (fun ls hl => ?_)
                    refine lv_goto (tgt := 110) hx hb dX9_dots_224 (by decide) ?_
                    exact L_9_ih _ _ hv ls (lv_sub hl [0, 3, 4, 5, 6, 7] rfl)
                  · have hv := hv.2 c_28
                    refine lv_sipush (v := 256) hx hb dX9_dots_213 (by decide) ?_
                    refine lv_iload hx hb dX9_dots_216 (lv_at hl 2 rfl) ?_
                    refine lv_iadd hx hb dX9_dots_218 ?_
                    refine lv_topi (fun x_30 ex_30 => ?_)
                    have hv := hv x_30 ex_30
                    refine lv_istore (lv' := [(4, .int x_30), (7, .int x_27), (6, .int x_20), (5, .int y_15), (3, .int r_5), (2, .int r_4), (1, .int r_3), (0, .ref (a 0))]) hx hb dX9_dots_219 hl (by decide) rfl (fun ls hl => ?_)
                    obtain ⟨x_31, ex_31⟩ : ∃ z : Int32, z = y_15 + (-1) := ⟨_, rfl⟩
                    have hv := hv x_31 ex_31
                    refine lv_iinc (v := x_31) (lv' := [(5, .int x_31), (4, .int x_30), (7, .int x_27), (6, .int x_20), (3, .int r_5), (2, .int r_4), (1, .int r_3), (0, .ref (a 0))]) hx hb dX9_dots_221 hl (k := 3) rfl (by rw [ex_31]; rfl) (by decide) rfl (fun ls hl => ?_)
                    refine lv_goto (tgt := 110) hx hb dX9_dots_224 (by decide) ?_
                    exact L_9_ih _ _ hv ls (lv_sub hl [0, 1, 4, 5, 6, 7] rfl)
                · have hv := hv.2 c_24
                  refine lv_goto (tgt := 221) hx hb dX9_dots_159 (by decide) ?_
                  obtain ⟨x_32, ex_32⟩ : ∃ z : Int32, z = y_15 + (-1) := ⟨_, rfl⟩
                  have hv := hv x_32 ex_32
                  refine lv_iinc (v := x_32) (lv' := [(5, .int x_32), (6, .int x_20), (4, .int y_16), (3, .int r_5), (2, .int r_4), (1, .int r_3), (0, .ref (a 0))]) hx hb dX9_dots_221 hl (k := 1) rfl (by rw [ex_32]; rfl) (by decide) rfl (fun ls hl => ?_)
                  refine lv_goto (tgt := 110) hx hb dX9_dots_224 (by decide) ?_
                  exact L_9_ih _ _ hv ls (lv_sub hl [0, 2, 3, 4, 5, 6] rfl)
        exact L_9 n_33 _ _ hv ls hl
      · have hv := hv.2 c_7
        refine lv_iconst (v := 3) hx hb dX9_dots_97 (by decide) ?_
        refine lv_goto (tgt := 102) hx hb dX9_dots_98 (by decide) ?_
        refine lv_iadd hx hb dX9_dots_102 ?_
        refine x_ald hx hb hK hP 1 0 rfl rfl 43 (by decide) (by decide) (by decide) dX9_dots_103 ?_
        refine lv_topi (fun x_34 ex_34 => ?_)
        have hv := hv x_34 ex_34
        refine lv_istore (lv' := [(4, .int x_34), (3, .int r_5), (2, .int r_4), (1, .int r_3), (0, .ref (a 0))]) hx hb dX9_dots_104 hl (by decide) rfl (fun ls hl => ?_)
        refine lv_bipush (v := 7) hx hb dX9_dots_106 (by decide) ?_
        refine lv_istore (lv' := [(5, .int 7), (4, .int x_34), (3, .int r_5), (2, .int r_4), (1, .int r_3), (0, .ref (a 0))]) hx hb dX9_dots_108 hl (by decide) rfl (fun ls hl => ?_)
        obtain ⟨n_59, hv⟩ := hv
        have K_L_35 : ∀ (y_36 : Int32) (y_37 : Int32), (∃ k_38 : Nat, k_38 < 23520 ∧ ((1770 + (64 * r_4)) + (u_2 1 20)) = nI k_38 ∧ ∀ M_39 : ST, M_39 = x_st u_2 1 k_38 (y_37 + 1) → ∀ M_40 : ST, M_40 = x_st M_39 1 25 ((M_39 1 25) + 1) → post M_40) → ∀ ls : Array Slot, lv_has ls 8 [(5, .int y_36), (4, .int y_37), (3, .int r_5), (2, .int r_4), (1, .int r_3), (0, .ref (a 0))] → W p l e (headSpec wsX9_dots ({ frames := 2, cells := 0, slots := 0, locals := 47 })).room s m ([.ref (a 0)] : List Value).toArray below meth c H locs 0 0 (MQ below (va_Qv post (fun u t => x_B D cT ((w_Model cT a u)) A t) A) ([.ref (a 0)] : List Value).toArray s 0 0 A) (F0 m 227 ls []) := by
          intro y_36 y_37 hv ls hl
          refine lv_aload_n hx hb dX9_dots_227 rfl (lv_at hl 5 rfl) ?_
          refine va_get (D := D) (ci := 9) (v := .ref (a 1)) (C := RX9) (T := TX9) (N := 2) hx hb hts in_X9 hown hK hP 0 rfl rfl 0 (by decide) kf_7 (fun _ h9 => h9) rfl dX9_dots_228 ?_
          refine lv_sipush (v := 1770) hx hb dX9_dots_231 (by decide) ?_
          refine lv_bipush (v := 64) hx hb dX9_dots_234 (by decide) ?_
          refine lv_iload_n hx hb dX9_dots_236 rfl (lv_at hl 3 rfl) ?_
          refine lv_imul hx hb dX9_dots_237 ?_
          refine lv_iadd hx hb dX9_dots_238 ?_
          refine lv_aload_n hx hb dX9_dots_239 rfl (lv_at hl 5 rfl) ?_
          refine va_get (D := D) (ci := 9) (v := .ref (a 1)) (C := RX9) (T := TX9) (N := 2) hx hb hts in_X9 hown hK hP 0 rfl rfl 0 (by decide) kf_7 (fun _ h9 => h9) rfl dX9_dots_240 ?_
          refine lv_bipush (v := 20) hx hb dX9_dots_243 (by decide) ?_
          refine x_ald hx hb hK hP 1 0 rfl rfl 20 rfl (by decide) (by decide) dX9_dots_245 ?_
          refine lv_iadd hx hb dX9_dots_246 ?_
          refine lv_iload hx hb dX9_dots_247 (lv_at hl 1 rfl) ?_
          refine lv_iconst (v := 1) hx hb dX9_dots_249 (by decide) ?_
          refine lv_iadd hx hb dX9_dots_250 ?_
          obtain ⟨k_38, hk_38, ik_38, hv⟩ := hv
          refine x_ast hx hb hK hP hD hS 1 0 rfl rfl k_38 ik_38 hk_38 (by decide) dX9_dots_251 (fun H locs hP hD hS => ?_)
          obtain ⟨M_39, eM_39⟩ : ∃ z : ST, z = x_st u_2 1 k_38 (y_37 + 1) := ⟨_, rfl⟩
          have hP : va_P D vwCl ((w_Model cT a M_39)) H := by rw [eM_39]; exact hP
          have hD : va_D A ((w_Model cT a M_39)) := by rw [eM_39]; exact hD
          have hv := hv M_39 eM_39
          refine lv_aload_n hx hb dX9_dots_252 rfl (lv_at hl 5 rfl) ?_
          refine va_get (D := D) (ci := 9) (v := .ref (a 1)) (C := RX9) (T := TX9) (N := 2) hx hb hts in_X9 hown hK hP 0 rfl rfl 0 (by decide) kf_7 (fun _ h9 => h9) rfl dX9_dots_253 ?_
          refine lv_bipush (v := 25) hx hb dX9_dots_256 (by decide) ?_
          refine lv_dup2_11 hx hb dX9_dots_258 rfl rfl ?_
          refine x_ald hx hb hK hP 1 0 rfl rfl 25 rfl (by decide) (by decide) dX9_dots_259 ?_
          refine lv_iconst (v := 1) hx hb dX9_dots_260 (by decide) ?_
          refine lv_iadd hx hb dX9_dots_261 ?_
          refine x_ast hx hb hK hP hD hS 1 0 rfl rfl 25 rfl (by decide) (by decide) dX9_dots_262 (fun H locs hP hD hS => ?_)
          obtain ⟨M_40, eM_40⟩ : ∃ z : ST, z = x_st M_39 1 25 ((M_39 1 25) + 1) := ⟨_, rfl⟩
          have hP : va_P D vwCl ((w_Model cT a M_40)) H := by rw [eM_40]; exact hP
          have hD : va_D A ((w_Model cT a M_40)) := by rw [eM_40]; exact hD
          have hv := hv M_40 eM_40
          exact W.vret hx hb hr (fun t ht hW => ⟨⟨M_40, rfl, hv, by rw [ht]; exact hP, va_K.moved hW.alike hK, hD⟩, hS.F ht⟩) hS.2.2 dX9_dots_263
        have L_35 : ∀ n_43 : Nat, ∀ (y_41 : Int32) (y_42 : Int32), (lp_X9_dots_110 u_2 r_4 r_5 post (fun (y_36 : Int32) (y_37 : Int32) => ∃ k_38 : Nat, k_38 < 23520 ∧ ((1770 + (64 * r_4)) + (u_2 1 20)) = nI k_38 ∧ ∀ M_39 : ST, M_39 = x_st u_2 1 k_38 (y_37 + 1) → ∀ M_40 : ST, M_40 = x_st M_39 1 25 ((M_39 1 25) + 1) → post M_40) n_43 y_41 y_42) → ∀ ls : Array Slot, lv_has ls 8 [(5, .int y_41), (4, .int y_42), (3, .int r_5), (2, .int r_4), (1, .int r_3), (0, .ref (a 0))] → W p l e (headSpec wsX9_dots ({ frames := 2, cells := 0, slots := 0, locals := 47 })).room s m ([.ref (a 0)] : List Value).toArray below meth c H locs 0 0 (MQ below (va_Qv post (fun u t => x_B D cT ((w_Model cT a u)) A t) A) ([.ref (a 0)] : List Value).toArray s 0 0 A) (F0 m 110 ls []) := by
          intro n_43
          induction n_43 with
          | zero =>
            intro y_41 y_42 hv
            exact hv.elim
          | succ n_43 L_35_ih =>
            intro y_41 y_42 hv ls hl
            refine lv_iload hx hb dX9_dots_110 (lv_at hl 0 rfl) ?_
            refine lv_if_lt (tgt := 227) hx hb dX9_dots_112 (by decide) (fun c_44 => ?_) (fun c_44 => ?_)
            · have hv := hv.1 c_44
              exact K_L_35 _ _ hv ls (lv_sub hl [0, 1, 2, 3, 4, 5] rfl)
            · have hv := hv.2 c_44
              refine lv_aload_n hx hb dX9_dots_115 rfl (lv_at hl 5 rfl) ?_
              refine va_get (D := D) (ci := 9) (v := .ref (a 1)) (C := RX9) (T := TX9) (N := 2) hx hb hts in_X9 hown hK hP 0 rfl rfl 0 (by decide) kf_7 (fun _ h9 => h9) rfl dX9_dots_116 ?_
              refine lv_bipush (v := 20) hx hb dX9_dots_119 (by decide) ?_
              refine x_ald hx hb hK hP 1 0 rfl rfl 20 rfl (by decide) (by decide) dX9_dots_121 ?_
              refine lv_aload_n hx hb dX9_dots_122 rfl (lv_at hl 5 rfl) ?_
              refine va_get (D := D) (ci := 9) (v := .ref (a 1)) (C := RX9) (T := TX9) (N := 2) hx hb hts in_X9 hown hK hP 0 rfl rfl 0 (by decide) kf_7 (fun _ h9 => h9) rfl dX9_dots_123 ?_
              refine lv_sipush (v := 130) hx hb dX9_dots_126 (by decide) ?_
              refine lv_bipush (v := 11) hx hb dX9_dots_129 (by decide) ?_
              refine lv_iload hx hb dX9_dots_131 (lv_at hl 0 rfl) ?_
              refine lv_imul hx hb dX9_dots_133 ?_
              refine lv_iadd hx hb dX9_dots_134 ?_
              obtain ⟨k_45, hk_45, ik_45, hv⟩ := hv
              refine x_ald hx hb hK hP 1 0 rfl rfl k_45 ik_45 hk_45 (by decide) dX9_dots_135 ?_
              refine lv_isub hx hb dX9_dots_136 ?_
              refine lv_topi (fun x_46 ex_46 => ?_)
              have hv := hv x_46 ex_46
              refine lv_istore (lv' := [(6, .int x_46), (5, .int y_41), (4, .int y_42), (3, .int r_5), (2, .int r_4), (1, .int r_3), (0, .ref (a 0))]) hx hb dX9_dots_137 hl (by decide) rfl (fun ls hl => ?_)
              refine lv_iload_n hx hb dX9_dots_139 rfl (lv_at hl 3 rfl) ?_
              refine lv_iload hx hb dX9_dots_140 (lv_at hl 1 rfl) ?_
              refine lv_ishr hx hb dX9_dots_142 ?_
              refine lv_iconst (v := 1) hx hb dX9_dots_143 (by decide) ?_
              refine lv_iand hx hb dX9_dots_144 ?_
              refine lv_if_eq (tgt := 221) hx hb dX9_dots_145 (by decide) (fun c_47 => ?_) (fun c_47 => ?_)
              · have hv := hv.1 c_47
                obtain ⟨x_48, ex_48⟩ : ∃ z : Int32, z = y_41 + (-1) := ⟨_, rfl⟩
                have hv := hv x_48 ex_48
                refine lv_iinc (v := x_48) (lv' := [(5, .int x_48), (6, .int x_46), (4, .int y_42), (3, .int r_5), (2, .int r_4), (1, .int r_3), (0, .ref (a 0))]) hx hb dX9_dots_221 hl (k := 1) rfl (by rw [ex_48]; rfl) (by decide) rfl (fun ls hl => ?_)
                refine lv_goto (tgt := 110) hx hb dX9_dots_224 (by decide) ?_
                exact L_35_ih _ _ hv ls (lv_sub hl [0, 2, 3, 4, 5, 6] rfl)
              · have hv := hv.2 c_47
                refine lv_iload hx hb dX9_dots_148 (lv_at hl 0 rfl) ?_
                refine lv_iconst (v := 0) hx hb dX9_dots_150 (by decide) ?_
                refine lv_bipush (v := 7) hx hb dX9_dots_151 (by decide) ?_
                refine x_rS (As := [.int x_46, .int 0, .int 7]) (rest := []) ⟨hx, hb, hml, hown, hts⟩ (c_X9_isIn l D cT x_46 0 7 _ hv) w_17 hK hS hN rfl hl.1 rfl (Nat.le_of_ble_eq_true rfl) dX9_dots_153 ⟨Nat.le_of_ble_eq_true rfl, Nat.le_of_ble_eq_true rfl⟩ (fun r_49 hv => ?_)
                refine lv_if_ne (tgt := 162) hx hb dX9_dots_156 (by decide) (fun c_50 => ?_) (fun c_50 => ?_)
                · have hv := hv.1 c_50
                  refine lv_aload_n hx hb dX9_dots_162 rfl (lv_at hl 6 rfl) ?_
                  refine va_get (D := D) (ci := 9) (v := .ref (a 1)) (C := RX9) (T := TX9) (N := 2) hx hb hts in_X9 hown hK hP 0 rfl rfl 0 (by decide) kf_7 (fun _ h9 => h9) rfl dX9_dots_163 ?_
                  refine lv_sipush (v := 130) hx hb dX9_dots_166 (by decide) ?_
                  refine lv_bipush (v := 11) hx hb dX9_dots_169 (by decide) ?_
                  refine lv_iload hx hb dX9_dots_171 (lv_at hl 1 rfl) ?_
                  refine lv_imul hx hb dX9_dots_173 ?_
                  refine lv_iadd hx hb dX9_dots_174 ?_
                  refine lv_iconst (v := 3) hx hb dX9_dots_175 (by decide) ?_
                  refine lv_iadd hx hb dX9_dots_176 ?_
                  refine lv_iload_n hx hb dX9_dots_177 rfl (lv_at hl 4 rfl) ?_
                  refine lv_iadd hx hb dX9_dots_178 ?_
                  refine lv_aload_n hx hb dX9_dots_179 rfl (lv_at hl 6 rfl) ?_
                  refine va_get (D := D) (ci := 9) (v := .ref (a 1)) (C := RX9) (T := TX9) (N := 2) hx hb hts in_X9 hown hK hP 0 rfl rfl 0 (by decide) kf_7 (fun _ h9 => h9) rfl dX9_dots_180 ?_
                  refine lv_sipush (v := 130) hx hb dX9_dots_183 (by decide) ?_
                  refine lv_bipush (v := 11) hx hb dX9_dots_186 (by decide) ?_
                  refine lv_iload hx hb dX9_dots_188 (lv_at hl 1 rfl) ?_
                  refine lv_imul hx hb dX9_dots_190 ?_
                  refine lv_iadd hx hb dX9_dots_191 ?_
                  refine lv_iconst (v := 1) hx hb dX9_dots_192 (by decide) ?_
                  refine lv_iadd hx hb dX9_dots_193 ?_
                  obtain ⟨k_51, hk_51, ik_51, hv⟩ := hv
                  refine x_ald hx hb hK hP 1 0 rfl rfl k_51 ik_51 hk_51 (by decide) dX9_dots_194 ?_
                  refine lv_isub hx hb dX9_dots_195 ?_
                  obtain ⟨k_52, hk_52, ik_52, hv⟩ := hv
                  refine x_ald hx hb hK hP 1 0 rfl rfl k_52 ik_52 hk_52 (by decide) dX9_dots_196 ?_
                  refine lv_topi (fun x_53 ex_53 => ?_)
                  have hv := hv x_53 ex_53
                  refine lv_istore (lv' := [(7, .int x_53), (6, .int x_46), (5, .int y_41), (4, .int y_42), (3, .int r_5), (2, .int r_4), (1, .int r_3), (0, .ref (a 0))]) hx hb dX9_dots_197 hl (by decide) rfl (fun ls hl => ?_)
                  refine lv_iload hx hb dX9_dots_199 (lv_at hl 0 rfl) ?_
                  refine lv_bipush (v := 7) hx hb dX9_dots_201 (by decide) ?_
                  refine lv_iload hx hb dX9_dots_203 (lv_at hl 1 rfl) ?_
                  refine lv_isub hx hb dX9_dots_205 ?_
                  refine lv_ishr hx hb dX9_dots_206 ?_
                  refine lv_iconst (v := 1) hx hb dX9_dots_207 (by decide) ?_
                  refine lv_iand hx hb dX9_dots_208 ?_
                  refine lv_iconst (v := 1) hx hb dX9_dots_209 (by decide) ?_
                  refine lv_icmp_ne (tgt := 221) hx hb dX9_dots_210 (by decide) (fun c_54 => ?_) (fun c_54 => ?_)
                  · have hv := hv.1 c_54
                    obtain ⟨x_55, ex_55⟩ : ∃ z : Int32, z = y_41 + (-1) := ⟨_, rfl⟩
                    have hv := hv x_55 ex_55
                    refine lv_iinc (v := x_55) (lv' := [(5, .int x_55), (7, .int x_53), (6, .int x_46), (4, .int y_42), (3, .int r_5), (2, .int r_4), (1, .int r_3), (0, .ref (a 0))]) hx hb dX9_dots_221 hl (k := 2) rfl (by rw [ex_55]; rfl) (by decide) rfl (fun ls hl => ?_)
                    refine lv_goto (tgt := 110) hx hb dX9_dots_224 (by decide) ?_
                    exact L_35_ih _ _ hv ls (lv_sub hl [0, 3, 4, 5, 6, 7] rfl)
                  · have hv := hv.2 c_54
                    refine lv_sipush (v := 256) hx hb dX9_dots_213 (by decide) ?_
                    refine lv_iload hx hb dX9_dots_216 (lv_at hl 2 rfl) ?_
                    refine lv_iadd hx hb dX9_dots_218 ?_
                    refine lv_topi (fun x_56 ex_56 => ?_)
                    have hv := hv x_56 ex_56
                    refine lv_istore (lv' := [(4, .int x_56), (7, .int x_53), (6, .int x_46), (5, .int y_41), (3, .int r_5), (2, .int r_4), (1, .int r_3), (0, .ref (a 0))]) hx hb dX9_dots_219 hl (by decide) rfl (fun ls hl => ?_)
                    obtain ⟨x_57, ex_57⟩ : ∃ z : Int32, z = y_41 + (-1) := ⟨_, rfl⟩
                    have hv := hv x_57 ex_57
                    refine lv_iinc (v := x_57) (lv' := [(5, .int x_57), (4, .int x_56), (7, .int x_53), (6, .int x_46), (3, .int r_5), (2, .int r_4), (1, .int r_3), (0, .ref (a 0))]) hx hb dX9_dots_221 hl (k := 3) rfl (by rw [ex_57]; rfl) (by decide) rfl (fun ls hl => ?_)
                    refine lv_goto (tgt := 110) hx hb dX9_dots_224 (by decide) ?_
                    exact L_35_ih _ _ hv ls (lv_sub hl [0, 1, 4, 5, 6, 7] rfl)
                · have hv := hv.2 c_50
                  refine lv_goto (tgt := 221) hx hb dX9_dots_159 (by decide) ?_
                  obtain ⟨x_58, ex_58⟩ : ∃ z : Int32, z = y_41 + (-1) := ⟨_, rfl⟩
                  have hv := hv x_58 ex_58
                  refine lv_iinc (v := x_58) (lv' := [(5, .int x_58), (6, .int x_46), (4, .int y_42), (3, .int r_5), (2, .int r_4), (1, .int r_3), (0, .ref (a 0))]) hx hb dX9_dots_221 hl (k := 1) rfl (by rw [ex_58]; rfl) (by decide) rfl (fun ls hl => ?_)
                  refine lv_goto (tgt := 110) hx hb dX9_dots_224 (by decide) ?_
                  exact L_35_ih _ _ hv ls (lv_sub hl [0, 2, 3, 4, 5, 6] rfl)
        exact L_35 n_59 _ _ hv ls hl
    · have hv := hv.2 c_6
      refine lv_sipush (v := 512) hx hb dX9_dots_80 (by decide) ?_
      refine lv_goto (tgt := 104) hx hb dX9_dots_83 (by decide) ?_
      refine lv_istore (lv' := [(4, .int 512), (3, .int r_5), (2, .int r_4), (1, .int r_3), (0, .ref (a 0))]) hx hb dX9_dots_104 hl (by decide) rfl (fun ls hl => ?_)
      refine lv_bipush (v := 7) hx hb dX9_dots_106 (by decide) ?_
      refine lv_istore (lv' := [(5, .int 7), (4, .int 512), (3, .int r_5), (2, .int r_4), (1, .int r_3), (0, .ref (a 0))]) hx hb dX9_dots_108 hl (by decide) rfl (fun ls hl => ?_)
      obtain ⟨n_84, hv⟩ := hv
      have K_L_60 : ∀ (y_61 : Int32) (y_62 : Int32), (∃ k_63 : Nat, k_63 < 23520 ∧ ((1770 + (64 * r_4)) + (u_2 1 20)) = nI k_63 ∧ ∀ M_64 : ST, M_64 = x_st u_2 1 k_63 (y_62 + 1) → ∀ M_65 : ST, M_65 = x_st M_64 1 25 ((M_64 1 25) + 1) → post M_65) → ∀ ls : Array Slot, lv_has ls 8 [(5, .int y_61), (4, .int y_62), (3, .int r_5), (2, .int r_4), (1, .int r_3), (0, .ref (a 0))] → W p l e (headSpec wsX9_dots ({ frames := 2, cells := 0, slots := 0, locals := 47 })).room s m ([.ref (a 0)] : List Value).toArray below meth c H locs 0 0 (MQ below (va_Qv post (fun u t => x_B D cT ((w_Model cT a u)) A t) A) ([.ref (a 0)] : List Value).toArray s 0 0 A) (F0 m 227 ls []) := by
        intro y_61 y_62 hv ls hl
        refine lv_aload_n hx hb dX9_dots_227 rfl (lv_at hl 5 rfl) ?_
        refine va_get (D := D) (ci := 9) (v := .ref (a 1)) (C := RX9) (T := TX9) (N := 2) hx hb hts in_X9 hown hK hP 0 rfl rfl 0 (by decide) kf_7 (fun _ h9 => h9) rfl dX9_dots_228 ?_
        refine lv_sipush (v := 1770) hx hb dX9_dots_231 (by decide) ?_
        refine lv_bipush (v := 64) hx hb dX9_dots_234 (by decide) ?_
        refine lv_iload_n hx hb dX9_dots_236 rfl (lv_at hl 3 rfl) ?_
        refine lv_imul hx hb dX9_dots_237 ?_
        refine lv_iadd hx hb dX9_dots_238 ?_
        refine lv_aload_n hx hb dX9_dots_239 rfl (lv_at hl 5 rfl) ?_
        refine va_get (D := D) (ci := 9) (v := .ref (a 1)) (C := RX9) (T := TX9) (N := 2) hx hb hts in_X9 hown hK hP 0 rfl rfl 0 (by decide) kf_7 (fun _ h9 => h9) rfl dX9_dots_240 ?_
        refine lv_bipush (v := 20) hx hb dX9_dots_243 (by decide) ?_
        refine x_ald hx hb hK hP 1 0 rfl rfl 20 rfl (by decide) (by decide) dX9_dots_245 ?_
        refine lv_iadd hx hb dX9_dots_246 ?_
        refine lv_iload hx hb dX9_dots_247 (lv_at hl 1 rfl) ?_
        refine lv_iconst (v := 1) hx hb dX9_dots_249 (by decide) ?_
        refine lv_iadd hx hb dX9_dots_250 ?_
        obtain ⟨k_63, hk_63, ik_63, hv⟩ := hv
        refine x_ast hx hb hK hP hD hS 1 0 rfl rfl k_63 ik_63 hk_63 (by decide) dX9_dots_251 (fun H locs hP hD hS => ?_)
        obtain ⟨M_64, eM_64⟩ : ∃ z : ST, z = x_st u_2 1 k_63 (y_62 + 1) := ⟨_, rfl⟩
        have hP : va_P D vwCl ((w_Model cT a M_64)) H := by rw [eM_64]; exact hP
        have hD : va_D A ((w_Model cT a M_64)) := by rw [eM_64]; exact hD
        have hv := hv M_64 eM_64
        refine lv_aload_n hx hb dX9_dots_252 rfl (lv_at hl 5 rfl) ?_
        refine va_get (D := D) (ci := 9) (v := .ref (a 1)) (C := RX9) (T := TX9) (N := 2) hx hb hts in_X9 hown hK hP 0 rfl rfl 0 (by decide) kf_7 (fun _ h9 => h9) rfl dX9_dots_253 ?_
        refine lv_bipush (v := 25) hx hb dX9_dots_256 (by decide) ?_
        refine lv_dup2_11 hx hb dX9_dots_258 rfl rfl ?_
        refine x_ald hx hb hK hP 1 0 rfl rfl 25 rfl (by decide) (by decide) dX9_dots_259 ?_
        refine lv_iconst (v := 1) hx hb dX9_dots_260 (by decide) ?_
        refine lv_iadd hx hb dX9_dots_261 ?_
        refine x_ast hx hb hK hP hD hS 1 0 rfl rfl 25 rfl (by decide) (by decide) dX9_dots_262 (fun H locs hP hD hS => ?_)
        obtain ⟨M_65, eM_65⟩ : ∃ z : ST, z = x_st M_64 1 25 ((M_64 1 25) + 1) := ⟨_, rfl⟩
        have hP : va_P D vwCl ((w_Model cT a M_65)) H := by rw [eM_65]; exact hP
        have hD : va_D A ((w_Model cT a M_65)) := by rw [eM_65]; exact hD
        have hv := hv M_65 eM_65
        exact W.vret hx hb hr (fun t ht hW => ⟨⟨M_65, rfl, hv, by rw [ht]; exact hP, va_K.moved hW.alike hK, hD⟩, hS.F ht⟩) hS.2.2 dX9_dots_263
      have L_60 : ∀ n_68 : Nat, ∀ (y_66 : Int32) (y_67 : Int32), (lp_X9_dots_110 u_2 r_4 r_5 post (fun (y_61 : Int32) (y_62 : Int32) => ∃ k_63 : Nat, k_63 < 23520 ∧ ((1770 + (64 * r_4)) + (u_2 1 20)) = nI k_63 ∧ ∀ M_64 : ST, M_64 = x_st u_2 1 k_63 (y_62 + 1) → ∀ M_65 : ST, M_65 = x_st M_64 1 25 ((M_64 1 25) + 1) → post M_65) n_68 y_66 y_67) → ∀ ls : Array Slot, lv_has ls 8 [(5, .int y_66), (4, .int y_67), (3, .int r_5), (2, .int r_4), (1, .int r_3), (0, .ref (a 0))] → W p l e (headSpec wsX9_dots ({ frames := 2, cells := 0, slots := 0, locals := 47 })).room s m ([.ref (a 0)] : List Value).toArray below meth c H locs 0 0 (MQ below (va_Qv post (fun u t => x_B D cT ((w_Model cT a u)) A t) A) ([.ref (a 0)] : List Value).toArray s 0 0 A) (F0 m 110 ls []) := by
        intro n_68
        induction n_68 with
        | zero =>
          intro y_66 y_67 hv
          exact hv.elim
        | succ n_68 L_60_ih =>
          intro y_66 y_67 hv ls hl
          refine lv_iload hx hb dX9_dots_110 (lv_at hl 0 rfl) ?_
          refine lv_if_lt (tgt := 227) hx hb dX9_dots_112 (by decide) (fun c_69 => ?_) (fun c_69 => ?_)
          · have hv := hv.1 c_69
            exact K_L_60 _ _ hv ls (lv_sub hl [0, 1, 2, 3, 4, 5] rfl)
          · have hv := hv.2 c_69
            refine lv_aload_n hx hb dX9_dots_115 rfl (lv_at hl 5 rfl) ?_
            refine va_get (D := D) (ci := 9) (v := .ref (a 1)) (C := RX9) (T := TX9) (N := 2) hx hb hts in_X9 hown hK hP 0 rfl rfl 0 (by decide) kf_7 (fun _ h9 => h9) rfl dX9_dots_116 ?_
            refine lv_bipush (v := 20) hx hb dX9_dots_119 (by decide) ?_
            refine x_ald hx hb hK hP 1 0 rfl rfl 20 rfl (by decide) (by decide) dX9_dots_121 ?_
            refine lv_aload_n hx hb dX9_dots_122 rfl (lv_at hl 5 rfl) ?_
            refine va_get (D := D) (ci := 9) (v := .ref (a 1)) (C := RX9) (T := TX9) (N := 2) hx hb hts in_X9 hown hK hP 0 rfl rfl 0 (by decide) kf_7 (fun _ h9 => h9) rfl dX9_dots_123 ?_
            refine lv_sipush (v := 130) hx hb dX9_dots_126 (by decide) ?_
            refine lv_bipush (v := 11) hx hb dX9_dots_129 (by decide) ?_
            refine lv_iload hx hb dX9_dots_131 (lv_at hl 0 rfl) ?_
            refine lv_imul hx hb dX9_dots_133 ?_
            refine lv_iadd hx hb dX9_dots_134 ?_
            obtain ⟨k_70, hk_70, ik_70, hv⟩ := hv
            refine x_ald hx hb hK hP 1 0 rfl rfl k_70 ik_70 hk_70 (by decide) dX9_dots_135 ?_
            refine lv_isub hx hb dX9_dots_136 ?_
            refine lv_topi (fun x_71 ex_71 => ?_)
            have hv := hv x_71 ex_71
            refine lv_istore (lv' := [(6, .int x_71), (5, .int y_66), (4, .int y_67), (3, .int r_5), (2, .int r_4), (1, .int r_3), (0, .ref (a 0))]) hx hb dX9_dots_137 hl (by decide) rfl (fun ls hl => ?_)
            refine lv_iload_n hx hb dX9_dots_139 rfl (lv_at hl 3 rfl) ?_
            refine lv_iload hx hb dX9_dots_140 (lv_at hl 1 rfl) ?_
            refine lv_ishr hx hb dX9_dots_142 ?_
            refine lv_iconst (v := 1) hx hb dX9_dots_143 (by decide) ?_
            refine lv_iand hx hb dX9_dots_144 ?_
            refine lv_if_eq (tgt := 221) hx hb dX9_dots_145 (by decide) (fun c_72 => ?_) (fun c_72 => ?_)
            · have hv := hv.1 c_72
              obtain ⟨x_73, ex_73⟩ : ∃ z : Int32, z = y_66 + (-1) := ⟨_, rfl⟩
              have hv := hv x_73 ex_73
              refine lv_iinc (v := x_73) (lv' := [(5, .int x_73), (6, .int x_71), (4, .int y_67), (3, .int r_5), (2, .int r_4), (1, .int r_3), (0, .ref (a 0))]) hx hb dX9_dots_221 hl (k := 1) rfl (by rw [ex_73]; rfl) (by decide) rfl (fun ls hl => ?_)
              refine lv_goto (tgt := 110) hx hb dX9_dots_224 (by decide) ?_
              exact L_60_ih _ _ hv ls (lv_sub hl [0, 2, 3, 4, 5, 6] rfl)
            · have hv := hv.2 c_72
              refine lv_iload hx hb dX9_dots_148 (lv_at hl 0 rfl) ?_
              refine lv_iconst (v := 0) hx hb dX9_dots_150 (by decide) ?_
              refine lv_bipush (v := 7) hx hb dX9_dots_151 (by decide) ?_
              refine x_rS (As := [.int x_71, .int 0, .int 7]) (rest := []) ⟨hx, hb, hml, hown, hts⟩ (c_X9_isIn l D cT x_71 0 7 _ hv) w_17 hK hS hN rfl hl.1 rfl (Nat.le_of_ble_eq_true rfl) dX9_dots_153 ⟨Nat.le_of_ble_eq_true rfl, Nat.le_of_ble_eq_true rfl⟩ (fun r_74 hv => ?_)
              refine lv_if_ne (tgt := 162) hx hb dX9_dots_156 (by decide) (fun c_75 => ?_) (fun c_75 => ?_)
              · have hv := hv.1 c_75
                refine lv_aload_n hx hb dX9_dots_162 rfl (lv_at hl 6 rfl) ?_
                refine va_get (D := D) (ci := 9) (v := .ref (a 1)) (C := RX9) (T := TX9) (N := 2) hx hb hts in_X9 hown hK hP 0 rfl rfl 0 (by decide) kf_7 (fun _ h9 => h9) rfl dX9_dots_163 ?_
                refine lv_sipush (v := 130) hx hb dX9_dots_166 (by decide) ?_
                refine lv_bipush (v := 11) hx hb dX9_dots_169 (by decide) ?_
                refine lv_iload hx hb dX9_dots_171 (lv_at hl 1 rfl) ?_
                refine lv_imul hx hb dX9_dots_173 ?_
                refine lv_iadd hx hb dX9_dots_174 ?_
                refine lv_iconst (v := 3) hx hb dX9_dots_175 (by decide) ?_
                refine lv_iadd hx hb dX9_dots_176 ?_
                refine lv_iload_n hx hb dX9_dots_177 rfl (lv_at hl 4 rfl) ?_
                refine lv_iadd hx hb dX9_dots_178 ?_
                refine lv_aload_n hx hb dX9_dots_179 rfl (lv_at hl 6 rfl) ?_
                refine va_get (D := D) (ci := 9) (v := .ref (a 1)) (C := RX9) (T := TX9) (N := 2) hx hb hts in_X9 hown hK hP 0 rfl rfl 0 (by decide) kf_7 (fun _ h9 => h9) rfl dX9_dots_180 ?_
                refine lv_sipush (v := 130) hx hb dX9_dots_183 (by decide) ?_
                refine lv_bipush (v := 11) hx hb dX9_dots_186 (by decide) ?_
                refine lv_iload hx hb dX9_dots_188 (lv_at hl 1 rfl) ?_
                refine lv_imul hx hb dX9_dots_190 ?_
                refine lv_iadd hx hb dX9_dots_191 ?_
                refine lv_iconst (v := 1) hx hb dX9_dots_192 (by decide) ?_
                refine lv_iadd hx hb dX9_dots_193 ?_
                obtain ⟨k_76, hk_76, ik_76, hv⟩ := hv
                refine x_ald hx hb hK hP 1 0 rfl rfl k_76 ik_76 hk_76 (by decide) dX9_dots_194 ?_
                refine lv_isub hx hb dX9_dots_195 ?_
                obtain ⟨k_77, hk_77, ik_77, hv⟩ := hv
                refine x_ald hx hb hK hP 1 0 rfl rfl k_77 ik_77 hk_77 (by decide) dX9_dots_196 ?_
                refine lv_topi (fun x_78 ex_78 => ?_)
                have hv := hv x_78 ex_78
                refine lv_istore (lv' := [(7, .int x_78), (6, .int x_71), (5, .int y_66), (4, .int y_67), (3, .int r_5), (2, .int r_4), (1, .int r_3), (0, .ref (a 0))]) hx hb dX9_dots_197 hl (by decide) rfl (fun ls hl => ?_)
                refine lv_iload hx hb dX9_dots_199 (lv_at hl 0 rfl) ?_
                refine lv_bipush (v := 7) hx hb dX9_dots_201 (by decide) ?_
                refine lv_iload hx hb dX9_dots_203 (lv_at hl 1 rfl) ?_
                refine lv_isub hx hb dX9_dots_205 ?_
                refine lv_ishr hx hb dX9_dots_206 ?_
                refine lv_iconst (v := 1) hx hb dX9_dots_207 (by decide) ?_
                refine lv_iand hx hb dX9_dots_208 ?_
                refine lv_iconst (v := 1) hx hb dX9_dots_209 (by decide) ?_
                refine lv_icmp_ne (tgt := 221) hx hb dX9_dots_210 (by decide) (fun c_79 => ?_) (fun c_79 => ?_)
                · have hv := hv.1 c_79
                  obtain ⟨x_80, ex_80⟩ : ∃ z : Int32, z = y_66 + (-1) := ⟨_, rfl⟩
                  have hv := hv x_80 ex_80
                  refine lv_iinc (v := x_80) (lv' := [(5, .int x_80), (7, .int x_78), (6, .int x_71), (4, .int y_67), (3, .int r_5), (2, .int r_4), (1, .int r_3), (0, .ref (a 0))]) hx hb dX9_dots_221 hl (k := 2) rfl (by rw [ex_80]; rfl) (by decide) rfl (fun ls hl => ?_)
                  refine lv_goto (tgt := 110) hx hb dX9_dots_224 (by decide) ?_
                  exact L_60_ih _ _ hv ls (lv_sub hl [0, 3, 4, 5, 6, 7] rfl)
                · have hv := hv.2 c_79
                  refine lv_sipush (v := 256) hx hb dX9_dots_213 (by decide) ?_
                  refine lv_iload hx hb dX9_dots_216 (lv_at hl 2 rfl) ?_
                  refine lv_iadd hx hb dX9_dots_218 ?_
                  refine lv_topi (fun x_81 ex_81 => ?_)
                  have hv := hv x_81 ex_81
                  refine lv_istore (lv' := [(4, .int x_81), (7, .int x_78), (6, .int x_71), (5, .int y_66), (3, .int r_5), (2, .int r_4), (1, .int r_3), (0, .ref (a 0))]) hx hb dX9_dots_219 hl (by decide) rfl (fun ls hl => ?_)
                  obtain ⟨x_82, ex_82⟩ : ∃ z : Int32, z = y_66 + (-1) := ⟨_, rfl⟩
                  have hv := hv x_82 ex_82
                  refine lv_iinc (v := x_82) (lv' := [(5, .int x_82), (4, .int x_81), (7, .int x_78), (6, .int x_71), (3, .int r_5), (2, .int r_4), (1, .int r_3), (0, .ref (a 0))]) hx hb dX9_dots_221 hl (k := 3) rfl (by rw [ex_82]; rfl) (by decide) rfl (fun ls hl => ?_)
                  refine lv_goto (tgt := 110) hx hb dX9_dots_224 (by decide) ?_
                  exact L_60_ih _ _ hv ls (lv_sub hl [0, 1, 4, 5, 6, 7] rfl)
              · have hv := hv.2 c_75
                refine lv_goto (tgt := 221) hx hb dX9_dots_159 (by decide) ?_
                obtain ⟨x_83, ex_83⟩ : ∃ z : Int32, z = y_66 + (-1) := ⟨_, rfl⟩
                have hv := hv x_83 ex_83
                refine lv_iinc (v := x_83) (lv' := [(5, .int x_83), (6, .int x_71), (4, .int y_67), (3, .int r_5), (2, .int r_4), (1, .int r_3), (0, .ref (a 0))]) hx hb dX9_dots_221 hl (k := 1) rfl (by rw [ex_83]; rfl) (by decide) rfl (fun ls hl => ?_)
                refine lv_goto (tgt := 110) hx hb dX9_dots_224 (by decide) ?_
                exact L_60_ih _ _ hv ls (lv_sub hl [0, 2, 3, 4, 5, 6] rfl)
      exact L_60 n_84 _ _ hv ls hl
  · have hv := hv.2 c_1
    refine lv_iconst (v := 0) hx hb dX9_dots_10 (by decide) ?_
    refine lv_istore_n (lv' := [(1, .int 0), (0, .ref (a 0))]) hx hb dX9_dots_11 rfl hl (by decide) rfl (fun ls hl => ?_)
    refine lv_iconst (v := 0) hx hb dX9_dots_12 (by decide) ?_
    refine lv_istore_n (lv' := [(2, .int 0), (1, .int 0), (0, .ref (a 0))]) hx hb dX9_dots_13 rfl hl (by decide) rfl (fun ls hl => ?_)
    obtain ⟨n_181, hv⟩ := hv
    have K_L_85 : ∀ (y_86 : Int32) (y_87 : Int32) (M_88 : ST), (v_X9_takes M_88 (fun r_90 (u_89 : ST) => v_X9_rowOf (u_89 1 21) (u_89 1 22) (u_89 1 8) (fun r_91 => v_X9_spritesOf u_89 r_91 (fun r_92 => (((0 ≤ r_90) → (((¬ (r_90 = 1)) → ∀ x_95 : Int32, x_95 = (u_89 1 44) → (∃ n_120 : Nat, lp_X9_dots_110 u_89 r_91 r_92 post (fun (y_97 : Int32) (y_98 : Int32) => ∃ k_99 : Nat, k_99 < 23520 ∧ ((1770 + (64 * r_91)) + (u_89 1 20)) = nI k_99 ∧ ∀ M_100 : ST, M_100 = x_st u_89 1 k_99 (y_98 + 1) → ∀ M_101 : ST, M_101 = x_st M_100 1 25 ((M_100 1 25) + 1) → post M_101) n_120 7 x_95)) ∧ ((r_90 = 1) → ∀ x_121 : Int32, x_121 = (u_89 1 43) → (∃ n_146 : Nat, lp_X9_dots_110 u_89 r_91 r_92 post (fun (y_123 : Int32) (y_124 : Int32) => ∃ k_125 : Nat, k_125 < 23520 ∧ ((1770 + (64 * r_91)) + (u_89 1 20)) = nI k_125 ∧ ∀ M_126 : ST, M_126 = x_st u_89 1 k_125 (y_124 + 1) → ∀ M_127 : ST, M_127 = x_st M_126 1 25 ((M_126 1 25) + 1) → post M_127) n_146 7 x_121)))) ∧ ((¬ (0 ≤ r_90)) → (∃ n_171 : Nat, lp_X9_dots_110 u_89 r_91 r_92 post (fun (y_148 : Int32) (y_149 : Int32) => ∃ k_150 : Nat, k_150 < 23520 ∧ ((1770 + (64 * r_91)) + (u_89 1 20)) = nI k_150 ∧ ∀ M_151 : ST, M_151 = x_st u_89 1 k_150 (y_149 + 1) → ∀ M_152 : ST, M_152 = x_st M_151 1 25 ((M_151 1 25) + 1) → post M_152) n_171 7 512))))))) → ∀ (H : Heap) (locs : List Loc), va_P D vwCl ((w_Model cT a M_88)) H → va_D A ((w_Model cT a M_88)) → va_S A s.heap H locs → ∀ ls : Array Slot, lv_has ls 8 [(2, .int y_86), (1, .int y_87), (0, .ref (a 0))] → W p l e (headSpec wsX9_dots ({ frames := 2, cells := 0, slots := 0, locals := 47 })).room s m ([.ref (a 0)] : List Value).toArray below meth c H locs 0 0 (MQ below (va_Qv post (fun u t => x_B D cT ((w_Model cT a u)) A t) A) ([.ref (a 0)] : List Value).toArray s 0 0 A) (F0 m 40 ls []) := by
      intro y_86 y_87 M_88 hv H locs hP hD hS ls hl
      refine lv_aload_n hx hb dX9_dots_40 rfl (lv_at hl 2 rfl) ?_
      refine x_cVi (As := []) (rest := []) (wn := fun u_89 => (w_Model cT a u_89)) ⟨hx, hb, hml, hown, hts⟩ (c_X9_takes l D cT a M_88 _ _ hv) w_47 hK hP hD hS hA hN [0, 1, 2] [] [0, 1, 2] rfl rfl (fun _ => rfl) (by decide) (by decide) (by decide) (by decide) 9 0 rfl rfl rfl hl.1 rfl (Nat.le_of_ble_eq_true rfl) dX9_dots_41 ⟨Nat.le_of_ble_eq_true rfl, Nat.le_of_ble_eq_true rfl⟩ (fun r_90 u_89 H locs hv hP hD hS => ?_)
      refine lv_istore_n (lv' := [(1, .int r_90), (2, .int y_86), (0, .ref (a 0))]) hx hb dX9_dots_44 rfl hl (by decide) rfl (fun ls hl => ?_)
      refine lv_aload_n hx hb dX9_dots_45 rfl (lv_at hl 2 rfl) ?_
      refine va_get (D := D) (ci := 9) (v := .ref (a 1)) (C := RX9) (T := TX9) (N := 2) hx hb hts in_X9 hown hK hP 0 rfl rfl 0 (by decide) kf_7 (fun _ h9 => h9) rfl dX9_dots_46 ?_
      refine lv_bipush (v := 21) hx hb dX9_dots_49 (by decide) ?_
      refine x_ald hx hb hK hP 1 0 rfl rfl 21 rfl (by decide) (by decide) dX9_dots_51 ?_
      refine lv_aload_n hx hb dX9_dots_52 rfl (lv_at hl 2 rfl) ?_
      refine va_get (D := D) (ci := 9) (v := .ref (a 1)) (C := RX9) (T := TX9) (N := 2) hx hb hts in_X9 hown hK hP 0 rfl rfl 0 (by decide) kf_7 (fun _ h9 => h9) rfl dX9_dots_53 ?_
      refine lv_bipush (v := 22) hx hb dX9_dots_56 (by decide) ?_
      refine x_ald hx hb hK hP 1 0 rfl rfl 22 rfl (by decide) (by decide) dX9_dots_58 ?_
      refine lv_aload_n hx hb dX9_dots_59 rfl (lv_at hl 2 rfl) ?_
      refine va_get (D := D) (ci := 9) (v := .ref (a 1)) (C := RX9) (T := TX9) (N := 2) hx hb hts in_X9 hown hK hP 0 rfl rfl 0 (by decide) kf_7 (fun _ h9 => h9) rfl dX9_dots_60 ?_
      refine lv_bipush (v := 8) hx hb dX9_dots_63 (by decide) ?_
      refine x_ald hx hb hK hP 1 0 rfl rfl 8 rfl (by decide) (by decide) dX9_dots_65 ?_
      refine x_rS (As := [.int (u_89 1 21), .int (u_89 1 22), .int (u_89 1 8)]) (rest := []) ⟨hx, hb, hml, hown, hts⟩ (c_X9_rowOf l D cT (u_89 1 21) (u_89 1 22) (u_89 1 8) _ hv) w_36 hK hS hN rfl hl.1 rfl (Nat.le_of_ble_eq_true rfl) dX9_dots_66 ⟨Nat.le_of_ble_eq_true rfl, Nat.le_of_ble_eq_true rfl⟩ (fun r_91 hv => ?_)
      refine lv_istore_n (lv' := [(2, .int r_91), (1, .int r_90), (0, .ref (a 0))]) hx hb dX9_dots_69 rfl hl (by decide) rfl (fun ls hl => ?_)
      refine lv_aload_n hx hb dX9_dots_70 rfl (lv_at hl 2 rfl) ?_
      refine lv_iload_n hx hb dX9_dots_71 rfl (lv_at hl 0 rfl) ?_
      refine x_rV (As := [.int r_91]) (rest := []) ⟨hx, hb, hml, hown, hts⟩ (c_X9_spritesOf l D cT a u_89 r_91 _ hv) w_50 hK hP hS hN [0, 1, 2] rfl 9 0 rfl rfl rfl hl.1 rfl (Nat.le_of_ble_eq_true rfl) dX9_dots_72 ⟨Nat.le_of_ble_eq_true rfl, Nat.le_of_ble_eq_true rfl⟩ (fun r_92 hv => ?_)
      refine lv_istore_n (lv' := [(3, .int r_92), (2, .int r_91), (1, .int r_90), (0, .ref (a 0))]) hx hb dX9_dots_75 rfl hl (by decide) rfl (fun ls hl => ?_)
      refine lv_iload_n hx hb dX9_dots_76 rfl (lv_at hl 2 rfl) ?_
      refine lv_if_ge (tgt := 86) hx hb dX9_dots_77 (by decide) (fun c_93 => ?_) (fun c_93 => ?_)
      · have hv := hv.1 c_93
        refine lv_aload_n hx hb dX9_dots_86 rfl (lv_at hl 3 rfl) ?_
        refine va_get (D := D) (ci := 9) (v := .ref (a 1)) (C := RX9) (T := TX9) (N := 2) hx hb hts in_X9 hown hK hP 0 rfl rfl 0 (by decide) kf_7 (fun _ h9 => h9) rfl dX9_dots_87 ?_
        refine lv_bipush (v := 40) hx hb dX9_dots_90 (by decide) ?_
        refine lv_iload_n hx hb dX9_dots_92 rfl (lv_at hl 2 rfl) ?_
        refine lv_iconst (v := 1) hx hb dX9_dots_93 (by decide) ?_
        refine lv_icmp_ne (tgt := 101) hx hb dX9_dots_94 (by decide) (fun c_94 => ?_) (fun c_94 => ?_)
        · have hv := hv.1 c_94
          refine lv_iconst (v := 4) hx hb dX9_dots_101 (by decide) ?_
          refine lv_iadd hx hb dX9_dots_102 ?_
          refine x_ald hx hb hK hP 1 0 rfl rfl 44 (by decide) (by decide) (by decide) dX9_dots_103 ?_
          refine lv_topi (fun x_95 ex_95 => ?_)
          have hv := hv x_95 ex_95
          refine lv_istore (lv' := [(4, .int x_95), (3, .int r_92), (2, .int r_91), (1, .int r_90), (0, .ref (a 0))]) hx hb dX9_dots_104 hl (by decide) rfl (fun ls hl => ?_)
          refine lv_bipush (v := 7) hx hb dX9_dots_106 (by decide) ?_
          refine lv_istore (lv' := [(5, .int 7), (4, .int x_95), (3, .int r_92), (2, .int r_91), (1, .int r_90), (0, .ref (a 0))]) hx hb dX9_dots_108 hl (by decide) rfl (fun ls hl => ?_)
          obtain ⟨n_120, hv⟩ := hv
          have K_L_96 : ∀ (y_97 : Int32) (y_98 : Int32), (∃ k_99 : Nat, k_99 < 23520 ∧ ((1770 + (64 * r_91)) + (u_89 1 20)) = nI k_99 ∧ ∀ M_100 : ST, M_100 = x_st u_89 1 k_99 (y_98 + 1) → ∀ M_101 : ST, M_101 = x_st M_100 1 25 ((M_100 1 25) + 1) → post M_101) → ∀ ls : Array Slot, lv_has ls 8 [(5, .int y_97), (4, .int y_98), (3, .int r_92), (2, .int r_91), (1, .int r_90), (0, .ref (a 0))] → W p l e (headSpec wsX9_dots ({ frames := 2, cells := 0, slots := 0, locals := 47 })).room s m ([.ref (a 0)] : List Value).toArray below meth c H locs 0 0 (MQ below (va_Qv post (fun u t => x_B D cT ((w_Model cT a u)) A t) A) ([.ref (a 0)] : List Value).toArray s 0 0 A) (F0 m 227 ls []) := by
            intro y_97 y_98 hv ls hl
            refine lv_aload_n hx hb dX9_dots_227 rfl (lv_at hl 5 rfl) ?_
            refine va_get (D := D) (ci := 9) (v := .ref (a 1)) (C := RX9) (T := TX9) (N := 2) hx hb hts in_X9 hown hK hP 0 rfl rfl 0 (by decide) kf_7 (fun _ h9 => h9) rfl dX9_dots_228 ?_
            refine lv_sipush (v := 1770) hx hb dX9_dots_231 (by decide) ?_
            refine lv_bipush (v := 64) hx hb dX9_dots_234 (by decide) ?_
            refine lv_iload_n hx hb dX9_dots_236 rfl (lv_at hl 3 rfl) ?_
            refine lv_imul hx hb dX9_dots_237 ?_
            refine lv_iadd hx hb dX9_dots_238 ?_
            refine lv_aload_n hx hb dX9_dots_239 rfl (lv_at hl 5 rfl) ?_
            refine va_get (D := D) (ci := 9) (v := .ref (a 1)) (C := RX9) (T := TX9) (N := 2) hx hb hts in_X9 hown hK hP 0 rfl rfl 0 (by decide) kf_7 (fun _ h9 => h9) rfl dX9_dots_240 ?_
            refine lv_bipush (v := 20) hx hb dX9_dots_243 (by decide) ?_
            refine x_ald hx hb hK hP 1 0 rfl rfl 20 rfl (by decide) (by decide) dX9_dots_245 ?_
            refine lv_iadd hx hb dX9_dots_246 ?_
            refine lv_iload hx hb dX9_dots_247 (lv_at hl 1 rfl) ?_
            refine lv_iconst (v := 1) hx hb dX9_dots_249 (by decide) ?_
            refine lv_iadd hx hb dX9_dots_250 ?_
            obtain ⟨k_99, hk_99, ik_99, hv⟩ := hv
            refine x_ast hx hb hK hP hD hS 1 0 rfl rfl k_99 ik_99 hk_99 (by decide) dX9_dots_251 (fun H locs hP hD hS => ?_)
            obtain ⟨M_100, eM_100⟩ : ∃ z : ST, z = x_st u_89 1 k_99 (y_98 + 1) := ⟨_, rfl⟩
            have hP : va_P D vwCl ((w_Model cT a M_100)) H := by rw [eM_100]; exact hP
            have hD : va_D A ((w_Model cT a M_100)) := by rw [eM_100]; exact hD
            have hv := hv M_100 eM_100
            refine lv_aload_n hx hb dX9_dots_252 rfl (lv_at hl 5 rfl) ?_
            refine va_get (D := D) (ci := 9) (v := .ref (a 1)) (C := RX9) (T := TX9) (N := 2) hx hb hts in_X9 hown hK hP 0 rfl rfl 0 (by decide) kf_7 (fun _ h9 => h9) rfl dX9_dots_253 ?_
            refine lv_bipush (v := 25) hx hb dX9_dots_256 (by decide) ?_
            refine lv_dup2_11 hx hb dX9_dots_258 rfl rfl ?_
            refine x_ald hx hb hK hP 1 0 rfl rfl 25 rfl (by decide) (by decide) dX9_dots_259 ?_
            refine lv_iconst (v := 1) hx hb dX9_dots_260 (by decide) ?_
            refine lv_iadd hx hb dX9_dots_261 ?_
            refine x_ast hx hb hK hP hD hS 1 0 rfl rfl 25 rfl (by decide) (by decide) dX9_dots_262 (fun H locs hP hD hS => ?_)
            obtain ⟨M_101, eM_101⟩ : ∃ z : ST, z = x_st M_100 1 25 ((M_100 1 25) + 1) := ⟨_, rfl⟩
            have hP : va_P D vwCl ((w_Model cT a M_101)) H := by rw [eM_101]; exact hP
            have hD : va_D A ((w_Model cT a M_101)) := by rw [eM_101]; exact hD
            have hv := hv M_101 eM_101
            exact W.vret hx hb hr (fun t ht hW => ⟨⟨M_101, rfl, hv, by rw [ht]; exact hP, va_K.moved hW.alike hK, hD⟩, hS.F ht⟩) hS.2.2 dX9_dots_263
          have L_96 : ∀ n_104 : Nat, ∀ (y_102 : Int32) (y_103 : Int32), (lp_X9_dots_110 u_89 r_91 r_92 post (fun (y_97 : Int32) (y_98 : Int32) => ∃ k_99 : Nat, k_99 < 23520 ∧ ((1770 + (64 * r_91)) + (u_89 1 20)) = nI k_99 ∧ ∀ M_100 : ST, M_100 = x_st u_89 1 k_99 (y_98 + 1) → ∀ M_101 : ST, M_101 = x_st M_100 1 25 ((M_100 1 25) + 1) → post M_101) n_104 y_102 y_103) → ∀ ls : Array Slot, lv_has ls 8 [(5, .int y_102), (4, .int y_103), (3, .int r_92), (2, .int r_91), (1, .int r_90), (0, .ref (a 0))] → W p l e (headSpec wsX9_dots ({ frames := 2, cells := 0, slots := 0, locals := 47 })).room s m ([.ref (a 0)] : List Value).toArray below meth c H locs 0 0 (MQ below (va_Qv post (fun u t => x_B D cT ((w_Model cT a u)) A t) A) ([.ref (a 0)] : List Value).toArray s 0 0 A) (F0 m 110 ls []) := by
            intro n_104
            induction n_104 with
            | zero =>
              intro y_102 y_103 hv
              exact hv.elim
            | succ n_104 L_96_ih =>
              intro y_102 y_103 hv ls hl
              refine lv_iload hx hb dX9_dots_110 (lv_at hl 0 rfl) ?_
              refine lv_if_lt (tgt := 227) hx hb dX9_dots_112 (by decide) (fun c_105 => ?_) (fun c_105 => ?_)
              · have hv := hv.1 c_105
                exact K_L_96 _ _ hv ls (lv_sub hl [0, 1, 2, 3, 4, 5] rfl)
              · have hv := hv.2 c_105
                refine lv_aload_n hx hb dX9_dots_115 rfl (lv_at hl 5 rfl) ?_
                refine va_get (D := D) (ci := 9) (v := .ref (a 1)) (C := RX9) (T := TX9) (N := 2) hx hb hts in_X9 hown hK hP 0 rfl rfl 0 (by decide) kf_7 (fun _ h9 => h9) rfl dX9_dots_116 ?_
                refine lv_bipush (v := 20) hx hb dX9_dots_119 (by decide) ?_
                refine x_ald hx hb hK hP 1 0 rfl rfl 20 rfl (by decide) (by decide) dX9_dots_121 ?_
                refine lv_aload_n hx hb dX9_dots_122 rfl (lv_at hl 5 rfl) ?_
                refine va_get (D := D) (ci := 9) (v := .ref (a 1)) (C := RX9) (T := TX9) (N := 2) hx hb hts in_X9 hown hK hP 0 rfl rfl 0 (by decide) kf_7 (fun _ h9 => h9) rfl dX9_dots_123 ?_
                refine lv_sipush (v := 130) hx hb dX9_dots_126 (by decide) ?_
                refine lv_bipush (v := 11) hx hb dX9_dots_129 (by decide) ?_
                refine lv_iload hx hb dX9_dots_131 (lv_at hl 0 rfl) ?_
                refine lv_imul hx hb dX9_dots_133 ?_
                refine lv_iadd hx hb dX9_dots_134 ?_
                obtain ⟨k_106, hk_106, ik_106, hv⟩ := hv
                refine x_ald hx hb hK hP 1 0 rfl rfl k_106 ik_106 hk_106 (by decide) dX9_dots_135 ?_
                refine lv_isub hx hb dX9_dots_136 ?_
                refine lv_topi (fun x_107 ex_107 => ?_)
                have hv := hv x_107 ex_107
                refine lv_istore (lv' := [(6, .int x_107), (5, .int y_102), (4, .int y_103), (3, .int r_92), (2, .int r_91), (1, .int r_90), (0, .ref (a 0))]) hx hb dX9_dots_137 hl (by decide) rfl (fun ls hl => ?_)
                refine lv_iload_n hx hb dX9_dots_139 rfl (lv_at hl 3 rfl) ?_
                refine lv_iload hx hb dX9_dots_140 (lv_at hl 1 rfl) ?_
                refine lv_ishr hx hb dX9_dots_142 ?_
                refine lv_iconst (v := 1) hx hb dX9_dots_143 (by decide) ?_
                refine lv_iand hx hb dX9_dots_144 ?_
                refine lv_if_eq (tgt := 221) hx hb dX9_dots_145 (by decide) (fun c_108 => ?_) (fun c_108 => ?_)
                · have hv := hv.1 c_108
                  obtain ⟨x_109, ex_109⟩ : ∃ z : Int32, z = y_102 + (-1) := ⟨_, rfl⟩
                  have hv := hv x_109 ex_109
                  refine lv_iinc (v := x_109) (lv' := [(5, .int x_109), (6, .int x_107), (4, .int y_103), (3, .int r_92), (2, .int r_91), (1, .int r_90), (0, .ref (a 0))]) hx hb dX9_dots_221 hl (k := 1) rfl (by rw [ex_109]; rfl) (by decide) rfl (fun ls hl => ?_)
                  refine lv_goto (tgt := 110) hx hb dX9_dots_224 (by decide) ?_
                  exact L_96_ih _ _ hv ls (lv_sub hl [0, 2, 3, 4, 5, 6] rfl)
                · have hv := hv.2 c_108
                  refine lv_iload hx hb dX9_dots_148 (lv_at hl 0 rfl) ?_
                  refine lv_iconst (v := 0) hx hb dX9_dots_150 (by decide) ?_
                  refine lv_bipush (v := 7) hx hb dX9_dots_151 (by decide) ?_
                  refine x_rS (As := [.int x_107, .int 0, .int 7]) (rest := []) ⟨hx, hb, hml, hown, hts⟩ (c_X9_isIn l D cT x_107 0 7 _ hv) w_17 hK hS hN rfl hl.1 rfl (Nat.le_of_ble_eq_true rfl) dX9_dots_153 ⟨Nat.le_of_ble_eq_true rfl, Nat.le_of_ble_eq_true rfl⟩ (fun r_110 hv => ?_)
                  refine lv_if_ne (tgt := 162) hx hb dX9_dots_156 (by decide) (fun c_111 => ?_) (fun c_111 => ?_)
                  · have hv := hv.1 c_111
                    refine lv_aload_n hx hb dX9_dots_162 rfl (lv_at hl 6 rfl) ?_
                    refine va_get (D := D) (ci := 9) (v := .ref (a 1)) (C := RX9) (T := TX9) (N := 2) hx hb hts in_X9 hown hK hP 0 rfl rfl 0 (by decide) kf_7 (fun _ h9 => h9) rfl dX9_dots_163 ?_
                    refine lv_sipush (v := 130) hx hb dX9_dots_166 (by decide) ?_
                    refine lv_bipush (v := 11) hx hb dX9_dots_169 (by decide) ?_
                    refine lv_iload hx hb dX9_dots_171 (lv_at hl 1 rfl) ?_
                    refine lv_imul hx hb dX9_dots_173 ?_
                    refine lv_iadd hx hb dX9_dots_174 ?_
                    refine lv_iconst (v := 3) hx hb dX9_dots_175 (by decide) ?_
                    refine lv_iadd hx hb dX9_dots_176 ?_
                    refine lv_iload_n hx hb dX9_dots_177 rfl (lv_at hl 4 rfl) ?_
                    refine lv_iadd hx hb dX9_dots_178 ?_
                    refine lv_aload_n hx hb dX9_dots_179 rfl (lv_at hl 6 rfl) ?_
                    refine va_get (D := D) (ci := 9) (v := .ref (a 1)) (C := RX9) (T := TX9) (N := 2) hx hb hts in_X9 hown hK hP 0 rfl rfl 0 (by decide) kf_7 (fun _ h9 => h9) rfl dX9_dots_180 ?_
                    refine lv_sipush (v := 130) hx hb dX9_dots_183 (by decide) ?_
                    refine lv_bipush (v := 11) hx hb dX9_dots_186 (by decide) ?_
                    refine lv_iload hx hb dX9_dots_188 (lv_at hl 1 rfl) ?_
                    refine lv_imul hx hb dX9_dots_190 ?_
                    refine lv_iadd hx hb dX9_dots_191 ?_
                    refine lv_iconst (v := 1) hx hb dX9_dots_192 (by decide) ?_
                    refine lv_iadd hx hb dX9_dots_193 ?_
                    obtain ⟨k_112, hk_112, ik_112, hv⟩ := hv
                    refine x_ald hx hb hK hP 1 0 rfl rfl k_112 ik_112 hk_112 (by decide) dX9_dots_194 ?_
                    refine lv_isub hx hb dX9_dots_195 ?_
                    obtain ⟨k_113, hk_113, ik_113, hv⟩ := hv
                    refine x_ald hx hb hK hP 1 0 rfl rfl k_113 ik_113 hk_113 (by decide) dX9_dots_196 ?_
                    refine lv_topi (fun x_114 ex_114 => ?_)
                    have hv := hv x_114 ex_114
                    refine lv_istore (lv' := [(7, .int x_114), (6, .int x_107), (5, .int y_102), (4, .int y_103), (3, .int r_92), (2, .int r_91), (1, .int r_90), (0, .ref (a 0))]) hx hb dX9_dots_197 hl (by decide) rfl (fun ls hl => ?_)
                    refine lv_iload hx hb dX9_dots_199 (lv_at hl 0 rfl) ?_
                    refine lv_bipush (v := 7) hx hb dX9_dots_201 (by decide) ?_
                    refine lv_iload hx hb dX9_dots_203 (lv_at hl 1 rfl) ?_
                    refine lv_isub hx hb dX9_dots_205 ?_
                    refine lv_ishr hx hb dX9_dots_206 ?_
                    refine lv_iconst (v := 1) hx hb dX9_dots_207 (by decide) ?_
                    refine lv_iand hx hb dX9_dots_208 ?_
                    refine lv_iconst (v := 1) hx hb dX9_dots_209 (by decide) ?_
                    refine lv_icmp_ne (tgt := 221) hx hb dX9_dots_210 (by decide) (fun c_115 => ?_) (fun c_115 => ?_)
                    · have hv := hv.1 c_115
                      obtain ⟨x_116, ex_116⟩ : ∃ z : Int32, z = y_102 + (-1) := ⟨_, rfl⟩
                      have hv := hv x_116 ex_116
                      refine lv_iinc (v := x_116) (lv' := [(5, .int x_116), (7, .int x_114), (6, .int x_107), (4, .int y_103), (3, .int r_92), (2, .int r_91), (1, .int r_90), (0, .ref (a 0))]) hx hb dX9_dots_221 hl (k := 2) rfl (by rw [ex_116]; rfl) (by decide) rfl (fun ls hl => ?_)
                      refine lv_goto (tgt := 110) hx hb dX9_dots_224 (by decide) ?_
                      exact L_96_ih _ _ hv ls (lv_sub hl [0, 3, 4, 5, 6, 7] rfl)
                    · have hv := hv.2 c_115
                      refine lv_sipush (v := 256) hx hb dX9_dots_213 (by decide) ?_
                      refine lv_iload hx hb dX9_dots_216 (lv_at hl 2 rfl) ?_
                      refine lv_iadd hx hb dX9_dots_218 ?_
                      refine lv_topi (fun x_117 ex_117 => ?_)
                      have hv := hv x_117 ex_117
                      refine lv_istore (lv' := [(4, .int x_117), (7, .int x_114), (6, .int x_107), (5, .int y_102), (3, .int r_92), (2, .int r_91), (1, .int r_90), (0, .ref (a 0))]) hx hb dX9_dots_219 hl (by decide) rfl (fun ls hl => ?_)
                      obtain ⟨x_118, ex_118⟩ : ∃ z : Int32, z = y_102 + (-1) := ⟨_, rfl⟩
                      have hv := hv x_118 ex_118
                      refine lv_iinc (v := x_118) (lv' := [(5, .int x_118), (4, .int x_117), (7, .int x_114), (6, .int x_107), (3, .int r_92), (2, .int r_91), (1, .int r_90), (0, .ref (a 0))]) hx hb dX9_dots_221 hl (k := 3) rfl (by rw [ex_118]; rfl) (by decide) rfl (fun ls hl => ?_)
                      refine lv_goto (tgt := 110) hx hb dX9_dots_224 (by decide) ?_
                      exact L_96_ih _ _ hv ls (lv_sub hl [0, 1, 4, 5, 6, 7] rfl)
                  · have hv := hv.2 c_111
                    refine lv_goto (tgt := 221) hx hb dX9_dots_159 (by decide) ?_
                    obtain ⟨x_119, ex_119⟩ : ∃ z : Int32, z = y_102 + (-1) := ⟨_, rfl⟩
                    have hv := hv x_119 ex_119
                    refine lv_iinc (v := x_119) (lv' := [(5, .int x_119), (6, .int x_107), (4, .int y_103), (3, .int r_92), (2, .int r_91), (1, .int r_90), (0, .ref (a 0))]) hx hb dX9_dots_221 hl (k := 1) rfl (by rw [ex_119]; rfl) (by decide) rfl (fun ls hl => ?_)
                    refine lv_goto (tgt := 110) hx hb dX9_dots_224 (by decide) ?_
                    exact L_96_ih _ _ hv ls (lv_sub hl [0, 2, 3, 4, 5, 6] rfl)
          exact L_96 n_120 _ _ hv ls hl
        · have hv := hv.2 c_94
          refine lv_iconst (v := 3) hx hb dX9_dots_97 (by decide) ?_
          refine lv_goto (tgt := 102) hx hb dX9_dots_98 (by decide) ?_
          refine lv_iadd hx hb dX9_dots_102 ?_
          refine x_ald hx hb hK hP 1 0 rfl rfl 43 (by decide) (by decide) (by decide) dX9_dots_103 ?_
          refine lv_topi (fun x_121 ex_121 => ?_)
          have hv := hv x_121 ex_121
          refine lv_istore (lv' := [(4, .int x_121), (3, .int r_92), (2, .int r_91), (1, .int r_90), (0, .ref (a 0))]) hx hb dX9_dots_104 hl (by decide) rfl (fun ls hl => ?_)
          refine lv_bipush (v := 7) hx hb dX9_dots_106 (by decide) ?_
          refine lv_istore (lv' := [(5, .int 7), (4, .int x_121), (3, .int r_92), (2, .int r_91), (1, .int r_90), (0, .ref (a 0))]) hx hb dX9_dots_108 hl (by decide) rfl (fun ls hl => ?_)
          obtain ⟨n_146, hv⟩ := hv
          have K_L_122 : ∀ (y_123 : Int32) (y_124 : Int32), (∃ k_125 : Nat, k_125 < 23520 ∧ ((1770 + (64 * r_91)) + (u_89 1 20)) = nI k_125 ∧ ∀ M_126 : ST, M_126 = x_st u_89 1 k_125 (y_124 + 1) → ∀ M_127 : ST, M_127 = x_st M_126 1 25 ((M_126 1 25) + 1) → post M_127) → ∀ ls : Array Slot, lv_has ls 8 [(5, .int y_123), (4, .int y_124), (3, .int r_92), (2, .int r_91), (1, .int r_90), (0, .ref (a 0))] → W p l e (headSpec wsX9_dots ({ frames := 2, cells := 0, slots := 0, locals := 47 })).room s m ([.ref (a 0)] : List Value).toArray below meth c H locs 0 0 (MQ below (va_Qv post (fun u t => x_B D cT ((w_Model cT a u)) A t) A) ([.ref (a 0)] : List Value).toArray s 0 0 A) (F0 m 227 ls []) := by
            intro y_123 y_124 hv ls hl
            refine lv_aload_n hx hb dX9_dots_227 rfl (lv_at hl 5 rfl) ?_
            refine va_get (D := D) (ci := 9) (v := .ref (a 1)) (C := RX9) (T := TX9) (N := 2) hx hb hts in_X9 hown hK hP 0 rfl rfl 0 (by decide) kf_7 (fun _ h9 => h9) rfl dX9_dots_228 ?_
            refine lv_sipush (v := 1770) hx hb dX9_dots_231 (by decide) ?_
            refine lv_bipush (v := 64) hx hb dX9_dots_234 (by decide) ?_
            refine lv_iload_n hx hb dX9_dots_236 rfl (lv_at hl 3 rfl) ?_
            refine lv_imul hx hb dX9_dots_237 ?_
            refine lv_iadd hx hb dX9_dots_238 ?_
            refine lv_aload_n hx hb dX9_dots_239 rfl (lv_at hl 5 rfl) ?_
            refine va_get (D := D) (ci := 9) (v := .ref (a 1)) (C := RX9) (T := TX9) (N := 2) hx hb hts in_X9 hown hK hP 0 rfl rfl 0 (by decide) kf_7 (fun _ h9 => h9) rfl dX9_dots_240 ?_
            refine lv_bipush (v := 20) hx hb dX9_dots_243 (by decide) ?_
            refine x_ald hx hb hK hP 1 0 rfl rfl 20 rfl (by decide) (by decide) dX9_dots_245 ?_
            refine lv_iadd hx hb dX9_dots_246 ?_
            refine lv_iload hx hb dX9_dots_247 (lv_at hl 1 rfl) ?_
            refine lv_iconst (v := 1) hx hb dX9_dots_249 (by decide) ?_
            refine lv_iadd hx hb dX9_dots_250 ?_
            obtain ⟨k_125, hk_125, ik_125, hv⟩ := hv
            refine x_ast hx hb hK hP hD hS 1 0 rfl rfl k_125 ik_125 hk_125 (by decide) dX9_dots_251 (fun H locs hP hD hS => ?_)
            obtain ⟨M_126, eM_126⟩ : ∃ z : ST, z = x_st u_89 1 k_125 (y_124 + 1) := ⟨_, rfl⟩
            have hP : va_P D vwCl ((w_Model cT a M_126)) H := by rw [eM_126]; exact hP
            have hD : va_D A ((w_Model cT a M_126)) := by rw [eM_126]; exact hD
            have hv := hv M_126 eM_126
            refine lv_aload_n hx hb dX9_dots_252 rfl (lv_at hl 5 rfl) ?_
            refine va_get (D := D) (ci := 9) (v := .ref (a 1)) (C := RX9) (T := TX9) (N := 2) hx hb hts in_X9 hown hK hP 0 rfl rfl 0 (by decide) kf_7 (fun _ h9 => h9) rfl dX9_dots_253 ?_
            refine lv_bipush (v := 25) hx hb dX9_dots_256 (by decide) ?_
            refine lv_dup2_11 hx hb dX9_dots_258 rfl rfl ?_
            refine x_ald hx hb hK hP 1 0 rfl rfl 25 rfl (by decide) (by decide) dX9_dots_259 ?_
            refine lv_iconst (v := 1) hx hb dX9_dots_260 (by decide) ?_
            refine lv_iadd hx hb dX9_dots_261 ?_
            refine x_ast hx hb hK hP hD hS 1 0 rfl rfl 25 rfl (by decide) (by decide) dX9_dots_262 (fun H locs hP hD hS => ?_)
            obtain ⟨M_127, eM_127⟩ : ∃ z : ST, z = x_st M_126 1 25 ((M_126 1 25) + 1) := ⟨_, rfl⟩
            have hP : va_P D vwCl ((w_Model cT a M_127)) H := by rw [eM_127]; exact hP
            have hD : va_D A ((w_Model cT a M_127)) := by rw [eM_127]; exact hD
            have hv := hv M_127 eM_127
            exact W.vret hx hb hr (fun t ht hW => ⟨⟨M_127, rfl, hv, by rw [ht]; exact hP, va_K.moved hW.alike hK, hD⟩, hS.F ht⟩) hS.2.2 dX9_dots_263
          have L_122 : ∀ n_130 : Nat, ∀ (y_128 : Int32) (y_129 : Int32), (lp_X9_dots_110 u_89 r_91 r_92 post (fun (y_123 : Int32) (y_124 : Int32) => ∃ k_125 : Nat, k_125 < 23520 ∧ ((1770 + (64 * r_91)) + (u_89 1 20)) = nI k_125 ∧ ∀ M_126 : ST, M_126 = x_st u_89 1 k_125 (y_124 + 1) → ∀ M_127 : ST, M_127 = x_st M_126 1 25 ((M_126 1 25) + 1) → post M_127) n_130 y_128 y_129) → ∀ ls : Array Slot, lv_has ls 8 [(5, .int y_128), (4, .int y_129), (3, .int r_92), (2, .int r_91), (1, .int r_90), (0, .ref (a 0))] → W p l e (headSpec wsX9_dots ({ frames := 2, cells := 0, slots := 0, locals := 47 })).room s m ([.ref (a 0)] : List Value).toArray below meth c H locs 0 0 (MQ below (va_Qv post (fun u t => x_B D cT ((w_Model cT a u)) A t) A) ([.ref (a 0)] : List Value).toArray s 0 0 A) (F0 m 110 ls []) := by
            intro n_130
            induction n_130 with
            | zero =>
              intro y_128 y_129 hv
              exact hv.elim
            | succ n_130 L_122_ih =>
              intro y_128 y_129 hv ls hl
              refine lv_iload hx hb dX9_dots_110 (lv_at hl 0 rfl) ?_
              refine lv_if_lt (tgt := 227) hx hb dX9_dots_112 (by decide) (fun c_131 => ?_) (fun c_131 => ?_)
              · have hv := hv.1 c_131
                exact K_L_122 _ _ hv ls (lv_sub hl [0, 1, 2, 3, 4, 5] rfl)
              · have hv := hv.2 c_131
                refine lv_aload_n hx hb dX9_dots_115 rfl (lv_at hl 5 rfl) ?_
                refine va_get (D := D) (ci := 9) (v := .ref (a 1)) (C := RX9) (T := TX9) (N := 2) hx hb hts in_X9 hown hK hP 0 rfl rfl 0 (by decide) kf_7 (fun _ h9 => h9) rfl dX9_dots_116 ?_
                refine lv_bipush (v := 20) hx hb dX9_dots_119 (by decide) ?_
                refine x_ald hx hb hK hP 1 0 rfl rfl 20 rfl (by decide) (by decide) dX9_dots_121 ?_
                refine lv_aload_n hx hb dX9_dots_122 rfl (lv_at hl 5 rfl) ?_
                refine va_get (D := D) (ci := 9) (v := .ref (a 1)) (C := RX9) (T := TX9) (N := 2) hx hb hts in_X9 hown hK hP 0 rfl rfl 0 (by decide) kf_7 (fun _ h9 => h9) rfl dX9_dots_123 ?_
                refine lv_sipush (v := 130) hx hb dX9_dots_126 (by decide) ?_
                refine lv_bipush (v := 11) hx hb dX9_dots_129 (by decide) ?_
                refine lv_iload hx hb dX9_dots_131 (lv_at hl 0 rfl) ?_
                refine lv_imul hx hb dX9_dots_133 ?_
                refine lv_iadd hx hb dX9_dots_134 ?_
                obtain ⟨k_132, hk_132, ik_132, hv⟩ := hv
                refine x_ald hx hb hK hP 1 0 rfl rfl k_132 ik_132 hk_132 (by decide) dX9_dots_135 ?_
                refine lv_isub hx hb dX9_dots_136 ?_
                refine lv_topi (fun x_133 ex_133 => ?_)
                have hv := hv x_133 ex_133
                refine lv_istore (lv' := [(6, .int x_133), (5, .int y_128), (4, .int y_129), (3, .int r_92), (2, .int r_91), (1, .int r_90), (0, .ref (a 0))]) hx hb dX9_dots_137 hl (by decide) rfl (fun ls hl => ?_)
                refine lv_iload_n hx hb dX9_dots_139 rfl (lv_at hl 3 rfl) ?_
                refine lv_iload hx hb dX9_dots_140 (lv_at hl 1 rfl) ?_
                refine lv_ishr hx hb dX9_dots_142 ?_
                refine lv_iconst (v := 1) hx hb dX9_dots_143 (by decide) ?_
                refine lv_iand hx hb dX9_dots_144 ?_
                refine lv_if_eq (tgt := 221) hx hb dX9_dots_145 (by decide) (fun c_134 => ?_) (fun c_134 => ?_)
                · have hv := hv.1 c_134
                  obtain ⟨x_135, ex_135⟩ : ∃ z : Int32, z = y_128 + (-1) := ⟨_, rfl⟩
                  have hv := hv x_135 ex_135
                  refine lv_iinc (v := x_135) (lv' := [(5, .int x_135), (6, .int x_133), (4, .int y_129), (3, .int r_92), (2, .int r_91), (1, .int r_90), (0, .ref (a 0))]) hx hb dX9_dots_221 hl (k := 1) rfl (by rw [ex_135]; rfl) (by decide) rfl (fun ls hl => ?_)
                  refine lv_goto (tgt := 110) hx hb dX9_dots_224 (by decide) ?_
                  exact L_122_ih _ _ hv ls (lv_sub hl [0, 2, 3, 4, 5, 6] rfl)
                · have hv := hv.2 c_134
                  refine lv_iload hx hb dX9_dots_148 (lv_at hl 0 rfl) ?_
                  refine lv_iconst (v := 0) hx hb dX9_dots_150 (by decide) ?_
                  refine lv_bipush (v := 7) hx hb dX9_dots_151 (by decide) ?_
                  refine x_rS (As := [.int x_133, .int 0, .int 7]) (rest := []) ⟨hx, hb, hml, hown, hts⟩ (c_X9_isIn l D cT x_133 0 7 _ hv) w_17 hK hS hN rfl hl.1 rfl (Nat.le_of_ble_eq_true rfl) dX9_dots_153 ⟨Nat.le_of_ble_eq_true rfl, Nat.le_of_ble_eq_true rfl⟩ (fun r_136 hv => ?_)
                  refine lv_if_ne (tgt := 162) hx hb dX9_dots_156 (by decide) (fun c_137 => ?_) (fun c_137 => ?_)
                  · have hv := hv.1 c_137
                    refine lv_aload_n hx hb dX9_dots_162 rfl (lv_at hl 6 rfl) ?_
                    refine va_get (D := D) (ci := 9) (v := .ref (a 1)) (C := RX9) (T := TX9) (N := 2) hx hb hts in_X9 hown hK hP 0 rfl rfl 0 (by decide) kf_7 (fun _ h9 => h9) rfl dX9_dots_163 ?_
                    refine lv_sipush (v := 130) hx hb dX9_dots_166 (by decide) ?_
                    refine lv_bipush (v := 11) hx hb dX9_dots_169 (by decide) ?_
                    refine lv_iload hx hb dX9_dots_171 (lv_at hl 1 rfl) ?_
                    refine lv_imul hx hb dX9_dots_173 ?_
                    refine lv_iadd hx hb dX9_dots_174 ?_
                    refine lv_iconst (v := 3) hx hb dX9_dots_175 (by decide) ?_
                    refine lv_iadd hx hb dX9_dots_176 ?_
                    refine lv_iload_n hx hb dX9_dots_177 rfl (lv_at hl 4 rfl) ?_
                    refine lv_iadd hx hb dX9_dots_178 ?_
                    refine lv_aload_n hx hb dX9_dots_179 rfl (lv_at hl 6 rfl) ?_
                    refine va_get (D := D) (ci := 9) (v := .ref (a 1)) (C := RX9) (T := TX9) (N := 2) hx hb hts in_X9 hown hK hP 0 rfl rfl 0 (by decide) kf_7 (fun _ h9 => h9) rfl dX9_dots_180 ?_
                    refine lv_sipush (v := 130) hx hb dX9_dots_183 (by decide) ?_
                    refine lv_bipush (v := 11) hx hb dX9_dots_186 (by decide) ?_
                    refine lv_iload hx hb dX9_dots_188 (lv_at hl 1 rfl) ?_
                    refine lv_imul hx hb dX9_dots_190 ?_
                    refine lv_iadd hx hb dX9_dots_191 ?_
                    refine lv_iconst (v := 1) hx hb dX9_dots_192 (by decide) ?_
                    refine lv_iadd hx hb dX9_dots_193 ?_
                    obtain ⟨k_138, hk_138, ik_138, hv⟩ := hv
                    refine x_ald hx hb hK hP 1 0 rfl rfl k_138 ik_138 hk_138 (by decide) dX9_dots_194 ?_
                    refine lv_isub hx hb dX9_dots_195 ?_
                    obtain ⟨k_139, hk_139, ik_139, hv⟩ := hv
                    refine x_ald hx hb hK hP 1 0 rfl rfl k_139 ik_139 hk_139 (by decide) dX9_dots_196 ?_
                    refine lv_topi (fun x_140 ex_140 => ?_)
                    have hv := hv x_140 ex_140
                    refine lv_istore (lv' := [(7, .int x_140), (6, .int x_133), (5, .int y_128), (4, .int y_129), (3, .int r_92), (2, .int r_91), (1, .int r_90), (0, .ref (a 0))]) hx hb dX9_dots_197 hl (by decide) rfl (fun ls hl => ?_)
                    refine lv_iload hx hb dX9_dots_199 (lv_at hl 0 rfl) ?_
                    refine lv_bipush (v := 7) hx hb dX9_dots_201 (by decide) ?_
                    refine lv_iload hx hb dX9_dots_203 (lv_at hl 1 rfl) ?_
                    refine lv_isub hx hb dX9_dots_205 ?_
                    refine lv_ishr hx hb dX9_dots_206 ?_
                    refine lv_iconst (v := 1) hx hb dX9_dots_207 (by decide) ?_
                    refine lv_iand hx hb dX9_dots_208 ?_
                    refine lv_iconst (v := 1) hx hb dX9_dots_209 (by decide) ?_
                    refine lv_icmp_ne (tgt := 221) hx hb dX9_dots_210 (by decide) (fun c_141 => ?_) (fun c_141 => ?_)
                    · have hv := hv.1 c_141
                      obtain ⟨x_142, ex_142⟩ : ∃ z : Int32, z = y_128 + (-1) := ⟨_, rfl⟩
                      have hv := hv x_142 ex_142
                      refine lv_iinc (v := x_142) (lv' := [(5, .int x_142), (7, .int x_140), (6, .int x_133), (4, .int y_129), (3, .int r_92), (2, .int r_91), (1, .int r_90), (0, .ref (a 0))]) hx hb dX9_dots_221 hl (k := 2) rfl (by rw [ex_142]; rfl) (by decide) rfl (fun ls hl => ?_)
                      refine lv_goto (tgt := 110) hx hb dX9_dots_224 (by decide) ?_
                      exact L_122_ih _ _ hv ls (lv_sub hl [0, 3, 4, 5, 6, 7] rfl)
                    · have hv := hv.2 c_141
                      refine lv_sipush (v := 256) hx hb dX9_dots_213 (by decide) ?_
                      refine lv_iload hx hb dX9_dots_216 (lv_at hl 2 rfl) ?_
                      refine lv_iadd hx hb dX9_dots_218 ?_
                      refine lv_topi (fun x_143 ex_143 => ?_)
                      have hv := hv x_143 ex_143
                      refine lv_istore (lv' := [(4, .int x_143), (7, .int x_140), (6, .int x_133), (5, .int y_128), (3, .int r_92), (2, .int r_91), (1, .int r_90), (0, .ref (a 0))]) hx hb dX9_dots_219 hl (by decide) rfl (fun ls hl => ?_)
                      obtain ⟨x_144, ex_144⟩ : ∃ z : Int32, z = y_128 + (-1) := ⟨_, rfl⟩
                      have hv := hv x_144 ex_144
                      refine lv_iinc (v := x_144) (lv' := [(5, .int x_144), (4, .int x_143), (7, .int x_140), (6, .int x_133), (3, .int r_92), (2, .int r_91), (1, .int r_90), (0, .ref (a 0))]) hx hb dX9_dots_221 hl (k := 3) rfl (by rw [ex_144]; rfl) (by decide) rfl (fun ls hl => ?_)
                      refine lv_goto (tgt := 110) hx hb dX9_dots_224 (by decide) ?_
                      exact L_122_ih _ _ hv ls (lv_sub hl [0, 1, 4, 5, 6, 7] rfl)
                  · have hv := hv.2 c_137
                    refine lv_goto (tgt := 221) hx hb dX9_dots_159 (by decide) ?_
                    obtain ⟨x_145, ex_145⟩ : ∃ z : Int32, z = y_128 + (-1) := ⟨_, rfl⟩
                    have hv := hv x_145 ex_145
                    refine lv_iinc (v := x_145) (lv' := [(5, .int x_145), (6, .int x_133), (4, .int y_129), (3, .int r_92), (2, .int r_91), (1, .int r_90), (0, .ref (a 0))]) hx hb dX9_dots_221 hl (k := 1) rfl (by rw [ex_145]; rfl) (by decide) rfl (fun ls hl => ?_)
                    refine lv_goto (tgt := 110) hx hb dX9_dots_224 (by decide) ?_
                    exact L_122_ih _ _ hv ls (lv_sub hl [0, 2, 3, 4, 5, 6] rfl)
          exact L_122 n_146 _ _ hv ls hl
      · have hv := hv.2 c_93
        refine lv_sipush (v := 512) hx hb dX9_dots_80 (by decide) ?_
        refine lv_goto (tgt := 104) hx hb dX9_dots_83 (by decide) ?_
        refine lv_istore (lv' := [(4, .int 512), (3, .int r_92), (2, .int r_91), (1, .int r_90), (0, .ref (a 0))]) hx hb dX9_dots_104 hl (by decide) rfl (fun ls hl => ?_)
        refine lv_bipush (v := 7) hx hb dX9_dots_106 (by decide) ?_
        refine lv_istore (lv' := [(5, .int 7), (4, .int 512), (3, .int r_92), (2, .int r_91), (1, .int r_90), (0, .ref (a 0))]) hx hb dX9_dots_108 hl (by decide) rfl (fun ls hl => ?_)
        obtain ⟨n_171, hv⟩ := hv
        have K_L_147 : ∀ (y_148 : Int32) (y_149 : Int32), (∃ k_150 : Nat, k_150 < 23520 ∧ ((1770 + (64 * r_91)) + (u_89 1 20)) = nI k_150 ∧ ∀ M_151 : ST, M_151 = x_st u_89 1 k_150 (y_149 + 1) → ∀ M_152 : ST, M_152 = x_st M_151 1 25 ((M_151 1 25) + 1) → post M_152) → ∀ ls : Array Slot, lv_has ls 8 [(5, .int y_148), (4, .int y_149), (3, .int r_92), (2, .int r_91), (1, .int r_90), (0, .ref (a 0))] → W p l e (headSpec wsX9_dots ({ frames := 2, cells := 0, slots := 0, locals := 47 })).room s m ([.ref (a 0)] : List Value).toArray below meth c H locs 0 0 (MQ below (va_Qv post (fun u t => x_B D cT ((w_Model cT a u)) A t) A) ([.ref (a 0)] : List Value).toArray s 0 0 A) (F0 m 227 ls []) := by
          intro y_148 y_149 hv ls hl
          refine lv_aload_n hx hb dX9_dots_227 rfl (lv_at hl 5 rfl) ?_
          refine va_get (D := D) (ci := 9) (v := .ref (a 1)) (C := RX9) (T := TX9) (N := 2) hx hb hts in_X9 hown hK hP 0 rfl rfl 0 (by decide) kf_7 (fun _ h9 => h9) rfl dX9_dots_228 ?_
          refine lv_sipush (v := 1770) hx hb dX9_dots_231 (by decide) ?_
          refine lv_bipush (v := 64) hx hb dX9_dots_234 (by decide) ?_
          refine lv_iload_n hx hb dX9_dots_236 rfl (lv_at hl 3 rfl) ?_
          refine lv_imul hx hb dX9_dots_237 ?_
          refine lv_iadd hx hb dX9_dots_238 ?_
          refine lv_aload_n hx hb dX9_dots_239 rfl (lv_at hl 5 rfl) ?_
          refine va_get (D := D) (ci := 9) (v := .ref (a 1)) (C := RX9) (T := TX9) (N := 2) hx hb hts in_X9 hown hK hP 0 rfl rfl 0 (by decide) kf_7 (fun _ h9 => h9) rfl dX9_dots_240 ?_
          refine lv_bipush (v := 20) hx hb dX9_dots_243 (by decide) ?_
          refine x_ald hx hb hK hP 1 0 rfl rfl 20 rfl (by decide) (by decide) dX9_dots_245 ?_
          refine lv_iadd hx hb dX9_dots_246 ?_
          refine lv_iload hx hb dX9_dots_247 (lv_at hl 1 rfl) ?_
          refine lv_iconst (v := 1) hx hb dX9_dots_249 (by decide) ?_
          refine lv_iadd hx hb dX9_dots_250 ?_
          obtain ⟨k_150, hk_150, ik_150, hv⟩ := hv
          refine x_ast hx hb hK hP hD hS 1 0 rfl rfl k_150 ik_150 hk_150 (by decide) dX9_dots_251 (fun H locs hP hD hS => ?_)
          obtain ⟨M_151, eM_151⟩ : ∃ z : ST, z = x_st u_89 1 k_150 (y_149 + 1) := ⟨_, rfl⟩
          have hP : va_P D vwCl ((w_Model cT a M_151)) H := by rw [eM_151]; exact hP
          have hD : va_D A ((w_Model cT a M_151)) := by rw [eM_151]; exact hD
          have hv := hv M_151 eM_151
          refine lv_aload_n hx hb dX9_dots_252 rfl (lv_at hl 5 rfl) ?_
          refine va_get (D := D) (ci := 9) (v := .ref (a 1)) (C := RX9) (T := TX9) (N := 2) hx hb hts in_X9 hown hK hP 0 rfl rfl 0 (by decide) kf_7 (fun _ h9 => h9) rfl dX9_dots_253 ?_
          refine lv_bipush (v := 25) hx hb dX9_dots_256 (by decide) ?_
          refine lv_dup2_11 hx hb dX9_dots_258 rfl rfl ?_
          refine x_ald hx hb hK hP 1 0 rfl rfl 25 rfl (by decide) (by decide) dX9_dots_259 ?_
          refine lv_iconst (v := 1) hx hb dX9_dots_260 (by decide) ?_
          refine lv_iadd hx hb dX9_dots_261 ?_
          refine x_ast hx hb hK hP hD hS 1 0 rfl rfl 25 rfl (by decide) (by decide) dX9_dots_262 (fun H locs hP hD hS => ?_)
          obtain ⟨M_152, eM_152⟩ : ∃ z : ST, z = x_st M_151 1 25 ((M_151 1 25) + 1) := ⟨_, rfl⟩
          have hP : va_P D vwCl ((w_Model cT a M_152)) H := by rw [eM_152]; exact hP
          have hD : va_D A ((w_Model cT a M_152)) := by rw [eM_152]; exact hD
          have hv := hv M_152 eM_152
          exact W.vret hx hb hr (fun t ht hW => ⟨⟨M_152, rfl, hv, by rw [ht]; exact hP, va_K.moved hW.alike hK, hD⟩, hS.F ht⟩) hS.2.2 dX9_dots_263
        have L_147 : ∀ n_155 : Nat, ∀ (y_153 : Int32) (y_154 : Int32), (lp_X9_dots_110 u_89 r_91 r_92 post (fun (y_148 : Int32) (y_149 : Int32) => ∃ k_150 : Nat, k_150 < 23520 ∧ ((1770 + (64 * r_91)) + (u_89 1 20)) = nI k_150 ∧ ∀ M_151 : ST, M_151 = x_st u_89 1 k_150 (y_149 + 1) → ∀ M_152 : ST, M_152 = x_st M_151 1 25 ((M_151 1 25) + 1) → post M_152) n_155 y_153 y_154) → ∀ ls : Array Slot, lv_has ls 8 [(5, .int y_153), (4, .int y_154), (3, .int r_92), (2, .int r_91), (1, .int r_90), (0, .ref (a 0))] → W p l e (headSpec wsX9_dots ({ frames := 2, cells := 0, slots := 0, locals := 47 })).room s m ([.ref (a 0)] : List Value).toArray below meth c H locs 0 0 (MQ below (va_Qv post (fun u t => x_B D cT ((w_Model cT a u)) A t) A) ([.ref (a 0)] : List Value).toArray s 0 0 A) (F0 m 110 ls []) := by
          intro n_155
          induction n_155 with
          | zero =>
            intro y_153 y_154 hv
            exact hv.elim
          | succ n_155 L_147_ih =>
            intro y_153 y_154 hv ls hl
            refine lv_iload hx hb dX9_dots_110 (lv_at hl 0 rfl) ?_
            refine lv_if_lt (tgt := 227) hx hb dX9_dots_112 (by decide) (fun c_156 => ?_) (fun c_156 => ?_)
            · have hv := hv.1 c_156
              exact K_L_147 _ _ hv ls (lv_sub hl [0, 1, 2, 3, 4, 5] rfl)
            · have hv := hv.2 c_156
              refine lv_aload_n hx hb dX9_dots_115 rfl (lv_at hl 5 rfl) ?_
              refine va_get (D := D) (ci := 9) (v := .ref (a 1)) (C := RX9) (T := TX9) (N := 2) hx hb hts in_X9 hown hK hP 0 rfl rfl 0 (by decide) kf_7 (fun _ h9 => h9) rfl dX9_dots_116 ?_
              refine lv_bipush (v := 20) hx hb dX9_dots_119 (by decide) ?_
              refine x_ald hx hb hK hP 1 0 rfl rfl 20 rfl (by decide) (by decide) dX9_dots_121 ?_
              refine lv_aload_n hx hb dX9_dots_122 rfl (lv_at hl 5 rfl) ?_
              refine va_get (D := D) (ci := 9) (v := .ref (a 1)) (C := RX9) (T := TX9) (N := 2) hx hb hts in_X9 hown hK hP 0 rfl rfl 0 (by decide) kf_7 (fun _ h9 => h9) rfl dX9_dots_123 ?_
              refine lv_sipush (v := 130) hx hb dX9_dots_126 (by decide) ?_
              refine lv_bipush (v := 11) hx hb dX9_dots_129 (by decide) ?_
              refine lv_iload hx hb dX9_dots_131 (lv_at hl 0 rfl) ?_
              refine lv_imul hx hb dX9_dots_133 ?_
              refine lv_iadd hx hb dX9_dots_134 ?_
              obtain ⟨k_157, hk_157, ik_157, hv⟩ := hv
              refine x_ald hx hb hK hP 1 0 rfl rfl k_157 ik_157 hk_157 (by decide) dX9_dots_135 ?_
              refine lv_isub hx hb dX9_dots_136 ?_
              refine lv_topi (fun x_158 ex_158 => ?_)
              have hv := hv x_158 ex_158
              refine lv_istore (lv' := [(6, .int x_158), (5, .int y_153), (4, .int y_154), (3, .int r_92), (2, .int r_91), (1, .int r_90), (0, .ref (a 0))]) hx hb dX9_dots_137 hl (by decide) rfl (fun ls hl => ?_)
              refine lv_iload_n hx hb dX9_dots_139 rfl (lv_at hl 3 rfl) ?_
              refine lv_iload hx hb dX9_dots_140 (lv_at hl 1 rfl) ?_
              refine lv_ishr hx hb dX9_dots_142 ?_
              refine lv_iconst (v := 1) hx hb dX9_dots_143 (by decide) ?_
              refine lv_iand hx hb dX9_dots_144 ?_
              refine lv_if_eq (tgt := 221) hx hb dX9_dots_145 (by decide) (fun c_159 => ?_) (fun c_159 => ?_)
              · have hv := hv.1 c_159
                obtain ⟨x_160, ex_160⟩ : ∃ z : Int32, z = y_153 + (-1) := ⟨_, rfl⟩
                have hv := hv x_160 ex_160
                refine lv_iinc (v := x_160) (lv' := [(5, .int x_160), (6, .int x_158), (4, .int y_154), (3, .int r_92), (2, .int r_91), (1, .int r_90), (0, .ref (a 0))]) hx hb dX9_dots_221 hl (k := 1) rfl (by rw [ex_160]; rfl) (by decide) rfl (fun ls hl => ?_)
                refine lv_goto (tgt := 110) hx hb dX9_dots_224 (by decide) ?_
                exact L_147_ih _ _ hv ls (lv_sub hl [0, 2, 3, 4, 5, 6] rfl)
              · have hv := hv.2 c_159
                refine lv_iload hx hb dX9_dots_148 (lv_at hl 0 rfl) ?_
                refine lv_iconst (v := 0) hx hb dX9_dots_150 (by decide) ?_
                refine lv_bipush (v := 7) hx hb dX9_dots_151 (by decide) ?_
                refine x_rS (As := [.int x_158, .int 0, .int 7]) (rest := []) ⟨hx, hb, hml, hown, hts⟩ (c_X9_isIn l D cT x_158 0 7 _ hv) w_17 hK hS hN rfl hl.1 rfl (Nat.le_of_ble_eq_true rfl) dX9_dots_153 ⟨Nat.le_of_ble_eq_true rfl, Nat.le_of_ble_eq_true rfl⟩ (fun r_161 hv => ?_)
                refine lv_if_ne (tgt := 162) hx hb dX9_dots_156 (by decide) (fun c_162 => ?_) (fun c_162 => ?_)
                · have hv := hv.1 c_162
                  refine lv_aload_n hx hb dX9_dots_162 rfl (lv_at hl 6 rfl) ?_
                  refine va_get (D := D) (ci := 9) (v := .ref (a 1)) (C := RX9) (T := TX9) (N := 2) hx hb hts in_X9 hown hK hP 0 rfl rfl 0 (by decide) kf_7 (fun _ h9 => h9) rfl dX9_dots_163 ?_
                  refine lv_sipush (v := 130) hx hb dX9_dots_166 (by decide) ?_
                  refine lv_bipush (v := 11) hx hb dX9_dots_169 (by decide) ?_
                  refine lv_iload hx hb dX9_dots_171 (lv_at hl 1 rfl) ?_
                  refine lv_imul hx hb dX9_dots_173 ?_
                  refine lv_iadd hx hb dX9_dots_174 ?_
                  refine lv_iconst (v := 3) hx hb dX9_dots_175 (by decide) ?_
                  refine lv_iadd hx hb dX9_dots_176 ?_
                  refine lv_iload_n hx hb dX9_dots_177 rfl (lv_at hl 4 rfl) ?_
                  refine lv_iadd hx hb dX9_dots_178 ?_
                  refine lv_aload_n hx hb dX9_dots_179 rfl (lv_at hl 6 rfl) ?_
                  refine va_get (D := D) (ci := 9) (v := .ref (a 1)) (C := RX9) (T := TX9) (N := 2) hx hb hts in_X9 hown hK hP 0 rfl rfl 0 (by decide) kf_7 (fun _ h9 => h9) rfl dX9_dots_180 ?_
                  refine lv_sipush (v := 130) hx hb dX9_dots_183 (by decide) ?_
                  refine lv_bipush (v := 11) hx hb dX9_dots_186 (by decide) ?_
                  refine lv_iload hx hb dX9_dots_188 (lv_at hl 1 rfl) ?_
                  refine lv_imul hx hb dX9_dots_190 ?_
                  refine lv_iadd hx hb dX9_dots_191 ?_
                  refine lv_iconst (v := 1) hx hb dX9_dots_192 (by decide) ?_
                  refine lv_iadd hx hb dX9_dots_193 ?_
                  obtain ⟨k_163, hk_163, ik_163, hv⟩ := hv
                  refine x_ald hx hb hK hP 1 0 rfl rfl k_163 ik_163 hk_163 (by decide) dX9_dots_194 ?_
                  refine lv_isub hx hb dX9_dots_195 ?_
                  obtain ⟨k_164, hk_164, ik_164, hv⟩ := hv
                  refine x_ald hx hb hK hP 1 0 rfl rfl k_164 ik_164 hk_164 (by decide) dX9_dots_196 ?_
                  refine lv_topi (fun x_165 ex_165 => ?_)
                  have hv := hv x_165 ex_165
                  refine lv_istore (lv' := [(7, .int x_165), (6, .int x_158), (5, .int y_153), (4, .int y_154), (3, .int r_92), (2, .int r_91), (1, .int r_90), (0, .ref (a 0))]) hx hb dX9_dots_197 hl (by decide) rfl (fun ls hl => ?_)
                  refine lv_iload hx hb dX9_dots_199 (lv_at hl 0 rfl) ?_
                  refine lv_bipush (v := 7) hx hb dX9_dots_201 (by decide) ?_
                  refine lv_iload hx hb dX9_dots_203 (lv_at hl 1 rfl) ?_
                  refine lv_isub hx hb dX9_dots_205 ?_
                  refine lv_ishr hx hb dX9_dots_206 ?_
                  refine lv_iconst (v := 1) hx hb dX9_dots_207 (by decide) ?_
                  refine lv_iand hx hb dX9_dots_208 ?_
                  refine lv_iconst (v := 1) hx hb dX9_dots_209 (by decide) ?_
                  refine lv_icmp_ne (tgt := 221) hx hb dX9_dots_210 (by decide) (fun c_166 => ?_) (fun c_166 => ?_)
                  · have hv := hv.1 c_166
                    obtain ⟨x_167, ex_167⟩ : ∃ z : Int32, z = y_153 + (-1) := ⟨_, rfl⟩
                    have hv := hv x_167 ex_167
                    refine lv_iinc (v := x_167) (lv' := [(5, .int x_167), (7, .int x_165), (6, .int x_158), (4, .int y_154), (3, .int r_92), (2, .int r_91), (1, .int r_90), (0, .ref (a 0))]) hx hb dX9_dots_221 hl (k := 2) rfl (by rw [ex_167]; rfl) (by decide) rfl (fun ls hl => ?_)
                    refine lv_goto (tgt := 110) hx hb dX9_dots_224 (by decide) ?_
                    exact L_147_ih _ _ hv ls (lv_sub hl [0, 3, 4, 5, 6, 7] rfl)
                  · have hv := hv.2 c_166
                    refine lv_sipush (v := 256) hx hb dX9_dots_213 (by decide) ?_
                    refine lv_iload hx hb dX9_dots_216 (lv_at hl 2 rfl) ?_
                    refine lv_iadd hx hb dX9_dots_218 ?_
                    refine lv_topi (fun x_168 ex_168 => ?_)
                    have hv := hv x_168 ex_168
                    refine lv_istore (lv' := [(4, .int x_168), (7, .int x_165), (6, .int x_158), (5, .int y_153), (3, .int r_92), (2, .int r_91), (1, .int r_90), (0, .ref (a 0))]) hx hb dX9_dots_219 hl (by decide) rfl (fun ls hl => ?_)
                    obtain ⟨x_169, ex_169⟩ : ∃ z : Int32, z = y_153 + (-1) := ⟨_, rfl⟩
                    have hv := hv x_169 ex_169
                    refine lv_iinc (v := x_169) (lv' := [(5, .int x_169), (4, .int x_168), (7, .int x_165), (6, .int x_158), (3, .int r_92), (2, .int r_91), (1, .int r_90), (0, .ref (a 0))]) hx hb dX9_dots_221 hl (k := 3) rfl (by rw [ex_169]; rfl) (by decide) rfl (fun ls hl => ?_)
                    refine lv_goto (tgt := 110) hx hb dX9_dots_224 (by decide) ?_
                    exact L_147_ih _ _ hv ls (lv_sub hl [0, 1, 4, 5, 6, 7] rfl)
                · have hv := hv.2 c_162
                  refine lv_goto (tgt := 221) hx hb dX9_dots_159 (by decide) ?_
                  obtain ⟨x_170, ex_170⟩ : ∃ z : Int32, z = y_153 + (-1) := ⟨_, rfl⟩
                  have hv := hv x_170 ex_170
                  refine lv_iinc (v := x_170) (lv' := [(5, .int x_170), (6, .int x_158), (4, .int y_154), (3, .int r_92), (2, .int r_91), (1, .int r_90), (0, .ref (a 0))]) hx hb dX9_dots_221 hl (k := 1) rfl (by rw [ex_170]; rfl) (by decide) rfl (fun ls hl => ?_)
                  refine lv_goto (tgt := 110) hx hb dX9_dots_224 (by decide) ?_
                  exact L_147_ih _ _ hv ls (lv_sub hl [0, 2, 3, 4, 5, 6] rfl)
        exact L_147 n_171 _ _ hv ls hl
    have L_85 : ∀ n_175 : Nat, ∀ (y_172 : Int32) (y_173 : Int32) (M_174 : ST), (lp_X9_dots_14  post (fun (y_86 : Int32) (y_87 : Int32) (M_88 : ST) => v_X9_takes M_88 (fun r_90 (u_89 : ST) => v_X9_rowOf (u_89 1 21) (u_89 1 22) (u_89 1 8) (fun r_91 => v_X9_spritesOf u_89 r_91 (fun r_92 => (((0 ≤ r_90) → (((¬ (r_90 = 1)) → ∀ x_95 : Int32, x_95 = (u_89 1 44) → (∃ n_120 : Nat, lp_X9_dots_110 u_89 r_91 r_92 post (fun (y_97 : Int32) (y_98 : Int32) => ∃ k_99 : Nat, k_99 < 23520 ∧ ((1770 + (64 * r_91)) + (u_89 1 20)) = nI k_99 ∧ ∀ M_100 : ST, M_100 = x_st u_89 1 k_99 (y_98 + 1) → ∀ M_101 : ST, M_101 = x_st M_100 1 25 ((M_100 1 25) + 1) → post M_101) n_120 7 x_95)) ∧ ((r_90 = 1) → ∀ x_121 : Int32, x_121 = (u_89 1 43) → (∃ n_146 : Nat, lp_X9_dots_110 u_89 r_91 r_92 post (fun (y_123 : Int32) (y_124 : Int32) => ∃ k_125 : Nat, k_125 < 23520 ∧ ((1770 + (64 * r_91)) + (u_89 1 20)) = nI k_125 ∧ ∀ M_126 : ST, M_126 = x_st u_89 1 k_125 (y_124 + 1) → ∀ M_127 : ST, M_127 = x_st M_126 1 25 ((M_126 1 25) + 1) → post M_127) n_146 7 x_121)))) ∧ ((¬ (0 ≤ r_90)) → (∃ n_171 : Nat, lp_X9_dots_110 u_89 r_91 r_92 post (fun (y_148 : Int32) (y_149 : Int32) => ∃ k_150 : Nat, k_150 < 23520 ∧ ((1770 + (64 * r_91)) + (u_89 1 20)) = nI k_150 ∧ ∀ M_151 : ST, M_151 = x_st u_89 1 k_150 (y_149 + 1) → ∀ M_152 : ST, M_152 = x_st M_151 1 25 ((M_151 1 25) + 1) → post M_152) n_171 7 512))))))) n_175 y_172 y_173 M_174) → ∀ (H : Heap) (locs : List Loc), va_P D vwCl ((w_Model cT a M_174)) H → va_D A ((w_Model cT a M_174)) → va_S A s.heap H locs → ∀ ls : Array Slot, lv_has ls 8 [(2, .int y_172), (1, .int y_173), (0, .ref (a 0))] → W p l e (headSpec wsX9_dots ({ frames := 2, cells := 0, slots := 0, locals := 47 })).room s m ([.ref (a 0)] : List Value).toArray below meth c H locs 0 0 (MQ below (va_Qv post (fun u t => x_B D cT ((w_Model cT a u)) A t) A) ([.ref (a 0)] : List Value).toArray s 0 0 A) (F0 m 14 ls []) := by
      intro n_175
      induction n_175 with
      | zero =>
        intro y_172 y_173 M_174 hv
        exact hv.elim
      | succ n_175 L_85_ih =>
        intro y_172 y_173 M_174 hv H locs hP hD hS ls hl
        refine lv_iload_n hx hb dX9_dots_14 rfl (lv_at hl 0 rfl) ?_
        refine lv_aload_n hx hb dX9_dots_15 rfl (lv_at hl 2 rfl) ?_
        refine va_get (D := D) (ci := 9) (v := .ref (a 1)) (C := RX9) (T := TX9) (N := 2) hx hb hts in_X9 hown hK hP 0 rfl rfl 0 (by decide) kf_7 (fun _ h9 => h9) rfl dX9_dots_16 ?_
        refine lv_bipush (v := 42) hx hb dX9_dots_19 (by decide) ?_
        refine x_ald hx hb hK hP 1 0 rfl rfl 42 rfl (by decide) (by decide) dX9_dots_21 ?_
        refine lv_icmp_ge (tgt := 40) hx hb dX9_dots_22 (by decide) (fun c_176 => ?_) (fun c_176 => ?_)
        · have hv := hv.1 c_176
          exact K_L_85 _ _ _ hv H locs hP hD hS ls (lv_sub hl [0, 1, 2] rfl)
        · have hv := hv.2 c_176
          refine lv_iload_n hx hb dX9_dots_25 rfl (lv_at hl 1 rfl) ?_
          refine lv_if_lt (tgt := 40) hx hb dX9_dots_26 (by decide) (fun c_177 => ?_) (fun c_177 => ?_)
          · have hv := hv.1 c_177
            exact K_L_85 _ _ _ hv H locs hP hD hS ls (lv_sub hl [0, 1, 2] rfl)
          · have hv := hv.2 c_177
            refine lv_aload_n hx hb dX9_dots_29 rfl (lv_at hl 2 rfl) ?_
            refine x_cVi (As := []) (rest := []) (wn := fun u_178 => (w_Model cT a u_178)) ⟨hx, hb, hml, hown, hts⟩ (c_X9_takes l D cT a M_174 _ _ hv) w_47 hK hP hD hS hA hN [0, 1, 2] [] [0, 1, 2] rfl rfl (fun _ => rfl) (by decide) (by decide) (by decide) (by decide) 9 0 rfl rfl rfl hl.1 rfl (Nat.le_of_ble_eq_true rfl) dX9_dots_30 ⟨Nat.le_of_ble_eq_true rfl, Nat.le_of_ble_eq_true rfl⟩ (fun r_179 u_178 H locs hv hP hD hS => ?_)
            refine lv_istore_n (lv' := [(1, .int r_179), (2, .int y_172), (0, .ref (a 0))]) hx hb dX9_dots_33 rfl hl (by decide) rfl (fun ls hl => ?_)
            obtain ⟨x_180, ex_180⟩ : ∃ z : Int32, z = y_172 + 1 := ⟨_, rfl⟩
            have hv := hv x_180 ex_180
            refine lv_iinc (v := x_180) (lv' := [(2, .int x_180), (1, .int r_179), (0, .ref (a 0))]) hx hb dX9_dots_34 hl (k := 1) rfl (by rw [ex_180]; rfl) (by decide) rfl (fun ls hl => ?_)
            refine lv_goto (tgt := 14) hx hb dX9_dots_37 (by decide) ?_
            exact L_85_ih _ _ _ hv H locs hP hD hS ls (lv_sub hl [0, 1, 2] rfl)
    exact L_85 n_181 _ _ _ hv _ _ hP hD hS ls hl
def lp_X9_goesOn_83  (post : ST → Prop) (K_ : Int32 → ST → Prop) : Nat → Int32 → ST → Prop
  | 0, _, _ => False
  | n_16 + 1, y_14, M_15 => (((10 ≤ y_14) → K_ y_14 M_15) ∧ ((¬ (10 ≤ y_14)) → ∃ k_18 : Nat, k_18 < 23520 ∧ (5870 + y_14) = nI k_18 ∧ ∃ k_19 : Nat, k_19 < 23520 ∧ (0 + y_14) = nI k_19 ∧ ∀ M_20 : ST, M_20 = x_st M_15 1 k_19 (M_15 1 k_18) → ∀ x_21 : Int32, x_21 = y_14 + 1 → lp_X9_goesOn_83  post K_ n_16 x_21 M_20))
def v_X9_goesOn (M : ST) (post : ST → Prop) : Prop := ∀ M_1 : ST, M_1 = x_st M 1 20 ((M 1 20) + 1) → v_X9_ticksOf M_1 0 (fun r_2 => (((r_2 ≤ (M_1 1 20)) → ∀ M_4 : ST, M_4 = x_st M_1 1 20 0 → ∀ M_5 : ST, M_5 = x_st M_4 1 21 ((M_4 1 21) + 1) → v_X9_linesOf M_5 0 (fun r_6 => (((r_6 ≤ (M_5 1 21)) → ∀ M_8 : ST, M_8 = x_st M_5 1 21 0 → v_X9_nextField M_8 (fun r_9 => ∀ M_10 : ST, M_10 = x_st M_8 1 22 r_9 → (∃ n_22 : Nat, lp_X9_goesOn_83  post (fun (y_12 : Int32) (M_13 : ST) => post M_13) n_22 0 M_10))) ∧ ((¬ (r_6 ≤ (M_5 1 21))) → post M_5)))) ∧ ((¬ (r_2 ≤ (M_1 1 20))) → post M_1)))
set_option maxHeartbeats 4000000 in
set_option maxRecDepth 100000 in
theorem c_X9_goesOn (l : Launch) (D : va_G) (cT : Nat → ClassId) (a : Nat → Nat) (M : ST) (sz : Nat) (post : ST → Prop) (hv : v_X9_goesOn M post) : Met l yX9_goesOn wsX9_goesOn ({ frames := 1, cells := 0, slots := 0, locals := 21 }) (va_Pc [.ref (a 0)] (x_U D cT ((w_Model cT a M)) sz)) (va_Qv post (fun u t => x_B D cT ((w_Model cT a u)) (va_A ((w_Model cT a M)) sz) t) (va_A ((w_Model cT a M)) sz)) 0 0 (va_A ((w_Model cT a M)) sz) := by
  refine Met.ofW (cc := cX9_goesOn) (maxL := 2) (ret := none) (by decide) rfl ?_
  intro p e s m args below meth c s₁ B hml hpre
  obtain ⟨rfl, hsz, hP, hK, hD0, hN⟩ := hpre
  have hx := B.exec
  have hb := B.bytes
  have hr := B.returns
  have hts := atoms_spec (ws := wsX9_goesOn) B.pre
  have hown : s.vm.findClass RX9 = some m.cls := findClass_of_methodNamed B.named
  have hlocks := B.notSynchronized
  subst hsz
  have hD := hD0.self (sz := s.heap.size)
  generalize hAe : va_A ((w_Model cT a M)) s.heap.size = A at hD hN ⊢
  have hA : ∀ q : Nat, s.heap.size ≤ q → A q := fun q h => by rw [← hAe]; exact Or.inr h
  have hS : va_S A s.heap s.heap [] := va_S.rf
  have hl := lv_entry ([.ref (a 0)]) (n := 2) (Nat.le_of_ble_eq_true rfl)
  rw [lg_entry_eq]
  generalize (lg_sl ([.ref (a 0)]) ++ List.replicate (2 - (lg_sl ([.ref (a 0)])).length) Slot.unset).toArray = ls at hl ⊢
  have hl : lv_has ls 2 [(0, .ref (a 0))] := hl
  have in_X9 : ∀ w ∈ wsX90, w ∈ wsX9_goesOn := by decide +kernel
  have kf_7 : (Cond.fieldLink RX9 7 "PictureBeatsModel" "all" "[I").before ([.ref (a 0)] : List Value).toArray s = true := hts _ (by decide +kernel)
  have w_53 : CallW (headSpec wsX9_goesOn ({ frames := 1, cells := 0, slots := 0, locals := 21 })).room s ([.ref (a 0)] : List Value).toArray RX9 RX9 53 yX9_ticksOf cX9_ticksOf 2 (some .int) wsX9_ticksOf ({ frames := 0, cells := 0, slots := 0, locals := 0 } : Room) 0 0 1 := cwV 1 hts gX9_goesOn_X9_ticksOf rfl rfl rfl (by decide +kernel) ⟨Nat.le_of_ble_eq_true rfl, Nat.le_of_ble_eq_true rfl⟩
  have w_28 : CallW (headSpec wsX9_goesOn ({ frames := 1, cells := 0, slots := 0, locals := 21 })).room s ([.ref (a 0)] : List Value).toArray RX9 RX9 28 yX9_linesOf cX9_linesOf 2 (some .int) wsX9_linesOf ({ frames := 0, cells := 0, slots := 0, locals := 0 } : Room) 0 0 1 := cwV 1 hts gX9_goesOn_X9_linesOf rfl rfl rfl (by decide +kernel) ⟨Nat.le_of_ble_eq_true rfl, Nat.le_of_ble_eq_true rfl⟩
  have w_32 : CallW (headSpec wsX9_goesOn ({ frames := 1, cells := 0, slots := 0, locals := 21 })).room s ([.ref (a 0)] : List Value).toArray RX9 RX9 32 yX9_nextField cX9_nextField 1 (some .int) wsX9_nextField ({ frames := 0, cells := 0, slots := 0, locals := 0 } : Room) 0 0 0 := cwV 0 hts gX9_goesOn_X9_nextField rfl rfl rfl (by decide +kernel) ⟨Nat.le_of_ble_eq_true rfl, Nat.le_of_ble_eq_true rfl⟩
  refine lv_aload_n hx hb dX9_goesOn_0 rfl (lv_at hl 0 rfl) ?_
  refine va_get (D := D) (ci := 9) (v := .ref (a 1)) (C := RX9) (T := TX9) (N := 2) hx hb hts in_X9 hown hK hP 0 rfl rfl 0 (by decide) kf_7 (fun _ h9 => h9) rfl dX9_goesOn_1 ?_
  refine lv_bipush (v := 20) hx hb dX9_goesOn_4 (by decide) ?_
  refine lv_dup2_11 hx hb dX9_goesOn_6 rfl rfl ?_
  refine x_ald hx hb hK hP 1 0 rfl rfl 20 rfl (by decide) (by decide) dX9_goesOn_7 ?_
  refine lv_iconst (v := 1) hx hb dX9_goesOn_8 (by decide) ?_
  refine lv_iadd hx hb dX9_goesOn_9 ?_
  refine x_ast hx hb hK hP hD hS 1 0 rfl rfl 20 rfl (by decide) (by decide) dX9_goesOn_10 (fun H locs hP hD hS => ?_)
  obtain ⟨M_1, eM_1⟩ : ∃ z : ST, z = x_st M 1 20 ((M 1 20) + 1) := ⟨_, rfl⟩
  have hP : va_P D vwCl ((w_Model cT a M_1)) H := by rw [eM_1]; exact hP
  have hD : va_D A ((w_Model cT a M_1)) := by rw [eM_1]; exact hD
  have hv := hv M_1 eM_1
  refine lv_aload_n hx hb dX9_goesOn_11 rfl (lv_at hl 0 rfl) ?_
  refine va_get (D := D) (ci := 9) (v := .ref (a 1)) (C := RX9) (T := TX9) (N := 2) hx hb hts in_X9 hown hK hP 0 rfl rfl 0 (by decide) kf_7 (fun _ h9 => h9) rfl dX9_goesOn_12 ?_
  refine lv_bipush (v := 20) hx hb dX9_goesOn_15 (by decide) ?_
  refine x_ald hx hb hK hP 1 0 rfl rfl 20 rfl (by decide) (by decide) dX9_goesOn_17 ?_
  refine lv_aload_n hx hb dX9_goesOn_18 rfl (lv_at hl 0 rfl) ?_
  refine lv_iconst (v := 0) hx hb dX9_goesOn_19 (by decide) ?_
  refine x_rV (As := [.int 0]) (rest := [.int (M_1 1 20)]) ⟨hx, hb, hml, hown, hts⟩ (c_X9_ticksOf l D cT a M_1 0 _ hv) w_53 hK hP hS hN [0, 1, 2] rfl 9 0 rfl rfl rfl hl.1 rfl (Nat.le_of_ble_eq_true rfl) dX9_goesOn_20 ⟨Nat.le_of_ble_eq_true rfl, Nat.le_of_ble_eq_true rfl⟩ (fun r_2 hv => ?_)
  refine lv_icmp_ge (tgt := 27) hx hb dX9_goesOn_23 (by decide) (fun c_3 => ?_) (fun c_3 => ?_)
  · have hv := hv.1 c_3
    refine lv_aload_n hx hb dX9_goesOn_27 rfl (lv_at hl 0 rfl) ?_
    refine va_get (D := D) (ci := 9) (v := .ref (a 1)) (C := RX9) (T := TX9) (N := 2) hx hb hts in_X9 hown hK hP 0 rfl rfl 0 (by decide) kf_7 (fun _ h9 => h9) rfl dX9_goesOn_28 ?_
    refine lv_bipush (v := 20) hx hb dX9_goesOn_31 (by decide) ?_
    refine lv_iconst (v := 0) hx hb dX9_goesOn_33 (by decide) ?_
    refine x_ast hx hb hK hP hD hS 1 0 rfl rfl 20 rfl (by decide) (by decide) dX9_goesOn_34 (fun H locs hP hD hS => ?_)
    obtain ⟨M_4, eM_4⟩ : ∃ z : ST, z = x_st M_1 1 20 0 := ⟨_, rfl⟩
    have hP : va_P D vwCl ((w_Model cT a M_4)) H := by rw [eM_4]; exact hP
    have hD : va_D A ((w_Model cT a M_4)) := by rw [eM_4]; exact hD
    have hv := hv M_4 eM_4
    refine lv_aload_n hx hb dX9_goesOn_35 rfl (lv_at hl 0 rfl) ?_
    refine va_get (D := D) (ci := 9) (v := .ref (a 1)) (C := RX9) (T := TX9) (N := 2) hx hb hts in_X9 hown hK hP 0 rfl rfl 0 (by decide) kf_7 (fun _ h9 => h9) rfl dX9_goesOn_36 ?_
    refine lv_bipush (v := 21) hx hb dX9_goesOn_39 (by decide) ?_
    refine lv_dup2_11 hx hb dX9_goesOn_41 rfl rfl ?_
    refine x_ald hx hb hK hP 1 0 rfl rfl 21 rfl (by decide) (by decide) dX9_goesOn_42 ?_
    refine lv_iconst (v := 1) hx hb dX9_goesOn_43 (by decide) ?_
    refine lv_iadd hx hb dX9_goesOn_44 ?_
    refine x_ast hx hb hK hP hD hS 1 0 rfl rfl 21 rfl (by decide) (by decide) dX9_goesOn_45 (fun H locs hP hD hS => ?_)
    obtain ⟨M_5, eM_5⟩ : ∃ z : ST, z = x_st M_4 1 21 ((M_4 1 21) + 1) := ⟨_, rfl⟩
    have hP : va_P D vwCl ((w_Model cT a M_5)) H := by rw [eM_5]; exact hP
    have hD : va_D A ((w_Model cT a M_5)) := by rw [eM_5]; exact hD
    have hv := hv M_5 eM_5
    refine lv_aload_n hx hb dX9_goesOn_46 rfl (lv_at hl 0 rfl) ?_
    refine va_get (D := D) (ci := 9) (v := .ref (a 1)) (C := RX9) (T := TX9) (N := 2) hx hb hts in_X9 hown hK hP 0 rfl rfl 0 (by decide) kf_7 (fun _ h9 => h9) rfl dX9_goesOn_47 ?_
    refine lv_bipush (v := 21) hx hb dX9_goesOn_50 (by decide) ?_
    refine x_ald hx hb hK hP 1 0 rfl rfl 21 rfl (by decide) (by decide) dX9_goesOn_52 ?_
    refine lv_aload_n hx hb dX9_goesOn_53 rfl (lv_at hl 0 rfl) ?_
    refine lv_iconst (v := 0) hx hb dX9_goesOn_54 (by decide) ?_
    refine x_rV (As := [.int 0]) (rest := [.int (M_5 1 21)]) ⟨hx, hb, hml, hown, hts⟩ (c_X9_linesOf l D cT a M_5 0 _ hv) w_28 hK hP hS hN [0, 1, 2] rfl 9 0 rfl rfl rfl hl.1 rfl (Nat.le_of_ble_eq_true rfl) dX9_goesOn_55 ⟨Nat.le_of_ble_eq_true rfl, Nat.le_of_ble_eq_true rfl⟩ (fun r_6 hv => ?_)
    refine lv_icmp_ge (tgt := 62) hx hb dX9_goesOn_58 (by decide) (fun c_7 => ?_) (fun c_7 => ?_)
    · have hv := hv.1 c_7
      refine lv_aload_n hx hb dX9_goesOn_62 rfl (lv_at hl 0 rfl) ?_
      refine va_get (D := D) (ci := 9) (v := .ref (a 1)) (C := RX9) (T := TX9) (N := 2) hx hb hts in_X9 hown hK hP 0 rfl rfl 0 (by decide) kf_7 (fun _ h9 => h9) rfl dX9_goesOn_63 ?_
      refine lv_bipush (v := 21) hx hb dX9_goesOn_66 (by decide) ?_
      refine lv_iconst (v := 0) hx hb dX9_goesOn_68 (by decide) ?_
      refine x_ast hx hb hK hP hD hS 1 0 rfl rfl 21 rfl (by decide) (by decide) dX9_goesOn_69 (fun H locs hP hD hS => ?_)
      obtain ⟨M_8, eM_8⟩ : ∃ z : ST, z = x_st M_5 1 21 0 := ⟨_, rfl⟩
      have hP : va_P D vwCl ((w_Model cT a M_8)) H := by rw [eM_8]; exact hP
      have hD : va_D A ((w_Model cT a M_8)) := by rw [eM_8]; exact hD
      have hv := hv M_8 eM_8
      refine lv_aload_n hx hb dX9_goesOn_70 rfl (lv_at hl 0 rfl) ?_
      refine va_get (D := D) (ci := 9) (v := .ref (a 1)) (C := RX9) (T := TX9) (N := 2) hx hb hts in_X9 hown hK hP 0 rfl rfl 0 (by decide) kf_7 (fun _ h9 => h9) rfl dX9_goesOn_71 ?_
      refine lv_bipush (v := 22) hx hb dX9_goesOn_74 (by decide) ?_
      refine lv_aload_n hx hb dX9_goesOn_76 rfl (lv_at hl 0 rfl) ?_
      refine x_rV (As := []) (rest := [.int 22, .ref (a 1)]) ⟨hx, hb, hml, hown, hts⟩ (c_X9_nextField l D cT a M_8 _ hv) w_32 hK hP hS hN [0, 1, 2] rfl 9 0 rfl rfl rfl hl.1 rfl (Nat.le_of_ble_eq_true rfl) dX9_goesOn_77 ⟨Nat.le_of_ble_eq_true rfl, Nat.le_of_ble_eq_true rfl⟩ (fun r_9 hv => ?_)
      refine x_ast hx hb hK hP hD hS 1 0 rfl rfl 22 rfl (by decide) (by decide) dX9_goesOn_80 (fun H locs hP hD hS => ?_)
      obtain ⟨M_10, eM_10⟩ : ∃ z : ST, z = x_st M_8 1 22 r_9 := ⟨_, rfl⟩
      have hP : va_P D vwCl ((w_Model cT a M_10)) H := by rw [eM_10]; exact hP
      have hD : va_D A ((w_Model cT a M_10)) := by rw [eM_10]; exact hD
      have hv := hv M_10 eM_10
      refine lv_iconst (v := 0) hx hb dX9_goesOn_81 (by decide) ?_
      refine lv_istore_n (lv' := [(1, .int 0), (0, .ref (a 0))]) hx hb dX9_goesOn_82 rfl hl (by decide) rfl (fun ls hl => ?_)
      obtain ⟨n_22, hv⟩ := hv
      have K_L_11 : ∀ (y_12 : Int32) (M_13 : ST), (post M_13) → ∀ (H : Heap) (locs : List Loc), va_P D vwCl ((w_Model cT a M_13)) H → va_D A ((w_Model cT a M_13)) → va_S A s.heap H locs → ∀ ls : Array Slot, lv_has ls 2 [(1, .int y_12), (0, .ref (a 0))] → W p l e (headSpec wsX9_goesOn ({ frames := 1, cells := 0, slots := 0, locals := 21 })).room s m ([.ref (a 0)] : List Value).toArray below meth c H locs 0 0 (MQ below (va_Qv post (fun u t => x_B D cT ((w_Model cT a u)) A t) A) ([.ref (a 0)] : List Value).toArray s 0 0 A) (F0 m 113 ls []) := by
        intro y_12 M_13 hv H locs hP hD hS ls hl
        exact W.vret hx hb hr (fun t ht hW => ⟨⟨M_13, rfl, hv, by rw [ht]; exact hP, va_K.moved hW.alike hK, hD⟩, hS.F ht⟩) hS.2.2 dX9_goesOn_113
      have L_11 : ∀ n_16 : Nat, ∀ (y_14 : Int32) (M_15 : ST), (lp_X9_goesOn_83  post (fun (y_12 : Int32) (M_13 : ST) => post M_13) n_16 y_14 M_15) → ∀ (H : Heap) (locs : List Loc), va_P D vwCl ((w_Model cT a M_15)) H → va_D A ((w_Model cT a M_15)) → va_S A s.heap H locs → ∀ ls : Array Slot, lv_has ls 2 [(1, .int y_14), (0, .ref (a 0))] → W p l e (headSpec wsX9_goesOn ({ frames := 1, cells := 0, slots := 0, locals := 21 })).room s m ([.ref (a 0)] : List Value).toArray below meth c H locs 0 0 (MQ below (va_Qv post (fun u t => x_B D cT ((w_Model cT a u)) A t) A) ([.ref (a 0)] : List Value).toArray s 0 0 A) (F0 m 83 ls []) := by
        intro n_16
        induction n_16 with
        | zero =>
          intro y_14 M_15 hv
          exact hv.elim
        | succ n_16 L_11_ih =>
          intro y_14 M_15 hv H locs hP hD hS ls hl
          refine lv_iload_n hx hb dX9_goesOn_83 rfl (lv_at hl 0 rfl) ?_
          refine lv_bipush (v := 10) hx hb dX9_goesOn_84 (by decide) ?_
          refine lv_icmp_ge (tgt := 113) hx hb dX9_goesOn_86 (by decide) (fun c_17 => ?_) (fun c_17 => ?_)
          · have hv := hv.1 c_17
            exact K_L_11 _ _ hv H locs hP hD hS ls (lv_sub hl [0, 1] rfl)
          · have hv := hv.2 c_17
            refine lv_aload_n hx hb dX9_goesOn_89 rfl (lv_at hl 1 rfl) ?_
            refine va_get (D := D) (ci := 9) (v := .ref (a 1)) (C := RX9) (T := TX9) (N := 2) hx hb hts in_X9 hown hK hP 0 rfl rfl 0 (by decide) kf_7 (fun _ h9 => h9) rfl dX9_goesOn_90 ?_
            refine lv_iconst (v := 0) hx hb dX9_goesOn_93 (by decide) ?_
            refine lv_iload_n hx hb dX9_goesOn_94 rfl (lv_at hl 0 rfl) ?_
            refine lv_iadd hx hb dX9_goesOn_95 ?_
            refine lv_aload_n hx hb dX9_goesOn_96 rfl (lv_at hl 1 rfl) ?_
            refine va_get (D := D) (ci := 9) (v := .ref (a 1)) (C := RX9) (T := TX9) (N := 2) hx hb hts in_X9 hown hK hP 0 rfl rfl 0 (by decide) kf_7 (fun _ h9 => h9) rfl dX9_goesOn_97 ?_
            refine lv_sipush (v := 5870) hx hb dX9_goesOn_100 (by decide) ?_
            refine lv_iload_n hx hb dX9_goesOn_103 rfl (lv_at hl 0 rfl) ?_
            refine lv_iadd hx hb dX9_goesOn_104 ?_
            obtain ⟨k_18, hk_18, ik_18, hv⟩ := hv
            refine x_ald hx hb hK hP 1 0 rfl rfl k_18 ik_18 hk_18 (by decide) dX9_goesOn_105 ?_
            obtain ⟨k_19, hk_19, ik_19, hv⟩ := hv
            refine x_ast hx hb hK hP hD hS 1 0 rfl rfl k_19 ik_19 hk_19 (by decide) dX9_goesOn_106 (fun H locs hP hD hS => ?_)
            obtain ⟨M_20, eM_20⟩ : ∃ z : ST, z = x_st M_15 1 k_19 (M_15 1 k_18) := ⟨_, rfl⟩
            have hP : va_P D vwCl ((w_Model cT a M_20)) H := by rw [eM_20]; exact hP
            have hD : va_D A ((w_Model cT a M_20)) := by rw [eM_20]; exact hD
            have hv := hv M_20 eM_20
            obtain ⟨x_21, ex_21⟩ : ∃ z : Int32, z = y_14 + 1 := ⟨_, rfl⟩
            have hv := hv x_21 ex_21
            refine lv_iinc (v := x_21) (lv' := [(1, .int x_21), (0, .ref (a 0))]) hx hb dX9_goesOn_107 hl (k := 0) rfl (by rw [ex_21]; rfl) (by decide) rfl (fun ls hl => ?_)
            refine lv_goto (tgt := 83) hx hb dX9_goesOn_110 (by decide) ?_
            exact L_11_ih _ _ hv H locs hP hD hS ls (lv_sub hl [0, 1] rfl)
      exact L_11 n_22 _ _ hv _ _ hP hD hS ls hl
    · have hv := hv.2 c_7
      exact W.vret hx hb hr (fun t ht hW => ⟨⟨M_5, rfl, hv, by rw [ht]; exact hP, va_K.moved hW.alike hK, hD⟩, hS.F ht⟩) hS.2.2 dX9_goesOn_61
  · have hv := hv.2 c_3
    exact W.vret hx hb hr (fun t ht hW => ⟨⟨M_1, rfl, hv, by rw [ht]; exact hP, va_K.moved hW.alike hK, hD⟩, hS.F ht⟩) hS.2.2 dX9_goesOn_26
def lp_X9_aTick_2  (post : ST → Prop) (K_ : Int32 → ST → Prop) : Nat → Int32 → ST → Prop
  | 0, _, _ => False
  | n_46 + 1, y_44, M_45 => ((((M_45 1 36) ≤ y_44) → K_ y_44 M_45) ∧ ((¬ ((M_45 1 36) ≤ y_44)) → ∀ x_48 : Int32, x_48 = (60 + (4 * y_44)) → ∃ k_49 : Nat, k_49 < 23520 ∧ x_48 = nI k_49 ∧ (((¬ ((M_45 1 k_49) = (M_45 1 21))) → ∀ x_51 : Int32, x_51 = y_44 + 1 → lp_X9_aTick_2  post K_ n_46 x_51 M_45) ∧ (((M_45 1 k_49) = (M_45 1 21)) → ∃ k_52 : Nat, k_52 < 23520 ∧ (x_48 + 1) = nI k_52 ∧ (((¬ ((M_45 1 k_52) = (M_45 1 20))) → ∀ x_54 : Int32, x_54 = y_44 + 1 → lp_X9_aTick_2  post K_ n_46 x_54 M_45) ∧ (((M_45 1 k_52) = (M_45 1 20)) → ∃ k_55 : Nat, k_55 < 23520 ∧ (x_48 + 2) = nI k_55 ∧ ∃ k_56 : Nat, k_56 < 23520 ∧ (x_48 + 3) = nI k_56 ∧ ∃ k_57 : Nat, k_57 < 23520 ∧ (40 + (M_45 1 k_55)) = nI k_57 ∧ ∀ M_58 : ST, M_58 = x_st M_45 1 k_57 (M_45 1 k_56) → ∀ x_59 : Int32, x_59 = y_44 + 1 → lp_X9_aTick_2  post K_ n_46 x_59 M_58))))))
def v_X9_aTick (M : ST) (post : ST → Prop) : Prop := (∃ n_60 : Nat, lp_X9_aTick_2  post (fun (y_2 : Int32) (M_3 : ST) => (((¬ ((M_3 1 20) = (M_3 1 0))) → v_X9_fetches M_3 (fun (u_5 : ST) => ((((u_5 1 0) ≤ (u_5 1 20)) → v_X9_signalsNow u_5 (fun r_7 => ∃ k_8 : Nat, k_8 < 23520 ∧ (220 + ((u_5 1 23) - (u_5 1 23) / 512 * 512)) = nI k_8 ∧ ∀ M_9 : ST, M_9 = x_st u_5 1 k_8 r_7 → v_X9_goesOn M_9 (fun (u_10 : ST) => ∀ M_11 : ST, M_11 = x_st u_10 1 23 ((u_10 1 23) + 1) → post M_11))) ∧ ((¬ ((u_5 1 0) ≤ (u_5 1 20))) → ((((u_5 1 4) ≤ (u_5 1 21)) → v_X9_signalsNow u_5 (fun r_13 => ∃ k_14 : Nat, k_14 < 23520 ∧ (220 + ((u_5 1 23) - (u_5 1 23) / 512 * 512)) = nI k_14 ∧ ∀ M_15 : ST, M_15 = x_st u_5 1 k_14 r_13 → v_X9_goesOn M_15 (fun (u_16 : ST) => ∀ M_17 : ST, M_17 = x_st u_16 1 23 ((u_16 1 23) + 1) → post M_17))) ∧ ((¬ ((u_5 1 4) ≤ (u_5 1 21))) → v_X9_dots u_5 (fun (u_18 : ST) => v_X9_signalsNow u_18 (fun r_19 => ∃ k_20 : Nat, k_20 < 23520 ∧ (220 + ((u_18 1 23) - (u_18 1 23) / 512 * 512)) = nI k_20 ∧ ∀ M_21 : ST, M_21 = x_st u_18 1 k_20 r_19 → v_X9_goesOn M_21 (fun (u_22 : ST) => ∀ M_23 : ST, M_23 = x_st u_22 1 23 ((u_22 1 23) + 1) → post M_23))))))))) ∧ (((M_3 1 20) = (M_3 1 0)) → v_X9_begins M_3 (fun (u_24 : ST) => v_X9_fetches u_24 (fun (u_25 : ST) => ((((u_25 1 0) ≤ (u_25 1 20)) → v_X9_signalsNow u_25 (fun r_27 => ∃ k_28 : Nat, k_28 < 23520 ∧ (220 + ((u_25 1 23) - (u_25 1 23) / 512 * 512)) = nI k_28 ∧ ∀ M_29 : ST, M_29 = x_st u_25 1 k_28 r_27 → v_X9_goesOn M_29 (fun (u_30 : ST) => ∀ M_31 : ST, M_31 = x_st u_30 1 23 ((u_30 1 23) + 1) → post M_31))) ∧ ((¬ ((u_25 1 0) ≤ (u_25 1 20))) → ((((u_25 1 4) ≤ (u_25 1 21)) → v_X9_signalsNow u_25 (fun r_33 => ∃ k_34 : Nat, k_34 < 23520 ∧ (220 + ((u_25 1 23) - (u_25 1 23) / 512 * 512)) = nI k_34 ∧ ∀ M_35 : ST, M_35 = x_st u_25 1 k_34 r_33 → v_X9_goesOn M_35 (fun (u_36 : ST) => ∀ M_37 : ST, M_37 = x_st u_36 1 23 ((u_36 1 23) + 1) → post M_37))) ∧ ((¬ ((u_25 1 4) ≤ (u_25 1 21))) → v_X9_dots u_25 (fun (u_38 : ST) => v_X9_signalsNow u_38 (fun r_39 => ∃ k_40 : Nat, k_40 < 23520 ∧ (220 + ((u_38 1 23) - (u_38 1 23) / 512 * 512)) = nI k_40 ∧ ∀ M_41 : ST, M_41 = x_st u_38 1 k_40 r_39 → v_X9_goesOn M_41 (fun (u_42 : ST) => ∀ M_43 : ST, M_43 = x_st u_42 1 23 ((u_42 1 23) + 1) → post M_43)))))))))))) n_60 0 M)
set_option maxHeartbeats 4000000 in
set_option maxRecDepth 100000 in
theorem c_X9_aTick (l : Launch) (D : va_G) (cT : Nat → ClassId) (a : Nat → Nat) (M : ST) (sz : Nat) (post : ST → Prop) (hv : v_X9_aTick M post) : Met l yX9_aTick wsX9_aTick ({ frames := 3, cells := 0, slots := 0, locals := 74 }) (va_Pc [.ref (a 0)] (x_U D cT ((w_Model cT a M)) sz)) (va_Qv post (fun u t => x_B D cT ((w_Model cT a u)) (va_A ((w_Model cT a M)) sz) t) (va_A ((w_Model cT a M)) sz)) 0 0 (va_A ((w_Model cT a M)) sz) := by
  refine Met.ofW (cc := cX9_aTick) (maxL := 3) (ret := none) (by decide) rfl ?_
  intro p e s m args below meth c s₁ B hml hpre
  obtain ⟨rfl, hsz, hP, hK, hD0, hN⟩ := hpre
  have hx := B.exec
  have hb := B.bytes
  have hr := B.returns
  have hts := atoms_spec (ws := wsX9_aTick) B.pre
  have hown : s.vm.findClass RX9 = some m.cls := findClass_of_methodNamed B.named
  have hlocks := B.notSynchronized
  subst hsz
  have hD := hD0.self (sz := s.heap.size)
  generalize hAe : va_A ((w_Model cT a M)) s.heap.size = A at hD hN ⊢
  have hA : ∀ q : Nat, s.heap.size ≤ q → A q := fun q h => by rw [← hAe]; exact Or.inr h
  have hS : va_S A s.heap s.heap [] := va_S.rf
  have hl := lv_entry ([.ref (a 0)]) (n := 3) (Nat.le_of_ble_eq_true rfl)
  rw [lg_entry_eq]
  generalize (lg_sl ([.ref (a 0)]) ++ List.replicate (3 - (lg_sl ([.ref (a 0)])).length) Slot.unset).toArray = ls at hl ⊢
  have hl : lv_has ls 3 [(0, .ref (a 0))] := hl
  have in_X9 : ∀ w ∈ wsX90, w ∈ wsX9_aTick := by decide +kernel
  have kf_7 : (Cond.fieldLink RX9 7 "PictureBeatsModel" "all" "[I").before ([.ref (a 0)] : List Value).toArray s = true := hts _ (by decide +kernel)
  have w_59 : CallW (headSpec wsX9_aTick ({ frames := 3, cells := 0, slots := 0, locals := 74 })).room s ([.ref (a 0)] : List Value).toArray RX9 RX9 59 yX9_fetches cX9_fetches 2 none wsX9_fetches ({ frames := 1, cells := 0, slots := 0, locals := 20 } : Room) 0 0 0 := cwV 0 hts gX9_aTick_X9_fetches rfl rfl rfl (by decide +kernel) ⟨Nat.le_of_ble_eq_true rfl, Nat.le_of_ble_eq_true rfl⟩
  have w_65 : CallW (headSpec wsX9_aTick ({ frames := 3, cells := 0, slots := 0, locals := 74 })).room s ([.ref (a 0)] : List Value).toArray RX9 RX9 65 yX9_signalsNow cX9_signalsNow 4 (some .int) wsX9_signalsNow ({ frames := 1, cells := 0, slots := 0, locals := 22 } : Room) 0 0 0 := cwV 0 hts gX9_aTick_X9_signalsNow rfl rfl rfl (by decide +kernel) ⟨Nat.le_of_ble_eq_true rfl, Nat.le_of_ble_eq_true rfl⟩
  have w_68 : CallW (headSpec wsX9_aTick ({ frames := 3, cells := 0, slots := 0, locals := 74 })).room s ([.ref (a 0)] : List Value).toArray RX9 RX9 68 yX9_goesOn cX9_goesOn 2 none wsX9_goesOn ({ frames := 1, cells := 0, slots := 0, locals := 21 } : Room) 0 0 0 := cwV 0 hts gX9_aTick_X9_goesOn rfl rfl rfl (by decide +kernel) ⟨Nat.le_of_ble_eq_true rfl, Nat.le_of_ble_eq_true rfl⟩
  have w_62 : CallW (headSpec wsX9_aTick ({ frames := 3, cells := 0, slots := 0, locals := 74 })).room s ([.ref (a 0)] : List Value).toArray RX9 RX9 62 yX9_dots cX9_dots 8 none wsX9_dots ({ frames := 2, cells := 0, slots := 0, locals := 47 } : Room) 0 0 0 := cwV 0 hts gX9_aTick_X9_dots rfl rfl rfl (by decide +kernel) ⟨Nat.le_of_ble_eq_true rfl, Nat.le_of_ble_eq_true rfl⟩
  have w_56 : CallW (headSpec wsX9_aTick ({ frames := 3, cells := 0, slots := 0, locals := 74 })).room s ([.ref (a 0)] : List Value).toArray RX9 RX9 56 yX9_begins cX9_begins 4 none wsX9_begins ({ frames := 1, cells := 0, slots := 0, locals := 22 } : Room) 0 0 0 := cwV 0 hts gX9_aTick_X9_begins rfl rfl rfl (by decide +kernel) ⟨Nat.le_of_ble_eq_true rfl, Nat.le_of_ble_eq_true rfl⟩
  refine lv_iconst (v := 0) hx hb dX9_aTick_0 (by decide) ?_
  refine lv_istore_n (lv' := [(1, .int 0), (0, .ref (a 0))]) hx hb dX9_aTick_1 rfl hl (by decide) rfl (fun ls hl => ?_)
  obtain ⟨n_60, hv⟩ := hv
  have K_L_1 : ∀ (y_2 : Int32) (M_3 : ST), ((((¬ ((M_3 1 20) = (M_3 1 0))) → v_X9_fetches M_3 (fun (u_5 : ST) => ((((u_5 1 0) ≤ (u_5 1 20)) → v_X9_signalsNow u_5 (fun r_7 => ∃ k_8 : Nat, k_8 < 23520 ∧ (220 + ((u_5 1 23) - (u_5 1 23) / 512 * 512)) = nI k_8 ∧ ∀ M_9 : ST, M_9 = x_st u_5 1 k_8 r_7 → v_X9_goesOn M_9 (fun (u_10 : ST) => ∀ M_11 : ST, M_11 = x_st u_10 1 23 ((u_10 1 23) + 1) → post M_11))) ∧ ((¬ ((u_5 1 0) ≤ (u_5 1 20))) → ((((u_5 1 4) ≤ (u_5 1 21)) → v_X9_signalsNow u_5 (fun r_13 => ∃ k_14 : Nat, k_14 < 23520 ∧ (220 + ((u_5 1 23) - (u_5 1 23) / 512 * 512)) = nI k_14 ∧ ∀ M_15 : ST, M_15 = x_st u_5 1 k_14 r_13 → v_X9_goesOn M_15 (fun (u_16 : ST) => ∀ M_17 : ST, M_17 = x_st u_16 1 23 ((u_16 1 23) + 1) → post M_17))) ∧ ((¬ ((u_5 1 4) ≤ (u_5 1 21))) → v_X9_dots u_5 (fun (u_18 : ST) => v_X9_signalsNow u_18 (fun r_19 => ∃ k_20 : Nat, k_20 < 23520 ∧ (220 + ((u_18 1 23) - (u_18 1 23) / 512 * 512)) = nI k_20 ∧ ∀ M_21 : ST, M_21 = x_st u_18 1 k_20 r_19 → v_X9_goesOn M_21 (fun (u_22 : ST) => ∀ M_23 : ST, M_23 = x_st u_22 1 23 ((u_22 1 23) + 1) → post M_23))))))))) ∧ (((M_3 1 20) = (M_3 1 0)) → v_X9_begins M_3 (fun (u_24 : ST) => v_X9_fetches u_24 (fun (u_25 : ST) => ((((u_25 1 0) ≤ (u_25 1 20)) → v_X9_signalsNow u_25 (fun r_27 => ∃ k_28 : Nat, k_28 < 23520 ∧ (220 + ((u_25 1 23) - (u_25 1 23) / 512 * 512)) = nI k_28 ∧ ∀ M_29 : ST, M_29 = x_st u_25 1 k_28 r_27 → v_X9_goesOn M_29 (fun (u_30 : ST) => ∀ M_31 : ST, M_31 = x_st u_30 1 23 ((u_30 1 23) + 1) → post M_31))) ∧ ((¬ ((u_25 1 0) ≤ (u_25 1 20))) → ((((u_25 1 4) ≤ (u_25 1 21)) → v_X9_signalsNow u_25 (fun r_33 => ∃ k_34 : Nat, k_34 < 23520 ∧ (220 + ((u_25 1 23) - (u_25 1 23) / 512 * 512)) = nI k_34 ∧ ∀ M_35 : ST, M_35 = x_st u_25 1 k_34 r_33 → v_X9_goesOn M_35 (fun (u_36 : ST) => ∀ M_37 : ST, M_37 = x_st u_36 1 23 ((u_36 1 23) + 1) → post M_37))) ∧ ((¬ ((u_25 1 4) ≤ (u_25 1 21))) → v_X9_dots u_25 (fun (u_38 : ST) => v_X9_signalsNow u_38 (fun r_39 => ∃ k_40 : Nat, k_40 < 23520 ∧ (220 + ((u_38 1 23) - (u_38 1 23) / 512 * 512)) = nI k_40 ∧ ∀ M_41 : ST, M_41 = x_st u_38 1 k_40 r_39 → v_X9_goesOn M_41 (fun (u_42 : ST) => ∀ M_43 : ST, M_43 = x_st u_42 1 23 ((u_42 1 23) + 1) → post M_43)))))))))))) → ∀ (H : Heap) (locs : List Loc), va_P D vwCl ((w_Model cT a M_3)) H → va_D A ((w_Model cT a M_3)) → va_S A s.heap H locs → ∀ ls : Array Slot, lv_has ls 3 [(1, .int y_2), (0, .ref (a 0))] → W p l e (headSpec wsX9_aTick ({ frames := 3, cells := 0, slots := 0, locals := 74 })).room s m ([.ref (a 0)] : List Value).toArray below meth c H locs 0 0 (MQ below (va_Qv post (fun u t => x_B D cT ((w_Model cT a u)) A t) A) ([.ref (a 0)] : List Value).toArray s 0 0 A) (F0 m 84 ls []) := by
    intro y_2 M_3 hv H locs hP hD hS ls hl
    refine lv_aload_n hx hb dX9_aTick_84 rfl (lv_at hl 1 rfl) ?_
    refine va_get (D := D) (ci := 9) (v := .ref (a 1)) (C := RX9) (T := TX9) (N := 2) hx hb hts in_X9 hown hK hP 0 rfl rfl 0 (by decide) kf_7 (fun _ h9 => h9) rfl dX9_aTick_85 ?_
    refine lv_bipush (v := 20) hx hb dX9_aTick_88 (by decide) ?_
    refine x_ald hx hb hK hP 1 0 rfl rfl 20 rfl (by decide) (by decide) dX9_aTick_90 ?_
    refine lv_aload_n hx hb dX9_aTick_91 rfl (lv_at hl 1 rfl) ?_
    refine va_get (D := D) (ci := 9) (v := .ref (a 1)) (C := RX9) (T := TX9) (N := 2) hx hb hts in_X9 hown hK hP 0 rfl rfl 0 (by decide) kf_7 (fun _ h9 => h9) rfl dX9_aTick_92 ?_
    refine lv_iconst (v := 0) hx hb dX9_aTick_95 (by decide) ?_
    refine x_ald hx hb hK hP 1 0 rfl rfl 0 rfl (by decide) (by decide) dX9_aTick_96 ?_
    refine lv_icmp_ne (tgt := 104) hx hb dX9_aTick_97 (by decide) (fun c_4 => ?_) (fun c_4 => ?_)
    · have hv := hv.1 c_4
      refine lv_aload_n hx hb dX9_aTick_104 rfl (lv_at hl 1 rfl) ?_
      refine x_cVv (As := []) (rest := []) (wn := fun u_5 => (w_Model cT a u_5)) ⟨hx, hb, hml, hown, hts⟩ (c_X9_fetches l D cT a M_3 _ _ hv) w_59 hK hP hD hS hA hN [0, 1, 2] [] [0, 1, 2] rfl rfl (fun _ => rfl) (by decide) (by decide) (by decide) (by decide) 9 0 rfl rfl rfl hl.1 rfl (Nat.le_of_ble_eq_true rfl) dX9_aTick_105 ⟨Nat.le_of_ble_eq_true rfl, Nat.le_of_ble_eq_true rfl⟩ (fun u_5 H locs hv hP hD hS => ?_)
      refine lv_aload_n hx hb dX9_aTick_108 rfl (lv_at hl 1 rfl) ?_
      refine va_get (D := D) (ci := 9) (v := .ref (a 1)) (C := RX9) (T := TX9) (N := 2) hx hb hts in_X9 hown hK hP 0 rfl rfl 0 (by decide) kf_7 (fun _ h9 => h9) rfl dX9_aTick_109 ?_
      refine lv_bipush (v := 20) hx hb dX9_aTick_112 (by decide) ?_
      refine x_ald hx hb hK hP 1 0 rfl rfl 20 rfl (by decide) (by decide) dX9_aTick_114 ?_
      refine lv_aload_n hx hb dX9_aTick_115 rfl (lv_at hl 1 rfl) ?_
      refine va_get (D := D) (ci := 9) (v := .ref (a 1)) (C := RX9) (T := TX9) (N := 2) hx hb hts in_X9 hown hK hP 0 rfl rfl 0 (by decide) kf_7 (fun _ h9 => h9) rfl dX9_aTick_116 ?_
      refine lv_iconst (v := 0) hx hb dX9_aTick_119 (by decide) ?_
      refine x_ald hx hb hK hP 1 0 rfl rfl 0 rfl (by decide) (by decide) dX9_aTick_120 ?_
      refine lv_icmp_ge (tgt := 144) hx hb dX9_aTick_121 (by decide) (fun c_6 => ?_) (fun c_6 => ?_)
      · have hv := hv.1 c_6
        refine lv_aload_n hx hb dX9_aTick_144 rfl (lv_at hl 1 rfl) ?_
        refine va_get (D := D) (ci := 9) (v := .ref (a 1)) (C := RX9) (T := TX9) (N := 2) hx hb hts in_X9 hown hK hP 0 rfl rfl 0 (by decide) kf_7 (fun _ h9 => h9) rfl dX9_aTick_145 ?_
        refine lv_sipush (v := 220) hx hb dX9_aTick_148 (by decide) ?_
        refine lv_aload_n hx hb dX9_aTick_151 rfl (lv_at hl 1 rfl) ?_
        refine va_get (D := D) (ci := 9) (v := .ref (a 1)) (C := RX9) (T := TX9) (N := 2) hx hb hts in_X9 hown hK hP 0 rfl rfl 0 (by decide) kf_7 (fun _ h9 => h9) rfl dX9_aTick_152 ?_
        refine lv_bipush (v := 23) hx hb dX9_aTick_155 (by decide) ?_
        refine x_ald hx hb hK hP 1 0 rfl rfl 23 rfl (by decide) (by decide) dX9_aTick_157 ?_
        refine lv_sipush (v := 512) hx hb dX9_aTick_158 (by decide) ?_
        refine lv_irem hx hb dX9_aTick_161 (by decide) ?_
        refine lv_iadd hx hb dX9_aTick_162 ?_
        refine lv_aload_n hx hb dX9_aTick_163 rfl (lv_at hl 1 rfl) ?_
        refine x_rV (As := []) (rest := [.int (220 + ((u_5 1 23) - (u_5 1 23) / 512 * 512)), .ref (a 1)]) ⟨hx, hb, hml, hown, hts⟩ (c_X9_signalsNow l D cT a u_5 _ hv) w_65 hK hP hS hN [0, 1, 2] rfl 9 0 rfl rfl rfl hl.1 rfl (Nat.le_of_ble_eq_true rfl) dX9_aTick_164 ⟨Nat.le_of_ble_eq_true rfl, Nat.le_of_ble_eq_true rfl⟩ (fun r_7 hv => ?_)
        obtain ⟨k_8, hk_8, ik_8, hv⟩ := hv
        refine x_ast hx hb hK hP hD hS 1 0 rfl rfl k_8 ik_8 hk_8 (by decide) dX9_aTick_167 (fun H locs hP hD hS => ?_)
        obtain ⟨M_9, eM_9⟩ : ∃ z : ST, z = x_st u_5 1 k_8 r_7 := ⟨_, rfl⟩
        have hP : va_P D vwCl ((w_Model cT a M_9)) H := by rw [eM_9]; exact hP
        have hD : va_D A ((w_Model cT a M_9)) := by rw [eM_9]; exact hD
        have hv := hv M_9 eM_9
        refine lv_aload_n hx hb dX9_aTick_168 rfl (lv_at hl 1 rfl) ?_
        refine x_cVv (As := []) (rest := []) (wn := fun u_10 => (w_Model cT a u_10)) ⟨hx, hb, hml, hown, hts⟩ (c_X9_goesOn l D cT a M_9 _ _ hv) w_68 hK hP hD hS hA hN [0, 1, 2] [] [0, 1, 2] rfl rfl (fun _ => rfl) (by decide) (by decide) (by decide) (by decide) 9 0 rfl rfl rfl hl.1 rfl (Nat.le_of_ble_eq_true rfl) dX9_aTick_169 ⟨Nat.le_of_ble_eq_true rfl, Nat.le_of_ble_eq_true rfl⟩ (fun u_10 H locs hv hP hD hS => ?_)
        refine lv_aload_n hx hb dX9_aTick_172 rfl (lv_at hl 1 rfl) ?_
        refine va_get (D := D) (ci := 9) (v := .ref (a 1)) (C := RX9) (T := TX9) (N := 2) hx hb hts in_X9 hown hK hP 0 rfl rfl 0 (by decide) kf_7 (fun _ h9 => h9) rfl dX9_aTick_173 ?_
        refine lv_bipush (v := 23) hx hb dX9_aTick_176 (by decide) ?_
        refine lv_dup2_11 hx hb dX9_aTick_178 rfl rfl ?_
        refine x_ald hx hb hK hP 1 0 rfl rfl 23 rfl (by decide) (by decide) dX9_aTick_179 ?_
        refine lv_iconst (v := 1) hx hb dX9_aTick_180 (by decide) ?_
        refine lv_iadd hx hb dX9_aTick_181 ?_
        refine x_ast hx hb hK hP hD hS 1 0 rfl rfl 23 rfl (by decide) (by decide) dX9_aTick_182 (fun H locs hP hD hS => ?_)
        obtain ⟨M_11, eM_11⟩ : ∃ z : ST, z = x_st u_10 1 23 ((u_10 1 23) + 1) := ⟨_, rfl⟩
        have hP : va_P D vwCl ((w_Model cT a M_11)) H := by rw [eM_11]; exact hP
        have hD : va_D A ((w_Model cT a M_11)) := by rw [eM_11]; exact hD
        have hv := hv M_11 eM_11
        exact W.vret hx hb hr (fun t ht hW => ⟨⟨M_11, rfl, hv, by rw [ht]; exact hP, va_K.moved hW.alike hK, hD⟩, hS.F ht⟩) hS.2.2 dX9_aTick_183
      · have hv := hv.2 c_6
        refine lv_aload_n hx hb dX9_aTick_124 rfl (lv_at hl 1 rfl) ?_
        refine va_get (D := D) (ci := 9) (v := .ref (a 1)) (C := RX9) (T := TX9) (N := 2) hx hb hts in_X9 hown hK hP 0 rfl rfl 0 (by decide) kf_7 (fun _ h9 => h9) rfl dX9_aTick_125 ?_
        refine lv_bipush (v := 21) hx hb dX9_aTick_128 (by decide) ?_
        refine x_ald hx hb hK hP 1 0 rfl rfl 21 rfl (by decide) (by decide) dX9_aTick_130 ?_
        refine lv_aload_n hx hb dX9_aTick_131 rfl (lv_at hl 1 rfl) ?_
        refine va_get (D := D) (ci := 9) (v := .ref (a 1)) (C := RX9) (T := TX9) (N := 2) hx hb hts in_X9 hown hK hP 0 rfl rfl 0 (by decide) kf_7 (fun _ h9 => h9) rfl dX9_aTick_132 ?_
        refine lv_iconst (v := 4) hx hb dX9_aTick_135 (by decide) ?_
        refine x_ald hx hb hK hP 1 0 rfl rfl 4 rfl (by decide) (by decide) dX9_aTick_136 ?_
        refine lv_icmp_ge (tgt := 144) hx hb dX9_aTick_137 (by decide) (fun c_12 => ?_) (fun c_12 => ?_)
        · have hv := hv.1 c_12
          refine lv_aload_n hx hb dX9_aTick_144 rfl (lv_at hl 1 rfl) ?_
          refine va_get (D := D) (ci := 9) (v := .ref (a 1)) (C := RX9) (T := TX9) (N := 2) hx hb hts in_X9 hown hK hP 0 rfl rfl 0 (by decide) kf_7 (fun _ h9 => h9) rfl dX9_aTick_145 ?_
          refine lv_sipush (v := 220) hx hb dX9_aTick_148 (by decide) ?_
          refine lv_aload_n hx hb dX9_aTick_151 rfl (lv_at hl 1 rfl) ?_
          refine va_get (D := D) (ci := 9) (v := .ref (a 1)) (C := RX9) (T := TX9) (N := 2) hx hb hts in_X9 hown hK hP 0 rfl rfl 0 (by decide) kf_7 (fun _ h9 => h9) rfl dX9_aTick_152 ?_
          refine lv_bipush (v := 23) hx hb dX9_aTick_155 (by decide) ?_
          refine x_ald hx hb hK hP 1 0 rfl rfl 23 rfl (by decide) (by decide) dX9_aTick_157 ?_
          refine lv_sipush (v := 512) hx hb dX9_aTick_158 (by decide) ?_
          refine lv_irem hx hb dX9_aTick_161 (by decide) ?_
          refine lv_iadd hx hb dX9_aTick_162 ?_
          refine lv_aload_n hx hb dX9_aTick_163 rfl (lv_at hl 1 rfl) ?_
          refine x_rV (As := []) (rest := [.int (220 + ((u_5 1 23) - (u_5 1 23) / 512 * 512)), .ref (a 1)]) ⟨hx, hb, hml, hown, hts⟩ (c_X9_signalsNow l D cT a u_5 _ hv) w_65 hK hP hS hN [0, 1, 2] rfl 9 0 rfl rfl rfl hl.1 rfl (Nat.le_of_ble_eq_true rfl) dX9_aTick_164 ⟨Nat.le_of_ble_eq_true rfl, Nat.le_of_ble_eq_true rfl⟩ (fun r_13 hv => ?_)
          obtain ⟨k_14, hk_14, ik_14, hv⟩ := hv
          refine x_ast hx hb hK hP hD hS 1 0 rfl rfl k_14 ik_14 hk_14 (by decide) dX9_aTick_167 (fun H locs hP hD hS => ?_)
          obtain ⟨M_15, eM_15⟩ : ∃ z : ST, z = x_st u_5 1 k_14 r_13 := ⟨_, rfl⟩
          have hP : va_P D vwCl ((w_Model cT a M_15)) H := by rw [eM_15]; exact hP
          have hD : va_D A ((w_Model cT a M_15)) := by rw [eM_15]; exact hD
          have hv := hv M_15 eM_15
          refine lv_aload_n hx hb dX9_aTick_168 rfl (lv_at hl 1 rfl) ?_
          refine x_cVv (As := []) (rest := []) (wn := fun u_16 => (w_Model cT a u_16)) ⟨hx, hb, hml, hown, hts⟩ (c_X9_goesOn l D cT a M_15 _ _ hv) w_68 hK hP hD hS hA hN [0, 1, 2] [] [0, 1, 2] rfl rfl (fun _ => rfl) (by decide) (by decide) (by decide) (by decide) 9 0 rfl rfl rfl hl.1 rfl (Nat.le_of_ble_eq_true rfl) dX9_aTick_169 ⟨Nat.le_of_ble_eq_true rfl, Nat.le_of_ble_eq_true rfl⟩ (fun u_16 H locs hv hP hD hS => ?_)
          refine lv_aload_n hx hb dX9_aTick_172 rfl (lv_at hl 1 rfl) ?_
          refine va_get (D := D) (ci := 9) (v := .ref (a 1)) (C := RX9) (T := TX9) (N := 2) hx hb hts in_X9 hown hK hP 0 rfl rfl 0 (by decide) kf_7 (fun _ h9 => h9) rfl dX9_aTick_173 ?_
          refine lv_bipush (v := 23) hx hb dX9_aTick_176 (by decide) ?_
          refine lv_dup2_11 hx hb dX9_aTick_178 rfl rfl ?_
          refine x_ald hx hb hK hP 1 0 rfl rfl 23 rfl (by decide) (by decide) dX9_aTick_179 ?_
          refine lv_iconst (v := 1) hx hb dX9_aTick_180 (by decide) ?_
          refine lv_iadd hx hb dX9_aTick_181 ?_
          refine x_ast hx hb hK hP hD hS 1 0 rfl rfl 23 rfl (by decide) (by decide) dX9_aTick_182 (fun H locs hP hD hS => ?_)
          obtain ⟨M_17, eM_17⟩ : ∃ z : ST, z = x_st u_16 1 23 ((u_16 1 23) + 1) := ⟨_, rfl⟩
          have hP : va_P D vwCl ((w_Model cT a M_17)) H := by rw [eM_17]; exact hP
          have hD : va_D A ((w_Model cT a M_17)) := by rw [eM_17]; exact hD
          have hv := hv M_17 eM_17
          exact W.vret hx hb hr (fun t ht hW => ⟨⟨M_17, rfl, hv, by rw [ht]; exact hP, va_K.moved hW.alike hK, hD⟩, hS.F ht⟩) hS.2.2 dX9_aTick_183
        · have hv := hv.2 c_12
          refine lv_aload_n hx hb dX9_aTick_140 rfl (lv_at hl 1 rfl) ?_
          refine x_cVv (As := []) (rest := []) (wn := fun u_18 => (w_Model cT a u_18)) ⟨hx, hb, hml, hown, hts⟩ (c_X9_dots l D cT a u_5 _ _ hv) w_62 hK hP hD hS hA hN [0, 1, 2] [] [0, 1, 2] rfl rfl (fun _ => rfl) (by decide) (by decide) (by decide) (by decide) 9 0 rfl rfl rfl hl.1 rfl (Nat.le_of_ble_eq_true rfl) dX9_aTick_141 ⟨Nat.le_of_ble_eq_true rfl, Nat.le_of_ble_eq_true rfl⟩ (fun u_18 H locs hv hP hD hS => ?_)
          refine lv_aload_n hx hb dX9_aTick_144 rfl (lv_at hl 1 rfl) ?_
          refine va_get (D := D) (ci := 9) (v := .ref (a 1)) (C := RX9) (T := TX9) (N := 2) hx hb hts in_X9 hown hK hP 0 rfl rfl 0 (by decide) kf_7 (fun _ h9 => h9) rfl dX9_aTick_145 ?_
          refine lv_sipush (v := 220) hx hb dX9_aTick_148 (by decide) ?_
          refine lv_aload_n hx hb dX9_aTick_151 rfl (lv_at hl 1 rfl) ?_
          refine va_get (D := D) (ci := 9) (v := .ref (a 1)) (C := RX9) (T := TX9) (N := 2) hx hb hts in_X9 hown hK hP 0 rfl rfl 0 (by decide) kf_7 (fun _ h9 => h9) rfl dX9_aTick_152 ?_
          refine lv_bipush (v := 23) hx hb dX9_aTick_155 (by decide) ?_
          refine x_ald hx hb hK hP 1 0 rfl rfl 23 rfl (by decide) (by decide) dX9_aTick_157 ?_
          refine lv_sipush (v := 512) hx hb dX9_aTick_158 (by decide) ?_
          refine lv_irem hx hb dX9_aTick_161 (by decide) ?_
          refine lv_iadd hx hb dX9_aTick_162 ?_
          refine lv_aload_n hx hb dX9_aTick_163 rfl (lv_at hl 1 rfl) ?_
          refine x_rV (As := []) (rest := [.int (220 + ((u_18 1 23) - (u_18 1 23) / 512 * 512)), .ref (a 1)]) ⟨hx, hb, hml, hown, hts⟩ (c_X9_signalsNow l D cT a u_18 _ hv) w_65 hK hP hS hN [0, 1, 2] rfl 9 0 rfl rfl rfl hl.1 rfl (Nat.le_of_ble_eq_true rfl) dX9_aTick_164 ⟨Nat.le_of_ble_eq_true rfl, Nat.le_of_ble_eq_true rfl⟩ (fun r_19 hv => ?_)
          obtain ⟨k_20, hk_20, ik_20, hv⟩ := hv
          refine x_ast hx hb hK hP hD hS 1 0 rfl rfl k_20 ik_20 hk_20 (by decide) dX9_aTick_167 (fun H locs hP hD hS => ?_)
          obtain ⟨M_21, eM_21⟩ : ∃ z : ST, z = x_st u_18 1 k_20 r_19 := ⟨_, rfl⟩
          have hP : va_P D vwCl ((w_Model cT a M_21)) H := by rw [eM_21]; exact hP
          have hD : va_D A ((w_Model cT a M_21)) := by rw [eM_21]; exact hD
          have hv := hv M_21 eM_21
          refine lv_aload_n hx hb dX9_aTick_168 rfl (lv_at hl 1 rfl) ?_
          refine x_cVv (As := []) (rest := []) (wn := fun u_22 => (w_Model cT a u_22)) ⟨hx, hb, hml, hown, hts⟩ (c_X9_goesOn l D cT a M_21 _ _ hv) w_68 hK hP hD hS hA hN [0, 1, 2] [] [0, 1, 2] rfl rfl (fun _ => rfl) (by decide) (by decide) (by decide) (by decide) 9 0 rfl rfl rfl hl.1 rfl (Nat.le_of_ble_eq_true rfl) dX9_aTick_169 ⟨Nat.le_of_ble_eq_true rfl, Nat.le_of_ble_eq_true rfl⟩ (fun u_22 H locs hv hP hD hS => ?_)
          refine lv_aload_n hx hb dX9_aTick_172 rfl (lv_at hl 1 rfl) ?_
          refine va_get (D := D) (ci := 9) (v := .ref (a 1)) (C := RX9) (T := TX9) (N := 2) hx hb hts in_X9 hown hK hP 0 rfl rfl 0 (by decide) kf_7 (fun _ h9 => h9) rfl dX9_aTick_173 ?_
          refine lv_bipush (v := 23) hx hb dX9_aTick_176 (by decide) ?_
          refine lv_dup2_11 hx hb dX9_aTick_178 rfl rfl ?_
          refine x_ald hx hb hK hP 1 0 rfl rfl 23 rfl (by decide) (by decide) dX9_aTick_179 ?_
          refine lv_iconst (v := 1) hx hb dX9_aTick_180 (by decide) ?_
          refine lv_iadd hx hb dX9_aTick_181 ?_
          refine x_ast hx hb hK hP hD hS 1 0 rfl rfl 23 rfl (by decide) (by decide) dX9_aTick_182 (fun H locs hP hD hS => ?_)
          obtain ⟨M_23, eM_23⟩ : ∃ z : ST, z = x_st u_22 1 23 ((u_22 1 23) + 1) := ⟨_, rfl⟩
          have hP : va_P D vwCl ((w_Model cT a M_23)) H := by rw [eM_23]; exact hP
          have hD : va_D A ((w_Model cT a M_23)) := by rw [eM_23]; exact hD
          have hv := hv M_23 eM_23
          exact W.vret hx hb hr (fun t ht hW => ⟨⟨M_23, rfl, hv, by rw [ht]; exact hP, va_K.moved hW.alike hK, hD⟩, hS.F ht⟩) hS.2.2 dX9_aTick_183
    · have hv := hv.2 c_4
      refine lv_aload_n hx hb dX9_aTick_100 rfl (lv_at hl 1 rfl) ?_
      refine x_cVv (As := []) (rest := []) (wn := fun u_24 => (w_Model cT a u_24)) ⟨hx, hb, hml, hown, hts⟩ (c_X9_begins l D cT a M_3 _ _ hv) w_56 hK hP hD hS hA hN [0, 1, 2] [] [0, 1, 2] rfl rfl (fun _ => rfl) (by decide) (by decide) (by decide) (by decide) 9 0 rfl rfl rfl hl.1 rfl (Nat.le_of_ble_eq_true rfl) dX9_aTick_101 ⟨Nat.le_of_ble_eq_true rfl, Nat.le_of_ble_eq_true rfl⟩ (fun u_24 H locs hv hP hD hS => ?_)
      refine lv_aload_n hx hb dX9_aTick_104 rfl (lv_at hl 1 rfl) ?_
      refine x_cVv (As := []) (rest := []) (wn := fun u_25 => (w_Model cT a u_25)) ⟨hx, hb, hml, hown, hts⟩ (c_X9_fetches l D cT a u_24 _ _ hv) w_59 hK hP hD hS hA hN [0, 1, 2] [] [0, 1, 2] rfl rfl (fun _ => rfl) (by decide) (by decide) (by decide) (by decide) 9 0 rfl rfl rfl hl.1 rfl (Nat.le_of_ble_eq_true rfl) dX9_aTick_105 ⟨Nat.le_of_ble_eq_true rfl, Nat.le_of_ble_eq_true rfl⟩ (fun u_25 H locs hv hP hD hS => ?_)
      refine lv_aload_n hx hb dX9_aTick_108 rfl (lv_at hl 1 rfl) ?_
      refine va_get (D := D) (ci := 9) (v := .ref (a 1)) (C := RX9) (T := TX9) (N := 2) hx hb hts in_X9 hown hK hP 0 rfl rfl 0 (by decide) kf_7 (fun _ h9 => h9) rfl dX9_aTick_109 ?_
      refine lv_bipush (v := 20) hx hb dX9_aTick_112 (by decide) ?_
      refine x_ald hx hb hK hP 1 0 rfl rfl 20 rfl (by decide) (by decide) dX9_aTick_114 ?_
      refine lv_aload_n hx hb dX9_aTick_115 rfl (lv_at hl 1 rfl) ?_
      refine va_get (D := D) (ci := 9) (v := .ref (a 1)) (C := RX9) (T := TX9) (N := 2) hx hb hts in_X9 hown hK hP 0 rfl rfl 0 (by decide) kf_7 (fun _ h9 => h9) rfl dX9_aTick_116 ?_
      refine lv_iconst (v := 0) hx hb dX9_aTick_119 (by decide) ?_
      refine x_ald hx hb hK hP 1 0 rfl rfl 0 rfl (by decide) (by decide) dX9_aTick_120 ?_
      refine lv_icmp_ge (tgt := 144) hx hb dX9_aTick_121 (by decide) (fun c_26 => ?_) (fun c_26 => ?_)
      · have hv := hv.1 c_26
        refine lv_aload_n hx hb dX9_aTick_144 rfl (lv_at hl 1 rfl) ?_
        refine va_get (D := D) (ci := 9) (v := .ref (a 1)) (C := RX9) (T := TX9) (N := 2) hx hb hts in_X9 hown hK hP 0 rfl rfl 0 (by decide) kf_7 (fun _ h9 => h9) rfl dX9_aTick_145 ?_
        refine lv_sipush (v := 220) hx hb dX9_aTick_148 (by decide) ?_
        refine lv_aload_n hx hb dX9_aTick_151 rfl (lv_at hl 1 rfl) ?_
        refine va_get (D := D) (ci := 9) (v := .ref (a 1)) (C := RX9) (T := TX9) (N := 2) hx hb hts in_X9 hown hK hP 0 rfl rfl 0 (by decide) kf_7 (fun _ h9 => h9) rfl dX9_aTick_152 ?_
        refine lv_bipush (v := 23) hx hb dX9_aTick_155 (by decide) ?_
        refine x_ald hx hb hK hP 1 0 rfl rfl 23 rfl (by decide) (by decide) dX9_aTick_157 ?_
        refine lv_sipush (v := 512) hx hb dX9_aTick_158 (by decide) ?_
        refine lv_irem hx hb dX9_aTick_161 (by decide) ?_
        refine lv_iadd hx hb dX9_aTick_162 ?_
        refine lv_aload_n hx hb dX9_aTick_163 rfl (lv_at hl 1 rfl) ?_
        refine x_rV (As := []) (rest := [.int (220 + ((u_25 1 23) - (u_25 1 23) / 512 * 512)), .ref (a 1)]) ⟨hx, hb, hml, hown, hts⟩ (c_X9_signalsNow l D cT a u_25 _ hv) w_65 hK hP hS hN [0, 1, 2] rfl 9 0 rfl rfl rfl hl.1 rfl (Nat.le_of_ble_eq_true rfl) dX9_aTick_164 ⟨Nat.le_of_ble_eq_true rfl, Nat.le_of_ble_eq_true rfl⟩ (fun r_27 hv => ?_)
        obtain ⟨k_28, hk_28, ik_28, hv⟩ := hv
        refine x_ast hx hb hK hP hD hS 1 0 rfl rfl k_28 ik_28 hk_28 (by decide) dX9_aTick_167 (fun H locs hP hD hS => ?_)
        obtain ⟨M_29, eM_29⟩ : ∃ z : ST, z = x_st u_25 1 k_28 r_27 := ⟨_, rfl⟩
        have hP : va_P D vwCl ((w_Model cT a M_29)) H := by rw [eM_29]; exact hP
        have hD : va_D A ((w_Model cT a M_29)) := by rw [eM_29]; exact hD
        have hv := hv M_29 eM_29
        refine lv_aload_n hx hb dX9_aTick_168 rfl (lv_at hl 1 rfl) ?_
        refine x_cVv (As := []) (rest := []) (wn := fun u_30 => (w_Model cT a u_30)) ⟨hx, hb, hml, hown, hts⟩ (c_X9_goesOn l D cT a M_29 _ _ hv) w_68 hK hP hD hS hA hN [0, 1, 2] [] [0, 1, 2] rfl rfl (fun _ => rfl) (by decide) (by decide) (by decide) (by decide) 9 0 rfl rfl rfl hl.1 rfl (Nat.le_of_ble_eq_true rfl) dX9_aTick_169 ⟨Nat.le_of_ble_eq_true rfl, Nat.le_of_ble_eq_true rfl⟩ (fun u_30 H locs hv hP hD hS => ?_)
        refine lv_aload_n hx hb dX9_aTick_172 rfl (lv_at hl 1 rfl) ?_
        refine va_get (D := D) (ci := 9) (v := .ref (a 1)) (C := RX9) (T := TX9) (N := 2) hx hb hts in_X9 hown hK hP 0 rfl rfl 0 (by decide) kf_7 (fun _ h9 => h9) rfl dX9_aTick_173 ?_
        refine lv_bipush (v := 23) hx hb dX9_aTick_176 (by decide) ?_
        refine lv_dup2_11 hx hb dX9_aTick_178 rfl rfl ?_
        refine x_ald hx hb hK hP 1 0 rfl rfl 23 rfl (by decide) (by decide) dX9_aTick_179 ?_
        refine lv_iconst (v := 1) hx hb dX9_aTick_180 (by decide) ?_
        refine lv_iadd hx hb dX9_aTick_181 ?_
        refine x_ast hx hb hK hP hD hS 1 0 rfl rfl 23 rfl (by decide) (by decide) dX9_aTick_182 (fun H locs hP hD hS => ?_)
        obtain ⟨M_31, eM_31⟩ : ∃ z : ST, z = x_st u_30 1 23 ((u_30 1 23) + 1) := ⟨_, rfl⟩
        have hP : va_P D vwCl ((w_Model cT a M_31)) H := by rw [eM_31]; exact hP
        have hD : va_D A ((w_Model cT a M_31)) := by rw [eM_31]; exact hD
        have hv := hv M_31 eM_31
        exact W.vret hx hb hr (fun t ht hW => ⟨⟨M_31, rfl, hv, by rw [ht]; exact hP, va_K.moved hW.alike hK, hD⟩, hS.F ht⟩) hS.2.2 dX9_aTick_183
      · have hv := hv.2 c_26
        refine lv_aload_n hx hb dX9_aTick_124 rfl (lv_at hl 1 rfl) ?_
        refine va_get (D := D) (ci := 9) (v := .ref (a 1)) (C := RX9) (T := TX9) (N := 2) hx hb hts in_X9 hown hK hP 0 rfl rfl 0 (by decide) kf_7 (fun _ h9 => h9) rfl dX9_aTick_125 ?_
        refine lv_bipush (v := 21) hx hb dX9_aTick_128 (by decide) ?_
        refine x_ald hx hb hK hP 1 0 rfl rfl 21 rfl (by decide) (by decide) dX9_aTick_130 ?_
        refine lv_aload_n hx hb dX9_aTick_131 rfl (lv_at hl 1 rfl) ?_
        refine va_get (D := D) (ci := 9) (v := .ref (a 1)) (C := RX9) (T := TX9) (N := 2) hx hb hts in_X9 hown hK hP 0 rfl rfl 0 (by decide) kf_7 (fun _ h9 => h9) rfl dX9_aTick_132 ?_
        refine lv_iconst (v := 4) hx hb dX9_aTick_135 (by decide) ?_
        refine x_ald hx hb hK hP 1 0 rfl rfl 4 rfl (by decide) (by decide) dX9_aTick_136 ?_
        refine lv_icmp_ge (tgt := 144) hx hb dX9_aTick_137 (by decide) (fun c_32 => ?_) (fun c_32 => ?_)
        · have hv := hv.1 c_32
          refine lv_aload_n hx hb dX9_aTick_144 rfl (lv_at hl 1 rfl) ?_
          refine va_get (D := D) (ci := 9) (v := .ref (a 1)) (C := RX9) (T := TX9) (N := 2) hx hb hts in_X9 hown hK hP 0 rfl rfl 0 (by decide) kf_7 (fun _ h9 => h9) rfl dX9_aTick_145 ?_
          refine lv_sipush (v := 220) hx hb dX9_aTick_148 (by decide) ?_
          refine lv_aload_n hx hb dX9_aTick_151 rfl (lv_at hl 1 rfl) ?_
          refine va_get (D := D) (ci := 9) (v := .ref (a 1)) (C := RX9) (T := TX9) (N := 2) hx hb hts in_X9 hown hK hP 0 rfl rfl 0 (by decide) kf_7 (fun _ h9 => h9) rfl dX9_aTick_152 ?_
          refine lv_bipush (v := 23) hx hb dX9_aTick_155 (by decide) ?_
          refine x_ald hx hb hK hP 1 0 rfl rfl 23 rfl (by decide) (by decide) dX9_aTick_157 ?_
          refine lv_sipush (v := 512) hx hb dX9_aTick_158 (by decide) ?_
          refine lv_irem hx hb dX9_aTick_161 (by decide) ?_
          refine lv_iadd hx hb dX9_aTick_162 ?_
          refine lv_aload_n hx hb dX9_aTick_163 rfl (lv_at hl 1 rfl) ?_
          refine x_rV (As := []) (rest := [.int (220 + ((u_25 1 23) - (u_25 1 23) / 512 * 512)), .ref (a 1)]) ⟨hx, hb, hml, hown, hts⟩ (c_X9_signalsNow l D cT a u_25 _ hv) w_65 hK hP hS hN [0, 1, 2] rfl 9 0 rfl rfl rfl hl.1 rfl (Nat.le_of_ble_eq_true rfl) dX9_aTick_164 ⟨Nat.le_of_ble_eq_true rfl, Nat.le_of_ble_eq_true rfl⟩ (fun r_33 hv => ?_)
          obtain ⟨k_34, hk_34, ik_34, hv⟩ := hv
          refine x_ast hx hb hK hP hD hS 1 0 rfl rfl k_34 ik_34 hk_34 (by decide) dX9_aTick_167 (fun H locs hP hD hS => ?_)
          obtain ⟨M_35, eM_35⟩ : ∃ z : ST, z = x_st u_25 1 k_34 r_33 := ⟨_, rfl⟩
          have hP : va_P D vwCl ((w_Model cT a M_35)) H := by rw [eM_35]; exact hP
          have hD : va_D A ((w_Model cT a M_35)) := by rw [eM_35]; exact hD
          have hv := hv M_35 eM_35
          refine lv_aload_n hx hb dX9_aTick_168 rfl (lv_at hl 1 rfl) ?_
          refine x_cVv (As := []) (rest := []) (wn := fun u_36 => (w_Model cT a u_36)) ⟨hx, hb, hml, hown, hts⟩ (c_X9_goesOn l D cT a M_35 _ _ hv) w_68 hK hP hD hS hA hN [0, 1, 2] [] [0, 1, 2] rfl rfl (fun _ => rfl) (by decide) (by decide) (by decide) (by decide) 9 0 rfl rfl rfl hl.1 rfl (Nat.le_of_ble_eq_true rfl) dX9_aTick_169 ⟨Nat.le_of_ble_eq_true rfl, Nat.le_of_ble_eq_true rfl⟩ (fun u_36 H locs hv hP hD hS => ?_)
          refine lv_aload_n hx hb dX9_aTick_172 rfl (lv_at hl 1 rfl) ?_
          refine va_get (D := D) (ci := 9) (v := .ref (a 1)) (C := RX9) (T := TX9) (N := 2) hx hb hts in_X9 hown hK hP 0 rfl rfl 0 (by decide) kf_7 (fun _ h9 => h9) rfl dX9_aTick_173 ?_
          refine lv_bipush (v := 23) hx hb dX9_aTick_176 (by decide) ?_
          refine lv_dup2_11 hx hb dX9_aTick_178 rfl rfl ?_
          refine x_ald hx hb hK hP 1 0 rfl rfl 23 rfl (by decide) (by decide) dX9_aTick_179 ?_
          refine lv_iconst (v := 1) hx hb dX9_aTick_180 (by decide) ?_
          refine lv_iadd hx hb dX9_aTick_181 ?_
          refine x_ast hx hb hK hP hD hS 1 0 rfl rfl 23 rfl (by decide) (by decide) dX9_aTick_182 (fun H locs hP hD hS => ?_)
          obtain ⟨M_37, eM_37⟩ : ∃ z : ST, z = x_st u_36 1 23 ((u_36 1 23) + 1) := ⟨_, rfl⟩
          have hP : va_P D vwCl ((w_Model cT a M_37)) H := by rw [eM_37]; exact hP
          have hD : va_D A ((w_Model cT a M_37)) := by rw [eM_37]; exact hD
          have hv := hv M_37 eM_37
          exact W.vret hx hb hr (fun t ht hW => ⟨⟨M_37, rfl, hv, by rw [ht]; exact hP, va_K.moved hW.alike hK, hD⟩, hS.F ht⟩) hS.2.2 dX9_aTick_183
        · have hv := hv.2 c_32
          refine lv_aload_n hx hb dX9_aTick_140 rfl (lv_at hl 1 rfl) ?_
          refine x_cVv (As := []) (rest := []) (wn := fun u_38 => (w_Model cT a u_38)) ⟨hx, hb, hml, hown, hts⟩ (c_X9_dots l D cT a u_25 _ _ hv) w_62 hK hP hD hS hA hN [0, 1, 2] [] [0, 1, 2] rfl rfl (fun _ => rfl) (by decide) (by decide) (by decide) (by decide) 9 0 rfl rfl rfl hl.1 rfl (Nat.le_of_ble_eq_true rfl) dX9_aTick_141 ⟨Nat.le_of_ble_eq_true rfl, Nat.le_of_ble_eq_true rfl⟩ (fun u_38 H locs hv hP hD hS => ?_)
          refine lv_aload_n hx hb dX9_aTick_144 rfl (lv_at hl 1 rfl) ?_
          refine va_get (D := D) (ci := 9) (v := .ref (a 1)) (C := RX9) (T := TX9) (N := 2) hx hb hts in_X9 hown hK hP 0 rfl rfl 0 (by decide) kf_7 (fun _ h9 => h9) rfl dX9_aTick_145 ?_
          refine lv_sipush (v := 220) hx hb dX9_aTick_148 (by decide) ?_
          refine lv_aload_n hx hb dX9_aTick_151 rfl (lv_at hl 1 rfl) ?_
          refine va_get (D := D) (ci := 9) (v := .ref (a 1)) (C := RX9) (T := TX9) (N := 2) hx hb hts in_X9 hown hK hP 0 rfl rfl 0 (by decide) kf_7 (fun _ h9 => h9) rfl dX9_aTick_152 ?_
          refine lv_bipush (v := 23) hx hb dX9_aTick_155 (by decide) ?_
          refine x_ald hx hb hK hP 1 0 rfl rfl 23 rfl (by decide) (by decide) dX9_aTick_157 ?_
          refine lv_sipush (v := 512) hx hb dX9_aTick_158 (by decide) ?_
          refine lv_irem hx hb dX9_aTick_161 (by decide) ?_
          refine lv_iadd hx hb dX9_aTick_162 ?_
          refine lv_aload_n hx hb dX9_aTick_163 rfl (lv_at hl 1 rfl) ?_
          refine x_rV (As := []) (rest := [.int (220 + ((u_38 1 23) - (u_38 1 23) / 512 * 512)), .ref (a 1)]) ⟨hx, hb, hml, hown, hts⟩ (c_X9_signalsNow l D cT a u_38 _ hv) w_65 hK hP hS hN [0, 1, 2] rfl 9 0 rfl rfl rfl hl.1 rfl (Nat.le_of_ble_eq_true rfl) dX9_aTick_164 ⟨Nat.le_of_ble_eq_true rfl, Nat.le_of_ble_eq_true rfl⟩ (fun r_39 hv => ?_)
          obtain ⟨k_40, hk_40, ik_40, hv⟩ := hv
          refine x_ast hx hb hK hP hD hS 1 0 rfl rfl k_40 ik_40 hk_40 (by decide) dX9_aTick_167 (fun H locs hP hD hS => ?_)
          obtain ⟨M_41, eM_41⟩ : ∃ z : ST, z = x_st u_38 1 k_40 r_39 := ⟨_, rfl⟩
          have hP : va_P D vwCl ((w_Model cT a M_41)) H := by rw [eM_41]; exact hP
          have hD : va_D A ((w_Model cT a M_41)) := by rw [eM_41]; exact hD
          have hv := hv M_41 eM_41
          refine lv_aload_n hx hb dX9_aTick_168 rfl (lv_at hl 1 rfl) ?_
          refine x_cVv (As := []) (rest := []) (wn := fun u_42 => (w_Model cT a u_42)) ⟨hx, hb, hml, hown, hts⟩ (c_X9_goesOn l D cT a M_41 _ _ hv) w_68 hK hP hD hS hA hN [0, 1, 2] [] [0, 1, 2] rfl rfl (fun _ => rfl) (by decide) (by decide) (by decide) (by decide) 9 0 rfl rfl rfl hl.1 rfl (Nat.le_of_ble_eq_true rfl) dX9_aTick_169 ⟨Nat.le_of_ble_eq_true rfl, Nat.le_of_ble_eq_true rfl⟩ (fun u_42 H locs hv hP hD hS => ?_)
          refine lv_aload_n hx hb dX9_aTick_172 rfl (lv_at hl 1 rfl) ?_
          refine va_get (D := D) (ci := 9) (v := .ref (a 1)) (C := RX9) (T := TX9) (N := 2) hx hb hts in_X9 hown hK hP 0 rfl rfl 0 (by decide) kf_7 (fun _ h9 => h9) rfl dX9_aTick_173 ?_
          refine lv_bipush (v := 23) hx hb dX9_aTick_176 (by decide) ?_
          refine lv_dup2_11 hx hb dX9_aTick_178 rfl rfl ?_
          refine x_ald hx hb hK hP 1 0 rfl rfl 23 rfl (by decide) (by decide) dX9_aTick_179 ?_
          refine lv_iconst (v := 1) hx hb dX9_aTick_180 (by decide) ?_
          refine lv_iadd hx hb dX9_aTick_181 ?_
          refine x_ast hx hb hK hP hD hS 1 0 rfl rfl 23 rfl (by decide) (by decide) dX9_aTick_182 (fun H locs hP hD hS => ?_)
          obtain ⟨M_43, eM_43⟩ : ∃ z : ST, z = x_st u_42 1 23 ((u_42 1 23) + 1) := ⟨_, rfl⟩
          have hP : va_P D vwCl ((w_Model cT a M_43)) H := by rw [eM_43]; exact hP
          have hD : va_D A ((w_Model cT a M_43)) := by rw [eM_43]; exact hD
          have hv := hv M_43 eM_43
          exact W.vret hx hb hr (fun t ht hW => ⟨⟨M_43, rfl, hv, by rw [ht]; exact hP, va_K.moved hW.alike hK, hD⟩, hS.F ht⟩) hS.2.2 dX9_aTick_183
  have L_1 : ∀ n_46 : Nat, ∀ (y_44 : Int32) (M_45 : ST), (lp_X9_aTick_2  post (fun (y_2 : Int32) (M_3 : ST) => (((¬ ((M_3 1 20) = (M_3 1 0))) → v_X9_fetches M_3 (fun (u_5 : ST) => ((((u_5 1 0) ≤ (u_5 1 20)) → v_X9_signalsNow u_5 (fun r_7 => ∃ k_8 : Nat, k_8 < 23520 ∧ (220 + ((u_5 1 23) - (u_5 1 23) / 512 * 512)) = nI k_8 ∧ ∀ M_9 : ST, M_9 = x_st u_5 1 k_8 r_7 → v_X9_goesOn M_9 (fun (u_10 : ST) => ∀ M_11 : ST, M_11 = x_st u_10 1 23 ((u_10 1 23) + 1) → post M_11))) ∧ ((¬ ((u_5 1 0) ≤ (u_5 1 20))) → ((((u_5 1 4) ≤ (u_5 1 21)) → v_X9_signalsNow u_5 (fun r_13 => ∃ k_14 : Nat, k_14 < 23520 ∧ (220 + ((u_5 1 23) - (u_5 1 23) / 512 * 512)) = nI k_14 ∧ ∀ M_15 : ST, M_15 = x_st u_5 1 k_14 r_13 → v_X9_goesOn M_15 (fun (u_16 : ST) => ∀ M_17 : ST, M_17 = x_st u_16 1 23 ((u_16 1 23) + 1) → post M_17))) ∧ ((¬ ((u_5 1 4) ≤ (u_5 1 21))) → v_X9_dots u_5 (fun (u_18 : ST) => v_X9_signalsNow u_18 (fun r_19 => ∃ k_20 : Nat, k_20 < 23520 ∧ (220 + ((u_18 1 23) - (u_18 1 23) / 512 * 512)) = nI k_20 ∧ ∀ M_21 : ST, M_21 = x_st u_18 1 k_20 r_19 → v_X9_goesOn M_21 (fun (u_22 : ST) => ∀ M_23 : ST, M_23 = x_st u_22 1 23 ((u_22 1 23) + 1) → post M_23))))))))) ∧ (((M_3 1 20) = (M_3 1 0)) → v_X9_begins M_3 (fun (u_24 : ST) => v_X9_fetches u_24 (fun (u_25 : ST) => ((((u_25 1 0) ≤ (u_25 1 20)) → v_X9_signalsNow u_25 (fun r_27 => ∃ k_28 : Nat, k_28 < 23520 ∧ (220 + ((u_25 1 23) - (u_25 1 23) / 512 * 512)) = nI k_28 ∧ ∀ M_29 : ST, M_29 = x_st u_25 1 k_28 r_27 → v_X9_goesOn M_29 (fun (u_30 : ST) => ∀ M_31 : ST, M_31 = x_st u_30 1 23 ((u_30 1 23) + 1) → post M_31))) ∧ ((¬ ((u_25 1 0) ≤ (u_25 1 20))) → ((((u_25 1 4) ≤ (u_25 1 21)) → v_X9_signalsNow u_25 (fun r_33 => ∃ k_34 : Nat, k_34 < 23520 ∧ (220 + ((u_25 1 23) - (u_25 1 23) / 512 * 512)) = nI k_34 ∧ ∀ M_35 : ST, M_35 = x_st u_25 1 k_34 r_33 → v_X9_goesOn M_35 (fun (u_36 : ST) => ∀ M_37 : ST, M_37 = x_st u_36 1 23 ((u_36 1 23) + 1) → post M_37))) ∧ ((¬ ((u_25 1 4) ≤ (u_25 1 21))) → v_X9_dots u_25 (fun (u_38 : ST) => v_X9_signalsNow u_38 (fun r_39 => ∃ k_40 : Nat, k_40 < 23520 ∧ (220 + ((u_38 1 23) - (u_38 1 23) / 512 * 512)) = nI k_40 ∧ ∀ M_41 : ST, M_41 = x_st u_38 1 k_40 r_39 → v_X9_goesOn M_41 (fun (u_42 : ST) => ∀ M_43 : ST, M_43 = x_st u_42 1 23 ((u_42 1 23) + 1) → post M_43)))))))))))) n_46 y_44 M_45) → ∀ (H : Heap) (locs : List Loc), va_P D vwCl ((w_Model cT a M_45)) H → va_D A ((w_Model cT a M_45)) → va_S A s.heap H locs → ∀ ls : Array Slot, lv_has ls 3 [(1, .int y_44), (0, .ref (a 0))] → W p l e (headSpec wsX9_aTick ({ frames := 3, cells := 0, slots := 0, locals := 74 })).room s m ([.ref (a 0)] : List Value).toArray below meth c H locs 0 0 (MQ below (va_Qv post (fun u t => x_B D cT ((w_Model cT a u)) A t) A) ([.ref (a 0)] : List Value).toArray s 0 0 A) (F0 m 2 ls []) := by
    intro n_46
    induction n_46 with
    | zero =>
      intro y_44 M_45 hv
      exact hv.elim
    | succ n_46 L_1_ih =>
      intro y_44 M_45 hv H locs hP hD hS ls hl
      refine lv_iload_n hx hb dX9_aTick_2 rfl (lv_at hl 0 rfl) ?_
      refine lv_aload_n hx hb dX9_aTick_3 rfl (lv_at hl 1 rfl) ?_
      refine va_get (D := D) (ci := 9) (v := .ref (a 1)) (C := RX9) (T := TX9) (N := 2) hx hb hts in_X9 hown hK hP 0 rfl rfl 0 (by decide) kf_7 (fun _ h9 => h9) rfl dX9_aTick_4 ?_
      refine lv_bipush (v := 36) hx hb dX9_aTick_7 (by decide) ?_
      refine x_ald hx hb hK hP 1 0 rfl rfl 36 rfl (by decide) (by decide) dX9_aTick_9 ?_
      refine lv_icmp_ge (tgt := 84) hx hb dX9_aTick_10 (by decide) (fun c_47 => ?_) (fun c_47 => ?_)
      · have hv := hv.1 c_47
        exact K_L_1 _ _ hv H locs hP hD hS ls (lv_sub hl [0, 1] rfl)
      · have hv := hv.2 c_47
        refine lv_bipush (v := 60) hx hb dX9_aTick_13 (by decide) ?_
        refine lv_iconst (v := 4) hx hb dX9_aTick_15 (by decide) ?_
        refine lv_iload_n hx hb dX9_aTick_16 rfl (lv_at hl 0 rfl) ?_
        refine lv_imul hx hb dX9_aTick_17 ?_
        refine lv_iadd hx hb dX9_aTick_18 ?_
        refine lv_topi (fun x_48 ex_48 => ?_)
        have hv := hv x_48 ex_48
        refine lv_istore_n (lv' := [(2, .int x_48), (1, .int y_44), (0, .ref (a 0))]) hx hb dX9_aTick_19 rfl hl (by decide) rfl (fun ls hl => ?_)
        refine lv_aload_n hx hb dX9_aTick_20 rfl (lv_at hl 2 rfl) ?_
        refine va_get (D := D) (ci := 9) (v := .ref (a 1)) (C := RX9) (T := TX9) (N := 2) hx hb hts in_X9 hown hK hP 0 rfl rfl 0 (by decide) kf_7 (fun _ h9 => h9) rfl dX9_aTick_21 ?_
        refine lv_iload_n hx hb dX9_aTick_24 rfl (lv_at hl 0 rfl) ?_
        obtain ⟨k_49, hk_49, ik_49, hv⟩ := hv
        refine x_ald hx hb hK hP 1 0 rfl rfl k_49 ik_49 hk_49 (by decide) dX9_aTick_25 ?_
        refine lv_aload_n hx hb dX9_aTick_26 rfl (lv_at hl 2 rfl) ?_
        refine va_get (D := D) (ci := 9) (v := .ref (a 1)) (C := RX9) (T := TX9) (N := 2) hx hb hts in_X9 hown hK hP 0 rfl rfl 0 (by decide) kf_7 (fun _ h9 => h9) rfl dX9_aTick_27 ?_
        refine lv_bipush (v := 21) hx hb dX9_aTick_30 (by decide) ?_
        refine x_ald hx hb hK hP 1 0 rfl rfl 21 rfl (by decide) (by decide) dX9_aTick_32 ?_
        refine lv_icmp_ne (tgt := 78) hx hb dX9_aTick_33 (by decide) (fun c_50 => ?_) (fun c_50 => ?_)
        · have hv := hv.1 c_50
          obtain ⟨x_51, ex_51⟩ : ∃ z : Int32, z = y_44 + 1 := ⟨_, rfl⟩
          have hv := hv x_51 ex_51
          refine lv_iinc (v := x_51) (lv' := [(1, .int x_51), (2, .int x_48), (0, .ref (a 0))]) hx hb dX9_aTick_78 hl (k := 1) rfl (by rw [ex_51]; rfl) (by decide) rfl (fun ls hl => ?_)
          refine lv_goto (tgt := 2) hx hb dX9_aTick_81 (by decide) ?_
          exact L_1_ih _ _ hv H locs hP hD hS ls (lv_sub hl [0, 2] rfl)
        · have hv := hv.2 c_50
          refine lv_aload_n hx hb dX9_aTick_36 rfl (lv_at hl 2 rfl) ?_
          refine va_get (D := D) (ci := 9) (v := .ref (a 1)) (C := RX9) (T := TX9) (N := 2) hx hb hts in_X9 hown hK hP 0 rfl rfl 0 (by decide) kf_7 (fun _ h9 => h9) rfl dX9_aTick_37 ?_
          refine lv_iload_n hx hb dX9_aTick_40 rfl (lv_at hl 0 rfl) ?_
          refine lv_iconst (v := 1) hx hb dX9_aTick_41 (by decide) ?_
          refine lv_iadd hx hb dX9_aTick_42 ?_
          obtain ⟨k_52, hk_52, ik_52, hv⟩ := hv
          refine x_ald hx hb hK hP 1 0 rfl rfl k_52 ik_52 hk_52 (by decide) dX9_aTick_43 ?_
          refine lv_aload_n hx hb dX9_aTick_44 rfl (lv_at hl 2 rfl) ?_
          refine va_get (D := D) (ci := 9) (v := .ref (a 1)) (C := RX9) (T := TX9) (N := 2) hx hb hts in_X9 hown hK hP 0 rfl rfl 0 (by decide) kf_7 (fun _ h9 => h9) rfl dX9_aTick_45 ?_
          refine lv_bipush (v := 20) hx hb dX9_aTick_48 (by decide) ?_
          refine x_ald hx hb hK hP 1 0 rfl rfl 20 rfl (by decide) (by decide) dX9_aTick_50 ?_
          refine lv_icmp_ne (tgt := 78) hx hb dX9_aTick_51 (by decide) (fun c_53 => ?_) (fun c_53 => ?_)
          · have hv := hv.1 c_53
            obtain ⟨x_54, ex_54⟩ : ∃ z : Int32, z = y_44 + 1 := ⟨_, rfl⟩
            have hv := hv x_54 ex_54
            refine lv_iinc (v := x_54) (lv' := [(1, .int x_54), (2, .int x_48), (0, .ref (a 0))]) hx hb dX9_aTick_78 hl (k := 1) rfl (by rw [ex_54]; rfl) (by decide) rfl (fun ls hl => ?_)
            refine lv_goto (tgt := 2) hx hb dX9_aTick_81 (by decide) ?_
            exact L_1_ih _ _ hv H locs hP hD hS ls (lv_sub hl [0, 2] rfl)
          · have hv := hv.2 c_53
            refine lv_aload_n hx hb dX9_aTick_54 rfl (lv_at hl 2 rfl) ?_
            refine va_get (D := D) (ci := 9) (v := .ref (a 1)) (C := RX9) (T := TX9) (N := 2) hx hb hts in_X9 hown hK hP 0 rfl rfl 0 (by decide) kf_7 (fun _ h9 => h9) rfl dX9_aTick_55 ?_
            refine lv_bipush (v := 40) hx hb dX9_aTick_58 (by decide) ?_
            refine lv_aload_n hx hb dX9_aTick_60 rfl (lv_at hl 2 rfl) ?_
            refine va_get (D := D) (ci := 9) (v := .ref (a 1)) (C := RX9) (T := TX9) (N := 2) hx hb hts in_X9 hown hK hP 0 rfl rfl 0 (by decide) kf_7 (fun _ h9 => h9) rfl dX9_aTick_61 ?_
            refine lv_iload_n hx hb dX9_aTick_64 rfl (lv_at hl 0 rfl) ?_
            refine lv_iconst (v := 2) hx hb dX9_aTick_65 (by decide) ?_
            refine lv_iadd hx hb dX9_aTick_66 ?_
            obtain ⟨k_55, hk_55, ik_55, hv⟩ := hv
            refine x_ald hx hb hK hP 1 0 rfl rfl k_55 ik_55 hk_55 (by decide) dX9_aTick_67 ?_
            refine lv_iadd hx hb dX9_aTick_68 ?_
            refine lv_aload_n hx hb dX9_aTick_69 rfl (lv_at hl 2 rfl) ?_
            refine va_get (D := D) (ci := 9) (v := .ref (a 1)) (C := RX9) (T := TX9) (N := 2) hx hb hts in_X9 hown hK hP 0 rfl rfl 0 (by decide) kf_7 (fun _ h9 => h9) rfl dX9_aTick_70 ?_
            refine lv_iload_n hx hb dX9_aTick_73 rfl (lv_at hl 0 rfl) ?_
            refine lv_iconst (v := 3) hx hb dX9_aTick_74 (by decide) ?_
            refine lv_iadd hx hb dX9_aTick_75 ?_
            obtain ⟨k_56, hk_56, ik_56, hv⟩ := hv
            refine x_ald hx hb hK hP 1 0 rfl rfl k_56 ik_56 hk_56 (by decide) dX9_aTick_76 ?_
            obtain ⟨k_57, hk_57, ik_57, hv⟩ := hv
            refine x_ast hx hb hK hP hD hS 1 0 rfl rfl k_57 ik_57 hk_57 (by decide) dX9_aTick_77 (fun H locs hP hD hS => ?_)
            obtain ⟨M_58, eM_58⟩ : ∃ z : ST, z = x_st M_45 1 k_57 (M_45 1 k_56) := ⟨_, rfl⟩
            have hP : va_P D vwCl ((w_Model cT a M_58)) H := by rw [eM_58]; exact hP
            have hD : va_D A ((w_Model cT a M_58)) := by rw [eM_58]; exact hD
            have hv := hv M_58 eM_58
            obtain ⟨x_59, ex_59⟩ : ∃ z : Int32, z = y_44 + 1 := ⟨_, rfl⟩
            have hv := hv x_59 ex_59
            refine lv_iinc (v := x_59) (lv' := [(1, .int x_59), (2, .int x_48), (0, .ref (a 0))]) hx hb dX9_aTick_78 hl (k := 1) rfl (by rw [ex_59]; rfl) (by decide) rfl (fun ls hl => ?_)
            refine lv_goto (tgt := 2) hx hb dX9_aTick_81 (by decide) ?_
            exact L_1_ih _ _ hv H locs hP hD hS ls (lv_sub hl [0, 2] rfl)
  exact L_1 n_60 _ _ hv _ _ hP hD hS ls hl
def lp_X9_ticks_29 (p1 : Int32) (post : Int32 → ST → Prop) (K_ : Int32 → ST → Prop) : Nat → Int32 → ST → Prop
  | 0, _, _ => False
  | n_9 + 1, y_7, M_8 => (((p1 ≤ y_7) → K_ y_7 M_8) ∧ ((¬ (p1 ≤ y_7)) → v_X9_aTick M_8 (fun (u_11 : ST) => ∀ x_12 : Int32, x_12 = y_7 + 1 → lp_X9_ticks_29 p1 post K_ n_9 x_12 u_11)))
def v_X9_ticks (M : ST) (p1 : Int32) (post : Int32 → ST → Prop) : Prop := v_X9_isIn p1 1 4000 (fun r_1 => (((r_1 = 0) → post (-1) M) ∧ ((¬ (r_1 = 0)) → (((((M 1 23) + p1) ≤ 1000000) → (∃ n_13 : Nat, lp_X9_ticks_29 p1 post (fun (y_5 : Int32) (M_6 : ST) => post (M_6 1 23) M_6) n_13 0 M)) ∧ ((¬ (((M 1 23) + p1) ≤ 1000000)) → post (-1) M)))))
set_option maxHeartbeats 4000000 in
set_option maxRecDepth 100000 in
theorem c_X9_ticks (l : Launch) (D : va_G) (cT : Nat → ClassId) (a : Nat → Nat) (M : ST) (p1 : Int32) (sz : Nat) (post : Int32 → ST → Prop) (hv : v_X9_ticks M p1 post) : Met l yX9_ticks wsX9_ticks ({ frames := 4, cells := 0, slots := 0, locals := 96 }) (va_Pc [.ref (a 0), .int p1] (x_U D cT ((w_Model cT a M)) sz)) (va_Qi post (fun u t => x_B D cT ((w_Model cT a u)) (va_A ((w_Model cT a M)) sz) t) (va_A ((w_Model cT a M)) sz)) 0 0 (va_A ((w_Model cT a M)) sz) := by
  refine Met.ofW (cc := cX9_ticks) (maxL := 3) (ret := (some .int)) (by decide) rfl ?_
  intro p e s m args below meth c s₁ B hml hpre
  obtain ⟨rfl, hsz, hP, hK, hD0, hN⟩ := hpre
  have hx := B.exec
  have hb := B.bytes
  have hr := B.returns
  have hts := atoms_spec (ws := wsX9_ticks) B.pre
  have hown : s.vm.findClass RX9 = some m.cls := findClass_of_methodNamed B.named
  have hlocks := B.notSynchronized
  subst hsz
  have hD := hD0.self (sz := s.heap.size)
  generalize hAe : va_A ((w_Model cT a M)) s.heap.size = A at hD hN ⊢
  have hA : ∀ q : Nat, s.heap.size ≤ q → A q := fun q h => by rw [← hAe]; exact Or.inr h
  have hS : va_S A s.heap s.heap [] := va_S.rf
  have hl := lv_entry ([.ref (a 0), .int p1]) (n := 3) (Nat.le_of_ble_eq_true rfl)
  rw [lg_entry_eq]
  generalize (lg_sl ([.ref (a 0), .int p1]) ++ List.replicate (3 - (lg_sl ([.ref (a 0), .int p1])).length) Slot.unset).toArray = ls at hl ⊢
  have hl : lv_has ls 3 [(0, .ref (a 0)), (1, .int p1)] := hl
  have in_X9 : ∀ w ∈ wsX90, w ∈ wsX9_ticks := by decide +kernel
  have w_17 : CallB (headSpec wsX9_ticks ({ frames := 4, cells := 0, slots := 0, locals := 96 })).room s ([.ref (a 0), .int p1] : List Value).toArray RX9 17 yX9_isIn cX9_isIn 3 (some .boolean) wsX9_isIn ({ frames := 0, cells := 0, slots := 0, locals := 0 } : Room) 0 0 3 ∧ (Cond.static yX9_isIn).before ([.ref (a 0), .int p1] : List Value).toArray s = true := va_cwS 3 hts gX9_ticks_X9_isIn rfl rfl rfl (by decide +kernel) ⟨Nat.le_of_ble_eq_true rfl, Nat.le_of_ble_eq_true rfl⟩
  have kf_7 : (Cond.fieldLink RX9 7 "PictureBeatsModel" "all" "[I").before ([.ref (a 0), .int p1] : List Value).toArray s = true := hts _ (by decide +kernel)
  have kc_71 : (Cond.constant RX9 71 (1000000)).before ([.ref (a 0), .int p1] : List Value).toArray s = true := hts _ (by decide +kernel)
  have w_72 : CallW (headSpec wsX9_ticks ({ frames := 4, cells := 0, slots := 0, locals := 96 })).room s ([.ref (a 0), .int p1] : List Value).toArray RX9 RX9 72 yX9_aTick cX9_aTick 3 none wsX9_aTick ({ frames := 3, cells := 0, slots := 0, locals := 74 } : Room) 0 0 0 := cwV 0 hts gX9_ticks_X9_aTick rfl rfl rfl (by decide +kernel) ⟨Nat.le_of_ble_eq_true rfl, Nat.le_of_ble_eq_true rfl⟩
  refine lv_iload_n hx hb dX9_ticks_0 rfl (lv_at hl 1 rfl) ?_
  refine lv_iconst (v := 1) hx hb dX9_ticks_1 (by decide) ?_
  refine lv_sipush (v := 4000) hx hb dX9_ticks_2 (by decide) ?_
  refine x_rS (As := [.int p1, .int 1, .int 4000]) (rest := []) ⟨hx, hb, hml, hown, hts⟩ (c_X9_isIn l D cT p1 1 4000 _ hv) w_17 hK hS hN rfl hl.1 rfl (Nat.le_of_ble_eq_true rfl) dX9_ticks_5 ⟨Nat.le_of_ble_eq_true rfl, Nat.le_of_ble_eq_true rfl⟩ (fun r_1 hv => ?_)
  refine lv_if_eq (tgt := 25) hx hb dX9_ticks_8 (by decide) (fun c_2 => ?_) (fun c_2 => ?_)
  · have hv := hv.1 c_2
    refine lv_iconst (v := (-1)) hx hb dX9_ticks_25 (by decide) ?_
    exact W.iret (v := (-1)) hx hb hr (fun t ht hW => ⟨⟨_, M, rfl, hv, by rw [ht]; exact hP, va_K.moved hW.alike hK, hD⟩, hS.F ht⟩) hS.2.2 dX9_ticks_26
  · have hv := hv.2 c_2
    refine lv_aload_n hx hb dX9_ticks_11 rfl (lv_at hl 0 rfl) ?_
    refine va_get (D := D) (ci := 9) (v := .ref (a 1)) (C := RX9) (T := TX9) (N := 2) hx hb hts in_X9 hown hK hP 0 rfl rfl 0 (by decide) kf_7 (fun _ h9 => h9) rfl dX9_ticks_12 ?_
    refine lv_bipush (v := 23) hx hb dX9_ticks_15 (by decide) ?_
    refine x_ald hx hb hK hP 1 0 rfl rfl 23 rfl (by decide) (by decide) dX9_ticks_17 ?_
    refine lv_iload_n hx hb dX9_ticks_18 rfl (lv_at hl 1 rfl) ?_
    refine lv_iadd hx hb dX9_ticks_19 ?_
    refine lv_ldc (v := 1000000) hx hb hown kc_71 dX9_ticks_20 ?_
    refine lv_icmp_le (tgt := 27) hx hb dX9_ticks_22 (by decide) (fun c_3 => ?_) (fun c_3 => ?_)
    · have hv := hv.1 c_3
      refine lv_iconst (v := 0) hx hb dX9_ticks_27 (by decide) ?_
      refine lv_istore_n (lv' := [(2, .int 0), (0, .ref (a 0)), (1, .int p1)]) hx hb dX9_ticks_28 rfl hl (by decide) rfl (fun ls hl => ?_)
      obtain ⟨n_13, hv⟩ := hv
      have K_L_4 : ∀ (y_5 : Int32) (M_6 : ST), (post (M_6 1 23) M_6) → ∀ (H : Heap) (locs : List Loc), va_P D vwCl ((w_Model cT a M_6)) H → va_D A ((w_Model cT a M_6)) → va_S A s.heap H locs → ∀ ls : Array Slot, lv_has ls 3 [(2, .int y_5), (0, .ref (a 0)), (1, .int p1)] → W p l e (headSpec wsX9_ticks ({ frames := 4, cells := 0, slots := 0, locals := 96 })).room s m ([.ref (a 0), .int p1] : List Value).toArray below meth c H locs 0 0 (MQ below (va_Qi post (fun u t => x_B D cT ((w_Model cT a u)) A t) A) ([.ref (a 0), .int p1] : List Value).toArray s 0 0 A) (F0 m 44 ls []) := by
        intro y_5 M_6 hv H locs hP hD hS ls hl
        refine lv_aload_n hx hb dX9_ticks_44 rfl (lv_at hl 1 rfl) ?_
        refine va_get (D := D) (ci := 9) (v := .ref (a 1)) (C := RX9) (T := TX9) (N := 2) hx hb hts in_X9 hown hK hP 0 rfl rfl 0 (by decide) kf_7 (fun _ h9 => h9) rfl dX9_ticks_45 ?_
        refine lv_bipush (v := 23) hx hb dX9_ticks_48 (by decide) ?_
        refine x_ald hx hb hK hP 1 0 rfl rfl 23 rfl (by decide) (by decide) dX9_ticks_50 ?_
        exact W.iret (v := (M_6 1 23)) hx hb hr (fun t ht hW => ⟨⟨_, M_6, rfl, hv, by rw [ht]; exact hP, va_K.moved hW.alike hK, hD⟩, hS.F ht⟩) hS.2.2 dX9_ticks_51
      have L_4 : ∀ n_9 : Nat, ∀ (y_7 : Int32) (M_8 : ST), (lp_X9_ticks_29 p1 post (fun (y_5 : Int32) (M_6 : ST) => post (M_6 1 23) M_6) n_9 y_7 M_8) → ∀ (H : Heap) (locs : List Loc), va_P D vwCl ((w_Model cT a M_8)) H → va_D A ((w_Model cT a M_8)) → va_S A s.heap H locs → ∀ ls : Array Slot, lv_has ls 3 [(2, .int y_7), (0, .ref (a 0)), (1, .int p1)] → W p l e (headSpec wsX9_ticks ({ frames := 4, cells := 0, slots := 0, locals := 96 })).room s m ([.ref (a 0), .int p1] : List Value).toArray below meth c H locs 0 0 (MQ below (va_Qi post (fun u t => x_B D cT ((w_Model cT a u)) A t) A) ([.ref (a 0), .int p1] : List Value).toArray s 0 0 A) (F0 m 29 ls []) := by
        intro n_9
        induction n_9 with
        | zero =>
          intro y_7 M_8 hv
          exact hv.elim
        | succ n_9 L_4_ih =>
          intro y_7 M_8 hv H locs hP hD hS ls hl
          refine lv_iload_n hx hb dX9_ticks_29 rfl (lv_at hl 0 rfl) ?_
          refine lv_iload_n hx hb dX9_ticks_30 rfl (lv_at hl 2 rfl) ?_
          refine lv_icmp_ge (tgt := 44) hx hb dX9_ticks_31 (by decide) (fun c_10 => ?_) (fun c_10 => ?_)
          · have hv := hv.1 c_10
            exact K_L_4 _ _ hv H locs hP hD hS ls (lv_sub hl [0, 1, 2] rfl)
          · have hv := hv.2 c_10
            refine lv_aload_n hx hb dX9_ticks_34 rfl (lv_at hl 1 rfl) ?_
            refine x_cVv (As := []) (rest := []) (wn := fun u_11 => (w_Model cT a u_11)) ⟨hx, hb, hml, hown, hts⟩ (c_X9_aTick l D cT a M_8 _ _ hv) w_72 hK hP hD hS hA hN [0, 1, 2] [] [0, 1, 2] rfl rfl (fun _ => rfl) (by decide) (by decide) (by decide) (by decide) 9 0 rfl rfl rfl hl.1 rfl (Nat.le_of_ble_eq_true rfl) dX9_ticks_35 ⟨Nat.le_of_ble_eq_true rfl, Nat.le_of_ble_eq_true rfl⟩ (fun u_11 H locs hv hP hD hS => ?_)
            obtain ⟨x_12, ex_12⟩ : ∃ z : Int32, z = y_7 + 1 := ⟨_, rfl⟩
            have hv := hv x_12 ex_12
            refine lv_iinc (v := x_12) (lv' := [(2, .int x_12), (0, .ref (a 0)), (1, .int p1)]) hx hb dX9_ticks_38 hl (k := 0) rfl (by rw [ex_12]; rfl) (by decide) rfl (fun ls hl => ?_)
            refine lv_goto (tgt := 29) hx hb dX9_ticks_41 (by decide) ?_
            exact L_4_ih _ _ hv H locs hP hD hS ls (lv_sub hl [0, 1, 2] rfl)
      exact L_4 n_13 _ _ hv _ _ hP hD hS ls hl
    · have hv := hv.2 c_3
      refine lv_iconst (v := (-1)) hx hb dX9_ticks_25 (by decide) ?_
      exact W.iret (v := (-1)) hx hb hr (fun t ht hW => ⟨⟨_, M, rfl, hv, by rw [ht]; exact hP, va_K.moved hW.alike hK, hD⟩, hS.F ht⟩) hS.2.2 dX9_ticks_26
