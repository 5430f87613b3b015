def lp_X9_init_22  (post : ST → Prop) (K_ : Int32 → ST → Prop) : Nat → Int32 → ST → Prop
  | 0, _, _ => False
  | n_12 + 1, y_10, M_11 => (((20 ≤ y_10) → K_ y_10 M_11) ∧ ((¬ (20 ≤ y_10)) → ∃ k_14 : Nat, k_14 < 23520 ∧ y_10 = nI k_14 ∧ ∀ M_15 : ST, M_15 = x_st M_11 1 k_14 16 → ∃ k_16 : Nat, k_16 < 23520 ∧ (y_10 + 1) = nI k_16 ∧ ∀ M_17 : ST, M_17 = x_st M_15 1 k_16 2 → ∃ k_18 : Nat, k_18 < 23520 ∧ (y_10 + 2) = nI k_18 ∧ ∀ M_19 : ST, M_19 = x_st M_17 1 k_18 3 → ∃ k_20 : Nat, k_20 < 23520 ∧ (y_10 + 3) = nI k_20 ∧ ∀ M_21 : ST, M_21 = x_st M_19 1 k_20 3 → ∃ k_22 : Nat, k_22 < 23520 ∧ (y_10 + 4) = nI k_22 ∧ ∀ M_23 : ST, M_23 = x_st M_21 1 k_22 8 → ∃ k_24 : Nat, k_24 < 23520 ∧ (y_10 + 5) = nI k_24 ∧ ∀ M_25 : ST, M_25 = x_st M_23 1 k_24 1 → ∃ k_26 : Nat, k_26 < 23520 ∧ (y_10 + 6) = nI k_26 ∧ ∀ M_27 : ST, M_27 = x_st M_25 1 k_26 1 → ∃ k_28 : Nat, k_28 < 23520 ∧ (y_10 + 7) = nI k_28 ∧ ∀ M_29 : ST, M_29 = x_st M_27 1 k_28 1 → ∀ x_30 : Int32, x_30 = y_10 + 10 → lp_X9_init_22  post K_ n_12 x_30 M_29))
def v_X9_init (post : ST → Prop) : Prop := ∀ M : ST, M = x_mk [x_fl [0, 0], (fun _ => 0), (fun _ => 0)] → (∃ n_31 : Nat, lp_X9_init_22  post (fun (y_2 : Int32) (M_3 : ST) => ∀ M_4 : ST, M_4 = x_st M_3 1 20 16 → ∀ M_5 : ST, M_5 = x_st M_4 1 21 10 → ∀ M_6 : ST, M_6 = x_st M_5 1 27 1 → ∀ M_7 : ST, M_7 = x_st M_6 1 29 2 → ∀ M_8 : ST, M_8 = x_st M_7 1 41 8 → ∀ M_9 : ST, M_9 = x_st M_8 1 43 1 → post M_9) n_31 0 M)
set_option maxHeartbeats 4000000 in
set_option maxRecDepth 100000 in
theorem c_X9_init (l : Launch) (D : va_G) (cT : Nat → ClassId) (h0 : Nat) (sz : Nat) (post : ST → Prop) (hv : v_X9_init  post) : Met l yX9_init wsX9_init ({ frames := 1, cells := 2, slots := 23523, locals := 12 }) (va_Pc [.ref h0] (x_U D cT [(h0, .inr (9, [.null, .null]))] sz)) (va_Qv (fun u : (Nat → Nat) × ST => post u.2) (fun u t => x_B D cT (w_Model cT (x_hd h0 u.1) u.2) (va_A [(h0, .inr (9, [.null, .null]))] sz) t) (va_A [(h0, .inr (9, [.null, .null]))] sz)) 2 23523 (va_A [(h0, .inr (9, [.null, .null]))] sz) := by
  refine Met.ofW (cc := cX9_init) (maxL := 2) (ret := none) (by decide) rfl ?_
  intro p e s m args below meth c s₁ B hml hpre
  obtain ⟨rfl, hsz, hP, hK, hD0, hN⟩ := hpre
  have hx := B.exec
  have hb := B.bytes
  have hr := B.returns
  have hts := atoms_spec (ws := wsX9_init) B.pre
  have hown : s.vm.findClass RX9 = some m.cls := findClass_of_methodNamed B.named
  have hlocks := B.notSynchronized
  have hin : meth.name = "<init>" := (name_of_methodNamed B.named B.method).1
  subst hsz
  have hD := hD0.self (sz := s.heap.size)
  generalize hAe : va_A [(h0, .inr (9, [.null, .null]))] s.heap.size = A at hD hN ⊢
  have hA : ∀ q : Nat, s.heap.size ≤ q → A q := fun q h => by rw [← hAe]; exact Or.inr h
  have hS : va_S A s.heap s.heap [] := va_S.rf
  have hP : va_P D vwCl [(h0, .inr (9, [.null, .null]))] s.heap := hP
  have hl := lv_entry ([.ref h0]) (n := 2) (Nat.le_of_ble_eq_true rfl)
  rw [lg_entry_eq]
  generalize (lg_sl ([.ref h0]) ++ List.replicate (2 - (lg_sl ([.ref h0])).length) Slot.unset).toArray = ls at hl ⊢
  have hl : lv_has ls 2 [(0, .ref h0)] := hl
  have in_X9 : ∀ w ∈ wsX90, w ∈ wsX9_init := by decide +kernel
  have ka_0 : (Cond.arrayClass .int).before ([.ref h0] : List Value).toArray s = true := hts _ (List.mem_of_getElem? (i := 4) rfl)
  have kf_7 : (Cond.fieldLink RX9 7 "PictureBeatsModel" "all" "[I").before ([.ref h0] : List Value).toArray s = true := hts _ (by decide +kernel)
  have ka_1 : (Cond.arrayClass .boolean).before ([.ref h0] : List Value).toArray s = true := hts _ (List.mem_of_getElem? (i := 6) rfl)
  have kf_13 : (Cond.fieldLink RX9 13 "PictureBeatsModel" "has" "[Z").before ([.ref h0] : List Value).toArray s = true := hts _ (by decide +kernel)
  refine lv_aload_n hx hb dX9_init_0 rfl (lv_at hl 0 rfl) ?_
  refine W.objInit hx hb hown (hts (.methodLink RX9 1 objectInit) (List.mem_of_getElem? (i := 1) rfl)) (hts (.instanceMethod objectInit) (List.mem_of_getElem? (i := 2) rfl)) (hts (.code objectInit ⟨#[0xb1]⟩ 1 none) (List.mem_of_getElem? (i := 3) rfl)) rfl (by rw [hml]; exact hl.1) rfl dX9_init_1 (Nat.le_of_ble_eq_true rfl) (Nat.le_of_ble_eq_true rfl) ?_
  refine W.eq (g2 := F0 m 4 ls []) rfl ?_
  refine lv_aload_n hx hb dX9_init_4 rfl (lv_at hl 0 rfl) ?_
  refine lv_sipush (v := 23520) hx hb dX9_init_5 (by decide) ?_
  refine x_newi (N := 23520) hx hb ka_0 hK hP hD hS hA rfl (by decide) (by decide) (Nat.le_of_ble_eq_true rfl) (Nat.le_of_ble_eq_true rfl) dX9_init_8 (fun q_1 H hP hD hS => ?_)
  have hP : va_P D vwCl [(h0, .inr (9, [.null, .null])), (q_1, .inl (cT 0, 23520, .inl (fun _ => 0)))] H := hP
  have hD : va_D A [(h0, .inr (9, [.null, .null])), (q_1, .inl (cT 0, 23520, .inl (fun _ => 0)))] := hD
  refine W.widen (k := 1) (n := 23520) (Nat.le_of_ble_eq_true rfl) (Nat.le_of_ble_eq_true rfl) ?_
  refine va_putF (D := D) (ci := 9) (v := .ref q_1) (ty := .array .int) (C := RX9) (T := TX9) (N := 2) hx hb hts in_X9 tyX9 tyX9_ok nmX9 hown hK hP hD hS 0 rfl rfl 0 (by decide) kf_7 (fun _ h9 => h9) rfl hin rfl (by decide +kernel) rfl rfl (Nat.le_of_ble_eq_true rfl) dX9_init_10 (fun H locs hP hD hS => ?_)
  have hP : va_P D vwCl [(h0, .inr (9, [.ref q_1, .null])), (q_1, .inl (cT 0, 23520, .inl (fun _ => 0)))] H := hP
  have hD : va_D A [(h0, .inr (9, [.ref q_1, .null])), (q_1, .inl (cT 0, 23520, .inl (fun _ => 0)))] := hD
  refine lv_aload_n hx hb dX9_init_13 rfl (lv_at hl 0 rfl) ?_
  refine lv_iconst (v := 3) hx hb dX9_init_14 (by decide) ?_
  refine x_newiz (N := 3) hx hb ka_1 hK hP hD hS hA rfl (by decide) (by decide) (Nat.le_of_ble_eq_true rfl) (Nat.le_of_ble_eq_true rfl) dX9_init_15 (fun q_2 H hP hD hS => ?_)
  have hP : va_P D vwCl [(h0, .inr (9, [.ref q_1, .null])), (q_1, .inl (cT 0, 23520, .inl (fun _ => 0))), (q_2, .inl (cT 1, 3, .inl (fun _ => 0)))] H := hP
  have hD : va_D A [(h0, .inr (9, [.ref q_1, .null])), (q_1, .inl (cT 0, 23520, .inl (fun _ => 0))), (q_2, .inl (cT 1, 3, .inl (fun _ => 0)))] := hD
  refine W.widen (k := 2) (n := 23523) (Nat.le_of_ble_eq_true rfl) (Nat.le_of_ble_eq_true rfl) ?_
  refine va_putF (D := D) (ci := 9) (v := .ref q_2) (ty := .array .boolean) (C := RX9) (T := TX9) (N := 2) hx hb hts in_X9 tyX9 tyX9_ok nmX9 hown hK hP hD hS 0 rfl rfl 1 (by decide) kf_13 (fun _ h9 => h9) rfl hin rfl (by decide +kernel) rfl rfl (Nat.le_of_ble_eq_true rfl) dX9_init_17 (fun H locs hP hD hS => ?_)
  have hP : va_P D vwCl [(h0, .inr (9, [.ref q_1, .ref q_2])), (q_1, .inl (cT 0, 23520, .inl (fun _ => 0))), (q_2, .inl (cT 1, 3, .inl (fun _ => 0)))] H := hP
  have hD : va_D A [(h0, .inr (9, [.ref q_1, .ref q_2])), (q_1, .inl (cT 0, 23520, .inl (fun _ => 0))), (q_2, .inl (cT 1, 3, .inl (fun _ => 0)))] := hD
  obtain ⟨hP, hD⟩ : va_P D vwCl (w_Model cT (x_hd h0 (x_ad [0, q_1, q_2])) (x_mk [x_fl [0, 0], (fun _ => 0), (fun _ => 0)])) H ∧ va_D A (w_Model cT (x_hd h0 (x_ad [0, q_1, q_2])) (x_mk [x_fl [0, 0], (fun _ => 0), (fun _ => 0)])) := x_P_D_sub hP hD [0, 1, 2] (by decide) rfl
  generalize (x_ad [0, q_1, q_2]) = a at hP hD
  obtain ⟨M, eM⟩ : ∃ z : ST, z = x_mk [x_fl [0, 0], (fun _ => 0), (fun _ => 0)] := ⟨_, rfl⟩
  rw [← eM] at hP hD
  have hv := hv M eM
  have hl : lv_has ls 2 [(0, .ref ((x_hd h0 a) 0))] := hl
  refine lv_iconst (v := 0) hx hb dX9_init_20 (by decide) ?_
  refine lv_istore_n (lv' := [(1, .int 0), (0, .ref ((x_hd h0 a) 0))]) hx hb dX9_init_21 rfl hl (by decide) rfl (fun ls hl => ?_)
  obtain ⟨n_31, hv⟩ := hv
  have K_L_1 : ∀ (y_2 : Int32) (M_3 : ST), (∀ M_4 : ST, M_4 = x_st M_3 1 20 16 → ∀ M_5 : ST, M_5 = x_st M_4 1 21 10 → ∀ M_6 : ST, M_6 = x_st M_5 1 27 1 → ∀ M_7 : ST, M_7 = x_st M_6 1 29 2 → ∀ M_8 : ST, M_8 = x_st M_7 1 41 8 → ∀ M_9 : ST, M_9 = x_st M_8 1 43 1 → post M_9) → ∀ (H : Heap) (locs : List Loc), va_P D vwCl ((w_Model cT (x_hd h0 a) M_3)) H → va_D A ((w_Model cT (x_hd h0 a) M_3)) → va_S A s.heap H locs → ∀ ls : Array Slot, lv_has ls 2 [(1, .int y_2), (0, .ref ((x_hd h0 a) 0))] → W p l e (headSpec wsX9_init ({ frames := 1, cells := 2, slots := 23523, locals := 12 })).room s m ([.ref h0] : List Value).toArray below meth c H locs 2 23523 (MQ below (va_Qv (fun u : (Nat → Nat) × ST => post u.2) (fun u t => x_B D cT (w_Model cT (x_hd h0 u.1) u.2) A t) A) ([.ref h0] : List Value).toArray s 2 23523 A) (F0 m 108 ls []) := by
    intro y_2 M_3 hv H locs hP hD hS ls hl
    refine lv_aload_n (x := (x_hd h0 a) 0) hx hb dX9_init_108 rfl (lv_at hl 1 rfl) ?_
    refine va_get (D := D) (ci := 9) (v := .ref ((x_hd h0 a) 1)) (C := RX9) (T := TX9) (N := 2) hx hb hts in_X9 hown hK hP 0 rfl rfl 0 (by decide) kf_7 (fun _ h9 => h9) rfl dX9_init_109 ?_
    refine lv_bipush (v := 20) hx hb dX9_init_112 (by decide) ?_
    refine lv_bipush (v := 16) hx hb dX9_init_114 (by decide) ?_
    refine x_ast hx hb hK hP hD hS 1 0 rfl rfl 20 rfl (by decide) (by decide) dX9_init_116 (fun H locs hP hD hS => ?_)
    obtain ⟨M_4, eM_4⟩ : ∃ z : ST, z = x_st M_3 1 20 16 := ⟨_, rfl⟩
    have hP : va_P D vwCl ((w_Model cT (x_hd h0 a) M_4)) H := by rw [eM_4]; exact hP
    have hD : va_D A ((w_Model cT (x_hd h0 a) M_4)) := by rw [eM_4]; exact hD
    have hv := hv M_4 eM_4
    refine lv_aload_n (x := (x_hd h0 a) 0) hx hb dX9_init_117 rfl (lv_at hl 1 rfl) ?_
    refine va_get (D := D) (ci := 9) (v := .ref ((x_hd h0 a) 1)) (C := RX9) (T := TX9) (N := 2) hx hb hts in_X9 hown hK hP 0 rfl rfl 0 (by decide) kf_7 (fun _ h9 => h9) rfl dX9_init_118 ?_
    refine lv_bipush (v := 21) hx hb dX9_init_121 (by decide) ?_
    refine lv_bipush (v := 10) hx hb dX9_init_123 (by decide) ?_
    refine x_ast hx hb hK hP hD hS 1 0 rfl rfl 21 rfl (by decide) (by decide) dX9_init_125 (fun H locs hP hD hS => ?_)
    obtain ⟨M_5, eM_5⟩ : ∃ z : ST, z = x_st M_4 1 21 10 := ⟨_, rfl⟩
    have hP : va_P D vwCl ((w_Model cT (x_hd h0 a) M_5)) H := by rw [eM_5]; exact hP
    have hD : va_D A ((w_Model cT (x_hd h0 a) M_5)) := by rw [eM_5]; exact hD
    have hv := hv M_5 eM_5
    refine lv_aload_n (x := (x_hd h0 a) 0) hx hb dX9_init_126 rfl (lv_at hl 1 rfl) ?_
    refine va_get (D := D) (ci := 9) (v := .ref ((x_hd h0 a) 1)) (C := RX9) (T := TX9) (N := 2) hx hb hts in_X9 hown hK hP 0 rfl rfl 0 (by decide) kf_7 (fun _ h9 => h9) rfl dX9_init_127 ?_
    refine lv_bipush (v := 27) hx hb dX9_init_130 (by decide) ?_
    refine lv_iconst (v := 1) hx hb dX9_init_132 (by decide) ?_
    refine x_ast hx hb hK hP hD hS 1 0 rfl rfl 27 rfl (by decide) (by decide) dX9_init_133 (fun H locs hP hD hS => ?_)
    obtain ⟨M_6, eM_6⟩ : ∃ z : ST, z = x_st M_5 1 27 1 := ⟨_, rfl⟩
    have hP : va_P D vwCl ((w_Model cT (x_hd h0 a) M_6)) H := by rw [eM_6]; exact hP
    have hD : va_D A ((w_Model cT (x_hd h0 a) M_6)) := by rw [eM_6]; exact hD
    have hv := hv M_6 eM_6
    refine lv_aload_n (x := (x_hd h0 a) 0) hx hb dX9_init_134 rfl (lv_at hl 1 rfl) ?_
    refine va_get (D := D) (ci := 9) (v := .ref ((x_hd h0 a) 1)) (C := RX9) (T := TX9) (N := 2) hx hb hts in_X9 hown hK hP 0 rfl rfl 0 (by decide) kf_7 (fun _ h9 => h9) rfl dX9_init_135 ?_
    refine lv_bipush (v := 29) hx hb dX9_init_138 (by decide) ?_
    refine lv_iconst (v := 2) hx hb dX9_init_140 (by decide) ?_
    refine x_ast hx hb hK hP hD hS 1 0 rfl rfl 29 rfl (by decide) (by decide) dX9_init_141 (fun H locs hP hD hS => ?_)
    obtain ⟨M_7, eM_7⟩ : ∃ z : ST, z = x_st M_6 1 29 2 := ⟨_, rfl⟩
    have hP : va_P D vwCl ((w_Model cT (x_hd h0 a) M_7)) H := by rw [eM_7]; exact hP
    have hD : va_D A ((w_Model cT (x_hd h0 a) M_7)) := by rw [eM_7]; exact hD
    have hv := hv M_7 eM_7
    refine lv_aload_n (x := (x_hd h0 a) 0) hx hb dX9_init_142 rfl (lv_at hl 1 rfl) ?_
    refine va_get (D := D) (ci := 9) (v := .ref ((x_hd h0 a) 1)) (C := RX9) (T := TX9) (N := 2) hx hb hts in_X9 hown hK hP 0 rfl rfl 0 (by decide) kf_7 (fun _ h9 => h9) rfl dX9_init_143 ?_
    refine lv_bipush (v := 41) hx hb dX9_init_146 (by decide) ?_
    refine lv_bipush (v := 8) hx hb dX9_init_148 (by decide) ?_
    refine x_ast hx hb hK hP hD hS 1 0 rfl rfl 41 rfl (by decide) (by decide) dX9_init_150 (fun H locs hP hD hS => ?_)
    obtain ⟨M_8, eM_8⟩ : ∃ z : ST, z = x_st M_7 1 41 8 := ⟨_, rfl⟩
    have hP : va_P D vwCl ((w_Model cT (x_hd h0 a) M_8)) H := by rw [eM_8]; exact hP
    have hD : va_D A ((w_Model cT (x_hd h0 a) M_8)) := by rw [eM_8]; exact hD
    have hv := hv M_8 eM_8
    refine lv_aload_n (x := (x_hd h0 a) 0) hx hb dX9_init_151 rfl (lv_at hl 1 rfl) ?_
    refine va_get (D := D) (ci := 9) (v := .ref ((x_hd h0 a) 1)) (C := RX9) (T := TX9) (N := 2) hx hb hts in_X9 hown hK hP 0 rfl rfl 0 (by decide) kf_7 (fun _ h9 => h9) rfl dX9_init_152 ?_
    refine lv_bipush (v := 43) hx hb dX9_init_155 (by decide) ?_
    refine lv_iconst (v := 1) hx hb dX9_init_157 (by decide) ?_
    refine x_ast hx hb hK hP hD hS 1 0 rfl rfl 43 rfl (by decide) (by decide) dX9_init_158 (fun H locs hP hD hS => ?_)
    obtain ⟨M_9, eM_9⟩ : ∃ z : ST, z = x_st M_8 1 43 1 := ⟨_, rfl⟩
    have hP : va_P D vwCl ((w_Model cT (x_hd h0 a) M_9)) H := by rw [eM_9]; exact hP
    have hD : va_D A ((w_Model cT (x_hd h0 a) M_9)) := by rw [eM_9]; exact hD
    have hv := hv M_9 eM_9
    exact W.vret hx hb hr (fun t ht hW => ⟨⟨(a, M_9), rfl, hv, by rw [ht]; exact hP, va_K.moved hW.alike hK, hD⟩, hS.F ht⟩) hS.2.2 dX9_init_159
  have L_1 : ∀ n_12 : Nat, ∀ (y_10 : Int32) (M_11 : ST), (lp_X9_init_22  post (fun (y_2 : Int32) (M_3 : ST) => ∀ M_4 : ST, M_4 = x_st M_3 1 20 16 → ∀ M_5 : ST, M_5 = x_st M_4 1 21 10 → ∀ M_6 : ST, M_6 = x_st M_5 1 27 1 → ∀ M_7 : ST, M_7 = x_st M_6 1 29 2 → ∀ M_8 : ST, M_8 = x_st M_7 1 41 8 → ∀ M_9 : ST, M_9 = x_st M_8 1 43 1 → post M_9) n_12 y_10 M_11) → ∀ (H : Heap) (locs : List Loc), va_P D vwCl ((w_Model cT (x_hd h0 a) M_11)) H → va_D A ((w_Model cT (x_hd h0 a) M_11)) → va_S A s.heap H locs → ∀ ls : Array Slot, lv_has ls 2 [(1, .int y_10), (0, .ref ((x_hd h0 a) 0))] → W p l e (headSpec wsX9_init ({ frames := 1, cells := 2, slots := 23523, locals := 12 })).room s m ([.ref h0] : List Value).toArray below meth c H locs 2 23523 (MQ below (va_Qv (fun u : (Nat → Nat) × ST => post u.2) (fun u t => x_B D cT (w_Model cT (x_hd h0 u.1) u.2) A t) A) ([.ref h0] : List Value).toArray s 2 23523 A) (F0 m 22 ls []) := by
    intro n_12
    induction n_12 with
    | zero =>
      intro y_10 M_11 hv
      exact hv.elim
    | succ n_12 L_1_ih =>
      intro y_10 M_11 hv H locs hP hD hS ls hl
      refine lv_iload_n hx hb dX9_init_22 rfl (lv_at hl 0 rfl) ?_
      refine lv_bipush (v := 20) hx hb dX9_init_23 (by decide) ?_
      refine lv_icmp_ge (tgt := 108) hx hb dX9_init_25 (by decide) (fun c_13 => ?_) (fun c_13 => ?_)
      · have hv := hv.1 c_13
        exact K_L_1 _ _ hv H locs hP hD hS ls (lv_sub hl [0, 1] rfl)
      · have hv := hv.2 c_13
        refine lv_aload_n (x := (x_hd h0 a) 0) hx hb dX9_init_28 rfl (lv_at hl 1 rfl) ?_
        refine va_get (D := D) (ci := 9) (v := .ref ((x_hd h0 a) 1)) (C := RX9) (T := TX9) (N := 2) hx hb hts in_X9 hown hK hP 0 rfl rfl 0 (by decide) kf_7 (fun _ h9 => h9) rfl dX9_init_29 ?_
        refine lv_iload_n hx hb dX9_init_32 rfl (lv_at hl 0 rfl) ?_
        refine lv_bipush (v := 16) hx hb dX9_init_33 (by decide) ?_
        obtain ⟨k_14, hk_14, ik_14, hv⟩ := hv
        refine x_ast hx hb hK hP hD hS 1 0 rfl rfl k_14 ik_14 hk_14 (by decide) dX9_init_35 (fun H locs hP hD hS => ?_)
        obtain ⟨M_15, eM_15⟩ : ∃ z : ST, z = x_st M_11 1 k_14 16 := ⟨_, rfl⟩
        have hP : va_P D vwCl ((w_Model cT (x_hd h0 a) M_15)) H := by rw [eM_15]; exact hP
        have hD : va_D A ((w_Model cT (x_hd h0 a) M_15)) := by rw [eM_15]; exact hD
        have hv := hv M_15 eM_15
        refine lv_aload_n (x := (x_hd h0 a) 0) hx hb dX9_init_36 rfl (lv_at hl 1 rfl) ?_
        refine va_get (D := D) (ci := 9) (v := .ref ((x_hd h0 a) 1)) (C := RX9) (T := TX9) (N := 2) hx hb hts in_X9 hown hK hP 0 rfl rfl 0 (by decide) kf_7 (fun _ h9 => h9) rfl dX9_init_37 ?_
        refine lv_iload_n hx hb dX9_init_40 rfl (lv_at hl 0 rfl) ?_
        refine lv_iconst (v := 1) hx hb dX9_init_41 (by decide) ?_
        refine lv_iadd hx hb dX9_init_42 ?_
        refine lv_iconst (v := 2) hx hb dX9_init_43 (by decide) ?_
        obtain ⟨k_16, hk_16, ik_16, hv⟩ := hv
        refine x_ast hx hb hK hP hD hS 1 0 rfl rfl k_16 ik_16 hk_16 (by decide) dX9_init_44 (fun H locs hP hD hS => ?_)
        obtain ⟨M_17, eM_17⟩ : ∃ z : ST, z = x_st M_15 1 k_16 2 := ⟨_, rfl⟩
        have hP : va_P D vwCl ((w_Model cT (x_hd h0 a) M_17)) H := by rw [eM_17]; exact hP
        have hD : va_D A ((w_Model cT (x_hd h0 a) M_17)) := by rw [eM_17]; exact hD
        have hv := hv M_17 eM_17
        refine lv_aload_n (x := (x_hd h0 a) 0) hx hb dX9_init_45 rfl (lv_at hl 1 rfl) ?_
        refine va_get (D := D) (ci := 9) (v := .ref ((x_hd h0 a) 1)) (C := RX9) (T := TX9) (N := 2) hx hb hts in_X9 hown hK hP 0 rfl rfl 0 (by decide) kf_7 (fun _ h9 => h9) rfl dX9_init_46 ?_
        refine lv_iload_n hx hb dX9_init_49 rfl (lv_at hl 0 rfl) ?_
        refine lv_iconst (v := 2) hx hb dX9_init_50 (by decide) ?_
        refine lv_iadd hx hb dX9_init_51 ?_
        refine lv_iconst (v := 3) hx hb dX9_init_52 (by decide) ?_
        obtain ⟨k_18, hk_18, ik_18, hv⟩ := hv
        refine x_ast hx hb hK hP hD hS 1 0 rfl rfl k_18 ik_18 hk_18 (by decide) dX9_init_53 (fun H locs hP hD hS => ?_)
        obtain ⟨M_19, eM_19⟩ : ∃ z : ST, z = x_st M_17 1 k_18 3 := ⟨_, rfl⟩
        have hP : va_P D vwCl ((w_Model cT (x_hd h0 a) M_19)) H := by rw [eM_19]; exact hP
        have hD : va_D A ((w_Model cT (x_hd h0 a) M_19)) := by rw [eM_19]; exact hD
        have hv := hv M_19 eM_19
        refine lv_aload_n (x := (x_hd h0 a) 0) hx hb dX9_init_54 rfl (lv_at hl 1 rfl) ?_
        refine va_get (D := D) (ci := 9) (v := .ref ((x_hd h0 a) 1)) (C := RX9) (T := TX9) (N := 2) hx hb hts in_X9 hown hK hP 0 rfl rfl 0 (by decide) kf_7 (fun _ h9 => h9) rfl dX9_init_55 ?_
        refine lv_iload_n hx hb dX9_init_58 rfl (lv_at hl 0 rfl) ?_
        refine lv_iconst (v := 3) hx hb dX9_init_59 (by decide) ?_
        refine lv_iadd hx hb dX9_init_60 ?_
        refine lv_iconst (v := 3) hx hb dX9_init_61 (by decide) ?_
        obtain ⟨k_20, hk_20, ik_20, hv⟩ := hv
        refine x_ast hx hb hK hP hD hS 1 0 rfl rfl k_20 ik_20 hk_20 (by decide) dX9_init_62 (fun H locs hP hD hS => ?_)
        obtain ⟨M_21, eM_21⟩ : ∃ z : ST, z = x_st M_19 1 k_20 3 := ⟨_, rfl⟩
        have hP : va_P D vwCl ((w_Model cT (x_hd h0 a) M_21)) H := by rw [eM_21]; exact hP
        have hD : va_D A ((w_Model cT (x_hd h0 a) M_21)) := by rw [eM_21]; exact hD
        have hv := hv M_21 eM_21
        refine lv_aload_n (x := (x_hd h0 a) 0) hx hb dX9_init_63 rfl (lv_at hl 1 rfl) ?_
        refine va_get (D := D) (ci := 9) (v := .ref ((x_hd h0 a) 1)) (C := RX9) (T := TX9) (N := 2) hx hb hts in_X9 hown hK hP 0 rfl rfl 0 (by decide) kf_7 (fun _ h9 => h9) rfl dX9_init_64 ?_
        refine lv_iload_n hx hb dX9_init_67 rfl (lv_at hl 0 rfl) ?_
        refine lv_iconst (v := 4) hx hb dX9_init_68 (by decide) ?_
        refine lv_iadd hx hb dX9_init_69 ?_
        refine lv_bipush (v := 8) hx hb dX9_init_70 (by decide) ?_
        obtain ⟨k_22, hk_22, ik_22, hv⟩ := hv
        refine x_ast hx hb hK hP hD hS 1 0 rfl rfl k_22 ik_22 hk_22 (by decide) dX9_init_72 (fun H locs hP hD hS => ?_)
        obtain ⟨M_23, eM_23⟩ : ∃ z : ST, z = x_st M_21 1 k_22 8 := ⟨_, rfl⟩
        have hP : va_P D vwCl ((w_Model cT (x_hd h0 a) M_23)) H := by rw [eM_23]; exact hP
        have hD : va_D A ((w_Model cT (x_hd h0 a) M_23)) := by rw [eM_23]; exact hD
        have hv := hv M_23 eM_23
        refine lv_aload_n (x := (x_hd h0 a) 0) hx hb dX9_init_73 rfl (lv_at hl 1 rfl) ?_
        refine va_get (D := D) (ci := 9) (v := .ref ((x_hd h0 a) 1)) (C := RX9) (T := TX9) (N := 2) hx hb hts in_X9 hown hK hP 0 rfl rfl 0 (by decide) kf_7 (fun _ h9 => h9) rfl dX9_init_74 ?_
        refine lv_iload_n hx hb dX9_init_77 rfl (lv_at hl 0 rfl) ?_
        refine lv_iconst (v := 5) hx hb dX9_init_78 (by decide) ?_
        refine lv_iadd hx hb dX9_init_79 ?_
        refine lv_iconst (v := 1) hx hb dX9_init_80 (by decide) ?_
        obtain ⟨k_24, hk_24, ik_24, hv⟩ := hv
        refine x_ast hx hb hK hP hD hS 1 0 rfl rfl k_24 ik_24 hk_24 (by decide) dX9_init_81 (fun H locs hP hD hS => ?_)
        obtain ⟨M_25, eM_25⟩ : ∃ z : ST, z = x_st M_23 1 k_24 1 := ⟨_, rfl⟩
        have hP : va_P D vwCl ((w_Model cT (x_hd h0 a) M_25)) H := by rw [eM_25]; exact hP
        have hD : va_D A ((w_Model cT (x_hd h0 a) M_25)) := by rw [eM_25]; exact hD
        have hv := hv M_25 eM_25
        refine lv_aload_n (x := (x_hd h0 a) 0) hx hb dX9_init_82 rfl (lv_at hl 1 rfl) ?_
        refine va_get (D := D) (ci := 9) (v := .ref ((x_hd h0 a) 1)) (C := RX9) (T := TX9) (N := 2) hx hb hts in_X9 hown hK hP 0 rfl rfl 0 (by decide) kf_7 (fun _ h9 => h9) rfl dX9_init_83 ?_
        refine lv_iload_n hx hb dX9_init_86 rfl (lv_at hl 0 rfl) ?_
        refine lv_bipush (v := 6) hx hb dX9_init_87 (by decide) ?_
        refine lv_iadd hx hb dX9_init_89 ?_
        refine lv_iconst (v := 1) hx hb dX9_init_90 (by decide) ?_
        obtain ⟨k_26, hk_26, ik_26, hv⟩ := hv
        refine x_ast hx hb hK hP hD hS 1 0 rfl rfl k_26 ik_26 hk_26 (by decide) dX9_init_91 (fun H locs hP hD hS => ?_)
        obtain ⟨M_27, eM_27⟩ : ∃ z : ST, z = x_st M_25 1 k_26 1 := ⟨_, rfl⟩
        have hP : va_P D vwCl ((w_Model cT (x_hd h0 a) M_27)) H := by rw [eM_27]; exact hP
        have hD : va_D A ((w_Model cT (x_hd h0 a) M_27)) := by rw [eM_27]; exact hD
        have hv := hv M_27 eM_27
        refine lv_aload_n (x := (x_hd h0 a) 0) hx hb dX9_init_92 rfl (lv_at hl 1 rfl) ?_
        refine va_get (D := D) (ci := 9) (v := .ref ((x_hd h0 a) 1)) (C := RX9) (T := TX9) (N := 2) hx hb hts in_X9 hown hK hP 0 rfl rfl 0 (by decide) kf_7 (fun _ h9 => h9) rfl dX9_init_93 ?_
        refine lv_iload_n hx hb dX9_init_96 rfl (lv_at hl 0 rfl) ?_
        refine lv_bipush (v := 7) hx hb dX9_init_97 (by decide) ?_
        refine lv_iadd hx hb dX9_init_99 ?_
        refine lv_iconst (v := 1) hx hb dX9_init_100 (by decide) ?_
        obtain ⟨k_28, hk_28, ik_28, hv⟩ := hv
        refine x_ast hx hb hK hP hD hS 1 0 rfl rfl k_28 ik_28 hk_28 (by decide) dX9_init_101 (fun H locs hP hD hS => ?_)
        obtain ⟨M_29, eM_29⟩ : ∃ z : ST, z = x_st M_27 1 k_28 1 := ⟨_, rfl⟩
        have hP : va_P D vwCl ((w_Model cT (x_hd h0 a) M_29)) H := by rw [eM_29]; exact hP
        have hD : va_D A ((w_Model cT (x_hd h0 a) M_29)) := by rw [eM_29]; exact hD
        have hv := hv M_29 eM_29
        obtain ⟨x_30, ex_30⟩ : ∃ z : Int32, z = y_10 + 10 := ⟨_, rfl⟩
        have hv := hv x_30 ex_30
        refine lv_iinc (v := x_30) (lv' := [(1, .int x_30), (0, .ref ((x_hd h0 a) 0))]) hx hb dX9_init_102 hl (k := 0) rfl (by rw [ex_30]; rfl) (by decide) rfl (fun ls hl => ?_)
        refine lv_goto (tgt := 22) hx hb dX9_init_105 (by decide) ?_
        exact L_1_ih _ _ hv H locs hP hD hS ls (lv_sub hl [0, 1] rfl)
  exact L_1 n_31 _ _ hv _ _ hP hD hS ls hl
