def lp_X7_turnPresence_26 (p1 : Int32) (x_2 : Int32) (post : ST → Prop) (K_ : Int32 → ST → Prop) : Nat → Int32 → ST → Prop
  | 0, _, _ => False
  | n_8 + 1, y_6, M_7 => (((x_2 ≤ y_6) → K_ y_6 M_7) ∧ ((¬ (x_2 ≤ y_6)) → ∃ k_10 : Nat, k_10 < 64 ∧ y_6 = nI k_10 ∧ ∀ M_11 : ST, M_11 = x_st M_7 5 k_10 ((M_7 5 k_10) ^^^ (1 <<< (p1 &&& 31))) → ∀ x_12 : Int32, x_12 = y_6 + 1 → lp_X7_turnPresence_26 p1 x_2 post K_ n_8 x_12 M_11))
def v_X7_turnPresence (M : ST) (p1 : Int32) (post : ST → Prop) : Prop := ∃ k_1 : Nat, k_1 < 8 ∧ p1 = nI k_1 ∧ ∀ x_2 : Int32, x_2 = (if 64 < ((M 2 k_1) + (M 3 k_1)) then 64 else ((M 2 k_1) + (M 3 k_1))) → (∃ n_13 : Nat, lp_X7_turnPresence_26 p1 x_2 post (fun (y_4 : Int32) (M_5 : ST) => post M_5) n_13 (M 2 k_1) M)
set_option maxHeartbeats 4000000 in
set_option maxRecDepth 100000 in
theorem c_X7_turnPresence (l : Launch) (D : va_G) (cT : Nat → ClassId) (a : Nat → Nat) (M : ST) (p1 : Int32) (sz : Nat) (post : ST → Prop) (hv : v_X7_turnPresence M p1 post) : Met l yX7_turnPresence wsX7_turnPresence ({ frames := 1, cells := 0, slots := 0, locals := 21 }) (va_Pc [.ref (a 0), .int p1] (x_U D cT ((w_Sprites cT a M)) sz)) (va_Qv post (fun u t => x_B D cT ((w_Sprites cT a u)) (va_A ((w_Sprites cT a M)) sz) t) (va_A ((w_Sprites cT a M)) sz)) 0 0 (va_A ((w_Sprites cT a M)) sz) := by
  refine Met.ofW (cc := cX7_turnPresence) (maxL := 4) (ret := none) (by decide) rfl ?_
  intro p e s m args below meth c s₁ B hml hpre
  obtain ⟨rfl, hsz, hP, hK, hD0, hN⟩ := hpre
  have hx := B.exec
  have hb := B.bytes
  have hr := B.returns
  have hts := atoms_spec (ws := wsX7_turnPresence) B.pre
  have hown : s.vm.findClass RX7 = some m.cls := findClass_of_methodNamed B.named
  have hlocks := B.notSynchronized
  subst hsz
  have hD := hD0.self (sz := s.heap.size)
  generalize hAe : va_A ((w_Sprites cT a M)) s.heap.size = A at hD hN ⊢
  have hA : ∀ q : Nat, s.heap.size ≤ q → A q := fun q h => by rw [← hAe]; exact Or.inr h
  have hS : va_S A s.heap s.heap [] := va_S.rf
  have hl := lv_entry ([.ref (a 0), .int p1]) (n := 4) (Nat.le_of_ble_eq_true rfl)
  rw [lg_entry_eq]
  generalize (lg_sl ([.ref (a 0), .int p1]) ++ List.replicate (4 - (lg_sl ([.ref (a 0), .int p1])).length) Slot.unset).toArray = ls at hl ⊢
  have hl : lv_has ls 4 [(0, .ref (a 0)), (1, .int p1)] := hl
  have in_X7 : ∀ w ∈ wsX70, w ∈ wsX7_turnPresence := by decide +kernel
  have kf_15 : (Cond.fieldLink RX7 15 "PictureBeats$Sprites" "rows" "[I").before ([.ref (a 0), .int p1] : List Value).toArray s = true := hts _ (by decide +kernel)
  have kf_18 : (Cond.fieldLink RX7 18 "PictureBeats$Sprites" "heights" "[I").before ([.ref (a 0), .int p1] : List Value).toArray s = true := hts _ (by decide +kernel)
  have k_min31 : (Cond.methodLink RX7 31 Lib.Math.min.name).before ([.ref (a 0), .int p1] : List Value).toArray s = true := hts _ (by decide +kernel)
  have k_mins : (Cond.static Lib.Math.min.name).before ([.ref (a 0), .int p1] : List Value).toArray s = true := hts _ (by decide +kernel)
  have k_mini : (Cond.initialized "java/lang/Math").before ([.ref (a 0), .int p1] : List Value).toArray s = true := hts _ (by decide +kernel)
  have k_minc : (Cond.code Lib.Math.min.name Lib.Math.min.code 2 (some .int)).before ([.ref (a 0), .int p1] : List Value).toArray s = true := hts _ (by decide +kernel)
  have kf_24 : (Cond.fieldLink RX7 24 "PictureBeats$Sprites" "present" "[I").before ([.ref (a 0), .int p1] : List Value).toArray s = true := hts _ (by decide +kernel)
  refine lv_aload_n hx hb dX7_turnPresence_0 rfl (lv_at hl 0 rfl) ?_
  refine va_get (D := D) (ci := 7) (v := .ref (a 2)) (C := RX7) (T := TX7) (N := 5) hx hb hts in_X7 hown hK hP 0 rfl rfl 1 (by decide) kf_15 (fun _ h9 => h9) rfl dX7_turnPresence_1 ?_
  refine lv_iload_n hx hb dX7_turnPresence_4 rfl (lv_at hl 1 rfl) ?_
  obtain ⟨k_1, hk_1, ik_1, hv⟩ := hv
  refine x_ald hx hb hK hP 2 0 rfl rfl k_1 ik_1 hk_1 (by decide) dX7_turnPresence_5 ?_
  refine lv_aload_n hx hb dX7_turnPresence_6 rfl (lv_at hl 0 rfl) ?_
  refine va_get (D := D) (ci := 7) (v := .ref (a 3)) (C := RX7) (T := TX7) (N := 5) hx hb hts in_X7 hown hK hP 0 rfl rfl 2 (by decide) kf_18 (fun _ h9 => h9) rfl dX7_turnPresence_7 ?_
  refine lv_iload_n hx hb dX7_turnPresence_10 rfl (lv_at hl 1 rfl) ?_
  refine x_ald hx hb hK hP 3 0 rfl rfl k_1 ik_1 hk_1 (by decide) dX7_turnPresence_11 ?_
  refine lv_iadd hx hb dX7_turnPresence_12 ?_
  refine lv_bipush (v := 64) hx hb dX7_turnPresence_13 (by decide) ?_
  refine va_mmin hx hb (hml.trans hl.1.symm) hown k_min31 k_mins k_mini k_minc (Nat.le_of_ble_eq_true rfl) (Nat.le_of_ble_eq_true rfl) (Nat.zero_le _) (Nat.zero_le _) dX7_turnPresence_15 ?_
  refine lv_topi (fun x_2 ex_2 => ?_)
  have hv := hv x_2 ex_2
  refine lv_istore_n (lv' := [(2, .int x_2), (0, .ref (a 0)), (1, .int p1)]) hx hb dX7_turnPresence_18 rfl hl (by decide) rfl (fun ls hl => ?_)
  refine lv_aload_n hx hb dX7_turnPresence_19 rfl (lv_at hl 1 rfl) ?_
  refine va_get (D := D) (ci := 7) (v := .ref (a 2)) (C := RX7) (T := TX7) (N := 5) hx hb hts in_X7 hown hK hP 0 rfl rfl 1 (by decide) kf_15 (fun _ h9 => h9) rfl dX7_turnPresence_20 ?_
  refine lv_iload_n hx hb dX7_turnPresence_23 rfl (lv_at hl 2 rfl) ?_
  refine x_ald hx hb hK hP 2 0 rfl rfl k_1 ik_1 hk_1 (by decide) dX7_turnPresence_24 ?_
  refine lv_istore_n (lv' := [(3, .int (M 2 k_1)), (2, .int x_2), (0, .ref (a 0)), (1, .int p1)]) hx hb dX7_turnPresence_25 rfl hl (by decide) rfl (fun ls hl => ?_)
  obtain ⟨n_13, hv⟩ := hv
  have K_L_3 : ∀ (y_4 : Int32) (M_5 : ST), (post M_5) → ∀ (H : Heap) (locs : List Loc), va_P D vwCl ((w_Sprites cT a M_5)) H → va_D A ((w_Sprites cT a M_5)) → va_S A s.heap H locs → ∀ ls : Array Slot, lv_has ls 4 [(3, .int y_4), (2, .int x_2), (0, .ref (a 0)), (1, .int p1)] → W p l e (headSpec wsX7_turnPresence ({ frames := 1, cells := 0, slots := 0, locals := 21 })).room s m ([.ref (a 0), .int p1] : List Value).toArray below meth c H locs 0 0 (MQ below (va_Qv post (fun u t => x_B D cT ((w_Sprites cT a u)) A t) A) ([.ref (a 0), .int p1] : List Value).toArray s 0 0 A) (F0 m 49 ls []) := by
    intro y_4 M_5 hv H locs hP hD hS ls hl
    exact W.vret hx hb hr (fun t ht hW => ⟨⟨M_5, rfl, hv, by rw [ht]; exact hP, va_K.moved hW.alike hK, hD⟩, hS.F ht⟩) hS.2.2 dX7_turnPresence_49
  have L_3 : ∀ n_8 : Nat, ∀ (y_6 : Int32) (M_7 : ST), (lp_X7_turnPresence_26 p1 x_2 post (fun (y_4 : Int32) (M_5 : ST) => post M_5) n_8 y_6 M_7) → ∀ (H : Heap) (locs : List Loc), va_P D vwCl ((w_Sprites cT a M_7)) H → va_D A ((w_Sprites cT a M_7)) → va_S A s.heap H locs → ∀ ls : Array Slot, lv_has ls 4 [(3, .int y_6), (2, .int x_2), (0, .ref (a 0)), (1, .int p1)] → W p l e (headSpec wsX7_turnPresence ({ frames := 1, cells := 0, slots := 0, locals := 21 })).room s m ([.ref (a 0), .int p1] : List Value).toArray below meth c H locs 0 0 (MQ below (va_Qv post (fun u t => x_B D cT ((w_Sprites cT a u)) A t) A) ([.ref (a 0), .int p1] : List Value).toArray s 0 0 A) (F0 m 26 ls []) := by
    intro n_8
    induction n_8 with
    | zero =>
      intro y_6 M_7 hv
      exact hv.elim
    | succ n_8 L_3_ih =>
      intro y_6 M_7 hv H locs hP hD hS ls hl
      refine lv_iload_n hx hb dX7_turnPresence_26 rfl (lv_at hl 0 rfl) ?_
      refine lv_iload_n hx hb dX7_turnPresence_27 rfl (lv_at hl 1 rfl) ?_
      refine lv_icmp_ge (tgt := 49) hx hb dX7_turnPresence_28 (by decide) (fun c_9 => ?_) (fun c_9 => ?_)
      · have hv := hv.1 c_9
        exact K_L_3 _ _ hv H locs hP hD hS ls (lv_sub hl [0, 1, 2, 3] rfl)
      · have hv := hv.2 c_9
        refine lv_aload_n hx hb dX7_turnPresence_31 rfl (lv_at hl 2 rfl) ?_
        refine va_get (D := D) (ci := 7) (v := .ref (a 5)) (C := RX7) (T := TX7) (N := 5) hx hb hts in_X7 hown hK hP 0 rfl rfl 4 (by decide) kf_24 (fun _ h9 => h9) rfl dX7_turnPresence_32 ?_
        refine lv_iload_n hx hb dX7_turnPresence_35 rfl (lv_at hl 0 rfl) ?_
        refine lv_dup2_11 hx hb dX7_turnPresence_36 rfl rfl ?_
        obtain ⟨k_10, hk_10, ik_10, hv⟩ := hv
        refine x_ald hx hb hK hP 5 0 rfl rfl k_10 ik_10 hk_10 (by decide) dX7_turnPresence_37 ?_
        refine lv_iconst (v := 1) hx hb dX7_turnPresence_38 (by decide) ?_
        refine lv_iload_n hx hb dX7_turnPresence_39 rfl (lv_at hl 3 rfl) ?_
        refine lv_ishl hx hb dX7_turnPresence_40 ?_
        refine lv_ixor hx hb dX7_turnPresence_41 ?_
        refine x_ast hx hb hK hP hD hS 5 0 rfl rfl k_10 ik_10 hk_10 (by decide) dX7_turnPresence_42 (fun H locs hP hD hS => ?_)
        obtain ⟨M_11, eM_11⟩ : ∃ z : ST, z = x_st M_7 5 k_10 ((M_7 5 k_10) ^^^ (1 <<< (p1 &&& 31))) := ⟨_, rfl⟩
        have hP : va_P D vwCl ((w_Sprites cT a M_11)) H := by rw [eM_11]; exact hP
        have hD : va_D A ((w_Sprites cT a M_11)) := by rw [eM_11]; exact hD
        have hv := hv M_11 eM_11
        obtain ⟨x_12, ex_12⟩ : ∃ z : Int32, z = y_6 + 1 := ⟨_, rfl⟩
        have hv := hv x_12 ex_12
        refine lv_iinc (v := x_12) (lv' := [(3, .int x_12), (2, .int x_2), (0, .ref (a 0)), (1, .int p1)]) hx hb dX7_turnPresence_43 hl (k := 0) rfl (by rw [ex_12]; rfl) (by decide) rfl (fun ls hl => ?_)
        refine lv_goto (tgt := 26) hx hb dX7_turnPresence_46 (by decide) ?_
        exact L_3_ih _ _ hv H locs hP hD hS ls (lv_sub hl [0, 1, 2, 3] rfl)
  exact L_3 n_13 _ _ hv _ _ hP hD hS ls hl
def v_X7_move (M : ST) (p1 : Int32) (p2 : Int32) (p3 : Int32) (p4 : Int32) (post : ST → Prop) : Prop := v_X7_turnPresence M p1 (fun (u_1 : ST) => ∃ k_2 : Nat, k_2 < 8 ∧ p1 = nI k_2 ∧ ∀ M_3 : ST, M_3 = x_st u_1 1 k_2 p2 → ∀ M_4 : ST, M_4 = x_st M_3 2 k_2 p3 → ∀ M_5 : ST, M_5 = x_st M_4 3 k_2 p4 → v_X7_turnPresence M_5 p1 (fun (u_6 : ST) => post u_6))
set_option maxHeartbeats 4000000 in
set_option maxRecDepth 100000 in
theorem c_X7_move (l : Launch) (D : va_G) (cT : Nat → ClassId) (a : Nat → Nat) (M : ST) (p1 : Int32) (p2 : Int32) (p3 : Int32) (p4 : Int32) (sz : Nat) (post : ST → Prop) (hv : v_X7_move M p1 p2 p3 p4 post) : Met l yX7_move wsX7_move ({ frames := 2, cells := 0, slots := 0, locals := 44 }) (va_Pc [.ref (a 0), .int p1, .int p2, .int p3, .int p4] (x_U D cT ((w_Sprites cT a M)) sz)) (va_Qv post (fun u t => x_B D cT ((w_Sprites cT a u)) (va_A ((w_Sprites cT a M)) sz) t) (va_A ((w_Sprites cT a M)) sz)) 0 0 (va_A ((w_Sprites cT a M)) sz) := by
  refine Met.ofW (cc := cX7_move) (maxL := 5) (ret := none) (by decide) rfl ?_
  intro p e s m args below meth c s₁ B hml hpre
  obtain ⟨rfl, hsz, hP, hK, hD0, hN⟩ := hpre
  have hx := B.exec
  have hb := B.bytes
  have hr := B.returns
  have hts := atoms_spec (ws := wsX7_move) B.pre
  have hown : s.vm.findClass RX7 = some m.cls := findClass_of_methodNamed B.named
  have hlocks := B.notSynchronized
  subst hsz
  have hD := hD0.self (sz := s.heap.size)
  generalize hAe : va_A ((w_Sprites cT a M)) s.heap.size = A at hD hN ⊢
  have hA : ∀ q : Nat, s.heap.size ≤ q → A q := fun q h => by rw [← hAe]; exact Or.inr h
  have hS : va_S A s.heap s.heap [] := va_S.rf
  have hl := lv_entry ([.ref (a 0), .int p1, .int p2, .int p3, .int p4]) (n := 5) (Nat.le_of_ble_eq_true rfl)
  rw [lg_entry_eq]
  generalize (lg_sl ([.ref (a 0), .int p1, .int p2, .int p3, .int p4]) ++ List.replicate (5 - (lg_sl ([.ref (a 0), .int p1, .int p2, .int p3, .int p4])).length) Slot.unset).toArray = ls at hl ⊢
  have hl : lv_has ls 5 [(0, .ref (a 0)), (1, .int p1), (2, .int p2), (3, .int p3), (4, .int p4)] := hl
  have in_X7 : ∀ w ∈ wsX70, w ∈ wsX7_move := by decide +kernel
  have w_27 : CallW (headSpec wsX7_move ({ frames := 2, cells := 0, slots := 0, locals := 44 })).room s ([.ref (a 0), .int p1, .int p2, .int p3, .int p4] : List Value).toArray RX7 RX7 27 yX7_turnPresence cX7_turnPresence 4 none wsX7_turnPresence ({ frames := 1, cells := 0, slots := 0, locals := 21 } : Room) 0 0 1 := cwV 1 hts gX7_move_X7_turnPresence rfl rfl rfl (by decide +kernel) ⟨Nat.le_of_ble_eq_true rfl, Nat.le_of_ble_eq_true rfl⟩
  have kf_9 : (Cond.fieldLink RX7 9 "PictureBeats$Sprites" "xs" "[I").before ([.ref (a 0), .int p1, .int p2, .int p3, .int p4] : List Value).toArray s = true := hts _ (by decide +kernel)
  have kf_15 : (Cond.fieldLink RX7 15 "PictureBeats$Sprites" "rows" "[I").before ([.ref (a 0), .int p1, .int p2, .int p3, .int p4] : List Value).toArray s = true := hts _ (by decide +kernel)
  have kf_18 : (Cond.fieldLink RX7 18 "PictureBeats$Sprites" "heights" "[I").before ([.ref (a 0), .int p1, .int p2, .int p3, .int p4] : List Value).toArray s = true := hts _ (by decide +kernel)
  refine lv_aload_n hx hb dX7_move_0 rfl (lv_at hl 0 rfl) ?_
  refine lv_iload_n hx hb dX7_move_1 rfl (lv_at hl 1 rfl) ?_
  refine x_cVv (As := [.int p1]) (rest := []) (wn := fun u_1 => (w_Sprites cT a u_1)) ⟨hx, hb, hml, hown, hts⟩ (c_X7_turnPresence l D cT a M p1 _ _ hv) w_27 hK hP hD hS hA hN [0, 1, 2, 3, 4, 5] [] [0, 1, 2, 3, 4, 5] rfl rfl (fun _ => rfl) (by decide) (by decide) (by decide) (by decide) 7 0 rfl rfl rfl hl.1 rfl (Nat.le_of_ble_eq_true rfl) dX7_move_2 ⟨Nat.le_of_ble_eq_true rfl, Nat.le_of_ble_eq_true rfl⟩ (fun u_1 H locs hv hP hD hS => ?_)
  refine lv_aload_n hx hb dX7_move_5 rfl (lv_at hl 0 rfl) ?_
  refine va_get (D := D) (ci := 7) (v := .ref (a 1)) (C := RX7) (T := TX7) (N := 5) hx hb hts in_X7 hown hK hP 0 rfl rfl 0 (by decide) kf_9 (fun _ h9 => h9) rfl dX7_move_6 ?_
  refine lv_iload_n hx hb dX7_move_9 rfl (lv_at hl 1 rfl) ?_
  refine lv_iload_n hx hb dX7_move_10 rfl (lv_at hl 2 rfl) ?_
  obtain ⟨k_2, hk_2, ik_2, hv⟩ := hv
  refine x_ast hx hb hK hP hD hS 1 0 rfl rfl k_2 ik_2 hk_2 (by decide) dX7_move_11 (fun H locs hP hD hS => ?_)
  obtain ⟨M_3, eM_3⟩ : ∃ z : ST, z = x_st u_1 1 k_2 p2 := ⟨_, rfl⟩
  have hP : va_P D vwCl ((w_Sprites cT a M_3)) H := by rw [eM_3]; exact hP
  have hD : va_D A ((w_Sprites cT a M_3)) := by rw [eM_3]; exact hD
  have hv := hv M_3 eM_3
  refine lv_aload_n hx hb dX7_move_12 rfl (lv_at hl 0 rfl) ?_
  refine va_get (D := D) (ci := 7) (v := .ref (a 2)) (C := RX7) (T := TX7) (N := 5) hx hb hts in_X7 hown hK hP 0 rfl rfl 1 (by decide) kf_15 (fun _ h9 => h9) rfl dX7_move_13 ?_
  refine lv_iload_n hx hb dX7_move_16 rfl (lv_at hl 1 rfl) ?_
  refine lv_iload_n hx hb dX7_move_17 rfl (lv_at hl 3 rfl) ?_
  refine x_ast hx hb hK hP hD hS 2 0 rfl rfl k_2 ik_2 hk_2 (by decide) dX7_move_18 (fun H locs hP hD hS => ?_)
  obtain ⟨M_4, eM_4⟩ : ∃ z : ST, z = x_st M_3 2 k_2 p3 := ⟨_, rfl⟩
  have hP : va_P D vwCl ((w_Sprites cT a M_4)) H := by rw [eM_4]; exact hP
  have hD : va_D A ((w_Sprites cT a M_4)) := by rw [eM_4]; exact hD
  have hv := hv M_4 eM_4
  refine lv_aload_n hx hb dX7_move_19 rfl (lv_at hl 0 rfl) ?_
  refine va_get (D := D) (ci := 7) (v := .ref (a 3)) (C := RX7) (T := TX7) (N := 5) hx hb hts in_X7 hown hK hP 0 rfl rfl 2 (by decide) kf_18 (fun _ h9 => h9) rfl dX7_move_20 ?_
  refine lv_iload_n hx hb dX7_move_23 rfl (lv_at hl 1 rfl) ?_
  refine lv_iload hx hb dX7_move_24 (lv_at hl 4 rfl) ?_
  refine x_ast hx hb hK hP hD hS 3 0 rfl rfl k_2 ik_2 hk_2 (by decide) dX7_move_26 (fun H locs hP hD hS => ?_)
  obtain ⟨M_5, eM_5⟩ : ∃ z : ST, z = x_st M_4 3 k_2 p4 := ⟨_, rfl⟩
  have hP : va_P D vwCl ((w_Sprites cT a M_5)) H := by rw [eM_5]; exact hP
  have hD : va_D A ((w_Sprites cT a M_5)) := by rw [eM_5]; exact hD
  have hv := hv M_5 eM_5
  refine lv_aload_n hx hb dX7_move_27 rfl (lv_at hl 0 rfl) ?_
  refine lv_iload_n hx hb dX7_move_28 rfl (lv_at hl 1 rfl) ?_
  refine x_cVv (As := [.int p1]) (rest := []) (wn := fun u_6 => (w_Sprites cT a u_6)) ⟨hx, hb, hml, hown, hts⟩ (c_X7_turnPresence l D cT a M_5 p1 _ _ hv) w_27 hK hP hD hS hA hN [0, 1, 2, 3, 4, 5] [] [0, 1, 2, 3, 4, 5] rfl rfl (fun _ => rfl) (by decide) (by decide) (by decide) (by decide) 7 0 rfl rfl rfl hl.1 rfl (Nat.le_of_ble_eq_true rfl) dX7_move_29 ⟨Nat.le_of_ble_eq_true rfl, Nat.le_of_ble_eq_true rfl⟩ (fun u_6 H locs hv hP hD hS => ?_)
  exact W.vret hx hb hr (fun t ht hW => ⟨⟨u_6, rfl, hv, by rw [ht]; exact hP, va_K.moved hW.alike hK, hD⟩, hS.F ht⟩) hS.2.2 dX7_move_32
def lp_X7_draw_3 (p1 : Int32) (p2 : Int32) (p3 : Int32) (post : ST → Prop) (K_ : Int32 → ST → Prop) : Nat → Int32 → ST → Prop
  | 0, _, _ => False
  | n_6 + 1, y_4, M_5 => (((4 ≤ y_4) → K_ y_4 M_5) ∧ ((¬ (4 ≤ y_4)) → ∃ k_8 : Nat, k_8 < 64 ∧ (((p1 * 8) + p2) + y_4) = nI k_8 ∧ ∀ M_9 : ST, M_9 = x_st M_5 4 k_8 ((x_ushr p3 (24 - (8 * y_4))) &&& 255) → ∀ x_10 : Int32, x_10 = y_4 + 1 → lp_X7_draw_3 p1 p2 p3 post K_ n_6 x_10 M_9))
def v_X7_draw (M : ST) (p1 : Int32) (p2 : Int32) (p3 : Int32) (post : ST → Prop) : Prop := (∃ n_11 : Nat, lp_X7_draw_3 p1 p2 p3 post (fun (y_2 : Int32) (M_3 : ST) => post M_3) n_11 0 M)
set_option maxHeartbeats 4000000 in
set_option maxRecDepth 100000 in
theorem c_X7_draw (l : Launch) (D : va_G) (cT : Nat → ClassId) (a : Nat → Nat) (M : ST) (p1 : Int32) (p2 : Int32) (p3 : Int32) (sz : Nat) (post : ST → Prop) (hv : v_X7_draw M p1 p2 p3 post) : Met l yX7_draw wsX7_draw ({ frames := 0, cells := 0, slots := 0, locals := 0 }) (va_Pc [.ref (a 0), .int p1, .int p2, .int p3] (x_U D cT ((w_Sprites cT a M)) sz)) (va_Qv post (fun u t => x_B D cT ((w_Sprites cT a u)) (va_A ((w_Sprites cT a M)) sz) t) (va_A ((w_Sprites cT a M)) sz)) 0 0 (va_A ((w_Sprites cT a M)) sz) := by
  refine Met.ofW (cc := cX7_draw) (maxL := 5) (ret := none) (by decide) rfl ?_
  intro p e s m args below meth c s₁ B hml hpre
  obtain ⟨rfl, hsz, hP, hK, hD0, hN⟩ := hpre
  have hx := B.exec
  have hb := B.bytes
  have hr := B.returns
  have hts := atoms_spec (ws := wsX7_draw) B.pre
  have hown : s.vm.findClass RX7 = some m.cls := findClass_of_methodNamed B.named
  have hlocks := B.notSynchronized
  subst hsz
  have hD := hD0.self (sz := s.heap.size)
  generalize hAe : va_A ((w_Sprites cT a M)) s.heap.size = A at hD hN ⊢
  have hA : ∀ q : Nat, s.heap.size ≤ q → A q := fun q h => by rw [← hAe]; exact Or.inr h
  have hS : va_S A s.heap s.heap [] := va_S.rf
  have hl := lv_entry ([.ref (a 0), .int p1, .int p2, .int p3]) (n := 5) (Nat.le_of_ble_eq_true rfl)
  rw [lg_entry_eq]
  generalize (lg_sl ([.ref (a 0), .int p1, .int p2, .int p3]) ++ List.replicate (5 - (lg_sl ([.ref (a 0), .int p1, .int p2, .int p3])).length) Slot.unset).toArray = ls at hl ⊢
  have hl : lv_has ls 5 [(0, .ref (a 0)), (1, .int p1), (2, .int p2), (3, .int p3)] := hl
  have in_X7 : ∀ w ∈ wsX70, w ∈ wsX7_draw := by decide +kernel
  have kf_21 : (Cond.fieldLink RX7 21 "PictureBeats$Sprites" "drawn" "[I").before ([.ref (a 0), .int p1, .int p2, .int p3] : List Value).toArray s = true := hts _ (by decide +kernel)
  refine lv_iconst (v := 0) hx hb dX7_draw_0 (by decide) ?_
  refine lv_istore (lv' := [(4, .int 0), (0, .ref (a 0)), (1, .int p1), (2, .int p2), (3, .int p3)]) hx hb dX7_draw_1 hl (by decide) rfl (fun ls hl => ?_)
  obtain ⟨n_11, hv⟩ := hv
  have K_L_1 : ∀ (y_2 : Int32) (M_3 : ST), (post M_3) → ∀ (H : Heap) (locs : List Loc), va_P D vwCl ((w_Sprites cT a M_3)) H → va_D A ((w_Sprites cT a M_3)) → va_S A s.heap H locs → ∀ ls : Array Slot, lv_has ls 5 [(4, .int y_2), (0, .ref (a 0)), (1, .int p1), (2, .int p2), (3, .int p3)] → W p l e (headSpec wsX7_draw ({ frames := 0, cells := 0, slots := 0, locals := 0 })).room s m ([.ref (a 0), .int p1, .int p2, .int p3] : List Value).toArray below meth c H locs 0 0 (MQ below (va_Qv post (fun u t => x_B D cT ((w_Sprites cT a u)) A t) A) ([.ref (a 0), .int p1, .int p2, .int p3] : List Value).toArray s 0 0 A) (F0 m 43 ls []) := by
    intro y_2 M_3 hv H locs hP hD hS ls hl
    exact W.vret hx hb hr (fun t ht hW => ⟨⟨M_3, rfl, hv, by rw [ht]; exact hP, va_K.moved hW.alike hK, hD⟩, hS.F ht⟩) hS.2.2 dX7_draw_43
  have L_1 : ∀ n_6 : Nat, ∀ (y_4 : Int32) (M_5 : ST), (lp_X7_draw_3 p1 p2 p3 post (fun (y_2 : Int32) (M_3 : ST) => post M_3) n_6 y_4 M_5) → ∀ (H : Heap) (locs : List Loc), va_P D vwCl ((w_Sprites cT a M_5)) H → va_D A ((w_Sprites cT a M_5)) → va_S A s.heap H locs → ∀ ls : Array Slot, lv_has ls 5 [(4, .int y_4), (0, .ref (a 0)), (1, .int p1), (2, .int p2), (3, .int p3)] → W p l e (headSpec wsX7_draw ({ frames := 0, cells := 0, slots := 0, locals := 0 })).room s m ([.ref (a 0), .int p1, .int p2, .int p3] : List Value).toArray below meth c H locs 0 0 (MQ below (va_Qv post (fun u t => x_B D cT ((w_Sprites cT a u)) A t) A) ([.ref (a 0), .int p1, .int p2, .int p3] : List Value).toArray s 0 0 A) (F0 m 3 ls []) := by
    intro n_6
    induction n_6 with
    | zero =>
      intro y_4 M_5 hv
      exact hv.elim
    | succ n_6 L_1_ih =>
      intro y_4 M_5 hv H locs hP hD hS ls hl
      refine lv_iload hx hb dX7_draw_3 (lv_at hl 0 rfl) ?_
      refine lv_iconst (v := 4) hx hb dX7_draw_5 (by decide) ?_
      refine lv_icmp_ge (tgt := 43) hx hb dX7_draw_6 (by decide) (fun c_7 => ?_) (fun c_7 => ?_)
      · have hv := hv.1 c_7
        exact K_L_1 _ _ hv H locs hP hD hS ls (lv_sub hl [0, 1, 2, 3, 4] rfl)
      · have hv := hv.2 c_7
        refine lv_aload_n hx hb dX7_draw_9 rfl (lv_at hl 1 rfl) ?_
        refine va_get (D := D) (ci := 7) (v := .ref (a 4)) (C := RX7) (T := TX7) (N := 5) hx hb hts in_X7 hown hK hP 0 rfl rfl 3 (by decide) kf_21 (fun _ h9 => h9) rfl dX7_draw_10 ?_
        refine lv_iload_n hx hb dX7_draw_13 rfl (lv_at hl 2 rfl) ?_
        refine lv_bipush (v := 8) hx hb dX7_draw_14 (by decide) ?_
        refine lv_imul hx hb dX7_draw_16 ?_
        refine lv_iload_n hx hb dX7_draw_17 rfl (lv_at hl 3 rfl) ?_
        refine lv_iadd hx hb dX7_draw_18 ?_
        refine lv_iload hx hb dX7_draw_19 (lv_at hl 0 rfl) ?_
        refine lv_iadd hx hb dX7_draw_21 ?_
        refine lv_iload_n hx hb dX7_draw_22 rfl (lv_at hl 4 rfl) ?_
        refine lv_bipush (v := 24) hx hb dX7_draw_23 (by decide) ?_
        refine lv_bipush (v := 8) hx hb dX7_draw_25 (by decide) ?_
        refine lv_iload hx hb dX7_draw_27 (lv_at hl 0 rfl) ?_
        refine lv_imul hx hb dX7_draw_29 ?_
        refine lv_isub hx hb dX7_draw_30 ?_
        refine lv_iushr (v := x_ushr p3 (24 - (8 * y_4))) hx hb dX7_draw_31 rfl ?_
        refine lv_sipush (v := 255) hx hb dX7_draw_32 (by decide) ?_
        refine lv_iand hx hb dX7_draw_35 ?_
        obtain ⟨k_8, hk_8, ik_8, hv⟩ := hv
        refine x_ast hx hb hK hP hD hS 4 0 rfl rfl k_8 ik_8 hk_8 (by decide) dX7_draw_36 (fun H locs hP hD hS => ?_)
        obtain ⟨M_9, eM_9⟩ : ∃ z : ST, z = x_st M_5 4 k_8 ((x_ushr p3 (24 - (8 * y_4))) &&& 255) := ⟨_, rfl⟩
        have hP : va_P D vwCl ((w_Sprites cT a M_9)) H := by rw [eM_9]; exact hP
        have hD : va_D A ((w_Sprites cT a M_9)) := by rw [eM_9]; exact hD
        have hv := hv M_9 eM_9
        obtain ⟨x_10, ex_10⟩ : ∃ z : Int32, z = y_4 + 1 := ⟨_, rfl⟩
        have hv := hv x_10 ex_10
        refine lv_iinc (v := x_10) (lv' := [(4, .int x_10), (0, .ref (a 0)), (1, .int p1), (2, .int p2), (3, .int p3)]) hx hb dX7_draw_37 hl (k := 0) rfl (by rw [ex_10]; rfl) (by decide) rfl (fun ls hl => ?_)
        refine lv_goto (tgt := 3) hx hb dX7_draw_40 (by decide) ?_
        exact L_1_ih _ _ hv H locs hP hD hS ls (lv_sub hl [0, 1, 2, 3, 4] rfl)
  exact L_1 n_11 _ _ hv _ _ hP hD hS ls hl
def lp_X7_membersOf_12  (post : Int32 → Prop) (K_ : Int32 → Int32 → Int32 → Prop) : Nat → Int32 → Int32 → Int32 → Prop
  | 0, _, _, _ => False
  | n_9 + 1, y_6, y_7, y_8 => (((3 ≤ y_6) → K_ y_6 y_7 y_8) ∧ ((¬ (3 ≤ y_6)) → ∀ x_11 : Int32, x_11 = (y_8 &&& (-y_8)) → ∀ x_12 : Int32, x_12 = (y_7 ||| x_11) → ∀ x_13 : Int32, x_13 = (y_8 ^^^ x_11) → ∀ x_14 : Int32, x_14 = y_6 + 1 → lp_X7_membersOf_12  post K_ n_9 x_14 x_12 x_13))
def v_X7_membersOf (M : ST) (p1 : Int32) (post : Int32 → Prop) : Prop := ∃ k_1 : Nat, k_1 < 64 ∧ p1 = nI k_1 ∧ (∃ n_15 : Nat, lp_X7_membersOf_12  post (fun (y_3 : Int32) (y_4 : Int32) (y_5 : Int32) => post y_4) n_15 0 0 (M 5 k_1))
set_option maxHeartbeats 4000000 in
set_option maxRecDepth 100000 in
theorem c_X7_membersOf (l : Launch) (D : va_G) (cT : Nat → ClassId) (a : Nat → Nat) (M : ST) (p1 : Int32) (post : Int32 → Prop) (hv : v_X7_membersOf M p1 post) : Met l yX7_membersOf wsX7_membersOf ({ frames := 0, cells := 0, slots := 0, locals := 0 }) (va_Pc [.ref (a 0), .int p1] (x_R D cT ((w_Sprites cT a M)))) (vp_Si post) 0 0 (fun _ => False) := by
  refine Met.ofW (cc := cX7_membersOf) (maxL := 6) (ret := (some .int)) (by decide) rfl ?_
  intro p e s m args below meth c s₁ B hml hpre
  obtain ⟨rfl, hP, hK, hN⟩ := hpre
  have hx := B.exec
  have hb := B.bytes
  have hr := B.returns
  have hts := atoms_spec (ws := wsX7_membersOf) B.pre
  have hown : s.vm.findClass RX7 = some m.cls := findClass_of_methodNamed B.named
  have hlocks := B.notSynchronized
  have hS : va_S (fun _ : Nat => False) s.heap s.heap [] := va_S.rf
  have hl := lv_entry ([.ref (a 0), .int p1]) (n := 6) (Nat.le_of_ble_eq_true rfl)
  rw [lg_entry_eq]
  generalize (lg_sl ([.ref (a 0), .int p1]) ++ List.replicate (6 - (lg_sl ([.ref (a 0), .int p1])).length) Slot.unset).toArray = ls at hl ⊢
  have hl : lv_has ls 6 [(0, .ref (a 0)), (1, .int p1)] := hl
  have in_X7 : ∀ w ∈ wsX70, w ∈ wsX7_membersOf := by decide +kernel
  have kf_24 : (Cond.fieldLink RX7 24 "PictureBeats$Sprites" "present" "[I").before ([.ref (a 0), .int p1] : List Value).toArray s = true := hts _ (by decide +kernel)
  refine lv_aload_n hx hb dX7_membersOf_0 rfl (lv_at hl 0 rfl) ?_
  refine va_get (D := D) (ci := 7) (v := .ref (a 5)) (C := RX7) (T := TX7) (N := 5) hx hb hts in_X7 hown hK hP 0 rfl rfl 4 (by decide) kf_24 (fun _ h9 => h9) rfl dX7_membersOf_1 ?_
  refine lv_iload_n hx hb dX7_membersOf_4 rfl (lv_at hl 1 rfl) ?_
  obtain ⟨k_1, hk_1, ik_1, hv⟩ := hv
  refine x_ald hx hb hK hP 5 0 rfl rfl k_1 ik_1 hk_1 (by decide) dX7_membersOf_5 ?_
  refine lv_istore_n (lv' := [(2, .int (M 5 k_1)), (0, .ref (a 0)), (1, .int p1)]) hx hb dX7_membersOf_6 rfl hl (by decide) rfl (fun ls hl => ?_)
  refine lv_iconst (v := 0) hx hb dX7_membersOf_7 (by decide) ?_
  refine lv_istore_n (lv' := [(3, .int 0), (2, .int (M 5 k_1)), (0, .ref (a 0)), (1, .int p1)]) hx hb dX7_membersOf_8 rfl hl (by decide) rfl (fun ls hl => ?_)
  refine lv_iconst (v := 0) hx hb dX7_membersOf_9 (by decide) ?_
  refine lv_istore (lv' := [(4, .int 0), (3, .int 0), (2, .int (M 5 k_1)), (0, .ref (a 0)), (1, .int p1)]) hx hb dX7_membersOf_10 hl (by decide) rfl (fun ls hl => ?_)
  obtain ⟨n_15, hv⟩ := hv
  have K_L_2 : ∀ (y_3 : Int32) (y_4 : Int32) (y_5 : Int32), (post y_4) → ∀ ls : Array Slot, lv_has ls 6 [(4, .int y_3), (3, .int y_4), (2, .int y_5), (0, .ref (a 0)), (1, .int p1)] → W p l e (headSpec wsX7_membersOf ({ frames := 0, cells := 0, slots := 0, locals := 0 })).room s m ([.ref (a 0), .int p1] : List Value).toArray below meth c s.heap [] 0 0 (MQ below (vp_Si post) ([.ref (a 0), .int p1] : List Value).toArray s 0 0 (fun _ => False)) (F0 m 40 ls []) := by
    intro y_3 y_4 y_5 hv ls hl
    refine lv_iload_n hx hb dX7_membersOf_40 rfl (lv_at hl 1 rfl) ?_
    exact W.iret (v := y_4) hx hb hr (fun t ht hW => ⟨_, rfl, hv, ht⟩) (fun q h => absurd h List.not_mem_nil) dX7_membersOf_41
  have L_2 : ∀ n_9 : Nat, ∀ (y_6 : Int32) (y_7 : Int32) (y_8 : Int32), (lp_X7_membersOf_12  post (fun (y_3 : Int32) (y_4 : Int32) (y_5 : Int32) => post y_4) n_9 y_6 y_7 y_8) → ∀ ls : Array Slot, lv_has ls 6 [(4, .int y_6), (3, .int y_7), (2, .int y_8), (0, .ref (a 0)), (1, .int p1)] → W p l e (headSpec wsX7_membersOf ({ frames := 0, cells := 0, slots := 0, locals := 0 })).room s m ([.ref (a 0), .int p1] : List Value).toArray below meth c s.heap [] 0 0 (MQ below (vp_Si post) ([.ref (a 0), .int p1] : List Value).toArray s 0 0 (fun _ => False)) (F0 m 12 ls []) := by
    intro n_9
    induction n_9 with
    | zero =>
      intro y_6 y_7 y_8 hv
      exact hv.elim
    | succ n_9 L_2_ih =>
      intro y_6 y_7 y_8 hv ls hl
      refine lv_iload hx hb dX7_membersOf_12 (lv_at hl 0 rfl) ?_
      refine lv_iconst (v := 3) hx hb dX7_membersOf_14 (by decide) ?_
      refine lv_icmp_ge (tgt := 40) hx hb dX7_membersOf_15 (by decide) (fun c_10 => ?_) (fun c_10 => ?_)
      · have hv := hv.1 c_10
        exact K_L_2 _ _ _ hv ls (lv_sub hl [0, 1, 2, 3, 4] rfl)
      · have hv := hv.2 c_10
        refine lv_iload_n hx hb dX7_membersOf_18 rfl (lv_at hl 2 rfl) ?_
        refine lv_iload_n hx hb dX7_membersOf_19 rfl (lv_at hl 2 rfl) ?_
        refine lv_ineg hx hb dX7_membersOf_20 ?_
        refine lv_iand hx hb dX7_membersOf_21 ?_
        refine lv_topi (fun x_11 ex_11 => ?_)
        have hv := hv x_11 ex_11
        refine lv_istore (lv' := [(5, .int x_11), (4, .int y_6), (3, .int y_7), (2, .int y_8), (0, .ref (a 0)), (1, .int p1)]) hx hb dX7_membersOf_22 hl (by decide) rfl (fun ls hl => ?_)
        refine lv_iload_n hx hb dX7_membersOf_24 rfl (lv_at hl 2 rfl) ?_
        refine lv_iload hx hb dX7_membersOf_25 (lv_at hl 0 rfl) ?_
        refine lv_ior hx hb dX7_membersOf_27 ?_
        refine lv_topi (fun x_12 ex_12 => ?_)
        have hv := hv x_12 ex_12
        refine lv_istore_n (lv' := [(3, .int x_12), (5, .int x_11), (4, .int y_6), (2, .int y_8), (0, .ref (a 0)), (1, .int p1)]) hx hb dX7_membersOf_28 rfl hl (by decide) rfl (fun ls hl => ?_)
        refine lv_iload_n hx hb dX7_membersOf_29 rfl (lv_at hl 3 rfl) ?_
        refine lv_iload hx hb dX7_membersOf_30 (lv_at hl 1 rfl) ?_
        refine lv_ixor hx hb dX7_membersOf_32 ?_
        refine lv_topi (fun x_13 ex_13 => ?_)
        have hv := hv x_13 ex_13
        refine lv_istore_n (lv' := [(2, .int x_13), (3, .int x_12), (5, .int x_11), (4, .int y_6), (0, .ref (a 0)), (1, .int p1)]) hx hb dX7_membersOf_33 rfl hl (by decide) rfl (fun ls hl => ?_)
        obtain ⟨x_14, ex_14⟩ : ∃ z : Int32, z = y_6 + 1 := ⟨_, rfl⟩
        have hv := hv x_14 ex_14
        refine lv_iinc (v := x_14) (lv' := [(4, .int x_14), (2, .int x_13), (3, .int x_12), (5, .int x_11), (0, .ref (a 0)), (1, .int p1)]) hx hb dX7_membersOf_34 hl (k := 3) rfl (by rw [ex_14]; rfl) (by decide) rfl (fun ls hl => ?_)
        refine lv_goto (tgt := 12) hx hb dX7_membersOf_37 (by decide) ?_
        exact L_2_ih _ _ _ hv ls (lv_sub hl [0, 2, 1, 4, 5] rfl)
  exact L_2 n_15 _ _ _ hv ls hl
def v_X7_hasBit (M : ST) (p1 : Int32) (p2 : Int32) (p3 : Int32) (post : Int32 → Prop) : Prop := ∃ k_1 : Nat, k_1 < 8 ∧ p1 = nI k_1 ∧ ∀ x_2 : Int32, x_2 = (p2 - (M 1 k_1)) → ∀ x_3 : Int32, x_3 = (p3 - (M 2 k_1)) → v_X8_within x_2 0 7 (fun r_4 => (((r_4 = 0) → post 0) ∧ ((¬ (r_4 = 0)) → v_X8_within x_3 0 7 (fun r_6 => (((¬ (r_6 = 0)) → ∃ k_8 : Nat, k_8 < 64 ∧ ((p1 * 8) + x_3) = nI k_8 ∧ (((¬ ((((M 4 k_8) >>> ((7 - x_2) &&& 31)) &&& 1) = 1)) → post 0) ∧ (((((M 4 k_8) >>> ((7 - x_2) &&& 31)) &&& 1) = 1) → post 1))) ∧ ((r_6 = 0) → post 0))))))
set_option maxHeartbeats 4000000 in
set_option maxRecDepth 100000 in
theorem c_X7_hasBit (l : Launch) (D : va_G) (cT : Nat → ClassId) (a : Nat → Nat) (M : ST) (p1 : Int32) (p2 : Int32) (p3 : Int32) (post : Int32 → Prop) (hv : v_X7_hasBit M p1 p2 p3 post) : Met l yX7_hasBit wsX7_hasBit ({ frames := 1, cells := 0, slots := 0, locals := 22 }) (va_Pc [.ref (a 0), .int p1, .int p2, .int p3] (x_R D cT ((w_Sprites cT a M)))) (vp_Si post) 0 0 (fun _ => False) := by
  refine Met.ofW (cc := cX7_hasBit) (maxL := 6) (ret := (some .boolean)) (by decide) rfl ?_
  intro p e s m args below meth c s₁ B hml hpre
  obtain ⟨rfl, hP, hK, hN⟩ := hpre
  have hx := B.exec
  have hb := B.bytes
  have hr := B.returns
  have hts := atoms_spec (ws := wsX7_hasBit) B.pre
  have hown : s.vm.findClass RX7 = some m.cls := findClass_of_methodNamed B.named
  have hlocks := B.notSynchronized
  have hS : va_S (fun _ : Nat => False) s.heap s.heap [] := va_S.rf
  have hl := lv_entry ([.ref (a 0), .int p1, .int p2, .int p3]) (n := 6) (Nat.le_of_ble_eq_true rfl)
  rw [lg_entry_eq]
  generalize (lg_sl ([.ref (a 0), .int p1, .int p2, .int p3]) ++ List.replicate (6 - (lg_sl ([.ref (a 0), .int p1, .int p2, .int p3])).length) Slot.unset).toArray = ls at hl ⊢
  have hl : lv_has ls 6 [(0, .ref (a 0)), (1, .int p1), (2, .int p2), (3, .int p3)] := hl
  have in_X7 : ∀ w ∈ wsX70, w ∈ wsX7_hasBit := by decide +kernel
  have kf_9 : (Cond.fieldLink RX7 9 "PictureBeats$Sprites" "xs" "[I").before ([.ref (a 0), .int p1, .int p2, .int p3] : List Value).toArray s = true := hts _ (by decide +kernel)
  have kf_15 : (Cond.fieldLink RX7 15 "PictureBeats$Sprites" "rows" "[I").before ([.ref (a 0), .int p1, .int p2, .int p3] : List Value).toArray s = true := hts _ (by decide +kernel)
  have w_45 : va_CN (headSpec wsX7_hasBit ({ frames := 1, cells := 0, slots := 0, locals := 22 })).room s ([.ref (a 0), .int p1, .int p2, .int p3] : List Value).toArray RX7 45 yX8_within RX8 cX8_within 3 (some .boolean) wsX8_within ({ frames := 0, cells := 0, slots := 0, locals := 0 } : Room) 0 0 3 ∧ (Cond.static yX8_within).before ([.ref (a 0), .int p1, .int p2, .int p3] : List Value).toArray s = true ∧ True := ⟨va_cnB 3 hts gX7_hasBit_X8_within_n45 rfl rfl rfl (hN.1.2.2.2.2.2.2.2.2.2.2) (hts (.initialized RX8) (by decide +kernel)) (by decide +kernel) ⟨Nat.le_of_ble_eq_true rfl, Nat.le_of_ble_eq_true rfl⟩, hts _ (by decide +kernel), trivial⟩
  have kf_21 : (Cond.fieldLink RX7 21 "PictureBeats$Sprites" "drawn" "[I").before ([.ref (a 0), .int p1, .int p2, .int p3] : List Value).toArray s = true := hts _ (by decide +kernel)
  refine lv_iload_n hx hb dX7_hasBit_0 rfl (lv_at hl 2 rfl) ?_
  refine lv_aload_n hx hb dX7_hasBit_1 rfl (lv_at hl 0 rfl) ?_
  refine va_get (D := D) (ci := 7) (v := .ref (a 1)) (C := RX7) (T := TX7) (N := 5) hx hb hts in_X7 hown hK hP 0 rfl rfl 0 (by decide) kf_9 (fun _ h9 => h9) rfl dX7_hasBit_2 ?_
  refine lv_iload_n hx hb dX7_hasBit_5 rfl (lv_at hl 1 rfl) ?_
  obtain ⟨k_1, hk_1, ik_1, hv⟩ := hv
  refine x_ald hx hb hK hP 1 0 rfl rfl k_1 ik_1 hk_1 (by decide) dX7_hasBit_6 ?_
  refine lv_isub hx hb dX7_hasBit_7 ?_
  refine lv_topi (fun x_2 ex_2 => ?_)
  have hv := hv x_2 ex_2
  refine lv_istore (lv' := [(4, .int x_2), (0, .ref (a 0)), (1, .int p1), (2, .int p2), (3, .int p3)]) hx hb dX7_hasBit_8 hl (by decide) rfl (fun ls hl => ?_)
  refine lv_iload_n hx hb dX7_hasBit_10 rfl (lv_at hl 4 rfl) ?_
  refine lv_aload_n hx hb dX7_hasBit_11 rfl (lv_at hl 1 rfl) ?_
  refine va_get (D := D) (ci := 7) (v := .ref (a 2)) (C := RX7) (T := TX7) (N := 5) hx hb hts in_X7 hown hK hP 0 rfl rfl 1 (by decide) kf_15 (fun _ h9 => h9) rfl dX7_hasBit_12 ?_
  refine lv_iload_n hx hb dX7_hasBit_15 rfl (lv_at hl 2 rfl) ?_
  refine x_ald hx hb hK hP 2 0 rfl rfl k_1 ik_1 hk_1 (by decide) dX7_hasBit_16 ?_
  refine lv_isub hx hb dX7_hasBit_17 ?_
  refine lv_topi (fun x_3 ex_3 => ?_)
  have hv := hv x_3 ex_3
  refine lv_istore (lv' := [(5, .int x_3), (4, .int x_2), (0, .ref (a 0)), (1, .int p1), (2, .int p2), (3, .int p3)]) hx hb dX7_hasBit_18 hl (by decide) rfl (fun ls hl => ?_)
  refine lv_iload hx hb dX7_hasBit_20 (lv_at hl 1 rfl) ?_
  refine lv_iconst (v := 0) hx hb dX7_hasBit_22 (by decide) ?_
  refine lv_bipush (v := 7) hx hb dX7_hasBit_23 (by decide) ?_
  refine x_rN (As := [.int x_2, .int 0, .int 7]) (rest := []) ⟨hx, hb, hml, hown, hts⟩ (c_X8_within l D cT x_2 0 7 _ hv) w_45 hK hS hN rfl hl.1 rfl (Nat.le_of_ble_eq_true rfl) dX7_hasBit_25 ⟨Nat.le_of_ble_eq_true rfl, Nat.le_of_ble_eq_true rfl⟩ (fun r_4 hv => ?_)
  refine lv_if_eq (tgt := 42) hx hb dX7_hasBit_28 (by decide) (fun c_5 => ?_) (fun c_5 => ?_)
  · have hv := hv.1 c_5
    refine lv_iconst (v := 0) hx hb dX7_hasBit_42 (by decide) ?_
    exact W.zret (v := 0) hx hb hr rfl (fun t ht hW => ⟨_, rfl, hv, ht⟩) (fun q h => absurd h List.not_mem_nil) dX7_hasBit_43
  · have hv := hv.2 c_5
    refine lv_iload hx hb dX7_hasBit_31 (lv_at hl 0 rfl) ?_
    refine lv_iconst (v := 0) hx hb dX7_hasBit_33 (by decide) ?_
    refine lv_bipush (v := 7) hx hb dX7_hasBit_34 (by decide) ?_
    refine x_rN (As := [.int x_3, .int 0, .int 7]) (rest := []) ⟨hx, hb, hml, hown, hts⟩ (c_X8_within l D cT x_3 0 7 _ hv) w_45 hK hS hN rfl hl.1 rfl (Nat.le_of_ble_eq_true rfl) dX7_hasBit_36 ⟨Nat.le_of_ble_eq_true rfl, Nat.le_of_ble_eq_true rfl⟩ (fun r_6 hv => ?_)
    refine lv_if_ne (tgt := 44) hx hb dX7_hasBit_39 (by decide) (fun c_7 => ?_) (fun c_7 => ?_)
    · have hv := hv.1 c_7
      refine lv_aload_n hx hb dX7_hasBit_44 rfl (lv_at hl 2 rfl) ?_
      refine va_get (D := D) (ci := 7) (v := .ref (a 4)) (C := RX7) (T := TX7) (N := 5) hx hb hts in_X7 hown hK hP 0 rfl rfl 3 (by decide) kf_21 (fun _ h9 => h9) rfl dX7_hasBit_45 ?_
      refine lv_iload_n hx hb dX7_hasBit_48 rfl (lv_at hl 3 rfl) ?_
      refine lv_bipush (v := 8) hx hb dX7_hasBit_49 (by decide) ?_
      refine lv_imul hx hb dX7_hasBit_51 ?_
      refine lv_iload hx hb dX7_hasBit_52 (lv_at hl 0 rfl) ?_
      refine lv_iadd hx hb dX7_hasBit_54 ?_
      obtain ⟨k_8, hk_8, ik_8, hv⟩ := hv
      refine x_ald hx hb hK hP 4 0 rfl rfl k_8 ik_8 hk_8 (by decide) dX7_hasBit_55 ?_
      refine lv_bipush (v := 7) hx hb dX7_hasBit_56 (by decide) ?_
      refine lv_iload hx hb dX7_hasBit_58 (lv_at hl 1 rfl) ?_
      refine lv_isub hx hb dX7_hasBit_60 ?_
      refine lv_ishr hx hb dX7_hasBit_61 ?_
      refine lv_iconst (v := 1) hx hb dX7_hasBit_62 (by decide) ?_
      refine lv_iand hx hb dX7_hasBit_63 ?_
      refine lv_iconst (v := 1) hx hb dX7_hasBit_64 (by decide) ?_
      refine lv_icmp_ne (tgt := 72) hx hb dX7_hasBit_65 (by decide) (fun c_9 => ?_) (fun c_9 => ?_)
      · have hv := hv.1 c_9
        refine lv_iconst (v := 0) hx hb dX7_hasBit_72 (by decide) ?_
        exact W.zret (v := 0) hx hb hr rfl (fun t ht hW => ⟨_, rfl, hv, ht⟩) (fun q h => absurd h List.not_mem_nil) dX7_hasBit_73
      · have hv := hv.2 c_9
        refine lv_iconst (v := 1) hx hb dX7_hasBit_68 (by decide) ?_
        refine lv_goto (tgt := 73) hx hb dX7_hasBit_69 (by decide) ?_
        exact W.zret (v := 1) hx hb hr rfl (fun t ht hW => ⟨_, rfl, hv, ht⟩) (fun q h => absurd h List.not_mem_nil) dX7_hasBit_73
    · have hv := hv.2 c_7
      refine lv_iconst (v := 0) hx hb dX7_hasBit_42 (by decide) ?_
      exact W.zret (v := 0) hx hb hr rfl (fun t ht hW => ⟨_, rfl, hv, ht⟩) (fun q h => absurd h List.not_mem_nil) dX7_hasBit_43
def lp_X7_showing_9 (M : ST) (p1 : Int32) (p2 : Int32) (r_1 : Int32) (post : Int32 → Prop) (K_ : Int32 → Prop) : Nat → Int32 → Prop
  | 0, _ => False
  | n_5 + 1, y_4 => (((8 ≤ y_4) → K_ y_4) ∧ ((¬ (8 ≤ y_4)) → ((((r_1 >>> (y_4 &&& 31)) = 0) → K_ y_4) ∧ ((¬ ((r_1 >>> (y_4 &&& 31)) = 0)) → (((¬ (((r_1 >>> (y_4 &&& 31)) &&& 1) = 1)) → ∀ x_9 : Int32, x_9 = y_4 + 1 → lp_X7_showing_9 M p1 p2 r_1 post K_ n_5 x_9) ∧ ((((r_1 >>> (y_4 &&& 31)) &&& 1) = 1) → v_X7_hasBit M y_4 p1 p2 (fun r_10 => (((r_10 = 0) → ∀ x_12 : Int32, x_12 = y_4 + 1 → lp_X7_showing_9 M p1 p2 r_1 post K_ n_5 x_12) ∧ ((¬ (r_10 = 0)) → post y_4)))))))))
def v_X7_showing (M : ST) (p1 : Int32) (p2 : Int32) (post : Int32 → Prop) : Prop := v_X7_membersOf M p2 (fun r_1 => (∃ n_13 : Nat, lp_X7_showing_9 M p1 p2 r_1 post (fun (y_3 : Int32) => post (-1)) n_13 0))
set_option maxHeartbeats 4000000 in
set_option maxRecDepth 100000 in
theorem c_X7_showing (l : Launch) (D : va_G) (cT : Nat → ClassId) (a : Nat → Nat) (M : ST) (p1 : Int32) (p2 : Int32) (post : Int32 → Prop) (hv : v_X7_showing M p1 p2 post) : Met l yX7_showing wsX7_showing ({ frames := 2, cells := 0, slots := 0, locals := 47 }) (va_Pc [.ref (a 0), .int p1, .int p2] (x_R D cT ((w_Sprites cT a M)))) (vp_Si post) 0 0 (fun _ => False) := by
  refine Met.ofW (cc := cX7_showing) (maxL := 5) (ret := (some .int)) (by decide) rfl ?_
  intro p e s m args below meth c s₁ B hml hpre
  obtain ⟨rfl, hP, hK, hN⟩ := hpre
  have hx := B.exec
  have hb := B.bytes
  have hr := B.returns
  have hts := atoms_spec (ws := wsX7_showing) B.pre
  have hown : s.vm.findClass RX7 = some m.cls := findClass_of_methodNamed B.named
  have hlocks := B.notSynchronized
  have hS : va_S (fun _ : Nat => False) s.heap s.heap [] := va_S.rf
  have hl := lv_entry ([.ref (a 0), .int p1, .int p2]) (n := 5) (Nat.le_of_ble_eq_true rfl)
  rw [lg_entry_eq]
  generalize (lg_sl ([.ref (a 0), .int p1, .int p2]) ++ List.replicate (5 - (lg_sl ([.ref (a 0), .int p1, .int p2])).length) Slot.unset).toArray = ls at hl ⊢
  have hl : lv_has ls 5 [(0, .ref (a 0)), (1, .int p1), (2, .int p2)] := hl
  have w_37 : CallW (headSpec wsX7_showing ({ frames := 2, cells := 0, slots := 0, locals := 47 })).room s ([.ref (a 0), .int p1, .int p2] : List Value).toArray RX7 RX7 37 yX7_membersOf cX7_membersOf 6 (some .int) wsX7_membersOf ({ frames := 0, cells := 0, slots := 0, locals := 0 } : Room) 0 0 1 := cwV 1 hts gX7_showing_X7_membersOf rfl rfl rfl (by decide +kernel) ⟨Nat.le_of_ble_eq_true rfl, Nat.le_of_ble_eq_true rfl⟩
  have w_41 : CallW (headSpec wsX7_showing ({ frames := 2, cells := 0, slots := 0, locals := 47 })).room s ([.ref (a 0), .int p1, .int p2] : List Value).toArray RX7 RX7 41 yX7_hasBit cX7_hasBit 6 (some .boolean) wsX7_hasBit ({ frames := 1, cells := 0, slots := 0, locals := 22 } : Room) 0 0 3 := cwV 3 hts gX7_showing_X7_hasBit rfl rfl rfl (by decide +kernel) ⟨Nat.le_of_ble_eq_true rfl, Nat.le_of_ble_eq_true rfl⟩
  refine lv_aload_n hx hb dX7_showing_0 rfl (lv_at hl 0 rfl) ?_
  refine lv_iload_n hx hb dX7_showing_1 rfl (lv_at hl 2 rfl) ?_
  refine x_rV (As := [.int p2]) (rest := []) ⟨hx, hb, hml, hown, hts⟩ (c_X7_membersOf l D cT a M p2 _ hv) w_37 hK hP hS hN [0, 1, 2, 3, 4, 5] rfl 7 0 rfl rfl rfl hl.1 rfl (Nat.le_of_ble_eq_true rfl) dX7_showing_2 ⟨Nat.le_of_ble_eq_true rfl, Nat.le_of_ble_eq_true rfl⟩ (fun r_1 hv => ?_)
  refine lv_istore_n (lv' := [(3, .int r_1), (0, .ref (a 0)), (1, .int p1), (2, .int p2)]) hx hb dX7_showing_5 rfl hl (by decide) rfl (fun ls hl => ?_)
  refine lv_iconst (v := 0) hx hb dX7_showing_6 (by decide) ?_
  refine lv_istore (lv' := [(4, .int 0), (3, .int r_1), (0, .ref (a 0)), (1, .int p1), (2, .int p2)]) hx hb dX7_showing_7 hl (by decide) rfl (fun ls hl => ?_)
  obtain ⟨n_13, hv⟩ := hv
  have K_L_2 : ∀ (y_3 : Int32), (post (-1)) → ∀ ls : Array Slot, lv_has ls 5 [(4, .int y_3), (3, .int r_1), (0, .ref (a 0)), (1, .int p1), (2, .int p2)] → W p l e (headSpec wsX7_showing ({ frames := 2, cells := 0, slots := 0, locals := 47 })).room s m ([.ref (a 0), .int p1, .int p2] : List Value).toArray below meth c s.heap [] 0 0 (MQ below (vp_Si post) ([.ref (a 0), .int p1, .int p2] : List Value).toArray s 0 0 (fun _ => False)) (F0 m 53 ls []) := by
    intro y_3 hv ls hl
    refine lv_iconst (v := (-1)) hx hb dX7_showing_53 (by decide) ?_
    exact W.iret (v := (-1)) hx hb hr (fun t ht hW => ⟨_, rfl, hv, ht⟩) (fun q h => absurd h List.not_mem_nil) dX7_showing_54
  have L_2 : ∀ n_5 : Nat, ∀ (y_4 : Int32), (lp_X7_showing_9 M p1 p2 r_1 post (fun (y_3 : Int32) => post (-1)) n_5 y_4) → ∀ ls : Array Slot, lv_has ls 5 [(4, .int y_4), (3, .int r_1), (0, .ref (a 0)), (1, .int p1), (2, .int p2)] → W p l e (headSpec wsX7_showing ({ frames := 2, cells := 0, slots := 0, locals := 47 })).room s m ([.ref (a 0), .int p1, .int p2] : List Value).toArray below meth c s.heap [] 0 0 (MQ below (vp_Si post) ([.ref (a 0), .int p1, .int p2] : List Value).toArray s 0 0 (fun _ => False)) (F0 m 9 ls []) := by
    intro n_5
    induction n_5 with
    | zero =>
      intro y_4 hv
      exact hv.elim
    | succ n_5 L_2_ih =>
      intro y_4 hv ls hl
      refine lv_iload hx hb dX7_showing_9 (lv_at hl 0 rfl) ?_
      refine lv_bipush (v := 8) hx hb dX7_showing_11 (by decide) ?_
      refine lv_icmp_ge (tgt := 53) hx hb dX7_showing_13 (by decide) (fun c_6 => ?_) (fun c_6 => ?_)
      · have hv := hv.1 c_6
        exact K_L_2 _ hv ls (lv_sub hl [0, 1, 2, 3, 4] rfl)
      · have hv := hv.2 c_6
        refine lv_iload_n hx hb dX7_showing_16 rfl (lv_at hl 1 rfl) ?_
        refine lv_iload hx hb dX7_showing_17 (lv_at hl 0 rfl) ?_
        refine lv_ishr hx hb dX7_showing_19 ?_
        refine lv_if_eq (tgt := 53) hx hb dX7_showing_20 (by decide) (fun c_7 => ?_) (fun c_7 => ?_)
        · have hv := hv.1 c_7
          exact K_L_2 _ hv ls (lv_sub hl [0, 1, 2, 3, 4] rfl)
        · have hv := hv.2 c_7
          refine lv_iload_n hx hb dX7_showing_23 rfl (lv_at hl 1 rfl) ?_
          refine lv_iload hx hb dX7_showing_24 (lv_at hl 0 rfl) ?_
          refine lv_ishr hx hb dX7_showing_26 ?_
          refine lv_iconst (v := 1) hx hb dX7_showing_27 (by decide) ?_
          refine lv_iand hx hb dX7_showing_28 ?_
          refine lv_iconst (v := 1) hx hb dX7_showing_29 (by decide) ?_
          refine lv_icmp_ne (tgt := 47) hx hb dX7_showing_30 (by decide) (fun c_8 => ?_) (fun c_8 => ?_)
          · have hv := hv.1 c_8
            obtain ⟨x_9, ex_9⟩ : ∃ z : Int32, z = y_4 + 1 := ⟨_, rfl⟩
            have hv := hv x_9 ex_9
            refine lv_iinc (v := x_9) (lv' := [(4, .int x_9), (3, .int r_1), (0, .ref (a 0)), (1, .int p1), (2, .int p2)]) hx hb dX7_showing_47 hl (k := 0) rfl (by rw [ex_9]; rfl) (by decide) rfl (fun ls hl => ?_)
            refine lv_goto (tgt := 9) hx hb dX7_showing_50 (by decide) ?_
            exact L_2_ih _ hv ls (lv_sub hl [0, 1, 2, 3, 4] rfl)
          · have hv := hv.2 c_8
            refine lv_aload_n hx hb dX7_showing_33 rfl (lv_at hl 2 rfl) ?_
            refine lv_iload hx hb dX7_showing_34 (lv_at hl 0 rfl) ?_
            refine lv_iload_n hx hb dX7_showing_36 rfl (lv_at hl 3 rfl) ?_
            refine lv_iload_n hx hb dX7_showing_37 rfl (lv_at hl 4 rfl) ?_
            refine x_rV (As := [.int y_4, .int p1, .int p2]) (rest := []) ⟨hx, hb, hml, hown, hts⟩ (c_X7_hasBit l D cT a M y_4 p1 p2 _ hv) w_41 hK hP hS hN [0, 1, 2, 3, 4, 5] rfl 7 0 rfl rfl rfl hl.1 rfl (Nat.le_of_ble_eq_true rfl) dX7_showing_38 ⟨Nat.le_of_ble_eq_true rfl, Nat.le_of_ble_eq_true rfl⟩ (fun r_10 hv => ?_)
            refine lv_if_eq (tgt := 47) hx hb dX7_showing_41 (by decide) (fun c_11 => ?_) (fun c_11 => ?_)
            · have hv := hv.1 c_11
              obtain ⟨x_12, ex_12⟩ : ∃ z : Int32, z = y_4 + 1 := ⟨_, rfl⟩
              have hv := hv x_12 ex_12
              refine lv_iinc (v := x_12) (lv' := [(4, .int x_12), (3, .int r_1), (0, .ref (a 0)), (1, .int p1), (2, .int p2)]) hx hb dX7_showing_47 hl (k := 0) rfl (by rw [ex_12]; rfl) (by decide) rfl (fun ls hl => ?_)
              refine lv_goto (tgt := 9) hx hb dX7_showing_50 (by decide) ?_
              exact L_2_ih _ hv ls (lv_sub hl [0, 1, 2, 3, 4] rfl)
            · have hv := hv.2 c_11
              refine lv_iload hx hb dX7_showing_44 (lv_at hl 0 rfl) ?_
              exact W.iret (v := y_4) hx hb hr (fun t ht hW => ⟨_, rfl, hv, ht⟩) (fun q h => absurd h List.not_mem_nil) dX7_showing_46
  exact L_2 n_13 _ hv ls hl
def v_X7_copyFrom (M : ST) (N : ST) (post : ST → Prop) : Prop := ∀ M_1 : ST, M_1 = x_cp M 1 8 (N 1) → ∀ M_2 : ST, M_2 = x_cp M_1 2 8 (N 2) → ∀ M_3 : ST, M_3 = x_cp M_2 3 8 (N 3) → ∀ M_4 : ST, M_4 = x_cp M_3 4 64 (N 4) → ∀ M_5 : ST, M_5 = x_cp M_4 5 64 (N 5) → post M_5
set_option maxHeartbeats 4000000 in
set_option maxRecDepth 100000 in
theorem c_X7_copyFrom (l : Launch) (D : va_G) (cT : Nat → ClassId) (a : Nat → Nat) (M : ST) (b : Nat → Nat) (N : ST) (sz : Nat) (post : ST → Prop) (hv : v_X7_copyFrom M N post) : Met l yX7_copyFrom wsX7_copyFrom ({ frames := 1, cells := 0, slots := 0, locals := 40 }) (va_Pc [.ref (a 0), .ref (b 0)] (x_U D cT ((w_Sprites cT a M) ++ (w_Sprites cT b N)) sz)) (va_Qv post (fun u t => x_B D cT ((w_Sprites cT a u) ++ (w_Sprites cT b N)) (va_A ((w_Sprites cT a M) ++ (w_Sprites cT b N)) sz) t) (va_A ((w_Sprites cT a M) ++ (w_Sprites cT b N)) sz)) 0 0 (va_A ((w_Sprites cT a M) ++ (w_Sprites cT b N)) sz) := by
  refine Met.ofW (cc := cX7_copyFrom) (maxL := 2) (ret := none) (by decide) rfl ?_
  intro p e s m args below meth c s₁ B hml hpre
  obtain ⟨rfl, hsz, hP, hK, hD0, hN⟩ := hpre
  have hx := B.exec
  have hb := B.bytes
  have hr := B.returns
  have hts := atoms_spec (ws := wsX7_copyFrom) B.pre
  have hown : s.vm.findClass RX7 = some m.cls := findClass_of_methodNamed B.named
  have hlocks := B.notSynchronized
  subst hsz
  have hD := hD0.self (sz := s.heap.size)
  generalize hAe : va_A ((w_Sprites cT a M) ++ (w_Sprites cT b N)) s.heap.size = A at hD hN ⊢
  have hA : ∀ q : Nat, s.heap.size ≤ q → A q := fun q h => by rw [← hAe]; exact Or.inr h
  have hS : va_S A s.heap s.heap [] := va_S.rf
  have hl := lv_entry ([.ref (a 0), .ref (b 0)]) (n := 2) (Nat.le_of_ble_eq_true rfl)
  rw [lg_entry_eq]
  generalize (lg_sl ([.ref (a 0), .ref (b 0)]) ++ List.replicate (2 - (lg_sl ([.ref (a 0), .ref (b 0)])).length) Slot.unset).toArray = ls at hl ⊢
  have hl : lv_has ls 2 [(0, .ref (a 0)), (1, .ref (b 0))] := hl
  have in_X7 : ∀ w ∈ wsX70, w ∈ wsX7_copyFrom := by decide +kernel
  have kf_9 : (Cond.fieldLink RX7 9 "PictureBeats$Sprites" "xs" "[I").before ([.ref (a 0), .ref (b 0)] : List Value).toArray s = true := hts _ (by decide +kernel)
  have k_cpl : (Cond.methodLink RX7 48 arraycopyName).before ([.ref (a 0), .ref (b 0)] : List Value).toArray s = true := hts _ (by decide +kernel)
  have k_cpn : (Cond.native arraycopyName).before ([.ref (a 0), .ref (b 0)] : List Value).toArray s = true := hts _ (by decide +kernel)
  have k_cps : (Cond.static arraycopyName).before ([.ref (a 0), .ref (b 0)] : List Value).toArray s = true := hts _ (by decide +kernel)
  have k_cpi : (Cond.initialized "java/lang/System").before ([.ref (a 0), .ref (b 0)] : List Value).toArray s = true := hts _ (by decide +kernel)
  have kf_15 : (Cond.fieldLink RX7 15 "PictureBeats$Sprites" "rows" "[I").before ([.ref (a 0), .ref (b 0)] : List Value).toArray s = true := hts _ (by decide +kernel)
  have kf_18 : (Cond.fieldLink RX7 18 "PictureBeats$Sprites" "heights" "[I").before ([.ref (a 0), .ref (b 0)] : List Value).toArray s = true := hts _ (by decide +kernel)
  have kf_21 : (Cond.fieldLink RX7 21 "PictureBeats$Sprites" "drawn" "[I").before ([.ref (a 0), .ref (b 0)] : List Value).toArray s = true := hts _ (by decide +kernel)
  have kf_24 : (Cond.fieldLink RX7 24 "PictureBeats$Sprites" "present" "[I").before ([.ref (a 0), .ref (b 0)] : List Value).toArray s = true := hts _ (by decide +kernel)
  refine lv_aload_n hx hb dX7_copyFrom_0 rfl (lv_at hl 1 rfl) ?_
  refine va_get (D := D) (ci := 7) (v := .ref (b 1)) (C := RX7) (T := TX7) (N := 5) hx hb hts in_X7 hown hK hP 6 rfl rfl 0 (by decide) kf_9 (fun _ h9 => h9) rfl dX7_copyFrom_1 ?_
  refine lv_iconst (v := 0) hx hb dX7_copyFrom_4 (by decide) ?_
  refine lv_aload_n hx hb dX7_copyFrom_5 rfl (lv_at hl 0 rfl) ?_
  refine va_get (D := D) (ci := 7) (v := .ref (a 1)) (C := RX7) (T := TX7) (N := 5) hx hb hts in_X7 hown hK hP 0 rfl rfl 0 (by decide) kf_9 (fun _ h9 => h9) rfl dX7_copyFrom_6 ?_
  refine lv_iconst (v := 0) hx hb dX7_copyFrom_9 (by decide) ?_
  refine lv_bipush (v := 8) hx hb dX7_copyFrom_10 (by decide) ?_
  refine x_cpy (N := 8) (f := N 1) hx hb (hml.trans hl.1.symm) hown k_cpl k_cpn k_cps k_cpi hK hP hD hS 7 1 rfl rfl rfl (by decide) (by decide) (by decide) (Nat.le_of_ble_eq_true rfl) (Nat.le_of_ble_eq_true rfl) dX7_copyFrom_12 (fun H locs hP hD hS => ?_)
  obtain ⟨M_1, eM_1⟩ : ∃ z : ST, z = x_cp M 1 8 (N 1) := ⟨_, rfl⟩
  have hP : va_P D vwCl ((w_Sprites cT a M_1) ++ (w_Sprites cT b N)) H := by rw [eM_1]; exact hP
  have hD : va_D A ((w_Sprites cT a M_1) ++ (w_Sprites cT b N)) := by rw [eM_1]; exact hD
  have hv := hv M_1 eM_1
  refine lv_aload_n hx hb dX7_copyFrom_15 rfl (lv_at hl 1 rfl) ?_
  refine va_get (D := D) (ci := 7) (v := .ref (b 2)) (C := RX7) (T := TX7) (N := 5) hx hb hts in_X7 hown hK hP 6 rfl rfl 1 (by decide) kf_15 (fun _ h9 => h9) rfl dX7_copyFrom_16 ?_
  refine lv_iconst (v := 0) hx hb dX7_copyFrom_19 (by decide) ?_
  refine lv_aload_n hx hb dX7_copyFrom_20 rfl (lv_at hl 0 rfl) ?_
  refine va_get (D := D) (ci := 7) (v := .ref (a 2)) (C := RX7) (T := TX7) (N := 5) hx hb hts in_X7 hown hK hP 0 rfl rfl 1 (by decide) kf_15 (fun _ h9 => h9) rfl dX7_copyFrom_21 ?_
  refine lv_iconst (v := 0) hx hb dX7_copyFrom_24 (by decide) ?_
  refine lv_bipush (v := 8) hx hb dX7_copyFrom_25 (by decide) ?_
  refine x_cpy (N := 8) (f := N 2) hx hb (hml.trans hl.1.symm) hown k_cpl k_cpn k_cps k_cpi hK hP hD hS 8 2 rfl rfl rfl (by decide) (by decide) (by decide) (Nat.le_of_ble_eq_true rfl) (Nat.le_of_ble_eq_true rfl) dX7_copyFrom_27 (fun H locs hP hD hS => ?_)
  obtain ⟨M_2, eM_2⟩ : ∃ z : ST, z = x_cp M_1 2 8 (N 2) := ⟨_, rfl⟩
  have hP : va_P D vwCl ((w_Sprites cT a M_2) ++ (w_Sprites cT b N)) H := by rw [eM_2]; exact hP
  have hD : va_D A ((w_Sprites cT a M_2) ++ (w_Sprites cT b N)) := by rw [eM_2]; exact hD
  have hv := hv M_2 eM_2
  refine lv_aload_n hx hb dX7_copyFrom_30 rfl (lv_at hl 1 rfl) ?_
  refine va_get (D := D) (ci := 7) (v := .ref (b 3)) (C := RX7) (T := TX7) (N := 5) hx hb hts in_X7 hown hK hP 6 rfl rfl 2 (by decide) kf_18 (fun _ h9 => h9) rfl dX7_copyFrom_31 ?_
  refine lv_iconst (v := 0) hx hb dX7_copyFrom_34 (by decide) ?_
  refine lv_aload_n hx hb dX7_copyFrom_35 rfl (lv_at hl 0 rfl) ?_
  refine va_get (D := D) (ci := 7) (v := .ref (a 3)) (C := RX7) (T := TX7) (N := 5) hx hb hts in_X7 hown hK hP 0 rfl rfl 2 (by decide) kf_18 (fun _ h9 => h9) rfl dX7_copyFrom_36 ?_
  refine lv_iconst (v := 0) hx hb dX7_copyFrom_39 (by decide) ?_
  refine lv_bipush (v := 8) hx hb dX7_copyFrom_40 (by decide) ?_
  refine x_cpy (N := 8) (f := N 3) hx hb (hml.trans hl.1.symm) hown k_cpl k_cpn k_cps k_cpi hK hP hD hS 9 3 rfl rfl rfl (by decide) (by decide) (by decide) (Nat.le_of_ble_eq_true rfl) (Nat.le_of_ble_eq_true rfl) dX7_copyFrom_42 (fun H locs hP hD hS => ?_)
  obtain ⟨M_3, eM_3⟩ : ∃ z : ST, z = x_cp M_2 3 8 (N 3) := ⟨_, rfl⟩
  have hP : va_P D vwCl ((w_Sprites cT a M_3) ++ (w_Sprites cT b N)) H := by rw [eM_3]; exact hP
  have hD : va_D A ((w_Sprites cT a M_3) ++ (w_Sprites cT b N)) := by rw [eM_3]; exact hD
  have hv := hv M_3 eM_3
  refine lv_aload_n hx hb dX7_copyFrom_45 rfl (lv_at hl 1 rfl) ?_
  refine va_get (D := D) (ci := 7) (v := .ref (b 4)) (C := RX7) (T := TX7) (N := 5) hx hb hts in_X7 hown hK hP 6 rfl rfl 3 (by decide) kf_21 (fun _ h9 => h9) rfl dX7_copyFrom_46 ?_
  refine lv_iconst (v := 0) hx hb dX7_copyFrom_49 (by decide) ?_
  refine lv_aload_n hx hb dX7_copyFrom_50 rfl (lv_at hl 0 rfl) ?_
  refine va_get (D := D) (ci := 7) (v := .ref (a 4)) (C := RX7) (T := TX7) (N := 5) hx hb hts in_X7 hown hK hP 0 rfl rfl 3 (by decide) kf_21 (fun _ h9 => h9) rfl dX7_copyFrom_51 ?_
  refine lv_iconst (v := 0) hx hb dX7_copyFrom_54 (by decide) ?_
  refine lv_aload_n hx hb dX7_copyFrom_55 rfl (lv_at hl 0 rfl) ?_
  refine va_get (D := D) (ci := 7) (v := .ref (a 4)) (C := RX7) (T := TX7) (N := 5) hx hb hts in_X7 hown hK hP 0 rfl rfl 3 (by decide) kf_21 (fun _ h9 => h9) rfl dX7_copyFrom_56 ?_
  refine va_alen hx hb hK hP 4 0 rfl rfl (v := 64) rfl dX7_copyFrom_59 ?_
  refine x_cpy (N := 64) (f := N 4) hx hb (hml.trans hl.1.symm) hown k_cpl k_cpn k_cps k_cpi hK hP hD hS 10 4 rfl rfl rfl (by decide) (by decide) (by decide) (Nat.le_of_ble_eq_true rfl) (Nat.le_of_ble_eq_true rfl) dX7_copyFrom_60 (fun H locs hP hD hS => ?_)
  obtain ⟨M_4, eM_4⟩ : ∃ z : ST, z = x_cp M_3 4 64 (N 4) := ⟨_, rfl⟩
  have hP : va_P D vwCl ((w_Sprites cT a M_4) ++ (w_Sprites cT b N)) H := by rw [eM_4]; exact hP
  have hD : va_D A ((w_Sprites cT a M_4) ++ (w_Sprites cT b N)) := by rw [eM_4]; exact hD
  have hv := hv M_4 eM_4
  refine lv_aload_n hx hb dX7_copyFrom_63 rfl (lv_at hl 1 rfl) ?_
  refine va_get (D := D) (ci := 7) (v := .ref (b 5)) (C := RX7) (T := TX7) (N := 5) hx hb hts in_X7 hown hK hP 6 rfl rfl 4 (by decide) kf_24 (fun _ h9 => h9) rfl dX7_copyFrom_64 ?_
  refine lv_iconst (v := 0) hx hb dX7_copyFrom_67 (by decide) ?_
  refine lv_aload_n hx hb dX7_copyFrom_68 rfl (lv_at hl 0 rfl) ?_
  refine va_get (D := D) (ci := 7) (v := .ref (a 5)) (C := RX7) (T := TX7) (N := 5) hx hb hts in_X7 hown hK hP 0 rfl rfl 4 (by decide) kf_24 (fun _ h9 => h9) rfl dX7_copyFrom_69 ?_
  refine lv_iconst (v := 0) hx hb dX7_copyFrom_72 (by decide) ?_
  refine lv_bipush (v := 64) hx hb dX7_copyFrom_73 (by decide) ?_
  refine x_cpy (N := 64) (f := N 5) hx hb (hml.trans hl.1.symm) hown k_cpl k_cpn k_cps k_cpi hK hP hD hS 11 5 rfl rfl rfl (by decide) (by decide) (by decide) (Nat.le_of_ble_eq_true rfl) (Nat.le_of_ble_eq_true rfl) dX7_copyFrom_75 (fun H locs hP hD hS => ?_)
  obtain ⟨M_5, eM_5⟩ : ∃ z : ST, z = x_cp M_4 5 64 (N 5) := ⟨_, rfl⟩
  have hP : va_P D vwCl ((w_Sprites cT a M_5) ++ (w_Sprites cT b N)) H := by rw [eM_5]; exact hP
  have hD : va_D A ((w_Sprites cT a M_5) ++ (w_Sprites cT b N)) := by rw [eM_5]; exact hD
  have hv := hv M_5 eM_5
  exact W.vret hx hb hr (fun t ht hW => ⟨⟨M_5, rfl, hv, by rw [ht]; exact hP, va_K.moved hW.alike hK, hD⟩, hS.F ht⟩) hS.2.2 dX7_copyFrom_78
