def lp_J7_fill_53178_5 (p2 : Int32) (post : ST → Prop) (K_ : Int32 → ST → Prop) : Nat → Int32 → ST → Prop
  | 0, _, _ => False
  | n_6 + 1, y_4, M_5 => (((4096 ≤ y_4) → K_ y_4 M_5) ∧ ((¬ (4096 ≤ y_4)) → ∃ k_8 : Nat, k_8 < 4096 ∧ y_4 = nI k_8 ∧ ∀ M_9 : ST, M_9 = x_st M_5 0 k_8 p2 → ∀ x_10 : Int32, x_10 = y_4 + 1 → lp_J7_fill_53178_5 p2 post K_ n_6 x_10 M_9))
def v_J7_fill_53178 (M : ST) (p2 : Int32) (post : ST → Prop) : Prop := (∃ n_11 : Nat, lp_J7_fill_53178_5 p2 post (fun (y_2 : Int32) (M_3 : ST) => post M_3) n_11 0 M)
set_option maxHeartbeats 4000000 in
set_option maxRecDepth 100000 in
theorem c_J7_fill_53178 (l : Launch) (D : va_G) (cT : Nat → ClassId) (a : Nat → Nat) (M : ST) (p2 : Int32) (sz : Nat) (post : ST → Prop) (hv : v_J7_fill_53178 M p2 post) : Met l yJ7_fill_53178 wsJ7_fill_53178 ({ frames := 0, cells := 0, slots := 0, locals := 0 }) (va_Pc [.ref (a 0), .int p2] (x_U D cT ((w_Arr4096 cT a M)) sz)) (va_Qv post (fun u t => x_B D cT ((w_Arr4096 cT a u)) (va_A ((w_Arr4096 cT a M)) sz) t) (va_A ((w_Arr4096 cT a M)) sz)) 0 0 (va_A ((w_Arr4096 cT a M)) sz) := by
  refine Met.ofW (cc := cJ7_fill_53178) (maxL := 4) (ret := none) (by decide) rfl ?_
  intro p e s m args below meth c s₁ B hml hpre
  obtain ⟨rfl, hsz, hP, hK, hD0, hN⟩ := hpre
  have hx := B.exec
  have hb := B.bytes
  have hr := B.returns
  have hts := atoms_spec (ws := wsJ7_fill_53178) B.pre
  have hown : s.vm.findClass RJ7 = some m.cls := findClass_of_methodNamed B.named
  have hlocks := B.notSynchronized
  subst hsz
  have hD := hD0.self (sz := s.heap.size)
  generalize hAe : va_A ((w_Arr4096 cT a M)) s.heap.size = A at hD hN ⊢
  have hA : ∀ q : Nat, s.heap.size ≤ q → A q := fun q h => by rw [← hAe]; exact Or.inr h
  have hS : va_S A s.heap s.heap [] := va_S.rf
  have hl := lv_entry ([.ref (a 0), .int p2]) (n := 4) (Nat.le_of_ble_eq_true rfl)
  rw [lg_entry_eq]
  generalize (lg_sl ([.ref (a 0), .int p2]) ++ List.replicate (4 - (lg_sl ([.ref (a 0), .int p2])).length) Slot.unset).toArray = ls at hl ⊢
  have hl : lv_has ls 4 [(0, .ref (a 0)), (1, .int p2)] := hl
  refine lv_iconst (v := 0) hx hb dJ7_fill_53178_0 (by decide) ?_
  refine lv_istore_n (lv' := [(2, .int 0), (0, .ref (a 0)), (1, .int p2)]) hx hb dJ7_fill_53178_1 rfl hl (by decide) rfl (fun ls hl => ?_)
  refine lv_aload_n hx hb dJ7_fill_53178_2 rfl (lv_at hl 1 rfl) ?_
  refine va_alen hx hb hK hP 0 0 rfl rfl (v := 4096) rfl dJ7_fill_53178_3 ?_
  refine lv_istore_n (lv' := [(3, .int 4096), (2, .int 0), (0, .ref (a 0)), (1, .int p2)]) hx hb dJ7_fill_53178_4 rfl hl (by decide) rfl (fun ls hl => ?_)
  obtain ⟨n_11, hv⟩ := hv
  have K_L_1 : ∀ (y_2 : Int32) (M_3 : ST), (post M_3) → ∀ (H : Heap) (locs : List Loc), va_P D vwCl ((w_Arr4096 cT a M_3)) H → va_D A ((w_Arr4096 cT a M_3)) → va_S A s.heap H locs → ∀ ls : Array Slot, lv_has ls 4 [(3, .int 4096), (2, .int y_2), (0, .ref (a 0)), (1, .int p2)] → W p l e (headSpec wsJ7_fill_53178 ({ frames := 0, cells := 0, slots := 0, locals := 0 })).room s m ([.ref (a 0), .int p2] : List Value).toArray below meth c H locs 0 0 (MQ below (va_Qv post (fun u t => x_B D cT ((w_Arr4096 cT a u)) A t) A) ([.ref (a 0), .int p2] : List Value).toArray s 0 0 A) (F0 m 20 ls []) := by
    intro y_2 M_3 hv H locs hP hD hS ls hl
    exact W.vret hx hb hr (fun t ht hW => ⟨⟨M_3, rfl, hv, by rw [ht]; exact hP, va_K.moved hW.alike hK, hD⟩, hS.F ht⟩) hS.2.2 dJ7_fill_53178_20
  have L_1 : ∀ n_6 : Nat, ∀ (y_4 : Int32) (M_5 : ST), (lp_J7_fill_53178_5 p2 post (fun (y_2 : Int32) (M_3 : ST) => post M_3) n_6 y_4 M_5) → ∀ (H : Heap) (locs : List Loc), va_P D vwCl ((w_Arr4096 cT a M_5)) H → va_D A ((w_Arr4096 cT a M_5)) → va_S A s.heap H locs → ∀ ls : Array Slot, lv_has ls 4 [(3, .int 4096), (2, .int y_4), (0, .ref (a 0)), (1, .int p2)] → W p l e (headSpec wsJ7_fill_53178 ({ frames := 0, cells := 0, slots := 0, locals := 0 })).room s m ([.ref (a 0), .int p2] : List Value).toArray below meth c H locs 0 0 (MQ below (va_Qv post (fun u t => x_B D cT ((w_Arr4096 cT a u)) A t) A) ([.ref (a 0), .int p2] : List Value).toArray s 0 0 A) (F0 m 5 ls []) := by
    intro n_6
    induction n_6 with
    | zero =>
      intro y_4 M_5 hv
      exact hv.elim
    | succ n_6 L_1_ih =>
      intro y_4 M_5 hv H locs hP hD hS ls hl
      refine lv_iload_n hx hb dJ7_fill_53178_5 rfl (lv_at hl 1 rfl) ?_
      refine lv_iload_n hx hb dJ7_fill_53178_6 rfl (lv_at hl 0 rfl) ?_
      refine lv_icmp_ge (tgt := 20) hx hb dJ7_fill_53178_7 (by decide) (fun c_7 => ?_) (fun c_7 => ?_)
      · have hv := hv.1 c_7
        exact K_L_1 _ _ hv H locs hP hD hS ls (lv_sub hl [0, 1, 2, 3] rfl)
      · have hv := hv.2 c_7
        refine lv_aload_n hx hb dJ7_fill_53178_10 rfl (lv_at hl 2 rfl) ?_
        refine lv_iload_n hx hb dJ7_fill_53178_11 rfl (lv_at hl 1 rfl) ?_
        refine lv_iload_n hx hb dJ7_fill_53178_12 rfl (lv_at hl 3 rfl) ?_
        obtain ⟨k_8, hk_8, ik_8, hv⟩ := hv
        refine x_ast hx hb hK hP hD hS 0 0 rfl rfl k_8 ik_8 hk_8 (by decide) dJ7_fill_53178_13 (fun H locs hP hD hS => ?_)
        obtain ⟨M_9, eM_9⟩ : ∃ z : ST, z = x_st M_5 0 k_8 p2 := ⟨_, rfl⟩
        have hP : va_P D vwCl ((w_Arr4096 cT a M_9)) H := by rw [eM_9]; exact hP
        have hD : va_D A ((w_Arr4096 cT a M_9)) := by rw [eM_9]; exact hD
        have hv := hv M_9 eM_9
        obtain ⟨x_10, ex_10⟩ : ∃ z : Int32, z = y_4 + 1 := ⟨_, rfl⟩
        have hv := hv x_10 ex_10
        refine lv_iinc (v := x_10) (lv' := [(2, .int x_10), (3, .int 4096), (0, .ref (a 0)), (1, .int p2)]) hx hb dJ7_fill_53178_14 hl (k := 1) rfl (by rw [ex_10]; rfl) (by decide) rfl (fun ls hl => ?_)
        refine lv_goto (tgt := 5) hx hb dJ7_fill_53178_17 (by decide) ?_
        exact L_1_ih _ _ hv H locs hP hD hS ls (lv_sub hl [1, 0, 2, 3] rfl)
  exact L_1 n_11 _ _ hv _ _ hP hD hS ls hl
def v_X6_init (p1 : Int32) (p2 : Int32) (p3 : Int32) (p4 : Int32) (post : ST → Prop) : Prop := post (x_mk [x_fl [p1, p2, p3, p4]])
set_option maxHeartbeats 4000000 in
set_option maxRecDepth 100000 in
theorem c_X6_init (l : Launch) (D : va_G) (cT : Nat → ClassId) (h0 : Nat) (sz : Nat) (p1 : Int32) (p2 : Int32) (p3 : Int32) (p4 : Int32) (post : ST → Prop) (hv : v_X6_init p1 p2 p3 p4 post) : Met l yX6_init wsX6_init ({ frames := 1, cells := 0, slots := 0, locals := 12 }) (va_Pc [.ref h0, .int p1, .int p2, .int p3, .int p4] (x_U D cT [(h0, .inr (6, [.int 0, .int 0, .int 0, .int 0]))] sz)) (va_Qv (fun u : (Nat → Nat) × ST => post u.2) (fun u t => x_B D cT (w_Span cT (x_hd h0 u.1) u.2) (va_A [(h0, .inr (6, [.int 0, .int 0, .int 0, .int 0]))] sz) t) (va_A [(h0, .inr (6, [.int 0, .int 0, .int 0, .int 0]))] sz)) 0 0 (va_A [(h0, .inr (6, [.int 0, .int 0, .int 0, .int 0]))] sz) := by
  refine Met.ofW (cc := cX6_init) (maxL := 5) (ret := none) (by decide) rfl ?_
  intro p e s m args below meth c s₁ B hml hpre
  obtain ⟨rfl, hsz, hP, hK, hD0, hN⟩ := hpre
  have hx := B.exec
  have hb := B.bytes
  have hr := B.returns
  have hts := atoms_spec (ws := wsX6_init) B.pre
  have hown : s.vm.findClass RX6 = some m.cls := findClass_of_methodNamed B.named
  have hlocks := B.notSynchronized
  have hin : meth.name = "<init>" := (name_of_methodNamed B.named B.method).1
  subst hsz
  have hD := hD0.self (sz := s.heap.size)
  generalize hAe : va_A [(h0, .inr (6, [.int 0, .int 0, .int 0, .int 0]))] s.heap.size = A at hD hN ⊢
  have hA : ∀ q : Nat, s.heap.size ≤ q → A q := fun q h => by rw [← hAe]; exact Or.inr h
  have hS : va_S A s.heap s.heap [] := va_S.rf
  have hP : va_P D vwCl [(h0, .inr (6, [.int 0, .int 0, .int 0, .int 0]))] s.heap := hP
  have hl := lv_entry ([.ref h0, .int p1, .int p2, .int p3, .int p4]) (n := 5) (Nat.le_of_ble_eq_true rfl)
  rw [lg_entry_eq]
  generalize (lg_sl ([.ref h0, .int p1, .int p2, .int p3, .int p4]) ++ List.replicate (5 - (lg_sl ([.ref h0, .int p1, .int p2, .int p3, .int p4])).length) Slot.unset).toArray = ls at hl ⊢
  have hl : lv_has ls 5 [(0, .ref h0), (1, .int p1), (2, .int p2), (3, .int p3), (4, .int p4)] := hl
  have in_X6 : ∀ w ∈ wsX60, w ∈ wsX6_init := by decide +kernel
  have kf_7 : (Cond.fieldLink RX6 7 "PictureBeats$Span" "seen" "I").before ([.ref h0, .int p1, .int p2, .int p3, .int p4] : List Value).toArray s = true := hts _ (by decide +kernel)
  have kf_13 : (Cond.fieldLink RX6 13 "PictureBeats$Span" "front" "I").before ([.ref h0, .int p1, .int p2, .int p3, .int p4] : List Value).toArray s = true := hts _ (by decide +kernel)
  have kf_16 : (Cond.fieldLink RX6 16 "PictureBeats$Span" "sync" "I").before ([.ref h0, .int p1, .int p2, .int p3, .int p4] : List Value).toArray s = true := hts _ (by decide +kernel)
  have kf_19 : (Cond.fieldLink RX6 19 "PictureBeats$Span" "back" "I").before ([.ref h0, .int p1, .int p2, .int p3, .int p4] : List Value).toArray s = true := hts _ (by decide +kernel)
  refine lv_aload_n hx hb dX6_init_0 rfl (lv_at hl 0 rfl) ?_
  refine W.objInit hx hb hown (hts (.methodLink RX6 1 objectInit) (List.mem_of_getElem? (i := 1) rfl)) (hts (.instanceMethod objectInit) (List.mem_of_getElem? (i := 2) rfl)) (hts (.code objectInit ⟨#[0xb1]⟩ 1 none) (List.mem_of_getElem? (i := 3) rfl)) rfl (by rw [hml]; exact hl.1) rfl dX6_init_1 (Nat.le_of_ble_eq_true rfl) (Nat.le_of_ble_eq_true rfl) ?_
  refine W.eq (g2 := F0 m 4 ls []) rfl ?_
  refine lv_aload_n hx hb dX6_init_4 rfl (lv_at hl 0 rfl) ?_
  refine lv_iload_n hx hb dX6_init_5 rfl (lv_at hl 1 rfl) ?_
  refine va_put (D := D) (ci := 6) (v := .int p1) (ty := .int) (C := RX6) (T := TX6) (N := 4) hx hb hts in_X6 tyX6 tyX6_ok nmX6 hown hK hP hD hS 0 rfl rfl 0 (by decide) kf_7 (fun _ h9 => h9) rfl (by decide +kernel) rfl rfl (Nat.le_of_ble_eq_true rfl) dX6_init_6 (fun H locs hP hD hS => ?_)
  have hP : va_P D vwCl [(h0, .inr (6, [.int p1, .int 0, .int 0, .int 0]))] H := hP
  have hD : va_D A [(h0, .inr (6, [.int p1, .int 0, .int 0, .int 0]))] := hD
  refine lv_aload_n hx hb dX6_init_9 rfl (lv_at hl 0 rfl) ?_
  refine lv_iload_n hx hb dX6_init_10 rfl (lv_at hl 2 rfl) ?_
  refine va_put (D := D) (ci := 6) (v := .int p2) (ty := .int) (C := RX6) (T := TX6) (N := 4) hx hb hts in_X6 tyX6 tyX6_ok nmX6 hown hK hP hD hS 0 rfl rfl 1 (by decide) kf_13 (fun _ h9 => h9) rfl (by decide +kernel) rfl rfl (Nat.le_of_ble_eq_true rfl) dX6_init_11 (fun H locs hP hD hS => ?_)
  have hP : va_P D vwCl [(h0, .inr (6, [.int p1, .int p2, .int 0, .int 0]))] H := hP
  have hD : va_D A [(h0, .inr (6, [.int p1, .int p2, .int 0, .int 0]))] := hD
  refine lv_aload_n hx hb dX6_init_14 rfl (lv_at hl 0 rfl) ?_
  refine lv_iload_n hx hb dX6_init_15 rfl (lv_at hl 3 rfl) ?_
  refine va_put (D := D) (ci := 6) (v := .int p3) (ty := .int) (C := RX6) (T := TX6) (N := 4) hx hb hts in_X6 tyX6 tyX6_ok nmX6 hown hK hP hD hS 0 rfl rfl 2 (by decide) kf_16 (fun _ h9 => h9) rfl (by decide +kernel) rfl rfl (Nat.le_of_ble_eq_true rfl) dX6_init_16 (fun H locs hP hD hS => ?_)
  have hP : va_P D vwCl [(h0, .inr (6, [.int p1, .int p2, .int p3, .int 0]))] H := hP
  have hD : va_D A [(h0, .inr (6, [.int p1, .int p2, .int p3, .int 0]))] := hD
  refine lv_aload_n hx hb dX6_init_19 rfl (lv_at hl 0 rfl) ?_
  refine lv_iload hx hb dX6_init_20 (lv_at hl 4 rfl) ?_
  refine va_put (D := D) (ci := 6) (v := .int p4) (ty := .int) (C := RX6) (T := TX6) (N := 4) hx hb hts in_X6 tyX6 tyX6_ok nmX6 hown hK hP hD hS 0 rfl rfl 3 (by decide) kf_19 (fun _ h9 => h9) rfl (by decide +kernel) rfl rfl (Nat.le_of_ble_eq_true rfl) dX6_init_22 (fun H locs hP hD hS => ?_)
  have hP : va_P D vwCl [(h0, .inr (6, [.int p1, .int p2, .int p3, .int p4]))] H := hP
  have hD : va_D A [(h0, .inr (6, [.int p1, .int p2, .int p3, .int p4]))] := hD
  have hP9 : va_P D vwCl (w_Span cT (x_hd h0 (x_ad [0])) (x_mk [x_fl [p1, p2, p3, p4]])) H := (x_P_D_sub hP hD [0] (by decide) rfl).1
  have hD9 : va_D A (w_Span cT (x_hd h0 (x_ad [0])) (x_mk [x_fl [p1, p2, p3, p4]])) := (x_P_D_sub hP hD [0] (by decide) rfl).2
  exact W.vret hx hb hr (fun t ht hW => ⟨⟨(x_ad [0], x_mk [x_fl [p1, p2, p3, p4]]), rfl, hv, by rw [ht]; exact hP9, va_K.moved hW.alike hK, hD9⟩, hS.F ht⟩) hS.2.2 dX6_init_25
def v_X4_init (post : ST → Prop) : Prop := v_X6_init 16 2 3 3 (fun zu_2 => v_X6_init 8 1 1 1 (fun zu_4 => post (x_mk [x_fl [0, 0, 0], (zu_2 0), (zu_4 0)])))
set_option maxHeartbeats 4000000 in
set_option maxRecDepth 100000 in
theorem c_X4_init (l : Launch) (D : va_G) (cT : Nat → ClassId) (h0 : Nat) (sz : Nat) (post : ST → Prop) (hv : v_X4_init  post) : Met l yX4_init wsX4_init ({ frames := 2, cells := 2, slots := 8, locals := 36 }) (va_Pc [.ref h0] (x_U D cT [(h0, .inr (4, [.null, .null, .int 0]))] sz)) (va_Qv (fun u : (Nat → Nat) × ST => post u.2) (fun u t => x_B D cT (w_Mode cT (x_hd h0 u.1) u.2) (va_A [(h0, .inr (4, [.null, .null, .int 0]))] sz) t) (va_A [(h0, .inr (4, [.null, .null, .int 0]))] sz)) 2 8 (va_A [(h0, .inr (4, [.null, .null, .int 0]))] sz) := by
  refine Met.ofW (cc := cX4_init) (maxL := 1) (ret := none) (by decide) rfl ?_
  intro p e s m args below meth c s₁ B hml hpre
  obtain ⟨rfl, hsz, hP, hK, hD0, hN⟩ := hpre
  have hx := B.exec
  have hb := B.bytes
  have hr := B.returns
  have hts := atoms_spec (ws := wsX4_init) B.pre
  have hown : s.vm.findClass RX4 = some m.cls := findClass_of_methodNamed B.named
  have hlocks := B.notSynchronized
  have hin : meth.name = "<init>" := (name_of_methodNamed B.named B.method).1
  subst hsz
  have hD := hD0.self (sz := s.heap.size)
  generalize hAe : va_A [(h0, .inr (4, [.null, .null, .int 0]))] s.heap.size = A at hD hN ⊢
  have hA : ∀ q : Nat, s.heap.size ≤ q → A q := fun q h => by rw [← hAe]; exact Or.inr h
  have hS : va_S A s.heap s.heap [] := va_S.rf
  have hP : va_P D vwCl [(h0, .inr (4, [.null, .null, .int 0]))] s.heap := hP
  have hl := lv_entry ([.ref h0]) (n := 1) (Nat.le_of_ble_eq_true rfl)
  rw [lg_entry_eq]
  generalize (lg_sl ([.ref h0]) ++ List.replicate (1 - (lg_sl ([.ref h0])).length) Slot.unset).toArray = ls at hl ⊢
  have hl : lv_has ls 1 [(0, .ref h0)] := hl
  have in_X4 : ∀ w ∈ wsX40, w ∈ wsX4_init := by decide +kernel
  have in_X6 : ∀ w ∈ wsX60, w ∈ wsX4_init := by decide +kernel
  have kl_7 : (Cond.classLink RX4 7 RX6).before ([.ref h0] : List Value).toArray s = true := hts _ (by decide +kernel)
  have kn_X6 : (Cond.instantiable RX6 4).before ([.ref h0] : List Value).toArray s = true := hts _ (by decide +kernel)
  have ki_X6 : (Cond.initialized RX6).before ([.ref h0] : List Value).toArray s = true := hts _ (by decide +kernel)
  have w_9 : CallB (headSpec wsX4_init ({ frames := 2, cells := 2, slots := 8, locals := 36 })).room s ([.ref h0] : List Value).toArray RX4 9 yX6_init cX6_init 5 none wsX6_init ({ frames := 1, cells := 0, slots := 0, locals := 12 } : Room) 0 0 4 ∧ yX6_init.name = "<init>" ∧ (Cond.instanceMethod yX6_init).before ([.ref h0] : List Value).toArray s = true := cwI 4 hts gX4_init_X6_init rfl rfl rfl (hts (.initialized RX6) (by decide +kernel)) (hts (.methodLink RX4 9 yX6_init) (by decide +kernel)) (hts (.instanceMethod yX6_init) (by decide +kernel)) rfl (by decide +kernel) ⟨Nat.le_of_ble_eq_true rfl, Nat.le_of_ble_eq_true rfl⟩
  have kf_12 : (Cond.fieldLink RX4 12 "PictureBeats$Mode" "across" "LPictureBeats$Span;").before ([.ref h0] : List Value).toArray s = true := hts _ (by decide +kernel)
  have kf_18 : (Cond.fieldLink RX4 18 "PictureBeats$Mode" "down" "LPictureBeats$Span;").before ([.ref h0] : List Value).toArray s = true := hts _ (by decide +kernel)
  refine lv_aload_n hx hb dX4_init_0 rfl (lv_at hl 0 rfl) ?_
  refine W.objInit hx hb hown (hts (.methodLink RX4 1 objectInit) (List.mem_of_getElem? (i := 1) rfl)) (hts (.instanceMethod objectInit) (List.mem_of_getElem? (i := 2) rfl)) (hts (.code objectInit ⟨#[0xb1]⟩ 1 none) (List.mem_of_getElem? (i := 3) rfl)) rfl (by rw [hml]; exact hl.1) rfl dX4_init_1 (Nat.le_of_ble_eq_true rfl) (Nat.le_of_ble_eq_true rfl) ?_
  refine W.eq (g2 := F0 m 4 ls []) rfl ?_
  refine lv_aload_n hx hb dX4_init_4 rfl (lv_at hl 0 rfl) ?_
  refine va_new (ci := 6) (fs := [.int 0, .int 0, .int 0, .int 0]) (C := RX6) (T := TX6) (N := 4) hx hb hts in_X6 tyX6 tyX6_ok hown kl_7 kn_X6 ki_X6 hK hP hD hS hA rfl (fun j hj => by rcases (show j = 0 ∨ j = 1 ∨ j = 2 ∨ j = 3 by omega) with rfl | rfl | rfl | rfl <;> rfl) (Nat.le_of_ble_eq_true rfl) (Nat.le_of_ble_eq_true rfl) dX4_init_5 (fun q_1 H hP hD hS => ?_)
  have hP : va_P D vwCl [(h0, .inr (4, [.null, .null, .int 0])), (q_1, .inr (6, [.int 0, .int 0, .int 0, .int 0]))] H := hP
  have hD : va_D A [(h0, .inr (4, [.null, .null, .int 0])), (q_1, .inr (6, [.int 0, .int 0, .int 0, .int 0]))] := hD
  refine W.widen (k := 1) (n := 4) (Nat.le_of_ble_eq_true rfl) (Nat.le_of_ble_eq_true rfl) ?_
  refine lv_dup hx hb dX4_init_8 rfl ?_
  refine lv_bipush (v := 16) hx hb dX4_init_9 (by decide) ?_
  refine lv_iconst (v := 2) hx hb dX4_init_11 (by decide) ?_
  refine lv_iconst (v := 3) hx hb dX4_init_12 (by decide) ?_
  refine lv_iconst (v := 3) hx hb dX4_init_13 (by decide) ?_
  refine x_cI (As := [.int 16, .int 2, .int 3, .int 3]) (rest := [.ref q_1, .ref h0]) (wn := fun u_2 => [(h0, .inr (4, [.null, .null, .int 0])), (q_1, .inr (6, [.int (u_2.2 0 0), .int (u_2.2 0 1), .int (u_2.2 0 2), .int (u_2.2 0 3)]))]) ⟨hx, hb, hml, hown, hts⟩ (c_X6_init l D cT q_1 _ 16 2 3 3 _ hv) w_9 hK hP hD hS hA hN [1] [0] [0, 1] rfl rfl (fun _ => rfl) (by decide) (by decide) (by decide) (by decide) rfl hl.1 rfl (Nat.le_of_ble_eq_true rfl) dX4_init_14 ⟨Nat.le_of_ble_eq_true rfl, Nat.le_of_ble_eq_true rfl⟩ (fun u_2 H locs hv hP hD hS => ?_)
  refine W.widen (k := 1) (n := 4) (Nat.le_of_ble_eq_true rfl) (Nat.le_of_ble_eq_true rfl) ?_
  refine va_putF (D := D) (ci := 4) (v := .ref q_1) (ty := .object "PictureBeats$Span") (C := RX4) (T := TX4) (N := 3) hx hb hts in_X4 tyX4 tyX4_ok nmX4 hown hK hP hD hS 0 rfl rfl 0 (by decide) kf_12 (fun _ h9 => h9) rfl hin rfl (by decide +kernel) rfl rfl (Nat.le_of_ble_eq_true rfl) dX4_init_17 (fun H locs hP hD hS => ?_)
  have hP : va_P D vwCl [(h0, .inr (4, [.ref q_1, .null, .int 0])), (q_1, .inr (6, [.int (u_2.2 0 0), .int (u_2.2 0 1), .int (u_2.2 0 2), .int (u_2.2 0 3)]))] H := hP
  have hD : va_D A [(h0, .inr (4, [.ref q_1, .null, .int 0])), (q_1, .inr (6, [.int (u_2.2 0 0), .int (u_2.2 0 1), .int (u_2.2 0 2), .int (u_2.2 0 3)]))] := hD
  refine lv_aload_n hx hb dX4_init_20 rfl (lv_at hl 0 rfl) ?_
  refine va_new (ci := 6) (fs := [.int 0, .int 0, .int 0, .int 0]) (C := RX6) (T := TX6) (N := 4) hx hb hts in_X6 tyX6 tyX6_ok hown kl_7 kn_X6 ki_X6 hK hP hD hS hA rfl (fun j hj => by rcases (show j = 0 ∨ j = 1 ∨ j = 2 ∨ j = 3 by omega) with rfl | rfl | rfl | rfl <;> rfl) (Nat.le_of_ble_eq_true rfl) (Nat.le_of_ble_eq_true rfl) dX4_init_21 (fun q_3 H hP hD hS => ?_)
  have hP : va_P D vwCl [(h0, .inr (4, [.ref q_1, .null, .int 0])), (q_1, .inr (6, [.int (u_2.2 0 0), .int (u_2.2 0 1), .int (u_2.2 0 2), .int (u_2.2 0 3)])), (q_3, .inr (6, [.int 0, .int 0, .int 0, .int 0]))] H := hP
  have hD : va_D A [(h0, .inr (4, [.ref q_1, .null, .int 0])), (q_1, .inr (6, [.int (u_2.2 0 0), .int (u_2.2 0 1), .int (u_2.2 0 2), .int (u_2.2 0 3)])), (q_3, .inr (6, [.int 0, .int 0, .int 0, .int 0]))] := hD
  refine W.widen (k := 2) (n := 8) (Nat.le_of_ble_eq_true rfl) (Nat.le_of_ble_eq_true rfl) ?_
  refine lv_dup hx hb dX4_init_24 rfl ?_
  refine lv_bipush (v := 8) hx hb dX4_init_25 (by decide) ?_
  refine lv_iconst (v := 1) hx hb dX4_init_27 (by decide) ?_
  refine lv_iconst (v := 1) hx hb dX4_init_28 (by decide) ?_
  refine lv_iconst (v := 1) hx hb dX4_init_29 (by decide) ?_
  refine x_cI (As := [.int 8, .int 1, .int 1, .int 1]) (rest := [.ref q_3, .ref h0]) (wn := fun u_4 => [(h0, .inr (4, [.ref q_1, .null, .int 0])), (q_1, .inr (6, [.int (u_2.2 0 0), .int (u_2.2 0 1), .int (u_2.2 0 2), .int (u_2.2 0 3)])), (q_3, .inr (6, [.int (u_4.2 0 0), .int (u_4.2 0 1), .int (u_4.2 0 2), .int (u_4.2 0 3)]))]) ⟨hx, hb, hml, hown, hts⟩ (c_X6_init l D cT q_3 _ 8 1 1 1 _ hv) w_9 hK hP hD hS hA hN [2] [0, 1] [0, 1, 2] rfl rfl (fun _ => rfl) (by decide) (by decide) (by decide) (by decide) rfl hl.1 rfl (Nat.le_of_ble_eq_true rfl) dX4_init_30 ⟨Nat.le_of_ble_eq_true rfl, Nat.le_of_ble_eq_true rfl⟩ (fun u_4 H locs hv hP hD hS => ?_)
  refine W.widen (k := 2) (n := 8) (Nat.le_of_ble_eq_true rfl) (Nat.le_of_ble_eq_true rfl) ?_
  refine va_putF (D := D) (ci := 4) (v := .ref q_3) (ty := .object "PictureBeats$Span") (C := RX4) (T := TX4) (N := 3) hx hb hts in_X4 tyX4 tyX4_ok nmX4 hown hK hP hD hS 0 rfl rfl 1 (by decide) kf_18 (fun _ h9 => h9) rfl hin rfl (by decide +kernel) rfl rfl (Nat.le_of_ble_eq_true rfl) dX4_init_33 (fun H locs hP hD hS => ?_)
  have hP : va_P D vwCl [(h0, .inr (4, [.ref q_1, .ref q_3, .int 0])), (q_1, .inr (6, [.int (u_2.2 0 0), .int (u_2.2 0 1), .int (u_2.2 0 2), .int (u_2.2 0 3)])), (q_3, .inr (6, [.int (u_4.2 0 0), .int (u_4.2 0 1), .int (u_4.2 0 2), .int (u_4.2 0 3)]))] H := hP
  have hD : va_D A [(h0, .inr (4, [.ref q_1, .ref q_3, .int 0])), (q_1, .inr (6, [.int (u_2.2 0 0), .int (u_2.2 0 1), .int (u_2.2 0 2), .int (u_2.2 0 3)])), (q_3, .inr (6, [.int (u_4.2 0 0), .int (u_4.2 0 1), .int (u_4.2 0 2), .int (u_4.2 0 3)]))] := hD
  have hP9 : va_P D vwCl (w_Mode cT (x_hd h0 (x_ad [0, q_1, q_3])) (x_mk [x_fl [0, 0, 0], (u_2.2 0), (u_4.2 0)])) H := (x_P_D_sub hP hD [0, 1, 2] (by decide) rfl).1
  have hD9 : va_D A (w_Mode cT (x_hd h0 (x_ad [0, q_1, q_3])) (x_mk [x_fl [0, 0, 0], (u_2.2 0), (u_4.2 0)])) := (x_P_D_sub hP hD [0, 1, 2] (by decide) rfl).2
  exact W.vret hx hb hr (fun t ht hW => ⟨⟨(x_ad [0, q_1, q_3], x_mk [x_fl [0, 0, 0], (u_2.2 0), (u_4.2 0)]), rfl, hv, by rw [ht]; exact hP9, va_K.moved hW.alike hK, hD9⟩, hS.F ht⟩) hS.2.2 dX4_init_36
def v_X0_init (post : ST → Prop) : Prop := v_X4_init (fun zu_2 => v_X4_init (fun zu_4 => v_X4_init (fun zu_6 => v_X6_whole (fun _ => (zu_2 2)) (fun r_7 => post (x_mk [x_fl [0, 0, 0, (zu_2 1 0), (r_7 - 1), 0, 0], (zu_2 0), (zu_2 1), (zu_2 2), (zu_4 0), (zu_4 1), (zu_4 2), (zu_6 0), (zu_6 1), (zu_6 2)])))))
set_option maxHeartbeats 4000000 in
set_option maxRecDepth 100000 in
theorem c_X0_init (l : Launch) (D : va_G) (cT : Nat → ClassId) (h0 : Nat) (sz : Nat) (post : ST → Prop) (hv : v_X0_init  post) : Met l yX0_init wsX0_init ({ frames := 3, cells := 9, slots := 33, locals := 56 }) (va_Pc [.ref h0] (x_U D cT [(h0, .inr (0, [.null, .null, .null, .int 0, .int 0, .int 0, .int 0]))] sz)) (va_Qv (fun u : (Nat → Nat) × ST => post u.2) (fun u t => x_B D cT (w_Beam cT (x_hd h0 u.1) u.2) (va_A [(h0, .inr (0, [.null, .null, .null, .int 0, .int 0, .int 0, .int 0]))] sz) t) (va_A [(h0, .inr (0, [.null, .null, .null, .int 0, .int 0, .int 0, .int 0]))] sz)) 9 33 (va_A [(h0, .inr (0, [.null, .null, .null, .int 0, .int 0, .int 0, .int 0]))] sz) := by
  refine Met.ofW (cc := cX0_init) (maxL := 1) (ret := none) (by decide) rfl ?_
  intro p e s m args below meth c s₁ B hml hpre
  obtain ⟨rfl, hsz, hP, hK, hD0, hN⟩ := hpre
  have hx := B.exec
  have hb := B.bytes
  have hr := B.returns
  have hts := atoms_spec (ws := wsX0_init) B.pre
  have hown : s.vm.findClass RX0 = some m.cls := findClass_of_methodNamed B.named
  have hlocks := B.notSynchronized
  have hin : meth.name = "<init>" := (name_of_methodNamed B.named B.method).1
  subst hsz
  have hD := hD0.self (sz := s.heap.size)
  generalize hAe : va_A [(h0, .inr (0, [.null, .null, .null, .int 0, .int 0, .int 0, .int 0]))] s.heap.size = A at hD hN ⊢
  have hA : ∀ q : Nat, s.heap.size ≤ q → A q := fun q h => by rw [← hAe]; exact Or.inr h
  have hS : va_S A s.heap s.heap [] := va_S.rf
  have hP : va_P D vwCl [(h0, .inr (0, [.null, .null, .null, .int 0, .int 0, .int 0, .int 0]))] s.heap := hP
  have hl := lv_entry ([.ref h0]) (n := 1) (Nat.le_of_ble_eq_true rfl)
  rw [lg_entry_eq]
  generalize (lg_sl ([.ref h0]) ++ List.replicate (1 - (lg_sl ([.ref h0])).length) Slot.unset).toArray = ls at hl ⊢
  have hl : lv_has ls 1 [(0, .ref h0)] := hl
  have in_X0 : ∀ w ∈ wsX00, w ∈ wsX0_init := by decide +kernel
  have in_X4 : ∀ w ∈ wsX40, w ∈ wsX0_init := by decide +kernel
  have in_X6 : ∀ w ∈ wsX60, w ∈ wsX0_init := by decide +kernel
  have kl_9 : (Cond.classLink RX0 9 RX4).before ([.ref h0] : List Value).toArray s = true := hts _ (by decide +kernel)
  have kn_X4 : (Cond.instantiable RX4 3).before ([.ref h0] : List Value).toArray s = true := hts _ (by decide +kernel)
  have ki_X4 : (Cond.initialized RX4).before ([.ref h0] : List Value).toArray s = true := hts _ (by decide +kernel)
  have w_11 : va_CN (headSpec wsX0_init ({ frames := 3, cells := 9, slots := 33, locals := 56 })).room s ([.ref h0] : List Value).toArray RX0 11 yX4_init RX8 cX4_init 1 none wsX4_init ({ frames := 2, cells := 2, slots := 8, locals := 36 } : Room) 2 8 0 ∧ yX4_init.name = "<init>" ∧ (Cond.instanceMethod yX4_init).before ([.ref h0] : List Value).toArray s = true := ⟨va_cnB 0 hts gX0_init_X4_init_n11 rfl rfl rfl (hN.1.2.1) (hts (.initialized RX4) (by decide +kernel)) (by decide +kernel) ⟨Nat.le_of_ble_eq_true rfl, Nat.le_of_ble_eq_true rfl⟩, rfl, hts _ (by decide +kernel)⟩
  have kf_12 : (Cond.fieldLink RX0 12 "PictureBeats$Beam" "holding" "LPictureBeats$Mode;").before ([.ref h0] : List Value).toArray s = true := hts _ (by decide +kernel)
  have kf_18 : (Cond.fieldLink RX0 18 "PictureBeats$Beam" "takenUp" "LPictureBeats$Mode;").before ([.ref h0] : List Value).toArray s = true := hts _ (by decide +kernel)
  have kf_21 : (Cond.fieldLink RX0 21 "PictureBeats$Beam" "told" "LPictureBeats$Mode;").before ([.ref h0] : List Value).toArray s = true := hts _ (by decide +kernel)
  have kf_24 : (Cond.fieldLink RX0 24 "PictureBeats$Mode" "across" "LPictureBeats$Span;").before ([.ref h0] : List Value).toArray s = true := hts _ (by decide +kernel)
  have kf_28 : (Cond.fieldLink RX0 28 "PictureBeats$Span" "seen" "I").before ([.ref h0] : List Value).toArray s = true := hts _ (by decide +kernel)
  have kf_34 : (Cond.fieldLink RX0 34 "PictureBeats$Beam" "x" "I").before ([.ref h0] : List Value).toArray s = true := hts _ (by decide +kernel)
  have kf_37 : (Cond.fieldLink RX0 37 "PictureBeats$Mode" "down" "LPictureBeats$Span;").before ([.ref h0] : List Value).toArray s = true := hts _ (by decide +kernel)
  have w_40 : CallW (headSpec wsX0_init ({ frames := 3, cells := 9, slots := 33, locals := 56 })).room s ([.ref h0] : List Value).toArray RX0 RX6 40 yX6_whole cX6_whole 1 (some .int) wsX6_whole ({ frames := 0, cells := 0, slots := 0, locals := 0 } : Room) 0 0 0 := cwV 0 hts gX0_init_X6_whole rfl rfl rfl (by decide +kernel) ⟨Nat.le_of_ble_eq_true rfl, Nat.le_of_ble_eq_true rfl⟩
  have kf_44 : (Cond.fieldLink RX0 44 "PictureBeats$Beam" "y" "I").before ([.ref h0] : List Value).toArray s = true := hts _ (by decide +kernel)
  refine lv_aload_n hx hb dX0_init_0 rfl (lv_at hl 0 rfl) ?_
  refine W.objInit hx hb hown (hts (.methodLink RX0 3 objectInit) (List.mem_of_getElem? (i := 1) rfl)) (hts (.instanceMethod objectInit) (List.mem_of_getElem? (i := 2) rfl)) (hts (.code objectInit ⟨#[0xb1]⟩ 1 none) (List.mem_of_getElem? (i := 3) rfl)) rfl (by rw [hml]; exact hl.1) rfl dX0_init_1 (Nat.le_of_ble_eq_true rfl) (Nat.le_of_ble_eq_true rfl) ?_
  refine W.eq (g2 := F0 m 4 ls []) rfl ?_
  refine lv_aload_n hx hb dX0_init_4 rfl (lv_at hl 0 rfl) ?_
  refine va_new (ci := 4) (fs := [.null, .null, .int 0]) (C := RX4) (T := TX4) (N := 3) hx hb hts in_X4 tyX4 tyX4_ok hown kl_9 kn_X4 ki_X4 hK hP hD hS hA rfl (fun j hj => by rcases (show j = 0 ∨ j = 1 ∨ j = 2 by omega) with rfl | rfl | rfl <;> rfl) (Nat.le_of_ble_eq_true rfl) (Nat.le_of_ble_eq_true rfl) dX0_init_5 (fun q_1 H hP hD hS => ?_)
  have hP : va_P D vwCl [(h0, .inr (0, [.null, .null, .null, .int 0, .int 0, .int 0, .int 0])), (q_1, .inr (4, [.null, .null, .int 0]))] H := hP
  have hD : va_D A [(h0, .inr (0, [.null, .null, .null, .int 0, .int 0, .int 0, .int 0])), (q_1, .inr (4, [.null, .null, .int 0]))] := hD
  refine W.widen (k := 1) (n := 3) (Nat.le_of_ble_eq_true rfl) (Nat.le_of_ble_eq_true rfl) ?_
  refine lv_dup hx hb dX0_init_8 rfl ?_
  refine x_cIN (As := []) (rest := [.ref q_1, .ref h0]) (wn := fun u_2 => [(h0, .inr (0, [.null, .null, .null, .int 0, .int 0, .int 0, .int 0])), (q_1, .inr (4, [.ref (u_2.1 1), .ref (u_2.1 2), .int (u_2.2 0 2)])), ((u_2.1 1), .inr (6, [.int (u_2.2 1 0), .int (u_2.2 1 1), .int (u_2.2 1 2), .int (u_2.2 1 3)])), ((u_2.1 2), .inr (6, [.int (u_2.2 2 0), .int (u_2.2 2 1), .int (u_2.2 2 2), .int (u_2.2 2 3)]))]) ⟨hx, hb, hml, hown, hts⟩ (c_X4_init l D cT q_1 _ _ hv) w_11 hK hP hD hS hA hN [1] [0] [0, 1, 2, 3] rfl rfl (fun _ => rfl) (by decide) (by decide) (by decide) (by decide) rfl hl.1 rfl (Nat.le_of_ble_eq_true rfl) dX0_init_9 ⟨Nat.le_of_ble_eq_true rfl, Nat.le_of_ble_eq_true rfl⟩ (fun u_2 H locs hv hP hD hS => ?_)
  refine W.widen (k := 3) (n := 11) (Nat.le_of_ble_eq_true rfl) (Nat.le_of_ble_eq_true rfl) ?_
  refine va_putF (D := D) (ci := 0) (v := .ref q_1) (ty := .object "PictureBeats$Mode") (C := RX0) (T := TX0) (N := 7) hx hb hts in_X0 tyX0 tyX0_ok nmX0 hown hK hP hD hS 0 rfl rfl 0 (by decide) kf_12 (fun _ h9 => h9) rfl hin rfl (by decide +kernel) rfl rfl (Nat.le_of_ble_eq_true rfl) dX0_init_12 (fun H locs hP hD hS => ?_)
  have hP : va_P D vwCl [(h0, .inr (0, [.ref q_1, .null, .null, .int 0, .int 0, .int 0, .int 0])), (q_1, .inr (4, [.ref (u_2.1 1), .ref (u_2.1 2), .int (u_2.2 0 2)])), ((u_2.1 1), .inr (6, [.int (u_2.2 1 0), .int (u_2.2 1 1), .int (u_2.2 1 2), .int (u_2.2 1 3)])), ((u_2.1 2), .inr (6, [.int (u_2.2 2 0), .int (u_2.2 2 1), .int (u_2.2 2 2), .int (u_2.2 2 3)]))] H := hP
  have hD : va_D A [(h0, .inr (0, [.ref q_1, .null, .null, .int 0, .int 0, .int 0, .int 0])), (q_1, .inr (4, [.ref (u_2.1 1), .ref (u_2.1 2), .int (u_2.2 0 2)])), ((u_2.1 1), .inr (6, [.int (u_2.2 1 0), .int (u_2.2 1 1), .int (u_2.2 1 2), .int (u_2.2 1 3)])), ((u_2.1 2), .inr (6, [.int (u_2.2 2 0), .int (u_2.2 2 1), .int (u_2.2 2 2), .int (u_2.2 2 3)]))] := hD
  refine lv_aload_n hx hb dX0_init_15 rfl (lv_at hl 0 rfl) ?_
  refine va_new (ci := 4) (fs := [.null, .null, .int 0]) (C := RX4) (T := TX4) (N := 3) hx hb hts in_X4 tyX4 tyX4_ok hown kl_9 kn_X4 ki_X4 hK hP hD hS hA rfl (fun j hj => by rcases (show j = 0 ∨ j = 1 ∨ j = 2 by omega) with rfl | rfl | rfl <;> rfl) (Nat.le_of_ble_eq_true rfl) (Nat.le_of_ble_eq_true rfl) dX0_init_16 (fun q_3 H hP hD hS => ?_)
  have hP : va_P D vwCl [(h0, .inr (0, [.ref q_1, .null, .null, .int 0, .int 0, .int 0, .int 0])), (q_1, .inr (4, [.ref (u_2.1 1), .ref (u_2.1 2), .int (u_2.2 0 2)])), ((u_2.1 1), .inr (6, [.int (u_2.2 1 0), .int (u_2.2 1 1), .int (u_2.2 1 2), .int (u_2.2 1 3)])), ((u_2.1 2), .inr (6, [.int (u_2.2 2 0), .int (u_2.2 2 1), .int (u_2.2 2 2), .int (u_2.2 2 3)])), (q_3, .inr (4, [.null, .null, .int 0]))] H := hP
  have hD : va_D A [(h0, .inr (0, [.ref q_1, .null, .null, .int 0, .int 0, .int 0, .int 0])), (q_1, .inr (4, [.ref (u_2.1 1), .ref (u_2.1 2), .int (u_2.2 0 2)])), ((u_2.1 1), .inr (6, [.int (u_2.2 1 0), .int (u_2.2 1 1), .int (u_2.2 1 2), .int (u_2.2 1 3)])), ((u_2.1 2), .inr (6, [.int (u_2.2 2 0), .int (u_2.2 2 1), .int (u_2.2 2 2), .int (u_2.2 2 3)])), (q_3, .inr (4, [.null, .null, .int 0]))] := hD
  refine W.widen (k := 4) (n := 14) (Nat.le_of_ble_eq_true rfl) (Nat.le_of_ble_eq_true rfl) ?_
  refine lv_dup hx hb dX0_init_19 rfl ?_
  refine x_cIN (As := []) (rest := [.ref q_3, .ref h0]) (wn := fun u_4 => [(h0, .inr (0, [.ref q_1, .null, .null, .int 0, .int 0, .int 0, .int 0])), (q_1, .inr (4, [.ref (u_2.1 1), .ref (u_2.1 2), .int (u_2.2 0 2)])), ((u_2.1 1), .inr (6, [.int (u_2.2 1 0), .int (u_2.2 1 1), .int (u_2.2 1 2), .int (u_2.2 1 3)])), ((u_2.1 2), .inr (6, [.int (u_2.2 2 0), .int (u_2.2 2 1), .int (u_2.2 2 2), .int (u_2.2 2 3)])), (q_3, .inr (4, [.ref (u_4.1 1), .ref (u_4.1 2), .int (u_4.2 0 2)])), ((u_4.1 1), .inr (6, [.int (u_4.2 1 0), .int (u_4.2 1 1), .int (u_4.2 1 2), .int (u_4.2 1 3)])), ((u_4.1 2), .inr (6, [.int (u_4.2 2 0), .int (u_4.2 2 1), .int (u_4.2 2 2), .int (u_4.2 2 3)]))]) ⟨hx, hb, hml, hown, hts⟩ (c_X4_init l D cT q_3 _ _ hv) w_11 hK hP hD hS hA hN [4] [0, 1, 2, 3] [0, 1, 2, 3, 4, 5, 6] rfl rfl (fun _ => rfl) (by decide) (by decide) (by decide) (by decide) rfl hl.1 rfl (Nat.le_of_ble_eq_true rfl) dX0_init_20 ⟨Nat.le_of_ble_eq_true rfl, Nat.le_of_ble_eq_true rfl⟩ (fun u_4 H locs hv hP hD hS => ?_)
  refine W.widen (k := 6) (n := 22) (Nat.le_of_ble_eq_true rfl) (Nat.le_of_ble_eq_true rfl) ?_
  refine va_putF (D := D) (ci := 0) (v := .ref q_3) (ty := .object "PictureBeats$Mode") (C := RX0) (T := TX0) (N := 7) hx hb hts in_X0 tyX0 tyX0_ok nmX0 hown hK hP hD hS 0 rfl rfl 1 (by decide) kf_18 (fun _ h9 => h9) rfl hin rfl (by decide +kernel) rfl rfl (Nat.le_of_ble_eq_true rfl) dX0_init_23 (fun H locs hP hD hS => ?_)
  have hP : va_P D vwCl [(h0, .inr (0, [.ref q_1, .ref q_3, .null, .int 0, .int 0, .int 0, .int 0])), (q_1, .inr (4, [.ref (u_2.1 1), .ref (u_2.1 2), .int (u_2.2 0 2)])), ((u_2.1 1), .inr (6, [.int (u_2.2 1 0), .int (u_2.2 1 1), .int (u_2.2 1 2), .int (u_2.2 1 3)])), ((u_2.1 2), .inr (6, [.int (u_2.2 2 0), .int (u_2.2 2 1), .int (u_2.2 2 2), .int (u_2.2 2 3)])), (q_3, .inr (4, [.ref (u_4.1 1), .ref (u_4.1 2), .int (u_4.2 0 2)])), ((u_4.1 1), .inr (6, [.int (u_4.2 1 0), .int (u_4.2 1 1), .int (u_4.2 1 2), .int (u_4.2 1 3)])), ((u_4.1 2), .inr (6, [.int (u_4.2 2 0), .int (u_4.2 2 1), .int (u_4.2 2 2), .int (u_4.2 2 3)]))] H := hP
  have hD : va_D A [(h0, .inr (0, [.ref q_1, .ref q_3, .null, .int 0, .int 0, .int 0, .int 0])), (q_1, .inr (4, [.ref (u_2.1 1), .ref (u_2.1 2), .int (u_2.2 0 2)])), ((u_2.1 1), .inr (6, [.int (u_2.2 1 0), .int (u_2.2 1 1), .int (u_2.2 1 2), .int (u_2.2 1 3)])), ((u_2.1 2), .inr (6, [.int (u_2.2 2 0), .int (u_2.2 2 1), .int (u_2.2 2 2), .int (u_2.2 2 3)])), (q_3, .inr (4, [.ref (u_4.1 1), .ref (u_4.1 2), .int (u_4.2 0 2)])), ((u_4.1 1), .inr (6, [.int (u_4.2 1 0), .int (u_4.2 1 1), .int (u_4.2 1 2), .int (u_4.2 1 3)])), ((u_4.1 2), .inr (6, [.int (u_4.2 2 0), .int (u_4.2 2 1), .int (u_4.2 2 2), .int (u_4.2 2 3)]))] := hD
  refine lv_aload_n hx hb dX0_init_26 rfl (lv_at hl 0 rfl) ?_
  refine va_new (ci := 4) (fs := [.null, .null, .int 0]) (C := RX4) (T := TX4) (N := 3) hx hb hts in_X4 tyX4 tyX4_ok hown kl_9 kn_X4 ki_X4 hK hP hD hS hA rfl (fun j hj => by rcases (show j = 0 ∨ j = 1 ∨ j = 2 by omega) with rfl | rfl | rfl <;> rfl) (Nat.le_of_ble_eq_true rfl) (Nat.le_of_ble_eq_true rfl) dX0_init_27 (fun q_5 H hP hD hS => ?_)
  have hP : va_P D vwCl [(h0, .inr (0, [.ref q_1, .ref q_3, .null, .int 0, .int 0, .int 0, .int 0])), (q_1, .inr (4, [.ref (u_2.1 1), .ref (u_2.1 2), .int (u_2.2 0 2)])), ((u_2.1 1), .inr (6, [.int (u_2.2 1 0), .int (u_2.2 1 1), .int (u_2.2 1 2), .int (u_2.2 1 3)])), ((u_2.1 2), .inr (6, [.int (u_2.2 2 0), .int (u_2.2 2 1), .int (u_2.2 2 2), .int (u_2.2 2 3)])), (q_3, .inr (4, [.ref (u_4.1 1), .ref (u_4.1 2), .int (u_4.2 0 2)])), ((u_4.1 1), .inr (6, [.int (u_4.2 1 0), .int (u_4.2 1 1), .int (u_4.2 1 2), .int (u_4.2 1 3)])), ((u_4.1 2), .inr (6, [.int (u_4.2 2 0), .int (u_4.2 2 1), .int (u_4.2 2 2), .int (u_4.2 2 3)])), (q_5, .inr (4, [.null, .null, .int 0]))] H := hP
  have hD : va_D A [(h0, .inr (0, [.ref q_1, .ref q_3, .null, .int 0, .int 0, .int 0, .int 0])), (q_1, .inr (4, [.ref (u_2.1 1), .ref (u_2.1 2), .int (u_2.2 0 2)])), ((u_2.1 1), .inr (6, [.int (u_2.2 1 0), .int (u_2.2 1 1), .int (u_2.2 1 2), .int (u_2.2 1 3)])), ((u_2.1 2), .inr (6, [.int (u_2.2 2 0), .int (u_2.2 2 1), .int (u_2.2 2 2), .int (u_2.2 2 3)])), (q_3, .inr (4, [.ref (u_4.1 1), .ref (u_4.1 2), .int (u_4.2 0 2)])), ((u_4.1 1), .inr (6, [.int (u_4.2 1 0), .int (u_4.2 1 1), .int (u_4.2 1 2), .int (u_4.2 1 3)])), ((u_4.1 2), .inr (6, [.int (u_4.2 2 0), .int (u_4.2 2 1), .int (u_4.2 2 2), .int (u_4.2 2 3)])), (q_5, .inr (4, [.null, .null, .int 0]))] := hD
  refine W.widen (k := 7) (n := 25) (Nat.le_of_ble_eq_true rfl) (Nat.le_of_ble_eq_true rfl) ?_
  refine lv_dup hx hb dX0_init_30 rfl ?_
  refine x_cIN (As := []) (rest := [.ref q_5, .ref h0]) (wn := fun u_6 => [(h0, .inr (0, [.ref q_1, .ref q_3, .null, .int 0, .int 0, .int 0, .int 0])), (q_1, .inr (4, [.ref (u_2.1 1), .ref (u_2.1 2), .int (u_2.2 0 2)])), ((u_2.1 1), .inr (6, [.int (u_2.2 1 0), .int (u_2.2 1 1), .int (u_2.2 1 2), .int (u_2.2 1 3)])), ((u_2.1 2), .inr (6, [.int (u_2.2 2 0), .int (u_2.2 2 1), .int (u_2.2 2 2), .int (u_2.2 2 3)])), (q_3, .inr (4, [.ref (u_4.1 1), .ref (u_4.1 2), .int (u_4.2 0 2)])), ((u_4.1 1), .inr (6, [.int (u_4.2 1 0), .int (u_4.2 1 1), .int (u_4.2 1 2), .int (u_4.2 1 3)])), ((u_4.1 2), .inr (6, [.int (u_4.2 2 0), .int (u_4.2 2 1), .int (u_4.2 2 2), .int (u_4.2 2 3)])), (q_5, .inr (4, [.ref (u_6.1 1), .ref (u_6.1 2), .int (u_6.2 0 2)])), ((u_6.1 1), .inr (6, [.int (u_6.2 1 0), .int (u_6.2 1 1), .int (u_6.2 1 2), .int (u_6.2 1 3)])), ((u_6.1 2), .inr (6, [.int (u_6.2 2 0), .int (u_6.2 2 1), .int (u_6.2 2 2), .int (u_6.2 2 3)]))]) ⟨hx, hb, hml, hown, hts⟩ (c_X4_init l D cT q_5 _ _ hv) w_11 hK hP hD hS hA hN [7] [0, 1, 2, 3, 4, 5, 6] [0, 1, 2, 3, 4, 5, 6, 7, 8, 9] rfl rfl (fun _ => rfl) (by decide) (by decide) (by decide) (by decide) rfl hl.1 rfl (Nat.le_of_ble_eq_true rfl) dX0_init_31 ⟨Nat.le_of_ble_eq_true rfl, Nat.le_of_ble_eq_true rfl⟩ (fun u_6 H locs hv hP hD hS => ?_)
  refine W.widen (k := 9) (n := 33) (Nat.le_of_ble_eq_true rfl) (Nat.le_of_ble_eq_true rfl) ?_
  refine va_putF (D := D) (ci := 0) (v := .ref q_5) (ty := .object "PictureBeats$Mode") (C := RX0) (T := TX0) (N := 7) hx hb hts in_X0 tyX0 tyX0_ok nmX0 hown hK hP hD hS 0 rfl rfl 2 (by decide) kf_21 (fun _ h9 => h9) rfl hin rfl (by decide +kernel) rfl rfl (Nat.le_of_ble_eq_true rfl) dX0_init_34 (fun H locs hP hD hS => ?_)
  have hP : va_P D vwCl [(h0, .inr (0, [.ref q_1, .ref q_3, .ref q_5, .int 0, .int 0, .int 0, .int 0])), (q_1, .inr (4, [.ref (u_2.1 1), .ref (u_2.1 2), .int (u_2.2 0 2)])), ((u_2.1 1), .inr (6, [.int (u_2.2 1 0), .int (u_2.2 1 1), .int (u_2.2 1 2), .int (u_2.2 1 3)])), ((u_2.1 2), .inr (6, [.int (u_2.2 2 0), .int (u_2.2 2 1), .int (u_2.2 2 2), .int (u_2.2 2 3)])), (q_3, .inr (4, [.ref (u_4.1 1), .ref (u_4.1 2), .int (u_4.2 0 2)])), ((u_4.1 1), .inr (6, [.int (u_4.2 1 0), .int (u_4.2 1 1), .int (u_4.2 1 2), .int (u_4.2 1 3)])), ((u_4.1 2), .inr (6, [.int (u_4.2 2 0), .int (u_4.2 2 1), .int (u_4.2 2 2), .int (u_4.2 2 3)])), (q_5, .inr (4, [.ref (u_6.1 1), .ref (u_6.1 2), .int (u_6.2 0 2)])), ((u_6.1 1), .inr (6, [.int (u_6.2 1 0), .int (u_6.2 1 1), .int (u_6.2 1 2), .int (u_6.2 1 3)])), ((u_6.1 2), .inr (6, [.int (u_6.2 2 0), .int (u_6.2 2 1), .int (u_6.2 2 2), .int (u_6.2 2 3)]))] H := hP
  have hD : va_D A [(h0, .inr (0, [.ref q_1, .ref q_3, .ref q_5, .int 0, .int 0, .int 0, .int 0])), (q_1, .inr (4, [.ref (u_2.1 1), .ref (u_2.1 2), .int (u_2.2 0 2)])), ((u_2.1 1), .inr (6, [.int (u_2.2 1 0), .int (u_2.2 1 1), .int (u_2.2 1 2), .int (u_2.2 1 3)])), ((u_2.1 2), .inr (6, [.int (u_2.2 2 0), .int (u_2.2 2 1), .int (u_2.2 2 2), .int (u_2.2 2 3)])), (q_3, .inr (4, [.ref (u_4.1 1), .ref (u_4.1 2), .int (u_4.2 0 2)])), ((u_4.1 1), .inr (6, [.int (u_4.2 1 0), .int (u_4.2 1 1), .int (u_4.2 1 2), .int (u_4.2 1 3)])), ((u_4.1 2), .inr (6, [.int (u_4.2 2 0), .int (u_4.2 2 1), .int (u_4.2 2 2), .int (u_4.2 2 3)])), (q_5, .inr (4, [.ref (u_6.1 1), .ref (u_6.1 2), .int (u_6.2 0 2)])), ((u_6.1 1), .inr (6, [.int (u_6.2 1 0), .int (u_6.2 1 1), .int (u_6.2 1 2), .int (u_6.2 1 3)])), ((u_6.1 2), .inr (6, [.int (u_6.2 2 0), .int (u_6.2 2 1), .int (u_6.2 2 2), .int (u_6.2 2 3)]))] := hD
  refine lv_aload_n hx hb dX0_init_37 rfl (lv_at hl 0 rfl) ?_
  refine lv_aload_n hx hb dX0_init_38 rfl (lv_at hl 0 rfl) ?_
  refine va_get (D := D) (ci := 0) (v := .ref q_1) (C := RX0) (T := TX0) (N := 7) hx hb hts in_X0 hown hK hP 0 rfl rfl 0 (by decide) kf_12 (fun _ h9 => h9) rfl dX0_init_39 ?_
  refine va_get (D := D) (ci := 4) (v := .ref (u_2.1 1)) (C := RX4) (T := TX4) (N := 3) hx hb hts in_X4 hown hK hP 1 rfl rfl 0 (by decide) kf_24 (fun _ h9 => h9) rfl dX0_init_42 ?_
  refine va_get (D := D) (ci := 6) (v := .int (u_2.2 1 0)) (C := RX6) (T := TX6) (N := 4) hx hb hts in_X6 hown hK hP 2 rfl rfl 0 (by decide) kf_28 (fun _ h9 => h9) rfl dX0_init_45 ?_
  refine va_put (D := D) (ci := 0) (v := .int (u_2.2 1 0)) (ty := .int) (C := RX0) (T := TX0) (N := 7) hx hb hts in_X0 tyX0 tyX0_ok nmX0 hown hK hP hD hS 0 rfl rfl 3 (by decide) kf_34 (fun _ h9 => h9) rfl (by decide +kernel) rfl rfl (Nat.le_of_ble_eq_true rfl) dX0_init_48 (fun H locs hP hD hS => ?_)
  have hP : va_P D vwCl [(h0, .inr (0, [.ref q_1, .ref q_3, .ref q_5, .int (u_2.2 1 0), .int 0, .int 0, .int 0])), (q_1, .inr (4, [.ref (u_2.1 1), .ref (u_2.1 2), .int (u_2.2 0 2)])), ((u_2.1 1), .inr (6, [.int (u_2.2 1 0), .int (u_2.2 1 1), .int (u_2.2 1 2), .int (u_2.2 1 3)])), ((u_2.1 2), .inr (6, [.int (u_2.2 2 0), .int (u_2.2 2 1), .int (u_2.2 2 2), .int (u_2.2 2 3)])), (q_3, .inr (4, [.ref (u_4.1 1), .ref (u_4.1 2), .int (u_4.2 0 2)])), ((u_4.1 1), .inr (6, [.int (u_4.2 1 0), .int (u_4.2 1 1), .int (u_4.2 1 2), .int (u_4.2 1 3)])), ((u_4.1 2), .inr (6, [.int (u_4.2 2 0), .int (u_4.2 2 1), .int (u_4.2 2 2), .int (u_4.2 2 3)])), (q_5, .inr (4, [.ref (u_6.1 1), .ref (u_6.1 2), .int (u_6.2 0 2)])), ((u_6.1 1), .inr (6, [.int (u_6.2 1 0), .int (u_6.2 1 1), .int (u_6.2 1 2), .int (u_6.2 1 3)])), ((u_6.1 2), .inr (6, [.int (u_6.2 2 0), .int (u_6.2 2 1), .int (u_6.2 2 2), .int (u_6.2 2 3)]))] H := hP
  have hD : va_D A [(h0, .inr (0, [.ref q_1, .ref q_3, .ref q_5, .int (u_2.2 1 0), .int 0, .int 0, .int 0])), (q_1, .inr (4, [.ref (u_2.1 1), .ref (u_2.1 2), .int (u_2.2 0 2)])), ((u_2.1 1), .inr (6, [.int (u_2.2 1 0), .int (u_2.2 1 1), .int (u_2.2 1 2), .int (u_2.2 1 3)])), ((u_2.1 2), .inr (6, [.int (u_2.2 2 0), .int (u_2.2 2 1), .int (u_2.2 2 2), .int (u_2.2 2 3)])), (q_3, .inr (4, [.ref (u_4.1 1), .ref (u_4.1 2), .int (u_4.2 0 2)])), ((u_4.1 1), .inr (6, [.int (u_4.2 1 0), .int (u_4.2 1 1), .int (u_4.2 1 2), .int (u_4.2 1 3)])), ((u_4.1 2), .inr (6, [.int (u_4.2 2 0), .int (u_4.2 2 1), .int (u_4.2 2 2), .int (u_4.2 2 3)])), (q_5, .inr (4, [.ref (u_6.1 1), .ref (u_6.1 2), .int (u_6.2 0 2)])), ((u_6.1 1), .inr (6, [.int (u_6.2 1 0), .int (u_6.2 1 1), .int (u_6.2 1 2), .int (u_6.2 1 3)])), ((u_6.1 2), .inr (6, [.int (u_6.2 2 0), .int (u_6.2 2 1), .int (u_6.2 2 2), .int (u_6.2 2 3)]))] := hD
  refine lv_aload_n hx hb dX0_init_51 rfl (lv_at hl 0 rfl) ?_
  refine lv_aload_n hx hb dX0_init_52 rfl (lv_at hl 0 rfl) ?_
  refine va_get (D := D) (ci := 0) (v := .ref q_1) (C := RX0) (T := TX0) (N := 7) hx hb hts in_X0 hown hK hP 0 rfl rfl 0 (by decide) kf_12 (fun _ h9 => h9) rfl dX0_init_53 ?_
  refine va_get (D := D) (ci := 4) (v := .ref (u_2.1 2)) (C := RX4) (T := TX4) (N := 3) hx hb hts in_X4 hown hK hP 1 rfl rfl 1 (by decide) kf_37 (fun _ h9 => h9) rfl dX0_init_56 ?_
  refine x_rV (As := []) (rest := [.ref h0]) ⟨hx, hb, hml, hown, hts⟩ (c_X6_whole l D cT (fun _ => (u_2.1 2)) (fun _ => (u_2.2 2)) _ hv) w_40 hK hP hS hN [3] rfl 6 0 rfl rfl rfl hl.1 rfl (Nat.le_of_ble_eq_true rfl) dX0_init_59 ⟨Nat.le_of_ble_eq_true rfl, Nat.le_of_ble_eq_true rfl⟩ (fun r_7 hv => ?_)
  refine lv_iconst (v := 1) hx hb dX0_init_62 (by decide) ?_
  refine lv_isub hx hb dX0_init_63 ?_
  refine va_put (D := D) (ci := 0) (v := .int (r_7 - 1)) (ty := .int) (C := RX0) (T := TX0) (N := 7) hx hb hts in_X0 tyX0 tyX0_ok nmX0 hown hK hP hD hS 0 rfl rfl 4 (by decide) kf_44 (fun _ h9 => h9) rfl (by decide +kernel) rfl rfl (Nat.le_of_ble_eq_true rfl) dX0_init_64 (fun H locs hP hD hS => ?_)
  have hP : va_P D vwCl [(h0, .inr (0, [.ref q_1, .ref q_3, .ref q_5, .int (u_2.2 1 0), .int (r_7 - 1), .int 0, .int 0])), (q_1, .inr (4, [.ref (u_2.1 1), .ref (u_2.1 2), .int (u_2.2 0 2)])), ((u_2.1 1), .inr (6, [.int (u_2.2 1 0), .int (u_2.2 1 1), .int (u_2.2 1 2), .int (u_2.2 1 3)])), ((u_2.1 2), .inr (6, [.int (u_2.2 2 0), .int (u_2.2 2 1), .int (u_2.2 2 2), .int (u_2.2 2 3)])), (q_3, .inr (4, [.ref (u_4.1 1), .ref (u_4.1 2), .int (u_4.2 0 2)])), ((u_4.1 1), .inr (6, [.int (u_4.2 1 0), .int (u_4.2 1 1), .int (u_4.2 1 2), .int (u_4.2 1 3)])), ((u_4.1 2), .inr (6, [.int (u_4.2 2 0), .int (u_4.2 2 1), .int (u_4.2 2 2), .int (u_4.2 2 3)])), (q_5, .inr (4, [.ref (u_6.1 1), .ref (u_6.1 2), .int (u_6.2 0 2)])), ((u_6.1 1), .inr (6, [.int (u_6.2 1 0), .int (u_6.2 1 1), .int (u_6.2 1 2), .int (u_6.2 1 3)])), ((u_6.1 2), .inr (6, [.int (u_6.2 2 0), .int (u_6.2 2 1), .int (u_6.2 2 2), .int (u_6.2 2 3)]))] H := hP
  have hD : va_D A [(h0, .inr (0, [.ref q_1, .ref q_3, .ref q_5, .int (u_2.2 1 0), .int (r_7 - 1), .int 0, .int 0])), (q_1, .inr (4, [.ref (u_2.1 1), .ref (u_2.1 2), .int (u_2.2 0 2)])), ((u_2.1 1), .inr (6, [.int (u_2.2 1 0), .int (u_2.2 1 1), .int (u_2.2 1 2), .int (u_2.2 1 3)])), ((u_2.1 2), .inr (6, [.int (u_2.2 2 0), .int (u_2.2 2 1), .int (u_2.2 2 2), .int (u_2.2 2 3)])), (q_3, .inr (4, [.ref (u_4.1 1), .ref (u_4.1 2), .int (u_4.2 0 2)])), ((u_4.1 1), .inr (6, [.int (u_4.2 1 0), .int (u_4.2 1 1), .int (u_4.2 1 2), .int (u_4.2 1 3)])), ((u_4.1 2), .inr (6, [.int (u_4.2 2 0), .int (u_4.2 2 1), .int (u_4.2 2 2), .int (u_4.2 2 3)])), (q_5, .inr (4, [.ref (u_6.1 1), .ref (u_6.1 2), .int (u_6.2 0 2)])), ((u_6.1 1), .inr (6, [.int (u_6.2 1 0), .int (u_6.2 1 1), .int (u_6.2 1 2), .int (u_6.2 1 3)])), ((u_6.1 2), .inr (6, [.int (u_6.2 2 0), .int (u_6.2 2 1), .int (u_6.2 2 2), .int (u_6.2 2 3)]))] := hD
  have hP9 : va_P D vwCl (w_Beam cT (x_hd h0 (x_ad [0, q_1, (u_2.1 1), (u_2.1 2), q_3, (u_4.1 1), (u_4.1 2), q_5, (u_6.1 1), (u_6.1 2)])) (x_mk [x_fl [0, 0, 0, (u_2.2 1 0), (r_7 - 1), 0, 0], (u_2.2 0), (u_2.2 1), (u_2.2 2), (u_4.2 0), (u_4.2 1), (u_4.2 2), (u_6.2 0), (u_6.2 1), (u_6.2 2)])) H := (x_P_D_sub hP hD [0, 1, 2, 3, 4, 5, 6, 7, 8, 9] (by decide) rfl).1
  have hD9 : va_D A (w_Beam cT (x_hd h0 (x_ad [0, q_1, (u_2.1 1), (u_2.1 2), q_3, (u_4.1 1), (u_4.1 2), q_5, (u_6.1 1), (u_6.1 2)])) (x_mk [x_fl [0, 0, 0, (u_2.2 1 0), (r_7 - 1), 0, 0], (u_2.2 0), (u_2.2 1), (u_2.2 2), (u_4.2 0), (u_4.2 1), (u_4.2 2), (u_6.2 0), (u_6.2 1), (u_6.2 2)])) := (x_P_D_sub hP hD [0, 1, 2, 3, 4, 5, 6, 7, 8, 9] (by decide) rfl).2
  exact W.vret hx hb hr (fun t ht hW => ⟨⟨(x_ad [0, q_1, (u_2.1 1), (u_2.1 2), q_3, (u_4.1 1), (u_4.1 2), q_5, (u_6.1 1), (u_6.1 2)], x_mk [x_fl [0, 0, 0, (u_2.2 1 0), (r_7 - 1), 0, 0], (u_2.2 0), (u_2.2 1), (u_2.2 2), (u_4.2 0), (u_4.2 1), (u_4.2 2), (u_6.2 0), (u_6.2 1), (u_6.2 2)]), rfl, hv, by rw [ht]; exact hP9, va_K.moved hW.alike hK, hD9⟩, hS.F ht⟩) hS.2.2 dX0_init_67
def v_X2_init (post : ST → Prop) : Prop := post (x_mk [x_fl [0, 0, 0, 2, 0, 0, 0, 0, 0, 0, 0], (fun _ => 0)])
set_option maxHeartbeats 4000000 in
set_option maxRecDepth 100000 in
theorem c_X2_init (l : Launch) (D : va_G) (cT : Nat → ClassId) (h0 : Nat) (sz : Nat) (post : ST → Prop) (hv : v_X2_init  post) : Met l yX2_init wsX2_init ({ frames := 1, cells := 1, slots := 8, locals := 12 }) (va_Pc [.ref h0] (x_U D cT [(h0, .inr (2, [.null, .int 0, .int 0, .int 0, .int 0, .int 0, .int 0, .int 0, .int 0, .int 0, .int 0]))] sz)) (va_Qv (fun u : (Nat → Nat) × ST => post u.2) (fun u t => x_B D cT (w_Feed cT (x_hd h0 u.1) u.2) (va_A [(h0, .inr (2, [.null, .int 0, .int 0, .int 0, .int 0, .int 0, .int 0, .int 0, .int 0, .int 0, .int 0]))] sz) t) (va_A [(h0, .inr (2, [.null, .int 0, .int 0, .int 0, .int 0, .int 0, .int 0, .int 0, .int 0, .int 0, .int 0]))] sz)) 1 8 (va_A [(h0, .inr (2, [.null, .int 0, .int 0, .int 0, .int 0, .int 0, .int 0, .int 0, .int 0, .int 0, .int 0]))] sz) := by
  refine Met.ofW (cc := cX2_init) (maxL := 1) (ret := none) (by decide) rfl ?_
  intro p e s m args below meth c s₁ B hml hpre
  obtain ⟨rfl, hsz, hP, hK, hD0, hN⟩ := hpre
  have hx := B.exec
  have hb := B.bytes
  have hr := B.returns
  have hts := atoms_spec (ws := wsX2_init) B.pre
  have hown : s.vm.findClass RX2 = some m.cls := findClass_of_methodNamed B.named
  have hlocks := B.notSynchronized
  have hin : meth.name = "<init>" := (name_of_methodNamed B.named B.method).1
  subst hsz
  have hD := hD0.self (sz := s.heap.size)
  generalize hAe : va_A [(h0, .inr (2, [.null, .int 0, .int 0, .int 0, .int 0, .int 0, .int 0, .int 0, .int 0, .int 0, .int 0]))] s.heap.size = A at hD hN ⊢
  have hA : ∀ q : Nat, s.heap.size ≤ q → A q := fun q h => by rw [← hAe]; exact Or.inr h
  have hS : va_S A s.heap s.heap [] := va_S.rf
  have hP : va_P D vwCl [(h0, .inr (2, [.null, .int 0, .int 0, .int 0, .int 0, .int 0, .int 0, .int 0, .int 0, .int 0, .int 0]))] s.heap := hP
  have hl := lv_entry ([.ref h0]) (n := 1) (Nat.le_of_ble_eq_true rfl)
  rw [lg_entry_eq]
  generalize (lg_sl ([.ref h0]) ++ List.replicate (1 - (lg_sl ([.ref h0])).length) Slot.unset).toArray = ls at hl ⊢
  have hl : lv_has ls 1 [(0, .ref h0)] := hl
  have in_X2 : ∀ w ∈ wsX20, w ∈ wsX2_init := by decide +kernel
  have ka_0 : (Cond.arrayClass .int).before ([.ref h0] : List Value).toArray s = true := hts _ (List.mem_of_getElem? (i := 4) rfl)
  have kf_9 : (Cond.fieldLink RX2 9 "PictureBeats$Feed" "queue" "[I").before ([.ref h0] : List Value).toArray s = true := hts _ (by decide +kernel)
  have kf_15 : (Cond.fieldLink RX2 15 "PictureBeats$Feed" "depth" "I").before ([.ref h0] : List Value).toArray s = true := hts _ (by decide +kernel)
  refine lv_aload_n hx hb dX2_init_0 rfl (lv_at hl 0 rfl) ?_
  refine W.objInit hx hb hown (hts (.methodLink RX2 3 objectInit) (List.mem_of_getElem? (i := 1) rfl)) (hts (.instanceMethod objectInit) (List.mem_of_getElem? (i := 2) rfl)) (hts (.code objectInit ⟨#[0xb1]⟩ 1 none) (List.mem_of_getElem? (i := 3) rfl)) rfl (by rw [hml]; exact hl.1) rfl dX2_init_1 (Nat.le_of_ble_eq_true rfl) (Nat.le_of_ble_eq_true rfl) ?_
  refine W.eq (g2 := F0 m 4 ls []) rfl ?_
  refine lv_aload_n hx hb dX2_init_4 rfl (lv_at hl 0 rfl) ?_
  refine lv_bipush (v := 8) hx hb dX2_init_5 (by decide) ?_
  refine x_newi (N := 8) hx hb ka_0 hK hP hD hS hA rfl (by decide) (by decide) (Nat.le_of_ble_eq_true rfl) (Nat.le_of_ble_eq_true rfl) dX2_init_7 (fun q_1 H hP hD hS => ?_)
  have hP : va_P D vwCl [(h0, .inr (2, [.null, .int 0, .int 0, .int 0, .int 0, .int 0, .int 0, .int 0, .int 0, .int 0, .int 0])), (q_1, .inl (cT 0, 8, .inl (fun _ => 0)))] H := hP
  have hD : va_D A [(h0, .inr (2, [.null, .int 0, .int 0, .int 0, .int 0, .int 0, .int 0, .int 0, .int 0, .int 0, .int 0])), (q_1, .inl (cT 0, 8, .inl (fun _ => 0)))] := hD
  refine W.widen (k := 1) (n := 8) (Nat.le_of_ble_eq_true rfl) (Nat.le_of_ble_eq_true rfl) ?_
  refine va_putF (D := D) (ci := 2) (v := .ref q_1) (ty := .array .int) (C := RX2) (T := TX2) (N := 11) hx hb hts in_X2 tyX2 tyX2_ok nmX2 hown hK hP hD hS 0 rfl rfl 0 (by decide) kf_9 (fun _ h9 => h9) rfl hin rfl (by decide +kernel) rfl rfl (Nat.le_of_ble_eq_true rfl) dX2_init_9 (fun H locs hP hD hS => ?_)
  have hP : va_P D vwCl [(h0, .inr (2, [.ref q_1, .int 0, .int 0, .int 0, .int 0, .int 0, .int 0, .int 0, .int 0, .int 0, .int 0])), (q_1, .inl (cT 0, 8, .inl (fun _ => 0)))] H := hP
  have hD : va_D A [(h0, .inr (2, [.ref q_1, .int 0, .int 0, .int 0, .int 0, .int 0, .int 0, .int 0, .int 0, .int 0, .int 0])), (q_1, .inl (cT 0, 8, .inl (fun _ => 0)))] := hD
  refine lv_aload_n hx hb dX2_init_12 rfl (lv_at hl 0 rfl) ?_
  refine lv_iconst (v := 2) hx hb dX2_init_13 (by decide) ?_
  refine va_put (D := D) (ci := 2) (v := .int 2) (ty := .int) (C := RX2) (T := TX2) (N := 11) hx hb hts in_X2 tyX2 tyX2_ok nmX2 hown hK hP hD hS 0 rfl rfl 3 (by decide) kf_15 (fun _ h9 => h9) rfl (by decide +kernel) rfl rfl (Nat.le_of_ble_eq_true rfl) dX2_init_14 (fun H locs hP hD hS => ?_)
  have hP : va_P D vwCl [(h0, .inr (2, [.ref q_1, .int 0, .int 0, .int 2, .int 0, .int 0, .int 0, .int 0, .int 0, .int 0, .int 0])), (q_1, .inl (cT 0, 8, .inl (fun _ => 0)))] H := hP
  have hD : va_D A [(h0, .inr (2, [.ref q_1, .int 0, .int 0, .int 2, .int 0, .int 0, .int 0, .int 0, .int 0, .int 0, .int 0])), (q_1, .inl (cT 0, 8, .inl (fun _ => 0)))] := hD
  have hP9 : va_P D vwCl (w_Feed cT (x_hd h0 (x_ad [0, q_1])) (x_mk [x_fl [0, 0, 0, 2, 0, 0, 0, 0, 0, 0, 0], (fun _ => 0)])) H := (x_P_D_sub hP hD [0, 1] (by decide) rfl).1
  have hD9 : va_D A (w_Feed cT (x_hd h0 (x_ad [0, q_1])) (x_mk [x_fl [0, 0, 0, 2, 0, 0, 0, 0, 0, 0, 0], (fun _ => 0)])) := (x_P_D_sub hP hD [0, 1] (by decide) rfl).2
  exact W.vret hx hb hr (fun t ht hW => ⟨⟨(x_ad [0, q_1], x_mk [x_fl [0, 0, 0, 2, 0, 0, 0, 0, 0, 0, 0], (fun _ => 0)]), rfl, hv, by rw [ht]; exact hP9, va_K.moved hW.alike hK, hD9⟩, hS.F ht⟩) hS.2.2 dX2_init_17
def v_X5_init (post : ST → Prop) : Prop := post (x_mk [x_fl [0], (upd (upd (upd (upd (upd (fun _ => 0) 0 0) 1 8) 2 0) 3 1) 4 0)])
set_option maxHeartbeats 4000000 in
set_option maxRecDepth 100000 in
theorem c_X5_init (l : Launch) (D : va_G) (cT : Nat → ClassId) (h0 : Nat) (sz : Nat) (post : ST → Prop) (hv : v_X5_init  post) : Met l yX5_init wsX5_init ({ frames := 1, cells := 1, slots := 5, locals := 12 }) (va_Pc [.ref h0] (x_U D cT [(h0, .inr (5, [.null]))] sz)) (va_Qv (fun u : (Nat → Nat) × ST => post u.2) (fun u t => x_B D cT (w_Registers cT (x_hd h0 u.1) u.2) (va_A [(h0, .inr (5, [.null]))] sz) t) (va_A [(h0, .inr (5, [.null]))] sz)) 1 5 (va_A [(h0, .inr (5, [.null]))] sz) := by
  refine Met.ofW (cc := cX5_init) (maxL := 1) (ret := none) (by decide) rfl ?_
  intro p e s m args below meth c s₁ B hml hpre
  obtain ⟨rfl, hsz, hP, hK, hD0, hN⟩ := hpre
  have hx := B.exec
  have hb := B.bytes
  have hr := B.returns
  have hts := atoms_spec (ws := wsX5_init) B.pre
  have hown : s.vm.findClass RX5 = some m.cls := findClass_of_methodNamed B.named
  have hlocks := B.notSynchronized
  have hin : meth.name = "<init>" := (name_of_methodNamed B.named B.method).1
  subst hsz
  have hD := hD0.self (sz := s.heap.size)
  generalize hAe : va_A [(h0, .inr (5, [.null]))] s.heap.size = A at hD hN ⊢
  have hA : ∀ q : Nat, s.heap.size ≤ q → A q := fun q h => by rw [← hAe]; exact Or.inr h
  have hS : va_S A s.heap s.heap [] := va_S.rf
  have hP : va_P D vwCl [(h0, .inr (5, [.null]))] s.heap := hP
  have hl := lv_entry ([.ref h0]) (n := 1) (Nat.le_of_ble_eq_true rfl)
  rw [lg_entry_eq]
  generalize (lg_sl ([.ref h0]) ++ List.replicate (1 - (lg_sl ([.ref h0])).length) Slot.unset).toArray = ls at hl ⊢
  have hl : lv_has ls 1 [(0, .ref h0)] := hl
  have in_X5 : ∀ w ∈ wsX50, w ∈ wsX5_init := by decide +kernel
  have ka_0 : (Cond.arrayClass .int).before ([.ref h0] : List Value).toArray s = true := hts _ (List.mem_of_getElem? (i := 4) rfl)
  have kf_9 : (Cond.fieldLink RX5 9 "PictureBeats$Registers" "values" "[I").before ([.ref h0] : List Value).toArray s = true := hts _ (by decide +kernel)
  refine lv_aload_n hx hb dX5_init_0 rfl (lv_at hl 0 rfl) ?_
  refine W.objInit hx hb hown (hts (.methodLink RX5 3 objectInit) (List.mem_of_getElem? (i := 1) rfl)) (hts (.instanceMethod objectInit) (List.mem_of_getElem? (i := 2) rfl)) (hts (.code objectInit ⟨#[0xb1]⟩ 1 none) (List.mem_of_getElem? (i := 3) rfl)) rfl (by rw [hml]; exact hl.1) rfl dX5_init_1 (Nat.le_of_ble_eq_true rfl) (Nat.le_of_ble_eq_true rfl) ?_
  refine W.eq (g2 := F0 m 4 ls []) rfl ?_
  refine lv_aload_n hx hb dX5_init_4 rfl (lv_at hl 0 rfl) ?_
  refine lv_iconst (v := 5) hx hb dX5_init_5 (by decide) ?_
  refine x_newi (N := 5) hx hb ka_0 hK hP hD hS hA rfl (by decide) (by decide) (Nat.le_of_ble_eq_true rfl) (Nat.le_of_ble_eq_true rfl) dX5_init_6 (fun q_1 H hP hD hS => ?_)
  have hP : va_P D vwCl [(h0, .inr (5, [.null])), (q_1, .inl (cT 0, 5, .inl (fun _ => 0)))] H := hP
  have hD : va_D A [(h0, .inr (5, [.null])), (q_1, .inl (cT 0, 5, .inl (fun _ => 0)))] := hD
  refine W.widen (k := 1) (n := 5) (Nat.le_of_ble_eq_true rfl) (Nat.le_of_ble_eq_true rfl) ?_
  refine lv_dup hx hb dX5_init_8 rfl ?_
  refine lv_iconst (v := 0) hx hb dX5_init_9 (by decide) ?_
  refine lv_iconst (v := 0) hx hb dX5_init_10 (by decide) ?_
  refine x_ast hx hb hK hP hD hS 1 0 rfl rfl 0 rfl (by decide) (by decide) dX5_init_11 (fun H locs hP hD hS => ?_)
  have hP : va_P D vwCl [(h0, .inr (5, [.null])), (q_1, .inl (cT 0, 5, .inl (upd (fun _ => 0) 0 0)))] H := hP
  have hD : va_D A [(h0, .inr (5, [.null])), (q_1, .inl (cT 0, 5, .inl (upd (fun _ => 0) 0 0)))] := hD
  refine lv_dup hx hb dX5_init_12 rfl ?_
  refine lv_iconst (v := 1) hx hb dX5_init_13 (by decide) ?_
  refine lv_bipush (v := 8) hx hb dX5_init_14 (by decide) ?_
  refine x_ast hx hb hK hP hD hS 1 0 rfl rfl 1 rfl (by decide) (by decide) dX5_init_16 (fun H locs hP hD hS => ?_)
  have hP : va_P D vwCl [(h0, .inr (5, [.null])), (q_1, .inl (cT 0, 5, .inl (upd (upd (fun _ => 0) 0 0) 1 8)))] H := hP
  have hD : va_D A [(h0, .inr (5, [.null])), (q_1, .inl (cT 0, 5, .inl (upd (upd (fun _ => 0) 0 0) 1 8)))] := hD
  refine lv_dup hx hb dX5_init_17 rfl ?_
  refine lv_iconst (v := 2) hx hb dX5_init_18 (by decide) ?_
  refine lv_iconst (v := 0) hx hb dX5_init_19 (by decide) ?_
  refine x_ast hx hb hK hP hD hS 1 0 rfl rfl 2 rfl (by decide) (by decide) dX5_init_20 (fun H locs hP hD hS => ?_)
  have hP : va_P D vwCl [(h0, .inr (5, [.null])), (q_1, .inl (cT 0, 5, .inl (upd (upd (upd (fun _ => 0) 0 0) 1 8) 2 0)))] H := hP
  have hD : va_D A [(h0, .inr (5, [.null])), (q_1, .inl (cT 0, 5, .inl (upd (upd (upd (fun _ => 0) 0 0) 1 8) 2 0)))] := hD
  refine lv_dup hx hb dX5_init_21 rfl ?_
  refine lv_iconst (v := 3) hx hb dX5_init_22 (by decide) ?_
  refine lv_iconst (v := 1) hx hb dX5_init_23 (by decide) ?_
  refine x_ast hx hb hK hP hD hS 1 0 rfl rfl 3 rfl (by decide) (by decide) dX5_init_24 (fun H locs hP hD hS => ?_)
  have hP : va_P D vwCl [(h0, .inr (5, [.null])), (q_1, .inl (cT 0, 5, .inl (upd (upd (upd (upd (fun _ => 0) 0 0) 1 8) 2 0) 3 1)))] H := hP
  have hD : va_D A [(h0, .inr (5, [.null])), (q_1, .inl (cT 0, 5, .inl (upd (upd (upd (upd (fun _ => 0) 0 0) 1 8) 2 0) 3 1)))] := hD
  refine lv_dup hx hb dX5_init_25 rfl ?_
  refine lv_iconst (v := 4) hx hb dX5_init_26 (by decide) ?_
  refine lv_iconst (v := 0) hx hb dX5_init_27 (by decide) ?_
  refine x_ast hx hb hK hP hD hS 1 0 rfl rfl 4 rfl (by decide) (by decide) dX5_init_28 (fun H locs hP hD hS => ?_)
  have hP : va_P D vwCl [(h0, .inr (5, [.null])), (q_1, .inl (cT 0, 5, .inl (upd (upd (upd (upd (upd (fun _ => 0) 0 0) 1 8) 2 0) 3 1) 4 0)))] H := hP
  have hD : va_D A [(h0, .inr (5, [.null])), (q_1, .inl (cT 0, 5, .inl (upd (upd (upd (upd (upd (fun _ => 0) 0 0) 1 8) 2 0) 3 1) 4 0)))] := hD
  refine va_putF (D := D) (ci := 5) (v := .ref q_1) (ty := .array .int) (C := RX5) (T := TX5) (N := 1) hx hb hts in_X5 tyX5 tyX5_ok nmX5 hown hK hP hD hS 0 rfl rfl 0 (by decide) kf_9 (fun _ h9 => h9) rfl hin rfl (by decide +kernel) rfl rfl (Nat.le_of_ble_eq_true rfl) dX5_init_29 (fun H locs hP hD hS => ?_)
  have hP : va_P D vwCl [(h0, .inr (5, [.ref q_1])), (q_1, .inl (cT 0, 5, .inl (upd (upd (upd (upd (upd (fun _ => 0) 0 0) 1 8) 2 0) 3 1) 4 0)))] H := hP
  have hD : va_D A [(h0, .inr (5, [.ref q_1])), (q_1, .inl (cT 0, 5, .inl (upd (upd (upd (upd (upd (fun _ => 0) 0 0) 1 8) 2 0) 3 1) 4 0)))] := hD
  have hP9 : va_P D vwCl (w_Registers cT (x_hd h0 (x_ad [0, q_1])) (x_mk [x_fl [0], (upd (upd (upd (upd (upd (fun _ => 0) 0 0) 1 8) 2 0) 3 1) 4 0)])) H := (x_P_D_sub hP hD [0, 1] (by decide) rfl).1
  have hD9 : va_D A (w_Registers cT (x_hd h0 (x_ad [0, q_1])) (x_mk [x_fl [0], (upd (upd (upd (upd (upd (fun _ => 0) 0 0) 1 8) 2 0) 3 1) 4 0)])) := (x_P_D_sub hP hD [0, 1] (by decide) rfl).2
  exact W.vret hx hb hr (fun t ht hW => ⟨⟨(x_ad [0, q_1], x_mk [x_fl [0], (upd (upd (upd (upd (upd (fun _ => 0) 0 0) 1 8) 2 0) 3 1) 4 0)]), rfl, hv, by rw [ht]; exact hP9, va_K.moved hW.alike hK, hD9⟩, hS.F ht⟩) hS.2.2 dX5_init_32
def v_X1_init (post : ST → Prop) : Prop := post (x_mk [x_fl [0, 0, 0, 0, 0], (fun _ => 0), (fun _ => 0), (fun _ => 0), (fun _ => 0)])
set_option maxHeartbeats 4000000 in
set_option maxRecDepth 100000 in
theorem c_X1_init (l : Launch) (D : va_G) (cT : Nat → ClassId) (h0 : Nat) (sz : Nat) (post : ST → Prop) (hv : v_X1_init  post) : Met l yX1_init wsX1_init ({ frames := 1, cells := 4, slots := 64, locals := 12 }) (va_Pc [.ref h0] (x_U D cT [(h0, .inr (1, [.null, .null, .null, .null, .int 0]))] sz)) (va_Qv (fun u : (Nat → Nat) × ST => post u.2) (fun u t => x_B D cT (w_Changes cT (x_hd h0 u.1) u.2) (va_A [(h0, .inr (1, [.null, .null, .null, .null, .int 0]))] sz) t) (va_A [(h0, .inr (1, [.null, .null, .null, .null, .int 0]))] sz)) 4 64 (va_A [(h0, .inr (1, [.null, .null, .null, .null, .int 0]))] sz) := by
  refine Met.ofW (cc := cX1_init) (maxL := 1) (ret := none) (by decide) rfl ?_
  intro p e s m args below meth c s₁ B hml hpre
  obtain ⟨rfl, hsz, hP, hK, hD0, hN⟩ := hpre
  have hx := B.exec
  have hb := B.bytes
  have hr := B.returns
  have hts := atoms_spec (ws := wsX1_init) B.pre
  have hown : s.vm.findClass RX1 = some m.cls := findClass_of_methodNamed B.named
  have hlocks := B.notSynchronized
  have hin : meth.name = "<init>" := (name_of_methodNamed B.named B.method).1
  subst hsz
  have hD := hD0.self (sz := s.heap.size)
  generalize hAe : va_A [(h0, .inr (1, [.null, .null, .null, .null, .int 0]))] s.heap.size = A at hD hN ⊢
  have hA : ∀ q : Nat, s.heap.size ≤ q → A q := fun q h => by rw [← hAe]; exact Or.inr h
  have hS : va_S A s.heap s.heap [] := va_S.rf
  have hP : va_P D vwCl [(h0, .inr (1, [.null, .null, .null, .null, .int 0]))] s.heap := hP
  have hl := lv_entry ([.ref h0]) (n := 1) (Nat.le_of_ble_eq_true rfl)
  rw [lg_entry_eq]
  generalize (lg_sl ([.ref h0]) ++ List.replicate (1 - (lg_sl ([.ref h0])).length) Slot.unset).toArray = ls at hl ⊢
  have hl : lv_has ls 1 [(0, .ref h0)] := hl
  have in_X1 : ∀ w ∈ wsX10, w ∈ wsX1_init := by decide +kernel
  have ka_0 : (Cond.arrayClass .int).before ([.ref h0] : List Value).toArray s = true := hts _ (List.mem_of_getElem? (i := 4) rfl)
  have kf_9 : (Cond.fieldLink RX1 9 "PictureBeats$Changes" "ys" "[I").before ([.ref h0] : List Value).toArray s = true := hts _ (by decide +kernel)
  have kf_15 : (Cond.fieldLink RX1 15 "PictureBeats$Changes" "xs" "[I").before ([.ref h0] : List Value).toArray s = true := hts _ (by decide +kernel)
  have kf_18 : (Cond.fieldLink RX1 18 "PictureBeats$Changes" "registers" "[I").before ([.ref h0] : List Value).toArray s = true := hts _ (by decide +kernel)
  have kf_21 : (Cond.fieldLink RX1 21 "PictureBeats$Changes" "values" "[I").before ([.ref h0] : List Value).toArray s = true := hts _ (by decide +kernel)
  refine lv_aload_n hx hb dX1_init_0 rfl (lv_at hl 0 rfl) ?_
  refine W.objInit hx hb hown (hts (.methodLink RX1 3 objectInit) (List.mem_of_getElem? (i := 1) rfl)) (hts (.instanceMethod objectInit) (List.mem_of_getElem? (i := 2) rfl)) (hts (.code objectInit ⟨#[0xb1]⟩ 1 none) (List.mem_of_getElem? (i := 3) rfl)) rfl (by rw [hml]; exact hl.1) rfl dX1_init_1 (Nat.le_of_ble_eq_true rfl) (Nat.le_of_ble_eq_true rfl) ?_
  refine W.eq (g2 := F0 m 4 ls []) rfl ?_
  refine lv_aload_n hx hb dX1_init_4 rfl (lv_at hl 0 rfl) ?_
  refine lv_bipush (v := 16) hx hb dX1_init_5 (by decide) ?_
  refine x_newi (N := 16) hx hb ka_0 hK hP hD hS hA rfl (by decide) (by decide) (Nat.le_of_ble_eq_true rfl) (Nat.le_of_ble_eq_true rfl) dX1_init_7 (fun q_1 H hP hD hS => ?_)
  have hP : va_P D vwCl [(h0, .inr (1, [.null, .null, .null, .null, .int 0])), (q_1, .inl (cT 0, 16, .inl (fun _ => 0)))] H := hP
  have hD : va_D A [(h0, .inr (1, [.null, .null, .null, .null, .int 0])), (q_1, .inl (cT 0, 16, .inl (fun _ => 0)))] := hD
  refine W.widen (k := 1) (n := 16) (Nat.le_of_ble_eq_true rfl) (Nat.le_of_ble_eq_true rfl) ?_
  refine va_putF (D := D) (ci := 1) (v := .ref q_1) (ty := .array .int) (C := RX1) (T := TX1) (N := 5) hx hb hts in_X1 tyX1 tyX1_ok nmX1 hown hK hP hD hS 0 rfl rfl 0 (by decide) kf_9 (fun _ h9 => h9) rfl hin rfl (by decide +kernel) rfl rfl (Nat.le_of_ble_eq_true rfl) dX1_init_9 (fun H locs hP hD hS => ?_)
  have hP : va_P D vwCl [(h0, .inr (1, [.ref q_1, .null, .null, .null, .int 0])), (q_1, .inl (cT 0, 16, .inl (fun _ => 0)))] H := hP
  have hD : va_D A [(h0, .inr (1, [.ref q_1, .null, .null, .null, .int 0])), (q_1, .inl (cT 0, 16, .inl (fun _ => 0)))] := hD
  refine lv_aload_n hx hb dX1_init_12 rfl (lv_at hl 0 rfl) ?_
  refine lv_bipush (v := 16) hx hb dX1_init_13 (by decide) ?_
  refine x_newi (N := 16) hx hb ka_0 hK hP hD hS hA rfl (by decide) (by decide) (Nat.le_of_ble_eq_true rfl) (Nat.le_of_ble_eq_true rfl) dX1_init_15 (fun q_2 H hP hD hS => ?_)
  have hP : va_P D vwCl [(h0, .inr (1, [.ref q_1, .null, .null, .null, .int 0])), (q_1, .inl (cT 0, 16, .inl (fun _ => 0))), (q_2, .inl (cT 0, 16, .inl (fun _ => 0)))] H := hP
  have hD : va_D A [(h0, .inr (1, [.ref q_1, .null, .null, .null, .int 0])), (q_1, .inl (cT 0, 16, .inl (fun _ => 0))), (q_2, .inl (cT 0, 16, .inl (fun _ => 0)))] := hD
  refine W.widen (k := 2) (n := 32) (Nat.le_of_ble_eq_true rfl) (Nat.le_of_ble_eq_true rfl) ?_
  refine va_putF (D := D) (ci := 1) (v := .ref q_2) (ty := .array .int) (C := RX1) (T := TX1) (N := 5) hx hb hts in_X1 tyX1 tyX1_ok nmX1 hown hK hP hD hS 0 rfl rfl 1 (by decide) kf_15 (fun _ h9 => h9) rfl hin rfl (by decide +kernel) rfl rfl (Nat.le_of_ble_eq_true rfl) dX1_init_17 (fun H locs hP hD hS => ?_)
  have hP : va_P D vwCl [(h0, .inr (1, [.ref q_1, .ref q_2, .null, .null, .int 0])), (q_1, .inl (cT 0, 16, .inl (fun _ => 0))), (q_2, .inl (cT 0, 16, .inl (fun _ => 0)))] H := hP
  have hD : va_D A [(h0, .inr (1, [.ref q_1, .ref q_2, .null, .null, .int 0])), (q_1, .inl (cT 0, 16, .inl (fun _ => 0))), (q_2, .inl (cT 0, 16, .inl (fun _ => 0)))] := hD
  refine lv_aload_n hx hb dX1_init_20 rfl (lv_at hl 0 rfl) ?_
  refine lv_bipush (v := 16) hx hb dX1_init_21 (by decide) ?_
  refine x_newi (N := 16) hx hb ka_0 hK hP hD hS hA rfl (by decide) (by decide) (Nat.le_of_ble_eq_true rfl) (Nat.le_of_ble_eq_true rfl) dX1_init_23 (fun q_3 H hP hD hS => ?_)
  have hP : va_P D vwCl [(h0, .inr (1, [.ref q_1, .ref q_2, .null, .null, .int 0])), (q_1, .inl (cT 0, 16, .inl (fun _ => 0))), (q_2, .inl (cT 0, 16, .inl (fun _ => 0))), (q_3, .inl (cT 0, 16, .inl (fun _ => 0)))] H := hP
  have hD : va_D A [(h0, .inr (1, [.ref q_1, .ref q_2, .null, .null, .int 0])), (q_1, .inl (cT 0, 16, .inl (fun _ => 0))), (q_2, .inl (cT 0, 16, .inl (fun _ => 0))), (q_3, .inl (cT 0, 16, .inl (fun _ => 0)))] := hD
  refine W.widen (k := 3) (n := 48) (Nat.le_of_ble_eq_true rfl) (Nat.le_of_ble_eq_true rfl) ?_
  refine va_putF (D := D) (ci := 1) (v := .ref q_3) (ty := .array .int) (C := RX1) (T := TX1) (N := 5) hx hb hts in_X1 tyX1 tyX1_ok nmX1 hown hK hP hD hS 0 rfl rfl 2 (by decide) kf_18 (fun _ h9 => h9) rfl hin rfl (by decide +kernel) rfl rfl (Nat.le_of_ble_eq_true rfl) dX1_init_25 (fun H locs hP hD hS => ?_)
  have hP : va_P D vwCl [(h0, .inr (1, [.ref q_1, .ref q_2, .ref q_3, .null, .int 0])), (q_1, .inl (cT 0, 16, .inl (fun _ => 0))), (q_2, .inl (cT 0, 16, .inl (fun _ => 0))), (q_3, .inl (cT 0, 16, .inl (fun _ => 0)))] H := hP
  have hD : va_D A [(h0, .inr (1, [.ref q_1, .ref q_2, .ref q_3, .null, .int 0])), (q_1, .inl (cT 0, 16, .inl (fun _ => 0))), (q_2, .inl (cT 0, 16, .inl (fun _ => 0))), (q_3, .inl (cT 0, 16, .inl (fun _ => 0)))] := hD
  refine lv_aload_n hx hb dX1_init_28 rfl (lv_at hl 0 rfl) ?_
  refine lv_bipush (v := 16) hx hb dX1_init_29 (by decide) ?_
  refine x_newi (N := 16) hx hb ka_0 hK hP hD hS hA rfl (by decide) (by decide) (Nat.le_of_ble_eq_true rfl) (Nat.le_of_ble_eq_true rfl) dX1_init_31 (fun q_4 H hP hD hS => ?_)
  have hP : va_P D vwCl [(h0, .inr (1, [.ref q_1, .ref q_2, .ref q_3, .null, .int 0])), (q_1, .inl (cT 0, 16, .inl (fun _ => 0))), (q_2, .inl (cT 0, 16, .inl (fun _ => 0))), (q_3, .inl (cT 0, 16, .inl (fun _ => 0))), (q_4, .inl (cT 0, 16, .inl (fun _ => 0)))] H := hP
  have hD : va_D A [(h0, .inr (1, [.ref q_1, .ref q_2, .ref q_3, .null, .int 0])), (q_1, .inl (cT 0, 16, .inl (fun _ => 0))), (q_2, .inl (cT 0, 16, .inl (fun _ => 0))), (q_3, .inl (cT 0, 16, .inl (fun _ => 0))), (q_4, .inl (cT 0, 16, .inl (fun _ => 0)))] := hD
  refine W.widen (k := 4) (n := 64) (Nat.le_of_ble_eq_true rfl) (Nat.le_of_ble_eq_true rfl) ?_
  refine va_putF (D := D) (ci := 1) (v := .ref q_4) (ty := .array .int) (C := RX1) (T := TX1) (N := 5) hx hb hts in_X1 tyX1 tyX1_ok nmX1 hown hK hP hD hS 0 rfl rfl 3 (by decide) kf_21 (fun _ h9 => h9) rfl hin rfl (by decide +kernel) rfl rfl (Nat.le_of_ble_eq_true rfl) dX1_init_33 (fun H locs hP hD hS => ?_)
  have hP : va_P D vwCl [(h0, .inr (1, [.ref q_1, .ref q_2, .ref q_3, .ref q_4, .int 0])), (q_1, .inl (cT 0, 16, .inl (fun _ => 0))), (q_2, .inl (cT 0, 16, .inl (fun _ => 0))), (q_3, .inl (cT 0, 16, .inl (fun _ => 0))), (q_4, .inl (cT 0, 16, .inl (fun _ => 0)))] H := hP
  have hD : va_D A [(h0, .inr (1, [.ref q_1, .ref q_2, .ref q_3, .ref q_4, .int 0])), (q_1, .inl (cT 0, 16, .inl (fun _ => 0))), (q_2, .inl (cT 0, 16, .inl (fun _ => 0))), (q_3, .inl (cT 0, 16, .inl (fun _ => 0))), (q_4, .inl (cT 0, 16, .inl (fun _ => 0)))] := hD
  have hP9 : va_P D vwCl (w_Changes cT (x_hd h0 (x_ad [0, q_1, q_2, q_3, q_4])) (x_mk [x_fl [0, 0, 0, 0, 0], (fun _ => 0), (fun _ => 0), (fun _ => 0), (fun _ => 0)])) H := (x_P_D_sub hP hD [0, 1, 2, 3, 4] (by decide) rfl).1
  have hD9 : va_D A (w_Changes cT (x_hd h0 (x_ad [0, q_1, q_2, q_3, q_4])) (x_mk [x_fl [0, 0, 0, 0, 0], (fun _ => 0), (fun _ => 0), (fun _ => 0), (fun _ => 0)])) := (x_P_D_sub hP hD [0, 1, 2, 3, 4] (by decide) rfl).2
  exact W.vret hx hb hr (fun t ht hW => ⟨⟨(x_ad [0, q_1, q_2, q_3, q_4], x_mk [x_fl [0, 0, 0, 0, 0], (fun _ => 0), (fun _ => 0), (fun _ => 0), (fun _ => 0)]), rfl, hv, by rw [ht]; exact hP9, va_K.moved hW.alike hK, hD9⟩, hS.F ht⟩) hS.2.2 dX1_init_36
def v_X7_init (post : ST → Prop) : Prop := post (x_mk [x_fl [0, 0, 0, 0, 0], (fun _ => 0), (fun _ => 0), (fun _ => 0), (fun _ => 0), (fun _ => 0)])
set_option maxHeartbeats 4000000 in
set_option maxRecDepth 100000 in
theorem c_X7_init (l : Launch) (D : va_G) (cT : Nat → ClassId) (h0 : Nat) (sz : Nat) (post : ST → Prop) (hv : v_X7_init  post) : Met l yX7_init wsX7_init ({ frames := 1, cells := 5, slots := 152, locals := 12 }) (va_Pc [.ref h0] (x_U D cT [(h0, .inr (7, [.null, .null, .null, .null, .null]))] sz)) (va_Qv (fun u : (Nat → Nat) × ST => post u.2) (fun u t => x_B D cT (w_Sprites cT (x_hd h0 u.1) u.2) (va_A [(h0, .inr (7, [.null, .null, .null, .null, .null]))] sz) t) (va_A [(h0, .inr (7, [.null, .null, .null, .null, .null]))] sz)) 5 152 (va_A [(h0, .inr (7, [.null, .null, .null, .null, .null]))] sz) := by
  refine Met.ofW (cc := cX7_init) (maxL := 1) (ret := none) (by decide) rfl ?_
  intro p e s m args below meth c s₁ B hml hpre
  obtain ⟨rfl, hsz, hP, hK, hD0, hN⟩ := hpre
  have hx := B.exec
  have hb := B.bytes
  have hr := B.returns
  have hts := atoms_spec (ws := wsX7_init) B.pre
  have hown : s.vm.findClass RX7 = some m.cls := findClass_of_methodNamed B.named
  have hlocks := B.notSynchronized
  have hin : meth.name = "<init>" := (name_of_methodNamed B.named B.method).1
  subst hsz
  have hD := hD0.self (sz := s.heap.size)
  generalize hAe : va_A [(h0, .inr (7, [.null, .null, .null, .null, .null]))] s.heap.size = A at hD hN ⊢
  have hA : ∀ q : Nat, s.heap.size ≤ q → A q := fun q h => by rw [← hAe]; exact Or.inr h
  have hS : va_S A s.heap s.heap [] := va_S.rf
  have hP : va_P D vwCl [(h0, .inr (7, [.null, .null, .null, .null, .null]))] s.heap := hP
  have hl := lv_entry ([.ref h0]) (n := 1) (Nat.le_of_ble_eq_true rfl)
  rw [lg_entry_eq]
  generalize (lg_sl ([.ref h0]) ++ List.replicate (1 - (lg_sl ([.ref h0])).length) Slot.unset).toArray = ls at hl ⊢
  have hl : lv_has ls 1 [(0, .ref h0)] := hl
  have in_X7 : ∀ w ∈ wsX70, w ∈ wsX7_init := by decide +kernel
  have ka_0 : (Cond.arrayClass .int).before ([.ref h0] : List Value).toArray s = true := hts _ (List.mem_of_getElem? (i := 4) rfl)
  have kf_9 : (Cond.fieldLink RX7 9 "PictureBeats$Sprites" "xs" "[I").before ([.ref h0] : List Value).toArray s = true := hts _ (by decide +kernel)
  have kf_15 : (Cond.fieldLink RX7 15 "PictureBeats$Sprites" "rows" "[I").before ([.ref h0] : List Value).toArray s = true := hts _ (by decide +kernel)
  have kf_18 : (Cond.fieldLink RX7 18 "PictureBeats$Sprites" "heights" "[I").before ([.ref h0] : List Value).toArray s = true := hts _ (by decide +kernel)
  have kf_21 : (Cond.fieldLink RX7 21 "PictureBeats$Sprites" "drawn" "[I").before ([.ref h0] : List Value).toArray s = true := hts _ (by decide +kernel)
  have kf_24 : (Cond.fieldLink RX7 24 "PictureBeats$Sprites" "present" "[I").before ([.ref h0] : List Value).toArray s = true := hts _ (by decide +kernel)
  refine lv_aload_n hx hb dX7_init_0 rfl (lv_at hl 0 rfl) ?_
  refine W.objInit hx hb hown (hts (.methodLink RX7 3 objectInit) (List.mem_of_getElem? (i := 1) rfl)) (hts (.instanceMethod objectInit) (List.mem_of_getElem? (i := 2) rfl)) (hts (.code objectInit ⟨#[0xb1]⟩ 1 none) (List.mem_of_getElem? (i := 3) rfl)) rfl (by rw [hml]; exact hl.1) rfl dX7_init_1 (Nat.le_of_ble_eq_true rfl) (Nat.le_of_ble_eq_true rfl) ?_
  refine W.eq (g2 := F0 m 4 ls []) rfl ?_
  refine lv_aload_n hx hb dX7_init_4 rfl (lv_at hl 0 rfl) ?_
  refine lv_bipush (v := 8) hx hb dX7_init_5 (by decide) ?_
  refine x_newi (N := 8) hx hb ka_0 hK hP hD hS hA rfl (by decide) (by decide) (Nat.le_of_ble_eq_true rfl) (Nat.le_of_ble_eq_true rfl) dX7_init_7 (fun q_1 H hP hD hS => ?_)
  have hP : va_P D vwCl [(h0, .inr (7, [.null, .null, .null, .null, .null])), (q_1, .inl (cT 0, 8, .inl (fun _ => 0)))] H := hP
  have hD : va_D A [(h0, .inr (7, [.null, .null, .null, .null, .null])), (q_1, .inl (cT 0, 8, .inl (fun _ => 0)))] := hD
  refine W.widen (k := 1) (n := 8) (Nat.le_of_ble_eq_true rfl) (Nat.le_of_ble_eq_true rfl) ?_
  refine va_putF (D := D) (ci := 7) (v := .ref q_1) (ty := .array .int) (C := RX7) (T := TX7) (N := 5) hx hb hts in_X7 tyX7 tyX7_ok nmX7 hown hK hP hD hS 0 rfl rfl 0 (by decide) kf_9 (fun _ h9 => h9) rfl hin rfl (by decide +kernel) rfl rfl (Nat.le_of_ble_eq_true rfl) dX7_init_9 (fun H locs hP hD hS => ?_)
  have hP : va_P D vwCl [(h0, .inr (7, [.ref q_1, .null, .null, .null, .null])), (q_1, .inl (cT 0, 8, .inl (fun _ => 0)))] H := hP
  have hD : va_D A [(h0, .inr (7, [.ref q_1, .null, .null, .null, .null])), (q_1, .inl (cT 0, 8, .inl (fun _ => 0)))] := hD
  refine lv_aload_n hx hb dX7_init_12 rfl (lv_at hl 0 rfl) ?_
  refine lv_bipush (v := 8) hx hb dX7_init_13 (by decide) ?_
  refine x_newi (N := 8) hx hb ka_0 hK hP hD hS hA rfl (by decide) (by decide) (Nat.le_of_ble_eq_true rfl) (Nat.le_of_ble_eq_true rfl) dX7_init_15 (fun q_2 H hP hD hS => ?_)
  have hP : va_P D vwCl [(h0, .inr (7, [.ref q_1, .null, .null, .null, .null])), (q_1, .inl (cT 0, 8, .inl (fun _ => 0))), (q_2, .inl (cT 0, 8, .inl (fun _ => 0)))] H := hP
  have hD : va_D A [(h0, .inr (7, [.ref q_1, .null, .null, .null, .null])), (q_1, .inl (cT 0, 8, .inl (fun _ => 0))), (q_2, .inl (cT 0, 8, .inl (fun _ => 0)))] := hD
  refine W.widen (k := 2) (n := 16) (Nat.le_of_ble_eq_true rfl) (Nat.le_of_ble_eq_true rfl) ?_
  refine va_putF (D := D) (ci := 7) (v := .ref q_2) (ty := .array .int) (C := RX7) (T := TX7) (N := 5) hx hb hts in_X7 tyX7 tyX7_ok nmX7 hown hK hP hD hS 0 rfl rfl 1 (by decide) kf_15 (fun _ h9 => h9) rfl hin rfl (by decide +kernel) rfl rfl (Nat.le_of_ble_eq_true rfl) dX7_init_17 (fun H locs hP hD hS => ?_)
  have hP : va_P D vwCl [(h0, .inr (7, [.ref q_1, .ref q_2, .null, .null, .null])), (q_1, .inl (cT 0, 8, .inl (fun _ => 0))), (q_2, .inl (cT 0, 8, .inl (fun _ => 0)))] H := hP
  have hD : va_D A [(h0, .inr (7, [.ref q_1, .ref q_2, .null, .null, .null])), (q_1, .inl (cT 0, 8, .inl (fun _ => 0))), (q_2, .inl (cT 0, 8, .inl (fun _ => 0)))] := hD
  refine lv_aload_n hx hb dX7_init_20 rfl (lv_at hl 0 rfl) ?_
  refine lv_bipush (v := 8) hx hb dX7_init_21 (by decide) ?_
  refine x_newi (N := 8) hx hb ka_0 hK hP hD hS hA rfl (by decide) (by decide) (Nat.le_of_ble_eq_true rfl) (Nat.le_of_ble_eq_true rfl) dX7_init_23 (fun q_3 H hP hD hS => ?_)
  have hP : va_P D vwCl [(h0, .inr (7, [.ref q_1, .ref q_2, .null, .null, .null])), (q_1, .inl (cT 0, 8, .inl (fun _ => 0))), (q_2, .inl (cT 0, 8, .inl (fun _ => 0))), (q_3, .inl (cT 0, 8, .inl (fun _ => 0)))] H := hP
  have hD : va_D A [(h0, .inr (7, [.ref q_1, .ref q_2, .null, .null, .null])), (q_1, .inl (cT 0, 8, .inl (fun _ => 0))), (q_2, .inl (cT 0, 8, .inl (fun _ => 0))), (q_3, .inl (cT 0, 8, .inl (fun _ => 0)))] := hD
  refine W.widen (k := 3) (n := 24) (Nat.le_of_ble_eq_true rfl) (Nat.le_of_ble_eq_true rfl) ?_
  refine va_putF (D := D) (ci := 7) (v := .ref q_3) (ty := .array .int) (C := RX7) (T := TX7) (N := 5) hx hb hts in_X7 tyX7 tyX7_ok nmX7 hown hK hP hD hS 0 rfl rfl 2 (by decide) kf_18 (fun _ h9 => h9) rfl hin rfl (by decide +kernel) rfl rfl (Nat.le_of_ble_eq_true rfl) dX7_init_25 (fun H locs hP hD hS => ?_)
  have hP : va_P D vwCl [(h0, .inr (7, [.ref q_1, .ref q_2, .ref q_3, .null, .null])), (q_1, .inl (cT 0, 8, .inl (fun _ => 0))), (q_2, .inl (cT 0, 8, .inl (fun _ => 0))), (q_3, .inl (cT 0, 8, .inl (fun _ => 0)))] H := hP
  have hD : va_D A [(h0, .inr (7, [.ref q_1, .ref q_2, .ref q_3, .null, .null])), (q_1, .inl (cT 0, 8, .inl (fun _ => 0))), (q_2, .inl (cT 0, 8, .inl (fun _ => 0))), (q_3, .inl (cT 0, 8, .inl (fun _ => 0)))] := hD
  refine lv_aload_n hx hb dX7_init_28 rfl (lv_at hl 0 rfl) ?_
  refine lv_bipush (v := 64) hx hb dX7_init_29 (by decide) ?_
  refine x_newi (N := 64) hx hb ka_0 hK hP hD hS hA rfl (by decide) (by decide) (Nat.le_of_ble_eq_true rfl) (Nat.le_of_ble_eq_true rfl) dX7_init_31 (fun q_4 H hP hD hS => ?_)
  have hP : va_P D vwCl [(h0, .inr (7, [.ref q_1, .ref q_2, .ref q_3, .null, .null])), (q_1, .inl (cT 0, 8, .inl (fun _ => 0))), (q_2, .inl (cT 0, 8, .inl (fun _ => 0))), (q_3, .inl (cT 0, 8, .inl (fun _ => 0))), (q_4, .inl (cT 0, 64, .inl (fun _ => 0)))] H := hP
  have hD : va_D A [(h0, .inr (7, [.ref q_1, .ref q_2, .ref q_3, .null, .null])), (q_1, .inl (cT 0, 8, .inl (fun _ => 0))), (q_2, .inl (cT 0, 8, .inl (fun _ => 0))), (q_3, .inl (cT 0, 8, .inl (fun _ => 0))), (q_4, .inl (cT 0, 64, .inl (fun _ => 0)))] := hD
  refine W.widen (k := 4) (n := 88) (Nat.le_of_ble_eq_true rfl) (Nat.le_of_ble_eq_true rfl) ?_
  refine va_putF (D := D) (ci := 7) (v := .ref q_4) (ty := .array .int) (C := RX7) (T := TX7) (N := 5) hx hb hts in_X7 tyX7 tyX7_ok nmX7 hown hK hP hD hS 0 rfl rfl 3 (by decide) kf_21 (fun _ h9 => h9) rfl hin rfl (by decide +kernel) rfl rfl (Nat.le_of_ble_eq_true rfl) dX7_init_33 (fun H locs hP hD hS => ?_)
  have hP : va_P D vwCl [(h0, .inr (7, [.ref q_1, .ref q_2, .ref q_3, .ref q_4, .null])), (q_1, .inl (cT 0, 8, .inl (fun _ => 0))), (q_2, .inl (cT 0, 8, .inl (fun _ => 0))), (q_3, .inl (cT 0, 8, .inl (fun _ => 0))), (q_4, .inl (cT 0, 64, .inl (fun _ => 0)))] H := hP
  have hD : va_D A [(h0, .inr (7, [.ref q_1, .ref q_2, .ref q_3, .ref q_4, .null])), (q_1, .inl (cT 0, 8, .inl (fun _ => 0))), (q_2, .inl (cT 0, 8, .inl (fun _ => 0))), (q_3, .inl (cT 0, 8, .inl (fun _ => 0))), (q_4, .inl (cT 0, 64, .inl (fun _ => 0)))] := hD
  refine lv_aload_n hx hb dX7_init_36 rfl (lv_at hl 0 rfl) ?_
  refine lv_bipush (v := 64) hx hb dX7_init_37 (by decide) ?_
  refine x_newi (N := 64) hx hb ka_0 hK hP hD hS hA rfl (by decide) (by decide) (Nat.le_of_ble_eq_true rfl) (Nat.le_of_ble_eq_true rfl) dX7_init_39 (fun q_5 H hP hD hS => ?_)
  have hP : va_P D vwCl [(h0, .inr (7, [.ref q_1, .ref q_2, .ref q_3, .ref q_4, .null])), (q_1, .inl (cT 0, 8, .inl (fun _ => 0))), (q_2, .inl (cT 0, 8, .inl (fun _ => 0))), (q_3, .inl (cT 0, 8, .inl (fun _ => 0))), (q_4, .inl (cT 0, 64, .inl (fun _ => 0))), (q_5, .inl (cT 0, 64, .inl (fun _ => 0)))] H := hP
  have hD : va_D A [(h0, .inr (7, [.ref q_1, .ref q_2, .ref q_3, .ref q_4, .null])), (q_1, .inl (cT 0, 8, .inl (fun _ => 0))), (q_2, .inl (cT 0, 8, .inl (fun _ => 0))), (q_3, .inl (cT 0, 8, .inl (fun _ => 0))), (q_4, .inl (cT 0, 64, .inl (fun _ => 0))), (q_5, .inl (cT 0, 64, .inl (fun _ => 0)))] := hD
  refine W.widen (k := 5) (n := 152) (Nat.le_of_ble_eq_true rfl) (Nat.le_of_ble_eq_true rfl) ?_
  refine va_putF (D := D) (ci := 7) (v := .ref q_5) (ty := .array .int) (C := RX7) (T := TX7) (N := 5) hx hb hts in_X7 tyX7 tyX7_ok nmX7 hown hK hP hD hS 0 rfl rfl 4 (by decide) kf_24 (fun _ h9 => h9) rfl hin rfl (by decide +kernel) rfl rfl (Nat.le_of_ble_eq_true rfl) dX7_init_41 (fun H locs hP hD hS => ?_)
  have hP : va_P D vwCl [(h0, .inr (7, [.ref q_1, .ref q_2, .ref q_3, .ref q_4, .ref q_5])), (q_1, .inl (cT 0, 8, .inl (fun _ => 0))), (q_2, .inl (cT 0, 8, .inl (fun _ => 0))), (q_3, .inl (cT 0, 8, .inl (fun _ => 0))), (q_4, .inl (cT 0, 64, .inl (fun _ => 0))), (q_5, .inl (cT 0, 64, .inl (fun _ => 0)))] H := hP
  have hD : va_D A [(h0, .inr (7, [.ref q_1, .ref q_2, .ref q_3, .ref q_4, .ref q_5])), (q_1, .inl (cT 0, 8, .inl (fun _ => 0))), (q_2, .inl (cT 0, 8, .inl (fun _ => 0))), (q_3, .inl (cT 0, 8, .inl (fun _ => 0))), (q_4, .inl (cT 0, 64, .inl (fun _ => 0))), (q_5, .inl (cT 0, 64, .inl (fun _ => 0)))] := hD
  have hP9 : va_P D vwCl (w_Sprites cT (x_hd h0 (x_ad [0, q_1, q_2, q_3, q_4, q_5])) (x_mk [x_fl [0, 0, 0, 0, 0], (fun _ => 0), (fun _ => 0), (fun _ => 0), (fun _ => 0), (fun _ => 0)])) H := (x_P_D_sub hP hD [0, 1, 2, 3, 4, 5] (by decide) rfl).1
  have hD9 : va_D A (w_Sprites cT (x_hd h0 (x_ad [0, q_1, q_2, q_3, q_4, q_5])) (x_mk [x_fl [0, 0, 0, 0, 0], (fun _ => 0), (fun _ => 0), (fun _ => 0), (fun _ => 0), (fun _ => 0)])) := (x_P_D_sub hP hD [0, 1, 2, 3, 4, 5] (by decide) rfl).2
  exact W.vret hx hb hr (fun t ht hW => ⟨⟨(x_ad [0, q_1, q_2, q_3, q_4, q_5], x_mk [x_fl [0, 0, 0, 0, 0], (fun _ => 0), (fun _ => 0), (fun _ => 0), (fun _ => 0), (fun _ => 0)]), rfl, hv, by rw [ht]; exact hP9, va_K.moved hW.alike hK, hD9⟩, hS.F ht⟩) hS.2.2 dX7_init_44
