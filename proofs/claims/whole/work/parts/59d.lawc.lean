/-! ===== the law's cases of image and again ===== -/
theorem va_up_id {α : Type} (f : Nat → α) (k : Nat) : va_up f k (f k) = f := by
  funext j
  by_cases e : j = k
  · subst e; exact va_up_self _ _ _
  · exact va_up_ne _ _ e
theorem pm_new {cT : Nat → ClassId} {im : Nat → Option Nat} {ia : Nat → Nat → Nat} {IM : Nat → ST} {k : Nat} (hk : k < 3) (hn : im k = none) (f : Nat → Nat) (u : ST) (q : Nat) (x y : va_W) : ((x ++ w_Machine cT f u) ++ (y ++ wI cT im ia IM)).Perm (x ++ (y ++ wI cT (va_up im k (some q)) (va_up ia k f) (va_up IM k u))) := by
  have h1 := wI_sp cT im ia IM hk
  rw [iw_none hn, List.nil_append] at h1
  have h2 := wI_sp cT (va_up im k (some q)) (va_up ia k f) (va_up IM k u) hk
  rw [iw_some (va_up_self im k (some q)), va_up_self, va_up_self, wO_cg (im := im) (ia := ia) (IM := IM) hk (fun j hj => va_up_ne _ _ hj) (fun j hj => va_up_ne _ _ hj) (fun j hj => va_up_ne _ _ hj)] at h2
  exact (pm_I x y (h2.trans (List.Perm.append_left _ h1.symm))).symm
theorem pm_at {cT : Nat → ClassId} {im : Nat → Option Nat} {ia : Nat → Nat → Nat} {IM : Nat → ST} {k q : Nat} (hk : k < 3) (hn : im k = some q) : (wI cT im ia IM).Perm (w_Machine cT (ia k) (IM k) ++ wO cT im ia IM k) := by
  have h1 := wI_sp cT im ia IM hk
  rw [iw_some hn] at h1
  exact h1
theorem pm_old {cT : Nat → ClassId} {im : Nat → Option Nat} {ia : Nat → Nat → Nat} {IM : Nat → ST} {k q : Nat} (hk : k < 3) (hn : im k = some q) (u : ST) : (wI cT im ia (va_up IM k u)).Perm (w_Machine cT (ia k) u ++ wO cT im ia IM k) := by
  have h1 := wI_sp cT im ia (va_up IM k u) hk
  rw [iw_some hn, va_up_self, wO_cg (im := im) (ia := ia) (IM := IM) hk (fun _ _ => rfl) (fun _ _ => rfl) (fun j hj => va_up_ne _ _ hj)] at h1
  exact h1
/-! case 19: image -/
set_option maxHeartbeats 4000000 in
set_option maxRecDepth 100000 in
theorem lc_19 {p : Program} {l : Launch} {e : Env} {s : State} {m : MethodId} {below : List Frame} {meth : Method} {c : Code} {b L i : Nat} {xs : Nat → Int32} {D : va_G} {cT : Nat → ClassId} {a bm : Nat → Nat} {ls : Array Slot} {cells slots : Nat} (X : lwX p s m meth c b L xs D cT) (hi : i + 7 ≤ L) (hl : lv_has ls 4 [(0, .ref b), (1, .ref (a 0)), (2, .ref (bm 0)), (3, .int (nI i))]) (hf : cells + 29 ≤ 1200000 ∧ slots + 5935 ≤ 5502250) (kk : lwI p l e s m below meth c b D cT a bm ls (cells + 29) (slots + 5935) 907) : lwI p l e s m below meth c b D cT a bm ls cells slots 861 := by
  obtain ⟨⟨hx, hb, hr, hml, hown, hts0, hX, hbl, hlocks, hgv⟩, hL, hK, hN, hts⟩ := X
  have hA : ∀ q : Nat, s.heap.size ≤ q → (fun q : Nat => s.heap.size ≤ q) q := fun _ h => h
  have h0 := lv_at hl 0 rfl
  have h3 := lv_at hl 3 rfl
  intro MB N im ia IM H locs I hP hD hS
  obtain ⟨⟨q, hR⟩, hI⟩ := id I
  have hf0 : cells + 0 ≤ room_1.cells ∧ slots + 0 ≤ room_1.slots := ⟨show cells ≤ 1200000 by omega, show slots ≤ 5502250 by omega⟩
  have hf1 : cells + 29 ≤ room_1.cells ∧ slots + 5935 ≤ room_1.slots := hf
  have hf2 : cells + 29 + 0 ≤ room_1.cells ∧ slots + 5935 + 0 ≤ room_1.slots := hf
  have w_101 : CallW room_1 s #[Value.ref b] RL RX9 101 yX9_image cX9_image 3 (some .boolean) wsX9_image ({ frames := 1, cells := 0, slots := 0, locals := 22 } : Room) 0 0 1 := cwV 1 hts gL_law_X9_image rfl rfl rfl (by decide +kernel) ⟨Nat.le_of_ble_eq_true rfl, Nat.le_of_ble_eq_true rfl⟩
  rcases wi_cases (xs (i + 1)) 0 2 (by decide) (by decide) with ⟨hw, -⟩ | ⟨hw, k, hv, k1, k2⟩
  · have hw : wi (xs (i + 1)) 0 2 = 0 := hw
    have w_no : CallW room_1 s #[Value.ref b] RL RX8 98 yX8_image cX8_image 2 (some .boolean) wsX8_image ({ frames := 1, cells := 0, slots := 0, locals := 22 } : Room) 0 0 1 := cwV 1 hts gL_law_X8_image rfl rfl rfl (by decide +kernel) ⟨Nat.le_of_ble_eq_true rfl, Nat.le_of_ble_eq_true rfl⟩
    refine lv_aload_n hx hb dL_law_861 rfl (lv_at hl 1 rfl) ?_
    refine x_arg hx hb hX hbl hS h0 h3 1 rfl (by omega) hL dL_law_862 dL_law_863 dL_law_864 dL_law_865 dL_law_866 ?_
    refine x_qR (As := [.int (xs (i + 1))]) (rest := []) ⟨hx, hb, hml, hown, hts⟩ (c_X8_image_no l D cT a MB im (xs (i + 1)) hw) w_no hK hP hS hN (List.Perm.refl (w_PB cT a MB im ++ (w_Model cT bm N ++ wI cT im ia IM))) 8 0 rfl rfl rfl hl.1 rfl (Nat.le_of_ble_eq_true rfl) dL_law_867 hf0 (fun r1 e1 => ?_)
    subst e1
    refine lv_aload_n hx hb dL_law_870 rfl (lv_at hl 2 rfl) ?_
    refine x_arg hx hb hX hbl hS h0 h3 1 rfl (by omega) hL dL_law_871 dL_law_872 dL_law_873 dL_law_874 dL_law_875 ?_
    refine x_qVi (As := [.int (xs (i + 1))]) (rest := [.int 0]) ⟨hx, hb, hml, hown, hts⟩ (c_X9_image l D cT bm N (xs (i + 1)) H.size _ (s_im_no hw)) w_101 hK hP hD hS hA hN (pm_M (w_PB cT a MB im) (w_Model cT bm N) (wI cT im ia IM)) 9 0 rfl rfl rfl hl.1 rfl (Nat.le_of_ble_eq_true rfl) dL_law_876 hf0 (fun r2 u2 H locs e2 hP hD hS => ?_)
    have hP := x_P_perm (pm_M (w_PB cT a MB im) (w_Model cT bm u2) (wI cT im ia IM)).symm hP
    have hD := x_D_perm (pm_M (w_PB cT a MB im) (w_Model cT bm u2) (wI cT im ia IM)).symm hD
    obtain ⟨rfl, eN⟩ := e2
    rw [eN] at hP hD
    refine lv_icmp_eq (tgt := 907) hx hb dL_law_879 (by decide) (fun _ => ?_) (fun h => absurd rfl h)
    refine W.widen (k := cells + 29) (n := slots + 5935) (by omega) (by omega) ?_
    exact kk MB N im ia IM H locs I hP hD hS
  · rw [hv] at hw
    have hw : wi (nI k) 0 2 = 1 := hw
    have hk : k < 3 := by omega
    obtain ⟨bo1, bo2, bo3⟩ := hR.b2
    refine lv_aload_n hx hb dL_law_861 rfl (lv_at hl 1 rfl) ?_
    refine x_arg hx hb hX hbl hS h0 h3 1 rfl (by omega) hL dL_law_862 dL_law_863 dL_law_864 dL_law_865 dL_law_866 ?_
    rw [hv]
    rcases hI k hk with ⟨hn, hz⟩ | ⟨hs, hnz, qk, hRk⟩
    · have w_new : CallW room_1 s #[Value.ref b] RL RX8 98 yX8_image cX8_image 2 (some .boolean) wsX8_image ({ frames := 5, cells := 29, slots := 5935, locals := 108 } : Room) 29 5935 1 := cwV 1 hts gL_law_X8_image rfl rfl rfl (by decide +kernel) ⟨Nat.le_of_ble_eq_true rfl, Nat.le_of_ble_eq_true rfl⟩
      refine x_qVi (As := [.int (nI k)]) (rest := []) ⟨hx, hb, hml, hown, hts⟩ (c_X8_image_new l D cT a MB im k H.size hk hw hn (fun u => AG u (x_sh MB 2)) (s_new3 _ (fun z => s_cp3 z (x_sh MB 2) _ bo1 bo2 bo3 (fun u hu => hu)))) w_new hK hP hD hS hA hN (List.Perm.refl (w_PB cT a MB im ++ (w_Model cT bm N ++ wI cT im ia IM))) 8 0 rfl rfl rfl hl.1 rfl (Nat.le_of_ble_eq_true rfl) dL_law_867 hf1 (fun r1 u1 H locs e1 hP hD hS => ?_)
      obtain ⟨rfl, hu⟩ := e1
      have hP := x_P_perm (pm_new hk hn u1.1 u1.2 (u1.1 0) (w_PB cT a MB (va_up im k (some (u1.1 0)))) (w_Model cT bm N)) hP
      have hD := x_D_perm (pm_new hk hn u1.1 u1.2 (u1.1 0) (w_PB cT a MB (va_up im k (some (u1.1 0)))) (w_Model cT bm N)) hD
      refine lv_aload_n hx hb dL_law_870 rfl (lv_at hl 2 rfl) ?_
      refine x_arg hx hb hX hbl hS h0 h3 1 rfl (by omega) hL dL_law_871 dL_law_872 dL_law_873 dL_law_874 dL_law_875 ?_
      rw [hv]
      refine x_qVi (As := [.int (nI k)]) (rest := [.int 1]) ⟨hx, hb, hml, hown, hts⟩ (c_X9_image l D cT bm N (nI k) H.size _ (s_im_yes hk hw)) w_101 hK hP hD hS hA hN (pm_M (w_PB cT a MB (va_up im k (some (u1.1 0)))) (w_Model cT bm N) (wI cT (va_up im k (some (u1.1 0))) (va_up ia k u1.1) (va_up IM k u1.2))) 9 0 rfl rfl rfl hl.1 rfl (Nat.le_of_ble_eq_true rfl) dL_law_876 hf2 (fun r2 u2 H locs e2 hP hD hS => ?_)
      have hP := x_P_perm (pm_M (w_PB cT a MB (va_up im k (some (u1.1 0)))) (w_Model cT bm u2) (wI cT (va_up im k (some (u1.1 0))) (va_up ia k u1.1) (va_up IM k u1.2))).symm hP
      have hD := x_D_perm (pm_M (w_PB cT a MB (va_up im k (some (u1.1 0)))) (w_Model cT bm u2) (wI cT (va_up im k (some (u1.1 0))) (va_up ia k u1.1) (va_up IM k u1.2))).symm hD
      obtain ⟨rfl, f1, f2, f3, f4⟩ := e2
      refine lv_icmp_eq (tgt := 907) hx hb dL_law_879 (by decide) (fun _ => ?_) (fun h => absurd rfl h)
      exact kk MB u2 (va_up im k (some (u1.1 0))) (va_up ia k u1.1) (va_up IM k u1.2) H locs (I.image hk u1.1 hu f1 f2 f3 f4) hP hD hS
    · have w_old : CallW room_1 s #[Value.ref b] RL RX8 98 yX8_image cX8_image 2 (some .boolean) wsX8_image ({ frames := 5, cells := 0, slots := 0, locals := 108 } : Room) 0 0 1 := cwV 1 hts gL_law_X8_image rfl rfl rfl (by decide +kernel) ⟨Nat.le_of_ble_eq_true rfl, Nat.le_of_ble_eq_true rfl⟩
      refine x_qVi (As := [.int (nI k)]) (rest := []) ⟨hx, hb, hml, hown, hts⟩ (c_X8_image_old l D cT a MB im (ia k) (IM k) k H.size hk hw hs (fun u => AG u (x_sh MB 2)) (s_cp3 (IM k) (x_sh MB 2) _ bo1 bo2 bo3 (fun u hu => hu))) w_old hK hP hD hS hA hN (pm_I (w_PB cT a MB im) (w_Model cT bm N) (pm_at hk hs)) 8 0 rfl rfl rfl hl.1 rfl (Nat.le_of_ble_eq_true rfl) dL_law_867 hf0 (fun r1 u1 H locs e1 hP hD hS => ?_)
      obtain ⟨rfl, hu⟩ := e1
      have hP := x_P_perm (pm_I (w_PB cT a MB im) (w_Model cT bm N) (pm_old hk hs u1)).symm hP
      have hD := x_D_perm (pm_I (w_PB cT a MB im) (w_Model cT bm N) (pm_old hk hs u1)).symm hD
      refine lv_aload_n hx hb dL_law_870 rfl (lv_at hl 2 rfl) ?_
      refine x_arg hx hb hX hbl hS h0 h3 1 rfl (by omega) hL dL_law_871 dL_law_872 dL_law_873 dL_law_874 dL_law_875 ?_
      rw [hv]
      refine x_qVi (As := [.int (nI k)]) (rest := [.int 1]) ⟨hx, hb, hml, hown, hts⟩ (c_X9_image l D cT bm N (nI k) H.size _ (s_im_yes hk hw)) w_101 hK hP hD hS hA hN (pm_M (w_PB cT a MB im) (w_Model cT bm N) (wI cT im ia (va_up IM k u1))) 9 0 rfl rfl rfl hl.1 rfl (Nat.le_of_ble_eq_true rfl) dL_law_876 hf0 (fun r2 u2 H locs e2 hP hD hS => ?_)
      have hP := x_P_perm (pm_M (w_PB cT a MB im) (w_Model cT bm u2) (wI cT im ia (va_up IM k u1))).symm hP
      have hD := x_D_perm (pm_M (w_PB cT a MB im) (w_Model cT bm u2) (wI cT im ia (va_up IM k u1))).symm hD
      obtain ⟨rfl, f1, f2, f3, f4⟩ := e2
      refine lv_icmp_eq (tgt := 907) hx hb dL_law_879 (by decide) (fun _ => ?_) (fun h => absurd rfl h)
      refine W.widen (k := cells + 29) (n := slots + 5935) (by omega) (by omega) ?_
      have I2 := I.image hk (ia k) hu f1 f2 f3 f4
      rw [← hs, va_up_id, va_up_id] at I2
      exact kk MB u2 im ia (va_up IM k u1) H locs I2 hP hD hS
/-! case 20: again -/
set_option maxHeartbeats 4000000 in
set_option maxRecDepth 100000 in
theorem lc_20 {p : Program} {l : Launch} {e : Env} {s : State} {m : MethodId} {below : List Frame} {meth : Method} {c : Code} {b L i : Nat} {xs : Nat → Int32} {D : va_G} {cT : Nat → ClassId} {a bm : Nat → Nat} {ls : Array Slot} {cells slots : Nat} (X : lwX p s m meth c b L xs D cT) (hi : i + 7 ≤ L) (hl : lv_has ls 4 [(0, .ref b), (1, .ref (a 0)), (2, .ref (bm 0)), (3, .int (nI i))]) (hf : cells + 29 ≤ 1200000 ∧ slots + 5935 ≤ 5502250) (kk : lwI p l e s m below meth c b D cT a bm ls (cells + 29) (slots + 5935) 907) : lwI p l e s m below meth c b D cT a bm ls cells slots 884 := by
  obtain ⟨⟨hx, hb, hr, hml, hown, hts0, hX, hbl, hlocks, hgv⟩, hL, hK, hN, hts⟩ := X
  have hA : ∀ q : Nat, s.heap.size ≤ q → (fun q : Nat => s.heap.size ≤ q) q := fun _ h => h
  have h0 := lv_at hl 0 rfl
  have h3 := lv_at hl 3 rfl
  intro MB N im ia IM H locs I hP hD hS
  obtain ⟨⟨q, hR⟩, hI⟩ := id I
  have hf0 : cells + 0 ≤ room_1.cells ∧ slots + 0 ≤ room_1.slots := ⟨show cells ≤ 1200000 by omega, show slots ≤ 5502250 by omega⟩
  have hf1 : cells + 29 ≤ room_1.cells ∧ slots + 5935 ≤ room_1.slots := hf
  have hf2 : cells + 29 + 0 ≤ room_1.cells ∧ slots + 5935 + 0 ≤ room_1.slots := hf
  have w_105 : CallW room_1 s #[Value.ref b] RL RX9 105 yX9_again cX9_again 3 (some .boolean) wsX9_again ({ frames := 1, cells := 0, slots := 0, locals := 22 } : Room) 0 0 1 := cwV 1 hts gL_law_X9_again rfl rfl rfl (by decide +kernel) ⟨Nat.le_of_ble_eq_true rfl, Nat.le_of_ble_eq_true rfl⟩
  rcases wi_cases (xs (i + 1)) 0 2 (by decide) (by decide) with ⟨hw, -⟩ | ⟨hw, k, hv, k1, k2⟩
  · have hw : wi (xs (i + 1)) 0 2 = 0 := hw
    have w_no : CallW room_1 s #[Value.ref b] RL RX8 102 yX8_again cX8_again 2 (some .boolean) wsX8_again ({ frames := 1, cells := 0, slots := 0, locals := 22 } : Room) 0 0 1 := cwV 1 hts gL_law_X8_again rfl rfl rfl (by decide +kernel) ⟨Nat.le_of_ble_eq_true rfl, Nat.le_of_ble_eq_true rfl⟩
    refine lv_aload_n hx hb dL_law_884 rfl (lv_at hl 1 rfl) ?_
    refine x_arg hx hb hX hbl hS h0 h3 1 rfl (by omega) hL dL_law_885 dL_law_886 dL_law_887 dL_law_888 dL_law_889 ?_
    refine x_qR (As := [.int (xs (i + 1))]) (rest := []) ⟨hx, hb, hml, hown, hts⟩ (c_X8_again_no l D cT a MB im (xs (i + 1)) hw) w_no hK hP hS hN (List.Perm.refl (w_PB cT a MB im ++ (w_Model cT bm N ++ wI cT im ia IM))) 8 0 rfl rfl rfl hl.1 rfl (Nat.le_of_ble_eq_true rfl) dL_law_890 hf0 (fun r1 e1 => ?_)
    subst e1
    refine lv_aload_n hx hb dL_law_893 rfl (lv_at hl 2 rfl) ?_
    refine x_arg hx hb hX hbl hS h0 h3 1 rfl (by omega) hL dL_law_894 dL_law_895 dL_law_896 dL_law_897 dL_law_898 ?_
    refine x_qVi (As := [.int (xs (i + 1))]) (rest := [.int 0]) ⟨hx, hb, hml, hown, hts⟩ (c_X9_again l D cT bm N (xs (i + 1)) H.size _ (s_ag_no hw)) w_105 hK hP hD hS hA hN (pm_M (w_PB cT a MB im) (w_Model cT bm N) (wI cT im ia IM)) 9 0 rfl rfl rfl hl.1 rfl (Nat.le_of_ble_eq_true rfl) dL_law_899 hf0 (fun r2 u2 H locs e2 hP hD hS => ?_)
    have hP := x_P_perm (pm_M (w_PB cT a MB im) (w_Model cT bm u2) (wI cT im ia IM)).symm hP
    have hD := x_D_perm (pm_M (w_PB cT a MB im) (w_Model cT bm u2) (wI cT im ia IM)).symm hD
    obtain ⟨rfl, eN⟩ := e2
    rw [eN] at hP hD
    refine lv_icmp_eq (tgt := 907) hx hb dL_law_902 (by decide) (fun _ => ?_) (fun h => absurd rfl h)
    refine W.widen (k := cells + 29) (n := slots + 5935) (by omega) (by omega) ?_
    exact kk MB N im ia IM H locs I hP hD hS
  · rw [hv] at hw
    have hw : wi (nI k) 0 2 = 1 := hw
    have hk : k < 3 := by omega
    obtain ⟨bo1, bo2, bo3⟩ := hR.b2
    refine lv_aload_n hx hb dL_law_884 rfl (lv_at hl 1 rfl) ?_
    refine x_arg hx hb hX hbl hS h0 h3 1 rfl (by omega) hL dL_law_885 dL_law_886 dL_law_887 dL_law_888 dL_law_889 ?_
    rw [hv]
    rcases hI k hk with ⟨hn, hz⟩ | ⟨hs, hnz, qk, hRk⟩
    · have w_none : CallW room_1 s #[Value.ref b] RL RX8 102 yX8_again cX8_again 2 (some .boolean) wsX8_again ({ frames := 1, cells := 0, slots := 0, locals := 22 } : Room) 0 0 1 := cwV 1 hts gL_law_X8_again rfl rfl rfl (by decide +kernel) ⟨Nat.le_of_ble_eq_true rfl, Nat.le_of_ble_eq_true rfl⟩
      refine x_qR (As := [.int (nI k)]) (rest := []) ⟨hx, hb, hml, hown, hts⟩ (c_X8_again_none l D cT a MB im k hk hw hn) w_none hK hP hS hN (List.Perm.refl (w_PB cT a MB im ++ (w_Model cT bm N ++ wI cT im ia IM))) 8 0 rfl rfl rfl hl.1 rfl (Nat.le_of_ble_eq_true rfl) dL_law_890 hf0 (fun r1 e1 => ?_)
      subst e1
      refine lv_aload_n hx hb dL_law_893 rfl (lv_at hl 2 rfl) ?_
      refine x_arg hx hb hX hbl hS h0 h3 1 rfl (by omega) hL dL_law_894 dL_law_895 dL_law_896 dL_law_897 dL_law_898 ?_
      rw [hv]
      refine x_qVi (As := [.int (nI k)]) (rest := [.int 0]) ⟨hx, hb, hml, hown, hts⟩ (c_X9_again l D cT bm N (nI k) H.size _ (s_ag_none hk hw hz)) w_105 hK hP hD hS hA hN (pm_M (w_PB cT a MB im) (w_Model cT bm N) (wI cT im ia IM)) 9 0 rfl rfl rfl hl.1 rfl (Nat.le_of_ble_eq_true rfl) dL_law_899 hf0 (fun r2 u2 H locs e2 hP hD hS => ?_)
      have hP := x_P_perm (pm_M (w_PB cT a MB im) (w_Model cT bm u2) (wI cT im ia IM)).symm hP
      have hD := x_D_perm (pm_M (w_PB cT a MB im) (w_Model cT bm u2) (wI cT im ia IM)).symm hD
      obtain ⟨rfl, eN⟩ := e2
      rw [eN] at hP hD
      refine lv_icmp_eq (tgt := 907) hx hb dL_law_902 (by decide) (fun _ => ?_) (fun h => absurd rfl h)
      refine W.widen (k := cells + 29) (n := slots + 5935) (by omega) (by omega) ?_
      exact kk MB N im ia IM H locs I hP hD hS
    · obtain ⟨bi1, bi2, bi3⟩ := hRk.b2
      have w_yes : CallW room_1 s #[Value.ref b] RL RX8 102 yX8_again cX8_again 2 (some .boolean) wsX8_again ({ frames := 5, cells := 0, slots := 0, locals := 108 } : Room) 0 0 1 := cwV 1 hts gL_law_X8_again rfl rfl rfl (by decide +kernel) ⟨Nat.le_of_ble_eq_true rfl, Nat.le_of_ble_eq_true rfl⟩
      refine x_qVi (As := [.int (nI k)]) (rest := []) ⟨hx, hb, hml, hown, hts⟩ (c_X8_again_yes l D cT a MB im (ia k) (IM k) k H.size hk hw hs (fun u => AG u (IM k)) (s_cp3 (x_sh MB 2) (IM k) _ bi1 bi2 bi3 (fun u hu => hu))) w_yes hK hP hD hS hA hN (pm_I (w_PB cT a MB im) (w_Model cT bm N) (pm_at hk hs)) 8 0 rfl rfl rfl hl.1 rfl (Nat.le_of_ble_eq_true rfl) dL_law_890 hf0 (fun r1 u1 H locs e1 hP hD hS => ?_)
      obtain ⟨rfl, hu⟩ := e1
      have hP := x_P_perm (pm_I (w_PB cT a (x_wb MB 2 29 u1) im) (w_Model cT bm N) (pm_at hk hs)).symm hP
      have hD := x_D_perm (pm_I (w_PB cT a (x_wb MB 2 29 u1) im) (w_Model cT bm N) (pm_at hk hs)).symm hD
      refine lv_aload_n hx hb dL_law_893 rfl (lv_at hl 2 rfl) ?_
      refine x_arg hx hb hX hbl hS h0 h3 1 rfl (by omega) hL dL_law_894 dL_law_895 dL_law_896 dL_law_897 dL_law_898 ?_
      rw [hv]
      refine x_qVi (As := [.int (nI k)]) (rest := [.int 1]) ⟨hx, hb, hml, hown, hts⟩ (c_X9_again l D cT bm N (nI k) H.size _ (s_ag_yes hk hw hnz)) w_105 hK hP hD hS hA hN (pm_M (w_PB cT a (x_wb MB 2 29 u1) im) (w_Model cT bm N) (wI cT im ia IM)) 9 0 rfl rfl rfl hl.1 rfl (Nat.le_of_ble_eq_true rfl) dL_law_899 hf0 (fun r2 u2 H locs e2 hP hD hS => ?_)
      have hP := x_P_perm (pm_M (w_PB cT a (x_wb MB 2 29 u1) im) (w_Model cT bm u2) (wI cT im ia IM)).symm hP
      have hD := x_D_perm (pm_M (w_PB cT a (x_wb MB 2 29 u1) im) (w_Model cT bm u2) (wI cT im ia IM)).symm hD
      obtain ⟨rfl, f1, f2, f3⟩ := e2
      refine lv_icmp_eq (tgt := 907) hx hb dL_law_902 (by decide) (fun _ => ?_) (fun h => absurd rfl h)
      refine W.widen (k := cells + 29) (n := slots + 5935) (by omega) (by omega) ?_
      exact kk (x_wb MB 2 29 u1) u2 im ia IM H locs (I.again hk hnz hu f1 f2 f3) hP hD hS
