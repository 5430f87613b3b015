/-! case 12: shown -/
set_option maxHeartbeats 4000000 in
set_option maxRecDepth 100000 in
theorem lc_12 {p : Program} {l : Launch} {e : Env} {s : State} {m : MethodId} {below : List Frame} {meth : Method} {c : Code} {b L i : Nat} {xs : Nat → Int32} {D : va_G} {cT : Nat → ClassId} {a bm : Nat → Nat} {ls : Array Slot} {cells slots : Nat} (X : lwX p s m meth c b L xs D cT) (hi : i + 7 ≤ L) (hl : lv_has ls 4 [(0, .ref b), (1, .ref (a 0)), (2, .ref (bm 0)), (3, .int (nI i))]) (hf : cells + 29 ≤ 1200000 ∧ slots + 5935 ≤ 5502250) (kk : lwI p l e s m below meth c b D cT a bm ls (cells + 29) (slots + 5935) 907) : lwI p l e s m below meth c b D cT a bm ls cells slots 618 := by
  obtain ⟨⟨hx, hb, hr, hml, hown, hts0, hX, hbl, hlocks, hgv⟩, hL, hK, hN, hts⟩ := X
  have hA : ∀ q : Nat, s.heap.size ≤ q → (fun q : Nat => s.heap.size ≤ q) q := fun _ h => h
  have h0 := lv_at hl 0 rfl
  have h3 := lv_at hl 3 rfl
  intro MB N im ia IM H locs I hP hD hS
  obtain ⟨⟨q, hR⟩, hI⟩ := id I
  have hf0 : cells + 0 ≤ room_1.cells ∧ slots + 0 ≤ room_1.slots := ⟨show cells ≤ 1200000 by omega, show slots ≤ 5502250 by omega⟩
  obtain ⟨r, hc1, hc2⟩ := m_shown hR (xs (i + 1)) (xs (i + 2))
  have w_68 : CallW room_1 s #[Value.ref b] RL RX8 68 yX8_shown cX8_shown 4 (some .int) wsX8_shown ({ frames := 2, cells := 0, slots := 0, locals := 43 } : Room) 0 0 2 := cwV 2 hts gL_law_X8_shown rfl rfl rfl (by decide +kernel) ⟨Nat.le_of_ble_eq_true rfl, Nat.le_of_ble_eq_true rfl⟩
  have w_72 : CallW room_1 s #[Value.ref b] RL RX9 72 yX9_shown cX9_shown 3 (some .int) wsX9_shown ({ frames := 1, cells := 0, slots := 0, locals := 22 } : Room) 0 0 2 := cwV 2 hts gL_law_X9_shown rfl rfl rfl (by decide +kernel) ⟨Nat.le_of_ble_eq_true rfl, Nat.le_of_ble_eq_true rfl⟩
  refine lv_aload_n hx hb dL_law_618 rfl (lv_at hl 1 rfl) ?_
  refine x_arg hx hb hX hbl hS h0 h3 1 rfl (by omega) hL dL_law_619 dL_law_620 dL_law_621 dL_law_622 dL_law_623 ?_
  refine x_arg hx hb hX hbl hS h0 h3 2 rfl (by omega) hL dL_law_624 dL_law_625 dL_law_626 dL_law_627 dL_law_628 ?_
  refine x_qR (As := [.int (xs (i + 1)), .int (xs (i + 2))]) (rest := []) ⟨hx, hb, hml, hown, hts⟩ (c_X8_shown l D cT a MB im (xs (i + 1)) (xs (i + 2)) (fun z => z = r) (hc1 _ rfl)) w_68 hK hP hS hN (List.Perm.refl (w_PB cT a MB im ++ (w_Model cT bm N ++ wI cT im ia IM))) 8 0 rfl rfl rfl hl.1 rfl (Nat.le_of_ble_eq_true rfl) dL_law_629 hf0 (fun r1 e1 => ?_)
  subst e1
  refine lv_aload_n hx hb dL_law_632 rfl (lv_at hl 2 rfl) ?_
  refine x_arg hx hb hX hbl hS h0 h3 1 rfl (by omega) hL dL_law_633 dL_law_634 dL_law_635 dL_law_636 dL_law_637 ?_
  refine x_arg hx hb hX hbl hS h0 h3 2 rfl (by omega) hL dL_law_638 dL_law_639 dL_law_640 dL_law_641 dL_law_642 ?_
  refine x_qR (As := [.int (xs (i + 1)), .int (xs (i + 2))]) (rest := [.int r1]) ⟨hx, hb, hml, hown, hts⟩ (c_X9_shown l D cT bm N (xs (i + 1)) (xs (i + 2)) (fun z => z = r1) (hc2 _ rfl)) w_72 hK hP hS hN (pm_M (w_PB cT a MB im) (w_Model cT bm N) (wI cT im ia IM)) 9 0 rfl rfl rfl hl.1 rfl (Nat.le_of_ble_eq_true rfl) dL_law_643 hf0 (fun r2 e2 => ?_)
  subst e2
  refine lv_icmp_eq (tgt := 907) hx hb dL_law_646 (by decide) (fun _ => ?_) (fun h => absurd rfl h)
  refine W.widen (k := cells + 29) (n := slots + 5935) (by omega) (by omega) ?_
  exact kk MB N im ia IM H locs I hP hD hS
/-! case 13: now -/
set_option maxHeartbeats 4000000 in
set_option maxRecDepth 100000 in
theorem lc_13 {p : Program} {l : Launch} {e : Env} {s : State} {m : MethodId} {below : List Frame} {meth : Method} {c : Code} {b L i : Nat} {xs : Nat → Int32} {D : va_G} {cT : Nat → ClassId} {a bm : Nat → Nat} {ls : Array Slot} {cells slots : Nat} (X : lwX p s m meth c b L xs D cT) (hi : i + 7 ≤ L) (hl : lv_has ls 4 [(0, .ref b), (1, .ref (a 0)), (2, .ref (bm 0)), (3, .int (nI i))]) (hf : cells + 29 ≤ 1200000 ∧ slots + 5935 ≤ 5502250) (kk : lwI p l e s m below meth c b D cT a bm ls (cells + 29) (slots + 5935) 907) : lwI p l e s m below meth c b D cT a bm ls cells slots 651 := by
  obtain ⟨⟨hx, hb, hr, hml, hown, hts0, hX, hbl, hlocks, hgv⟩, hL, hK, hN, hts⟩ := X
  have hA : ∀ q : Nat, s.heap.size ≤ q → (fun q : Nat => s.heap.size ≤ q) q := fun _ h => h
  have h0 := lv_at hl 0 rfl
  have h3 := lv_at hl 3 rfl
  intro MB N im ia IM H locs I hP hD hS
  obtain ⟨⟨q, hR⟩, hI⟩ := id I
  have hf0 : cells + 0 ≤ room_1.cells ∧ slots + 0 ≤ room_1.slots := ⟨show cells ≤ 1200000 by omega, show slots ≤ 5502250 by omega⟩
  obtain ⟨r, hc1, hc2⟩ := m_now hR (xs (i + 1))
  have w_73 : CallW room_1 s #[Value.ref b] RL RX8 73 yX8_now cX8_now 3 (some .int) wsX8_now ({ frames := 3, cells := 0, slots := 0, locals := 61 } : Room) 0 0 1 := cwV 1 hts gL_law_X8_now rfl rfl rfl (by decide +kernel) ⟨Nat.le_of_ble_eq_true rfl, Nat.le_of_ble_eq_true rfl⟩
  have w_76 : CallW room_1 s #[Value.ref b] RL RX9 76 yX9_now cX9_now 2 (some .int) wsX9_now ({ frames := 2, cells := 0, slots := 0, locals := 45 } : Room) 0 0 1 := cwV 1 hts gL_law_X9_now rfl rfl rfl (by decide +kernel) ⟨Nat.le_of_ble_eq_true rfl, Nat.le_of_ble_eq_true rfl⟩
  refine lv_aload_n hx hb dL_law_651 rfl (lv_at hl 1 rfl) ?_
  refine x_arg hx hb hX hbl hS h0 h3 1 rfl (by omega) hL dL_law_652 dL_law_653 dL_law_654 dL_law_655 dL_law_656 ?_
  refine x_qR (As := [.int (xs (i + 1))]) (rest := []) ⟨hx, hb, hml, hown, hts⟩ (c_X8_now l D cT a MB im (xs (i + 1)) (fun z => z = r) (hc1 _ rfl)) w_73 hK hP hS hN (List.Perm.refl (w_PB cT a MB im ++ (w_Model cT bm N ++ wI cT im ia IM))) 8 0 rfl rfl rfl hl.1 rfl (Nat.le_of_ble_eq_true rfl) dL_law_657 hf0 (fun r1 e1 => ?_)
  subst e1
  refine lv_aload_n hx hb dL_law_660 rfl (lv_at hl 2 rfl) ?_
  refine x_arg hx hb hX hbl hS h0 h3 1 rfl (by omega) hL dL_law_661 dL_law_662 dL_law_663 dL_law_664 dL_law_665 ?_
  refine x_qR (As := [.int (xs (i + 1))]) (rest := [.int r1]) ⟨hx, hb, hml, hown, hts⟩ (c_X9_now l D cT bm N (xs (i + 1)) (fun z => z = r1) (hc2 _ rfl)) w_76 hK hP hS hN (pm_M (w_PB cT a MB im) (w_Model cT bm N) (wI cT im ia IM)) 9 0 rfl rfl rfl hl.1 rfl (Nat.le_of_ble_eq_true rfl) dL_law_666 hf0 (fun r2 e2 => ?_)
  subst e2
  refine lv_icmp_eq (tgt := 907) hx hb dL_law_669 (by decide) (fun _ => ?_) (fun h => absurd rfl h)
  refine W.widen (k := cells + 29) (n := slots + 5935) (by omega) (by omega) ?_
  exact kk MB N im ia IM H locs I hP hD hS
/-! case 14: signals -/
set_option maxHeartbeats 4000000 in
set_option maxRecDepth 100000 in
theorem lc_14 {p : Program} {l : Launch} {e : Env} {s : State} {m : MethodId} {below : List Frame} {meth : Method} {c : Code} {b L i : Nat} {xs : Nat → Int32} {D : va_G} {cT : Nat → ClassId} {a bm : Nat → Nat} {ls : Array Slot} {cells slots : Nat} (X : lwX p s m meth c b L xs D cT) (hi : i + 7 ≤ L) (hl : lv_has ls 4 [(0, .ref b), (1, .ref (a 0)), (2, .ref (bm 0)), (3, .int (nI i))]) (hf : cells + 29 ≤ 1200000 ∧ slots + 5935 ≤ 5502250) (kk : lwI p l e s m below meth c b D cT a bm ls (cells + 29) (slots + 5935) 907) : lwI p l e s m below meth c b D cT a bm ls cells slots 674 := by
  obtain ⟨⟨hx, hb, hr, hml, hown, hts0, hX, hbl, hlocks, hgv⟩, hL, hK, hN, hts⟩ := X
  have hA : ∀ q : Nat, s.heap.size ≤ q → (fun q : Nat => s.heap.size ≤ q) q := fun _ h => h
  have h0 := lv_at hl 0 rfl
  have h3 := lv_at hl 3 rfl
  intro MB N im ia IM H locs I hP hD hS
  obtain ⟨⟨q, hR⟩, hI⟩ := id I
  have hf0 : cells + 0 ≤ room_1.cells ∧ slots + 0 ≤ room_1.slots := ⟨show cells ≤ 1200000 by omega, show slots ≤ 5502250 by omega⟩
  obtain ⟨r, hc1, hc2⟩ := m_signals hR (xs (i + 1))
  have w_77 : CallW room_1 s #[Value.ref b] RL RX8 77 yX8_signals cX8_signals 2 (some .int) wsX8_signals ({ frames := 1, cells := 0, slots := 0, locals := 22 } : Room) 0 0 1 := cwV 1 hts gL_law_X8_signals rfl rfl rfl (by decide +kernel) ⟨Nat.le_of_ble_eq_true rfl, Nat.le_of_ble_eq_true rfl⟩
  have w_80 : CallW room_1 s #[Value.ref b] RL RX9 80 yX9_signals cX9_signals 2 (some .int) wsX9_signals ({ frames := 1, cells := 0, slots := 0, locals := 22 } : Room) 0 0 1 := cwV 1 hts gL_law_X9_signals rfl rfl rfl (by decide +kernel) ⟨Nat.le_of_ble_eq_true rfl, Nat.le_of_ble_eq_true rfl⟩
  refine lv_aload_n hx hb dL_law_674 rfl (lv_at hl 1 rfl) ?_
  refine x_arg hx hb hX hbl hS h0 h3 1 rfl (by omega) hL dL_law_675 dL_law_676 dL_law_677 dL_law_678 dL_law_679 ?_
  refine x_qR (As := [.int (xs (i + 1))]) (rest := []) ⟨hx, hb, hml, hown, hts⟩ (c_X8_signals l D cT a MB im (xs (i + 1)) (fun z => z = r) (hc1 _ rfl)) w_77 hK hP hS hN (List.Perm.refl (w_PB cT a MB im ++ (w_Model cT bm N ++ wI cT im ia IM))) 8 0 rfl rfl rfl hl.1 rfl (Nat.le_of_ble_eq_true rfl) dL_law_680 hf0 (fun r1 e1 => ?_)
  subst e1
  refine lv_aload_n hx hb dL_law_683 rfl (lv_at hl 2 rfl) ?_
  refine x_arg hx hb hX hbl hS h0 h3 1 rfl (by omega) hL dL_law_684 dL_law_685 dL_law_686 dL_law_687 dL_law_688 ?_
  refine x_qR (As := [.int (xs (i + 1))]) (rest := [.int r1]) ⟨hx, hb, hml, hown, hts⟩ (c_X9_signals l D cT bm N (xs (i + 1)) (fun z => z = r1) (hc2 _ rfl)) w_80 hK hP hS hN (pm_M (w_PB cT a MB im) (w_Model cT bm N) (wI cT im ia IM)) 9 0 rfl rfl rfl hl.1 rfl (Nat.le_of_ble_eq_true rfl) dL_law_689 hf0 (fun r2 e2 => ?_)
  subst e2
  refine lv_icmp_eq (tgt := 907) hx hb dL_law_692 (by decide) (fun _ => ?_) (fun h => absurd rfl h)
  refine W.widen (k := cells + 29) (n := slots + 5935) (by omega) (by omega) ?_
  exact kk MB N im ia IM H locs I hP hD hS
/-! case 15: value -/
set_option maxHeartbeats 4000000 in
set_option maxRecDepth 100000 in
theorem lc_15 {p : Program} {l : Launch} {e : Env} {s : State} {m : MethodId} {below : List Frame} {meth : Method} {c : Code} {b L i : Nat} {xs : Nat → Int32} {D : va_G} {cT : Nat → ClassId} {a bm : Nat → Nat} {ls : Array Slot} {cells slots : Nat} (X : lwX p s m meth c b L xs D cT) (hi : i + 7 ≤ L) (hl : lv_has ls 4 [(0, .ref b), (1, .ref (a 0)), (2, .ref (bm 0)), (3, .int (nI i))]) (hf : cells + 29 ≤ 1200000 ∧ slots + 5935 ≤ 5502250) (kk : lwI p l e s m below meth c b D cT a bm ls (cells + 29) (slots + 5935) 907) : lwI p l e s m below meth c b D cT a bm ls cells slots 697 := by
  obtain ⟨⟨hx, hb, hr, hml, hown, hts0, hX, hbl, hlocks, hgv⟩, hL, hK, hN, hts⟩ := X
  have hA : ∀ q : Nat, s.heap.size ≤ q → (fun q : Nat => s.heap.size ≤ q) q := fun _ h => h
  have h0 := lv_at hl 0 rfl
  have h3 := lv_at hl 3 rfl
  intro MB N im ia IM H locs I hP hD hS
  obtain ⟨⟨q, hR⟩, hI⟩ := id I
  have hf0 : cells + 0 ≤ room_1.cells ∧ slots + 0 ≤ room_1.slots := ⟨show cells ≤ 1200000 by omega, show slots ≤ 5502250 by omega⟩
  obtain ⟨r, hc1, hc2⟩ := m_value hR (xs (i + 1))
  have w_81 : CallW room_1 s #[Value.ref b] RL RX8 81 yX8_value cX8_value 2 (some .int) wsX8_value ({ frames := 2, cells := 0, slots := 0, locals := 43 } : Room) 0 0 1 := cwV 1 hts gL_law_X8_value rfl rfl rfl (by decide +kernel) ⟨Nat.le_of_ble_eq_true rfl, Nat.le_of_ble_eq_true rfl⟩
  have w_84 : CallW room_1 s #[Value.ref b] RL RX9 84 yX9_value cX9_value 2 (some .int) wsX9_value ({ frames := 1, cells := 0, slots := 0, locals := 22 } : Room) 0 0 1 := cwV 1 hts gL_law_X9_value rfl rfl rfl (by decide +kernel) ⟨Nat.le_of_ble_eq_true rfl, Nat.le_of_ble_eq_true rfl⟩
  refine lv_aload_n hx hb dL_law_697 rfl (lv_at hl 1 rfl) ?_
  refine x_arg hx hb hX hbl hS h0 h3 1 rfl (by omega) hL dL_law_698 dL_law_699 dL_law_700 dL_law_701 dL_law_702 ?_
  refine x_qR (As := [.int (xs (i + 1))]) (rest := []) ⟨hx, hb, hml, hown, hts⟩ (c_X8_value l D cT a MB im (xs (i + 1)) (fun z => z = r) (hc1 _ rfl)) w_81 hK hP hS hN (List.Perm.refl (w_PB cT a MB im ++ (w_Model cT bm N ++ wI cT im ia IM))) 8 0 rfl rfl rfl hl.1 rfl (Nat.le_of_ble_eq_true rfl) dL_law_703 hf0 (fun r1 e1 => ?_)
  subst e1
  refine lv_aload_n hx hb dL_law_706 rfl (lv_at hl 2 rfl) ?_
  refine x_arg hx hb hX hbl hS h0 h3 1 rfl (by omega) hL dL_law_707 dL_law_708 dL_law_709 dL_law_710 dL_law_711 ?_
  refine x_qR (As := [.int (xs (i + 1))]) (rest := [.int r1]) ⟨hx, hb, hml, hown, hts⟩ (c_X9_value l D cT bm N (xs (i + 1)) (fun z => z = r1) (hc2 _ rfl)) w_84 hK hP hS hN (pm_M (w_PB cT a MB im) (w_Model cT bm N) (wI cT im ia IM)) 9 0 rfl rfl rfl hl.1 rfl (Nat.le_of_ble_eq_true rfl) dL_law_712 hf0 (fun r2 e2 => ?_)
  subst e2
  refine lv_icmp_eq (tgt := 907) hx hb dL_law_715 (by decide) (fun _ => ?_) (fun h => absurd rfl h)
  refine W.widen (k := cells + 29) (n := slots + 5935) (by omega) (by omega) ?_
  exact kk MB N im ia IM H locs I hP hD hS
/-! case 16: row -/
set_option maxHeartbeats 4000000 in
set_option maxRecDepth 100000 in
theorem lc_16 {p : Program} {l : Launch} {e : Env} {s : State} {m : MethodId} {below : List Frame} {meth : Method} {c : Code} {b L i : Nat} {xs : Nat → Int32} {D : va_G} {cT : Nat → ClassId} {a bm : Nat → Nat} {ls : Array Slot} {cells slots : Nat} (X : lwX p s m meth c b L xs D cT) (hi : i + 7 ≤ L) (hl : lv_has ls 4 [(0, .ref b), (1, .ref (a 0)), (2, .ref (bm 0)), (3, .int (nI i))]) (hf : cells + 29 ≤ 1200000 ∧ slots + 5935 ≤ 5502250) (kk : lwI p l e s m below meth c b D cT a bm ls (cells + 29) (slots + 5935) 907) : lwI p l e s m below meth c b D cT a bm ls cells slots 720 := by
  obtain ⟨⟨hx, hb, hr, hml, hown, hts0, hX, hbl, hlocks, hgv⟩, hL, hK, hN, hts⟩ := X
  have hA : ∀ q : Nat, s.heap.size ≤ q → (fun q : Nat => s.heap.size ≤ q) q := fun _ h => h
  have h0 := lv_at hl 0 rfl
  have h3 := lv_at hl 3 rfl
  intro MB N im ia IM H locs I hP hD hS
  obtain ⟨⟨q, hR⟩, hI⟩ := id I
  have hf0 : cells + 0 ≤ room_1.cells ∧ slots + 0 ≤ room_1.slots := ⟨show cells ≤ 1200000 by omega, show slots ≤ 5502250 by omega⟩
  obtain ⟨r, hc1, hc2⟩ := m_row hR (xs (i + 1)) (xs (i + 2))
  have w_85 : CallW room_1 s #[Value.ref b] RL RX8 85 yX8_row cX8_row 4 (some .int) wsX8_row ({ frames := 1, cells := 0, slots := 0, locals := 25 } : Room) 0 0 2 := cwV 2 hts gL_law_X8_row rfl rfl rfl (by decide +kernel) ⟨Nat.le_of_ble_eq_true rfl, Nat.le_of_ble_eq_true rfl⟩
  have w_88 : CallW room_1 s #[Value.ref b] RL RX9 88 yX9_row cX9_row 7 (some .int) wsX9_row ({ frames := 2, cells := 0, slots := 0, locals := 47 } : Room) 0 0 2 := cwV 2 hts gL_law_X9_row rfl rfl rfl (by decide +kernel) ⟨Nat.le_of_ble_eq_true rfl, Nat.le_of_ble_eq_true rfl⟩
  refine lv_aload_n hx hb dL_law_720 rfl (lv_at hl 1 rfl) ?_
  refine x_arg hx hb hX hbl hS h0 h3 1 rfl (by omega) hL dL_law_721 dL_law_722 dL_law_723 dL_law_724 dL_law_725 ?_
  refine x_arg hx hb hX hbl hS h0 h3 2 rfl (by omega) hL dL_law_726 dL_law_727 dL_law_728 dL_law_729 dL_law_730 ?_
  refine x_qR (As := [.int (xs (i + 1)), .int (xs (i + 2))]) (rest := []) ⟨hx, hb, hml, hown, hts⟩ (c_X8_row l D cT a MB im (xs (i + 1)) (xs (i + 2)) (fun z => z = r) (hc1 _ rfl)) w_85 hK hP hS hN (List.Perm.refl (w_PB cT a MB im ++ (w_Model cT bm N ++ wI cT im ia IM))) 8 0 rfl rfl rfl hl.1 rfl (Nat.le_of_ble_eq_true rfl) dL_law_731 hf0 (fun r1 e1 => ?_)
  subst e1
  refine lv_aload_n hx hb dL_law_734 rfl (lv_at hl 2 rfl) ?_
  refine x_arg hx hb hX hbl hS h0 h3 1 rfl (by omega) hL dL_law_735 dL_law_736 dL_law_737 dL_law_738 dL_law_739 ?_
  refine x_arg hx hb hX hbl hS h0 h3 2 rfl (by omega) hL dL_law_740 dL_law_741 dL_law_742 dL_law_743 dL_law_744 ?_
  refine x_qR (As := [.int (xs (i + 1)), .int (xs (i + 2))]) (rest := [.int r1]) ⟨hx, hb, hml, hown, hts⟩ (c_X9_row l D cT bm N (xs (i + 1)) (xs (i + 2)) (fun z => z = r1) (hc2 _ rfl)) w_88 hK hP hS hN (pm_M (w_PB cT a MB im) (w_Model cT bm N) (wI cT im ia IM)) 9 0 rfl rfl rfl hl.1 rfl (Nat.le_of_ble_eq_true rfl) dL_law_745 hf0 (fun r2 e2 => ?_)
  subst e2
  refine lv_icmp_eq (tgt := 907) hx hb dL_law_748 (by decide) (fun _ => ?_) (fun h => absurd rfl h)
  refine W.widen (k := cells + 29) (n := slots + 5935) (by omega) (by omega) ?_
  exact kk MB N im ia IM H locs I hP hD hS
/-! case 17: least -/
set_option maxHeartbeats 4000000 in
set_option maxRecDepth 100000 in
theorem lc_17 {p : Program} {l : Launch} {e : Env} {s : State} {m : MethodId} {below : List Frame} {meth : Method} {c : Code} {b L i : Nat} {xs : Nat → Int32} {D : va_G} {cT : Nat → ClassId} {a bm : Nat → Nat} {ls : Array Slot} {cells slots : Nat} (X : lwX p s m meth c b L xs D cT) (hi : i + 7 ≤ L) (hl : lv_has ls 4 [(0, .ref b), (1, .ref (a 0)), (2, .ref (bm 0)), (3, .int (nI i))]) (hf : cells + 29 ≤ 1200000 ∧ slots + 5935 ≤ 5502250) (kk : lwI p l e s m below meth c b D cT a bm ls (cells + 29) (slots + 5935) 907) : lwI p l e s m below meth c b D cT a bm ls cells slots 753 := by
  obtain ⟨⟨hx, hb, hr, hml, hown, hts0, hX, hbl, hlocks, hgv⟩, hL, hK, hN, hts⟩ := X
  have hA : ∀ q : Nat, s.heap.size ≤ q → (fun q : Nat => s.heap.size ≤ q) q := fun _ h => h
  have h0 := lv_at hl 0 rfl
  have h3 := lv_at hl 3 rfl
  intro MB N im ia IM H locs I hP hD hS
  obtain ⟨⟨q, hR⟩, hI⟩ := id I
  have hf0 : cells + 0 ≤ room_1.cells ∧ slots + 0 ≤ room_1.slots := ⟨show cells ≤ 1200000 by omega, show slots ≤ 5502250 by omega⟩
  obtain ⟨r, hc1, hc2⟩ := m_least hR (xs (i + 1)) (xs (i + 2))
  have w_89 : CallW room_1 s #[Value.ref b] RL RX8 89 yX8_least cX8_least 5 (some .int) wsX8_least ({ frames := 2, cells := 0, slots := 0, locals := 52 } : Room) 0 0 2 := cwV 2 hts gL_law_X8_least rfl rfl rfl (by decide +kernel) ⟨Nat.le_of_ble_eq_true rfl, Nat.le_of_ble_eq_true rfl⟩
  have w_92 : CallW room_1 s #[Value.ref b] RL RX9 92 yX9_least cX9_least 6 (some .int) wsX9_least ({ frames := 2, cells := 0, slots := 0, locals := 50 } : Room) 0 0 2 := cwV 2 hts gL_law_X9_least rfl rfl rfl (by decide +kernel) ⟨Nat.le_of_ble_eq_true rfl, Nat.le_of_ble_eq_true rfl⟩
  refine lv_aload_n hx hb dL_law_753 rfl (lv_at hl 1 rfl) ?_
  refine x_arg hx hb hX hbl hS h0 h3 1 rfl (by omega) hL dL_law_754 dL_law_755 dL_law_756 dL_law_757 dL_law_758 ?_
  refine x_arg hx hb hX hbl hS h0 h3 2 rfl (by omega) hL dL_law_759 dL_law_760 dL_law_761 dL_law_762 dL_law_763 ?_
  refine x_qR (As := [.int (xs (i + 1)), .int (xs (i + 2))]) (rest := []) ⟨hx, hb, hml, hown, hts⟩ (c_X8_least l D cT a MB im (xs (i + 1)) (xs (i + 2)) (fun z => z = r) (hc1 _ rfl)) w_89 hK hP hS hN (List.Perm.refl (w_PB cT a MB im ++ (w_Model cT bm N ++ wI cT im ia IM))) 8 0 rfl rfl rfl hl.1 rfl (Nat.le_of_ble_eq_true rfl) dL_law_764 hf0 (fun r1 e1 => ?_)
  subst e1
  refine lv_aload_n hx hb dL_law_767 rfl (lv_at hl 2 rfl) ?_
  refine x_arg hx hb hX hbl hS h0 h3 1 rfl (by omega) hL dL_law_768 dL_law_769 dL_law_770 dL_law_771 dL_law_772 ?_
  refine x_arg hx hb hX hbl hS h0 h3 2 rfl (by omega) hL dL_law_773 dL_law_774 dL_law_775 dL_law_776 dL_law_777 ?_
  refine x_qR (As := [.int (xs (i + 1)), .int (xs (i + 2))]) (rest := [.int r1]) ⟨hx, hb, hml, hown, hts⟩ (c_X9_least l D cT bm N (xs (i + 1)) (xs (i + 2)) (fun z => z = r1) (hc2 _ rfl)) w_92 hK hP hS hN (pm_M (w_PB cT a MB im) (w_Model cT bm N) (wI cT im ia IM)) 9 0 rfl rfl rfl hl.1 rfl (Nat.le_of_ble_eq_true rfl) dL_law_778 hf0 (fun r2 e2 => ?_)
  subst e2
  refine lv_icmp_eq (tgt := 907) hx hb dL_law_781 (by decide) (fun _ => ?_) (fun h => absurd rfl h)
  refine W.widen (k := cells + 29) (n := slots + 5935) (by omega) (by omega) ?_
  exact kk MB N im ia IM H locs I hP hD hS
/-! case 18: fit -/
set_option maxHeartbeats 4000000 in
set_option maxRecDepth 100000 in
theorem lc_18 {p : Program} {l : Launch} {e : Env} {s : State} {m : MethodId} {below : List Frame} {meth : Method} {c : Code} {b L i : Nat} {xs : Nat → Int32} {D : va_G} {cT : Nat → ClassId} {a bm : Nat → Nat} {ls : Array Slot} {cells slots : Nat} (X : lwX p s m meth c b L xs D cT) (hi : i + 7 ≤ L) (hl : lv_has ls 4 [(0, .ref b), (1, .ref (a 0)), (2, .ref (bm 0)), (3, .int (nI i))]) (hf : cells + 29 ≤ 1200000 ∧ slots + 5935 ≤ 5502250) (kk : lwI p l e s m below meth c b D cT a bm ls (cells + 29) (slots + 5935) 907) : lwI p l e s m below meth c b D cT a bm ls cells slots 786 := by
  obtain ⟨⟨hx, hb, hr, hml, hown, hts0, hX, hbl, hlocks, hgv⟩, hL, hK, hN, hts⟩ := X
  have hA : ∀ q : Nat, s.heap.size ≤ q → (fun q : Nat => s.heap.size ≤ q) q := fun _ h => h
  have h0 := lv_at hl 0 rfl
  have h3 := lv_at hl 3 rfl
  intro MB N im ia IM H locs I hP hD hS
  obtain ⟨⟨q, hR⟩, hI⟩ := id I
  have hf0 : cells + 0 ≤ room_1.cells ∧ slots + 0 ≤ room_1.slots := ⟨show cells ≤ 1200000 by omega, show slots ≤ 5502250 by omega⟩
  obtain ⟨r, hc1, hc2⟩ := m_fit (MB := MB) (N := N) (xs (i + 1)) (xs (i + 2)) (xs (i + 3)) (xs (i + 4)) (xs (i + 5)) (xs (i + 6))
  have w_93 : CallW room_1 s #[Value.ref b] RL RX8 93 yX8_fit cX8_fit 14 (some .int) wsX8_fit ({ frames := 2, cells := 0, slots := 0, locals := 48 } : Room) 0 0 6 := cwV 6 hts gL_law_X8_fit rfl rfl rfl (by decide +kernel) ⟨Nat.le_of_ble_eq_true rfl, Nat.le_of_ble_eq_true rfl⟩
  have w_97 : CallW room_1 s #[Value.ref b] RL RX9 97 yX9_fit cX9_fit 16 (some .int) wsX9_fit ({ frames := 1, cells := 0, slots := 0, locals := 22 } : Room) 0 0 6 := cwV 6 hts gL_law_X9_fit rfl rfl rfl (by decide +kernel) ⟨Nat.le_of_ble_eq_true rfl, Nat.le_of_ble_eq_true rfl⟩
  refine lv_aload_n hx hb dL_law_786 rfl (lv_at hl 1 rfl) ?_
  refine x_arg hx hb hX hbl hS h0 h3 1 rfl (by omega) hL dL_law_787 dL_law_788 dL_law_789 dL_law_790 dL_law_791 ?_
  refine x_arg hx hb hX hbl hS h0 h3 2 rfl (by omega) hL dL_law_792 dL_law_793 dL_law_794 dL_law_795 dL_law_796 ?_
  refine x_arg hx hb hX hbl hS h0 h3 3 rfl (by omega) hL dL_law_797 dL_law_798 dL_law_799 dL_law_800 dL_law_801 ?_
  refine x_arg hx hb hX hbl hS h0 h3 4 rfl (by omega) hL dL_law_802 dL_law_803 dL_law_804 dL_law_805 dL_law_806 ?_
  refine x_arg hx hb hX hbl hS h0 h3 5 rfl (by omega) hL dL_law_807 dL_law_808 dL_law_809 dL_law_810 dL_law_811 ?_
  refine x_argb hx hb hX hbl hS h0 h3 6 rfl (by omega) hL dL_law_812 dL_law_813 dL_law_814 dL_law_816 dL_law_817 ?_
  refine x_qR (As := [.int (xs (i + 1)), .int (xs (i + 2)), .int (xs (i + 3)), .int (xs (i + 4)), .int (xs (i + 5)), .int (xs (i + 6))]) (rest := []) ⟨hx, hb, hml, hown, hts⟩ (c_X8_fit l D cT a MB im (xs (i + 1)) (xs (i + 2)) (xs (i + 3)) (xs (i + 4)) (xs (i + 5)) (xs (i + 6)) (fun z => z = r) (hc1 _ rfl)) w_93 hK hP hS hN (List.Perm.refl (w_PB cT a MB im ++ (w_Model cT bm N ++ wI cT im ia IM))) 8 0 rfl rfl rfl hl.1 rfl (Nat.le_of_ble_eq_true rfl) dL_law_818 hf0 (fun r1 e1 => ?_)
  subst e1
  refine lv_aload_n hx hb dL_law_821 rfl (lv_at hl 2 rfl) ?_
  refine x_arg hx hb hX hbl hS h0 h3 1 rfl (by omega) hL dL_law_822 dL_law_823 dL_law_824 dL_law_825 dL_law_826 ?_
  refine x_arg hx hb hX hbl hS h0 h3 2 rfl (by omega) hL dL_law_827 dL_law_828 dL_law_829 dL_law_830 dL_law_831 ?_
  refine x_arg hx hb hX hbl hS h0 h3 3 rfl (by omega) hL dL_law_832 dL_law_833 dL_law_834 dL_law_835 dL_law_836 ?_
  refine x_arg hx hb hX hbl hS h0 h3 4 rfl (by omega) hL dL_law_837 dL_law_838 dL_law_839 dL_law_840 dL_law_841 ?_
  refine x_arg hx hb hX hbl hS h0 h3 5 rfl (by omega) hL dL_law_842 dL_law_843 dL_law_844 dL_law_845 dL_law_846 ?_
  refine x_argb hx hb hX hbl hS h0 h3 6 rfl (by omega) hL dL_law_847 dL_law_848 dL_law_849 dL_law_851 dL_law_852 ?_
  refine x_qR (As := [.int (xs (i + 1)), .int (xs (i + 2)), .int (xs (i + 3)), .int (xs (i + 4)), .int (xs (i + 5)), .int (xs (i + 6))]) (rest := [.int r1]) ⟨hx, hb, hml, hown, hts⟩ (c_X9_fit l D cT bm N (xs (i + 1)) (xs (i + 2)) (xs (i + 3)) (xs (i + 4)) (xs (i + 5)) (xs (i + 6)) (fun z => z = r1) (hc2 _ rfl)) w_97 hK hP hS hN (pm_M (w_PB cT a MB im) (w_Model cT bm N) (wI cT im ia IM)) 9 0 rfl rfl rfl hl.1 rfl (Nat.le_of_ble_eq_true rfl) dL_law_853 hf0 (fun r2 e2 => ?_)
  subst e2
  refine lv_icmp_eq (tgt := 907) hx hb dL_law_856 (by decide) (fun _ => ?_) (fun h => absurd rfl h)
  refine W.widen (k := cells + 29) (n := slots + 5935) (by omega) (by omega) ?_
  exact kk MB N im ia IM H locs I hP hD hS
