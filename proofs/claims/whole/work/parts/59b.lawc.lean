/-! case 6: clear -/
set_option maxHeartbeats 4000000 in
set_option maxRecDepth 100000 in
theorem lc_6 {p : Program} {l : Launch} {e : Env} {s : State} {m : MethodId} {below : List Frame} {meth : Method} {c : Code} {b L i : Nat} {xs : Nat → Int32} {D : va_G} {cT : Nat → ClassId} {a bm : Nat → Nat} {ls : Array Slot} {cells slots : Nat} (X : lwX p s m meth c b L xs D cT) (hi : i + 7 ≤ L) (hl : lv_has ls 4 [(0, .ref b), (1, .ref (a 0)), (2, .ref (bm 0)), (3, .int (nI i))]) (hf : cells + 29 ≤ 1200000 ∧ slots + 5935 ≤ 5502250) (kk : lwI p l e s m below meth c b D cT a bm ls (cells + 29) (slots + 5935) 907) : lwI p l e s m below meth c b D cT a bm ls cells slots 416 := by
  obtain ⟨⟨hx, hb, hr, hml, hown, hts0, hX, hbl, hlocks, hgv⟩, hL, hK, hN, hts⟩ := X
  have hA : ∀ q : Nat, s.heap.size ≤ q → (fun q : Nat => s.heap.size ≤ q) q := fun _ h => h
  have h0 := lv_at hl 0 rfl
  have h3 := lv_at hl 3 rfl
  intro MB N im ia IM H locs I hP hD hS
  obtain ⟨⟨q, hR⟩, hI⟩ := id I
  have hf0 : cells + 0 ≤ room_1.cells ∧ slots + 0 ≤ room_1.slots := ⟨show cells ≤ 1200000 by omega, show slots ≤ 5502250 by omega⟩
  obtain ⟨MB2, N2, q2, hc1, hc2, hR2, hkp⟩ := m_clear hR 
  have w_41 : CallW room_1 s #[Value.ref b] RL RX8 41 yX8_clear cX8_clear 1 none wsX8_clear ({ frames := 0, cells := 0, slots := 0, locals := 0 } : Room) 0 0 0 := cwV 0 hts gL_law_X8_clear rfl rfl rfl (by decide +kernel) ⟨Nat.le_of_ble_eq_true rfl, Nat.le_of_ble_eq_true rfl⟩
  have w_44 : CallW room_1 s #[Value.ref b] RL RX9 44 yX9_clear cX9_clear 1 none wsX9_clear ({ frames := 0, cells := 0, slots := 0, locals := 0 } : Room) 0 0 0 := cwV 0 hts gL_law_X9_clear rfl rfl rfl (by decide +kernel) ⟨Nat.le_of_ble_eq_true rfl, Nat.le_of_ble_eq_true rfl⟩
  refine lv_aload_n hx hb dL_law_416 rfl (lv_at hl 1 rfl) ?_
  refine x_qVv (As := []) (rest := []) ⟨hx, hb, hml, hown, hts⟩ (c_X8_clear l D cT a MB im  H.size (fun u => u = MB2) (hc1 _ rfl)) w_41 hK hP hD hS hA hN (List.Perm.refl (w_PB cT a MB im ++ (w_Model cT bm N ++ wI cT im ia IM))) 8 0 rfl rfl rfl hl.1 rfl (Nat.le_of_ble_eq_true rfl) dL_law_417 hf0 (fun u1 H locs e1 hP hD hS => ?_)
  subst e1
  refine lv_aload_n hx hb dL_law_420 rfl (lv_at hl 2 rfl) ?_
  refine x_qVv (As := []) (rest := []) ⟨hx, hb, hml, hown, hts⟩ (c_X9_clear l D cT bm N  H.size (fun u => u = N2) (hc2 _ rfl)) w_44 hK hP hD hS hA hN (pm_M (w_PB cT a u1 im) (w_Model cT bm N) (wI cT im ia IM)) 9 0 rfl rfl rfl hl.1 rfl (Nat.le_of_ble_eq_true rfl) dL_law_421 hf0 (fun u2 H locs e2 hP hD hS => ?_)
  subst e2
  have hP := x_P_perm (pm_M (w_PB cT a u1 im) (w_Model cT bm u2) (wI cT im ia IM)).symm hP
  have hD := x_D_perm (pm_M (w_PB cT a u1 im) (w_Model cT bm u2) (wI cT im ia IM)).symm hD
  refine lv_goto (tgt := 907) hx hb dL_law_424 (by decide) ?_
  refine W.widen (k := cells + 29) (n := slots + 5935) (by omega) (by omega) ?_
  exact kk u1 u2 im ia IM H locs ⟨⟨q2, hR2⟩, hI.keep hkp⟩ hP hD hS
/-! case 7: readers -/
set_option maxHeartbeats 4000000 in
set_option maxRecDepth 100000 in
theorem lc_7 {p : Program} {l : Launch} {e : Env} {s : State} {m : MethodId} {below : List Frame} {meth : Method} {c : Code} {b L i : Nat} {xs : Nat → Int32} {D : va_G} {cT : Nat → ClassId} {a bm : Nat → Nat} {ls : Array Slot} {cells slots : Nat} (X : lwX p s m meth c b L xs D cT) (hi : i + 7 ≤ L) (hl : lv_has ls 4 [(0, .ref b), (1, .ref (a 0)), (2, .ref (bm 0)), (3, .int (nI i))]) (hf : cells + 29 ≤ 1200000 ∧ slots + 5935 ≤ 5502250) (kk : lwI p l e s m below meth c b D cT a bm ls (cells + 29) (slots + 5935) 907) : lwI p l e s m below meth c b D cT a bm ls cells slots 427 := by
  obtain ⟨⟨hx, hb, hr, hml, hown, hts0, hX, hbl, hlocks, hgv⟩, hL, hK, hN, hts⟩ := X
  have hA : ∀ q : Nat, s.heap.size ≤ q → (fun q : Nat => s.heap.size ≤ q) q := fun _ h => h
  have h0 := lv_at hl 0 rfl
  have h3 := lv_at hl 3 rfl
  intro MB N im ia IM H locs I hP hD hS
  obtain ⟨⟨q, hR⟩, hI⟩ := id I
  have hf0 : cells + 0 ≤ room_1.cells ∧ slots + 0 ≤ room_1.slots := ⟨show cells ≤ 1200000 by omega, show slots ≤ 5502250 by omega⟩
  obtain ⟨r, MB2, N2, q2, hc1, hc2, hR2, hkp⟩ := m_readers hR (xs (i + 1)) (xs (i + 2))
  have w_45 : CallW room_1 s #[Value.ref b] RL RX8 45 yX8_readers cX8_readers 3 (some .boolean) wsX8_readers ({ frames := 1, cells := 0, slots := 0, locals := 22 } : Room) 0 0 2 := cwV 2 hts gL_law_X8_readers rfl rfl rfl (by decide +kernel) ⟨Nat.le_of_ble_eq_true rfl, Nat.le_of_ble_eq_true rfl⟩
  have w_48 : CallW room_1 s #[Value.ref b] RL RX9 48 yX9_readers cX9_readers 3 (some .boolean) wsX9_readers ({ frames := 1, cells := 0, slots := 0, locals := 22 } : Room) 0 0 2 := cwV 2 hts gL_law_X9_readers rfl rfl rfl (by decide +kernel) ⟨Nat.le_of_ble_eq_true rfl, Nat.le_of_ble_eq_true rfl⟩
  refine lv_aload_n hx hb dL_law_427 rfl (lv_at hl 1 rfl) ?_
  refine x_arg hx hb hX hbl hS h0 h3 1 rfl (by omega) hL dL_law_428 dL_law_429 dL_law_430 dL_law_431 dL_law_432 ?_
  refine x_arg hx hb hX hbl hS h0 h3 2 rfl (by omega) hL dL_law_433 dL_law_434 dL_law_435 dL_law_436 dL_law_437 ?_
  refine x_qVi (As := [.int (xs (i + 1)), .int (xs (i + 2))]) (rest := []) ⟨hx, hb, hml, hown, hts⟩ (c_X8_readers l D cT a MB im (xs (i + 1)) (xs (i + 2)) H.size (fun z u => z = r ∧ u = MB2) (hc1 _ ⟨rfl, rfl⟩)) w_45 hK hP hD hS hA hN (List.Perm.refl (w_PB cT a MB im ++ (w_Model cT bm N ++ wI cT im ia IM))) 8 0 rfl rfl rfl hl.1 rfl (Nat.le_of_ble_eq_true rfl) dL_law_438 hf0 (fun r1 u1 H locs e1 hP hD hS => ?_)
  obtain ⟨rfl, rfl⟩ := e1
  refine lv_aload_n hx hb dL_law_441 rfl (lv_at hl 2 rfl) ?_
  refine x_arg hx hb hX hbl hS h0 h3 1 rfl (by omega) hL dL_law_442 dL_law_443 dL_law_444 dL_law_445 dL_law_446 ?_
  refine x_arg hx hb hX hbl hS h0 h3 2 rfl (by omega) hL dL_law_447 dL_law_448 dL_law_449 dL_law_450 dL_law_451 ?_
  refine x_qVi (As := [.int (xs (i + 1)), .int (xs (i + 2))]) (rest := [.int r1]) ⟨hx, hb, hml, hown, hts⟩ (c_X9_readers l D cT bm N (xs (i + 1)) (xs (i + 2)) H.size (fun z u => z = r1 ∧ u = N2) (hc2 _ ⟨rfl, rfl⟩)) w_48 hK hP hD hS hA hN (pm_M (w_PB cT a u1 im) (w_Model cT bm N) (wI cT im ia IM)) 9 0 rfl rfl rfl hl.1 rfl (Nat.le_of_ble_eq_true rfl) dL_law_452 hf0 (fun r2 u2 H locs e2 hP hD hS => ?_)
  obtain ⟨rfl, rfl⟩ := e2
  have hP := x_P_perm (pm_M (w_PB cT a u1 im) (w_Model cT bm u2) (wI cT im ia IM)).symm hP
  have hD := x_D_perm (pm_M (w_PB cT a u1 im) (w_Model cT bm u2) (wI cT im ia IM)).symm hD
  refine lv_icmp_eq (tgt := 907) hx hb dL_law_455 (by decide) (fun _ => ?_) (fun h => absurd rfl h)
  refine W.widen (k := cells + 29) (n := slots + 5935) (by omega) (by omega) ?_
  exact kk u1 u2 im ia IM H locs ⟨⟨q2, hR2⟩, hI.keep hkp⟩ hP hD hS
/-! case 8: depth -/
set_option maxHeartbeats 4000000 in
set_option maxRecDepth 100000 in
theorem lc_8 {p : Program} {l : Launch} {e : Env} {s : State} {m : MethodId} {below : List Frame} {meth : Method} {c : Code} {b L i : Nat} {xs : Nat → Int32} {D : va_G} {cT : Nat → ClassId} {a bm : Nat → Nat} {ls : Array Slot} {cells slots : Nat} (X : lwX p s m meth c b L xs D cT) (hi : i + 7 ≤ L) (hl : lv_has ls 4 [(0, .ref b), (1, .ref (a 0)), (2, .ref (bm 0)), (3, .int (nI i))]) (hf : cells + 29 ≤ 1200000 ∧ slots + 5935 ≤ 5502250) (kk : lwI p l e s m below meth c b D cT a bm ls (cells + 29) (slots + 5935) 907) : lwI p l e s m below meth c b D cT a bm ls cells slots 460 := by
  obtain ⟨⟨hx, hb, hr, hml, hown, hts0, hX, hbl, hlocks, hgv⟩, hL, hK, hN, hts⟩ := X
  have hA : ∀ q : Nat, s.heap.size ≤ q → (fun q : Nat => s.heap.size ≤ q) q := fun _ h => h
  have h0 := lv_at hl 0 rfl
  have h3 := lv_at hl 3 rfl
  intro MB N im ia IM H locs I hP hD hS
  obtain ⟨⟨q, hR⟩, hI⟩ := id I
  have hf0 : cells + 0 ≤ room_1.cells ∧ slots + 0 ≤ room_1.slots := ⟨show cells ≤ 1200000 by omega, show slots ≤ 5502250 by omega⟩
  obtain ⟨r, MB2, N2, q2, hc1, hc2, hR2, hkp⟩ := m_depth hR (xs (i + 1))
  have w_49 : CallW room_1 s #[Value.ref b] RL RX8 49 yX8_depth cX8_depth 2 (some .boolean) wsX8_depth ({ frames := 1, cells := 0, slots := 0, locals := 22 } : Room) 0 0 1 := cwV 1 hts gL_law_X8_depth rfl rfl rfl (by decide +kernel) ⟨Nat.le_of_ble_eq_true rfl, Nat.le_of_ble_eq_true rfl⟩
  have w_53 : CallW room_1 s #[Value.ref b] RL RX9 53 yX9_depth cX9_depth 2 (some .boolean) wsX9_depth ({ frames := 1, cells := 0, slots := 0, locals := 22 } : Room) 0 0 1 := cwV 1 hts gL_law_X9_depth rfl rfl rfl (by decide +kernel) ⟨Nat.le_of_ble_eq_true rfl, Nat.le_of_ble_eq_true rfl⟩
  refine lv_aload_n hx hb dL_law_460 rfl (lv_at hl 1 rfl) ?_
  refine x_arg hx hb hX hbl hS h0 h3 1 rfl (by omega) hL dL_law_461 dL_law_462 dL_law_463 dL_law_464 dL_law_465 ?_
  refine x_qVi (As := [.int (xs (i + 1))]) (rest := []) ⟨hx, hb, hml, hown, hts⟩ (c_X8_depth l D cT a MB im (xs (i + 1)) H.size (fun z u => z = r ∧ u = MB2) (hc1 _ ⟨rfl, rfl⟩)) w_49 hK hP hD hS hA hN (List.Perm.refl (w_PB cT a MB im ++ (w_Model cT bm N ++ wI cT im ia IM))) 8 0 rfl rfl rfl hl.1 rfl (Nat.le_of_ble_eq_true rfl) dL_law_466 hf0 (fun r1 u1 H locs e1 hP hD hS => ?_)
  obtain ⟨rfl, rfl⟩ := e1
  refine lv_aload_n hx hb dL_law_469 rfl (lv_at hl 2 rfl) ?_
  refine x_arg hx hb hX hbl hS h0 h3 1 rfl (by omega) hL dL_law_470 dL_law_471 dL_law_472 dL_law_473 dL_law_474 ?_
  refine x_qVi (As := [.int (xs (i + 1))]) (rest := [.int r1]) ⟨hx, hb, hml, hown, hts⟩ (c_X9_depth l D cT bm N (xs (i + 1)) H.size (fun z u => z = r1 ∧ u = N2) (hc2 _ ⟨rfl, rfl⟩)) w_53 hK hP hD hS hA hN (pm_M (w_PB cT a u1 im) (w_Model cT bm N) (wI cT im ia IM)) 9 0 rfl rfl rfl hl.1 rfl (Nat.le_of_ble_eq_true rfl) dL_law_475 hf0 (fun r2 u2 H locs e2 hP hD hS => ?_)
  obtain ⟨rfl, rfl⟩ := e2
  have hP := x_P_perm (pm_M (w_PB cT a u1 im) (w_Model cT bm u2) (wI cT im ia IM)).symm hP
  have hD := x_D_perm (pm_M (w_PB cT a u1 im) (w_Model cT bm u2) (wI cT im ia IM)).symm hD
  refine lv_icmp_eq (tgt := 907) hx hb dL_law_478 (by decide) (fun _ => ?_) (fun h => absurd rfl h)
  refine W.widen (k := cells + 29) (n := slots + 5935) (by omega) (by omega) ?_
  exact kk u1 u2 im ia IM H locs ⟨⟨q2, hR2⟩, hI.keep hkp⟩ hP hD hS
/-! case 9: sprite -/
set_option maxHeartbeats 4000000 in
set_option maxRecDepth 100000 in
theorem lc_9 {p : Program} {l : Launch} {e : Env} {s : State} {m : MethodId} {below : List Frame} {meth : Method} {c : Code} {b L i : Nat} {xs : Nat → Int32} {D : va_G} {cT : Nat → ClassId} {a bm : Nat → Nat} {ls : Array Slot} {cells slots : Nat} (X : lwX p s m meth c b L xs D cT) (hi : i + 7 ≤ L) (hl : lv_has ls 4 [(0, .ref b), (1, .ref (a 0)), (2, .ref (bm 0)), (3, .int (nI i))]) (hf : cells + 29 ≤ 1200000 ∧ slots + 5935 ≤ 5502250) (kk : lwI p l e s m below meth c b D cT a bm ls (cells + 29) (slots + 5935) 907) : lwI p l e s m below meth c b D cT a bm ls cells slots 483 := by
  obtain ⟨⟨hx, hb, hr, hml, hown, hts0, hX, hbl, hlocks, hgv⟩, hL, hK, hN, hts⟩ := X
  have hA : ∀ q : Nat, s.heap.size ≤ q → (fun q : Nat => s.heap.size ≤ q) q := fun _ h => h
  have h0 := lv_at hl 0 rfl
  have h3 := lv_at hl 3 rfl
  intro MB N im ia IM H locs I hP hD hS
  obtain ⟨⟨q, hR⟩, hI⟩ := id I
  have hf0 : cells + 0 ≤ room_1.cells ∧ slots + 0 ≤ room_1.slots := ⟨show cells ≤ 1200000 by omega, show slots ≤ 5502250 by omega⟩
  obtain ⟨r, MB2, N2, q2, hc1, hc2, hR2, hkp⟩ := m_sprite hR (xs (i + 1)) (xs (i + 2)) (xs (i + 3)) (xs (i + 4))
  have w_54 : CallW room_1 s #[Value.ref b] RL RX8 54 yX8_sprite cX8_sprite 5 (some .boolean) wsX8_sprite ({ frames := 3, cells := 0, slots := 0, locals := 68 } : Room) 0 0 4 := cwV 4 hts gL_law_X8_sprite rfl rfl rfl (by decide +kernel) ⟨Nat.le_of_ble_eq_true rfl, Nat.le_of_ble_eq_true rfl⟩
  have w_57 : CallW room_1 s #[Value.ref b] RL RX9 57 yX9_sprite cX9_sprite 5 (some .boolean) wsX9_sprite ({ frames := 1, cells := 0, slots := 0, locals := 22 } : Room) 0 0 4 := cwV 4 hts gL_law_X9_sprite rfl rfl rfl (by decide +kernel) ⟨Nat.le_of_ble_eq_true rfl, Nat.le_of_ble_eq_true rfl⟩
  refine lv_aload_n hx hb dL_law_483 rfl (lv_at hl 1 rfl) ?_
  refine x_arg hx hb hX hbl hS h0 h3 1 rfl (by omega) hL dL_law_484 dL_law_485 dL_law_486 dL_law_487 dL_law_488 ?_
  refine x_arg hx hb hX hbl hS h0 h3 2 rfl (by omega) hL dL_law_489 dL_law_490 dL_law_491 dL_law_492 dL_law_493 ?_
  refine x_arg hx hb hX hbl hS h0 h3 3 rfl (by omega) hL dL_law_494 dL_law_495 dL_law_496 dL_law_497 dL_law_498 ?_
  refine x_arg hx hb hX hbl hS h0 h3 4 rfl (by omega) hL dL_law_499 dL_law_500 dL_law_501 dL_law_502 dL_law_503 ?_
  refine x_qVi (As := [.int (xs (i + 1)), .int (xs (i + 2)), .int (xs (i + 3)), .int (xs (i + 4))]) (rest := []) ⟨hx, hb, hml, hown, hts⟩ (c_X8_sprite l D cT a MB im (xs (i + 1)) (xs (i + 2)) (xs (i + 3)) (xs (i + 4)) H.size (fun z u => z = r ∧ u = MB2) (hc1 _ ⟨rfl, rfl⟩)) w_54 hK hP hD hS hA hN (List.Perm.refl (w_PB cT a MB im ++ (w_Model cT bm N ++ wI cT im ia IM))) 8 0 rfl rfl rfl hl.1 rfl (Nat.le_of_ble_eq_true rfl) dL_law_504 hf0 (fun r1 u1 H locs e1 hP hD hS => ?_)
  obtain ⟨rfl, rfl⟩ := e1
  refine lv_aload_n hx hb dL_law_507 rfl (lv_at hl 2 rfl) ?_
  refine x_arg hx hb hX hbl hS h0 h3 1 rfl (by omega) hL dL_law_508 dL_law_509 dL_law_510 dL_law_511 dL_law_512 ?_
  refine x_arg hx hb hX hbl hS h0 h3 2 rfl (by omega) hL dL_law_513 dL_law_514 dL_law_515 dL_law_516 dL_law_517 ?_
  refine x_arg hx hb hX hbl hS h0 h3 3 rfl (by omega) hL dL_law_518 dL_law_519 dL_law_520 dL_law_521 dL_law_522 ?_
  refine x_arg hx hb hX hbl hS h0 h3 4 rfl (by omega) hL dL_law_523 dL_law_524 dL_law_525 dL_law_526 dL_law_527 ?_
  refine x_qVi (As := [.int (xs (i + 1)), .int (xs (i + 2)), .int (xs (i + 3)), .int (xs (i + 4))]) (rest := [.int r1]) ⟨hx, hb, hml, hown, hts⟩ (c_X9_sprite l D cT bm N (xs (i + 1)) (xs (i + 2)) (xs (i + 3)) (xs (i + 4)) H.size (fun z u => z = r1 ∧ u = N2) (hc2 _ ⟨rfl, rfl⟩)) w_57 hK hP hD hS hA hN (pm_M (w_PB cT a u1 im) (w_Model cT bm N) (wI cT im ia IM)) 9 0 rfl rfl rfl hl.1 rfl (Nat.le_of_ble_eq_true rfl) dL_law_528 hf0 (fun r2 u2 H locs e2 hP hD hS => ?_)
  obtain ⟨rfl, rfl⟩ := e2
  have hP := x_P_perm (pm_M (w_PB cT a u1 im) (w_Model cT bm u2) (wI cT im ia IM)).symm hP
  have hD := x_D_perm (pm_M (w_PB cT a u1 im) (w_Model cT bm u2) (wI cT im ia IM)).symm hD
  refine lv_icmp_eq (tgt := 907) hx hb dL_law_531 (by decide) (fun _ => ?_) (fun h => absurd rfl h)
  refine W.widen (k := cells + 29) (n := slots + 5935) (by omega) (by omega) ?_
  exact kk u1 u2 im ia IM H locs ⟨⟨q2, hR2⟩, hI.keep hkp⟩ hP hD hS
/-! case 10: bits -/
set_option maxHeartbeats 4000000 in
set_option maxRecDepth 100000 in
theorem lc_10 {p : Program} {l : Launch} {e : Env} {s : State} {m : MethodId} {below : List Frame} {meth : Method} {c : Code} {b L i : Nat} {xs : Nat → Int32} {D : va_G} {cT : Nat → ClassId} {a bm : Nat → Nat} {ls : Array Slot} {cells slots : Nat} (X : lwX p s m meth c b L xs D cT) (hi : i + 7 ≤ L) (hl : lv_has ls 4 [(0, .ref b), (1, .ref (a 0)), (2, .ref (bm 0)), (3, .int (nI i))]) (hf : cells + 29 ≤ 1200000 ∧ slots + 5935 ≤ 5502250) (kk : lwI p l e s m below meth c b D cT a bm ls (cells + 29) (slots + 5935) 907) : lwI p l e s m below meth c b D cT a bm ls cells slots 536 := by
  obtain ⟨⟨hx, hb, hr, hml, hown, hts0, hX, hbl, hlocks, hgv⟩, hL, hK, hN, hts⟩ := X
  have hA : ∀ q : Nat, s.heap.size ≤ q → (fun q : Nat => s.heap.size ≤ q) q := fun _ h => h
  have h0 := lv_at hl 0 rfl
  have h3 := lv_at hl 3 rfl
  intro MB N im ia IM H locs I hP hD hS
  obtain ⟨⟨q, hR⟩, hI⟩ := id I
  have hf0 : cells + 0 ≤ room_1.cells ∧ slots + 0 ≤ room_1.slots := ⟨show cells ≤ 1200000 by omega, show slots ≤ 5502250 by omega⟩
  obtain ⟨r, MB2, N2, q2, hc1, hc2, hR2, hkp⟩ := m_bits hR (xs (i + 1)) (nz (xs (i + 2))) (xs (i + 3))
  have w_58 : CallW room_1 s #[Value.ref b] RL RX8 58 yX8_bits cX8_bits 4 (some .boolean) wsX8_bits ({ frames := 1, cells := 0, slots := 0, locals := 24 } : Room) 0 0 3 := cwV 3 hts gL_law_X8_bits rfl rfl rfl (by decide +kernel) ⟨Nat.le_of_ble_eq_true rfl, Nat.le_of_ble_eq_true rfl⟩
  have w_62 : CallW room_1 s #[Value.ref b] RL RX9 62 yX9_bits cX9_bits 5 (some .boolean) wsX9_bits ({ frames := 1, cells := 0, slots := 0, locals := 22 } : Room) 0 0 3 := cwV 3 hts gL_law_X9_bits rfl rfl rfl (by decide +kernel) ⟨Nat.le_of_ble_eq_true rfl, Nat.le_of_ble_eq_true rfl⟩
  refine lv_aload_n hx hb dL_law_536 rfl (lv_at hl 1 rfl) ?_
  refine x_arg hx hb hX hbl hS h0 h3 1 rfl (by omega) hL dL_law_537 dL_law_538 dL_law_539 dL_law_540 dL_law_541 ?_
  refine x_arg hx hb hX hbl hS h0 h3 2 rfl (by omega) hL dL_law_542 dL_law_543 dL_law_544 dL_law_545 dL_law_546 ?_
  refine x_nzr hx hb dL_law_547 dL_law_550 dL_law_551 dL_law_554 ?_
  refine x_arg hx hb hX hbl hS h0 h3 3 rfl (by omega) hL dL_law_555 dL_law_556 dL_law_557 dL_law_558 dL_law_559 ?_
  refine x_qVi (As := [.int (xs (i + 1)), .int (nz (xs (i + 2))), .int (xs (i + 3))]) (rest := []) ⟨hx, hb, hml, hown, hts⟩ (c_X8_bits l D cT a MB im (xs (i + 1)) (nz (xs (i + 2))) (xs (i + 3)) H.size (fun z u => z = r ∧ u = MB2) (hc1 _ ⟨rfl, rfl⟩)) w_58 hK hP hD hS hA hN (List.Perm.refl (w_PB cT a MB im ++ (w_Model cT bm N ++ wI cT im ia IM))) 8 0 rfl rfl rfl hl.1 rfl (Nat.le_of_ble_eq_true rfl) dL_law_560 hf0 (fun r1 u1 H locs e1 hP hD hS => ?_)
  obtain ⟨rfl, rfl⟩ := e1
  refine lv_aload_n hx hb dL_law_563 rfl (lv_at hl 2 rfl) ?_
  refine x_arg hx hb hX hbl hS h0 h3 1 rfl (by omega) hL dL_law_564 dL_law_565 dL_law_566 dL_law_567 dL_law_568 ?_
  refine x_arg hx hb hX hbl hS h0 h3 2 rfl (by omega) hL dL_law_569 dL_law_570 dL_law_571 dL_law_572 dL_law_573 ?_
  refine x_nzr hx hb dL_law_574 dL_law_577 dL_law_578 dL_law_581 ?_
  refine x_arg hx hb hX hbl hS h0 h3 3 rfl (by omega) hL dL_law_582 dL_law_583 dL_law_584 dL_law_585 dL_law_586 ?_
  refine x_qVi (As := [.int (xs (i + 1)), .int (nz (xs (i + 2))), .int (xs (i + 3))]) (rest := [.int r1]) ⟨hx, hb, hml, hown, hts⟩ (c_X9_bits l D cT bm N (xs (i + 1)) (nz (xs (i + 2))) (xs (i + 3)) H.size (fun z u => z = r1 ∧ u = N2) (hc2 _ ⟨rfl, rfl⟩)) w_62 hK hP hD hS hA hN (pm_M (w_PB cT a u1 im) (w_Model cT bm N) (wI cT im ia IM)) 9 0 rfl rfl rfl hl.1 rfl (Nat.le_of_ble_eq_true rfl) dL_law_587 hf0 (fun r2 u2 H locs e2 hP hD hS => ?_)
  obtain ⟨rfl, rfl⟩ := e2
  have hP := x_P_perm (pm_M (w_PB cT a u1 im) (w_Model cT bm u2) (wI cT im ia IM)).symm hP
  have hD := x_D_perm (pm_M (w_PB cT a u1 im) (w_Model cT bm u2) (wI cT im ia IM)).symm hD
  refine lv_icmp_eq (tgt := 907) hx hb dL_law_590 (by decide) (fun _ => ?_) (fun h => absurd rfl h)
  refine W.widen (k := cells + 29) (n := slots + 5935) (by omega) (by omega) ?_
  exact kk u1 u2 im ia IM H locs ⟨⟨q2, hR2⟩, hI.keep hkp⟩ hP hD hS
/-! case 11: ticks -/
set_option maxHeartbeats 4000000 in
set_option maxRecDepth 100000 in
theorem lc_11 {p : Program} {l : Launch} {e : Env} {s : State} {m : MethodId} {below : List Frame} {meth : Method} {c : Code} {b L i : Nat} {xs : Nat → Int32} {D : va_G} {cT : Nat → ClassId} {a bm : Nat → Nat} {ls : Array Slot} {cells slots : Nat} (X : lwX p s m meth c b L xs D cT) (hi : i + 7 ≤ L) (hl : lv_has ls 4 [(0, .ref b), (1, .ref (a 0)), (2, .ref (bm 0)), (3, .int (nI i))]) (hf : cells + 29 ≤ 1200000 ∧ slots + 5935 ≤ 5502250) (kk : lwI p l e s m below meth c b D cT a bm ls (cells + 29) (slots + 5935) 907) : lwI p l e s m below meth c b D cT a bm ls cells slots 595 := by
  obtain ⟨⟨hx, hb, hr, hml, hown, hts0, hX, hbl, hlocks, hgv⟩, hL, hK, hN, hts⟩ := X
  have hA : ∀ q : Nat, s.heap.size ≤ q → (fun q : Nat => s.heap.size ≤ q) q := fun _ h => h
  have h0 := lv_at hl 0 rfl
  have h3 := lv_at hl 3 rfl
  intro MB N im ia IM H locs I hP hD hS
  obtain ⟨⟨q, hR⟩, hI⟩ := id I
  have hf0 : cells + 0 ≤ room_1.cells ∧ slots + 0 ≤ room_1.slots := ⟨show cells ≤ 1200000 by omega, show slots ≤ 5502250 by omega⟩
  obtain ⟨r, MB2, N2, q2, hc1, hc2, hR2, hkp⟩ := m_ticks hR (xs (i + 1))
  have w_63 : CallW room_1 s #[Value.ref b] RL RX8 63 yX8_ticks cX8_ticks 3 (some .int) wsX8_ticks ({ frames := 6, cells := 0, slots := 0, locals := 126 } : Room) 0 0 1 := cwV 1 hts gL_law_X8_ticks rfl rfl rfl (by decide +kernel) ⟨Nat.le_of_ble_eq_true rfl, Nat.le_of_ble_eq_true rfl⟩
  have w_67 : CallW room_1 s #[Value.ref b] RL RX9 67 yX9_ticks cX9_ticks 3 (some .int) wsX9_ticks ({ frames := 4, cells := 0, slots := 0, locals := 96 } : Room) 0 0 1 := cwV 1 hts gL_law_X9_ticks rfl rfl rfl (by decide +kernel) ⟨Nat.le_of_ble_eq_true rfl, Nat.le_of_ble_eq_true rfl⟩
  refine lv_aload_n hx hb dL_law_595 rfl (lv_at hl 1 rfl) ?_
  refine x_arg hx hb hX hbl hS h0 h3 1 rfl (by omega) hL dL_law_596 dL_law_597 dL_law_598 dL_law_599 dL_law_600 ?_
  refine x_qVi (As := [.int (xs (i + 1))]) (rest := []) ⟨hx, hb, hml, hown, hts⟩ (c_X8_ticks l D cT a MB im (xs (i + 1)) H.size (fun z u => z = r ∧ u = MB2) (hc1 _ ⟨rfl, rfl⟩)) w_63 hK hP hD hS hA hN (List.Perm.refl (w_PB cT a MB im ++ (w_Model cT bm N ++ wI cT im ia IM))) 8 0 rfl rfl rfl hl.1 rfl (Nat.le_of_ble_eq_true rfl) dL_law_601 hf0 (fun r1 u1 H locs e1 hP hD hS => ?_)
  obtain ⟨rfl, rfl⟩ := e1
  refine lv_aload_n hx hb dL_law_604 rfl (lv_at hl 2 rfl) ?_
  refine x_arg hx hb hX hbl hS h0 h3 1 rfl (by omega) hL dL_law_605 dL_law_606 dL_law_607 dL_law_608 dL_law_609 ?_
  refine x_qVi (As := [.int (xs (i + 1))]) (rest := [.int r1]) ⟨hx, hb, hml, hown, hts⟩ (c_X9_ticks l D cT bm N (xs (i + 1)) H.size (fun z u => z = r1 ∧ u = N2) (hc2 _ ⟨rfl, rfl⟩)) w_67 hK hP hD hS hA hN (pm_M (w_PB cT a u1 im) (w_Model cT bm N) (wI cT im ia IM)) 9 0 rfl rfl rfl hl.1 rfl (Nat.le_of_ble_eq_true rfl) dL_law_610 hf0 (fun r2 u2 H locs e2 hP hD hS => ?_)
  obtain ⟨rfl, rfl⟩ := e2
  have hP := x_P_perm (pm_M (w_PB cT a u1 im) (w_Model cT bm u2) (wI cT im ia IM)).symm hP
  have hD := x_D_perm (pm_M (w_PB cT a u1 im) (w_Model cT bm u2) (wI cT im ia IM)).symm hD
  refine lv_icmp_eq (tgt := 907) hx hb dL_law_613 (by decide) (fun _ => ?_) (fun h => absurd rfl h)
  refine W.widen (k := cells + 29) (n := slots + 5935) (by omega) (by omega) ?_
  exact kk u1 u2 im ia IM H locs ⟨⟨q2, hR2⟩, hI.keep hkp⟩ hP hD hS
