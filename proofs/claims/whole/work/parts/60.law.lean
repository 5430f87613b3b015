/-! ===== the law's loop ===== -/
theorem lw_go {L i : Nat} (hL : L ≤ 3584) (hi : i ≤ 3584) : nI L - 7 < nI i ↔ ¬ (i + 7 ≤ L) := by
  rw [Int32.lt_iff_toInt_lt, show (7 : Int32) = nI 7 from rfl, pk_sub_toInt (by omega) (by omega), nI_toInt (by omega)]
  omega
set_option maxHeartbeats 4000000 in
set_option maxRecDepth 100000 in
theorem law_loop {p : Program} {l : Launch} {e : Env} {s : State} {m : MethodId} {below : List Frame} {meth : Method} {c : Code} {b L : Nat} {xs : Nat → Int32} {D : va_G} {cT : Nat → ClassId} {a bm : Nat → Nat} (X : lwX p s m meth c b L xs D cT) : ∀ (n t : Nat), 7 * t ≤ L → L + 7 ≤ 7 * (t + n) → ∀ ls : Array Slot, lv_has ls 4 [(0, .ref b), (1, .ref (a 0)), (2, .ref (bm 0)), (3, .int (nI (7 * t)))] → lwI p l e s m below meth c b D cT a bm ls (34 + 29 * t) (29465 + 5935 * t) 18 := by
  intro n
  induction n with
  | zero =>
    intro t h1 h2
    exact absurd h2 (by omega)
  | succ n ih =>
    intro t ht hn ls hl MB N im ia IM H locs I hP hD hS
    obtain ⟨⟨hx, hb, hr, hml, hown, hts0, hX, hbl, hlocks, hgv⟩, hL, hK, hN, hts⟩ := id X
    have hbA : ¬ (fun q : Nat => s.heap.size ≤ q) b := Nat.not_le.mpr hbl
    refine lv_iload_n hx hb dL_law_18 rfl (lv_at hl 3 rfl) ?_
    refine lv_aload_n hx hb dL_law_19 rfl (lv_at hl 0 rfl) ?_
    refine va_slen hx hb hX hbl hbA hS dL_law_20 ?_
    refine lv_bipush (v := 7) hx hb dL_law_21 (by decide) ?_
    refine lv_isub hx hb dL_law_23 ?_
    refine lv_icmp_gt (tgt := 913) hx hb dL_law_24 (by decide) (fun c1 => ?_) (fun c1 => ?_)
    · refine lv_iconst (v := 1) hx hb dL_law_913 (by decide) ?_
      refine va_forget (fun q hq => hS.2.2 q hq) ?_
      refine W.widen (k := 1200000) (n := 5502250) (by omega) (by omega) ?_
      exact lw_ret hx hb hr hlocks dL_law_914
    · have hi : 7 * t + 7 ≤ L := by
        rcases Nat.lt_or_ge L (7 * t + 7) with z | z
        · exact absurd ((lw_go hL (by omega)).mpr (by omega)) c1
        · exact z
      have kk : lwI p l e s m below meth c b D cT a bm ls (34 + 29 * t + 29) (29465 + 5935 * t + 5935) 907 := by
        intro MB N im ia IM H locs I hP hD hS
        obtain ⟨x, ex⟩ : ∃ z : Int32, z = nI (7 * (t + 1)) := ⟨_, rfl⟩
        refine lv_iinc (v := x) (lv' := [(3, .int x), (0, .ref b), (1, .ref (a 0)), (2, .ref (bm 0))]) hx hb dL_law_907 hl (k := 3) rfl (by rw [ex, show Int32.ofInt 7 = nI 7 from rfl, nI_add]; rfl) (by decide) rfl (fun ls hl => ?_)
        refine lv_goto (tgt := 18) hx hb dL_law_910 (by decide) ?_
        refine W.widen (k := 34 + 29 * (t + 1)) (n := 29465 + 5935 * (t + 1)) (by omega) (by omega) ?_
        subst ex
        exact ih (t + 1) (by omega) (by omega) ls (lv_sub hl [1, 2, 3, 0] rfl) MB N im ia IM H locs I hP hD hS
      have hf : 34 + 29 * t + 29 ≤ 1200000 ∧ 29465 + 5935 * t + 5935 ≤ 5502250 := ⟨by omega, by omega⟩
      refine lv_aload_n hx hb dL_law_27 rfl (lv_at hl 0 rfl) ?_
      refine lv_iload_n hx hb dL_law_28 rfl (lv_at hl 3 rfl) ?_
      refine va_sld hx hb hX hbl hbA hS (i := nI (7 * t)) (vp_in_nI (by omega) (by omega)) dL_law_29 ?_
      refine lv_bipush (v := 31) hx hb dL_law_30 (by decide) ?_
      refine lv_iand hx hb dL_law_32 ?_
      obtain ⟨k, hk, ek⟩ := pk_andE (xs (nI (7 * t)).toNatClampNeg) (m := 31) 5 (by decide)
      rw [ek]
      rcases Nat.lt_or_ge k 21 with g | g
      · match k, g with
        | 0, _ => exact lv_tableIn (off := 99) (tgt := 132) hx hb dL_law_33 (by decide) (by decide) rfl (by decide) (lc_0 X hi hl hf kk MB N im ia IM H locs I hP hD hS)
        | 1, _ => exact lv_tableIn (off := 152) (tgt := 185) hx hb dL_law_33 (by decide) (by decide) rfl (by decide) (lc_1 X hi hl hf kk MB N im ia IM H locs I hP hD hS)
        | 2, _ => exact lv_tableIn (off := 231) (tgt := 264) hx hb dL_law_33 (by decide) (by decide) rfl (by decide) (lc_2 X hi hl hf kk MB N im ia IM H locs I hP hD hS)
        | 3, _ => exact lv_tableIn (off := 264) (tgt := 297) hx hb dL_law_33 (by decide) (by decide) rfl (by decide) (lc_3 X hi hl hf kk MB N im ia IM H locs I hP hD hS)
        | 4, _ => exact lv_tableIn (off := 297) (tgt := 330) hx hb dL_law_33 (by decide) (by decide) rfl (by decide) (lc_4 X hi hl hf kk MB N im ia IM H locs I hP hD hS)
        | 5, _ => exact lv_tableIn (off := 330) (tgt := 363) hx hb dL_law_33 (by decide) (by decide) rfl (by decide) (lc_5 X hi hl hf kk MB N im ia IM H locs I hP hD hS)
        | 6, _ => exact lv_tableIn (off := 383) (tgt := 416) hx hb dL_law_33 (by decide) (by decide) rfl (by decide) (lc_6 X hi hl hf kk MB N im ia IM H locs I hP hD hS)
        | 7, _ => exact lv_tableIn (off := 394) (tgt := 427) hx hb dL_law_33 (by decide) (by decide) rfl (by decide) (lc_7 X hi hl hf kk MB N im ia IM H locs I hP hD hS)
        | 8, _ => exact lv_tableIn (off := 427) (tgt := 460) hx hb dL_law_33 (by decide) (by decide) rfl (by decide) (lc_8 X hi hl hf kk MB N im ia IM H locs I hP hD hS)
        | 9, _ => exact lv_tableIn (off := 450) (tgt := 483) hx hb dL_law_33 (by decide) (by decide) rfl (by decide) (lc_9 X hi hl hf kk MB N im ia IM H locs I hP hD hS)
        | 10, _ => exact lv_tableIn (off := 503) (tgt := 536) hx hb dL_law_33 (by decide) (by decide) rfl (by decide) (lc_10 X hi hl hf kk MB N im ia IM H locs I hP hD hS)
        | 11, _ => exact lv_tableIn (off := 562) (tgt := 595) hx hb dL_law_33 (by decide) (by decide) rfl (by decide) (lc_11 X hi hl hf kk MB N im ia IM H locs I hP hD hS)
        | 12, _ => exact lv_tableIn (off := 585) (tgt := 618) hx hb dL_law_33 (by decide) (by decide) rfl (by decide) (lc_12 X hi hl hf kk MB N im ia IM H locs I hP hD hS)
        | 13, _ => exact lv_tableIn (off := 618) (tgt := 651) hx hb dL_law_33 (by decide) (by decide) rfl (by decide) (lc_13 X hi hl hf kk MB N im ia IM H locs I hP hD hS)
        | 14, _ => exact lv_tableIn (off := 641) (tgt := 674) hx hb dL_law_33 (by decide) (by decide) rfl (by decide) (lc_14 X hi hl hf kk MB N im ia IM H locs I hP hD hS)
        | 15, _ => exact lv_tableIn (off := 664) (tgt := 697) hx hb dL_law_33 (by decide) (by decide) rfl (by decide) (lc_15 X hi hl hf kk MB N im ia IM H locs I hP hD hS)
        | 16, _ => exact lv_tableIn (off := 687) (tgt := 720) hx hb dL_law_33 (by decide) (by decide) rfl (by decide) (lc_16 X hi hl hf kk MB N im ia IM H locs I hP hD hS)
        | 17, _ => exact lv_tableIn (off := 720) (tgt := 753) hx hb dL_law_33 (by decide) (by decide) rfl (by decide) (lc_17 X hi hl hf kk MB N im ia IM H locs I hP hD hS)
        | 18, _ => exact lv_tableIn (off := 753) (tgt := 786) hx hb dL_law_33 (by decide) (by decide) rfl (by decide) (lc_18 X hi hl hf kk MB N im ia IM H locs I hP hD hS)
        | 19, _ => exact lv_tableIn (off := 828) (tgt := 861) hx hb dL_law_33 (by decide) (by decide) rfl (by decide) (lc_19 X hi hl hf kk MB N im ia IM H locs I hP hD hS)
        | 20, _ => exact lv_tableIn (off := 851) (tgt := 884) hx hb dL_law_33 (by decide) (by decide) rfl (by decide) (lc_20 X hi hl hf kk MB N im ia IM H locs I hP hD hS)
        | (j + 21), g => exact absurd g (by omega)
      · refine lv_tableOut (tgt := 907) hx hb dL_law_33 (Or.inr (by rw [nI_toInt (by omega)]; omega)) (by decide) ?_
        refine W.widen (k := 34 + 29 * t + 29) (n := 29465 + 5935 * t + 5935) (by omega) (by omega) ?_
        exact kk MB N im ia IM H locs I hP hD hS
theorem wL_0 (cT : Nat → ClassId) (a : Nat → Nat) (MB : ST) (bm : Nat → Nat) (N : ST) (ia : Nat → Nat → Nat) (IM : Nat → ST) : wL cT a MB (fun _ => none) bm N ia IM = w_PB cT a MB (fun _ => none) ++ w_Model cT bm N := by
  unfold wL wI
  rw [iw_none rfl, iw_none rfl, iw_none rfl, List.append_nil, List.append_nil, List.append_nil]
set_option maxHeartbeats 4000000 in
set_option maxRecDepth 100000 in
/-- from the entry, for every script of at most 3584 ints, the law comes to its end with true -/
theorem whole_start {p : Program} {e : Env} {s : State} {m : MethodId} {below : List Frame} {meth : Method} {c : Code} (l : Launch) {b L : Nat} {xs : Nat → Int32} (hL : L ≤ 3584) (C0 : lw_At p s m meth c b L xs) : W p l e room_1 s m #[Value.ref b] below meth c s.heap [] 0 0 (lw_Z below #[Value.ref b] s) (entryFrame m ([Value.ref b] : List Value).toArray 4) := by
  obtain ⟨hx, hb, hr, hml, hown, hts0, hX, hbl, hlocks, hgv⟩ := id C0
  have hts : ∀ w ∈ wsL_law, w.before #[Value.ref b] s = true := fun w hw => hts0 w (wsL_law_in w hw)
  have hA : ∀ q : Nat, s.heap.size ≤ q → (fun q : Nat => s.heap.size ≤ q) q := fun _ h => h
  obtain ⟨D, cT, hK⟩ := lw_K hts hts0
  have hN := lw_N hts0 hgv
  have X : lwX p s m meth c b L xs D cT := ⟨C0, hL, hK, hN, hts⟩
  have hS : va_S (fun q : Nat => s.heap.size ≤ q) s.heap s.heap [] := va_S.rf
  have hP : va_P D vwCl [] s.heap := fun k q h => by simp at h
  have hD : va_D (fun q : Nat => s.heap.size ≤ q) [] := ⟨fun i j p q h => by simp at h, fun k q h => by simp at h⟩
  have hl := lv_entry ([.ref b]) (n := 4) (Nat.le_of_ble_eq_true rfl)
  rw [lg_entry_eq]
  generalize (lg_sl ([.ref b]) ++ List.replicate (4 - (lg_sl ([.ref b])).length) Slot.unset).toArray = ls at hl ⊢
  have hl : lv_has ls 4 [(0, .ref b)] := hl
  have w_9 : CallB room_1 s #[Value.ref b] RL 9 yX8_init cX8_init 1 none wsX8_init ({ frames := 5, cells := 30, slots := 5938, locals := 96 } : Room) 30 5938 0 ∧ yX8_init.name = "<init>" ∧ (Cond.instanceMethod yX8_init).before #[Value.ref b] s = true := cwI 0 hts gL_law_X8_init rfl rfl rfl (hts (.initialized RX8) (by decide +kernel)) (hts (.methodLink RL 9 yX8_init) (by decide +kernel)) (hts (.instanceMethod yX8_init) (by decide +kernel)) rfl (by decide +kernel) ⟨Nat.le_of_ble_eq_true rfl, Nat.le_of_ble_eq_true rfl⟩
  have w_12 : CallB room_1 s #[Value.ref b] RL 12 yX9_init cX9_init 2 none wsX9_init ({ frames := 1, cells := 2, slots := 23523, locals := 12 } : Room) 2 23523 0 ∧ yX9_init.name = "<init>" ∧ (Cond.instanceMethod yX9_init).before #[Value.ref b] s = true := cwI 0 hts gL_law_X9_init rfl rfl rfl (hts (.initialized RX9) (by decide +kernel)) (hts (.methodLink RL 12 yX9_init) (by decide +kernel)) (hts (.instanceMethod yX9_init) (by decide +kernel)) rfl (by decide +kernel) ⟨Nat.le_of_ble_eq_true rfl, Nat.le_of_ble_eq_true rfl⟩
  refine va_new (ci := 8) (fs := [.null, .null]) (C := RX8) (T := TX8) (N := 2) hx hb hts (by decide +kernel) tyX8 tyX8_ok hown (hts (.classLink RL 7 RX8) (by decide +kernel)) (hts (.instantiable RX8 2) (by decide +kernel)) (hts (.initialized RX8) (by decide +kernel)) hK hP hD hS hA rfl (fun j hj => by rcases (show j = 0 ∨ j = 1 by omega) with rfl | rfl <;> rfl) (Nat.le_of_ble_eq_true rfl) (Nat.le_of_ble_eq_true rfl) dL_law_0 (fun q1 H hP hD hS => ?_)
  refine W.widen (k := 1) (n := 2) (Nat.le_of_ble_eq_true rfl) (Nat.le_of_ble_eq_true rfl) ?_
  refine lv_dup hx hb dL_law_3 rfl ?_
  refine x_qI (As := []) (rest := [.ref q1]) (wr := []) ⟨hx, hb, hml, hown, hts⟩ (c_X8_init l D cT q1 _ (fun u => RR (x_sh u 2) (fun _ k => nI (n0 k)) n0) (s_init8 (N := fun _ k => nI (n0 k)) (fun _ => rfl) _ (fun u hu => hu))) w_9 hK hP hD hS hA hN List.perm_append_comm rfl hl.1 rfl (Nat.le_of_ble_eq_true rfl) dL_law_4 ⟨Nat.le_of_ble_eq_true rfl, Nat.le_of_ble_eq_true rfl⟩ (fun u1 H locs hR hP hD hS => ?_)
  refine W.widen (k := 31) (n := 5940) (Nat.le_of_ble_eq_true rfl) (Nat.le_of_ble_eq_true rfl) ?_
  rw [List.append_nil] at hP hD
  refine lv_astore_n (lv' := [(1, .ref q1), (0, .ref b)]) hx hb dL_law_7 rfl hl (by decide) rfl (fun ls hl => ?_)
  refine va_new (ci := 9) (fs := [.null, .null]) (C := RX9) (T := TX9) (N := 2) hx hb hts (by decide +kernel) tyX9 tyX9_ok hown (hts (.classLink RL 10 RX9) (by decide +kernel)) (hts (.instantiable RX9 2) (by decide +kernel)) (hts (.initialized RX9) (by decide +kernel)) hK hP hD hS hA rfl (fun j hj => by rcases (show j = 0 ∨ j = 1 by omega) with rfl | rfl <;> rfl) (Nat.le_of_ble_eq_true rfl) (Nat.le_of_ble_eq_true rfl) dL_law_8 (fun q2 H hP hD hS => ?_)
  refine W.widen (k := 32) (n := 5942) (Nat.le_of_ble_eq_true rfl) (Nat.le_of_ble_eq_true rfl) ?_
  refine lv_dup hx hb dL_law_11 rfl ?_
  refine x_qI (As := []) (rest := [.ref q2]) ⟨hx, hb, hml, hown, hts⟩ (c_X9_init l D cT q2 _ _ s_init9) w_12 hK hP hD hS hA hN List.perm_append_comm rfl hl.1 rfl (Nat.le_of_ble_eq_true rfl) dL_law_12 ⟨Nat.le_of_ble_eq_true rfl, Nat.le_of_ble_eq_true rfl⟩ (fun u2 H locs hN2 hP hD hS => ?_)
  refine W.widen (k := 34 + 29 * 0) (n := 29465 + 5935 * 0) (Nat.le_of_ble_eq_true rfl) (Nat.le_of_ble_eq_true rfl) ?_
  have hP := x_P_perm List.perm_append_comm hP
  have hD := x_D_perm List.perm_append_comm hD
  rw [← wL_0 cT (x_hd q1 u1.1) u1.2 (x_hd q2 u2.1) u2.2 (fun _ _ => 0) (fun _ _ _ => 0)] at hP hD
  refine lv_astore_n (lv' := [(2, .ref q2), (1, .ref q1), (0, .ref b)]) hx hb dL_law_15 rfl hl (by decide) rfl (fun ls hl => ?_)
  refine lv_iconst (v := 0) hx hb dL_law_16 (by decide) ?_
  refine lv_istore_n (lv' := [(3, .int 0), (2, .ref q2), (1, .ref q1), (0, .ref b)]) hx hb dL_law_17 rfl hl (by decide) rfl (fun ls hl => ?_)
  refine law_loop (a := x_hd q1 u1.1) (bm := x_hd q2 u2.1) X (L + 1) 0 (by omega) (by omega) ls (lv_sub hl [3, 2, 1, 0] rfl) u1.2 u2.2 (fun _ => none) (fun _ _ => 0) (fun _ _ _ => 0) H locs ⟨⟨n0, RR.nn hR (fun k _ => hN2.1 k)⟩, fun k hk => Or.inl ⟨rfl, hN2.2 k⟩⟩ hP hD hS
