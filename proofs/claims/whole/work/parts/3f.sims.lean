/-! ===== a tick ===== -/
theorem RR.low {M M' N : ST} {q : Nat → Nat} (h : RR M N q) (hM : ∀ i, i < 29 → M' i = M i) : RR M' N q := by
  obtain ⟨h1, h2, h3, h4, h5, h13, h6, h7, h8, h9, h10, h11, h12⟩ := h
  have hN : ∀ k, k < 0 ∨ 0 ≤ k → N 1 k = N 1 k := fun _ _ => rfl
  have hq : ∀ k, k < 0 ∨ 0 ≤ k → q k = q k := fun _ _ => rfl
  exact ⟨h1.cg (hM 2 (by omega)) (hM 3 (by omega)) (hM 4 (by omega)) (fun k _ => hN k (by omega)) (fun k _ => hq k (by omega)), h2.cg (hM 8 (by omega)) (hM 9 (by omega)) (hM 10 (by omega)) (fun k _ _ => hN k (by omega)) (fun k _ _ => hq k (by omega)), h3.cg ⟨congrFun (hM 1 (by omega)) 3, congrFun (hM 1 (by omega)) 4, congrFun (hM 1 (by omega)) 5⟩ ⟨hN 20 (by omega), hN 21 (by omega), hN 22 (by omega)⟩ (fun k _ => hq k (by omega)) (fun k _ _ => hq k (by omega)), h4.cg (hM 0 (by omega)) ⟨hN 23 (by omega), hN 25 (by omega), hN 27 (by omega), hN 28 (by omega)⟩ ⟨hq 23 (by omega), hq 27 (by omega)⟩, h5.cg (hM 11 (by omega)) (fun k _ _ _ _ _ => hN k (by omega)) (fun k _ _ => hq k (by omega)) (hq 9 (by omega)), h13.cg (hM 12 (by omega)) (fun k _ _ => hN k (by omega)) (hq 33 (by omega)) h5.2.2.2.2.2.1.2.2 (hq 9 (by omega)), h6.cg (hM 14 (by omega)) (fun k _ _ => hN k (by omega)) (fun k _ _ => hq k (by omega)), h7.cg (hM 15 (by omega)) (hM 16 (by omega)) (hM 17 (by omega)) (hM 18 (by omega)) (hM 19 (by omega)) ⟨hN 36 (by omega), hq 36 (by omega)⟩ (fun k _ _ => hN k (by omega)) (fun k _ _ => hq k (by omega)), h8.cg (hM 5 (by omega)) (hM 6 (by omega)) (hM 7 (by omega)) (congrFun (hM 1 (by omega)) 6) (fun k _ _ => hN k (by omega)) (fun k _ _ => hq k (by omega)) (fun k _ => hq k (by omega)) (fun k _ _ => hq k (by omega)), h9.cg (hM 21 (by omega)) (hM 22 (by omega)) (hM 23 (by omega)) (hM 24 (by omega)) (hM 25 (by omega)) (fun k _ _ => hN k (by omega)) (fun k _ _ => hq k (by omega)), h10.cg (hM 28 (by omega)) (fun k _ _ => hN k (by omega)), h11.cg (hM 26 (by omega)) (fun k _ _ => hN k (by omega)), h12.cg (hM 27 (by omega)) (fun k _ _ => hN k (by omega))⟩
theorem RR.tick {M N : ST} {q : Nat → Nat} (h : RR M N q) (ht : q 23 < 1000000) : RR (x_st M 0 10 (nI (q 23 + 1))) (x_st N 1 23 (nI (q 23 + 1))) (fun k => if k = 23 then q 23 + 1 else q k) := by
  obtain ⟨h1, h2, h3, h4, h5, h13, h6, h7, h8, h9, h10, h11, h12⟩ := h
  have hM : ∀ i, i ≠ 0 → x_st M 0 10 (nI (q 23 + 1)) i = M i := fun i z => x_st_row _ _ _ _ z
  have hN : ∀ k, k ≠ 23 → x_st N 1 23 (nI (q 23 + 1)) 1 k = N 1 k := fun k z => x_st_col _ _ _ _ z _
  have hq : ∀ k, k ≠ 23 → (fun k => if k = 23 then q 23 + 1 else q k) k = q k := fun k z => if_neg z
  obtain ⟨⟨k1, k2, k3⟩, k4, ⟨k5, k6, k7, k8⟩, k9⟩ := id h4
  have h4' : P4 (x_st M 0 10 (nI (q 23 + 1))) (x_st N 1 23 (nI (q 23 + 1))) (fun k => if k = 23 then q 23 + 1 else q k) := ⟨⟨x_st_at _ _ _ _, x_st_at _ _ _ _, by show q 23 + 1 ≤ 1000000; omega⟩, by rw [x_st_col _ _ _ _ (by decide), x_st_col _ _ _ _ (by decide)]; exact k4, ⟨by rw [x_st_col _ _ _ _ (by decide)]; exact k5, by rw [x_st_col _ _ _ _ (by decide)]; exact k6, k7, k8⟩, by rw [x_st_col _ _ _ _ (by decide), x_st_col _ _ _ _ (by decide)]; exact k9⟩
  exact ⟨h1.cg (hM 2 (by omega)) (hM 3 (by omega)) (hM 4 (by omega)) (fun k _ => hN k (by omega)) (fun k _ => hq k (by omega)), h2.cg (hM 8 (by omega)) (hM 9 (by omega)) (hM 10 (by omega)) (fun k _ _ => hN k (by omega)) (fun k _ _ => hq k (by omega)), h3.cg ⟨congrFun (hM 1 (by omega)) 3, congrFun (hM 1 (by omega)) 4, congrFun (hM 1 (by omega)) 5⟩ ⟨hN 20 (by omega), hN 21 (by omega), hN 22 (by omega)⟩ (fun k _ => hq k (by omega)) (fun k _ _ => hq k (by omega)), h4', h5.cg (hM 11 (by omega)) (fun k _ _ _ _ _ => hN k (by omega)) (fun k _ _ => hq k (by omega)) (hq 9 (by omega)), h13.cg (hM 12 (by omega)) (fun k _ _ => hN k (by omega)) (hq 33 (by omega)) h5.2.2.2.2.2.1.2.2 (hq 9 (by omega)), h6.cg (hM 14 (by omega)) (fun k _ _ => hN k (by omega)) (fun k _ _ => hq k (by omega)), h7.cg (hM 15 (by omega)) (hM 16 (by omega)) (hM 17 (by omega)) (hM 18 (by omega)) (hM 19 (by omega)) ⟨hN 36 (by omega), hq 36 (by omega)⟩ (fun k _ _ => hN k (by omega)) (fun k _ _ => hq k (by omega)), h8.cg (hM 5 (by omega)) (hM 6 (by omega)) (hM 7 (by omega)) (congrFun (hM 1 (by omega)) 6) (fun k _ _ => hN k (by omega)) (fun k _ _ => hq k (by omega)) (fun k _ => hq k (by omega)) (fun k _ _ => hq k (by omega)), h9.cg (hM 21 (by omega)) (hM 22 (by omega)) (hM 23 (by omega)) (hM 24 (by omega)) (hM 25 (by omega)) (fun k _ _ => hN k (by omega)) (fun k _ _ => hq k (by omega)), h10.cg (hM 28 (by omega)) (fun k _ _ => hN k (by omega)), h11.cg (hM 26 (by omega)) (fun k _ _ => hN k (by omega)), h12.cg (hM 27 (by omega)) (fun k _ _ => hN k (by omega))⟩
theorem RR.sig {M N : ST} {q : Nat → Nat} (h : RR M N q) {n : Nat} (hn : n < 512) (v : Int32) : RR (x_st M 28 n v) (x_st N 1 (220 + n) v) q := by
  obtain ⟨h1, h2, h3, h4, h5, h13, h6, h7, h8, h9, h10, h11, h12⟩ := h
  have hM : ∀ i, i ≠ 28 → x_st M 28 n v i = M i := fun i hi => x_st_row _ _ _ _ hi
  have hN : ∀ k, k < 220 ∨ 732 ≤ k → x_st N 1 (220 + n) v 1 k = N 1 k := fun k hk => x_st_col _ _ _ _ (by omega) _
  have hq : ∀ k, k < 0 ∨ 0 ≤ k → q k = q k := fun k _ => rfl
  have h10' : P10 (x_st M 28 n v) (x_st N 1 (220 + n) v) := fun j hj => by
    by_cases e : j = n
    · subst e; rw [x_st_at, x_st_at]
    · rw [x_st_col _ _ _ _ e, x_st_col _ _ _ _ (by omega)]; exact h10 j hj
  exact ⟨h1.cg (hM 2 (by omega)) (hM 3 (by omega)) (hM 4 (by omega)) (fun k _ => hN k (by omega)) (fun k _ => hq k (by omega)), h2.cg (hM 8 (by omega)) (hM 9 (by omega)) (hM 10 (by omega)) (fun k _ _ => hN k (by omega)) (fun k _ _ => hq k (by omega)), h3.cg ⟨congrFun (hM 1 (by omega)) 3, congrFun (hM 1 (by omega)) 4, congrFun (hM 1 (by omega)) 5⟩ ⟨hN 20 (by omega), hN 21 (by omega), hN 22 (by omega)⟩ (fun k _ => hq k (by omega)) (fun k _ _ => hq k (by omega)), h4.cg (hM 0 (by omega)) ⟨hN 23 (by omega), hN 25 (by omega), hN 27 (by omega), hN 28 (by omega)⟩ ⟨hq 23 (by omega), hq 27 (by omega)⟩, h5.cg (hM 11 (by omega)) (fun k _ _ _ _ _ => hN k (by omega)) (fun k _ _ => hq k (by omega)) (hq 9 (by omega)), h13.cg (hM 12 (by omega)) (fun k _ _ => hN k (by omega)) (hq 33 (by omega)) h5.2.2.2.2.2.1.2.2 (hq 9 (by omega)), h6.cg (hM 14 (by omega)) (fun k _ _ => hN k (by omega)) (fun k _ _ => hq k (by omega)), h7.cg (hM 15 (by omega)) (hM 16 (by omega)) (hM 17 (by omega)) (hM 18 (by omega)) (hM 19 (by omega)) ⟨hN 36 (by omega), hq 36 (by omega)⟩ (fun k _ _ => hN k (by omega)) (fun k _ _ => hq k (by omega)), h8.cg (hM 5 (by omega)) (hM 6 (by omega)) (hM 7 (by omega)) (congrFun (hM 1 (by omega)) 6) (fun k _ _ => hN k (by omega)) (fun k _ _ => hq k (by omega)) (fun k _ => hq k (by omega)) (fun k _ _ => hq k (by omega)), h9.cg (hM 21 (by omega)) (hM 22 (by omega)) (hM 23 (by omega)) (hM 24 (by omega)) (hM 25 (by omega)) (fun k _ _ => hN k (by omega)) (fun k _ _ => hq k (by omega)), h10', h11.cg (hM 26 (by omega)) (fun k _ _ => hN k (by omega)), h12.cg (hM 27 (by omega)) (fun k _ _ => hN k (by omega))⟩
def tS (M : ST) (post : ST → Prop) : Prop := v_X0_signalsHere (x_sh M 1) (fun r_9 => ∃ k_10 : Nat, k_10 < 512 ∧ ((M 0 10) - (M 0 10) / 512 * 512) = nI k_10 ∧ ∀ M_11 : ST, M_11 = x_st M 28 k_10 r_9 → ∀ M_12 : ST, M_12 = x_st M_11 0 10 ((M_11 0 10) + 1) → v_X0_goOn (x_sh M_12 1) (fun (u_13 : ST) => ∀ M_14 : ST, M_14 = x_wb M_12 1 10 u_13 → post M_14))
def tB (M : ST) (post : ST → Prop) : Prop := v_X0_isOnDot (x_sh M 1) (fun r_7 => (((r_7 = 0) → tS M post) ∧ ((¬ (r_7 = 0)) → v_X3_makeDot M (fun (u_15 : ST) => tS u_15 post))))
def tA (M : ST) (post : ST → Prop) : Prop := v_X2_wantsByte (x_sh M 11) (fun r_5 => (((r_5 = 0) → tB M post) ∧ ((¬ (r_5 = 0)) → v_X3_isTaken M (fun r_22 => (((¬ (r_22 = 0)) → tB M post) ∧ ((r_22 = 0) → v_X3_fetchByte M (fun (u_39 : ST) => tB u_39 post)))))))
theorem tick_C (M : ST) (post : ST → Prop) : v_X3_tick M post = v_X1_apply (x_sh M 15) (x_sh M 13) (M 1 4) (M 1 3) (fun (u_1 : ST) => ∀ M_2 : ST, M_2 = x_wb M 13 2 u_1 → v_X0_isBehindSeen (x_sh M_2 1) (fun r_3 => (((r_3 = 0) → tA M_2 post) ∧ ((¬ (r_3 = 0)) → v_X3_turnToNextLine M_2 (fun (u_55 : ST) => tA u_55 post))))) := rfl
def uS (M : ST) (post : ST → Prop) : Prop := v_X9_signalsNow M (fun r_7 => ∃ k_8 : Nat, k_8 < 23520 ∧ (220 + ((M 1 23) - (M 1 23) / 512 * 512)) = nI k_8 ∧ ∀ M_9 : ST, M_9 = x_st M 1 k_8 r_7 → v_X9_goesOn M_9 (fun (u_10 : ST) => ∀ M_11 : ST, M_11 = x_st u_10 1 23 ((u_10 1 23) + 1) → post M_11))
def uA (M : ST) (post : ST → Prop) : Prop := v_X9_fetches M (fun (u_5 : ST) => ((((u_5 1 0) ≤ (u_5 1 20)) → uS u_5 post) ∧ ((¬ ((u_5 1 0) ≤ (u_5 1 20))) → ((((u_5 1 4) ≤ (u_5 1 21)) → uS u_5 post) ∧ ((¬ ((u_5 1 4) ≤ (u_5 1 21))) → v_X9_dots u_5 (fun (u_18 : ST) => uS u_18 post))))))
theorem tick_M (M : ST) (post : ST → Prop) : v_X9_aTick M post = (∃ n_60 : Nat, lp_X9_aTick_2 post (fun (y_2 : Int32) (M_3 : ST) => (((¬ ((M_3 1 20) = (M_3 1 0))) → uA M_3 post) ∧ (((M_3 1 20) = (M_3 1 0)) → v_X9_begins M_3 (fun (u_24 : ST) => uA u_24 post)))) n_60 0 M) := rfl
theorem ph_end {M N : ST} {q : Nat → Nat} (h : RR M N q) (hx8 : P8x M N q) (ht : q 23 < 1000000) : ∃ (M' N' : ST) (q' : Nat → Nat), (∀ post : ST → Prop, post M' → tS M post) ∧ (∀ post : ST → Prop, post N' → uS N post) ∧ RR M' N' q' ∧ keep N N' ∧ q' 23 = q 23 + 1 := by
  obtain ⟨⟨t1, t2, t3⟩, -⟩ := id h.2.2.2.1
  have hm : q 23 % 512 < 512 := Nat.mod_lt _ (by decide)
  have em : (nI (q 23) - nI (q 23) / 512 * 512 : Int32) = nI (q 23 % 512) := by rw [lit_nI 512, pk_rem (by omega) (by decide) (by decide)]
  have hs := h.sig hm (sg q)
  have f : Fr M N q (x_st M 28 (q 23 % 512) (sg q)) (x_st N 1 (220 + q 23 % 512) (sg q)) q := ⟨fun i _ _ => x_st_row _ _ _ _ (by omega), fun k _ => x_st_col _ _ _ _ (by omega) _, fun k _ _ => x_st_col _ _ _ _ (by omega) _, fun _ _ _ => rfl, fun _ _ _ => rfl⟩
  obtain ⟨M1, N1, q1, a1, a2, a3, a4, a5, a6⟩ := ph_go hs (hx8.cg f)
  have e23 : N1 1 23 = nI (q 23) := by rw [a5, x_st_col _ _ _ _ (by omega)]; exact t2
  have h' := a3.tick (by rw [a6]; exact ht)
  rw [a6] at h'
  refine ⟨x_st M1 0 10 (nI (q 23 + 1)), x_st N1 1 23 (nI (q 23 + 1)), _, fun post hp => ?_, fun post hp => ?_, h', ((keep.rf.st (by omega)).tr a4).tr (keep.rf.st (by decide)), if_pos rfl⟩
  · unfold tS
    refine s_sigC h.1 h.2.2.1 _ ?_
    rw [t1]
    refine ⟨q 23 % 512, hm, em, ?_⟩
    rintro M11 rfl
    rintro M12 rfl
    have e10 : x_st M 28 (q 23 % 512) (sg q) 0 10 = nI (q 23) := by rw [x_st_row _ _ _ _ (by decide)]; exact t1
    rw [e10, nI_1]
    have sh1 : x_sh (x_st (x_st M 28 (q 23 % 512) (sg q)) 0 10 (nI (q 23 + 1))) 1 = x_sh (x_st M 28 (q 23 % 512) (sg q)) 1 := by funext i; exact x_st_row _ _ _ _ (by omega)
    rw [sh1]
    have key := a1 (fun Z => post (x_st Z 0 10 (nI (q 23 + 1)))) hp
    have wbc : ∀ u : ST, x_wb (x_st (x_st M 28 (q 23 % 512) (sg q)) 0 10 (nI (q 23 + 1))) 1 10 u = x_st (x_wb (x_st M 28 (q 23 % 512) (sg q)) 1 10 u) 0 10 (nI (q 23 + 1)) := fun u => by
      funext i
      by_cases e : i = 0
      · subst e; simp [x_wb, x_st]
      · rw [x_st_row _ _ _ _ e]
        unfold x_wb
        rw [if_neg (show ¬ i < 1 by omega), if_neg (show ¬ i < 1 by omega)]
        by_cases h2 : i < 1 + 10
        · rw [if_pos h2, if_pos h2]
        · rw [if_neg h2, if_neg h2, x_st_row _ _ _ _ e]
    have eqp : (fun (u_13 : ST) => ∀ M_14 : ST, M_14 = x_wb (x_st (x_st M 28 (q 23 % 512) (sg q)) 0 10 (nI (q 23 + 1))) 1 10 u_13 → post M_14) = (fun u => ∀ M2 : ST, M2 = x_wb (x_st M 28 (q 23 % 512) (sg q)) 1 10 u → post (x_st M2 0 10 (nI (q 23 + 1)))) := by
      funext u
      rw [wbc u]
      exact propext ⟨fun hz M2 e => hz _ (by rw [e]), fun hz M14 e => by rw [e]; exact hz _ rfl⟩
    rw [eqp]
    exact key
  · unfold uS
    refine s_sigM h.1 h.2.2.1 _ ?_
    rw [t2]
    refine ⟨220 + q 23 % 512, by omega, by rw [em, lit_nI 220, nI_add], ?_⟩
    rintro M9 rfl
    refine a2 _ ?_
    rintro M11 rfl
    rw [e23, nI_1]
    exact hp
theorem sim_tick {M N : ST} {q : Nat → Nat} (h : RR M N q) (ht : q 23 < 1000000) : ∃ (M' N' : ST) (q' : Nat → Nat), (∀ post : ST → Prop, post M' → v_X3_tick M post) ∧ (∀ post : ST → Prop, post N' → v_X9_aTick N post) ∧ RR M' N' q' ∧ keep N N' ∧ q' 23 = q 23 + 1 := by
  obtain ⟨M1, N1, q1, a1, a2, a3, a4, a5⟩ := ph_apply h
  have x23 : ∀ {M N : ST} {q : Nat → Nat}, RR M N q → M 1 3 = nI (q 20) ∧ N 1 20 = nI (q 20) ∧ M 3 0 = nI (q 0) ∧ N 1 0 = nI (q 0) ∧ q 20 < 1000 ∧ q 0 < 1000 ∧ N 1 21 = nI (q 21) ∧ N 1 4 = nI (q 4) ∧ q 21 < 1000 ∧ q 4 < 1000 := fun {M N q} h => by
    obtain ⟨⟨z1, z2, z3⟩, ⟨z4, z5, z6⟩, -⟩ := id h.2.2.1
    have ho := h.1.2.2
    simp only [modeOK, Nat.zero_add] at ho
    have w0 : N 1 0 = nI (q 0) := h.1.2.1 0 (by omega)
    have w4 : N 1 4 = nI (q 4) := h.1.2.1 4 (by omega)
    exact ⟨z1, z2, h.1.1.1.1, w0, by omega, by omega, z5, w4, by omega, by omega⟩
  obtain ⟨u1, u2, u3, u4, u5, u6, -⟩ := x23 a3
  have tk1 : q1 23 = q 23 := a5 23 (by omega)
  -- the part behind the entries and the line's turn
  have rest : ∀ {M N : ST} {q : Nat → Nat}, RR M N q → P8x M N q → q 23 < 1000000 → ∃ (M' N' : ST) (q' : Nat → Nat), (∀ post : ST → Prop, post M' → tA M post) ∧ (∀ post : ST → Prop, post N' → uA N post) ∧ RR M' N' q' ∧ keep N N' ∧ q' 23 = q 23 + 1 := by
    intro M N q h hx8 ht
    obtain ⟨M2, N2, q2, ⟨b1, b2, b3, b4⟩, b5⟩ := ph_fetch h
    have t2 : q2 23 = q 23 := b4.2.2.2.1 23 (by omega) (by omega)
    obtain ⟨v1, v2, v3, v4, v5, v6, v7, v8, v9, v10⟩ := x23 b2
    have p2 := hx8.cg b4
    have mid : ∃ (M' N' : ST) (q' : Nat → Nat), (∀ post : ST → Prop, post M' → tB M2 post) ∧ (∀ post : ST → Prop, post N' → ((((N2 1 0) ≤ (N2 1 20)) → uS N2 post) ∧ ((¬ ((N2 1 0) ≤ (N2 1 20))) → ((((N2 1 4) ≤ (N2 1 21)) → uS N2 post) ∧ ((¬ ((N2 1 4) ≤ (N2 1 21))) → v_X9_dots N2 (fun (u_18 : ST) => uS u_18 post)))))) ∧ RR M' N' q' ∧ keep N2 N' ∧ q' 23 = q 23 + 1 := by
      by_cases hd : q2 20 < q2 0 ∧ q2 21 < q2 4
      · obtain ⟨M3, N3, q3, c1, c2, c3, c4, c5⟩ := ph_dot b2 hd.1 hd.2
        have t3 : q3 23 = q2 23 := c5.2.2.2.1 23 (by omega) (by omega)
        obtain ⟨M4, N4, q4, d1, d2, d3, d4, d5⟩ := ph_end c3 (p2.cg c5) (by omega)
        refine ⟨M4, N4, q4, fun post hp => ?_, fun post hp => ?_, d3, c4.tr d4, by omega⟩
        · unfold tB
          refine s_onDot b2.1 b2.2.2.1 _ ?_
          rw [if_pos hd]
          exact ⟨fun z => absurd z one_ne, fun _ => c1 _ (d1 post hp)⟩
        · rw [v4, v2, v8, v7]
          exact ⟨fun z => absurd ((nI_leI (by omega) (by omega)).mp z) (by omega), fun _ => ⟨fun z => absurd ((nI_leI (by omega) (by omega)).mp z) (by omega), fun _ => c2 _ (d2 post hp)⟩⟩
      · obtain ⟨M4, N4, q4, d1, d2, d3, d4, d5⟩ := ph_end b2 p2 (by omega)
        refine ⟨M4, N4, q4, fun post hp => ?_, fun post hp => ?_, d3, d4, by omega⟩
        · unfold tB
          refine s_onDot b2.1 b2.2.2.1 _ ?_
          rw [if_neg hd]
          exact ⟨fun _ => d1 post hp, fun z => absurd rfl z⟩
        · rw [v4, v2, v8, v7]
          refine ⟨fun _ => d2 post hp, fun z => ⟨fun _ => d2 post hp, fun z2 => ?_⟩⟩
          exact absurd ⟨by rcases Nat.lt_or_ge (q2 20) (q2 0) with w | w; exact w; exact absurd (nI_le w (by omega)) z, by rcases Nat.lt_or_ge (q2 21) (q2 4) with w | w; exact w; exact absurd (nI_le w (by omega)) z2⟩ hd
    obtain ⟨M', N', q', e1, e2, e3, e4, e5⟩ := mid
    refine ⟨M', N', q', fun post hp => ?_, fun post hp => ?_, e3, b3.tr e4, e5⟩
    · unfold tA
      have hB := e1 post hp
      rcases b5 with ⟨e, w⟩ | ⟨w, ⟨e, htk⟩ | ⟨htk, fb⟩⟩
      · rw [e] at hB
        exact w _ ⟨fun _ => hB, fun z => absurd rfl z⟩
      · rw [e] at hB
        refine w _ ⟨fun z => absurd z one_ne, fun _ => s_takenC h.2.2.2.1 _ ?_⟩
        rw [htk]
        exact ⟨fun _ => hB, fun z => absurd z one_ne⟩
      · refine w _ ⟨fun z => absurd z one_ne, fun _ => s_takenC h.2.2.2.1 _ ?_⟩
        rw [htk]
        exact ⟨fun z => absurd rfl z, fun _ => fb _ hB⟩
    · unfold uA
      exact b1 _ (e2 post hp)
  have bs : ∀ post : Int32 → Prop, post (if q1 20 = q1 0 then 1 else 0) → v_X0_isBehindSeen (x_sh M1 1) post := fun post hp => by
    unfold v_X0_isBehindSeen
    rw [show x_sh M1 1 0 3 = nI (q1 20) from u1, show x_sh M1 1 2 0 = nI (q1 0) from u3]
    refine ⟨fun z => ?_, fun z => ?_⟩
    · rw [if_neg (fun w => z (by rw [w]))] at hp; exact hp
    · rw [if_pos (nI_inj (by omega) (by omega) z)] at hp; exact hp
  by_cases hb : q1 20 = q1 0
  · obtain ⟨M2, N2, q2, b1, b2, b3, b4, b5, b6⟩ := ph_begin a3 hb
    obtain ⟨u1', u2', u3', u4', u5', u6', -⟩ := x23 b3
    have l1 := (b3.2.2.2.1).1.2.2
    have t2 : q2 23 = q1 23 := b6 23 (by omega)
    obtain ⟨M', N', q', c1, c2, c3, c4, c5⟩ := rest b3 b5 (by omega)
    refine ⟨M', N', q', fun post hp => ?_, fun post hp => ?_, c3, (a4.tr b4).tr c4, by omega⟩
    · rw [tick_C]
      refine a1 _ ?_
      rintro M2 rfl
      refine bs _ ?_
      rw [if_pos hb]
      exact ⟨fun z => absurd z one_ne, fun _ => b1 _ (c1 post hp)⟩
    · rw [tick_M]
      refine a2 _ _ (fun _ => ?_)
      rw [u2, u4]
      exact ⟨fun z => absurd (by rw [hb]) z, fun _ => b2 _ (c2 post hp)⟩
  · have p8 : P8x M1 N1 q1 := fun z1 z2 => (a3.2.2.2.2.2.2.2.2.1).2 z1 (by omega)
    obtain ⟨M', N', q', c1, c2, c3, c4, c5⟩ := rest a3 p8 (by omega)
    refine ⟨M', N', q', fun post hp => ?_, fun post hp => ?_, c3, a4.tr c4, by omega⟩
    · rw [tick_C]
      refine a1 _ ?_
      rintro M2 rfl
      refine bs _ ?_
      rw [if_neg hb]
      exact ⟨fun _ => c1 post hp, fun z => absurd rfl z⟩
    · rw [tick_M]
      refine a2 _ _ (fun _ => ?_)
      rw [u2, u4]
      exact ⟨fun _ => c2 post hp, fun z => absurd (nI_inj (by omega) (by omega) z) hb⟩
