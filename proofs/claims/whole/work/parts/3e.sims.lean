theorem nfl_le {q : Nat → Nat} (h : q 22 ≤ 1) : nfl q ≤ 1 := by unfold nfl; split <;> omega
theorem ph_go {M N : ST} {q : Nat → Nat} (h : RR M N q) (hx8 : P8x M N q) : ∃ (M' N' : ST) (q' : Nat → Nat), (∀ post : ST → Prop, post M' → v_X0_goOn (x_sh M 1) (fun u => ∀ M2 : ST, M2 = x_wb M 1 10 u → post M2)) ∧ (∀ post : ST → Prop, post N' → v_X9_goesOn N post) ∧ RR M' N' q' ∧ keep N N' ∧ N' 1 23 = N 1 23 ∧ q' 23 = q 23 := by
  have hh := h
  obtain ⟨h1, h2, h3, h4, h5, h13, h6, h7, h8, h9, h10, h11, h12⟩ := h
  obtain ⟨⟨⟨a1, a2, a3, a4⟩, ⟨b1, b2, b3, b4⟩, c1⟩, hi, ho⟩ := id h1
  obtain ⟨⟨x1, x2, x3⟩, ⟨y1, y2, y3⟩, ⟨f1, f2, f3⟩⟩ := id h3
  simp only [modeOK, Nat.zero_add] at ho
  have g : ∀ k, k < 9 → N 1 k = nI (q k) := fun k hk => by have := hi k hk; rwa [Nat.zero_add] at this
  have B3 : x_sh M 1 0 3 = nI (q 20) := x1
  have B4 : x_sh M 1 0 4 = nI (q 21) := y1
  -- the first step, both sides
  have lenC : ∀ (F : ST) (post : Int32 → Prop), F 2 = M 3 → post (nI (q 0 + q 1 + q 2 + q 3)) → v_X6_whole (x_sh F 2) post := fun F post e hp => s_whole _ (q 0) (q 1) (q 2) (q 3) (by show F 2 0 = _; rw [e]; exact a1) (by show F 2 1 = _; rw [e]; exact a2) (by show F 2 2 = _; rw [e]; exact a3) (by show F 2 3 = _; rw [e]; exact a4) post hp
  have linC : ∀ (F : ST) (post : Int32 → Prop), F 3 = M 4 → post (nI (q 4 + q 5 + q 6 + q 7)) → v_X6_whole (x_sh F 3) post := fun F post e hp => s_whole _ (q 4) (q 5) (q 6) (q 7) (by show F 3 0 = _; rw [e]; exact b1) (by show F 3 1 = _; rw [e]; exact b2) (by show F 3 2 = _; rw [e]; exact b3) (by show F 3 3 = _; rw [e]; exact b4) post hp
  have lenM : ∀ (F : ST) (post : Int32 → Prop), (∀ k, k < 9 → F 1 k = N 1 k) → post (nI (q 0 + q 1 + q 2 + q 3)) → v_X9_ticksOf F 0 post := fun F post e hp => by
    refine s_ticksOf F (b := 0) (by decide) post ?_
    rw [e 0 (by omega), e (0 + 1) (by omega), e (0 + 2) (by omega), e (0 + 3) (by omega), g 0 (by omega), g (0 + 1) (by omega), g (0 + 2) (by omega), g (0 + 3) (by omega), nI_add, nI_add, nI_add]; exact hp
  have linM : ∀ (F : ST) (post : Int32 → Prop), (∀ k, k < 9 → F 1 k = N 1 k) → post (nI (q 4 + q 5 + q 6 + q 7)) → v_X9_linesOf F 0 post := fun F post e hp => by
    refine s_linesOf F (b := 0) (by decide) post ?_
    rw [e (0 + 4) (by omega), e (0 + 5) (by omega), e (0 + 6) (by omega), e (0 + 7) (by omega), g (0 + 4) (by omega), g (0 + 5) (by omega), g (0 + 6) (by omega), g (0 + 7) (by omega), nI_add, nI_add, nI_add]; exact hp
  by_cases hA : q 20 + 1 < q 0 + q 1 + q 2 + q 3
  · -- within the line
    let M' := x_st M 1 3 (nI (q 20 + 1))
    let N' := x_st N 1 20 (nI (q 20 + 1))
    let q' := fun k => if k = 20 then q 20 + 1 else q k
    have hM : ∀ i, i ≠ 1 → M' i = M i := fun i z => x_st_row _ _ _ _ z
    have hN : ∀ k, k ≠ 20 → N' 1 k = N 1 k := fun k z => x_st_col _ _ _ _ z _
    have hq : ∀ k, k ≠ 20 → q' k = q k := fun k z => if_neg z
    have m1 : ∀ j, j ≠ 3 → M' 1 j = M 1 j := fun j z => x_st_col _ _ _ _ z _
    have h3' : P3 M' N' q' := ⟨⟨by show x_st M 1 3 (nI (q 20 + 1)) 1 3 = nI (q 20 + 1); rw [x_st_at], by show x_st N 1 20 (nI (q 20 + 1)) 1 20 = nI (q 20 + 1); rw [x_st_at], hA⟩, ⟨by rw [m1 4 (by decide), hq 21 (by decide)]; exact y1, by rw [hN 21 (by decide), hq 21 (by decide)]; exact y2, y3⟩, ⟨by rw [m1 5 (by decide), hq 22 (by decide)]; exact f1, by rw [hN 22 (by decide), hq 22 (by decide)]; exact f2, f3⟩⟩
    have h8' : P8 M' N' q' := by
      refine ⟨by rw [hM 5 (by decide)]; exact h8.1, fun e1 e2 => ?_⟩
      have e1 : q 21 + 1 = q 4 + q 5 + q 6 + q 7 := e1
      have e2 : q 0 < q 20 + 1 := e2
      obtain ⟨p1, p2, p3, p4⟩ := hx8 e1 (by omega)
      refine ⟨p1.cg (by rw [hM 5 (by decide)]) (fun j _ => by rw [hM (5 + 1) (by decide)]) (fun j _ => by rw [hM (5 + 2) (by decide)]) (fun k hk => hq (5870 + k) (by omega)), p2.cg (fun k hk => hN (5870 + k) (by omega)) (fun k hk => hq (5870 + k) (by omega)), p3.cg (fun k hk => hq (5870 + k) (by omega)), ?_⟩
      rw [m1 6 (by decide)]
      exact p4
    refine ⟨M', N', q', fun post hp => ?_, fun post hp => ?_, ⟨h1.cg (hM 2 (by omega)) (hM 3 (by omega)) (hM 4 (by omega)) (fun k _ => hN k (by omega)) (fun k _ => hq k (by omega)), h2.cg (hM 8 (by omega)) (hM 9 (by omega)) (hM 10 (by omega)) (fun k _ _ => hN k (by omega)) (fun k _ _ => hq k (by omega)), h3', h4.cg (hM 0 (by omega)) ⟨hN 23 (by omega), hN 25 (by omega), hN 27 (by omega), hN 28 (by omega)⟩ ⟨hq 23 (by omega), hq 27 (by omega)⟩, h5.cg (hM 11 (by omega)) (fun k _ _ _ _ _ => hN k (by omega)) (fun k _ _ => hq k (by omega)) (hq 9 (by omega)), h13.cg (hM 12 (by omega)) (fun k _ _ => hN k (by omega)) (hq 33 (by omega)) h5.2.2.2.2.2.1.2.2 (hq 9 (by omega)), h6.cg (hM 14 (by omega)) (fun k _ _ => hN k (by omega)) (fun k _ _ => hq k (by omega)), h7.cg (hM 15 (by omega)) (hM 16 (by omega)) (hM 17 (by omega)) (hM 18 (by omega)) (hM 19 (by omega)) ⟨hN 36 (by omega), hq 36 (by omega)⟩ (fun k _ _ => hN k (by omega)) (fun k _ _ => hq k (by omega)), h8', h9.cg (hM 21 (by omega)) (hM 22 (by omega)) (hM 23 (by omega)) (hM 24 (by omega)) (hM 25 (by omega)) (fun k _ _ => hN k (by omega)) (fun k _ _ => hq k (by omega)), h10.cg (hM 28 (by omega)) (fun k _ _ => hN k (by omega)), h11.cg (hM 26 (by omega)) (fun k _ _ => hN k (by omega)), h12.cg (hM 27 (by omega)) (fun k _ _ => hN k (by omega))⟩, keep.rf.st (by decide), hN 23 (by decide), rfl⟩
    · unfold v_X0_goOn
      rintro Z1 rfl
      rw [B3, nI_1]
      refine lenC _ _ (x_st_row _ _ _ _ (by decide)) ?_
      rw [x_st_at]
      refine ⟨fun z => absurd z (nI_ge hA (by omega)), fun _ => ?_⟩
      rintro M2 rfl
      rw [x_wb_st _ _ _ _ _ _ _ (show 0 < 10 by decide), x_wb_sh]
      exact hp
    · unfold v_X9_goesOn
      rintro Z1 rfl
      rw [x2, nI_1]
      refine lenM _ _ (fun k hk => x_st_col _ _ _ _ (by omega) _) ?_
      rw [x_st_at]
      exact ⟨fun z => absurd z (nI_ge hA (by omega)), fun _ => hp⟩
  · have hL : nI (q 0 + q 1 + q 2 + q 3) ≤ nI (q 20 + 1) := nI_le (by omega) (by omega)
    by_cases hB : q 21 + 1 < q 4 + q 5 + q 6 + q 7
    · -- the next line
      let M' := x_st (x_st (x_st M 1 3 (nI (q 20 + 1))) 1 3 0) 1 4 (nI (q 21 + 1))
      let N' := x_st (x_st (x_st N 1 20 (nI (q 20 + 1))) 1 20 0) 1 21 (nI (q 21 + 1))
      let q' := fun k => if k = 20 then 0 else if k = 21 then q 21 + 1 else q k
      have hM : ∀ i, i ≠ 1 → M' i = M i := fun i z => by
        show x_st (x_st (x_st M 1 3 (nI (q 20 + 1))) 1 3 0) 1 4 (nI (q 21 + 1)) i = M i
        rw [x_st_row _ _ _ _ z, x_st_row _ _ _ _ z, x_st_row _ _ _ _ z]
      have hN : ∀ k, k ≠ 20 ∧ k ≠ 21 → N' 1 k = N 1 k := fun k z => by
        show x_st (x_st (x_st N 1 20 (nI (q 20 + 1))) 1 20 0) 1 21 (nI (q 21 + 1)) 1 k = N 1 k
        rw [x_st_col _ _ _ _ z.2, x_st_col _ _ _ _ z.1, x_st_col _ _ _ _ z.1]
      have hq : ∀ k, k ≠ 20 ∧ k ≠ 21 → q' k = q k := fun k z => by
        show (if k = 20 then 0 else if k = 21 then q 21 + 1 else q k) = q k
        rw [if_neg z.1, if_neg z.2]
      have h3' : P3 M' N' q' := ⟨⟨by show x_st (x_st (x_st M 1 3 (nI (q 20 + 1))) 1 3 0) 1 4 (nI (q 21 + 1)) 1 3 = nI 0; rw [x_st_col _ _ _ _ (by decide), x_st_at]; rfl, by show x_st (x_st (x_st N 1 20 (nI (q 20 + 1))) 1 20 0) 1 21 (nI (q 21 + 1)) 1 20 = nI 0; rw [x_st_col _ _ _ _ (by decide), x_st_at]; rfl, by show 0 < q 0 + q 1 + q 2 + q 3; omega⟩, ⟨by show x_st (x_st (x_st M 1 3 (nI (q 20 + 1))) 1 3 0) 1 4 (nI (q 21 + 1)) 1 4 = nI (q 21 + 1); rw [x_st_at], by show x_st (x_st (x_st N 1 20 (nI (q 20 + 1))) 1 20 0) 1 21 (nI (q 21 + 1)) 1 21 = nI (q 21 + 1); rw [x_st_at], hB⟩, ⟨by show x_st (x_st (x_st M 1 3 (nI (q 20 + 1))) 1 3 0) 1 4 (nI (q 21 + 1)) 1 5 = nI (q 22); rw [x_st_col _ _ _ _ (by decide), x_st_col _ _ _ _ (by decide), x_st_col _ _ _ _ (by decide)]; exact f1, by rw [hN 22 (by decide)]; exact f2, f3⟩⟩
      have h8' : P8 M' N' q' := ⟨by rw [hM 5 (by decide)]; exact h8.1, fun _ e2 => by have e2 : q 0 < 0 := e2; omega⟩
      refine ⟨M', N', q', fun post hp => ?_, fun post hp => ?_, ⟨h1.cg (hM 2 (by omega)) (hM 3 (by omega)) (hM 4 (by omega)) (fun k _ => hN k (by omega)) (fun k _ => hq k (by omega)), h2.cg (hM 8 (by omega)) (hM 9 (by omega)) (hM 10 (by omega)) (fun k _ _ => hN k (by omega)) (fun k _ _ => hq k (by omega)), h3', h4.cg (hM 0 (by omega)) ⟨hN 23 (by omega), hN 25 (by omega), hN 27 (by omega), hN 28 (by omega)⟩ ⟨hq 23 (by omega), hq 27 (by omega)⟩, h5.cg (hM 11 (by omega)) (fun k _ _ _ _ _ => hN k (by omega)) (fun k _ _ => hq k (by omega)) (hq 9 (by omega)), h13.cg (hM 12 (by omega)) (fun k _ _ => hN k (by omega)) (hq 33 (by omega)) h5.2.2.2.2.2.1.2.2 (hq 9 (by omega)), h6.cg (hM 14 (by omega)) (fun k _ _ => hN k (by omega)) (fun k _ _ => hq k (by omega)), h7.cg (hM 15 (by omega)) (hM 16 (by omega)) (hM 17 (by omega)) (hM 18 (by omega)) (hM 19 (by omega)) ⟨hN 36 (by omega), hq 36 (by omega)⟩ (fun k _ _ => hN k (by omega)) (fun k _ _ => hq k (by omega)), h8', h9.cg (hM 21 (by omega)) (hM 22 (by omega)) (hM 23 (by omega)) (hM 24 (by omega)) (hM 25 (by omega)) (fun k _ _ => hN k (by omega)) (fun k _ _ => hq k (by omega)), h10.cg (hM 28 (by omega)) (fun k _ _ => hN k (by omega)), h11.cg (hM 26 (by omega)) (fun k _ _ => hN k (by omega)), h12.cg (hM 27 (by omega)) (fun k _ _ => hN k (by omega))⟩, ((keep.rf.st (by decide)).st (by decide)).st (by decide), hN 23 (by decide), rfl⟩
      · unfold v_X0_goOn
        rintro Z1 rfl
        rw [B3, nI_1]
        refine lenC _ _ (x_st_row _ _ _ _ (by decide)) ?_
        rw [x_st_at]
        refine ⟨fun _ => ?_, fun z => absurd hL z⟩
        rintro Z4 rfl
        rintro Z5 rfl
        have e4 : x_st (x_st (x_sh M 1) 0 3 (nI (q 20 + 1))) 0 3 0 0 4 = nI (q 21) := by rw [x_st_col _ _ _ _ (by decide), x_st_col _ _ _ _ (by decide)]; exact B4
        rw [e4, nI_1]
        refine linC _ _ (by rw [x_st_row _ _ _ _ (by decide), x_st_row _ _ _ _ (by decide), x_st_row _ _ _ _ (by decide)]; rfl) ?_
        rw [x_st_at]
        refine ⟨fun z => absurd z (nI_ge hB (by omega)), fun _ => ?_⟩
        rintro M2 rfl
        rw [x_wb_st _ _ _ _ _ _ _ (show 0 < 10 by decide), x_wb_st _ _ _ _ _ _ _ (show 0 < 10 by decide), x_wb_st _ _ _ _ _ _ _ (show 0 < 10 by decide), x_wb_sh]
        exact hp
      · unfold v_X9_goesOn
        rintro Z1 rfl
        rw [x2, nI_1]
        refine lenM _ _ (fun k hk => x_st_col _ _ _ _ (by omega) _) ?_
        rw [x_st_at]
        refine ⟨fun _ => ?_, fun z => absurd hL z⟩
        rintro Z4 rfl
        rintro Z5 rfl
        have e4 : x_st (x_st N 1 20 (nI (q 20 + 1))) 1 20 0 1 21 = nI (q 21) := by rw [x_st_col _ _ _ _ (by decide), x_st_col _ _ _ _ (by decide)]; exact y2
        rw [e4, nI_1]
        refine linM _ _ (fun k hk => by rw [x_st_col _ _ _ _ (by omega), x_st_col _ _ _ _ (by omega), x_st_col _ _ _ _ (by omega)]) ?_
        rw [x_st_at]
        exact ⟨fun z => absurd z (nI_ge hB (by omega)), fun _ => hp⟩
    · -- the next field
      have hY : nI (q 4 + q 5 + q 6 + q 7) ≤ nI (q 21 + 1) := nI_le (by omega) (by omega)
      obtain ⟨p1, p2, p3, p4⟩ := hx8 (by omega) (by omega)
      have nf1 : nfl q ≤ 1 := nfl_le f3
      have t78 : N 1 5878 = nI (q 5878) := p2 8 (by omega)
      have p3' := p3
      simp only [modeOK, Nat.reduceAdd] at p3'
      let Mx := x_st (x_st (x_st (x_st (x_st M 1 3 (nI (q 20 + 1))) 1 3 0) 1 4 (nI (q 21 + 1))) 1 4 0) 1 5 (nI (nfl q))
      let M' := mcpM Mx 2 (M 6 0) (M 6 1) (M 6 2) (M 6 3) (M 7 0) (M 7 1) (M 7 2) (M 7 3) (M 5 2)
      let Nx := x_st (x_st (x_st (x_st (x_st N 1 20 (nI (q 20 + 1))) 1 20 0) 1 21 (nI (q 21 + 1))) 1 21 0) 1 22 (nI (nfl q))
      obtain ⟨N', n1, n2, n3, n4⟩ := copyT 10 0 Nx (by omega)
      let q' := fun k => if k < 9 then q (5870 + k) else if k = 20 then 0 else if k = 21 then 0 else if k = 22 then nfl q else q k
      have mx : ∀ i, i ≠ 1 → Mx i = M i := fun i z => by
        show x_st (x_st (x_st (x_st (x_st M 1 3 (nI (q 20 + 1))) 1 3 0) 1 4 (nI (q 21 + 1))) 1 4 0) 1 5 (nI (nfl q)) i = M i
        rw [x_st_row _ _ _ _ z, x_st_row _ _ _ _ z, x_st_row _ _ _ _ z, x_st_row _ _ _ _ z, x_st_row _ _ _ _ z]
      have hM : ∀ i, i ≠ 1 ∧ (i < 2 ∨ 4 < i) → M' i = M i := fun i z => by
        show mcpM Mx 2 _ _ _ _ _ _ _ _ _ i = M i
        rw [mcp_row _ _ _ _ _ _ _ _ _ _ _ (by omega), mx i z.1]
      have m1 : M' 1 = Mx 1 := by show mcpM Mx 2 _ _ _ _ _ _ _ _ _ 1 = Mx 1; rw [mcp_row _ _ _ _ _ _ _ _ _ _ _ (by omega)]
      have nx : ∀ k, k ≠ 20 ∧ k ≠ 21 ∧ k ≠ 22 → Nx 1 k = N 1 k := fun k z => by
        show x_st (x_st (x_st (x_st (x_st N 1 20 (nI (q 20 + 1))) 1 20 0) 1 21 (nI (q 21 + 1))) 1 21 0) 1 22 (nI (nfl q)) 1 k = N 1 k
        rw [x_st_col _ _ _ _ z.2.2, x_st_col _ _ _ _ z.2.1, x_st_col _ _ _ _ z.2.1, x_st_col _ _ _ _ z.1, x_st_col _ _ _ _ z.1]
      have hN : ∀ k, 10 ≤ k ∧ k ≠ 20 ∧ k ≠ 21 ∧ k ≠ 22 → N' 1 k = N 1 k := fun k z => by rw [n3 k (by omega), nx k (by omega)]
      have hq : ∀ k, 9 ≤ k ∧ k ≠ 20 ∧ k ≠ 21 ∧ k ≠ 22 → q' k = q k := fun k z => by
        show (if k < 9 then q (5870 + k) else if k = 20 then 0 else if k = 21 then 0 else if k = 22 then nfl q else q k) = q k
        rw [if_neg (by omega), if_neg (by omega), if_neg (by omega), if_neg (by omega)]
      have hq0 : ∀ k, k < 9 → q' k = q (5870 + k) := fun k z => if_pos z
      have h1' : P1 M' N' q' := by
        refine ⟨?_, fun k hk => ?_, p3.cg (fun k hk => by rw [Nat.zero_add, hq0 k hk])⟩
        · exact mcp_eq Mx 2 q' 0 _ _ _ _ _ _ _ _ _ ⟨⟨p1.1.1, p1.1.2.1, p1.1.2.2.1, p1.1.2.2.2⟩, ⟨p1.2.1.1, p1.2.1.2.1, p1.2.1.2.2.1, p1.2.1.2.2.2⟩, p1.2.2⟩
        · rw [Nat.zero_add, n2 k (by omega) (by omega), nx (5870 + k) (by omega), hq0 k hk]
          exact p2 k hk
      have h3' : P3 M' N' q' := by
        refine ⟨⟨?_, ?_, ?_⟩, ⟨?_, ?_, ?_⟩, ⟨?_, ?_, ?_⟩⟩
        · rw [m1]; show Mx 1 3 = nI 0; simp [Mx, x_st_if]; rfl
        · rw [n3 20 (by omega)]; show Nx 1 20 = nI 0; simp [Nx, x_st_if]; rfl
        · show 0 < q (5870 + 0) + q (5870 + 1) + q (5870 + 2) + q (5870 + 3); simp only [Nat.reduceAdd]; omega
        · rw [m1]; show Mx 1 4 = nI 0; simp [Mx, x_st_if]; rfl
        · rw [n3 21 (by omega)]; show Nx 1 21 = nI 0; simp [Nx, x_st_if]; rfl
        · show 0 < q (5870 + 4) + q (5870 + 5) + q (5870 + 6) + q (5870 + 7); simp only [Nat.reduceAdd]; omega
        · rw [m1]; show Mx 1 5 = nI (nfl q); simp [Mx, x_st_if]
        · rw [n3 22 (by omega)]; show Nx 1 22 = nI (nfl q); simp [Nx, x_st_if]
        · exact nf1
      have h8' : P8 M' N' q' := ⟨by rw [hM 5 (by decide)]; exact h8.1, fun _ e2 => by have e2 : q (5870 + 0) < 0 := e2; omega⟩
      refine ⟨M', N', q', fun post hp => ?_, fun post hp => ?_, ⟨h1', h2.cg (hM 8 (by omega)) (hM 9 (by omega)) (hM 10 (by omega)) (fun k _ _ => hN k (by omega)) (fun k _ _ => hq k (by omega)), h3', h4.cg (hM 0 (by omega)) ⟨hN 23 (by omega), hN 25 (by omega), hN 27 (by omega), hN 28 (by omega)⟩ ⟨hq 23 (by omega), hq 27 (by omega)⟩, h5.cg (hM 11 (by omega)) (fun k _ _ _ _ _ => hN k (by omega)) (fun k _ _ => hq k (by omega)) (hq 9 (by omega)), h13.cg (hM 12 (by omega)) (fun k _ _ => hN k (by omega)) (hq 33 (by omega)) h5.2.2.2.2.2.1.2.2 (hq 9 (by omega)), h6.cg (hM 14 (by omega)) (fun k _ _ => hN k (by omega)) (fun k _ _ => hq k (by omega)), h7.cg (hM 15 (by omega)) (hM 16 (by omega)) (hM 17 (by omega)) (hM 18 (by omega)) (hM 19 (by omega)) ⟨hN 36 (by omega), hq 36 (by omega)⟩ (fun k _ _ => hN k (by omega)) (fun k _ _ => hq k (by omega)), h8', h9.cg (hM 21 (by omega)) (hM 22 (by omega)) (hM 23 (by omega)) (hM 24 (by omega)) (hM 25 (by omega)) (fun k _ _ => hN k (by omega)) (fun k _ _ => hq k (by omega)), h10.cg (hM 28 (by omega)) (fun k _ _ => hN k (by omega)), h11.cg (hM 26 (by omega)) (fun k _ _ => hN k (by omega)), h12.cg (hM 27 (by omega)) (fun k _ _ => hN k (by omega))⟩, ?_, hN 23 (by decide), rfl⟩
      · unfold v_X0_goOn
        rintro Z1 rfl
        rw [B3, nI_1]
        refine lenC _ _ (x_st_row _ _ _ _ (by decide)) ?_
        rw [x_st_at]
        refine ⟨fun _ => ?_, fun z => absurd hL z⟩
        rintro Z4 rfl
        rintro Z5 rfl
        have e4 : x_st (x_st (x_sh M 1) 0 3 (nI (q 20 + 1))) 0 3 0 0 4 = nI (q 21) := by rw [x_st_col _ _ _ _ (by decide), x_st_col _ _ _ _ (by decide)]; exact B4
        rw [e4, nI_1]
        refine linC _ _ (by rw [x_st_row _ _ _ _ (by decide), x_st_row _ _ _ _ (by decide), x_st_row _ _ _ _ (by decide)]; rfl) ?_
        rw [x_st_at]
        refine ⟨fun _ => ?_, fun z => absurd hY z⟩
        rintro Z8 rfl
        rintro Z9 rfl
        have e6 : x_st (x_st (x_st (x_st (x_sh M 1) 0 3 (nI (q 20 + 1))) 0 3 0) 0 4 (nI (q 21 + 1))) 0 4 0 0 6 = nI (nfl q) := by rw [x_st_col _ _ _ _ (by decide), x_st_col _ _ _ _ (by decide), x_st_col _ _ _ _ (by decide), x_st_col _ _ _ _ (by decide)]; exact p4
        rw [e6]
        have zr : ∀ i, i ≠ 0 → x_st (x_st (x_st (x_st (x_st (x_sh M 1) 0 3 (nI (q 20 + 1))) 0 3 0) 0 4 (nI (q 21 + 1))) 0 4 0) 0 5 (nI (nfl q)) i = M (1 + i) := fun i z => by rw [x_st_row _ _ _ _ z, x_st_row _ _ _ _ z, x_st_row _ _ _ _ z, x_st_row _ _ _ _ z, x_st_row _ _ _ _ z]; rfl
        have zb : x_wb M 1 10 (x_st (x_st (x_st (x_st (x_st (x_sh M 1) 0 3 (nI (q 20 + 1))) 0 3 0) 0 4 (nI (q 21 + 1))) 0 4 0) 0 5 (nI (nfl q))) = Mx := by
          rw [x_wb_st _ _ _ _ _ _ _ (show 0 < 10 by decide), x_wb_st _ _ _ _ _ _ _ (show 0 < 10 by decide), x_wb_st _ _ _ _ _ _ _ (show 0 < 10 by decide), x_wb_st _ _ _ _ _ _ _ (show 0 < 10 by decide), x_wb_st _ _ _ _ _ _ _ (show 0 < 10 by decide), x_wb_sh]
        generalize x_st (x_st (x_st (x_st (x_st (x_sh M 1) 0 3 (nI (q 20 + 1))) 0 3 0) 0 4 (nI (q 21 + 1))) 0 4 0) 0 5 (nI (nfl q)) = Z at zr zb
        refine s_mocopy _ _ (by rw [show x_sh Z 4 0 2 = M 5 2 from congrFun (zr 4 (by decide)) 2]; exact h8.1) _ ?_
        rintro M11 rfl
        rintro M2 rfl
        rw [mcp_wb _ _ _ _ _ (by decide), x_wb_sh, mcp_wb _ _ _ _ _ (by decide), zb]
        rw [show x_sh Z 4 1 0 = M 6 0 from congrFun (zr 5 (by decide)) 0, show x_sh Z 4 1 1 = M 6 1 from congrFun (zr 5 (by decide)) 1, show x_sh Z 4 1 2 = M 6 2 from congrFun (zr 5 (by decide)) 2, show x_sh Z 4 1 3 = M 6 3 from congrFun (zr 5 (by decide)) 3, show x_sh Z 4 2 0 = M 7 0 from congrFun (zr 6 (by decide)) 0, show x_sh Z 4 2 1 = M 7 1 from congrFun (zr 6 (by decide)) 1, show x_sh Z 4 2 2 = M 7 2 from congrFun (zr 6 (by decide)) 2, show x_sh Z 4 2 3 = M 7 3 from congrFun (zr 6 (by decide)) 3, show x_sh Z 4 0 2 = M 5 2 from congrFun (zr 4 (by decide)) 2]
        exact hp
      · unfold v_X9_goesOn
        rintro Z1 rfl
        rw [x2, nI_1]
        refine lenM _ _ (fun k hk => x_st_col _ _ _ _ (by omega) _) ?_
        rw [x_st_at]
        refine ⟨fun _ => ?_, fun z => absurd hL z⟩
        rintro Z4 rfl
        rintro Z5 rfl
        have e4 : x_st (x_st N 1 20 (nI (q 20 + 1))) 1 20 0 1 21 = nI (q 21) := by rw [x_st_col _ _ _ _ (by decide), x_st_col _ _ _ _ (by decide)]; exact y2
        rw [e4, nI_1]
        refine linM _ _ (fun k hk => by rw [x_st_col _ _ _ _ (by omega), x_st_col _ _ _ _ (by omega), x_st_col _ _ _ _ (by omega)]) ?_
        rw [x_st_at]
        refine ⟨fun _ => ?_, fun z => absurd hY z⟩
        rintro Z8 rfl
        have o : ∀ k, k ≠ 20 → k ≠ 21 → x_st (x_st (x_st (x_st N 1 20 (nI (q 20 + 1))) 1 20 0) 1 21 (nI (q 21 + 1))) 1 21 0 1 k = N 1 k := fun k z1 z2 => by rw [x_st_col _ _ _ _ z2, x_st_col _ _ _ _ z2, x_st_col _ _ _ _ z1, x_st_col _ _ _ _ z1]
        have nxt : ∀ post : Int32 → Prop, post (nI (nfl q)) → v_X9_nextField (x_st (x_st (x_st (x_st N 1 20 (nI (q 20 + 1))) 1 20 0) 1 21 (nI (q 21 + 1))) 1 21 0) post := fun post hp => by
          unfold v_X9_nextField
          rw [o 8 (by decide) (by decide), o 5878 (by decide) (by decide), o 22 (by decide) (by decide), g 8 (by omega), t78, f2]
          unfold nfl at hp
          refine ⟨fun c => ?_, fun c => ⟨fun c2 => ?_, fun c2 => ?_⟩⟩
          · rw [if_neg (fun z => c (by rw [z.1]; rfl))] at hp; exact hp
          · rw [if_neg (fun z => c2 (by rw [z.2]; rfl))] at hp; exact hp
          · have z1 : q 8 = 1 := nI_inj (b := 1) (by omega) (by decide) c
            have z2 : q 5878 = 1 := nI_inj (b := 1) (by omega) (by decide) c2
            rw [if_pos ⟨z1, z2⟩] at hp
            rw [nI_sub1 f3]; exact hp
        refine nxt _ ?_
        rintro Z10 rfl
        exact ⟨11, n1 _ _ hp⟩
      · refine ⟨?_, fun k hk => hN k (by omega)⟩
        rw [n4]
        show x_st (x_st (x_st (x_st (x_st N 1 20 (nI (q 20 + 1))) 1 20 0) 1 21 (nI (q 21 + 1))) 1 21 0) 1 22 (nI (nfl q)) 2 = N 2
        rw [x_st_row _ _ _ _ (by decide), x_st_row _ _ _ _ (by decide), x_st_row _ _ _ _ (by decide), x_st_row _ _ _ _ (by decide), x_st_row _ _ _ _ (by decide)]
