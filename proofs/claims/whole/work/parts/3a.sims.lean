theorem and_1 (x : Int32) : x &&& 1 = 0 ∨ x &&& 1 = 1 := by
  obtain ⟨j, hj, e⟩ := pk_andE x (m := 1) 1 rfl
  rcases (show j = 0 ∨ j = 1 by omega) with z | z
  · exact Or.inl (by rw [e, z]; rfl)
  · exact Or.inr (by rw [e, z]; rfl)
theorem shiftN (c : Nat) (hc : c ≤ 8) : ∀ (d k : Nat) (N : ST), 1 ≤ k → k + d = c → N 1 33 = nI c → ∃ N' : ST, (∀ (post : Int32 → ST → Prop) (K : Int32 → ST → Prop), K (nI c) N' → lp_X9_takes_58 post K (d + 1) (nI k) N) ∧ (∀ j, k ≤ j + 1 → j + 1 < c → N' 1 (50 + j) = N 1 (50 + j + 1)) ∧ (∀ i, i + 1 < 50 + k ∨ 50 + c ≤ i + 1 → N' 1 i = N 1 i) ∧ N' 2 = N 2 := by
  intro d
  induction d with
  | zero =>
    intro k N h1 hk e33
    have hk : k = c := by omega
    subst hk
    refine ⟨N, fun post K hK => ?_, fun j z1 z2 => absurd z1 (by omega), fun _ _ => rfl, rfl⟩
    unfold lp_X9_takes_58
    rw [e33]
    exact ⟨fun _ => hK, fun z => absurd (nI_le (Nat.le_refl _) (by omega)) z⟩
  | succ d ih =>
    intro k N h1 hk e33
    obtain ⟨N', a1, a2, a3, a4⟩ := ih (k + 1) (x_st N 1 (50 + k - 1) (N 1 (50 + k))) (by omega) (by omega) (by rw [x_st_col _ _ _ _ (by omega)]; exact e33)
    refine ⟨N', fun post K hK => ?_, fun j z1 z2 => ?_, fun i hi => ?_, ?_⟩
    · unfold lp_X9_takes_58
      rw [e33]
      refine ⟨fun z => absurd z (nI_ge (a := k) (b := c) (by omega) (by omega)), fun _ => ⟨50 + k, by omega, by rw [lit_nI 50, nI_add], 50 + k - 1, by omega, ?_, ?_⟩⟩
      · rw [lit_nI 50, nI_add, lit_nI 1, pk_sub (by omega)]
      · rintro M17 rfl
        rintro x rfl
        rw [nI_1]
        exact a1 post K hK
    · by_cases e : j + 1 = k
      · rw [a3 (50 + j) (by omega), show 50 + j = 50 + k - 1 by omega, x_st_at]
        rw [show 50 + k - 1 + 1 = 50 + k by omega]
      · rw [a2 j (by omega) z2, x_st_col _ _ _ _ (by omega)]
    · rw [a3 i (by omega), x_st_col _ _ _ _ (by omega)]
    · rw [a4, x_st_row _ _ _ _ (by decide)]
theorem ph_take {M N : ST} {q : Nat → Nat} (h : RR M N q) : ∃ (r : Int32) (M' N' : ST) (q' : Nat → Nat), (∀ post : Int32 → ST → Prop, post r (x_sh M' 11) → v_X2_takeBit (x_sh M 11) post) ∧ (∀ post : Int32 → ST → Prop, post r N' → v_X9_takes N post) ∧ RR M' N' q' ∧ keep N N' ∧ Fr M N q M' N' q' ∧ (∀ i, i ≠ 11 → M' i = M i) ∧ (r = -1 ∨ r = 0 ∨ r = 1) ∧ (∀ k, 36 ≤ k → q' k = q k) := by
  have hh := h
  obtain ⟨h1, h2, h3, h4, h5, h13, h6, h7, h8, h9, h10, h11, h12⟩ := h
  obtain ⟨⟨u1, u2⟩, ⟨d1, d2, d3, d4⟩, ⟨r1, r2, r3⟩, ⟨b1, b2, b3⟩, ⟨n1, n2, n3⟩, ⟨c1, c2, c3⟩, ⟨l1, l2, l3⟩, i1, j1, j2⟩ := id h5
  have F1 : x_sh M 11 0 1 = nI (q 9) := j1
  have F2 : x_sh M 11 0 2 = nI (q 33) := c1
  have F5 : x_sh M 11 0 5 = nI (q 35) := l1
  by_cases hb : q 35 = 0
  · by_cases hc : q 33 = 0
    · -- an under
      let M' := x_st M 11 9 (M 11 9 + 1)
      let N' := x_st N 1 24 (N 1 24 + 1)
      have hM : ∀ i, i ≠ 11 → M' i = M i := fun i z => x_st_row _ _ _ _ z
      have hN : ∀ k, k ≠ 24 → N' 1 k = N 1 k := fun k z => x_st_col _ _ _ _ z _
      have hq : ∀ k, k < 0 ∨ 0 ≤ k → q k = q k := fun _ _ => rfl
      have m11 : ∀ j, j ≠ 9 → M' 11 j = M 11 j := fun j z => x_st_col _ _ _ _ z _
      have h5' : P5 M' N' q := ⟨⟨by show x_st M 11 9 (M 11 9 + 1) 11 9 = x_st N 1 24 (N 1 24 + 1) 1 24; rw [x_st_at, x_st_at, u1], by rw [m11 10 (by decide), hN 26 (by decide)]; exact u2⟩, ⟨by rw [m11 3 (by decide)]; exact d1, by rw [hN 29 (by decide)]; exact d2, d3, d4⟩, ⟨by rw [m11 6 (by decide)]; exact r1, by rw [hN 30 (by decide)]; exact r2, r3⟩, ⟨by rw [m11 8 (by decide)]; exact b1, by rw [hN 31 (by decide)]; exact b2, b3⟩, ⟨by rw [m11 7 (by decide)]; exact n1, by rw [hN 32 (by decide)]; exact n2, n3⟩, ⟨by rw [m11 2 (by decide)]; exact c1, by rw [hN 33 (by decide)]; exact c2, c3⟩, ⟨by rw [m11 5 (by decide)]; exact l1, by rw [hN 35 (by decide)]; exact l2, l3⟩, Or.inl hb, by rw [m11 1 (by decide)]; exact j1, j2⟩
      refine ⟨-1, M', N', q, fun post hp => ?_, fun post hp => ?_, ⟨h1.cg (hM 2 (by omega)) (hM 3 (by omega)) (hM 4 (by omega)) (fun k _ => hN k (by omega)) (fun k _ => hq k (by omega)), h2.cg (hM 8 (by omega)) (hM 9 (by omega)) (hM 10 (by omega)) (fun k _ _ => hN k (by omega)) (fun k _ _ => hq k (by omega)), h3.cg ⟨congrFun (hM 1 (by omega)) 3, congrFun (hM 1 (by omega)) 4, congrFun (hM 1 (by omega)) 5⟩ ⟨hN 20 (by omega), hN 21 (by omega), hN 22 (by omega)⟩ (fun k _ => hq k (by omega)) (fun k _ _ => hq k (by omega)), h4.cg (hM 0 (by omega)) ⟨hN 23 (by omega), hN 25 (by omega), hN 27 (by omega), hN 28 (by omega)⟩ ⟨hq 23 (by omega), hq 27 (by omega)⟩, h5', h13.cg (hM 12 (by omega)) (fun k _ _ => hN k (by omega)) (hq 33 (by omega)) h5.2.2.2.2.2.1.2.2 (hq 9 (by omega)), h6.cg (hM 14 (by omega)) (fun k _ _ => hN k (by omega)) (fun k _ _ => hq k (by omega)), h7.cg (hM 15 (by omega)) (hM 16 (by omega)) (hM 17 (by omega)) (hM 18 (by omega)) (hM 19 (by omega)) ⟨hN 36 (by omega), hq 36 (by omega)⟩ (fun k _ _ => hN k (by omega)) (fun k _ _ => hq k (by omega)), h8.cg (hM 5 (by omega)) (hM 6 (by omega)) (hM 7 (by omega)) (congrFun (hM 1 (by omega)) 6) (fun k _ _ => hN k (by omega)) (fun k _ _ => hq k (by omega)) (fun k _ => hq k (by omega)) (fun k _ _ => hq k (by omega)), h9.cg (hM 21 (by omega)) (hM 22 (by omega)) (hM 23 (by omega)) (hM 24 (by omega)) (hM 25 (by omega)) (fun k _ _ => hN k (by omega)) (fun k _ _ => hq k (by omega)), h10.cg (hM 28 (by omega)) (fun k _ _ => hN k (by omega)), h11.cg (hM 26 (by omega)) (fun k _ _ => hN k (by omega)), h12.cg (hM 27 (by omega)) (fun k _ _ => hN k (by omega))⟩, keep.rf.st (by decide), ⟨fun i _ _ => hM i (by omega), fun k _ => hN k (by omega), fun k _ _ => hN k (by omega), fun _ _ _ => rfl, fun _ _ _ => rfl⟩, hM, Or.inl rfl, fun _ _ => rfl⟩
      · unfold v_X2_takeBit
        rw [F5, F2, hb, hc]
        refine ⟨fun z => absurd rfl z, fun _ => ⟨fun z => absurd rfl z, fun _ => ?_⟩⟩
        rintro M10 rfl
        rw [show x_st (x_sh M 11) 0 9 (x_sh M 11 0 9 + 1) = x_sh M' 11 from (x_sh_st M 11 0 9 _).symm]
        exact hp
      · unfold v_X9_takes
        rw [l2, c2, hb, hc]
        refine ⟨fun z => absurd rfl z, fun _ => ⟨fun z => absurd rfl z, fun _ => ?_⟩⟩
        rintro M20 rfl
        exact hp
    · -- the queue's first byte
      obtain ⟨N2, s1, s2, s3, s4⟩ := shiftN (q 33) c3 (q 33 - 1) 1 (x_st (x_st N 1 34 (N 1 50)) 1 35 8) (by omega) (by omega) (by rw [x_st_col _ _ _ _ (by decide), x_st_col _ _ _ _ (by decide)]; exact c2)
      let v := M 12 (q 9)
      have ev : N 1 50 = v := by
        have := h13 0 (by omega)
        rw [Nat.add_zero, Nat.mod_eq_of_lt j2] at this
        exact this.symm
      let f := (q 9 + 1) % 8
      have hf8 : f < 8 := Nat.mod_lt _ (by decide)
      let M' := x_st (x_st (x_st (x_st (x_st M 11 4 v) 11 5 8) 11 1 (nI f)) 11 2 (nI (q 33 - 1))) 11 5 (nI 7)
      let N' := x_st (x_st N2 1 33 (nI (q 33 - 1))) 1 35 (nI 7)
      let q' := fun k => if k = 9 then f else if k = 33 then q 33 - 1 else if k = 35 then 7 else q k
      have hM : ∀ i, i ≠ 11 → M' i = M i := fun i z => by
        show x_st (x_st (x_st (x_st (x_st M 11 4 v) 11 5 8) 11 1 (nI f)) 11 2 (nI (q 33 - 1))) 11 5 (nI 7) i = M i
        rw [x_st_row _ _ _ _ z, x_st_row _ _ _ _ z, x_st_row _ _ _ _ z, x_st_row _ _ _ _ z, x_st_row _ _ _ _ z]
      have m11 : ∀ j, j ≠ 1 → j ≠ 2 → j ≠ 4 → j ≠ 5 → M' 11 j = M 11 j := fun j z1 z2 z4 z5 => by
        show x_st (x_st (x_st (x_st (x_st M 11 4 v) 11 5 8) 11 1 (nI f)) 11 2 (nI (q 33 - 1))) 11 5 (nI 7) 11 j = M 11 j
        rw [x_st_col _ _ _ _ z5, x_st_col _ _ _ _ z2, x_st_col _ _ _ _ z1, x_st_col _ _ _ _ z5, x_st_col _ _ _ _ z4]
      have N2old : ∀ k, k < 34 ∨ (35 < k ∧ k < 50) ∨ 58 ≤ k → N2 1 k = N 1 k := fun k z => by
        rw [s3 k (by omega), x_st_col _ _ _ _ (by omega), x_st_col _ _ _ _ (by omega)]
      have hN : ∀ k, k < 33 ∨ (35 < k ∧ k < 50) ∨ 58 ≤ k → N' 1 k = N 1 k := fun k z => by
        show x_st (x_st N2 1 33 (nI (q 33 - 1))) 1 35 (nI 7) 1 k = N 1 k
        rw [x_st_col _ _ _ _ (by omega), x_st_col _ _ _ _ (by omega), N2old k (by omega)]
      have hN34 : N' 1 34 = v := by
        show x_st (x_st N2 1 33 (nI (q 33 - 1))) 1 35 (nI 7) 1 34 = v
        rw [x_st_col _ _ _ _ (by decide), x_st_col _ _ _ _ (by decide), s3 34 (by omega), x_st_col _ _ _ _ (by decide), x_st_at, ev]
      have hq : ∀ k, k ≠ 9 ∧ k ≠ 33 ∧ k ≠ 35 → q' k = q k := fun k z => by
        show (if k = 9 then f else if k = 33 then q 33 - 1 else if k = 35 then 7 else q k) = q k
        rw [if_neg z.1, if_neg z.2.1, if_neg z.2.2]
      have h5' : P5 M' N' q' := by
        refine ⟨⟨?_, ?_⟩, ⟨?_, ?_, ?_, ?_⟩, ⟨?_, ?_, ?_⟩, ⟨?_, ?_, ?_⟩, ⟨?_, ?_, ?_⟩, ⟨?_, ?_, ?_⟩, ⟨?_, ?_, ?_⟩, ?_, ?_, ?_⟩
        · rw [m11 9 (by decide) (by decide) (by decide) (by decide), hN 24 (by omega)]; exact u1
        · rw [m11 10 (by decide) (by decide) (by decide) (by decide), hN 26 (by omega)]; exact u2
        · rw [m11 3 (by decide) (by decide) (by decide) (by decide), hq 29 (by decide)]; exact d1
        · rw [hN 29 (by omega), hq 29 (by decide)]; exact d2
        · rw [hq 29 (by decide)]; exact d3
        · rw [hq 29 (by decide)]; exact d4
        · rw [m11 6 (by decide) (by decide) (by decide) (by decide), hq 30 (by decide)]; exact r1
        · rw [hN 30 (by omega), hq 30 (by decide)]; exact r2
        · rw [hq 30 (by decide)]; exact r3
        · rw [m11 8 (by decide) (by decide) (by decide) (by decide), hq 31 (by decide)]; exact b1
        · rw [hN 31 (by omega), hq 31 (by decide)]; exact b2
        · rw [hq 31 (by decide)]; exact b3
        · rw [m11 7 (by decide) (by decide) (by decide) (by decide), hq 32 (by decide)]; exact n1
        · rw [hN 32 (by omega), hq 32 (by decide)]; exact n2
        · rw [hq 32 (by decide)]; exact n3
        · show M' 11 2 = nI (q 33 - 1); simp [M', x_st_if]
        · show N' 1 33 = nI (q 33 - 1); simp [N', x_st_if]
        · show q 33 - 1 ≤ 8; omega
        · show M' 11 5 = nI 7; simp [M', x_st_if]
        · show N' 1 35 = nI 7; simp [N', x_st_if]
        · show 7 ≤ 8; omega
        · refine Or.inr ?_
          rw [hN34]; simp [M', x_st_if]
        · show M' 11 1 = nI f; simp [M', x_st_if]
        · exact hf8
      have h13' : P13 M' N' q' := fun j hj => by
        have hj : j < q 33 - 1 := hj
        rw [hM 12 (by decide)]
        show M 12 ((f + j) % 8) = x_st (x_st N2 1 33 (nI (q 33 - 1))) 1 35 (nI 7) 1 (50 + j)
        rw [x_st_col _ _ _ _ (by omega), x_st_col _ _ _ _ (by omega), s2 j (by omega) (by omega), x_st_col _ _ _ _ (by omega), x_st_col _ _ _ _ (by omega)]
        have := h13 (j + 1) (by omega)
        rw [show 50 + j + 1 = 50 + (j + 1) by omega, ← this]
        rw [show (f + j) % 8 = (q 9 + (j + 1)) % 8 by show ((q 9 + 1) % 8 + j) % 8 = _; omega]
      refine ⟨(v >>> (nI 7 &&& 31)) &&& 1, M', N', q', fun post hp => ?_, fun post hp => ?_, ⟨h1.cg (hM 2 (by omega)) (hM 3 (by omega)) (hM 4 (by omega)) (fun k _ => hN k (by omega)) (fun k _ => hq k (by omega)), h2.cg (hM 8 (by omega)) (hM 9 (by omega)) (hM 10 (by omega)) (fun k _ _ => hN k (by omega)) (fun k _ _ => hq k (by omega)), h3.cg ⟨congrFun (hM 1 (by omega)) 3, congrFun (hM 1 (by omega)) 4, congrFun (hM 1 (by omega)) 5⟩ ⟨hN 20 (by omega), hN 21 (by omega), hN 22 (by omega)⟩ (fun k _ => hq k (by omega)) (fun k _ _ => hq k (by omega)), h4.cg (hM 0 (by omega)) ⟨hN 23 (by omega), hN 25 (by omega), hN 27 (by omega), hN 28 (by omega)⟩ ⟨hq 23 (by omega), hq 27 (by omega)⟩, h5', h13', h6.cg (hM 14 (by omega)) (fun k _ _ => hN k (by omega)) (fun k _ _ => hq k (by omega)), h7.cg (hM 15 (by omega)) (hM 16 (by omega)) (hM 17 (by omega)) (hM 18 (by omega)) (hM 19 (by omega)) ⟨hN 36 (by omega), hq 36 (by omega)⟩ (fun k _ _ => hN k (by omega)) (fun k _ _ => hq k (by omega)), h8.cg (hM 5 (by omega)) (hM 6 (by omega)) (hM 7 (by omega)) (congrFun (hM 1 (by omega)) 6) (fun k _ _ => hN k (by omega)) (fun k _ _ => hq k (by omega)) (fun k _ => hq k (by omega)) (fun k _ _ => hq k (by omega)), h9.cg (hM 21 (by omega)) (hM 22 (by omega)) (hM 23 (by omega)) (hM 24 (by omega)) (hM 25 (by omega)) (fun k _ _ => hN k (by omega)) (fun k _ _ => hq k (by omega)), h10.cg (hM 28 (by omega)) (fun k _ _ => hN k (by omega)), h11.cg (hM 26 (by omega)) (fun k _ _ => hN k (by omega)), h12.cg (hM 27 (by omega)) (fun k _ _ => hN k (by omega))⟩, ?_, ⟨fun i _ _ => hM i (by omega), fun k _ => hN k (by omega), fun k _ _ => hN k (by omega), fun k _ z => hq k (by omega), fun k _ _ => hq k (by omega)⟩, hM, Or.inr (and_1 _), fun k z => hq k (by omega)⟩
      · unfold v_X2_takeBit
        rw [F5, F2, hb]
        refine ⟨fun z => absurd rfl z, fun _ => ⟨fun _ => ?_, fun z => absurd z (nI_ne0 (by omega) (by omega))⟩⟩
        rw [F1]
        refine ⟨q 9, j2, rfl, ?_⟩
        rintro M5 rfl
        rintro M6 rfl
        rintro M7 rfl
        rintro M8 rfl
        rintro M9 rfl
        have t1 : x_st (x_st (x_sh M 11) 0 4 (x_sh M 11 1 (q 9))) 0 5 8 0 1 = nI (q 9) := by rw [x_st_col _ _ _ _ (by decide), x_st_col _ _ _ _ (by decide)]; exact F1
        rw [t1, nI_1, lit_nI 8, pk_rem (by omega) (by decide) (by decide)]
        have t2 : x_st (x_st (x_st (x_sh M 11) 0 4 (x_sh M 11 1 (q 9))) 0 5 (nI 8)) 0 1 (nI ((q 9 + 1) % 8)) 0 2 = nI (q 33) := by rw [x_st_col _ _ _ _ (by decide), x_st_col _ _ _ _ (by decide), x_st_col _ _ _ _ (by decide)]; exact F2
        rw [t2, lit_nI 1, pk_sub (by omega)]
        have t3 : x_st (x_st (x_st (x_st (x_sh M 11) 0 4 (x_sh M 11 1 (q 9))) 0 5 (nI 8)) 0 1 (nI ((q 9 + 1) % 8))) 0 2 (nI (q 33 - 1)) 0 5 = nI 8 := by rw [x_st_col _ _ _ _ (by decide), x_st_col _ _ _ _ (by decide), x_st_at]
        rw [t3, show (nI 8 - nI 1 : Int32) = nI 7 from by decide]
        have t4 : x_st (x_st (x_st (x_st (x_st (x_sh M 11) 0 4 (x_sh M 11 1 (q 9))) 0 5 (nI 8)) 0 1 (nI ((q 9 + 1) % 8))) 0 2 (nI (q 33 - 1))) 0 5 (nI 7) = x_sh M' 11 := by
          show _ = x_sh (x_st (x_st (x_st (x_st (x_st M 11 4 v) 11 5 8) 11 1 (nI f)) 11 2 (nI (q 33 - 1))) 11 5 (nI 7)) 11
          have z : ∀ (Z : ST) (j : Nat) (w : Int32), x_sh (x_st Z 11 j w) 11 = x_st (x_sh Z 11) 0 j w := fun Z j w => x_sh_st Z 11 0 j w
          rw [z, z, z, z, z]; rfl
        rw [t4]
        have t5 : x_sh M' 11 0 4 = v := by show M' 11 4 = v; simp [M', x_st_if]
        have t6 : x_sh M' 11 0 5 = nI 7 := by show M' 11 5 = nI 7; simp [M', x_st_if]
        rw [t5, t6]
        exact hp
      · unfold v_X9_takes
        rw [l2, c2, hb]
        refine ⟨fun z => absurd rfl z, fun _ => ⟨fun _ => ?_, fun z => absurd z (nI_ne0 (by omega) (by omega))⟩⟩
        rintro M4 rfl
        rintro M5 rfl
        refine ⟨q 33 - 1 + 1, s1 _ _ ?_⟩
        rintro M9 rfl
        rintro M10 rfl
        have t1 : N2 1 33 = nI (q 33) := (N2old 33 (by omega)).trans c2
        have t2 : N2 1 35 = 8 := by rw [s3 35 (by omega), x_st_at]
        rw [t1, lit_nI 1, pk_sub (by omega), x_st_col _ _ _ _ (show 35 ≠ 33 by decide), t2, show (8 - nI 1 : Int32) = nI 7 from by decide]
        have t3 : x_st (x_st N2 1 33 (nI (q 33 - 1))) 1 35 (nI 7) 1 34 = v := hN34
        rw [t3, x_st_at]
        exact hp
      · have k2 : N2 2 = N 2 := by rw [s4, x_st_row _ _ _ _ (by decide), x_st_row _ _ _ _ (by decide)]
        exact (keep.st (N := N) (N' := N2) ⟨k2, fun k z => N2old k (by omega)⟩ (by decide)).st (by decide)
  · -- a bit of what is left
    let M' := x_st M 11 5 (nI (q 35 - 1))
    let N' := x_st N 1 35 (nI (q 35 - 1))
    let q' := fun k => if k = 35 then q 35 - 1 else q k
    have hM : ∀ i, i ≠ 11 → M' i = M i := fun i z => x_st_row _ _ _ _ z
    have hN : ∀ k, k ≠ 35 → N' 1 k = N 1 k := fun k z => x_st_col _ _ _ _ z _
    have hq : ∀ k, k ≠ 35 → q' k = q k := fun k z => if_neg z
    have m11 : ∀ j, j ≠ 5 → M' 11 j = M 11 j := fun j z => x_st_col _ _ _ _ z _
    have el : M 11 4 = N 1 34 := i1.resolve_left hb
    have h5' : P5 M' N' q' := ⟨⟨by rw [m11 9 (by decide), hN 24 (by decide)]; exact u1, by rw [m11 10 (by decide), hN 26 (by decide)]; exact u2⟩, ⟨by rw [m11 3 (by decide), hq 29 (by decide)]; exact d1, by rw [hN 29 (by decide), hq 29 (by decide)]; exact d2, by rw [hq 29 (by decide)]; exact d3, by rw [hq 29 (by decide)]; exact d4⟩, ⟨by rw [m11 6 (by decide), hq 30 (by decide)]; exact r1, by rw [hN 30 (by decide), hq 30 (by decide)]; exact r2, by rw [hq 30 (by decide)]; exact r3⟩, ⟨by rw [m11 8 (by decide), hq 31 (by decide)]; exact b1, by rw [hN 31 (by decide), hq 31 (by decide)]; exact b2, by rw [hq 31 (by decide)]; exact b3⟩, ⟨by rw [m11 7 (by decide), hq 32 (by decide)]; exact n1, by rw [hN 32 (by decide), hq 32 (by decide)]; exact n2, by rw [hq 32 (by decide)]; exact n3⟩, ⟨by rw [m11 2 (by decide), hq 33 (by decide)]; exact c1, by rw [hN 33 (by decide), hq 33 (by decide)]; exact c2, by rw [hq 33 (by decide)]; exact c3⟩, ⟨by show x_st M 11 5 (nI (q 35 - 1)) 11 5 = nI (q 35 - 1); rw [x_st_at], by show x_st N 1 35 (nI (q 35 - 1)) 1 35 = nI (q 35 - 1); rw [x_st_at], by show q 35 - 1 ≤ 8; omega⟩, Or.inr (by rw [m11 4 (by decide), hN 34 (by decide)]; exact el), by rw [m11 1 (by decide), hq 9 (by decide)]; exact j1, by rw [hq 9 (by decide)]; exact j2⟩
    refine ⟨((M 11 4) >>> (nI (q 35 - 1) &&& 31)) &&& 1, M', N', q', fun post hp => ?_, fun post hp => ?_, ⟨h1.cg (hM 2 (by omega)) (hM 3 (by omega)) (hM 4 (by omega)) (fun k _ => hN k (by omega)) (fun k _ => hq k (by omega)), h2.cg (hM 8 (by omega)) (hM 9 (by omega)) (hM 10 (by omega)) (fun k _ _ => hN k (by omega)) (fun k _ _ => hq k (by omega)), h3.cg ⟨congrFun (hM 1 (by omega)) 3, congrFun (hM 1 (by omega)) 4, congrFun (hM 1 (by omega)) 5⟩ ⟨hN 20 (by omega), hN 21 (by omega), hN 22 (by omega)⟩ (fun k _ => hq k (by omega)) (fun k _ _ => hq k (by omega)), h4.cg (hM 0 (by omega)) ⟨hN 23 (by omega), hN 25 (by omega), hN 27 (by omega), hN 28 (by omega)⟩ ⟨hq 23 (by omega), hq 27 (by omega)⟩, h5', h13.cg (hM 12 (by omega)) (fun k _ _ => hN k (by omega)) (hq 33 (by omega)) h5.2.2.2.2.2.1.2.2 (hq 9 (by omega)), h6.cg (hM 14 (by omega)) (fun k _ _ => hN k (by omega)) (fun k _ _ => hq k (by omega)), h7.cg (hM 15 (by omega)) (hM 16 (by omega)) (hM 17 (by omega)) (hM 18 (by omega)) (hM 19 (by omega)) ⟨hN 36 (by omega), hq 36 (by omega)⟩ (fun k _ _ => hN k (by omega)) (fun k _ _ => hq k (by omega)), h8.cg (hM 5 (by omega)) (hM 6 (by omega)) (hM 7 (by omega)) (congrFun (hM 1 (by omega)) 6) (fun k _ _ => hN k (by omega)) (fun k _ _ => hq k (by omega)) (fun k _ => hq k (by omega)) (fun k _ _ => hq k (by omega)), h9.cg (hM 21 (by omega)) (hM 22 (by omega)) (hM 23 (by omega)) (hM 24 (by omega)) (hM 25 (by omega)) (fun k _ _ => hN k (by omega)) (fun k _ _ => hq k (by omega)), h10.cg (hM 28 (by omega)) (fun k _ _ => hN k (by omega)), h11.cg (hM 26 (by omega)) (fun k _ _ => hN k (by omega)), h12.cg (hM 27 (by omega)) (fun k _ _ => hN k (by omega))⟩, keep.rf.st (by decide), ⟨fun i _ _ => hM i (by omega), fun k _ => hN k (by omega), fun k _ _ => hN k (by omega), fun k _ _ => hq k (by omega), fun k _ _ => hq k (by omega)⟩, hM, Or.inr (and_1 _), fun k z => hq k (by omega)⟩
    · unfold v_X2_takeBit
      rw [F5]
      refine ⟨fun _ => ?_, fun z => absurd z (nI_ne0 (by omega) (by omega))⟩
      rintro M2 rfl
      rw [lit_nI 1, pk_sub (by omega), ← x_sh_st M 11 0 5]
      have t5 : x_sh (x_st M (11 + 0) 5 (nI (q 35 - 1))) 11 0 4 = M 11 4 := by show x_st M 11 5 _ 11 4 = _; rw [x_st_col _ _ _ _ (by decide)]
      have t6 : x_sh (x_st M (11 + 0) 5 (nI (q 35 - 1))) 11 0 5 = nI (q 35 - 1) := by show x_st M 11 5 _ 11 5 = _; rw [x_st_at]
      rw [t5, t6]
      exact hp
    · unfold v_X9_takes
      rw [l2]
      refine ⟨fun _ => ?_, fun z => absurd z (nI_ne0 (by omega) (by omega))⟩
      rintro M2 rfl
      rw [lit_nI 1, pk_sub (by omega), x_st_at, x_st_col _ _ _ _ (show 34 ≠ 35 by decide), ← el]
      exact hp
