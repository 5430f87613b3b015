theorem m_line {MB N : ST} {q : Nat → Nat} (h : RR (x_sh MB 2) N q) (p1 p2 p3 p4 : Int32) : Step (v_X8_line MB p1 p2 p3 p4) (v_X9_line N p1 p2 p3 p4) N := by
  rcases wi_cases p1 8 64 (by decide) (by decide) with ⟨hw0, -⟩ | ⟨hw0, n0, e0, l0, u0⟩
  · have hw0 : wi p1 8 64 = 0 := hw0
    refine ⟨0, MB, N, q, fun post hp => ?_, fun post hp => ?_, h, keep.rf⟩
    · unfold v_X8_line; simp only [s_within]; simpa [hw0, one_ne] using hp
    · unfold v_X9_line; simp only [s_isIn]; simpa [hw0, one_ne] using hp
  have hw0 : wi p1 8 64 = 1 := hw0
  rcases wi_cases p2 1 32 (by decide) (by decide) with ⟨hw1, -⟩ | ⟨hw1, n1, e1, l1, u1⟩
  · have hw1 : wi p2 1 32 = 0 := hw1
    refine ⟨0, MB, N, q, fun post hp => ?_, fun post hp => ?_, h, keep.rf⟩
    · unfold v_X8_line; simp only [s_within]; simpa [hw0, hw1, one_ne] using hp
    · unfold v_X9_line; simp only [s_isIn]; simpa [hw0, hw1, one_ne] using hp
  have hw1 : wi p2 1 32 = 1 := hw1
  rcases wi_cases p3 1 32 (by decide) (by decide) with ⟨hw2, -⟩ | ⟨hw2, n2, e2, l2, u2⟩
  · have hw2 : wi p3 1 32 = 0 := hw2
    refine ⟨0, MB, N, q, fun post hp => ?_, fun post hp => ?_, h, keep.rf⟩
    · unfold v_X8_line; simp only [s_within]; simpa [hw0, hw1, hw2, one_ne] using hp
    · unfold v_X9_line; simp only [s_isIn]; simpa [hw0, hw1, hw2, one_ne] using hp
  have hw2 : wi p3 1 32 = 1 := hw2
  rcases wi_cases p4 1 32 (by decide) (by decide) with ⟨hw3, -⟩ | ⟨hw3, n3, e3, l3, u3⟩
  · have hw3 : wi p4 1 32 = 0 := hw3
    refine ⟨0, MB, N, q, fun post hp => ?_, fun post hp => ?_, h, keep.rf⟩
    · unfold v_X8_line; simp only [s_within]; simpa [hw0, hw1, hw2, hw3, one_ne] using hp
    · unfold v_X9_line; simp only [s_isIn]; simpa [hw0, hw1, hw2, hw3, one_ne] using hp
  have hw3 : wi p4 1 32 = 1 := hw3
  refine ⟨1, (x_st (x_st (x_st (x_st MB 11 0 p1) 11 1 p2) 11 2 p3) 11 3 p4), (x_st (x_st (x_st (x_st N 1 10 p1) 1 11 p2) 1 12 p3) 1 13 p4), fun k => if k = 10 then n0 else if k = 11 then n1 else if k = 12 then n2 else if k = 13 then n3 else q k, fun post hp => ?_, fun post hp => ?_, ?_, ((((keep.rf.st (by decide)).st (by decide)).st (by decide)).st (by decide))⟩
  · unfold v_X8_line; simp only [s_within, s_tell, forall_eq]; simp only [hw0, hw1, hw2, hw3, one_ne, not_false_eq_true, forall_const, false_implies, and_true, true_and]
    simp only [x_wb_st _ _ _ _ _ _ _ (show 0 < 1 by decide), x_wb_sh]
    exact hp
  · unfold v_X9_line; simp only [s_isIn, forall_eq]; simp only [hw0, hw1, hw2, hw3, one_ne, not_false_eq_true, forall_const, false_implies, and_true, true_and]
    exact hp
  · rw [show x_sh (x_st (x_st (x_st (x_st MB 11 0 p1) 11 1 p2) 11 2 p3) 11 3 p4) 2 = (x_st (x_st (x_st (x_st (x_sh MB 2) 9 0 p1) 9 1 p2) 9 2 p3) 9 3 p4) from by simp only [show ∀ (z : ST) (j : Nat) (v : Int32), x_sh (x_st z 11 j v) 2 = x_st (x_sh z 2) 9 j v from fun z j v => x_sh_st z 2 9 j v]]
    generalize x_sh MB 2 = M at h ⊢
    obtain ⟨h1, h2, h3, h4, h5, h13, h6, h7, h8, h9, h10, h11, h12⟩ := h
    have hM : ∀ i, i ≠ 9 → (x_st (x_st (x_st (x_st M 9 0 p1) 9 1 p2) 9 2 p3) 9 3 p4) i = M i := fun i hi => by simp [x_st, hi]
    have hN : ∀ k, k < 10 ∨ 13 < k → (x_st (x_st (x_st (x_st N 1 10 p1) 1 11 p2) 1 12 p3) 1 13 p4) 1 k = N 1 k := fun k hk => by
      rw [x_st_col _ _ _ _ (by omega), x_st_col _ _ _ _ (by omega), x_st_col _ _ _ _ (by omega), x_st_col _ _ _ _ (by omega)]
    have hq : ∀ k, k < 10 ∨ 13 < k → (fun k => if k = 10 then n0 else if k = 11 then n1 else if k = 12 then n2 else if k = 13 then n3 else q k) k = q k := fun k hk => by
      show (if k = 10 then n0 else if k = 11 then n1 else if k = 12 then n2 else if k = 13 then n3 else q k) = q k
      rw [if_neg (by omega), if_neg (by omega), if_neg (by omega), if_neg (by omega)]
    obtain ⟨⟨⟨a1, a2, a3, a4⟩, ⟨b1, b2, b3, b4⟩, c1⟩, hi, ⟨o1, o2, o3, o4, o5, o6, o7, o8, o9⟩⟩ := id h2
    have hin : modeIn (x_st (x_st (x_st (x_st N 1 10 p1) 1 11 p2) 1 12 p3) 1 13 p4) (fun k => if k = 10 then n0 else if k = 11 then n1 else if k = 12 then n2 else if k = 13 then n3 else q k) 10 := fun k hk => by
      match k, hk with
      | 0, _ => simp [x_st_if, e0]
      | 1, _ => simp [x_st_if, e1]
      | 2, _ => simp [x_st_if, e2]
      | 3, _ => simp [x_st_if, e3]
      | 4, _ => simpa [x_st_if] using hi 4 (by omega)
      | 5, _ => simpa [x_st_if] using hi 5 (by omega)
      | 6, _ => simpa [x_st_if] using hi 6 (by omega)
      | 7, _ => simpa [x_st_if] using hi 7 (by omega)
      | 8, _ => simpa [x_st_if] using hi 8 (by omega)
      | k + 9, hk => exact absurd hk (by omega)
    exact ⟨h1.cg (hM 2 (by omega)) (hM 3 (by omega)) (hM 4 (by omega)) (fun k _ => hN k (by omega)) (fun k _ => hq k (by omega)), ⟨⟨⟨by simp [x_st_if, e0], by simp [x_st_if, e1], by simp [x_st_if, e2], by simp [x_st_if, e3]⟩, ⟨by simpa [x_st_if] using b1, by simpa [x_st_if] using b2, by simpa [x_st_if] using b3, by simpa [x_st_if] using b4⟩, by simpa [x_st_if] using c1⟩, hin, ⟨⟨by simpa using l0, by simpa using u0⟩, ⟨by simpa using l1, by simpa using u1⟩, ⟨by simpa using l2, by simpa using u2⟩, ⟨by simpa using l3, by simpa using u3⟩, by simpa using o5, by simpa using o6, by simpa using o7, by simpa using o8, by simpa using o9⟩⟩, h3.cg ⟨congrFun (hM 1 (by omega)) 3, congrFun (hM 1 (by omega)) 4, congrFun (hM 1 (by omega)) 5⟩ ⟨hN 20 (by omega), hN 21 (by omega), hN 22 (by omega)⟩ (fun k _ => hq k (by omega)) (fun k _ _ => hq k (by omega)), h4.cg (hM 0 (by omega)) ⟨hN 23 (by omega), hN 25 (by omega), hN 27 (by omega), hN 28 (by omega)⟩ ⟨hq 23 (by omega), hq 27 (by omega)⟩, h5.cg (hM 11 (by omega)) (fun k _ _ _ _ _ => hN k (by omega)) (fun k _ _ => hq k (by omega)) (hq 9 (by omega)), h13.cg (hM 12 (by omega)) (fun k _ _ => hN k (by omega)) (hq 33 (by omega)) h5.2.2.2.2.2.1.2.2 (hq 9 (by omega)), h6.cg (hM 14 (by omega)) (fun k _ _ => hN k (by omega)) (fun k _ _ => hq k (by omega)), h7.cg (hM 15 (by omega)) (hM 16 (by omega)) (hM 17 (by omega)) (hM 18 (by omega)) (hM 19 (by omega)) ⟨hN 36 (by omega), hq 36 (by omega)⟩ (fun k _ _ => hN k (by omega)) (fun k _ _ => hq k (by omega)), h8.cg (hM 5 (by omega)) (hM 6 (by omega)) (hM 7 (by omega)) (congrFun (hM 1 (by omega)) 6) (fun k _ _ => hN k (by omega)) (fun k _ _ => hq k (by omega)) (fun k _ => hq k (by omega)) (fun k _ _ => hq k (by omega)), h9.cg (hM 21 (by omega)) (hM 22 (by omega)) (hM 23 (by omega)) (hM 24 (by omega)) (hM 25 (by omega)) (fun k _ _ => hN k (by omega)) (fun k _ _ => hq k (by omega)), h10.cg (hM 28 (by omega)) (fun k _ _ => hN k (by omega)), h11.cg (hM 26 (by omega)) (fun k _ _ => hN k (by omega)), h12.cg (hM 27 (by omega)) (fun k _ _ => hN k (by omega))⟩
theorem m_field {MB N : ST} {q : Nat → Nat} (h : RR (x_sh MB 2) N q) (p1 p2 p3 p4 p5 : Int32) (hb5 : x_bool p5) : Step (v_X8_field MB p1 p2 p3 p4 p5) (v_X9_field N p1 p2 p3 p4 p5) N := by
  rcases wi_cases p1 1 32 (by decide) (by decide) with ⟨hw0, -⟩ | ⟨hw0, n0, e0, l0, u0⟩
  · have hw0 : wi p1 1 32 = 0 := hw0
    refine ⟨0, MB, N, q, fun post hp => ?_, fun post hp => ?_, h, keep.rf⟩
    · unfold v_X8_field; simp only [s_within]; simpa [hw0, one_ne] using hp
    · unfold v_X9_field; simp only [s_isIn]; simpa [hw0, one_ne] using hp
  have hw0 : wi p1 1 32 = 1 := hw0
  rcases wi_cases p2 1 8 (by decide) (by decide) with ⟨hw1, -⟩ | ⟨hw1, n1, e1, l1, u1⟩
  · have hw1 : wi p2 1 8 = 0 := hw1
    refine ⟨0, MB, N, q, fun post hp => ?_, fun post hp => ?_, h, keep.rf⟩
    · unfold v_X8_field; simp only [s_within]; simpa [hw0, hw1, one_ne] using hp
    · unfold v_X9_field; simp only [s_isIn]; simpa [hw0, hw1, one_ne] using hp
  have hw1 : wi p2 1 8 = 1 := hw1
  rcases wi_cases p3 1 8 (by decide) (by decide) with ⟨hw2, -⟩ | ⟨hw2, n2, e2, l2, u2⟩
  · have hw2 : wi p3 1 8 = 0 := hw2
    refine ⟨0, MB, N, q, fun post hp => ?_, fun post hp => ?_, h, keep.rf⟩
    · unfold v_X8_field; simp only [s_within]; simpa [hw0, hw1, hw2, one_ne] using hp
    · unfold v_X9_field; simp only [s_isIn]; simpa [hw0, hw1, hw2, one_ne] using hp
  have hw2 : wi p3 1 8 = 1 := hw2
  rcases wi_cases p4 1 8 (by decide) (by decide) with ⟨hw3, -⟩ | ⟨hw3, n3, e3, l3, u3⟩
  · have hw3 : wi p4 1 8 = 0 := hw3
    refine ⟨0, MB, N, q, fun post hp => ?_, fun post hp => ?_, h, keep.rf⟩
    · unfold v_X8_field; simp only [s_within]; simpa [hw0, hw1, hw2, hw3, one_ne] using hp
    · unfold v_X9_field; simp only [s_isIn]; simpa [hw0, hw1, hw2, hw3, one_ne] using hp
  have hw3 : wi p4 1 8 = 1 := hw3
  obtain ⟨n4, e4, u4⟩ : ∃ n : Nat, p5 = nI n ∧ n ≤ 1 := by
    rcases hb5 with e | e
    · exact ⟨0, e, by omega⟩
    · exact ⟨1, e, by omega⟩
  refine ⟨1, (x_st (x_st (x_st (x_st (x_st MB 12 0 p1) 12 1 p2) 12 2 p3) 12 3 p4) 10 2 p5), (x_st (x_st (x_st (x_st (x_st N 1 14 p1) 1 15 p2) 1 16 p3) 1 17 p4) 1 18 p5), fun k => if k = 14 then n0 else if k = 15 then n1 else if k = 16 then n2 else if k = 17 then n3 else if k = 18 then n4 else q k, fun post hp => ?_, fun post hp => ?_, ?_, (((((keep.rf.st (by decide)).st (by decide)).st (by decide)).st (by decide)).st (by decide))⟩
  · unfold v_X8_field; simp only [s_within, s_tell, forall_eq]; simp only [hw0, hw1, hw2, hw3, one_ne, not_false_eq_true, forall_const, false_implies, and_true, true_and]
    simp only [x_wb_st _ _ _ _ _ _ _ (show 0 < 1 by decide), x_wb_sh]
    exact ⟨hb5, hp⟩
  · unfold v_X9_field; simp only [s_isIn, forall_eq]; simp only [hw0, hw1, hw2, hw3, one_ne, not_false_eq_true, forall_const, false_implies, and_true, true_and]
    rcases hb5 with e | e
    · rw [e] at hp ⊢; exact ⟨fun _ => hp, fun c => absurd rfl c⟩
    · rw [e] at hp ⊢; exact ⟨fun c => absurd c one_ne, fun _ => hp⟩
  · rw [show x_sh (x_st (x_st (x_st (x_st (x_st MB 12 0 p1) 12 1 p2) 12 2 p3) 12 3 p4) 10 2 p5) 2 = (x_st (x_st (x_st (x_st (x_st (x_sh MB 2) 10 0 p1) 10 1 p2) 10 2 p3) 10 3 p4) 8 2 p5) from by simp only [show ∀ (z : ST) (j : Nat) (v : Int32), x_sh (x_st z 12 j v) 2 = x_st (x_sh z 2) 10 j v from fun z j v => x_sh_st z 2 10 j v, show ∀ (z : ST) (j : Nat) (v : Int32), x_sh (x_st z 10 j v) 2 = x_st (x_sh z 2) 8 j v from fun z j v => x_sh_st z 2 8 j v]]
    generalize x_sh MB 2 = M at h ⊢
    obtain ⟨h1, h2, h3, h4, h5, h13, h6, h7, h8, h9, h10, h11, h12⟩ := h
    have hM : ∀ i, i ≠ 10 ∧ i ≠ 8 → (x_st (x_st (x_st (x_st (x_st M 10 0 p1) 10 1 p2) 10 2 p3) 10 3 p4) 8 2 p5) i = M i := fun i hi => by simp [x_st, hi]
    have hN : ∀ k, k < 14 ∨ 18 < k → (x_st (x_st (x_st (x_st (x_st N 1 14 p1) 1 15 p2) 1 16 p3) 1 17 p4) 1 18 p5) 1 k = N 1 k := fun k hk => by
      rw [x_st_col _ _ _ _ (by omega), x_st_col _ _ _ _ (by omega), x_st_col _ _ _ _ (by omega), x_st_col _ _ _ _ (by omega), x_st_col _ _ _ _ (by omega)]
    have hq : ∀ k, k < 14 ∨ 18 < k → (fun k => if k = 14 then n0 else if k = 15 then n1 else if k = 16 then n2 else if k = 17 then n3 else if k = 18 then n4 else q k) k = q k := fun k hk => by
      show (if k = 14 then n0 else if k = 15 then n1 else if k = 16 then n2 else if k = 17 then n3 else if k = 18 then n4 else q k) = q k
      rw [if_neg (by omega), if_neg (by omega), if_neg (by omega), if_neg (by omega), if_neg (by omega)]
    obtain ⟨⟨⟨a1, a2, a3, a4⟩, ⟨b1, b2, b3, b4⟩, c1⟩, hi, ⟨o1, o2, o3, o4, o5, o6, o7, o8, o9⟩⟩ := id h2
    have hin : modeIn (x_st (x_st (x_st (x_st (x_st N 1 14 p1) 1 15 p2) 1 16 p3) 1 17 p4) 1 18 p5) (fun k => if k = 14 then n0 else if k = 15 then n1 else if k = 16 then n2 else if k = 17 then n3 else if k = 18 then n4 else q k) 10 := fun k hk => by
      match k, hk with
      | 0, _ => simpa [x_st_if] using hi 0 (by omega)
      | 1, _ => simpa [x_st_if] using hi 1 (by omega)
      | 2, _ => simpa [x_st_if] using hi 2 (by omega)
      | 3, _ => simpa [x_st_if] using hi 3 (by omega)
      | 4, _ => simp [x_st_if, e0]
      | 5, _ => simp [x_st_if, e1]
      | 6, _ => simp [x_st_if, e2]
      | 7, _ => simp [x_st_if, e3]
      | 8, _ => simp [x_st_if, e4]
      | k + 9, hk => exact absurd hk (by omega)
    exact ⟨h1.cg (hM 2 (by omega)) (hM 3 (by omega)) (hM 4 (by omega)) (fun k _ => hN k (by omega)) (fun k _ => hq k (by omega)), ⟨⟨⟨by simpa [x_st_if] using a1, by simpa [x_st_if] using a2, by simpa [x_st_if] using a3, by simpa [x_st_if] using a4⟩, ⟨by simp [x_st_if, e0], by simp [x_st_if, e1], by simp [x_st_if, e2], by simp [x_st_if, e3]⟩, by simp [x_st_if, e4]⟩, hin, ⟨by simpa using o1, by simpa using o2, by simpa using o3, by simpa using o4, ⟨by simpa using l0, by simpa using u0⟩, ⟨by simpa using l1, by simpa using u1⟩, ⟨by simpa using l2, by simpa using u2⟩, ⟨by simpa using l3, by simpa using u3⟩, by simpa using u4⟩⟩, h3.cg ⟨congrFun (hM 1 (by omega)) 3, congrFun (hM 1 (by omega)) 4, congrFun (hM 1 (by omega)) 5⟩ ⟨hN 20 (by omega), hN 21 (by omega), hN 22 (by omega)⟩ (fun k _ => hq k (by omega)) (fun k _ _ => hq k (by omega)), h4.cg (hM 0 (by omega)) ⟨hN 23 (by omega), hN 25 (by omega), hN 27 (by omega), hN 28 (by omega)⟩ ⟨hq 23 (by omega), hq 27 (by omega)⟩, h5.cg (hM 11 (by omega)) (fun k _ _ _ _ _ => hN k (by omega)) (fun k _ _ => hq k (by omega)) (hq 9 (by omega)), h13.cg (hM 12 (by omega)) (fun k _ _ => hN k (by omega)) (hq 33 (by omega)) h5.2.2.2.2.2.1.2.2 (hq 9 (by omega)), h6.cg (hM 14 (by omega)) (fun k _ _ => hN k (by omega)) (fun k _ _ => hq k (by omega)), h7.cg (hM 15 (by omega)) (hM 16 (by omega)) (hM 17 (by omega)) (hM 18 (by omega)) (hM 19 (by omega)) ⟨hN 36 (by omega), hq 36 (by omega)⟩ (fun k _ _ => hN k (by omega)) (fun k _ _ => hq k (by omega)), h8.cg (hM 5 (by omega)) (hM 6 (by omega)) (hM 7 (by omega)) (congrFun (hM 1 (by omega)) 6) (fun k _ _ => hN k (by omega)) (fun k _ _ => hq k (by omega)) (fun k _ => hq k (by omega)) (fun k _ _ => hq k (by omega)), h9.cg (hM 21 (by omega)) (hM 22 (by omega)) (hM 23 (by omega)) (hM 24 (by omega)) (hM 25 (by omega)) (fun k _ _ => hN k (by omega)) (fun k _ _ => hq k (by omega)), h10.cg (hM 28 (by omega)) (fun k _ _ => hN k (by omega)), h11.cg (hM 26 (by omega)) (fun k _ _ => hN k (by omega)), h12.cg (hM 27 (by omega)) (fun k _ _ => hN k (by omega))⟩
