theorem scroll_all (s : Nat) : ∀ (d k : Nat) (M N : ST) (q : Nat → Nat) (b : Int32), RR M N q → q 42 = s → k + d = s → ¬ b < 0 → ∃ (M' N' : ST) (q' : Nat → Nat), (∀ (post : ST → Prop) (K : Int32 → ST → Prop), (∀ y, K y M') → post M' → lp_X3_takeScroll_11 (nI s) post K (d + 1) (nI k) M) ∧ (∀ (post : ST → Prop) (K : Int32 → Int32 → ST → Prop), (∀ y c, K y c N') → lp_X9_dots_14 post K (d + 1) (nI k) b N) ∧ RR M' N' q' ∧ keep N N' ∧ Fr M N q M' N' q' := by
  intro d
  induction d with
  | zero =>
    intro k M N q b h hs hk hb
    have h6 := (h.2.2.2.2.2.2.1) 2 (by decide)
    have s7 : q 42 ≤ 7 := h6.2.2
    have hk : k = s := by omega
    subst hk
    refine ⟨M, N, q, fun post K hK hp => ?_, fun post K hK => ?_, h, keep.rf, Fr.rf⟩
    · unfold lp_X3_takeScroll_11
      exact ⟨fun _ => hK _, fun z => absurd (nI_le (Nat.le_refl _) (by omega)) z⟩
    · unfold lp_X9_dots_14
      rw [show N 1 42 = nI k from by rw [← hs]; exact h6.2.1]
      exact ⟨fun _ => hK _ _, fun z => absurd (nI_le (Nat.le_refl _) (by omega)) z⟩
  | succ d ih =>
    intro k M N q b h hs hk hb
    have h6 := (h.2.2.2.2.2.2.1) 2 (by decide)
    have s7 : q 42 ≤ 7 := h6.2.2
    have e42 : N 1 42 = nI s := by rw [← hs]; exact h6.2.1
    have le1 : ¬ nI s ≤ nI k := nI_ge (a := k) (b := s) (by omega) (by omega)
    obtain ⟨r, M1, N1, q1, t1, t2, t3, t4, t5, t6, t7, t8⟩ := ph_take h
    have wb : x_wb M 11 2 (x_sh M1 11) = M1 := x_wb_of (fun i z => t6 i (by omega))
    by_cases hr : r = -1
    · refine ⟨M1, N1, q1, fun post K hK hp => ?_, fun post K hK => ?_, t3, t4, t5⟩
      · unfold lp_X3_takeScroll_11
        refine ⟨fun z => absurd z le1, fun _ => t1 _ ?_⟩
        rintro M11 rfl
        rw [wb]
        exact ⟨fun z => absurd hr z, fun _ => hp⟩
      · unfold lp_X9_dots_14
        rw [e42]
        refine ⟨fun z => absurd z le1, fun _ => ⟨fun z => absurd z hb, fun _ => t2 _ ?_⟩⟩
        rintro x rfl
        unfold lp_X9_dots_14
        exact ⟨fun _ => hK _ _, fun _ => ⟨fun _ => hK _ _, fun z => absurd (by rw [hr]; decide) z⟩⟩
    · have hr0 : ¬ r < 0 := by
        rcases t7 with w | w | w
        · exact absurd w hr
        · rw [w]; decide
        · rw [w]; decide
      obtain ⟨M', N', q', a1, a2, a3, a4, a5⟩ := ih (k + 1) M1 N1 q1 r t3 ((t8 42 (by omega)).trans hs) (by omega) hr0
      refine ⟨M', N', q', fun post K hK hp => ?_, fun post K hK => ?_, a3, t4.tr a4, t5.tr a5⟩
      · unfold lp_X3_takeScroll_11
        refine ⟨fun z => absurd z le1, fun _ => t1 _ ?_⟩
        rintro M11 rfl
        rw [wb]
        refine ⟨fun _ => ?_, fun z => absurd z hr⟩
        rintro x rfl
        rw [nI_1]
        exact a1 post K hK hp
      · unfold lp_X9_dots_14
        rw [e42]
        refine ⟨fun z => absurd z le1, fun _ => ⟨fun z => absurd z hb, fun _ => t2 _ ?_⟩⟩
        rintro x rfl
        rw [nI_1]
        exact a2 post K hK
theorem ph_dot {M N : ST} {q : Nat → Nat} (h : RR M N q) (hx : q 20 < q 0) (hy : q 21 < q 4) : ∃ (M' N' : ST) (q' : Nat → Nat), (∀ post : ST → Prop, post M' → v_X3_makeDot M post) ∧ (∀ post : ST → Prop, post N' → v_X9_dots N post) ∧ RR M' N' q' ∧ keep N N' ∧ Fr M N q M' N' q' := by
  obtain ⟨⟨x1, x2, x3⟩, -⟩ := id h.2.2.1
  have ho := h.1.2.2
  simp only [modeOK, Nat.zero_add] at ho
  have e0 : nI (q 20) = 0 ↔ q 20 = 0 := ⟨fun e => nI_inj (b := 0) (by omega) (by decide) e, fun e => by rw [e]; rfl⟩
  by_cases hz : q 20 = 0
  · obtain ⟨M1, N1, q1, s1, s2, s3, s4, s5⟩ := scroll_all (q 42) (q 42) 0 M N q 0 h rfl (by omega) (by decide)
    obtain ⟨M', N', q', a1, a2, a3, a4, a5⟩ := ph_tail s3 (by rw [s5.2.2.2.1 20 (by omega) (by omega), s5.2.2.2.1 0 (by omega) (by omega)]; exact hx) (by rw [s5.2.2.2.1 21 (by omega) (by omega), s5.2.2.2.1 4 (by omega) (by omega)]; exact hy)
    refine ⟨M', N', q', fun post hp => ?_, fun post hp => ?_, a3, s4.tr a4, s5.tr a5⟩
    · unfold v_X3_makeDot
      rw [x1]
      refine ⟨fun z => absurd (e0.mpr hz) z, fun _ => ?_⟩
      unfold v_X3_takeScroll
      exact s_rdC h.2.2.2.2.2.2.1 (k := 2) (by decide) _ ⟨q 42 + 1, s1 _ _ (fun _ => a1 post hp) (a1 post hp)⟩
    · unfold v_X9_dots
      rw [x2]
      exact ⟨fun z => absurd (e0.mpr hz) z, fun _ => ⟨q 42 + 1, s2 _ _ (fun _ _ => a2 post hp)⟩⟩
  · obtain ⟨M', N', q', a1, a2, a3, a4, a5⟩ := ph_tail h hx hy
    refine ⟨M', N', q', fun post hp => ?_, fun post hp => ?_, a3, a4, a5⟩
    · unfold v_X3_makeDot
      rw [x1]
      exact ⟨fun _ => a1 post hp, fun z => absurd (e0.mp z) hz⟩
    · unfold v_X9_dots
      rw [x2]
      exact ⟨fun _ => a2 post hp, fun z => absurd (e0.mp z) hz⟩
/-! ===== the step to the next tick ===== -/
theorem copyT : ∀ (d k : Nat) (N : ST), k + d = 10 → ∃ N' : ST, (∀ (post : ST → Prop) (K : Int32 → ST → Prop), K (nI 10) N' → lp_X9_goesOn_83 post K (d + 1) (nI k) N) ∧ (∀ j, k ≤ j → j < 10 → N' 1 j = N 1 (5870 + j)) ∧ (∀ i, i < k ∨ 10 ≤ i → N' 1 i = N 1 i) ∧ N' 2 = N 2 := by
  intro d
  induction d with
  | zero =>
    intro k N hk
    have hk : k = 10 := by omega
    subst hk
    refine ⟨N, fun post K hK => ?_, fun j h1 h2 => absurd h1 (by omega), fun _ _ => rfl, rfl⟩
    unfold lp_X9_goesOn_83
    exact ⟨fun _ => hK, fun c => absurd (by decide) c⟩
  | succ d ih =>
    intro k N hk
    obtain ⟨N', a1, a2, a3, a4⟩ := ih (k + 1) (x_st N 1 k (N 1 (5870 + k))) (by omega)
    refine ⟨N', fun post K hK => ?_, fun j h1 h2 => ?_, fun i hi => ?_, ?_⟩
    · unfold lp_X9_goesOn_83
      refine ⟨fun c => absurd c (nI_ge (a := k) (b := 10) (by omega) (by decide)), fun _ => ⟨5870 + k, by omega, by rw [lit_nI 5870, nI_add], k, by omega, by rw [lit_nI 0, nI_add, Nat.zero_add], ?_⟩⟩
      rintro M45 rfl
      rintro x rfl
      rw [nI_1]
      exact a1 post K hK
    · by_cases e : j = k
      · subst e
        rw [a3 j (by omega), x_st_at]
      · rw [a2 j (by omega) h2, x_st_col _ _ _ _ (by omega)]
    · rw [a3 i (by omega), x_st_col _ _ _ _ (by omega)]
    · rw [a4, x_st_row _ _ _ _ (by decide)]
