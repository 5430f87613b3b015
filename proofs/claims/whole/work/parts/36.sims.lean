/-! ===== a tick, part by part: entries ===== -/
/-- what the parts of a tick behind the entries and ahead of the step leave alone -/
def Fr (M N : ST) (q : Nat → Nat) (M' N' : ST) (q' : Nat → Nat) : Prop := (∀ i, 1 ≤ i → i < 11 → M' i = M i) ∧ (∀ k, k < 23 → N' 1 k = N 1 k) ∧ (∀ k, 5870 ≤ k → k < 5879 → N' 1 k = N 1 k) ∧ (∀ k, k < 24 → k ≠ 9 → q' k = q k) ∧ (∀ k, 5870 ≤ k → k < 5879 → q' k = q k)
theorem Fr.rf {M N : ST} {q : Nat → Nat} : Fr M N q M N q := ⟨fun _ _ _ => rfl, fun _ _ => rfl, fun _ _ _ => rfl, fun _ _ _ => rfl, fun _ _ _ => rfl⟩
theorem Fr.tr {M N M1 N1 M2 N2 : ST} {q q1 q2 : Nat → Nat} (a : Fr M N q M1 N1 q1) (b : Fr M1 N1 q1 M2 N2 q2) : Fr M N q M2 N2 q2 :=
  ⟨fun i h1 h2 => (b.1 i h1 h2).trans (a.1 i h1 h2), fun k h => (b.2.1 k h).trans (a.2.1 k h), fun k h1 h2 => (b.2.2.1 k h1 h2).trans (a.2.2.1 k h1 h2), fun k h1 h2 => (b.2.2.2.1 k h1 h2).trans (a.2.2.2.1 k h1 h2), fun k h1 h2 => (b.2.2.2.2 k h1 h2).trans (a.2.2.2.2 k h1 h2)⟩
/-- the mode taken up, also in the very tick -/
def P8x (M N : ST) (q : Nat → Nat) : Prop := q 21 + 1 = q 4 + q 5 + q 6 + q 7 → q 0 ≤ q 20 → modeEq M 5 q 5870 ∧ modeIn N q 5870 ∧ modeOK q 5870 ∧ M 1 6 = nI (nfl q)
theorem P8x.cg {M N M' N' : ST} {q q' : Nat → Nat} (h : P8x M N q) (f : Fr M N q M' N' q') : P8x M' N' q' := by
  obtain ⟨fM, fN, fT, fq, ft⟩ := f
  intro e1 e2
  rw [fq 21 (by omega) (by omega), fq 4 (by omega) (by omega), fq 5 (by omega) (by omega), fq 6 (by omega) (by omega), fq 7 (by omega) (by omega)] at e1
  rw [fq 0 (by omega) (by omega), fq 20 (by omega) (by omega)] at e2
  obtain ⟨a, b, c, d⟩ := h e1 e2
  refine ⟨a.cg (by rw [fM 5 (by omega) (by omega)]) (fun j _ => by rw [show M' (5 + 1) = M (5 + 1) from fM 6 (by omega) (by omega)]) (fun j _ => by rw [show M' (5 + 2) = M (5 + 2) from fM 7 (by omega) (by omega)]) (fun k hk => ft (5870 + k) (by omega) (by omega)), b.cg (fun k hk => fT (5870 + k) (by omega) (by omega)) (fun k hk => ft (5870 + k) (by omega) (by omega)), c.cg (fun k hk => ft (5870 + k) (by omega) (by omega)), ?_⟩
  unfold nfl
  rw [fM 1 (by omega) (by omega), fq 8 (by omega) (by omega), ft 5878 (by omega) (by omega), fq 22 (by omega) (by omega)]
  exact d
theorem apply_all (C : ST) (p1 p2 : Int32) : ∀ (d k : Nat) (M N : ST) (q : Nat → Nat), RR M N q → k + d = q 36 → x_sh M 15 = C → M 1 4 = p1 → M 1 3 = p2 → ∃ (M' N' : ST) (q' : Nat → Nat), (∀ (post : ST → Prop) (K : Int32 → ST → Prop), K (nI (q 36)) (x_sh M' 13) → lp_X1_apply_3 C p1 p2 post K (d + 1) (nI k) (x_sh M 13)) ∧ (∀ (post : ST → Prop) (K : Int32 → ST → Prop), K (nI (q 36)) N' → lp_X9_aTick_2 post K (d + 1) (nI k) N) ∧ RR M' N' q' ∧ keep N N' ∧ (∀ i, i ≠ 14 → M' i = M i) ∧ (∀ k, k < 40 ∨ 45 ≤ k → q' k = q k) := by
  intro d
  induction d with
  | zero =>
    intro k M N q h hk hC e1 e2
    obtain ⟨⟨c1, c2, c3⟩, -⟩ := h.2.2.2.2.2.2.2.1
    have hk : k = q 36 := by omega
    subst hk
    refine ⟨M, N, q, fun post K hK => ?_, fun post K hK => ?_, h, keep.rf, fun _ _ => rfl, fun _ _ => rfl⟩
    · unfold lp_X1_apply_3
      have : C 0 4 = nI (q 36) := by rw [← hC]; exact c1
      rw [this]
      exact ⟨fun _ => hK, fun c => absurd (nI_le (Nat.le_refl _) (by omega)) c⟩
    · unfold lp_X9_aTick_2
      rw [c2]
      exact ⟨fun _ => hK, fun c => absurd (nI_le (Nat.le_refl _) (by omega)) c⟩
  | succ d ih =>
    intro k M N q h hk hC e1 e2
    have h7 := h.2.2.2.2.2.2.2.1
    obtain ⟨⟨c1, c2, c3⟩, hent⟩ := id h7
    obtain ⟨⟨y0, x0⟩, ⟨r1, r2, r3⟩, v1, v2, v3⟩ := hent k (by omega)
    obtain ⟨⟨x1, x2, -⟩, ⟨y1, y2, -⟩, -⟩ := id h.2.2.1
    have cC : C 0 4 = nI (q 36) := by rw [← hC]; exact c1
    have cY : C 1 k = M 16 k := by rw [← hC]; rfl
    have cX : C 2 k = M 17 k := by rw [← hC]; rfl
    have cR : C 3 k = nI (q (60 + 4 * k + 2)) := by rw [← hC]; exact r1
    have cV : C 4 k = nI (q (60 + 4 * k + 3)) := by rw [← hC]; exact v1
    have le1 : ¬ nI (q 36) ≤ nI k := nI_ge (by omega) (by omega)
    have ex : (60 + 4 * nI k : Int32) = nI (60 + 4 * k) := by rw [lit_nI 60, lit_nI 4, pk_mul, nI_add]
    by_cases hx : M 17 k = M 1 3
    · by_cases hy : M 16 k = M 1 4
      · -- it changes a register
        have h' := h.reg r3 v3
        obtain ⟨M', N', q', a1, a2, a3, a4, a5, a6⟩ := ih (k + 1) _ _ _ h' (by simp only [if_neg (show ¬ 36 = 40 + q (60 + 4 * k + 2) by omega)]; omega) (by rw [← hC]; funext i; exact x_st_row _ _ _ _ (by omega)) (by rw [x_st_row _ _ _ _ (by decide)]; exact e1) (by rw [x_st_row _ _ _ _ (by decide)]; exact e2)
        simp only [if_neg (show ¬ 36 = 40 + q (60 + 4 * k + 2) by omega)] at a1 a2
        refine ⟨M', N', q', fun post K hK => ?_, fun post K hK => ?_, a3, (keep.rf.st (by omega)).tr a4, fun i hi => (a5 i hi).trans (x_st_row _ _ _ _ hi), fun j hj => (a6 j hj).trans (if_neg (by omega))⟩
        · unfold lp_X1_apply_3
          rw [cC]
          refine ⟨fun c => absurd c le1, fun _ => ⟨k, by omega, rfl, fun c => absurd (by rw [cX, hx]; exact e2) c, fun _ => ⟨fun c => absurd (by rw [cY, hy]; exact e1) c, fun _ => ?_⟩⟩⟩
          rw [cR, cV]
          refine s_change _ _ _ _ (fun r v hr e3 hv e4 => ?_) (fun hno => absurd rfl (hno _ _ r3 rfl v3))
          have er : q (60 + 4 * k + 2) = r := nI_inj (by omega) (by omega) e3
          subst er
          rintro x rfl
          rw [nI_1, ← x_sh_st]
          exact a1 post K hK
        · unfold lp_X9_aTick_2
          rw [c2]
          refine ⟨fun c => absurd c le1, fun _ => ?_⟩
          rintro x rfl
          rw [ex]
          refine ⟨60 + 4 * k, by omega, rfl, fun c => absurd (by rw [← y0, hy, y1, y2]) c, fun _ => ⟨60 + 4 * k + 1, by omega, nI_1 _, fun c => absurd (by rw [← x0, hx, x1, x2]) c, fun _ => ⟨60 + 4 * k + 2, by omega, nI_add _ 2, 60 + 4 * k + 3, by omega, nI_add _ 3, 40 + q (60 + 4 * k + 2), by omega, by rw [r2, lit_nI 40, nI_add], ?_⟩⟩⟩
          rintro M58 rfl
          rintro x rfl
          rw [v2, nI_1]
          exact a2 post K hK
      · obtain ⟨M', N', q', a1, a2, a3, a4, a5, a6⟩ := ih (k + 1) M N q h (by omega) hC e1 e2
        refine ⟨M', N', q', fun post K hK => ?_, fun post K hK => ?_, a3, a4, a5, a6⟩
        · unfold lp_X1_apply_3
          rw [cC]
          refine ⟨fun c => absurd c le1, fun _ => ⟨k, by omega, rfl, fun c => absurd (by rw [cX, hx]; exact e2) c, fun _ => ⟨fun _ => ?_, fun c => absurd (by rw [← cY, c, e1]) hy⟩⟩⟩
          rintro x rfl
          rw [nI_1]
          exact a1 post K hK
        · unfold lp_X9_aTick_2
          rw [c2]
          refine ⟨fun c => absurd c le1, fun _ => ?_⟩
          rintro x rfl
          rw [ex]
          refine ⟨60 + 4 * k, by omega, rfl, fun _ => ?_, fun c => absurd (by rw [y0, c, y1, y2]) hy⟩
          rintro x rfl
          rw [nI_1]
          exact a2 post K hK
    · obtain ⟨M', N', q', a1, a2, a3, a4, a5, a6⟩ := ih (k + 1) M N q h (by omega) hC e1 e2
      refine ⟨M', N', q', fun post K hK => ?_, fun post K hK => ?_, a3, a4, a5, a6⟩
      · unfold lp_X1_apply_3
        rw [cC]
        refine ⟨fun c => absurd c le1, fun _ => ⟨k, by omega, rfl, fun _ => ?_, fun c => absurd (by rw [← cX, c, e2]) hx⟩⟩
        rintro x rfl
        rw [nI_1]
        exact a1 post K hK
      · unfold lp_X9_aTick_2
        rw [c2]
        refine ⟨fun c => absurd c le1, fun _ => ?_⟩
        rintro x rfl
        rw [ex]
        refine ⟨60 + 4 * k, by omega, rfl, fun _ => ?_, fun _ => ⟨60 + 4 * k + 1, by omega, nI_1 _, fun _ => ?_, fun c => absurd (by rw [x0, c, x1, x2]) hx⟩⟩
        · rintro x rfl
          rw [nI_1]
          exact a2 post K hK
        · rintro x rfl
          rw [nI_1]
          exact a2 post K hK
theorem x_wb_of {M M' : ST} {k n : Nat} (h : ∀ i, i < k ∨ k + n ≤ i → M' i = M i) : x_wb M k n (x_sh M' k) = M' := by
  funext i
  unfold x_wb x_sh
  by_cases h1 : i < k
  · rw [if_pos h1, h i (Or.inl h1)]
  · rw [if_neg h1]
    by_cases h2 : i < k + n
    · rw [if_pos h2, show k + (i - k) = i by omega]
    · rw [if_neg h2, h i (Or.inr (by omega))]
/-- the entries of this place, both sides -/
theorem ph_apply {M N : ST} {q : Nat → Nat} (h : RR M N q) : ∃ (M' N' : ST) (q' : Nat → Nat), (∀ post : ST → Prop, (∀ M2 : ST, M2 = M' → post M2) → v_X1_apply (x_sh M 15) (x_sh M 13) (M 1 4) (M 1 3) (fun u => ∀ M2 : ST, M2 = x_wb M 13 2 u → post M2)) ∧ (∀ (post : ST → Prop) (K : Int32 → ST → Prop), (∀ y, K y N') → ∃ n : Nat, lp_X9_aTick_2 post K n 0 N) ∧ RR M' N' q' ∧ keep N N' ∧ (∀ k, k < 40 ∨ 45 ≤ k → q' k = q k) := by
  obtain ⟨M', N', q', a1, a2, a3, a4, a5, a6⟩ := apply_all (x_sh M 15) (M 1 4) (M 1 3) (q 36) 0 M N q h (by omega) rfl rfl rfl
  refine ⟨M', N', q', fun post hp => ?_, fun post K hK => ⟨q 36 + 1, a2 post K (hK _)⟩, a3, a4, a6⟩
  unfold v_X1_apply
  refine ⟨q 36 + 1, a1 _ _ ?_⟩
  intro M2 e
  rw [x_wb_of (fun i hi => a5 i (by omega))] at e
  exact hp M2 e
