/-! ===== ticks ===== -/
theorem ticks_all (n : Nat) (hn : n ≤ 4000) : ∀ (d k : Nat) (MB N : ST) (q : Nat → Nat), RR (x_sh MB 2) N q → k + d = n → q 23 + d ≤ 1000000 → ∃ (MB' N' : ST) (q' : Nat → Nat), (∀ (post : Int32 → ST → Prop) (K : Int32 → ST → Prop), K (nI n) MB' → lp_X8_ticks_29 (nI n) post K (d + 1) (nI k) MB) ∧ (∀ (post : Int32 → ST → Prop) (K : Int32 → ST → Prop), K (nI n) N' → lp_X9_ticks_29 (nI n) post K (d + 1) (nI k) N) ∧ RR (x_sh MB' 2) N' q' ∧ keep N N' := by
  intro d
  induction d with
  | zero =>
    intro k MB N q h hk hq
    have hk : k = n := by omega
    subst hk
    refine ⟨MB, N, q, fun post K hK => ?_, fun post K hK => ?_, h, keep.rf⟩
    · unfold lp_X8_ticks_29
      exact ⟨fun _ => hK, fun z => absurd (nI_le (Nat.le_refl _) (by omega)) z⟩
    · unfold lp_X9_ticks_29
      exact ⟨fun _ => hK, fun z => absurd (nI_le (Nat.le_refl _) (by omega)) z⟩
  | succ d ih =>
    intro k MB N q h hk hq
    have le1 : ¬ nI n ≤ nI k := nI_ge (a := k) (b := n) (by omega) (by omega)
    obtain ⟨M1, N1, q1, a1, a2, a3, a4, a5⟩ := sim_tick h (by omega)
    have h1 : RR (x_sh (x_wb MB 2 29 M1) 2) N1 q1 := a3.low (fun i hi => x_sh_wb MB M1 2 29 i hi)
    obtain ⟨MB', N', q', b1, b2, b3, b4⟩ := ih (k + 1) (x_wb MB 2 29 M1) N1 q1 h1 (by omega) (by omega)
    refine ⟨MB', N', q', fun post K hK => ?_, fun post K hK => ?_, b3, a4.tr b4⟩
    · unfold lp_X8_ticks_29
      refine ⟨fun z => absurd z le1, fun _ => a1 _ ?_⟩
      rintro M12 rfl
      rintro x rfl
      rw [nI_1]
      exact b1 post K hK
    · unfold lp_X9_ticks_29
      refine ⟨fun z => absurd z le1, fun _ => a2 _ ?_⟩
      rintro x rfl
      rw [nI_1]
      exact b2 post K hK
theorem m_ticks {MB N : ST} {q : Nat → Nat} (h : RR (x_sh MB 2) N q) (p1 : Int32) : Step (v_X8_ticks MB p1) (v_X9_ticks N p1) N := by
  obtain ⟨⟨t1, t2, t3⟩, -⟩ := id h.2.2.2.1
  have t1 : MB 2 10 = nI (q 23) := t1
  rcases wi_cases p1 1 4000 (by decide) (by decide) with ⟨hw, -⟩ | ⟨hw, n, rfl, n1, n2⟩
  · have hw : wi p1 1 4000 = 0 := hw
    refine ⟨-1, MB, N, q, fun post hp => ?_, fun post hp => ?_, h, keep.rf⟩
    · unfold v_X8_ticks; simp only [s_within]; rw [hw]; exact ⟨fun _ => hp, fun c => absurd rfl c⟩
    · unfold v_X9_ticks; simp only [s_isIn]; rw [hw]; exact ⟨fun _ => hp, fun c => absurd rfl c⟩
  have hw : wi (nI n) 1 4000 = 1 := hw
  have e1 : (1000000 - nI n : Int32) = nI (1000000 - n) := by rw [lit_nI 1000000, pk_sub (by omega)]
  have e2 : nI (q 23) + nI n = nI (q 23 + n) := nI_add _ _
  by_cases hc : q 23 + n ≤ 1000000
  · obtain ⟨MB', N', q', b1, b2, b3, b4⟩ := ticks_all n n2 n 0 MB N q h (by omega) hc
    obtain ⟨⟨s1, s2, s3⟩, -⟩ := id b3.2.2.2.1
    have s1 : MB' 2 10 = nI (q' 23) := s1
    refine ⟨nI (q' 23), MB', N', q', fun post hp => ?_, fun post hp => ?_, b3, b4⟩
    · unfold v_X8_ticks; simp only [s_within]; rw [hw, t1, e1]
      refine ⟨fun c => absurd c one_ne, fun _ => ⟨fun _ => ⟨n + 1, b1 _ _ ?_⟩, fun z => absurd (nI_le (by omega) (by omega)) z⟩⟩
      rw [s1]; exact hp
    · unfold v_X9_ticks; simp only [s_isIn]; rw [hw, t2, e2]
      refine ⟨fun c => absurd c one_ne, fun _ => ⟨fun _ => ⟨n + 1, b2 _ _ ?_⟩, fun z => absurd (nI_le hc (by decide)) z⟩⟩
      rw [s2]; exact hp
  · refine ⟨-1, MB, N, q, fun post hp => ?_, fun post hp => ?_, h, keep.rf⟩
    · unfold v_X8_ticks; simp only [s_within]; rw [hw, t1, e1]
      exact ⟨fun c => absurd c one_ne, fun _ => ⟨fun z => absurd ((nI_leI (by omega) (by omega)).mp z) (by omega), fun _ => hp⟩⟩
    · unfold v_X9_ticks; simp only [s_isIn]; rw [hw, t2, e2]
      exact ⟨fun c => absurd c one_ne, fun _ => ⟨fun z => absurd ((nI_leI (by omega) (by decide)).mp z) hc, fun _ => hp⟩⟩
/-! ===== sprites: row, bits ===== -/
set_option maxRecDepth 100000 in
theorem cnt_dec : ∀ m, m < 256 → ∀ post : Int32 → Prop, post (nI ((List.range 8).countP (fun s => m.testBit s))) → v_J6_bitCount_0f7a4 (nI m) post := by
  have key : ∀ m, m < 256 → (let x1 : Int32 := (nI m - ((x_ushr (nI m) 1) &&& 1431655765)); let x2 : Int32 := ((x1 &&& 858993459) + ((x_ushr x1 2) &&& 858993459)); let x3 : Int32 := ((x2 + (x_ushr x2 4)) &&& 252645135); let x4 : Int32 := (x3 + (x_ushr x3 8)); let x5 : Int32 := (x4 + (x_ushr x4 16)); x5 &&& 63) = nI ((List.range 8).countP (fun s => m.testBit s)) := by decide +kernel
  intro m hm post hp
  unfold v_J6_bitCount_0f7a4
  rintro x1 rfl
  rintro x2 rfl
  rintro x3 rfl
  rintro x4 rfl
  rintro x5 rfl
  rw [← key m hm] at hp
  exact hp
def ct (m : Nat) : Nat := (List.range 8).countP (fun s => m.testBit s)
set_option maxRecDepth 100000 in
theorem ct_dec : ∀ m, m < 256 → ct m ≤ 8 ∧ ct (mem3 m) = (if ct m ≤ 3 then ct m else 3) := by decide +kernel
def sm (a m : Nat) : Nat → Nat × Nat
  | 0 => (0, 0)
  | s + 1 => ((sm a m s).1 + (if m.testBit s = true then 1 else 0), (sm a m s).2 + (if a.testBit s = true then 1 else 0))
set_option maxRecDepth 100000 in
theorem sm_dec : ∀ m, m < 256 → sm (mem3 m) m 8 = (ct m, ct (mem3 m)) := by decide +kernel
theorem sm_le (a m : Nat) : ∀ s, (sm a m s).1 ≤ s ∧ (sm a m s).2 ≤ s
  | 0 => ⟨Nat.le_refl _, Nat.le_refl _⟩
  | s + 1 => by
    have ih := sm_le a m s
    refine ⟨?_, ?_⟩
    · show (sm a m s).1 + (if m.testBit s = true then 1 else 0) ≤ s + 1
      split <;> omega
    · show (sm a m s).2 + (if a.testBit s = true then 1 else 0) ≤ s + 1
      split <;> omega
