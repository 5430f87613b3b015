/-! ===== registers, the list ===== -/
theorem RR.reg {M N : ST} {q : Nat → Nat} (h : RR M N q) {r v : Nat} (hr : r < 5) (hv : v ≤ hiN r) : RR (x_st M 14 r (nI v)) (x_st N 1 (40 + r) (nI v)) (fun k => if k = 40 + r then v else q k) := by
  obtain ⟨h1, h2, h3, h4, h5, h13, h6, h7, h8, h9, h10, h11, h12⟩ := h
  have hM : ∀ i, i ≠ 14 → x_st M 14 r (nI v) i = M i := fun i hi => x_st_row _ _ _ _ hi
  have hN : ∀ k, k < 40 ∨ 45 ≤ k → x_st N 1 (40 + r) (nI v) 1 k = N 1 k := fun k hk => x_st_col _ _ _ _ (by omega) _
  have hq : ∀ k, k < 40 ∨ 45 ≤ k → (fun k => if k = 40 + r then v else q k) k = q k := fun k hk => if_neg (by omega)
  have h6' : P6 (x_st M 14 r (nI v)) (x_st N 1 (40 + r) (nI v)) (fun k => if k = 40 + r then v else q k) := fun k hk => by
    by_cases e : k = r
    · subst e
      simp [x_st_if, hv]
    · have e2 : ¬ 40 + k = 40 + r := by omega
      simp only [x_st_if, e, e2, and_false, if_false]
      exact h6 k hk
  exact ⟨h1.cg (hM 2 (by omega)) (hM 3 (by omega)) (hM 4 (by omega)) (fun k _ => hN k (by omega)) (fun k _ => hq k (by omega)), h2.cg (hM 8 (by omega)) (hM 9 (by omega)) (hM 10 (by omega)) (fun k _ _ => hN k (by omega)) (fun k _ _ => hq k (by omega)), h3.cg ⟨congrFun (hM 1 (by omega)) 3, congrFun (hM 1 (by omega)) 4, congrFun (hM 1 (by omega)) 5⟩ ⟨hN 20 (by omega), hN 21 (by omega), hN 22 (by omega)⟩ (fun k _ => hq k (by omega)) (fun k _ _ => hq k (by omega)), h4.cg (hM 0 (by omega)) ⟨hN 23 (by omega), hN 25 (by omega), hN 27 (by omega), hN 28 (by omega)⟩ ⟨hq 23 (by omega), hq 27 (by omega)⟩, h5.cg (hM 11 (by omega)) (fun k _ _ _ _ _ => hN k (by omega)) (fun k _ _ => hq k (by omega)) (hq 9 (by omega)), h13.cg (hM 12 (by omega)) (fun k _ _ => hN k (by omega)) (hq 33 (by omega)) h5.2.2.2.2.2.1.2.2 (hq 9 (by omega)), h6', h7.cg (hM 15 (by omega)) (hM 16 (by omega)) (hM 17 (by omega)) (hM 18 (by omega)) (hM 19 (by omega)) ⟨hN 36 (by omega), hq 36 (by omega)⟩ (fun k _ _ => hN k (by omega)) (fun k _ _ => hq k (by omega)), h8.cg (hM 5 (by omega)) (hM 6 (by omega)) (hM 7 (by omega)) (congrFun (hM 1 (by omega)) 6) (fun k _ _ => hN k (by omega)) (fun k _ _ => hq k (by omega)) (fun k _ => hq k (by omega)) (fun k _ _ => hq k (by omega)), h9.cg (hM 21 (by omega)) (hM 22 (by omega)) (hM 23 (by omega)) (hM 24 (by omega)) (hM 25 (by omega)) (fun k _ _ => hN k (by omega)) (fun k _ _ => hq k (by omega)), h10.cg (hM 28 (by omega)) (fun k _ _ => hN k (by omega)), h11.cg (hM 26 (by omega)) (fun k _ _ => hN k (by omega)), h12.cg (hM 27 (by omega)) (fun k _ _ => hN k (by omega))⟩
theorem s_read (M : ST) (p1 : Int32) (post : Int32 → Prop) : (∀ k : Nat, k < 5 → p1 = nI k → post (M 1 k)) → ((∀ k : Nat, k < 5 → p1 ≠ nI k) → post (-1)) → v_X5_read M p1 post := by
  intro ha hb
  unfold v_X5_read
  simp only [s_within]
  rcases wi_cases p1 0 4 (by decide) (by decide) with ⟨hw, hno⟩ | ⟨hw, n, rfl, n1, n2⟩
  · have hw : wi p1 0 (5 - 1) = 0 := hw
    refine ⟨fun _ => hb (fun k hk => hno k (by omega) (by omega)), fun c => absurd hw c⟩
  · have hw : wi (nI n) 0 (5 - 1) = 1 := hw
    exact ⟨fun c => absurd (hw ▸ c) one_ne, fun _ => ⟨n, by omega, rfl, ha n (by omega) rfl⟩⟩
theorem s_change (M : ST) (p1 p2 : Int32) (post : Int32 → ST → Prop) : (∀ r v : Nat, r < 5 → p1 = nI r → v ≤ hiN r → p2 = nI v → post 1 (x_st M 1 r p2)) → ((∀ r v : Nat, r < 5 → p1 = nI r → v ≤ hiN r → p2 ≠ nI v) → post 0 M) → v_X5_change M p1 p2 post := by
  intro ha hb
  unfold v_X5_change
  refine s_takes p1 p2 _ (fun k hk e => ?_) (fun hno => ?_)
  · rcases wi_cases p2 0 (hiN k) (by have := hiN_le k; omega) (by decide) with ⟨hw, hno⟩ | ⟨hw, v, e2, v1, v2⟩
    · have hw : wi p2 0 (nI (hiN k)) = 0 := hw
      rw [hw]
      refine ⟨fun c => absurd rfl c, fun _ => hb (fun r v hr e3 hv => ?_)⟩
      have : r = k := nI_inj (by omega) (by omega) (e3.symm.trans e)
      subst this
      exact hno v (by omega) hv
    · have hw : wi p2 0 (nI (hiN k)) = 1 := hw
      rw [hw]
      refine ⟨fun _ => ⟨k, hk, e, ?_⟩, fun c => absurd c one_ne⟩
      intro M4 e4
      rw [e4]
      exact ha k v hk e v2 e2
  · exact ⟨fun c => absurd rfl c, fun _ => hb (fun r v hr e _ => absurd e (hno r hr))⟩
theorem m_register {MB N : ST} {q : Nat → Nat} (h : RR (x_sh MB 2) N q) (p1 p2 : Int32) : Step (v_X8_register MB p1 p2) (v_X9_register N p1 p2) N := by
  by_cases hc : ∃ r v : Nat, r < 5 ∧ p1 = nI r ∧ v ≤ hiN r ∧ p2 = nI v
  · obtain ⟨r, v, hr, rfl, hv, rfl⟩ := hc
    refine ⟨1, x_st MB 16 r (nI v), x_st N 1 (40 + r) (nI v), fun k => if k = 40 + r then v else q k, fun post hp => ?_, fun post hp => ?_, ?_, keep.rf.st (by omega)⟩
    · unfold v_X8_register
      refine s_change _ _ _ _ (fun r' v' hr' e1 hv' e2 => ?_) (fun hno => absurd rfl (hno r v hr rfl hv))
      have er : r = r' := nI_inj (by omega) (by omega) e1
      subst er
      intro M3 e3
      rw [e3, x_wb_st _ _ _ _ _ _ _ (show 1 < 2 by decide), x_wb_sh]
      exact ⟨Or.inr rfl, hp⟩
    · unfold v_X9_register
      refine s_isValue _ _ _ (fun k hk e => ?_) (fun hno => absurd rfl (hno r hr))
      have er : r = k := nI_inj (by omega) (by omega) e
      subst er
      rcases wi_cases (nI v) 0 (hiN r) (by have := hiN_le r; omega) (by decide) with ⟨hw, hno⟩ | ⟨hw, v2, e2, -, -⟩
      · exact absurd rfl (hno v (by omega) hv)
      · have hw : wi (nI v) 0 (nI (hiN r)) = 1 := hw
        rw [hw]
        refine ⟨fun _ => ⟨40 + r, by omega, ?_, ?_⟩, fun c => absurd c one_ne⟩
        · rw [lit_nI, nI_add]
        · intro M4 e4; rw [e4]; exact hp
    · rw [show x_sh (x_st MB 16 r (nI v)) 2 = x_st (x_sh MB 2) 14 r (nI v) from x_sh_st MB 2 14 r (nI v)]
      exact h.reg hr hv
  · have hno : ∀ r v : Nat, r < 5 → p1 = nI r → v ≤ hiN r → p2 ≠ nI v := fun r v h1 h2 h3 h4 => hc ⟨r, v, h1, h2, h3, h4⟩
    refine ⟨0, MB, N, q, fun post hp => ?_, fun post hp => ?_, h, keep.rf⟩
    · unfold v_X8_register
      refine s_change _ _ _ _ (fun r' v' hr' e1 hv' e2 => absurd e2 (hno r' v' hr' e1 hv')) (fun _ => ?_)
      intro M3 e3
      rw [e3, x_wb_sh]
      exact ⟨Or.inl rfl, hp⟩
    · unfold v_X9_register
      refine s_isValue _ _ _ (fun k hk e => ?_) (fun _ => ⟨fun c => absurd rfl c, fun _ => hp⟩)
      rcases wi_cases p2 0 (hiN k) (by have := hiN_le k; omega) (by decide) with ⟨hw, -⟩ | ⟨hw, v2, e2, -, h2⟩
      · have hw : wi p2 0 (nI (hiN k)) = 0 := hw
        rw [hw]
        exact ⟨fun c => absurd rfl c, fun _ => hp⟩
      · exact absurd e2 (hno k v2 hk e h2)
theorem m_value {MB N : ST} {q : Nat → Nat} (h : RR (x_sh MB 2) N q) (p1 : Int32) : StepR (v_X8_value MB p1) (v_X9_value N p1) := by
  obtain ⟨-, -, -, -, -, -, h6, -⟩ := h
  rcases wi_cases p1 0 4 (by decide) (by decide) with ⟨hw, hno⟩ | ⟨hw, n, rfl, n1, n2⟩
  · have hw : wi p1 0 4 = 0 := hw
    refine ⟨-1, fun post hp => ?_, fun post hp => ?_⟩
    · unfold v_X8_value
      exact s_read _ _ _ (fun k hk e => absurd e (hno k (by omega) (by omega))) (fun _ => hp)
    · unfold v_X9_value
      simp only [s_isIn]
      rw [hw]
      exact ⟨fun _ => hp, fun c => absurd rfl c⟩
  · have hw : wi (nI n) 0 4 = 1 := hw
    refine ⟨nI (q (40 + n)), fun post hp => ?_, fun post hp => ?_⟩
    · unfold v_X8_value
      refine s_read _ _ _ (fun k hk e => ?_) (fun hno => absurd rfl (hno n (by omega)))
      have : n = k := nI_inj (by omega) (by omega) e
      subst this
      rw [show x_sh MB 15 1 n = x_sh MB 2 14 n from rfl, (h6 n (by omega)).1]
      exact hp
    · unfold v_X9_value
      simp only [s_isIn]
      rw [hw]
      refine ⟨fun c => absurd c one_ne, fun _ => ⟨40 + n, by omega, by rw [lit_nI, nI_add], ?_⟩⟩
      rw [(h6 n (by omega)).2.1]
      exact hp
