/-! ===== copyFrom: what comes over ===== -/
theorem x_cp_at (M : ST) (i n : Nat) (f : Nat → Int32) {j : Nat} (h : j < n) : x_cp M i n f i j = f j := by
  unfold x_cp
  rw [if_pos rfl, pk_cpy_in (by omega) (by omega)]
  congr 1
  omega
theorem x_cp_row (M : ST) (i n : Nat) (f : Nat → Int32) {i' : Nat} (h : i' ≠ i) : x_cp M i n f i' = M i' := by simp [x_cp, h]
theorem s_cp6 (M N : ST) (post : ST → Prop) (h : ∀ u : ST, (∀ j, j < 4 → u 0 j = N 0 j) → post u) : v_X6_copyFrom M N post := by
  unfold v_X6_copyFrom
  rw [s_tell]
  refine h _ (fun j hj => ?_)
  rcases (show j = 0 ∨ j = 1 ∨ j = 2 ∨ j = 3 by omega) with rfl | rfl | rfl | rfl <;> simp [x_st_if]
theorem s_cp4 (M N : ST) (post : ST → Prop) (hb : x_bool (N 0 2)) (h : ∀ u : ST, u 0 2 = N 0 2 → (∀ j, j < 4 → u 1 j = N 1 j) → (∀ j, j < 4 → u 2 j = N 2 j) → post u) : v_X4_copyFrom M N post := by
  unfold v_X4_copyFrom
  refine s_cp6 _ _ _ (fun u hu => ?_)
  rintro M2 rfl
  refine s_cp6 _ _ _ (fun v hv => ?_)
  rintro M4 rfl
  refine ⟨hb, ?_⟩
  rintro M6 rfl
  refine h _ (x_st_at _ _ _ _) (fun j hj => ?_) (fun j hj => ?_)
  · rw [x_st_row _ _ _ _ (by decide)]
    exact hu j hj
  · rw [x_st_row _ _ _ _ (by decide)]
    exact hv j hj
theorem s_cp0 (M N : ST) (post : ST → Prop) (b1 : x_bool (N 1 2)) (b4 : x_bool (N 4 2)) (b7 : x_bool (N 7 2)) (h : ∀ u : ST, (∀ j, 3 ≤ j → j < 7 → u 0 j = N 0 j) → (∀ c, c = 1 ∨ c = 4 ∨ c = 7 → u c 2 = N c 2 ∧ (∀ j, j < 4 → u (c + 1) j = N (c + 1) j) ∧ ∀ j, j < 4 → u (c + 2) j = N (c + 2) j) → post u) : v_X0_copyFrom M N post := by
  unfold v_X0_copyFrom
  refine s_cp4 _ _ _ b1 (fun u u0 u1 u2 => ?_)
  rintro M2 rfl
  refine s_cp4 _ _ _ b4 (fun v v0 v1 v2 => ?_)
  rintro M4 rfl
  refine s_cp4 _ _ _ b7 (fun w w0 w1 w2 => ?_)
  rintro M6 rfl
  rintro M7 rfl
  rintro M8 rfl
  rintro M9 rfl
  rintro M10 rfl
  refine h _ (fun j h1 h2 => ?_) (fun c hc => ?_)
  · rcases (show j = 3 ∨ j = 4 ∨ j = 5 ∨ j = 6 by omega) with rfl | rfl | rfl | rfl <;> simp [x_st_if]
  · rcases hc with rfl | rfl | rfl
    · refine ⟨?_, fun j hj => ?_, fun j hj => ?_⟩ <;> rw [x_st_row _ _ _ _ (by decide), x_st_row _ _ _ _ (by decide), x_st_row _ _ _ _ (by decide), x_st_row _ _ _ _ (by decide)]
      · exact u0
      · exact u1 j hj
      · exact u2 j hj
    · refine ⟨?_, fun j hj => ?_, fun j hj => ?_⟩ <;> rw [x_st_row _ _ _ _ (by decide), x_st_row _ _ _ _ (by decide), x_st_row _ _ _ _ (by decide), x_st_row _ _ _ _ (by decide)]
      · exact v0
      · exact v1 j hj
      · exact v2 j hj
    · refine ⟨?_, fun j hj => ?_, fun j hj => ?_⟩ <;> rw [x_st_row _ _ _ _ (by decide), x_st_row _ _ _ _ (by decide), x_st_row _ _ _ _ (by decide), x_st_row _ _ _ _ (by decide)]
      · exact w0
      · exact w1 j hj
      · exact w2 j hj
theorem s_cp2 (M N : ST) (post : ST → Prop) (h : ∀ u : ST, (∀ j, 1 ≤ j → j < 11 → u 0 j = N 0 j) → (∀ j, j < 8 → u 1 j = N 1 j) → post u) : v_X2_copyFrom M N post := by
  unfold v_X2_copyFrom
  simp only [forall_eq]
  refine h _ (fun j h1 h2 => ?_) (fun j hj => ?_)
  · rcases (show j = 1 ∨ j = 2 ∨ j = 3 ∨ j = 4 ∨ j = 5 ∨ j = 6 ∨ j = 7 ∨ j = 8 ∨ j = 9 ∨ j = 10 by omega) with rfl | rfl | rfl | rfl | rfl | rfl | rfl | rfl | rfl | rfl <;> simp [x_st_if]
  · iterate 10 rw [x_st_row _ _ _ _ (by decide)]
    exact x_cp_at _ _ _ _ hj
theorem s_cp5 (M N : ST) (post : ST → Prop) (h : ∀ u : ST, (∀ j, j < 5 → u 1 j = N 1 j) → post u) : v_X5_copyFrom M N post := by
  unfold v_X5_copyFrom
  rintro M1 rfl
  exact h _ (fun j hj => x_cp_at _ _ _ _ hj)
theorem s_cp1 (M N : ST) (post : ST → Prop) (h : ∀ u : ST, u 0 4 = N 0 4 → (∀ c, 1 ≤ c → c < 5 → ∀ j, j < 16 → u c j = N c j) → post u) : v_X1_copyFrom M N post := by
  unfold v_X1_copyFrom
  simp only [forall_eq]
  refine h _ (x_st_at _ _ _ _) (fun c c1 c2 j hj => ?_)
  rcases (show c = 1 ∨ c = 2 ∨ c = 3 ∨ c = 4 by omega) with rfl | rfl | rfl | rfl
  · rw [x_st_row _ _ _ _ (by decide), x_cp_row _ _ _ _ (by decide), x_cp_row _ _ _ _ (by decide), x_cp_row _ _ _ _ (by decide), x_cp_at _ _ _ _ hj]
  · rw [x_st_row _ _ _ _ (by decide), x_cp_row _ _ _ _ (by decide), x_cp_row _ _ _ _ (by decide), x_cp_at _ _ _ _ hj]
  · rw [x_st_row _ _ _ _ (by decide), x_cp_row _ _ _ _ (by decide), x_cp_at _ _ _ _ hj]
  · rw [x_st_row _ _ _ _ (by decide), x_cp_at _ _ _ _ hj]
theorem s_cp7 (M N : ST) (post : ST → Prop) (h : ∀ u : ST, (∀ c, 1 ≤ c → c < 4 → ∀ j, j < 8 → u c j = N c j) → (∀ c, 4 ≤ c → c < 6 → ∀ j, j < 64 → u c j = N c j) → post u) : v_X7_copyFrom M N post := by
  unfold v_X7_copyFrom
  simp only [forall_eq]
  refine h _ (fun c c1 c2 j hj => ?_) (fun c c1 c2 j hj => ?_)
  · rcases (show c = 1 ∨ c = 2 ∨ c = 3 by omega) with rfl | rfl | rfl
    · rw [x_cp_row _ _ _ _ (by decide), x_cp_row _ _ _ _ (by decide), x_cp_row _ _ _ _ (by decide), x_cp_row _ _ _ _ (by decide), x_cp_at _ _ _ _ hj]
    · rw [x_cp_row _ _ _ _ (by decide), x_cp_row _ _ _ _ (by decide), x_cp_row _ _ _ _ (by decide), x_cp_at _ _ _ _ hj]
    · rw [x_cp_row _ _ _ _ (by decide), x_cp_row _ _ _ _ (by decide), x_cp_at _ _ _ _ hj]
  · rcases (show c = 4 ∨ c = 5 by omega) with rfl | rfl
    · rw [x_cp_row _ _ _ _ (by decide), x_cp_at _ _ _ _ hj]
    · rw [x_cp_at _ _ _ _ hj]
/-- all that RR speaks of is the same -/
def AG (M' M : ST) : Prop := (∀ j, 8 ≤ j → j < 12 → M' 0 j = M 0 j) ∧ (∀ j, 3 ≤ j → j < 7 → M' 1 j = M 1 j) ∧ (∀ c, c = 2 ∨ c = 5 ∨ c = 8 → M' c 2 = M c 2 ∧ (∀ j, j < 4 → M' (c + 1) j = M (c + 1) j) ∧ ∀ j, j < 4 → M' (c + 2) j = M (c + 2) j) ∧ (∀ j, 1 ≤ j → j < 11 → M' 11 j = M 11 j) ∧ (∀ j, j < 8 → M' 12 j = M 12 j) ∧ (∀ j, j < 5 → M' 14 j = M 14 j) ∧ M' 15 4 = M 15 4 ∧ (∀ c, 16 ≤ c → c < 20 → ∀ j, j < 16 → M' c j = M c j) ∧ (∀ c, 21 ≤ c → c < 24 → ∀ j, j < 8 → M' c j = M c j) ∧ (∀ c, 24 ≤ c → c < 26 → ∀ j, j < 64 → M' c j = M c j) ∧ (∀ j, j < 1024 → M' 26 j = M 26 j) ∧ (∀ j, j < 4096 → M' 27 j = M 27 j) ∧ ∀ j, j < 512 → M' 28 j = M 28 j
theorem s_cp3 (M N : ST) (post : ST → Prop) (b2 : x_bool (N 2 2)) (b5 : x_bool (N 5 2)) (b8 : x_bool (N 8 2)) (h : ∀ u : ST, AG u N → post u) : v_X3_copyFrom M N post := by
  unfold v_X3_copyFrom
  refine s_cp0 _ _ _ b2 b5 b8 (fun u1 u1a u1b => ?_)
  rintro M2 rfl
  refine s_cp2 _ _ _ (fun u3 u3a u3b => ?_)
  rintro M4 rfl
  refine s_cp5 _ _ _ (fun u5 u5a => ?_)
  rintro M6 rfl
  refine s_cp1 _ _ _ (fun u7 u7a u7b => ?_)
  rintro M8 rfl
  refine s_cp7 _ _ _ (fun u9 u9a u9b => ?_)
  rintro M10 rfl
  rintro M11 rfl
  rintro M12 rfl
  rintro M13 rfl
  rintro M14 rfl
  rintro M15 rfl
  rintro M16 rfl
  rintro M17 rfl
  generalize hX : x_wb (x_wb (x_wb (x_wb (x_wb M 1 10 u1) 11 2 u3) 13 2 u5) 15 5 u7) 20 6 u9 = X
  have hr : ∀ c, c ≠ 0 → c < 26 → x_st (x_st (x_st (x_st (x_cp (x_cp (x_cp X 26 1024 (N 26)) 27 4096 (N 27)) 28 512 (N 28)) 0 8 (N 0 8)) 0 9 (N 0 9)) 0 10 (N 0 10)) 0 11 (N 0 11) c = X c := fun c h0 h1 => by
    rw [x_st_row _ _ _ _ h0, x_st_row _ _ _ _ h0, x_st_row _ _ _ _ h0, x_st_row _ _ _ _ h0, x_cp_row _ _ _ _ (by omega), x_cp_row _ _ _ _ (by omega), x_cp_row _ _ _ _ (by omega)]
  refine h _ ⟨fun j j1 j2 => ?_, fun j j1 j2 => ?_, fun c hc => ?_, fun j j1 j2 => ?_, fun j hj => ?_, fun j hj => ?_, ?_, fun c c1 c2 j hj => ?_, fun c c1 c2 j hj => ?_, fun c c1 c2 j hj => ?_, fun j hj => ?_, fun j hj => ?_, fun j hj => ?_⟩
  · rcases (show j = 8 ∨ j = 9 ∨ j = 10 ∨ j = 11 by omega) with rfl | rfl | rfl | rfl <;> simp [x_st_if]
  · rw [hr 1 (by decide) (by decide), ← hX]; exact u1a j j1 j2
  · rcases hc with rfl | rfl | rfl
    · rw [hr 2 (by decide) (by decide), hr (2 + 1) (by decide) (by decide), hr (2 + 2) (by decide) (by decide), ← hX]; exact u1b 1 (by omega)
    · rw [hr 5 (by decide) (by decide), hr (5 + 1) (by decide) (by decide), hr (5 + 2) (by decide) (by decide), ← hX]; exact u1b 4 (by omega)
    · rw [hr 8 (by decide) (by decide), hr (8 + 1) (by decide) (by decide), hr (8 + 2) (by decide) (by decide), ← hX]; exact u1b 7 (by omega)
  · rw [hr 11 (by decide) (by decide), ← hX]; exact u3a j j1 j2
  · rw [hr 12 (by decide) (by decide), ← hX]; exact u3b j hj
  · rw [hr 14 (by decide) (by decide), ← hX]; exact u5a j hj
  · rw [hr 15 (by decide) (by decide), ← hX]; exact u7a
  · rw [hr c (by omega) (by omega), ← hX]
    rcases (show c = 16 ∨ c = 17 ∨ c = 18 ∨ c = 19 by omega) with rfl | rfl | rfl | rfl
    · exact u7b 1 (by omega) (by omega) j hj
    · exact u7b 2 (by omega) (by omega) j hj
    · exact u7b 3 (by omega) (by omega) j hj
    · exact u7b 4 (by omega) (by omega) j hj
  · rw [hr c (by omega) (by omega), ← hX]
    rcases (show c = 21 ∨ c = 22 ∨ c = 23 by omega) with rfl | rfl | rfl
    · exact u9a 1 (by omega) (by omega) j hj
    · exact u9a 2 (by omega) (by omega) j hj
    · exact u9a 3 (by omega) (by omega) j hj
  · rw [hr c (by omega) (by omega), ← hX]
    rcases (show c = 24 ∨ c = 25 by omega) with rfl | rfl
    · exact u9b 4 (by omega) (by omega) j hj
    · exact u9b 5 (by omega) (by omega) j hj
  · rw [x_st_row _ _ _ _ (by decide), x_st_row _ _ _ _ (by decide), x_st_row _ _ _ _ (by decide), x_st_row _ _ _ _ (by decide), x_cp_row _ _ _ _ (by decide), x_cp_row _ _ _ _ (by decide), x_cp_at _ _ _ _ hj]
  · rw [x_st_row _ _ _ _ (by decide), x_st_row _ _ _ _ (by decide), x_st_row _ _ _ _ (by decide), x_st_row _ _ _ _ (by decide), x_cp_row _ _ _ _ (by decide), x_cp_at _ _ _ _ hj]
  · rw [x_st_row _ _ _ _ (by decide), x_st_row _ _ _ _ (by decide), x_st_row _ _ _ _ (by decide), x_st_row _ _ _ _ (by decide), x_cp_at _ _ _ _ hj]
theorem RR.ag {M M' N : ST} {q : Nat → Nat} (h : RR M N q) (g : AG M' M) : RR M' N q := by
  obtain ⟨h1, h2, h3, h4, h5, h13, h6, h7, h8, h9, h10, h11, h12⟩ := h
  obtain ⟨g0, g1, gm, g11, g12, g14, g15, g16, g21, g24, g26, g27, g28⟩ := g
  refine ⟨⟨h1.1.cg (gm 2 (by omega)).1 (gm 2 (by omega)).2.1 (gm 2 (by omega)).2.2 (fun _ _ => rfl), h1.2⟩, ⟨h2.1.cg (gm 8 (by omega)).1 (gm 8 (by omega)).2.1 (gm 8 (by omega)).2.2 (fun _ _ => rfl), h2.2⟩, ?_, ?_, ?_, fun j hj => ?_, fun k hk => ?_, ?_, ?_, ?_, fun j hj => ?_, fun j hj => ?_, fun j hj => ?_⟩
  · unfold P3 at h3 ⊢
    rw [g1 3 (by omega) (by omega), g1 4 (by omega) (by omega), g1 5 (by omega) (by omega)]
    exact h3
  · unfold P4 at h4 ⊢
    rw [g0 8 (by omega) (by omega), g0 9 (by omega) (by omega), g0 10 (by omega) (by omega), g0 11 (by omega) (by omega)]
    exact h4
  · unfold P5 at h5 ⊢
    rw [g11 1 (by omega) (by omega), g11 2 (by omega) (by omega), g11 3 (by omega) (by omega), g11 4 (by omega) (by omega), g11 5 (by omega) (by omega), g11 6 (by omega) (by omega), g11 7 (by omega) (by omega), g11 8 (by omega) (by omega), g11 9 (by omega) (by omega), g11 10 (by omega) (by omega)]
    exact h5
  · rw [g12 _ (Nat.mod_lt _ (by decide))]
    exact h13 j hj
  · rw [g14 k hk]
    exact h6 k hk
  · have h36 := h7.1.2.2
    refine ⟨by rw [g15]; exact h7.1, fun k hk => ?_⟩
    rw [g16 16 (by omega) (by omega) k (by omega), g16 17 (by omega) (by omega) k (by omega), g16 18 (by omega) (by omega) k (by omega), g16 19 (by omega) (by omega) k (by omega)]
    exact h7.2 k hk
  · refine ⟨by rw [(gm 5 (by omega)).1]; exact h8.1, fun e1 e2 => ?_⟩
    obtain ⟨a, b, c, d⟩ := h8.2 e1 e2
    exact ⟨a.cg (gm 5 (by omega)).1 (gm 5 (by omega)).2.1 (gm 5 (by omega)).2.2 (fun _ _ => rfl), b, c, by rw [g1 6 (by omega) (by omega)]; exact d⟩
  · refine ⟨fun s hs => ?_, fun r hr => ?_⟩
    · obtain ⟨a1, a2, a3, a4⟩ := h9.1 s hs
      rw [g21 21 (by omega) (by omega) s hs, g21 22 (by omega) (by omega) s hs, g21 23 (by omega) (by omega) s hs]
      exact ⟨a1, a2, a3, fun d hd => by rw [g24 24 (by omega) (by omega) (8 * s + d) (by omega)]; exact a4 d hd⟩
    · rw [g24 25 (by omega) (by omega) r hr]
      exact h9.2 r hr
  · rw [g28 j hj]; exact h10 j hj
  · rw [g26 j hj]; exact h11 j hj
  · rw [g27 j hj]; exact h12 j hj
theorem RR.nn {M N N' : ST} {q : Nat → Nat} (h : RR M N q) (hN0 : ∀ k, k < 5880 → N' 1 k = N 1 k) : RR M N' q := by
  obtain ⟨h1, h2, h3, h4, h5, h13, h6, h7, h8, h9, h10, h11, h12⟩ := h
  have hM : ∀ i, i < 29 → M i = M i := fun _ _ => rfl
  have hN : ∀ k, k < 5880 → N' 1 k = N 1 k := hN0
  have hq : ∀ k, k < 5880 → q k = q k := fun _ _ => rfl
  exact ⟨h1.cg (hM 2 (by omega)) (hM 3 (by omega)) (hM 4 (by omega)) (fun k _ => hN k (by omega)) (fun k _ => hq k (by omega)), h2.cg (hM 8 (by omega)) (hM 9 (by omega)) (hM 10 (by omega)) (fun k _ _ => hN k (by omega)) (fun k _ _ => hq k (by omega)), h3.cg ⟨congrFun (hM 1 (by omega)) 3, congrFun (hM 1 (by omega)) 4, congrFun (hM 1 (by omega)) 5⟩ ⟨hN 20 (by omega), hN 21 (by omega), hN 22 (by omega)⟩ (fun k _ => hq k (by omega)) (fun k _ _ => hq k (by omega)), h4.cg (hM 0 (by omega)) ⟨hN 23 (by omega), hN 25 (by omega), hN 27 (by omega), hN 28 (by omega)⟩ ⟨hq 23 (by omega), hq 27 (by omega)⟩, h5.cg (hM 11 (by omega)) (fun k _ _ _ _ _ => hN k (by omega)) (fun k _ _ => hq k (by omega)) (hq 9 (by omega)), h13.cg (hM 12 (by omega)) (fun k _ _ => hN k (by omega)) (hq 33 (by omega)) h5.2.2.2.2.2.1.2.2 (hq 9 (by omega)), h6.cg (hM 14 (by omega)) (fun k _ _ => hN k (by omega)) (fun k _ _ => hq k (by omega)), h7.cg (hM 15 (by omega)) (hM 16 (by omega)) (hM 17 (by omega)) (hM 18 (by omega)) (hM 19 (by omega)) ⟨hN 36 (by omega), hq 36 (by omega)⟩ (fun k _ _ => hN k (by omega)) (fun k _ _ => hq k (by omega)), h8.cg (hM 5 (by omega)) (hM 6 (by omega)) (hM 7 (by omega)) (congrFun (hM 1 (by omega)) 6) (fun k _ _ => hN k (by omega)) (fun k _ _ => hq k (by omega)) (fun k _ => hq k (by omega)) (fun k _ _ => hq k (by omega)), h9.cg (hM 21 (by omega)) (hM 22 (by omega)) (hM 23 (by omega)) (hM 24 (by omega)) (hM 25 (by omega)) (fun k _ _ => hN k (by omega)) (fun k _ _ => hq k (by omega)), h10.cg (hM 28 (by omega)) (fun k _ _ => hN k (by omega)), h11.cg (hM 26 (by omega)) (fun k _ _ => hN k (by omega)), h12.cg (hM 27 (by omega)) (fun k _ _ => hN k (by omega))⟩
theorem RR.b2 {M N : ST} {q : Nat → Nat} (h : RR M N q) : x_bool (M 2 2) ∧ x_bool (M 5 2) ∧ x_bool (M 8 2) := by
  have f : ∀ n : Nat, n ≤ 1 → x_bool (nI n) := fun n hn => by
    rcases (show n = 0 ∨ n = 1 by omega) with rfl | rfl
    · exact Or.inl rfl
    · exact Or.inr rfl
  refine ⟨?_, h.2.2.2.2.2.2.2.2.1.1, ?_⟩
  · rw [h.1.1.2.2]; exact f _ h.1.2.2.2.2.2.2.2.2.2.2
  · rw [h.2.1.1.2.2]; exact f _ h.2.1.2.2.2.2.2.2.2.2.2.2
