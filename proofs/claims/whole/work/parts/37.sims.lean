/-! ===== a tick, part by part: the line that comes next ===== -/
def rwN (t y f : Nat) : Nat := if t = 0 then y else 2 * y + f
def byN (s : Nat) : Nat := (s + 7) / 8 + 1
theorem s_rowC (F : ST) {t y f : Nat} (e : F 0 2 = nI t) (ht : t ≤ 1) (post : Int32 → Prop) (hp : post (nI (rwN t y f))) : v_X4_rowOf F (nI y) (nI f) post := by
  unfold v_X4_rowOf
  rw [e]
  unfold rwN at hp
  refine ⟨fun c => ?_, fun c => ?_⟩
  · have : t = 0 := nI_inj (b := 0) (by omega) (by decide) c
    rw [if_pos this] at hp; exact hp
  · have : ¬ t = 0 := fun z => c (by rw [z]; rfl)
    rw [if_neg this] at hp
    rw [lit_nI 2, pk_mul, nI_add]; exact hp
theorem s_rowM {t y f : Nat} (ht : t ≤ 1) (post : Int32 → Prop) (hp : post (nI (rwN t y f))) : v_X9_rowOf (nI y) (nI f) (nI t) post := by
  unfold v_X9_rowOf
  unfold rwN at hp
  refine ⟨fun c => ?_, fun c => ?_⟩
  · have : t = 0 := by
      rcases (show t = 0 ∨ t = 1 by omega) with z | z
      · exact z
      · exact absurd (by rw [z]; rfl) c
    rw [if_pos this] at hp; exact hp
  · have : t = 1 := nI_inj (b := 1) (by omega) (by decide) c
    rw [if_neg (by omega)] at hp
    rw [lit_nI 2, pk_mul, nI_add]; exact hp
theorem by_nI {s : Nat} (hs : s < 1000) : ((nI s + 7) / 8 + 1 : Int32) = nI (byN s) := by
  rw [lit_nI 7, nI_add, lit_nI 8, pk_div (by omega) (by decide) (by decide), nI_1]; rfl
theorem s_byC {s : Nat} (hs : s < 1000) (post : Int32 → Prop) (hp : post (nI (byN s))) : v_X8_bytesOfLine (nI s) post := by
  unfold v_X8_bytesOfLine; rw [by_nI hs]; exact hp
theorem s_byM {s : Nat} (hs : s < 1000) (post : Int32 → Prop) (hp : post (nI (byN s))) : v_X9_bytesOf (nI s) post := by
  unfold v_X9_bytesOf; rw [by_nI hs]; exact hp
def sl (M : ST) (r b : Int32) : ST := x_st (x_st (x_st (x_st (x_st M 11 2 0) 11 5 0) 11 6 r) 11 7 0) 11 8 b
theorem s_startLine (M : ST) (r b : Int32) (post : ST → Prop) (hp : post (sl M r b)) : v_X2_startLine (x_sh M 11) r b (fun u => ∀ M5 : ST, M5 = x_wb M 11 2 u → post M5) := by
  unfold v_X2_startLine
  rintro M1 rfl
  rintro M2 rfl
  rintro M3 rfl
  rintro M4 rfl
  rintro M5 rfl
  rintro M6 rfl
  rw [x_wb_st _ _ _ _ _ _ _ (show 0 < 2 by decide), x_wb_st _ _ _ _ _ _ _ (show 0 < 2 by decide), x_wb_st _ _ _ _ _ _ _ (show 0 < 2 by decide), x_wb_st _ _ _ _ _ _ _ (show 0 < 2 by decide), x_wb_st _ _ _ _ _ _ _ (show 0 < 2 by decide), x_wb_sh]
  exact hp
theorem s_feedH (M : ST) {s0 s4 t y f : Nat} (e0 : M 3 0 = nI s0) (e4 : M 4 0 = nI s4) (et : M 2 2 = nI t) (h0 : s0 < 1000) (h4 : s4 < 1000) (ht : t ≤ 1) (hy : y < 1000) (post : ST → Prop) (hp : post (sl M (nI (rwN t y f)) (nI (if y < s4 then byN s0 else 0)))) : v_X3_startFeed_h M (nI y) (nI f) post := by
  unfold v_X3_startFeed_h
  refine s_isSeen _ _ s4 e4 (by omega) (by omega) _ ?_
  by_cases c : y < s4
  · rw [if_pos c] at hp
    rw [if_pos c, e0]
    refine ⟨fun z => absurd z one_ne, fun _ => s_byC h0 _ (s_rowC _ et ht _ (s_startLine _ _ _ _ hp))⟩
  · rw [if_neg c] at hp
    rw [if_neg c]
    exact ⟨fun _ => s_rowC _ et ht _ (s_startLine _ _ _ _ hp), fun z => absurd rfl z⟩
theorem s_feedT (M : ST) {s0 s4 t y f : Nat} (e0 : M 6 0 = nI s0) (e4 : M 7 0 = nI s4) (et : M 5 2 = nI t) (h0 : s0 < 1000) (h4 : s4 < 1000) (ht : t ≤ 1) (hy : y < 1000) (post : ST → Prop) (hp : post (sl M (nI (rwN t y f)) (nI (if y < s4 then byN s0 else 0)))) : v_X3_startFeed_t M (nI y) (nI f) post := by
  unfold v_X3_startFeed_t
  refine s_isSeen _ _ s4 e4 (by omega) (by omega) _ ?_
  by_cases c : y < s4
  · rw [if_pos c] at hp
    rw [if_pos c, e0]
    refine ⟨fun z => absurd z one_ne, fun _ => s_byC h0 _ (s_rowC _ et ht _ (s_startLine _ _ _ _ hp))⟩
  · rw [if_neg c] at hp
    rw [if_neg c]
    exact ⟨fun _ => s_rowC _ et ht _ (s_startLine _ _ _ _ hp), fun z => absurd rfl z⟩
def mcpM (M : ST) (c : Nat) (a0 a1 a2 a3 b0 b1 b2 b3 t : Int32) : ST := x_st (x_st (x_st (x_st (x_st (x_st (x_st (x_st (x_st M (c + 1) 0 a0) (c + 1) 1 a1) (c + 1) 2 a2) (c + 1) 3 a3) (c + 2) 0 b0) (c + 2) 1 b1) (c + 2) 2 b2) (c + 2) 3 b3) c 2 t
theorem s_mocopy (F G : ST) (hb : x_bool (G 0 2)) (post : ST → Prop) (hp : post (mcpM F 0 (G 1 0) (G 1 1) (G 1 2) (G 1 3) (G 2 0) (G 2 1) (G 2 2) (G 2 3) (G 0 2))) : v_X4_copyFrom F G post := by
  unfold v_X4_copyFrom v_X6_copyFrom
  simp only [s_tell, forall_eq]
  refine ⟨hb, ?_⟩
  rw [x_wb_st _ _ _ _ _ _ _ (show 0 < 1 by decide), x_wb_st _ _ _ _ _ _ _ (show 0 < 1 by decide), x_wb_st _ _ _ _ _ _ _ (show 0 < 1 by decide), x_wb_st _ _ _ _ _ _ _ (show 0 < 1 by decide), x_wb_sh]
  rw [x_wb_st _ _ _ _ _ _ _ (show 0 < 1 by decide), x_wb_st _ _ _ _ _ _ _ (show 0 < 1 by decide), x_wb_st _ _ _ _ _ _ _ (show 0 < 1 by decide), x_wb_st _ _ _ _ _ _ _ (show 0 < 1 by decide), x_wb_sh]
  exact hp
theorem mcp_wb (M u : ST) (k n c : Nat) (hc : c + 2 < n) (a0 a1 a2 a3 b0 b1 b2 b3 t : Int32) : x_wb M k n (mcpM u c a0 a1 a2 a3 b0 b1 b2 b3 t) = mcpM (x_wb M k n u) (k + c) a0 a1 a2 a3 b0 b1 b2 b3 t := by
  unfold mcpM
  rw [x_wb_st _ _ _ _ _ _ _ (by omega), x_wb_st _ _ _ _ _ _ _ (by omega), x_wb_st _ _ _ _ _ _ _ (by omega), x_wb_st _ _ _ _ _ _ _ (by omega), x_wb_st _ _ _ _ _ _ _ (by omega), x_wb_st _ _ _ _ _ _ _ (by omega), x_wb_st _ _ _ _ _ _ _ (by omega), x_wb_st _ _ _ _ _ _ _ (by omega), x_wb_st _ _ _ _ _ _ _ (by omega)]
  rfl
theorem mcp_row (M : ST) (c : Nat) (a0 a1 a2 a3 b0 b1 b2 b3 t : Int32) {i : Nat} (h : i < c ∨ c + 2 < i) : mcpM M c a0 a1 a2 a3 b0 b1 b2 b3 t i = M i := by
  unfold mcpM
  rw [x_st_row _ _ _ _ (by omega), x_st_row _ _ _ _ (by omega), x_st_row _ _ _ _ (by omega), x_st_row _ _ _ _ (by omega), x_st_row _ _ _ _ (by omega), x_st_row _ _ _ _ (by omega), x_st_row _ _ _ _ (by omega), x_st_row _ _ _ _ (by omega), x_st_row _ _ _ _ (by omega)]
theorem mcp_eq (M : ST) (c : Nat) (q : Nat → Nat) (b : Nat) (a0 a1 a2 a3 b0 b1 b2 b3 t : Int32) (h : (a0 = nI (q b) ∧ a1 = nI (q (b + 1)) ∧ a2 = nI (q (b + 2)) ∧ a3 = nI (q (b + 3))) ∧ (b0 = nI (q (b + 4)) ∧ b1 = nI (q (b + 5)) ∧ b2 = nI (q (b + 6)) ∧ b3 = nI (q (b + 7))) ∧ t = nI (q (b + 8))) : modeEq (mcpM M c a0 a1 a2 a3 b0 b1 b2 b3 t) c q b := by
  obtain ⟨⟨x0, x1, x2, x3⟩, ⟨y0, y1, y2, y3⟩, z⟩ := h
  have n1 : ¬ c + 1 = c := by omega
  have n2 : ¬ c + 2 = c := by omega
  have n3 : ¬ c + 1 = c + 2 := by omega
  have n4 : ¬ c + 2 = c + 1 := by omega
  have n5 : ¬ c = c + 1 := by omega
  have n6 : ¬ c = c + 2 := by omega
  refine ⟨⟨?_, ?_, ?_, ?_⟩, ⟨?_, ?_, ?_, ?_⟩, ?_⟩
  · rw [← x0]; simp [mcpM, x_st_if, n1, n2, n3, n4, n5, n6]
  · rw [← x1]; simp [mcpM, x_st_if, n1, n2, n3, n4, n5, n6]
  · rw [← x2]; simp [mcpM, x_st_if, n1, n2, n3, n4, n5, n6]
  · rw [← x3]; simp [mcpM, x_st_if, n1, n2, n3, n4, n5, n6]
  · rw [← y0]; simp [mcpM, x_st_if, n1, n2, n3, n4, n5, n6]
  · rw [← y1]; simp [mcpM, x_st_if, n1, n2, n3, n4, n5, n6]
  · rw [← y2]; simp [mcpM, x_st_if, n1, n2, n3, n4, n5, n6]
  · rw [← y3]; simp [mcpM, x_st_if, n1, n2, n3, n4, n5, n6]
  · rw [← z]; simp [mcpM, x_st_if, n1, n2, n3, n4, n5, n6]
theorem nI_sub1 {f : Nat} (hf : f ≤ 1) : (1 - nI f : Int32) = nI (1 - f) := by rw [lit_nI 1, pk_sub hf]
theorem s_takeUp (M : ST) {t u f : Nat} (et : M 2 2 = nI t) (eu : M 8 2 = nI u) (ef : M 1 5 = nI f) (ht : t ≤ 1) (hu : u ≤ 1) (hf : f ≤ 1) (post : ST → Prop) (hp : post (x_st (mcpM M 5 (M 9 0) (M 9 1) (M 9 2) (M 9 3) (M 10 0) (M 10 1) (M 10 2) (M 10 3) (M 8 2)) 1 6 (nI (if t = 1 ∧ u = 1 then 1 - f else 0)))) : v_X0_takeUp (x_sh M 1) (fun u => ∀ M5 : ST, M5 = x_wb M 1 10 u → post M5) := by
  have hb : x_bool (x_sh (x_sh M 1) 7 0 2) := by
    have : x_sh (x_sh M 1) 7 0 2 = nI u := eu
    rw [this]
    rcases (show u = 0 ∨ u = 1 by omega) with z | z
    · exact Or.inl (by rw [z]; rfl)
    · exact Or.inr (by rw [z]; rfl)
  unfold v_X0_takeUp
  refine s_mocopy _ _ hb _ ?_
  rintro M2 rfl
  rw [mcp_wb _ _ _ _ _ (by decide), x_wb_sh]
  have k1 : mcpM (x_sh M 1) (4 + 0) (x_sh (x_sh M 1) 7 1 0) (x_sh (x_sh M 1) 7 1 1) (x_sh (x_sh M 1) 7 1 2) (x_sh (x_sh M 1) 7 1 3) (x_sh (x_sh M 1) 7 2 0) (x_sh (x_sh M 1) 7 2 1) (x_sh (x_sh M 1) 7 2 2) (x_sh (x_sh M 1) 7 2 3) (x_sh (x_sh M 1) 7 0 2) = mcpM (x_sh M 1) 4 (M 9 0) (M 9 1) (M 9 2) (M 9 3) (M 10 0) (M 10 1) (M 10 2) (M 10 3) (M 8 2) := rfl
  rw [k1]
  generalize hB : mcpM (x_sh M 1) 4 (M 9 0) (M 9 1) (M 9 2) (M 9 3) (M 10 0) (M 10 1) (M 10 2) (M 10 3) (M 8 2) = B
  have b1 : B 1 2 = nI t := by rw [← hB, mcp_row _ _ _ _ _ _ _ _ _ _ _ (Or.inl (by decide))]; exact et
  have b4 : B 4 2 = nI u := by rw [← hB]; simp only [mcpM, x_st_at]; exact eu
  have b0 : B 0 5 = nI f := by rw [← hB, mcp_row _ _ _ _ _ _ _ _ _ _ _ (Or.inl (by decide))]; exact ef
  have fin : ∀ v : Int32, v = nI (if t = 1 ∧ u = 1 then 1 - f else 0) → ∀ M4 : ST, M4 = x_st B 0 6 v → ∀ M5 : ST, M5 = x_wb M 1 10 M4 → post M5 := by
    rintro v rfl M4 rfl M5 rfl
    rw [x_wb_st _ _ _ _ _ _ _ (show 0 < 10 by decide), ← hB, mcp_wb _ _ _ _ _ (by decide), x_wb_sh]
    exact hp
  rw [b1, b4, b0]
  refine ⟨fun c => ?_, fun c => ⟨fun c2 => ?_, fun c2 => ?_⟩⟩
  · have : t = 0 := nI_inj (b := 0) (by omega) (by decide) c
    exact fin 0 (by rw [if_neg (by omega)]; rfl)
  · have : u = 0 := nI_inj (b := 0) (by omega) (by decide) c2
    exact fin 0 (by rw [if_neg (by omega)]; rfl)
  · have n1 : ¬ t = 0 := fun z => c (by rw [z]; rfl)
    have n2 : ¬ u = 0 := fun z => c2 (by rw [z]; rfl)
    exact fin _ (by rw [if_pos (by omega), nI_sub1 hf])
theorem copyN : ∀ (d k : Nat) (N : ST), k + d = 10 → ∃ N' : ST, (∀ (post : ST → Prop) (K : Int32 → ST → Prop), K (nI 10) N' → lp_X9_begins_53 post K (d + 1) (nI k) N) ∧ (∀ j, k ≤ j → j < 10 → N' 1 (5870 + j) = N 1 (10 + j)) ∧ (∀ i, i < 5870 + k ∨ 5880 ≤ i → N' 1 i = N 1 i) ∧ N' 2 = N 2 := by
  intro d
  induction d with
  | zero =>
    intro k N hk
    have hk : k = 10 := by omega
    subst hk
    refine ⟨N, fun post K hK => ?_, fun j h1 h2 => absurd h1 (by omega), fun _ _ => rfl, rfl⟩
    unfold lp_X9_begins_53
    exact ⟨fun _ => hK, fun c => absurd (by decide) c⟩
  | succ d ih =>
    intro k N hk
    obtain ⟨N', a1, a2, a3, a4⟩ := ih (k + 1) (x_st N 1 (5870 + k) (N 1 (10 + k))) (by omega)
    refine ⟨N', fun post K hK => ?_, fun j h1 h2 => ?_, fun i hi => ?_, ?_⟩
    · unfold lp_X9_begins_53
      refine ⟨fun c => absurd c (nI_ge (a := k) (b := 10) (by omega) (by decide)), fun _ => ⟨10 + k, by omega, by rw [lit_nI 10, nI_add], 5870 + k, by omega, by rw [lit_nI 5870, nI_add], ?_⟩⟩
      rintro M45 rfl
      rintro x rfl
      rw [nI_1]
      exact a1 post K hK
    · by_cases e : j = k
      · subst e
        rw [a3 (5870 + j) (by omega), x_st_at]
      · rw [a2 j (by omega) h2, x_st_col _ _ _ _ (by omega)]
    · rw [a3 i (by omega), x_st_col _ _ _ _ (by omega)]
    · rw [a4, x_st_row _ _ _ _ (by decide)]
theorem RR.feed0 {M N M' N' : ST} {q q' : Nat → Nat} (h : RR M N q) {r b : Nat} (hM : ∀ i, i = 0 ∨ (2 ≤ i ∧ i < 5) ∨ (8 ≤ i ∧ i < 11) ∨ 11 < i → M' i = M i) (hb1 : M' 1 3 = M 1 3 ∧ M' 1 4 = M 1 4 ∧ M' 1 5 = M 1 5) (hN : ∀ k, k < 30 ∨ (36 ≤ k ∧ k < 5870) → N' 1 k = N 1 k) (hq : ∀ k, k < 30 ∨ (36 ≤ k ∧ k < 5870) → q' k = q k)
    (f : M' 11 9 = M 11 9 ∧ M' 11 10 = M 11 10 ∧ M' 11 3 = M 11 3 ∧ M' 11 1 = M 11 1 ∧ M' 11 2 = nI 0 ∧ M' 11 5 = nI 0 ∧ M' 11 6 = nI r ∧ M' 11 7 = nI 0 ∧ M' 11 8 = nI b) (g : N' 1 30 = nI r ∧ N' 1 31 = nI b ∧ N' 1 32 = nI 0 ∧ N' 1 33 = nI 0 ∧ N' 1 35 = nI 0) (qq : q' 30 = r ∧ q' 31 = b ∧ q' 32 = 0 ∧ q' 33 = 0 ∧ q' 35 = 0) (hr : r ≤ 200) (hb : b ≤ 9) (h8' : P8 M' N' q') : RR M' N' q' := by
  obtain ⟨h1, h2, h3, h4, h5, h13, h6, h7, h8, h9, h10, h11, h12⟩ := h
  obtain ⟨⟨a1, a2⟩, ⟨d1, d2, d3, d4⟩, -, -, -, -, -, -, j1, j2⟩ := id h5
  obtain ⟨f9, f10, f3, f1, f2, f5, f6, f7, f8⟩ := f
  obtain ⟨g30, g31, g32, g33, g35⟩ := g
  obtain ⟨q30, q31, q32, q33, q35⟩ := qq
  have h5' : P5 M' N' q' := ⟨⟨by rw [f9, hN 24 (by omega)]; exact a1, by rw [f10, hN 26 (by omega)]; exact a2⟩, ⟨by rw [f3, hq 29 (by omega)]; exact d1, by rw [hN 29 (by omega), hq 29 (by omega)]; exact d2, by rw [hq 29 (by omega)]; exact d3, by rw [hq 29 (by omega)]; exact d4⟩, ⟨by rw [f6, q30], by rw [g30, q30], by rw [q30]; exact hr⟩, ⟨by rw [f8, q31], by rw [g31, q31], by rw [q31]; exact hb⟩, ⟨by rw [f7, q32], by rw [g32, q32], by omega⟩, ⟨by rw [f2, q33], by rw [g33, q33], by omega⟩, ⟨by rw [f5, q35], by rw [g35, q35], by omega⟩, Or.inl q35, by rw [f1, hq 9 (by omega)]; exact j1, by rw [hq 9 (by omega)]; exact j2⟩
  have h13' : P13 M' N' q' := fun j hj => by rw [q33] at hj; omega
  exact ⟨h1.cg (hM 2 (by omega)) (hM 3 (by omega)) (hM 4 (by omega)) (fun k _ => hN k (by omega)) (fun k _ => hq k (by omega)), h2.cg (hM 8 (by omega)) (hM 9 (by omega)) (hM 10 (by omega)) (fun k _ _ => hN k (by omega)) (fun k _ _ => hq k (by omega)), h3.cg hb1 ⟨hN 20 (by omega), hN 21 (by omega), hN 22 (by omega)⟩ (fun k _ => hq k (by omega)) (fun k _ _ => hq k (by omega)), h4.cg (hM 0 (by omega)) ⟨hN 23 (by omega), hN 25 (by omega), hN 27 (by omega), hN 28 (by omega)⟩ ⟨hq 23 (by omega), hq 27 (by omega)⟩, h5', h13', h6.cg (hM 14 (by omega)) (fun k _ _ => hN k (by omega)) (fun k _ _ => hq k (by omega)), h7.cg (hM 15 (by omega)) (hM 16 (by omega)) (hM 17 (by omega)) (hM 18 (by omega)) (hM 19 (by omega)) ⟨hN 36 (by omega), hq 36 (by omega)⟩ (fun k _ _ => hN k (by omega)) (fun k _ _ => hq k (by omega)), h8', h9.cg (hM 21 (by omega)) (hM 22 (by omega)) (hM 23 (by omega)) (hM 24 (by omega)) (hM 25 (by omega)) (fun k _ _ => hN k (by omega)) (fun k _ _ => hq k (by omega)), h10.cg (hM 28 (by omega)) (fun k _ _ => hN k (by omega)), h11.cg (hM 26 (by omega)) (fun k _ _ => hN k (by omega)), h12.cg (hM 27 (by omega)) (fun k _ _ => hN k (by omega))⟩
