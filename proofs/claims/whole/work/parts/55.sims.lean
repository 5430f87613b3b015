/-! ===== the start ===== -/
def n0 (k : Nat) : Nat := if k = 43 then 1 else if k = 41 then 8 else if k = 29 then 2 else if k = 27 then 1 else if k = 21 then 10 else if k = 20 then 16 else if k = 10 + 7 then 1 else if k = 10 + 6 then 1 else if k = 10 + 5 then 1 else if k = 10 + 4 then 8 else if k = 10 + 3 then 3 else if k = 10 + 2 then 3 else if k = 10 + 1 then 2 else if k = 10 then 16 else if k = 0 + 7 then 1 else if k = 0 + 6 then 1 else if k = 0 + 5 then 1 else if k = 0 + 4 then 8 else if k = 0 + 3 then 3 else if k = 0 + 2 then 3 else if k = 0 + 1 then 2 else if k = 0 then 16 else 0
theorem n0_z {k : Nat} (h : 44 ≤ k) : n0 k = 0 := by
  unfold n0
  repeat rw [if_neg (by omega)]
theorem st_n {M : ST} {k n j : Nat} (v : Nat) {w : Int32} (hw : w = nI v) (h : M 1 k = nI n) : x_st M 1 j w 1 k = nI (if k = j then v else n) := by
  rw [x_st_if, hw]
  by_cases e : k = j
  · rw [if_pos ⟨rfl, e⟩, if_pos e]
  · rw [if_neg (fun z => e z.2), if_neg e, h]
theorem in_step {post : ST → Prop} {K : Int32 → ST → Prop} {n y : Nat} (hy : y = 0 ∨ y = 10) {M : ST} (h : lp_X9_init_22 post K n (nI (y + 10)) (x_st (x_st (x_st (x_st (x_st (x_st (x_st (x_st M 1 y 16) 1 (y + 1) 2) 1 (y + 2) 3) 1 (y + 3) 3) 1 (y + 4) 8) 1 (y + 5) 1) 1 (y + 6) 1) 1 (y + 7) 1)) : lp_X9_init_22 post K (n + 1) (nI y) M := by
  unfold lp_X9_init_22
  refine ⟨fun c => absurd c (nI_ge (a := y) (b := 20) (by omega) (by decide)), fun _ => ⟨y, by omega, rfl, ?_⟩⟩
  rintro _ rfl
  refine ⟨y + 1, by omega, by rw [nI_1], ?_⟩
  rintro _ rfl
  refine ⟨y + 2, by omega, by rw [lit_nI 2, nI_add], ?_⟩
  rintro _ rfl
  refine ⟨y + 3, by omega, by rw [lit_nI 3, nI_add], ?_⟩
  rintro _ rfl
  refine ⟨y + 4, by omega, by rw [lit_nI 4, nI_add], ?_⟩
  rintro _ rfl
  refine ⟨y + 5, by omega, by rw [lit_nI 5, nI_add], ?_⟩
  rintro _ rfl
  refine ⟨y + 6, by omega, by rw [lit_nI 6, nI_add], ?_⟩
  rintro _ rfl
  refine ⟨y + 7, by omega, by rw [lit_nI 7, nI_add], ?_⟩
  rintro _ rfl
  rintro x rfl
  rw [lit_nI 10, nI_add]
  exact h
theorem s_init9 : v_X9_init (fun u => (∀ k, u 1 k = nI (n0 k)) ∧ ∀ k, u 2 k = 0) := by
  unfold v_X9_init
  intro M eM
  refine ⟨3, in_step (n := 2) (y := 0) (by omega) (in_step (n := 1) (y := 10) (by omega) ?_)⟩
  unfold lp_X9_init_22
  refine ⟨fun _ => ?_, fun c => absurd (nI_le (Nat.le_refl 20) (by decide)) c⟩
  simp only [forall_eq]
  have e1 : ∀ k, M 1 k = nI 0 := fun k => by rw [eM]; rfl
  have e2 : ∀ k, M 2 k = 0 := fun k => by rw [eM]; rfl
  refine ⟨fun k => ?_, fun k => ?_⟩
  · exact st_n 1 rfl (st_n 8 rfl (st_n 2 rfl (st_n 1 rfl (st_n 10 rfl (st_n 16 rfl (st_n 1 rfl (st_n 1 rfl (st_n 1 rfl (st_n 8 rfl (st_n 3 rfl (st_n 3 rfl (st_n 2 rfl (st_n 16 rfl (st_n 1 rfl (st_n 1 rfl (st_n 1 rfl (st_n 8 rfl (st_n 3 rfl (st_n 3 rfl (st_n 2 rfl (st_n 16 rfl (e1 k))))))))))))))))))))))
  · repeat rw [x_st_row _ _ _ _ (by decide)]
    exact e2 k
theorem fill_all : ∀ (d i : Nat) (M : ST), i + d = 4096 → ∃ M' : ST, (∀ (post : ST → Prop) (K : Int32 → ST → Prop), K (nI 4096) M' → lp_J7_fill_53178_5 (-1) post K (d + 1) (nI i) M) ∧ (∀ j, i ≤ j → j < 4096 → M' 0 j = -1) ∧ ∀ j, j < i → M' 0 j = M 0 j := by
  intro d
  induction d with
  | zero =>
    intro i M hi
    have hi : i = 4096 := by omega
    subst hi
    refine ⟨M, fun post K hK => ?_, fun j h1 h2 => absurd h1 (by omega), fun _ _ => rfl⟩
    unfold lp_J7_fill_53178_5
    exact ⟨fun _ => hK, fun c => absurd (nI_le (Nat.le_refl 4096) (by decide)) c⟩
  | succ d ih =>
    intro i M hi
    obtain ⟨M', a1, a2, a3⟩ := ih (i + 1) (x_st M 0 i (-1)) (by omega)
    refine ⟨M', fun post K hK => ?_, fun j h1 h2 => ?_, fun j hj => ?_⟩
    · unfold lp_J7_fill_53178_5
      refine ⟨fun c => absurd c (nI_ge (a := i) (b := 4096) (by omega) (by decide)), fun _ => ⟨i, by omega, rfl, ?_⟩⟩
      rintro M9 rfl
      rintro x rfl
      rw [nI_1]
      exact a1 post K hK
    · by_cases e : j = i
      · subst e
        rw [a3 _ (by omega), x_st_at]
      · exact a2 j (by omega) h2
    · rw [a3 j (by omega), x_st_col _ _ _ _ (by omega)]
/-- what a new machine's cells hold -/
def M00 (z : Nat → Int32) : ST := fun i => if i = 0 then x_fl [0, 0, 0, 0, 0, 0, 0, 0, 1, 0, 0, 0] else if i = 1 then x_fl [0, 0, 0, 16, 10, 0, 0] else if i = 2 ∨ i = 5 ∨ i = 8 then (fun _ => 0) else if i = 3 ∨ i = 6 ∨ i = 9 then x_fl [16, 2, 3, 3] else if i = 4 ∨ i = 7 ∨ i = 10 then x_fl [8, 1, 1, 1] else if i = 11 then x_fl [0, 0, 0, 2, 0, 0, 0, 0, 0, 0, 0] else if i = 14 then x_fl [0, 8, 0, 1, 0] else if i = 27 then z else (fun _ => 0)
theorem fl_z {l : List Int32} (h : ∀ x ∈ l, x = 0) (j : Nat) : x_fl l j = 0 := by
  unfold x_fl
  rw [List.getD_eq_getElem?_getD]
  cases e : l[j]? with
  | none => rfl
  | some x => exact h x (List.mem_of_getElem? e)
theorem RR0 {N z} (hN : ∀ k, N 1 k = nI (n0 k)) (hz : ∀ j, j < 4096 → z j = -1) : RR (M00 z) N n0 := by
  have hz0 : ∀ k, 44 ≤ k → N 1 k = 0 := fun k hk => by rw [hN, n0_z hk]; rfl
  have ok0 : modeOK n0 0 := by unfold modeOK; decide
  have ok1 : modeOK n0 10 := by unfold modeOK; decide
  refine ⟨⟨⟨⟨rfl, rfl, rfl, rfl⟩, ⟨rfl, rfl, rfl, rfl⟩, rfl⟩, fun k _ => hN _, ok0⟩, ⟨⟨⟨rfl, rfl, rfl, rfl⟩, ⟨rfl, rfl, rfl, rfl⟩, rfl⟩, fun k _ => hN _, ok1⟩, ⟨⟨rfl, hN _, by decide⟩, ⟨rfl, hN _, by decide⟩, ⟨rfl, hN _, by decide⟩⟩, ⟨⟨rfl, hN _, by decide⟩, (hN 25).symm, ⟨rfl, hN _, by decide, by decide⟩, (hN 28).symm⟩, ⟨⟨(hN 24).symm, (hN 26).symm⟩, ⟨rfl, hN _, by decide, by decide⟩, ⟨rfl, hN _, by decide⟩, ⟨rfl, hN _, by decide⟩, ⟨rfl, hN _, by decide⟩, ⟨rfl, hN _, by decide⟩, ⟨rfl, hN _, by decide⟩, Or.inl (by decide), ⟨rfl, by decide⟩⟩, fun j hj => ?_, fun k hk => ?_, ⟨⟨rfl, hN _, by decide⟩, fun k hk => ?_⟩, ⟨Or.inl rfl, fun _ e2 => ?_⟩, ⟨fun s hs => ?_, fun r hr => ?_⟩, fun j hj => ?_, fun j hj => ?_, fun j hj => ?_⟩
  · have : n0 33 = 0 := by decide
    omega
  · rcases (show k = 0 ∨ k = 1 ∨ k = 2 ∨ k = 3 ∨ k = 4 by omega) with rfl | rfl | rfl | rfl | rfl
    · exact ⟨rfl, hN _, by decide⟩
    · exact ⟨rfl, hN _, by decide⟩
    · exact ⟨rfl, hN _, by decide⟩
    · exact ⟨rfl, hN _, by decide⟩
    · exact ⟨rfl, hN _, by decide⟩
  · have : n0 36 = 0 := by decide
    omega
  · exact absurd e2 (by decide)
  · rw [hz0 (130 + 11 * s) (by omega), hz0 (130 + 11 * s + 1) (by omega), hz0 (130 + 11 * s + 2) (by omega), n0_z (show 44 ≤ 130 + 11 * s + 1 by omega), n0_z (show 44 ≤ 130 + 11 * s + 2 by omega)]
    exact ⟨⟨rfl, by decide, by decide⟩, ⟨rfl, rfl, by decide⟩, ⟨rfl, rfl, by decide⟩, fun d hd => by rw [hz0 (130 + 11 * s + 3 + d) (by omega)]; rfl⟩
  · refine ⟨0, rfl, by decide, fun s hs => ?_⟩
    rw [n0_z (show 44 ≤ 130 + 11 * s + 1 by omega), n0_z (show 44 ≤ 130 + 11 * s + 2 by omega), Nat.zero_testBit]
    simp
  · rw [hz0 (220 + j) (by omega)]; rfl
  · rw [hz0 (740 + j) (by omega)]; rfl
  · rw [hz0 (1770 + j) (by omega)]
    show z j + 1 = 0
    rw [hz j hj]
    decide
theorem s_init3 {N : ST} (hN : ∀ k, N 1 k = nI (n0 k)) (post : ST → Prop) (h : ∀ u : ST, RR u N n0 → post u) : v_X3_init post := by
  obtain ⟨F, a1, a2, -⟩ := fill_all 4096 0 (fun _ => (fun _ => 0)) (by omega)
  have hR := RR0 (N := N) (z := F 0) hN (fun j hj => a2 j (by omega) hj)
  unfold v_X3_init v_X0_init v_X4_init v_X6_init v_X6_whole v_X2_init v_X5_init v_X1_init v_X7_init v_J7_fill_53178
  refine ⟨4096 + 1, a1 _ _ (h _ (hR.ag ?_))⟩
  refine ⟨fun j j1 j2 => ?_, fun j j1 j2 => ?_, fun c hc => ?_, fun j j1 j2 => ?_, fun j hj => ?_, fun j hj => ?_, ?_, fun c c1 c2 j hj => ?_, fun c c1 c2 j hj => ?_, fun c c1 c2 j hj => ?_, fun j hj => ?_, fun j hj => ?_, fun j hj => ?_⟩
  · rfl
  · rcases (show j = 3 ∨ j = 4 ∨ j = 5 ∨ j = 6 by omega) with rfl | rfl | rfl | rfl <;> rfl
  · rcases hc with rfl | rfl | rfl
    · exact ⟨rfl, fun j _ => rfl, fun j _ => rfl⟩
    · exact ⟨rfl, fun j _ => rfl, fun j _ => rfl⟩
    · exact ⟨rfl, fun j _ => rfl, fun j _ => rfl⟩
  · rfl
  · rfl
  · rcases (show j = 0 ∨ j = 1 ∨ j = 2 ∨ j = 3 ∨ j = 4 by omega) with rfl | rfl | rfl | rfl | rfl <;> rfl
  · rfl
  · rcases (show c = 16 ∨ c = 17 ∨ c = 18 ∨ c = 19 by omega) with rfl | rfl | rfl | rfl <;> rfl
  · rcases (show c = 21 ∨ c = 22 ∨ c = 23 by omega) with rfl | rfl | rfl <;> rfl
  · rcases (show c = 24 ∨ c = 25 by omega) with rfl | rfl <;> rfl
  · rfl
  · rfl
  · rfl
theorem s_init8 {N : ST} (hN : ∀ k, N 1 k = nI (n0 k)) (post : ST → Prop) (h : ∀ u : ST, RR (x_sh u 2) N n0 → post u) : v_X8_init post := by
  unfold v_X8_init
  refine s_init3 hN _ (fun u hu => h _ (hu.low (fun i hi => ?_)))
  match i, hi with
  | 0, _ => rfl
  | 1, _ => rfl
  | 2, _ => rfl
  | 3, _ => rfl
  | 4, _ => rfl
  | 5, _ => rfl
  | 6, _ => rfl
  | 7, _ => rfl
  | 8, _ => rfl
  | 9, _ => rfl
  | 10, _ => rfl
  | 11, _ => rfl
  | 12, _ => rfl
  | 13, _ => rfl
  | 14, _ => rfl
  | 15, _ => rfl
  | 16, _ => rfl
  | 17, _ => rfl
  | 18, _ => rfl
  | 19, _ => rfl
  | 20, _ => rfl
  | 21, _ => rfl
  | 22, _ => rfl
  | 23, _ => rfl
  | 24, _ => rfl
  | 25, _ => rfl
  | 26, _ => rfl
  | 27, _ => rfl
  | 28, _ => rfl
  | (n + 29), h => exact absurd h (by omega)
/-- any state to start from is well: a new machine is made -/
theorem s_new3 (post : ST → Prop) (h : ∀ u : ST, post u) : v_X3_init post := s_init3 (N := fun _ k => nI (n0 k)) (fun _ => rfl) post (fun u _ => h u)
