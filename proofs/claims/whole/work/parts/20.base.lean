/-! ===== pure rows: states, conditions ===== -/
theorem q_if {c : Prop} [Decidable c] {α : Sort _} {P : α → Prop} {a b : α} : ((c → P a) ∧ (¬ c → P b)) ↔ P (if c then a else b) := by
  by_cases h : c <;> simp [h]
theorem q_nf {c : Prop} [Decidable c] {α : Sort _} {P : α → Prop} {a b : α} : ((¬ c → P a) ∧ (c → P b)) ↔ P (if c then b else a) := by
  by_cases h : c <;> simp [h]
theorem x_st_at (M : ST) (i j : Nat) (v : Int32) : x_st M i j v i j = v := by simp [x_st, upd]
theorem x_st_row (M : ST) (i j : Nat) (v : Int32) {i' : Nat} (h : i' ≠ i) : x_st M i j v i' = M i' := by simp [x_st, h]
theorem x_st_col (M : ST) (i j : Nat) (v : Int32) {j' : Nat} (h : j' ≠ j) (i' : Nat) : x_st M i j v i' j' = M i' j' := by
  by_cases e : i' = i
  · subst e; simp [x_st, upd, h]
  · simp [x_st, e]
theorem x_st_if (M : ST) (i j : Nat) (v : Int32) (i' j' : Nat) : x_st M i j v i' j' = if i' = i ∧ j' = j then v else M i' j' := by
  by_cases e : i' = i
  · subst e
    by_cases e2 : j' = j
    · subst e2; simp [x_st, upd]
    · simp [x_st, upd, e2]
  · simp [x_st, e]
theorem x_sh_at {α : Type} (f : Nat → α) (k i : Nat) : x_sh f k i = f (k + i) := rfl
theorem x_sh_sh {α : Type} (f : Nat → α) (k l : Nat) : x_sh (x_sh f k) l = x_sh f (k + l) := by
  funext i; simp [x_sh, Nat.add_assoc]
theorem x_wb_st (M u : ST) (k n i j : Nat) (v : Int32) (h : i < n) : x_wb M k n (x_st u i j v) = x_st (x_wb M k n u) (k + i) j v := by
  funext a
  by_cases h3 : a = k + i
  · subst h3
    have e1 : ¬ (k + i < k) := by omega
    simp [x_wb, x_st, e1, h]
  · rw [x_st_row _ _ _ _ h3]
    unfold x_wb
    by_cases h1 : a < k
    · simp [h1]
    · by_cases h2 : a < k + n
      · simp only [if_neg h1, if_pos h2]
        rw [x_st_row _ _ _ _ (by omega)]
      · simp [h1, h2]
theorem x_wb_cp (M u : ST) (k n i N : Nat) (f : Nat → Int32) (h : i < n) : x_wb M k n (x_cp u i N f) = x_cp (x_wb M k n u) (k + i) N f := by
  funext a
  by_cases h3 : a = k + i
  · subst h3
    have e1 : ¬ (k + i < k) := by omega
    simp [x_wb, x_cp, e1, h]
  · have h4 : x_cp (x_wb M k n u) (k + i) N f a = x_wb M k n u a := by simp [x_cp, h3]
    rw [h4]
    unfold x_wb
    by_cases h1 : a < k
    · simp [h1]
    · by_cases h2 : a < k + n
      · simp only [if_neg h1, if_pos h2]
        have : ¬ a - k = i := by omega
        simp [x_cp, this]
      · simp [h1, h2]
theorem x_wb_sh (M : ST) (k n : Nat) : x_wb M k n (x_sh M k) = M := by
  funext a
  unfold x_wb x_sh
  by_cases h1 : a < k
  · simp [h1]
  · by_cases h2 : a < k + n
    · simp only [if_neg h1, if_pos h2]
      rw [show k + (a - k) = a by omega]
    · simp [h1, h2]
theorem x_sh_st (M : ST) (k i j : Nat) (v : Int32) : x_sh (x_st M (k + i) j v) k = x_st (x_sh M k) i j v := by
  funext a
  by_cases h : a = i
  · subst h; simp [x_sh, x_st]
  · have h2 : k + a ≠ k + i := by omega
    rw [x_st_row _ _ _ _ h, x_sh_at, x_st_row _ _ _ _ h2]; rfl
theorem x_sh_wb (M u : ST) (k n : Nat) (i : Nat) (h : i < n) : x_sh (x_wb M k n u) k i = u i := by
  have e1 : ¬ (k + i < k) := by omega
  simp [x_sh, x_wb, e1, h]
/-- a value between two others, as both sides ask it -/
def wi (a b c : Int32) : Int32 := if a < b then 0 else if c < a then 0 else 1
theorem s_within (a b c : Int32) (post : Int32 → Prop) : v_X8_within a b c post ↔ post (wi a b c) := by
  unfold v_X8_within wi
  by_cases h : a < b
  · simp [h]
  · by_cases h2 : c < a <;> simp [h, h2]
theorem s_isIn (a b c : Int32) (post : Int32 → Prop) : v_X9_isIn a b c post ↔ post (wi a b c) := by
  unfold v_X9_isIn wi
  by_cases h : a < b
  · simp [h]
  · by_cases h2 : c < a <;> simp [h, h2]
theorem wi_cases (a : Int32) (lo hi : Nat) (h1 : hi < 2 ^ 31) (h2 : lo < 2 ^ 31) : (wi a (nI lo) (nI hi) = 0 ∧ ∀ n : Nat, lo ≤ n → n ≤ hi → a ≠ nI n) ∨ (wi a (nI lo) (nI hi) = 1 ∧ ∃ n : Nat, a = nI n ∧ lo ≤ n ∧ n ≤ hi) := by
  unfold wi
  by_cases h : a < nI lo
  · refine Or.inl ⟨by simp [h], fun n hn hn2 e => ?_⟩
    subst e
    exact nI_nlt hn (by omega) h
  · by_cases h3 : nI hi < a
    · refine Or.inl ⟨by simp [h, h3], fun n hn hn2 e => ?_⟩
      subst e
      exact nI_nlt hn2 h1 h3
    · refine Or.inr ⟨by simp [h, h3], ?_⟩
      have h0 : ¬ a < 0 := fun q => h (by
        have := Int32.lt_iff_toInt_lt.mp q
        refine Int32.lt_iff_toInt_lt.mpr ?_
        rw [nI_toInt h2]
        simp at this
        omega)
      obtain ⟨n, hn, rfl⟩ := nI_of h0
      refine ⟨n, rfl, ?_, ?_⟩
      · rcases Nat.lt_or_ge n lo with z | z
        · exact absurd (nI_lt z h2) h
        · exact z
      · rcases Nat.lt_or_ge hi n with z | z
        · exact absurd (nI_lt z hn) h3
        · exact z
def hiN (k : Nat) : Nat := if k = 0 then 1023 else if k = 1 then 64 else if k = 2 then 7 else 255
theorem hi_nI (k : Nat) : x_hi k = nI (hiN k) := by
  unfold x_hi hiN
  by_cases h0 : k = 0
  · simp only [if_pos h0]; rfl
  · by_cases h1 : k = 1
    · simp only [if_neg h0, if_pos h1]; rfl
    · by_cases h2 : k = 2
      · simp only [if_neg h0, if_neg h1, if_pos h2]; rfl
      · simp only [if_neg h0, if_neg h1, if_neg h2]; rfl
theorem hiN_le (k : Nat) : hiN k ≤ 1023 := by unfold hiN; split <;> (try split) <;> (try split) <;> omega
theorem nI_inj {a b : Nat} (ha : a < 2 ^ 31) (hb : b < 2 ^ 31) (h : nI a = nI b) : a = b := (nI_eq ha hb).mp h
theorem lit_nI (n : Nat) : (OfNat.ofNat n : Int32) = nI n := rfl
/-! ===== the relation between the class's machine and the model ===== -/
def modeOK (q : Nat → Nat) (b : Nat) : Prop := (8 ≤ q b ∧ q b ≤ 64) ∧ (1 ≤ q (b + 1) ∧ q (b + 1) ≤ 32) ∧ (1 ≤ q (b + 2) ∧ q (b + 2) ≤ 32) ∧ (1 ≤ q (b + 3) ∧ q (b + 3) ≤ 32) ∧ (1 ≤ q (b + 4) ∧ q (b + 4) ≤ 32) ∧ (1 ≤ q (b + 5) ∧ q (b + 5) ≤ 8) ∧ (1 ≤ q (b + 6) ∧ q (b + 6) ≤ 8) ∧ (1 ≤ q (b + 7) ∧ q (b + 7) ≤ 8) ∧ q (b + 8) ≤ 1
def modeEq (M : ST) (c : Nat) (q : Nat → Nat) (b : Nat) : Prop := (M (c + 1) 0 = nI (q b) ∧ M (c + 1) 1 = nI (q (b + 1)) ∧ M (c + 1) 2 = nI (q (b + 2)) ∧ M (c + 1) 3 = nI (q (b + 3))) ∧ (M (c + 2) 0 = nI (q (b + 4)) ∧ M (c + 2) 1 = nI (q (b + 5)) ∧ M (c + 2) 2 = nI (q (b + 6)) ∧ M (c + 2) 3 = nI (q (b + 7))) ∧ M c 2 = nI (q (b + 8))
def modeIn (N : ST) (q : Nat → Nat) (b : Nat) : Prop := ∀ k, k < 9 → N 1 (b + k) = nI (q (b + k))
/-- holding -/
def P1 (M N : ST) (q : Nat → Nat) : Prop := modeEq M 2 q 0 ∧ modeIn N q 0 ∧ modeOK q 0
/-- told -/
def P2 (M N : ST) (q : Nat → Nat) : Prop := modeEq M 8 q 10 ∧ modeIn N q 10 ∧ modeOK q 10
/-- where the next tick is -/
def P3 (M N : ST) (q : Nat → Nat) : Prop := (M 1 3 = nI (q 20) ∧ N 1 20 = nI (q 20) ∧ q 20 < q 0 + q 1 + q 2 + q 3) ∧ (M 1 4 = nI (q 21) ∧ N 1 21 = nI (q 21) ∧ q 21 < q 4 + q 5 + q 6 + q 7) ∧ (M 1 5 = nI (q 22) ∧ N 1 22 = nI (q 22) ∧ q 22 ≤ 1)
/-- ticks, dots, other readers -/
def P4 (M N : ST) (q : Nat → Nat) : Prop := (M 0 10 = nI (q 23) ∧ N 1 23 = nI (q 23) ∧ q 23 ≤ 1000000) ∧ M 0 11 = N 1 25 ∧ (M 0 8 = nI (q 27) ∧ N 1 27 = nI (q 27) ∧ 1 ≤ q 27 ∧ q 27 ≤ 16) ∧ M 0 9 = N 1 28
/-- the feed's numbers -/
def P5 (M N : ST) (q : Nat → Nat) : Prop := (M 11 9 = N 1 24 ∧ M 11 10 = N 1 26) ∧ (M 11 3 = nI (q 29) ∧ N 1 29 = nI (q 29) ∧ 1 ≤ q 29 ∧ q 29 ≤ 8) ∧ (M 11 6 = nI (q 30) ∧ N 1 30 = nI (q 30) ∧ q 30 ≤ 200) ∧ (M 11 8 = nI (q 31) ∧ N 1 31 = nI (q 31) ∧ q 31 ≤ 9) ∧ (M 11 7 = nI (q 32) ∧ N 1 32 = nI (q 32) ∧ q 32 ≤ 9) ∧ (M 11 2 = nI (q 33) ∧ N 1 33 = nI (q 33) ∧ q 33 ≤ 8) ∧ (M 11 5 = nI (q 35) ∧ N 1 35 = nI (q 35) ∧ q 35 ≤ 8) ∧ (q 35 = 0 ∨ M 11 4 = N 1 34) ∧ (M 11 1 = nI (q 9) ∧ q 9 < 8)
/-- the queue: a ring, and a row -/
def P13 (M N : ST) (q : Nat → Nat) : Prop := ∀ j, j < q 33 → M 12 ((q 9 + j) % 8) = N 1 (50 + j)
/-- registers -/
def P6 (M N : ST) (q : Nat → Nat) : Prop := ∀ k, k < 5 → M 14 k = nI (q (40 + k)) ∧ N 1 (40 + k) = nI (q (40 + k)) ∧ q (40 + k) ≤ hiN k
/-- the list -/
def P7 (M N : ST) (q : Nat → Nat) : Prop := (M 15 4 = nI (q 36) ∧ N 1 36 = nI (q 36) ∧ q 36 ≤ 16) ∧ ∀ k, k < q 36 → (M 16 k = N 1 (60 + 4 * k) ∧ M 17 k = N 1 (60 + 4 * k + 1)) ∧ (M 18 k = nI (q (60 + 4 * k + 2)) ∧ N 1 (60 + 4 * k + 2) = nI (q (60 + 4 * k + 2)) ∧ q (60 + 4 * k + 2) < 5) ∧ (M 19 k = nI (q (60 + 4 * k + 3)) ∧ N 1 (60 + 4 * k + 3) = nI (q (60 + 4 * k + 3)) ∧ q (60 + 4 * k + 3) ≤ hiN (q (60 + 4 * k + 2)))
def nfl (q : Nat → Nat) : Nat := if q 8 = 1 ∧ q 5878 = 1 then 1 - q 22 else 0
/-- the mode taken up -/
def P8 (M N : ST) (q : Nat → Nat) : Prop := x_bool (M 5 2) ∧ (q 21 + 1 = q 4 + q 5 + q 6 + q 7 → q 0 < q 20 → modeEq M 5 q 5870 ∧ modeIn N q 5870 ∧ modeOK q 5870 ∧ M 1 6 = nI (nfl q))
/-- sprites -/
def P9 (M N : ST) (q : Nat → Nat) : Prop := (∀ s, s < 8 → (M 21 s = N 1 (130 + 11 * s) ∧ -8 ≤ (N 1 (130 + 11 * s)).toInt ∧ (N 1 (130 + 11 * s)).toInt ≤ 63) ∧ (M 22 s = nI (q (130 + 11 * s + 1)) ∧ N 1 (130 + 11 * s + 1) = nI (q (130 + 11 * s + 1)) ∧ q (130 + 11 * s + 1) ≤ 63) ∧ (M 23 s = nI (q (130 + 11 * s + 2)) ∧ N 1 (130 + 11 * s + 2) = nI (q (130 + 11 * s + 2)) ∧ q (130 + 11 * s + 2) ≤ 8) ∧ ∀ d, d < 8 → M 24 (8 * s + d) = N 1 (130 + 11 * s + 3 + d)) ∧
  ∀ r, r < 64 → ∃ m : Nat, M 25 r = nI m ∧ m < 256 ∧ ∀ s, s < 8 → m.testBit s = decide (q (130 + 11 * s + 1) ≤ r ∧ r < q (130 + 11 * s + 1) + q (130 + 11 * s + 2))
def P10 (M N : ST) : Prop := ∀ j, j < 512 → M 28 j = N 1 (220 + j)
def P11 (M N : ST) : Prop := ∀ j, j < 1024 → M 26 j = N 1 (740 + j)
def P12 (M N : ST) : Prop := ∀ j, j < 4096 → M 27 j + 1 = N 1 (1770 + j)
def RR (M N : ST) (q : Nat → Nat) : Prop := P1 M N q ∧ P2 M N q ∧ P3 M N q ∧ P4 M N q ∧ P5 M N q ∧ P13 M N q ∧ P6 M N q ∧ P7 M N q ∧ P8 M N q ∧ P9 M N q ∧ P10 M N ∧ P11 M N ∧ P12 M N
/-! what a part speaks of -/
theorem P1.cg {M N M' N' : ST} {q q' : Nat → Nat} (h : P1 M N q) (h2 : M' 2 = M 2) (h3 : M' 3 = M 3) (h4 : M' 4 = M 4) (hN : ∀ k, k < 9 → N' 1 k = N 1 k) (hq : ∀ k, k < 9 → q' k = q k) : P1 M' N' q' := by
  obtain ⟨⟨⟨a1, a2, a3, a4⟩, ⟨b1, b2, b3, b4⟩, c1⟩, hi, ho⟩ := h
  refine ⟨⟨⟨?_, ?_, ?_, ?_⟩, ⟨?_, ?_, ?_, ?_⟩, ?_⟩, fun k hk => ?_, ?_⟩
  · show M' 3 0 = nI (q' 0); rw [h3, hq 0 (by omega)]; exact a1
  · show M' 3 1 = nI (q' 1); rw [h3, hq 1 (by omega)]; exact a2
  · show M' 3 2 = nI (q' 2); rw [h3, hq 2 (by omega)]; exact a3
  · show M' 3 3 = nI (q' 3); rw [h3, hq 3 (by omega)]; exact a4
  · show M' 4 0 = nI (q' 4); rw [h4, hq 4 (by omega)]; exact b1
  · show M' 4 1 = nI (q' 5); rw [h4, hq 5 (by omega)]; exact b2
  · show M' 4 2 = nI (q' 6); rw [h4, hq 6 (by omega)]; exact b3
  · show M' 4 3 = nI (q' 7); rw [h4, hq 7 (by omega)]; exact b4
  · show M' 2 2 = nI (q' 8); rw [h2, hq 8 (by omega)]; exact c1
  · have := hi k hk
    rw [Nat.zero_add] at this ⊢
    rw [hN k hk, hq k hk]; exact this
  · unfold modeOK at ho ⊢
    simp only [Nat.zero_add] at ho ⊢
    rw [hq 0 (by omega), hq 1 (by omega), hq 2 (by omega), hq 3 (by omega), hq 4 (by omega), hq 5 (by omega), hq 6 (by omega), hq 7 (by omega), hq 8 (by omega)]
    exact ho
theorem modeOK.cg {q q' : Nat → Nat} {b b' : Nat} (h : modeOK q b) (hq : ∀ k, k < 9 → q' (b' + k) = q (b + k)) : modeOK q' b' := by
  unfold modeOK at h ⊢
  rw [show q' b' = q b from hq 0 (by omega), hq 1 (by omega), hq 2 (by omega), hq 3 (by omega), hq 4 (by omega), hq 5 (by omega), hq 6 (by omega), hq 7 (by omega), hq 8 (by omega)]
  exact h
theorem modeIn.cg {N N' : ST} {q q' : Nat → Nat} {b b' : Nat} (h : modeIn N q b) (hN : ∀ k, k < 9 → N' 1 (b' + k) = N 1 (b + k)) (hq : ∀ k, k < 9 → q' (b' + k) = q (b + k)) : modeIn N' q' b' := fun k hk => by
  rw [hN k hk, hq k hk]; exact h k hk
theorem modeEq.cg {M M' : ST} {q q' : Nat → Nat} {b b' c c' : Nat} (h : modeEq M c q b) (h0 : M' c' 2 = M c 2) (h1 : ∀ j, j < 4 → M' (c' + 1) j = M (c + 1) j) (h2 : ∀ j, j < 4 → M' (c' + 2) j = M (c + 2) j) (hq : ∀ k, k < 9 → q' (b' + k) = q (b + k)) : modeEq M' c' q' b' := by
  unfold modeEq at h ⊢
  rw [h0, h1 0 (by omega), h1 1 (by omega), h1 2 (by omega), h1 3 (by omega), h2 0 (by omega), h2 1 (by omega), h2 2 (by omega), h2 3 (by omega), show q' b' = q b from hq 0 (by omega), hq 1 (by omega), hq 2 (by omega), hq 3 (by omega), hq 4 (by omega), hq 5 (by omega), hq 6 (by omega), hq 7 (by omega), hq 8 (by omega)]
  exact h
theorem P2.cg {M N M' N' : ST} {q q' : Nat → Nat} (h : P2 M N q) (h2 : M' 8 = M 8) (h3 : M' 9 = M 9) (h4 : M' 10 = M 10) (hN : ∀ k, 10 ≤ k → k < 19 → N' 1 k = N 1 k) (hq : ∀ k, 10 ≤ k → k < 19 → q' k = q k) : P2 M' N' q' :=
  ⟨h.1.cg (by rw [h2]) (fun j _ => by rw [show M' (8 + 1) = M (8 + 1) from h3]) (fun j _ => by rw [show M' (8 + 2) = M (8 + 2) from h4]) (fun k hk => hq (10 + k) (by omega) (by omega)), h.2.1.cg (fun k hk => hN (10 + k) (by omega) (by omega)) (fun k hk => hq (10 + k) (by omega) (by omega)), h.2.2.cg (fun k hk => hq (10 + k) (by omega) (by omega))⟩
theorem P3.cg {M N M' N' : ST} {q q' : Nat → Nat} (h : P3 M N q) (h1 : M' 1 3 = M 1 3 ∧ M' 1 4 = M 1 4 ∧ M' 1 5 = M 1 5) (hN : N' 1 20 = N 1 20 ∧ N' 1 21 = N 1 21 ∧ N' 1 22 = N 1 22) (hq : ∀ k, k < 9 → q' k = q k) (hq1 : ∀ k, 20 ≤ k → k < 23 → q' k = q k) : P3 M' N' q' := by
  unfold P3 at h ⊢
  rw [h1.1, h1.2.1, h1.2.2, hN.1, hN.2.1, hN.2.2, hq1 20 (by omega) (by omega), hq1 21 (by omega) (by omega), hq1 22 (by omega) (by omega), hq 0 (by omega), hq 1 (by omega), hq 2 (by omega), hq 3 (by omega), hq 4 (by omega), hq 5 (by omega), hq 6 (by omega), hq 7 (by omega)]
  exact h
theorem P4.cg {M N M' N' : ST} {q q' : Nat → Nat} (h : P4 M N q) (h1 : M' 0 = M 0) (hN : N' 1 23 = N 1 23 ∧ N' 1 25 = N 1 25 ∧ N' 1 27 = N 1 27 ∧ N' 1 28 = N 1 28) (hq : q' 23 = q 23 ∧ q' 27 = q 27) : P4 M' N' q' := by
  unfold P4 at h ⊢
  rw [h1, hN.1, hN.2.1, hN.2.2.1, hN.2.2.2, hq.1, hq.2]
  exact h
theorem P5.cg {M N M' N' : ST} {q q' : Nat → Nat} (h : P5 M N q) (h1 : M' 11 = M 11) (hN : ∀ k, 24 ≤ k → k < 36 → k ≠ 25 → k ≠ 27 → k ≠ 28 → N' 1 k = N 1 k) (hq : ∀ k, 29 ≤ k → k < 36 → q' k = q k) (hq9 : q' 9 = q 9) : P5 M' N' q' := by
  unfold P5 at h ⊢
  rw [h1, hN 24 (by omega) (by omega) (by omega) (by omega) (by omega), hN 26 (by omega) (by omega) (by omega) (by omega) (by omega), hN 29 (by omega) (by omega) (by omega) (by omega) (by omega), hN 30 (by omega) (by omega) (by omega) (by omega) (by omega), hN 31 (by omega) (by omega) (by omega) (by omega) (by omega), hN 32 (by omega) (by omega) (by omega) (by omega) (by omega), hN 33 (by omega) (by omega) (by omega) (by omega) (by omega), hN 34 (by omega) (by omega) (by omega) (by omega) (by omega), hN 35 (by omega) (by omega) (by omega) (by omega) (by omega), hq 29 (by omega) (by omega), hq 30 (by omega) (by omega), hq 31 (by omega) (by omega), hq 32 (by omega) (by omega), hq 33 (by omega) (by omega), hq 35 (by omega) (by omega), hq9]
  exact h
theorem P13.cg {M N M' N' : ST} {q q' : Nat → Nat} (h : P13 M N q) (h1 : M' 12 = M 12) (hN : ∀ k, 50 ≤ k → k < 58 → N' 1 k = N 1 k) (h33 : q' 33 = q 33) (hle : q 33 ≤ 8) (hq9 : q' 9 = q 9) : P13 M' N' q' := fun j hj => by
  rw [h1, hq9, hN (50 + j) (by omega) (by omega)]
  exact h j (by omega)
theorem P6.cg {M N M' N' : ST} {q q' : Nat → Nat} (h : P6 M N q) (h1 : M' 14 = M 14) (hN : ∀ k, 40 ≤ k → k < 45 → N' 1 k = N 1 k) (hq : ∀ k, 40 ≤ k → k < 45 → q' k = q k) : P6 M' N' q' := fun k hk => by
  rw [h1, hN (40 + k) (by omega) (by omega), hq (40 + k) (by omega) (by omega)]
  exact h k hk
theorem P7.cg {M N M' N' : ST} {q q' : Nat → Nat} (h : P7 M N q) (h15 : M' 15 = M 15) (h16 : M' 16 = M 16) (h17 : M' 17 = M 17) (h18 : M' 18 = M 18) (h19 : M' 19 = M 19) (h36 : N' 1 36 = N 1 36 ∧ q' 36 = q 36) (hN : ∀ k, 60 ≤ k → k < 124 → N' 1 k = N 1 k) (hq : ∀ k, 60 ≤ k → k < 124 → q' k = q k) : P7 M' N' q' := by
  obtain ⟨⟨a1, a2, a3⟩, b⟩ := h
  refine ⟨⟨?_, ?_, ?_⟩, fun k hk => ?_⟩
  · rw [h15, h36.2]; exact a1
  · rw [h36.1, h36.2]; exact a2
  · rw [h36.2]; exact a3
  · rw [h36.2] at hk
    rw [h16, h17, h18, h19, hN (60 + 4 * k) (by omega) (by omega), hN (60 + 4 * k + 1) (by omega) (by omega), hN (60 + 4 * k + 2) (by omega) (by omega), hN (60 + 4 * k + 3) (by omega) (by omega), hq (60 + 4 * k + 2) (by omega) (by omega), hq (60 + 4 * k + 3) (by omega) (by omega)]
    exact b k hk
theorem P8.cg {M N M' N' : ST} {q q' : Nat → Nat} (h : P8 M N q) (h5 : M' 5 = M 5) (h6 : M' 6 = M 6) (h7 : M' 7 = M 7) (h1 : M' 1 6 = M 1 6) (hN : ∀ k, 5870 ≤ k → k < 5879 → N' 1 k = N 1 k) (hq : ∀ k, 5870 ≤ k → k < 5879 → q' k = q k) (hq0 : ∀ k, k < 9 → q' k = q k) (hq1 : ∀ k, 20 ≤ k → k < 23 → q' k = q k) : P8 M' N' q' := by
  refine ⟨by rw [h5]; exact h.1, fun e1 e2 => ?_⟩
  rw [hq1 21 (by omega) (by omega), hq0 4 (by omega), hq0 5 (by omega), hq0 6 (by omega), hq0 7 (by omega)] at e1
  rw [hq0 0 (by omega), hq1 20 (by omega) (by omega)] at e2
  obtain ⟨a, b, c, d⟩ := h.2 e1 e2
  refine ⟨a.cg (by rw [h5]) (fun j _ => by rw [show M' (5 + 1) = M (5 + 1) from h6]) (fun j _ => by rw [show M' (5 + 2) = M (5 + 2) from h7]) (fun k hk => hq (5870 + k) (by omega) (by omega)), b.cg (fun k hk => hN (5870 + k) (by omega) (by omega)) (fun k hk => hq (5870 + k) (by omega) (by omega)), c.cg (fun k hk => hq (5870 + k) (by omega) (by omega)), ?_⟩
  unfold nfl
  rw [h1, hq0 8 (by omega), hq 5878 (by omega) (by omega), hq1 22 (by omega) (by omega)]
  exact d
theorem P9.cg {M N M' N' : ST} {q q' : Nat → Nat} (h : P9 M N q) (h21 : M' 21 = M 21) (h22 : M' 22 = M 22) (h23 : M' 23 = M 23) (h24 : M' 24 = M 24) (h25 : M' 25 = M 25) (hN : ∀ k, 130 ≤ k → k < 218 → N' 1 k = N 1 k) (hq : ∀ k, 130 ≤ k → k < 218 → q' k = q k) : P9 M' N' q' := by
  obtain ⟨a, b⟩ := h
  refine ⟨fun s hs => ?_, fun r hr => ?_⟩
  · rw [h21, h22, h23, h24, hN (130 + 11 * s) (by omega) (by omega), hN (130 + 11 * s + 1) (by omega) (by omega), hN (130 + 11 * s + 2) (by omega) (by omega), hq (130 + 11 * s + 1) (by omega) (by omega), hq (130 + 11 * s + 2) (by omega) (by omega)]
    obtain ⟨a1, a2, a3, a4⟩ := a s hs
    exact ⟨a1, a2, a3, fun d hd => by rw [hN (130 + 11 * s + 3 + d) (by omega) (by omega)]; exact a4 d hd⟩
  · obtain ⟨m, m1, m2, m3⟩ := b r hr
    refine ⟨m, by rw [h25]; exact m1, m2, fun s hs => ?_⟩
    rw [hq (130 + 11 * s + 1) (by omega) (by omega), hq (130 + 11 * s + 2) (by omega) (by omega)]
    exact m3 s hs
theorem P10.cg {M N M' N' : ST} (h : P10 M N) (h1 : M' 28 = M 28) (hN : ∀ k, 220 ≤ k → k < 732 → N' 1 k = N 1 k) : P10 M' N' := fun j hj => by
  rw [h1, hN (220 + j) (by omega) (by omega)]; exact h j hj
theorem P11.cg {M N M' N' : ST} (h : P11 M N) (h1 : M' 26 = M 26) (hN : ∀ k, 740 ≤ k → k < 1764 → N' 1 k = N 1 k) : P11 M' N' := fun j hj => by
  rw [h1, hN (740 + j) (by omega) (by omega)]; exact h j hj
theorem P12.cg {M N M' N' : ST} (h : P12 M N) (h1 : M' 27 = M 27) (hN : ∀ k, 1770 ≤ k → k < 5866 → N' 1 k = N 1 k) : P12 M' N' := fun j hj => by
  rw [h1, hN (1770 + j) (by omega) (by omega)]; exact h j hj
