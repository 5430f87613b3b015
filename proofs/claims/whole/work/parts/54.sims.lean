/-! ===== the model's images ===== -/
theorem ix_im {k i : Nat} : (5880 * (nI k + 1)) + nI i = nI (5880 * (k + 1) + i) := by
  rw [nI_1, lit_nI 5880, pk_mul, nI_add]
theorem im_loop {k : Nat} (hk : k < 3) : ∀ (d i : Nat) (N : ST), i + d = 5880 → ∃ N' : ST, (∀ (post : Int32 → ST → Prop) (K : Int32 → ST → Prop), K (nI 5880) N' → lp_X9_image_20 (nI k) post K (d + 1) (nI i) N) ∧ (∀ j, i ≤ j → j < 5880 → N' 1 (5880 * (k + 1) + j) = N 1 j) ∧ (∀ j, j < 5880 * (k + 1) + i ∨ 5880 * (k + 2) ≤ j → N' 1 j = N 1 j) ∧ N' 2 = N 2 := by
  intro d
  induction d with
  | zero =>
    intro i N hi
    have hi : i = 5880 := by omega
    subst hi
    refine ⟨N, fun post K hK => ?_, fun j h1 h2 => absurd h1 (by omega), fun _ _ => rfl, rfl⟩
    unfold lp_X9_image_20
    exact ⟨fun _ => hK, fun c => absurd (nI_le (Nat.le_refl 5880) (by decide)) c⟩
  | succ d ih =>
    intro i N hi
    obtain ⟨N', a1, a2, a3, a4⟩ := ih (i + 1) (x_st N 1 (5880 * (k + 1) + i) (N 1 i)) (by omega)
    refine ⟨N', fun post K hK => ?_, fun j h1 h2 => ?_, fun j hj => ?_, ?_⟩
    · unfold lp_X9_image_20
      refine ⟨fun c => absurd c (nI_ge (a := i) (b := 5880) (by omega) (by decide)), fun _ => ⟨i, by omega, rfl, 5880 * (k + 1) + i, by omega, ix_im, ?_⟩⟩
      rintro M14 rfl
      rintro x rfl
      rw [nI_1]
      exact a1 post K hK
    · by_cases e : j = i
      · subst e
        rw [a3 _ (by omega), x_st_at]
      · rw [a2 j (by omega) h2, x_st_col _ _ _ _ (by omega)]
    · rw [a3 j (by omega), x_st_col _ _ _ _ (by omega)]
    · rw [a4, x_st_row _ _ _ _ (by decide)]
theorem ag_loop {k : Nat} (hk : k < 3) : ∀ (d i : Nat) (N : ST), i + d = 5880 → ∃ N' : ST, (∀ (post : Int32 → ST → Prop) (K : Int32 → ST → Prop), K (nI 5880) N' → lp_X9_again_22 (nI k) post K (d + 1) (nI i) N) ∧ (∀ j, i ≤ j → j < 5880 → N' 1 j = N 1 (5880 * (k + 1) + j)) ∧ (∀ j, j < i ∨ 5880 ≤ j → N' 1 j = N 1 j) ∧ N' 2 = N 2 := by
  intro d
  induction d with
  | zero =>
    intro i N hi
    have hi : i = 5880 := by omega
    subst hi
    refine ⟨N, fun post K hK => ?_, fun j h1 h2 => absurd h1 (by omega), fun _ _ => rfl, rfl⟩
    unfold lp_X9_again_22
    exact ⟨fun _ => hK, fun c => absurd (nI_le (Nat.le_refl 5880) (by decide)) c⟩
  | succ d ih =>
    intro i N hi
    obtain ⟨N', a1, a2, a3, a4⟩ := ih (i + 1) (x_st N 1 i (N 1 (5880 * (k + 1) + i))) (by omega)
    refine ⟨N', fun post K hK => ?_, fun j h1 h2 => ?_, fun j hj => ?_, ?_⟩
    · unfold lp_X9_again_22
      refine ⟨fun c => absurd c (nI_ge (a := i) (b := 5880) (by omega) (by decide)), fun _ => ⟨5880 * (k + 1) + i, by omega, ix_im, i, by omega, rfl, ?_⟩⟩
      rintro M14 rfl
      rintro x rfl
      rw [nI_1]
      exact a1 post K hK
    · by_cases e : j = i
      · subst e
        rw [a3 _ (by omega), x_st_at]
      · rw [a2 j (by omega) h2, x_st_col _ _ _ _ (by omega)]
    · rw [a3 j (by omega), x_st_col _ _ _ _ (by omega)]
    · rw [a4, x_st_row _ _ _ _ (by decide)]
/-- where the model keeps image k -/
def sN (k : Nat) (N : ST) : ST := fun _ j => N 1 (5880 * (k + 1) + j)
def IMG (im : Nat → Option Nat) (ia : Nat → Nat → Nat) (IM : Nat → ST) (N : ST) : Prop := ∀ k, k < 3 → (im k = none ∧ N 2 k = 0) ∨ (im k = some (ia k 0) ∧ ¬ N 2 k = 0 ∧ ∃ qk : Nat → Nat, RR (IM k) (sN k N) qk)
def INV (MB N : ST) (im : Nat → Option Nat) (ia : Nat → Nat → Nat) (IM : Nat → ST) : Prop := (∃ q : Nat → Nat, RR (x_sh MB 2) N q) ∧ IMG im ia IM N
theorem IMG.keep {im : Nat → Option Nat} {ia : Nat → Nat → Nat} {IM : Nat → ST} {N N' : ST} (h : IMG im ia IM N) (hk : keep N N') : IMG im ia IM N' := fun k hk3 => by
  rw [hk.1]
  rcases h k hk3 with ⟨a, b⟩ | ⟨a, b, qk, c⟩
  · exact Or.inl ⟨a, b⟩
  · exact Or.inr ⟨a, b, qk, c.nn (fun j hj => hk.2 (5880 * (k + 1) + j) (by omega))⟩
theorem s_im_no {N : ST} {p1 : Int32} (h : wi p1 0 2 = 0) : v_X9_image N p1 (fun r u => r = 0 ∧ u = N) := by
  unfold v_X9_image
  rw [s_isIn]
  exact ⟨fun c => absurd h c, fun _ => ⟨rfl, rfl⟩⟩
theorem s_im_yes {N : ST} {k : Nat} (hk : k < 3) (h : wi (nI k) 0 2 = 1) : v_X9_image N (nI k) (fun r u => r = 1 ∧ ((∀ j, j < 5880 → u 1 (5880 * (k + 1) + j) = N 1 j) ∧ (∀ j, j < 5880 * (k + 1) ∨ 5880 * (k + 2) ≤ j → u 1 j = N 1 j) ∧ u 2 k = 1 ∧ ∀ j, j ≠ k → u 2 j = N 2 j)) := by
  unfold v_X9_image
  rw [s_isIn]
  refine ⟨fun _ => ⟨k, hk, rfl, ?_⟩, fun c => absurd (h.symm.trans c) one_ne⟩
  rintro M4 rfl
  obtain ⟨N', a1, a2, a3, a4⟩ := im_loop hk 5880 0 (x_st N 2 k 1) (by omega)
  refine ⟨5880 + 1, a1 _ _ ⟨rfl, fun j hj => ?_, fun j hj => ?_, ?_, fun j hj => ?_⟩⟩
  · rw [a2 j (by omega) hj, x_st_row _ _ _ _ (by decide)]
  · rw [a3 j (by omega), x_st_row _ _ _ _ (by decide)]
  · rw [a4, x_st_at]
  · rw [a4, x_st_col _ _ _ _ hj]
theorem s_ag_no {N : ST} {p1 : Int32} (h : wi p1 0 2 = 0) : v_X9_again N p1 (fun r u => r = 0 ∧ u = N) := by
  unfold v_X9_again
  rw [s_isIn]
  exact ⟨fun _ => ⟨rfl, rfl⟩, fun c => absurd h c⟩
theorem s_ag_none {N : ST} {k : Nat} (hk : k < 3) (h : wi (nI k) 0 2 = 1) (hN : N 2 k = 0) : v_X9_again N (nI k) (fun r u => r = 0 ∧ u = N) := by
  unfold v_X9_again
  rw [s_isIn]
  exact ⟨fun c => absurd (h.symm.trans c) one_ne, fun _ => ⟨k, hk, rfl, fun c => absurd hN c, fun _ => ⟨rfl, rfl⟩⟩⟩
theorem s_ag_yes {N : ST} {k : Nat} (hk : k < 3) (h : wi (nI k) 0 2 = 1) (hN : ¬ N 2 k = 0) : v_X9_again N (nI k) (fun r u => r = 1 ∧ ((∀ j, j < 5880 → u 1 j = N 1 (5880 * (k + 1) + j)) ∧ (∀ j, 5880 ≤ j → u 1 j = N 1 j) ∧ u 2 = N 2)) := by
  unfold v_X9_again
  rw [s_isIn]
  refine ⟨fun c => absurd (h.symm.trans c) one_ne, fun _ => ⟨k, hk, rfl, fun _ => ?_, fun c => absurd c hN⟩⟩
  obtain ⟨N', a1, a2, a3, a4⟩ := ag_loop hk 5880 0 N (by omega)
  exact ⟨5880 + 1, a1 _ _ ⟨rfl, fun j hj => a2 j (by omega) hj, fun j hj => a3 j (by omega), a4⟩⟩
/-- image k taken: the invariant behind it -/
theorem INV.image {MB N N' u : ST} {im : Nat → Option Nat} {ia : Nat → Nat → Nat} {IM : Nat → ST} (h : INV MB N im ia IM) {k : Nat} (hk : k < 3) (f : Nat → Nat) (hu : AG u (x_sh MB 2)) (a1 : ∀ j, j < 5880 → N' 1 (5880 * (k + 1) + j) = N 1 j) (a2 : ∀ j, j < 5880 * (k + 1) ∨ 5880 * (k + 2) ≤ j → N' 1 j = N 1 j) (a3 : N' 2 k = 1) (a4 : ∀ j, j ≠ k → N' 2 j = N 2 j) : INV MB N' (va_up im k (some (f 0))) (va_up ia k f) (va_up IM k u) := by
  obtain ⟨⟨q, hR⟩, hI⟩ := h
  refine ⟨⟨q, hR.nn (fun j hj => a2 j (by omega))⟩, fun j hj => ?_⟩
  by_cases e : j = k
  · subst e
    rw [va_up_self, va_up_self, va_up_self]
    exact Or.inr ⟨rfl, by rw [a3]; decide, q, (hR.ag hu).nn (fun i hi => a1 i hi)⟩
  · rw [va_up_ne _ _ e, va_up_ne _ _ e, va_up_ne _ _ e, a4 j e]
    rcases hI j hj with ⟨a, b⟩ | ⟨a, b, qk, c⟩
    · exact Or.inl ⟨a, b⟩
    · exact Or.inr ⟨a, b, qk, c.nn (fun i hi => a2 (5880 * (j + 1) + i) (by omega))⟩
theorem INV.again {MB N N' u : ST} {im : Nat → Option Nat} {ia : Nat → Nat → Nat} {IM : Nat → ST} (h : INV MB N im ia IM) {k : Nat} (hk : k < 3) (him : ¬ N 2 k = 0) (hu : AG u (IM k)) (a1 : ∀ j, j < 5880 → N' 1 j = N 1 (5880 * (k + 1) + j)) (a2 : ∀ j, 5880 ≤ j → N' 1 j = N 1 j) (a3 : N' 2 = N 2) : INV (x_wb MB 2 29 u) N' im ia IM := by
  obtain ⟨⟨q, hR⟩, hI⟩ := h
  refine ⟨?_, hI.keep ⟨a3, a2⟩⟩
  rcases hI k hk with ⟨a, b⟩ | ⟨a, b, qk, c⟩
  · exact absurd b him
  · refine ⟨qk, RR.low ((c.ag hu).nn (fun j hj => a1 j hj)) (fun i hi => ?_)⟩
    exact x_sh_wb MB u 2 29 i hi
