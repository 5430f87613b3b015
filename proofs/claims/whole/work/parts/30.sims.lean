/-! ===== both sides at one call: what stays, a step ===== -/
theorem one_ne : ¬ ((1 : Int32) = 0) := by decide
def keep (N N' : ST) : Prop := N' 2 = N 2 ∧ ∀ k, 5880 ≤ k → N' 1 k = N 1 k
theorem keep.rf {N : ST} : keep N N := ⟨rfl, fun _ _ => rfl⟩
theorem keep.st {N N' : ST} (h : keep N N') {k : Nat} {v : Int32} (hk : k < 5880) : keep N (x_st N' 1 k v) := ⟨by rw [x_st_row _ _ _ _ (by decide)]; exact h.1, fun j hj => by rw [x_st_col _ _ _ _ (by omega)]; exact h.2 j hj⟩
theorem keep.tr {N N' N2 : ST} (h : keep N N') (h2 : keep N' N2) : keep N N2 := ⟨h2.1.trans h.1, fun k hk => (h2.2 k hk).trans (h.2 k hk)⟩
def Step (c d : (Int32 → ST → Prop) → Prop) (N : ST) : Prop := ∃ (r : Int32) (MB' N' : ST) (q' : Nat → Nat), (∀ post, post r MB' → c post) ∧ (∀ post, post r N' → d post) ∧ RR (x_sh MB' 2) N' q' ∧ keep N N'
def StepR (c d : (Int32 → Prop) → Prop) : Prop := ∃ r : Int32, (∀ post, post r → c post) ∧ (∀ post, post r → d post)
theorem s_tell (M : ST) (p1 p2 p3 p4 : Int32) (post : ST → Prop) : v_X6_tell M p1 p2 p3 p4 post ↔ post (x_st (x_st (x_st (x_st M 0 0 p1) 0 1 p2) 0 2 p3) 0 3 p4) := by
  simp only [v_X6_tell, forall_eq]
theorem m_depth {MB N : ST} {q : Nat → Nat} (h : RR (x_sh MB 2) N q) (p1 : Int32) : Step (v_X8_depth MB p1) (v_X9_depth N p1) N := by
  rcases wi_cases p1 1 8 (by decide) (by decide) with ⟨hw, -⟩ | ⟨hw, n, rfl, n1, n2⟩
  · have hw : wi p1 1 8 = 0 := hw
    refine ⟨0, MB, N, q, fun post hp => ?_, fun post hp => ?_, h, keep.rf⟩
    · unfold v_X8_depth; simp only [s_within]; simpa [hw] using hp
    · unfold v_X9_depth; simp only [s_isIn]; simpa [hw] using hp
  · have hw : wi (nI n) 1 8 = 1 := hw
    refine ⟨1, x_st MB 13 3 (nI n), x_st N 1 29 (nI n), fun k => if k = 29 then n else q k, fun post hp => ?_, fun post hp => ?_, ?_, keep.rf.st (by decide)⟩
    · unfold v_X8_depth; simp only [s_within, forall_eq]; simpa [hw, one_ne] using hp
    · unfold v_X9_depth; simp only [s_isIn, forall_eq]; simpa [hw, one_ne] using hp
    · rw [show x_sh (x_st MB 13 3 (nI n)) 2 = x_st (x_sh MB 2) 11 3 (nI n) from x_sh_st MB 2 11 3 (nI n)]
      generalize x_sh MB 2 = M at h ⊢
      obtain ⟨h1, h2, h3, h4, h5, h13, h6, h7, h8, h9, h10, h11, h12⟩ := h
      have hM : ∀ i, i ≠ 11 → x_st M 11 3 (nI n) i = M i := fun i hi => x_st_row _ _ _ _ hi
      have hN : ∀ k, k ≠ 29 → x_st N 1 29 (nI n) 1 k = N 1 k := fun k hk => x_st_col _ _ _ _ hk _
      have hq : ∀ k, k ≠ 29 → (fun k => if k = 29 then n else q k) k = q k := fun k hk => if_neg hk
      obtain ⟨⟨a1, a2⟩, -, ⟨c1, c2, c3⟩, ⟨d1, d2, d3⟩, ⟨e1, e2, e3⟩, ⟨f1, f2, f3⟩, ⟨g1, g2, g3⟩, i1, j1, j2⟩ := id h5
      exact ⟨h1.cg (hM 2 (by omega)) (hM 3 (by omega)) (hM 4 (by omega)) (fun k _ => hN k (by omega)) (fun k _ => hq k (by omega)), h2.cg (hM 8 (by omega)) (hM 9 (by omega)) (hM 10 (by omega)) (fun k _ _ => hN k (by omega)) (fun k _ _ => hq k (by omega)), h3.cg ⟨congrFun (hM 1 (by omega)) 3, congrFun (hM 1 (by omega)) 4, congrFun (hM 1 (by omega)) 5⟩ ⟨hN 20 (by omega), hN 21 (by omega), hN 22 (by omega)⟩ (fun k _ => hq k (by omega)) (fun k _ _ => hq k (by omega)), h4.cg (hM 0 (by omega)) ⟨hN 23 (by omega), hN 25 (by omega), hN 27 (by omega), hN 28 (by omega)⟩ ⟨hq 23 (by omega), hq 27 (by omega)⟩, ⟨⟨by simpa [x_st_if] using a1, by simpa [x_st_if] using a2⟩, ⟨by simp [x_st_if], by simp [x_st_if], by simpa using n1, by simpa using n2⟩, ⟨by simpa [x_st_if] using c1, by simpa [x_st_if] using c2, by simpa using c3⟩, ⟨by simpa [x_st_if] using d1, by simpa [x_st_if] using d2, by simpa using d3⟩, ⟨by simpa [x_st_if] using e1, by simpa [x_st_if] using e2, by simpa using e3⟩, ⟨by simpa [x_st_if] using f1, by simpa [x_st_if] using f2, by simpa using f3⟩, ⟨by simpa [x_st_if] using g1, by simpa [x_st_if] using g2, by simpa using g3⟩, by simpa [x_st_if] using i1, by simpa [x_st_if] using j1, by simpa using j2⟩, h13.cg (hM 12 (by omega)) (fun k _ _ => hN k (by omega)) (hq 33 (by omega)) h5.2.2.2.2.2.1.2.2 (hq 9 (by omega)), h6.cg (hM 14 (by omega)) (fun k _ _ => hN k (by omega)) (fun k _ _ => hq k (by omega)), h7.cg (hM 15 (by omega)) (hM 16 (by omega)) (hM 17 (by omega)) (hM 18 (by omega)) (hM 19 (by omega)) ⟨hN 36 (by omega), hq 36 (by omega)⟩ (fun k _ _ => hN k (by omega)) (fun k _ _ => hq k (by omega)), h8.cg (hM 5 (by omega)) (hM 6 (by omega)) (hM 7 (by omega)) (congrFun (hM 1 (by omega)) 6) (fun k _ _ => hN k (by omega)) (fun k _ _ => hq k (by omega)) (fun k _ => hq k (by omega)) (fun k _ _ => hq k (by omega)), h9.cg (hM 21 (by omega)) (hM 22 (by omega)) (hM 23 (by omega)) (hM 24 (by omega)) (hM 25 (by omega)) (fun k _ _ => hN k (by omega)) (fun k _ _ => hq k (by omega)), h10.cg (hM 28 (by omega)) (fun k _ _ => hN k (by omega)), h11.cg (hM 26 (by omega)) (fun k _ _ => hN k (by omega)), h12.cg (hM 27 (by omega)) (fun k _ _ => hN k (by omega))⟩
theorem m_readers {MB N : ST} {q : Nat → Nat} (h : RR (x_sh MB 2) N q) (p1 p2 : Int32) : Step (v_X8_readers MB p1 p2) (v_X9_readers N p1 p2) N := by
  rcases wi_cases p1 1 16 (by decide) (by decide) with ⟨hw, -⟩ | ⟨hw, n, rfl, n1, n2⟩
  · have hw : wi p1 1 16 = 0 := hw
    refine ⟨0, MB, N, q, fun post hp => ?_, fun post hp => ?_, h, keep.rf⟩
    · unfold v_X8_readers; simp only [s_within]; simpa [hw] using hp
    · unfold v_X9_readers; simp only [s_isIn]; simpa [hw] using hp
  · have hw : wi (nI n) 1 16 = 1 := hw
    refine ⟨1, x_st (x_st MB 2 8 (nI n)) 2 9 p2, x_st (x_st N 1 27 (nI n)) 1 28 p2, fun k => if k = 27 then n else q k, fun post hp => ?_, fun post hp => ?_, ?_, (keep.rf.st (by decide)).st (by decide)⟩
    · unfold v_X8_readers; simp only [s_within, forall_eq]; simpa [hw, one_ne] using hp
    · unfold v_X9_readers; simp only [s_isIn, forall_eq]; simpa [hw, one_ne] using hp
    · rw [show x_sh (x_st (x_st MB 2 8 (nI n)) 2 9 p2) 2 = x_st (x_st (x_sh MB 2) 0 8 (nI n)) 0 9 p2 from (x_sh_st _ 2 0 9 p2).trans (congrArg (fun z => x_st z 0 9 p2) (x_sh_st MB 2 0 8 (nI n)))]
      generalize x_sh MB 2 = M at h ⊢
      obtain ⟨h1, h2, h3, h4, h5, h13, h6, h7, h8, h9, h10, h11, h12⟩ := h
      have hM : ∀ i, i ≠ 0 → x_st (x_st M 0 8 (nI n)) 0 9 p2 i = M i := fun i hi => by rw [x_st_row _ _ _ _ hi, x_st_row _ _ _ _ hi]
      have hN : ∀ k, k ≠ 27 ∧ k ≠ 28 → x_st (x_st N 1 27 (nI n)) 1 28 p2 1 k = N 1 k := fun k hk => by rw [x_st_col _ _ _ _ hk.2, x_st_col _ _ _ _ hk.1]
      have hq : ∀ k, k ≠ 27 → (fun k => if k = 27 then n else q k) k = q k := fun k hk => if_neg hk
      obtain ⟨⟨a1, a2, a3⟩, b1, -, -⟩ := id h4
      exact ⟨h1.cg (hM 2 (by omega)) (hM 3 (by omega)) (hM 4 (by omega)) (fun k _ => hN k (by omega)) (fun k _ => hq k (by omega)), h2.cg (hM 8 (by omega)) (hM 9 (by omega)) (hM 10 (by omega)) (fun k _ _ => hN k (by omega)) (fun k _ _ => hq k (by omega)), h3.cg ⟨congrFun (hM 1 (by omega)) 3, congrFun (hM 1 (by omega)) 4, congrFun (hM 1 (by omega)) 5⟩ ⟨hN 20 (by omega), hN 21 (by omega), hN 22 (by omega)⟩ (fun k _ => hq k (by omega)) (fun k _ _ => hq k (by omega)), ⟨⟨by simpa [x_st_if] using a1, by simpa [x_st_if] using a2, by simpa using a3⟩, by simpa [x_st_if] using b1, ⟨by simp [x_st_if], by simp [x_st_if], by simpa using n1, by simpa using n2⟩, by simp [x_st_if]⟩, h5.cg (hM 11 (by omega)) (fun k _ _ _ _ _ => hN k (by omega)) (fun k _ _ => hq k (by omega)) (hq 9 (by omega)), h13.cg (hM 12 (by omega)) (fun k _ _ => hN k (by omega)) (hq 33 (by omega)) h5.2.2.2.2.2.1.2.2 (hq 9 (by omega)), h6.cg (hM 14 (by omega)) (fun k _ _ => hN k (by omega)) (fun k _ _ => hq k (by omega)), h7.cg (hM 15 (by omega)) (hM 16 (by omega)) (hM 17 (by omega)) (hM 18 (by omega)) (hM 19 (by omega)) ⟨hN 36 (by omega), hq 36 (by omega)⟩ (fun k _ _ => hN k (by omega)) (fun k _ _ => hq k (by omega)), h8.cg (hM 5 (by omega)) (hM 6 (by omega)) (hM 7 (by omega)) (congrFun (hM 1 (by omega)) 6) (fun k _ _ => hN k (by omega)) (fun k _ _ => hq k (by omega)) (fun k _ => hq k (by omega)) (fun k _ _ => hq k (by omega)), h9.cg (hM 21 (by omega)) (hM 22 (by omega)) (hM 23 (by omega)) (hM 24 (by omega)) (hM 25 (by omega)) (fun k _ _ => hN k (by omega)) (fun k _ _ => hq k (by omega)), h10.cg (hM 28 (by omega)) (fun k _ _ => hN k (by omega)), h11.cg (hM 26 (by omega)) (fun k _ _ => hN k (by omega)), h12.cg (hM 27 (by omega)) (fun k _ _ => hN k (by omega))⟩
theorem m_clear {MB N : ST} {q : Nat → Nat} (h : RR (x_sh MB 2) N q) : ∃ (MB' N' : ST) (q' : Nat → Nat), (∀ post, post MB' → v_X8_clear MB post) ∧ (∀ post, post N' → v_X9_clear N post) ∧ RR (x_sh MB' 2) N' q' ∧ keep N N' := by
  refine ⟨x_st MB 17 4 0, x_st N 1 36 0, fun k => if k = 36 then 0 else q k, fun post hp => ?_, fun post hp => ?_, ?_, keep.rf.st (by decide)⟩
  · unfold v_X8_clear; simpa only [forall_eq] using hp
  · unfold v_X9_clear; simpa only [forall_eq] using hp
  · rw [show x_sh (x_st MB 17 4 0) 2 = x_st (x_sh MB 2) 15 4 0 from x_sh_st MB 2 15 4 0]
    generalize x_sh MB 2 = M at h ⊢
    obtain ⟨h1, h2, h3, h4, h5, h13, h6, h7, h8, h9, h10, h11, h12⟩ := h
    have hM : ∀ i, i ≠ 15 → x_st M 15 4 0 i = M i := fun i hi => x_st_row _ _ _ _ hi
    have hN : ∀ k, k ≠ 36 → x_st N 1 36 0 1 k = N 1 k := fun k hk => x_st_col _ _ _ _ hk _
    have hq : ∀ k, k ≠ 36 → (fun k => if k = 36 then 0 else q k) k = q k := fun k hk => if_neg hk
    exact ⟨h1.cg (hM 2 (by omega)) (hM 3 (by omega)) (hM 4 (by omega)) (fun k _ => hN k (by omega)) (fun k _ => hq k (by omega)), h2.cg (hM 8 (by omega)) (hM 9 (by omega)) (hM 10 (by omega)) (fun k _ _ => hN k (by omega)) (fun k _ _ => hq k (by omega)), h3.cg ⟨congrFun (hM 1 (by omega)) 3, congrFun (hM 1 (by omega)) 4, congrFun (hM 1 (by omega)) 5⟩ ⟨hN 20 (by omega), hN 21 (by omega), hN 22 (by omega)⟩ (fun k _ => hq k (by omega)) (fun k _ _ => hq k (by omega)), h4.cg (hM 0 (by omega)) ⟨hN 23 (by omega), hN 25 (by omega), hN 27 (by omega), hN 28 (by omega)⟩ ⟨hq 23 (by omega), hq 27 (by omega)⟩, h5.cg (hM 11 (by omega)) (fun k _ _ _ _ _ => hN k (by omega)) (fun k _ _ => hq k (by omega)) (hq 9 (by omega)), h13.cg (hM 12 (by omega)) (fun k _ _ => hN k (by omega)) (hq 33 (by omega)) h5.2.2.2.2.2.1.2.2 (hq 9 (by omega)), h6.cg (hM 14 (by omega)) (fun k _ _ => hN k (by omega)) (fun k _ _ => hq k (by omega)), ⟨⟨by simp [x_st_if]; rfl, by simp [x_st_if]; rfl, by simp⟩, fun k hk => by simp at hk⟩, h8.cg (hM 5 (by omega)) (hM 6 (by omega)) (hM 7 (by omega)) (congrFun (hM 1 (by omega)) 6) (fun k _ _ => hN k (by omega)) (fun k _ _ => hq k (by omega)) (fun k _ => hq k (by omega)) (fun k _ _ => hq k (by omega)), h9.cg (hM 21 (by omega)) (hM 22 (by omega)) (hM 23 (by omega)) (hM 24 (by omega)) (hM 25 (by omega)) (fun k _ _ => hN k (by omega)) (fun k _ _ => hq k (by omega)), h10.cg (hM 28 (by omega)) (fun k _ _ => hN k (by omega)), h11.cg (hM 26 (by omega)) (fun k _ _ => hN k (by omega)), h12.cg (hM 27 (by omega)) (fun k _ _ => hN k (by omega))⟩
theorem x_bool_wi (a b c : Int32) : x_bool (wi a b c) := by
  unfold wi x_bool
  by_cases h : a < b
  · simp [h]
  · by_cases h2 : c < a <;> simp [h, h2]
theorem s_takes (p1 p2 : Int32) (post : Int32 → Prop) : (∀ k : Nat, k < 5 → p1 = nI k → post (wi p2 0 (nI (hiN k)))) → ((∀ k : Nat, k < 5 → p1 ≠ nI k) → post 0) → v_X5_takes p1 p2 post := by
  intro ha hb
  unfold v_X5_takes
  simp only [s_within]
  rcases wi_cases p1 0 4 (by decide) (by decide) with ⟨hw, hno⟩ | ⟨hw, n, rfl, n1, n2⟩
  · have hw : wi p1 0 (5 - 1) = 0 := hw
    refine ⟨fun _ => hb (fun k hk => hno k (by omega) (by omega)), fun c => absurd hw c⟩
  · have hw : wi (nI n) 0 (5 - 1) = 1 := hw
    refine ⟨fun c => absurd (hw ▸ c) one_ne, fun _ => ⟨n, by omega, rfl, ?_⟩⟩
    have h9 := ha n (by omega) rfl
    rw [hi_nI]
    rcases x_bool_wi p2 0 (nI (hiN n)) with e | e
    · rw [e] at h9 ⊢; exact ⟨fun _ => h9, fun c => absurd rfl c⟩
    · rw [e] at h9 ⊢; exact ⟨fun c => absurd c one_ne, fun _ => h9⟩
theorem s_isValue (p1 p2 : Int32) (post : Int32 → Prop) : (∀ k : Nat, k < 5 → p1 = nI k → post (wi p2 0 (nI (hiN k)))) → ((∀ k : Nat, k < 5 → p1 ≠ nI k) → post 0) → v_X9_isValue p1 p2 post := by
  intro ha hb
  unfold v_X9_isValue
  simp only [s_isIn]
  refine ⟨fun e => ⟨x_bool_wi _ _ _, ha 0 (by omega) e⟩, fun e => ⟨x_bool_wi _ _ _, ha 1 (by omega) e⟩, fun e => ⟨x_bool_wi _ _ _, ha 2 (by omega) e⟩, fun e => ⟨x_bool_wi _ _ _, ha 3 (by omega) e⟩, fun e => ⟨x_bool_wi _ _ _, ha 4 (by omega) e⟩, fun e => hb (fun k hk e2 => ?_)⟩
  subst e2
  rw [nI_toInt (by omega)] at e
  omega
