/-! ===== a sprite's place ===== -/
set_option maxRecDepth 100000 in
theorem xor_dec : ∀ m, m < 256 → ∀ s, s < 8 → (nI m ^^^ (1 <<< (nI s &&& 31))) = nI (m ^^^ 2 ^ s) ∧ m ^^^ 2 ^ s < 256 := by decide +kernel
theorem turn_all (s E : Nat) (hs : s < 8) (hE : E ≤ 64) : ∀ (d k : Nat) (S : ST), k + d = E → ∃ S' : ST, (∀ (post : ST → Prop) (K : Int32 → ST → Prop), K (nI E) S' → lp_X7_turnPresence_26 (nI s) (nI E) post K (d + 1) (nI k) S) ∧ (∀ i, i ≠ 5 → S' i = S i) ∧ ∀ j, S' 5 j = if k ≤ j ∧ j < E then S 5 j ^^^ (1 <<< (nI s &&& 31)) else S 5 j := by
  intro d
  induction d with
  | zero =>
    intro k S hk
    have hk : k = E := by omega
    subst hk
    refine ⟨S, fun post K hK => ?_, fun _ _ => rfl, fun j => by rw [if_neg (by omega)]⟩
    unfold lp_X7_turnPresence_26
    exact ⟨fun _ => hK, fun z => absurd (nI_le (Nat.le_refl _) (by omega)) z⟩
  | succ d ih =>
    intro k S hk
    obtain ⟨S', a1, a2, a3⟩ := ih (k + 1) (x_st S 5 k (S 5 k ^^^ (1 <<< (nI s &&& 31)))) (by omega)
    refine ⟨S', fun post K hK => ?_, fun i hi => by rw [a2 i hi, x_st_row _ _ _ _ hi], fun j => ?_⟩
    · unfold lp_X7_turnPresence_26
      refine ⟨fun z => absurd z (nI_ge (a := k) (b := E) (by omega) (by omega)), fun _ => ⟨k, by omega, rfl, ?_⟩⟩
      rintro M11 rfl
      rintro x rfl
      rw [nI_1]
      exact a1 post K hK
    · rw [a3 j]
      by_cases e : j = k
      · subst e
        rw [if_neg (by omega), if_pos (by omega), x_st_at]
      · rw [x_st_col _ _ _ _ e]
        by_cases c : k + 1 ≤ j ∧ j < E
        · rw [if_pos c, if_pos (by omega)]
        · rw [if_neg c, if_neg (by omega)]
theorem turn (S : ST) {s r h : Nat} (hs : s < 8) (e2 : S 2 s = nI r) (e3 : S 3 s = nI h) (hr : r ≤ 63) (hh : h ≤ 8) : ∃ S' : ST, (∀ post : ST → Prop, post S' → v_X7_turnPresence S (nI s) post) ∧ (∀ i, i ≠ 5 → S' i = S i) ∧ ∀ j, j < 64 → S' 5 j = if r ≤ j ∧ j < r + h then S 5 j ^^^ (1 <<< (nI s &&& 31)) else S 5 j := by
  let E := if 64 < r + h then 64 else r + h
  have hE : E ≤ 64 := by show (if 64 < r + h then 64 else r + h) ≤ 64; split <;> omega
  have hE2 : r ≤ E := by show r ≤ (if 64 < r + h then 64 else r + h); split <;> omega
  obtain ⟨S', a1, a2, a3⟩ := turn_all s E hs hE (E - r) r S (by omega)
  refine ⟨S', fun post hp => ?_, a2, fun j hj => ?_⟩
  · unfold v_X7_turnPresence
    refine ⟨s, hs, rfl, ?_⟩
    rintro x2 rfl
    rw [e2, e3, nI_add]
    have ex : (if (64 : Int32) < nI (r + h) then (64 : Int32) else nI (r + h)) = nI E := by
      show _ = nI (if 64 < r + h then 64 else r + h)
      by_cases c : 64 < r + h
      · rw [if_pos c, if_pos (show (64 : Int32) < nI (r + h) from nI_lt (a := 64) c (by omega))]; rfl
      · rw [if_neg c, if_neg (show ¬ (64 : Int32) < nI (r + h) from nI_nlt (a := 64) (b := r + h) (by omega) (by decide))]
    rw [ex]
    exact ⟨E - r + 1, a1 _ _ hp⟩
  · rw [a3 j]
    have : (r ≤ j ∧ j < E) ↔ (r ≤ j ∧ j < r + h) := by
      show (r ≤ j ∧ j < (if 64 < r + h then 64 else r + h)) ↔ _
      split <;> omega
    by_cases c : r ≤ j ∧ j < r + h
    · rw [if_pos c, if_pos (this.mpr c)]
    · rw [if_neg c, if_neg (fun z => c (this.mp z))]
theorem m_sprite {MB N : ST} {q : Nat → Nat} (h : RR (x_sh MB 2) N q) (p1 p2 p3 p4 : Int32) : Step (v_X8_sprite MB p1 p2 p3 p4) (v_X9_sprite N p1 p2 p3 p4) N := by
  rcases wi_cases p1 0 7 (by decide) (by decide) with ⟨w1, -⟩ | ⟨w1, s, rfl, -, s2⟩
  · have w1 : wi p1 0 7 = 0 := w1
    refine ⟨0, MB, N, q, fun post hp => ?_, fun post hp => ?_, h, keep.rf⟩
    · unfold v_X8_sprite; simp only [s_within]; rw [w1]; exact ⟨fun _ => hp, fun c => absurd rfl c⟩
    · unfold v_X9_sprite; simp only [s_isIn]; rw [w1]; exact ⟨fun _ => hp, fun c => absurd rfl c⟩
  have w1 : wi (nI s) 0 7 = 1 := w1
  rcases x_bool_wi p2 (-8) 63 with w2 | w2
  · refine ⟨0, MB, N, q, fun post hp => ?_, fun post hp => ?_, h, keep.rf⟩
    · unfold v_X8_sprite; simp only [s_within]; rw [w1]; refine ⟨fun c => absurd c one_ne, fun _ => ?_⟩; rw [w2]; exact ⟨fun _ => hp, fun c => absurd rfl c⟩
    · unfold v_X9_sprite; simp only [s_isIn]; rw [w1]; refine ⟨fun c => absurd c one_ne, fun _ => ?_⟩; rw [w2]; exact ⟨fun _ => hp, fun c => absurd rfl c⟩
  have x8 : -8 ≤ p2.toInt ∧ p2.toInt ≤ 63 := by
    unfold wi at w2
    by_cases c : p2 < -8
    · rw [if_pos c] at w2; exact absurd w2.symm one_ne
    · rw [if_neg c] at w2
      by_cases d : (63 : Int32) < p2
      · rw [if_pos d] at w2; exact absurd w2.symm one_ne
      · have k1 : (-8 : Int32).toInt = -8 := by decide
        have k2 : (63 : Int32).toInt = 63 := by decide
        have c' : ¬ p2.toInt < -8 := fun z => c (Int32.lt_iff_toInt_lt.mpr (by rw [k1]; exact z))
        have d' : ¬ 63 < p2.toInt := fun z => d (Int32.lt_iff_toInt_lt.mpr (by rw [k2]; exact z))
        omega
  rcases wi_cases p3 0 63 (by decide) (by decide) with ⟨w3, -⟩ | ⟨w3, r, rfl, -, r2⟩
  · have w3 : wi p3 0 63 = 0 := w3
    refine ⟨0, MB, N, q, fun post hp => ?_, fun post hp => ?_, h, keep.rf⟩
    · unfold v_X8_sprite; simp only [s_within]; rw [w1]; refine ⟨fun c => absurd c one_ne, fun _ => ?_⟩; rw [w2]; refine ⟨fun c => absurd c one_ne, fun _ => ?_⟩; rw [w3]; exact ⟨fun _ => hp, fun c => absurd rfl c⟩
    · unfold v_X9_sprite; simp only [s_isIn]; rw [w1]; refine ⟨fun c => absurd c one_ne, fun _ => ?_⟩; rw [w2]; refine ⟨fun c => absurd c one_ne, fun _ => ?_⟩; rw [w3]; exact ⟨fun _ => hp, fun c => absurd rfl c⟩
  have w3 : wi (nI r) 0 63 = 1 := w3
  rcases wi_cases p4 0 8 (by decide) (by decide) with ⟨w4, -⟩ | ⟨w4, g, rfl, -, g2⟩
  · have w4 : wi p4 0 8 = 0 := w4
    refine ⟨0, MB, N, q, fun post hp => ?_, fun post hp => ?_, h, keep.rf⟩
    · unfold v_X8_sprite; simp only [s_within]; rw [w1]; refine ⟨fun c => absurd c one_ne, fun _ => ?_⟩; rw [w2]; refine ⟨fun c => absurd c one_ne, fun _ => ?_⟩; rw [w3]; refine ⟨fun c => absurd c one_ne, fun _ => ?_⟩; rw [w4]; exact ⟨fun c => absurd rfl c, fun _ => hp⟩
    · unfold v_X9_sprite; simp only [s_isIn]; rw [w1]; refine ⟨fun c => absurd c one_ne, fun _ => ?_⟩; rw [w2]; refine ⟨fun c => absurd c one_ne, fun _ => ?_⟩; rw [w3]; refine ⟨fun c => absurd c one_ne, fun _ => ?_⟩; rw [w4]; exact ⟨fun c => absurd rfl c, fun _ => hp⟩
  have w4 : wi (nI g) 0 8 = 1 := w4
  have hh := h
  obtain ⟨h1, h2, h3, h4, h5, h13, h6, h7, h8, h9, h10, h11, h12⟩ := h
  obtain ⟨-, ⟨b1, b2, b3⟩, ⟨c1, c2, c3⟩, -⟩ := id (h9.1 s (by omega))
  obtain ⟨S1, t1, t2, t3⟩ := turn (x_sh MB 22) (s := s) (r := q (130 + 11 * s + 1)) (h := q (130 + 11 * s + 2)) (by omega) b1 c1 b3 c3
  let S2 := x_st (x_st (x_st S1 1 s p2) 2 s (nI r)) 3 s (nI g)
  have s2r : ∀ i, i ≠ 1 → i ≠ 2 → i ≠ 3 → S2 i = S1 i := fun i z1 z2 z3 => by
    show x_st (x_st (x_st S1 1 s p2) 2 s (nI r)) 3 s (nI g) i = S1 i
    rw [x_st_row _ _ _ _ z3, x_st_row _ _ _ _ z2, x_st_row _ _ _ _ z1]
  have s2c : ∀ i j, j ≠ s → S2 i j = S1 i j := fun i j z => by
    show x_st (x_st (x_st S1 1 s p2) 2 s (nI r)) 3 s (nI g) i j = S1 i j
    rw [x_st_col _ _ _ _ z, x_st_col _ _ _ _ z, x_st_col _ _ _ _ z]
  have e21 : S2 1 s = p2 := by simp [S2, x_st_if]
  have e22 : S2 2 s = nI r := by simp [S2, x_st_if]
  have e23 : S2 3 s = nI g := by simp [S2, x_st_if]
  obtain ⟨S3, u1, u2, u3⟩ := turn S2 (s := s) (r := r) (h := g) (by omega) e22 e23 r2 g2
  let N' := x_st (x_st (x_st N 1 (130 + 11 * s) p2) 1 (130 + 11 * s + 1) (nI r)) 1 (130 + 11 * s + 2) (nI g)
  let q' := fun k => if k = 130 + 11 * s + 1 then r else if k = 130 + 11 * s + 2 then g else q k
  let M' := x_sh (x_wb MB 22 6 S3) 2
  have hM : ∀ i, i < 20 ∨ 25 < i → M' i = x_sh MB 2 i := fun i z => by
    show x_wb MB 22 6 S3 (2 + i) = MB (2 + i)
    unfold x_wb
    by_cases c : 2 + i < 22
    · rw [if_pos c]
    · rw [if_neg c, if_neg (by omega)]
  have mS : ∀ i, i < 6 → M' (20 + i) = S3 i := fun i z => by
    show x_wb MB 22 6 S3 (2 + (20 + i)) = S3 i
    unfold x_wb
    rw [if_neg (by omega), if_pos (by omega), show 2 + (20 + i) - 22 = i by omega]
  have hN : ∀ k, k < 130 ∨ 218 ≤ k → N' 1 k = N 1 k := fun k z => by
    show x_st (x_st (x_st N 1 (130 + 11 * s) p2) 1 (130 + 11 * s + 1) (nI r)) 1 (130 + 11 * s + 2) (nI g) 1 k = N 1 k
    rw [x_st_col _ _ _ _ (by omega), x_st_col _ _ _ _ (by omega), x_st_col _ _ _ _ (by omega)]
  have hq : ∀ k, k < 130 ∨ 218 ≤ k → q' k = q k := fun k z => by
    show (if k = 130 + 11 * s + 1 then r else if k = 130 + 11 * s + 2 then g else q k) = q k
    rw [if_neg (by omega), if_neg (by omega)]
  have nO : ∀ t, t < 8 → t ≠ s → ∀ j, j < 11 → N' 1 (130 + 11 * t + j) = N 1 (130 + 11 * t + j) ∧ q' (130 + 11 * t + j) = q (130 + 11 * t + j) := fun t ht z j hj => by
    refine ⟨?_, ?_⟩
    · show x_st (x_st (x_st N 1 (130 + 11 * s) p2) 1 (130 + 11 * s + 1) (nI r)) 1 (130 + 11 * s + 2) (nI g) 1 (130 + 11 * t + j) = _
      rw [x_st_col _ _ _ _ (by omega), x_st_col _ _ _ _ (by omega), x_st_col _ _ _ _ (by omega)]
    · show (if 130 + 11 * t + j = 130 + 11 * s + 1 then r else if 130 + 11 * t + j = 130 + 11 * s + 2 then g else q (130 + 11 * t + j)) = _
      rw [if_neg (by omega), if_neg (by omega)]
  have qs1 : q' (130 + 11 * s + 1) = r := if_pos rfl
  have qs2 : q' (130 + 11 * s + 2) = g := by show (if 130 + 11 * s + 2 = 130 + 11 * s + 1 then r else if 130 + 11 * s + 2 = 130 + 11 * s + 2 then g else q (130 + 11 * s + 2)) = g; rw [if_neg (by omega), if_pos rfl]
  have h9' : P9 M' N' q' := by
    refine ⟨fun t ht => ?_, fun j hj => ?_⟩
    · have m21 : M' 21 t = S2 1 t := by rw [mS 1 (by decide), u2 1 (by decide)]
      have m22 : M' 22 t = S2 2 t := by rw [mS 2 (by decide), u2 2 (by decide)]
      have m23 : M' 23 t = S2 3 t := by rw [mS 3 (by decide), u2 3 (by decide)]
      have m24 : ∀ d, M' 24 d = x_sh MB 2 24 d := fun d => by rw [mS 4 (by decide), u2 4 (by decide), s2r 4 (by decide) (by decide) (by decide), t2 4 (by decide)]; rfl
      by_cases e : t = s
      · subst e
        have n0 : N' 1 (130 + 11 * t) = p2 := by show x_st (x_st (x_st N 1 (130 + 11 * t) p2) 1 (130 + 11 * t + 1) (nI r)) 1 (130 + 11 * t + 2) (nI g) 1 (130 + 11 * t) = p2; rw [x_st_col _ _ _ _ (by omega), x_st_col _ _ _ _ (by omega), x_st_at]
        have n1 : N' 1 (130 + 11 * t + 1) = nI r := by show x_st (x_st (x_st N 1 (130 + 11 * t) p2) 1 (130 + 11 * t + 1) (nI r)) 1 (130 + 11 * t + 2) (nI g) 1 (130 + 11 * t + 1) = nI r; rw [x_st_col _ _ _ _ (by omega), x_st_at]
        have n2 : N' 1 (130 + 11 * t + 2) = nI g := by show x_st (x_st (x_st N 1 (130 + 11 * t) p2) 1 (130 + 11 * t + 1) (nI r)) 1 (130 + 11 * t + 2) (nI g) 1 (130 + 11 * t + 2) = nI g; rw [x_st_at]
        rw [m21, m22, m23, n0, n1, n2, qs1, qs2, e21, e22, e23]
        refine ⟨⟨rfl, x8.1, x8.2⟩, ⟨rfl, rfl, r2⟩, ⟨rfl, rfl, g2⟩, fun d hd => ?_⟩
        rw [m24]
        have : N' 1 (130 + 11 * t + 3 + d) = N 1 (130 + 11 * t + 3 + d) := by
          show x_st (x_st (x_st N 1 (130 + 11 * t) p2) 1 (130 + 11 * t + 1) (nI r)) 1 (130 + 11 * t + 2) (nI g) 1 (130 + 11 * t + 3 + d) = _
          rw [x_st_col _ _ _ _ (by omega), x_st_col _ _ _ _ (by omega), x_st_col _ _ _ _ (by omega)]
        rw [this]
        exact (h9.1 t ht).2.2.2 d hd
      · obtain ⟨⟨a1', a2', a3'⟩, ⟨b1', b2', b3'⟩, ⟨c1', c2', c3'⟩, d1'⟩ := h9.1 t ht
        have o1 : S2 1 t = x_sh MB 2 21 t := by rw [s2c 1 t e, t2 1 (by decide)]; rfl
        have o2 : S2 2 t = x_sh MB 2 22 t := by rw [s2c 2 t e, t2 2 (by decide)]; rfl
        have o3 : S2 3 t = x_sh MB 2 23 t := by rw [s2c 3 t e, t2 3 (by decide)]; rfl
        have n0 : N' 1 (130 + 11 * t) = N 1 (130 + 11 * t) := (nO t ht e 0 (by omega)).1
        rw [m21, m22, m23, o1, o2, o3, n0, (nO t ht e 1 (by omega)).1, (nO t ht e 2 (by omega)).1, (nO t ht e 1 (by omega)).2, (nO t ht e 2 (by omega)).2]
        refine ⟨⟨a1', a2', a3'⟩, ⟨b1', b2', b3'⟩, ⟨c1', c2', c3'⟩, fun d hd => ?_⟩
        have nd : N' 1 (130 + 11 * t + 3 + d) = N 1 (130 + 11 * t + 3 + d) := by
          have := (nO t ht e (3 + d) (by omega)).1
          rwa [← Nat.add_assoc] at this
        rw [m24, nd]
        exact d1' d hd
    · obtain ⟨m, m1, m2, m3⟩ := h9.2 j hj
      let ma := if q (130 + 11 * s + 1) ≤ j ∧ j < q (130 + 11 * s + 1) + q (130 + 11 * s + 2) then m ^^^ 2 ^ s else m
      have hma : ma < 256 ∧ S1 5 j = nI ma := by
        rw [t3 j hj, show x_sh MB 22 5 j = nI m from m1]
        show (if q (130 + 11 * s + 1) ≤ j ∧ j < q (130 + 11 * s + 1) + q (130 + 11 * s + 2) then m ^^^ 2 ^ s else m) < 256 ∧ _ = nI (if q (130 + 11 * s + 1) ≤ j ∧ j < q (130 + 11 * s + 1) + q (130 + 11 * s + 2) then m ^^^ 2 ^ s else m)
        split
        · exact ⟨(xor_dec m m2 s (by omega)).2, (xor_dec m m2 s (by omega)).1⟩
        · exact ⟨m2, rfl⟩
      let mb := if r ≤ j ∧ j < r + g then ma ^^^ 2 ^ s else ma
      have hmb : mb < 256 ∧ M' 25 j = nI mb := by
        rw [mS 5 (by decide), u3 j hj, s2r 5 (by decide) (by decide) (by decide), hma.2]
        show (if r ≤ j ∧ j < r + g then ma ^^^ 2 ^ s else ma) < 256 ∧ _ = nI (if r ≤ j ∧ j < r + g then ma ^^^ 2 ^ s else ma)
        split
        · exact ⟨(xor_dec ma hma.1 s (by omega)).2, (xor_dec ma hma.1 s (by omega)).1⟩
        · exact ⟨hma.1, rfl⟩
      have ta : ∀ t, t < 8 → ma.testBit t = (m.testBit t ^^ (decide (t = s) && decide (q (130 + 11 * s + 1) ≤ j ∧ j < q (130 + 11 * s + 1) + q (130 + 11 * s + 2)))) := fun t ht => by
        show (if q (130 + 11 * s + 1) ≤ j ∧ j < q (130 + 11 * s + 1) + q (130 + 11 * s + 2) then m ^^^ 2 ^ s else m).testBit t = _
        by_cases c : q (130 + 11 * s + 1) ≤ j ∧ j < q (130 + 11 * s + 1) + q (130 + 11 * s + 2)
        · rw [if_pos c, fb_bit_flip, decide_eq_true c, Bool.and_true]
        · rw [if_neg c, decide_eq_false c, Bool.and_false, Bool.xor_false]
      have tb : ∀ t, t < 8 → mb.testBit t = (ma.testBit t ^^ (decide (t = s) && decide (r ≤ j ∧ j < r + g))) := fun t ht => by
        show (if r ≤ j ∧ j < r + g then ma ^^^ 2 ^ s else ma).testBit t = _
        by_cases c : r ≤ j ∧ j < r + g
        · rw [if_pos c, fb_bit_flip, decide_eq_true c, Bool.and_true]
        · rw [if_neg c, decide_eq_false c, Bool.and_false, Bool.xor_false]
      refine ⟨mb, hmb.2, hmb.1, fun t ht => ?_⟩
      rw [tb t ht, ta t ht, m3 t ht]
      by_cases e : t = s
      · subst e
        rw [qs1, qs2, decide_eq_true (rfl : t = t), Bool.true_and, Bool.true_and, Bool.xor_self, Bool.false_xor]
      · rw [(nO t ht e 1 (by omega)).2, (nO t ht e 2 (by omega)).2, decide_eq_false e, Bool.false_and, Bool.false_and, Bool.xor_false, Bool.xor_false]
  refine ⟨1, x_wb MB 22 6 S3, N', q', fun post hp => ?_, fun post hp => ?_, ?_, ((keep.rf.st (by omega)).st (by omega)).st (by omega)⟩
  · unfold v_X8_sprite; simp only [s_within]; rw [w1]; refine ⟨fun c => absurd c one_ne, fun _ => ?_⟩; rw [w2]; refine ⟨fun c => absurd c one_ne, fun _ => ?_⟩; rw [w3]; refine ⟨fun c => absurd c one_ne, fun _ => ?_⟩; rw [w4]
    refine ⟨fun _ => ?_, fun c => absurd c one_ne⟩
    unfold v_X7_move
    refine t1 _ ⟨s, by omega, rfl, ?_⟩
    rintro M3 rfl
    rintro M4 rfl
    rintro M5 rfl
    refine u1 _ ?_
    rintro M10 rfl
    exact hp
  · unfold v_X9_sprite; simp only [s_isIn]; rw [w1]; refine ⟨fun c => absurd c one_ne, fun _ => ?_⟩; rw [w2]; refine ⟨fun c => absurd c one_ne, fun _ => ?_⟩; rw [w3]; refine ⟨fun c => absurd c one_ne, fun _ => ?_⟩; rw [w4]
    refine ⟨fun _ => ⟨130 + 11 * s, by omega, i11' (by omega), ?_⟩, fun c => absurd c one_ne⟩
    rintro M10 rfl
    refine ⟨130 + 11 * s + 1, by omega, i11 (by omega) 1 (by decide), ?_⟩
    rintro M12 rfl
    refine ⟨130 + 11 * s + 2, by omega, i11 (by omega) 2 (by decide), ?_⟩
    rintro M14 rfl
    exact hp
  · show RR M' N' q'
    exact ⟨h1.cg (hM 2 (by omega)) (hM 3 (by omega)) (hM 4 (by omega)) (fun k _ => hN k (by omega)) (fun k _ => hq k (by omega)), h2.cg (hM 8 (by omega)) (hM 9 (by omega)) (hM 10 (by omega)) (fun k _ _ => hN k (by omega)) (fun k _ _ => hq k (by omega)), h3.cg ⟨congrFun (hM 1 (by omega)) 3, congrFun (hM 1 (by omega)) 4, congrFun (hM 1 (by omega)) 5⟩ ⟨hN 20 (by omega), hN 21 (by omega), hN 22 (by omega)⟩ (fun k _ => hq k (by omega)) (fun k _ _ => hq k (by omega)), h4.cg (hM 0 (by omega)) ⟨hN 23 (by omega), hN 25 (by omega), hN 27 (by omega), hN 28 (by omega)⟩ ⟨hq 23 (by omega), hq 27 (by omega)⟩, h5.cg (hM 11 (by omega)) (fun k _ _ _ _ _ => hN k (by omega)) (fun k _ _ => hq k (by omega)) (hq 9 (by omega)), h13.cg (hM 12 (by omega)) (fun k _ _ => hN k (by omega)) (hq 33 (by omega)) h5.2.2.2.2.2.1.2.2 (hq 9 (by omega)), h6.cg (hM 14 (by omega)) (fun k _ _ => hN k (by omega)) (fun k _ _ => hq k (by omega)), h7.cg (hM 15 (by omega)) (hM 16 (by omega)) (hM 17 (by omega)) (hM 18 (by omega)) (hM 19 (by omega)) ⟨hN 36 (by omega), hq 36 (by omega)⟩ (fun k _ _ => hN k (by omega)) (fun k _ _ => hq k (by omega)), h8.cg (hM 5 (by omega)) (hM 6 (by omega)) (hM 7 (by omega)) (congrFun (hM 1 (by omega)) 6) (fun k _ _ => hN k (by omega)) (fun k _ _ => hq k (by omega)) (fun k _ => hq k (by omega)) (fun k _ _ => hq k (by omega)), h9', h10.cg (hM 28 (by omega)) (fun k _ _ => hN k (by omega)), h11.cg (hM 26 (by omega)) (fun k _ _ => hN k (by omega)), h12.cg (hM 27 (by omega)) (fun k _ _ => hN k (by omega))⟩
