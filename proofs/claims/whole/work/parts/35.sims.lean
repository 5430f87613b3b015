/-! numbers (of the starting texts) -/
theorem fb_xorI (a b : Nat) : nI a ^^^ nI b = nI (a ^^^ b) := by
  apply Int32.toBitVec_inj.1
  show BitVec.ofNat 32 a ^^^ BitVec.ofNat 32 b = BitVec.ofNat 32 (a ^^^ b)
  apply BitVec.eq_of_getLsbD_eq
  intro i hi
  simp [hi]
theorem fb_bit_flip (n j i : Nat) : (n ^^^ 2 ^ j).testBit i = (n.testBit i ^^ decide (i = j)) := by
  rw [Nat.testBit_xor]
  by_cases h : j = i
  · subst h; simp
  · have h2 : ¬ i = j := fun e => h e.symm
    first | (simp [Nat.testBit_two_pow, h, h2]; done) | (simp [Nat.testBit_two_pow_of_ne h, h2]; done)
theorem fb_rng (x : Int32) : -2147483648 ≤ x.toInt ∧ x.toInt < 2147483648 := by
  have h1 := Int32.le_toInt x
  have h2 := Int32.toInt_lt x
  omega
theorem fb_bmod {z : Int} (h1 : -2147483648 ≤ z) (h2 : z < 2147483648) : z.bmod (2 ^ 32) = z := by
  rw [Int.bmod_eq_of_le (by omega) (by omega)]
theorem fb_addI {x y : Int32} (h1 : -2147483648 ≤ x.toInt + y.toInt) (h2 : x.toInt + y.toInt < 2147483648) : (x + y).toInt = x.toInt + y.toInt := by
  rw [Int32.toInt_add, fb_bmod h1 h2]
theorem fb_subI {x y : Int32} (h1 : -2147483648 ≤ x.toInt - y.toInt) (h2 : x.toInt - y.toInt < 2147483648) : (x - y).toInt = x.toInt - y.toInt := by
  rw [Int32.toInt_sub, fb_bmod h1 h2]
theorem fb_mulI {x y : Int32} (h1 : -2147483648 ≤ x.toInt * y.toInt) (h2 : x.toInt * y.toInt < 2147483648) : (x * y).toInt = x.toInt * y.toInt := by
  rw [Int32.toInt_mul, fb_bmod h1 h2]
theorem fb_rngL (x : Int64) : -9223372036854775808 ≤ x.toInt ∧ x.toInt < 9223372036854775808 := by
  have h1 := Int64.le_toInt x
  have h2 := Int64.toInt_lt x
  omega
theorem fb_bmodL {z : Int} (h1 : -9223372036854775808 ≤ z) (h2 : z < 9223372036854775808) : z.bmod (2 ^ 64) = z := by
  rw [Int.bmod_eq_of_le (by omega) (by omega)]
theorem fb_addL {x y : Int64} (h1 : -9223372036854775808 ≤ x.toInt + y.toInt) (h2 : x.toInt + y.toInt < 9223372036854775808) : (x + y).toInt = x.toInt + y.toInt := by
  rw [Int64.toInt_add, fb_bmodL h1 h2]
theorem fb_subL {x y : Int64} (h1 : -9223372036854775808 ≤ x.toInt - y.toInt) (h2 : x.toInt - y.toInt < 9223372036854775808) : (x - y).toInt = x.toInt - y.toInt := by
  rw [Int64.toInt_sub, fb_bmodL h1 h2]
theorem fb_mulL {x y : Int64} (h1 : -9223372036854775808 ≤ x.toInt * y.toInt) (h2 : x.toInt * y.toInt < 9223372036854775808) : (x * y).toInt = x.toInt * y.toInt := by
  rw [Int64.toInt_mul, fb_bmodL h1 h2]
/-! ===== readers of the beam; other readers; now ===== -/
theorem s_isSync (F : ST) (t a b c : Nat) (ha : F 0 0 = nI a) (hb : F 0 1 = nI b) (hc : F 0 2 = nI c) (hl : a + b + c < 2 ^ 31) (ht : t < 2 ^ 31) (post : Int32 → Prop) (hp : post (if a + b ≤ t ∧ t < a + b + c then 1 else 0)) : v_X6_isSync F (nI t) post := by
  unfold v_X6_isSync
  rintro x rfl
  rw [ha, hb, hc, nI_add, nI_add]
  refine ⟨fun c1 => ?_, fun c1 => ⟨fun c2 => ?_, fun c2 => ?_⟩⟩
  · have := (nI_ltI ht (by omega)).mp c1
    rw [if_neg (by omega)] at hp; exact hp
  · have := (nI_leI (by omega) ht).mp c2
    rw [if_neg (by omega)] at hp; exact hp
  · have h1 : ¬ t < a + b := fun z => c1 (nI_lt z (by omega))
    have h2 : ¬ a + b + c ≤ t := fun z => c2 (nI_le z ht)
    rw [if_pos (by omega)] at hp; exact hp
theorem s_isSeen (F : ST) (t a : Nat) (ha : F 0 0 = nI a) (hl : a < 2 ^ 31) (ht : t < 2 ^ 31) (post : Int32 → Prop) (hp : post (if t < a then 1 else 0)) : v_X6_isSeen F (nI t) post := by
  unfold v_X6_isSeen
  rw [ha]
  refine ⟨fun c1 => ?_, fun c1 => ?_⟩
  · have := (nI_leI hl ht).mp c1
    rw [if_neg (by omega)] at hp; exact hp
  · have h1 : ¬ a ≤ t := fun z => c1 (nI_le z ht)
    rw [if_pos (by omega)] at hp; exact hp
theorem s_whole (F : ST) (a b c d : Nat) (ha : F 0 0 = nI a) (hb : F 0 1 = nI b) (hc : F 0 2 = nI c) (hd : F 0 3 = nI d) (post : Int32 → Prop) (hp : post (nI (a + b + c + d))) : v_X6_whole F post := by
  unfold v_X6_whole
  rw [ha, hb, hc, hd, nI_add, nI_add, nI_add]
  exact hp
theorem s_onDot {M N : ST} {q : Nat → Nat} (h1 : P1 M N q) (h3 : P3 M N q) (post : Int32 → Prop) (hp : post (if q 20 < q 0 ∧ q 21 < q 4 then 1 else 0)) : v_X0_isOnDot (x_sh M 1) post := by
  obtain ⟨⟨⟨a1, a2, a3, a4⟩, ⟨b1, b2, b3, b4⟩, c1⟩, hi, ho⟩ := h1
  obtain ⟨⟨x1, x2, x3⟩, ⟨y1, y2, y3⟩, -⟩ := h3
  simp only [modeOK, Nat.zero_add] at ho
  have e3 : x_sh M 1 0 3 = nI (q 20) := x1
  have e4 : x_sh M 1 0 4 = nI (q 21) := y1
  unfold v_X0_isOnDot
  rw [e3, e4]
  refine s_isSeen _ _ (q 0) a1 (by omega) (by omega) _ ?_
  by_cases hA : q 20 < q 0
  · rw [if_pos hA]
    refine ⟨fun c => absurd c one_ne, fun _ => s_isSeen _ _ (q 4) b1 (by omega) (by omega) _ ?_⟩
    by_cases hB : q 21 < q 4
    · rw [if_pos hB]
      rw [if_pos ⟨hA, hB⟩] at hp
      exact ⟨fun c => absurd c one_ne, fun _ => hp⟩
    · rw [if_neg hB]
      rw [if_neg (fun z => hB z.2)] at hp
      exact ⟨fun _ => hp, fun c => absurd rfl c⟩
  · rw [if_neg hA]
    rw [if_neg (fun z => hA z.1)] at hp
    exact ⟨fun _ => hp, fun c => absurd rfl c⟩
def sg (q : Nat → Nat) : Int32 := nI ((if q 0 + q 1 ≤ q 20 ∧ q 20 < q 0 + q 1 + q 2 then 1 else 0) + (if q 4 + q 5 ≤ q 21 ∧ q 21 < q 4 + q 5 + q 6 then 2 else 0) + (if q 20 < q 0 ∧ q 21 < q 4 then 0 else 4))
theorem s_sigC {M N : ST} {q : Nat → Nat} (h1 : P1 M N q) (h3 : P3 M N q) (post : Int32 → Prop) (hp : post (sg q)) : v_X0_signalsHere (x_sh M 1) post := by
  obtain ⟨⟨⟨a1, a2, a3, a4⟩, ⟨b1, b2, b3, b4⟩, c1⟩, hi, ho⟩ := id h1
  obtain ⟨⟨x1, x2, x3⟩, ⟨y1, y2, y3⟩, -⟩ := id h3
  simp only [modeOK, Nat.zero_add] at ho
  have e3 : x_sh M 1 0 3 = nI (q 20) := x1
  have e4 : x_sh M 1 0 4 = nI (q 21) := y1
  unfold v_X0_signalsHere
  rw [e3, e4]
  refine s_isSync _ _ (q 0) (q 1) (q 2) a1 a2 a3 (by omega) (by omega) _ ?_
  by_cases hA : q 0 + q 1 ≤ q 20 ∧ q 20 < q 0 + q 1 + q 2
  · rw [if_pos hA]
    refine ⟨fun c => absurd c one_ne, fun _ => ?_⟩
    refine s_isSync _ _ (q 4) (q 5) (q 6) b1 b2 b3 (by omega) (by omega) _ ?_
    by_cases hB : q 4 + q 5 ≤ q 21 ∧ q 21 < q 4 + q 5 + q 6
    · rw [if_pos hB]
      refine ⟨fun c => absurd c one_ne, fun _ => ?_⟩
      refine s_onDot h1 h3 _ ?_
      by_cases hC : q 20 < q 0 ∧ q 21 < q 4
      · rw [if_pos hC]
        have e : sg q = nI 3 := by simp only [sg, if_pos hA, if_pos hB, if_pos hC]
        rw [e] at hp
        exact ⟨fun c => absurd c one_ne, fun _ => hp⟩
      · rw [if_neg hC]
        have e : sg q = nI 7 := by simp only [sg, if_pos hA, if_pos hB, if_neg hC]
        rw [e] at hp
        exact ⟨fun _ => hp, fun c => absurd rfl c⟩
    · rw [if_neg hB]
      refine ⟨fun _ => ?_, fun c => absurd rfl c⟩
      refine s_onDot h1 h3 _ ?_
      by_cases hC : q 20 < q 0 ∧ q 21 < q 4
      · rw [if_pos hC]
        have e : sg q = nI 1 := by simp only [sg, if_pos hA, if_neg hB, if_pos hC]
        rw [e] at hp
        exact ⟨fun c => absurd c one_ne, fun _ => hp⟩
      · rw [if_neg hC]
        have e : sg q = nI 5 := by simp only [sg, if_pos hA, if_neg hB, if_neg hC]
        rw [e] at hp
        exact ⟨fun _ => hp, fun c => absurd rfl c⟩
  · rw [if_neg hA]
    refine ⟨fun _ => ?_, fun c => absurd rfl c⟩
    refine s_isSync _ _ (q 4) (q 5) (q 6) b1 b2 b3 (by omega) (by omega) _ ?_
    by_cases hB : q 4 + q 5 ≤ q 21 ∧ q 21 < q 4 + q 5 + q 6
    · rw [if_pos hB]
      refine ⟨fun c => absurd c one_ne, fun _ => ?_⟩
      refine s_onDot h1 h3 _ ?_
      by_cases hC : q 20 < q 0 ∧ q 21 < q 4
      · rw [if_pos hC]
        have e : sg q = nI 2 := by simp only [sg, if_neg hA, if_pos hB, if_pos hC]
        rw [e] at hp
        exact ⟨fun c => absurd c one_ne, fun _ => hp⟩
      · rw [if_neg hC]
        have e : sg q = nI 6 := by simp only [sg, if_neg hA, if_pos hB, if_neg hC]
        rw [e] at hp
        exact ⟨fun _ => hp, fun c => absurd rfl c⟩
    · rw [if_neg hB]
      refine ⟨fun _ => ?_, fun c => absurd rfl c⟩
      refine s_onDot h1 h3 _ ?_
      by_cases hC : q 20 < q 0 ∧ q 21 < q 4
      · rw [if_pos hC]
        have e : sg q = nI 0 := by simp only [sg, if_neg hA, if_neg hB, if_pos hC]
        rw [e] at hp
        exact ⟨fun c => absurd c one_ne, fun _ => hp⟩
      · rw [if_neg hC]
        have e : sg q = nI 4 := by simp only [sg, if_neg hA, if_neg hB, if_neg hC]
        rw [e] at hp
        exact ⟨fun _ => hp, fun c => absurd rfl c⟩
theorem wi_sub {x a b c : Nat} (hx : x < 100000) (ha : a < 100000) (hb : b < 100000) (hc : c < 100000) (h1 : 1 ≤ c) : wi ((nI x - nI a) - nI b) 0 (nI c - 1) = if a + b ≤ x ∧ x < a + b + c then 1 else 0 := by
  have i1 : (nI x).toInt = x := nI_toInt (by omega)
  have i2 : (nI a).toInt = a := nI_toInt (by omega)
  have i3 : (nI b).toInt = b := nI_toInt (by omega)
  have e1 : (nI x - nI a).toInt = (x : Int) - a := by rw [fb_subI (by omega) (by omega), i1, i2]
  have e2 : ((nI x - nI a) - nI b).toInt = (x : Int) - a - b := by rw [fb_subI (by omega) (by omega), e1, i3]
  have e3 : nI c - 1 = nI (c - 1) := by rw [lit_nI 1, pk_sub h1]
  have z0 : (0 : Int32).toInt = 0 := by decide
  unfold wi
  rw [e3]
  by_cases c1 : ((nI x - nI a) - nI b) < 0
  · have := Int32.lt_iff_toInt_lt.mp c1
    rw [e2, z0] at this
    rw [if_pos c1, if_neg (by omega)]
  · have n1 : ¬ ((x : Int) - a - b < 0) := fun z => c1 (Int32.lt_iff_toInt_lt.mpr (by rw [e2, z0]; exact z))
    rw [if_neg c1]
    by_cases c2 : nI (c - 1) < ((nI x - nI a) - nI b)
    · have := Int32.lt_iff_toInt_lt.mp c2
      rw [e2, nI_toInt (by omega)] at this
      rw [if_pos c2, if_neg (by omega)]
    · have n2 : ¬ (((c - 1 : Nat) : Int) < (x : Int) - a - b) := fun z => c2 (Int32.lt_iff_toInt_lt.mpr (by rw [e2, nI_toInt (by omega)]; exact z))
      rw [if_neg c2, if_pos (by omega)]
theorem s_sigM {M N : ST} {q : Nat → Nat} (h1 : P1 M N q) (h3 : P3 M N q) (post : Int32 → Prop) (hp : post (sg q)) : v_X9_signalsNow N post := by
  obtain ⟨-, hi, ho⟩ := id h1
  obtain ⟨⟨x1, x2, x3⟩, ⟨y1, y2, y3⟩, -⟩ := id h3
  simp only [modeOK, Nat.zero_add] at ho
  have g0 : N 1 0 = nI (q 0) := hi 0 (by omega)
  have g1 : N 1 1 = nI (q 1) := hi 1 (by omega)
  have g2 : N 1 2 = nI (q 2) := hi 2 (by omega)
  have g4 : N 1 4 = nI (q 4) := hi 4 (by omega)
  have g5 : N 1 5 = nI (q 5) := hi 5 (by omega)
  have g6 : N 1 6 = nI (q 6) := hi 6 (by omega)
  unfold v_X9_signalsNow
  rw [g0, g1, g2, g4, g5, g6, x2, y2]
  rintro x rfl
  rintro y rfl
  simp only [s_isIn]
  rw [wi_sub (by omega) (by omega) (by omega) (by omega) (by omega), wi_sub (by omega) (by omega) (by omega) (by omega) (by omega)]
  have k1 : nI (q 0) ≤ nI (q 20) ↔ q 0 ≤ q 20 := nI_leI (by omega) (by omega)
  have k2 : nI (q 21) < nI (q 4) ↔ q 21 < q 4 := nI_ltI (by omega) (by omega)
  by_cases hA : q 0 + q 1 ≤ q 20 ∧ q 20 < q 0 + q 1 + q 2
  · simp only [if_pos hA]
    refine ⟨fun c => absurd c one_ne, fun _ => ?_⟩
    by_cases hB : q 4 + q 5 ≤ q 21 ∧ q 21 < q 4 + q 5 + q 6
    · simp only [if_pos hB]
      refine ⟨fun c => absurd c one_ne, fun _ => ?_⟩
      rintro x9 rfl
      refine ⟨fun c => ?_, fun c => ⟨fun d => ?_, fun d => ?_⟩⟩
      · have hC : ¬ (q 20 < q 0 ∧ q 21 < q 4) := by rw [k1] at c; omega
        have e : sg q = nI 7 := by simp only [sg, if_pos hA, if_pos hB, if_neg hC]
        rw [e] at hp
        exact hp
      · have hC : (q 20 < q 0 ∧ q 21 < q 4) := by rw [k1] at c; rw [k2] at d; omega
        have e : sg q = nI 3 := by simp only [sg, if_pos hA, if_pos hB, if_pos hC]
        rw [e] at hp
        exact hp
      · have hC : ¬ (q 20 < q 0 ∧ q 21 < q 4) := by rw [k2] at d; omega
        have e : sg q = nI 7 := by simp only [sg, if_pos hA, if_pos hB, if_neg hC]
        rw [e] at hp
        exact hp
    · simp only [if_neg hB]
      refine ⟨fun _ => ?_, fun c => absurd (by trivial) c⟩
      refine ⟨fun c => ?_, fun c => ⟨fun d => ?_, fun d => ?_⟩⟩
      · have hC : ¬ (q 20 < q 0 ∧ q 21 < q 4) := by rw [k1] at c; omega
        have e : sg q = nI 5 := by simp only [sg, if_pos hA, if_neg hB, if_neg hC]
        rw [e] at hp
        exact hp
      · have hC : (q 20 < q 0 ∧ q 21 < q 4) := by rw [k1] at c; rw [k2] at d; omega
        have e : sg q = nI 1 := by simp only [sg, if_pos hA, if_neg hB, if_pos hC]
        rw [e] at hp
        exact hp
      · have hC : ¬ (q 20 < q 0 ∧ q 21 < q 4) := by rw [k2] at d; omega
        have e : sg q = nI 5 := by simp only [sg, if_pos hA, if_neg hB, if_neg hC]
        rw [e] at hp
        exact hp
  · simp only [if_neg hA]
    refine ⟨fun _ => ?_, fun c => absurd (by trivial) c⟩
    by_cases hB : q 4 + q 5 ≤ q 21 ∧ q 21 < q 4 + q 5 + q 6
    · simp only [if_pos hB]
      refine ⟨fun c => absurd c one_ne, fun _ => ?_⟩
      rintro x9 rfl
      refine ⟨fun c => ?_, fun c => ⟨fun d => ?_, fun d => ?_⟩⟩
      · have hC : ¬ (q 20 < q 0 ∧ q 21 < q 4) := by rw [k1] at c; omega
        have e : sg q = nI 6 := by simp only [sg, if_neg hA, if_pos hB, if_neg hC]
        rw [e] at hp
        exact hp
      · have hC : (q 20 < q 0 ∧ q 21 < q 4) := by rw [k1] at c; rw [k2] at d; omega
        have e : sg q = nI 2 := by simp only [sg, if_neg hA, if_pos hB, if_pos hC]
        rw [e] at hp
        exact hp
      · have hC : ¬ (q 20 < q 0 ∧ q 21 < q 4) := by rw [k2] at d; omega
        have e : sg q = nI 6 := by simp only [sg, if_neg hA, if_pos hB, if_neg hC]
        rw [e] at hp
        exact hp
    · simp only [if_neg hB]
      refine ⟨fun _ => ?_, fun c => absurd (by trivial) c⟩
      refine ⟨fun c => ?_, fun c => ⟨fun d => ?_, fun d => ?_⟩⟩
      · have hC : ¬ (q 20 < q 0 ∧ q 21 < q 4) := by rw [k1] at c; omega
        have e : sg q = nI 4 := by simp only [sg, if_neg hA, if_neg hB, if_neg hC]
        rw [e] at hp
        exact hp
      · have hC : (q 20 < q 0 ∧ q 21 < q 4) := by rw [k1] at c; rw [k2] at d; omega
        have e : sg q = nI 0 := by simp only [sg, if_neg hA, if_neg hB, if_pos hC]
        rw [e] at hp
        exact hp
      · have hC : ¬ (q 20 < q 0 ∧ q 21 < q 4) := by rw [k2] at d; omega
        have e : sg q = nI 4 := by simp only [sg, if_neg hA, if_neg hB, if_neg hC]
        rw [e] at hp
        exact hp
def tk (N : ST) : Int32 := if (((N 1 28) >>> (((N 1 23) - (N 1 23) / (N 1 27) * (N 1 27)) &&& 31)) &&& 1) = 1 then 1 else 0
theorem tk_bool (N : ST) : x_bool (tk N) := by
  unfold tk x_bool
  split
  · exact Or.inr rfl
  · exact Or.inl rfl
theorem s_takenM {M N : ST} {q : Nat → Nat} (h4 : P4 M N q) (post : Int32 → Prop) (hp : post (tk N)) : v_X9_isTaken N post := by
  obtain ⟨-, -, ⟨p1, p2, p3, p4⟩, -⟩ := h4
  unfold v_X9_isTaken
  refine ⟨by rw [p2]; exact nI_ne0 (by omega) (by omega), fun c => ?_, fun c => ?_⟩
  · unfold tk at hp; rw [if_neg c] at hp; exact hp
  · unfold tk at hp; rw [if_pos c] at hp; exact hp
theorem s_takenC {M N : ST} {q : Nat → Nat} (h4 : P4 M N q) (post : Int32 → Prop) (hp : post (tk N)) : v_X3_isTaken M post := by
  obtain ⟨⟨t1, t2, t3⟩, -, ⟨p1, p2, p3, p4⟩, o1⟩ := h4
  have e8 : M 0 8 = N 1 27 := p1.trans p2.symm
  have e10 : M 0 10 = N 1 23 := t1.trans t2.symm
  unfold v_X3_isTaken
  rw [e8, e10, o1]
  refine ⟨fun c => absurd c (by rw [p2]; exact nI_nle (by omega) (by omega)), fun _ => ⟨by rw [p2]; exact nI_ne0 (by omega) (by omega), fun c => ?_, fun c => ?_⟩⟩
  · unfold tk at hp; rw [if_neg c] at hp; exact hp
  · unfold tk at hp; rw [if_pos c] at hp; exact hp
theorem s_ticksOf (N : ST) {b : Nat} (hb : b < 20000) (post : Int32 → Prop) (hp : post (N 1 b + N 1 (b + 1) + N 1 (b + 2) + N 1 (b + 3))) : v_X9_ticksOf N (nI b) post := by
  unfold v_X9_ticksOf
  exact ⟨b, by omega, rfl, b + 1, by omega, nI_1 b, b + 2, by omega, nI_add b 2, b + 3, by omega, nI_add b 3, hp⟩
theorem s_linesOf (N : ST) {b : Nat} (hb : b < 20000) (post : Int32 → Prop) (hp : post (N 1 (b + 4) + N 1 (b + 5) + N 1 (b + 6) + N 1 (b + 7))) : v_X9_linesOf N (nI b) post := by
  unfold v_X9_linesOf
  exact ⟨b + 4, by omega, nI_add b 4, b + 5, by omega, nI_add b 5, b + 6, by omega, nI_add b 6, b + 7, by omega, nI_add b 7, hp⟩
theorem s_lineM {M N : ST} {q : Nat → Nat} (h1 : P1 M N q) (post : Int32 → Prop) (hp : post (nI (q 0 + q 1 + q 2 + q 3))) : v_X9_ticksOf N 0 post := by
  refine s_ticksOf N (b := 0) (by decide) post ?_
  rw [h1.2.1 1 (by omega), h1.2.1 2 (by omega), h1.2.1 3 (by omega), show N 1 0 = nI (q 0) from h1.2.1 0 (by omega), nI_add, nI_add, nI_add]
  exact hp
theorem s_linesM {M N : ST} {q : Nat → Nat} (h1 : P1 M N q) (post : Int32 → Prop) (hp : post (nI (q 4 + q 5 + q 6 + q 7))) : v_X9_linesOf N 0 post := by
  refine s_linesOf N (b := 0) (by decide) post ?_
  rw [h1.2.1 4 (by omega), h1.2.1 5 (by omega), h1.2.1 6 (by omega), h1.2.1 7 (by omega), nI_add, nI_add, nI_add]
  exact hp
theorem m_now {MB N : ST} {q : Nat → Nat} (h : RR (x_sh MB 2) N q) (p1 : Int32) : StepR (v_X8_now MB p1) (v_X9_now N p1) := by
  obtain ⟨h1, -, h3, h4, h5, -⟩ := h
  obtain ⟨⟨x1, x2, -⟩, ⟨y1, y2, -⟩, ⟨f1, f2, -⟩⟩ := id h3
  obtain ⟨-, d1, -, -⟩ := id h4
  obtain ⟨⟨u1, u2⟩, -, -, -, -, ⟨k1, k2, -⟩, ⟨b1, b2, -⟩, -⟩ := id h5
  rcases x_sw p1 12 (by decide) with ⟨k, hk, e⟩ | e
  · subst e
    match k, hk with
    | 0, _ =>
      refine ⟨nI (q 20), fun post hp => ?_, fun post hp => ?_⟩
      · unfold v_X8_now
        exact ⟨fun _ => by rw [show MB 3 3 = nI (q 20) from x1]; exact hp, fun e => absurd e (by decide), fun e => absurd e (by decide), fun e => absurd e (by decide), fun e => absurd e (by decide), fun e => absurd e (by decide), fun e => absurd e (by decide), fun e => absurd e (by decide), fun e => absurd e (by decide), fun e => absurd e (by decide), fun e => absurd e (by decide), fun e => absurd e (by decide), fun e => absurd e (by decide)⟩
      · unfold v_X9_now
        exact ⟨fun _ => by rw [x2]; exact hp, fun e => absurd e (by decide), fun e => absurd e (by decide), fun e => absurd e (by decide), fun e => absurd e (by decide), fun e => absurd e (by decide), fun e => absurd e (by decide), fun e => absurd e (by decide), fun e => absurd e (by decide), fun e => absurd e (by decide), fun e => absurd e (by decide), fun e => absurd e (by decide), fun e => absurd e (by decide)⟩
    | 1, _ =>
      refine ⟨nI (q 21), fun post hp => ?_, fun post hp => ?_⟩
      · unfold v_X8_now
        exact ⟨fun e => absurd e (by decide), fun _ => by rw [show MB 3 4 = nI (q 21) from y1]; exact hp, fun e => absurd e (by decide), fun e => absurd e (by decide), fun e => absurd e (by decide), fun e => absurd e (by decide), fun e => absurd e (by decide), fun e => absurd e (by decide), fun e => absurd e (by decide), fun e => absurd e (by decide), fun e => absurd e (by decide), fun e => absurd e (by decide), fun e => absurd e (by decide)⟩
      · unfold v_X9_now
        exact ⟨fun e => absurd e (by decide), fun _ => by rw [y2]; exact hp, fun e => absurd e (by decide), fun e => absurd e (by decide), fun e => absurd e (by decide), fun e => absurd e (by decide), fun e => absurd e (by decide), fun e => absurd e (by decide), fun e => absurd e (by decide), fun e => absurd e (by decide), fun e => absurd e (by decide), fun e => absurd e (by decide), fun e => absurd e (by decide)⟩
    | 2, _ =>
      refine ⟨nI (q 22), fun post hp => ?_, fun post hp => ?_⟩
      · unfold v_X8_now
        exact ⟨fun e => absurd e (by decide), fun e => absurd e (by decide), fun _ => by rw [show MB 3 5 = nI (q 22) from f1]; exact hp, fun e => absurd e (by decide), fun e => absurd e (by decide), fun e => absurd e (by decide), fun e => absurd e (by decide), fun e => absurd e (by decide), fun e => absurd e (by decide), fun e => absurd e (by decide), fun e => absurd e (by decide), fun e => absurd e (by decide), fun e => absurd e (by decide)⟩
      · unfold v_X9_now
        exact ⟨fun e => absurd e (by decide), fun e => absurd e (by decide), fun _ => by rw [f2]; exact hp, fun e => absurd e (by decide), fun e => absurd e (by decide), fun e => absurd e (by decide), fun e => absurd e (by decide), fun e => absurd e (by decide), fun e => absurd e (by decide), fun e => absurd e (by decide), fun e => absurd e (by decide), fun e => absurd e (by decide), fun e => absurd e (by decide)⟩
    | 3, _ =>
      refine ⟨sg q, fun post hp => ?_, fun post hp => ?_⟩
      · unfold v_X8_now
        exact ⟨fun e => absurd e (by decide), fun e => absurd e (by decide), fun e => absurd e (by decide), fun _ => s_sigC h1 h3 _ hp, fun e => absurd e (by decide), fun e => absurd e (by decide), fun e => absurd e (by decide), fun e => absurd e (by decide), fun e => absurd e (by decide), fun e => absurd e (by decide), fun e => absurd e (by decide), fun e => absurd e (by decide), fun e => absurd e (by decide)⟩
      · unfold v_X9_now
        exact ⟨fun e => absurd e (by decide), fun e => absurd e (by decide), fun e => absurd e (by decide), fun _ => s_sigM h1 h3 _ hp, fun e => absurd e (by decide), fun e => absurd e (by decide), fun e => absurd e (by decide), fun e => absurd e (by decide), fun e => absurd e (by decide), fun e => absurd e (by decide), fun e => absurd e (by decide), fun e => absurd e (by decide), fun e => absurd e (by decide)⟩
    | 4, _ =>
      refine ⟨nI (q 0 + q 1 + q 2 + q 3), fun post hp => ?_, fun post hp => ?_⟩
      · unfold v_X8_now
        exact ⟨fun e => absurd e (by decide), fun e => absurd e (by decide), fun e => absurd e (by decide), fun e => absurd e (by decide), fun _ => s_whole _ (q 0) (q 1) (q 2) (q 3) h1.1.1.1 h1.1.1.2.1 h1.1.1.2.2.1 h1.1.1.2.2.2 _ hp, fun e => absurd e (by decide), fun e => absurd e (by decide), fun e => absurd e (by decide), fun e => absurd e (by decide), fun e => absurd e (by decide), fun e => absurd e (by decide), fun e => absurd e (by decide), fun e => absurd e (by decide)⟩
      · unfold v_X9_now
        exact ⟨fun e => absurd e (by decide), fun e => absurd e (by decide), fun e => absurd e (by decide), fun e => absurd e (by decide), fun _ => s_lineM h1 _ hp, fun e => absurd e (by decide), fun e => absurd e (by decide), fun e => absurd e (by decide), fun e => absurd e (by decide), fun e => absurd e (by decide), fun e => absurd e (by decide), fun e => absurd e (by decide), fun e => absurd e (by decide)⟩
    | 5, _ =>
      refine ⟨nI (q 4 + q 5 + q 6 + q 7), fun post hp => ?_, fun post hp => ?_⟩
      · unfold v_X8_now
        exact ⟨fun e => absurd e (by decide), fun e => absurd e (by decide), fun e => absurd e (by decide), fun e => absurd e (by decide), fun e => absurd e (by decide), fun _ => s_whole _ (q 4) (q 5) (q 6) (q 7) h1.1.2.1.1 h1.1.2.1.2.1 h1.1.2.1.2.2.1 h1.1.2.1.2.2.2 _ hp, fun e => absurd e (by decide), fun e => absurd e (by decide), fun e => absurd e (by decide), fun e => absurd e (by decide), fun e => absurd e (by decide), fun e => absurd e (by decide), fun e => absurd e (by decide)⟩
      · unfold v_X9_now
        exact ⟨fun e => absurd e (by decide), fun e => absurd e (by decide), fun e => absurd e (by decide), fun e => absurd e (by decide), fun e => absurd e (by decide), fun _ => s_linesM h1 _ hp, fun e => absurd e (by decide), fun e => absurd e (by decide), fun e => absurd e (by decide), fun e => absurd e (by decide), fun e => absurd e (by decide), fun e => absurd e (by decide), fun e => absurd e (by decide)⟩
    | 6, _ =>
      refine ⟨nI (q 33), fun post hp => ?_, fun post hp => ?_⟩
      · unfold v_X8_now
        exact ⟨fun e => absurd e (by decide), fun e => absurd e (by decide), fun e => absurd e (by decide), fun e => absurd e (by decide), fun e => absurd e (by decide), fun e => absurd e (by decide), fun _ => by rw [show MB 13 2 = nI (q 33) from k1]; exact hp, fun e => absurd e (by decide), fun e => absurd e (by decide), fun e => absurd e (by decide), fun e => absurd e (by decide), fun e => absurd e (by decide), fun e => absurd e (by decide)⟩
      · unfold v_X9_now
        exact ⟨fun e => absurd e (by decide), fun e => absurd e (by decide), fun e => absurd e (by decide), fun e => absurd e (by decide), fun e => absurd e (by decide), fun e => absurd e (by decide), fun _ => by rw [k2]; exact hp, fun e => absurd e (by decide), fun e => absurd e (by decide), fun e => absurd e (by decide), fun e => absurd e (by decide), fun e => absurd e (by decide), fun e => absurd e (by decide)⟩
    | 7, _ =>
      refine ⟨nI (q 35), fun post hp => ?_, fun post hp => ?_⟩
      · unfold v_X8_now
        exact ⟨fun e => absurd e (by decide), fun e => absurd e (by decide), fun e => absurd e (by decide), fun e => absurd e (by decide), fun e => absurd e (by decide), fun e => absurd e (by decide), fun e => absurd e (by decide), fun _ => by rw [show MB 13 5 = nI (q 35) from b1]; exact hp, fun e => absurd e (by decide), fun e => absurd e (by decide), fun e => absurd e (by decide), fun e => absurd e (by decide), fun e => absurd e (by decide)⟩
      · unfold v_X9_now
        exact ⟨fun e => absurd e (by decide), fun e => absurd e (by decide), fun e => absurd e (by decide), fun e => absurd e (by decide), fun e => absurd e (by decide), fun e => absurd e (by decide), fun e => absurd e (by decide), fun _ => by rw [b2]; exact hp, fun e => absurd e (by decide), fun e => absurd e (by decide), fun e => absurd e (by decide), fun e => absurd e (by decide), fun e => absurd e (by decide)⟩
    | 8, _ =>
      refine ⟨N 1 24, fun post hp => ?_, fun post hp => ?_⟩
      · unfold v_X8_now
        exact ⟨fun e => absurd e (by decide), fun e => absurd e (by decide), fun e => absurd e (by decide), fun e => absurd e (by decide), fun e => absurd e (by decide), fun e => absurd e (by decide), fun e => absurd e (by decide), fun e => absurd e (by decide), fun _ => by rw [show MB 13 9 = N 1 24 from u1]; exact hp, fun e => absurd e (by decide), fun e => absurd e (by decide), fun e => absurd e (by decide), fun e => absurd e (by decide)⟩
      · unfold v_X9_now
        exact ⟨fun e => absurd e (by decide), fun e => absurd e (by decide), fun e => absurd e (by decide), fun e => absurd e (by decide), fun e => absurd e (by decide), fun e => absurd e (by decide), fun e => absurd e (by decide), fun e => absurd e (by decide), fun _ => hp, fun e => absurd e (by decide), fun e => absurd e (by decide), fun e => absurd e (by decide), fun e => absurd e (by decide)⟩
    | 9, _ =>
      refine ⟨N 1 25, fun post hp => ?_, fun post hp => ?_⟩
      · unfold v_X8_now
        exact ⟨fun e => absurd e (by decide), fun e => absurd e (by decide), fun e => absurd e (by decide), fun e => absurd e (by decide), fun e => absurd e (by decide), fun e => absurd e (by decide), fun e => absurd e (by decide), fun e => absurd e (by decide), fun e => absurd e (by decide), fun _ => by rw [show MB 2 11 = N 1 25 from d1]; exact hp, fun e => absurd e (by decide), fun e => absurd e (by decide), fun e => absurd e (by decide)⟩
      · unfold v_X9_now
        exact ⟨fun e => absurd e (by decide), fun e => absurd e (by decide), fun e => absurd e (by decide), fun e => absurd e (by decide), fun e => absurd e (by decide), fun e => absurd e (by decide), fun e => absurd e (by decide), fun e => absurd e (by decide), fun e => absurd e (by decide), fun _ => hp, fun e => absurd e (by decide), fun e => absurd e (by decide), fun e => absurd e (by decide)⟩
    | 10, _ =>
      refine ⟨N 1 26, fun post hp => ?_, fun post hp => ?_⟩
      · unfold v_X8_now
        exact ⟨fun e => absurd e (by decide), fun e => absurd e (by decide), fun e => absurd e (by decide), fun e => absurd e (by decide), fun e => absurd e (by decide), fun e => absurd e (by decide), fun e => absurd e (by decide), fun e => absurd e (by decide), fun e => absurd e (by decide), fun e => absurd e (by decide), fun _ => by rw [show MB 13 10 = N 1 26 from u2]; exact hp, fun e => absurd e (by decide), fun e => absurd e (by decide)⟩
      · unfold v_X9_now
        exact ⟨fun e => absurd e (by decide), fun e => absurd e (by decide), fun e => absurd e (by decide), fun e => absurd e (by decide), fun e => absurd e (by decide), fun e => absurd e (by decide), fun e => absurd e (by decide), fun e => absurd e (by decide), fun e => absurd e (by decide), fun e => absurd e (by decide), fun _ => hp, fun e => absurd e (by decide), fun e => absurd e (by decide)⟩
    | 11, _ =>
      have tkb : ∀ {post : Int32 → Prop}, post (tk N) → ((tk N = 0 → post 0) ∧ (¬ tk N = 0 → post 1)) := fun {post} hp => by
        rcases tk_bool N with e | e
        · rw [e] at hp ⊢; exact ⟨fun _ => hp, fun c => absurd rfl c⟩
        · rw [e] at hp ⊢; exact ⟨fun c => absurd c one_ne, fun _ => hp⟩
      refine ⟨tk N, fun post hp => ?_, fun post hp => ?_⟩
      · unfold v_X8_now
        exact ⟨fun e => absurd e (by decide), fun e => absurd e (by decide), fun e => absurd e (by decide), fun e => absurd e (by decide), fun e => absurd e (by decide), fun e => absurd e (by decide), fun e => absurd e (by decide), fun e => absurd e (by decide), fun e => absurd e (by decide), fun e => absurd e (by decide), fun e => absurd e (by decide), fun _ => s_takenC h4 _ (tkb hp), fun e => absurd e (by decide)⟩
      · unfold v_X9_now
        exact ⟨fun e => absurd e (by decide), fun e => absurd e (by decide), fun e => absurd e (by decide), fun e => absurd e (by decide), fun e => absurd e (by decide), fun e => absurd e (by decide), fun e => absurd e (by decide), fun e => absurd e (by decide), fun e => absurd e (by decide), fun e => absurd e (by decide), fun e => absurd e (by decide), fun _ => s_takenM h4 _ (tkb hp), fun e => absurd e (by decide)⟩
    | k + 12, hk => exact absurd hk (by omega)
  · have ne : ∀ k : Nat, k < 12 → p1 ≠ nI k := fun k hk e2 => by
      rw [e2, nI_toInt (by omega)] at e
      omega
    have e : Int32.toInt p1 < 0 ∨ 11 < Int32.toInt p1 := by omega
    refine ⟨-1, fun post hp => ?_, fun post hp => ?_⟩
    · unfold v_X8_now
      exact ⟨fun z => absurd z (ne 0 (by decide)), fun z => absurd z (ne 1 (by decide)), fun z => absurd z (ne 2 (by decide)), fun z => absurd z (ne 3 (by decide)), fun z => absurd z (ne 4 (by decide)), fun z => absurd z (ne 5 (by decide)), fun z => absurd z (ne 6 (by decide)), fun z => absurd z (ne 7 (by decide)), fun z => absurd z (ne 8 (by decide)), fun z => absurd z (ne 9 (by decide)), fun z => absurd z (ne 10 (by decide)), fun z => absurd z (ne 11 (by decide)), fun _ => hp⟩
    · unfold v_X9_now
      exact ⟨fun z => absurd z (ne 0 (by decide)), fun z => absurd z (ne 1 (by decide)), fun z => absurd z (ne 2 (by decide)), fun z => absurd z (ne 3 (by decide)), fun z => absurd z (ne 4 (by decide)), fun z => absurd z (ne 5 (by decide)), fun z => absurd z (ne 6 (by decide)), fun z => absurd z (ne 7 (by decide)), fun z => absurd z (ne 8 (by decide)), fun z => absurd z (ne 9 (by decide)), fun z => absurd z (ne 10 (by decide)), fun z => absurd z (ne 11 (by decide)), fun _ => hp⟩
