/-! bits of a number (of the starting texts) -/
def bt (x : Int32) (i : Nat) : Bool := x.toBitVec.getLsbD i
theorem b_ext {x y : Int32} (h : ∀ i, i < 32 → bt x i = bt y i) : x = y := Int32.toBitVec_inj.mp (BitVec.eq_of_getLsbD_eq (fun i hi => h i hi))
theorem b_big {x : Int32} {i : Nat} (h : 32 ≤ i) : bt x i = false := BitVec.getLsbD_of_ge _ _ h
theorem b_or (x y : Int32) (i : Nat) : bt (x ||| y) i = (bt x i || bt y i) := by unfold bt; rw [Int32.toBitVec_or, BitVec.getLsbD_or]
theorem b_and (x y : Int32) (i : Nat) : bt (x &&& y) i = (bt x i && bt y i) := by unfold bt; rw [Int32.toBitVec_and, BitVec.getLsbD_and]
theorem b_xor (x y : Int32) (i : Nat) : bt (x ^^^ y) i = (bt x i ^^ bt y i) := by unfold bt; rw [Int32.toBitVec_xor, BitVec.getLsbD_xor]
theorem b_255 (i : Nat) : bt 255 i = decide (i < 8) := by
  rcases Nat.lt_or_ge i 32 with h | h
  · exact (by decide +kernel : ∀ i, i < 32 → bt 255 i = decide (i < 8)) i h
  · rw [b_big h, decide_eq_false (by omega)]
theorem s_l : ∀ n, n < 32 → ((nI n &&& 31).toBitVec.smod 32).toNat = n := by decide +kernel
theorem s_u : ∀ n, n < 32 → (((nI n).toUInt32 &&& Int32.toUInt32 31).toBitVec % 32).toNat = n := by decide +kernel
theorem b_shl (n : Nat) (hn : n < 32) (x : Int32) {i : Nat} (hi : i < 32) : bt (x <<< (nI n &&& 31)) i = (decide (n ≤ i) && bt x (i - n)) := by
  unfold bt
  rw [Int32.toBitVec_shiftLeft]
  show (x.toBitVec <<< ((nI n &&& 31).toBitVec.smod 32).toNat).getLsbD i = _
  rw [s_l n hn, BitVec.getLsbD_shiftLeft]
  rcases Nat.lt_or_ge i n with h | h
  · simp [h, Nat.not_le.mpr h]
  · simp [hi, h, Nat.not_lt.mpr h]
theorem b_ushr (n : Nat) (hn : n < 32) (x : Int32) (i : Nat) : bt ((x.toUInt32 >>> ((nI n).toUInt32 &&& Int32.toUInt32 31)).toInt32) i = bt x (n + i) := by
  show (x.toUInt32 >>> ((nI n).toUInt32 &&& Int32.toUInt32 31)).toBitVec.getLsbD i = x.toUInt32.toBitVec.getLsbD (n + i)
  rw [UInt32.toBitVec_shiftRight]
  show (x.toUInt32.toBitVec >>> (((nI n).toUInt32 &&& Int32.toUInt32 31).toBitVec % 32).toNat).getLsbD i = _
  rw [s_u n hn, BitVec.getLsbD_ushiftRight]
theorem b_sshr (n : Nat) (hn : n < 32) (x : Int32) {i : Nat} (hi : i < 32) : bt (x >>> (nI n &&& 31)) i = if n + i < 32 then bt x (n + i) else bt x 31 := by
  unfold bt
  rw [Int32.toBitVec_shiftRight]
  show (x.toBitVec.sshiftRight ((nI n &&& 31).toBitVec.smod 32).toNat).getLsbD i = _
  rw [s_l n hn, BitVec.getLsbD_sshiftRight, BitVec.msb_eq_getLsbD_last]
  simp [hi]
/-! ===== memory, what is shown, signals ===== -/
theorem RR.mem {M N : ST} {q : Nat → Nat} (h : RR M N q) {n : Nat} (hn : n < 1024) (v : Int32) : RR (x_st M 26 n v) (x_st N 1 (740 + n) v) q := by
  obtain ⟨h1, h2, h3, h4, h5, h13, h6, h7, h8, h9, h10, h11, h12⟩ := h
  have hM : ∀ i, i ≠ 26 → x_st M 26 n v i = M i := fun i hi => x_st_row _ _ _ _ hi
  have hN : ∀ k, k < 740 ∨ 1764 ≤ k → x_st N 1 (740 + n) v 1 k = N 1 k := fun k hk => x_st_col _ _ _ _ (by omega) _
  have hq : ∀ k, k < 99999 ∨ 0 ≤ k → q k = q k := fun k _ => rfl
  have h11' : P11 (x_st M 26 n v) (x_st N 1 (740 + n) v) := fun j hj => by
    by_cases e : j = n
    · subst e; rw [x_st_at, x_st_at]
    · rw [x_st_col _ _ _ _ e, x_st_col _ _ _ _ (by omega)]; exact h11 j hj
  exact ⟨h1.cg (hM 2 (by omega)) (hM 3 (by omega)) (hM 4 (by omega)) (fun k _ => hN k (by omega)) (fun k _ => hq k (by omega)), h2.cg (hM 8 (by omega)) (hM 9 (by omega)) (hM 10 (by omega)) (fun k _ _ => hN k (by omega)) (fun k _ _ => hq k (by omega)), h3.cg ⟨congrFun (hM 1 (by omega)) 3, congrFun (hM 1 (by omega)) 4, congrFun (hM 1 (by omega)) 5⟩ ⟨hN 20 (by omega), hN 21 (by omega), hN 22 (by omega)⟩ (fun k _ => hq k (by omega)) (fun k _ _ => hq k (by omega)), h4.cg (hM 0 (by omega)) ⟨hN 23 (by omega), hN 25 (by omega), hN 27 (by omega), hN 28 (by omega)⟩ ⟨hq 23 (by omega), hq 27 (by omega)⟩, h5.cg (hM 11 (by omega)) (fun k _ _ _ _ _ => hN k (by omega)) (fun k _ _ => hq k (by omega)) (hq 9 (by omega)), h13.cg (hM 12 (by omega)) (fun k _ _ => hN k (by omega)) (hq 33 (by omega)) h5.2.2.2.2.2.1.2.2 (hq 9 (by omega)), h6.cg (hM 14 (by omega)) (fun k _ _ => hN k (by omega)) (fun k _ _ => hq k (by omega)), h7.cg (hM 15 (by omega)) (hM 16 (by omega)) (hM 17 (by omega)) (hM 18 (by omega)) (hM 19 (by omega)) ⟨hN 36 (by omega), hq 36 (by omega)⟩ (fun k _ _ => hN k (by omega)) (fun k _ _ => hq k (by omega)), h8.cg (hM 5 (by omega)) (hM 6 (by omega)) (hM 7 (by omega)) (congrFun (hM 1 (by omega)) 6) (fun k _ _ => hN k (by omega)) (fun k _ _ => hq k (by omega)) (fun k _ => hq k (by omega)) (fun k _ _ => hq k (by omega)), h9.cg (hM 21 (by omega)) (hM 22 (by omega)) (hM 23 (by omega)) (hM 24 (by omega)) (hM 25 (by omega)) (fun k _ _ => hN k (by omega)) (fun k _ _ => hq k (by omega)), h10.cg (hM 28 (by omega)) (fun k _ _ => hN k (by omega)), h11', h12.cg (hM 27 (by omega)) (fun k _ _ => hN k (by omega))⟩
theorem and1023 {n : Nat} (h : n < 2 ^ 31) : nI n &&& 1023 = nI (n % 1024) := pk_andN (by omega) 10 rfl
theorem s_store (M : ST) {n : Nat} (hn : n < 2 ^ 31) (p2 : Int32) (post : ST → Prop) (hp : post (x_st M 26 (n % 1024) (p2 &&& 255))) : v_X3_storeByte M (nI n) p2 post := by
  unfold v_X3_storeByte
  refine ⟨n % 1024, Nat.mod_lt _ (by decide), and1023 hn, ?_⟩
  rintro M2 rfl
  exact hp
theorem m_put {MB N : ST} {q : Nat → Nat} (h : RR (x_sh MB 2) N q) (p1 p2 : Int32) : Step (v_X8_put MB p1 p2) (v_X9_put N p1 p2) N := by
  rcases wi_cases p1 0 1023 (by decide) (by decide) with ⟨hw, -⟩ | ⟨hw, n, rfl, n1, n2⟩
  · have hw : wi p1 0 1023 = 0 := hw
    refine ⟨0, MB, N, q, fun post hp => ?_, fun post hp => ?_, h, keep.rf⟩
    · unfold v_X8_put; simp only [s_within]; rw [hw]; exact ⟨fun c => absurd rfl c, fun _ => hp⟩
    · unfold v_X9_put; simp only [s_isIn]; rw [hw]; exact ⟨fun c => absurd rfl c, fun _ => hp⟩
  · have hw : wi (nI n) 0 1023 = 1 := hw
    refine ⟨1, x_st MB 28 n (p2 &&& 255), x_st N 1 (740 + n) (p2 &&& 255), q, fun post hp => ?_, fun post hp => ?_, ?_, keep.rf.st (by omega)⟩
    · unfold v_X8_put; simp only [s_within]; rw [hw]
      refine ⟨fun _ => s_store _ (by omega) _ _ ?_, fun c => absurd c one_ne⟩
      rintro M4 rfl
      rw [x_wb_st _ _ _ _ _ _ _ (show 26 < 29 by decide), x_wb_sh, Nat.mod_eq_of_lt (by omega)]
      exact hp
    · unfold v_X9_put; simp only [s_isIn]; rw [hw]
      refine ⟨fun _ => ⟨740 + n, by omega, by rw [lit_nI, nI_add], ?_⟩, fun c => absurd c one_ne⟩
      rintro M4 rfl
      exact hp
    · rw [show x_sh (x_st MB 28 n (p2 &&& 255)) 2 = x_st (x_sh MB 2) 26 n (p2 &&& 255) from x_sh_st MB 2 26 n _]
      exact h.mem (by omega) _
theorem byte_of (x : Int32) {s : Nat} (hs : s ≤ 24) : (x_ushr x (nI s)) &&& 255 = (x >>> (nI s &&& 31)) &&& 255 := by
  refine b_ext (fun i hi => ?_)
  rw [b_and, b_and, b_255]
  by_cases h8 : i < 8
  · rw [show bt (x_ushr x (nI s)) i = bt x (s + i) from b_ushr s (by omega) x i, b_sshr s (by omega) x hi, if_pos (by omega)]
  · simp [h8]
theorem sh24 : ∀ k : Nat, k < 4 → (24 - 8 * nI k : Int32) = nI (24 - 8 * k) := by decide +kernel
theorem four_c (n : Nat) (hn : n ≤ 1023) (p2 : Int32) (post : Int32 → ST → Prop) (K : Int32 → ST → Prop) (f k : Nat) (hk : k < 4) (MB : ST) (h : lp_X8_four_15 (nI n) p2 post K f (nI (k + 1)) (x_st MB 28 ((n + k) % 1024) (x_ushr p2 (24 - 8 * nI k) &&& 255))) : lp_X8_four_15 (nI n) p2 post K (f + 1) (nI k) MB := by
  unfold lp_X8_four_15
  refine ⟨fun c => absurd c (nI_ge hk (by decide)), fun _ => ?_⟩
  rw [nI_add]
  refine s_store _ (by omega) _ _ ?_
  rintro M11 rfl
  rintro x rfl
  rw [x_wb_st _ _ _ _ _ _ _ (show 26 < 29 by decide), x_wb_sh, nI_1]
  exact h
theorem four_m (n : Nat) (hn : n ≤ 1023) (p2 : Int32) (post : Int32 → ST → Prop) (K : Int32 → ST → Prop) (f k : Nat) (hk : k < 4) (N : ST) (h : lp_X9_four_15 (nI n) p2 post K f (nI (k + 1)) (x_st N 1 (740 + (n + k) % 1024) ((p2 >>> ((24 - 8 * nI k) &&& 31)) &&& 255))) : lp_X9_four_15 (nI n) p2 post K (f + 1) (nI k) N := by
  unfold lp_X9_four_15
  refine ⟨fun c => absurd c (nI_ge hk (by decide)), fun _ => ?_⟩
  have hm : (n + k) % 1024 < 1024 := Nat.mod_lt _ (by decide)
  refine ⟨740 + (n + k) % 1024, by omega, ?_, ?_⟩
  · rw [nI_add, lit_nI 1024, pk_rem (by omega) (by decide) (by decide), lit_nI, nI_add]
  · rintro M11 rfl
    rintro x rfl
    rw [nI_1]
    exact h
theorem m_four {MB N : ST} {q : Nat → Nat} (h : RR (x_sh MB 2) N q) (p1 p2 : Int32) : Step (v_X8_four MB p1 p2) (v_X9_four N p1 p2) N := by
  rcases wi_cases p1 0 1023 (by decide) (by decide) with ⟨hw, -⟩ | ⟨hw, n, rfl, n1, n2⟩
  · have hw : wi p1 0 1023 = 0 := hw
    refine ⟨0, MB, N, q, fun post hp => ?_, fun post hp => ?_, h, keep.rf⟩
    · unfold v_X8_four; simp only [s_within]; rw [hw]; exact ⟨fun c => absurd rfl c, fun _ => hp⟩
    · unfold v_X9_four; simp only [s_isIn]; rw [hw]; exact ⟨fun c => absurd rfl c, fun _ => hp⟩
  · have hw : wi (nI n) 0 1023 = 1 := hw
    have bv : ∀ k : Nat, k < 4 → x_ushr p2 (24 - 8 * nI k) &&& 255 = (p2 >>> ((24 - 8 * nI k) &&& 31)) &&& 255 := fun k hk => by rw [sh24 k hk]; exact byte_of p2 (by omega)
    have go : ∀ (k : Nat) (hk : k < 4) (MB N : ST), RR (x_sh MB 2) N q → RR (x_sh (x_st MB 28 ((n + k) % 1024) (x_ushr p2 (24 - 8 * nI k) &&& 255)) 2) (x_st N 1 (740 + (n + k) % 1024) ((p2 >>> ((24 - 8 * nI k) &&& 31)) &&& 255)) q := fun k hk MB N hh => by
      rw [show ∀ (j : Nat) (v : Int32), x_sh (x_st MB 28 j v) 2 = x_st (x_sh MB 2) 26 j v from fun j v => x_sh_st MB 2 26 j v, bv k hk]
      exact hh.mem (Nat.mod_lt _ (by decide)) _
    have kp : ∀ (k : Nat) (N0 N : ST) (v : Int32), keep N0 N → keep N0 (x_st N 1 (740 + (n + k) % 1024) v) := fun k N0 N v hh => hh.st (by have := Nat.mod_lt (n + k) (show 0 < 1024 by decide); omega)
    refine ⟨1, _, _, q, fun post hp => ?_, fun post hp => ?_, go 3 (by decide) _ _ (go 2 (by decide) _ _ (go 1 (by decide) _ _ (go 0 (by decide) _ _ h))), kp 3 _ _ _ (kp 2 _ _ _ (kp 1 _ _ _ (kp 0 _ _ _ keep.rf)))⟩
    · unfold v_X8_four; simp only [s_within]; rw [hw]
      refine ⟨fun _ => ⟨5, ?_⟩, fun c => absurd c one_ne⟩
      refine four_c n n2 p2 _ _ 4 0 (by decide) MB (four_c n n2 p2 _ _ 3 1 (by decide) _ (four_c n n2 p2 _ _ 2 2 (by decide) _ (four_c n n2 p2 _ _ 1 3 (by decide) _ ?_)))
      unfold lp_X8_four_15
      exact ⟨fun _ => hp, fun c => absurd (by decide) c⟩
    · unfold v_X9_four; simp only [s_isIn]; rw [hw]
      refine ⟨fun _ => ⟨5, ?_⟩, fun c => absurd c one_ne⟩
      refine four_m n n2 p2 _ _ 4 0 (by decide) N (four_m n n2 p2 _ _ 3 1 (by decide) _ (four_m n n2 p2 _ _ 2 2 (by decide) _ (four_m n n2 p2 _ _ 1 3 (by decide) _ ?_)))
      unfold lp_X9_four_15
      exact ⟨fun _ => hp, fun c => absurd (by decide) c⟩
theorem nI_m1 {n : Nat} (h : n < 2 ^ 31) : ¬ nI n = -1 := fun e => by
  have e2 := congrArg Int32.toInt e
  rw [nI_toInt h] at e2
  have : (-1 : Int32).toInt = -1 := by decide
  omega
theorem s_placeOf {a b : Nat} (ha : a ≤ 63) (hb : b ≤ 63) (post : Int32 → Prop) (hp : post (nI (64 * b + a))) : v_X8_placeOf (nI a) (nI b) post := by
  unfold v_X8_placeOf
  simp only [s_within]
  have h1 : wi (nI a) 0 63 = 1 := wi_one (lo := 0) (by decide) a rfl (by omega) ha
  have h2 : wi (nI b) 0 63 = 1 := wi_one (lo := 0) (by decide) b rfl (by omega) hb
  rw [h1, h2]
  refine ⟨fun c => absurd c one_ne, fun _ => ⟨fun _ => ?_, fun c => absurd c one_ne⟩⟩
  rw [lit_nI 64, pk_mul, nI_add, Nat.mul_comm]
  exact hp
theorem m_shown {MB N : ST} {q : Nat → Nat} (h : RR (x_sh MB 2) N q) (p1 p2 : Int32) : StepR (v_X8_shown MB p1 p2) (v_X9_shown N p1 p2) := by
  have h12 := h.2.2.2.2.2.2.2.2.2.2.2.2
  rcases wi_cases p1 0 63 (by decide) (by decide) with ⟨hw, -⟩ | ⟨hw, a, rfl, -, a2⟩
  · have hw : wi p1 0 63 = 0 := hw
    refine ⟨-2, fun post hp => ?_, fun post hp => ?_⟩
    · unfold v_X8_shown v_X8_placeOf; simp only [s_within]; rw [hw]; exact ⟨fun _ => ⟨fun c => absurd trivial c, fun _ => hp⟩, fun c => absurd rfl c⟩
    · unfold v_X9_shown; simp only [s_isIn]; rw [hw]; exact ⟨fun _ => hp, fun c => absurd rfl c⟩
  have hw : wi (nI a) 0 63 = 1 := hw
  rcases wi_cases p2 0 63 (by decide) (by decide) with ⟨hw2, -⟩ | ⟨hw2, b, rfl, -, b2⟩
  · have hw2 : wi p2 0 63 = 0 := hw2
    refine ⟨-2, fun post hp => ?_, fun post hp => ?_⟩
    · unfold v_X8_shown v_X8_placeOf; simp only [s_within]; rw [hw]; refine ⟨fun c => absurd c one_ne, fun _ => ?_⟩; rw [hw2]; exact ⟨fun c => absurd rfl c, fun _ => ⟨fun c => absurd trivial c, fun _ => hp⟩⟩
    · unfold v_X9_shown; simp only [s_isIn]; rw [hw]; refine ⟨fun c => absurd c one_ne, fun _ => ?_⟩; rw [hw2]; exact ⟨fun _ => hp, fun c => absurd rfl c⟩
  · have hw2 : wi (nI b) 0 63 = 1 := hw2
    refine ⟨x_sh MB 2 27 (64 * b + a), fun post hp => ?_, fun post hp => ?_⟩
    · unfold v_X8_shown
      refine s_placeOf a2 b2 _ ⟨fun _ => ⟨64 * b + a, by omega, rfl, hp⟩, fun c => absurd c (nI_m1 (by omega))⟩
    · unfold v_X9_shown; simp only [s_isIn]; rw [hw]; refine ⟨fun c => absurd c one_ne, fun _ => ?_⟩; rw [hw2]; refine ⟨fun c => absurd c one_ne, fun _ => ?_⟩
      refine ⟨1770 + (64 * b + a), by omega, ?_, ?_⟩
      · rw [lit_nI 1770, lit_nI 64, pk_mul, nI_add, nI_add, Nat.add_assoc]
      · rw [← h12 (64 * b + a) (by omega), Int32.add_sub_cancel]
        exact hp
theorem m_signals {MB N : ST} {q : Nat → Nat} (h : RR (x_sh MB 2) N q) (p1 : Int32) : StepR (v_X8_signals MB p1) (v_X9_signals N p1) := by
  obtain ⟨-, -, -, ⟨⟨t1, t2, t3⟩, -⟩, -, -, -, -, -, -, h10, -⟩ := h
  have t1 : MB 2 10 = nI (q 23) := t1
  by_cases hc : ∃ n : Nat, p1 = nI n ∧ 1 ≤ n ∧ n ≤ 512 ∧ n ≤ q 23
  · obtain ⟨n, rfl, n1, n2, n3⟩ := hc
    have hm : (q 23 - n) % 512 < 512 := Nat.mod_lt _ (by decide)
    have e1 : (nI (q 23) - nI n) - (nI (q 23) - nI n) / 512 * 512 = nI ((q 23 - n) % 512) := by rw [pk_sub n3, lit_nI 512, pk_rem (by omega) (by decide) (by decide)]
    refine ⟨x_sh MB 2 28 ((q 23 - n) % 512), fun post hp => ?_, fun post hp => ?_⟩
    · unfold v_X8_signals; simp only [s_within]
      rw [show wi (nI n) 1 512 = 1 from wi_one (lo := 1) (by decide) n rfl n1 n2, t1]
      refine ⟨fun c => absurd c one_ne, fun _ => ⟨fun _ => ⟨(q 23 - n) % 512, hm, e1, hp⟩, fun c => absurd (nI_le n3 (by omega)) c⟩⟩
    · have hp : post (N 1 (220 + (q 23 - n) % 512)) := by rw [← h10 _ hm]; exact hp
      unfold v_X9_signals; simp only [s_isIn]
      rw [t2]
      have e2 : (220 + ((nI (q 23) - nI n) - (nI (q 23) - nI n) / 512 * 512) : Int32) = nI (220 + (q 23 - n) % 512) := by rw [e1, lit_nI 220, nI_add]
      refine ⟨fun _ => ?_, fun _ => ?_⟩
      · rw [show wi (nI n) 1 (nI (q 23)) = 1 from wi_one (lo := 1) (by omega) n rfl n1 n3]
        exact ⟨fun c => absurd c one_ne, fun _ => ⟨220 + (q 23 - n) % 512, by omega, e2, hp⟩⟩
      · rw [show wi (nI n) 1 512 = 1 from wi_one (lo := 1) (by decide) n rfl n1 n2]
        exact ⟨fun c => absurd c one_ne, fun _ => ⟨220 + (q 23 - n) % 512, by omega, e2, hp⟩⟩
  · have hno : ∀ n : Nat, p1 = nI n → 1 ≤ n → n ≤ 512 → n ≤ q 23 → False := fun n a b c d => hc ⟨n, a, b, c, d⟩
    refine ⟨-1, fun post hp => ?_, fun post hp => ?_⟩
    · unfold v_X8_signals; simp only [s_within]
      rcases wi_cases p1 1 512 (by decide) (by decide) with ⟨hw, -⟩ | ⟨hw, n, rfl, n1, n2⟩
      · rw [show wi p1 1 512 = 0 from hw]; exact ⟨fun _ => hp, fun c => absurd rfl c⟩
      · rw [show wi (nI n) 1 512 = 1 from hw, t1]
        refine ⟨fun c => absurd c one_ne, fun _ => ⟨fun c => ?_, fun _ => hp⟩⟩
        exact (hno n rfl n1 n2 ((nI_leI (by omega) (by omega)).mp c)).elim
    · unfold v_X9_signals; simp only [s_isIn]
      rw [t2]
      refine ⟨fun c => ?_, fun c => ?_⟩
      · have c : q 23 ≤ 512 := (nI_leI (by omega) (by decide)).mp c
        rcases wi_cases p1 1 (q 23) (by omega) (by decide) with ⟨hw, -⟩ | ⟨hw, n, rfl, n1, n2⟩
        · rw [show wi p1 1 (nI (q 23)) = 0 from hw]; exact ⟨fun _ => hp, fun c => absurd rfl c⟩
        · exact (hno n rfl n1 (by omega) n2).elim
      · have c : ¬ q 23 ≤ 512 := fun z => c (nI_le z (by decide))
        rcases wi_cases p1 1 512 (by decide) (by decide) with ⟨hw, -⟩ | ⟨hw, n, rfl, n1, n2⟩
        · rw [show wi p1 1 512 = 0 from hw]; exact ⟨fun _ => hp, fun c => absurd rfl c⟩
        · exact (hno n rfl n1 n2 (by omega)).elim
