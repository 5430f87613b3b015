set_option maxRecDepth 100000 in
theorem row_dec : ∀ c, c ≤ 8 → ((if (nI c - 3 : Int32) < 0 then 0 else (nI c - 3)) = nI c - nI (if c ≤ 3 then c else 3)) ∧ ((if (3 : Int32) < nI c then 3 else nI c) = nI (if c ≤ 3 then c else 3)) := by decide +kernel
theorem row_all {M N : ST} {q : Nat → Nat} (h9 : P9 M N q) {r m : Nat} (hr : r < 64) (hm8 : m < 256) (hm : ∀ s, s < 8 → m.testBit s = decide (q (130 + 11 * s + 1) ≤ r ∧ r < q (130 + 11 * s + 1) + q (130 + 11 * s + 2))) (post : Int32 → Prop) (K : Int32 → Int32 → Int32 → Prop) (hK : K 8 (nI (ct m)) (nI (ct (mem3 m)))) : lp_X9_row_36 N (nI r) (nI (mem3 m)) post K 9 0 0 0 := by
  have go : ∀ (d s : Nat), s + d = 8 → lp_X9_row_36 N (nI r) (nI (mem3 m)) post K (d + 1) (nI s) (nI (sm (mem3 m) m s).1) (nI (sm (mem3 m) m s).2) := by
    intro d
    induction d with
    | zero =>
      intro s hs
      have hs : s = 8 := by omega
      subst hs
      unfold lp_X9_row_36
      rw [sm_dec m hm8]
      exact ⟨fun _ => hK, fun z => absurd (by decide) z⟩
    | succ d ih =>
      intro s hs
      have i1 := ih (s + 1) (by omega)
      obtain ⟨bd1, bd0, -⟩ := bit_dec (mem3 m) (mem3_lt m) s (by omega)
      have eb : (nI (mem3 m) >>> (nI s &&& 31)) &&& 1 = nI (if (mem3 m).testBit s = true then 1 else 0) := by
        by_cases w : (mem3 m).testBit s = true
        · rw [if_pos w, bd1.mpr w]; rfl
        · rw [if_neg w, bd0.mpr (by simpa using w)]; rfl
      unfold lp_X9_row_36
      refine ⟨fun z => absurd z (nI_ge (a := s) (b := 8) (by omega) (by decide)), fun _ => ?_⟩
      rintro x17 rfl
      rw [eb, nI_add]
      refine s_hasRow h9 (by omega) hr _ ?_
      have tb := hm s (by omega)
      have e : sm (mem3 m) m (s + 1) = ((sm (mem3 m) m s).1 + (if m.testBit s = true then 1 else 0), (sm (mem3 m) m s).2 + (if (mem3 m).testBit s = true then 1 else 0)) := rfl
      rw [e] at i1
      by_cases c : q (130 + 11 * s + 1) ≤ r ∧ r < q (130 + 11 * s + 1) + q (130 + 11 * s + 2)
      · rw [decide_eq_true c] at tb
        rw [if_pos tb] at i1
        rw [if_pos c]
        refine ⟨fun z => absurd z one_ne, fun _ => ?_⟩
        rintro x22 rfl
        rintro x23 rfl
        rw [nI_1, nI_1]
        exact i1
      · rw [decide_eq_false c] at tb
        rw [if_neg (by rw [tb]; decide)] at i1
        rw [if_neg c]
        refine ⟨fun _ => ?_, fun z => absurd rfl z⟩
        rintro x20 rfl
        rintro x21 rfl
        rw [nI_1, lit_nI 0, nI_add]
        exact i1
  exact go 8 0 (by omega)
theorem m_row {MB N : ST} {q : Nat → Nat} (h : RR (x_sh MB 2) N q) (p1 p2 : Int32) : StepR (v_X8_row MB p1 p2) (v_X9_row N p1 p2) := by
  have h9 := h.2.2.2.2.2.2.2.2.2.1
  rcases wi_cases p1 0 63 (by decide) (by decide) with ⟨hw, -⟩ | ⟨hw, r, rfl, -, r2⟩
  · have hw : wi p1 0 63 = 0 := hw
    refine ⟨-1, fun post hp => ?_, fun post hp => ?_⟩
    · unfold v_X8_row; simp only [s_within]; rw [hw]; exact ⟨fun z => absurd rfl z, fun _ => hp⟩
    · unfold v_X9_row; simp only [s_isIn]; rw [hw]; exact ⟨fun _ => hp, fun z => absurd rfl z⟩
  have hw : wi (nI r) 0 63 = 1 := hw
  obtain ⟨m, m1, m2, m3⟩ := h9.2 r (by omega)
  obtain ⟨c8, cm⟩ := ct_dec m m2
  obtain ⟨rd0, rd1⟩ := row_dec (ct m) c8
  have cls : ∀ (post : Int32 → Prop) (A0 A1 A2 A3 : Prop), ((p2 = 0 → A0) ∧ (p2 = 1 → A1) ∧ (p2 = 2 → A2) ∧ ((Int32.toInt p2 < 0 ∨ 2 < Int32.toInt p2) → A3)) → True := fun _ _ _ _ _ _ => trivial
  have C : ∀ post : Int32 → Prop, ((p2 = 0 → post (nI (ct m) - nI (ct (mem3 m)))) ∧ (p2 = 1 → post (nI (ct (mem3 m)))) ∧ (p2 = 2 → post (nI (mem3 m))) ∧ ((Int32.toInt p2 < 0 ∨ 2 < Int32.toInt p2) → post (-1))) → v_X8_row MB (nI r) p2 post := fun post ⟨z0, z1, z2, z3⟩ => by
    unfold v_X8_row; simp only [s_within]; rw [hw]
    refine ⟨fun _ => ⟨r, by omega, rfl, ?_⟩, fun z => absurd z one_ne⟩
    rw [show MB 27 r = nI m from m1]
    refine cnt_dec m m2 _ ?_
    refine ⟨fun e => ?_, fun e => ?_, fun e => ?_, fun e => z3 e⟩
    · rw [show (if (nI ((List.range 8).countP (fun s => m.testBit s)) - 3 : Int32) < 0 then (0 : Int32) else nI ((List.range 8).countP (fun s => m.testBit s)) - 3) = nI (ct m) - nI (ct (mem3 m)) from by rw [cm]; exact rd0]
      exact z0 e
    · rw [show (if (3 : Int32) < nI ((List.range 8).countP (fun s => m.testBit s)) then (3 : Int32) else nI ((List.range 8).countP (fun s => m.testBit s))) = nI (ct (mem3 m)) from by rw [cm]; exact rd1]
      exact z1 e
    · exact s_members _ (by omega) m1 m2 _ (z2 e)
  have D : ∀ post : Int32 → Prop, (∀ k : Nat, k ≤ 2 → p2 = nI k → ((¬ p2 = 0 → ((¬ p2 = 1 → post (nI (mem3 m))) ∧ (p2 = 1 → post (nI (ct (mem3 m)))))) ∧ (p2 = 0 → post (nI (ct m) - nI (ct (mem3 m)))))) → ((∀ k : Nat, k ≤ 2 → p2 ≠ nI k) → post (-1)) → v_X9_row N (nI r) p2 post := fun post ha hb => by
    unfold v_X9_row; simp only [s_isIn]; rw [hw]
    refine ⟨fun z => absurd z one_ne, fun _ => ?_⟩
    rcases wi_cases p2 0 2 (by decide) (by decide) with ⟨w, hno⟩ | ⟨w, k, e, -, k2⟩
    · rw [show wi p2 0 2 = 0 from w]
      exact ⟨fun z => absurd rfl z, fun _ => hb (fun k hk => hno k (by omega) hk)⟩
    · rw [show wi p2 0 2 = 1 from w]
      refine ⟨fun _ => s_sprites h9 (by omega) m3 _ ⟨9, row_all h9 (by omega) m2 m3 _ _ ?_⟩, fun z => absurd z one_ne⟩
      exact ha k k2 e
  have n10 : ¬ ((1 : Int32) = 0) := one_ne
  rcases x_sw p2 3 (by decide) with ⟨k, hk, e⟩ | e
  · subst e
    match k, hk with
    | 0, _ =>
      refine ⟨nI (ct m) - nI (ct (mem3 m)), fun post hp => C post ⟨fun _ => hp, fun z => absurd z (by decide), fun z => absurd z (by decide), fun z => absurd z (by decide)⟩, fun post hp => D post (fun _ _ _ => ⟨fun z => absurd rfl z, fun _ => hp⟩) (fun z => absurd rfl (z 0 (by decide)))⟩
    | 1, _ =>
      refine ⟨nI (ct (mem3 m)), fun post hp => C post ⟨fun z => absurd z (by decide), fun _ => hp, fun z => absurd z (by decide), fun z => absurd z (by decide)⟩, fun post hp => D post (fun _ _ _ => ⟨fun _ => ⟨fun z => absurd rfl z, fun _ => hp⟩, fun z => absurd z (by decide)⟩) (fun z => absurd rfl (z 1 (by decide)))⟩
    | 2, _ =>
      refine ⟨nI (mem3 m), fun post hp => C post ⟨fun z => absurd z (by decide), fun z => absurd z (by decide), fun _ => hp, fun z => absurd z (by decide)⟩, fun post hp => D post (fun _ _ _ => ⟨fun _ => ⟨fun _ => hp, fun z => absurd z (by decide)⟩, fun z => absurd z (by decide)⟩) (fun z => absurd rfl (z 2 (by decide)))⟩
    | k + 3, hk => exact absurd hk (by omega)
  · have ne : ∀ k : Nat, k ≤ 2 → p2 ≠ nI k := fun k hk e2 => by
      rw [e2, nI_toInt (by omega)] at e
      omega
    refine ⟨-1, fun post hp => C post ⟨fun z => absurd z (ne 0 (by decide)), fun z => absurd z (ne 1 (by decide)), fun z => absurd z (ne 2 (by decide)), fun _ => hp⟩, fun post hp => D post (fun k hk e2 => absurd e2 (ne k hk)) (fun _ => hp)⟩
theorem RR.drw {M N : ST} {q : Nat → Nat} (h : RR M N q) {s d : Nat} (hs : s < 8) (hd : d < 8) (v : Int32) : RR (x_st M 24 (8 * s + d) v) (x_st N 1 (130 + 11 * s + 3 + d) v) q := by
  obtain ⟨h1, h2, h3, h4, h5, h13, h6, h7, h8, h9, h10, h11, h12⟩ := h
  have hM : ∀ i, i ≠ 24 → x_st M 24 (8 * s + d) v i = M i := fun i hi => x_st_row _ _ _ _ hi
  have hN : ∀ k, k < 130 ∨ 218 ≤ k → x_st N 1 (130 + 11 * s + 3 + d) v 1 k = N 1 k := fun k hk => x_st_col _ _ _ _ (by omega) _
  have hq : ∀ k, k < 0 ∨ 0 ≤ k → q k = q k := fun k _ => rfl
  have h9' : P9 (x_st M 24 (8 * s + d) v) (x_st N 1 (130 + 11 * s + 3 + d) v) q := by
    refine ⟨fun t ht => ?_, fun r hr => ?_⟩
    · obtain ⟨⟨a1, a2, a3⟩, ⟨b1, b2, b3⟩, ⟨c1, c2, c3⟩, d1⟩ := h9.1 t ht
      have n0 : x_st N 1 (130 + 11 * s + 3 + d) v 1 (130 + 11 * t) = N 1 (130 + 11 * t) := x_st_col _ _ _ _ (by omega) _
      have n1 : x_st N 1 (130 + 11 * s + 3 + d) v 1 (130 + 11 * t + 1) = N 1 (130 + 11 * t + 1) := x_st_col _ _ _ _ (by omega) _
      have n2 : x_st N 1 (130 + 11 * s + 3 + d) v 1 (130 + 11 * t + 2) = N 1 (130 + 11 * t + 2) := x_st_col _ _ _ _ (by omega) _
      rw [n0, n1, n2, hM 21 (by decide), hM 22 (by decide), hM 23 (by decide)]
      refine ⟨⟨a1, a2, a3⟩, ⟨b1, b2, b3⟩, ⟨c1, c2, c3⟩, fun e he => ?_⟩
      by_cases z : t = s ∧ e = d
      · rw [z.1, z.2, x_st_at, x_st_at]
      · rw [x_st_col _ _ _ _ (show 8 * t + e ≠ 8 * s + d by omega), x_st_col _ _ _ _ (show 130 + 11 * t + 3 + e ≠ 130 + 11 * s + 3 + d by omega)]
        exact d1 e he
    · rw [hM 25 (by decide)]; exact h9.2 r hr
  exact ⟨h1.cg (hM 2 (by omega)) (hM 3 (by omega)) (hM 4 (by omega)) (fun k _ => hN k (by omega)) (fun k _ => hq k (by omega)), h2.cg (hM 8 (by omega)) (hM 9 (by omega)) (hM 10 (by omega)) (fun k _ _ => hN k (by omega)) (fun k _ _ => hq k (by omega)), h3.cg ⟨congrFun (hM 1 (by omega)) 3, congrFun (hM 1 (by omega)) 4, congrFun (hM 1 (by omega)) 5⟩ ⟨hN 20 (by omega), hN 21 (by omega), hN 22 (by omega)⟩ (fun k _ => hq k (by omega)) (fun k _ _ => hq k (by omega)), h4.cg (hM 0 (by omega)) ⟨hN 23 (by omega), hN 25 (by omega), hN 27 (by omega), hN 28 (by omega)⟩ ⟨hq 23 (by omega), hq 27 (by omega)⟩, h5.cg (hM 11 (by omega)) (fun k _ _ _ _ _ => hN k (by omega)) (fun k _ _ => hq k (by omega)) (hq 9 (by omega)), h13.cg (hM 12 (by omega)) (fun k _ _ => hN k (by omega)) (hq 33 (by omega)) h5.2.2.2.2.2.1.2.2 (hq 9 (by omega)), h6.cg (hM 14 (by omega)) (fun k _ _ => hN k (by omega)) (fun k _ _ => hq k (by omega)), h7.cg (hM 15 (by omega)) (hM 16 (by omega)) (hM 17 (by omega)) (hM 18 (by omega)) (hM 19 (by omega)) ⟨hN 36 (by omega), hq 36 (by omega)⟩ (fun k _ _ => hN k (by omega)) (fun k _ _ => hq k (by omega)), h8.cg (hM 5 (by omega)) (hM 6 (by omega)) (hM 7 (by omega)) (congrFun (hM 1 (by omega)) 6) (fun k _ _ => hN k (by omega)) (fun k _ _ => hq k (by omega)) (fun k _ => hq k (by omega)) (fun k _ _ => hq k (by omega)), h9', h10.cg (hM 28 (by omega)) (fun k _ _ => hN k (by omega)), h11.cg (hM 26 (by omega)) (fun k _ _ => hN k (by omega)), h12.cg (hM 27 (by omega)) (fun k _ _ => hN k (by omega))⟩
theorem bits_c (s f : Nat) (hs : s < 8) (hf : f ≤ 4) (p3 : Int32) (post : ST → Prop) (K : Int32 → ST → Prop) (g k : Nat) (hk : k < 4) (S : ST) (h : lp_X7_draw_3 (nI s) (nI f) p3 post K g (nI (k + 1)) (x_st S 4 (8 * s + (f + k)) (x_ushr p3 (24 - 8 * nI k) &&& 255))) : lp_X7_draw_3 (nI s) (nI f) p3 post K (g + 1) (nI k) S := by
  unfold lp_X7_draw_3
  refine ⟨fun c => absurd c (nI_ge (a := k) (b := 4) hk (by decide)), fun _ => ⟨8 * s + (f + k), by omega, ?_, ?_⟩⟩
  · rw [lit_nI 8, pk_mul, nI_add, nI_add, Nat.mul_comm, Nat.add_assoc]
  · rintro M9 rfl
    rintro x rfl
    rw [nI_1]
    exact h
theorem bits_m (s f : Nat) (hs : s < 8) (p2 p3 : Int32) (hf : (p2 = 0 ∧ f = 4) ∨ (¬ p2 = 0 ∧ f = 0)) (post : Int32 → ST → Prop) (K : Int32 → ST → Prop) (g k : Nat) (hk : k < 4) (N : ST) (h : lp_X9_bits_15 (nI s) p2 p3 post K g (nI (k + 1)) (x_st N 1 (130 + 11 * s + 3 + (f + k)) ((p3 >>> ((24 - 8 * nI k) &&& 31)) &&& 255))) : lp_X9_bits_15 (nI s) p2 p3 post K (g + 1) (nI k) N := by
  unfold lp_X9_bits_15
  refine ⟨fun c => absurd c (nI_ge (a := k) (b := 4) hk (by decide)), fun _ => ⟨fun z => ?_, fun z => ?_⟩⟩
  · rcases hf with ⟨-, e⟩ | ⟨e, -⟩
    · subst e
      refine ⟨130 + 11 * s + 3 + (4 + k), by omega, ?_, ?_⟩
      · rw [show ((130 + 11 * nI s) + 7 : Int32) = nI (130 + 11 * s + 7) from i11 hs 7 (by decide), nI_add]; congr 1; omega
      · rintro M9 rfl
        rintro x rfl
        rw [nI_1]
        exact h
    · exact absurd z e
  · rcases hf with ⟨e, -⟩ | ⟨-, e⟩
    · exact absurd e z
    · subst e
      refine ⟨130 + 11 * s + 3 + (0 + k), by omega, ?_, ?_⟩
      · rw [show ((130 + 11 * nI s) + 3 : Int32) = nI (130 + 11 * s + 3) from i11 hs 3 (by decide), nI_add]; congr 1; omega
      · rintro M9 rfl
        rintro x rfl
        rw [nI_1]
        exact h
theorem m_bits {MB N : ST} {q : Nat → Nat} (h : RR (x_sh MB 2) N q) (p1 p2 p3 : Int32) : Step (v_X8_bits MB p1 p2 p3) (v_X9_bits N p1 p2 p3) N := by
  rcases wi_cases p1 0 7 (by decide) (by decide) with ⟨hw, -⟩ | ⟨hw, s, rfl, s1, s2⟩
  · have hw : wi p1 0 7 = 0 := hw
    refine ⟨0, MB, N, q, fun post hp => ?_, fun post hp => ?_, h, keep.rf⟩
    · unfold v_X8_bits; simp only [s_within]; rw [hw]; exact ⟨fun c => absurd rfl c, fun _ => hp⟩
    · unfold v_X9_bits; simp only [s_isIn]; rw [hw]; exact ⟨fun c => absurd rfl c, fun _ => hp⟩
  have hw : wi (nI s) 0 7 = 1 := hw
  have bv : ∀ k : Nat, k < 4 → x_ushr p3 (24 - 8 * nI k) &&& 255 = (p3 >>> ((24 - 8 * nI k) &&& 31)) &&& 255 := fun k hk => by rw [sh24 k hk]; exact byte_of p3 (by omega)
  have main : ∀ f : Nat, ((p2 = 0 ∧ f = 4) ∨ (¬ p2 = 0 ∧ f = 0)) → Step (v_X8_bits MB (nI s) p2 p3) (v_X9_bits N (nI s) p2 p3) N := by
    intro f hf
    have hf4 : f = 4 ∨ f = 0 := by rcases hf with ⟨-, e⟩ | ⟨-, e⟩ <;> simp [e]
    have go : ∀ (k : Nat) (hk : k < 4) (M N : ST), RR M N q → RR (x_st M 24 (8 * s + (f + k)) (x_ushr p3 (24 - 8 * nI k) &&& 255)) (x_st N 1 (130 + 11 * s + 3 + (f + k)) ((p3 >>> ((24 - 8 * nI k) &&& 31)) &&& 255)) q := fun k hk M N hh => by
      rw [bv k hk]
      exact hh.drw (by omega) (by omega) _
    let S1 := x_st (x_sh MB 22) 4 (8 * s + (f + 0)) (x_ushr p3 (24 - 8 * nI 0) &&& 255)
    let S2 := x_st S1 4 (8 * s + (f + 1)) (x_ushr p3 (24 - 8 * nI 1) &&& 255)
    let S3 := x_st S2 4 (8 * s + (f + 2)) (x_ushr p3 (24 - 8 * nI 2) &&& 255)
    let S4 := x_st S3 4 (8 * s + (f + 3)) (x_ushr p3 (24 - 8 * nI 3) &&& 255)
    have eS : x_sh (x_wb MB 22 6 S4) 2 = x_st (x_st (x_st (x_st (x_sh MB 2) 24 (8 * s + (f + 0)) (x_ushr p3 (24 - 8 * nI 0) &&& 255)) 24 (8 * s + (f + 1)) (x_ushr p3 (24 - 8 * nI 1) &&& 255)) 24 (8 * s + (f + 2)) (x_ushr p3 (24 - 8 * nI 2) &&& 255)) 24 (8 * s + (f + 3)) (x_ushr p3 (24 - 8 * nI 3) &&& 255) := by
      show x_sh (x_wb MB 22 6 (x_st (x_st (x_st (x_st (x_sh MB 22) 4 (8 * s + (f + 0)) (x_ushr p3 (24 - 8 * nI 0) &&& 255)) 4 (8 * s + (f + 1)) (x_ushr p3 (24 - 8 * nI 1) &&& 255)) 4 (8 * s + (f + 2)) (x_ushr p3 (24 - 8 * nI 2) &&& 255)) 4 (8 * s + (f + 3)) (x_ushr p3 (24 - 8 * nI 3) &&& 255))) 2 = _
      rw [x_wb_st _ _ _ _ _ _ _ (show 4 < 6 by decide), x_wb_st _ _ _ _ _ _ _ (show 4 < 6 by decide), x_wb_st _ _ _ _ _ _ _ (show 4 < 6 by decide), x_wb_st _ _ _ _ _ _ _ (show 4 < 6 by decide), x_wb_sh]
      have z : ∀ (Z : ST) (j : Nat) (w : Int32), x_sh (x_st Z (22 + 4) j w) 2 = x_st (x_sh Z 2) 24 j w := fun Z j w => x_sh_st Z 2 24 j w
      rw [z, z, z, z]
    refine ⟨1, x_wb MB 22 6 S4, _, q, fun post hp => ?_, fun post hp => ?_, by rw [eS]; exact go 3 (by decide) _ _ (go 2 (by decide) _ _ (go 1 (by decide) _ _ (go 0 (by decide) _ _ h))), (((keep.rf.st (by omega)).st (by omega)).st (by omega)).st (by omega)⟩
    · have dr : v_X7_draw (x_sh MB 22) (nI s) (nI f) p3 (fun (u : ST) => ∀ M_5 : ST, M_5 = x_wb MB 22 6 u → post 1 M_5) := by
        unfold v_X7_draw
        refine ⟨5, ?_⟩
        refine bits_c s f (by omega) (by omega) p3 _ _ 4 0 (by decide) _ (bits_c s f (by omega) (by omega) p3 _ _ 3 1 (by decide) _ (bits_c s f (by omega) (by omega) p3 _ _ 2 2 (by decide) _ (bits_c s f (by omega) (by omega) p3 _ _ 1 3 (by decide) _ ?_)))
        unfold lp_X7_draw_3
        refine ⟨fun _ => ?_, fun c => absurd (by decide) c⟩
        rintro M5 rfl
        exact hp
      unfold v_X8_bits; simp only [s_within]; rw [hw]
      refine ⟨fun _ => ⟨fun z => ?_, fun z => ?_⟩, fun c => absurd c one_ne⟩
      · rcases hf with ⟨-, e⟩ | ⟨e, -⟩
        · subst e; exact dr
        · exact absurd z e
      · rcases hf with ⟨e, -⟩ | ⟨-, e⟩
        · exact absurd e z
        · subst e; exact dr
    · unfold v_X9_bits; simp only [s_isIn]; rw [hw]
      refine ⟨fun _ => ⟨5, ?_⟩, fun c => absurd c one_ne⟩
      refine bits_m s f (by omega) p2 p3 hf _ _ 4 0 (by decide) N (bits_m s f (by omega) p2 p3 hf _ _ 3 1 (by decide) _ (bits_m s f (by omega) p2 p3 hf _ _ 2 2 (by decide) _ (bits_m s f (by omega) p2 p3 hf _ _ 1 3 (by decide) _ ?_)))
      unfold lp_X9_bits_15
      exact ⟨fun _ => hp, fun c => absurd (by decide) c⟩
  by_cases z : p2 = 0
  · exact main 4 (Or.inl ⟨z, rfl⟩)
  · exact main 0 (Or.inr ⟨z, rfl⟩)
