/-! ===== a dot ===== -/
def tailC (M : ST) (post : ST → Prop) : Prop := v_X2_takeBit (x_sh M 11) (fun r_3 (u_2 : ST) => ∀ M_4 : ST, M_4 = x_wb M 11 2 u_2 → v_X0_rowHere (x_sh M_4 1) (fun r_5 => v_X8_placeOf (M_4 1 3) r_5 (fun r_6 => (((r_6 = (-1)) → ∀ M_8 : ST, M_8 = x_st M_4 0 11 ((M_4 0 11) + 1) → post M_8) ∧ ((¬ (r_6 = (-1))) → v_X7_showing (x_sh M_4 20) (M_4 1 3) r_5 (fun r_9 => (((¬ (r_9 = (-1))) → ∃ k_11 : Nat, k_11 < 4096 ∧ r_6 = nI k_11 ∧ ∀ M_12 : ST, M_12 = x_st M_4 27 k_11 (256 + r_9) → ∀ M_13 : ST, M_13 = x_st M_12 0 11 ((M_12 0 11) + 1) → post M_13) ∧ ((r_9 = (-1)) → v_X3_colourOf M_4 r_3 (fun r_14 => ∃ k_15 : Nat, k_15 < 4096 ∧ r_6 = nI k_15 ∧ ∀ M_16 : ST, M_16 = x_st M_4 27 k_15 r_14 → ∀ M_17 : ST, M_17 = x_st M_16 0 11 ((M_16 0 11) + 1) → post M_17)))))))))
def tailM (M : ST) (post : ST → Prop) : Prop := v_X9_takes M (fun r_3 (u_2 : ST) => v_X9_rowOf (u_2 1 21) (u_2 1 22) (u_2 1 8) (fun r_4 => v_X9_spritesOf u_2 r_4 (fun r_5 => (((0 ≤ r_3) → (((¬ (r_3 = 1)) → ∀ x_8 : Int32, x_8 = (u_2 1 44) → (∃ n_33 : Nat, lp_X9_dots_110 u_2 r_4 r_5 post (fun (y_10 : Int32) (y_11 : Int32) => ∃ k_12 : Nat, k_12 < 23520 ∧ ((1770 + (64 * r_4)) + (u_2 1 20)) = nI k_12 ∧ ∀ M_13 : ST, M_13 = x_st u_2 1 k_12 (y_11 + 1) → ∀ M_14 : ST, M_14 = x_st M_13 1 25 ((M_13 1 25) + 1) → post M_14) n_33 7 x_8)) ∧ ((r_3 = 1) → ∀ x_34 : Int32, x_34 = (u_2 1 43) → (∃ n_59 : Nat, lp_X9_dots_110 u_2 r_4 r_5 post (fun (y_36 : Int32) (y_37 : Int32) => ∃ k_38 : Nat, k_38 < 23520 ∧ ((1770 + (64 * r_4)) + (u_2 1 20)) = nI k_38 ∧ ∀ M_39 : ST, M_39 = x_st u_2 1 k_38 (y_37 + 1) → ∀ M_40 : ST, M_40 = x_st M_39 1 25 ((M_39 1 25) + 1) → post M_40) n_59 7 x_34)))) ∧ ((¬ (0 ≤ r_3)) → (∃ n_84 : Nat, lp_X9_dots_110 u_2 r_4 r_5 post (fun (y_61 : Int32) (y_62 : Int32) => ∃ k_63 : Nat, k_63 < 23520 ∧ ((1770 + (64 * r_4)) + (u_2 1 20)) = nI k_63 ∧ ∀ M_64 : ST, M_64 = x_st u_2 1 k_63 (y_62 + 1) → ∀ M_65 : ST, M_65 = x_st M_64 1 25 ((M_64 1 25) + 1) → post M_65) n_84 7 512))))))
theorem dots_all {M N : ST} {q : Nat → Nat} (h9 : P9 M N q) {r m x : Nat} (hr : r < 64) (hx : x < 64) (e20 : N 1 20 = nI x) (hm8 : m < 256) (hm : ∀ s, s < 8 → m.testBit s = decide (q (130 + 11 * s + 1) ≤ r ∧ r < q (130 + 11 * s + 1) + q (130 + 11 * s + 2))) (v : Int32) (post : ST → Prop) (K : Int32 → Int32 → Prop) (hK : K (-1) (oI v 256 (fi (pbt N q (mem3 m) r x) 8))) : lp_X9_dots_110 N (nI r) (nI (mem3 m)) post K 9 7 v := by
  have go : ∀ (d j : Nat), j + d = 8 → lp_X9_dots_110 N (nI r) (nI (mem3 m)) post K (d + 1) (if j < 8 then nI (7 - j) else -1) (oI v 256 (fi (pbt N q (mem3 m) r x) j)) := by
    intro d
    induction d with
    | zero =>
      intro j hj
      have hj : j = 8 := by omega
      subst hj
      unfold lp_X9_dots_110
      exact ⟨fun _ => hK, fun z => absurd (by decide) z⟩
    | succ d ih =>
      intro j hj
      have i1 := ih (j + 1) (by omega)
      have hs : 7 - j < 8 := by omega
      generalize es : 7 - j = s at hs
      obtain ⟨⟨a1, a2, a3⟩, ⟨b1, b2, b3⟩, ⟨c1, c2, c3⟩, d1⟩ := h9.1 s hs
      obtain ⟨bd1, bd0, bdz⟩ := bit_dec (mem3 m) (mem3_lt m) s hs
      have ey : nI s + (-1) = (if j + 1 < 8 then nI (7 - (j + 1)) else -1) := by
        by_cases c : j + 1 < 8
        · rw [if_pos c, sb_m1 (by omega)]; congr 1; omega
        · rw [if_neg c, show s = 0 by omega]; decide
      rw [if_pos (by omega)]
      have next : pbt N q (mem3 m) r x s = false → ∀ x_23 : Int32, x_23 = nI s + (-1) → lp_X9_dots_110 N (nI r) (nI (mem3 m)) post K (d + 1) x_23 (oI v 256 (fi (pbt N q (mem3 m) r x) j)) := by
        intro pf
        rintro x1 rfl
        rw [ey]
        have e : fi (pbt N q (mem3 m) r x) (j + 1) = fi (pbt N q (mem3 m) r x) j := by
          show (if pbt N q (mem3 m) r x (7 - j) = true then some (7 - j) else fi (pbt N q (mem3 m) r x) j) = _
          rw [es, pf, if_neg (by decide)]
        rw [e] at i1
        exact i1
      unfold lp_X9_dots_110
      refine ⟨fun z => absurd z (nI_pos (by omega)), fun _ => ⟨130 + 11 * s, by omega, i11' hs, ?_⟩⟩
      rintro x21 rfl
      rw [e20]
      refine ⟨fun z => ?_, fun z => ?_⟩
      · exact next (by unfold pbt; rw [bd0.mp z, Bool.false_and])
      · have tt : (mem3 m).testBit s = true := by
          cases w : (mem3 m).testBit s
          · exact absurd (bd0.mpr w) z
          · rfl
        have tm := sub_dec m hm8 s hs tt
        rw [hm s hs] at tm
        have hrow := of_decide_eq_true tm
        simp only [s_isIn]
        rcases x_bool_wi (nI x - N 1 (130 + 11 * s)) 0 7 with w | w
        · rw [w]
          exact ⟨fun z => absurd rfl z, fun _ => next (by unfold pbt; rw [w]; simp)⟩
        · rw [w]
          refine ⟨fun _ => ⟨130 + 11 * s + 1, by omega, i11 hs 1 (by decide), 130 + 11 * s + 3 + (r - q (130 + 11 * s + 1)), by omega, ?_, ?_⟩, fun z => absurd z one_ne⟩
          · rw [b2, show ((130 + 11 * nI s) + 3 : Int32) = nI (130 + 11 * s + 3) from i11 hs 3 (by decide), nI_add, pk_sub (by omega)]
            congr 1; omega
          · rintro x28 rfl
            refine ⟨fun z => next (by unfold pbt; rw [decide_eq_false z]; simp), fun z => ?_⟩
            rintro x31 rfl
            rintro x32 rfl
            rw [ey, lit_nI 256, nI_add]
            have pt : pbt N q (mem3 m) r x s = true := by unfold pbt; rw [tt, w, decide_eq_true z]; simp
            have e : fi (pbt N q (mem3 m) r x) (j + 1) = some s := by
              show (if pbt N q (mem3 m) r x (7 - j) = true then some (7 - j) else fi (pbt N q (mem3 m) r x) j) = _
              rw [es, pt, if_pos rfl]
            rw [e] at i1
            exact i1
  exact go 8 0 (by omega)
/-- a dot's bit, its place, what it shows -/
theorem ph_tail {M N : ST} {q : Nat → Nat} (h : RR M N q) (hx : q 20 < q 0) (hy : q 21 < q 4) : ∃ (M' N' : ST) (q' : Nat → Nat), (∀ post : ST → Prop, post M' → tailC M post) ∧ (∀ post : ST → Prop, post N' → tailM N post) ∧ RR M' N' q' ∧ keep N N' ∧ Fr M N q M' N' q' := by
  obtain ⟨r, M1, N1, q1, t1, t2, hh, t4, t5, t6, t7, t8⟩ := ph_take h
  obtain ⟨fM, fN, fT, fq, ft⟩ := id t5
  have hx1 : q1 20 < q1 0 := by rw [fq 20 (by omega) (by omega), fq 0 (by omega) (by omega)]; exact hx
  have hy1 : q1 21 < q1 4 := by rw [fq 21 (by omega) (by omega), fq 4 (by omega) (by omega)]; exact hy
  have hh0 := hh
  obtain ⟨h1, h2, h3, h4, h5, h13, h6, h7, h8, h9, h10, h11, h12⟩ := hh
  obtain ⟨⟨⟨a1, a2, a3, a4⟩, ⟨b1, b2, b3, b4⟩, c1⟩, hi, ho⟩ := id h1
  obtain ⟨⟨x1, x2, x3⟩, ⟨y1, y2, y3⟩, ⟨f1, f2, f3⟩⟩ := id h3
  simp only [modeOK, Nat.zero_add] at ho
  have g8 : N1 1 8 = nI (q1 8) := hi 8 (by omega)
  let rw_ := rwN (q1 8) (q1 21) (q1 22)
  have hrw : rw_ < 64 := by show rwN (q1 8) (q1 21) (q1 22) < 64; unfold rwN; split <;> omega
  have hx64 : q1 20 < 64 := by omega
  obtain ⟨m, m1, m2, m3⟩ := h9.2 rw_ hrw
  let pl := 64 * rw_ + q1 20
  have hpl : pl < 4096 := by show 64 * rw_ + q1 20 < 4096; omega
  let v := if r = -1 then (512 : Int32) else if r = 1 then nI (q1 43) else nI (q1 44)
  let o := fi (pbt N1 q1 (mem3 m) rw_ (q1 20)) 8
  let M' := x_st (x_st M1 27 pl (oI v 256 o)) 0 11 (M1 0 11 + 1)
  let N' := x_st (x_st N1 1 (1770 + pl) (oI v 256 o + 1)) 1 25 (N1 1 25 + 1)
  have hM : ∀ i, i ≠ 0 ∧ i ≠ 27 → M' i = M1 i := fun i z => by
    show x_st (x_st M1 27 pl (oI v 256 o)) 0 11 (M1 0 11 + 1) i = M1 i
    rw [x_st_row _ _ _ _ z.1, x_st_row _ _ _ _ z.2]
  have hN : ∀ k, k ≠ 25 ∧ (k < 1770 ∨ 5866 ≤ k) → N' 1 k = N1 1 k := fun k z => by
    show x_st (x_st N1 1 (1770 + pl) (oI v 256 o + 1)) 1 25 (N1 1 25 + 1) 1 k = N1 1 k
    rw [x_st_col _ _ _ _ z.1, x_st_col _ _ _ _ (by omega)]
  have hq : ∀ k, k < 0 ∨ 0 ≤ k → q1 k = q1 k := fun _ _ => rfl
  have m0 : ∀ j, j ≠ 11 → M' 0 j = M1 0 j := fun j z => by
    show x_st (x_st M1 27 pl (oI v 256 o)) 0 11 (M1 0 11 + 1) 0 j = M1 0 j
    rw [x_st_col _ _ _ _ z, x_st_row _ _ _ _ (by decide)]
  obtain ⟨⟨k1, k2, k3⟩, k4, ⟨k5, k6, k7, k8⟩, k9⟩ := id h4
  have h4' : P4 M' N' q1 := ⟨⟨by rw [m0 10 (by decide)]; exact k1, by rw [hN 23 (by omega)]; exact k2, k3⟩, by
    show x_st (x_st M1 27 pl (oI v 256 o)) 0 11 (M1 0 11 + 1) 0 11 = x_st (x_st N1 1 (1770 + pl) (oI v 256 o + 1)) 1 25 (N1 1 25 + 1) 1 25
    rw [x_st_at, x_st_at, k4], ⟨by rw [m0 8 (by decide)]; exact k5, by rw [hN 27 (by omega)]; exact k6, k7, k8⟩, by rw [m0 9 (by decide), hN 28 (by omega)]; exact k9⟩
  have h12' : P12 M' N' := fun j hj => by
    have eM : M' 27 j = x_st M1 27 pl (oI v 256 o) 27 j := by
      show x_st (x_st M1 27 pl (oI v 256 o)) 0 11 (M1 0 11 + 1) 27 j = _
      rw [x_st_row _ _ _ _ (by decide)]
    have eN : N' 1 (1770 + j) = x_st N1 1 (1770 + pl) (oI v 256 o + 1) 1 (1770 + j) := by
      show x_st (x_st N1 1 (1770 + pl) (oI v 256 o + 1)) 1 25 (N1 1 25 + 1) 1 (1770 + j) = _
      rw [x_st_col _ _ _ _ (by omega)]
    rw [eM, eN]
    by_cases e : j = pl
    · rw [e, x_st_at, x_st_at]
    · rw [show x_st M1 27 pl (oI v 256 o) 27 j = M1 27 j from x_st_col _ _ _ _ e _, show x_st N1 1 (1770 + pl) (oI v 256 o + 1) 1 (1770 + j) = N1 1 (1770 + j) from x_st_col _ _ _ _ (by omega) _]
      exact h12 j hj
  have base43 : M1 14 3 = nI (q1 43) := (h6 3 (by decide)).1
  have base44 : M1 14 4 = nI (q1 44) := (h6 4 (by decide)).1
  refine ⟨M', N', q1, fun post hp => ?_, fun post hp => ?_, ⟨h1.cg (hM 2 (by omega)) (hM 3 (by omega)) (hM 4 (by omega)) (fun k _ => hN k (by omega)) (fun k _ => hq k (by omega)), h2.cg (hM 8 (by omega)) (hM 9 (by omega)) (hM 10 (by omega)) (fun k _ _ => hN k (by omega)) (fun k _ _ => hq k (by omega)), h3.cg ⟨congrFun (hM 1 (by omega)) 3, congrFun (hM 1 (by omega)) 4, congrFun (hM 1 (by omega)) 5⟩ ⟨hN 20 (by omega), hN 21 (by omega), hN 22 (by omega)⟩ (fun k _ => hq k (by omega)) (fun k _ _ => hq k (by omega)), h4', h5.cg (hM 11 (by omega)) (fun k _ _ _ _ _ => hN k (by omega)) (fun k _ _ => hq k (by omega)) (hq 9 (by omega)), h13.cg (hM 12 (by omega)) (fun k _ _ => hN k (by omega)) (hq 33 (by omega)) h5.2.2.2.2.2.1.2.2 (hq 9 (by omega)), h6.cg (hM 14 (by omega)) (fun k _ _ => hN k (by omega)) (fun k _ _ => hq k (by omega)), h7.cg (hM 15 (by omega)) (hM 16 (by omega)) (hM 17 (by omega)) (hM 18 (by omega)) (hM 19 (by omega)) ⟨hN 36 (by omega), hq 36 (by omega)⟩ (fun k _ _ => hN k (by omega)) (fun k _ _ => hq k (by omega)), h8.cg (hM 5 (by omega)) (hM 6 (by omega)) (hM 7 (by omega)) (congrFun (hM 1 (by omega)) 6) (fun k _ _ => hN k (by omega)) (fun k _ _ => hq k (by omega)) (fun k _ => hq k (by omega)) (fun k _ _ => hq k (by omega)), h9.cg (hM 21 (by omega)) (hM 22 (by omega)) (hM 23 (by omega)) (hM 24 (by omega)) (hM 25 (by omega)) (fun k _ _ => hN k (by omega)) (fun k _ _ => hq k (by omega)), h10.cg (hM 28 (by omega)) (fun k _ _ => hN k (by omega)), h11.cg (hM 26 (by omega)) (fun k _ _ => hN k (by omega)), h12'⟩, ?_, ?_⟩
  · unfold tailC
    refine t1 _ ?_
    rintro M4 rfl
    rw [x_wb_of (M := M) (M' := M1) (k := 11) (n := 2) (fun i z => t6 i (by omega))]
    unfold v_X0_rowHere
    rw [show x_sh M1 1 0 4 = nI (q1 21) from y1, show x_sh M1 1 0 5 = nI (q1 22) from f1]
    refine s_rowC _ (t := q1 8) c1 (by omega) _ ?_
    rw [x1]
    refine s_placeOf (by omega) (by show rw_ ≤ 63; omega) _ ?_
    refine ⟨fun z => absurd z (nI_m1 (by show pl < 2 ^ 31; omega)), fun _ => ?_⟩
    refine s_showing h9 hrw hx64 m1 m2 m3 _ ?_
    show ((¬ oI (-1) 0 o = -1) → _) ∧ (oI (-1) 0 o = -1 → _)
    have fin : ∀ w : Int32, w = oI v 256 o → ∃ k : Nat, k < 4096 ∧ nI (64 * rw_ + q1 20) = nI k ∧ ∀ M_12 : ST, M_12 = x_st M1 27 k w → ∀ M_13 : ST, M_13 = x_st M_12 0 11 ((M_12 0 11) + 1) → post M_13 := by
      rintro w rfl
      refine ⟨pl, hpl, rfl, ?_⟩
      rintro M12 rfl
      rintro M13 rfl
      rw [x_st_row _ _ _ _ (show 0 ≠ 27 by decide)]
      exact hp
    cases eo : o with
    | none =>
      refine ⟨fun z => absurd rfl z, fun _ => ?_⟩
      unfold v_X3_colourOf
      have ev : oI v 256 o = v := by rw [eo]; rfl
      refine ⟨fun z => ⟨fun z2 => ?_, fun z2 => ?_⟩, fun z => ?_⟩
      · refine s_rdC h6 (k := 4) (by decide) _ (fin _ ?_)
        rw [ev]; show _ = (if r = -1 then (512 : Int32) else if r = 1 then nI (q1 43) else nI (q1 44)); rw [if_neg z, if_neg z2]
      · refine s_rdC h6 (k := 3) (by decide) _ (fin _ ?_)
        rw [ev]; show _ = (if r = -1 then (512 : Int32) else if r = 1 then nI (q1 43) else nI (q1 44)); rw [if_neg z, if_pos z2]
      · refine fin _ ?_
        rw [ev]; show _ = (if r = -1 then (512 : Int32) else if r = 1 then nI (q1 43) else nI (q1 44)); rw [if_pos z]
    | some s =>
      have es : oI (-1) 0 (some s) = nI s := by show nI (0 + s) = nI s; rw [Nat.zero_add]
      have hs8 : s < 8 := fi_lt 8 s (by decide) eo
      rw [es]
      refine ⟨fun _ => fin _ ?_, fun z => absurd z (nI_m1 (by omega))⟩
      have e9 : oI (-1) 0 (fi (pbt N1 q1 (mem3 m) rw_ (q1 20)) 8) = nI s := by
        show oI (-1) 0 o = nI s
        rw [eo, es]
      rw [e9, eo, lit_nI 256, nI_add]; rfl
  · unfold tailM
    refine t2 _ ?_
    rw [y2, f2, g8]
    refine s_rowM (by omega) _ (s_sprites h9 hrw m3 _ ?_)
    have fin : ∀ (post2 : ST → Prop) (w : Int32), w = v → (∃ n : Nat, lp_X9_dots_110 N1 (nI rw_) (nI (mem3 m)) post2 (fun (y_11 : Int32) (y_12 : Int32) => ∃ k_13 : Nat, k_13 < 23520 ∧ ((1770 + (64 * nI rw_)) + (N1 1 20)) = nI k_13 ∧ ∀ M_14 : ST, M_14 = x_st N1 1 k_13 (y_12 + 1) → ∀ M_15 : ST, M_15 = x_st M_14 1 25 ((M_14 1 25) + 1) → post M_15) n 7 w) := by
      rintro post2 w rfl
      refine ⟨9, dots_all h9 hrw hx64 x2 m2 m3 v _ _ ?_⟩
      refine ⟨1770 + pl, by omega, ?_, ?_⟩
      · rw [x2, lit_nI 1770, lit_nI 64, pk_mul, nI_add, nI_add, Nat.add_assoc]
      · rintro M14 rfl
        rintro M15 rfl
        rw [x_st_col _ _ _ _ (show 25 ≠ 1770 + pl by omega)]
        exact hp
    refine ⟨fun z => ⟨fun z2 => ?_, fun z2 => ?_⟩, fun z => ?_⟩
    · rintro x9 rfl
      refine fin _ _ ?_
      rw [show N1 1 44 = nI (q1 44) from (h6 4 (by decide)).2.1]
      show _ = (if r = -1 then (512 : Int32) else if r = 1 then nI (q1 43) else nI (q1 44))
      rw [if_neg (fun w => by rw [w] at z; exact absurd z (by decide)), if_neg z2]
    · rintro x9 rfl
      refine fin _ _ ?_
      rw [show N1 1 43 = nI (q1 43) from (h6 3 (by decide)).2.1]
      show _ = (if r = -1 then (512 : Int32) else if r = 1 then nI (q1 43) else nI (q1 44))
      rw [if_neg (fun w => by rw [w] at z; exact absurd z (by decide)), if_pos z2]
    · refine fin _ _ ?_
      show _ = (if r = -1 then (512 : Int32) else if r = 1 then nI (q1 43) else nI (q1 44))
      rcases t7 with w | w | w
      · rw [if_pos w]
      · exact absurd (by rw [w]; decide) z
      · exact absurd (by rw [w]; decide) z
  · exact t4.tr ((keep.rf.st (by omega)).st (by decide))
  · exact t5.tr ⟨fun i z1 z2 => hM i (by omega), fun k z => hN k (by omega), fun k z1 z2 => hN k (by omega), fun _ _ _ => rfl, fun _ _ _ => rfl⟩

