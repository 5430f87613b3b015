/-! ===== the list, memory, what is shown ===== -/
theorem s_append (M : ST) {c : Nat} (hc : c < 16) (e : M 0 4 = nI c) (p1 p2 p3 p4 : Int32) (post : Int32 → ST → Prop) (hp : post (nI (c + 1)) (x_st (x_st (x_st (x_st (x_st M 1 c p1) 2 c p2) 3 c p3) 4 c p4) 0 4 (nI (c + 1)))) : v_X1_append M p1 p2 p3 p4 post := by
  unfold v_X1_append
  refine ⟨fun _ => ⟨c, hc, e, ?_⟩, fun n => absurd (by rw [e]; exact nI_lt hc (by decide)) n⟩
  rintro M3 rfl
  refine ⟨c, hc, by simpa [x_st_if] using e, ?_⟩
  rintro M5 rfl
  refine ⟨c, hc, by simpa [x_st_if] using e, ?_⟩
  rintro M7 rfl
  refine ⟨c, hc, by simpa [x_st_if] using e, ?_⟩
  rintro M9 rfl
  rintro M10 rfl
  have e9 : x_st (x_st (x_st (x_st M 1 c p1) 2 c p2) 3 c p3) 4 c p4 0 4 = nI c := by simpa [x_st_if] using e
  rw [e9, x_st_at, nI_1]
  exact hp
theorem RR.ent {M N : ST} {q : Nat → Nat} (h : RR M N q) {c r v : Nat} (hq36 : q 36 = c) (hc : c < 16) (p1 p2 : Int32) (hr : r < 5) (hv : v ≤ hiN r) : RR (x_st (x_st (x_st (x_st (x_st M 16 c p1) 17 c p2) 18 c (nI r)) 19 c (nI v)) 15 4 (nI (c + 1))) (x_st (x_st (x_st (x_st (x_st N 1 (60 + 4 * c) p1) 1 (60 + 4 * c + 1) p2) 1 (60 + 4 * c + 2) (nI r)) 1 (60 + 4 * c + 3) (nI v)) 1 36 (nI (c + 1))) (fun k => if k = 36 then c + 1 else if k = 60 + 4 * c + 2 then r else if k = 60 + 4 * c + 3 then v else q k) := by
  obtain ⟨h1, h2, h3, h4, h5, h13, h6, h7, h8, h9, h10, h11, h12⟩ := h
  have hM : ∀ i, i < 15 ∨ 19 < i → x_st (x_st (x_st (x_st (x_st M 16 c p1) 17 c p2) 18 c (nI r)) 19 c (nI v)) 15 4 (nI (c + 1)) i = M i := fun i hi => by
    rw [x_st_row _ _ _ _ (by omega), x_st_row _ _ _ _ (by omega), x_st_row _ _ _ _ (by omega), x_st_row _ _ _ _ (by omega), x_st_row _ _ _ _ (by omega)]
  have hN : ∀ k, k ≠ 36 ∧ (k < 60 ∨ 124 ≤ k) → x_st (x_st (x_st (x_st (x_st N 1 (60 + 4 * c) p1) 1 (60 + 4 * c + 1) p2) 1 (60 + 4 * c + 2) (nI r)) 1 (60 + 4 * c + 3) (nI v)) 1 36 (nI (c + 1)) 1 k = N 1 k := fun k hk => by
    rw [x_st_col _ _ _ _ (by omega), x_st_col _ _ _ _ (by omega), x_st_col _ _ _ _ (by omega), x_st_col _ _ _ _ (by omega), x_st_col _ _ _ _ (by omega)]
  have hq : ∀ k, k ≠ 36 ∧ (k < 60 ∨ 124 ≤ k) → (fun k => if k = 36 then c + 1 else if k = 60 + 4 * c + 2 then r else if k = 60 + 4 * c + 3 then v else q k) k = q k := fun k hk => by
    show (if k = 36 then c + 1 else if k = 60 + 4 * c + 2 then r else if k = 60 + 4 * c + 3 then v else q k) = q k
    rw [if_neg (by omega), if_neg (by omega), if_neg (by omega)]
  have h7' : P7 (x_st (x_st (x_st (x_st (x_st M 16 c p1) 17 c p2) 18 c (nI r)) 19 c (nI v)) 15 4 (nI (c + 1))) (x_st (x_st (x_st (x_st (x_st N 1 (60 + 4 * c) p1) 1 (60 + 4 * c + 1) p2) 1 (60 + 4 * c + 2) (nI r)) 1 (60 + 4 * c + 3) (nI v)) 1 36 (nI (c + 1))) (fun k => if k = 36 then c + 1 else if k = 60 + 4 * c + 2 then r else if k = 60 + 4 * c + 3 then v else q k) := by
    refine ⟨⟨by simp [x_st_if], by simp [x_st_if], by simp; omega⟩, fun k hk => ?_⟩
    have hk : k < c + 1 := by simpa using hk
    have n1 : ∀ a b : Nat, 60 + a ≠ 36 := fun a b => by omega
    by_cases e : k = c
    · subst e
      have z1 : ¬ 60 + 4 * k = 36 := by omega
      have z2 : ¬ 60 + 4 * k + 1 = 36 := by omega
      have z3 : ¬ 60 + 4 * k + 2 = 36 := by omega
      have z4 : ¬ 60 + 4 * k + 3 = 36 := by omega
      simp [x_st_if, z1, z2, z3, z4, hr, hv]
    · obtain ⟨⟨a1, a2⟩, ⟨b1, b2, b3⟩, c1, c2, c3⟩ := h7.2 k (by omega)
      have m1 : ∀ j : Nat, j < 4 → ∀ i : Nat, i < 4 → 60 + 4 * k + j ≠ 60 + 4 * c + i := fun j hj i hi => by omega
      have m2 : ∀ j : Nat, j < 4 → 60 + 4 * k + j ≠ 36 := fun j hj => by omega
      have N0 : ∀ j : Nat, j < 4 → x_st (x_st (x_st (x_st (x_st N 1 (60 + 4 * c) p1) 1 (60 + 4 * c + 1) p2) 1 (60 + 4 * c + 2) (nI r)) 1 (60 + 4 * c + 3) (nI v)) 1 36 (nI (c + 1)) 1 (60 + 4 * k + j) = N 1 (60 + 4 * k + j) := fun j hj => by
        rw [x_st_col _ _ _ _ (m2 j hj), x_st_col _ _ _ _ (m1 j hj 3 (by omega)), x_st_col _ _ _ _ (m1 j hj 2 (by omega)), x_st_col _ _ _ _ (m1 j hj 1 (by omega)), x_st_col _ _ _ _ (by omega)]
      have Q0 : ∀ j : Nat, j < 4 → (if 60 + 4 * k + j = 36 then c + 1 else if 60 + 4 * k + j = 60 + 4 * c + 2 then r else if 60 + 4 * k + j = 60 + 4 * c + 3 then v else q (60 + 4 * k + j)) = q (60 + 4 * k + j) := fun j hj => by
        rw [if_neg (m2 j hj), if_neg (m1 j hj 2 (by omega)), if_neg (m1 j hj 3 (by omega))]
      refine ⟨⟨?_, ?_⟩, ⟨?_, ?_, ?_⟩, ?_, ?_, ?_⟩
      · rw [show (60 + 4 * k) = 60 + 4 * k + 0 from rfl, N0 0 (by omega)]; simpa [x_st_if, e] using a1
      · rw [N0 1 (by omega)]; simpa [x_st_if, e] using a2
      · show _ = nI (if 60 + 4 * k + 2 = 36 then c + 1 else if 60 + 4 * k + 2 = 60 + 4 * c + 2 then r else if 60 + 4 * k + 2 = 60 + 4 * c + 3 then v else q (60 + 4 * k + 2))
        rw [Q0 2 (by omega)]; simpa [x_st_if, e] using b1
      · show _ = nI (if 60 + 4 * k + 2 = 36 then c + 1 else if 60 + 4 * k + 2 = 60 + 4 * c + 2 then r else if 60 + 4 * k + 2 = 60 + 4 * c + 3 then v else q (60 + 4 * k + 2))
        rw [N0 2 (by omega), Q0 2 (by omega)]; exact b2
      · show (if 60 + 4 * k + 2 = 36 then c + 1 else if 60 + 4 * k + 2 = 60 + 4 * c + 2 then r else if 60 + 4 * k + 2 = 60 + 4 * c + 3 then v else q (60 + 4 * k + 2)) < 5
        rw [Q0 2 (by omega)]; exact b3
      · show _ = nI (if 60 + 4 * k + 3 = 36 then c + 1 else if 60 + 4 * k + 3 = 60 + 4 * c + 2 then r else if 60 + 4 * k + 3 = 60 + 4 * c + 3 then v else q (60 + 4 * k + 3))
        rw [Q0 3 (by omega)]; simpa [x_st_if, e] using c1
      · show _ = nI (if 60 + 4 * k + 3 = 36 then c + 1 else if 60 + 4 * k + 3 = 60 + 4 * c + 2 then r else if 60 + 4 * k + 3 = 60 + 4 * c + 3 then v else q (60 + 4 * k + 3))
        rw [N0 3 (by omega), Q0 3 (by omega)]; exact c2
      · show (if 60 + 4 * k + 3 = 36 then c + 1 else if 60 + 4 * k + 3 = 60 + 4 * c + 2 then r else if 60 + 4 * k + 3 = 60 + 4 * c + 3 then v else q (60 + 4 * k + 3)) ≤ hiN (if 60 + 4 * k + 2 = 36 then c + 1 else if 60 + 4 * k + 2 = 60 + 4 * c + 2 then r else if 60 + 4 * k + 2 = 60 + 4 * c + 3 then v else q (60 + 4 * k + 2))
        rw [Q0 3 (by omega), Q0 2 (by omega)]; exact c3
  exact ⟨h1.cg (hM 2 (by omega)) (hM 3 (by omega)) (hM 4 (by omega)) (fun k _ => hN k (by omega)) (fun k _ => hq k (by omega)), h2.cg (hM 8 (by omega)) (hM 9 (by omega)) (hM 10 (by omega)) (fun k _ _ => hN k (by omega)) (fun k _ _ => hq k (by omega)), h3.cg ⟨congrFun (hM 1 (by omega)) 3, congrFun (hM 1 (by omega)) 4, congrFun (hM 1 (by omega)) 5⟩ ⟨hN 20 (by omega), hN 21 (by omega), hN 22 (by omega)⟩ (fun k _ => hq k (by omega)) (fun k _ _ => hq k (by omega)), h4.cg (hM 0 (by omega)) ⟨hN 23 (by omega), hN 25 (by omega), hN 27 (by omega), hN 28 (by omega)⟩ ⟨hq 23 (by omega), hq 27 (by omega)⟩, h5.cg (hM 11 (by omega)) (fun k _ _ _ _ _ => hN k (by omega)) (fun k _ _ => hq k (by omega)) (hq 9 (by omega)), h13.cg (hM 12 (by omega)) (fun k _ _ => hN k (by omega)) (hq 33 (by omega)) h5.2.2.2.2.2.1.2.2 (hq 9 (by omega)), h6.cg (hM 14 (by omega)) (fun k _ _ => hN k (by omega)) (fun k _ _ => hq k (by omega)), h7', h8.cg (hM 5 (by omega)) (hM 6 (by omega)) (hM 7 (by omega)) (congrFun (hM 1 (by omega)) 6) (fun k _ _ => hN k (by omega)) (fun k _ _ => hq k (by omega)) (fun k _ => hq k (by omega)) (fun k _ _ => hq k (by omega)), h9.cg (hM 21 (by omega)) (hM 22 (by omega)) (hM 23 (by omega)) (hM 24 (by omega)) (hM 25 (by omega)) (fun k _ _ => hN k (by omega)) (fun k _ _ => hq k (by omega)), h10.cg (hM 28 (by omega)) (fun k _ _ => hN k (by omega)), h11.cg (hM 26 (by omega)) (fun k _ _ => hN k (by omega)), h12.cg (hM 27 (by omega)) (fun k _ _ => hN k (by omega))⟩
theorem wi_one {p : Int32} {lo hi : Nat} (h1 : hi < 2 ^ 31) (n : Nat) (e : p = nI n) (a : lo ≤ n) (b : n ≤ hi) : wi p (nI lo) (nI hi) = 1 := by
  rcases wi_cases p lo hi h1 (by omega) with ⟨-, hno⟩ | ⟨hw, -⟩
  · exact absurd e (hno n a b)
  · exact hw
theorem m_entry {MB N : ST} {q : Nat → Nat} (h : RR (x_sh MB 2) N q) (p1 p2 p3 p4 : Int32) : Step (v_X8_entry MB p1 p2 p3 p4) (v_X9_entry N p1 p2 p3 p4) N := by
  have h7 := h.2.2.2.2.2.2.2.1
  obtain ⟨⟨c1, c2, c3⟩, -⟩ := h7
  have no : ∀ (hz : ∀ post : Int32 → ST → Prop, post (-1) MB → v_X8_entry MB p1 p2 p3 p4 post) (hy : ∀ post : Int32 → ST → Prop, post (-1) N → v_X9_entry N p1 p2 p3 p4 post), Step (v_X8_entry MB p1 p2 p3 p4) (v_X9_entry N p1 p2 p3 p4) N := fun hz hy => ⟨-1, MB, N, q, hz, hy, h, keep.rf⟩
  have full : N 1 36 = 16 ↔ q 36 = 16 := by rw [c2]; exact nI_eq (by omega) (by decide)
  have hcnt : x_sh MB 17 0 4 = nI (q 36) := c1
  -- the answer of the model's value test
  have isv : ∀ (post : Int32 → Prop), (¬ (∃ r v : Nat, r < 5 ∧ p3 = nI r ∧ v ≤ hiN r ∧ p4 = nI v) → post 0) → ((∃ r v : Nat, r < 5 ∧ p3 = nI r ∧ v ≤ hiN r ∧ p4 = nI v) → post 1) → v_X9_isValue p3 p4 post ∧ v_X5_takes p3 p4 post := by
    intro post hn hy
    have key : (∀ k : Nat, k < 5 → p3 = nI k → post (wi p4 0 (nI (hiN k)))) := fun k hk e => by
      rcases wi_cases p4 0 (hiN k) (by have := hiN_le k; omega) (by decide) with ⟨hw, hno⟩ | ⟨hw, v, e2, -, v2⟩
      · rw [show wi p4 0 (nI (hiN k)) = 0 from hw]
        refine hn (fun ⟨r, v, hr, e3, hv, e4⟩ => ?_)
        have : r = k := nI_inj (by omega) (by omega) (e3.symm.trans e)
        subst this
        exact hno v (by omega) hv e4
      · rw [show wi p4 0 (nI (hiN k)) = 1 from hw]
        exact hy ⟨k, v, hk, e, v2, e2⟩
    have k2 : (∀ k : Nat, k < 5 → p3 ≠ nI k) → post 0 := fun hno => hn (fun ⟨r, _, hr, e, _⟩ => hno r hr e)
    exact ⟨s_isValue p3 p4 post key k2, s_takes p3 p4 post key k2⟩
  rcases wi_cases p1 0 63 (by decide) (by decide) with ⟨hw1, -⟩ | ⟨hw1, -⟩
  · have hw1 : wi p1 0 63 = 0 := hw1
    refine no (fun post hp => ?_) (fun post hp => ?_)
    · unfold v_X8_entry; simp only [s_within]; rw [hw1]; exact ⟨fun _ => hp, fun c => absurd rfl c⟩
    · unfold v_X9_entry; simp only [s_isIn]; rw [hw1]; exact ⟨fun _ => hp, fun _ => ⟨fun _ => hp, fun c => absurd rfl c⟩⟩
  have hw1 : wi p1 0 63 = 1 := hw1
  rcases wi_cases p2 0 159 (by decide) (by decide) with ⟨hw2, -⟩ | ⟨hw2, -⟩
  · have hw2 : wi p2 0 159 = 0 := hw2
    refine no (fun post hp => ?_) (fun post hp => ?_)
    · unfold v_X8_entry; simp only [s_within]; rw [hw1]; refine ⟨fun c => absurd c one_ne, fun _ => ?_⟩; rw [hw2]; exact ⟨fun _ => hp, fun c => absurd rfl c⟩
    · unfold v_X9_entry; simp only [s_isIn]; rw [hw1]; refine ⟨fun _ => hp, fun _ => ⟨fun c => absurd c one_ne, fun _ => ?_⟩⟩; rw [hw2]; exact ⟨fun _ => hp, fun c => absurd rfl c⟩
  have hw2 : wi p2 0 159 = 1 := hw2
  by_cases hc : ∃ r v : Nat, r < 5 ∧ p3 = nI r ∧ v ≤ hiN r ∧ p4 = nI v
  · obtain ⟨r, v, hr, rfl, hv, rfl⟩ := id hc
    by_cases hf : q 36 = 16
    · refine no (fun post hp => ?_) (fun post hp => ?_)
      · unfold v_X8_entry; simp only [s_within]; rw [hw1]; refine ⟨fun c => absurd c one_ne, fun _ => ?_⟩; rw [hw2]; refine ⟨fun c => absurd c one_ne, fun _ => ?_⟩
        refine (isv _ (fun n => absurd hc n) (fun _ => ⟨fun _ => ?_, fun c => absurd c one_ne⟩)).2
        unfold v_X1_append
        rw [hcnt, hf]
        refine ⟨fun c => absurd c (by decide), fun _ => ?_⟩
        rintro M9 rfl
        rw [x_wb_sh]
        exact hp
      · unfold v_X9_entry
        exact ⟨fun _ => hp, fun n => absurd (full.mpr hf) n⟩
    · have hc16 : q 36 < 16 := by omega
      refine ⟨nI (q 36 + 1), x_st (x_st (x_st (x_st (x_st MB 18 (q 36) p1) 19 (q 36) p2) 20 (q 36) (nI r)) 21 (q 36) (nI v)) 17 4 (nI (q 36 + 1)), x_st (x_st (x_st (x_st (x_st N 1 (60 + 4 * q 36) p1) 1 (60 + 4 * q 36 + 1) p2) 1 (60 + 4 * q 36 + 2) (nI r)) 1 (60 + 4 * q 36 + 3) (nI v)) 1 36 (nI (q 36 + 1)), (fun k => if k = 36 then q 36 + 1 else if k = 60 + 4 * q 36 + 2 then r else if k = 60 + 4 * q 36 + 3 then v else q k), fun post hp => ?_, fun post hp => ?_, ?_, ?_⟩
      · unfold v_X8_entry; simp only [s_within]; rw [hw1]; refine ⟨fun c => absurd c one_ne, fun _ => ?_⟩; rw [hw2]; refine ⟨fun c => absurd c one_ne, fun _ => ?_⟩
        refine (isv _ (fun n => absurd hc n) (fun _ => ⟨fun _ => ?_, fun c => absurd c one_ne⟩)).2
        refine s_append _ hc16 hcnt _ _ _ _ _ ?_
        rintro M9 rfl
        rw [x_wb_st _ _ _ _ _ _ _ (show 0 < 5 by decide), x_wb_st _ _ _ _ _ _ _ (show 4 < 5 by decide), x_wb_st _ _ _ _ _ _ _ (show 3 < 5 by decide), x_wb_st _ _ _ _ _ _ _ (show 2 < 5 by decide), x_wb_st _ _ _ _ _ _ _ (show 1 < 5 by decide), x_wb_sh]
        exact hp
      · unfold v_X9_entry
        refine ⟨fun c => absurd (full.mp c) hf, fun _ => ?_⟩
        simp only [s_isIn]; rw [hw1]; refine ⟨fun c => absurd c one_ne, fun _ => ?_⟩; rw [hw2]; refine ⟨fun c => absurd c one_ne, fun _ => ?_⟩
        refine (isv _ (fun n => absurd hc n) (fun _ => ⟨fun _ => ?_, fun c => absurd c one_ne⟩)).1
        rintro x rfl
        have ex : (60 + 4 * N 1 36 : Int32) = nI (60 + 4 * q 36) := by rw [c2, lit_nI 60, lit_nI 4, pk_mul, nI_add]
        rw [ex]
        refine ⟨60 + 4 * q 36, by omega, rfl, ?_⟩
        rintro M10 rfl
        refine ⟨60 + 4 * q 36 + 1, by omega, nI_1 _, ?_⟩
        rintro M12 rfl
        refine ⟨60 + 4 * q 36 + 2, by omega, by rw [lit_nI 2, nI_add], ?_⟩
        rintro M14 rfl
        refine ⟨60 + 4 * q 36 + 3, by omega, by rw [lit_nI 3, nI_add], ?_⟩
        rintro M16 rfl
        rintro M17 rfl
        have e16 : x_st (x_st (x_st (x_st N 1 (60 + 4 * q 36) p1) 1 (60 + 4 * q 36 + 1) p2) 1 (60 + 4 * q 36 + 2) (nI r)) 1 (60 + 4 * q 36 + 3) (nI v) 1 36 = nI (q 36) := by
          rw [x_st_col _ _ _ _ (by omega), x_st_col _ _ _ _ (by omega), x_st_col _ _ _ _ (by omega), x_st_col _ _ _ _ (by omega)]; exact c2
        rw [e16, x_st_at, nI_1]
        exact hp
      · have := RR.ent h (c := q 36) rfl hc16 p1 p2 hr hv
        rw [← show x_sh (x_st (x_st (x_st (x_st (x_st MB 18 (q 36) p1) 19 (q 36) p2) 20 (q 36) (nI r)) 21 (q 36) (nI v)) 17 4 (nI (q 36 + 1))) 2 = x_st (x_st (x_st (x_st (x_st (x_sh MB 2) 16 (q 36) p1) 17 (q 36) p2) 18 (q 36) (nI r)) 19 (q 36) (nI v)) 15 4 (nI (q 36 + 1)) from by
          rw [show ∀ (z : ST) (v : Int32), x_sh (x_st z 17 4 v) 2 = x_st (x_sh z 2) 15 4 v from fun z v => x_sh_st z 2 15 4 v, show ∀ (z : ST) (j : Nat) (v : Int32), x_sh (x_st z 21 j v) 2 = x_st (x_sh z 2) 19 j v from fun z j v => x_sh_st z 2 19 j v, show ∀ (z : ST) (j : Nat) (v : Int32), x_sh (x_st z 20 j v) 2 = x_st (x_sh z 2) 18 j v from fun z j v => x_sh_st z 2 18 j v, show ∀ (z : ST) (j : Nat) (v : Int32), x_sh (x_st z 19 j v) 2 = x_st (x_sh z 2) 17 j v from fun z j v => x_sh_st z 2 17 j v, show ∀ (z : ST) (j : Nat) (v : Int32), x_sh (x_st z 18 j v) 2 = x_st (x_sh z 2) 16 j v from fun z j v => x_sh_st z 2 16 j v]] at this
        exact this
      · exact ((((keep.rf.st (by omega)).st (by omega)).st (by omega)).st (by omega)).st (by decide)
  · refine no (fun post hp => ?_) (fun post hp => ?_)
    · unfold v_X8_entry; simp only [s_within]; rw [hw1]; refine ⟨fun c => absurd c one_ne, fun _ => ?_⟩; rw [hw2]; refine ⟨fun c => absurd c one_ne, fun _ => ?_⟩
      exact (isv _ (fun _ => ⟨fun c => absurd rfl c, fun _ => hp⟩) (fun n => absurd n hc)).2
    · unfold v_X9_entry
      refine ⟨fun _ => hp, fun _ => ?_⟩
      simp only [s_isIn]; rw [hw1]; refine ⟨fun c => absurd c one_ne, fun _ => ?_⟩; rw [hw2]; refine ⟨fun c => absurd c one_ne, fun _ => ?_⟩
      exact (isv _ (fun _ => ⟨fun c => absurd rfl c, fun _ => hp⟩) (fun n => absurd n hc)).1
