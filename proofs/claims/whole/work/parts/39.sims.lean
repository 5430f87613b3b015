/-! ===== a tick, part by part: a byte fetched; a bit taken ===== -/
theorem s_rdC {M N : ST} {q : Nat → Nat} (h6 : P6 M N q) {k : Nat} (hk : k < 5) (post : Int32 → Prop) (hp : post (nI (q (40 + k)))) : v_X5_read (x_sh M 13) (nI k) post := by
  refine s_read _ _ _ (fun j hj e => ?_) (fun hno => absurd rfl (hno k hk))
  have : k = j := nI_inj (by omega) (by omega) e
  subst this
  rw [show x_sh M 13 1 k = M 14 k from rfl, (h6 k hk).1]
  exact hp
theorem ph_fetch {M N : ST} {q : Nat → Nat} (h : RR M N q) : ∃ (M' N' : ST) (q' : Nat → Nat), ((∀ post : ST → Prop, post N' → v_X9_fetches N post) ∧ RR M' N' q' ∧ keep N N' ∧ Fr M N q M' N' q') ∧ ((M' = M ∧ (∀ post : Int32 → Prop, post 0 → v_X2_wantsByte (x_sh M 11) post)) ∨ ((∀ post : Int32 → Prop, post 1 → v_X2_wantsByte (x_sh M 11) post) ∧ ((M' = M ∧ tk N = 1) ∨ (tk N = 0 ∧ ∀ post : ST → Prop, post M' → v_X3_fetchByte M post)))) := by
  have hh := h
  obtain ⟨h1, h2, h3, h4, h5, h13, h6, h7, h8, h9, h10, h11, h12⟩ := h
  obtain ⟨⟨u1, u2⟩, ⟨d1, d2, d3, d4⟩, ⟨r1, r2, r3⟩, ⟨b1, b2, b3⟩, ⟨n1, n2, n3⟩, ⟨c1, c2, c3⟩, ⟨l1, l2, l3⟩, i1, j1, j2⟩ := id h5
  have F3 : x_sh M 11 0 3 = nI (q 29) := d1
  have F2 : x_sh M 11 0 2 = nI (q 33) := c1
  have F8 : x_sh M 11 0 8 = nI (q 31) := b1
  have F7 : x_sh M 11 0 7 = nI (q 32) := n1
  have cmp1 : nI (q 29) ≤ nI (q 33) ↔ q 29 ≤ q 33 := nI_leI (by omega) (by omega)
  have cmp2 : nI (q 31) ≤ nI (q 32) ↔ q 31 ≤ q 32 := nI_leI (by omega) (by omega)
  have cmp3 : nI (q 32) < nI (q 31) ↔ q 32 < q 31 := nI_ltI (by omega) (by omega)
  by_cases hw : q 33 < q 29 ∧ q 32 < q 31
  · have wants : ∀ post : Int32 → Prop, post 1 → v_X2_wantsByte (x_sh M 11) post := fun post hp => by
      unfold v_X2_wantsByte
      rw [F3, F2, F8, F7]
      exact ⟨fun c => absurd (cmp1.mp c) (by omega), fun _ => ⟨fun c => absurd (cmp2.mp c) (by omega), fun _ => hp⟩⟩
    rcases tk_bool N with ht | ht
    · -- a byte comes
      have z0 := h6 0 (by decide)
      have z1 := h6 1 (by decide)
      have k0 : q 40 ≤ 1023 := z0.2.2
      have k1 : q 41 ≤ 64 := z1.2.2
      have hp1 : q 41 * q 30 ≤ 64 * 200 := Nat.mul_le_mul k1 r3
      let at_ := q 40 + q 41 * q 30 + q 32
      have hat : at_ < 100000 := by show q 40 + q 41 * q 30 + q 32 < 100000; omega
      have hm : at_ % 1024 < 1024 := Nat.mod_lt _ (by decide)
      let v := M 26 (at_ % 1024)
      let p := (q 9 + q 33) % 8
      have hp8 : p < 8 := Nat.mod_lt _ (by decide)
      let M' := x_st (x_st (x_st (x_st M 12 p v) 11 2 (nI (q 33 + 1))) 11 7 (nI (q 32 + 1))) 11 10 (M 11 10 + 1)
      let N' := x_st (x_st (x_st (x_st N 1 (50 + q 33) v) 1 33 (nI (q 33 + 1))) 1 32 (nI (q 32 + 1))) 1 26 (N 1 26 + 1)
      let q' := fun k => if k = 33 then q 33 + 1 else if k = 32 then q 32 + 1 else q k
      have hM : ∀ i, i < 11 ∨ 12 < i → M' i = M i := fun i z => by
        show x_st (x_st (x_st (x_st M 12 p v) 11 2 (nI (q 33 + 1))) 11 7 (nI (q 32 + 1))) 11 10 (M 11 10 + 1) i = M i
        rw [x_st_row _ _ _ _ (by omega), x_st_row _ _ _ _ (by omega), x_st_row _ _ _ _ (by omega), x_st_row _ _ _ _ (by omega)]
      have hN : ∀ k, k < 26 ∨ (26 < k ∧ k < 32) ∨ (33 < k ∧ k < 50) ∨ 58 ≤ k → N' 1 k = N 1 k := fun k z => by
        show x_st (x_st (x_st (x_st N 1 (50 + q 33) v) 1 33 (nI (q 33 + 1))) 1 32 (nI (q 32 + 1))) 1 26 (N 1 26 + 1) 1 k = N 1 k
        rw [x_st_col _ _ _ _ (by omega), x_st_col _ _ _ _ (by omega), x_st_col _ _ _ _ (by omega), x_st_col _ _ _ _ (by omega)]
      have hq : ∀ k, k < 32 ∨ 33 < k → q' k = q k := fun k z => by
        show (if k = 33 then q 33 + 1 else if k = 32 then q 32 + 1 else q k) = q k
        rw [if_neg (by omega), if_neg (by omega)]
      have h5' : P5 M' N' q' := by
        refine ⟨⟨?_, ?_⟩, ⟨?_, ?_, ?_, ?_⟩, ⟨?_, ?_, ?_⟩, ⟨?_, ?_, ?_⟩, ⟨?_, ?_, ?_⟩, ⟨?_, ?_, ?_⟩, ⟨?_, ?_, ?_⟩, ?_, ?_, ?_⟩
        · rw [hN 24 (by omega)]; simpa [M', x_st_if] using u1
        · have : N' 1 26 = N 1 26 + 1 := by simp [N', x_st_if]
          rw [this, ← u2]; simp [M', x_st_if]
        · rw [hq 29 (by omega)]; simpa [M', x_st_if] using d1
        · rw [hq 29 (by omega), hN 29 (by omega)]; exact d2
        · rw [hq 29 (by omega)]; exact d3
        · rw [hq 29 (by omega)]; exact d4
        · rw [hq 30 (by omega)]; simpa [M', x_st_if] using r1
        · rw [hq 30 (by omega), hN 30 (by omega)]; exact r2
        · rw [hq 30 (by omega)]; exact r3
        · rw [hq 31 (by omega)]; simpa [M', x_st_if] using b1
        · rw [hq 31 (by omega), hN 31 (by omega)]; exact b2
        · rw [hq 31 (by omega)]; exact b3
        · show M' 11 7 = nI (q 32 + 1); simp [M', x_st_if]
        · show N' 1 32 = nI (q 32 + 1); simp [N', x_st_if]
        · show q 32 + 1 ≤ 9; omega
        · show M' 11 2 = nI (q 33 + 1); simp [M', x_st_if]
        · show N' 1 33 = nI (q 33 + 1); simp [N', x_st_if]
        · show q 33 + 1 ≤ 8; omega
        · rw [hq 35 (by omega)]; simpa [M', x_st_if] using l1
        · rw [hq 35 (by omega), hN 35 (by omega)]; exact l2
        · rw [hq 35 (by omega)]; exact l3
        · rw [hq 35 (by omega), hN 34 (by omega)]
          have : M' 11 4 = M 11 4 := by simp [M', x_st_if]
          rw [this]; exact i1
        · rw [hq 9 (by omega)]; simpa [M', x_st_if] using j1
        · rw [hq 9 (by omega)]; exact j2
      have h13' : P13 M' N' q' := fun j hj => by
        have hj : j < q 33 + 1 := hj
        rw [hq 9 (by omega)]
        have eN : N' 1 (50 + j) = if j = q 33 then v else N 1 (50 + j) := by
          show x_st (x_st (x_st (x_st N 1 (50 + q 33) v) 1 33 (nI (q 33 + 1))) 1 32 (nI (q 32 + 1))) 1 26 (N 1 26 + 1) 1 (50 + j) = _
          rw [x_st_col _ _ _ _ (by omega), x_st_col _ _ _ _ (by omega), x_st_col _ _ _ _ (by omega)]
          by_cases e : j = q 33
          · rw [if_pos e, e, x_st_at]
          · rw [if_neg e, x_st_col _ _ _ _ (by omega)]
        have eM : ∀ z, M' 12 z = if z = p then v else M 12 z := fun z => by
          show x_st (x_st (x_st (x_st M 12 p v) 11 2 (nI (q 33 + 1))) 11 7 (nI (q 32 + 1))) 11 10 (M 11 10 + 1) 12 z = _
          rw [x_st_row _ _ _ _ (by decide), x_st_row _ _ _ _ (by decide), x_st_row _ _ _ _ (by decide), x_st_if]
          simp
        rw [eN, eM]
        by_cases e : j = q 33
        · rw [if_pos e, if_pos (by rw [e])]
        · rw [if_neg e, if_neg (by show ¬ (q 9 + j) % 8 = (q 9 + q 33) % 8; omega)]
          exact h13 j (by omega)
      refine ⟨M', N', q', ⟨fun post hp => ?_, ⟨h1.cg (hM 2 (by omega)) (hM 3 (by omega)) (hM 4 (by omega)) (fun k _ => hN k (by omega)) (fun k _ => hq k (by omega)), h2.cg (hM 8 (by omega)) (hM 9 (by omega)) (hM 10 (by omega)) (fun k _ _ => hN k (by omega)) (fun k _ _ => hq k (by omega)), h3.cg ⟨congrFun (hM 1 (by omega)) 3, congrFun (hM 1 (by omega)) 4, congrFun (hM 1 (by omega)) 5⟩ ⟨hN 20 (by omega), hN 21 (by omega), hN 22 (by omega)⟩ (fun k _ => hq k (by omega)) (fun k _ _ => hq k (by omega)), h4.cg (hM 0 (by omega)) ⟨hN 23 (by omega), hN 25 (by omega), hN 27 (by omega), hN 28 (by omega)⟩ ⟨hq 23 (by omega), hq 27 (by omega)⟩, h5', h13', h6.cg (hM 14 (by omega)) (fun k _ _ => hN k (by omega)) (fun k _ _ => hq k (by omega)), h7.cg (hM 15 (by omega)) (hM 16 (by omega)) (hM 17 (by omega)) (hM 18 (by omega)) (hM 19 (by omega)) ⟨hN 36 (by omega), hq 36 (by omega)⟩ (fun k _ _ => hN k (by omega)) (fun k _ _ => hq k (by omega)), h8.cg (hM 5 (by omega)) (hM 6 (by omega)) (hM 7 (by omega)) (congrFun (hM 1 (by omega)) 6) (fun k _ _ => hN k (by omega)) (fun k _ _ => hq k (by omega)) (fun k _ => hq k (by omega)) (fun k _ _ => hq k (by omega)), h9.cg (hM 21 (by omega)) (hM 22 (by omega)) (hM 23 (by omega)) (hM 24 (by omega)) (hM 25 (by omega)) (fun k _ _ => hN k (by omega)) (fun k _ _ => hq k (by omega)), h10.cg (hM 28 (by omega)) (fun k _ _ => hN k (by omega)), h11.cg (hM 26 (by omega)) (fun k _ _ => hN k (by omega)), h12.cg (hM 27 (by omega)) (fun k _ _ => hN k (by omega))⟩, (((keep.rf.st (by omega)).st (by decide)).st (by decide)).st (by decide), fun i _ _ => hM i (by omega), fun k _ => hN k (by omega), fun k _ _ => hN k (by omega), fun k _ _ => hq k (by omega), fun k _ _ => hq k (by omega)⟩, Or.inr ⟨wants, Or.inr ⟨ht, fun post hp => ?_⟩⟩⟩
      · unfold v_X9_fetches
        refine s_takenM h4 _ ?_
        rw [ht, d2, c2, n2, b2]
        refine ⟨fun c => absurd rfl c, fun _ => ⟨fun c => absurd (cmp1.mp c) (by omega), fun _ => ⟨fun _ => ?_, fun c => absurd (cmp3.mpr hw.2) c⟩⟩⟩
        rintro x5 rfl
        have ea : N 1 40 + N 1 41 * N 1 30 + nI (q 32) = nI at_ := by
          rw [show N 1 40 = nI (q 40) from z0.2.1, show N 1 41 = nI (q 41) from z1.2.1, r2, pk_mul, nI_add, nI_add]
        rw [ea, lit_nI 1024, pk_rem (by omega) (by decide) (by decide)]
        refine ⟨740 + at_ % 1024, by omega, by rw [lit_nI 740, nI_add], 50 + q 33, by omega, by rw [lit_nI 50, nI_add], ?_⟩
        rintro M8 rfl
        rintro M9 rfl
        rintro M10 rfl
        rintro M11 rfl
        rw [← h11 _ hm]
        have e33 : x_st N 1 (50 + q 33) (M 26 (at_ % 1024)) 1 33 = nI (q 33) := by rw [x_st_col _ _ _ _ (by omega)]; exact c2
        rw [e33, nI_1]
        have e32 : x_st (x_st N 1 (50 + q 33) (M 26 (at_ % 1024))) 1 33 (nI (q 33 + 1)) 1 32 = nI (q 32) := by rw [x_st_col _ _ _ _ (by decide), x_st_col _ _ _ _ (by omega)]; exact n2
        rw [e32, nI_1]
        have e26 : x_st (x_st (x_st N 1 (50 + q 33) (M 26 (at_ % 1024))) 1 33 (nI (q 33 + 1))) 1 32 (nI (q 32 + 1)) 1 26 = N 1 26 := by rw [x_st_col _ _ _ _ (by decide), x_st_col _ _ _ _ (by decide), x_st_col _ _ _ _ (by omega)]
        rw [e26]
        exact hp
      · unfold v_X3_fetchByte
        refine s_rdC h6 (k := 0) (by decide) _ (s_rdC h6 (k := 1) (by decide) _ ?_)
        rintro x3 rfl
        have ea : nI (q (40 + 0)) + nI (q (40 + 1)) * M 11 6 + M 11 7 = nI at_ := by rw [r1, n1, pk_mul, nI_add, nI_add]
        rw [ea]
        refine ⟨at_ % 1024, hm, and1023 (by omega), ?_⟩
        unfold v_X2_append
        have eF1 : x_sh M 11 0 1 = nI (q 9) := j1
        rw [eF1, F2]
        refine ⟨p, hp8, by rw [nI_add, lit_nI 8, pk_rem (by omega) (by decide) (by decide)], ?_⟩
        rintro M2 rfl
        rintro M3 rfl
        rintro M4 rfl
        rintro M5 rfl
        rintro M6 rfl
        have f2 : x_st (x_sh M 11) 1 p (M 26 (at_ % 1024)) 0 2 = nI (q 33) := by rw [x_st_row _ _ _ _ (by decide)]; exact F2
        rw [f2, nI_1]
        have f7 : x_st (x_st (x_sh M 11) 1 p (M 26 (at_ % 1024))) 0 2 (nI (q 33 + 1)) 0 7 = nI (q 32) := by rw [x_st_col _ _ _ _ (by decide), x_st_row _ _ _ _ (by decide)]; exact F7
        rw [f7, nI_1]
        have f10 : x_st (x_st (x_st (x_sh M 11) 1 p (M 26 (at_ % 1024))) 0 2 (nI (q 33 + 1))) 0 7 (nI (q 32 + 1)) 0 10 = M 11 10 := by rw [x_st_col _ _ _ _ (by decide), x_st_col _ _ _ _ (by decide), x_st_row _ _ _ _ (by decide)]; rfl
        rw [f10]
        rw [x_wb_st _ _ _ _ _ _ _ (show 0 < 2 by decide), x_wb_st _ _ _ _ _ _ _ (show 0 < 2 by decide), x_wb_st _ _ _ _ _ _ _ (show 0 < 2 by decide), x_wb_st _ _ _ _ _ _ _ (show 1 < 2 by decide), x_wb_sh]
        exact hp
    · refine ⟨M, N, q, ⟨fun post hp => ?_, hh, keep.rf, Fr.rf⟩, Or.inr ⟨wants, Or.inl ⟨rfl, ht⟩⟩⟩
      unfold v_X9_fetches
      refine s_takenM h4 _ ?_
      rw [ht]
      exact ⟨fun _ => hp, fun c => absurd c one_ne⟩
  · refine ⟨M, N, q, ⟨fun post hp => ?_, hh, keep.rf, Fr.rf⟩, Or.inl ⟨rfl, fun post hp => ?_⟩⟩
    · unfold v_X9_fetches
      refine s_takenM h4 _ ?_
      rw [d2, c2, n2, b2]
      refine ⟨fun _ => hp, fun _ => ⟨fun _ => hp, fun c => ⟨fun c2 => ?_, fun _ => hp⟩⟩⟩
      exact absurd ⟨by rcases Nat.lt_or_ge (q 33) (q 29) with z | z; exact z; exact absurd (cmp1.mpr z) c, cmp3.mp c2⟩ hw
    · unfold v_X2_wantsByte
      rw [F3, F2, F8, F7]
      refine ⟨fun _ => hp, fun c => ⟨fun _ => hp, fun c2 => ?_⟩⟩
      exact absurd ⟨by rcases Nat.lt_or_ge (q 33) (q 29) with z | z; exact z; exact absurd (cmp1.mpr z) c, by rcases Nat.lt_or_ge (q 32) (q 31) with z | z; exact z; exact absurd (cmp2.mpr z) c2⟩ hw
