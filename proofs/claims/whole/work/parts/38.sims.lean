/-- the tick behind the last seen one, both sides -/
theorem ph_begin {M N : ST} {q : Nat → Nat} (h : RR M N q) (hx : q 20 = q 0) : ∃ (M' N' : ST) (q' : Nat → Nat), (∀ post : ST → Prop, post M' → v_X3_turnToNextLine M post) ∧ (∀ post : ST → Prop, post N' → v_X9_begins N post) ∧ RR M' N' q' ∧ keep N N' ∧ P8x M' N' q' ∧ (∀ k, k < 24 → q' k = q k) := by
  have hh := h
  obtain ⟨h1, h2, h3, h4, h5, h13, h6, h7, h8, h9, h10, h11, h12⟩ := h
  obtain ⟨⟨⟨a1, a2, a3, a4⟩, ⟨b1, b2, b3, b4⟩, c1⟩, hi, ho⟩ := id h1
  obtain ⟨me2, hi2, ho2⟩ := id h2
  obtain ⟨⟨x1, x2, x3⟩, ⟨y1, y2, y3⟩, ⟨f1, f2, f3⟩⟩ := id h3
  simp only [modeOK, Nat.zero_add] at ho
  have ho2' := ho2
  simp only [modeOK, Nat.reduceAdd] at ho2'
  have g8 : N 1 8 = nI (q 8) := hi 8 (by omega)
  have g0 : N 1 0 = nI (q 0) := hi 0 (by omega)
  have g4 : N 1 4 = nI (q 4) := hi 4 (by omega)
  have lines : ∀ post : Int32 → Prop, post (nI (q 4 + q 5 + q 6 + q 7)) → v_X6_whole (x_sh (x_sh M 1) 3) post := fun post hp => s_whole _ (q 4) (q 5) (q 6) (q 7) b1 b2 b3 b4 _ hp
  have eL : (nI (q 4 + q 5 + q 6 + q 7) - 1 : Int32) = nI (q 4 + q 5 + q 6 + q 7 - 1) := by rw [lit_nI 1, pk_sub (by omega)]
  have lst : nI (q 21) = (nI (q 4 + q 5 + q 6 + q 7) - 1 : Int32) ↔ q 21 + 1 = q 4 + q 5 + q 6 + q 7 := by
    rw [eL]
    constructor
    · intro e; have := nI_inj (by omega) (by omega) e; omega
    · intro e; congr 1; omega
  have eB4 : x_sh M 1 0 4 = nI (q 21) := y1
  by_cases hl : q 21 + 1 = q 4 + q 5 + q 6 + q 7
  · -- the field's last line
    have hrow : rwN (q 18) 0 (if q 8 = 1 ∧ q 18 = 1 then 1 - q 22 else 0) ≤ 200 := by unfold rwN; split <;> (try split) <;> omega
    have hby : byN (q 10) ≤ 9 := by unfold byN; omega
    obtain ⟨N2, n1, n2, n3, n4⟩ := copyN 10 0 (x_st (x_st (x_st N 1 33 0) 1 35 0) 1 34 0) (by omega)
    have old : ∀ k, k ≠ 33 → k ≠ 34 → k ≠ 35 → x_st (x_st (x_st N 1 33 0) 1 35 0) 1 34 0 1 k = N 1 k := fun k z1 z2 z3 => by
      rw [x_st_col _ _ _ _ z2, x_st_col _ _ _ _ z3, x_st_col _ _ _ _ z1]
    have nold : ∀ k, k < 5870 ∨ 5880 ≤ k → k ≠ 33 → k ≠ 34 → k ≠ 35 → N2 1 k = N 1 k := fun k z z1 z2 z3 => by rw [n3 k (by omega), old k z1 z2 z3]
    have nnew : ∀ k, k < 9 → N2 1 (5870 + k) = nI (q (10 + k)) := fun k hk => by rw [n2 k (by omega) (by omega), old _ (by omega) (by omega) (by omega)]; exact hi2 k hk
    let r := rwN (q 18) 0 (if q 8 = 1 ∧ q 18 = 1 then 1 - q 22 else 0)
    let M1 := x_st (mcpM M 5 (M 9 0) (M 9 1) (M 9 2) (M 9 3) (M 10 0) (M 10 1) (M 10 2) (M 10 3) (M 8 2)) 1 6 (nI (if q 8 = 1 ∧ q 18 = 1 then 1 - q 22 else 0))
    let q' := fun k => if k = 30 then r else if k = 31 then byN (q 10) else if k = 32 then 0 else if k = 33 then 0 else if k = 35 then 0 else if 5870 ≤ k ∧ k < 5879 then q (k - 5860) else q k
    have m1row : ∀ i, i ≠ 1 → i < 5 ∨ 7 < i → M1 i = M i := fun i z z2 => by
      show x_st _ 1 6 _ i = M i
      rw [x_st_row _ _ _ _ z, mcp_row _ _ _ _ _ _ _ _ _ _ _ (by omega)]
    have m1b : ∀ j, j ≠ 6 → M1 1 j = M 1 j := fun j z => by
      show x_st _ 1 6 _ 1 j = M 1 j
      rw [x_st_col _ _ _ _ z, mcp_row _ _ _ _ _ _ _ _ _ _ _ (Or.inl (by decide))]
    have hq' : ∀ k, k < 30 ∨ (36 ≤ k ∧ k < 5870) → q' k = q k := fun k hk => by
      show (if k = 30 then r else if k = 31 then byN (q 10) else if k = 32 then 0 else if k = 33 then 0 else if k = 35 then 0 else if 5870 ≤ k ∧ k < 5879 then q (k - 5860) else q k) = q k
      rw [if_neg (by omega), if_neg (by omega), if_neg (by omega), if_neg (by omega), if_neg (by omega), if_neg (by omega)]
    have hqT : ∀ k, k < 9 → q' (5870 + k) = q (10 + k) := fun k hk => by
      show (if 5870 + k = 30 then r else if 5870 + k = 31 then byN (q 10) else if 5870 + k = 32 then 0 else if 5870 + k = 33 then 0 else if 5870 + k = 35 then 0 else if 5870 ≤ 5870 + k ∧ 5870 + k < 5879 then q (5870 + k - 5860) else q (5870 + k)) = q (10 + k)
      rw [if_neg (by omega), if_neg (by omega), if_neg (by omega), if_neg (by omega), if_neg (by omega), if_pos (by omega)]
      rw [show 5870 + k - 5860 = 10 + k by omega]
    let M' := sl M1 (nI r) (nI (byN (q 10)))
    have m'row : ∀ i, i ≠ 11 → M' i = M1 i := fun i z => by
      show sl M1 _ _ i = M1 i
      unfold sl
      rw [x_st_row _ _ _ _ z, x_st_row _ _ _ _ z, x_st_row _ _ _ _ z, x_st_row _ _ _ _ z, x_st_row _ _ _ _ z]
    let N' := x_st (x_st (x_st N2 1 30 (nI r)) 1 31 (nI (byN (q 10)))) 1 32 0
    have N'old : ∀ k, k ≠ 30 → k ≠ 31 → k ≠ 32 → N' 1 k = N2 1 k := fun k z1 z2 z3 => by
      show x_st (x_st (x_st N2 1 30 (nI r)) 1 31 (nI (byN (q 10)))) 1 32 0 1 k = N2 1 k
      rw [x_st_col _ _ _ _ z3, x_st_col _ _ _ _ z2, x_st_col _ _ _ _ z1]
    have tk5 : modeEq M1 5 q' 5870 := by
      have := mcp_eq M 5 q' 5870 (M 9 0) (M 9 1) (M 9 2) (M 9 3) (M 10 0) (M 10 1) (M 10 2) (M 10 3) (M 8 2) ⟨⟨by rw [show q' 5870 = q 10 from hqT 0 (by omega)]; exact me2.1.1, by rw [show q' (5870 + 1) = q 11 from hqT 1 (by omega)]; exact me2.1.2.1, by rw [show q' (5870 + 2) = q 12 from hqT 2 (by omega)]; exact me2.1.2.2.1, by rw [show q' (5870 + 3) = q 13 from hqT 3 (by omega)]; exact me2.1.2.2.2⟩, ⟨by rw [show q' (5870 + 4) = q 14 from hqT 4 (by omega)]; exact me2.2.1.1, by rw [show q' (5870 + 5) = q 15 from hqT 5 (by omega)]; exact me2.2.1.2.1, by rw [show q' (5870 + 6) = q 16 from hqT 6 (by omega)]; exact me2.2.1.2.2.1, by rw [show q' (5870 + 7) = q 17 from hqT 7 (by omega)]; exact me2.2.1.2.2.2⟩, by rw [show q' (5870 + 8) = q 18 from hqT 8 (by omega)]; exact me2.2.2⟩
      exact this.cg (by show x_st _ 1 6 _ 5 2 = _; rw [x_st_row _ _ _ _ (by decide)]) (fun j _ => by show x_st _ 1 6 _ (5 + 1) j = _; rw [x_st_row _ _ _ _ (by decide)]) (fun j _ => by show x_st _ 1 6 _ (5 + 2) j = _; rw [x_st_row _ _ _ _ (by decide)]) (fun _ _ => rfl)
    have tk' : modeEq M' 5 q' 5870 := tk5.cg (by rw [m'row 5 (by decide)]) (fun j _ => by rw [m'row (5 + 1) (by decide)]) (fun j _ => by rw [m'row (5 + 2) (by decide)]) (fun _ _ => rfl)
    have hbo : x_bool (M' 5 2) := by
      rw [tk'.2.2, show q' (5870 + 8) = q 18 from hqT 8 (by omega)]
      rcases (show q 18 = 0 ∨ q 18 = 1 by omega) with z | z
      · exact Or.inl (by rw [z]; rfl)
      · exact Or.inr (by rw [z]; rfl)
    have nf' : nfl q' = if q 8 = 1 ∧ q 18 = 1 then 1 - q 22 else 0 := by
      unfold nfl
      rw [hq' 8 (by omega), show q' 5878 = q 18 from hqT 8 (by omega), hq' 22 (by omega)]
    have p8x : P8x M' N' q' := fun _ _ => ⟨tk', fun k hk => by rw [N'old _ (by omega) (by omega) (by omega), nnew k hk, hqT k hk], ho2.cg (fun k hk => hqT k hk), by rw [nf', m'row 1 (by decide)]; show x_st _ 1 6 _ 1 6 = _; rw [x_st_at]⟩
    have p8 : P8 M' N' q' := ⟨hbo, fun _ z => by rw [hq' 0 (by omega), hq' 20 (by omega)] at z; omega⟩
    refine ⟨M', N', q', fun post hp => ?_, fun post hp => ?_, ?_, ?_, p8x, fun k hk => hq' k (by omega)⟩
    · unfold v_X3_turnToNextLine v_X0_isOnLastLine
      refine lines _ ?_
      rw [eB4]
      refine ⟨fun c => absurd (lst.mpr hl) c, fun _ => ⟨fun c => absurd c one_ne, fun _ => ?_⟩⟩
      refine s_takeUp M (t := q 8) (u := q 18) (f := q 22) c1 me2.2.2 f1 (by omega) (by omega) (by omega) _ ?_
      have e6 : M1 1 6 = nI (if q 8 = 1 ∧ q 18 = 1 then 1 - q 22 else 0) := by show x_st _ 1 6 _ 1 6 = _; rw [x_st_at]
      show v_X3_startFeed_t M1 0 (M1 1 6) _
      rw [e6]
      refine s_feedT M1 (s0 := q 10) (s4 := q 14) (t := q 18) (y := 0) ?_ ?_ ?_ (by omega) (by omega) (by omega) (by decide) _ ?_
      · rw [show q 10 = q' 5870 from (hqT 0 (by omega)).symm]; exact tk5.1.1
      · rw [show q 14 = q' (5870 + 4) from (hqT 4 (by omega)).symm]; exact tk5.2.1.1
      · rw [show q 18 = q' (5870 + 8) from (hqT 8 (by omega)).symm]; exact tk5.2.2
      · rw [if_pos (show 0 < q 14 by omega)]; exact hp
    · unfold v_X9_begins
      rintro Z1 rfl
      rintro Z2 rfl
      rintro Z3 rfl
      refine s_linesOf _ (b := 0) (by decide) _ ?_
      rw [old (0 + 4) (by decide) (by decide) (by decide), old (0 + 5) (by decide) (by decide) (by decide), old (0 + 6) (by decide) (by decide) (by decide), old (0 + 7) (by decide) (by decide) (by decide), old 21 (by decide) (by decide) (by decide), hi 4 (by omega), hi 5 (by omega), hi 6 (by omega), hi 7 (by omega), nI_add, nI_add, nI_add, y2]
      refine ⟨fun c => absurd (lst.mpr hl) c, fun _ => ⟨11, n1 _ _ ?_⟩⟩
      have v8 : N2 1 8 = nI (q 8) := (nold 8 (by omega) (by decide) (by decide) (by decide)).trans g8
      have v22 : N2 1 22 = nI (q 22) := (nold 22 (by omega) (by decide) (by decide) (by decide)).trans f2
      have v78 : N2 1 5878 = nI (q 18) := nnew 8 (by omega)
      have v74 : N2 1 5874 = nI (q 14) := nnew 4 (by omega)
      have v70 : N2 1 5870 = nI (q 10) := nnew 0 (by omega)
      have nxt : ∀ post : Int32 → Prop, post (nI (if q 8 = 1 ∧ q 18 = 1 then 1 - q 22 else 0)) → v_X9_nextField N2 post := fun post hp => by
        unfold v_X9_nextField
        rw [v8, v22, v78]
        refine ⟨fun c => ?_, fun c => ⟨fun c2 => ?_, fun c2 => ?_⟩⟩
        · rw [if_neg (fun z => c (by rw [z.1]; rfl))] at hp; exact hp
        · rw [if_neg (fun z => c2 (by rw [z.2]; rfl))] at hp; exact hp
        · have z1 : q 8 = 1 := nI_inj (b := 1) (by omega) (by decide) c
          have z2 : q 18 = 1 := nI_inj (b := 1) (by omega) (by decide) c2
          rw [if_pos ⟨z1, z2⟩] at hp
          rw [nI_sub1 (by omega)]; exact hp
      refine nxt _ ?_
      rw [v78]
      refine s_rowM (y := 0) (by omega) _ ?_
      rintro Z4 rfl
      rw [x_st_col _ _ _ _ (show 5874 ≠ 30 by decide), x_st_col _ _ _ _ (show 5870 ≠ 30 by decide), v74, v70]
      refine ⟨fun c => absurd c (nI_nle (by omega) (by omega)), fun _ => s_byM (by omega) _ ?_⟩
      rintro Z5 rfl
      rintro Z6 rfl
      exact hp
    · refine hh.feed0 (r := r) (b := byN (q 10)) (fun i hi => by rw [m'row i (by omega), m1row i (by omega) (by omega)]) ⟨by rw [m'row 1 (by decide), m1b 3 (by decide)], by rw [m'row 1 (by decide), m1b 4 (by decide)], by rw [m'row 1 (by decide), m1b 5 (by decide)]⟩ (fun k hk => by rw [N'old k (by omega) (by omega) (by omega), nold k (by omega) (by omega) (by omega) (by omega)]) hq' ⟨?_, ?_, ?_, ?_, ?_, ?_, ?_, ?_, ?_⟩ ⟨?_, ?_, ?_, ?_, ?_⟩ ⟨rfl, rfl, rfl, rfl, rfl⟩ hrow hby p8
      · show sl M1 _ _ 11 9 = _; rw [← congrFun (m1row 11 (by decide) (by omega)) 9]; simp [sl, x_st_if]
      · show sl M1 _ _ 11 10 = _; rw [← congrFun (m1row 11 (by decide) (by omega)) 10]; simp [sl, x_st_if]
      · show sl M1 _ _ 11 3 = _; rw [← congrFun (m1row 11 (by decide) (by omega)) 3]; simp [sl, x_st_if]
      · show sl M1 _ _ 11 1 = _; rw [← congrFun (m1row 11 (by decide) (by omega)) 1]; simp [sl, x_st_if]
      · show sl M1 _ _ 11 2 = nI 0; simp [sl, x_st_if]; rfl
      · show sl M1 _ _ 11 5 = nI 0; simp [sl, x_st_if]; rfl
      · show sl M1 _ _ 11 6 = _; simp [sl, x_st_if]
      · show sl M1 _ _ 11 7 = nI 0; simp [sl, x_st_if]; rfl
      · show sl M1 _ _ 11 8 = _; simp [sl, x_st_if]
      · show x_st (x_st (x_st N2 1 30 (nI r)) 1 31 (nI (byN (q 10)))) 1 32 0 1 30 = _; simp [x_st_if]
      · show x_st (x_st (x_st N2 1 30 (nI r)) 1 31 (nI (byN (q 10)))) 1 32 0 1 31 = _; simp [x_st_if]
      · show x_st (x_st (x_st N2 1 30 (nI r)) 1 31 (nI (byN (q 10)))) 1 32 0 1 32 = nI 0; simp [x_st_if]; rfl
      · rw [N'old 33 (by decide) (by decide) (by decide), n3 33 (by omega)]; simp [x_st_if]; rfl
      · rw [N'old 35 (by decide) (by decide) (by decide), n3 35 (by omega)]; simp [x_st_if]; rfl
    · refine ⟨?_, fun k hk => by rw [N'old k (by omega) (by omega) (by omega), nold k (by omega) (by omega) (by omega) (by omega)]⟩
      show x_st (x_st (x_st N2 1 30 (nI r)) 1 31 (nI (byN (q 10)))) 1 32 0 2 = N 2
      rw [x_st_row _ _ _ _ (by decide), x_st_row _ _ _ _ (by decide), x_st_row _ _ _ _ (by decide), n4, x_st_row _ _ _ _ (by decide), x_st_row _ _ _ _ (by decide), x_st_row _ _ _ _ (by decide)]
  · -- a line ahead of the last
    have hrow : rwN (q 8) (q 21 + 1) (q 22) ≤ 200 := by unfold rwN; split <;> omega
    have hby : (if q 21 + 1 < q 4 then byN (q 0) else 0) ≤ 9 := by unfold byN; split <;> omega
    let r := rwN (q 8) (q 21 + 1) (q 22)
    let b := if q 21 + 1 < q 4 then byN (q 0) else 0
    let q' := fun k => if k = 30 then r else if k = 31 then b else if k = 32 then 0 else if k = 33 then 0 else if k = 35 then 0 else q k
    have hq' : ∀ k, k < 30 ∨ 36 ≤ k → q' k = q k := fun k hk => by
      show (if k = 30 then r else if k = 31 then b else if k = 32 then 0 else if k = 33 then 0 else if k = 35 then 0 else q k) = q k
      rw [if_neg (by omega), if_neg (by omega), if_neg (by omega), if_neg (by omega), if_neg (by omega)]
    let M' := sl M (nI r) (nI b)
    have m'row : ∀ i, i ≠ 11 → M' i = M i := fun i z => by
      show sl M _ _ i = M i
      unfold sl
      rw [x_st_row _ _ _ _ z, x_st_row _ _ _ _ z, x_st_row _ _ _ _ z, x_st_row _ _ _ _ z, x_st_row _ _ _ _ z]
    let N' := x_st (x_st (x_st (x_st (x_st (x_st N 1 33 0) 1 35 0) 1 34 0) 1 30 (nI r)) 1 31 (nI b)) 1 32 0
    have N'old : ∀ k, k < 30 ∨ 36 ≤ k → N' 1 k = N 1 k := fun k z => by
      show x_st (x_st (x_st (x_st (x_st (x_st N 1 33 0) 1 35 0) 1 34 0) 1 30 (nI r)) 1 31 (nI b)) 1 32 0 1 k = N 1 k
      rw [x_st_col _ _ _ _ (by omega), x_st_col _ _ _ _ (by omega), x_st_col _ _ _ _ (by omega), x_st_col _ _ _ _ (by omega), x_st_col _ _ _ _ (by omega), x_st_col _ _ _ _ (by omega)]
    have old : ∀ k, k ≠ 33 → k ≠ 34 → k ≠ 35 → x_st (x_st (x_st N 1 33 0) 1 35 0) 1 34 0 1 k = N 1 k := fun k z1 z2 z3 => by
      rw [x_st_col _ _ _ _ z2, x_st_col _ _ _ _ z3, x_st_col _ _ _ _ z1]
    have nl : ¬ (q' 21 + 1 = q' 4 + q' 5 + q' 6 + q' 7) := by rw [hq' 21 (by omega), hq' 4 (by omega), hq' 5 (by omega), hq' 6 (by omega), hq' 7 (by omega)]; exact hl
    refine ⟨M', N', q', fun post hp => ?_, fun post hp => ?_, ?_, ?_, fun z _ => absurd z nl, fun k hk => hq' k (by omega)⟩
    · unfold v_X3_turnToNextLine v_X0_isOnLastLine
      refine lines _ ?_
      rw [eB4]
      refine ⟨fun _ => ⟨fun _ => ?_, fun c => absurd rfl c⟩, fun c => absurd (lst.mp c) hl⟩
      rw [y1, f1, nI_1]
      exact s_feedH M (s0 := q 0) (s4 := q 4) (t := q 8) a1 b1 c1 (by omega) (by omega) (by omega) (by omega) _ hp
    · unfold v_X9_begins
      rintro Z1 rfl
      rintro Z2 rfl
      rintro Z3 rfl
      refine s_linesOf _ (b := 0) (by decide) _ ?_
      rw [old (0 + 4) (by decide) (by decide) (by decide), old (0 + 5) (by decide) (by decide) (by decide), old (0 + 6) (by decide) (by decide) (by decide), old (0 + 7) (by decide) (by decide) (by decide), old 21 (by decide) (by decide) (by decide), hi 4 (by omega), hi 5 (by omega), hi 6 (by omega), hi 7 (by omega), nI_add, nI_add, nI_add, y2]
      refine ⟨fun _ => ?_, fun c => absurd (lst.mp c) hl⟩
      rintro x9 rfl
      rw [nI_1, old 22 (by decide) (by decide) (by decide), old 8 (by decide) (by decide) (by decide), f2, g8]
      refine s_rowM (by omega) _ ?_
      rintro Z4 rfl
      rw [x_st_col _ _ _ _ (show 4 ≠ 30 by decide), x_st_col _ _ _ _ (show 0 ≠ 30 by decide), old 4 (by decide) (by decide) (by decide), old 0 (by decide) (by decide) (by decide), g4, g0]
      refine ⟨fun c => ?_, fun c => s_byM (by omega) _ ?_⟩
      · have z : ¬ q 21 + 1 < q 4 := by have := (nI_leI (by omega) (by omega)).mp c; omega
        rintro Z5 rfl
        rintro Z6 rfl
        have eb : b = 0 := if_neg z
        have : N' = x_st (x_st (x_st (x_st (x_st (x_st N 1 33 0) 1 35 0) 1 34 0) 1 30 (nI (rwN (q 8) (q 21 + 1) (q 22)))) 1 31 0) 1 32 0 := by show x_st (x_st (x_st (x_st (x_st (x_st N 1 33 0) 1 35 0) 1 34 0) 1 30 (nI r)) 1 31 (nI b)) 1 32 0 = _; rw [eb]; rfl
        rw [← this]; exact hp
      · have z : q 21 + 1 < q 4 := by
          rcases Nat.lt_or_ge (q 21 + 1) (q 4) with w | w
          · exact w
          · exact absurd (nI_le w (by omega)) c
        rintro Z5 rfl
        rintro Z6 rfl
        have eb : b = byN (q 0) := if_pos z
        have : N' = x_st (x_st (x_st (x_st (x_st (x_st N 1 33 0) 1 35 0) 1 34 0) 1 30 (nI (rwN (q 8) (q 21 + 1) (q 22)))) 1 31 (nI (byN (q 0)))) 1 32 0 := by show x_st (x_st (x_st (x_st (x_st (x_st N 1 33 0) 1 35 0) 1 34 0) 1 30 (nI r)) 1 31 (nI b)) 1 32 0 = _; rw [eb]
        rw [← this]; exact hp
    · refine hh.feed0 (r := r) (b := b) (fun i hi => m'row i (by omega)) ⟨by rw [m'row 1 (by decide)], by rw [m'row 1 (by decide)], by rw [m'row 1 (by decide)]⟩ (fun k hk => N'old k (by omega)) (fun k hk => hq' k (by omega)) ⟨?_, ?_, ?_, ?_, ?_, ?_, ?_, ?_, ?_⟩ ⟨?_, ?_, ?_, ?_, ?_⟩ ⟨rfl, rfl, rfl, rfl, rfl⟩ hrow hby ⟨by rw [m'row 5 (by decide)]; exact h8.1, fun z _ => absurd z nl⟩
      · show sl M _ _ 11 9 = _; simp [sl, x_st_if]
      · show sl M _ _ 11 10 = _; simp [sl, x_st_if]
      · show sl M _ _ 11 3 = _; simp [sl, x_st_if]
      · show sl M _ _ 11 1 = _; simp [sl, x_st_if]
      · show sl M _ _ 11 2 = nI 0; simp [sl, x_st_if]; rfl
      · show sl M _ _ 11 5 = nI 0; simp [sl, x_st_if]; rfl
      · show sl M _ _ 11 6 = _; simp [sl, x_st_if]
      · show sl M _ _ 11 7 = nI 0; simp [sl, x_st_if]; rfl
      · show sl M _ _ 11 8 = _; simp [sl, x_st_if]
      · show x_st (x_st (x_st (x_st (x_st (x_st N 1 33 0) 1 35 0) 1 34 0) 1 30 (nI r)) 1 31 (nI b)) 1 32 0 1 30 = _; simp [x_st_if]
      · show x_st (x_st (x_st (x_st (x_st (x_st N 1 33 0) 1 35 0) 1 34 0) 1 30 (nI r)) 1 31 (nI b)) 1 32 0 1 31 = _; simp [x_st_if]
      · show x_st (x_st (x_st (x_st (x_st (x_st N 1 33 0) 1 35 0) 1 34 0) 1 30 (nI r)) 1 31 (nI b)) 1 32 0 1 32 = nI 0; simp [x_st_if]; rfl
      · show x_st (x_st (x_st (x_st (x_st (x_st N 1 33 0) 1 35 0) 1 34 0) 1 30 (nI r)) 1 31 (nI b)) 1 32 0 1 33 = nI 0; simp [x_st_if]; rfl
      · show x_st (x_st (x_st (x_st (x_st (x_st N 1 33 0) 1 35 0) 1 34 0) 1 30 (nI r)) 1 31 (nI b)) 1 32 0 1 35 = nI 0; simp [x_st_if]; rfl
    · exact (((((keep.rf.st (by decide)).st (by decide)).st (by decide)).st (by decide)).st (by decide)).st (by decide)
