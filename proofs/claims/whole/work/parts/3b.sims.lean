/-! ===== sprites of a row ===== -/
def sp3 (m : Nat) : Nat → Nat × Nat
  | 0 => (0, 0)
  | s + 1 => if m.testBit s = true ∧ (sp3 m s).1 ≠ 3 then ((sp3 m s).1 + 1, (sp3 m s).2 + 2 ^ s) else sp3 m s
def mem3 (m : Nat) : Nat := (sp3 m 8).2
theorem sp3_le (m : Nat) : ∀ s, (sp3 m s).1 ≤ 3 ∧ (sp3 m s).2 < 2 ^ s
  | 0 => ⟨by show 0 ≤ 3; decide, by show 0 < 1; decide⟩
  | s + 1 => by
    have ih := sp3_le m s
    have hp : 2 ^ (s + 1) = 2 ^ s + 2 ^ s := by rw [Nat.pow_succ]; omega
    unfold sp3
    split
    · rename_i c
      exact ⟨by show (sp3 m s).1 + 1 ≤ 3; omega, by show (sp3 m s).2 + 2 ^ s < 2 ^ (s + 1); omega⟩
    · exact ⟨ih.1, by omega⟩
theorem mem3_lt (m : Nat) : mem3 m < 256 := (sp3_le m 8).2
def stp (p : Int32 × Int32) : Int32 × Int32 := (p.1 ||| (p.2 &&& (-p.2)), p.2 ^^^ (p.2 &&& (-p.2)))
set_option maxRecDepth 100000 in
theorem mem_dec : ∀ m, m < 256 → (stp (stp (stp (0, nI m)))).1 = nI (mem3 m) := by decide +kernel
set_option maxRecDepth 100000 in
theorem bit_dec : ∀ a, a < 256 → ∀ s, s < 8 → (((nI a >>> (nI s &&& 31)) &&& 1 = 1) ↔ a.testBit s = true) ∧ (((nI a >>> (nI s &&& 31)) &&& 1 = 0) ↔ a.testBit s = false) ∧ ((nI a >>> (nI s &&& 31)) = 0 ↔ a < 2 ^ s) := by decide +kernel
set_option maxRecDepth 100000 in
theorem or_dec : ∀ s, s < 8 → ∀ b, b < 2 ^ s → (nI b ||| (1 <<< (nI s &&& 31))) = nI (b + 2 ^ s) := by decide +kernel
set_option maxRecDepth 100000 in
theorem sub_dec : ∀ m, m < 256 → ∀ s, s < 8 → (mem3 m).testBit s = true → m.testBit s = true := by decide +kernel
theorem s_members (S : ST) {r m : Nat} (hr : r < 64) (e : S 5 r = nI m) (hm : m < 256) (post : Int32 → Prop) (hp : post (nI (mem3 m))) : v_X7_membersOf S (nI r) post := by
  unfold v_X7_membersOf
  refine ⟨r, hr, rfl, 4, ?_⟩
  rw [e]
  have step : ∀ (f k : Nat) (K : Int32 → Int32 → Int32 → Prop) (a b : Int32), k < 3 → lp_X7_membersOf_12 post K f (nI (k + 1)) (stp (a, b)).1 (stp (a, b)).2 → lp_X7_membersOf_12 post K (f + 1) (nI k) a b := fun f k K a b hk h => by
    unfold lp_X7_membersOf_12
    refine ⟨fun z => absurd z (nI_ge (a := k) (b := 3) hk (by decide)), fun _ => ?_⟩
    rintro x1 rfl
    rintro x2 rfl
    rintro x3 rfl
    rintro x4 rfl
    rw [nI_1]
    exact h
  refine step 3 0 _ 0 (nI m) (by decide) (step 2 1 _ _ _ (by decide) (step 1 2 _ _ _ (by decide) ?_))
  unfold lp_X7_membersOf_12
  refine ⟨fun _ => ?_, fun z => absurd (by decide) z⟩
  have := mem_dec m hm
  rw [show (stp ((stp ((stp (0, nI m)).1, (stp (0, nI m)).2)).1, (stp ((stp (0, nI m)).1, (stp (0, nI m)).2)).2)).1 = nI (mem3 m) from this]
  exact hp
theorem i11 {s : Nat} (hs : s < 8) (j : Nat) (hj : j < 20) : ((130 + 11 * nI s) + nI j : Int32) = nI (130 + 11 * s + j) := by
  rw [lit_nI 130, lit_nI 11, pk_mul, nI_add, nI_add]
theorem i11' {s : Nat} (hs : s < 8) : (130 + 11 * nI s : Int32) = nI (130 + 11 * s) := by
  rw [lit_nI 130, lit_nI 11, pk_mul, nI_add]
theorem s_hasRow {M N : ST} {q : Nat → Nat} (h9 : P9 M N q) {s r : Nat} (hs : s < 8) (hr : r < 64) (post : Int32 → Prop) (hp : post (if q (130 + 11 * s + 1) ≤ r ∧ r < q (130 + 11 * s + 1) + q (130 + 11 * s + 2) then 1 else 0)) : v_X9_hasRow N (nI s) (nI r) post := by
  obtain ⟨-, ⟨b1, b2, b3⟩, ⟨c1, c2, c3⟩, -⟩ := h9.1 s hs
  unfold v_X9_hasRow
  refine ⟨130 + 11 * s + 1, by omega, i11 hs 1 (by decide), ?_⟩
  rw [b2]
  rintro x rfl
  have e2 : (nI r - nI (q (130 + 11 * s + 1))).toInt = (r : Int) - q (130 + 11 * s + 1) := by rw [fb_subI (by rw [nI_toInt (by omega), nI_toInt (by omega)]; omega) (by rw [nI_toInt (by omega), nI_toInt (by omega)]; omega), nI_toInt (by omega), nI_toInt (by omega)]
  have z0 : (0 : Int32).toInt = 0 := by decide
  refine ⟨fun c => ?_, fun c => ⟨130 + 11 * s + 2, by omega, i11 hs 2 (by decide), ?_⟩⟩
  · have := Int32.lt_iff_toInt_lt.mp c
    rw [e2, z0] at this
    rw [if_neg (by omega)] at hp; exact hp
  · have n1 : ¬ ((r : Int) - q (130 + 11 * s + 1) < 0) := fun z => c (Int32.lt_iff_toInt_lt.mpr (by rw [e2, z0]; exact z))
    rw [c2]
    refine ⟨fun d => ?_, fun d => ?_⟩
    · have := Int32.le_iff_toInt_le.mp d
      rw [e2, nI_toInt (by omega)] at this
      rw [if_neg (by omega)] at hp; exact hp
    · have n2 : ¬ ((q (130 + 11 * s + 2) : Int) ≤ (r : Int) - q (130 + 11 * s + 1)) := fun z => d (Int32.le_iff_toInt_le.mpr (by rw [e2, nI_toInt (by omega)]; exact z))
      rw [if_pos (by omega)] at hp; exact hp
theorem s_sprites {M N : ST} {q : Nat → Nat} (h9 : P9 M N q) {r m : Nat} (hr : r < 64) (hm : ∀ s, s < 8 → m.testBit s = decide (q (130 + 11 * s + 1) ≤ r ∧ r < q (130 + 11 * s + 1) + q (130 + 11 * s + 2))) (post : Int32 → Prop) (hp : post (nI (mem3 m))) : v_X9_spritesOf N (nI r) post := by
  unfold v_X9_spritesOf
  refine ⟨9, ?_⟩
  have go : ∀ (d s : Nat), s + d = 8 → lp_X9_spritesOf_7 N (nI r) post (fun (y_2 : Int32) (y_3 : Int32) (y_4 : Int32) => post y_4) (d + 1) (nI s) (nI (sp3 m s).1) (nI (sp3 m s).2) := by
    intro d
    induction d with
    | zero =>
      intro s hs
      have hs : s = 8 := by omega
      subst hs
      unfold lp_X9_spritesOf_7
      exact ⟨fun _ => hp, fun z => absurd (by decide) z⟩
    | succ d ih =>
      intro s hs
      have i1 := ih (s + 1) (by omega)
      have le := sp3_le m s
      have p8 : 2 ^ s ≤ 2 ^ 8 := Nat.pow_le_pow_right (by decide) (by omega)
      unfold lp_X9_spritesOf_7
      refine ⟨fun z => absurd z (nI_ge (a := s) (b := 8) (by omega) (by decide)), fun _ => s_hasRow h9 (by omega) hr _ ?_⟩
      by_cases c : q (130 + 11 * s + 1) ≤ r ∧ r < q (130 + 11 * s + 1) + q (130 + 11 * s + 2)
      · have tb : m.testBit s = true := by rw [hm s (by omega), decide_eq_true c]
        rw [if_pos c]
        refine ⟨fun z => absurd z one_ne, fun _ => ⟨fun z => ?_, fun z => ?_⟩⟩
        · have n3 : (sp3 m s).1 ≠ 3 := fun w => z (by rw [w]; rfl)
          rintro x1 rfl
          rintro x2 rfl
          rintro x3 rfl
          rw [or_dec s (by omega) _ le.2, nI_1, nI_1]
          have e : sp3 m (s + 1) = ((sp3 m s).1 + 1, (sp3 m s).2 + 2 ^ s) := by
            show (if m.testBit s = true ∧ (sp3 m s).1 ≠ 3 then ((sp3 m s).1 + 1, (sp3 m s).2 + 2 ^ s) else sp3 m s) = _
            rw [if_pos ⟨tb, n3⟩]
          rw [e] at i1
          exact i1
        · have e3 : (sp3 m s).1 = 3 := nI_inj (b := 3) (by omega) (by decide) z
          rintro x1 rfl
          rw [nI_1]
          have e : sp3 m (s + 1) = sp3 m s := by
            show (if m.testBit s = true ∧ (sp3 m s).1 ≠ 3 then ((sp3 m s).1 + 1, (sp3 m s).2 + 2 ^ s) else sp3 m s) = _
            rw [if_neg (fun w => w.2 e3)]
          rw [e] at i1
          exact i1
      · have tb : m.testBit s = false := by rw [hm s (by omega), decide_eq_false c]
        rw [if_neg c]
        refine ⟨fun _ => ?_, fun z => absurd rfl z⟩
        rintro x1 rfl
        rw [nI_1]
        have e : sp3 m (s + 1) = sp3 m s := by
          show (if m.testBit s = true ∧ (sp3 m s).1 ≠ 3 then ((sp3 m s).1 + 1, (sp3 m s).2 + 2 ^ s) else sp3 m s) = _
          rw [if_neg (fun w => by rw [tb] at w; exact absurd w.1 (by decide))]
        rw [e] at i1
        exact i1
  exact go 8 0 (by omega)
/-- the bit of a sprite at a place -/
def pbt (N : ST) (q : Nat → Nat) (a r x s : Nat) : Bool := a.testBit s && (decide (wi (nI x - N 1 (130 + 11 * s)) 0 7 = 1) && decide (((N 1 (130 + 11 * s + 3 + (r - q (130 + 11 * s + 1)))) >>> ((7 - (nI x - N 1 (130 + 11 * s))) &&& 31)) &&& 1 = 1))
def fi (pb : Nat → Bool) : Nat → Option Nat
  | 0 => none
  | j + 1 => if pb (7 - j) = true then some (7 - j) else fi pb j
def oI (v : Int32) (b : Nat) : Option Nat → Int32
  | none => v
  | some s => nI (b + s)
theorem fi_no {pb : Nat → Bool} {y : Nat} (h : ∀ s, y ≤ s → s < 8 → pb s = false) : ∀ j, j + y ≤ 8 → fi pb j = none
  | 0, _ => rfl
  | j + 1, hj => by
    unfold fi
    rw [h (7 - j) (by omega) (by omega), if_neg (by decide)]
    exact fi_no h j (by omega)
theorem fi_lt {pb : Nat → Bool} : ∀ j s, j ≤ 8 → fi pb j = some s → s < 8
  | 0, s, _, h => by cases h
  | j + 1, s, hj, h => by
    unfold fi at h
    split at h
    · cases h; omega
    · exact fi_lt j s (by omega) h
theorem s_showing {M N : ST} {q : Nat → Nat} (h9 : P9 M N q) {r m x : Nat} (hr : r < 64) (hx : x < 64) (e : M 25 r = nI m) (hm8 : m < 256) (hm : ∀ s, s < 8 → m.testBit s = decide (q (130 + 11 * s + 1) ≤ r ∧ r < q (130 + 11 * s + 1) + q (130 + 11 * s + 2))) (post : Int32 → Prop) (hp : post (oI (-1) 0 (fi (pbt N q (mem3 m) r x) 8))) : v_X7_showing (x_sh M 20) (nI x) (nI r) post := by
  unfold v_X7_showing
  refine s_members _ hr (m := m) e hm8 _ ⟨9, ?_⟩
  have go : ∀ (d s : Nat), s + d = 8 → (post (oI (-1) 0 (fi (pbt N q (mem3 m) r x) d))) → lp_X7_showing_9 (x_sh M 20) (nI x) (nI r) (nI (mem3 m)) post (fun (y_3 : Int32) => post (-1)) (d + 1) (nI s) := by
    intro d
    induction d with
    | zero =>
      intro s hs hp
      have hs : s = 8 := by omega
      subst hs
      unfold lp_X7_showing_9
      exact ⟨fun _ => hp, fun z => absurd (by decide) z⟩
    | succ d ih =>
      intro s hs hp
      have es : 7 - d = s := by omega
      obtain ⟨bd1, bd0, bdz⟩ := bit_dec (mem3 m) (mem3_lt m) s (by omega)
      unfold lp_X7_showing_9
      refine ⟨fun z => absurd z (nI_ge (a := s) (b := 8) (by omega) (by decide)), fun _ => ⟨fun z => ?_, fun z => ⟨fun c => ?_, fun c => ?_⟩⟩⟩
      · have lt := bdz.mp z
        have none_ : fi (pbt N q (mem3 m) r x) (d + 1) = none := fi_no (y := s) (fun t h1 h2 => by
          unfold pbt
          rw [Nat.testBit_lt_two_pow (Nat.lt_of_lt_of_le lt (Nat.pow_le_pow_right (by decide) h1)), Bool.false_and]) (d + 1) (by omega)
        rw [none_] at hp
        exact hp
      · have tf : (mem3 m).testBit s = false := by
          cases w : (mem3 m).testBit s
          · rfl
          · exact absurd (bd1.mpr w) c
        rintro x1 rfl
        rw [nI_1]
        refine ih (s + 1) (by omega) ?_
        unfold fi at hp
        rw [es, show pbt N q (mem3 m) r x s = false from by unfold pbt; rw [tf, Bool.false_and], if_neg (by decide)] at hp
        exact hp
      · have tt : (mem3 m).testBit s = true := bd1.mp c
        have tm := sub_dec m hm8 s (by omega) tt
        rw [hm s (by omega)] at tm
        have hrow := of_decide_eq_true tm
        obtain ⟨⟨a1, a2, a3⟩, ⟨b1, b2, b3⟩, ⟨c1, c2, c3⟩, d1⟩ := h9.1 s (by omega)
        unfold v_X7_hasBit
        refine ⟨s, by omega, rfl, ?_⟩
        rintro x2 rfl
        rintro x3 rfl
        rw [show x_sh M 20 1 s = N 1 (130 + 11 * s) from a1, show x_sh M 20 2 s = nI (q (130 + 11 * s + 1)) from b1, pk_sub (show q (130 + 11 * s + 1) ≤ r by omega)]
        simp only [s_within]
        unfold fi at hp
        rw [es] at hp
        have next : pbt N q (mem3 m) r x s = false → ∀ x_12 : Int32, x_12 = nI s + 1 → lp_X7_showing_9 (x_sh M 20) (nI x) (nI r) (nI (mem3 m)) post (fun (y_3 : Int32) => post (-1)) (d + 1) x_12 := by
          intro pf
          rintro x4 rfl
          rw [nI_1]
          refine ih (s + 1) (by omega) ?_
          rw [pf, if_neg (by decide)] at hp
          exact hp
        have w2 : wi (nI (r - q (130 + 11 * s + 1))) 0 7 = 1 := wi_one (lo := 0) (hi := 7) (by decide) _ rfl (by omega) (by omega)
        rcases x_bool_wi (nI x - N 1 (130 + 11 * s)) 0 7 with w | w
        · have pf : pbt N q (mem3 m) r x s = false := by unfold pbt; rw [w]; simp
          rw [w]
          exact ⟨fun _ => ⟨fun _ => next pf, fun z => absurd (by trivial) z⟩, fun z => absurd rfl z⟩
        · rw [w, w2]
          refine ⟨fun z => absurd z one_ne, fun _ => ⟨fun _ => ⟨8 * s + (r - q (130 + 11 * s + 1)), by omega, by rw [lit_nI 8, pk_mul, nI_add, Nat.mul_comm], ?_⟩, fun z => absurd z one_ne⟩⟩
          rw [show x_sh M 20 4 (8 * s + (r - q (130 + 11 * s + 1))) = N 1 (130 + 11 * s + 3 + (r - q (130 + 11 * s + 1))) from d1 _ (by omega)]
          refine ⟨fun z => ?_, fun z => ?_⟩
          · have pf : pbt N q (mem3 m) r x s = false := by unfold pbt; rw [decide_eq_false z]; simp
            exact ⟨fun _ => next pf, fun z => absurd (by trivial) z⟩
          · have pt : pbt N q (mem3 m) r x s = true := by unfold pbt; rw [tt, w, decide_eq_true z]; simp
            rw [pt, if_pos rfl] at hp
            refine ⟨fun z => absurd z one_ne, fun _ => ?_⟩
            rw [show oI (-1) 0 (some s) = nI s from by show nI (0 + s) = nI s; rw [Nat.zero_add]] at hp
            exact hp
  exact go 8 0 (by omega) hp
