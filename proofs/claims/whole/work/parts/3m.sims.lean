/-! ===== fit: both sides ===== -/
def fo (c r x : Nat) : Nat := (c - r * x) + (r * x - c)
theorem fo_int {c y : Nat} (hc : c < 2 ^ 31) (hy : y < 2 ^ 31) : (lN c - lN y).toInt = (c : Int) - y := by
  rw [Int64.toInt_sub, pk_lT (by omega), pk_lT (by omega)]
  exact Int.bmod_eq_of_le (by omega) (by omega)
theorem fo_le {c y : Nat} (hc : c < 2 ^ 31) (hy : y < 2 ^ 31) : (0 : Int64) ≤ lN c - lN y ↔ y ≤ c := by
  rw [Int64.le_iff_toInt_le, fo_int hc hy, show (0 : Int64).toInt = 0 from by decide]
  omega
theorem fo_lt {c y : Nat} (hc : c < 2 ^ 31) (hy : y < 2 ^ 31) : (0 : Int64) < lN c - lN y ↔ y < c := by
  rw [Int64.lt_iff_toInt_lt, fo_int hc hy, show (0 : Int64).toInt = 0 from by decide]
  omega
theorem fo_pos {c r x : Nat} (h : r * x ≤ c) : lN c - lN (r * x) = lN (fo c r x) := by
  rw [lN_sub h]; unfold fo; rw [show r * x - c = 0 by omega, Nat.add_zero]
theorem fo_neg {c r x : Nat} (h : c ≤ r * x) : -(lN c - lN (r * x)) = lN (fo c r x) := by
  rw [Int64.neg_sub, lN_sub h]; unfold fo; rw [show c - r * x = 0 by omega, Nat.zero_add]
theorem fo_abs {c r x : Nat} (hc : c < 2 ^ 31) (hx : r * x < 2 ^ 31) : (if 0 < lN c - lN (r * x) then lN c - lN (r * x) else -(lN c - lN (r * x))) = lN (fo c r x) := by
  by_cases h : r * x < c
  · rw [if_pos ((fo_lt hc hx).mpr h), fo_pos (by omega)]
  · rw [if_neg (fun z => h ((fo_lt hc hx).mp z)), fo_neg (by omega)]
theorem fo_b {c r x : Nat} : fo c r x ≤ c + r * x := by unfold fo; omega
/-- nearer -/
def nr (c r x y : Nat) : Prop := fo c r x * y < fo c r y * x
theorem nr_dec (c r x y : Nat) : nr c r x y ∨ ¬ nr c r x y := Classical.em _
theorem s_near {c r x y : Nat} (hc : c ≤ 1000000) (hr : r ≤ 1000) (hx : x ≤ 40000) (hy : y ≤ 40000) (post : Int32 → Prop) (h1 : nr c r x y → post 1) (h0 : ¬ nr c r x y → post 0) : v_X8_isNearer (nI c) (nI r) (nI x) (nI y) post := by
  have hrx : r * x ≤ 1000 * 40000 := Nat.mul_le_mul hr hx
  have hry : r * y ≤ 1000 * 40000 := Nat.mul_le_mul hr hy
  unfold v_X8_isNearer
  simp only [nI_l (show c < 2 ^ 31 by omega), nI_l (show r < 2 ^ 31 by omega), nI_l (show x < 2 ^ 31 by omega), nI_l (show y < 2 ^ 31 by omega), lN_mul]
  rw [fo_abs (by omega) (by omega), fo_abs (by omega) (by omega)]
  intro x1 e1 x2 e2
  subst e1; subst e2
  have b1 : fo c r x * y ≤ 41000000 * 40000 := Nat.mul_le_mul (by have := @fo_b c r x; omega) hy
  have b2 : fo c r y * x ≤ 41000000 * 40000 := Nat.mul_le_mul (by have := @fo_b c r y; omega) hx
  simp only [lN_mul]
  rw [lg_cmp_ge, pk_lLE (by omega) (by omega)]
  unfold nr at h1 h0
  exact ⟨fun z => h0 (by omega), fun z => h1 (by omega)⟩
def stB (c r h v : Nat) (b : Nat × Nat) : Nat × Nat := if fo c r (h * v) * (b.1 * b.2) < fo c r (b.1 * b.2) * (h * v) then (h, v) else b
def flB (c r h : Nat) : Nat → Nat → Nat × Nat → Nat × Nat
  | 0, _, b => b
  | n + 1, v, b => flB c r h n (v + 1) (stB c r h v b)
theorem flB_app (c r h : Nat) : ∀ (m n v : Nat) (b : Nat × Nat), flB c r h (m + n) v b = flB c r h n (v + m) (flB c r h m v b)
  | 0, n, v, b => by simp [flB]
  | m + 1, n, v, b => by
    rw [show m + 1 + n = (m + n) + 1 by omega]
    show flB c r h (m + n) (v + 1) (stB c r h v b) = flB c r h n (v + (m + 1)) (flB c r h m (v + 1) (stB c r h v b))
    rw [flB_app c r h m n, show v + 1 + m = v + (m + 1) by omega]
def okB (b : Nat × Nat) : Prop := (1 ≤ b.1 ∧ b.1 ≤ 200) ∧ (1 ≤ b.2 ∧ b.2 ≤ 200)
theorem okB.sz {b : Nat × Nat} (h : okB b) : 1 ≤ b.1 * b.2 ∧ b.1 * b.2 ≤ 40000 := ⟨Nat.mul_le_mul h.1.1 h.2.1, Nat.mul_le_mul h.1.2 h.2.2⟩
theorem stB_ok {c r h v : Nat} {b : Nat × Nat} (hb : okB b) (hh : 1 ≤ h ∧ h ≤ 200) (hv : 1 ≤ v ∧ v ≤ 200) : okB (stB c r h v b) := by
  unfold stB; split
  · exact ⟨hh, hv⟩
  · exact hb
theorem flB_ok {c r h : Nat} (hh : 1 ≤ h ∧ h ≤ 200) : ∀ (n v : Nat) (b : Nat × Nat), 1 ≤ v → v + n ≤ 201 → okB b → okB (flB c r h n v b)
  | 0, _, _, _, _, hb => hb
  | n + 1, v, b, h1, h2, hb => flB_ok hh n (v + 1) _ (by omega) (by omega) (stB_ok hb hh ⟨h1, by omega⟩)
/-- a weak order: by what is off, in proportion -/
theorem nr_tr {c r x y z : Nat} (hy : 1 ≤ y) (h1 : fo c r x * y ≤ fo c r y * x) (h2 : fo c r y * z ≤ fo c r z * y) : fo c r x * z ≤ fo c r z * x := by
  have a := Nat.mul_le_mul_right z h1
  have b := Nat.mul_le_mul_right x h2
  have e : y * (fo c r x * z) ≤ y * (fo c r z * x) := by
    calc y * (fo c r x * z) = fo c r x * y * z := by rw [Nat.mul_comm y, Nat.mul_right_comm]
      _ ≤ fo c r y * x * z := a
      _ = fo c r y * z * x := by rw [Nat.mul_right_comm]
      _ ≤ fo c r z * y * x := b
      _ = y * (fo c r z * x) := by rw [Nat.mul_comm y, Nat.mul_right_comm]
  exact Nat.le_of_mul_le_mul_left e (by omega)
/-- below the clock: a larger size is nearer -/
theorem fo_dn {c r x y : Nat} (h : x ≤ y) (hc : r * y ≤ c) : fo c r y * x ≤ fo c r x * y := by
  have hxy : r * x ≤ r * y := Nat.mul_le_mul_left r h
  unfold fo
  rw [show r * y - c = 0 by omega, show r * x - c = 0 by omega, Nat.add_zero, Nat.add_zero, Nat.sub_mul, Nat.sub_mul, show r * y * x = r * x * y by rw [Nat.mul_right_comm]]
  exact Nat.sub_le_sub_right (Nat.mul_le_mul_left c h) _
theorem fo_dn' {c r x y : Nat} (h : x < y) (hr : 1 ≤ r) (hx : 1 ≤ x) (hc : r * y ≤ c) : fo c r y * x < fo c r x * y := by
  have hxy : r * x < r * y := Nat.mul_lt_mul_of_pos_left h hr
  have hcp : c * x < c * y := Nat.mul_lt_mul_of_pos_left h (by omega)
  have hk : r * x * y ≤ c * x := by rw [Nat.mul_right_comm]; exact Nat.mul_le_mul_right x hc
  unfold fo
  rw [show r * y - c = 0 by omega, show r * x - c = 0 by omega, Nat.add_zero, Nat.add_zero, Nat.sub_mul, Nat.sub_mul, show r * y * x = r * x * y by rw [Nat.mul_right_comm]]
  omega
/-- above the clock: a smaller one is -/
theorem fo_up {c r x y : Nat} (h : x ≤ y) (hc : c ≤ r * x) : fo c r x * y ≤ fo c r y * x := by
  have hxy : r * x ≤ r * y := Nat.mul_le_mul_left r h
  have hcp : c * x ≤ c * y := Nat.mul_le_mul_left c h
  unfold fo
  rw [show c - r * y = 0 by omega, show c - r * x = 0 by omega, Nat.zero_add, Nat.zero_add, Nat.sub_mul, Nat.sub_mul, show r * y * x = r * x * y by rw [Nat.mul_right_comm]]
  exact Nat.sub_le_sub_left hcp _
/-- a run that comes nearer and nearer: its last is enough -/
theorem flB_dn {c r h : Nat} (hr : 1 ≤ r) (hh : 1 ≤ h ∧ h ≤ 200) : ∀ (n v : Nat) (b : Nat × Nat), 1 ≤ v → v + n ≤ 200 → okB b → r * (h * (v + n)) ≤ c → flB c r h (n + 1) v b = stB c r h (v + n) b
  | 0, v, b, _, _, _, _ => rfl
  | n + 1, v, b, h1, h2, hb, hc => by
    show flB c r h (n + 1) (v + 1) (stB c r h v b) = _
    rw [flB_dn hr hh n (v + 1) _ (by omega) (by omega) (stB_ok hb hh ⟨h1, by omega⟩) (by rw [show v + 1 + n = v + (n + 1) by omega]; exact hc), show v + 1 + n = v + (n + 1) by omega]
    have hs := hb.sz
    have hv1 : 1 ≤ h * v := Nat.mul_le_mul hh.1 h1
    have hlt : h * v < h * (v + (n + 1)) := Nat.mul_lt_mul_of_pos_left (by omega) hh.1
    have hbt := fo_dn' hlt hr hv1 hc
    generalize hy : h * (v + (n + 1)) = y at hbt hlt hc
    unfold stB
    rw [hy]
    by_cases g : fo c r (h * v) * (b.1 * b.2) < fo c r (b.1 * b.2) * (h * v)
    · rw [if_pos g]
      show (if fo c r y * (h * v) < fo c r (h * v) * y then _ else (h, v)) = _
      rw [if_pos hbt]
      have : fo c r y * (b.1 * b.2) < fo c r (b.1 * b.2) * y := by
        rcases Nat.lt_or_ge (fo c r y * (b.1 * b.2)) (fo c r (b.1 * b.2) * y) with z | z
        · exact z
        · exact absurd (nr_tr (x := b.1 * b.2) (y := y) (z := h * v) (by omega) z (by omega)) (by omega)
      rw [if_pos this]
    · rw [if_neg g]
/-- a run that goes away: its first is enough -/
theorem stB_no {c r h v : Nat} {b : Nat × Nat} (hz : fo c r (b.1 * b.2) * (h * v) ≤ fo c r (h * v) * (b.1 * b.2)) : stB c r h v b = b := by
  unfold stB; rw [if_neg (by omega)]
theorem flB_no {c r h : Nat} : ∀ (n v : Nat) (b : Nat × Nat), (∀ k, v ≤ k → k < v + n → fo c r (b.1 * b.2) * (h * k) ≤ fo c r (h * k) * (b.1 * b.2)) → flB c r h n v b = b
  | 0, _, _, _ => rfl
  | n + 1, v, b, hz => by
    show flB c r h n (v + 1) (stB c r h v b) = b
    rw [stB_no (hz v (by omega) (by omega))]
    exact flB_no n (v + 1) b (fun k h1 h2 => hz k (by omega) (by omega))
theorem flB_up {c r h : Nat} (hh : 1 ≤ h ∧ h ≤ 200) (n v : Nat) (b : Nat × Nat) (h1 : 1 ≤ v) (hb : okB b) (hc : c ≤ r * (h * v)) : flB c r h (n + 1) v b = stB c r h v b := by
  show flB c r h n (v + 1) (stB c r h v b) = _
  refine flB_no n (v + 1) _ (fun k k1 k2 => ?_)
  have hv1 : 1 ≤ h * v := Nat.mul_le_mul hh.1 h1
  have hu := fo_up (c := c) (r := r) (Nat.mul_le_mul_left h (show v ≤ k by omega)) hc
  unfold stB
  by_cases g : fo c r (h * v) * (b.1 * b.2) < fo c r (b.1 * b.2) * (h * v)
  · rw [if_pos g]; exact hu
  · rw [if_neg g]
    exact nr_tr hv1 (by omega) hu
theorem flB_cand {c r h fV tV : Nat} (b : Nat × Nat) (hr : 1 ≤ r) (hh : 1 ≤ h ∧ h ≤ 200) (h1 : 1 ≤ fV) (h2 : fV ≤ tV) (h3 : tV ≤ 200) (hb : okB b) (bl : Nat) (e : bl = c / (r * h)) : flB c r h (max fV (min (bl + 1) tV) + 1 - max fV (min bl tV)) (max fV (min bl tV)) b = flB c r h (tV + 1 - fV) fV b := by
  have hp : 0 < r * h := Nat.mul_pos hr hh.1
  have hlo : r * h * bl ≤ c := by rw [e]; exact Nat.mul_div_le c (r * h)
  have hhi : c < r * h * (bl + 1) := by rw [e]; exact Nat.lt_mul_div_succ c hp
  rcases Nat.lt_or_ge bl fV with g | g
  · rw [show max fV (min (bl + 1) tV) = fV by omega, show max fV (min bl tV) = fV by omega, show fV + 1 - fV = 0 + 1 by omega, show tV + 1 - fV = (tV - fV) + 1 by omega]
    have hm : r * h * (bl + 1) ≤ r * h * fV := Nat.mul_le_mul_left _ g
    rw [flB_up hh (tV - fV) fV b h1 hb (by rw [← Nat.mul_assoc]; omega)]
    rfl
  · rcases Nat.lt_or_ge bl tV with g2 | g2
    · rw [show max fV (min (bl + 1) tV) = bl + 1 by omega, show max fV (min bl tV) = bl by omega, show bl + 1 + 1 - bl = 2 by omega, show tV + 1 - fV = ((bl - fV) + 1) + (tV - bl - 1 + 1) by omega, flB_app, flB_dn hr hh (bl - fV) fV b h1 (by omega) hb (by rw [show fV + (bl - fV) = bl by omega, ← Nat.mul_assoc]; exact hlo), show fV + (bl - fV) = bl by omega, show fV + (bl - fV + 1) = bl + 1 by omega, flB_up hh (tV - bl - 1) (bl + 1) _ (by omega) (stB_ok hb hh ⟨by omega, by omega⟩) (by rw [← Nat.mul_assoc]; omega)]
      rfl
    · have hm : r * h * tV ≤ r * h * bl := Nat.mul_le_mul_left _ g2
      rw [show max fV (min (bl + 1) tV) = tV by omega, show max fV (min bl tV) = tV by omega, show tV + 1 - tV = 0 + 1 by omega, show tV + 1 - fV = (tV - fV) + 1 by omega, flB_dn hr hh (tV - fV) fV b h1 (by omega) hb (by rw [show fV + (tV - fV) = tV by omega, ← Nat.mul_assoc]; omega), show fV + (tV - fV) = tV by omega]
      rfl
def otB (c r fV tV : Nat) : Nat → Nat → Nat × Nat → Nat × Nat
  | 0, _, b => b
  | n + 1, h, b => otB c r fV tV n (h + 1) (flB c r h (tV + 1 - fV) fV b)
theorem otB_ok {c r fV tV : Nat} (h1 : 1 ≤ fV) (h2 : fV ≤ tV) (h3 : tV ≤ 200) : ∀ (n h : Nat) (b : Nat × Nat), 1 ≤ h → h + n ≤ 201 → okB b → okB (otB c r fV tV n h b)
  | 0, _, _, _, _, hb => hb
  | n + 1, h, b, a1, a2, hb => otB_ok h1 h2 h3 n (h + 1) _ (by omega) (by omega) (flB_ok ⟨a1, by omega⟩ _ _ _ h1 (by omega) hb)
/-! the class's loops -/
theorem fc_in {c r h lV : Nat} (hc : c ≤ 1000000) (hr : r ≤ 1000) (hh : 1 ≤ h ∧ h ≤ 200) (hl : lV ≤ 200) (post : Int32 → Prop) (K : Int32 → Int32 → Int32 → Prop) : ∀ (n v : Nat) (b : Nat × Nat), v + n = lV + 1 → 1 ≤ v → okB b → K (nI (lV + 1)) (nI (flB c r h n v b).2) (nI (flB c r h n v b).1) → lp_X8_fit_101 (nI c) (nI r) (nI h) (nI lV) post K (n + 1) (nI v) (nI b.2) (nI b.1) := by
  intro n
  induction n with
  | zero =>
    intro v b hv _ _ hK
    unfold lp_X8_fit_101
    rw [show v = lV + 1 by omega]
    exact ⟨fun _ => hK, fun z => absurd (nI_lt (by omega) (by omega)) z⟩
  | succ n ih =>
    intro v b hv h1 hb hK
    have hs := hb.sz
    have hsz : h * v ≤ 200 * 200 := Nat.mul_le_mul hh.2 (by omega)
    unfold lp_X8_fit_101
    rw [pk_mul, pk_mul, nI_1]
    refine ⟨fun z => absurd z (nI_nlt (by omega) (by omega)), fun _ => ?_⟩
    refine s_near hc hr (by omega) (by omega) _ (fun g => ⟨fun z => absurd z one_ne, fun _ x e => ?_⟩) (fun g => ⟨fun _ x e => ?_, fun z => absurd rfl z⟩)
    · subst e
      unfold nr at g
      have es : stB c r h v b = (h, v) := if_pos g
      have := ih (v + 1) (h, v) (by omega) (by omega) ⟨hh, ⟨h1, by omega⟩⟩
      rw [show flB c r h (n + 1) v b = flB c r h n (v + 1) (stB c r h v b) from rfl, es] at hK
      exact this hK
    · subst e
      unfold nr at g
      have es : stB c r h v b = b := if_neg g
      rw [show flB c r h (n + 1) v b = flB c r h n (v + 1) (stB c r h v b) from rfl, es] at hK
      exact ih (v + 1) b (by omega) (by omega) hb hK
theorem mx_if {a b : Nat} (ha : a < 2 ^ 31) (hb : b < 2 ^ 31) : (if nI a < nI b then nI b else nI a) = nI (max a b) := by
  by_cases c : a < b
  · rw [if_pos (nI_lt c hb), Nat.max_eq_right (by omega)]
  · rw [if_neg (nI_nlt (by omega) ha), Nat.max_eq_left (by omega)]
theorem fc_out {c r fV tV tH : Nat} (hc : c ≤ 1000000) (hr0 : 1 ≤ r) (hr : r ≤ 1000) (h1 : 1 ≤ fV) (h2 : fV ≤ tV) (h3 : tV ≤ 200) (hH : tH ≤ 200) (post : Int32 → Prop) (K : Int32 → Int32 → Int32 → Prop) : ∀ (n h : Nat) (b : Nat × Nat), h + n = tH + 1 → 1 ≤ h → okB b → K (nI (tH + 1)) (nI (otB c r fV tV n h b).2) (nI (otB c r fV tV n h b).1) → lp_X8_fit_52 (nI c) (nI r) (nI tH) (nI fV) (nI tV) post K (n + 1) (nI h) (nI b.2) (nI b.1) := by
  intro n
  induction n with
  | zero =>
    intro h b hv _ _ hK
    unfold lp_X8_fit_52
    rw [show h = tH + 1 by omega]
    exact ⟨fun _ => hK, fun z => absurd (nI_lt (by omega) (by omega)) z⟩
  | succ n ih =>
    intro h b hv hh hb hK
    have hrh : r * h ≤ 1000 * 200 := Nat.mul_le_mul hr (by omega)
    have hrp : 1 ≤ r * h := Nat.mul_le_mul hr0 hh
    have hd : c / (r * h) ≤ c := Nat.div_le_self _ _
    unfold lp_X8_fit_52
    rw [pk_mul, pk_div (by omega) (by omega) (by omega)]
    refine ⟨fun z => absurd z (nI_nlt (by omega) (by omega)), fun _ => ⟨nI_ne0 (by omega) (by omega), fun x19 e19 x20 e20 x21 e21 => ?_⟩⟩
    subst e19
    rw [mn_if (by omega) (by omega), mx_if (by omega) (by omega)] at e20
    rw [nI_1, mn_if (by omega) (by omega), mx_if (by omega) (by omega)] at e21
    subst e20; subst e21
    have hcand := flB_cand (c := c) (r := r) (h := h) (fV := fV) (tV := tV) b hr0 ⟨hh, by omega⟩ h1 h2 h3 hb (c / (r * h)) rfl
    generalize hbl : c / (r * h) = bl at hcand ⊢
    refine ⟨max fV (min (bl + 1) tV) + 1 - max fV (min bl tV) + 1, fc_in hc hr ⟨hh, by omega⟩ (by omega) post _ _ _ b (by omega) (by omega) hb (fun x e => ?_)⟩
    subst e
    rw [nI_1, hcand]
    exact ih (h + 1) _ (by omega) (by omega) (flB_ok ⟨hh, by omega⟩ _ _ _ h1 (by omega) hb) hK
/-! the model's -/
theorem fm_in {c r h tV : Nat} (hc : c ≤ 1000000) (hr : r ≤ 1000) (hh : 1 ≤ h ∧ h ≤ 200) (hl : tV ≤ 200) (post : Int32 → Prop) (K : Int32 → Int64 → Int64 → Int32 → Prop) : ∀ (n v : Nat) (b : Nat × Nat), v + n = tV + 1 → 1 ≤ v → okB b → (∀ b', b' = flB c r h n v b → K (nI (tV + 1)) (lN (b'.1 * b'.2)) (lN (fo c r (b'.1 * b'.2))) (nI (1000 * b'.1 + b'.2))) → lp_X9_fit_94 (nI c) (nI r) (nI tV) (nI h) post K (n + 1) (nI v) (lN (b.1 * b.2)) (lN (fo c r (b.1 * b.2))) (nI (1000 * b.1 + b.2)) := by
  intro n
  induction n with
  | zero =>
    intro v b hv _ _ hK
    unfold lp_X9_fit_94
    rw [show v = tV + 1 by omega]
    exact ⟨fun _ => hK b rfl, fun z => absurd (nI_lt (by omega) (by omega)) z⟩
  | succ n ih =>
    intro v b hv h1 hb hK
    have hs := hb.sz
    have hsz : h * v ≤ 200 * 200 := Nat.mul_le_mul hh.2 (by omega)
    have hrx : r * (h * v) ≤ 1000 * 40000 := Nat.mul_le_mul hr (by omega)
    have hry : r * (b.1 * b.2) ≤ 1000 * 40000 := Nat.mul_le_mul hr hs.2
    have b1 : fo c r (h * v) * (b.1 * b.2) ≤ 41000000 * 40000 := Nat.mul_le_mul (by have := @fo_b c r (h * v); omega) hs.2
    have b2 : fo c r (b.1 * b.2) * (h * v) ≤ 41000000 * 40000 := Nat.mul_le_mul (by have := @fo_b c r (b.1 * b.2); omega) (by omega)
    have hbn : ¬ nI (1000 * b.1 + b.2) < 0 := nI_pos (by have := hb.1.2; have := hb.2.2; omega)
    have key : ∀ d : Int64, d = lN (fo c r (h * v)) → ((nI (1000 * b.1 + b.2) < 0 → ∀ x_39 : Int32, x_39 = 1000 * nI h + nI v → ∀ x_40 : Int64, x_40 = Int32.toInt64 (nI h * nI v) → ∀ x_41 : Int32, x_41 = nI v + 1 → lp_X9_fit_94 (nI c) (nI r) (nI tV) (nI h) post K (n + 1) x_41 x_40 d x_39) ∧ (¬ (nI (1000 * b.1 + b.2) < 0) → ((lg_cmp (d * lN (b.1 * b.2)) (lN (fo c r (b.1 * b.2)) * Int32.toInt64 (nI h) * Int32.toInt64 (nI v)) < 0 → ∀ x_43 : Int32, x_43 = 1000 * nI h + nI v → ∀ x_44 : Int64, x_44 = Int32.toInt64 (nI h * nI v) → ∀ x_45 : Int32, x_45 = nI v + 1 → lp_X9_fit_94 (nI c) (nI r) (nI tV) (nI h) post K (n + 1) x_45 x_44 d x_43) ∧ (¬ (lg_cmp (d * lN (b.1 * b.2)) (lN (fo c r (b.1 * b.2)) * Int32.toInt64 (nI h) * Int32.toInt64 (nI v)) < 0) → ∀ x_46 : Int32, x_46 = nI v + 1 → lp_X9_fit_94 (nI c) (nI r) (nI tV) (nI h) post K (n + 1) x_46 (lN (b.1 * b.2)) (lN (fo c r (b.1 * b.2))) (nI (1000 * b.1 + b.2)))))) := by
      intro d hd
      subst hd
      refine ⟨fun z => absurd z hbn, fun _ => ?_⟩
      rw [nI_l (show h < 2 ^ 31 by omega), nI_l (show v < 2 ^ 31 by omega), pk_mul, nI_l (show h * v < 2 ^ 31 by omega), lN_mul, lN_mul, lN_mul, lg_cmp_lt, Nat.mul_assoc (fo c r (b.1 * b.2)) h v, pk_lLT (by omega) (by omega), nI_1, show (1000 : Int32) = nI 1000 from rfl, pk_mul, nI_add]
      refine ⟨fun z x e x' e' x'' e'' => ?_, fun z x e => ?_⟩
      · subst e; subst e'; subst e''
        have es : stB c r h v b = (h, v) := if_pos z
        refine ih (v + 1) (h, v) (by omega) (by omega) ⟨hh, ⟨h1, by omega⟩⟩ (fun b' hb' => hK b' ?_)
        rw [hb', show flB c r h (n + 1) v b = flB c r h n (v + 1) (stB c r h v b) from rfl, es]
      · subst e
        have es : stB c r h v b = b := if_neg z
        refine ih (v + 1) b (by omega) (by omega) hb (fun b' hb' => hK b' ?_)
        rw [hb', show flB c r h (n + 1) v b = flB c r h n (v + 1) (stB c r h v b) from rfl, es]
    rw [lp_X9_fit_94]
    refine ⟨fun z => absurd z (nI_nlt (by omega) (by omega)), fun _ x e => ?_⟩
    rw [nI_l (show c < 2 ^ 31 by omega), nI_l (show r < 2 ^ 31 by omega), nI_l (show h < 2 ^ 31 by omega), nI_l (show v < 2 ^ 31 by omega), lN_mul, lN_mul, Nat.mul_assoc] at e
    subst e
    rw [lg_cmp_ge]
    refine ⟨fun z => key _ (fo_pos ((fo_le (by omega) (by omega)).mp z)), fun z => key _ (fo_neg ?_)⟩
    rcases Nat.lt_or_ge (r * (h * v)) c with g | g
    · exact absurd ((fo_le (by omega) (by omega)).mpr (by omega)) z
    · exact g
theorem fm_out {c r fV tV tH : Nat} (hc : c ≤ 1000000) (hr : r ≤ 1000) (h1 : 1 ≤ fV) (h2 : fV ≤ tV) (h3 : tV ≤ 200) (hH : tH ≤ 200) (post : Int32 → Prop) (K : Int32 → Int64 → Int64 → Int32 → Prop) : ∀ (n h : Nat) (b : Nat × Nat), h + n = tH + 1 → 1 ≤ h → okB b → (∀ b', b' = otB c r fV tV n h b → K (nI (tH + 1)) (lN (b'.1 * b'.2)) (lN (fo c r (b'.1 * b'.2))) (nI (1000 * b'.1 + b'.2))) → lp_X9_fit_83 (nI c) (nI r) (nI tH) (nI fV) (nI tV) post K (n + 1) (nI h) (lN (b.1 * b.2)) (lN (fo c r (b.1 * b.2))) (nI (1000 * b.1 + b.2)) := by
  intro n
  induction n with
  | zero =>
    intro h b hv _ _ hK
    unfold lp_X9_fit_83
    rw [show h = tH + 1 by omega]
    exact ⟨fun _ => hK b rfl, fun z => absurd (nI_lt (by omega) (by omega)) z⟩
  | succ n ih =>
    intro h b hv hh hb hK
    unfold lp_X9_fit_83
    refine ⟨fun z => absurd z (nI_nlt (by omega) (by omega)), fun _ => ⟨tV + 1 - fV + 1, fm_in hc hr ⟨hh, by omega⟩ h3 post _ _ _ b (by omega) h1 hb (fun b' hb' x e => ?_)⟩⟩
    subst e
    rw [nI_1]
    have hok := flB_ok (c := c) (r := r) (h := h) ⟨hh, by omega⟩ (tV + 1 - fV) fV b h1 (by omega) hb
    rw [← hb'] at hok
    refine ih (h + 1) b' (by omega) (by omega) hok (fun b2 hb2 => hK b2 ?_)
    rw [hb2, hb']
    rfl
/-- the first pair that the model sees -/
theorem fm_first {c r h tV fV : Nat} (hc : c ≤ 1000000) (hr : r ≤ 1000) (hh : 1 ≤ h ∧ h ≤ 200) (h1 : 1 ≤ fV) (h2 : fV ≤ tV) (h3 : tV ≤ 200) (post : Int32 → Prop) (K : Int32 → Int64 → Int64 → Int32 → Prop) (hK : ∀ b', b' = flB c r h (tV + 1 - fV) fV (h, fV) → K (nI (tV + 1)) (lN (b'.1 * b'.2)) (lN (fo c r (b'.1 * b'.2))) (nI (1000 * b'.1 + b'.2))) : lp_X9_fit_94 (nI c) (nI r) (nI tV) (nI h) post K (tV - fV + 1 + 1) (nI fV) 1 0 (-1) := by
  have hsz : h * fV ≤ 200 * 200 := Nat.mul_le_mul hh.2 (by omega)
  have hrx : r * (h * fV) ≤ 1000 * 40000 := Nat.mul_le_mul hr (by omega)
  have hself : stB c r h fV (h, fV) = (h, fV) := by unfold stB; split <;> rfl
  have hfl : flB c r h (tV + 1 - fV) fV (h, fV) = flB c r h (tV - fV) (fV + 1) (h, fV) := by
    rw [show tV + 1 - fV = (tV - fV) + 1 by omega]
    show flB c r h (tV - fV) (fV + 1) (stB c r h fV (h, fV)) = _
    rw [hself]
  rw [hfl] at hK
  have go := fm_in hc hr hh h3 post K (tV - fV) (fV + 1) (h, fV) (by omega) (by omega) ⟨hh, ⟨h1, by omega⟩⟩ hK
  rw [lp_X9_fit_94]
  refine ⟨fun z => absurd z (nI_nlt (by omega) (by omega)), fun _ x e => ?_⟩
  rw [nI_l (show c < 2 ^ 31 by omega), nI_l (show r < 2 ^ 31 by omega), nI_l (show h < 2 ^ 31 by omega), nI_l (show fV < 2 ^ 31 by omega), lN_mul, lN_mul, Nat.mul_assoc] at e
  subst e
  rw [lg_cmp_ge, pk_mul, nI_l (show h * fV < 2 ^ 31 by omega), show (1000 : Int32) = nI 1000 from rfl, pk_mul, nI_add, nI_1]
  refine ⟨fun z => ⟨fun _ x e x' e' x'' e'' => ?_, fun z2 => absurd (by decide) z2⟩, fun z => ⟨fun _ x e x' e' x'' e'' => ?_, fun z2 => absurd (by decide) z2⟩⟩
  · subst e; subst e'; subst e''
    rw [fo_pos ((fo_le (by omega) (by omega)).mp z)]
    exact go
  · subst e; subst e'; subst e''
    have g : c ≤ r * (h * fV) := by
      rcases Nat.lt_or_ge (r * (h * fV)) c with g | g
      · exact absurd ((fo_le (by omega) (by omega)).mpr (by omega)) z
      · exact g
    rw [fo_neg g]
    exact go
theorem s_fitb (p q : Int32) (post : Int32 → Prop) : v_X8_areFitBounds p q post ↔ post (if wi p 1 200 = 0 then 0 else if wi q p 200 = 0 then 0 else 1) := by
  unfold v_X8_areFitBounds
  simp only [s_within]
  by_cases h : wi p 1 200 = 0
  · simp [h]
  · by_cases h2 : wi q p 200 = 0 <;> simp [h, h2]
theorem m_fit {MB N : ST} (p1 p2 p3 p4 p5 p6 : Int32) : StepR (v_X8_fit MB p1 p2 p3 p4 p5 p6) (v_X9_fit N p1 p2 p3 p4 p5 p6) := by
  rcases wi_cases p1 1 1000000 (by decide) (by decide) with ⟨hw1, -⟩ | ⟨hw1, c, rfl, c1, c2⟩
  · have hw1 : wi p1 1 1000000 = 0 := hw1
    exact ⟨-1, fun post hp => by unfold v_X8_fit; simp only [s_within, s_fitb]; exact ⟨fun _ => hp, fun z => absurd hw1 z⟩, fun post hp => by unfold v_X9_fit; simp only [s_isIn]; exact ⟨fun _ => hp, fun z => absurd hw1 z⟩⟩
  have hw1 : ¬ wi (nI c) 1 1000000 = 0 := fun z => one_ne (hw1.symm.trans z)
  rcases wi_cases p2 1 1000 (by decide) (by decide) with ⟨hw2, -⟩ | ⟨hw2, r, rfl, r1, r2⟩
  · have hw2 : wi p2 1 1000 = 0 := hw2
    exact ⟨-1, fun post hp => by unfold v_X8_fit; simp only [s_within, s_fitb]; exact ⟨fun z => absurd z hw1, fun _ => ⟨fun _ => hp, fun z => absurd hw2 z⟩⟩, fun post hp => by unfold v_X9_fit; simp only [s_isIn]; exact ⟨fun z => absurd z hw1, fun _ => ⟨fun _ => hp, fun z => absurd hw2 z⟩⟩⟩
  have hw2 : ¬ wi (nI r) 1 1000 = 0 := fun z => one_ne (hw2.symm.trans z)
  rcases wi_cases p3 1 200 (by decide) (by decide) with ⟨hw3, -⟩ | ⟨hw3, fH, rfl, a1, a2⟩
  · have hw3 : wi p3 1 200 = 0 := hw3
    exact ⟨-1, fun post hp => by unfold v_X8_fit; simp only [s_within, s_fitb]; exact ⟨fun z => absurd z hw1, fun _ => ⟨fun z => absurd z hw2, fun _ => ⟨fun _ => hp, fun z => absurd (if_pos hw3) z⟩⟩⟩, fun post hp => by unfold v_X9_fit; simp only [s_isIn]; exact ⟨fun z => absurd z hw1, fun _ => ⟨fun z => absurd z hw2, fun _ => ⟨fun _ => hp, fun z => absurd hw3 z⟩⟩⟩⟩
  have hw3 : ¬ wi (nI fH) 1 200 = 0 := fun z => one_ne (hw3.symm.trans z)
  rcases wi_cases p4 fH 200 (by decide) (by omega) with ⟨hw4, -⟩ | ⟨hw4, tH, rfl, b1, b2⟩
  · have hw4 : wi p4 (nI fH) 200 = 0 := hw4
    exact ⟨-1, fun post hp => by unfold v_X8_fit; simp only [s_within, s_fitb]; exact ⟨fun z => absurd z hw1, fun _ => ⟨fun z => absurd z hw2, fun _ => ⟨fun _ => hp, fun z => absurd ((if_neg hw3).trans (if_pos hw4)) z⟩⟩⟩, fun post hp => by unfold v_X9_fit; simp only [s_isIn]; exact ⟨fun z => absurd z hw1, fun _ => ⟨fun z => absurd z hw2, fun _ => ⟨fun z => absurd z hw3, fun _ => ⟨fun _ => hp, fun z => absurd hw4 z⟩⟩⟩⟩⟩
  have hw4 : ¬ wi (nI tH) (nI fH) 200 = 0 := fun z => one_ne (hw4.symm.trans z)
  have hA : ¬ (if wi (nI fH) 1 200 = 0 then (0 : Int32) else if wi (nI tH) (nI fH) 200 = 0 then 0 else 1) = 0 := by rw [if_neg hw3, if_neg hw4]; decide
  rcases wi_cases p5 1 200 (by decide) (by decide) with ⟨hw5, -⟩ | ⟨hw5, fV, rfl, d1, d2⟩
  · have hw5 : wi p5 1 200 = 0 := hw5
    exact ⟨-1, fun post hp => by unfold v_X8_fit; simp only [s_within, s_fitb]; exact ⟨fun z => absurd z hw1, fun _ => ⟨fun z => absurd z hw2, fun _ => ⟨fun z => absurd z hA, fun _ => ⟨fun z => absurd (if_pos hw5) z, fun _ => hp⟩⟩⟩⟩, fun post hp => by unfold v_X9_fit; simp only [s_isIn]; exact ⟨fun z => absurd z hw1, fun _ => ⟨fun z => absurd z hw2, fun _ => ⟨fun z => absurd z hw3, fun _ => ⟨fun z => absurd z hw4, fun _ => ⟨fun _ => hp, fun z => absurd hw5 z⟩⟩⟩⟩⟩⟩
  have hw5 : ¬ wi (nI fV) 1 200 = 0 := fun z => one_ne (hw5.symm.trans z)
  rcases wi_cases p6 fV 200 (by decide) (by omega) with ⟨hw6, -⟩ | ⟨hw6, tV, rfl, e1, e2⟩
  · have hw6 : wi p6 (nI fV) 200 = 0 := hw6
    exact ⟨-1, fun post hp => by unfold v_X8_fit; simp only [s_within, s_fitb]; exact ⟨fun z => absurd z hw1, fun _ => ⟨fun z => absurd z hw2, fun _ => ⟨fun z => absurd z hA, fun _ => ⟨fun z => absurd ((if_neg hw5).trans (if_pos hw6)) z, fun _ => hp⟩⟩⟩⟩, fun post hp => by unfold v_X9_fit; simp only [s_isIn]; exact ⟨fun z => absurd z hw1, fun _ => ⟨fun z => absurd z hw2, fun _ => ⟨fun z => absurd z hw3, fun _ => ⟨fun z => absurd z hw4, fun _ => ⟨fun z => absurd z hw5, fun _ => ⟨fun z => absurd hw6 z, fun _ => hp⟩⟩⟩⟩⟩⟩⟩
  have hw6 : ¬ wi (nI tV) (nI fV) 200 = 0 := fun z => one_ne (hw6.symm.trans z)
  have hB : ¬ (if wi (nI fV) 1 200 = 0 then (0 : Int32) else if wi (nI tV) (nI fV) 200 = 0 then 0 else 1) = 0 := by rw [if_neg hw5, if_neg hw6]; decide
  have hok : okB (fH, fV) := ⟨⟨a1, a2⟩, ⟨d1, d2⟩⟩
  refine ⟨nI (1000 * (otB c r fV tV (tH + 1 - fH) fH (fH, fV)).1 + (otB c r fV tV (tH + 1 - fH) fH (fH, fV)).2), fun post hp => ?_, fun post hp => ?_⟩
  · unfold v_X8_fit; simp only [s_within, s_fitb]
    refine ⟨fun z => absurd z hw1, fun _ => ⟨fun z => absurd z hw2, fun _ => ⟨fun z => absurd z hA, fun _ => ⟨fun _ => ⟨tH + 1 - fH + 1, ?_⟩, fun z => absurd z hB⟩⟩⟩⟩
    refine fc_out c2 r1 r2 d1 e1 e2 b2 post _ (tH + 1 - fH) fH (fH, fV) (by omega) a1 hok ?_
    rw [show (1000 : Int32) = nI 1000 from rfl, pk_mul, nI_add, Nat.mul_comm]
    exact hp
  · unfold v_X9_fit; simp only [s_isIn]
    refine ⟨fun z => absurd z hw1, fun _ => ⟨fun z => absurd z hw2, fun _ => ⟨fun z => absurd z hw3, fun _ => ⟨fun z => absurd z hw4, fun _ => ⟨fun z => absurd z hw5, fun _ => ⟨fun _ => ⟨tH + 1 - fH + 1, ?_⟩, fun z => absurd z hw6⟩⟩⟩⟩⟩⟩
    rw [show tH + 1 - fH + 1 = (tH - fH) + 1 + 1 by omega, lp_X9_fit_83]
    refine ⟨fun z => absurd z (nI_nlt (by omega) (by omega)), fun _ => ⟨tV - fV + 1 + 1, fm_first c2 r2 ⟨a1, a2⟩ d1 e1 e2 post _ (fun b' hb' x e => ?_)⟩⟩
    subst e
    rw [nI_1]
    have hk := flB_ok (c := c) (r := r) (h := fH) ⟨a1, a2⟩ (tV + 1 - fV) fV (fH, fV) d1 (by omega) hok
    rw [← hb'] at hk
    refine fm_out c2 r2 d1 e1 e2 b2 post _ (tH - fH) (fH + 1) b' (by omega) (by omega) hk (fun b2 hb2 => ?_)
    rw [show tH + 1 - fH = (tH - fH) + 1 by omega] at hp
    have : otB c r fV tV (tH - fH + 1) fH (fH, fV) = b2 := by rw [hb2, hb']; rfl
    rw [this] at hp
    exact hp
