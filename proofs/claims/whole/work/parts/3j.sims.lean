/-! ===== the worst pattern: counting ===== -/
def nT (p : Nat → Bool) : Nat → Nat
  | 0 => 0
  | n + 1 => nT p n + (if p n then 1 else 0)
theorem nT_succ (p : Nat → Bool) (n : Nat) : nT p (n + 1) = nT p n + (if p n then 1 else 0) := rfl
theorem nT_up (p : Nat → Bool) (m : Nat) : ∀ n, nT p m ≤ nT p (m + n) ∧ nT p (m + n) ≤ nT p m + n
  | 0 => ⟨Nat.le_refl _, Nat.le_refl _⟩
  | n + 1 => by
    have := nT_up p m n
    rw [← Nat.add_assoc, nT_succ]
    split <;> omega
theorem nT_mono (p : Nat → Bool) {m n : Nat} (h : m ≤ n) : nT p m ≤ nT p n := by
  have := (nT_up p m (n - m)).1
  rwa [show m + (n - m) = n by omega] at this
theorem nT_cong {p q : Nat → Bool} : ∀ {n : Nat}, (∀ k, k < n → p k = q k) → nT p n = nT q n
  | 0, _ => rfl
  | n + 1, h => by rw [nT_succ, nT_succ, nT_cong (fun k hk => h k (by omega)), h n (by omega)]
def cC (B t : Nat) : Nat := (t - B + 7) / 8
def cap (d L B u : Nat) : Nat := min (d + cC B u) L
def fF (tk : Nat → Bool) (d L B : Nat) : Nat → Nat
  | 0 => 0
  | t + 1 => if tk t = false ∧ fF tk d L B t < d + cC B t ∧ fF tk d L B t < L then fF tk d L B t + 1 else fF tk d L B t
def aA (tk : Nat → Bool) (d L B : Nat) : Nat → Nat
  | 0 => 9
  | t + 1 => if B ≤ t ∧ (t - B) % 8 = 0 then min (aA tk d L B t) (fF tk d L B (t + 1) - cC B t) else aA tk d L B t
theorem cC_mono {B s t : Nat} (h : s ≤ t) : cC B s ≤ cC B t := by unfold cC; omega
theorem cap_mono {d L B s t : Nat} (h : s ≤ t) : cap d L B s ≤ cap d L B t := by
  have := cC_mono (B := B) h
  unfold cap; omega
theorem fF_step (tk : Nat → Bool) (d L B t : Nat) : (tk t = true ∧ fF tk d L B (t + 1) = fF tk d L B t) ∨ (tk t = false ∧ fF tk d L B t < cap d L B t ∧ fF tk d L B (t + 1) = fF tk d L B t + 1) ∨ (tk t = false ∧ cap d L B t ≤ fF tk d L B t ∧ fF tk d L B (t + 1) = fF tk d L B t) := by
  show (tk t = true ∧ (if tk t = false ∧ fF tk d L B t < d + cC B t ∧ fF tk d L B t < L then fF tk d L B t + 1 else fF tk d L B t) = _) ∨ (_ ∧ _ ∧ (if tk t = false ∧ fF tk d L B t < d + cC B t ∧ fF tk d L B t < L then fF tk d L B t + 1 else fF tk d L B t) = _) ∨ (_ ∧ _ ∧ (if tk t = false ∧ fF tk d L B t < d + cC B t ∧ fF tk d L B t < L then fF tk d L B t + 1 else fF tk d L B t) = _)
  unfold cap
  cases e : tk t with
  | true => exact Or.inl ⟨rfl, if_neg (fun z => absurd z.1 (by decide))⟩
  | false =>
    by_cases c : fF tk d L B t < d + cC B t ∧ fF tk d L B t < L
    · exact Or.inr (Or.inl ⟨rfl, by omega, if_pos ⟨rfl, c.1, c.2⟩⟩)
    · exact Or.inr (Or.inr ⟨rfl, by omega, if_neg (fun z => c z.2)⟩)
theorem fF_mono (tk : Nat → Bool) (d L B t : Nat) : fF tk d L B t ≤ fF tk d L B (t + 1) := by
  rcases fF_step tk d L B t with ⟨-, a⟩ | ⟨-, a', a⟩ | ⟨-, a', a⟩ <;> omega
theorem fF_cap (tk : Nat → Bool) (d L B : Nat) : ∀ t, fF tk d L B t ≤ cap d L B t
  | 0 => Nat.zero_le _
  | t + 1 => by
    have := fF_cap tk d L B t
    have := cap_mono (d := d) (L := L) (B := B) (show t ≤ t + 1 by omega)
    rcases fF_step tk d L B t with ⟨-, a⟩ | ⟨-, a', a⟩ | ⟨-, a', a⟩ <;> omega
theorem fF_cap1 (tk : Nat → Bool) (d L B t : Nat) : fF tk d L B (t + 1) ≤ cap d L B t := by
  have := fF_cap tk d L B t
  rcases fF_step tk d L B t with ⟨-, a⟩ | ⟨-, a', a⟩ | ⟨-, a', a⟩ <;> omega
theorem ct1 (tk : Nat → Bool) (t : Nat) : (tk t = true ∧ nT tk (t + 1) = nT tk t + 1) ∨ (tk t = false ∧ nT tk (t + 1) = nT tk t) := by
  rw [nT_succ]
  cases tk t with
  | true => exact Or.inl ⟨rfl, rfl⟩
  | false => exact Or.inr ⟨rfl, rfl⟩
theorem fF_up0 (tk : Nat → Bool) (d L B : Nat) : ∀ t, fF tk d L B t + nT tk t ≤ t
  | 0 => Nat.le_refl _
  | t + 1 => by
    have := fF_up0 tk d L B t
    rcases fF_step tk d L B t with ⟨x, a⟩ | ⟨x, -, a⟩ | ⟨x, -, a⟩ <;> rcases ct1 tk t with ⟨y, b⟩ | ⟨y, b⟩ <;> first | omega | (rw [x] at y; exact absurd y (by decide))
theorem fF_up2 (tk : Nat → Bool) (d L B u : Nat) : ∀ n, fF tk d L B (u + 1 + n) + nT tk (u + 1 + n) ≤ cap d L B u + n + nT tk (u + 1)
  | 0 => by have := fF_cap1 tk d L B u; simpa using this
  | n + 1 => by
    have := fF_up2 tk d L B u n
    rw [← Nat.add_assoc (u + 1) n 1]
    rcases fF_step tk d L B (u + 1 + n) with ⟨x, a⟩ | ⟨x, -, a⟩ | ⟨x, -, a⟩ <;> rcases ct1 tk (u + 1 + n) with ⟨y, b⟩ | ⟨y, b⟩ <;> first | omega | (rw [x] at y; exact absurd y (by decide))
theorem fF_low (tk : Nat → Bool) (d L B : Nat) : ∀ t, t ≤ fF tk d L B t + nT tk t ∨ ∃ u, u < t ∧ cap d L B u + t + nT tk (u + 1) ≤ fF tk d L B t + nT tk t + (u + 1)
  | 0 => Or.inl (Nat.zero_le _)
  | t + 1 => by
    rcases fF_step tk d L B t with ⟨x, a⟩ | ⟨x, -, a⟩ | ⟨x, c, a⟩
    · rcases ct1 tk t with ⟨y, b⟩ | ⟨y, b⟩
      · rcases fF_low tk d L B t with z | ⟨u, u1, u2⟩
        · exact Or.inl (by omega)
        · exact Or.inr ⟨u, by omega, by omega⟩
      · rw [x] at y; exact absurd y (by decide)
    · rcases ct1 tk t with ⟨y, b⟩ | ⟨y, b⟩
      · rw [x] at y; exact absurd y (by decide)
      · rcases fF_low tk d L B t with z | ⟨u, u1, u2⟩
        · exact Or.inl (by omega)
        · exact Or.inr ⟨u, by omega, by omega⟩
    · exact Or.inr ⟨t, by omega, by omega⟩
theorem fF_cmp (tp tc : Nat → Bool) (d L B e : Nat) (h : ∀ s, s ≤ e → nT tp e + nT tc s ≤ nT tc e + nT tp s) : fF tc d L B e ≤ fF tp d L B e := by
  rcases fF_low tp d L B e with z | ⟨u, u1, u2⟩
  · have h0 := h 0 (Nat.zero_le _)
    have e0 : ∀ f, nT f 0 = 0 := fun f => rfl
    rw [e0, e0] at h0
    have := fF_up0 tc d L B e
    omega
  · have h1 := h (u + 1) (by omega)
    have h2 := fF_up2 tc d L B u (e - (u + 1))
    rw [show u + 1 + (e - (u + 1)) = e by omega] at h2
    omega
theorem ct_per {tk : Nat → Bool} {P : Nat} (h : ∀ t, tk (t + P) = tk t) : ∀ s, nT tk (s + P) = nT tk s + nT tk P
  | 0 => by rw [Nat.zero_add, show nT tk 0 = 0 from rfl, Nat.zero_add]
  | s + 1 => by rw [show s + 1 + P = (s + P) + 1 by omega, nT_succ, nT_succ, ct_per h s, h s]; omega
theorem ct_run {tk : Nat → Bool} {E m : Nat} (h : ∀ j, j < m → tk (E - 1 - j) = true) (hm : m ≤ E) : ∀ j, j ≤ m → nT tk E = nT tk (E - j) + j
  | 0, _ => rfl
  | j + 1, hj => by
    rw [ct_run h hm j (by omega), show E - j = (E - (j + 1)) + 1 by omega, nT_succ, show E - (j + 1) = E - 1 - j by omega, h j (by omega)]
    simp; omega
theorem ct_win {tp tc : Nat → Bool} {P sh e : Nat} (hp : ∀ t, tp (t + P) = tp t) (hc : ∀ t, tc (t + P) = tc t) (hk : nT tp P ≤ sh) (hs : sh ≤ P) (h0 : 0 < P) (hr : ∀ j, j < sh → tc (e + P - 1 - j) = true) : ∀ s, s ≤ e → nT tp e + nT tc s ≤ nT tc e + nT tp s := by
  have run := ct_run (E := e + P) hr (by omega)
  have kc : sh ≤ nT tc P := by
    have a := run sh (Nat.le_refl _)
    have b := ct_per hc e
    have c := nT_mono tc (show e ≤ e + P - sh by omega)
    omega
  have main : ∀ n s, s + n = e + P → nT tp (e + P) + nT tc s ≤ nT tc (e + P) + nT tp s := by
    intro n
    induction n using Nat.strongRecOn with
    | ind n ih =>
      intro s hn
      by_cases c : P ≤ n
      · have := ih (n - P) (by omega) (s + P) (by omega)
        rw [ct_per hc, ct_per hp s] at this
        omega
      · have a1 : nT tp (e + P) ≤ nT tp s + n := by
          rw [← hn]
          exact (nT_up tp s n).2
        have a2 : nT tp (e + P) ≤ nT tp s + nT tp P := by
          rw [← ct_per hp s]
          exact nT_mono tp (by omega)
        by_cases c2 : n ≤ sh
        · have := run n c2
          rw [show e + P - n = s by omega] at this
          omega
        · have b1 := run sh (Nat.le_refl _)
          have b2 := nT_mono tc (show s ≤ e + P - sh by omega)
          omega
  intro s hse
  have := main (e - s) (s + P) (by omega)
  rw [ct_per hc, ct_per hp s, ct_per hc, ct_per hp e] at this
  omega
theorem aA_iff (tk : Nat → Bool) (d L B x : Nat) : ∀ T, x ≤ aA tk d L B T ↔ x ≤ 9 ∧ ∀ t, t < T → B ≤ t → (t - B) % 8 = 0 → x ≤ fF tk d L B (t + 1) - cC B t
  | 0 => by
    show x ≤ 9 ↔ _
    exact ⟨fun h => ⟨h, fun t ht => absurd ht (Nat.not_lt_zero t)⟩, fun h => h.1⟩
  | T + 1 => by
    have ih := aA_iff tk d L B x T
    show x ≤ (if B ≤ T ∧ (T - B) % 8 = 0 then min (aA tk d L B T) (fF tk d L B (T + 1) - cC B T) else aA tk d L B T) ↔ _
    by_cases c : B ≤ T ∧ (T - B) % 8 = 0
    · rw [if_pos c, Nat.le_min, ih]
      refine ⟨fun h => ⟨h.1.1, fun t ht h1 h2 => ?_⟩, fun h => ⟨⟨h.1, fun t ht => h.2 t (by omega)⟩, h.2 T (by omega) c.1 c.2⟩⟩
      by_cases e : t = T
      · subst e; exact h.2
      · exact h.1.2 t (by omega) h1 h2
    · rw [if_neg c, ih]
      refine ⟨fun h => ⟨h.1, fun t ht h1 h2 => ?_⟩, fun h => ⟨h.1, fun t ht => h.2 t (by omega)⟩⟩
      by_cases e : t = T
      · subst e; exact absurd ⟨h1, h2⟩ c
      · exact h.2 t (by omega) h1 h2
theorem aA_le {tk : Nat → Bool} {d L B t T : Nat} (h : t < T) (h1 : B ≤ t) (h2 : (t - B) % 8 = 0) : aA tk d L B T ≤ fF tk d L B (t + 1) - cC B t :=
  ((aA_iff tk d L B _ T).mp (Nat.le_refl _)).2 t h h1 h2
theorem fF_cong {tk tk' : Nat → Bool} (h : ∀ t, tk t = tk' t) (d L B : Nat) : ∀ t, fF tk d L B t = fF tk' d L B t := by
  have : tk = tk' := funext h
  subst this
  exact fun _ => rfl
def tkc (P sh k : Nat) : Nat → Bool := fun t => decide ((t + k) % P < sh)
def tkp (P p : Nat) : Nat → Bool := fun t => p.testBit (t % P)
def pop (p : Nat) : Nat := nT p.testBit 10
def mnC (d P sh L B T : Nat) : Nat → Nat
  | 0 => d
  | k + 1 => min (mnC d P sh L B T k) (min d (aA (tkc P sh k) d L B T))
def mnM (d P sh L B T : Nat) : Nat → Nat
  | 0 => 9
  | p + 1 => if pop p ≤ sh then min (mnM d P sh L B T p) (aA (tkp P p) d L B T) else mnM d P sh L B T p
theorem mnC_iff (d P sh L B T x : Nat) : ∀ n, x ≤ mnC d P sh L B T n ↔ x ≤ d ∧ ∀ k, k < n → x ≤ aA (tkc P sh k) d L B T
  | 0 => by
    show x ≤ d ↔ _
    exact ⟨fun h => ⟨h, fun t ht => absurd ht (Nat.not_lt_zero t)⟩, fun h => h.1⟩
  | n + 1 => by
    have ih := mnC_iff d P sh L B T x n
    show x ≤ min (mnC d P sh L B T n) (min d (aA (tkc P sh n) d L B T)) ↔ _
    rw [Nat.le_min, Nat.le_min, ih]
    refine ⟨fun h => ⟨h.1.1, fun k hk => ?_⟩, fun h => ⟨⟨h.1, fun k hk => h.2 k (by omega)⟩, h.1, h.2 n (by omega)⟩⟩
    by_cases e : k = n
    · subst e; exact h.2.2
    · exact h.1.2 k (by omega)
theorem mnM_iff (d P sh L B T x : Nat) : ∀ n, x ≤ mnM d P sh L B T n ↔ x ≤ 9 ∧ ∀ p, p < n → pop p ≤ sh → x ≤ aA (tkp P p) d L B T
  | 0 => by
    show x ≤ 9 ↔ _
    exact ⟨fun h => ⟨h, fun t ht => absurd ht (Nat.not_lt_zero t)⟩, fun h => h.1⟩
  | n + 1 => by
    have ih := mnM_iff d P sh L B T x n
    show x ≤ (if pop n ≤ sh then min (mnM d P sh L B T n) (aA (tkp P n) d L B T) else mnM d P sh L B T n) ↔ _
    by_cases c : pop n ≤ sh
    · rw [if_pos c, Nat.le_min, ih]
      refine ⟨fun h => ⟨h.1.1, fun k hk h1 => ?_⟩, fun h => ⟨⟨h.1, fun k hk => h.2 k (by omega)⟩, h.2 n (by omega) c⟩⟩
      by_cases e : k = n
      · subst e; exact h.2
      · exact h.1.2 k (by omega) h1
    · rw [if_neg c, ih]
      refine ⟨fun h => ⟨h.1, fun k hk h1 => ?_⟩, fun h => ⟨h.1, fun k hk => h.2 k (by omega)⟩⟩
      by_cases e : k = n
      · subst e; exact absurd h1 c
      · exact h.2 k (by omega) h1
def pat (P sh k : Nat) : Nat → Nat
  | 0 => 0
  | r + 1 => if (r + k) % P < sh then pat P sh k r + 2 ^ r else pat P sh k r
set_option maxRecDepth 100000 in
theorem pat_dec : ∀ P, P < 11 → ∀ sh, sh < P + 1 → ∀ k, k < P → pat P sh k P < 2 ^ P ∧ pop (pat P sh k P) ≤ sh ∧ ∀ r, r < P → (pat P sh k P).testBit r = decide ((r + k) % P < sh) := by decide +kernel
theorem tkc_per (P sh k t : Nat) : tkc P sh k (t + P) = tkc P sh k t := by
  unfold tkc
  rw [show t + P + k = t + k + P by omega, Nat.add_mod_right]
theorem tkp_per (P p t : Nat) : tkp P p (t + P) = tkp P p t := by
  unfold tkp
  rw [Nat.add_mod_right]
theorem tkp_ct {P p : Nat} (hP : P ≤ 10) : nT (tkp P p) P ≤ pop p := by
  have : nT (tkp P p) P = nT p.testBit P := nT_cong (fun k hk => by unfold tkp; rw [Nat.mod_eq_of_lt hk])
  rw [this]
  exact nT_mono _ hP
theorem mn_eq {d P sh L B T : Nat} (hP : 0 < P) (hP2 : P ≤ 10) (hs : sh ≤ P) (hd : d ≤ 8) (hT : B < T) : mnC d P sh L B T P = mnM d P sh L B T (2 ^ P) := by
  refine Nat.le_antisymm ?_ ?_
  · obtain ⟨x1, x2⟩ := (mnC_iff d P sh L B T _ P).mp (Nat.le_refl _)
    refine (mnM_iff d P sh L B T _ _).mpr ⟨by omega, fun p _ hp => (aA_iff _ _ _ _ _ _).mpr ⟨by omega, fun t ht h1 h2 => ?_⟩⟩
    have hk : ∃ k, k < P ∧ ∀ j, j < sh → tkc P sh k (t + 1 + P - 1 - j) = true := by
      by_cases c : sh = 0
      · exact ⟨0, hP, fun j hj => by omega⟩
      · refine ⟨(sh - 1 + (P - t % P)) % P, Nat.mod_lt _ hP, fun j hj => ?_⟩
        have m1 : t % P < P := Nat.mod_lt _ hP
        have m2 := Nat.div_add_mod t P
        have m3 := Nat.div_add_mod (sh - 1 + (P - t % P)) P
        generalize (sh - 1 + (P - t % P)) % P = k at m3 ⊢
        generalize (sh - 1 + (P - t % P)) / P = z at m3
        unfold tkc
        have hz : t + 1 + P - 1 - j + k + P * z = (sh - 1 - j) + P * (t / P + 2) := by
          rw [Nat.mul_add]; omega
        have : (t + 1 + P - 1 - j + k) % P = sh - 1 - j := by
          have a := Nat.add_mul_mod_self_left (t + 1 + P - 1 - j + k) P z
          rw [hz, Nat.add_mul_mod_self_left, Nat.mod_eq_of_lt (by omega)] at a
          exact a.symm
        rw [this]
        exact decide_eq_true (by omega)
    obtain ⟨k, k1, k2⟩ := hk
    have a := ((aA_iff _ _ _ _ _ _).mp (x2 k k1)).2 t ht h1 h2
    have b := fF_cmp (tkp P p) (tkc P sh k) d L B (t + 1) (ct_win (tkp_per P p) (tkc_per P sh k) (Nat.le_trans (tkp_ct hP2) hp) hs hP k2)
    omega
  · obtain ⟨x1, x2⟩ := (mnM_iff d P sh L B T _ (2 ^ P)).mp (Nat.le_refl _)
    have hk : ∀ k, k < P → mnM d P sh L B T (2 ^ P) ≤ aA (tkc P sh k) d L B T := fun k hk => by
      obtain ⟨p1, p2, p3⟩ := pat_dec P (by omega) sh (by omega) k hk
      have e : tkp P (pat P sh k P) = tkc P sh k := funext fun t => by
        unfold tkp tkc
        rw [p3 _ (Nat.mod_lt _ hP), Nat.mod_add_mod]
      rw [← e]
      exact x2 _ p1 p2
    refine (mnC_iff d P sh L B T _ _).mpr ⟨?_, hk⟩
    have a := hk 0 hP
    have b := aA_le (tk := tkc P sh 0) (d := d) (L := L) hT (Nat.le_refl B) (by rw [Nat.sub_self])
    have c := fF_cap1 (tkc P sh 0) d L B B
    have e0 : cC B B = 0 := by unfold cC; rw [Nat.sub_self]
    unfold cap at c
    omega
