/-! ===== the worst pattern: both sides ===== -/
theorem r8 {a : Nat} (ha : a < 2 ^ 31) : (nI a - nI a / 8 * 8 : Int32) = nI (a % 8) := pk_rem (d := 8) ha (by decide) (by decide)
theorem cC_turn {B t : Nat} (h1 : B ≤ t) (h2 : (t - B) % 8 = 0) : cC B (t + 1) = cC B t + 1 := by unfold cC; omega
theorem cC_else {B t : Nat} (h : ¬ (B ≤ t ∧ (t - B) % 8 = 0)) : cC B (t + 1) = cC B t := by unfold cC; omega
theorem aA_turn {tk : Nat → Bool} {d L B t : Nat} (h : B ≤ t ∧ (t - B) % 8 = 0) : aA tk d L B (t + 1) = min (aA tk d L B t) (fF tk d L B (t + 1) - cC B t) := if_pos h
theorem aA_else {tk : Nat → Bool} {d L B t : Nat} (h : ¬ (B ≤ t ∧ (t - B) % 8 = 0)) : aA tk d L B (t + 1) = aA tk d L B t := if_neg h
theorem aA_9 (tk : Nat → Bool) (d L B t : Nat) : aA tk d L B t ≤ 9 := ((aA_iff tk d L B _ t).mp (Nat.le_refl _)).1
/-- what a tick fetches, as both loops compute it -/
theorem ft_q {tk : Nat → Bool} {d L B t : Nat} {D : Int32} (hD : D = nI d) (hd : d ≤ 8) (hL : L ≤ 9) (hu : cC B t ≤ fF tk d L B t) (T : Prop) [Decidable T] (hT : T ↔ tk t = true) :
    (if T then nI (fF tk d L B t - cC B t) else if D ≤ nI (fF tk d L B t - cC B t) then nI (fF tk d L B t - cC B t) else if nI (L - fF tk d L B t) ≤ 0 then nI (fF tk d L B t - cC B t) else nI (fF tk d L B t - cC B t) + 1) = nI (fF tk d L B (t + 1) - cC B t) ∧
    (if T then nI (L - fF tk d L B t) else if D ≤ nI (fF tk d L B t - cC B t) then nI (L - fF tk d L B t) else if nI (L - fF tk d L B t) ≤ 0 then nI (L - fF tk d L B t) else nI (L - fF tk d L B t) + (-1)) = nI (L - fF tk d L B (t + 1)) := by
  subst hD
  have hc := fF_cap tk d L B t
  unfold cap at hc
  rcases fF_step tk d L B t with ⟨x, a⟩ | ⟨x, y, a⟩ | ⟨x, y, a⟩
  · rw [if_pos (hT.mpr x), if_pos (hT.mpr x), a]; exact ⟨rfl, rfl⟩
  · have nT : ¬ T := fun z => by rw [hT.mp z] at x; exact absurd x (by decide)
    unfold cap at y
    have n1 : ¬ nI d ≤ nI (fF tk d L B t - cC B t) := nI_ge (by omega) (by omega)
    have n2 : ¬ nI (L - fF tk d L B t) ≤ 0 := nI_nle (by omega) (by omega)
    rw [if_neg nT, if_neg nT, if_neg n1, if_neg n1, if_neg n2, if_neg n2, nI_1, a]
    refine ⟨by rw [show fF tk d L B t - cC B t + 1 = fF tk d L B t + 1 - cC B t by omega], ?_⟩
    rw [show L - fF tk d L B t = (L - (fF tk d L B t + 1)) + 1 by omega, pk_m1]
  · have nT : ¬ T := fun z => by rw [hT.mp z] at x; exact absurd x (by decide)
    unfold cap at y
    rw [if_neg nT, if_neg nT, a]
    by_cases c : d ≤ fF tk d L B t - cC B t
    · have n1 : nI d ≤ nI (fF tk d L B t - cC B t) := nI_le c (by omega)
      rw [if_pos n1, if_pos n1]; exact ⟨rfl, rfl⟩
    · have n1 : ¬ nI d ≤ nI (fF tk d L B t - cC B t) := nI_ge (by omega) (by omega)
      have n2 : nI (L - fF tk d L B t) ≤ 0 := nI_le (a := L - fF tk d L B t) (b := 0) (by omega) (by decide)
      rw [if_neg n1, if_neg n1, if_pos n2, if_pos n2]; exact ⟨rfl, rfl⟩
theorem mn_if {a b : Nat} (ha : a < 2 ^ 31) (hb : b < 2 ^ 31) : (if nI a < nI b then nI a else nI b) = nI (min b a) := by
  by_cases c : a < b
  · rw [if_pos (nI_lt c hb), Nat.min_eq_right (by omega)]
  · rw [if_neg (nI_nlt (by omega) ha), Nat.min_eq_left (by omega)]
theorem mn_if2 {a b : Nat} (ha : a < 2 ^ 31) (hb : b < 2 ^ 31) : (if nI a ≤ nI b then nI a else nI b) = nI (min a b) := by
  by_cases c : a ≤ b
  · rw [if_pos (nI_le c hb), Nat.min_eq_left c]
  · rw [if_neg (nI_ge (by omega) ha), Nat.min_eq_right (by omega)]
theorem slot_next {P t k : Nat} (h0 : 0 < P) : (t + 1 + k) % P = if P ≤ (t + k) % P + 1 then 0 else (t + k) % P + 1 := by
  have m := Nat.mod_lt (t + k) h0
  have e : (t + 1 + k) % P = ((t + k) % P + 1) % P := by rw [Nat.mod_add_mod]; congr 1; omega
  rw [e]
  by_cases c : P ≤ (t + k) % P + 1
  · rw [if_pos c, show (t + k) % P + 1 = P by omega, Nat.mod_self]
  · rw [if_neg c, Nat.mod_eq_of_lt (by omega)]
theorem fq_loop (M : ST) {d L B T P sh k : Nat} (hd : M 13 3 = nI d) (hd8 : d ≤ 8) (hL : L ≤ 9) (hw : ∀ Q : Int32 → Prop, Q (nI T) → v_X6_whole (x_sh M 5) Q) (hT : T < 10000) (hBT : B ≤ T) (hP : 0 < P) (hP2 : P ≤ 10) (hs : sh ≤ P) (post : Int32 → Prop) (hp : post (nI (min d (aA (tkc P sh k) d L B T)))) :
    ∀ n t, t + n = T → cC B t ≤ fF (tkc P sh k) d L B t → lp_X8_fewestQueued_63 M (nI P) (nI sh) (nI B) post (fun (_ : Int32) (_ : Int32) (_ : Int32) (y : Int32) (_ : Int32) => post y) (n + 1) (nI t) (nI ((t + k) % P)) (nI (fF (tkc P sh k) d L B t - cC B t)) (nI (min d (aA (tkc P sh k) d L B t))) (nI (L - fF (tkc P sh k) d L B t)) := by
  intro n
  induction n with
  | zero =>
    intro t ht hu
    have : t = T := by omega
    subst this
    unfold lp_X8_fewestQueued_63
    exact hw _ ⟨fun _ => hp, fun z => absurd (nI_le (Nat.le_refl _) (by omega)) z⟩
  | succ n ih =>
    intro t ht hu
    have hsl := Nat.mod_lt (t + k) hP
    have h9 := aA_9 (tkc P sh k) d L B t
    have hT' : (nI ((t + k) % P) < nI sh) ↔ tkc P sh k t = true := by
      unfold tkc
      rw [nI_ltI (by omega) (by omega), decide_eq_true_iff]
    obtain ⟨e1, e2⟩ := ft_q (tk := tkc P sh k) hd hd8 hL hu (nI ((t + k) % P) < nI sh) hT'
    have e3 : nI ((t + 1 + k) % P) = if nI P ≤ nI ((t + k) % P) + 1 then 0 else nI ((t + k) % P) + 1 := by
      rw [slot_next hP, nI_1]
      by_cases c : P ≤ (t + k) % P + 1
      · rw [if_pos c, if_pos (nI_le c (by omega))]; rfl
      · rw [if_neg c, if_neg (nI_ge (by omega) (by omega))]
    have hc := fF_cap1 (tkc P sh k) d L B t
    unfold cap at hc
    have hm := fF_mono (tkc P sh k) d L B t
    refine fq_step M (nI P) (nI sh) (nI B) post _ (n + 1) (nI t) _ _ _ _ (nI T) hw (nI_ge (by omega) (by omega)) _ _ _ e1.symm e2.symm e3 ?_
    rw [nI_1]
    by_cases c : t < B
    · rw [if_pos (nI_lt c (by omega))]
      have cc : ¬ (B ≤ t ∧ (t - B) % 8 = 0) := by omega
      have := ih (t + 1) (by omega) (by rw [cC_else cc]; omega)
      rwa [cC_else cc, aA_else cc] at this
    · rw [if_neg (nI_nlt (by omega) (by omega)), pk_sub (show B ≤ t by omega), r8 (by omega)]
      by_cases g : (t - B) % 8 = 0
      · rw [if_pos (show nI ((t - B) % 8) = 0 by rw [g]; rfl)]
        have cc : B ≤ t ∧ (t - B) % 8 = 0 := ⟨by omega, g⟩
        by_cases z : fF (tkc P sh k) d L B (t + 1) - cC B t = 0
        · rw [if_pos (show nI (fF (tkc P sh k) d L B (t + 1) - cC B t) = 0 by rw [z]; rfl)]
          have := aA_le (tk := tkc P sh k) (d := d) (L := L) (show t < T by omega) cc.1 cc.2
          rw [show min d (aA (tkc P sh k) d L B T) = 0 by omega] at hp
          exact hp
        · rw [if_neg (nI_ne0 (by omega) (by omega)), mn_if (by omega) (by omega)]
          have := ih (t + 1) (by omega) (by rw [cC_turn cc.1 cc.2]; omega)
          rw [cC_turn cc.1 cc.2, aA_turn cc] at this
          rw [show fF (tkc P sh k) d L B (t + 1) - cC B t = (fF (tkc P sh k) d L B (t + 1) - (cC B t + 1)) + 1 by omega, pk_m1, show fF (tkc P sh k) d L B (t + 1) - (cC B t + 1) + 1 = fF (tkc P sh k) d L B (t + 1) - cC B t by omega, Nat.min_assoc]
          exact this
      · rw [if_neg (nI_ne0 (by omega) (by omega))]
        have cc : ¬ (B ≤ t ∧ (t - B) % 8 = 0) := by omega
        have := ih (t + 1) (by omega) (by rw [cC_else cc]; omega)
        rwa [cC_else cc, aA_else cc] at this
theorem bit_p {p s : Nat} (hp : p < 1024) (hs : s < 10) : ((nI p >>> (nI s &&& 31)) &&& 1) = nI (p / 2 ^ s % 2) := by
  have h31 : ∀ s, s < 10 → ((nI s &&& 31).toBitVec.smod 32).toNat = s := by decide
  rw [pk_shrN (by omega) (nI s &&& 31) s (h31 s hs)]
  have hd : p / 2 ^ s ≤ p := Nat.div_le_self _ _
  exact pk_andN (by omega) 1 (by decide)
theorem bit_t {p s : Nat} (hp : p < 1024) (hs : s < 10) : ((nI p >>> (nI s &&& 31)) &&& 1) = 0 ↔ ¬ p.testBit s = true := by
  rw [bit_p hp hs, Nat.testBit_eq_decide_div_mod_eq, decide_eq_true_iff]
  have := Nat.mod_lt (p / 2 ^ s) (show 0 < 2 by decide)
  rw [show (0 : Int32) = nI 0 from rfl, nI_eq (by omega) (by decide)]
  omega
def btB (B t : Nat) : Nat := (8 - (t - B) % 8) % 8
theorem lo_dead (N : ST) {d B T P p S : Nat} (hd : N 1 29 = nI d) (hd8 : d ≤ 8) (hS : N 1 0 = nI S) (hTS : T = B + S) (hT : T < 10000) (hP : 0 < P) (hP2 : P ≤ 10) (hpp : p < 1024) (post : Int32 → Prop) (hp : post 0) :
    ∀ n t b q l, t + n = T → b ≤ 7 → q ≤ 8 → l ≤ 9 → lp_X9_leastOf_35 N (nI P) (nI p) (nI B) post (fun (_ : Int32) (y : Int32) (_ : Int32) (_ : Int32) (_ : Int32) => post y) (n + 1) (nI t) 0 (nI b) (nI q) (nI l) := by
  intro n
  induction n with
  | zero =>
    intro t b q l ht _ _ _
    unfold lp_X9_leastOf_35
    rw [hS, nI_add, ← hTS, show t = T by omega]
    exact ⟨fun _ => hp, fun z => absurd (nI_le (Nat.le_refl _) (by omega)) z⟩
  | succ n ih =>
    intro t b q l ht hb hq hl
    have hm := Nat.mod_lt t hP
    have hex : ∃ q1 l1 : Nat, q1 ≤ 8 ∧ l1 ≤ 9 ∧ nI q1 = (if p.testBit (t % P) = true then nI q else if N 1 29 ≤ nI q then nI q else if nI l ≤ 0 then nI q else nI q + 1) ∧ nI l1 = (if p.testBit (t % P) = true then nI l else if N 1 29 ≤ nI q then nI l else if nI l ≤ 0 then nI l else nI l + (-1)) := by
      by_cases c : p.testBit (t % P) = true
      · refine ⟨q, l, hq, hl, ?_, ?_⟩ <;> rw [if_pos c]
      · rw [hd]
        by_cases c2 : d ≤ q
        · refine ⟨q, l, hq, hl, ?_, ?_⟩ <;> rw [if_neg c, if_pos (nI_le c2 (by omega))]
        · by_cases c3 : l = 0
          · subst c3
            have z : nI 0 ≤ 0 := nI_le (a := 0) (b := 0) (by omega) (by decide)
            refine ⟨q, 0, hq, hl, ?_, ?_⟩ <;> rw [if_neg c, if_neg (nI_ge (by omega) (by omega)), if_pos z]
          · have z : ¬ nI l ≤ 0 := nI_nle (by omega) (by omega)
            refine ⟨q + 1, l - 1, by omega, by omega, ?_, ?_⟩ <;> rw [if_neg c, if_neg (nI_ge (by omega) (by omega)), if_neg z]
            · rw [nI_1]
            · rw [show l = (l - 1) + 1 by omega, pk_m1]; rfl
    obtain ⟨q1, l1, hq1, hl1, e1, e2⟩ := hex
    refine lo_step N (nI P) (nI p) (nI B) post _ (n + 1) (nI t) 0 (nI b) (nI q) (nI l) (by rw [hS, nI_add, ← hTS]; exact nI_ge (by omega) (by omega)) (nI_ne0 hP (by omega)) (p.testBit (t % P) = true) (by rw [pk_rem (by omega) hP (by omega)]; exact bit_t hpp (by omega)) (nI q1) (nI l1) e1 e2 ?_
    rw [nI_1, if_pos (show (0 : Int32) ≤ nI q1 from nI_pos' (by omega))]
    by_cases c : B ≤ t
    · rw [if_pos (nI_le c (by omega))]
      by_cases z : b = 0
      · subst z
        rw [if_pos (show nI 0 = 0 from rfl)]
        by_cases g : q1 = 0
        · subst g
          rw [if_pos (show nI 0 = 0 from rfl)]
          exact ih (t + 1) 0 0 l1 (by omega) (by omega) (by omega) hl1
        · rw [if_neg (nI_ne0 (by omega) (by omega)), show q1 = (q1 - 1) + 1 by omega, pk_m1]
          exact ih (t + 1) 7 (q1 - 1) l1 (by omega) (by omega) (by omega) hl1
      · rw [if_neg (nI_ne0 (by omega) (by omega)), show b = (b - 1) + 1 by omega, pk_m1]
        exact ih (t + 1) (b - 1) q1 l1 (by omega) (by omega) hq1 hl1
    · rw [if_neg (nI_ge (by omega) (by omega))]
      exact ih (t + 1) b q1 l1 (by omega) hb hq1 hl1
theorem lo_loop (N : ST) {d L B T P p S : Nat} (hd : N 1 29 = nI d) (hd8 : d ≤ 8) (hL : L ≤ 9) (hS : N 1 0 = nI S) (hTS : T = B + S) (hT : T < 10000) (hP : 0 < P) (hP2 : P ≤ 10) (hpp : p < 1024) (post : Int32 → Prop) (hp : post (nI (aA (tkp P p) d L B T))) :
    ∀ n t, t + n = T → cC B t ≤ fF (tkp P p) d L B t → lp_X9_leastOf_35 N (nI P) (nI p) (nI B) post (fun (_ : Int32) (y : Int32) (_ : Int32) (_ : Int32) (_ : Int32) => post y) (n + 1) (nI t) (nI (aA (tkp P p) d L B t)) (nI (btB B t)) (nI (fF (tkp P p) d L B t - cC B t)) (nI (L - fF (tkp P p) d L B t)) := by
  intro n
  induction n with
  | zero =>
    intro t ht hu
    have : t = T := by omega
    subst this
    unfold lp_X9_leastOf_35
    rw [hS, nI_add, ← hTS]
    exact ⟨fun _ => hp, fun z => absurd (nI_le (Nat.le_refl _) (by omega)) z⟩
  | succ n ih =>
    intro t ht hu
    have hm := Nat.mod_lt t hP
    have h9 := aA_9 (tkp P p) d L B t
    obtain ⟨e1, e2⟩ := ft_q (tk := tkp P p) hd hd8 hL hu (p.testBit (t % P) = true) Iff.rfl
    have hc := fF_cap1 (tkp P p) d L B t
    unfold cap at hc
    have hm2 := fF_mono (tkp P p) d L B t
    refine lo_step N (nI P) (nI p) (nI B) post _ (n + 1) (nI t) _ _ _ _ (by rw [hS, nI_add, ← hTS]; exact nI_ge (by omega) (by omega)) (nI_ne0 hP (by omega)) (p.testBit (t % P) = true) (by rw [pk_rem (by omega) hP (by omega)]; exact bit_t hpp (by omega)) _ _ e1.symm e2.symm ?_
    rw [nI_1]
    by_cases c : B ≤ t
    · rw [if_pos (nI_le c (by omega))]
      by_cases g : (t - B) % 8 = 0
      · have cc : B ≤ t ∧ (t - B) % 8 = 0 := ⟨c, g⟩
        rw [if_pos (show nI (btB B t) = 0 by unfold btB; rw [g]; rfl), mn_if2 (by omega) (by omega)]
        by_cases z : fF (tkp P p) d L B (t + 1) - cC B t = 0
        · rw [if_pos (show nI (fF (tkp P p) d L B (t + 1) - cC B t) = 0 by rw [z]; rfl), z, Nat.min_zero]
          have := aA_le (tk := tkp P p) (d := d) (L := L) (show t < T by omega) cc.1 cc.2
          rw [show aA (tkp P p) d L B T = 0 by omega] at hp
          exact lo_dead N hd hd8 hS hTS hT hP hP2 hpp post hp n (t + 1) (btB B t) 0 _ (by omega) (by unfold btB; omega) (by omega) (by omega)
        · rw [if_neg (nI_ne0 (by omega) (by omega))]
          have := ih (t + 1) (by omega) (by rw [cC_turn cc.1 cc.2]; omega)
          rw [cC_turn cc.1 cc.2, aA_turn cc, show btB B (t + 1) = 7 by unfold btB; omega] at this
          have ee : nI (fF (tkp P p) d L B (t + 1) - cC B t) + (-1) = nI (fF (tkp P p) d L B (t + 1) - (cC B t + 1)) := by
            rw [show fF (tkp P p) d L B (t + 1) - cC B t = (fF (tkp P p) d L B (t + 1) - (cC B t + 1)) + 1 by omega, pk_m1]
          rw [ee]
          exact this
      · have cc : ¬ (B ≤ t ∧ (t - B) % 8 = 0) := by omega
        have hb0 : btB B t = btB B (t + 1) + 1 := by unfold btB; omega
        rw [if_neg (nI_ne0 (by omega) (by unfold btB; omega)), hb0, pk_m1]
        have := ih (t + 1) (by omega) (by rw [cC_else cc]; omega)
        rwa [cC_else cc, aA_else cc] at this
    · rw [if_neg (nI_ge (by omega) (by omega))]
      have cc : ¬ (B ≤ t ∧ (t - B) % 8 = 0) := by omega
      have := ih (t + 1) (by omega) (by rw [cC_else cc]; omega)
      rwa [cC_else cc, aA_else cc, show btB B (t + 1) = btB B t by unfold btB; omega] at this
theorem s_bitsOf {p : Nat} (hp : p < 1024) (post : Int32 → Prop) (h : post (nI (pop p))) : v_X9_bitsOf (nI p) post := by
  have L : ∀ n k, k + n = 10 → lp_X9_bitsOf_4 (nI p) post (fun (_ : Int32) (y : Int32) => post y) (n + 1) (nI k) (nI (nT p.testBit k)) := by
    intro n
    induction n with
    | zero =>
      intro k hk
      unfold lp_X9_bitsOf_4
      rw [show k = 10 by omega]
      exact ⟨fun _ => h, fun z => absurd (show (10 : Int32) ≤ nI 10 from nI_le (a := 10) (Nat.le_refl _) (by omega)) z⟩
    | succ n ih =>
      intro k hk
      unfold lp_X9_bitsOf_4
      refine ⟨fun z => absurd z (nI_ge (a := k) (b := 10) (by omega) (by omega)), fun _ => ?_⟩
      rintro x8 rfl
      rintro x9 rfl
      rw [nI_1, bit_p hp (by omega), nI_add]
      have := ih (k + 1) (by omega)
      rw [nT_succ] at this
      have e : (if p.testBit k = true then 1 else 0) = p / 2 ^ k % 2 := by
        rw [Nat.testBit_eq_decide_div_mod_eq]
        have := Nat.mod_lt (p / 2 ^ k) (show 0 < 2 by decide)
        by_cases c : p / 2 ^ k % 2 = 1
        · rw [decide_eq_true c, if_pos rfl, c]
        · rw [decide_eq_false c, if_neg (by decide)]; omega
      rw [e] at this
      exact this
  exact ⟨11, L 10 0 (by omega)⟩
theorem m_least {MB N : ST} {q : Nat → Nat} (h : RR (x_sh MB 2) N q) (p1 p2 : Int32) : StepR (v_X8_least MB p1 p2) (v_X9_least N p1 p2) := by
  rcases wi_cases p1 1 10 (by decide) (by decide) with ⟨w1, -⟩ | ⟨w1, P, rfl, P1', P2'⟩
  · have w1 : wi p1 1 10 = 0 := w1
    refine ⟨-1, fun post hp => ?_, fun post hp => ?_⟩
    · unfold v_X8_least; simp only [s_within]; rw [w1]; exact ⟨fun _ => hp, fun c => absurd rfl c⟩
    · unfold v_X9_least; simp only [s_isIn]; rw [w1]; exact ⟨fun _ => hp, fun c => absurd rfl c⟩
  have w1 : wi (nI P) 1 10 = 1 := w1
  rcases wi_cases p2 0 P (by omega) (by decide) with ⟨w2, -⟩ | ⟨w2, sh, rfl, -, s2⟩
  · have w2 : wi p2 0 (nI P) = 0 := w2
    refine ⟨-1, fun post hp => ?_, fun post hp => ?_⟩
    · unfold v_X8_least; simp only [s_within]; rw [w1]; refine ⟨fun c => absurd c one_ne, fun _ => ?_⟩; rw [w2]; exact ⟨fun c => absurd rfl c, fun _ => hp⟩
    · unfold v_X9_least; simp only [s_isIn]; rw [w1]; refine ⟨fun c => absurd c one_ne, fun _ => ?_⟩; rw [w2]; exact ⟨fun c => absurd rfl c, fun _ => hp⟩
  have w2 : wi (nI sh) 0 (nI P) = 1 := w2
  obtain ⟨h1, h2, h3, h4, h5, h13, h6, h7, h8, h9, h10, h11, h12⟩ := h
  obtain ⟨⟨a1, a2, a3, a4⟩, -, -⟩ := id h1.1
  have hin := h1.2.1
  obtain ⟨⟨k0, k0'⟩, ⟨k1, k1'⟩, ⟨k2, k2'⟩, ⟨k3, k3'⟩, -⟩ := id h1.2.2
  obtain ⟨-, ⟨d1, d2, d3, d4⟩, -⟩ := id h5
  simp only [Nat.zero_add] at k0 k0' k1 k1' k2 k2' k3 k3' a1 a2 a3 a4
  have a1 : MB 5 0 = nI (q 0) := a1
  have d1 : MB 13 3 = nI (q 29) := d1
  have n0 : N 1 0 = nI (q 0) := hin 0 (by omega)
  have n1 : N 1 1 = nI (q 1) := hin 1 (by omega)
  have n2 : N 1 2 = nI (q 2) := hin 2 (by omega)
  have n3 : N 1 3 = nI (q 3) := hin 3 (by omega)
  let d := q 29
  let S := q 0
  let T := q 0 + q 1 + q 2 + q 3
  let B := q 1 + q 2 + q 3
  let L := (q 0 + 7) / 8 + 1
  have hT : T = B + S := by show q 0 + q 1 + q 2 + q 3 = q 1 + q 2 + q 3 + q 0; omega
  have hT2 : T < 10000 := by show q 0 + q 1 + q 2 + q 3 < 10000; omega
  have hBT : B < T := by show q 1 + q 2 + q 3 < q 0 + q 1 + q 2 + q 3; omega
  have hL : L ≤ 9 ∨ L = 9 := by show (q 0 + 7) / 8 + 1 ≤ 9 ∨ (q 0 + 7) / 8 + 1 = 9; omega
  have hL : L ≤ 9 := by omega
  have hw : ∀ Q : Int32 → Prop, Q (nI T) → v_X6_whole (x_sh MB 5) Q := fun Q hQ => s_whole _ (q 0) (q 1) (q 2) (q 3) a1 a2 a3 a4 _ hQ
  have eL : ((nI (q 0) + 7) / 8 + 1 : Int32) = nI L := by
    have : nI (q 0) + 7 = nI (q 0 + 7) := nI_add (q 0) 7
    rw [this]
    have : nI (q 0 + 7) / 8 = nI ((q 0 + 7) / 8) := pk_div (d := 8) (by omega) (by decide) (by decide)
    rw [this, nI_1]
  have fq : ∀ k, k < P → ∀ Q : Int32 → Prop, Q (nI (min d (aA (tkc P sh k) d L B T))) → v_X8_fewestQueued MB (nI P) (nI sh) (nI k) Q := fun k hk Q hQ => by
    unfold v_X8_fewestQueued v_X8_bytesOfLine
    rw [a1, eL]
    refine hw _ ?_
    rintro x3 rfl
    rw [pk_sub (show q 0 ≤ T by show q 0 ≤ q 0 + q 1 + q 2 + q 3; omega), show T - q 0 = B by show q 0 + q 1 + q 2 + q 3 - q 0 = q 1 + q 2 + q 3; omega, d1]
    have := fq_loop MB (d := d) (L := L) (B := B) (T := T) (P := P) (sh := sh) (k := k) d1 d4 hL hw hT2 (by omega) (by omega) P2' s2 Q hQ T 0 (by omega) (by unfold cC; omega)
    rw [Nat.zero_add, Nat.mod_eq_of_lt hk, show min d (aA (tkc P sh k) d L B 0) = d by show min d 9 = d; show min (q 29) 9 = q 29; omega, show fF (tkc P sh k) d L B 0 = 0 from rfl, Nat.zero_sub, Nat.sub_zero] at this
    exact ⟨T + 1, this⟩
  have lo : ∀ p, p < 1024 → ∀ Q : Int32 → Prop, Q (nI (aA (tkp P p) d L B T)) → v_X9_leastOf N (nI P) (nI p) Q := fun p hp Q hQ => by
    unfold v_X9_leastOf v_X9_bytesOf
    refine s_ticksOf N (b := 0) (by decide) _ ?_
    rintro x2 rfl
    simp only [Nat.zero_add]
    rw [n0, n1, n2, n3, eL, nI_add, nI_add, nI_add, pk_sub (by omega), show q 0 + q 1 + q 2 + q 3 - q 0 = B by show q 0 + q 1 + q 2 + q 3 - q 0 = q 1 + q 2 + q 3; omega]
    have := lo_loop N (d := d) (L := L) (B := B) (T := T) (P := P) (p := p) (S := S) d2 d4 hL n0 hT hT2 (by omega) P2' hp Q hQ T 0 (by omega) (by unfold cC; omega)
    rw [show fF (tkp P p) d L B 0 = 0 from rfl, Nat.zero_sub, Nat.sub_zero, show btB B 0 = 0 by unfold btB; rw [Nat.zero_sub]] at this
    exact ⟨T + 1, this⟩
  refine ⟨nI (mnC d P sh L B T P), fun post hp => ?_, fun post hp => ?_⟩
  · unfold v_X8_least; simp only [s_within]; rw [w1]; refine ⟨fun c => absurd c one_ne, fun _ => ?_⟩; rw [w2]; refine ⟨fun _ => ?_, fun c => absurd c one_ne⟩
    have loop : ∀ n k, k + n = P → lp_X8_least_35 MB (nI P) (nI sh) post (fun (_ : Int32) (y : Int32) => post y) (n + 1) (nI k) (nI (mnC d P sh L B T k)) := by
      intro n
      induction n with
      | zero =>
        intro k hk
        unfold lp_X8_least_35
        rw [show k = P by omega]
        exact ⟨fun _ => hp, fun z => absurd (nI_le (Nat.le_refl _) (by omega)) z⟩
      | succ n ih =>
        intro k hk
        unfold lp_X8_least_35
        refine ⟨fun z => absurd z (nI_ge (by omega) (by omega)), fun _ => fq k (by omega) _ ?_⟩
        rintro x13 rfl
        rintro x14 rfl
        have b9 := aA_9 (tkc P sh k) d L B T
        have b8 : mnC d P sh L B T k ≤ d := ((mnC_iff d P sh L B T _ k).mp (Nat.le_refl _)).1
        have b7 : d ≤ 8 := d4
        rw [nI_1, mn_if (by omega) (by omega)]
        exact ih (k + 1) (by omega)
    rw [d1]
    exact ⟨P + 1, loop P 0 (by omega)⟩
  · rw [mn_eq (by omega) P2' s2 d4 hBT] at hp
    unfold v_X9_least; simp only [s_isIn]; rw [w1]; refine ⟨fun c => absurd c one_ne, fun _ => ?_⟩; rw [w2]; refine ⟨fun _ => ?_, fun c => absurd c one_ne⟩
    have h2P : 2 ^ P ≤ 1024 := Nat.pow_le_pow_right (n := 2) (by decide) P2'
    have shl : ∀ P, P < 11 → (1 <<< (nI P &&& 31) : Int32) = nI (2 ^ P) := by decide
    have loop : ∀ n k, k + n = 2 ^ P → lp_X9_least_27 N (nI P) (nI sh) post (fun (_ : Int32) (y : Int32) => post y) (n + 1) (nI k) (nI (mnM d P sh L B T k)) := by
      intro n
      induction n with
      | zero =>
        intro k hk
        unfold lp_X9_least_27
        rw [shl P (by omega), show k = 2 ^ P by omega]
        exact ⟨fun _ => hp, fun z => absurd (nI_le (Nat.le_refl _) (by omega)) z⟩
      | succ n ih =>
        intro k hk
        have b8 : mnM d P sh L B T k ≤ 9 := ((mnM_iff d P sh L B T _ k).mp (Nat.le_refl _)).1
        have b9 := aA_9 (tkp P k) d L B T
        have b7 : pop k ≤ 10 := by have := (nT_up k.testBit 0 10).2; rw [Nat.zero_add] at this; exact this
        have nx := ih (k + 1) (by omega)
        unfold lp_X9_least_27
        rw [shl P (by omega)]
        refine ⟨fun z => absurd z (nI_ge (by omega) (by omega)), fun _ => s_bitsOf (by omega) _ ?_⟩
        by_cases c : pop k ≤ sh
        · refine ⟨fun z => absurd z (nI_nlt c (by omega)), fun _ => lo k (by omega) _ ?_⟩
          have e : mnM d P sh L B T (k + 1) = min (mnM d P sh L B T k) (aA (tkp P k) d L B T) := if_pos c
          rw [e] at nx
          by_cases z : mnM d P sh L B T k ≤ aA (tkp P k) d L B T
          · refine ⟨fun _ => ?_, fun y => absurd (nI_le z (by omega)) y⟩
            rintro x19 rfl
            rw [nI_1]
            rwa [Nat.min_eq_left z] at nx
          · refine ⟨fun y => absurd y (nI_ge (by omega) (by omega)), fun _ => ?_⟩
            rintro x19 rfl
            rw [nI_1]
            rwa [Nat.min_eq_right (by omega)] at nx
        · refine ⟨fun _ => ?_, fun z => absurd (nI_lt (by omega) (by omega)) z⟩
          have e : mnM d P sh L B T (k + 1) = mnM d P sh L B T k := if_neg c
          rw [e] at nx
          refine ⟨fun _ => ?_, fun y => absurd (show nI (mnM d P sh L B T k) ≤ (9 : Int32) from nI_le (b := 9) b8 (by decide)) y⟩
          rintro x15 rfl
          rw [nI_1]
          exact nx
    exact ⟨2 ^ P + 1, loop (2 ^ P) 0 (by omega)⟩
