/-! ===== the worst pattern: the two loops ===== -/
set_option maxHeartbeats 4000000 in
theorem fq_step (M : ST) (p1 p2 x3 : Int32) (post : Int32 → Prop) (K : Int32 → Int32 → Int32 → Int32 → Int32 → Prop) (n : Nat) (t s q f l w : Int32) (hw : ∀ P : Int32 → Prop, P w → v_X6_whole (x_sh M 5) P) (hn : ¬ w ≤ t) (q1 l1 s1 : Int32)
    (hq : q1 = if s < p2 then q else if M 13 3 ≤ q then q else if l ≤ 0 then q else q + 1) (hl : l1 = if s < p2 then l else if M 13 3 ≤ q then l else if l ≤ 0 then l else l + (-1)) (hs : s1 = if p1 ≤ s + 1 then 0 else s + 1)
    (h : if t < x3 then lp_X8_fewestQueued_63 M p1 p2 x3 post K n (t + 1) s1 q1 f l1 else if (t - x3) - (t - x3) / 8 * 8 = 0 then (if q1 = 0 then post 0 else lp_X8_fewestQueued_63 M p1 p2 x3 post K n (t + 1) s1 (q1 + (-1)) (if q1 < f then q1 else f) l1) else lp_X8_fewestQueued_63 M p1 p2 x3 post K n (t + 1) s1 q1 f l1) : lp_X8_fewestQueued_63 M p1 p2 x3 post K (n + 1) t s q f l := by
  unfold lp_X8_fewestQueued_63
  refine hw _ ⟨fun z => absurd z hn, fun _ => ?_⟩
  subst hq hl hs
  by_cases a : s < p2
  · simp only [if_pos a] at h
    refine ⟨fun _ => ?_, fun z => absurd a z⟩
    by_cases d : p1 ≤ s + 1
    · simp only [if_pos d] at h
      refine ⟨fun _ => ?_, fun z => absurd d z⟩
      by_cases e : t < x3
      · rw [if_pos e] at h
        refine ⟨fun _ => ?_, fun z => absurd e z⟩
        rintro x21 rfl
        exact h
      · rw [if_neg e] at h
        refine ⟨fun z => absurd z e, fun _ => ?_⟩
        by_cases g : (t - x3) - (t - x3) / 8 * 8 = 0
        · rw [if_pos g] at h
          refine ⟨fun z => absurd g z, fun _ => ?_⟩
          by_cases k : q = 0
          · rw [if_pos k] at h
            exact ⟨fun z => absurd k z, fun _ => h⟩
          · rw [if_neg k] at h
            refine ⟨fun _ => ?_, fun z => absurd z k⟩
            rintro x25 rfl
            rintro x26 rfl
            rintro x27 rfl
            exact h
        · rw [if_neg g] at h
          refine ⟨fun _ => ?_, fun z => absurd z g⟩
          rintro x23 rfl
          exact h
    · simp only [if_neg d] at h
      refine ⟨fun z => absurd z d, fun _ => ?_⟩
      rintro x28 rfl
      by_cases e : t < x3
      · rw [if_pos e] at h
        refine ⟨fun _ => ?_, fun z => absurd e z⟩
        rintro x21 rfl
        exact h
      · rw [if_neg e] at h
        refine ⟨fun z => absurd z e, fun _ => ?_⟩
        by_cases g : (t - x3) - (t - x3) / 8 * 8 = 0
        · rw [if_pos g] at h
          refine ⟨fun z => absurd g z, fun _ => ?_⟩
          by_cases k : q = 0
          · rw [if_pos k] at h
            exact ⟨fun z => absurd k z, fun _ => h⟩
          · rw [if_neg k] at h
            refine ⟨fun _ => ?_, fun z => absurd z k⟩
            rintro x25 rfl
            rintro x26 rfl
            rintro x27 rfl
            exact h
        · rw [if_neg g] at h
          refine ⟨fun _ => ?_, fun z => absurd z g⟩
          rintro x23 rfl
          exact h
  · simp only [if_neg a] at h
    refine ⟨fun z => absurd z a, fun _ => ?_⟩
    by_cases b : M 13 3 ≤ q
    · simp only [if_pos b] at h
      refine ⟨fun _ => ?_, fun z => absurd b z⟩
      by_cases d : p1 ≤ s + 1
      · simp only [if_pos d] at h
        refine ⟨fun _ => ?_, fun z => absurd d z⟩
        by_cases e : t < x3
        · rw [if_pos e] at h
          refine ⟨fun _ => ?_, fun z => absurd e z⟩
          rintro x21 rfl
          exact h
        · rw [if_neg e] at h
          refine ⟨fun z => absurd z e, fun _ => ?_⟩
          by_cases g : (t - x3) - (t - x3) / 8 * 8 = 0
          · rw [if_pos g] at h
            refine ⟨fun z => absurd g z, fun _ => ?_⟩
            by_cases k : q = 0
            · rw [if_pos k] at h
              exact ⟨fun z => absurd k z, fun _ => h⟩
            · rw [if_neg k] at h
              refine ⟨fun _ => ?_, fun z => absurd z k⟩
              rintro x25 rfl
              rintro x26 rfl
              rintro x27 rfl
              exact h
          · rw [if_neg g] at h
            refine ⟨fun _ => ?_, fun z => absurd z g⟩
            rintro x23 rfl
            exact h
      · simp only [if_neg d] at h
        refine ⟨fun z => absurd z d, fun _ => ?_⟩
        rintro x28 rfl
        by_cases e : t < x3
        · rw [if_pos e] at h
          refine ⟨fun _ => ?_, fun z => absurd e z⟩
          rintro x21 rfl
          exact h
        · rw [if_neg e] at h
          refine ⟨fun z => absurd z e, fun _ => ?_⟩
          by_cases g : (t - x3) - (t - x3) / 8 * 8 = 0
          · rw [if_pos g] at h
            refine ⟨fun z => absurd g z, fun _ => ?_⟩
            by_cases k : q = 0
            · rw [if_pos k] at h
              exact ⟨fun z => absurd k z, fun _ => h⟩
            · rw [if_neg k] at h
              refine ⟨fun _ => ?_, fun z => absurd z k⟩
              rintro x25 rfl
              rintro x26 rfl
              rintro x27 rfl
              exact h
          · rw [if_neg g] at h
            refine ⟨fun _ => ?_, fun z => absurd z g⟩
            rintro x23 rfl
            exact h
    · simp only [if_neg b] at h
      refine ⟨fun z => absurd z b, fun _ => ?_⟩
      by_cases c : l ≤ 0
      · simp only [if_pos c] at h
        refine ⟨fun _ => ?_, fun z => absurd c z⟩
        by_cases d : p1 ≤ s + 1
        · simp only [if_pos d] at h
          refine ⟨fun _ => ?_, fun z => absurd d z⟩
          by_cases e : t < x3
          · rw [if_pos e] at h
            refine ⟨fun _ => ?_, fun z => absurd e z⟩
            rintro x21 rfl
            exact h
          · rw [if_neg e] at h
            refine ⟨fun z => absurd z e, fun _ => ?_⟩
            by_cases g : (t - x3) - (t - x3) / 8 * 8 = 0
            · rw [if_pos g] at h
              refine ⟨fun z => absurd g z, fun _ => ?_⟩
              by_cases k : q = 0
              · rw [if_pos k] at h
                exact ⟨fun z => absurd k z, fun _ => h⟩
              · rw [if_neg k] at h
                refine ⟨fun _ => ?_, fun z => absurd z k⟩
                rintro x25 rfl
                rintro x26 rfl
                rintro x27 rfl
                exact h
            · rw [if_neg g] at h
              refine ⟨fun _ => ?_, fun z => absurd z g⟩
              rintro x23 rfl
              exact h
        · simp only [if_neg d] at h
          refine ⟨fun z => absurd z d, fun _ => ?_⟩
          rintro x28 rfl
          by_cases e : t < x3
          · rw [if_pos e] at h
            refine ⟨fun _ => ?_, fun z => absurd e z⟩
            rintro x21 rfl
            exact h
          · rw [if_neg e] at h
            refine ⟨fun z => absurd z e, fun _ => ?_⟩
            by_cases g : (t - x3) - (t - x3) / 8 * 8 = 0
            · rw [if_pos g] at h
              refine ⟨fun z => absurd g z, fun _ => ?_⟩
              by_cases k : q = 0
              · rw [if_pos k] at h
                exact ⟨fun z => absurd k z, fun _ => h⟩
              · rw [if_neg k] at h
                refine ⟨fun _ => ?_, fun z => absurd z k⟩
                rintro x25 rfl
                rintro x26 rfl
                rintro x27 rfl
                exact h
            · rw [if_neg g] at h
              refine ⟨fun _ => ?_, fun z => absurd z g⟩
              rintro x23 rfl
              exact h
      · simp only [if_neg c] at h
        refine ⟨fun z => absurd z c, fun _ => ?_⟩
        rintro x75 rfl
        rintro x76 rfl
        by_cases d : p1 ≤ s + 1
        · simp only [if_pos d] at h
          refine ⟨fun _ => ?_, fun z => absurd d z⟩
          by_cases e : t < x3
          · rw [if_pos e] at h
            refine ⟨fun _ => ?_, fun z => absurd e z⟩
            rintro x21 rfl
            exact h
          · rw [if_neg e] at h
            refine ⟨fun z => absurd z e, fun _ => ?_⟩
            by_cases g : (t - x3) - (t - x3) / 8 * 8 = 0
            · rw [if_pos g] at h
              refine ⟨fun z => absurd g z, fun _ => ?_⟩
              by_cases k : (q + 1) = 0
              · rw [if_pos k] at h
                exact ⟨fun z => absurd k z, fun _ => h⟩
              · rw [if_neg k] at h
                refine ⟨fun _ => ?_, fun z => absurd z k⟩
                rintro x25 rfl
                rintro x26 rfl
                rintro x27 rfl
                exact h
            · rw [if_neg g] at h
              refine ⟨fun _ => ?_, fun z => absurd z g⟩
              rintro x23 rfl
              exact h
        · simp only [if_neg d] at h
          refine ⟨fun z => absurd z d, fun _ => ?_⟩
          rintro x28 rfl
          by_cases e : t < x3
          · rw [if_pos e] at h
            refine ⟨fun _ => ?_, fun z => absurd e z⟩
            rintro x21 rfl
            exact h
          · rw [if_neg e] at h
            refine ⟨fun z => absurd z e, fun _ => ?_⟩
            by_cases g : (t - x3) - (t - x3) / 8 * 8 = 0
            · rw [if_pos g] at h
              refine ⟨fun z => absurd g z, fun _ => ?_⟩
              by_cases k : (q + 1) = 0
              · rw [if_pos k] at h
                exact ⟨fun z => absurd k z, fun _ => h⟩
              · rw [if_neg k] at h
                refine ⟨fun _ => ?_, fun z => absurd z k⟩
                rintro x25 rfl
                rintro x26 rfl
                rintro x27 rfl
                exact h
            · rw [if_neg g] at h
              refine ⟨fun _ => ?_, fun z => absurd z g⟩
              rintro x23 rfl
              exact h
set_option maxHeartbeats 4000000 in
theorem lo_step (M : ST) (p1 p2 x2 : Int32) (post : Int32 → Prop) (K : Int32 → Int32 → Int32 → Int32 → Int32 → Prop) (n : Nat) (t f b q l : Int32) (hn : ¬ x2 + M 1 0 ≤ t) (h0 : ¬ p1 = 0) (tk : Prop) [Decidable tk] (ht : ((p2 >>> ((t - t / p1 * p1) &&& 31)) &&& 1) = 0 ↔ ¬ tk) (q1 l1 : Int32)
    (hq : q1 = if tk then q else if M 1 29 ≤ q then q else if l ≤ 0 then q else q + 1) (hl : l1 = if tk then l else if M 1 29 ≤ q then l else if l ≤ 0 then l else l + (-1))
    (h : if x2 ≤ t then (if b = 0 then (if q1 = 0 then lp_X9_leastOf_35 M p1 p2 x2 post K n (t + 1) (if f ≤ q1 then f else q1) b q1 l1 else lp_X9_leastOf_35 M p1 p2 x2 post K n (t + 1) (if f ≤ q1 then f else q1) (8 + (-1)) (q1 + (-1)) l1) else lp_X9_leastOf_35 M p1 p2 x2 post K n (t + 1) f (b + (-1)) q1 l1) else lp_X9_leastOf_35 M p1 p2 x2 post K n (t + 1) f b q1 l1) : lp_X9_leastOf_35 M p1 p2 x2 post K (n + 1) t f b q l := by
  unfold lp_X9_leastOf_35
  refine ⟨fun z => absurd z hn, fun _ => ⟨h0, ?_⟩⟩
  subst hq hl
  by_cases a : tk
  · simp only [if_pos a] at h
    refine ⟨fun _ => ?_, fun z => absurd a (ht.mp z)⟩
    by_cases e : x2 ≤ t
    · rw [if_pos e] at h
      refine ⟨fun _ => ?_, fun z => absurd e z⟩
      by_cases g : b = 0
      · rw [if_pos g] at h
        refine ⟨fun z => absurd g z, fun _ => ?_⟩
        by_cases j : f ≤ q
        · simp only [if_pos j] at h
          refine ⟨fun _ => ?_, fun z => absurd j z⟩
          by_cases k : q = 0
          · rw [if_pos k] at h
            refine ⟨fun z => absurd k z, fun _ => ?_⟩
            rintro x28 rfl
            exact h
          · rw [if_neg k] at h
            refine ⟨fun _ => ?_, fun z => absurd z k⟩
            rintro x25 rfl
            rintro x26 rfl
            rintro x27 rfl
            exact h
        · simp only [if_neg j] at h
          refine ⟨fun z => absurd z j, fun _ => ?_⟩
          by_cases k : q = 0
          · rw [if_pos k] at h
            refine ⟨fun z => absurd k z, fun _ => ?_⟩
            rintro x28 rfl
            exact h
          · rw [if_neg k] at h
            refine ⟨fun _ => ?_, fun z => absurd z k⟩
            rintro x25 rfl
            rintro x26 rfl
            rintro x27 rfl
            exact h
      · rw [if_neg g] at h
        refine ⟨fun _ => ?_, fun z => absurd z g⟩
        rintro x23 rfl
        rintro x24 rfl
        exact h
    · rw [if_neg e] at h
      refine ⟨fun z => absurd z e, fun _ => ?_⟩
      rintro x21 rfl
      exact h
  · simp only [if_neg a] at h
    refine ⟨fun z => absurd (ht.mpr a) z, fun _ => ?_⟩
    by_cases c1 : M 1 29 ≤ q
    · simp only [if_pos c1] at h
      refine ⟨fun _ => ?_, fun z => absurd c1 z⟩
      by_cases e : x2 ≤ t
      · rw [if_pos e] at h
        refine ⟨fun _ => ?_, fun z => absurd e z⟩
        by_cases g : b = 0
        · rw [if_pos g] at h
          refine ⟨fun z => absurd g z, fun _ => ?_⟩
          by_cases j : f ≤ q
          · simp only [if_pos j] at h
            refine ⟨fun _ => ?_, fun z => absurd j z⟩
            by_cases k : q = 0
            · rw [if_pos k] at h
              refine ⟨fun z => absurd k z, fun _ => ?_⟩
              rintro x28 rfl
              exact h
            · rw [if_neg k] at h
              refine ⟨fun _ => ?_, fun z => absurd z k⟩
              rintro x25 rfl
              rintro x26 rfl
              rintro x27 rfl
              exact h
          · simp only [if_neg j] at h
            refine ⟨fun z => absurd z j, fun _ => ?_⟩
            by_cases k : q = 0
            · rw [if_pos k] at h
              refine ⟨fun z => absurd k z, fun _ => ?_⟩
              rintro x28 rfl
              exact h
            · rw [if_neg k] at h
              refine ⟨fun _ => ?_, fun z => absurd z k⟩
              rintro x25 rfl
              rintro x26 rfl
              rintro x27 rfl
              exact h
        · rw [if_neg g] at h
          refine ⟨fun _ => ?_, fun z => absurd z g⟩
          rintro x23 rfl
          rintro x24 rfl
          exact h
      · rw [if_neg e] at h
        refine ⟨fun z => absurd z e, fun _ => ?_⟩
        rintro x21 rfl
        exact h
    · simp only [if_neg c1] at h
      refine ⟨fun z => absurd z c1, fun _ => ?_⟩
      by_cases c : l ≤ 0
      · simp only [if_pos c] at h
        refine ⟨fun _ => ?_, fun z => absurd c z⟩
        by_cases e : x2 ≤ t
        · rw [if_pos e] at h
          refine ⟨fun _ => ?_, fun z => absurd e z⟩
          by_cases g : b = 0
          · rw [if_pos g] at h
            refine ⟨fun z => absurd g z, fun _ => ?_⟩
            by_cases j : f ≤ q
            · simp only [if_pos j] at h
              refine ⟨fun _ => ?_, fun z => absurd j z⟩
              by_cases k : q = 0
              · rw [if_pos k] at h
                refine ⟨fun z => absurd k z, fun _ => ?_⟩
                rintro x28 rfl
                exact h
              · rw [if_neg k] at h
                refine ⟨fun _ => ?_, fun z => absurd z k⟩
                rintro x25 rfl
                rintro x26 rfl
                rintro x27 rfl
                exact h
            · simp only [if_neg j] at h
              refine ⟨fun z => absurd z j, fun _ => ?_⟩
              by_cases k : q = 0
              · rw [if_pos k] at h
                refine ⟨fun z => absurd k z, fun _ => ?_⟩
                rintro x28 rfl
                exact h
              · rw [if_neg k] at h
                refine ⟨fun _ => ?_, fun z => absurd z k⟩
                rintro x25 rfl
                rintro x26 rfl
                rintro x27 rfl
                exact h
          · rw [if_neg g] at h
            refine ⟨fun _ => ?_, fun z => absurd z g⟩
            rintro x23 rfl
            rintro x24 rfl
            exact h
        · rw [if_neg e] at h
          refine ⟨fun z => absurd z e, fun _ => ?_⟩
          rintro x21 rfl
          exact h
      · simp only [if_neg c] at h
        refine ⟨fun z => absurd z c, fun _ => ?_⟩
        rintro x75 rfl
        rintro x76 rfl
        by_cases e : x2 ≤ t
        · rw [if_pos e] at h
          refine ⟨fun _ => ?_, fun z => absurd e z⟩
          by_cases g : b = 0
          · rw [if_pos g] at h
            refine ⟨fun z => absurd g z, fun _ => ?_⟩
            by_cases j : f ≤ (q + 1)
            · simp only [if_pos j] at h
              refine ⟨fun _ => ?_, fun z => absurd j z⟩
              by_cases k : (q + 1) = 0
              · rw [if_pos k] at h
                refine ⟨fun z => absurd k z, fun _ => ?_⟩
                rintro x28 rfl
                exact h
              · rw [if_neg k] at h
                refine ⟨fun _ => ?_, fun z => absurd z k⟩
                rintro x25 rfl
                rintro x26 rfl
                rintro x27 rfl
                exact h
            · simp only [if_neg j] at h
              refine ⟨fun z => absurd z j, fun _ => ?_⟩
              by_cases k : (q + 1) = 0
              · rw [if_pos k] at h
                refine ⟨fun z => absurd k z, fun _ => ?_⟩
                rintro x28 rfl
                exact h
              · rw [if_neg k] at h
                refine ⟨fun _ => ?_, fun z => absurd z k⟩
                rintro x25 rfl
                rintro x26 rfl
                rintro x27 rfl
                exact h
          · rw [if_neg g] at h
            refine ⟨fun _ => ?_, fun z => absurd z g⟩
            rintro x23 rfl
            rintro x24 rfl
            exact h
        · rw [if_neg e] at h
          refine ⟨fun z => absurd z e, fun _ => ?_⟩
          rintro x21 rfl
          exact h
