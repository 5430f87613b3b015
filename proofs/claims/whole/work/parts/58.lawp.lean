/-! THE CLAIM OUT OF ONE WALK OF THE LAW'S BODY. Your part is whole_start (and what it stands on); all else here is the same for every law, but numbers. -/
def R_law : String := "PictureBeatsLaw"
def lw_P (b : Addr) (xs : List Int32) (args : Array Value) (s : State) : Prop := args = #[.ref b] ∧ s.IntsAt b xs ∧ xs.length ≤ 3584 ∧ (Jvm.Cond.and given_1 narrow_1).before args s = true
def lw_Q (_ : Array Value) (s : State) (o : Outcome) (t : State) : Prop := o = .returned (some (.int 1)) ∧ Framed s o t [] 1200000 5502250
def lw_Z (below : List Frame) (a : Array Value) (s : State) : State → Prop := fun t => ∃ o, t.status = .running ∧ Ended t below o ∧ lw_Q a s o t
/-- the law's own end, with 1 on the stack, nothing written that was there before, its room as the claim has it -/
theorem lw_ret {p : Program} {l : Launch} {e : Env} {s : State} {m : MethodId} {below : List Frame} {meth : Method} {c : Code} {b : Nat} (hx : p.tables.exec = Jvm.exec) (hb : c.code = code) (hr : meth.sig.returnType = ret) (hlocks : meth.locks = false) {pc : Nat} {H : Heap} {ls : Array Slot} (hdg : decode code pc = .ok (.ireturn, 1)) : W p l e room_1 s m #[Value.ref b] below meth c H [] 1200000 5502250 (lw_Z below #[Value.ref b] s) (F0 m pc ls [.int 1]) := by
  intro T hT X
  obtain ⟨fs, hret, hrun, hended, hW, hframe⟩ := X.leave (v := some (.int 1)) (hlocks := hlocks) (fun h => by rw [hr] at h; cases h)
  have hmeth' : T.vm.method? m = some meth := X.method'
  refine ⟨T.setFrames fs, ?_, .returned (some (.int 1)), hrun, hended, rfl, ⟨_, rfl⟩, hW, hframe⟩
  jvm_step X.here [X.here.top, hx, hb, hdg, hmeth', hr, ret, narrow_b1]
  (try refine ⟨rfl, ?_⟩); (try refine ⟨rfl, ?_⟩)
  first | (intro acts; rw [hret _ acts rfl rfl rfl]) | rw [hret _ _ rfl rfl rfl]
  exact Steps.refl _
/-- what holds at the law's entry: the machine, the code, the tables' words (any of lw_tbl by 'hts w (by decide +kernel)'), the script of L ints xs at the cell b, what the Statement gives of the start (any of its parts by flat_of_before) -/
def lw_At (p : Program) (s : State) (m : MethodId) (meth : Method) (c : Code) (b L : Nat) (xs : Nat → Int32) : Prop :=
  p.tables.exec = Jvm.exec ∧ c.code = code ∧ meth.sig.returnType = ret ∧ c.maxLocals = 4 ∧ s.vm.findClass R_law = some m.cls ∧ (∀ w ∈ lw_tbl, w.before #[Value.ref b] s = true) ∧ va_X b L xs s s.heap ∧ b < s.heap.size ∧ meth.locks = false ∧ (Jvm.Cond.and given_1 narrow_1).before #[Value.ref b] s = true
/-! ===== what holds at the law's start ===== -/
theorem lw_hi {s : State} {args : Array Value} (hgv : (Jvm.Cond.and given_1 narrow_1).before args s = true) : ∃ tb : Nat, (Term.static RX8 "HIGHEST_OF_REGISTER" "[I").eval args s none [] s = some (.ref tb) ∧ va_T .int tb 5 (fun j => .int (x_hi j)) (fun q : Nat => s.heap.size ≤ q) s s.heap := by
  have hs := flat_of_before _ hgv
  have harr : (Cond.arrayOf (.static RX8 "HIGHEST_OF_REGISTER" "[I") .int).before args s = true := hs _ (by decide +kernel)
  have hlen : (Cond.eq (.length (.static RX8 "HIGHEST_OF_REGISTER" "[I")) (.int 5)).before args s = true := hs _ (by decide +kernel)
  have e0 : (Cond.eq (.elem (.static RX8 "HIGHEST_OF_REGISTER" "[I") (.int 0)) (.int 1023)).before args s = true := hs _ (by decide +kernel)
  have e1 : (Cond.eq (.elem (.static RX8 "HIGHEST_OF_REGISTER" "[I") (.int 1)) (.int 64)).before args s = true := hs _ (by decide +kernel)
  have e2 : (Cond.eq (.elem (.static RX8 "HIGHEST_OF_REGISTER" "[I") (.int 2)) (.int 7)).before args s = true := hs _ (by decide +kernel)
  have e3 : (Cond.eq (.elem (.static RX8 "HIGHEST_OF_REGISTER" "[I") (.int 3)) (.int 255)).before args s = true := hs _ (by decide +kernel)
  have e4 : (Cond.eq (.elem (.static RX8 "HIGHEST_OF_REGISTER" "[I") (.int 4)) (.int 255)).before args s = true := hs _ (by decide +kernel)
  refine va_Tof (by decide) harr (va_eqt hlen) (fun j hj => ?_) (fun a h => Nat.not_le.mpr h)
  match j, hj with
  | 0, _ => exact va_eqt e0
  | 1, _ => exact va_eqt e1
  | 2, _ => exact va_eqt e2
  | 3, _ => exact va_eqt e3
  | 4, _ => exact va_eqt e4
  | (n + 5), h => exact absurd h (by omega)
theorem lw_N {s : State} {args : Array Value} (hts : ∀ w ∈ lw_tbl, w.before args s = true) (hgv : (Jvm.Cond.and given_1 narrow_1).before args s = true) : x_N (fun q : Nat => s.heap.size ≤ q) s := by
  obtain ⟨tb, ht, hT⟩ := lw_hi hgv
  have hZ := va_Zof (hts (.laysStatic RX8 "HIGHEST_OF_REGISTER" "[I") (by decide +kernel)) (hts (.initialized RX8) (by decide +kernel)) ht (A := fun q : Nat => s.heap.size ≤ q) (fun a h => Nat.not_le.mpr h)
  exact ⟨⟨va_Nw.of rfl (hts (.methodLinkNest RX3 11 yX0_init RX8) (by decide +kernel)), va_Nw.of rfl (hts (.methodLinkNest RX0 11 yX4_init RX8) (by decide +kernel)), va_Nw.of rfl (hts (.methodLinkNest RX3 20 yX2_init RX8) (by decide +kernel)), va_Nw.of rfl (hts (.methodLinkNest RX3 27 yX5_init RX8) (by decide +kernel)), va_Nw.of rfl (hts (.methodLinkNest RX3 34 yX1_init RX8) (by decide +kernel)), va_Nw.of rfl (hts (.methodLinkNest RX3 41 yX7_init RX8) (by decide +kernel)), va_Nw.of rfl (hts (.fieldLinkNest RX5 15 RX8 "HIGHEST_OF_REGISTER" "[I" RX8) (by decide +kernel)), va_Nw.of rfl (hts (.methodLinkNest RX5 18 yX8_within RX8) (by decide +kernel)), va_Nw.of rfl (hts (.methodLinkNest RX3 152 yX8_bytesOfLine RX8) (by decide +kernel)), va_Nw.of rfl (hts (.methodLinkNest RX3 186 yX8_placeOf RX8) (by decide +kernel)), va_Nw.of rfl (hts (.methodLinkNest RX7 45 yX8_within RX8) (by decide +kernel))⟩, va_AO.of (hts (.arrayOver (.object RX3)) (by decide +kernel)), tb, hZ, hT⟩

theorem lw_K {s : State} {args : Array Value} (hts : ∀ w ∈ wsL_law, w.before args s = true) (ht2 : ∀ w ∈ lw_tbl, w.before args s = true) : ∃ (D : va_G) (cT : Nat → ClassId), va_K D vwCl (x_ty cT) s := by
  obtain ⟨c0, i0, h0⟩ := u_known (C := RX0) (T := TX0) (N := 7) (n := 7) hts (by decide +kernel) (hts (.instantiable RX0 7) (by decide +kernel))
  obtain ⟨c1, i1, h1⟩ := u_known (C := RX1) (T := TX1) (N := 5) (n := 5) hts (by decide +kernel) (hts (.instantiable RX1 5) (by decide +kernel))
  obtain ⟨c2, i2, h2⟩ := u_known (C := RX2) (T := TX2) (N := 11) (n := 11) hts (by decide +kernel) (hts (.instantiable RX2 11) (by decide +kernel))
  obtain ⟨c3, i3, h3⟩ := u_known (C := RX3) (T := TX3) (N := 12) (n := 12) hts (by decide +kernel) (hts (.instantiable RX3 12) (by decide +kernel))
  obtain ⟨c4, i4, h4⟩ := u_known (C := RX4) (T := TX4) (N := 3) (n := 3) hts (by decide +kernel) (hts (.instantiable RX4 3) (by decide +kernel))
  obtain ⟨c5, i5, h5⟩ := u_known (C := RX5) (T := TX5) (N := 1) (n := 1) hts (by decide +kernel) (hts (.instantiable RX5 1) (by decide +kernel))
  obtain ⟨c6, i6, h6⟩ := u_known (C := RX6) (T := TX6) (N := 4) (n := 4) hts (by decide +kernel) (hts (.instantiable RX6 4) (by decide +kernel))
  obtain ⟨c7, i7, h7⟩ := u_known (C := RX7) (T := TX7) (N := 5) (n := 5) hts (by decide +kernel) (hts (.instantiable RX7 5) (by decide +kernel))
  obtain ⟨c8, i8, h8⟩ := u_known (C := RX8) (T := TX8) (N := 2) (n := 2) hts (by decide +kernel) (hts (.instantiable RX8 2) (by decide +kernel))
  obtain ⟨c9, i9, h9⟩ := u_known (C := RX9) (T := TX9) (N := 2) (n := 2) hts (by decide +kernel) (hts (.instantiable RX9 2) (by decide +kernel))
  obtain ⟨cA, kA, compA, fA, gA, kindA⟩ := Cond.arrayClass_spec (ht2 (.arrayClass .int) (by decide +kernel))
  obtain ⟨cB, kB, compB, fB, gB, kindB⟩ := Cond.arrayClass_spec (ht2 (.arrayClass .boolean) (by decide +kernel))
  obtain ⟨comp, cC, kC, f1, f2, f3, f4, f5⟩ := Cond.arrayOver_spec (ht2 (.arrayOver (.object RX3)) (by decide +kernel))
  refine ⟨(fun k => if k = 0 then c0 else if k = 1 then c1 else if k = 2 then c2 else if k = 3 then c3 else if k = 4 then c4 else if k = 5 then c5 else if k = 6 then c6 else if k = 7 then c7 else if k = 8 then c8 else c9, fun k => if k = 0 then i0 else if k = 1 then i1 else if k = 2 then i2 else if k = 3 then i3 else if k = 4 then i4 else if k = 5 then i5 else if k = 6 then i6 else if k = 7 then i7 else if k = 8 then i8 else i9), fun k => if k = 0 then cA else if k = 1 then cB else cC, ?_, ?_⟩
  · intro k q hq
    match k, hq with
    | 0, hq => cases hq; exact h0
    | 1, hq => cases hq; exact h1
    | 2, hq => cases hq; exact h2
    | 3, hq => cases hq; exact h3
    | 4, hq => cases hq; exact h4
    | 5, hq => cases hq; exact h5
    | 6, hq => cases hq; exact h6
    | 7, hq => cases hq; exact h7
    | 8, hq => cases hq; exact h8
    | 9, hq => cases hq; exact h9
    | (n + 10), hq => simp [vwCl] at hq
  · intro k q hq
    match k, hq with
    | 0, hq => cases hq; exact ⟨fun n z => ⟨fun k h => (by cases h), kA, gA, compA, kindA⟩, fA⟩
    | 1, hq => cases hq; exact ⟨fun n z => ⟨fun k h => (by cases h), kB, gB, compB, kindB⟩, fB⟩
    | 2, hq => cases hq; exact ⟨fun n z => ⟨fun k h => (by cases h), kC, f3, comp, f4⟩, kC, comp, f3, f4, f1, f5⟩
    | (n + 3), hq => simp [x_ty] at hq
/-! ===== the law's world ===== -/
def iw (cT : Nat → ClassId) (im : Nat → Option Nat) (ia : Nat → Nat → Nat) (IM : Nat → ST) (k : Nat) : va_W := match im k with
  | none => []
  | some _ => w_Machine cT (ia k) (IM k)
theorem iw_none {cT : Nat → ClassId} {im : Nat → Option Nat} {ia : Nat → Nat → Nat} {IM : Nat → ST} {k : Nat} (h : im k = none) : iw cT im ia IM k = [] := by unfold iw; rw [h]
theorem iw_some {cT : Nat → ClassId} {im : Nat → Option Nat} {ia : Nat → Nat → Nat} {IM : Nat → ST} {k q : Nat} (h : im k = some q) : iw cT im ia IM k = w_Machine cT (ia k) (IM k) := by unfold iw; rw [h]
theorem iw_cg {cT : Nat → ClassId} {im im' : Nat → Option Nat} {ia ia' : Nat → Nat → Nat} {IM IM' : Nat → ST} {k : Nat} (h1 : im' k = im k) (h2 : ia' k = ia k) (h3 : IM' k = IM k) : iw cT im' ia' IM' k = iw cT im ia IM k := by unfold iw; rw [h1, h2, h3]
def wI (cT : Nat → ClassId) (im : Nat → Option Nat) (ia : Nat → Nat → Nat) (IM : Nat → ST) : va_W := iw cT im ia IM 0 ++ (iw cT im ia IM 1 ++ iw cT im ia IM 2)
def wO (cT : Nat → ClassId) (im : Nat → Option Nat) (ia : Nat → Nat → Nat) (IM : Nat → ST) (k : Nat) : va_W := if k = 0 then iw cT im ia IM 1 ++ iw cT im ia IM 2 else if k = 1 then iw cT im ia IM 0 ++ iw cT im ia IM 2 else iw cT im ia IM 0 ++ iw cT im ia IM 1
theorem wI_sp (cT : Nat → ClassId) (im : Nat → Option Nat) (ia : Nat → Nat → Nat) (IM : Nat → ST) {k : Nat} (hk : k < 3) : (wI cT im ia IM).Perm (iw cT im ia IM k ++ wO cT im ia IM k) := by
  unfold wI wO
  rcases (show k = 0 ∨ k = 1 ∨ k = 2 by omega) with rfl | rfl | rfl
  · exact List.Perm.refl _
  · show (iw cT im ia IM 0 ++ (iw cT im ia IM 1 ++ iw cT im ia IM 2)).Perm (iw cT im ia IM 1 ++ (iw cT im ia IM 0 ++ iw cT im ia IM 2))
    rw [← List.append_assoc, ← List.append_assoc]
    exact List.Perm.append_right _ List.perm_append_comm
  · show (iw cT im ia IM 0 ++ (iw cT im ia IM 1 ++ iw cT im ia IM 2)).Perm (iw cT im ia IM 2 ++ (iw cT im ia IM 0 ++ iw cT im ia IM 1))
    rw [← List.append_assoc]
    exact List.perm_append_comm
theorem wO_cg {cT : Nat → ClassId} {im im' : Nat → Option Nat} {ia ia' : Nat → Nat → Nat} {IM IM' : Nat → ST} {k : Nat} (hk : k < 3) (h1 : ∀ j, j ≠ k → im' j = im j) (h2 : ∀ j, j ≠ k → ia' j = ia j) (h3 : ∀ j, j ≠ k → IM' j = IM j) : wO cT im' ia' IM' k = wO cT im ia IM k := by
  have e : ∀ j, j ≠ k → iw cT im' ia' IM' j = iw cT im ia IM j := fun j hj => iw_cg (h1 j hj) (h2 j hj) (h3 j hj)
  unfold wO
  rcases (show k = 0 ∨ k = 1 ∨ k = 2 by omega) with rfl | rfl | rfl
  · show iw cT im' ia' IM' 1 ++ iw cT im' ia' IM' 2 = iw cT im ia IM 1 ++ iw cT im ia IM 2
    rw [e 1 (by decide), e 2 (by decide)]
  · show iw cT im' ia' IM' 0 ++ iw cT im' ia' IM' 2 = iw cT im ia IM 0 ++ iw cT im ia IM 2
    rw [e 0 (by decide), e 2 (by decide)]
  · show iw cT im' ia' IM' 0 ++ iw cT im' ia' IM' 1 = iw cT im ia IM 0 ++ iw cT im ia IM 1
    rw [e 0 (by decide), e 1 (by decide)]
def wL (cT : Nat → ClassId) (a : Nat → Nat) (MB : ST) (im : Nat → Option Nat) (bm : Nat → Nat) (N : ST) (ia : Nat → Nat → Nat) (IM : Nat → ST) : va_W := w_PB cT a MB im ++ (w_Model cT bm N ++ wI cT im ia IM)
theorem pm_M (x y z : va_W) : (x ++ (y ++ z)).Perm (y ++ (x ++ z)) := by
  rw [← List.append_assoc, ← List.append_assoc]
  exact List.Perm.append_right _ List.perm_append_comm
/-- image k beside the class's own cells; the rest -/
theorem pm_I (x y : va_W) {w i o : va_W} (h : w.Perm (i ++ o)) : (x ++ (y ++ w)).Perm ((x ++ i) ++ (y ++ o)) := by
  rw [List.append_assoc]
  refine List.Perm.append_left _ ?_
  refine (List.Perm.append_left y h).trans ?_
  exact pm_M y i o
section LW
variable {p : Program} {l : Launch} {e : Env} {s : State} {m : MethodId} {below : List Frame} {meth : Method} {c : Code} {H : Heap} {locs : List Loc} {cells slots : Nat} {Q : State → Prop}
variable {cc : ByteArray} {pc : Nat} {ls : Array Slot} {rest : List Value} {R : Room} {args : Array Value}
def nz (v : Int32) : Int32 := if v = 0 then 0 else 1
theorem nz_b (v : Int32) : x_bool (nz v) := by
  unfold nz
  split
  · exact Or.inl rfl
  · exact Or.inr rfl
/-- an int of the script, read at a place behind i -/
theorem x_arg (hx : p.tables.exec = Jvm.exec) (hb : c.code = cc) {b L i : Nat} {xs : Nat → Int32} (hX : va_X b L xs s s.heap) (hbl : b < s.heap.size) (hS : va_S (fun q : Nat => s.heap.size ≤ q) s.heap H locs) (h0 : ls[0]? = some (.val (.ref b))) (h3 : ls[3]? = some (.val (.int (nI i)))) (j : Nat) {n : Int} (hn : Int32.ofInt n = nI j) (hi : i + j < L) (hL : L ≤ 3584)
    (d0 : decode cc pc = .ok (.aload_n 0, 1)) (d1 : decode cc (pc + 1) = .ok (.iload_n 3, 1)) (d2 : decode cc (pc + 2) = .ok (.iconst n, 1)) (d3 : decode cc (pc + 3) = .ok (.iadd, 1)) (d4 : decode cc (pc + 4) = .ok (.iaload, 1))
    (kk : W p l e R s m args below meth c H locs cells slots Q (F0 m (pc + 5) ls (.int (xs (i + j)) :: rest))) : W p l e R s m args below meth c H locs cells slots Q (F0 m pc ls rest) := by
  refine lv_aload_n hx hb d0 rfl h0 ?_
  refine lv_iload_n hx hb d1 rfl h3 ?_
  refine lv_iconst (v := nI j) hx hb d2 hn ?_
  refine lv_iadd hx hb d3 ?_
  refine va_sld hx hb hX hbl (Nat.not_le.mpr hbl) hS (i := nI i + nI j) (by rw [nI_add]; exact vp_in_nI hi (by omega)) d4 ?_
  rw [nI_add, nI_clamp (by omega)]
  exact kk
theorem x_argb (hx : p.tables.exec = Jvm.exec) (hb : c.code = cc) {b L i : Nat} {xs : Nat → Int32} (hX : va_X b L xs s s.heap) (hbl : b < s.heap.size) (hS : va_S (fun q : Nat => s.heap.size ≤ q) s.heap H locs) (h0 : ls[0]? = some (.val (.ref b))) (h3 : ls[3]? = some (.val (.int (nI i)))) (j : Nat) {n : Int} (hn : (Int8.ofInt n).toInt32 = nI j) (hi : i + j < L) (hL : L ≤ 3584)
    (d0 : decode cc pc = .ok (.aload_n 0, 1)) (d1 : decode cc (pc + 1) = .ok (.iload_n 3, 1)) (d2 : decode cc (pc + 2) = .ok (.bipush n, 2)) (d3 : decode cc (pc + 4) = .ok (.iadd, 1)) (d4 : decode cc (pc + 5) = .ok (.iaload, 1))
    (kk : W p l e R s m args below meth c H locs cells slots Q (F0 m (pc + 6) ls (.int (xs (i + j)) :: rest))) : W p l e R s m args below meth c H locs cells slots Q (F0 m pc ls rest) := by
  refine lv_aload_n hx hb d0 rfl h0 ?_
  refine lv_iload_n hx hb d1 rfl h3 ?_
  refine lv_bipush (v := nI j) hx hb d2 hn ?_
  refine lv_iadd hx hb d3 ?_
  refine va_sld hx hb hX hbl (Nat.not_le.mpr hbl) hS (i := nI i + nI j) (by rw [nI_add]; exact vp_in_nI hi (by omega)) d4 ?_
  rw [nI_add, nI_clamp (by omega)]
  exact kk
/-- whether an int is not 0 -/
theorem x_nzr (hx : p.tables.exec = Jvm.exec) (hb : c.code = cc) {v : Int32} (d0 : decode cc pc = .ok (.ifCond .eq 7, 3)) (d1 : decode cc (pc + 3) = .ok (.iconst 1, 1)) (d2 : decode cc (pc + 4) = .ok (.goto 4, 3)) (d3 : decode cc (pc + 7) = .ok (.iconst 0, 1))
    (kk : W p l e R s m args below meth c H locs cells slots Q (F0 m (pc + 8) ls (.int (nz v) :: rest))) : W p l e R s m args below meth c H locs cells slots Q (F0 m pc ls (.int v :: rest)) := by
  refine lv_if_eq (tgt := pc + 7) hx hb d0 (by omega) (fun h => ?_) (fun h => ?_)
  · refine lv_iconst (v := nz v) hx hb d3 (by unfold nz; rw [if_pos h]; rfl) ?_
    exact kk
  · refine lv_iconst (v := nz v) hx hb d1 (by unfold nz; rw [if_neg h]; rfl) ?_
    refine lv_goto (tgt := pc + 8) hx hb d2 (by omega) ?_
    exact kk
/-- what holds through the law's whole run -/
def lwX (p : Program) (s : State) (m : MethodId) (meth : Method) (c : Code) (b L : Nat) (xs : Nat → Int32) (D : va_G) (cT : Nat → ClassId) : Prop := lw_At p s m meth c b L xs ∧ L ≤ 3584 ∧ va_K D vwCl (x_ty cT) s ∧ x_N (fun q : Nat => s.heap.size ≤ q) s ∧ ∀ w ∈ wsL_law, w.before #[Value.ref b] s = true
/-- the law at a place of its body, both sides alike: it comes to its end -/
def lwI (p : Program) (l : Launch) (e : Env) (s : State) (m : MethodId) (below : List Frame) (meth : Method) (c : Code) (b : Nat) (D : va_G) (cT : Nat → ClassId) (a bm : Nat → Nat) (ls : Array Slot) (cells slots pc : Nat) : Prop := ∀ (MB N : ST) (im : Nat → Option Nat) (ia : Nat → Nat → Nat) (IM : Nat → ST) (H : Heap) (locs : List Loc), INV MB N im ia IM → va_P D vwCl (wL cT a MB im bm N ia IM) H → va_D (fun q : Nat => s.heap.size ≤ q) (wL cT a MB im bm N ia IM) → va_S (fun q : Nat => s.heap.size ≤ q) s.heap H locs → W p l e room_1 s m #[Value.ref b] below meth c H locs cells slots (lw_Z below #[Value.ref b] s) (F0 m pc ls [])
end LW
