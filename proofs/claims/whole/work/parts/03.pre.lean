abbrev ST : Type := Nat → Nat → Int32
def x_sh {α : Type} (f : Nat → α) (k : Nat) : Nat → α := fun i => f (k + i)
def x_wb (M : ST) (k n : Nat) (u : ST) : ST := fun i => if i < k then M i else if i < k + n then u (i - k) else M i
def x_st (M : ST) (i k : Nat) (v : Int32) : ST := fun j => if j = i then upd (M i) k v else M j
def x_hi (j : Nat) : Int32 := if j = 0 then 1023 else if j = 1 then 64 else if j = 2 then 7 else 255
abbrev x_ty (cT : Nat → ClassId) : List (ClassId × FieldType) := [(cT 0, .int), (cT 1, .boolean), (cT 2, .object RX3)]
/-- the tables' words on nest mates, and the static row of highest values: where it lies nothing is written -/
def x_N (A : Nat → Prop) (U : State) : Prop :=
  (va_Nw (.methodLinkNest RX3 11 yX0_init RX8) U ∧ va_Nw (.methodLinkNest RX0 11 yX4_init RX8) U ∧ va_Nw (.methodLinkNest RX3 20 yX2_init RX8) U ∧ va_Nw (.methodLinkNest RX3 27 yX5_init RX8) U ∧ va_Nw (.methodLinkNest RX3 34 yX1_init RX8) U ∧ va_Nw (.methodLinkNest RX3 41 yX7_init RX8) U ∧ va_Nw (.fieldLinkNest RX5 15 RX8 "HIGHEST_OF_REGISTER" "[I" RX8) U ∧ va_Nw (.methodLinkNest RX5 18 yX8_within RX8) U ∧ va_Nw (.methodLinkNest RX3 152 yX8_bytesOfLine RX8) U ∧ va_Nw (.methodLinkNest RX3 186 yX8_placeOf RX8) U ∧ va_Nw (.methodLinkNest RX7 45 yX8_within RX8) U) ∧ va_AO RX3 U ∧
  ∃ tb : Nat, va_Z RX8 "HIGHEST_OF_REGISTER" "[I" (.ref tb) A U U.heap ∧ va_T .int tb 5 (fun j => .int (x_hi j)) A U U.heap
/-- at another state that the same tables hold, whose heap is the same where nothing is written -/
theorem x_N.at {A B : Nat → Prop} {s U : State} (h : x_N A s) (hW : s.WarmedH U.vm) (hk : ∀ q : Nat, q < s.heap.size → ¬ A q → U.heap[q]? = s.heap[q]?) (hAB : ∀ q, B q → A q) : x_N B U := by
  obtain ⟨⟨h1, h2, h3, h4, h5, h6, h7, h8, h9, h10, h11⟩, hO, tb, hz, ht⟩ := h
  exact ⟨⟨va_Nw.warmM hW h1, va_Nw.warmM hW h2, va_Nw.warmM hW h3, va_Nw.warmM hW h4, va_Nw.warmM hW h5, va_Nw.warmM hW h6, va_Nw.warmF hW h7, va_Nw.warmM hW h8, va_Nw.warmM hW h9, va_Nw.warmM hW h10, va_Nw.warmM hW h11⟩, hO.moved hW.alike, tb, ((hz.kept hk).narrow hAB).moved hW.alike, ((ht.kept hk).narrow hAB).moved hW.alike⟩
theorem x_N.blind {A : Nat → Prop} {U : State} {g : JFrame} {mk : MethodId} {a : Array Value} (h : x_N A U) : x_N A (U.calling g mk a) := by
  obtain ⟨⟨h1, h2, h3, h4, h5, h6, h7, h8, h9, h10, h11⟩, hO, tb, hz, ht⟩ := h
  have e : U.vm = (U.calling g mk a).vm := rfl
  exact ⟨⟨va_Nw.same rfl e h1, va_Nw.same rfl e h2, va_Nw.same rfl e h3, va_Nw.same rfl e h4, va_Nw.same rfl e h5, va_Nw.same rfl e h6, va_Nw.same rfl e h7, va_Nw.same rfl e h8, va_Nw.same rfl e h9, va_Nw.same rfl e h10, va_Nw.same rfl e h11⟩, hO.moved (Vm.Alike.refl U.vm), tb, hz.moved (U := U.calling g mk a) (Vm.Alike.refl U.vm), ht.moved (U := U.calling g mk a) (Vm.Alike.refl U.vm)⟩
/-- a contract's start: of a method that writes; of one that reads -/
def x_U (D : va_G) (cT : Nat → ClassId) (ws : va_W) (sz : Nat) (U : State) : Prop := U.heap.size = sz ∧ va_P D vwCl ws U.heap ∧ va_K D vwCl (x_ty cT) U ∧ va_D (fun _ => True) ws ∧ x_N (va_A ws sz) U
def x_R (D : va_G) (cT : Nat → ClassId) (ws : va_W) (U : State) : Prop := va_P D vwCl ws U.heap ∧ va_K D vwCl (x_ty cT) U ∧ x_N (fun _ => False) U
def x_B (D : va_G) (cT : Nat → ClassId) (ws : va_W) (A : Nat → Prop) (t : State) : Prop := va_P D vwCl ws t.heap ∧ va_K D vwCl (x_ty cT) t ∧ va_D A ws
theorem x_U.blind {av : List Value} {D : va_G} {cT : Nat → ClassId} {ws : va_W} {sz : Nat} : FrameBlind (va_Pc av (x_U D cT ws sz)) := fun a U g mk q => by
  obtain ⟨q0, q1, qP, qK, qD, qN⟩ := q
  exact ⟨q0, q1, qP, va_K.moved (u := U) (U := U.calling g mk a) (Vm.Alike.refl U.vm) qK, qD, qN.blind⟩
theorem x_R.blind {av : List Value} {D : va_G} {cT : Nat → ClassId} {ws : va_W} : FrameBlind (va_Pc av (x_R D cT ws)) := fun a U g mk q => by
  obtain ⟨q0, qP, qK, qN⟩ := q
  exact ⟨q0, qP, va_K.moved (u := U) (U := U.calling g mk a) (Vm.Alike.refl U.vm) qK, qN.blind⟩
def x_pk (ws : va_W) (is : List Nat) : va_W := is.filterMap (fun i => ws[i]?)
theorem x_P_D_sub {A : Nat → Prop} {D : va_G} {ws wn : va_W} {H : Heap} (hP : va_P D vwCl ws H) (hD : va_D A ws) (is : List Nat) (hn : va_nd is = true) (hs : is.map (fun i => ws[i]?) = wn.map some) : va_P D vwCl wn H ∧ va_D A wn := by
  refine ⟨fun k q hk => ?_, hD.sub is hn hs⟩
  have h1 : (is.map (fun i => ws[i]?))[k]? = some (some q) := by rw [hs, List.getElem?_map, hk]; rfl
  rw [List.getElem?_map] at h1
  cases hi : is[k]? with
  | none => rw [hi] at h1; cases h1
  | some i => rw [hi] at h1; exact hP i q (Option.some.inj h1)
section XC
variable {p : Program} {l : Launch} {e : Env} {R : Room} {s : State} {m : MethodId} {args : Array Value} {below : List Frame} {meth : Method} {c : Code} {H : Heap} {locs : List Loc} {cells slots : Nat} {Q : State → Prop}
variable {y : MethodName} {bytes cc : ByteArray} {maxL nL n index : Nat} {ret : Option FieldType} {wsy : List Cond} {rm : Room} {Ts : List Cond} {own C : String} {b : Addr} {As rest st0 : List Value} {pc : Nat} {ls : Array Slot}
variable {D : va_G} {cT : Nat → ClassId} {ws wc : va_W} {wf wn : ST → va_W} {A : Nat → Prop} {T : u_T} {N : Nat} {fs : List Value} {host : String}
/-- a call of a reader of an object -/
theorem x_rV {post : Int32 → Prop} (S : CallFix p m c cc nL s args Ts own) (hM : Met l y wsy rm (va_Pc (.ref b :: As) (x_R D cT wc)) (vp_Si post) 0 0 (fun _ => False)) (cw : CallW R s args own C index y bytes maxL ret wsy rm 0 0 n)
    (hK : va_K D vwCl (x_ty cT) s) (hP : va_P D vwCl ws H) (hS : va_S A s.heap H locs) (hN : x_N A s) (isC : List Nat) (hC : isC.filterMap (fun i => ws[i]?) = wc) (ci q0 : Nat) (hc : vwCl[ci]? = some (C, T, N)) (he : wc[q0]? = some (b, .inr (ci, fs)))
    (hn : As.length = n) (hsize : ls.size = nL) (hstack : st0 = As.reverse ++ .ref b :: rest) (hW : (rest.map fun v => v.category).sum ≤ 8) (hdg : decode cc pc = .ok (.invokevirtual index, 3)) (hf : cells ≤ R.cells ∧ slots ≤ R.slots)
    (kk : ∀ r : Int32, post r → W p l e R s m args below meth c H locs cells slots Q (F0 m (pc + 3) ls (.int r :: rest))) : W p l e R s m args below meth c H locs cells slots Q (F0 m pc ls st0) := by
  have hPc : va_P D vwCl wc H := hP.sub isC hC
  exact vp_callSi (va_Run.run (va_runV S hM cw ⟨x_R.blind, va_recv hK hPc (q := (C, T, N)) (ci := ci) (q0 := q0) hc he, fun U hU hW2 => ⟨rfl, by rw [hU]; exact hPc, va_K.moved hW2.alike hK, hN.at hW2 (fun q h1 h2 => by rw [hU]; exact hS.2.1 q h1 h2) (fun _ h => h.elim)⟩⟩ rfl hn hsize hstack (lv_room (m := m) (pc := pc) (ls := ls) (rest := st0) hW) hdg hf)) kk
/-- a call of a static reader -/
theorem x_rS {post : Int32 → Prop} (S : CallFix p m c cc nL s args Ts own) (hM : Met l y wsy rm (va_Pc As (x_R D cT [])) (vp_Si post) 0 0 (fun _ => False)) (cw : CallB R s args own index y bytes maxL ret wsy rm 0 0 n ∧ (Cond.static y).before args s = true)
    (hK : va_K D vwCl (x_ty cT) s) (hS : va_S A s.heap H locs) (hN : x_N A s)
    (hn : As.length = n) (hsize : ls.size = nL) (hstack : st0 = As.reverse ++ rest) (hW : (rest.map fun v => v.category).sum ≤ 8) (hdg : decode cc pc = .ok (.invokestatic index, 3)) (hf : cells ≤ R.cells ∧ slots ≤ R.slots)
    (kk : ∀ r : Int32, post r → W p l e R s m args below meth c H locs cells slots Q (F0 m (pc + 3) ls (.int r :: rest))) : W p l e R s m args below meth c H locs cells slots Q (F0 m pc ls st0) := by
  exact vp_callSi (va_Run.run (va_runS S hM cw ⟨x_R.blind, fun U hU hW2 => ⟨rfl, fun k q h => by simp at h, va_K.moved hW2.alike hK, hN.at hW2 (fun q h1 h2 => by rw [hU]; exact hS.2.1 q h1 h2) (fun _ h => h.elim)⟩⟩ rfl hn hsize hstack (lv_room (m := m) (pc := pc) (ls := ls) (rest := st0) hW) hdg hf)) kk
/-- a call of a static reader of a nest mate -/
theorem x_rN {post : Int32 → Prop} (S : CallFix p m c cc nL s args Ts own) (hM : Met l y wsy rm (va_Pc As (x_R D cT [])) (vp_Si post) 0 0 (fun _ => False)) (cw : va_CN R s args own index y host bytes maxL ret wsy rm 0 0 n ∧ (Cond.static y).before args s = true ∧ True)
    (hK : va_K D vwCl (x_ty cT) s) (hS : va_S A s.heap H locs) (hN : x_N A s)
    (hn : As.length = n) (hsize : ls.size = nL) (hstack : st0 = As.reverse ++ rest) (hW : (rest.map fun v => v.category).sum ≤ 8) (hdg : decode cc pc = .ok (.invokestatic index, 3)) (hf : cells ≤ R.cells ∧ slots ≤ R.slots)
    (kk : ∀ r : Int32, post r → W p l e R s m args below meth c H locs cells slots Q (F0 m (pc + 3) ls (.int r :: rest))) : W p l e R s m args below meth c H locs cells slots Q (F0 m pc ls st0) := by
  exact vp_callSi (va_Run.run (va_runSN S hM cw ⟨x_R.blind, fun U hU hW2 => ⟨rfl, fun k q h => by simp at h, va_K.moved hW2.alike hK, hN.at hW2 (fun q h1 h2 => by rw [hU]; exact hS.2.1 q h1 h2) (fun _ h => h.elim)⟩⟩ rfl hn hsize hstack (lv_room (m := m) (pc := pc) (ls := ls) (rest := st0) hW) hdg hf)) kk
/-- a call of a method that writes, and answers an int -/
theorem x_cVi {post : Int32 → ST → Prop} (S : CallFix p m c cc nL s args Ts own) (hM : Met l y wsy rm (va_Pc (.ref b :: As) (x_U D cT wc H.size)) (va_Qi post (fun u t => x_B D cT (wf u) (va_A wc H.size) t) (va_A wc H.size)) 0 0 (va_A wc H.size)) (cw : CallW R s args own C index y bytes maxL ret wsy rm 0 0 n)
    (hK : va_K D vwCl (x_ty cT) s) (hP : va_P D vwCl ws H) (hD : va_D A ws) (hS : va_S A s.heap H locs) (hA : ∀ q, s.heap.size ≤ q → A q) (hN : x_N A s) (isC isR isF : List Nat) (hC : isC.map (fun i => ws[i]?) = wc.map some) (hR : isR.map (fun i => ws[i]?) = (x_pk ws isR).map some) (hF : ∀ u, isF.map (fun i => (x_pk ws isR ++ wf u)[i]?) = (wn u).map some) (hnC : va_nd isC = true) (hnR : va_nd isR = true) (hnF : va_nd isF = true) (hdis : ∀ i ∈ isR, i ∉ isC)
    (ci q0 : Nat) (hc : vwCl[ci]? = some (C, T, N)) (he : wc[q0]? = some (b, .inr (ci, fs)))
    (hn : As.length = n) (hsize : ls.size = nL) (hstack : st0 = As.reverse ++ .ref b :: rest) (hW : (rest.map fun v => v.category).sum ≤ 8) (hdg : decode cc pc = .ok (.invokevirtual index, 3)) (hf : cells ≤ R.cells ∧ slots ≤ R.slots)
    (kk : ∀ (r : Int32) (u : ST) (H1 : Heap) (locs1 : List Loc), post r u → va_P D vwCl (wn u) H1 → va_D A (wn u) → va_S A s.heap H1 locs1 → W p l e R s m args below meth c H1 locs1 cells slots Q (F0 m (pc + 3) ls (.int r :: rest))) : W p l e R s m args below meth c H locs cells slots Q (F0 m pc ls st0) := by
  obtain ⟨hPc, hDc⟩ := x_P_D_sub hP hD isC hnC hC
  have hFc := va_free (wc := wc) hD hS hA isC hC
  refine va_calli (va_runV S hM cw ⟨x_U.blind, va_recv hK hPc (q := (C, T, N)) (ci := ci) (q0 := q0) hc he, fun U hU hW2 => ⟨rfl, by rw [hU], by rw [hU]; exact hPc, va_K.moved hW2.alike hK, hDc.weaken (fun _ _ _ _ => trivial), hN.at hW2 (fun q h1 h2 => by rw [hU]; exact hS.2.1 q h1 h2) hFc⟩⟩ rfl hn hsize hstack (lv_room (m := m) (pc := pc) (ls := ls) (rest := st0) hW) hdg hf) hS (fun q _ h => hFc q h) hFc (fun r u t H1 locs1 ht hvm hw hB hz hk1 hS1 => ?_)
  obtain ⟨hP1, hK1, hD1⟩ := hB
  rw [ht] at hP1
  obtain ⟨hP2, hD2⟩ := va_join (wr := x_pk ws isR) (w1 := wf u) hP hD isC isR hC hR hnR hdis hk1 hFc hP1 hD1
  obtain ⟨hP3, hD3⟩ := x_P_D_sub hP2 hD2 isF hnF (hF u)
  exact kk r u H1 locs1 hw hP3 hD3 hS1
/-- a call of a method that writes, and answers nothing -/
theorem x_cVv {post : ST → Prop} (S : CallFix p m c cc nL s args Ts own) (hM : Met l y wsy rm (va_Pc (.ref b :: As) (x_U D cT wc H.size)) (va_Qv post (fun u t => x_B D cT (wf u) (va_A wc H.size) t) (va_A wc H.size)) 0 0 (va_A wc H.size)) (cw : CallW R s args own C index y bytes maxL ret wsy rm 0 0 n)
    (hK : va_K D vwCl (x_ty cT) s) (hP : va_P D vwCl ws H) (hD : va_D A ws) (hS : va_S A s.heap H locs) (hA : ∀ q, s.heap.size ≤ q → A q) (hN : x_N A s) (isC isR isF : List Nat) (hC : isC.map (fun i => ws[i]?) = wc.map some) (hR : isR.map (fun i => ws[i]?) = (x_pk ws isR).map some) (hF : ∀ u, isF.map (fun i => (x_pk ws isR ++ wf u)[i]?) = (wn u).map some) (hnC : va_nd isC = true) (hnR : va_nd isR = true) (hnF : va_nd isF = true) (hdis : ∀ i ∈ isR, i ∉ isC)
    (ci q0 : Nat) (hc : vwCl[ci]? = some (C, T, N)) (he : wc[q0]? = some (b, .inr (ci, fs)))
    (hn : As.length = n) (hsize : ls.size = nL) (hstack : st0 = As.reverse ++ .ref b :: rest) (hW : (rest.map fun v => v.category).sum ≤ 8) (hdg : decode cc pc = .ok (.invokevirtual index, 3)) (hf : cells ≤ R.cells ∧ slots ≤ R.slots)
    (kk : ∀ (u : ST) (H1 : Heap) (locs1 : List Loc), post u → va_P D vwCl (wn u) H1 → va_D A (wn u) → va_S A s.heap H1 locs1 → W p l e R s m args below meth c H1 locs1 cells slots Q (F0 m (pc + 3) ls rest)) : W p l e R s m args below meth c H locs cells slots Q (F0 m pc ls st0) := by
  obtain ⟨hPc, hDc⟩ := x_P_D_sub hP hD isC hnC hC
  have hFc := va_free (wc := wc) hD hS hA isC hC
  refine va_callv (va_runV S hM cw ⟨x_U.blind, va_recv hK hPc (q := (C, T, N)) (ci := ci) (q0 := q0) hc he, fun U hU hW2 => ⟨rfl, by rw [hU], by rw [hU]; exact hPc, va_K.moved hW2.alike hK, hDc.weaken (fun _ _ _ _ => trivial), hN.at hW2 (fun q h1 h2 => by rw [hU]; exact hS.2.1 q h1 h2) hFc⟩⟩ rfl hn hsize hstack (lv_room (m := m) (pc := pc) (ls := ls) (rest := st0) hW) hdg hf) hS (fun q _ h => hFc q h) hFc (fun u t H1 locs1 ht hvm hw hB hz hk1 hS1 => ?_)
  obtain ⟨hP1, hK1, hD1⟩ := hB
  rw [ht] at hP1
  obtain ⟨hP2, hD2⟩ := va_join (wr := x_pk ws isR) (w1 := wf u) hP hD isC isR hC hR hnR hdis hk1 hFc hP1 hD1
  obtain ⟨hP3, hD3⟩ := x_P_D_sub hP2 hD2 isF hnF (hF u)
  exact kk u H1 locs1 hw hP3 hD3 hS1
end XC
