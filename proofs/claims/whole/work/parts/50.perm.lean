/-! ===== worlds up to order ===== -/
theorem x_Pm {D : va_G} {ws : va_W} {H : Heap} : va_P D vwCl ws H ↔ ∀ q ∈ ws, va_at D vwCl q H := by
  constructor
  · intro h q hq
    obtain ⟨k, hk⟩ := List.mem_iff_getElem?.mp hq
    exact h k q hk
  · intro h k q hk
    exact h q (List.mem_of_getElem? hk)
theorem x_P_perm {D : va_G} {ws wn : va_W} {H : Heap} (hp : ws.Perm wn) (h : va_P D vwCl ws H) : va_P D vwCl wn H := x_Pm.mpr (fun q hq => x_Pm.mp h q (hp.mem_iff.mpr hq))
theorem x_Dm {A : Nat → Prop} {ws : va_W} : va_D A ws ↔ (ws.map (fun q => q.1)).Nodup ∧ ∀ q ∈ ws, A q.1 := by
  constructor
  · intro h
    refine ⟨List.pairwise_iff_getElem.mpr (fun i j hi hj hij e => ?_), fun q hq => ?_⟩
    · have hi' : i < ws.length := by simpa using hi
      have hj' : j < ws.length := by simpa using hj
      rw [List.getElem_map, List.getElem_map] at e
      have := h.1 i j ws[i] ws[j] (List.getElem?_eq_getElem hi') (List.getElem?_eq_getElem hj') e
      omega
    · obtain ⟨k, hk⟩ := List.mem_iff_getElem?.mp hq
      exact h.2 k q hk
  · intro h
    refine ⟨fun i j p q hp hq e => ?_, fun k q hk => h.2 q (List.mem_of_getElem? hk)⟩
    have h1 : (ws.map (fun q => q.1))[i]? = some p.1 := by rw [List.getElem?_map, hp]; rfl
    have h2 : (ws.map (fun q => q.1))[j]? = some q.1 := by rw [List.getElem?_map, hq]; rfl
    have hi : i < (ws.map (fun q => q.1)).length := (List.getElem?_eq_some_iff.mp h1).1
    exact (List.getElem?_inj hi h.1).mp (by rw [h1, h2, e])
theorem x_D_perm {A : Nat → Prop} {ws wn : va_W} (hp : ws.Perm wn) (h : va_D A ws) : va_D A wn := by
  obtain ⟨h1, h2⟩ := x_Dm.mp h
  exact x_Dm.mpr ⟨((hp.map _).nodup_iff).mp h1, fun q hq => h2 q (hp.mem_iff.mpr hq)⟩
theorem x_sC (wc wr : va_W) : (List.range wc.length).map (fun i => (wc ++ wr)[i]?) = wc.map some := by
  apply List.ext_getElem?
  intro i
  rw [List.getElem?_map, List.getElem?_map]
  by_cases h : i < wc.length
  · rw [List.getElem?_range h, List.getElem?_eq_getElem h]
    show some ((wc ++ wr)[i]?) = some (some wc[i])
    rw [List.getElem?_append_left h, List.getElem?_eq_getElem h]
  · rw [List.getElem?_eq_none (by simpa using h), List.getElem?_eq_none (by omega)]
    rfl
theorem x_sR (wc wr : va_W) : ((List.range wr.length).map (fun i => wc.length + i)).map (fun i => (wc ++ wr)[i]?) = wr.map some := by
  apply List.ext_getElem?
  intro i
  rw [List.map_map, List.getElem?_map, List.getElem?_map]
  by_cases h : i < wr.length
  · rw [List.getElem?_range h, List.getElem?_eq_getElem h]
    show some ((wc ++ wr)[wc.length + i]?) = some (some wr[i])
    rw [List.getElem?_append_right (by omega), Nat.add_sub_cancel_left, List.getElem?_eq_getElem h]
  · rw [List.getElem?_eq_none (by simpa using h), List.getElem?_eq_none (by omega)]
    rfl
theorem x_ndN : ∀ l : List Nat, l.Nodup → va_nd l = true
  | [], _ => rfl
  | a :: l, h => by
    obtain ⟨h1, h2⟩ := List.nodup_cons.mp h
    show (decide (a ∉ l) && va_nd l) = true
    rw [x_ndN l h2, decide_eq_true h1]
    rfl
theorem x_nR (k n : Nat) : va_nd ((List.range n).map (fun i => k + i)) = true := by
  refine x_ndN _ ?_
  have := List.nodup_range (n := n)
  exact List.Pairwise.map (fun i => k + i) (fun a b (h : a ≠ b) e => h (by omega)) this
theorem x_left {A : Nat → Prop} {D : va_G} {wc wr : va_W} {H : Heap} (hP : va_P D vwCl (wc ++ wr) H) (hD : va_D A (wc ++ wr)) : va_P D vwCl wc H ∧ va_D A wc :=
  x_P_D_sub hP hD (List.range wc.length) (x_ndN _ List.nodup_range) (x_sC wc wr)
theorem x_frame {A : Nat → Prop} {D : va_G} {wc wr w1 : va_W} {H H1 : Heap} (hP : va_P D vwCl (wc ++ wr) H) (hD : va_D A (wc ++ wr)) (hk : ∀ q : Nat, q < H.size → ¬ va_A wc H.size q → H1[q]? = H[q]?) (hF : ∀ q, va_A wc H.size q → A q) (hP1 : va_P D vwCl w1 H1) (hD1 : va_D (va_A wc H.size) w1) : va_P D vwCl (w1 ++ wr) H1 ∧ va_D A (w1 ++ wr) := by
  obtain ⟨a, b⟩ := va_join (wr := wr) (w1 := w1) hP hD (List.range wc.length) ((List.range wr.length).map (fun i => wc.length + i)) (x_sC wc wr) (x_sR wc wr) (x_nR _ _) (fun i hi hj => by
    obtain ⟨j, -, rfl⟩ := List.mem_map.mp hi
    have := List.mem_range.mp hj
    omega) hk hF hP1 hD1
  exact ⟨x_P_perm List.perm_append_comm a, x_D_perm List.perm_append_comm b⟩
section XQ
variable {p : Program} {l : Launch} {e : Env} {R : Room} {s : State} {m : MethodId} {args : Array Value} {below : List Frame} {meth : Method} {c : Code} {H : Heap} {locs : List Loc} {cells slots : Nat} {Q : State → Prop}
variable {y : MethodName} {bytes cc : ByteArray} {maxL nL n index mc ms : Nat} {ret : Option FieldType} {wsy : List Cond} {rm : Room} {Ts : List Cond} {own C : String} {b : Addr} {As rest st0 : List Value} {pc : Nat} {ls : Array Slot}
variable {D : va_G} {cT : Nat → ClassId} {ws wc wr : va_W} {A : Nat → Prop} {T : u_T} {N : Nat} {fs : List Value} {S1 : Type} {wf : S1 → va_W}
/-- a call of a reader, whose cells are among the caller's -/
theorem x_qR {post : Int32 → Prop} (S : CallFix p m c cc nL s args Ts own) (hM : Met l y wsy rm (va_Pc (.ref b :: As) (x_R D cT wc)) (vp_Si post) 0 0 (fun _ => False)) (cw : CallW R s args own C index y bytes maxL ret wsy rm 0 0 n)
    (hK : va_K D vwCl (x_ty cT) s) (hP : va_P D vwCl ws H) (hS : va_S A s.heap H locs) (hN : x_N A s) (hp : ws.Perm (wc ++ wr)) (ci q0 : Nat) (hc : vwCl[ci]? = some (C, T, N)) (he : wc[q0]? = some (b, .inr (ci, fs)))
    (hn : As.length = n) (hsize : ls.size = nL) (hstack : st0 = As.reverse ++ .ref b :: rest) (hW : (rest.map fun v => v.category).sum ≤ 8) (hdg : decode cc pc = .ok (.invokevirtual index, 3)) (hf : cells ≤ R.cells ∧ slots ≤ R.slots)
    (kk : ∀ r : Int32, post r → W p l e R s m args below meth c H locs cells slots Q (F0 m (pc + 3) ls (.int r :: rest))) : W p l e R s m args below meth c H locs cells slots Q (F0 m pc ls st0) := by
  have hP0 := x_P_perm hp hP
  have hPc : va_P D vwCl wc H := x_Pm.mpr (fun q hq => x_Pm.mp hP0 q (List.mem_append_left _ hq))
  exact vp_callSi (va_Run.run (va_runV S hM cw ⟨x_R.blind, va_recv hK hPc (q := (C, T, N)) (ci := ci) (q0 := q0) hc he, fun U hU hW2 => ⟨rfl, by rw [hU]; exact hPc, va_K.moved hW2.alike hK, hN.at hW2 (fun q h1 h2 => by rw [hU]; exact hS.2.1 q h1 h2) (fun _ h => h.elim)⟩⟩ rfl hn hsize hstack (lv_room (m := m) (pc := pc) (ls := ls) (rest := st0) hW) hdg hf)) kk
theorem x_qFree {A : Nat → Prop} {wc wr : va_W} {H0 H : Heap} {locs : List Loc} (hD : va_D A (wc ++ wr)) (hS : va_S A H0 H locs) (hA : ∀ q, H0.size ≤ q → A q) : ∀ q, va_A wc H.size q → A q := va_free (wc := wc) hD hS hA (List.range wc.length) (x_sC wc wr)
/-- a call that writes and answers an int -/
theorem x_qVi {post : Int32 → S1 → Prop} (S : CallFix p m c cc nL s args Ts own) (hM : Met l y wsy rm (va_Pc (.ref b :: As) (x_U D cT wc H.size)) (va_Qi post (fun u t => x_B D cT (wf u) (va_A wc H.size) t) (va_A wc H.size)) mc ms (va_A wc H.size)) (cw : CallW R s args own C index y bytes maxL ret wsy rm mc ms n)
    (hK : va_K D vwCl (x_ty cT) s) (hP : va_P D vwCl ws H) (hD : va_D A ws) (hS : va_S A s.heap H locs) (hA : ∀ q, s.heap.size ≤ q → A q) (hN : x_N A s) (hp : ws.Perm (wc ++ wr))
    (ci q0 : Nat) (hc : vwCl[ci]? = some (C, T, N)) (he : wc[q0]? = some (b, .inr (ci, fs)))
    (hn : As.length = n) (hsize : ls.size = nL) (hstack : st0 = As.reverse ++ .ref b :: rest) (hW : (rest.map fun v => v.category).sum ≤ 8) (hdg : decode cc pc = .ok (.invokevirtual index, 3)) (hf : cells + mc ≤ R.cells ∧ slots + ms ≤ R.slots)
    (kk : ∀ (r : Int32) (u : S1) (H1 : Heap) (locs1 : List Loc), post r u → va_P D vwCl (wf u ++ wr) H1 → va_D A (wf u ++ wr) → va_S A s.heap H1 locs1 → W p l e R s m args below meth c H1 locs1 (cells + mc) (slots + ms) Q (F0 m (pc + 3) ls (.int r :: rest))) : W p l e R s m args below meth c H locs cells slots Q (F0 m pc ls st0) := by
  have hP0 := x_P_perm hp hP
  have hD0 := x_D_perm hp hD
  obtain ⟨hPc, hDc⟩ := x_left hP0 hD0
  have hFc := x_qFree hD0 hS hA
  refine va_calli (va_runV S hM cw ⟨x_U.blind, va_recv hK hPc (q := (C, T, N)) (ci := ci) (q0 := q0) hc he, fun U hU hW2 => ⟨rfl, by rw [hU], by rw [hU]; exact hPc, va_K.moved hW2.alike hK, hDc.weaken (fun _ _ _ _ => trivial), hN.at hW2 (fun q h1 h2 => by rw [hU]; exact hS.2.1 q h1 h2) hFc⟩⟩ rfl hn hsize hstack (lv_room (m := m) (pc := pc) (ls := ls) (rest := st0) hW) hdg hf) hS (fun q _ h => hFc q h) hFc (fun r u t H1 locs1 ht hvm hw hB hz hk1 hS1 => ?_)
  obtain ⟨hP1, hK1, hD1⟩ := hB
  rw [ht] at hP1
  obtain ⟨hP2, hD2⟩ := x_frame hP0 hD0 hk1 hFc hP1 hD1
  exact kk r u H1 locs1 hw hP2 hD2 hS1
/-- a call that writes and answers nothing -/
theorem x_qVv {post : S1 → Prop} (S : CallFix p m c cc nL s args Ts own) (hM : Met l y wsy rm (va_Pc (.ref b :: As) (x_U D cT wc H.size)) (va_Qv post (fun u t => x_B D cT (wf u) (va_A wc H.size) t) (va_A wc H.size)) mc ms (va_A wc H.size)) (cw : CallW R s args own C index y bytes maxL ret wsy rm mc ms n)
    (hK : va_K D vwCl (x_ty cT) s) (hP : va_P D vwCl ws H) (hD : va_D A ws) (hS : va_S A s.heap H locs) (hA : ∀ q, s.heap.size ≤ q → A q) (hN : x_N A s) (hp : ws.Perm (wc ++ wr))
    (ci q0 : Nat) (hc : vwCl[ci]? = some (C, T, N)) (he : wc[q0]? = some (b, .inr (ci, fs)))
    (hn : As.length = n) (hsize : ls.size = nL) (hstack : st0 = As.reverse ++ .ref b :: rest) (hW : (rest.map fun v => v.category).sum ≤ 8) (hdg : decode cc pc = .ok (.invokevirtual index, 3)) (hf : cells + mc ≤ R.cells ∧ slots + ms ≤ R.slots)
    (kk : ∀ (u : S1) (H1 : Heap) (locs1 : List Loc), post u → va_P D vwCl (wf u ++ wr) H1 → va_D A (wf u ++ wr) → va_S A s.heap H1 locs1 → W p l e R s m args below meth c H1 locs1 (cells + mc) (slots + ms) Q (F0 m (pc + 3) ls rest)) : W p l e R s m args below meth c H locs cells slots Q (F0 m pc ls st0) := by
  have hP0 := x_P_perm hp hP
  have hD0 := x_D_perm hp hD
  obtain ⟨hPc, hDc⟩ := x_left hP0 hD0
  have hFc := x_qFree hD0 hS hA
  refine va_callv (va_runV S hM cw ⟨x_U.blind, va_recv hK hPc (q := (C, T, N)) (ci := ci) (q0 := q0) hc he, fun U hU hW2 => ⟨rfl, by rw [hU], by rw [hU]; exact hPc, va_K.moved hW2.alike hK, hDc.weaken (fun _ _ _ _ => trivial), hN.at hW2 (fun q h1 h2 => by rw [hU]; exact hS.2.1 q h1 h2) hFc⟩⟩ rfl hn hsize hstack (lv_room (m := m) (pc := pc) (ls := ls) (rest := st0) hW) hdg hf) hS (fun q _ h => hFc q h) hFc (fun u t H1 locs1 ht hvm hw hB hz hk1 hS1 => ?_)
  obtain ⟨hP1, hK1, hD1⟩ := hB
  rw [ht] at hP1
  obtain ⟨hP2, hD2⟩ := x_frame hP0 hD0 hk1 hFc hP1 hD1
  exact kk u H1 locs1 hw hP2 hD2 hS1
/-- a call of a constructor -/
theorem x_qI {post : S1 → Prop} (S : CallFix p m c cc nL s args Ts own) (hM : Met l y wsy rm (va_Pc (.ref b :: As) (x_U D cT wc H.size)) (va_Qv post (fun u t => x_B D cT (wf u) (va_A wc H.size) t) (va_A wc H.size)) mc ms (va_A wc H.size)) (cw : CallB R s args own index y bytes maxL none wsy rm mc ms n ∧ y.name = "<init>" ∧ (Cond.instanceMethod y).before args s = true)
    (hK : va_K D vwCl (x_ty cT) s) (hP : va_P D vwCl ws H) (hD : va_D A ws) (hS : va_S A s.heap H locs) (hA : ∀ q, s.heap.size ≤ q → A q) (hN : x_N A s) (hp : ws.Perm (wc ++ wr))
    (hn : As.length = n) (hsize : ls.size = nL) (hstack : st0 = As.reverse ++ .ref b :: rest) (hW : (rest.map fun v => v.category).sum ≤ 8) (hdg : decode cc pc = .ok (.invokespecial index, 3)) (hf : cells + mc ≤ R.cells ∧ slots + ms ≤ R.slots)
    (kk : ∀ (u : S1) (H1 : Heap) (locs1 : List Loc), post u → va_P D vwCl (wf u ++ wr) H1 → va_D A (wf u ++ wr) → va_S A s.heap H1 locs1 → W p l e R s m args below meth c H1 locs1 (cells + mc) (slots + ms) Q (F0 m (pc + 3) ls rest)) : W p l e R s m args below meth c H locs cells slots Q (F0 m pc ls st0) := by
  have hP0 := x_P_perm hp hP
  have hD0 := x_D_perm hp hD
  obtain ⟨hPc, hDc⟩ := x_left hP0 hD0
  have hFc := x_qFree hD0 hS hA
  refine va_callv (va_runI S hM cw ⟨x_U.blind, fun U hU hW2 => ⟨rfl, by rw [hU], by rw [hU]; exact hPc, va_K.moved hW2.alike hK, hDc.weaken (fun _ _ _ _ => trivial), hN.at hW2 (fun q h1 h2 => by rw [hU]; exact hS.2.1 q h1 h2) hFc⟩⟩ rfl hn hsize hstack (lv_room (m := m) (pc := pc) (ls := ls) (rest := st0) hW) hdg hf) hS (fun q _ h => hFc q h) hFc (fun u t H1 locs1 ht hvm hw hB hz hk1 hS1 => ?_)
  obtain ⟨hP1, hK1, hD1⟩ := hB
  rw [ht] at hP1
  obtain ⟨hP2, hD2⟩ := x_frame hP0 hD0 hk1 hFc hP1 hD1
  exact kk u H1 locs1 hw hP2 hD2 hS1
end XQ
/-! a part of two machines -/
theorem x_pm2 {w1 w2 p1 c1 t1 p2 c2 t2 : va_W} (e1 : w1 = p1 ++ (c1 ++ t1)) (e2 : w2 = p2 ++ (c2 ++ t2)) : (w1 ++ w2).Perm ((c1 ++ c2) ++ ((p1 ++ t1) ++ (p2 ++ t2))) := by
  subst e1; subst e2
  have h1 : (p1 ++ (c1 ++ t1)).Perm (c1 ++ (p1 ++ t1)) := by
    rw [← List.append_assoc, ← List.append_assoc]
    exact List.Perm.append_right _ List.perm_append_comm
  have h2 : (p2 ++ (c2 ++ t2)).Perm (c2 ++ (p2 ++ t2)) := by
    rw [← List.append_assoc, ← List.append_assoc]
    exact List.Perm.append_right _ List.perm_append_comm
  refine (List.Perm.append h1 h2).trans ?_
  generalize p1 ++ t1 = x1
  generalize p2 ++ t2 = x2
  rw [List.append_assoc c1 x1, List.append_assoc c1 c2]
  refine List.Perm.append_left _ ?_
  rw [← List.append_assoc, ← List.append_assoc]
  exact List.Perm.append_right _ List.perm_append_comm
theorem x_mB0 (cT : Nat → ClassId) (a : Nat → Nat) (M : ST) : w_Machine cT a M = (w_Machine cT a M).take 1 ++ (w_Beam cT (x_sh a 1) (x_sh M 1) ++ (w_Machine cT a M).drop 11) := rfl
theorem x_mB (cT : Nat → ClassId) (a : Nat → Nat) (M u : ST) : w_Machine cT a (x_wb M 1 10 u) = (w_Machine cT a M).take 1 ++ (w_Beam cT (x_sh a 1) u ++ (w_Machine cT a M).drop 11) := rfl
theorem x_mF0 (cT : Nat → ClassId) (a : Nat → Nat) (M : ST) : w_Machine cT a M = (w_Machine cT a M).take 11 ++ (w_Feed cT (x_sh a 11) (x_sh M 11) ++ (w_Machine cT a M).drop 13) := rfl
theorem x_mF (cT : Nat → ClassId) (a : Nat → Nat) (M u : ST) : w_Machine cT a (x_wb M 11 2 u) = (w_Machine cT a M).take 11 ++ (w_Feed cT (x_sh a 11) u ++ (w_Machine cT a M).drop 13) := rfl
theorem x_mR0 (cT : Nat → ClassId) (a : Nat → Nat) (M : ST) : w_Machine cT a M = (w_Machine cT a M).take 13 ++ (w_Registers cT (x_sh a 13) (x_sh M 13) ++ (w_Machine cT a M).drop 15) := rfl
theorem x_mR (cT : Nat → ClassId) (a : Nat → Nat) (M u : ST) : w_Machine cT a (x_wb M 13 2 u) = (w_Machine cT a M).take 13 ++ (w_Registers cT (x_sh a 13) u ++ (w_Machine cT a M).drop 15) := rfl
theorem x_mC0 (cT : Nat → ClassId) (a : Nat → Nat) (M : ST) : w_Machine cT a M = (w_Machine cT a M).take 15 ++ (w_Changes cT (x_sh a 15) (x_sh M 15) ++ (w_Machine cT a M).drop 20) := rfl
theorem x_mC (cT : Nat → ClassId) (a : Nat → Nat) (M u : ST) : w_Machine cT a (x_wb M 15 5 u) = (w_Machine cT a M).take 15 ++ (w_Changes cT (x_sh a 15) u ++ (w_Machine cT a M).drop 20) := rfl
theorem x_mS0 (cT : Nat → ClassId) (a : Nat → Nat) (M : ST) : w_Machine cT a M = (w_Machine cT a M).take 20 ++ (w_Sprites cT (x_sh a 20) (x_sh M 20) ++ (w_Machine cT a M).drop 26) := rfl
theorem x_mS (cT : Nat → ClassId) (a : Nat → Nat) (M u : ST) : w_Machine cT a (x_wb M 20 6 u) = (w_Machine cT a M).take 20 ++ (w_Sprites cT (x_sh a 20) u ++ (w_Machine cT a M).drop 26) := rfl
