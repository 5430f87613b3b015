def lp_X9_dots_110 (u_2 : ST) (r_4 : Int32) (r_5 : Int32) (post : ST → Prop) (K_ : Int32 → Int32 → Prop) : Nat → Int32 → Int32 → Prop
  | 0, _, _ => False
  | n_18 + 1, y_16, y_17 => (((y_16 < 0) → K_ y_16 y_17) ∧ ((¬ (y_16 < 0)) → ∃ k_20 : Nat, k_20 < 23520 ∧ (130 + (11 * y_16)) = nI k_20 ∧ ∀ x_21 : Int32, x_21 = ((u_2 1 20) - (u_2 1 k_20)) → (((((r_5 >>> (y_16 &&& 31)) &&& 1) = 0) → ∀ x_23 : Int32, x_23 = y_16 + (-1) → lp_X9_dots_110 u_2 r_4 r_5 post K_ n_18 x_23 y_17) ∧ ((¬ (((r_5 >>> (y_16 &&& 31)) &&& 1) = 0)) → v_X9_isIn x_21 0 7 (fun r_24 => (((¬ (r_24 = 0)) → ∃ k_26 : Nat, k_26 < 23520 ∧ ((130 + (11 * y_16)) + 1) = nI k_26 ∧ ∃ k_27 : Nat, k_27 < 23520 ∧ ((((130 + (11 * y_16)) + 3) + r_4) - (u_2 1 k_26)) = nI k_27 ∧ ∀ x_28 : Int32, x_28 = (u_2 1 k_27) → (((¬ (((x_28 >>> ((7 - x_21) &&& 31)) &&& 1) = 1)) → ∀ x_30 : Int32, x_30 = y_16 + (-1) → lp_X9_dots_110 u_2 r_4 r_5 post K_ n_18 x_30 y_17) ∧ ((((x_28 >>> ((7 - x_21) &&& 31)) &&& 1) = 1) → ∀ x_31 : Int32, x_31 = (256 + y_16) → ∀ x_32 : Int32, x_32 = y_16 + (-1) → lp_X9_dots_110 u_2 r_4 r_5 post K_ n_18 x_32 x_31))) ∧ ((r_24 = 0) → ∀ x_33 : Int32, x_33 = y_16 + (-1) → lp_X9_dots_110 u_2 r_4 r_5 post K_ n_18 x_33 y_17)))))))
def lp_X9_dots_110_L_37 (u_2 : ST) (r_4 : Int32) (r_5 : Int32) (post : ST → Prop) (K_ : Int32 → Int32 → Prop) : Nat → Int32 → Int32 → Prop
  | 0, _, _ => False
  | n_45 + 1, y_43, y_44 => (((y_43 < 0) → K_ y_43 y_44) ∧ ((¬ (y_43 < 0)) → ∃ k_47 : Nat, k_47 < 23520 ∧ (130 + (11 * y_43)) = nI k_47 ∧ ∀ x_48 : Int32, x_48 = ((u_2 1 20) - (u_2 1 k_47)) → (((((r_5 >>> (y_43 &&& 31)) &&& 1) = 0) → ∀ x_50 : Int32, x_50 = y_43 + (-1) → lp_X9_dots_110_L_37 u_2 r_4 r_5 post K_ n_45 x_50 y_44) ∧ ((¬ (((r_5 >>> (y_43 &&& 31)) &&& 1) = 0)) → v_X9_isIn x_48 0 7 (fun r_51 => (((¬ (r_51 = 0)) → ∃ k_53 : Nat, k_53 < 23520 ∧ ((130 + (11 * y_43)) + 1) = nI k_53 ∧ ∃ k_54 : Nat, k_54 < 23520 ∧ ((((130 + (11 * y_43)) + 3) + r_4) - (u_2 1 k_53)) = nI k_54 ∧ ∀ x_55 : Int32, x_55 = (u_2 1 k_54) → (((¬ (((x_55 >>> ((7 - x_48) &&& 31)) &&& 1) = 1)) → ∀ x_57 : Int32, x_57 = y_43 + (-1) → lp_X9_dots_110_L_37 u_2 r_4 r_5 post K_ n_45 x_57 y_44) ∧ ((((x_55 >>> ((7 - x_48) &&& 31)) &&& 1) = 1) → ∀ x_58 : Int32, x_58 = (256 + y_43) → ∀ x_59 : Int32, x_59 = y_43 + (-1) → lp_X9_dots_110_L_37 u_2 r_4 r_5 post K_ n_45 x_59 x_58))) ∧ ((r_51 = 0) → ∀ x_60 : Int32, x_60 = y_43 + (-1) → lp_X9_dots_110_L_37 u_2 r_4 r_5 post K_ n_45 x_60 y_44)))))))
def lp_X9_dots_110_L_62 (u_2 : ST) (r_4 : Int32) (r_5 : Int32) (post : ST → Prop) (K_ : Int32 → Int32 → Prop) : Nat → Int32 → Int32 → Prop
  | 0, _, _ => False
  | n_70 + 1, y_68, y_69 => (((y_68 < 0) → K_ y_68 y_69) ∧ ((¬ (y_68 < 0)) → ∃ k_72 : Nat, k_72 < 23520 ∧ (130 + (11 * y_68)) = nI k_72 ∧ ∀ x_73 : Int32, x_73 = ((u_2 1 20) - (u_2 1 k_72)) → (((((r_5 >>> (y_68 &&& 31)) &&& 1) = 0) → ∀ x_75 : Int32, x_75 = y_68 + (-1) → lp_X9_dots_110_L_62 u_2 r_4 r_5 post K_ n_70 x_75 y_69) ∧ ((¬ (((r_5 >>> (y_68 &&& 31)) &&& 1) = 0)) → v_X9_isIn x_73 0 7 (fun r_76 => (((¬ (r_76 = 0)) → ∃ k_78 : Nat, k_78 < 23520 ∧ ((130 + (11 * y_68)) + 1) = nI k_78 ∧ ∃ k_79 : Nat, k_79 < 23520 ∧ ((((130 + (11 * y_68)) + 3) + r_4) - (u_2 1 k_78)) = nI k_79 ∧ ∀ x_80 : Int32, x_80 = (u_2 1 k_79) → (((¬ (((x_80 >>> ((7 - x_73) &&& 31)) &&& 1) = 1)) → ∀ x_82 : Int32, x_82 = y_68 + (-1) → lp_X9_dots_110_L_62 u_2 r_4 r_5 post K_ n_70 x_82 y_69) ∧ ((((x_80 >>> ((7 - x_73) &&& 31)) &&& 1) = 1) → ∀ x_83 : Int32, x_83 = (256 + y_68) → ∀ x_84 : Int32, x_84 = y_68 + (-1) → lp_X9_dots_110_L_62 u_2 r_4 r_5 post K_ n_70 x_84 x_83))) ∧ ((r_76 = 0) → ∀ x_85 : Int32, x_85 = y_68 + (-1) → lp_X9_dots_110_L_62 u_2 r_4 r_5 post K_ n_70 x_85 y_69)))))))
def lp_X9_dots_110_L_99 (u_91 : ST) (r_93 : Int32) (r_94 : Int32) (post : ST → Prop) (K_ : Int32 → Int32 → Prop) : Nat → Int32 → Int32 → Prop
  | 0, _, _ => False
  | n_107 + 1, y_105, y_106 => (((y_105 < 0) → K_ y_105 y_106) ∧ ((¬ (y_105 < 0)) → ∃ k_109 : Nat, k_109 < 23520 ∧ (130 + (11 * y_105)) = nI k_109 ∧ ∀ x_110 : Int32, x_110 = ((u_91 1 20) - (u_91 1 k_109)) → (((((r_94 >>> (y_105 &&& 31)) &&& 1) = 0) → ∀ x_112 : Int32, x_112 = y_105 + (-1) → lp_X9_dots_110_L_99 u_91 r_93 r_94 post K_ n_107 x_112 y_106) ∧ ((¬ (((r_94 >>> (y_105 &&& 31)) &&& 1) = 0)) → v_X9_isIn x_110 0 7 (fun r_113 => (((¬ (r_113 = 0)) → ∃ k_115 : Nat, k_115 < 23520 ∧ ((130 + (11 * y_105)) + 1) = nI k_115 ∧ ∃ k_116 : Nat, k_116 < 23520 ∧ ((((130 + (11 * y_105)) + 3) + r_93) - (u_91 1 k_115)) = nI k_116 ∧ ∀ x_117 : Int32, x_117 = (u_91 1 k_116) → (((¬ (((x_117 >>> ((7 - x_110) &&& 31)) &&& 1) = 1)) → ∀ x_119 : Int32, x_119 = y_105 + (-1) → lp_X9_dots_110_L_99 u_91 r_93 r_94 post K_ n_107 x_119 y_106) ∧ ((((x_117 >>> ((7 - x_110) &&& 31)) &&& 1) = 1) → ∀ x_120 : Int32, x_120 = (256 + y_105) → ∀ x_121 : Int32, x_121 = y_105 + (-1) → lp_X9_dots_110_L_99 u_91 r_93 r_94 post K_ n_107 x_121 x_120))) ∧ ((r_113 = 0) → ∀ x_122 : Int32, x_122 = y_105 + (-1) → lp_X9_dots_110_L_99 u_91 r_93 r_94 post K_ n_107 x_122 y_106)))))))
def lp_X9_dots_110_L_126 (u_91 : ST) (r_93 : Int32) (r_94 : Int32) (post : ST → Prop) (K_ : Int32 → Int32 → Prop) : Nat → Int32 → Int32 → Prop
  | 0, _, _ => False
  | n_134 + 1, y_132, y_133 => (((y_132 < 0) → K_ y_132 y_133) ∧ ((¬ (y_132 < 0)) → ∃ k_136 : Nat, k_136 < 23520 ∧ (130 + (11 * y_132)) = nI k_136 ∧ ∀ x_137 : Int32, x_137 = ((u_91 1 20) - (u_91 1 k_136)) → (((((r_94 >>> (y_132 &&& 31)) &&& 1) = 0) → ∀ x_139 : Int32, x_139 = y_132 + (-1) → lp_X9_dots_110_L_126 u_91 r_93 r_94 post K_ n_134 x_139 y_133) ∧ ((¬ (((r_94 >>> (y_132 &&& 31)) &&& 1) = 0)) → v_X9_isIn x_137 0 7 (fun r_140 => (((¬ (r_140 = 0)) → ∃ k_142 : Nat, k_142 < 23520 ∧ ((130 + (11 * y_132)) + 1) = nI k_142 ∧ ∃ k_143 : Nat, k_143 < 23520 ∧ ((((130 + (11 * y_132)) + 3) + r_93) - (u_91 1 k_142)) = nI k_143 ∧ ∀ x_144 : Int32, x_144 = (u_91 1 k_143) → (((¬ (((x_144 >>> ((7 - x_137) &&& 31)) &&& 1) = 1)) → ∀ x_146 : Int32, x_146 = y_132 + (-1) → lp_X9_dots_110_L_126 u_91 r_93 r_94 post K_ n_134 x_146 y_133) ∧ ((((x_144 >>> ((7 - x_137) &&& 31)) &&& 1) = 1) → ∀ x_147 : Int32, x_147 = (256 + y_132) → ∀ x_148 : Int32, x_148 = y_132 + (-1) → lp_X9_dots_110_L_126 u_91 r_93 r_94 post K_ n_134 x_148 x_147))) ∧ ((r_140 = 0) → ∀ x_149 : Int32, x_149 = y_132 + (-1) → lp_X9_dots_110_L_126 u_91 r_93 r_94 post K_ n_134 x_149 y_133)))))))
def lp_X9_dots_110_L_151 (u_91 : ST) (r_93 : Int32) (r_94 : Int32) (post : ST → Prop) (K_ : Int32 → Int32 → Prop) : Nat → Int32 → Int32 → Prop
  | 0, _, _ => False
  | n_159 + 1, y_157, y_158 => (((y_157 < 0) → K_ y_157 y_158) ∧ ((¬ (y_157 < 0)) → ∃ k_161 : Nat, k_161 < 23520 ∧ (130 + (11 * y_157)) = nI k_161 ∧ ∀ x_162 : Int32, x_162 = ((u_91 1 20) - (u_91 1 k_161)) → (((((r_94 >>> (y_157 &&& 31)) &&& 1) = 0) → ∀ x_164 : Int32, x_164 = y_157 + (-1) → lp_X9_dots_110_L_151 u_91 r_93 r_94 post K_ n_159 x_164 y_158) ∧ ((¬ (((r_94 >>> (y_157 &&& 31)) &&& 1) = 0)) → v_X9_isIn x_162 0 7 (fun r_165 => (((¬ (r_165 = 0)) → ∃ k_167 : Nat, k_167 < 23520 ∧ ((130 + (11 * y_157)) + 1) = nI k_167 ∧ ∃ k_168 : Nat, k_168 < 23520 ∧ ((((130 + (11 * y_157)) + 3) + r_93) - (u_91 1 k_167)) = nI k_168 ∧ ∀ x_169 : Int32, x_169 = (u_91 1 k_168) → (((¬ (((x_169 >>> ((7 - x_162) &&& 31)) &&& 1) = 1)) → ∀ x_171 : Int32, x_171 = y_157 + (-1) → lp_X9_dots_110_L_151 u_91 r_93 r_94 post K_ n_159 x_171 y_158) ∧ ((((x_169 >>> ((7 - x_162) &&& 31)) &&& 1) = 1) → ∀ x_172 : Int32, x_172 = (256 + y_157) → ∀ x_173 : Int32, x_173 = y_157 + (-1) → lp_X9_dots_110_L_151 u_91 r_93 r_94 post K_ n_159 x_173 x_172))) ∧ ((r_165 = 0) → ∀ x_174 : Int32, x_174 = y_157 + (-1) → lp_X9_dots_110_L_151 u_91 r_93 r_94 post K_ n_159 x_174 y_158)))))))
def lp_X9_dots_14  (post : ST → Prop) (K_ : Int32 → Int32 → ST → Prop) : Nat → Int32 → Int32 → ST → Prop
  | 0, _, _, _ => False
  | n_179 + 1, y_176, y_177, M_178 => ((((M_178 1 42) ≤ y_176) → K_ y_176 y_177 M_178) ∧ ((¬ ((M_178 1 42) ≤ y_176)) → (((y_177 < 0) → K_ y_176 y_177 M_178) ∧ ((¬ (y_177 < 0)) → v_X9_takes M_178 (fun r_183 (u_182 : ST) => ∀ x_184 : Int32, x_184 = y_176 + 1 → lp_X9_dots_14  post K_ n_179 x_184 r_183 u_182)))))
def v_X9_dots (M : ST) (post : ST → Prop) : Prop := (((¬ ((M 1 20) = 0)) → v_X9_takes M (fun r_3 (u_2 : ST) => v_X9_rowOf (u_2 1 21) (u_2 1 22) (u_2 1 8) (fun r_4 => v_X9_spritesOf u_2 r_4 (fun r_5 => (((0 ≤ r_3) → (((¬ (r_3 = 1)) → ∃ k_8 : Nat, k_8 < 23520 ∧ (40 + 4) = nI k_8 ∧ ∀ x_9 : Int32, x_9 = (u_2 1 k_8) → (∃ n_34 : Nat, lp_X9_dots_110 u_2 r_4 r_5 post (fun (y_11 : Int32) (y_12 : Int32) => ∃ k_13 : Nat, k_13 < 23520 ∧ ((1770 + (64 * r_4)) + (u_2 1 20)) = nI k_13 ∧ ∀ M_14 : ST, M_14 = x_st u_2 1 k_13 (y_12 + 1) → ∀ M_15 : ST, M_15 = x_st M_14 1 25 ((M_14 1 25) + 1) → post M_15) n_34 7 x_9)) ∧ ((r_3 = 1) → ∃ k_35 : Nat, k_35 < 23520 ∧ (40 + 3) = nI k_35 ∧ ∀ x_36 : Int32, x_36 = (u_2 1 k_35) → (∃ n_61 : Nat, lp_X9_dots_110_L_37 u_2 r_4 r_5 post (fun (y_38 : Int32) (y_39 : Int32) => ∃ k_40 : Nat, k_40 < 23520 ∧ ((1770 + (64 * r_4)) + (u_2 1 20)) = nI k_40 ∧ ∀ M_41 : ST, M_41 = x_st u_2 1 k_40 (y_39 + 1) → ∀ M_42 : ST, M_42 = x_st M_41 1 25 ((M_41 1 25) + 1) → post M_42) n_61 7 x_36)))) ∧ ((¬ (0 ≤ r_3)) → (∃ n_86 : Nat, lp_X9_dots_110_L_62 u_2 r_4 r_5 post (fun (y_63 : Int32) (y_64 : Int32) => ∃ k_65 : Nat, k_65 < 23520 ∧ ((1770 + (64 * r_4)) + (u_2 1 20)) = nI k_65 ∧ ∀ M_66 : ST, M_66 = x_st u_2 1 k_65 (y_64 + 1) → ∀ M_67 : ST, M_67 = x_st M_66 1 25 ((M_66 1 25) + 1) → post M_67) n_86 7 512))))))) ∧ (((M 1 20) = 0) → (∃ n_185 : Nat, lp_X9_dots_14  post (fun (y_88 : Int32) (y_89 : Int32) (M_90 : ST) => v_X9_takes M_90 (fun r_92 (u_91 : ST) => v_X9_rowOf (u_91 1 21) (u_91 1 22) (u_91 1 8) (fun r_93 => v_X9_spritesOf u_91 r_93 (fun r_94 => (((0 ≤ r_92) → (((¬ (r_92 = 1)) → ∃ k_97 : Nat, k_97 < 23520 ∧ (40 + 4) = nI k_97 ∧ ∀ x_98 : Int32, x_98 = (u_91 1 k_97) → (∃ n_123 : Nat, lp_X9_dots_110_L_99 u_91 r_93 r_94 post (fun (y_100 : Int32) (y_101 : Int32) => ∃ k_102 : Nat, k_102 < 23520 ∧ ((1770 + (64 * r_93)) + (u_91 1 20)) = nI k_102 ∧ ∀ M_103 : ST, M_103 = x_st u_91 1 k_102 (y_101 + 1) → ∀ M_104 : ST, M_104 = x_st M_103 1 25 ((M_103 1 25) + 1) → post M_104) n_123 7 x_98)) ∧ ((r_92 = 1) → ∃ k_124 : Nat, k_124 < 23520 ∧ (40 + 3) = nI k_124 ∧ ∀ x_125 : Int32, x_125 = (u_91 1 k_124) → (∃ n_150 : Nat, lp_X9_dots_110_L_126 u_91 r_93 r_94 post (fun (y_127 : Int32) (y_128 : Int32) => ∃ k_129 : Nat, k_129 < 23520 ∧ ((1770 + (64 * r_93)) + (u_91 1 20)) = nI k_129 ∧ ∀ M_130 : ST, M_130 = x_st u_91 1 k_129 (y_128 + 1) → ∀ M_131 : ST, M_131 = x_st M_130 1 25 ((M_130 1 25) + 1) → post M_131) n_150 7 x_125)))) ∧ ((¬ (0 ≤ r_92)) → (∃ n_175 : Nat, lp_X9_dots_110_L_151 u_91 r_93 r_94 post (fun (y_152 : Int32) (y_153 : Int32) => ∃ k_154 : Nat, k_154 < 23520 ∧ ((1770 + (64 * r_93)) + (u_91 1 20)) = nI k_154 ∧ ∀ M_155 : ST, M_155 = x_st u_91 1 k_154 (y_153 + 1) → ∀ M_156 : ST, M_156 = x_st M_155 1 25 ((M_155 1 25) + 1) → post M_156) n_175 7 512))))))) n_185 0 0 M)))
set_option maxHeartbeats 4000000 in
set_option maxRecDepth 100000 in
theorem c_X9_dots (l : Launch) (D : va_G) (cT : Nat → ClassId) (a : Nat → Nat) (M : ST) (sz : Nat) (post : ST → Prop) (hv : v_X9_dots M post) : Met l yX9_dots wsX9_dots ({ frames := 2, cells := 0, slots := 0, locals := 47 }) (va_Pc [.ref (a 0)] (x_U D cT ((w_Model cT a M)) sz)) (va_Qv post (fun u t => x_B D cT ((w_Model cT a u)) (va_A ((w_Model cT a M)) sz) t) (va_A ((w_Model cT a M)) sz)) 0 0 (va_A ((w_Model cT a M)) sz) := by
  refine Met.ofW (cc := cX9_dots) (maxL := 8) (ret := none) (by decide) rfl ?_
  intro p e s m args below meth c s₁ B hml hpre
  obtain ⟨rfl, hsz, hP, hK, hD0, hN⟩ := hpre
  have hx := B.exec
  have hb := B.bytes
  have hr := B.returns
  have hts := atoms_spec (ws := wsX9_dots) B.pre
  have hown : s.vm.findClass RX9 = some m.cls := findClass_of_methodNamed B.named
  have hlocks := B.notSynchronized
  subst hsz
  have hD := hD0.self (sz := s.heap.size)
  generalize hAe : va_A ((w_Model cT a M)) s.heap.size = A at hD hN ⊢
  have hA : ∀ q : Nat, s.heap.size ≤ q → A q := fun q h => by rw [← hAe]; exact Or.inr h
  have hS : va_S A s.heap s.heap [] := va_S.rf
  have hl := lv_entry ([.ref (a 0)]) (n := 8) (Nat.le_of_ble_eq_true rfl)
  rw [lg_entry_eq]
  generalize (lg_sl ([.ref (a 0)]) ++ List.replicate (8 - (lg_sl ([.ref (a 0)])).length) Slot.unset).toArray = ls at hl ⊢
  have hl : lv_has ls 8 [(0, .ref (a 0))] := hl
  have in_X9 : ∀ w ∈ wsX90, w ∈ wsX9_dots := by decide +kernel
  have k_7 : (Cond.fieldLink RX9 7 "PictureBeatsModel" "all" "[I").before ([.ref (a 0)] : List Value).toArray s = true := hts _ (by decide +kernel)
  have w_47 : CallW (headSpec wsX9_dots ({ frames := 2, cells := 0, slots := 0, locals := 47 })).room s ([.ref (a 0)] : List Value).toArray RX9 RX9 47 yX9_takes cX9_takes 2 (some .int) wsX9_takes ({ frames := 0, cells := 0, slots := 0, locals := 0 } : Room) 0 0 0 := cwV 0 hts gX9_dots_X9_takes rfl rfl rfl (by decide +kernel) ⟨Nat.le_of_ble_eq_true rfl, Nat.le_of_ble_eq_true rfl⟩
  have w_36 : CallB (headSpec wsX9_dots ({ frames := 2, cells := 0, slots := 0, locals := 47 })).room s ([.ref (a 0)] : List Value).toArray RX9 36 yX9_rowOf cX9_rowOf 3 (some .int) wsX9_rowOf ({ frames := 0, cells := 0, slots := 0, locals := 0 } : Room) 0 0 3 ∧ (Cond.static yX9_rowOf).before ([.ref (a 0)] : List Value).toArray s = true := va_cwS 3 hts gX9_dots_X9_rowOf rfl rfl rfl (by decide +kernel) ⟨Nat.le_of_ble_eq_true rfl, Nat.le_of_ble_eq_true rfl⟩
  have w_50 : CallW (headSpec wsX9_dots ({ frames := 2, cells := 0, slots := 0, locals := 47 })).room s ([.ref (a 0)] : List Value).toArray RX9 RX9 50 yX9_spritesOf cX9_spritesOf 5 (some .int) wsX9_spritesOf ({ frames := 1, cells := 0, slots := 0, locals := 23 } : Room) 0 0 1 := cwV 1 hts gX9_dots_X9_spritesOf rfl rfl rfl (by decide +kernel) ⟨Nat.le_of_ble_eq_true rfl, Nat.le_of_ble_eq_true rfl⟩
  have w_17 : CallB (headSpec wsX9_dots ({ frames := 2, cells := 0, slots := 0, locals := 47 })).room s ([.ref (a 0)] : List Value).toArray RX9 17 yX9_isIn cX9_isIn 3 (some .boolean) wsX9_isIn ({ frames := 0, cells := 0, slots := 0, locals := 0 } : Room) 0 0 3 ∧ (Cond.static yX9_isIn).before ([.ref (a 0)] : List Value).toArray s = true := va_cwS 3 hts gX9_dots_X9_isIn rfl rfl rfl (by decide +kernel) ⟨Nat.le_of_ble_eq_true rfl, Nat.le_of_ble_eq_true rfl⟩
  refine lv_aload_n hx hb dX9_dots_0 rfl (lv_at hl 0 rfl) ?_
  refine va_get (D := D) (ci := 9) (v := .ref (a 1)) (C := RX9) (T := TX9) (N := 2) hx hb hts in_X9 hown hK hP 0 rfl rfl 0 (by decide) k_7 (fun _ h9 => h9) rfl dX9_dots_1 ?_
  refine lv_bipush (v := 20) hx hb dX9_dots_4 (by decide) ?_
  refine x_ald hx hb hK hP 1 0 rfl rfl 20 rfl (by decide) (by decide) dX9_dots_6 ?_
  refine lv_if_ne (tgt := 40) hx hb dX9_dots_7 (by decide) (fun c_1 => ?_) (fun c_1 => ?_)
  · have hv := hv.1 c_1
    refine lv_aload_n hx hb dX9_dots_40 rfl (lv_at hl 0 rfl) ?_
    refine x_cVi (As := []) (rest := []) (wn := fun u_2 => (w_Model cT a u_2)) ⟨hx, hb, hml, hown, hts⟩ (c_X9_takes l D cT a M _ _ hv) w_47 hK hP hD hS hA hN [0, 1, 2] [] [0, 1, 2] rfl rfl (fun _ => rfl) (by decide) (by decide) (by decide) (by decide) 9 0 rfl rfl rfl hl.1 rfl (Nat.le_of_ble_eq_true rfl) dX9_dots_41 ⟨Nat.le_of_ble_eq_true rfl, Nat.le_of_ble_eq_true rfl⟩ (fun r_3 u_2 H locs hv hP hD hS => ?_)
    refine lv_istore_n (lv' := [(1, .int r_3), (0, .ref (a 0))]) hx hb dX9_dots_44 rfl hl (by decide) rfl (fun ls hl => ?_)
    refine lv_aload_n hx hb dX9_dots_45 rfl (lv_at hl 1 rfl) ?_
    refine va_get (D := D) (ci := 9) (v := .ref (a 1)) (C := RX9) (T := TX9) (N := 2) hx hb hts in_X9 hown hK hP 0 rfl rfl 0 (by decide) k_7 (fun _ h9 => h9) rfl dX9_dots_46 ?_
    refine lv_bipush (v := 21) hx hb dX9_dots_49 (by decide) ?_
    refine x_ald hx hb hK hP 1 0 rfl rfl 21 rfl (by decide) (by decide) dX9_dots_51 ?_
    refine lv_aload_n hx hb dX9_dots_52 rfl (lv_at hl 1 rfl) ?_
    refine va_get (D := D) (ci := 9) (v := .ref (a 1)) (C := RX9) (T := TX9) (N := 2) hx hb hts in_X9 hown hK hP 0 rfl rfl 0 (by decide) k_7 (fun _ h9 => h9) rfl dX9_dots_53 ?_
    refine lv_bipush (v := 22) hx hb dX9_dots_56 (by decide) ?_
    refine x_ald hx hb hK hP 1 0 rfl rfl 22 rfl (by decide) (by decide) dX9_dots_58 ?_
    refine lv_aload_n hx hb dX9_dots_59 rfl (lv_at hl 1 rfl) ?_
    refine va_get (D := D) (ci := 9) (v := .ref (a 1)) (C := RX9) (T := TX9) (N := 2) hx hb hts in_X9 hown hK hP 0 rfl rfl 0 (by decide) k_7 (fun _ h9 => h9) rfl dX9_dots_60 ?_
    refine lv_bipush (v := 8) hx hb dX9_dots_63 (by decide) ?_
    refine x_ald hx hb hK hP 1 0 rfl rfl 8 rfl (by decide) (by decide) dX9_dots_65 ?_
    refine x_rS (As := [.int (u_2 1 21), .int (u_2 1 22), .int (u_2 1 8)]) (rest := []) ⟨hx, hb, hml, hown, hts⟩ (c_X9_rowOf l D cT (u_2 1 21) (u_2 1 22) (u_2 1 8) _ hv) w_36 hK hS hN rfl hl.1 rfl (Nat.le_of_ble_eq_true rfl) dX9_dots_66 ⟨Nat.le_of_ble_eq_true rfl, Nat.le_of_ble_eq_true rfl⟩ (fun r_4 hv => ?_)
    refine lv_istore_n (lv' := [(2, .int r_4), (1, .int r_3), (0, .ref (a 0))]) hx hb dX9_dots_69 rfl hl (by decide) rfl (fun ls hl => ?_)
    refine lv_aload_n hx hb dX9_dots_70 rfl (lv_at hl 2 rfl) ?_
    refine lv_iload_n hx hb dX9_dots_71 rfl (lv_at hl 0 rfl) ?_
    refine x_rV (As := [.int r_4]) (rest := []) ⟨hx, hb, hml, hown, hts⟩ (c_X9_spritesOf l D cT a u_2 r_4 _ hv) w_50 hK hP hS hN [0, 1, 2] rfl 9 0 rfl rfl rfl hl.1 rfl (Nat.le_of_ble_eq_true rfl) dX9_dots_72 ⟨Nat.le_of_ble_eq_true rfl, Nat.le_of_ble_eq_true rfl⟩ (fun r_5 hv => ?_)
    refine lv_istore_n (lv' := [(3, .int r_5), (2, .int r_4), (1, .int r_3), (0, .ref (a 0))]) hx hb dX9_dots_75 rfl hl (by decide) rfl (fun ls hl => ?_)
    refine lv_iload_n hx hb dX9_dots_76 rfl (lv_at hl 2 rfl) ?_
    refine lv_if_ge (tgt := 86) hx hb dX9_dots_77 (by decide) (fun c_6 => ?_) (fun c_6 => ?_)
    · have hv := hv.1 c_6
      refine lv_aload_n hx hb dX9_dots_86 rfl (lv_at hl 3 rfl) ?_
      refine va_get (D := D) (ci := 9) (v := .ref (a 1)) (C := RX9) (T := TX9) (N := 2) hx hb hts in_X9 hown hK hP 0 rfl rfl 0 (by decide) k_7 (fun _ h9 => h9) rfl dX9_dots_87 ?_
      refine lv_bipush (v := 40) hx hb dX9_dots_90 (by decide) ?_
      refine lv_iload_n hx hb dX9_dots_92 rfl (lv_at hl 2 rfl) ?_
      refine lv_iconst (v := 1) hx hb dX9_dots_93 (by decide) ?_
      refine lv_icmp_ne (tgt := 101) hx hb dX9_dots_94 (by decide) (fun c_7 => ?_) (fun c_7 => ?_)
      · have hv := hv.1 c_7
        refine lv_iconst (v := 4) hx hb dX9_dots_101 (by decide) ?_
        refine lv_iadd hx hb dX9_dots_102 ?_
        obtain ⟨k_8, hk_8, ik_8, hv⟩ := hv
        refine x_ald hx hb hK hP 1 0 rfl rfl k_8 ik_8 hk_8 (by decide) dX9_dots_103 ?_
        refine lv_topi (fun x_9 ex_9 => ?_)
        have hv := hv x_9 ex_9
        refine lv_istore (lv' := [(4, .int x_9), (3, .int r_5), (2, .int r_4), (1, .int r_3), (0, .ref (a 0))]) hx hb dX9_dots_104 hl (by decide) rfl (fun ls hl => ?_)
        refine lv_bipush (v := 7) hx hb dX9_dots_106 (by decide) ?_
        refine lv_istore (lv' := [(5, .int 7), (4, .int x_9), (3, .int r_5), (2, .int r_4), (1, .int r_3), (0, .ref (a 0))]) hx hb dX9_dots_108 hl (by decide) rfl (fun ls hl => ?_)
        obtain ⟨n_34, hv⟩ := hv
        have K_L_10 : ∀ (y_11 : Int32) (y_12 : Int32), ∃ k_13 : Nat, k_13 < 23520 ∧ ((1770 + (64 * r_4)) + (u_2 1 20)) = nI k_13 ∧ ∀ M_14 : ST, M_14 = x_st u_2 1 k_13 (y_12 + 1) → ∀ M_15 : ST, M_15 = x_st M_14 1 25 ((M_14 1 25) + 1) → post M_15 → ∀ ls : Array Slot, lv_has ls 8 [(5, .int y_11), (4, .int y_12), (3, .int r_5), (2, .int r_4), (1, .int r_3), (0, .ref (a 0))] → W p l e (headSpec wsX9_dots ({ frames := 2, cells := 0, slots := 0, locals := 47 })).room s m ([.ref (a 0)] : List Value).toArray below meth c H locs 0 0 (MQ below (va_Qv post (fun u t => x_B D cT ((w_Model cT a u)) A t) A) ([.ref (a 0)] : List Value).toArray s 0 0 A) (F0 m 227 ls []) := by
          intro y_11 y_12 hv ls hl
          refine lv_aload_n hx hb dX9_dots_227 rfl (lv_at hl 5 rfl) ?_
          refine va_get (D := D) (ci := 9) (v := .ref (a 1)) (C := RX9) (T := TX9) (N := 2) hx hb hts in_X9 hown hK hP 0 rfl rfl 0 (by decide) k_7 (fun _ h9 => h9) rfl dX9_dots_228 ?_
          refine lv_sipush (v := 1770) hx hb dX9_dots_231 (by decide) ?_
          refine lv_bipush (v := 64) hx hb dX9_dots_234 (by decide) ?_
          refine lv_iload_n hx hb dX9_dots_236 rfl (lv_at hl 3 rfl) ?_
          refine lv_imul hx hb dX9_dots_237 ?_
          refine lv_iadd hx hb dX9_dots_238 ?_
          refine lv_aload_n hx hb dX9_dots_239 rfl (lv_at hl 5 rfl) ?_
          refine va_get (D := D) (ci := 9) (v := .ref (a 1)) (C := RX9) (T := TX9) (N := 2) hx hb hts in_X9 hown hK hP 0 rfl rfl 0 (by decide) k_7 (fun _ h9 => h9) rfl dX9_dots_240 ?_
          refine lv_bipush (v := 20) hx hb dX9_dots_243 (by decide) ?_
          refine x_ald hx hb hK hP 1 0 rfl rfl 20 rfl (by decide) (by decide) dX9_dots_245 ?_
          refine lv_iadd hx hb dX9_dots_246 ?_
          refine lv_iload hx hb dX9_dots_247 (lv_at hl 1 rfl) ?_
          refine lv_iconst (v := 1) hx hb dX9_dots_249 (by decide) ?_
          refine lv_iadd hx hb dX9_dots_250 ?_
          obtain ⟨k_13, hk_13, ik_13, hv⟩ := hv
          refine x_ast hx hb hK hP hD hS 1 0 rfl rfl k_13 ik_13 hk_13 (by decide) dX9_dots_251 (fun H locs hP hD hS => ?_)
          obtain ⟨M_14, eM_14⟩ : ∃ z : ST, z = x_st u_2 1 k_13 (y_12 + 1) := ⟨_, rfl⟩
          have hP : va_P D vwCl ((w_Model cT a M_14)) H := by rw [eM_14]; exact hP
          have hD : va_D A ((w_Model cT a M_14)) := by rw [eM_14]; exact hD
          have hv := hv M_14 eM_14
          refine lv_aload_n hx hb dX9_dots_252 rfl (lv_at hl 5 rfl) ?_
          refine va_get (D := D) (ci := 9) (v := .ref (a 1)) (C := RX9) (T := TX9) (N := 2) hx hb hts in_X9 hown hK hP 0 rfl rfl 0 (by decide) k_7 (fun _ h9 => h9) rfl dX9_dots_253 ?_
          refine lv_bipush (v := 25) hx hb dX9_dots_256 (by decide) ?_
          refine lv_dup2_11 hx hb dX9_dots_258 rfl rfl ?_
          refine x_ald hx hb hK hP 1 0 rfl rfl 25 rfl (by decide) (by decide) dX9_dots_259 ?_
          refine lv_iconst (v := 1) hx hb dX9_dots_260 (by decide) ?_
          refine lv_iadd hx hb dX9_dots_261 ?_
          refine x_ast hx hb hK hP hD hS 1 0 rfl rfl 25 rfl (by decide) (by decide) dX9_dots_262 (fun H locs hP hD hS => ?_)
          obtain ⟨M_15, eM_15⟩ : ∃ z : ST, z = x_st M_14 1 25 ((M_14 1 25) + 1) := ⟨_, rfl⟩
          have hP : va_P D vwCl ((w_Model cT a M_15)) H := by rw [eM_15]; exact hP
          have hD : va_D A ((w_Model cT a M_15)) := by rw [eM_15]; exact hD
          have hv := hv M_15 eM_15
          exact W.vret hx hb hr (fun t ht hW => ⟨⟨M_15, rfl, hv, by rw [ht]; exact hP, va_K.moved hW.alike hK, hD⟩, hS.F ht⟩) hS.2.2 dX9_dots_263
        have L_10 : ∀ n_18 : Nat, ∀ (y_16 : Int32) (y_17 : Int32), lp_X9_dots_110 u_2 r_4 r_5 post (fun (y_11 : Int32) (y_12 : Int32) => ∃ k_13 : Nat, k_13 < 23520 ∧ ((1770 + (64 * r_4)) + (u_2 1 20)) = nI k_13 ∧ ∀ M_14 : ST, M_14 = x_st u_2 1 k_13 (y_12 + 1) → ∀ M_15 : ST, M_15 = x_st M_14 1 25 ((M_14 1 25) + 1) → post M_15) n_18 y_16 y_17 → ∀ ls : Array Slot, lv_has ls 8 [(5, .int y_16), (4, .int y_17), (3, .int r_5), (2, .int r_4), (1, .int r_3), (0, .ref (a 0))] → W p l e (headSpec wsX9_dots ({ frames := 2, cells := 0, slots := 0, locals := 47 })).room s m ([.ref (a 0)] : List Value).toArray below meth c H locs 0 0 (MQ below (va_Qv post (fun u t => x_B D cT ((w_Model cT a u)) A t) A) ([.ref (a 0)] : List Value).toArray s 0 0 A) (F0 m 110 ls []) := by
          intro n_18
          induction n_18 with
          | zero =>
            intro y_16 y_17 hv
            exact hv.elim
          | succ n_18 L_10_ih =>
            intro y_16 y_17 hv ls hl
            refine lv_iload hx hb dX9_dots_110 (lv_at hl 0 rfl) ?_
            refine lv_if_lt (tgt := 227) hx hb dX9_dots_112 (by decide) (fun c_19 => ?_) (fun c_19 => ?_)
            · have hv := hv.1 c_19
              exact K_L_10 _ _ hv ls (lv_sub hl [0, 1, 2, 3, 4, 5] rfl)
            · have hv := hv.2 c_19
              refine lv_aload_n hx hb dX9_dots_115 rfl (lv_at hl 5 rfl) ?_
              refine va_get (D := D) (ci := 9) (v := .ref (a 1)) (C := RX9) (T := TX9) (N := 2) hx hb hts in_X9 hown hK hP 0 rfl rfl 0 (by decide) k_7 (fun _ h9 => h9) rfl dX9_dots_116 ?_
              refine lv_bipush (v := 20) hx hb dX9_dots_119 (by decide) ?_
              refine x_ald hx hb hK hP 1 0 rfl rfl 20 rfl (by decide) (by decide) dX9_dots_121 ?_
              refine lv_aload_n hx hb dX9_dots_122 rfl (lv_at hl 5 rfl) ?_
              refine va_get (D := D) (ci := 9) (v := .ref (a 1)) (C := RX9) (T := TX9) (N := 2) hx hb hts in_X9 hown hK hP 0 rfl rfl 0 (by decide) k_7 (fun _ h9 => h9) rfl dX9_dots_123 ?_
              refine lv_sipush (v := 130) hx hb dX9_dots_126 (by decide) ?_
              refine lv_bipush (v := 11) hx hb dX9_dots_129 (by decide) ?_
              refine lv_iload hx hb dX9_dots_131 (lv_at hl 0 rfl) ?_
              refine lv_imul hx hb dX9_dots_133 ?_
              refine lv_iadd hx hb dX9_dots_134 ?_
              obtain ⟨k_20, hk_20, ik_20, hv⟩ := hv
              refine x_ald hx hb hK hP 1 0 rfl rfl k_20 ik_20 hk_20 (by decide) dX9_dots_135 ?_
              refine lv_isub hx hb dX9_dots_136 ?_
              refine lv_topi (fun x_21 ex_21 => ?_)
              have hv := hv x_21 ex_21
              refine lv_istore (lv' := [(6, .int x_21), (5, .int y_16), (4, .int y_17), (3, .int r_5), (2, .int r_4), (1, .int r_3), (0, .ref (a 0))]) hx hb dX9_dots_137 hl (by decide) rfl (fun ls hl => ?_)
              refine lv_iload_n hx hb dX9_dots_139 rfl (lv_at hl 3 rfl) ?_
              refine lv_iload hx hb dX9_dots_140 (lv_at hl 1 rfl) ?_
              refine lv_ishr hx hb dX9_dots_142 ?_
              refine lv_iconst (v := 1) hx hb dX9_dots_143 (by decide) ?_
              refine lv_iand hx hb dX9_dots_144 ?_
              refine lv_if_eq (tgt := 221) hx hb dX9_dots_145 (by decide) (fun c_22 => ?_) (fun c_22 => ?_)
              · have hv := hv.1 c_22
                obtain ⟨x_23, ex_23⟩ : ∃ z : Int32, z = y_16 + (-1) := ⟨_, rfl⟩
                have hv := hv x_23 ex_23
                refine lv_iinc (v := x_23) (lv' := [(5, .int x_23), (6, .int x_21), (4, .int y_17), (3, .int r_5), (2, .int r_4), (1, .int r_3), (0, .ref (a 0))]) hx hb dX9_dots_221 hl (k := 1) rfl (by rw [ex_23]; rfl) (by decide) rfl (fun ls hl => ?_)
                refine lv_goto (tgt := 110) hx hb dX9_dots_224 (by decide) ?_
                exact L_10_ih _ _ hv ls (lv_sub hl [0, 2, 3, 4, 5, 6] rfl)
              · have hv := hv.2 c_22
                refine lv_iload hx hb dX9_dots_148 (lv_at hl 0 rfl) ?_
                refine lv_iconst (v := 0) hx hb dX9_dots_150 (by decide) ?_
                refine lv_bipush (v := 7) hx hb dX9_dots_151 (by decide) ?_
                refine x_rS (As := [.int x_21, .int 0, .int 7]) (rest := []) ⟨hx, hb, hml, hown, hts⟩ (c_X9_isIn l D cT x_21 0 7 _ hv) w_17 hK hS hN rfl hl.1 rfl (Nat.le_of_ble_eq_true rfl) dX9_dots_153 ⟨Nat.le_of_ble_eq_true rfl, Nat.le_of_ble_eq_true rfl⟩ (fun r_24 hv => ?_)
                refine lv_if_ne (tgt := 162) hx hb dX9_dots_156 (by decide) (fun c_25 => ?_) (fun c_25 => ?_)
                · have hv := hv.1 c_25
                  refine lv_aload_n hx hb dX9_dots_162 rfl (lv_at hl 6 rfl) ?_
                  refine va_get (D := D) (ci := 9) (v := .ref (a 1)) (C := RX9) (T := TX9) (N := 2) hx hb hts in_X9 hown hK hP 0 rfl rfl 0 (by decide) k_7 (fun _ h9 => h9) rfl dX9_dots_163 ?_
                  refine lv_sipush (v := 130) hx hb dX9_dots_166 (by decide) ?_
                  refine lv_bipush (v := 11) hx hb dX9_dots_169 (by decide) ?_
                  refine lv_iload hx hb dX9_dots_171 (lv_at hl 1 rfl) ?_
                  refine lv_imul hx hb dX9_dots_173 ?_
                  refine lv_iadd hx hb dX9_dots_174 ?_
                  refine lv_iconst (v := 3) hx hb dX9_dots_175 (by decide) ?_
                  refine lv_iadd hx hb dX9_dots_176 ?_
                  refine lv_iload_n hx hb dX9_dots_177 rfl (lv_at hl 4 rfl) ?_
                  refine lv_iadd hx hb dX9_dots_178 ?_
                  refine lv_aload_n hx hb dX9_dots_179 rfl (lv_at hl 6 rfl) ?_
                  refine va_get (D := D) (ci := 9) (v := .ref (a 1)) (C := RX9) (T := TX9) (N := 2) hx hb hts in_X9 hown hK hP 0 rfl rfl 0 (by decide) k_7 (fun _ h9 => h9) rfl dX9_dots_180 ?_
                  refine lv_sipush (v := 130) hx hb dX9_dots_183 (by decide) ?_
                  refine lv_bipush (v := 11) hx hb dX9_dots_186 (by decide) ?_
                  refine lv_iload hx hb dX9_dots_188 (lv_at hl 1 rfl) ?_
                  refine lv_imul hx hb dX9_dots_190 ?_
                  refine lv_iadd hx hb dX9_dots_191 ?_
                  refine lv_iconst (v := 1) hx hb dX9_dots_192 (by decide) ?_
                  refine lv_iadd hx hb dX9_dots_193 ?_
                  obtain ⟨k_26, hk_26, ik_26, hv⟩ := hv
                  refine x_ald hx hb hK hP 1 0 rfl rfl k_26 ik_26 hk_26 (by decide) dX9_dots_194 ?_
                  refine lv_isub hx hb dX9_dots_195 ?_
                  obtain ⟨k_27, hk_27, ik_27, hv⟩ := hv
                  refine x_ald hx hb hK hP 1 0 rfl rfl k_27 ik_27 hk_27 (by decide) dX9_dots_196 ?_
                  refine lv_topi (fun x_28 ex_28 => ?_)
                  have hv := hv x_28 ex_28
                  refine lv_istore (lv' := [(7, .int x_28), (6, .int x_21), (5, .int y_16), (4, .int y_17), (3, .int r_5), (2, .int r_4), (1, .int r_3), (0, .ref (a 0))]) hx hb dX9_dots_197 hl (by decide) rfl (fun ls hl => ?_)
                  refine lv_iload hx hb dX9_dots_199 (lv_at hl 0 rfl) ?_
                  refine lv_bipush (v := 7) hx hb dX9_dots_201 (by decide) ?_
                  refine lv_iload hx hb dX9_dots_203 (lv_at hl 1 rfl) ?_
                  refine lv_isub hx hb dX9_dots_205 ?_
                  refine lv_ishr hx hb dX9_dots_206 ?_
                  refine lv_iconst (v := 1) hx hb dX9_dots_207 (by decide) ?_
                  refine lv_iand hx hb dX9_dots_208 ?_
                  refine lv_iconst (v := 1) hx hb dX9_dots_209 (by decide) ?_
                  refine lv_icmp_ne (tgt := 221) hx hb dX9_dots_210 (by decide) (fun c_29 => ?_) (fun c_29 => ?_)
                  · have hv := hv.1 c_29
                    obtain ⟨x_30, ex_30⟩ : ∃ z : Int32, z = y_16 + (-1) := ⟨_, rfl⟩
                    have hv := hv x_30 ex_30
                    refine lv_iinc (v := x_30) (lv' := [(5, .int x_30), (7, .int x_28), (6, .int x_21), (4, .int y_17), (3, .int r_5), (2, .int r_4), (1, .int r_3), (0, .ref (a 0))]) hx hb dX9_dots_221 hl (k := 2) rfl (by rw [ex_30]; rfl) (by decide) rfl (fun ls hl => ?_)
                    refine lv_goto (tgt := 110) hx hb dX9_dots_224 (by decide) ?_
                    exact L_10_ih _ _ hv ls (lv_sub hl [0, 3, 4, 5, 6, 7] rfl)
                  · have hv := hv.2 c_29
                    refine lv_sipush (v := 256) hx hb dX9_dots_213 (by decide) ?_
                    refine lv_iload hx hb dX9_dots_216 (lv_at hl 2 rfl) ?_
                    refine lv_iadd hx hb dX9_dots_218 ?_
                    refine lv_topi (fun x_31 ex_31 => ?_)
                    have hv := hv x_31 ex_31
                    refine lv_istore (lv' := [(4, .int x_31), (7, .int x_28), (6, .int x_21), (5, .int y_16), (3, .int r_5), (2, .int r_4), (1, .int r_3), (0, .ref (a 0))]) hx hb dX9_dots_219 hl (by decide) rfl (fun ls hl => ?_)
                    obtain ⟨x_32, ex_32⟩ : ∃ z : Int32, z = y_16 + (-1) := ⟨_, rfl⟩
                    have hv := hv x_32 ex_32
                    refine lv_iinc (v := x_32) (lv' := [(5, .int x_32), (4, .int x_31), (7, .int x_28), (6, .int x_21), (3, .int r_5), (2, .int r_4), (1, .int r_3), (0, .ref (a 0))]) hx hb dX9_dots_221 hl (k := 3) rfl (by rw [ex_32]; rfl) (by decide) rfl (fun ls hl => ?_)
                    refine lv_goto (tgt := 110) hx hb dX9_dots_224 (by decide) ?_
                    exact L_10_ih _ _ hv ls (lv_sub hl [0, 1, 4, 5, 6, 7] rfl)
                · have hv := hv.2 c_25
                  refine lv_goto (tgt := 221) hx hb dX9_dots_159 (by decide) ?_
                  obtain ⟨x_33, ex_33⟩ : ∃ z : Int32, z = y_16 + (-1) := ⟨_, rfl⟩
                  have hv := hv x_33 ex_33
                  refine lv_iinc (v := x_33) (lv' := [(5, .int x_33), (6, .int x_21), (4, .int y_17), (3, .int r_5), (2, .int r_4), (1, .int r_3), (0, .ref (a 0))]) hx hb dX9_dots_221 hl (k := 1) rfl (by rw [ex_33]; rfl) (by decide) rfl (fun ls hl => ?_)
                  refine lv_goto (tgt := 110) hx hb dX9_dots_224 (by decide) ?_
                  exact L_10_ih _ _ hv ls (lv_sub hl [0, 2, 3, 4, 5, 6] rfl)
        exact L_10 n_34 _ _ hv ls hl
      · have hv := hv.2 c_7
        refine lv_iconst (v := 3) hx hb dX9_dots_97 (by decide) ?_
        refine lv_goto (tgt := 102) hx hb dX9_dots_98 (by decide) ?_
        refine lv_iadd hx hb dX9_dots_102 ?_
        obtain ⟨k_35, hk_35, ik_35, hv⟩ := hv
        refine x_ald hx hb hK hP 1 0 rfl rfl k_35 ik_35 hk_35 (by decide) dX9_dots_103 ?_
        refine lv_topi (fun x_36 ex_36 => ?_)
        have hv := hv x_36 ex_36
        refine lv_istore (lv' := [(4, .int x_36), (3, .int r_5), (2, .int r_4), (1, .int r_3), (0, .ref (a 0))]) hx hb dX9_dots_104 hl (by decide) rfl (fun ls hl => ?_)
        refine lv_bipush (v := 7) hx hb dX9_dots_106 (by decide) ?_
        refine lv_istore (lv' := [(5, .int 7), (4, .int x_36), (3, .int r_5), (2, .int r_4), (1, .int r_3), (0, .ref (a 0))]) hx hb dX9_dots_108 hl (by decide) rfl (fun ls hl => ?_)
        obtain ⟨n_61, hv⟩ := hv
        have K_L_37 : ∀ (y_38 : Int32) (y_39 : Int32), ∃ k_40 : Nat, k_40 < 23520 ∧ ((1770 + (64 * r_4)) + (u_2 1 20)) = nI k_40 ∧ ∀ M_41 : ST, M_41 = x_st u_2 1 k_40 (y_39 + 1) → ∀ M_42 : ST, M_42 = x_st M_41 1 25 ((M_41 1 25) + 1) → post M_42 → ∀ ls : Array Slot, lv_has ls 8 [(5, .int y_38), (4, .int y_39), (3, .int r_5), (2, .int r_4), (1, .int r_3), (0, .ref (a 0))] → W p l e (headSpec wsX9_dots ({ frames := 2, cells := 0, slots := 0, locals := 47 })).room s m ([.ref (a 0)] : List Value).toArray below meth c H locs 0 0 (MQ below (va_Qv post (fun u t => x_B D cT ((w_Model cT a u)) A t) A) ([.ref (a 0)] : List Value).toArray s 0 0 A) (F0 m 227 ls []) := by
          intro y_38 y_39 hv ls hl
          refine lv_aload_n hx hb dX9_dots_227 rfl (lv_at hl 5 rfl) ?_
          refine va_get (D := D) (ci := 9) (v := .ref (a 1)) (C := RX9) (T := TX9) (N := 2) hx hb hts in_X9 hown hK hP 0 rfl rfl 0 (by decide) k_7 (fun _ h9 => h9) rfl dX9_dots_228 ?_
          refine lv_sipush (v := 1770) hx hb dX9_dots_231 (by decide) ?_
          refine lv_bipush (v := 64) hx hb dX9_dots_234 (by decide) ?_
          refine lv_iload_n hx hb dX9_dots_236 rfl (lv_at hl 3 rfl) ?_
          refine lv_imul hx hb dX9_dots_237 ?_
          refine lv_iadd hx hb dX9_dots_238 ?_
          refine lv_aload_n hx hb dX9_dots_239 rfl (lv_at hl 5 rfl) ?_
          refine va_get (D := D) (ci := 9) (v := .ref (a 1)) (C := RX9) (T := TX9) (N := 2) hx hb hts in_X9 hown hK hP 0 rfl rfl 0 (by decide) k_7 (fun _ h9 => h9) rfl dX9_dots_240 ?_
          refine lv_bipush (v := 20) hx hb dX9_dots_243 (by decide) ?_
          refine x_ald hx hb hK hP 1 0 rfl rfl 20 rfl (by decide) (by decide) dX9_dots_245 ?_
          refine lv_iadd hx hb dX9_dots_246 ?_
          refine lv_iload hx hb dX9_dots_247 (lv_at hl 1 rfl) ?_
          refine lv_iconst (v := 1) hx hb dX9_dots_249 (by decide) ?_
          refine lv_iadd hx hb dX9_dots_250 ?_
          obtain ⟨k_40, hk_40, ik_40, hv⟩ := hv
          refine x_ast hx hb hK hP hD hS 1 0 rfl rfl k_40 ik_40 hk_40 (by decide) dX9_dots_251 (fun H locs hP hD hS => ?_)
          obtain ⟨M_41, eM_41⟩ : ∃ z : ST, z = x_st u_2 1 k_40 (y_39 + 1) := ⟨_, rfl⟩
          have hP : va_P D vwCl ((w_Model cT a M_41)) H := by rw [eM_41]; exact hP
          have hD : va_D A ((w_Model cT a M_41)) := by rw [eM_41]; exact hD
          have hv := hv M_41 eM_41
          refine lv_aload_n hx hb dX9_dots_252 rfl (lv_at hl 5 rfl) ?_
          refine va_get (D := D) (ci := 9) (v := .ref (a 1)) (C := RX9) (T := TX9) (N := 2) hx hb hts in_X9 hown hK hP 0 rfl rfl 0 (by decide) k_7 (fun _ h9 => h9) rfl dX9_dots_253 ?_
          refine lv_bipush (v := 25) hx hb dX9_dots_256 (by decide) ?_
          refine lv_dup2_11 hx hb dX9_dots_258 rfl rfl ?_
          refine x_ald hx hb hK hP 1 0 rfl rfl 25 rfl (by decide) (by decide) dX9_dots_259 ?_
          refine lv_iconst (v := 1) hx hb dX9_dots_260 (by decide) ?_
          refine lv_iadd hx hb dX9_dots_261 ?_
          refine x_ast hx hb hK hP hD hS 1 0 rfl rfl 25 rfl (by decide) (by decide) dX9_dots_262 (fun H locs hP hD hS => ?_)
          obtain ⟨M_42, eM_42⟩ : ∃ z : ST, z = x_st M_41 1 25 ((M_41 1 25) + 1) := ⟨_, rfl⟩
          have hP : va_P D vwCl ((w_Model cT a M_42)) H := by rw [eM_42]; exact hP
          have hD : va_D A ((w_Model cT a M_42)) := by rw [eM_42]; exact hD
          have hv := hv M_42 eM_42
          exact W.vret hx hb hr (fun t ht hW => ⟨⟨M_42, rfl, hv, by rw [ht]; exact hP, va_K.moved hW.alike hK, hD⟩, hS.F ht⟩) hS.2.2 dX9_dots_263
        have L_37 : ∀ n_45 : Nat, ∀ (y_43 : Int32) (y_44 : Int32), lp_X9_dots_110_L_37 u_2 r_4 r_5 post (fun (y_38 : Int32) (y_39 : Int32) => ∃ k_40 : Nat, k_40 < 23520 ∧ ((1770 + (64 * r_4)) + (u_2 1 20)) = nI k_40 ∧ ∀ M_41 : ST, M_41 = x_st u_2 1 k_40 (y_39 + 1) → ∀ M_42 : ST, M_42 = x_st M_41 1 25 ((M_41 1 25) + 1) → post M_42) n_45 y_43 y_44 → ∀ ls : Array Slot, lv_has ls 8 [(5, .int y_43), (4, .int y_44), (3, .int r_5), (2, .int r_4), (1, .int r_3), (0, .ref (a 0))] → W p l e (headSpec wsX9_dots ({ frames := 2, cells := 0, slots := 0, locals := 47 })).room s m ([.ref (a 0)] : List Value).toArray below meth c H locs 0 0 (MQ below (va_Qv post (fun u t => x_B D cT ((w_Model cT a u)) A t) A) ([.ref (a 0)] : List Value).toArray s 0 0 A) (F0 m 110 ls []) := by
          intro n_45
          induction n_45 with
          | zero =>
            intro y_43 y_44 hv
            exact hv.elim
          | succ n_45 L_37_ih =>
            intro y_43 y_44 hv ls hl
            refine lv_iload hx hb dX9_dots_110 (lv_at hl 0 rfl) ?_
            refine lv_if_lt (tgt := 227) hx hb dX9_dots_112 (by decide) (fun c_46 => ?_) (fun c_46 => ?_)
            · have hv := hv.1 c_46
              exact K_L_37 _ _ hv ls (lv_sub hl [0, 1, 2, 3, 4, 5] rfl)
            · have hv := hv.2 c_46
              refine lv_aload_n hx hb dX9_dots_115 rfl (lv_at hl 5 rfl) ?_
              refine va_get (D := D) (ci := 9) (v := .ref (a 1)) (C := RX9) (T := TX9) (N := 2) hx hb hts in_X9 hown hK hP 0 rfl rfl 0 (by decide) k_7 (fun _ h9 => h9) rfl dX9_dots_116 ?_
              refine lv_bipush (v := 20) hx hb dX9_dots_119 (by decide) ?_
              refine x_ald hx hb hK hP 1 0 rfl rfl 20 rfl (by decide) (by decide) dX9_dots_121 ?_
              refine lv_aload_n hx hb dX9_dots_122 rfl (lv_at hl 5 rfl) ?_
              refine va_get (D := D) (ci := 9) (v := .ref (a 1)) (C := RX9) (T := TX9) (N := 2) hx hb hts in_X9 hown hK hP 0 rfl rfl 0 (by decide) k_7 (fun _ h9 => h9) rfl dX9_dots_123 ?_
              refine lv_sipush (v := 130) hx hb dX9_dots_126 (by decide) ?_
              refine lv_bipush (v := 11) hx hb dX9_dots_129 (by decide) ?_
              refine lv_iload hx hb dX9_dots_131 (lv_at hl 0 rfl) ?_
              refine lv_imul hx hb dX9_dots_133 ?_
              refine lv_iadd hx hb dX9_dots_134 ?_
              obtain ⟨k_47, hk_47, ik_47, hv⟩ := hv
              refine x_ald hx hb hK hP 1 0 rfl rfl k_47 ik_47 hk_47 (by decide) dX9_dots_135 ?_
              refine lv_isub hx hb dX9_dots_136 ?_
              refine lv_topi (fun x_48 ex_48 => ?_)
              have hv := hv x_48 ex_48
              refine lv_istore (lv' := [(6, .int x_48), (5, .int y_43), (4, .int y_44), (3, .int r_5), (2, .int r_4), (1, .int r_3), (0, .ref (a 0))]) hx hb dX9_dots_137 hl (by decide) rfl (fun ls hl => ?_)
              refine lv_iload_n hx hb dX9_dots_139 rfl (lv_at hl 3 rfl) ?_
              refine lv_iload hx hb dX9_dots_140 (lv_at hl 1 rfl) ?_
              refine lv_ishr hx hb dX9_dots_142 ?_
              refine lv_iconst (v := 1) hx hb dX9_dots_143 (by decide) ?_
              refine lv_iand hx hb dX9_dots_144 ?_
              refine lv_if_eq (tgt := 221) hx hb dX9_dots_145 (by decide) (fun c_49 => ?_) (fun c_49 => ?_)
              · have hv := hv.1 c_49
                obtain ⟨x_50, ex_50⟩ : ∃ z : Int32, z = y_43 + (-1) := ⟨_, rfl⟩
                have hv := hv x_50 ex_50
                refine lv_iinc (v := x_50) (lv' := [(5, .int x_50), (6, .int x_48), (4, .int y_44), (3, .int r_5), (2, .int r_4), (1, .int r_3), (0, .ref (a 0))]) hx hb dX9_dots_221 hl (k := 1) rfl (by rw [ex_50]; rfl) (by decide) rfl (fun ls hl => ?_)
                refine lv_goto (tgt := 110) hx hb dX9_dots_224 (by decide) ?_
                exact L_37_ih _ _ hv ls (lv_sub hl [0, 2, 3, 4, 5, 6] rfl)
              · have hv := hv.2 c_49
                refine lv_iload hx hb dX9_dots_148 (lv_at hl 0 rfl) ?_
                refine lv_iconst (v := 0) hx hb dX9_dots_150 (by decide) ?_
                refine lv_bipush (v := 7) hx hb dX9_dots_151 (by decide) ?_
                refine x_rS (As := [.int x_48, .int 0, .int 7]) (rest := []) ⟨hx, hb, hml, hown, hts⟩ (c_X9_isIn l D cT x_48 0 7 _ hv) w_17 hK hS hN rfl hl.1 rfl (Nat.le_of_ble_eq_true rfl) dX9_dots_153 ⟨Nat.le_of_ble_eq_true rfl, Nat.le_of_ble_eq_true rfl⟩ (fun r_51 hv => ?_)
                refine lv_if_ne (tgt := 162) hx hb dX9_dots_156 (by decide) (fun c_52 => ?_) (fun c_52 => ?_)
                · have hv := hv.1 c_52
                  refine lv_aload_n hx hb dX9_dots_162 rfl (lv_at hl 6 rfl) ?_
                  refine va_get (D := D) (ci := 9) (v := .ref (a 1)) (C := RX9) (T := TX9) (N := 2) hx hb hts in_X9 hown hK hP 0 rfl rfl 0 (by decide) k_7 (fun _ h9 => h9) rfl dX9_dots_163 ?_
                  refine lv_sipush (v := 130) hx hb dX9_dots_166 (by decide) ?_
                  refine lv_bipush (v := 11) hx hb dX9_dots_169 (by decide) ?_
                  refine lv_iload hx hb dX9_dots_171 (lv_at hl 1 rfl) ?_
                  refine lv_imul hx hb dX9_dots_173 ?_
                  refine lv_iadd hx hb dX9_dots_174 ?_
                  refine lv_iconst (v := 3) hx hb dX9_dots_175 (by decide) ?_
                  refine lv_iadd hx hb dX9_dots_176 ?_
                  refine lv_iload_n hx hb dX9_dots_177 rfl (lv_at hl 4 rfl) ?_
                  refine lv_iadd hx hb dX9_dots_178 ?_
                  refine lv_aload_n hx hb dX9_dots_179 rfl (lv_at hl 6 rfl) ?_
                  refine va_get (D := D) (ci := 9) (v := .ref (a 1)) (C := RX9) (T := TX9) (N := 2) hx hb hts in_X9 hown hK hP 0 rfl rfl 0 (by decide) k_7 (fun _ h9 => h9) rfl dX9_dots_180 ?_
                  refine lv_sipush (v := 130) hx hb dX9_dots_183 (by decide) ?_
                  refine lv_bipush (v := 11) hx hb dX9_dots_186 (by decide) ?_
                  refine lv_iload hx hb dX9_dots_188 (lv_at hl 1 rfl) ?_
                  refine lv_imul hx hb dX9_dots_190 ?_
                  refine lv_iadd hx hb dX9_dots_191 ?_
                  refine lv_iconst (v := 1) hx hb dX9_dots_192 (by decide) ?_
                  refine lv_iadd hx hb dX9_dots_193 ?_
                  obtain ⟨k_53, hk_53, ik_53, hv⟩ := hv
                  refine x_ald hx hb hK hP 1 0 rfl rfl k_53 ik_53 hk_53 (by decide) dX9_dots_194 ?_
                  refine lv_isub hx hb dX9_dots_195 ?_
                  obtain ⟨k_54, hk_54, ik_54, hv⟩ := hv
                  refine x_ald hx hb hK hP 1 0 rfl rfl k_54 ik_54 hk_54 (by decide) dX9_dots_196 ?_
                  refine lv_topi (fun x_55 ex_55 => ?_)
                  have hv := hv x_55 ex_55
                  refine lv_istore (lv' := [(7, .int x_55), (6, .int x_48), (5, .int y_43), (4, .int y_44), (3, .int r_5), (2, .int r_4), (1, .int r_3), (0, .ref (a 0))]) hx hb dX9_dots_197 hl (by decide) rfl (fun ls hl => ?_)
                  refine lv_iload hx hb dX9_dots_199 (lv_at hl 0 rfl) ?_
                  refine lv_bipush (v := 7) hx hb dX9_dots_201 (by decide) ?_
                  refine lv_iload hx hb dX9_dots_203 (lv_at hl 1 rfl) ?_
                  refine lv_isub hx hb dX9_dots_205 ?_
                  refine lv_ishr hx hb dX9_dots_206 ?_
                  refine lv_iconst (v := 1) hx hb dX9_dots_207 (by decide) ?_
                  refine lv_iand hx hb dX9_dots_208 ?_
                  refine lv_iconst (v := 1) hx hb dX9_dots_209 (by decide) ?_
                  refine lv_icmp_ne (tgt := 221) hx hb dX9_dots_210 (by decide) (fun c_56 => ?_) (fun c_56 => ?_)
                  · have hv := hv.1 c_56
                    obtain ⟨x_57, ex_57⟩ : ∃ z : Int32, z = y_43 + (-1) := ⟨_, rfl⟩
                    have hv := hv x_57 ex_57
                    refine lv_iinc (v := x_57) (lv' := [(5, .int x_57), (7, .int x_55), (6, .int x_48), (4, .int y_44), (3, .int r_5), (2, .int r_4), (1, .int r_3), (0, .ref (a 0))]) hx hb dX9_dots_221 hl (k := 2) rfl (by rw [ex_57]; rfl) (by decide) rfl (fun ls hl => ?_)
                    refine lv_goto (tgt := 110) hx hb dX9_dots_224 (by decide) ?_
                    exact L_37_ih _ _ hv ls (lv_sub hl [0, 3, 4, 5, 6, 7] rfl)
                  · have hv := hv.2 c_56
                    refine lv_sipush (v := 256) hx hb dX9_dots_213 (by decide) ?_
                    refine lv_iload hx hb dX9_dots_216 (lv_at hl 2 rfl) ?_
                    refine lv_iadd hx hb dX9_dots_218 ?_
                    refine lv_topi (fun x_58 ex_58 => ?_)
                    have hv := hv x_58 ex_58
                    refine lv_istore (lv' := [(4, .int x_58), (7, .int x_55), (6, .int x_48), (5, .int y_43), (3, .int r_5), (2, .int r_4), (1, .int r_3), (0, .ref (a 0))]) hx hb dX9_dots_219 hl (by decide) rfl (fun ls hl => ?_)
                    obtain ⟨x_59, ex_59⟩ : ∃ z : Int32, z = y_43 + (-1) := ⟨_, rfl⟩
                    have hv := hv x_59 ex_59
                    refine lv_iinc (v := x_59) (lv' := [(5, .int x_59), (4, .int x_58), (7, .int x_55), (6, .int x_48), (3, .int r_5), (2, .int r_4), (1, .int r_3), (0, .ref (a 0))]) hx hb dX9_dots_221 hl (k := 3) rfl (by rw [ex_59]; rfl) (by decide) rfl (fun ls hl => ?_)
                    refine lv_goto (tgt := 110) hx hb dX9_dots_224 (by decide) ?_
                    exact L_37_ih _ _ hv ls (lv_sub hl [0, 1, 4, 5, 6, 7] rfl)
                · have hv := hv.2 c_52
                  refine lv_goto (tgt := 221) hx hb dX9_dots_159 (by decide) ?_
                  obtain ⟨x_60, ex_60⟩ : ∃ z : Int32, z = y_43 + (-1) := ⟨_, rfl⟩
                  have hv := hv x_60 ex_60
                  refine lv_iinc (v := x_60) (lv' := [(5, .int x_60), (6, .int x_48), (4, .int y_44), (3, .int r_5), (2, .int r_4), (1, .int r_3), (0, .ref (a 0))]) hx hb dX9_dots_221 hl (k := 1) rfl (by rw [ex_60]; rfl) (by decide) rfl (fun ls hl => ?_)
                  refine lv_goto (tgt := 110) hx hb dX9_dots_224 (by decide) ?_
                  exact L_37_ih _ _ hv ls (lv_sub hl [0, 2, 3, 4, 5, 6] rfl)
        exact L_37 n_61 _ _ hv ls hl
    · have hv := hv.2 c_6
      refine lv_sipush (v := 512) hx hb dX9_dots_80 (by decide) ?_
      refine lv_goto (tgt := 104) hx hb dX9_dots_83 (by decide) ?_
      refine lv_istore (lv' := [(4, .int 512), (3, .int r_5), (2, .int r_4), (1, .int r_3), (0, .ref (a 0))]) hx hb dX9_dots_104 hl (by decide) rfl (fun ls hl => ?_)
      refine lv_bipush (v := 7) hx hb dX9_dots_106 (by decide) ?_
      refine lv_istore (lv' := [(5, .int 7), (4, .int 512), (3, .int r_5), (2, .int r_4), (1, .int r_3), (0, .ref (a 0))]) hx hb dX9_dots_108 hl (by decide) rfl (fun ls hl => ?_)
      obtain ⟨n_86, hv⟩ := hv
      have K_L_62 : ∀ (y_63 : Int32) (y_64 : Int32), ∃ k_65 : Nat, k_65 < 23520 ∧ ((1770 + (64 * r_4)) + (u_2 1 20)) = nI k_65 ∧ ∀ M_66 : ST, M_66 = x_st u_2 1 k_65 (y_64 + 1) → ∀ M_67 : ST, M_67 = x_st M_66 1 25 ((M_66 1 25) + 1) → post M_67 → ∀ ls : Array Slot, lv_has ls 8 [(5, .int y_63), (4, .int y_64), (3, .int r_5), (2, .int r_4), (1, .int r_3), (0, .ref (a 0))] → W p l e (headSpec wsX9_dots ({ frames := 2, cells := 0, slots := 0, locals := 47 })).room s m ([.ref (a 0)] : List Value).toArray below meth c H locs 0 0 (MQ below (va_Qv post (fun u t => x_B D cT ((w_Model cT a u)) A t) A) ([.ref (a 0)] : List Value).toArray s 0 0 A) (F0 m 227 ls []) := by
        intro y_63 y_64 hv ls hl
        refine lv_aload_n hx hb dX9_dots_227 rfl (lv_at hl 5 rfl) ?_
        refine va_get (D := D) (ci := 9) (v := .ref (a 1)) (C := RX9) (T := TX9) (N := 2) hx hb hts in_X9 hown hK hP 0 rfl rfl 0 (by decide) k_7 (fun _ h9 => h9) rfl dX9_dots_228 ?_
        refine lv_sipush (v := 1770) hx hb dX9_dots_231 (by decide) ?_
        refine lv_bipush (v := 64) hx hb dX9_dots_234 (by decide) ?_
        refine lv_iload_n hx hb dX9_dots_236 rfl (lv_at hl 3 rfl) ?_
        refine lv_imul hx hb dX9_dots_237 ?_
        refine lv_iadd hx hb dX9_dots_238 ?_
        refine lv_aload_n hx hb dX9_dots_239 rfl (lv_at hl 5 rfl) ?_
        refine va_get (D := D) (ci := 9) (v := .ref (a 1)) (C := RX9) (T := TX9) (N := 2) hx hb hts in_X9 hown hK hP 0 rfl rfl 0 (by decide) k_7 (fun _ h9 => h9) rfl dX9_dots_240 ?_
        refine lv_bipush (v := 20) hx hb dX9_dots_243 (by decide) ?_
        refine x_ald hx hb hK hP 1 0 rfl rfl 20 rfl (by decide) (by decide) dX9_dots_245 ?_
        refine lv_iadd hx hb dX9_dots_246 ?_
        refine lv_iload hx hb dX9_dots_247 (lv_at hl 1 rfl) ?_
        refine lv_iconst (v := 1) hx hb dX9_dots_249 (by decide) ?_
        refine lv_iadd hx hb dX9_dots_250 ?_
        obtain ⟨k_65, hk_65, ik_65, hv⟩ := hv
        refine x_ast hx hb hK hP hD hS 1 0 rfl rfl k_65 ik_65 hk_65 (by decide) dX9_dots_251 (fun H locs hP hD hS => ?_)
        obtain ⟨M_66, eM_66⟩ : ∃ z : ST, z = x_st u_2 1 k_65 (y_64 + 1) := ⟨_, rfl⟩
        have hP : va_P D vwCl ((w_Model cT a M_66)) H := by rw [eM_66]; exact hP
        have hD : va_D A ((w_Model cT a M_66)) := by rw [eM_66]; exact hD
        have hv := hv M_66 eM_66
        refine lv_aload_n hx hb dX9_dots_252 rfl (lv_at hl 5 rfl) ?_
        refine va_get (D := D) (ci := 9) (v := .ref (a 1)) (C := RX9) (T := TX9) (N := 2) hx hb hts in_X9 hown hK hP 0 rfl rfl 0 (by decide) k_7 (fun _ h9 => h9) rfl dX9_dots_253 ?_
        refine lv_bipush (v := 25) hx hb dX9_dots_256 (by decide) ?_
        refine lv_dup2_11 hx hb dX9_dots_258 rfl rfl ?_
        refine x_ald hx hb hK hP 1 0 rfl rfl 25 rfl (by decide) (by decide) dX9_dots_259 ?_
        refine lv_iconst (v := 1) hx hb dX9_dots_260 (by decide) ?_
        refine lv_iadd hx hb dX9_dots_261 ?_
        refine x_ast hx hb hK hP hD hS 1 0 rfl rfl 25 rfl (by decide) (by decide) dX9_dots_262 (fun H locs hP hD hS => ?_)
        obtain ⟨M_67, eM_67⟩ : ∃ z : ST, z = x_st M_66 1 25 ((M_66 1 25) + 1) := ⟨_, rfl⟩
        have hP : va_P D vwCl ((w_Model cT a M_67)) H := by rw [eM_67]; exact hP
        have hD : va_D A ((w_Model cT a M_67)) := by rw [eM_67]; exact hD
        have hv := hv M_67 eM_67
        exact W.vret hx hb hr (fun t ht hW => ⟨⟨M_67, rfl, hv, by rw [ht]; exact hP, va_K.moved hW.alike hK, hD⟩, hS.F ht⟩) hS.2.2 dX9_dots_263
      have L_62 : ∀ n_70 : Nat, ∀ (y_68 : Int32) (y_69 : Int32), lp_X9_dots_110_L_62 u_2 r_4 r_5 post (fun (y_63 : Int32) (y_64 : Int32) => ∃ k_65 : Nat, k_65 < 23520 ∧ ((1770 + (64 * r_4)) + (u_2 1 20)) = nI k_65 ∧ ∀ M_66 : ST, M_66 = x_st u_2 1 k_65 (y_64 + 1) → ∀ M_67 : ST, M_67 = x_st M_66 1 25 ((M_66 1 25) + 1) → post M_67) n_70 y_68 y_69 → ∀ ls : Array Slot, lv_has ls 8 [(5, .int y_68), (4, .int y_69), (3, .int r_5), (2, .int r_4), (1, .int r_3), (0, .ref (a 0))] → W p l e (headSpec wsX9_dots ({ frames := 2, cells := 0, slots := 0, locals := 47 })).room s m ([.ref (a 0)] : List Value).toArray below meth c H locs 0 0 (MQ below (va_Qv post (fun u t => x_B D cT ((w_Model cT a u)) A t) A) ([.ref (a 0)] : List Value).toArray s 0 0 A) (F0 m 110 ls []) := by
        intro n_70
        induction n_70 with
        | zero =>
          intro y_68 y_69 hv
          exact hv.elim
        | succ n_70 L_62_ih =>
          intro y_68 y_69 hv ls hl
          refine lv_iload hx hb dX9_dots_110 (lv_at hl 0 rfl) ?_
          refine lv_if_lt (tgt := 227) hx hb dX9_dots_112 (by decide) (fun c_71 => ?_) (fun c_71 => ?_)
          · have hv := hv.1 c_71
            exact K_L_62 _ _ hv ls (lv_sub hl [0, 1, 2, 3, 4, 5] rfl)
          · have hv := hv.2 c_71
            refine lv_aload_n hx hb dX9_dots_115 rfl (lv_at hl 5 rfl) ?_
            refine va_get (D := D) (ci := 9) (v := .ref (a 1)) (C := RX9) (T := TX9) (N := 2) hx hb hts in_X9 hown hK hP 0 rfl rfl 0 (by decide) k_7 (fun _ h9 => h9) rfl dX9_dots_116 ?_
            refine lv_bipush (v := 20) hx hb dX9_dots_119 (by decide) ?_
            refine x_ald hx hb hK hP 1 0 rfl rfl 20 rfl (by decide) (by decide) dX9_dots_121 ?_
            refine lv_aload_n hx hb dX9_dots_122 rfl (lv_at hl 5 rfl) ?_
            refine va_get (D := D) (ci := 9) (v := .ref (a 1)) (C := RX9) (T := TX9) (N := 2) hx hb hts in_X9 hown hK hP 0 rfl rfl 0 (by decide) k_7 (fun _ h9 => h9) rfl dX9_dots_123 ?_
            refine lv_sipush (v := 130) hx hb dX9_dots_126 (by decide) ?_
            refine lv_bipush (v := 11) hx hb dX9_dots_129 (by decide) ?_
            refine lv_iload hx hb dX9_dots_131 (lv_at hl 0 rfl) ?_
            refine lv_imul hx hb dX9_dots_133 ?_
            refine lv_iadd hx hb dX9_dots_134 ?_
            obtain ⟨k_72, hk_72, ik_72, hv⟩ := hv
            refine x_ald hx hb hK hP 1 0 rfl rfl k_72 ik_72 hk_72 (by decide) dX9_dots_135 ?_
            refine lv_isub hx hb dX9_dots_136 ?_
            refine lv_topi (fun x_73 ex_73 => ?_)
            have hv := hv x_73 ex_73
            refine lv_istore (lv' := [(6, .int x_73), (5, .int y_68), (4, .int y_69), (3, .int r_5), (2, .int r_4), (1, .int r_3), (0, .ref (a 0))]) hx hb dX9_dots_137 hl (by decide) rfl (fun ls hl => ?_)
            refine lv_iload_n hx hb dX9_dots_139 rfl (lv_at hl 3 rfl) ?_
            refine lv_iload hx hb dX9_dots_140 (lv_at hl 1 rfl) ?_
            refine lv_ishr hx hb dX9_dots_142 ?_
            refine lv_iconst (v := 1) hx hb dX9_dots_143 (by decide) ?_
            refine lv_iand hx hb dX9_dots_144 ?_
            refine lv_if_eq (tgt := 221) hx hb dX9_dots_145 (by decide) (fun c_74 => ?_) (fun c_74 => ?_)
            · have hv := hv.1 c_74
              obtain ⟨x_75, ex_75⟩ : ∃ z : Int32, z = y_68 + (-1) := ⟨_, rfl⟩
              have hv := hv x_75 ex_75
              refine lv_iinc (v := x_75) (lv' := [(5, .int x_75), (6, .int x_73), (4, .int y_69), (3, .int r_5), (2, .int r_4), (1, .int r_3), (0, .ref (a 0))]) hx hb dX9_dots_221 hl (k := 1) rfl (by rw [ex_75]; rfl) (by decide) rfl (fun ls hl => ?_)
              refine lv_goto (tgt := 110) hx hb dX9_dots_224 (by decide) ?_
              exact L_62_ih _ _ hv ls (lv_sub hl [0, 2, 3, 4, 5, 6] rfl)
            · have hv := hv.2 c_74
              refine lv_iload hx hb dX9_dots_148 (lv_at hl 0 rfl) ?_
              refine lv_iconst (v := 0) hx hb dX9_dots_150 (by decide) ?_
              refine lv_bipush (v := 7) hx hb dX9_dots_151 (by decide) ?_
              refine x_rS (As := [.int x_73, .int 0, .int 7]) (rest := []) ⟨hx, hb, hml, hown, hts⟩ (c_X9_isIn l D cT x_73 0 7 _ hv) w_17 hK hS hN rfl hl.1 rfl (Nat.le_of_ble_eq_true rfl) dX9_dots_153 ⟨Nat.le_of_ble_eq_true rfl, Nat.le_of_ble_eq_true rfl⟩ (fun r_76 hv => ?_)
              refine lv_if_ne (tgt := 162) hx hb dX9_dots_156 (by decide) (fun c_77 => ?_) (fun c_77 => ?_)
              · have hv := hv.1 c_77
                refine lv_aload_n hx hb dX9_dots_162 rfl (lv_at hl 6 rfl) ?_
                refine va_get (D := D) (ci := 9) (v := .ref (a 1)) (C := RX9) (T := TX9) (N := 2) hx hb hts in_X9 hown hK hP 0 rfl rfl 0 (by decide) k_7 (fun _ h9 => h9) rfl dX9_dots_163 ?_
                refine lv_sipush (v := 130) hx hb dX9_dots_166 (by decide) ?_
                refine lv_bipush (v := 11) hx hb dX9_dots_169 (by decide) ?_
                refine lv_iload hx hb dX9_dots_171 (lv_at hl 1 rfl) ?_
                refine lv_imul hx hb dX9_dots_173 ?_
                refine lv_iadd hx hb dX9_dots_174 ?_
                refine lv_iconst (v := 3) hx hb dX9_dots_175 (by decide) ?_
                refine lv_iadd hx hb dX9_dots_176 ?_
                refine lv_iload_n hx hb dX9_dots_177 rfl (lv_at hl 4 rfl) ?_
                refine lv_iadd hx hb dX9_dots_178 ?_
                refine lv_aload_n hx hb dX9_dots_179 rfl (lv_at hl 6 rfl) ?_
                refine va_get (D := D) (ci := 9) (v := .ref (a 1)) (C := RX9) (T := TX9) (N := 2) hx hb hts in_X9 hown hK hP 0 rfl rfl 0 (by decide) k_7 (fun _ h9 => h9) rfl dX9_dots_180 ?_
                refine lv_sipush (v := 130) hx hb dX9_dots_183 (by decide) ?_
                refine lv_bipush (v := 11) hx hb dX9_dots_186 (by decide) ?_
                refine lv_iload hx hb dX9_dots_188 (lv_at hl 1 rfl) ?_
                refine lv_imul hx hb dX9_dots_190 ?_
                refine lv_iadd hx hb dX9_dots_191 ?_
                refine lv_iconst (v := 1) hx hb dX9_dots_192 (by decide) ?_
                refine lv_iadd hx hb dX9_dots_193 ?_
                obtain ⟨k_78, hk_78, ik_78, hv⟩ := hv
                refine x_ald hx hb hK hP 1 0 rfl rfl k_78 ik_78 hk_78 (by decide) dX9_dots_194 ?_
                refine lv_isub hx hb dX9_dots_195 ?_
                obtain ⟨k_79, hk_79, ik_79, hv⟩ := hv
                refine x_ald hx hb hK hP 1 0 rfl rfl k_79 ik_79 hk_79 (by decide) dX9_dots_196 ?_
                refine lv_topi (fun x_80 ex_80 => ?_)
                have hv := hv x_80 ex_80
                refine lv_istore (lv' := [(7, .int x_80), (6, .int x_73), (5, .int y_68), (4, .int y_69), (3, .int r_5), (2, .int r_4), (1, .int r_3), (0, .ref (a 0))]) hx hb dX9_dots_197 hl (by decide) rfl (fun ls hl => ?_)
                refine lv_iload hx hb dX9_dots_199 (lv_at hl 0 rfl) ?_
                refine lv_bipush (v := 7) hx hb dX9_dots_201 (by decide) ?_
                refine lv_iload hx hb dX9_dots_203 (lv_at hl 1 rfl) ?_
                refine lv_isub hx hb dX9_dots_205 ?_
                refine lv_ishr hx hb dX9_dots_206 ?_
                refine lv_iconst (v := 1) hx hb dX9_dots_207 (by decide) ?_
                refine lv_iand hx hb dX9_dots_208 ?_
                refine lv_iconst (v := 1) hx hb dX9_dots_209 (by decide) ?_
                refine lv_icmp_ne (tgt := 221) hx hb dX9_dots_210 (by decide) (fun c_81 => ?_) (fun c_81 => ?_)
                · have hv := hv.1 c_81
                  obtain ⟨x_82, ex_82⟩ : ∃ z : Int32, z = y_68 + (-1) := ⟨_, rfl⟩
                  have hv := hv x_82 ex_82
                  refine lv_iinc (v := x_82) (lv' := [(5, .int x_82), (7, .int x_80), (6, .int x_73), (4, .int y_69), (3, .int r_5), (2, .int r_4), (1, .int r_3), (0, .ref (a 0))]) hx hb dX9_dots_221 hl (k := 2) rfl (by rw [ex_82]; rfl) (by decide) rfl (fun ls hl => ?_)
                  refine lv_goto (tgt := 110) hx hb dX9_dots_224 (by decide) ?_
                  exact L_62_ih _ _ hv ls (lv_sub hl [0, 3, 4, 5, 6, 7] rfl)
                · have hv := hv.2 c_81
                  refine lv_sipush (v := 256) hx hb dX9_dots_213 (by decide) ?_
                  refine lv_iload hx hb dX9_dots_216 (lv_at hl 2 rfl) ?_
                  refine lv_iadd hx hb dX9_dots_218 ?_
                  refine lv_topi (fun x_83 ex_83 => ?_)
                  have hv := hv x_83 ex_83
                  refine lv_istore (lv' := [(4, .int x_83), (7, .int x_80), (6, .int x_73), (5, .int y_68), (3, .int r_5), (2, .int r_4), (1, .int r_3), (0, .ref (a 0))]) hx hb dX9_dots_219 hl (by decide) rfl (fun ls hl => ?_)
                  obtain ⟨x_84, ex_84⟩ : ∃ z : Int32, z = y_68 + (-1) := ⟨_, rfl⟩
                  have hv := hv x_84 ex_84
                  refine lv_iinc (v := x_84) (lv' := [(5, .int x_84), (4, .int x_83), (7, .int x_80), (6, .int x_73), (3, .int r_5), (2, .int r_4), (1, .int r_3), (0, .ref (a 0))]) hx hb dX9_dots_221 hl (k := 3) rfl (by rw [ex_84]; rfl) (by decide) rfl (fun ls hl => ?_)
                  refine lv_goto (tgt := 110) hx hb dX9_dots_224 (by decide) ?_
                  exact L_62_ih _ _ hv ls (lv_sub hl [0, 1, 4, 5, 6, 7] rfl)
              · have hv := hv.2 c_77
                refine lv_goto (tgt := 221) hx hb dX9_dots_159 (by decide) ?_
                obtain ⟨x_85, ex_85⟩ : ∃ z : Int32, z = y_68 + (-1) := ⟨_, rfl⟩
                have hv := hv x_85 ex_85
                refine lv_iinc (v := x_85) (lv' := [(5, .int x_85), (6, .int x_73), (4, .int y_69), (3, .int r_5), (2, .int r_4), (1, .int r_3), (0, .ref (a 0))]) hx hb dX9_dots_221 hl (k := 1) rfl (by rw [ex_85]; rfl) (by decide) rfl (fun ls hl => ?_)
                refine lv_goto (tgt := 110) hx hb dX9_dots_224 (by decide) ?_
                exact L_62_ih _ _ hv ls (lv_sub hl [0, 2, 3, 4, 5, 6] rfl)
      exact L_62 n_86 _ _ hv ls hl
  · have hv := hv.2 c_1
    refine lv_iconst (v := 0) hx hb dX9_dots_10 (by decide) ?_
    refine lv_istore_n (lv' := [(1, .int 0), (0, .ref (a 0))]) hx hb dX9_dots_11 rfl hl (by decide) rfl (fun ls hl => ?_)
    refine lv_iconst (v := 0) hx hb dX9_dots_12 (by decide) ?_
    refine lv_istore_n (lv' := [(2, .int 0), (1, .int 0), (0, .ref (a 0))]) hx hb dX9_dots_13 rfl hl (by decide) rfl (fun ls hl => ?_)
    obtain ⟨n_185, hv⟩ := hv
    have K_L_87 : ∀ (y_88 : Int32) (y_89 : Int32) (M_90 : ST), v_X9_takes M_90 (fun r_92 (u_91 : ST) => v_X9_rowOf (u_91 1 21) (u_91 1 22) (u_91 1 8) (fun r_93 => v_X9_spritesOf u_91 r_93 (fun r_94 => (((0 ≤ r_92) → (((¬ (r_92 = 1)) → ∃ k_97 : Nat, k_97 < 23520 ∧ (40 + 4) = nI k_97 ∧ ∀ x_98 : Int32, x_98 = (u_91 1 k_97) → (∃ n_123 : Nat, lp_X9_dots_110_L_99 u_91 r_93 r_94 post (fun (y_100 : Int32) (y_101 : Int32) => ∃ k_102 : Nat, k_102 < 23520 ∧ ((1770 + (64 * r_93)) + (u_91 1 20)) = nI k_102 ∧ ∀ M_103 : ST, M_103 = x_st u_91 1 k_102 (y_101 + 1) → ∀ M_104 : ST, M_104 = x_st M_103 1 25 ((M_103 1 25) + 1) → post M_104) n_123 7 x_98)) ∧ ((r_92 = 1) → ∃ k_124 : Nat, k_124 < 23520 ∧ (40 + 3) = nI k_124 ∧ ∀ x_125 : Int32, x_125 = (u_91 1 k_124) → (∃ n_150 : Nat, lp_X9_dots_110_L_126 u_91 r_93 r_94 post (fun (y_127 : Int32) (y_128 : Int32) => ∃ k_129 : Nat, k_129 < 23520 ∧ ((1770 + (64 * r_93)) + (u_91 1 20)) = nI k_129 ∧ ∀ M_130 : ST, M_130 = x_st u_91 1 k_129 (y_128 + 1) → ∀ M_131 : ST, M_131 = x_st M_130 1 25 ((M_130 1 25) + 1) → post M_131) n_150 7 x_125)))) ∧ ((¬ (0 ≤ r_92)) → (∃ n_175 : Nat, lp_X9_dots_110_L_151 u_91 r_93 r_94 post (fun (y_152 : Int32) (y_153 : Int32) => ∃ k_154 : Nat, k_154 < 23520 ∧ ((1770 + (64 * r_93)) + (u_91 1 20)) = nI k_154 ∧ ∀ M_155 : ST, M_155 = x_st u_91 1 k_154 (y_153 + 1) → ∀ M_156 : ST, M_156 = x_st M_155 1 25 ((M_155 1 25) + 1) → post M_156) n_175 7 512)))))) → ∀ (H : Heap) (locs : List Loc), va_P D vwCl ((w_Model cT a M_90)) H → va_D A ((w_Model cT a M_90)) → va_S A s.heap H locs → ∀ ls : Array Slot, lv_has ls 8 [(2, .int y_88), (1, .int y_89), (0, .ref (a 0))] → W p l e (headSpec wsX9_dots ({ frames := 2, cells := 0, slots := 0, locals := 47 })).room s m ([.ref (a 0)] : List Value).toArray below meth c H locs 0 0 (MQ below (va_Qv post (fun u t => x_B D cT ((w_Model cT a u)) A t) A) ([.ref (a 0)] : List Value).toArray s 0 0 A) (F0 m 40 ls []) := by
      intro y_88 y_89 M_90 hv H locs hP hD hS ls hl
      refine lv_aload_n hx hb dX9_dots_40 rfl (lv_at hl 2 rfl) ?_
      refine x_cVi (As := []) (rest := []) (wn := fun u_91 => (w_Model cT a u_91)) ⟨hx, hb, hml, hown, hts⟩ (c_X9_takes l D cT a M_90 _ _ hv) w_47 hK hP hD hS hA hN [0, 1, 2] [] [0, 1, 2] rfl rfl (fun _ => rfl) (by decide) (by decide) (by decide) (by decide) 9 0 rfl rfl rfl hl.1 rfl (Nat.le_of_ble_eq_true rfl) dX9_dots_41 ⟨Nat.le_of_ble_eq_true rfl, Nat.le_of_ble_eq_true rfl⟩ (fun r_92 u_91 H locs hv hP hD hS => ?_)
      refine lv_istore_n (lv' := [(1, .int r_92), (2, .int y_88), (0, .ref (a 0))]) hx hb dX9_dots_44 rfl hl (by decide) rfl (fun ls hl => ?_)
      refine lv_aload_n hx hb dX9_dots_45 rfl (lv_at hl 2 rfl) ?_
      refine va_get (D := D) (ci := 9) (v := .ref (a 1)) (C := RX9) (T := TX9) (N := 2) hx hb hts in_X9 hown hK hP 0 rfl rfl 0 (by decide) k_7 (fun _ h9 => h9) rfl dX9_dots_46 ?_
      refine lv_bipush (v := 21) hx hb dX9_dots_49 (by decide) ?_
      refine x_ald hx hb hK hP 1 0 rfl rfl 21 rfl (by decide) (by decide) dX9_dots_51 ?_
      refine lv_aload_n hx hb dX9_dots_52 rfl (lv_at hl 2 rfl) ?_
      refine va_get (D := D) (ci := 9) (v := .ref (a 1)) (C := RX9) (T := TX9) (N := 2) hx hb hts in_X9 hown hK hP 0 rfl rfl 0 (by decide) k_7 (fun _ h9 => h9) rfl dX9_dots_53 ?_
      refine lv_bipush (v := 22) hx hb dX9_dots_56 (by decide) ?_
      refine x_ald hx hb hK hP 1 0 rfl rfl 22 rfl (by decide) (by decide) dX9_dots_58 ?_
      refine lv_aload_n hx hb dX9_dots_59 rfl (lv_at hl 2 rfl) ?_
      refine va_get (D := D) (ci := 9) (v := .ref (a 1)) (C := RX9) (T := TX9) (N := 2) hx hb hts in_X9 hown hK hP 0 rfl rfl 0 (by decide) k_7 (fun _ h9 => h9) rfl dX9_dots_60 ?_
      refine lv_bipush (v := 8) hx hb dX9_dots_63 (by decide) ?_
      refine x_ald hx hb hK hP 1 0 rfl rfl 8 rfl (by decide) (by decide) dX9_dots_65 ?_
      refine x_rS (As := [.int (u_91 1 21), .int (u_91 1 22), .int (u_91 1 8)]) (rest := []) ⟨hx, hb, hml, hown, hts⟩ (c_X9_rowOf l D cT (u_91 1 21) (u_91 1 22) (u_91 1 8) _ hv) w_36 hK hS hN rfl hl.1 rfl (Nat.le_of_ble_eq_true rfl) dX9_dots_66 ⟨Nat.le_of_ble_eq_true rfl, Nat.le_of_ble_eq_true rfl⟩ (fun r_93 hv => ?_)
      refine lv_istore_n (lv' := [(2, .int r_93), (1, .int r_92), (0, .ref (a 0))]) hx hb dX9_dots_69 rfl hl (by decide) rfl (fun ls hl => ?_)
      refine lv_aload_n hx hb dX9_dots_70 rfl (lv_at hl 2 rfl) ?_
      refine lv_iload_n hx hb dX9_dots_71 rfl (lv_at hl 0 rfl) ?_
      refine x_rV (As := [.int r_93]) (rest := []) ⟨hx, hb, hml, hown, hts⟩ (c_X9_spritesOf l D cT a u_91 r_93 _ hv) w_50 hK hP hS hN [0, 1, 2] rfl 9 0 rfl rfl rfl hl.1 rfl (Nat.le_of_ble_eq_true rfl) dX9_dots_72 ⟨Nat.le_of_ble_eq_true rfl, Nat.le_of_ble_eq_true rfl⟩ (fun r_94 hv => ?_)
      refine lv_istore_n (lv' := [(3, .int r_94), (2, .int r_93), (1, .int r_92), (0, .ref (a 0))]) hx hb dX9_dots_75 rfl hl (by decide) rfl (fun ls hl => ?_)
      refine lv_iload_n hx hb dX9_dots_76 rfl (lv_at hl 2 rfl) ?_
      refine lv_if_ge (tgt := 86) hx hb dX9_dots_77 (by decide) (fun c_95 => ?_) (fun c_95 => ?_)
      · have hv := hv.1 c_95
        refine lv_aload_n hx hb dX9_dots_86 rfl (lv_at hl 3 rfl) ?_
        refine va_get (D := D) (ci := 9) (v := .ref (a 1)) (C := RX9) (T := TX9) (N := 2) hx hb hts in_X9 hown hK hP 0 rfl rfl 0 (by decide) k_7 (fun _ h9 => h9) rfl dX9_dots_87 ?_
        refine lv_bipush (v := 40) hx hb dX9_dots_90 (by decide) ?_
        refine lv_iload_n hx hb dX9_dots_92 rfl (lv_at hl 2 rfl) ?_
        refine lv_iconst (v := 1) hx hb dX9_dots_93 (by decide) ?_
        refine lv_icmp_ne (tgt := 101) hx hb dX9_dots_94 (by decide) (fun c_96 => ?_) (fun c_96 => ?_)
        · have hv := hv.1 c_96
          refine lv_iconst (v := 4) hx hb dX9_dots_101 (by decide) ?_
          refine lv_iadd hx hb dX9_dots_102 ?_
          obtain ⟨k_97, hk_97, ik_97, hv⟩ := hv
          refine x_ald hx hb hK hP 1 0 rfl rfl k_97 ik_97 hk_97 (by decide) dX9_dots_103 ?_
          refine lv_topi (fun x_98 ex_98 => ?_)
          have hv := hv x_98 ex_98
          refine lv_istore (lv' := [(4, .int x_98), (3, .int r_94), (2, .int r_93), (1, .int r_92), (0, .ref (a 0))]) hx hb dX9_dots_104 hl (by decide) rfl (fun ls hl => ?_)
          refine lv_bipush (v := 7) hx hb dX9_dots_106 (by decide) ?_
          refine lv_istore (lv' := [(5, .int 7), (4, .int x_98), (3, .int r_94), (2, .int r_93), (1, .int r_92), (0, .ref (a 0))]) hx hb dX9_dots_108 hl (by decide) rfl (fun ls hl => ?_)
          obtain ⟨n_123, hv⟩ := hv
          have K_L_99 : ∀ (y_100 : Int32) (y_101 : Int32), ∃ k_102 : Nat, k_102 < 23520 ∧ ((1770 + (64 * r_93)) + (u_91 1 20)) = nI k_102 ∧ ∀ M_103 : ST, M_103 = x_st u_91 1 k_102 (y_101 + 1) → ∀ M_104 : ST, M_104 = x_st M_103 1 25 ((M_103 1 25) + 1) → post M_104 → ∀ ls : Array Slot, lv_has ls 8 [(5, .int y_100), (4, .int y_101), (3, .int r_94), (2, .int r_93), (1, .int r_92), (0, .ref (a 0))] → W p l e (headSpec wsX9_dots ({ frames := 2, cells := 0, slots := 0, locals := 47 })).room s m ([.ref (a 0)] : List Value).toArray below meth c H locs 0 0 (MQ below (va_Qv post (fun u t => x_B D cT ((w_Model cT a u)) A t) A) ([.ref (a 0)] : List Value).toArray s 0 0 A) (F0 m 227 ls []) := by
            intro y_100 y_101 hv ls hl
            refine lv_aload_n hx hb dX9_dots_227 rfl (lv_at hl 5 rfl) ?_
            refine va_get (D := D) (ci := 9) (v := .ref (a 1)) (C := RX9) (T := TX9) (N := 2) hx hb hts in_X9 hown hK hP 0 rfl rfl 0 (by decide) k_7 (fun _ h9 => h9) rfl dX9_dots_228 ?_
            refine lv_sipush (v := 1770) hx hb dX9_dots_231 (by decide) ?_
            refine lv_bipush (v := 64) hx hb dX9_dots_234 (by decide) ?_
            refine lv_iload_n hx hb dX9_dots_236 rfl (lv_at hl 3 rfl) ?_
            refine lv_imul hx hb dX9_dots_237 ?_
            refine lv_iadd hx hb dX9_dots_238 ?_
            refine lv_aload_n hx hb dX9_dots_239 rfl (lv_at hl 5 rfl) ?_
            refine va_get (D := D) (ci := 9) (v := .ref (a 1)) (C := RX9) (T := TX9) (N := 2) hx hb hts in_X9 hown hK hP 0 rfl rfl 0 (by decide) k_7 (fun _ h9 => h9) rfl dX9_dots_240 ?_
            refine lv_bipush (v := 20) hx hb dX9_dots_243 (by decide) ?_
            refine x_ald hx hb hK hP 1 0 rfl rfl 20 rfl (by decide) (by decide) dX9_dots_245 ?_
            refine lv_iadd hx hb dX9_dots_246 ?_
            refine lv_iload hx hb dX9_dots_247 (lv_at hl 1 rfl) ?_
            refine lv_iconst (v := 1) hx hb dX9_dots_249 (by decide) ?_
            refine lv_iadd hx hb dX9_dots_250 ?_
            obtain ⟨k_102, hk_102, ik_102, hv⟩ := hv
            refine x_ast hx hb hK hP hD hS 1 0 rfl rfl k_102 ik_102 hk_102 (by decide) dX9_dots_251 (fun H locs hP hD hS => ?_)
            obtain ⟨M_103, eM_103⟩ : ∃ z : ST, z = x_st u_91 1 k_102 (y_101 + 1) := ⟨_, rfl⟩
            have hP : va_P D vwCl ((w_Model cT a M_103)) H := by rw [eM_103]; exact hP
            have hD : va_D A ((w_Model cT a M_103)) := by rw [eM_103]; exact hD
            have hv := hv M_103 eM_103
            refine lv_aload_n hx hb dX9_dots_252 rfl (lv_at hl 5 rfl) ?_
            refine va_get (D := D) (ci := 9) (v := .ref (a 1)) (C := RX9) (T := TX9) (N := 2) hx hb hts in_X9 hown hK hP 0 rfl rfl 0 (by decide) k_7 (fun _ h9 => h9) rfl dX9_dots_253 ?_
            refine lv_bipush (v := 25) hx hb dX9_dots_256 (by decide) ?_
            refine lv_dup2_11 hx hb dX9_dots_258 rfl rfl ?_
            refine x_ald hx hb hK hP 1 0 rfl rfl 25 rfl (by decide) (by decide) dX9_dots_259 ?_
            refine lv_iconst (v := 1) hx hb dX9_dots_260 (by decide) ?_
            refine lv_iadd hx hb dX9_dots_261 ?_
            refine x_ast hx hb hK hP hD hS 1 0 rfl rfl 25 rfl (by decide) (by decide) dX9_dots_262 (fun H locs hP hD hS => ?_)
            obtain ⟨M_104, eM_104⟩ : ∃ z : ST, z = x_st M_103 1 25 ((M_103 1 25) + 1) := ⟨_, rfl⟩
            have hP : va_P D vwCl ((w_Model cT a M_104)) H := by rw [eM_104]; exact hP
            have hD : va_D A ((w_Model cT a M_104)) := by rw [eM_104]; exact hD
            have hv := hv M_104 eM_104
            exact W.vret hx hb hr (fun t ht hW => ⟨⟨M_104, rfl, hv, by rw [ht]; exact hP, va_K.moved hW.alike hK, hD⟩, hS.F ht⟩) hS.2.2 dX9_dots_263
          have L_99 : ∀ n_107 : Nat, ∀ (y_105 : Int32) (y_106 : Int32), lp_X9_dots_110_L_99 u_91 r_93 r_94 post (fun (y_100 : Int32) (y_101 : Int32) => ∃ k_102 : Nat, k_102 < 23520 ∧ ((1770 + (64 * r_93)) + (u_91 1 20)) = nI k_102 ∧ ∀ M_103 : ST, M_103 = x_st u_91 1 k_102 (y_101 + 1) → ∀ M_104 : ST, M_104 = x_st M_103 1 25 ((M_103 1 25) + 1) → post M_104) n_107 y_105 y_106 → ∀ ls : Array Slot, lv_has ls 8 [(5, .int y_105), (4, .int y_106), (3, .int r_94), (2, .int r_93), (1, .int r_92), (0, .ref (a 0))] → W p l e (headSpec wsX9_dots ({ frames := 2, cells := 0, slots := 0, locals := 47 })).room s m ([.ref (a 0)] : List Value).toArray below meth c H locs 0 0 (MQ below (va_Qv post (fun u t => x_B D cT ((w_Model cT a u)) A t) A) ([.ref (a 0)] : List Value).toArray s 0 0 A) (F0 m 110 ls []) := by
            intro n_107
            induction n_107 with
            | zero =>
              intro y_105 y_106 hv
              exact hv.elim
            | succ n_107 L_99_ih =>
              intro y_105 y_106 hv ls hl
              refine lv_iload hx hb dX9_dots_110 (lv_at hl 0 rfl) ?_
              refine lv_if_lt (tgt := 227) hx hb dX9_dots_112 (by decide) (fun c_108 => ?_) (fun c_108 => ?_)
              · have hv := hv.1 c_108
                exact K_L_99 _ _ hv ls (lv_sub hl [0, 1, 2, 3, 4, 5] rfl)
              · have hv := hv.2 c_108
                refine lv_aload_n hx hb dX9_dots_115 rfl (lv_at hl 5 rfl) ?_
                refine va_get (D := D) (ci := 9) (v := .ref (a 1)) (C := RX9) (T := TX9) (N := 2) hx hb hts in_X9 hown hK hP 0 rfl rfl 0 (by decide) k_7 (fun _ h9 => h9) rfl dX9_dots_116 ?_
                refine lv_bipush (v := 20) hx hb dX9_dots_119 (by decide) ?_
                refine x_ald hx hb hK hP 1 0 rfl rfl 20 rfl (by decide) (by decide) dX9_dots_121 ?_
                refine lv_aload_n hx hb dX9_dots_122 rfl (lv_at hl 5 rfl) ?_
                refine va_get (D := D) (ci := 9) (v := .ref (a 1)) (C := RX9) (T := TX9) (N := 2) hx hb hts in_X9 hown hK hP 0 rfl rfl 0 (by decide) k_7 (fun _ h9 => h9) rfl dX9_dots_123 ?_
                refine lv_sipush (v := 130) hx hb dX9_dots_126 (by decide) ?_
                refine lv_bipush (v := 11) hx hb dX9_dots_129 (by decide) ?_
                refine lv_iload hx hb dX9_dots_131 (lv_at hl 0 rfl) ?_
                refine lv_imul hx hb dX9_dots_133 ?_
                refine lv_iadd hx hb dX9_dots_134 ?_
                obtain ⟨k_109, hk_109, ik_109, hv⟩ := hv
                refine x_ald hx hb hK hP 1 0 rfl rfl k_109 ik_109 hk_109 (by decide) dX9_dots_135 ?_
                refine lv_isub hx hb dX9_dots_136 ?_
                refine lv_topi (fun x_110 ex_110 => ?_)
                have hv := hv x_110 ex_110
                refine lv_istore (lv' := [(6, .int x_110), (5, .int y_105), (4, .int y_106), (3, .int r_94), (2, .int r_93), (1, .int r_92), (0, .ref (a 0))]) hx hb dX9_dots_137 hl (by decide) rfl (fun ls hl => ?_)
                refine lv_iload_n hx hb dX9_dots_139 rfl (lv_at hl 3 rfl) ?_
                refine lv_iload hx hb dX9_dots_140 (lv_at hl 1 rfl) ?_
                refine lv_ishr hx hb dX9_dots_142 ?_
                refine lv_iconst (v := 1) hx hb dX9_dots_143 (by decide) ?_
                refine lv_iand hx hb dX9_dots_144 ?_
                refine lv_if_eq (tgt := 221) hx hb dX9_dots_145 (by decide) (fun c_111 => ?_) (fun c_111 => ?_)
                · have hv := hv.1 c_111
                  obtain ⟨x_112, ex_112⟩ : ∃ z : Int32, z = y_105 + (-1) := ⟨_, rfl⟩
                  have hv := hv x_112 ex_112
                  refine lv_iinc (v := x_112) (lv' := [(5, .int x_112), (6, .int x_110), (4, .int y_106), (3, .int r_94), (2, .int r_93), (1, .int r_92), (0, .ref (a 0))]) hx hb dX9_dots_221 hl (k := 1) rfl (by rw [ex_112]; rfl) (by decide) rfl (fun ls hl => ?_)
                  refine lv_goto (tgt := 110) hx hb dX9_dots_224 (by decide) ?_
                  exact L_99_ih _ _ hv ls (lv_sub hl [0, 2, 3, 4, 5, 6] rfl)
                · have hv := hv.2 c_111
                  refine lv_iload hx hb dX9_dots_148 (lv_at hl 0 rfl) ?_
                  refine lv_iconst (v := 0) hx hb dX9_dots_150 (by decide) ?_
                  refine lv_bipush (v := 7) hx hb dX9_dots_151 (by decide) ?_
                  refine x_rS (As := [.int x_110, .int 0, .int 7]) (rest := []) ⟨hx, hb, hml, hown, hts⟩ (c_X9_isIn l D cT x_110 0 7 _ hv) w_17 hK hS hN rfl hl.1 rfl (Nat.le_of_ble_eq_true rfl) dX9_dots_153 ⟨Nat.le_of_ble_eq_true rfl, Nat.le_of_ble_eq_true rfl⟩ (fun r_113 hv => ?_)
                  refine lv_if_ne (tgt := 162) hx hb dX9_dots_156 (by decide) (fun c_114 => ?_) (fun c_114 => ?_)
                  · have hv := hv.1 c_114
                    refine lv_aload_n hx hb dX9_dots_162 rfl (lv_at hl 6 rfl) ?_
                    refine va_get (D := D) (ci := 9) (v := .ref (a 1)) (C := RX9) (T := TX9) (N := 2) hx hb hts in_X9 hown hK hP 0 rfl rfl 0 (by decide) k_7 (fun _ h9 => h9) rfl dX9_dots_163 ?_
                    refine lv_sipush (v := 130) hx hb dX9_dots_166 (by decide) ?_
                    refine lv_bipush (v := 11) hx hb dX9_dots_169 (by decide) ?_
                    refine lv_iload hx hb dX9_dots_171 (lv_at hl 1 rfl) ?_
                    refine lv_imul hx hb dX9_dots_173 ?_
                    refine lv_iadd hx hb dX9_dots_174 ?_
                    refine lv_iconst (v := 3) hx hb dX9_dots_175 (by decide) ?_
                    refine lv_iadd hx hb dX9_dots_176 ?_
                    refine lv_iload_n hx hb dX9_dots_177 rfl (lv_at hl 4 rfl) ?_
                    refine lv_iadd hx hb dX9_dots_178 ?_
                    refine lv_aload_n hx hb dX9_dots_179 rfl (lv_at hl 6 rfl) ?_
                    refine va_get (D := D) (ci := 9) (v := .ref (a 1)) (C := RX9) (T := TX9) (N := 2) hx hb hts in_X9 hown hK hP 0 rfl rfl 0 (by decide) k_7 (fun _ h9 => h9) rfl dX9_dots_180 ?_
                    refine lv_sipush (v := 130) hx hb dX9_dots_183 (by decide) ?_
                    refine lv_bipush (v := 11) hx hb dX9_dots_186 (by decide) ?_
                    refine lv_iload hx hb dX9_dots_188 (lv_at hl 1 rfl) ?_
                    refine lv_imul hx hb dX9_dots_190 ?_
                    refine lv_iadd hx hb dX9_dots_191 ?_
                    refine lv_iconst (v := 1) hx hb dX9_dots_192 (by decide) ?_
                    refine lv_iadd hx hb dX9_dots_193 ?_
                    obtain ⟨k_115, hk_115, ik_115, hv⟩ := hv
                    refine x_ald hx hb hK hP 1 0 rfl rfl k_115 ik_115 hk_115 (by decide) dX9_dots_194 ?_
                    refine lv_isub hx hb dX9_dots_195 ?_
                    obtain ⟨k_116, hk_116, ik_116, hv⟩ := hv
                    refine x_ald hx hb hK hP 1 0 rfl rfl k_116 ik_116 hk_116 (by decide) dX9_dots_196 ?_
                    refine lv_topi (fun x_117 ex_117 => ?_)
                    have hv := hv x_117 ex_117
                    refine lv_istore (lv' := [(7, .int x_117), (6, .int x_110), (5, .int y_105), (4, .int y_106), (3, .int r_94), (2, .int r_93), (1, .int r_92), (0, .ref (a 0))]) hx hb dX9_dots_197 hl (by decide) rfl (fun ls hl => ?_)
                    refine lv_iload hx hb dX9_dots_199 (lv_at hl 0 rfl) ?_
                    refine lv_bipush (v := 7) hx hb dX9_dots_201 (by decide) ?_
                    refine lv_iload hx hb dX9_dots_203 (lv_at hl 1 rfl) ?_
                    refine lv_isub hx hb dX9_dots_205 ?_
                    refine lv_ishr hx hb dX9_dots_206 ?_
                    refine lv_iconst (v := 1) hx hb dX9_dots_207 (by decide) ?_
                    refine lv_iand hx hb dX9_dots_208 ?_
                    refine lv_iconst (v := 1) hx hb dX9_dots_209 (by decide) ?_
                    refine lv_icmp_ne (tgt := 221) hx hb dX9_dots_210 (by decide) (fun c_118 => ?_) (fun c_118 => ?_)
                    · have hv := hv.1 c_118
                      obtain ⟨x_119, ex_119⟩ : ∃ z : Int32, z = y_105 + (-1) := ⟨_, rfl⟩
                      have hv := hv x_119 ex_119
                      refine lv_iinc (v := x_119) (lv' := [(5, .int x_119), (7, .int x_117), (6, .int x_110), (4, .int y_106), (3, .int r_94), (2, .int r_93), (1, .int r_92), (0, .ref (a 0))]) hx hb dX9_dots_221 hl (k := 2) rfl (by rw [ex_119]; rfl) (by decide) rfl (fun ls hl => ?_)
                      refine lv_goto (tgt := 110) hx hb dX9_dots_224 (by decide) ?_
                      exact L_99_ih _ _ hv ls (lv_sub hl [0, 3, 4, 5, 6, 7] rfl)
                    · have hv := hv.2 c_118
                      refine lv_sipush (v := 256) hx hb dX9_dots_213 (by decide) ?_
                      refine lv_iload hx hb dX9_dots_216 (lv_at hl 2 rfl) ?_
                      refine lv_iadd hx hb dX9_dots_218 ?_
                      refine lv_topi (fun x_120 ex_120 => ?_)
                      have hv := hv x_120 ex_120
                      refine lv_istore (lv' := [(4, .int x_120), (7, .int x_117), (6, .int x_110), (5, .int y_105), (3, .int r_94), (2, .int r_93), (1, .int r_92), (0, .ref (a 0))]) hx hb dX9_dots_219 hl (by decide) rfl (fun ls hl => ?_)
                      obtain ⟨x_121, ex_121⟩ : ∃ z : Int32, z = y_105 + (-1) := ⟨_, rfl⟩
                      have hv := hv x_121 ex_121
                      refine lv_iinc (v := x_121) (lv' := [(5, .int x_121), (4, .int x_120), (7, .int x_117), (6, .int x_110), (3, .int r_94), (2, .int r_93), (1, .int r_92), (0, .ref (a 0))]) hx hb dX9_dots_221 hl (k := 3) rfl (by rw [ex_121]; rfl) (by decide) rfl (fun ls hl => ?_)
                      refine lv_goto (tgt := 110) hx hb dX9_dots_224 (by decide) ?_
                      exact L_99_ih _ _ hv ls (lv_sub hl [0, 1, 4, 5, 6, 7] rfl)
                  · have hv := hv.2 c_114
                    refine lv_goto (tgt := 221) hx hb dX9_dots_159 (by decide) ?_
                    obtain ⟨x_122, ex_122⟩ : ∃ z : Int32, z = y_105 + (-1) := ⟨_, rfl⟩
                    have hv := hv x_122 ex_122
                    refine lv_iinc (v := x_122) (lv' := [(5, .int x_122), (6, .int x_110), (4, .int y_106), (3, .int r_94), (2, .int r_93), (1, .int r_92), (0, .ref (a 0))]) hx hb dX9_dots_221 hl (k := 1) rfl (by rw [ex_122]; rfl) (by decide) rfl (fun ls hl => ?_)
                    refine lv_goto (tgt := 110) hx hb dX9_dots_224 (by decide) ?_
                    exact L_99_ih _ _ hv ls (lv_sub hl [0, 2, 3, 4, 5, 6] rfl)
          exact L_99 n_123 _ _ hv ls hl
        · have hv := hv.2 c_96
          refine lv_iconst (v := 3) hx hb dX9_dots_97 (by decide) ?_
          refine lv_goto (tgt := 102) hx hb dX9_dots_98 (by decide) ?_
          refine lv_iadd hx hb dX9_dots_102 ?_
          obtain ⟨k_124, hk_124, ik_124, hv⟩ := hv
          refine x_ald hx hb hK hP 1 0 rfl rfl k_124 ik_124 hk_124 (by decide) dX9_dots_103 ?_
          refine lv_topi (fun x_125 ex_125 => ?_)
          have hv := hv x_125 ex_125
          refine lv_istore (lv' := [(4, .int x_125), (3, .int r_94), (2, .int r_93), (1, .int r_92), (0, .ref (a 0))]) hx hb dX9_dots_104 hl (by decide) rfl (fun ls hl => ?_)
          refine lv_bipush (v := 7) hx hb dX9_dots_106 (by decide) ?_
          refine lv_istore (lv' := [(5, .int 7), (4, .int x_125), (3, .int r_94), (2, .int r_93), (1, .int r_92), (0, .ref (a 0))]) hx hb dX9_dots_108 hl (by decide) rfl (fun ls hl => ?_)
          obtain ⟨n_150, hv⟩ := hv
          have K_L_126 : ∀ (y_127 : Int32) (y_128 : Int32), ∃ k_129 : Nat, k_129 < 23520 ∧ ((1770 + (64 * r_93)) + (u_91 1 20)) = nI k_129 ∧ ∀ M_130 : ST, M_130 = x_st u_91 1 k_129 (y_128 + 1) → ∀ M_131 : ST, M_131 = x_st M_130 1 25 ((M_130 1 25) + 1) → post M_131 → ∀ ls : Array Slot, lv_has ls 8 [(5, .int y_127), (4, .int y_128), (3, .int r_94), (2, .int r_93), (1, .int r_92), (0, .ref (a 0))] → W p l e (headSpec wsX9_dots ({ frames := 2, cells := 0, slots := 0, locals := 47 })).room s m ([.ref (a 0)] : List Value).toArray below meth c H locs 0 0 (MQ below (va_Qv post (fun u t => x_B D cT ((w_Model cT a u)) A t) A) ([.ref (a 0)] : List Value).toArray s 0 0 A) (F0 m 227 ls []) := by
            intro y_127 y_128 hv ls hl
            refine lv_aload_n hx hb dX9_dots_227 rfl (lv_at hl 5 rfl) ?_
            refine va_get (D := D) (ci := 9) (v := .ref (a 1)) (C := RX9) (T := TX9) (N := 2) hx hb hts in_X9 hown hK hP 0 rfl rfl 0 (by decide) k_7 (fun _ h9 => h9) rfl dX9_dots_228 ?_
            refine lv_sipush (v := 1770) hx hb dX9_dots_231 (by decide) ?_
            refine lv_bipush (v := 64) hx hb dX9_dots_234 (by decide) ?_
            refine lv_iload_n hx hb dX9_dots_236 rfl (lv_at hl 3 rfl) ?_
            refine lv_imul hx hb dX9_dots_237 ?_
            refine lv_iadd hx hb dX9_dots_238 ?_
            refine lv_aload_n hx hb dX9_dots_239 rfl (lv_at hl 5 rfl) ?_
            refine va_get (D := D) (ci := 9) (v := .ref (a 1)) (C := RX9) (T := TX9) (N := 2) hx hb hts in_X9 hown hK hP 0 rfl rfl 0 (by decide) k_7 (fun _ h9 => h9) rfl dX9_dots_240 ?_
            refine lv_bipush (v := 20) hx hb dX9_dots_243 (by decide) ?_
            refine x_ald hx hb hK hP 1 0 rfl rfl 20 rfl (by decide) (by decide) dX9_dots_245 ?_
            refine lv_iadd hx hb dX9_dots_246 ?_
            refine lv_iload hx hb dX9_dots_247 (lv_at hl 1 rfl) ?_
            refine lv_iconst (v := 1) hx hb dX9_dots_249 (by decide) ?_
            refine lv_iadd hx hb dX9_dots_250 ?_
            obtain ⟨k_129, hk_129, ik_129, hv⟩ := hv
            refine x_ast hx hb hK hP hD hS 1 0 rfl rfl k_129 ik_129 hk_129 (by decide) dX9_dots_251 (fun H locs hP hD hS => ?_)
            obtain ⟨M_130, eM_130⟩ : ∃ z : ST, z = x_st u_91 1 k_129 (y_128 + 1) := ⟨_, rfl⟩
            have hP : va_P D vwCl ((w_Model cT a M_130)) H := by rw [eM_130]; exact hP
            have hD : va_D A ((w_Model cT a M_130)) := by rw [eM_130]; exact hD
            have hv := hv M_130 eM_130
            refine lv_aload_n hx hb dX9_dots_252 rfl (lv_at hl 5 rfl) ?_
            refine va_get (D := D) (ci := 9) (v := .ref (a 1)) (C := RX9) (T := TX9) (N := 2) hx hb hts in_X9 hown hK hP 0 rfl rfl 0 (by decide) k_7 (fun _ h9 => h9) rfl dX9_dots_253 ?_
            refine lv_bipush (v := 25) hx hb dX9_dots_256 (by decide) ?_
            refine lv_dup2_11 hx hb dX9_dots_258 rfl rfl ?_
            refine x_ald hx hb hK hP 1 0 rfl rfl 25 rfl (by decide) (by decide) dX9_dots_259 ?_
            refine lv_iconst (v := 1) hx hb dX9_dots_260 (by decide) ?_
            refine lv_iadd hx hb dX9_dots_261 ?_
            refine x_ast hx hb hK hP hD hS 1 0 rfl rfl 25 rfl (by decide) (by decide) dX9_dots_262 (fun H locs hP hD hS => ?_)
            obtain ⟨M_131, eM_131⟩ : ∃ z : ST, z = x_st M_130 1 25 ((M_130 1 25) + 1) := ⟨_, rfl⟩
            have hP : va_P D vwCl ((w_Model cT a M_131)) H := by rw [eM_131]; exact hP
            have hD : va_D A ((w_Model cT a M_131)) := by rw [eM_131]; exact hD
            have hv := hv M_131 eM_131
            exact W.vret hx hb hr (fun t ht hW => ⟨⟨M_131, rfl, hv, by rw [ht]; exact hP, va_K.moved hW.alike hK, hD⟩, hS.F ht⟩) hS.2.2 dX9_dots_263
          have L_126 : ∀ n_134 : Nat, ∀ (y_132 : Int32) (y_133 : Int32), lp_X9_dots_110_L_126 u_91 r_93 r_94 post (fun (y_127 : Int32) (y_128 : Int32) => ∃ k_129 : Nat, k_129 < 23520 ∧ ((1770 + (64 * r_93)) + (u_91 1 20)) = nI k_129 ∧ ∀ M_130 : ST, M_130 = x_st u_91 1 k_129 (y_128 + 1) → ∀ M_131 : ST, M_131 = x_st M_130 1 25 ((M_130 1 25) + 1) → post M_131) n_134 y_132 y_133 → ∀ ls : Array Slot, lv_has ls 8 [(5, .int y_132), (4, .int y_133), (3, .int r_94), (2, .int r_93), (1, .int r_92), (0, .ref (a 0))] → W p l e (headSpec wsX9_dots ({ frames := 2, cells := 0, slots := 0, locals := 47 })).room s m ([.ref (a 0)] : List Value).toArray below meth c H locs 0 0 (MQ below (va_Qv post (fun u t => x_B D cT ((w_Model cT a u)) A t) A) ([.ref (a 0)] : List Value).toArray s 0 0 A) (F0 m 110 ls []) := by
            intro n_134
            induction n_134 with
            | zero =>
              intro y_132 y_133 hv
              exact hv.elim
            | succ n_134 L_126_ih =>
              intro y_132 y_133 hv ls hl
              refine lv_iload hx hb dX9_dots_110 (lv_at hl 0 rfl) ?_
              refine lv_if_lt (tgt := 227) hx hb dX9_dots_112 (by decide) (fun c_135 => ?_) (fun c_135 => ?_)
              · have hv := hv.1 c_135
                exact K_L_126 _ _ hv ls (lv_sub hl [0, 1, 2, 3, 4, 5] rfl)
              · have hv := hv.2 c_135
                refine lv_aload_n hx hb dX9_dots_115 rfl (lv_at hl 5 rfl) ?_
                refine va_get (D := D) (ci := 9) (v := .ref (a 1)) (C := RX9) (T := TX9) (N := 2) hx hb hts in_X9 hown hK hP 0 rfl rfl 0 (by decide) k_7 (fun _ h9 => h9) rfl dX9_dots_116 ?_
                refine lv_bipush (v := 20) hx hb dX9_dots_119 (by decide) ?_
                refine x_ald hx hb hK hP 1 0 rfl rfl 20 rfl (by decide) (by decide) dX9_dots_121 ?_
                refine lv_aload_n hx hb dX9_dots_122 rfl (lv_at hl 5 rfl) ?_
                refine va_get (D := D) (ci := 9) (v := .ref (a 1)) (C := RX9) (T := TX9) (N := 2) hx hb hts in_X9 hown hK hP 0 rfl rfl 0 (by decide) k_7 (fun _ h9 => h9) rfl dX9_dots_123 ?_
                refine lv_sipush (v := 130) hx hb dX9_dots_126 (by decide) ?_
                refine lv_bipush (v := 11) hx hb dX9_dots_129 (by decide) ?_
                refine lv_iload hx hb dX9_dots_131 (lv_at hl 0 rfl) ?_
                refine lv_imul hx hb dX9_dots_133 ?_
                refine lv_iadd hx hb dX9_dots_134 ?_
                obtain ⟨k_136, hk_136, ik_136, hv⟩ := hv
                refine x_ald hx hb hK hP 1 0 rfl rfl k_136 ik_136 hk_136 (by decide) dX9_dots_135 ?_
                refine lv_isub hx hb dX9_dots_136 ?_
                refine lv_topi (fun x_137 ex_137 => ?_)
                have hv := hv x_137 ex_137
                refine lv_istore (lv' := [(6, .int x_137), (5, .int y_132), (4, .int y_133), (3, .int r_94), (2, .int r_93), (1, .int r_92), (0, .ref (a 0))]) hx hb dX9_dots_137 hl (by decide) rfl (fun ls hl => ?_)
                refine lv_iload_n hx hb dX9_dots_139 rfl (lv_at hl 3 rfl) ?_
                refine lv_iload hx hb dX9_dots_140 (lv_at hl 1 rfl) ?_
                refine lv_ishr hx hb dX9_dots_142 ?_
                refine lv_iconst (v := 1) hx hb dX9_dots_143 (by decide) ?_
                refine lv_iand hx hb dX9_dots_144 ?_
                refine lv_if_eq (tgt := 221) hx hb dX9_dots_145 (by decide) (fun c_138 => ?_) (fun c_138 => ?_)
                · have hv := hv.1 c_138
                  obtain ⟨x_139, ex_139⟩ : ∃ z : Int32, z = y_132 + (-1) := ⟨_, rfl⟩
                  have hv := hv x_139 ex_139
                  refine lv_iinc (v := x_139) (lv' := [(5, .int x_139), (6, .int x_137), (4, .int y_133), (3, .int r_94), (2, .int r_93), (1, .int r_92), (0, .ref (a 0))]) hx hb dX9_dots_221 hl (k := 1) rfl (by rw [ex_139]; rfl) (by decide) rfl (fun ls hl => ?_)
                  refine lv_goto (tgt := 110) hx hb dX9_dots_224 (by decide) ?_
                  exact L_126_ih _ _ hv ls (lv_sub hl [0, 2, 3, 4, 5, 6] rfl)
                · have hv := hv.2 c_138
                  refine lv_iload hx hb dX9_dots_148 (lv_at hl 0 rfl) ?_
                  refine lv_iconst (v := 0) hx hb dX9_dots_150 (by decide) ?_
                  refine lv_bipush (v := 7) hx hb dX9_dots_151 (by decide) ?_
                  refine x_rS (As := [.int x_137, .int 0, .int 7]) (rest := []) ⟨hx, hb, hml, hown, hts⟩ (c_X9_isIn l D cT x_137 0 7 _ hv) w_17 hK hS hN rfl hl.1 rfl (Nat.le_of_ble_eq_true rfl) dX9_dots_153 ⟨Nat.le_of_ble_eq_true rfl, Nat.le_of_ble_eq_true rfl⟩ (fun r_140 hv => ?_)
                  refine lv_if_ne (tgt := 162) hx hb dX9_dots_156 (by decide) (fun c_141 => ?_) (fun c_141 => ?_)
                  · have hv := hv.1 c_141
                    refine lv_aload_n hx hb dX9_dots_162 rfl (lv_at hl 6 rfl) ?_
                    refine va_get (D := D) (ci := 9) (v := .ref (a 1)) (C := RX9) (T := TX9) (N := 2) hx hb hts in_X9 hown hK hP 0 rfl rfl 0 (by decide) k_7 (fun _ h9 => h9) rfl dX9_dots_163 ?_
                    refine lv_sipush (v := 130) hx hb dX9_dots_166 (by decide) ?_
                    refine lv_bipush (v := 11) hx hb dX9_dots_169 (by decide) ?_
                    refine lv_iload hx hb dX9_dots_171 (lv_at hl 1 rfl) ?_
                    refine lv_imul hx hb dX9_dots_173 ?_
                    refine lv_iadd hx hb dX9_dots_174 ?_
                    refine lv_iconst (v := 3) hx hb dX9_dots_175 (by decide) ?_
                    refine lv_iadd hx hb dX9_dots_176 ?_
                    refine lv_iload_n hx hb dX9_dots_177 rfl (lv_at hl 4 rfl) ?_
                    refine lv_iadd hx hb dX9_dots_178 ?_
                    refine lv_aload_n hx hb dX9_dots_179 rfl (lv_at hl 6 rfl) ?_
                    refine va_get (D := D) (ci := 9) (v := .ref (a 1)) (C := RX9) (T := TX9) (N := 2) hx hb hts in_X9 hown hK hP 0 rfl rfl 0 (by decide) k_7 (fun _ h9 => h9) rfl dX9_dots_180 ?_
                    refine lv_sipush (v := 130) hx hb dX9_dots_183 (by decide) ?_
                    refine lv_bipush (v := 11) hx hb dX9_dots_186 (by decide) ?_
                    refine lv_iload hx hb dX9_dots_188 (lv_at hl 1 rfl) ?_
                    refine lv_imul hx hb dX9_dots_190 ?_
                    refine lv_iadd hx hb dX9_dots_191 ?_
                    refine lv_iconst (v := 1) hx hb dX9_dots_192 (by decide) ?_
                    refine lv_iadd hx hb dX9_dots_193 ?_
                    obtain ⟨k_142, hk_142, ik_142, hv⟩ := hv
                    refine x_ald hx hb hK hP 1 0 rfl rfl k_142 ik_142 hk_142 (by decide) dX9_dots_194 ?_
                    refine lv_isub hx hb dX9_dots_195 ?_
                    obtain ⟨k_143, hk_143, ik_143, hv⟩ := hv
                    refine x_ald hx hb hK hP 1 0 rfl rfl k_143 ik_143 hk_143 (by decide) dX9_dots_196 ?_
                    refine lv_topi (fun x_144 ex_144 => ?_)
                    have hv := hv x_144 ex_144
                    refine lv_istore (lv' := [(7, .int x_144), (6, .int x_137), (5, .int y_132), (4, .int y_133), (3, .int r_94), (2, .int r_93), (1, .int r_92), (0, .ref (a 0))]) hx hb dX9_dots_197 hl (by decide) rfl (fun ls hl => ?_)
                    refine lv_iload hx hb dX9_dots_199 (lv_at hl 0 rfl) ?_
                    refine lv_bipush (v := 7) hx hb dX9_dots_201 (by decide) ?_
                    refine lv_iload hx hb dX9_dots_203 (lv_at hl 1 rfl) ?_
                    refine lv_isub hx hb dX9_dots_205 ?_
                    refine lv_ishr hx hb dX9_dots_206 ?_
                    refine lv_iconst (v := 1) hx hb dX9_dots_207 (by decide) ?_
                    refine lv_iand hx hb dX9_dots_208 ?_
                    refine lv_iconst (v := 1) hx hb dX9_dots_209 (by decide) ?_
                    refine lv_icmp_ne (tgt := 221) hx hb dX9_dots_210 (by decide) (fun c_145 => ?_) (fun c_145 => ?_)
                    · have hv := hv.1 c_145
                      obtain ⟨x_146, ex_146⟩ : ∃ z : Int32, z = y_132 + (-1) := ⟨_, rfl⟩
                      have hv := hv x_146 ex_146
                      refine lv_iinc (v := x_146) (lv' := [(5, .int x_146), (7, .int x_144), (6, .int x_137), (4, .int y_133), (3, .int r_94), (2, .int r_93), (1, .int r_92), (0, .ref (a 0))]) hx hb dX9_dots_221 hl (k := 2) rfl (by rw [ex_146]; rfl) (by decide) rfl (fun ls hl => ?_)
                      refine lv_goto (tgt := 110) hx hb dX9_dots_224 (by decide) ?_
                      exact L_126_ih _ _ hv ls (lv_sub hl [0, 3, 4, 5, 6, 7] rfl)
                    · have hv := hv.2 c_145
                      refine lv_sipush (v := 256) hx hb dX9_dots_213 (by decide) ?_
                      refine lv_iload hx hb dX9_dots_216 (lv_at hl 2 rfl) ?_
                      refine lv_iadd hx hb dX9_dots_218 ?_
                      refine lv_topi (fun x_147 ex_147 => ?_)
                      have hv := hv x_147 ex_147
                      refine lv_istore (lv' := [(4, .int x_147), (7, .int x_144), (6, .int x_137), (5, .int y_132), (3, .int r_94), (2, .int r_93), (1, .int r_92), (0, .ref (a 0))]) hx hb dX9_dots_219 hl (by decide) rfl (fun ls hl => ?_)
                      obtain ⟨x_148, ex_148⟩ : ∃ z : Int32, z = y_132 + (-1) := ⟨_, rfl⟩
                      have hv := hv x_148 ex_148
                      refine lv_iinc (v := x_148) (lv' := [(5, .int x_148), (4, .int x_147), (7, .int x_144), (6, .int x_137), (3, .int r_94), (2, .int r_93), (1, .int r_92), (0, .ref (a 0))]) hx hb dX9_dots_221 hl (k := 3) rfl (by rw [ex_148]; rfl) (by decide) rfl (fun ls hl => ?_)
                      refine lv_goto (tgt := 110) hx hb dX9_dots_224 (by decide) ?_
                      exact L_126_ih _ _ hv ls (lv_sub hl [0, 1, 4, 5, 6, 7] rfl)
                  · have hv := hv.2 c_141
                    refine lv_goto (tgt := 221) hx hb dX9_dots_159 (by decide) ?_
                    obtain ⟨x_149, ex_149⟩ : ∃ z : Int32, z = y_132 + (-1) := ⟨_, rfl⟩
                    have hv := hv x_149 ex_149
                    refine lv_iinc (v := x_149) (lv' := [(5, .int x_149), (6, .int x_137), (4, .int y_133), (3, .int r_94), (2, .int r_93), (1, .int r_92), (0, .ref (a 0))]) hx hb dX9_dots_221 hl (k := 1) rfl (by rw [ex_149]; rfl) (by decide) rfl (fun ls hl => ?_)
                    refine lv_goto (tgt := 110) hx hb dX9_dots_224 (by decide) ?_
                    exact L_126_ih _ _ hv ls (lv_sub hl [0, 2, 3, 4, 5, 6] rfl)
          exact L_126 n_150 _ _ hv ls hl
      · have hv := hv.2 c_95
        refine lv_sipush (v := 512) hx hb dX9_dots_80 (by decide) ?_
        refine lv_goto (tgt := 104) hx hb dX9_dots_83 (by decide) ?_
        refine lv_istore (lv' := [(4, .int 512), (3, .int r_94), (2, .int r_93), (1, .int r_92), (0, .ref (a 0))]) hx hb dX9_dots_104 hl (by decide) rfl (fun ls hl => ?_)
        refine lv_bipush (v := 7) hx hb dX9_dots_106 (by decide) ?_
        refine lv_istore (lv' := [(5, .int 7), (4, .int 512), (3, .int r_94), (2, .int r_93), (1, .int r_92), (0, .ref (a 0))]) hx hb dX9_dots_108 hl (by decide) rfl (fun ls hl => ?_)
        obtain ⟨n_175, hv⟩ := hv
        have K_L_151 : ∀ (y_152 : Int32) (y_153 : Int32), ∃ k_154 : Nat, k_154 < 23520 ∧ ((1770 + (64 * r_93)) + (u_91 1 20)) = nI k_154 ∧ ∀ M_155 : ST, M_155 = x_st u_91 1 k_154 (y_153 + 1) → ∀ M_156 : ST, M_156 = x_st M_155 1 25 ((M_155 1 25) + 1) → post M_156 → ∀ ls : Array Slot, lv_has ls 8 [(5, .int y_152), (4, .int y_153), (3, .int r_94), (2, .int r_93), (1, .int r_92), (0, .ref (a 0))] → W p l e (headSpec wsX9_dots ({ frames := 2, cells := 0, slots := 0, locals := 47 })).room s m ([.ref (a 0)] : List Value).toArray below meth c H locs 0 0 (MQ below (va_Qv post (fun u t => x_B D cT ((w_Model cT a u)) A t) A) ([.ref (a 0)] : List Value).toArray s 0 0 A) (F0 m 227 ls []) := by
          intro y_152 y_153 hv ls hl
          refine lv_aload_n hx hb dX9_dots_227 rfl (lv_at hl 5 rfl) ?_
          refine va_get (D := D) (ci := 9) (v := .ref (a 1)) (C := RX9) (T := TX9) (N := 2) hx hb hts in_X9 hown hK hP 0 rfl rfl 0 (by decide) k_7 (fun _ h9 => h9) rfl dX9_dots_228 ?_
          refine lv_sipush (v := 1770) hx hb dX9_dots_231 (by decide) ?_
          refine lv_bipush (v := 64) hx hb dX9_dots_234 (by decide) ?_
          refine lv_iload_n hx hb dX9_dots_236 rfl (lv_at hl 3 rfl) ?_
          refine lv_imul hx hb dX9_dots_237 ?_
          refine lv_iadd hx hb dX9_dots_238 ?_
          refine lv_aload_n hx hb dX9_dots_239 rfl (lv_at hl 5 rfl) ?_
          refine va_get (D := D) (ci := 9) (v := .ref (a 1)) (C := RX9) (T := TX9) (N := 2) hx hb hts in_X9 hown hK hP 0 rfl rfl 0 (by decide) k_7 (fun _ h9 => h9) rfl dX9_dots_240 ?_
          refine lv_bipush (v := 20) hx hb dX9_dots_243 (by decide) ?_
          refine x_ald hx hb hK hP 1 0 rfl rfl 20 rfl (by decide) (by decide) dX9_dots_245 ?_
          refine lv_iadd hx hb dX9_dots_246 ?_
          refine lv_iload hx hb dX9_dots_247 (lv_at hl 1 rfl) ?_
          refine lv_iconst (v := 1) hx hb dX9_dots_249 (by decide) ?_
          refine lv_iadd hx hb dX9_dots_250 ?_
          obtain ⟨k_154, hk_154, ik_154, hv⟩ := hv
          refine x_ast hx hb hK hP hD hS 1 0 rfl rfl k_154 ik_154 hk_154 (by decide) dX9_dots_251 (fun H locs hP hD hS => ?_)
          obtain ⟨M_155, eM_155⟩ : ∃ z : ST, z = x_st u_91 1 k_154 (y_153 + 1) := ⟨_, rfl⟩
          have hP : va_P D vwCl ((w_Model cT a M_155)) H := by rw [eM_155]; exact hP
          have hD : va_D A ((w_Model cT a M_155)) := by rw [eM_155]; exact hD
          have hv := hv M_155 eM_155
          refine lv_aload_n hx hb dX9_dots_252 rfl (lv_at hl 5 rfl) ?_
          refine va_get (D := D) (ci := 9) (v := .ref (a 1)) (C := RX9) (T := TX9) (N := 2) hx hb hts in_X9 hown hK hP 0 rfl rfl 0 (by decide) k_7 (fun _ h9 => h9) rfl dX9_dots_253 ?_
          refine lv_bipush (v := 25) hx hb dX9_dots_256 (by decide) ?_
          refine lv_dup2_11 hx hb dX9_dots_258 rfl rfl ?_
          refine x_ald hx hb hK hP 1 0 rfl rfl 25 rfl (by decide) (by decide) dX9_dots_259 ?_
          refine lv_iconst (v := 1) hx hb dX9_dots_260 (by decide) ?_
          refine lv_iadd hx hb dX9_dots_261 ?_
          refine x_ast hx hb hK hP hD hS 1 0 rfl rfl 25 rfl (by decide) (by decide) dX9_dots_262 (fun H locs hP hD hS => ?_)
          obtain ⟨M_156, eM_156⟩ : ∃ z : ST, z = x_st M_155 1 25 ((M_155 1 25) + 1) := ⟨_, rfl⟩
          have hP : va_P D vwCl ((w_Model cT a M_156)) H := by rw [eM_156]; exact hP
          have hD : va_D A ((w_Model cT a M_156)) := by rw [eM_156]; exact hD
          have hv := hv M_156 eM_156
          exact W.vret hx hb hr (fun t ht hW => ⟨⟨M_156, rfl, hv, by rw [ht]; exact hP, va_K.moved hW.alike hK, hD⟩, hS.F ht⟩) hS.2.2 dX9_dots_263
        have L_151 : ∀ n_159 : Nat, ∀ (y_157 : Int32) (y_158 : Int32), lp_X9_dots_110_L_151 u_91 r_93 r_94 post (fun (y_152 : Int32) (y_153 : Int32) => ∃ k_154 : Nat, k_154 < 23520 ∧ ((1770 + (64 * r_93)) + (u_91 1 20)) = nI k_154 ∧ ∀ M_155 : ST, M_155 = x_st u_91 1 k_154 (y_153 + 1) → ∀ M_156 : ST, M_156 = x_st M_155 1 25 ((M_155 1 25) + 1) → post M_156) n_159 y_157 y_158 → ∀ ls : Array Slot, lv_has ls 8 [(5, .int y_157), (4, .int y_158), (3, .int r_94), (2, .int r_93), (1, .int r_92), (0, .ref (a 0))] → W p l e (headSpec wsX9_dots ({ frames := 2, cells := 0, slots := 0, locals := 47 })).room s m ([.ref (a 0)] : List Value).toArray below meth c H locs 0 0 (MQ below (va_Qv post (fun u t => x_B D cT ((w_Model cT a u)) A t) A) ([.ref (a 0)] : List Value).toArray s 0 0 A) (F0 m 110 ls []) := by
          intro n_159
          induction n_159 with
          | zero =>
            intro y_157 y_158 hv
            exact hv.elim
          | succ n_159 L_151_ih =>
            intro y_157 y_158 hv ls hl
            refine lv_iload hx hb dX9_dots_110 (lv_at hl 0 rfl) ?_
            refine lv_if_lt (tgt := 227) hx hb dX9_dots_112 (by decide) (fun c_160 => ?_) (fun c_160 => ?_)
            · have hv := hv.1 c_160
              exact K_L_151 _ _ hv ls (lv_sub hl [0, 1, 2, 3, 4, 5] rfl)
            · have hv := hv.2 c_160
              refine lv_aload_n hx hb dX9_dots_115 rfl (lv_at hl 5 rfl) ?_
              refine va_get (D := D) (ci := 9) (v := .ref (a 1)) (C := RX9) (T := TX9) (N := 2) hx hb hts in_X9 hown hK hP 0 rfl rfl 0 (by decide) k_7 (fun _ h9 => h9) rfl dX9_dots_116 ?_
              refine lv_bipush (v := 20) hx hb dX9_dots_119 (by decide) ?_
              refine x_ald hx hb hK hP 1 0 rfl rfl 20 rfl (by decide) (by decide) dX9_dots_121 ?_
              refine lv_aload_n hx hb dX9_dots_122 rfl (lv_at hl 5 rfl) ?_
              refine va_get (D := D) (ci := 9) (v := .ref (a 1)) (C := RX9) (T := TX9) (N := 2) hx hb hts in_X9 hown hK hP 0 rfl rfl 0 (by decide) k_7 (fun _ h9 => h9) rfl dX9_dots_123 ?_
              refine lv_sipush (v := 130) hx hb dX9_dots_126 (by decide) ?_
              refine lv_bipush (v := 11) hx hb dX9_dots_129 (by decide) ?_
              refine lv_iload hx hb dX9_dots_131 (lv_at hl 0 rfl) ?_
              refine lv_imul hx hb dX9_dots_133 ?_
              refine lv_iadd hx hb dX9_dots_134 ?_
              obtain ⟨k_161, hk_161, ik_161, hv⟩ := hv
              refine x_ald hx hb hK hP 1 0 rfl rfl k_161 ik_161 hk_161 (by decide) dX9_dots_135 ?_
              refine lv_isub hx hb dX9_dots_136 ?_
              refine lv_topi (fun x_162 ex_162 => ?_)
              have hv := hv x_162 ex_162
              refine lv_istore (lv' := [(6, .int x_162), (5, .int y_157), (4, .int y_158), (3, .int r_94), (2, .int r_93), (1, .int r_92), (0, .ref (a 0))]) hx hb dX9_dots_137 hl (by decide) rfl (fun ls hl => ?_)
              refine lv_iload_n hx hb dX9_dots_139 rfl (lv_at hl 3 rfl) ?_
              refine lv_iload hx hb dX9_dots_140 (lv_at hl 1 rfl) ?_
              refine lv_ishr hx hb dX9_dots_142 ?_
              refine lv_iconst (v := 1) hx hb dX9_dots_143 (by decide) ?_
              refine lv_iand hx hb dX9_dots_144 ?_
              refine lv_if_eq (tgt := 221) hx hb dX9_dots_145 (by decide) (fun c_163 => ?_) (fun c_163 => ?_)
              · have hv := hv.1 c_163
                obtain ⟨x_164, ex_164⟩ : ∃ z : Int32, z = y_157 + (-1) := ⟨_, rfl⟩
                have hv := hv x_164 ex_164
                refine lv_iinc (v := x_164) (lv' := [(5, .int x_164), (6, .int x_162), (4, .int y_158), (3, .int r_94), (2, .int r_93), (1, .int r_92), (0, .ref (a 0))]) hx hb dX9_dots_221 hl (k := 1) rfl (by rw [ex_164]; rfl) (by decide) rfl (fun ls hl => ?_)
                refine lv_goto (tgt := 110) hx hb dX9_dots_224 (by decide) ?_
                exact L_151_ih _ _ hv ls (lv_sub hl [0, 2, 3, 4, 5, 6] rfl)
              · have hv := hv.2 c_163
                refine lv_iload hx hb dX9_dots_148 (lv_at hl 0 rfl) ?_
                refine lv_iconst (v := 0) hx hb dX9_dots_150 (by decide) ?_
                refine lv_bipush (v := 7) hx hb dX9_dots_151 (by decide) ?_
                refine x_rS (As := [.int x_162, .int 0, .int 7]) (rest := []) ⟨hx, hb, hml, hown, hts⟩ (c_X9_isIn l D cT x_162 0 7 _ hv) w_17 hK hS hN rfl hl.1 rfl (Nat.le_of_ble_eq_true rfl) dX9_dots_153 ⟨Nat.le_of_ble_eq_true rfl, Nat.le_of_ble_eq_true rfl⟩ (fun r_165 hv => ?_)
                refine lv_if_ne (tgt := 162) hx hb dX9_dots_156 (by decide) (fun c_166 => ?_) (fun c_166 => ?_)
                · have hv := hv.1 c_166
                  refine lv_aload_n hx hb dX9_dots_162 rfl (lv_at hl 6 rfl) ?_
                  refine va_get (D := D) (ci := 9) (v := .ref (a 1)) (C := RX9) (T := TX9) (N := 2) hx hb hts in_X9 hown hK hP 0 rfl rfl 0 (by decide) k_7 (fun _ h9 => h9) rfl dX9_dots_163 ?_
                  refine lv_sipush (v := 130) hx hb dX9_dots_166 (by decide) ?_
                  refine lv_bipush (v := 11) hx hb dX9_dots_169 (by decide) ?_
                  refine lv_iload hx hb dX9_dots_171 (lv_at hl 1 rfl) ?_
                  refine lv_imul hx hb dX9_dots_173 ?_
                  refine lv_iadd hx hb dX9_dots_174 ?_
                  refine lv_iconst (v := 3) hx hb dX9_dots_175 (by decide) ?_
                  refine lv_iadd hx hb dX9_dots_176 ?_
                  refine lv_iload_n hx hb dX9_dots_177 rfl (lv_at hl 4 rfl) ?_
                  refine lv_iadd hx hb dX9_dots_178 ?_
                  refine lv_aload_n hx hb dX9_dots_179 rfl (lv_at hl 6 rfl) ?_
                  refine va_get (D := D) (ci := 9) (v := .ref (a 1)) (C := RX9) (T := TX9) (N := 2) hx hb hts in_X9 hown hK hP 0 rfl rfl 0 (by decide) k_7 (fun _ h9 => h9) rfl dX9_dots_180 ?_
                  refine lv_sipush (v := 130) hx hb dX9_dots_183 (by decide) ?_
                  refine lv_bipush (v := 11) hx hb dX9_dots_186 (by decide) ?_
                  refine lv_iload hx hb dX9_dots_188 (lv_at hl 1 rfl) ?_
                  refine lv_imul hx hb dX9_dots_190 ?_
                  refine lv_iadd hx hb dX9_dots_191 ?_
                  refine lv_iconst (v := 1) hx hb dX9_dots_192 (by decide) ?_
                  refine lv_iadd hx hb dX9_dots_193 ?_
                  obtain ⟨k_167, hk_167, ik_167, hv⟩ := hv
                  refine x_ald hx hb hK hP 1 0 rfl rfl k_167 ik_167 hk_167 (by decide) dX9_dots_194 ?_
                  refine lv_isub hx hb dX9_dots_195 ?_
                  obtain ⟨k_168, hk_168, ik_168, hv⟩ := hv
                  refine x_ald hx hb hK hP 1 0 rfl rfl k_168 ik_168 hk_168 (by decide) dX9_dots_196 ?_
                  refine lv_topi (fun x_169 ex_169 => ?_)
                  have hv := hv x_169 ex_169
                  refine lv_istore (lv' := [(7, .int x_169), (6, .int x_162), (5, .int y_157), (4, .int y_158), (3, .int r_94), (2, .int r_93), (1, .int r_92), (0, .ref (a 0))]) hx hb dX9_dots_197 hl (by decide) rfl (fun ls hl => ?_)
                  refine lv_iload hx hb dX9_dots_199 (lv_at hl 0 rfl) ?_
                  refine lv_bipush (v := 7) hx hb dX9_dots_201 (by decide) ?_
                  refine lv_iload hx hb dX9_dots_203 (lv_at hl 1 rfl) ?_
                  refine lv_isub hx hb dX9_dots_205 ?_
                  refine lv_ishr hx hb dX9_dots_206 ?_
                  refine lv_iconst (v := 1) hx hb dX9_dots_207 (by decide) ?_
                  refine lv_iand hx hb dX9_dots_208 ?_
                  refine lv_iconst (v := 1) hx hb dX9_dots_209 (by decide) ?_
                  refine lv_icmp_ne (tgt := 221) hx hb dX9_dots_210 (by decide) (fun c_170 => ?_) (fun c_170 => ?_)
                  · have hv := hv.1 c_170
                    obtain ⟨x_171, ex_171⟩ : ∃ z : Int32, z = y_157 + (-1) := ⟨_, rfl⟩
                    have hv := hv x_171 ex_171
                    refine lv_iinc (v := x_171) (lv' := [(5, .int x_171), (7, .int x_169), (6, .int x_162), (4, .int y_158), (3, .int r_94), (2, .int r_93), (1, .int r_92), (0, .ref (a 0))]) hx hb dX9_dots_221 hl (k := 2) rfl (by rw [ex_171]; rfl) (by decide) rfl (fun ls hl => ?_)
                    refine lv_goto (tgt := 110) hx hb dX9_dots_224 (by decide) ?_
                    exact L_151_ih _ _ hv ls (lv_sub hl [0, 3, 4, 5, 6, 7] rfl)
                  · have hv := hv.2 c_170
                    refine lv_sipush (v := 256) hx hb dX9_dots_213 (by decide) ?_
                    refine lv_iload hx hb dX9_dots_216 (lv_at hl 2 rfl) ?_
                    refine lv_iadd hx hb dX9_dots_218 ?_
                    refine lv_topi (fun x_172 ex_172 => ?_)
                    have hv := hv x_172 ex_172
                    refine lv_istore (lv' := [(4, .int x_172), (7, .int x_169), (6, .int x_162), (5, .int y_157), (3, .int r_94), (2, .int r_93), (1, .int r_92), (0, .ref (a 0))]) hx hb dX9_dots_219 hl (by decide) rfl (fun ls hl => ?_)
                    obtain ⟨x_173, ex_173⟩ : ∃ z : Int32, z = y_157 + (-1) := ⟨_, rfl⟩
                    have hv := hv x_173 ex_173
                    refine lv_iinc (v := x_173) (lv' := [(5, .int x_173), (4, .int x_172), (7, .int x_169), (6, .int x_162), (3, .int r_94), (2, .int r_93), (1, .int r_92), (0, .ref (a 0))]) hx hb dX9_dots_221 hl (k := 3) rfl (by rw [ex_173]; rfl) (by decide) rfl (fun ls hl => ?_)
                    refine lv_goto (tgt := 110) hx hb dX9_dots_224 (by decide) ?_
                    exact L_151_ih _ _ hv ls (lv_sub hl [0, 1, 4, 5, 6, 7] rfl)
                · have hv := hv.2 c_166
                  refine lv_goto (tgt := 221) hx hb dX9_dots_159 (by decide) ?_
                  obtain ⟨x_174, ex_174⟩ : ∃ z : Int32, z = y_157 + (-1) := ⟨_, rfl⟩
                  have hv := hv x_174 ex_174
                  refine lv_iinc (v := x_174) (lv' := [(5, .int x_174), (6, .int x_162), (4, .int y_158), (3, .int r_94), (2, .int r_93), (1, .int r_92), (0, .ref (a 0))]) hx hb dX9_dots_221 hl (k := 1) rfl (by rw [ex_174]; rfl) (by decide) rfl (fun ls hl => ?_)
                  refine lv_goto (tgt := 110) hx hb dX9_dots_224 (by decide) ?_
                  exact L_151_ih _ _ hv ls (lv_sub hl [0, 2, 3, 4, 5, 6] rfl)
        exact L_151 n_175 _ _ hv ls hl
    have L_87 : ∀ n_179 : Nat, ∀ (y_176 : Int32) (y_177 : Int32) (M_178 : ST), lp_X9_dots_14  post (fun (y_88 : Int32) (y_89 : Int32) (M_90 : ST) => v_X9_takes M_90 (fun r_92 (u_91 : ST) => v_X9_rowOf (u_91 1 21) (u_91 1 22) (u_91 1 8) (fun r_93 => v_X9_spritesOf u_91 r_93 (fun r_94 => (((0 ≤ r_92) → (((¬ (r_92 = 1)) → ∃ k_97 : Nat, k_97 < 23520 ∧ (40 + 4) = nI k_97 ∧ ∀ x_98 : Int32, x_98 = (u_91 1 k_97) → (∃ n_123 : Nat, lp_X9_dots_110_L_99 u_91 r_93 r_94 post (fun (y_100 : Int32) (y_101 : Int32) => ∃ k_102 : Nat, k_102 < 23520 ∧ ((1770 + (64 * r_93)) + (u_91 1 20)) = nI k_102 ∧ ∀ M_103 : ST, M_103 = x_st u_91 1 k_102 (y_101 + 1) → ∀ M_104 : ST, M_104 = x_st M_103 1 25 ((M_103 1 25) + 1) → post M_104) n_123 7 x_98)) ∧ ((r_92 = 1) → ∃ k_124 : Nat, k_124 < 23520 ∧ (40 + 3) = nI k_124 ∧ ∀ x_125 : Int32, x_125 = (u_91 1 k_124) → (∃ n_150 : Nat, lp_X9_dots_110_L_126 u_91 r_93 r_94 post (fun (y_127 : Int32) (y_128 : Int32) => ∃ k_129 : Nat, k_129 < 23520 ∧ ((1770 + (64 * r_93)) + (u_91 1 20)) = nI k_129 ∧ ∀ M_130 : ST, M_130 = x_st u_91 1 k_129 (y_128 + 1) → ∀ M_131 : ST, M_131 = x_st M_130 1 25 ((M_130 1 25) + 1) → post M_131) n_150 7 x_125)))) ∧ ((¬ (0 ≤ r_92)) → (∃ n_175 : Nat, lp_X9_dots_110_L_151 u_91 r_93 r_94 post (fun (y_152 : Int32) (y_153 : Int32) => ∃ k_154 : Nat, k_154 < 23520 ∧ ((1770 + (64 * r_93)) + (u_91 1 20)) = nI k_154 ∧ ∀ M_155 : ST, M_155 = x_st u_91 1 k_154 (y_153 + 1) → ∀ M_156 : ST, M_156 = x_st M_155 1 25 ((M_155 1 25) + 1) → post M_156) n_175 7 512))))))) n_179 y_176 y_177 M_178 → ∀ (H : Heap) (locs : List Loc), va_P D vwCl ((w_Model cT a M_178)) H → va_D A ((w_Model cT a M_178)) → va_S A s.heap H locs → ∀ ls : Array Slot, lv_has ls 8 [(2, .int y_176), (1, .int y_177), (0, .ref (a 0))] → W p l e (headSpec wsX9_dots ({ frames := 2, cells := 0, slots := 0, locals := 47 })).room s m ([.ref (a 0)] : List Value).toArray below meth c H locs 0 0 (MQ below (va_Qv post (fun u t => x_B D cT ((w_Model cT a u)) A t) A) ([.ref (a 0)] : List Value).toArray s 0 0 A) (F0 m 14 ls []) := by
      intro n_179
      induction n_179 with
      | zero =>
        intro y_176 y_177 M_178 hv
        exact hv.elim
      | succ n_179 L_87_ih =>
        intro y_176 y_177 M_178 hv H locs hP hD hS ls hl
        refine lv_iload_n hx hb dX9_dots_14 rfl (lv_at hl 0 rfl) ?_
        refine lv_aload_n hx hb dX9_dots_15 rfl (lv_at hl 2 rfl) ?_
        refine va_get (D := D) (ci := 9) (v := .ref (a 1)) (C := RX9) (T := TX9) (N := 2) hx hb hts in_X9 hown hK hP 0 rfl rfl 0 (by decide) k_7 (fun _ h9 => h9) rfl dX9_dots_16 ?_
        refine lv_bipush (v := 42) hx hb dX9_dots_19 (by decide) ?_
        refine x_ald hx hb hK hP 1 0 rfl rfl 42 rfl (by decide) (by decide) dX9_dots_21 ?_
        refine lv_icmp_ge (tgt := 40) hx hb dX9_dots_22 (by decide) (fun c_180 => ?_) (fun c_180 => ?_)
        · have hv := hv.1 c_180
          exact K_L_87 _ _ _ hv H locs hP hD hS ls (lv_sub hl [0, 1, 2] rfl)
        · have hv := hv.2 c_180
          refine lv_iload_n hx hb dX9_dots_25 rfl (lv_at hl 1 rfl) ?_
          refine lv_if_lt (tgt := 40) hx hb dX9_dots_26 (by decide) (fun c_181 => ?_) (fun c_181 => ?_)
          · have hv := hv.1 c_181
            exact K_L_87 _ _ _ hv H locs hP hD hS ls (lv_sub hl [0, 1, 2] rfl)
          · have hv := hv.2 c_181
            refine lv_aload_n hx hb dX9_dots_29 rfl (lv_at hl 2 rfl) ?_
            refine x_cVi (As := []) (rest := []) (wn := fun u_182 => (w_Model cT a u_182)) ⟨hx, hb, hml, hown, hts⟩ (c_X9_takes l D cT a M_178 _ _ hv) w_47 hK hP hD hS hA hN [0, 1, 2] [] [0, 1, 2] rfl rfl (fun _ => rfl) (by decide) (by decide) (by decide) (by decide) 9 0 rfl rfl rfl hl.1 rfl (Nat.le_of_ble_eq_true rfl) dX9_dots_30 ⟨Nat.le_of_ble_eq_true rfl, Nat.le_of_ble_eq_true rfl⟩ (fun r_183 u_182 H locs hv hP hD hS => ?_)
            refine lv_istore_n (lv' := [(1, .int r_183), (2, .int y_176), (0, .ref (a 0))]) hx hb dX9_dots_33 rfl hl (by decide) rfl (fun ls hl => ?_)
            obtain ⟨x_184, ex_184⟩ : ∃ z : Int32, z = y_176 + 1 := ⟨_, rfl⟩
            have hv := hv x_184 ex_184
            refine lv_iinc (v := x_184) (lv' := [(2, .int x_184), (1, .int r_183), (0, .ref (a 0))]) hx hb dX9_dots_34 hl (k := 1) rfl (by rw [ex_184]; rfl) (by decide) rfl (fun ls hl => ?_)
            refine lv_goto (tgt := 14) hx hb dX9_dots_37 (by decide) ?_
            exact L_87_ih _ _ _ hv H locs hP hD hS ls (lv_sub hl [0, 1, 2] rfl)
    exact L_87 n_185 _ _ _ hv _ _ hP hD hS ls hl
def lp_X9_goesOn_83  (post : ST → Prop) (K_ : Int32 → ST → Prop) : Nat → Int32 → ST → Prop
  | 0, _, _ => False
  | n_16 + 1, y_14, M_15 => (((10 ≤ y_14) → K_ y_14 M_15) ∧ ((¬ (10 ≤ y_14)) → ∃ k_18 : Nat, k_18 < 23520 ∧ (5870 + y_14) = nI k_18 ∧ ∃ k_19 : Nat, k_19 < 23520 ∧ (0 + y_14) = nI k_19 ∧ ∀ M_20 : ST, M_20 = x_st M_15 1 k_19 (M_15 1 k_18) → ∀ x_21 : Int32, x_21 = y_14 + 1 → lp_X9_goesOn_83  post K_ n_16 x_21 M_20))
def v_X9_goesOn (M : ST) (post : ST → Prop) : Prop := ∀ M_1 : ST, M_1 = x_st M 1 20 ((M 1 20) + 1) → v_X9_ticksOf M_1 0 (fun r_2 => (((r_2 ≤ (M_1 1 20)) → ∀ M_4 : ST, M_4 = x_st M_1 1 20 0 → ∀ M_5 : ST, M_5 = x_st M_4 1 21 ((M_4 1 21) + 1) → v_X9_linesOf M_5 0 (fun r_6 => (((r_6 ≤ (M_5 1 21)) → ∀ M_8 : ST, M_8 = x_st M_5 1 21 0 → v_X9_nextField M_8 (fun r_9 => ∀ M_10 : ST, M_10 = x_st M_8 1 22 r_9 → (∃ n_22 : Nat, lp_X9_goesOn_83  post (fun (y_12 : Int32) (M_13 : ST) => post M_13) n_22 0 M_10))) ∧ ((¬ (r_6 ≤ (M_5 1 21))) → post M_5)))) ∧ ((¬ (r_2 ≤ (M_1 1 20))) → post M_1)))
set_option maxHeartbeats 4000000 in
set_option maxRecDepth 100000 in
theorem c_X9_goesOn (l : Launch) (D : va_G) (cT : Nat → ClassId) (a : Nat → Nat) (M : ST) (sz : Nat) (post : ST → Prop) (hv : v_X9_goesOn M post) : Met l yX9_goesOn wsX9_goesOn ({ frames := 1, cells := 0, slots := 0, locals := 21 }) (va_Pc [.ref (a 0)] (x_U D cT ((w_Model cT a M)) sz)) (va_Qv post (fun u t => x_B D cT ((w_Model cT a u)) (va_A ((w_Model cT a M)) sz) t) (va_A ((w_Model cT a M)) sz)) 0 0 (va_A ((w_Model cT a M)) sz) := by
  refine Met.ofW (cc := cX9_goesOn) (maxL := 2) (ret := none) (by decide) rfl ?_
  intro p e s m args below meth c s₁ B hml hpre
  obtain ⟨rfl, hsz, hP, hK, hD0, hN⟩ := hpre
  have hx := B.exec
  have hb := B.bytes
  have hr := B.returns
  have hts := atoms_spec (ws := wsX9_goesOn) B.pre
  have hown : s.vm.findClass RX9 = some m.cls := findClass_of_methodNamed B.named
  have hlocks := B.notSynchronized
  subst hsz
  have hD := hD0.self (sz := s.heap.size)
  generalize hAe : va_A ((w_Model cT a M)) s.heap.size = A at hD hN ⊢
  have hA : ∀ q : Nat, s.heap.size ≤ q → A q := fun q h => by rw [← hAe]; exact Or.inr h
  have hS : va_S A s.heap s.heap [] := va_S.rf
  have hl := lv_entry ([.ref (a 0)]) (n := 2) (Nat.le_of_ble_eq_true rfl)
  rw [lg_entry_eq]
  generalize (lg_sl ([.ref (a 0)]) ++ List.replicate (2 - (lg_sl ([.ref (a 0)])).length) Slot.unset).toArray = ls at hl ⊢
  have hl : lv_has ls 2 [(0, .ref (a 0))] := hl
  have in_X9 : ∀ w ∈ wsX90, w ∈ wsX9_goesOn := by decide +kernel
  have k_7 : (Cond.fieldLink RX9 7 "PictureBeatsModel" "all" "[I").before ([.ref (a 0)] : List Value).toArray s = true := hts _ (by decide +kernel)
  have w_53 : CallW (headSpec wsX9_goesOn ({ frames := 1, cells := 0, slots := 0, locals := 21 })).room s ([.ref (a 0)] : List Value).toArray RX9 RX9 53 yX9_ticksOf cX9_ticksOf 2 (some .int) wsX9_ticksOf ({ frames := 0, cells := 0, slots := 0, locals := 0 } : Room) 0 0 1 := cwV 1 hts gX9_goesOn_X9_ticksOf rfl rfl rfl (by decide +kernel) ⟨Nat.le_of_ble_eq_true rfl, Nat.le_of_ble_eq_true rfl⟩
  have w_28 : CallW (headSpec wsX9_goesOn ({ frames := 1, cells := 0, slots := 0, locals := 21 })).room s ([.ref (a 0)] : List Value).toArray RX9 RX9 28 yX9_linesOf cX9_linesOf 2 (some .int) wsX9_linesOf ({ frames := 0, cells := 0, slots := 0, locals := 0 } : Room) 0 0 1 := cwV 1 hts gX9_goesOn_X9_linesOf rfl rfl rfl (by decide +kernel) ⟨Nat.le_of_ble_eq_true rfl, Nat.le_of_ble_eq_true rfl⟩
  have w_32 : CallW (headSpec wsX9_goesOn ({ frames := 1, cells := 0, slots := 0, locals := 21 })).room s ([.ref (a 0)] : List Value).toArray RX9 RX9 32 yX9_nextField cX9_nextField 1 (some .int) wsX9_nextField ({ frames := 0, cells := 0, slots := 0, locals := 0 } : Room) 0 0 0 := cwV 0 hts gX9_goesOn_X9_nextField rfl rfl rfl (by decide +kernel) ⟨Nat.le_of_ble_eq_true rfl, Nat.le_of_ble_eq_true rfl⟩
  refine lv_aload_n hx hb dX9_goesOn_0 rfl (lv_at hl 0 rfl) ?_
  refine va_get (D := D) (ci := 9) (v := .ref (a 1)) (C := RX9) (T := TX9) (N := 2) hx hb hts in_X9 hown hK hP 0 rfl rfl 0 (by decide) k_7 (fun _ h9 => h9) rfl dX9_goesOn_1 ?_
  refine lv_bipush (v := 20) hx hb dX9_goesOn_4 (by decide) ?_
  refine lv_dup2_11 hx hb dX9_goesOn_6 rfl rfl ?_
  refine x_ald hx hb hK hP 1 0 rfl rfl 20 rfl (by decide) (by decide) dX9_goesOn_7 ?_
  refine lv_iconst (v := 1) hx hb dX9_goesOn_8 (by decide) ?_
  refine lv_iadd hx hb dX9_goesOn_9 ?_
  refine x_ast hx hb hK hP hD hS 1 0 rfl rfl 20 rfl (by decide) (by decide) dX9_goesOn_10 (fun H locs hP hD hS => ?_)
  obtain ⟨M_1, eM_1⟩ : ∃ z : ST, z = x_st M 1 20 ((M 1 20) + 1) := ⟨_, rfl⟩
  have hP : va_P D vwCl ((w_Model cT a M_1)) H := by rw [eM_1]; exact hP
  have hD : va_D A ((w_Model cT a M_1)) := by rw [eM_1]; exact hD
  have hv := hv M_1 eM_1
  refine lv_aload_n hx hb dX9_goesOn_11 rfl (lv_at hl 0 rfl) ?_
  refine va_get (D := D) (ci := 9) (v := .ref (a 1)) (C := RX9) (T := TX9) (N := 2) hx hb hts in_X9 hown hK hP 0 rfl rfl 0 (by decide) k_7 (fun _ h9 => h9) rfl dX9_goesOn_12 ?_
  refine lv_bipush (v := 20) hx hb dX9_goesOn_15 (by decide) ?_
  refine x_ald hx hb hK hP 1 0 rfl rfl 20 rfl (by decide) (by decide) dX9_goesOn_17 ?_
  refine lv_aload_n hx hb dX9_goesOn_18 rfl (lv_at hl 0 rfl) ?_
  refine lv_iconst (v := 0) hx hb dX9_goesOn_19 (by decide) ?_
  refine x_rV (As := [.int 0]) (rest := [.int (M_1 1 20)]) ⟨hx, hb, hml, hown, hts⟩ (c_X9_ticksOf l D cT a M_1 0 _ hv) w_53 hK hP hS hN [0, 1, 2] rfl 9 0 rfl rfl rfl hl.1 rfl (Nat.le_of_ble_eq_true rfl) dX9_goesOn_20 ⟨Nat.le_of_ble_eq_true rfl, Nat.le_of_ble_eq_true rfl⟩ (fun r_2 hv => ?_)
  refine lv_icmp_ge (tgt := 27) hx hb dX9_goesOn_23 (by decide) (fun c_3 => ?_) (fun c_3 => ?_)
  · have hv := hv.1 c_3
    refine lv_aload_n hx hb dX9_goesOn_27 rfl (lv_at hl 0 rfl) ?_
    refine va_get (D := D) (ci := 9) (v := .ref (a 1)) (C := RX9) (T := TX9) (N := 2) hx hb hts in_X9 hown hK hP 0 rfl rfl 0 (by decide) k_7 (fun _ h9 => h9) rfl dX9_goesOn_28 ?_
    refine lv_bipush (v := 20) hx hb dX9_goesOn_31 (by decide) ?_
    refine lv_iconst (v := 0) hx hb dX9_goesOn_33 (by decide) ?_
    refine x_ast hx hb hK hP hD hS 1 0 rfl rfl 20 rfl (by decide) (by decide) dX9_goesOn_34 (fun H locs hP hD hS => ?_)
    obtain ⟨M_4, eM_4⟩ : ∃ z : ST, z = x_st M_1 1 20 0 := ⟨_, rfl⟩
    have hP : va_P D vwCl ((w_Model cT a M_4)) H := by rw [eM_4]; exact hP
    have hD : va_D A ((w_Model cT a M_4)) := by rw [eM_4]; exact hD
    have hv := hv M_4 eM_4
    refine lv_aload_n hx hb dX9_goesOn_35 rfl (lv_at hl 0 rfl) ?_
    refine va_get (D := D) (ci := 9) (v := .ref (a 1)) (C := RX9) (T := TX9) (N := 2) hx hb hts in_X9 hown hK hP 0 rfl rfl 0 (by decide) k_7 (fun _ h9 => h9) rfl dX9_goesOn_36 ?_
    refine lv_bipush (v := 21) hx hb dX9_goesOn_39 (by decide) ?_
    refine lv_dup2_11 hx hb dX9_goesOn_41 rfl rfl ?_
    refine x_ald hx hb hK hP 1 0 rfl rfl 21 rfl (by decide) (by decide) dX9_goesOn_42 ?_
    refine lv_iconst (v := 1) hx hb dX9_goesOn_43 (by decide) ?_
    refine lv_iadd hx hb dX9_goesOn_44 ?_
    refine x_ast hx hb hK hP hD hS 1 0 rfl rfl 21 rfl (by decide) (by decide) dX9_goesOn_45 (fun H locs hP hD hS => ?_)
    obtain ⟨M_5, eM_5⟩ : ∃ z : ST, z = x_st M_4 1 21 ((M_4 1 21) + 1) := ⟨_, rfl⟩
    have hP : va_P D vwCl ((w_Model cT a M_5)) H := by rw [eM_5]; exact hP
    have hD : va_D A ((w_Model cT a M_5)) := by rw [eM_5]; exact hD
    have hv := hv M_5 eM_5
    refine lv_aload_n hx hb dX9_goesOn_46 rfl (lv_at hl 0 rfl) ?_
    refine va_get (D := D) (ci := 9) (v := .ref (a 1)) (C := RX9) (T := TX9) (N := 2) hx hb hts in_X9 hown hK hP 0 rfl rfl 0 (by decide) k_7 (fun _ h9 => h9) rfl dX9_goesOn_47 ?_
    refine lv_bipush (v := 21) hx hb dX9_goesOn_50 (by decide) ?_
    refine x_ald hx hb hK hP 1 0 rfl rfl 21 rfl (by decide) (by decide) dX9_goesOn_52 ?_
    refine lv_aload_n hx hb dX9_goesOn_53 rfl (lv_at hl 0 rfl) ?_
    refine lv_iconst (v := 0) hx hb dX9_goesOn_54 (by decide) ?_
    refine x_rV (As := [.int 0]) (rest := [.int (M_5 1 21)]) ⟨hx, hb, hml, hown, hts⟩ (c_X9_linesOf l D cT a M_5 0 _ hv) w_28 hK hP hS hN [0, 1, 2] rfl 9 0 rfl rfl rfl hl.1 rfl (Nat.le_of_ble_eq_true rfl) dX9_goesOn_55 ⟨Nat.le_of_ble_eq_true rfl, Nat.le_of_ble_eq_true rfl⟩ (fun r_6 hv => ?_)
    refine lv_icmp_ge (tgt := 62) hx hb dX9_goesOn_58 (by decide) (fun c_7 => ?_) (fun c_7 => ?_)
    · have hv := hv.1 c_7
      refine lv_aload_n hx hb dX9_goesOn_62 rfl (lv_at hl 0 rfl) ?_
      refine va_get (D := D) (ci := 9) (v := .ref (a 1)) (C := RX9) (T := TX9) (N := 2) hx hb hts in_X9 hown hK hP 0 rfl rfl 0 (by decide) k_7 (fun _ h9 => h9) rfl dX9_goesOn_63 ?_
      refine lv_bipush (v := 21) hx hb dX9_goesOn_66 (by decide) ?_
      refine lv_iconst (v := 0) hx hb dX9_goesOn_68 (by decide) ?_
      refine x_ast hx hb hK hP hD hS 1 0 rfl rfl 21 rfl (by decide) (by decide) dX9_goesOn_69 (fun H locs hP hD hS => ?_)
      obtain ⟨M_8, eM_8⟩ : ∃ z : ST, z = x_st M_5 1 21 0 := ⟨_, rfl⟩
      have hP : va_P D vwCl ((w_Model cT a M_8)) H := by rw [eM_8]; exact hP
      have hD : va_D A ((w_Model cT a M_8)) := by rw [eM_8]; exact hD
      have hv := hv M_8 eM_8
      refine lv_aload_n hx hb dX9_goesOn_70 rfl (lv_at hl 0 rfl) ?_
      refine va_get (D := D) (ci := 9) (v := .ref (a 1)) (C := RX9) (T := TX9) (N := 2) hx hb hts in_X9 hown hK hP 0 rfl rfl 0 (by decide) k_7 (fun _ h9 => h9) rfl dX9_goesOn_71 ?_
      refine lv_bipush (v := 22) hx hb dX9_goesOn_74 (by decide) ?_
      refine lv_aload_n hx hb dX9_goesOn_76 rfl (lv_at hl 0 rfl) ?_
      refine x_rV (As := []) (rest := [.int 22, .ref (a 1)]) ⟨hx, hb, hml, hown, hts⟩ (c_X9_nextField l D cT a M_8 _ hv) w_32 hK hP hS hN [0, 1, 2] rfl 9 0 rfl rfl rfl hl.1 rfl (Nat.le_of_ble_eq_true rfl) dX9_goesOn_77 ⟨Nat.le_of_ble_eq_true rfl, Nat.le_of_ble_eq_true rfl⟩ (fun r_9 hv => ?_)
      refine x_ast hx hb hK hP hD hS 1 0 rfl rfl 22 rfl (by decide) (by decide) dX9_goesOn_80 (fun H locs hP hD hS => ?_)
      obtain ⟨M_10, eM_10⟩ : ∃ z : ST, z = x_st M_8 1 22 r_9 := ⟨_, rfl⟩
      have hP : va_P D vwCl ((w_Model cT a M_10)) H := by rw [eM_10]; exact hP
      have hD : va_D A ((w_Model cT a M_10)) := by rw [eM_10]; exact hD
      have hv := hv M_10 eM_10
      refine lv_iconst (v := 0) hx hb dX9_goesOn_81 (by decide) ?_
      refine lv_istore_n (lv' := [(1, .int 0), (0, .ref (a 0))]) hx hb dX9_goesOn_82 rfl hl (by decide) rfl (fun ls hl => ?_)
      obtain ⟨n_22, hv⟩ := hv
      have K_L_11 : ∀ (y_12 : Int32) (M_13 : ST), post M_13 → ∀ (H : Heap) (locs : List Loc), va_P D vwCl ((w_Model cT a M_13)) H → va_D A ((w_Model cT a M_13)) → va_S A s.heap H locs → ∀ ls : Array Slot, lv_has ls 2 [(1, .int y_12), (0, .ref (a 0))] → W p l e (headSpec wsX9_goesOn ({ frames := 1, cells := 0, slots := 0, locals := 21 })).room s m ([.ref (a 0)] : List Value).toArray below meth c H locs 0 0 (MQ below (va_Qv post (fun u t => x_B D cT ((w_Model cT a u)) A t) A) ([.ref (a 0)] : List Value).toArray s 0 0 A) (F0 m 113 ls []) := by
        intro y_12 M_13 hv H locs hP hD hS ls hl
        exact W.vret hx hb hr (fun t ht hW => ⟨⟨M_13, rfl, hv, by rw [ht]; exact hP, va_K.moved hW.alike hK, hD⟩, hS.F ht⟩) hS.2.2 dX9_goesOn_113
      have L_11 : ∀ n_16 : Nat, ∀ (y_14 : Int32) (M_15 : ST), lp_X9_goesOn_83  post (fun (y_12 : Int32) (M_13 : ST) => post M_13) n_16 y_14 M_15 → ∀ (H : Heap) (locs : List Loc), va_P D vwCl ((w_Model cT a M_15)) H → va_D A ((w_Model cT a M_15)) → va_S A s.heap H locs → ∀ ls : Array Slot, lv_has ls 2 [(1, .int y_14), (0, .ref (a 0))] → W p l e (headSpec wsX9_goesOn ({ frames := 1, cells := 0, slots := 0, locals := 21 })).room s m ([.ref (a 0)] : List Value).toArray below meth c H locs 0 0 (MQ below (va_Qv post (fun u t => x_B D cT ((w_Model cT a u)) A t) A) ([.ref (a 0)] : List Value).toArray s 0 0 A) (F0 m 83 ls []) := by
        intro n_16
        induction n_16 with
        | zero =>
          intro y_14 M_15 hv
          exact hv.elim
        | succ n_16 L_11_ih =>
          intro y_14 M_15 hv H locs hP hD hS ls hl
          refine lv_iload_n hx hb dX9_goesOn_83 rfl (lv_at hl 0 rfl) ?_
          refine lv_bipush (v := 10) hx hb dX9_goesOn_84 (by decide) ?_
          refine lv_icmp_ge (tgt := 113) hx hb dX9_goesOn_86 (by decide) (fun c_17 => ?_) (fun c_17 => ?_)
          · have hv := hv.1 c_17
            exact K_L_11 _ _ hv H locs hP hD hS ls (lv_sub hl [0, 1] rfl)
          · have hv := hv.2 c_17
            refine lv_aload_n hx hb dX9_goesOn_89 rfl (lv_at hl 1 rfl) ?_
            refine va_get (D := D) (ci := 9) (v := .ref (a 1)) (C := RX9) (T := TX9) (N := 2) hx hb hts in_X9 hown hK hP 0 rfl rfl 0 (by decide) k_7 (fun _ h9 => h9) rfl dX9_goesOn_90 ?_
            refine lv_iconst (v := 0) hx hb dX9_goesOn_93 (by decide) ?_
            refine lv_iload_n hx hb dX9_goesOn_94 rfl (lv_at hl 0 rfl) ?_
            refine lv_iadd hx hb dX9_goesOn_95 ?_
            refine lv_aload_n hx hb dX9_goesOn_96 rfl (lv_at hl 1 rfl) ?_
            refine va_get (D := D) (ci := 9) (v := .ref (a 1)) (C := RX9) (T := TX9) (N := 2) hx hb hts in_X9 hown hK hP 0 rfl rfl 0 (by decide) k_7 (fun _ h9 => h9) rfl dX9_goesOn_97 ?_
            refine lv_sipush (v := 5870) hx hb dX9_goesOn_100 (by decide) ?_
            refine lv_iload_n hx hb dX9_goesOn_103 rfl (lv_at hl 0 rfl) ?_
            refine lv_iadd hx hb dX9_goesOn_104 ?_
            obtain ⟨k_18, hk_18, ik_18, hv⟩ := hv
            refine x_ald hx hb hK hP 1 0 rfl rfl k_18 ik_18 hk_18 (by decide) dX9_goesOn_105 ?_
            obtain ⟨k_19, hk_19, ik_19, hv⟩ := hv
            refine x_ast hx hb hK hP hD hS 1 0 rfl rfl k_19 ik_19 hk_19 (by decide) dX9_goesOn_106 (fun H locs hP hD hS => ?_)
            obtain ⟨M_20, eM_20⟩ : ∃ z : ST, z = x_st M_15 1 k_19 (M_15 1 k_18) := ⟨_, rfl⟩
            have hP : va_P D vwCl ((w_Model cT a M_20)) H := by rw [eM_20]; exact hP
            have hD : va_D A ((w_Model cT a M_20)) := by rw [eM_20]; exact hD
            have hv := hv M_20 eM_20
            obtain ⟨x_21, ex_21⟩ : ∃ z : Int32, z = y_14 + 1 := ⟨_, rfl⟩
            have hv := hv x_21 ex_21
            refine lv_iinc (v := x_21) (lv' := [(1, .int x_21), (0, .ref (a 0))]) hx hb dX9_goesOn_107 hl (k := 0) rfl (by rw [ex_21]; rfl) (by decide) rfl (fun ls hl => ?_)
            refine lv_goto (tgt := 83) hx hb dX9_goesOn_110 (by decide) ?_
            exact L_11_ih _ _ hv H locs hP hD hS ls (lv_sub hl [0, 1] rfl)
      exact L_11 n_22 _ _ hv _ _ hP hD hS ls hl
    · have hv := hv.2 c_7
      exact W.vret hx hb hr (fun t ht hW => ⟨⟨M_5, rfl, hv, by rw [ht]; exact hP, va_K.moved hW.alike hK, hD⟩, hS.F ht⟩) hS.2.2 dX9_goesOn_61
  · have hv := hv.2 c_3
    exact W.vret hx hb hr (fun t ht hW => ⟨⟨M_1, rfl, hv, by rw [ht]; exact hP, va_K.moved hW.alike hK, hD⟩, hS.F ht⟩) hS.2.2 dX9_goesOn_26
def lp_X9_aTick_2  (post : ST → Prop) (K_ : Int32 → ST → Prop) : Nat → Int32 → ST → Prop
  | 0, _, _ => False
  | n_46 + 1, y_44, M_45 => ((((M_45 1 36) ≤ y_44) → K_ y_44 M_45) ∧ ((¬ ((M_45 1 36) ≤ y_44)) → ∀ x_48 : Int32, x_48 = (60 + (4 * y_44)) → ∃ k_49 : Nat, k_49 < 23520 ∧ x_48 = nI k_49 ∧ (((¬ ((M_45 1 k_49) = (M_45 1 21))) → ∀ x_51 : Int32, x_51 = y_44 + 1 → lp_X9_aTick_2  post K_ n_46 x_51 M_45) ∧ (((M_45 1 k_49) = (M_45 1 21)) → ∃ k_52 : Nat, k_52 < 23520 ∧ (x_48 + 1) = nI k_52 ∧ (((¬ ((M_45 1 k_52) = (M_45 1 20))) → ∀ x_54 : Int32, x_54 = y_44 + 1 → lp_X9_aTick_2  post K_ n_46 x_54 M_45) ∧ (((M_45 1 k_52) = (M_45 1 20)) → ∃ k_55 : Nat, k_55 < 23520 ∧ (x_48 + 2) = nI k_55 ∧ ∃ k_56 : Nat, k_56 < 23520 ∧ (x_48 + 3) = nI k_56 ∧ ∃ k_57 : Nat, k_57 < 23520 ∧ (40 + (M_45 1 k_55)) = nI k_57 ∧ ∀ M_58 : ST, M_58 = x_st M_45 1 k_57 (M_45 1 k_56) → ∀ x_59 : Int32, x_59 = y_44 + 1 → lp_X9_aTick_2  post K_ n_46 x_59 M_58))))))
def v_X9_aTick (M : ST) (post : ST → Prop) : Prop := (∃ n_60 : Nat, lp_X9_aTick_2  post (fun (y_2 : Int32) (M_3 : ST) => (((¬ ((M_3 1 20) = (M_3 1 0))) → v_X9_fetches M_3 (fun (u_5 : ST) => ((((u_5 1 0) ≤ (u_5 1 20)) → v_X9_signalsNow u_5 (fun r_7 => ∃ k_8 : Nat, k_8 < 23520 ∧ (220 + ((u_5 1 23) - (u_5 1 23) / 512 * 512)) = nI k_8 ∧ ∀ M_9 : ST, M_9 = x_st u_5 1 k_8 r_7 → v_X9_goesOn M_9 (fun (u_10 : ST) => ∀ M_11 : ST, M_11 = x_st u_10 1 23 ((u_10 1 23) + 1) → post M_11))) ∧ ((¬ ((u_5 1 0) ≤ (u_5 1 20))) → ((((u_5 1 4) ≤ (u_5 1 21)) → v_X9_signalsNow u_5 (fun r_13 => ∃ k_14 : Nat, k_14 < 23520 ∧ (220 + ((u_5 1 23) - (u_5 1 23) / 512 * 512)) = nI k_14 ∧ ∀ M_15 : ST, M_15 = x_st u_5 1 k_14 r_13 → v_X9_goesOn M_15 (fun (u_16 : ST) => ∀ M_17 : ST, M_17 = x_st u_16 1 23 ((u_16 1 23) + 1) → post M_17))) ∧ ((¬ ((u_5 1 4) ≤ (u_5 1 21))) → v_X9_dots u_5 (fun (u_18 : ST) => v_X9_signalsNow u_18 (fun r_19 => ∃ k_20 : Nat, k_20 < 23520 ∧ (220 + ((u_18 1 23) - (u_18 1 23) / 512 * 512)) = nI k_20 ∧ ∀ M_21 : ST, M_21 = x_st u_18 1 k_20 r_19 → v_X9_goesOn M_21 (fun (u_22 : ST) => ∀ M_23 : ST, M_23 = x_st u_22 1 23 ((u_22 1 23) + 1) → post M_23))))))))) ∧ (((M_3 1 20) = (M_3 1 0)) → v_X9_begins M_3 (fun (u_24 : ST) => v_X9_fetches u_24 (fun (u_25 : ST) => ((((u_25 1 0) ≤ (u_25 1 20)) → v_X9_signalsNow u_25 (fun r_27 => ∃ k_28 : Nat, k_28 < 23520 ∧ (220 + ((u_25 1 23) - (u_25 1 23) / 512 * 512)) = nI k_28 ∧ ∀ M_29 : ST, M_29 = x_st u_25 1 k_28 r_27 → v_X9_goesOn M_29 (fun (u_30 : ST) => ∀ M_31 : ST, M_31 = x_st u_30 1 23 ((u_30 1 23) + 1) → post M_31))) ∧ ((¬ ((u_25 1 0) ≤ (u_25 1 20))) → ((((u_25 1 4) ≤ (u_25 1 21)) → v_X9_signalsNow u_25 (fun r_33 => ∃ k_34 : Nat, k_34 < 23520 ∧ (220 + ((u_25 1 23) - (u_25 1 23) / 512 * 512)) = nI k_34 ∧ ∀ M_35 : ST, M_35 = x_st u_25 1 k_34 r_33 → v_X9_goesOn M_35 (fun (u_36 : ST) => ∀ M_37 : ST, M_37 = x_st u_36 1 23 ((u_36 1 23) + 1) → post M_37))) ∧ ((¬ ((u_25 1 4) ≤ (u_25 1 21))) → v_X9_dots u_25 (fun (u_38 : ST) => v_X9_signalsNow u_38 (fun r_39 => ∃ k_40 : Nat, k_40 < 23520 ∧ (220 + ((u_38 1 23) - (u_38 1 23) / 512 * 512)) = nI k_40 ∧ ∀ M_41 : ST, M_41 = x_st u_38 1 k_40 r_39 → v_X9_goesOn M_41 (fun (u_42 : ST) => ∀ M_43 : ST, M_43 = x_st u_42 1 23 ((u_42 1 23) + 1) → post M_43)))))))))))) n_60 0 M)
set_option maxHeartbeats 4000000 in
set_option maxRecDepth 100000 in
theorem c_X9_aTick (l : Launch) (D : va_G) (cT : Nat → ClassId) (a : Nat → Nat) (M : ST) (sz : Nat) (post : ST → Prop) (hv : v_X9_aTick M post) : Met l yX9_aTick wsX9_aTick ({ frames := 3, cells := 0, slots := 0, locals := 74 }) (va_Pc [.ref (a 0)] (x_U D cT ((w_Model cT a M)) sz)) (va_Qv post (fun u t => x_B D cT ((w_Model cT a u)) (va_A ((w_Model cT a M)) sz) t) (va_A ((w_Model cT a M)) sz)) 0 0 (va_A ((w_Model cT a M)) sz) := by
  refine Met.ofW (cc := cX9_aTick) (maxL := 3) (ret := none) (by decide) rfl ?_
  intro p e s m args below meth c s₁ B hml hpre
  obtain ⟨rfl, hsz, hP, hK, hD0, hN⟩ := hpre
  have hx := B.exec
  have hb := B.bytes
  have hr := B.returns
  have hts := atoms_spec (ws := wsX9_aTick) B.pre
  have hown : s.vm.findClass RX9 = some m.cls := findClass_of_methodNamed B.named
  have hlocks := B.notSynchronized
  subst hsz
  have hD := hD0.self (sz := s.heap.size)
  generalize hAe : va_A ((w_Model cT a M)) s.heap.size = A at hD hN ⊢
  have hA : ∀ q : Nat, s.heap.size ≤ q → A q := fun q h => by rw [← hAe]; exact Or.inr h
  have hS : va_S A s.heap s.heap [] := va_S.rf
  have hl := lv_entry ([.ref (a 0)]) (n := 3) (Nat.le_of_ble_eq_true rfl)
  rw [lg_entry_eq]
  generalize (lg_sl ([.ref (a 0)]) ++ List.replicate (3 - (lg_sl ([.ref (a 0)])).length) Slot.unset).toArray = ls at hl ⊢
  have hl : lv_has ls 3 [(0, .ref (a 0))] := hl
  have in_X9 : ∀ w ∈ wsX90, w ∈ wsX9_aTick := by decide +kernel
  have k_7 : (Cond.fieldLink RX9 7 "PictureBeatsModel" "all" "[I").before ([.ref (a 0)] : List Value).toArray s = true := hts _ (by decide +kernel)
  have w_59 : CallW (headSpec wsX9_aTick ({ frames := 3, cells := 0, slots := 0, locals := 74 })).room s ([.ref (a 0)] : List Value).toArray RX9 RX9 59 yX9_fetches cX9_fetches 2 none wsX9_fetches ({ frames := 1, cells := 0, slots := 0, locals := 20 } : Room) 0 0 0 := cwV 0 hts gX9_aTick_X9_fetches rfl rfl rfl (by decide +kernel) ⟨Nat.le_of_ble_eq_true rfl, Nat.le_of_ble_eq_true rfl⟩
  have w_65 : CallW (headSpec wsX9_aTick ({ frames := 3, cells := 0, slots := 0, locals := 74 })).room s ([.ref (a 0)] : List Value).toArray RX9 RX9 65 yX9_signalsNow cX9_signalsNow 4 (some .int) wsX9_signalsNow ({ frames := 1, cells := 0, slots := 0, locals := 22 } : Room) 0 0 0 := cwV 0 hts gX9_aTick_X9_signalsNow rfl rfl rfl (by decide +kernel) ⟨Nat.le_of_ble_eq_true rfl, Nat.le_of_ble_eq_true rfl⟩
  have w_68 : CallW (headSpec wsX9_aTick ({ frames := 3, cells := 0, slots := 0, locals := 74 })).room s ([.ref (a 0)] : List Value).toArray RX9 RX9 68 yX9_goesOn cX9_goesOn 2 none wsX9_goesOn ({ frames := 1, cells := 0, slots := 0, locals := 21 } : Room) 0 0 0 := cwV 0 hts gX9_aTick_X9_goesOn rfl rfl rfl (by decide +kernel) ⟨Nat.le_of_ble_eq_true rfl, Nat.le_of_ble_eq_true rfl⟩
  have w_62 : CallW (headSpec wsX9_aTick ({ frames := 3, cells := 0, slots := 0, locals := 74 })).room s ([.ref (a 0)] : List Value).toArray RX9 RX9 62 yX9_dots cX9_dots 8 none wsX9_dots ({ frames := 2, cells := 0, slots := 0, locals := 47 } : Room) 0 0 0 := cwV 0 hts gX9_aTick_X9_dots rfl rfl rfl (by decide +kernel) ⟨Nat.le_of_ble_eq_true rfl, Nat.le_of_ble_eq_true rfl⟩
  have w_56 : CallW (headSpec wsX9_aTick ({ frames := 3, cells := 0, slots := 0, locals := 74 })).room s ([.ref (a 0)] : List Value).toArray RX9 RX9 56 yX9_begins cX9_begins 4 none wsX9_begins ({ frames := 1, cells := 0, slots := 0, locals := 22 } : Room) 0 0 0 := cwV 0 hts gX9_aTick_X9_begins rfl rfl rfl (by decide +kernel) ⟨Nat.le_of_ble_eq_true rfl, Nat.le_of_ble_eq_true rfl⟩
  refine lv_iconst (v := 0) hx hb dX9_aTick_0 (by decide) ?_
  refine lv_istore_n (lv' := [(1, .int 0), (0, .ref (a 0))]) hx hb dX9_aTick_1 rfl hl (by decide) rfl (fun ls hl => ?_)
  obtain ⟨n_60, hv⟩ := hv
  have K_L_1 : ∀ (y_2 : Int32) (M_3 : ST), (((¬ ((M_3 1 20) = (M_3 1 0))) → v_X9_fetches M_3 (fun (u_5 : ST) => ((((u_5 1 0) ≤ (u_5 1 20)) → v_X9_signalsNow u_5 (fun r_7 => ∃ k_8 : Nat, k_8 < 23520 ∧ (220 + ((u_5 1 23) - (u_5 1 23) / 512 * 512)) = nI k_8 ∧ ∀ M_9 : ST, M_9 = x_st u_5 1 k_8 r_7 → v_X9_goesOn M_9 (fun (u_10 : ST) => ∀ M_11 : ST, M_11 = x_st u_10 1 23 ((u_10 1 23) + 1) → post M_11))) ∧ ((¬ ((u_5 1 0) ≤ (u_5 1 20))) → ((((u_5 1 4) ≤ (u_5 1 21)) → v_X9_signalsNow u_5 (fun r_13 => ∃ k_14 : Nat, k_14 < 23520 ∧ (220 + ((u_5 1 23) - (u_5 1 23) / 512 * 512)) = nI k_14 ∧ ∀ M_15 : ST, M_15 = x_st u_5 1 k_14 r_13 → v_X9_goesOn M_15 (fun (u_16 : ST) => ∀ M_17 : ST, M_17 = x_st u_16 1 23 ((u_16 1 23) + 1) → post M_17))) ∧ ((¬ ((u_5 1 4) ≤ (u_5 1 21))) → v_X9_dots u_5 (fun (u_18 : ST) => v_X9_signalsNow u_18 (fun r_19 => ∃ k_20 : Nat, k_20 < 23520 ∧ (220 + ((u_18 1 23) - (u_18 1 23) / 512 * 512)) = nI k_20 ∧ ∀ M_21 : ST, M_21 = x_st u_18 1 k_20 r_19 → v_X9_goesOn M_21 (fun (u_22 : ST) => ∀ M_23 : ST, M_23 = x_st u_22 1 23 ((u_22 1 23) + 1) → post M_23))))))))) ∧ (((M_3 1 20) = (M_3 1 0)) → v_X9_begins M_3 (fun (u_24 : ST) => v_X9_fetches u_24 (fun (u_25 : ST) => ((((u_25 1 0) ≤ (u_25 1 20)) → v_X9_signalsNow u_25 (fun r_27 => ∃ k_28 : Nat, k_28 < 23520 ∧ (220 + ((u_25 1 23) - (u_25 1 23) / 512 * 512)) = nI k_28 ∧ ∀ M_29 : ST, M_29 = x_st u_25 1 k_28 r_27 → v_X9_goesOn M_29 (fun (u_30 : ST) => ∀ M_31 : ST, M_31 = x_st u_30 1 23 ((u_30 1 23) + 1) → post M_31))) ∧ ((¬ ((u_25 1 0) ≤ (u_25 1 20))) → ((((u_25 1 4) ≤ (u_25 1 21)) → v_X9_signalsNow u_25 (fun r_33 => ∃ k_34 : Nat, k_34 < 23520 ∧ (220 + ((u_25 1 23) - (u_25 1 23) / 512 * 512)) = nI k_34 ∧ ∀ M_35 : ST, M_35 = x_st u_25 1 k_34 r_33 → v_X9_goesOn M_35 (fun (u_36 : ST) => ∀ M_37 : ST, M_37 = x_st u_36 1 23 ((u_36 1 23) + 1) → post M_37))) ∧ ((¬ ((u_25 1 4) ≤ (u_25 1 21))) → v_X9_dots u_25 (fun (u_38 : ST) => v_X9_signalsNow u_38 (fun r_39 => ∃ k_40 : Nat, k_40 < 23520 ∧ (220 + ((u_38 1 23) - (u_38 1 23) / 512 * 512)) = nI k_40 ∧ ∀ M_41 : ST, M_41 = x_st u_38 1 k_40 r_39 → v_X9_goesOn M_41 (fun (u_42 : ST) => ∀ M_43 : ST, M_43 = x_st u_42 1 23 ((u_42 1 23) + 1) → post M_43))))))))))) → ∀ (H : Heap) (locs : List Loc), va_P D vwCl ((w_Model cT a M_3)) H → va_D A ((w_Model cT a M_3)) → va_S A s.heap H locs → ∀ ls : Array Slot, lv_has ls 3 [(1, .int y_2), (0, .ref (a 0))] → W p l e (headSpec wsX9_aTick ({ frames := 3, cells := 0, slots := 0, locals := 74 })).room s m ([.ref (a 0)] : List Value).toArray below meth c H locs 0 0 (MQ below (va_Qv post (fun u t => x_B D cT ((w_Model cT a u)) A t) A) ([.ref (a 0)] : List Value).toArray s 0 0 A) (F0 m 84 ls []) := by
    intro y_2 M_3 hv H locs hP hD hS ls hl
    refine lv_aload_n hx hb dX9_aTick_84 rfl (lv_at hl 1 rfl) ?_
    refine va_get (D := D) (ci := 9) (v := .ref (a 1)) (C := RX9) (T := TX9) (N := 2) hx hb hts in_X9 hown hK hP 0 rfl rfl 0 (by decide) k_7 (fun _ h9 => h9) rfl dX9_aTick_85 ?_
    refine lv_bipush (v := 20) hx hb dX9_aTick_88 (by decide) ?_
    refine x_ald hx hb hK hP 1 0 rfl rfl 20 rfl (by decide) (by decide) dX9_aTick_90 ?_
    refine lv_aload_n hx hb dX9_aTick_91 rfl (lv_at hl 1 rfl) ?_
    refine va_get (D := D) (ci := 9) (v := .ref (a 1)) (C := RX9) (T := TX9) (N := 2) hx hb hts in_X9 hown hK hP 0 rfl rfl 0 (by decide) k_7 (fun _ h9 => h9) rfl dX9_aTick_92 ?_
    refine lv_iconst (v := 0) hx hb dX9_aTick_95 (by decide) ?_
    refine x_ald hx hb hK hP 1 0 rfl rfl 0 rfl (by decide) (by decide) dX9_aTick_96 ?_
    refine lv_icmp_ne (tgt := 104) hx hb dX9_aTick_97 (by decide) (fun c_4 => ?_) (fun c_4 => ?_)
    · have hv := hv.1 c_4
      refine lv_aload_n hx hb dX9_aTick_104 rfl (lv_at hl 1 rfl) ?_
      refine x_cVv (As := []) (rest := []) (wn := fun u_5 => (w_Model cT a u_5)) ⟨hx, hb, hml, hown, hts⟩ (c_X9_fetches l D cT a M_3 _ _ hv) w_59 hK hP hD hS hA hN [0, 1, 2] [] [0, 1, 2] rfl rfl (fun _ => rfl) (by decide) (by decide) (by decide) (by decide) 9 0 rfl rfl rfl hl.1 rfl (Nat.le_of_ble_eq_true rfl) dX9_aTick_105 ⟨Nat.le_of_ble_eq_true rfl, Nat.le_of_ble_eq_true rfl⟩ (fun u_5 H locs hv hP hD hS => ?_)
      refine lv_aload_n hx hb dX9_aTick_108 rfl (lv_at hl 1 rfl) ?_
      refine va_get (D := D) (ci := 9) (v := .ref (a 1)) (C := RX9) (T := TX9) (N := 2) hx hb hts in_X9 hown hK hP 0 rfl rfl 0 (by decide) k_7 (fun _ h9 => h9) rfl dX9_aTick_109 ?_
      refine lv_bipush (v := 20) hx hb dX9_aTick_112 (by decide) ?_
      refine x_ald hx hb hK hP 1 0 rfl rfl 20 rfl (by decide) (by decide) dX9_aTick_114 ?_
      refine lv_aload_n hx hb dX9_aTick_115 rfl (lv_at hl 1 rfl) ?_
      refine va_get (D := D) (ci := 9) (v := .ref (a 1)) (C := RX9) (T := TX9) (N := 2) hx hb hts in_X9 hown hK hP 0 rfl rfl 0 (by decide) k_7 (fun _ h9 => h9) rfl dX9_aTick_116 ?_
      refine lv_iconst (v := 0) hx hb dX9_aTick_119 (by decide) ?_
      refine x_ald hx hb hK hP 1 0 rfl rfl 0 rfl (by decide) (by decide) dX9_aTick_120 ?_
      refine lv_icmp_ge (tgt := 144) hx hb dX9_aTick_121 (by decide) (fun c_6 => ?_) (fun c_6 => ?_)
      · have hv := hv.1 c_6
        refine lv_aload_n hx hb dX9_aTick_144 rfl (lv_at hl 1 rfl) ?_
        refine va_get (D := D) (ci := 9) (v := .ref (a 1)) (C := RX9) (T := TX9) (N := 2) hx hb hts in_X9 hown hK hP 0 rfl rfl 0 (by decide) k_7 (fun _ h9 => h9) rfl dX9_aTick_145 ?_
        refine lv_sipush (v := 220) hx hb dX9_aTick_148 (by decide) ?_
        refine lv_aload_n hx hb dX9_aTick_151 rfl (lv_at hl 1 rfl) ?_
        refine va_get (D := D) (ci := 9) (v := .ref (a 1)) (C := RX9) (T := TX9) (N := 2) hx hb hts in_X9 hown hK hP 0 rfl rfl 0 (by decide) k_7 (fun _ h9 => h9) rfl dX9_aTick_152 ?_
        refine lv_bipush (v := 23) hx hb dX9_aTick_155 (by decide) ?_
        refine x_ald hx hb hK hP 1 0 rfl rfl 23 rfl (by decide) (by decide) dX9_aTick_157 ?_
        refine lv_sipush (v := 512) hx hb dX9_aTick_158 (by decide) ?_
        refine lv_irem hx hb dX9_aTick_161 (by decide) ?_
        refine lv_iadd hx hb dX9_aTick_162 ?_
        refine lv_aload_n hx hb dX9_aTick_163 rfl (lv_at hl 1 rfl) ?_
        refine x_rV (As := []) (rest := [.int (220 + ((u_5 1 23) - (u_5 1 23) / 512 * 512)), .ref (a 1)]) ⟨hx, hb, hml, hown, hts⟩ (c_X9_signalsNow l D cT a u_5 _ hv) w_65 hK hP hS hN [0, 1, 2] rfl 9 0 rfl rfl rfl hl.1 rfl (Nat.le_of_ble_eq_true rfl) dX9_aTick_164 ⟨Nat.le_of_ble_eq_true rfl, Nat.le_of_ble_eq_true rfl⟩ (fun r_7 hv => ?_)
        obtain ⟨k_8, hk_8, ik_8, hv⟩ := hv
        refine x_ast hx hb hK hP hD hS 1 0 rfl rfl k_8 ik_8 hk_8 (by decide) dX9_aTick_167 (fun H locs hP hD hS => ?_)
        obtain ⟨M_9, eM_9⟩ : ∃ z : ST, z = x_st u_5 1 k_8 r_7 := ⟨_, rfl⟩
        have hP : va_P D vwCl ((w_Model cT a M_9)) H := by rw [eM_9]; exact hP
        have hD : va_D A ((w_Model cT a M_9)) := by rw [eM_9]; exact hD
        have hv := hv M_9 eM_9
        refine lv_aload_n hx hb dX9_aTick_168 rfl (lv_at hl 1 rfl) ?_
        refine x_cVv (As := []) (rest := []) (wn := fun u_10 => (w_Model cT a u_10)) ⟨hx, hb, hml, hown, hts⟩ (c_X9_goesOn l D cT a M_9 _ _ hv) w_68 hK hP hD hS hA hN [0, 1, 2] [] [0, 1, 2] rfl rfl (fun _ => rfl) (by decide) (by decide) (by decide) (by decide) 9 0 rfl rfl rfl hl.1 rfl (Nat.le_of_ble_eq_true rfl) dX9_aTick_169 ⟨Nat.le_of_ble_eq_true rfl, Nat.le_of_ble_eq_true rfl⟩ (fun u_10 H locs hv hP hD hS => ?_)
        refine lv_aload_n hx hb dX9_aTick_172 rfl (lv_at hl 1 rfl) ?_
        refine va_get (D := D) (ci := 9) (v := .ref (a 1)) (C := RX9) (T := TX9) (N := 2) hx hb hts in_X9 hown hK hP 0 rfl rfl 0 (by decide) k_7 (fun _ h9 => h9) rfl dX9_aTick_173 ?_
        refine lv_bipush (v := 23) hx hb dX9_aTick_176 (by decide) ?_
        refine lv_dup2_11 hx hb dX9_aTick_178 rfl rfl ?_
        refine x_ald hx hb hK hP 1 0 rfl rfl 23 rfl (by decide) (by decide) dX9_aTick_179 ?_
        refine lv_iconst (v := 1) hx hb dX9_aTick_180 (by decide) ?_
        refine lv_iadd hx hb dX9_aTick_181 ?_
        refine x_ast hx hb hK hP hD hS 1 0 rfl rfl 23 rfl (by decide) (by decide) dX9_aTick_182 (fun H locs hP hD hS => ?_)
        obtain ⟨M_11, eM_11⟩ : ∃ z : ST, z = x_st u_10 1 23 ((u_10 1 23) + 1) := ⟨_, rfl⟩
        have hP : va_P D vwCl ((w_Model cT a M_11)) H := by rw [eM_11]; exact hP
        have hD : va_D A ((w_Model cT a M_11)) := by rw [eM_11]; exact hD
        have hv := hv M_11 eM_11
        exact W.vret hx hb hr (fun t ht hW => ⟨⟨M_11, rfl, hv, by rw [ht]; exact hP, va_K.moved hW.alike hK, hD⟩, hS.F ht⟩) hS.2.2 dX9_aTick_183
      · have hv := hv.2 c_6
        refine lv_aload_n hx hb dX9_aTick_124 rfl (lv_at hl 1 rfl) ?_
        refine va_get (D := D) (ci := 9) (v := .ref (a 1)) (C := RX9) (T := TX9) (N := 2) hx hb hts in_X9 hown hK hP 0 rfl rfl 0 (by decide) k_7 (fun _ h9 => h9) rfl dX9_aTick_125 ?_
        refine lv_bipush (v := 21) hx hb dX9_aTick_128 (by decide) ?_
        refine x_ald hx hb hK hP 1 0 rfl rfl 21 rfl (by decide) (by decide) dX9_aTick_130 ?_
        refine lv_aload_n hx hb dX9_aTick_131 rfl (lv_at hl 1 rfl) ?_
        refine va_get (D := D) (ci := 9) (v := .ref (a 1)) (C := RX9) (T := TX9) (N := 2) hx hb hts in_X9 hown hK hP 0 rfl rfl 0 (by decide) k_7 (fun _ h9 => h9) rfl dX9_aTick_132 ?_
        refine lv_iconst (v := 4) hx hb dX9_aTick_135 (by decide) ?_
        refine x_ald hx hb hK hP 1 0 rfl rfl 4 rfl (by decide) (by decide) dX9_aTick_136 ?_
        refine lv_icmp_ge (tgt := 144) hx hb dX9_aTick_137 (by decide) (fun c_12 => ?_) (fun c_12 => ?_)
        · have hv := hv.1 c_12
          refine lv_aload_n hx hb dX9_aTick_144 rfl (lv_at hl 1 rfl) ?_
          refine va_get (D := D) (ci := 9) (v := .ref (a 1)) (C := RX9) (T := TX9) (N := 2) hx hb hts in_X9 hown hK hP 0 rfl rfl 0 (by decide) k_7 (fun _ h9 => h9) rfl dX9_aTick_145 ?_
          refine lv_sipush (v := 220) hx hb dX9_aTick_148 (by decide) ?_
          refine lv_aload_n hx hb dX9_aTick_151 rfl (lv_at hl 1 rfl) ?_
          refine va_get (D := D) (ci := 9) (v := .ref (a 1)) (C := RX9) (T := TX9) (N := 2) hx hb hts in_X9 hown hK hP 0 rfl rfl 0 (by decide) k_7 (fun _ h9 => h9) rfl dX9_aTick_152 ?_
          refine lv_bipush (v := 23) hx hb dX9_aTick_155 (by decide) ?_
          refine x_ald hx hb hK hP 1 0 rfl rfl 23 rfl (by decide) (by decide) dX9_aTick_157 ?_
          refine lv_sipush (v := 512) hx hb dX9_aTick_158 (by decide) ?_
          refine lv_irem hx hb dX9_aTick_161 (by decide) ?_
          refine lv_iadd hx hb dX9_aTick_162 ?_
          refine lv_aload_n hx hb dX9_aTick_163 rfl (lv_at hl 1 rfl) ?_
          refine x_rV (As := []) (rest := [.int (220 + ((u_5 1 23) - (u_5 1 23) / 512 * 512)), .ref (a 1)]) ⟨hx, hb, hml, hown, hts⟩ (c_X9_signalsNow l D cT a u_5 _ hv) w_65 hK hP hS hN [0, 1, 2] rfl 9 0 rfl rfl rfl hl.1 rfl (Nat.le_of_ble_eq_true rfl) dX9_aTick_164 ⟨Nat.le_of_ble_eq_true rfl, Nat.le_of_ble_eq_true rfl⟩ (fun r_13 hv => ?_)
          obtain ⟨k_14, hk_14, ik_14, hv⟩ := hv
          refine x_ast hx hb hK hP hD hS 1 0 rfl rfl k_14 ik_14 hk_14 (by decide) dX9_aTick_167 (fun H locs hP hD hS => ?_)
          obtain ⟨M_15, eM_15⟩ : ∃ z : ST, z = x_st u_5 1 k_14 r_13 := ⟨_, rfl⟩
          have hP : va_P D vwCl ((w_Model cT a M_15)) H := by rw [eM_15]; exact hP
          have hD : va_D A ((w_Model cT a M_15)) := by rw [eM_15]; exact hD
          have hv := hv M_15 eM_15
          refine lv_aload_n hx hb dX9_aTick_168 rfl (lv_at hl 1 rfl) ?_
          refine x_cVv (As := []) (rest := []) (wn := fun u_16 => (w_Model cT a u_16)) ⟨hx, hb, hml, hown, hts⟩ (c_X9_goesOn l D cT a M_15 _ _ hv) w_68 hK hP hD hS hA hN [0, 1, 2] [] [0, 1, 2] rfl rfl (fun _ => rfl) (by decide) (by decide) (by decide) (by decide) 9 0 rfl rfl rfl hl.1 rfl (Nat.le_of_ble_eq_true rfl) dX9_aTick_169 ⟨Nat.le_of_ble_eq_true rfl, Nat.le_of_ble_eq_true rfl⟩ (fun u_16 H locs hv hP hD hS => ?_)
          refine lv_aload_n hx hb dX9_aTick_172 rfl (lv_at hl 1 rfl) ?_
          refine va_get (D := D) (ci := 9) (v := .ref (a 1)) (C := RX9) (T := TX9) (N := 2) hx hb hts in_X9 hown hK hP 0 rfl rfl 0 (by decide) k_7 (fun _ h9 => h9) rfl dX9_aTick_173 ?_
          refine lv_bipush (v := 23) hx hb dX9_aTick_176 (by decide) ?_
          refine lv_dup2_11 hx hb dX9_aTick_178 rfl rfl ?_
          refine x_ald hx hb hK hP 1 0 rfl rfl 23 rfl (by decide) (by decide) dX9_aTick_179 ?_
          refine lv_iconst (v := 1) hx hb dX9_aTick_180 (by decide) ?_
          refine lv_iadd hx hb dX9_aTick_181 ?_
          refine x_ast hx hb hK hP hD hS 1 0 rfl rfl 23 rfl (by decide) (by decide) dX9_aTick_182 (fun H locs hP hD hS => ?_)
          obtain ⟨M_17, eM_17⟩ : ∃ z : ST, z = x_st u_16 1 23 ((u_16 1 23) + 1) := ⟨_, rfl⟩
          have hP : va_P D vwCl ((w_Model cT a M_17)) H := by rw [eM_17]; exact hP
          have hD : va_D A ((w_Model cT a M_17)) := by rw [eM_17]; exact hD
          have hv := hv M_17 eM_17
          exact W.vret hx hb hr (fun t ht hW => ⟨⟨M_17, rfl, hv, by rw [ht]; exact hP, va_K.moved hW.alike hK, hD⟩, hS.F ht⟩) hS.2.2 dX9_aTick_183
        · have hv := hv.2 c_12
          refine lv_aload_n hx hb dX9_aTick_140 rfl (lv_at hl 1 rfl) ?_
          refine x_cVv (As := []) (rest := []) (wn := fun u_18 => (w_Model cT a u_18)) ⟨hx, hb, hml, hown, hts⟩ (c_X9_dots l D cT a u_5 _ _ hv) w_62 hK hP hD hS hA hN [0, 1, 2] [] [0, 1, 2] rfl rfl (fun _ => rfl) (by decide) (by decide) (by decide) (by decide) 9 0 rfl rfl rfl hl.1 rfl (Nat.le_of_ble_eq_true rfl) dX9_aTick_141 ⟨Nat.le_of_ble_eq_true rfl, Nat.le_of_ble_eq_true rfl⟩ (fun u_18 H locs hv hP hD hS => ?_)
          refine lv_aload_n hx hb dX9_aTick_144 rfl (lv_at hl 1 rfl) ?_
          refine va_get (D := D) (ci := 9) (v := .ref (a 1)) (C := RX9) (T := TX9) (N := 2) hx hb hts in_X9 hown hK hP 0 rfl rfl 0 (by decide) k_7 (fun _ h9 => h9) rfl dX9_aTick_145 ?_
          refine lv_sipush (v := 220) hx hb dX9_aTick_148 (by decide) ?_
          refine lv_aload_n hx hb dX9_aTick_151 rfl (lv_at hl 1 rfl) ?_
          refine va_get (D := D) (ci := 9) (v := .ref (a 1)) (C := RX9) (T := TX9) (N := 2) hx hb hts in_X9 hown hK hP 0 rfl rfl 0 (by decide) k_7 (fun _ h9 => h9) rfl dX9_aTick_152 ?_
          refine lv_bipush (v := 23) hx hb dX9_aTick_155 (by decide) ?_
          refine x_ald hx hb hK hP 1 0 rfl rfl 23 rfl (by decide) (by decide) dX9_aTick_157 ?_
          refine lv_sipush (v := 512) hx hb dX9_aTick_158 (by decide) ?_
          refine lv_irem hx hb dX9_aTick_161 (by decide) ?_
          refine lv_iadd hx hb dX9_aTick_162 ?_
          refine lv_aload_n hx hb dX9_aTick_163 rfl (lv_at hl 1 rfl) ?_
          refine x_rV (As := []) (rest := [.int (220 + ((u_18 1 23) - (u_18 1 23) / 512 * 512)), .ref (a 1)]) ⟨hx, hb, hml, hown, hts⟩ (c_X9_signalsNow l D cT a u_18 _ hv) w_65 hK hP hS hN [0, 1, 2] rfl 9 0 rfl rfl rfl hl.1 rfl (Nat.le_of_ble_eq_true rfl) dX9_aTick_164 ⟨Nat.le_of_ble_eq_true rfl, Nat.le_of_ble_eq_true rfl⟩ (fun r_19 hv => ?_)
          obtain ⟨k_20, hk_20, ik_20, hv⟩ := hv
          refine x_ast hx hb hK hP hD hS 1 0 rfl rfl k_20 ik_20 hk_20 (by decide) dX9_aTick_167 (fun H locs hP hD hS => ?_)
          obtain ⟨M_21, eM_21⟩ : ∃ z : ST, z = x_st u_18 1 k_20 r_19 := ⟨_, rfl⟩
          have hP : va_P D vwCl ((w_Model cT a M_21)) H := by rw [eM_21]; exact hP
          have hD : va_D A ((w_Model cT a M_21)) := by rw [eM_21]; exact hD
          have hv := hv M_21 eM_21
          refine lv_aload_n hx hb dX9_aTick_168 rfl (lv_at hl 1 rfl) ?_
          refine x_cVv (As := []) (rest := []) (wn := fun u_22 => (w_Model cT a u_22)) ⟨hx, hb, hml, hown, hts⟩ (c_X9_goesOn l D cT a M_21 _ _ hv) w_68 hK hP hD hS hA hN [0, 1, 2] [] [0, 1, 2] rfl rfl (fun _ => rfl) (by decide) (by decide) (by decide) (by decide) 9 0 rfl rfl rfl hl.1 rfl (Nat.le_of_ble_eq_true rfl) dX9_aTick_169 ⟨Nat.le_of_ble_eq_true rfl, Nat.le_of_ble_eq_true rfl⟩ (fun u_22 H locs hv hP hD hS => ?_)
          refine lv_aload_n hx hb dX9_aTick_172 rfl (lv_at hl 1 rfl) ?_
          refine va_get (D := D) (ci := 9) (v := .ref (a 1)) (C := RX9) (T := TX9) (N := 2) hx hb hts in_X9 hown hK hP 0 rfl rfl 0 (by decide) k_7 (fun _ h9 => h9) rfl dX9_aTick_173 ?_
          refine lv_bipush (v := 23) hx hb dX9_aTick_176 (by decide) ?_
          refine lv_dup2_11 hx hb dX9_aTick_178 rfl rfl ?_
          refine x_ald hx hb hK hP 1 0 rfl rfl 23 rfl (by decide) (by decide) dX9_aTick_179 ?_
          refine lv_iconst (v := 1) hx hb dX9_aTick_180 (by decide) ?_
          refine lv_iadd hx hb dX9_aTick_181 ?_
          refine x_ast hx hb hK hP hD hS 1 0 rfl rfl 23 rfl (by decide) (by decide) dX9_aTick_182 (fun H locs hP hD hS => ?_)
          obtain ⟨M_23, eM_23⟩ : ∃ z : ST, z = x_st u_22 1 23 ((u_22 1 23) + 1) := ⟨_, rfl⟩
          have hP : va_P D vwCl ((w_Model cT a M_23)) H := by rw [eM_23]; exact hP
          have hD : va_D A ((w_Model cT a M_23)) := by rw [eM_23]; exact hD
          have hv := hv M_23 eM_23
          exact W.vret hx hb hr (fun t ht hW => ⟨⟨M_23, rfl, hv, by rw [ht]; exact hP, va_K.moved hW.alike hK, hD⟩, hS.F ht⟩) hS.2.2 dX9_aTick_183
    · have hv := hv.2 c_4
      refine lv_aload_n hx hb dX9_aTick_100 rfl (lv_at hl 1 rfl) ?_
      refine x_cVv (As := []) (rest := []) (wn := fun u_24 => (w_Model cT a u_24)) ⟨hx, hb, hml, hown, hts⟩ (c_X9_begins l D cT a M_3 _ _ hv) w_56 hK hP hD hS hA hN [0, 1, 2] [] [0, 1, 2] rfl rfl (fun _ => rfl) (by decide) (by decide) (by decide) (by decide) 9 0 rfl rfl rfl hl.1 rfl (Nat.le_of_ble_eq_true rfl) dX9_aTick_101 ⟨Nat.le_of_ble_eq_true rfl, Nat.le_of_ble_eq_true rfl⟩ (fun u_24 H locs hv hP hD hS => ?_)
      refine lv_aload_n hx hb dX9_aTick_104 rfl (lv_at hl 1 rfl) ?_
      refine x_cVv (As := []) (rest := []) (wn := fun u_25 => (w_Model cT a u_25)) ⟨hx, hb, hml, hown, hts⟩ (c_X9_fetches l D cT a u_24 _ _ hv) w_59 hK hP hD hS hA hN [0, 1, 2] [] [0, 1, 2] rfl rfl (fun _ => rfl) (by decide) (by decide) (by decide) (by decide) 9 0 rfl rfl rfl hl.1 rfl (Nat.le_of_ble_eq_true rfl) dX9_aTick_105 ⟨Nat.le_of_ble_eq_true rfl, Nat.le_of_ble_eq_true rfl⟩ (fun u_25 H locs hv hP hD hS => ?_)
      refine lv_aload_n hx hb dX9_aTick_108 rfl (lv_at hl 1 rfl) ?_
      refine va_get (D := D) (ci := 9) (v := .ref (a 1)) (C := RX9) (T := TX9) (N := 2) hx hb hts in_X9 hown hK hP 0 rfl rfl 0 (by decide) k_7 (fun _ h9 => h9) rfl dX9_aTick_109 ?_
      refine lv_bipush (v := 20) hx hb dX9_aTick_112 (by decide) ?_
      refine x_ald hx hb hK hP 1 0 rfl rfl 20 rfl (by decide) (by decide) dX9_aTick_114 ?_
      refine lv_aload_n hx hb dX9_aTick_115 rfl (lv_at hl 1 rfl) ?_
      refine va_get (D := D) (ci := 9) (v := .ref (a 1)) (C := RX9) (T := TX9) (N := 2) hx hb hts in_X9 hown hK hP 0 rfl rfl 0 (by decide) k_7 (fun _ h9 => h9) rfl dX9_aTick_116 ?_
      refine lv_iconst (v := 0) hx hb dX9_aTick_119 (by decide) ?_
      refine x_ald hx hb hK hP 1 0 rfl rfl 0 rfl (by decide) (by decide) dX9_aTick_120 ?_
      refine lv_icmp_ge (tgt := 144) hx hb dX9_aTick_121 (by decide) (fun c_26 => ?_) (fun c_26 => ?_)
      · have hv := hv.1 c_26
        refine lv_aload_n hx hb dX9_aTick_144 rfl (lv_at hl 1 rfl) ?_
        refine va_get (D := D) (ci := 9) (v := .ref (a 1)) (C := RX9) (T := TX9) (N := 2) hx hb hts in_X9 hown hK hP 0 rfl rfl 0 (by decide) k_7 (fun _ h9 => h9) rfl dX9_aTick_145 ?_
        refine lv_sipush (v := 220) hx hb dX9_aTick_148 (by decide) ?_
        refine lv_aload_n hx hb dX9_aTick_151 rfl (lv_at hl 1 rfl) ?_
        refine va_get (D := D) (ci := 9) (v := .ref (a 1)) (C := RX9) (T := TX9) (N := 2) hx hb hts in_X9 hown hK hP 0 rfl rfl 0 (by decide) k_7 (fun _ h9 => h9) rfl dX9_aTick_152 ?_
        refine lv_bipush (v := 23) hx hb dX9_aTick_155 (by decide) ?_
        refine x_ald hx hb hK hP 1 0 rfl rfl 23 rfl (by decide) (by decide) dX9_aTick_157 ?_
        refine lv_sipush (v := 512) hx hb dX9_aTick_158 (by decide) ?_
        refine lv_irem hx hb dX9_aTick_161 (by decide) ?_
        refine lv_iadd hx hb dX9_aTick_162 ?_
        refine lv_aload_n hx hb dX9_aTick_163 rfl (lv_at hl 1 rfl) ?_
        refine x_rV (As := []) (rest := [.int (220 + ((u_25 1 23) - (u_25 1 23) / 512 * 512)), .ref (a 1)]) ⟨hx, hb, hml, hown, hts⟩ (c_X9_signalsNow l D cT a u_25 _ hv) w_65 hK hP hS hN [0, 1, 2] rfl 9 0 rfl rfl rfl hl.1 rfl (Nat.le_of_ble_eq_true rfl) dX9_aTick_164 ⟨Nat.le_of_ble_eq_true rfl, Nat.le_of_ble_eq_true rfl⟩ (fun r_27 hv => ?_)
        obtain ⟨k_28, hk_28, ik_28, hv⟩ := hv
        refine x_ast hx hb hK hP hD hS 1 0 rfl rfl k_28 ik_28 hk_28 (by decide) dX9_aTick_167 (fun H locs hP hD hS => ?_)
        obtain ⟨M_29, eM_29⟩ : ∃ z : ST, z = x_st u_25 1 k_28 r_27 := ⟨_, rfl⟩
        have hP : va_P D vwCl ((w_Model cT a M_29)) H := by rw [eM_29]; exact hP
        have hD : va_D A ((w_Model cT a M_29)) := by rw [eM_29]; exact hD
        have hv := hv M_29 eM_29
        refine lv_aload_n hx hb dX9_aTick_168 rfl (lv_at hl 1 rfl) ?_
        refine x_cVv (As := []) (rest := []) (wn := fun u_30 => (w_Model cT a u_30)) ⟨hx, hb, hml, hown, hts⟩ (c_X9_goesOn l D cT a M_29 _ _ hv) w_68 hK hP hD hS hA hN [0, 1, 2] [] [0, 1, 2] rfl rfl (fun _ => rfl) (by decide) (by decide) (by decide) (by decide) 9 0 rfl rfl rfl hl.1 rfl (Nat.le_of_ble_eq_true rfl) dX9_aTick_169 ⟨Nat.le_of_ble_eq_true rfl, Nat.le_of_ble_eq_true rfl⟩ (fun u_30 H locs hv hP hD hS => ?_)
        refine lv_aload_n hx hb dX9_aTick_172 rfl (lv_at hl 1 rfl) ?_
        refine va_get (D := D) (ci := 9) (v := .ref (a 1)) (C := RX9) (T := TX9) (N := 2) hx hb hts in_X9 hown hK hP 0 rfl rfl 0 (by decide) k_7 (fun _ h9 => h9) rfl dX9_aTick_173 ?_
        refine lv_bipush (v := 23) hx hb dX9_aTick_176 (by decide) ?_
        refine lv_dup2_11 hx hb dX9_aTick_178 rfl rfl ?_
        refine x_ald hx hb hK hP 1 0 rfl rfl 23 rfl (by decide) (by decide) dX9_aTick_179 ?_
        refine lv_iconst (v := 1) hx hb dX9_aTick_180 (by decide) ?_
        refine lv_iadd hx hb dX9_aTick_181 ?_
        refine x_ast hx hb hK hP hD hS 1 0 rfl rfl 23 rfl (by decide) (by decide) dX9_aTick_182 (fun H locs hP hD hS => ?_)
        obtain ⟨M_31, eM_31⟩ : ∃ z : ST, z = x_st u_30 1 23 ((u_30 1 23) + 1) := ⟨_, rfl⟩
        have hP : va_P D vwCl ((w_Model cT a M_31)) H := by rw [eM_31]; exact hP
        have hD : va_D A ((w_Model cT a M_31)) := by rw [eM_31]; exact hD
        have hv := hv M_31 eM_31
        exact W.vret hx hb hr (fun t ht hW => ⟨⟨M_31, rfl, hv, by rw [ht]; exact hP, va_K.moved hW.alike hK, hD⟩, hS.F ht⟩) hS.2.2 dX9_aTick_183
      · have hv := hv.2 c_26
        refine lv_aload_n hx hb dX9_aTick_124 rfl (lv_at hl 1 rfl) ?_
        refine va_get (D := D) (ci := 9) (v := .ref (a 1)) (C := RX9) (T := TX9) (N := 2) hx hb hts in_X9 hown hK hP 0 rfl rfl 0 (by decide) k_7 (fun _ h9 => h9) rfl dX9_aTick_125 ?_
        refine lv_bipush (v := 21) hx hb dX9_aTick_128 (by decide) ?_
        refine x_ald hx hb hK hP 1 0 rfl rfl 21 rfl (by decide) (by decide) dX9_aTick_130 ?_
        refine lv_aload_n hx hb dX9_aTick_131 rfl (lv_at hl 1 rfl) ?_
        refine va_get (D := D) (ci := 9) (v := .ref (a 1)) (C := RX9) (T := TX9) (N := 2) hx hb hts in_X9 hown hK hP 0 rfl rfl 0 (by decide) k_7 (fun _ h9 => h9) rfl dX9_aTick_132 ?_
        refine lv_iconst (v := 4) hx hb dX9_aTick_135 (by decide) ?_
        refine x_ald hx hb hK hP 1 0 rfl rfl 4 rfl (by decide) (by decide) dX9_aTick_136 ?_
        refine lv_icmp_ge (tgt := 144) hx hb dX9_aTick_137 (by decide) (fun c_32 => ?_) (fun c_32 => ?_)
        · have hv := hv.1 c_32
          refine lv_aload_n hx hb dX9_aTick_144 rfl (lv_at hl 1 rfl) ?_
          refine va_get (D := D) (ci := 9) (v := .ref (a 1)) (C := RX9) (T := TX9) (N := 2) hx hb hts in_X9 hown hK hP 0 rfl rfl 0 (by decide) k_7 (fun _ h9 => h9) rfl dX9_aTick_145 ?_
          refine lv_sipush (v := 220) hx hb dX9_aTick_148 (by decide) ?_
          refine lv_aload_n hx hb dX9_aTick_151 rfl (lv_at hl 1 rfl) ?_
          refine va_get (D := D) (ci := 9) (v := .ref (a 1)) (C := RX9) (T := TX9) (N := 2) hx hb hts in_X9 hown hK hP 0 rfl rfl 0 (by decide) k_7 (fun _ h9 => h9) rfl dX9_aTick_152 ?_
          refine lv_bipush (v := 23) hx hb dX9_aTick_155 (by decide) ?_
          refine x_ald hx hb hK hP 1 0 rfl rfl 23 rfl (by decide) (by decide) dX9_aTick_157 ?_
          refine lv_sipush (v := 512) hx hb dX9_aTick_158 (by decide) ?_
          refine lv_irem hx hb dX9_aTick_161 (by decide) ?_
          refine lv_iadd hx hb dX9_aTick_162 ?_
          refine lv_aload_n hx hb dX9_aTick_163 rfl (lv_at hl 1 rfl) ?_
          refine x_rV (As := []) (rest := [.int (220 + ((u_25 1 23) - (u_25 1 23) / 512 * 512)), .ref (a 1)]) ⟨hx, hb, hml, hown, hts⟩ (c_X9_signalsNow l D cT a u_25 _ hv) w_65 hK hP hS hN [0, 1, 2] rfl 9 0 rfl rfl rfl hl.1 rfl (Nat.le_of_ble_eq_true rfl) dX9_aTick_164 ⟨Nat.le_of_ble_eq_true rfl, Nat.le_of_ble_eq_true rfl⟩ (fun r_33 hv => ?_)
          obtain ⟨k_34, hk_34, ik_34, hv⟩ := hv
          refine x_ast hx hb hK hP hD hS 1 0 rfl rfl k_34 ik_34 hk_34 (by decide) dX9_aTick_167 (fun H locs hP hD hS => ?_)
          obtain ⟨M_35, eM_35⟩ : ∃ z : ST, z = x_st u_25 1 k_34 r_33 := ⟨_, rfl⟩
          have hP : va_P D vwCl ((w_Model cT a M_35)) H := by rw [eM_35]; exact hP
          have hD : va_D A ((w_Model cT a M_35)) := by rw [eM_35]; exact hD
          have hv := hv M_35 eM_35
          refine lv_aload_n hx hb dX9_aTick_168 rfl (lv_at hl 1 rfl) ?_
          refine x_cVv (As := []) (rest := []) (wn := fun u_36 => (w_Model cT a u_36)) ⟨hx, hb, hml, hown, hts⟩ (c_X9_goesOn l D cT a M_35 _ _ hv) w_68 hK hP hD hS hA hN [0, 1, 2] [] [0, 1, 2] rfl rfl (fun _ => rfl) (by decide) (by decide) (by decide) (by decide) 9 0 rfl rfl rfl hl.1 rfl (Nat.le_of_ble_eq_true rfl) dX9_aTick_169 ⟨Nat.le_of_ble_eq_true rfl, Nat.le_of_ble_eq_true rfl⟩ (fun u_36 H locs hv hP hD hS => ?_)
          refine lv_aload_n hx hb dX9_aTick_172 rfl (lv_at hl 1 rfl) ?_
          refine va_get (D := D) (ci := 9) (v := .ref (a 1)) (C := RX9) (T := TX9) (N := 2) hx hb hts in_X9 hown hK hP 0 rfl rfl 0 (by decide) k_7 (fun _ h9 => h9) rfl dX9_aTick_173 ?_
          refine lv_bipush (v := 23) hx hb dX9_aTick_176 (by decide) ?_
          refine lv_dup2_11 hx hb dX9_aTick_178 rfl rfl ?_
          refine x_ald hx hb hK hP 1 0 rfl rfl 23 rfl (by decide) (by decide) dX9_aTick_179 ?_
          refine lv_iconst (v := 1) hx hb dX9_aTick_180 (by decide) ?_
          refine lv_iadd hx hb dX9_aTick_181 ?_
          refine x_ast hx hb hK hP hD hS 1 0 rfl rfl 23 rfl (by decide) (by decide) dX9_aTick_182 (fun H locs hP hD hS => ?_)
          obtain ⟨M_37, eM_37⟩ : ∃ z : ST, z = x_st u_36 1 23 ((u_36 1 23) + 1) := ⟨_, rfl⟩
          have hP : va_P D vwCl ((w_Model cT a M_37)) H := by rw [eM_37]; exact hP
          have hD : va_D A ((w_Model cT a M_37)) := by rw [eM_37]; exact hD
          have hv := hv M_37 eM_37
          exact W.vret hx hb hr (fun t ht hW => ⟨⟨M_37, rfl, hv, by rw [ht]; exact hP, va_K.moved hW.alike hK, hD⟩, hS.F ht⟩) hS.2.2 dX9_aTick_183
        · have hv := hv.2 c_32
          refine lv_aload_n hx hb dX9_aTick_140 rfl (lv_at hl 1 rfl) ?_
          refine x_cVv (As := []) (rest := []) (wn := fun u_38 => (w_Model cT a u_38)) ⟨hx, hb, hml, hown, hts⟩ (c_X9_dots l D cT a u_25 _ _ hv) w_62 hK hP hD hS hA hN [0, 1, 2] [] [0, 1, 2] rfl rfl (fun _ => rfl) (by decide) (by decide) (by decide) (by decide) 9 0 rfl rfl rfl hl.1 rfl (Nat.le_of_ble_eq_true rfl) dX9_aTick_141 ⟨Nat.le_of_ble_eq_true rfl, Nat.le_of_ble_eq_true rfl⟩ (fun u_38 H locs hv hP hD hS => ?_)
          refine lv_aload_n hx hb dX9_aTick_144 rfl (lv_at hl 1 rfl) ?_
          refine va_get (D := D) (ci := 9) (v := .ref (a 1)) (C := RX9) (T := TX9) (N := 2) hx hb hts in_X9 hown hK hP 0 rfl rfl 0 (by decide) k_7 (fun _ h9 => h9) rfl dX9_aTick_145 ?_
          refine lv_sipush (v := 220) hx hb dX9_aTick_148 (by decide) ?_
          refine lv_aload_n hx hb dX9_aTick_151 rfl (lv_at hl 1 rfl) ?_
          refine va_get (D := D) (ci := 9) (v := .ref (a 1)) (C := RX9) (T := TX9) (N := 2) hx hb hts in_X9 hown hK hP 0 rfl rfl 0 (by decide) k_7 (fun _ h9 => h9) rfl dX9_aTick_152 ?_
          refine lv_bipush (v := 23) hx hb dX9_aTick_155 (by decide) ?_
          refine x_ald hx hb hK hP 1 0 rfl rfl 23 rfl (by decide) (by decide) dX9_aTick_157 ?_
          refine lv_sipush (v := 512) hx hb dX9_aTick_158 (by decide) ?_
          refine lv_irem hx hb dX9_aTick_161 (by decide) ?_
          refine lv_iadd hx hb dX9_aTick_162 ?_
          refine lv_aload_n hx hb dX9_aTick_163 rfl (lv_at hl 1 rfl) ?_
          refine x_rV (As := []) (rest := [.int (220 + ((u_38 1 23) - (u_38 1 23) / 512 * 512)), .ref (a 1)]) ⟨hx, hb, hml, hown, hts⟩ (c_X9_signalsNow l D cT a u_38 _ hv) w_65 hK hP hS hN [0, 1, 2] rfl 9 0 rfl rfl rfl hl.1 rfl (Nat.le_of_ble_eq_true rfl) dX9_aTick_164 ⟨Nat.le_of_ble_eq_true rfl, Nat.le_of_ble_eq_true rfl⟩ (fun r_39 hv => ?_)
          obtain ⟨k_40, hk_40, ik_40, hv⟩ := hv
          refine x_ast hx hb hK hP hD hS 1 0 rfl rfl k_40 ik_40 hk_40 (by decide) dX9_aTick_167 (fun H locs hP hD hS => ?_)
          obtain ⟨M_41, eM_41⟩ : ∃ z : ST, z = x_st u_38 1 k_40 r_39 := ⟨_, rfl⟩
          have hP : va_P D vwCl ((w_Model cT a M_41)) H := by rw [eM_41]; exact hP
          have hD : va_D A ((w_Model cT a M_41)) := by rw [eM_41]; exact hD
          have hv := hv M_41 eM_41
          refine lv_aload_n hx hb dX9_aTick_168 rfl (lv_at hl 1 rfl) ?_
          refine x_cVv (As := []) (rest := []) (wn := fun u_42 => (w_Model cT a u_42)) ⟨hx, hb, hml, hown, hts⟩ (c_X9_goesOn l D cT a M_41 _ _ hv) w_68 hK hP hD hS hA hN [0, 1, 2] [] [0, 1, 2] rfl rfl (fun _ => rfl) (by decide) (by decide) (by decide) (by decide) 9 0 rfl rfl rfl hl.1 rfl (Nat.le_of_ble_eq_true rfl) dX9_aTick_169 ⟨Nat.le_of_ble_eq_true rfl, Nat.le_of_ble_eq_true rfl⟩ (fun u_42 H locs hv hP hD hS => ?_)
          refine lv_aload_n hx hb dX9_aTick_172 rfl (lv_at hl 1 rfl) ?_
          refine va_get (D := D) (ci := 9) (v := .ref (a 1)) (C := RX9) (T := TX9) (N := 2) hx hb hts in_X9 hown hK hP 0 rfl rfl 0 (by decide) k_7 (fun _ h9 => h9) rfl dX9_aTick_173 ?_
          refine lv_bipush (v := 23) hx hb dX9_aTick_176 (by decide) ?_
          refine lv_dup2_11 hx hb dX9_aTick_178 rfl rfl ?_
          refine x_ald hx hb hK hP 1 0 rfl rfl 23 rfl (by decide) (by decide) dX9_aTick_179 ?_
          refine lv_iconst (v := 1) hx hb dX9_aTick_180 (by decide) ?_
          refine lv_iadd hx hb dX9_aTick_181 ?_
          refine x_ast hx hb hK hP hD hS 1 0 rfl rfl 23 rfl (by decide) (by decide) dX9_aTick_182 (fun H locs hP hD hS => ?_)
          obtain ⟨M_43, eM_43⟩ : ∃ z : ST, z = x_st u_42 1 23 ((u_42 1 23) + 1) := ⟨_, rfl⟩
          have hP : va_P D vwCl ((w_Model cT a M_43)) H := by rw [eM_43]; exact hP
          have hD : va_D A ((w_Model cT a M_43)) := by rw [eM_43]; exact hD
          have hv := hv M_43 eM_43
          exact W.vret hx hb hr (fun t ht hW => ⟨⟨M_43, rfl, hv, by rw [ht]; exact hP, va_K.moved hW.alike hK, hD⟩, hS.F ht⟩) hS.2.2 dX9_aTick_183
  have L_1 : ∀ n_46 : Nat, ∀ (y_44 : Int32) (M_45 : ST), lp_X9_aTick_2  post (fun (y_2 : Int32) (M_3 : ST) => (((¬ ((M_3 1 20) = (M_3 1 0))) → v_X9_fetches M_3 (fun (u_5 : ST) => ((((u_5 1 0) ≤ (u_5 1 20)) → v_X9_signalsNow u_5 (fun r_7 => ∃ k_8 : Nat, k_8 < 23520 ∧ (220 + ((u_5 1 23) - (u_5 1 23) / 512 * 512)) = nI k_8 ∧ ∀ M_9 : ST, M_9 = x_st u_5 1 k_8 r_7 → v_X9_goesOn M_9 (fun (u_10 : ST) => ∀ M_11 : ST, M_11 = x_st u_10 1 23 ((u_10 1 23) + 1) → post M_11))) ∧ ((¬ ((u_5 1 0) ≤ (u_5 1 20))) → ((((u_5 1 4) ≤ (u_5 1 21)) → v_X9_signalsNow u_5 (fun r_13 => ∃ k_14 : Nat, k_14 < 23520 ∧ (220 + ((u_5 1 23) - (u_5 1 23) / 512 * 512)) = nI k_14 ∧ ∀ M_15 : ST, M_15 = x_st u_5 1 k_14 r_13 → v_X9_goesOn M_15 (fun (u_16 : ST) => ∀ M_17 : ST, M_17 = x_st u_16 1 23 ((u_16 1 23) + 1) → post M_17))) ∧ ((¬ ((u_5 1 4) ≤ (u_5 1 21))) → v_X9_dots u_5 (fun (u_18 : ST) => v_X9_signalsNow u_18 (fun r_19 => ∃ k_20 : Nat, k_20 < 23520 ∧ (220 + ((u_18 1 23) - (u_18 1 23) / 512 * 512)) = nI k_20 ∧ ∀ M_21 : ST, M_21 = x_st u_18 1 k_20 r_19 → v_X9_goesOn M_21 (fun (u_22 : ST) => ∀ M_23 : ST, M_23 = x_st u_22 1 23 ((u_22 1 23) + 1) → post M_23))))))))) ∧ (((M_3 1 20) = (M_3 1 0)) → v_X9_begins M_3 (fun (u_24 : ST) => v_X9_fetches u_24 (fun (u_25 : ST) => ((((u_25 1 0) ≤ (u_25 1 20)) → v_X9_signalsNow u_25 (fun r_27 => ∃ k_28 : Nat, k_28 < 23520 ∧ (220 + ((u_25 1 23) - (u_25 1 23) / 512 * 512)) = nI k_28 ∧ ∀ M_29 : ST, M_29 = x_st u_25 1 k_28 r_27 → v_X9_goesOn M_29 (fun (u_30 : ST) => ∀ M_31 : ST, M_31 = x_st u_30 1 23 ((u_30 1 23) + 1) → post M_31))) ∧ ((¬ ((u_25 1 0) ≤ (u_25 1 20))) → ((((u_25 1 4) ≤ (u_25 1 21)) → v_X9_signalsNow u_25 (fun r_33 => ∃ k_34 : Nat, k_34 < 23520 ∧ (220 + ((u_25 1 23) - (u_25 1 23) / 512 * 512)) = nI k_34 ∧ ∀ M_35 : ST, M_35 = x_st u_25 1 k_34 r_33 → v_X9_goesOn M_35 (fun (u_36 : ST) => ∀ M_37 : ST, M_37 = x_st u_36 1 23 ((u_36 1 23) + 1) → post M_37))) ∧ ((¬ ((u_25 1 4) ≤ (u_25 1 21))) → v_X9_dots u_25 (fun (u_38 : ST) => v_X9_signalsNow u_38 (fun r_39 => ∃ k_40 : Nat, k_40 < 23520 ∧ (220 + ((u_38 1 23) - (u_38 1 23) / 512 * 512)) = nI k_40 ∧ ∀ M_41 : ST, M_41 = x_st u_38 1 k_40 r_39 → v_X9_goesOn M_41 (fun (u_42 : ST) => ∀ M_43 : ST, M_43 = x_st u_42 1 23 ((u_42 1 23) + 1) → post M_43)))))))))))) n_46 y_44 M_45 → ∀ (H : Heap) (locs : List Loc), va_P D vwCl ((w_Model cT a M_45)) H → va_D A ((w_Model cT a M_45)) → va_S A s.heap H locs → ∀ ls : Array Slot, lv_has ls 3 [(1, .int y_44), (0, .ref (a 0))] → W p l e (headSpec wsX9_aTick ({ frames := 3, cells := 0, slots := 0, locals := 74 })).room s m ([.ref (a 0)] : List Value).toArray below meth c H locs 0 0 (MQ below (va_Qv post (fun u t => x_B D cT ((w_Model cT a u)) A t) A) ([.ref (a 0)] : List Value).toArray s 0 0 A) (F0 m 2 ls []) := by
    intro n_46
    induction n_46 with
    | zero =>
      intro y_44 M_45 hv
      exact hv.elim
    | succ n_46 L_1_ih =>
      intro y_44 M_45 hv H locs hP hD hS ls hl
      refine lv_iload_n hx hb dX9_aTick_2 rfl (lv_at hl 0 rfl) ?_
      refine lv_aload_n hx hb dX9_aTick_3 rfl (lv_at hl 1 rfl) ?_
      refine va_get (D := D) (ci := 9) (v := .ref (a 1)) (C := RX9) (T := TX9) (N := 2) hx hb hts in_X9 hown hK hP 0 rfl rfl 0 (by decide) k_7 (fun _ h9 => h9) rfl dX9_aTick_4 ?_
      refine lv_bipush (v := 36) hx hb dX9_aTick_7 (by decide) ?_
      refine x_ald hx hb hK hP 1 0 rfl rfl 36 rfl (by decide) (by decide) dX9_aTick_9 ?_
      refine lv_icmp_ge (tgt := 84) hx hb dX9_aTick_10 (by decide) (fun c_47 => ?_) (fun c_47 => ?_)
      · have hv := hv.1 c_47
        exact K_L_1 _ _ hv H locs hP hD hS ls (lv_sub hl [0, 1] rfl)
      · have hv := hv.2 c_47
        refine lv_bipush (v := 60) hx hb dX9_aTick_13 (by decide) ?_
        refine lv_iconst (v := 4) hx hb dX9_aTick_15 (by decide) ?_
        refine lv_iload_n hx hb dX9_aTick_16 rfl (lv_at hl 0 rfl) ?_
        refine lv_imul hx hb dX9_aTick_17 ?_
        refine lv_iadd hx hb dX9_aTick_18 ?_
        refine lv_topi (fun x_48 ex_48 => ?_)
        have hv := hv x_48 ex_48
        refine lv_istore_n (lv' := [(2, .int x_48), (1, .int y_44), (0, .ref (a 0))]) hx hb dX9_aTick_19 rfl hl (by decide) rfl (fun ls hl => ?_)
        refine lv_aload_n hx hb dX9_aTick_20 rfl (lv_at hl 2 rfl) ?_
        refine va_get (D := D) (ci := 9) (v := .ref (a 1)) (C := RX9) (T := TX9) (N := 2) hx hb hts in_X9 hown hK hP 0 rfl rfl 0 (by decide) k_7 (fun _ h9 => h9) rfl dX9_aTick_21 ?_
        refine lv_iload_n hx hb dX9_aTick_24 rfl (lv_at hl 0 rfl) ?_
        obtain ⟨k_49, hk_49, ik_49, hv⟩ := hv
        refine x_ald hx hb hK hP 1 0 rfl rfl k_49 ik_49 hk_49 (by decide) dX9_aTick_25 ?_
        refine lv_aload_n hx hb dX9_aTick_26 rfl (lv_at hl 2 rfl) ?_
        refine va_get (D := D) (ci := 9) (v := .ref (a 1)) (C := RX9) (T := TX9) (N := 2) hx hb hts in_X9 hown hK hP 0 rfl rfl 0 (by decide) k_7 (fun _ h9 => h9) rfl dX9_aTick_27 ?_
        refine lv_bipush (v := 21) hx hb dX9_aTick_30 (by decide) ?_
        refine x_ald hx hb hK hP 1 0 rfl rfl 21 rfl (by decide) (by decide) dX9_aTick_32 ?_
        refine lv_icmp_ne (tgt := 78) hx hb dX9_aTick_33 (by decide) (fun c_50 => ?_) (fun c_50 => ?_)
        · have hv := hv.1 c_50
          obtain ⟨x_51, ex_51⟩ : ∃ z : Int32, z = y_44 + 1 := ⟨_, rfl⟩
          have hv := hv x_51 ex_51
          refine lv_iinc (v := x_51) (lv' := [(1, .int x_51), (2, .int x_48), (0, .ref (a 0))]) hx hb dX9_aTick_78 hl (k := 1) rfl (by rw [ex_51]; rfl) (by decide) rfl (fun ls hl => ?_)
          refine lv_goto (tgt := 2) hx hb dX9_aTick_81 (by decide) ?_
          exact L_1_ih _ _ hv H locs hP hD hS ls (lv_sub hl [0, 2] rfl)
        · have hv := hv.2 c_50
          refine lv_aload_n hx hb dX9_aTick_36 rfl (lv_at hl 2 rfl) ?_
          refine va_get (D := D) (ci := 9) (v := .ref (a 1)) (C := RX9) (T := TX9) (N := 2) hx hb hts in_X9 hown hK hP 0 rfl rfl 0 (by decide) k_7 (fun _ h9 => h9) rfl dX9_aTick_37 ?_
          refine lv_iload_n hx hb dX9_aTick_40 rfl (lv_at hl 0 rfl) ?_
          refine lv_iconst (v := 1) hx hb dX9_aTick_41 (by decide) ?_
          refine lv_iadd hx hb dX9_aTick_42 ?_
          obtain ⟨k_52, hk_52, ik_52, hv⟩ := hv
          refine x_ald hx hb hK hP 1 0 rfl rfl k_52 ik_52 hk_52 (by decide) dX9_aTick_43 ?_
          refine lv_aload_n hx hb dX9_aTick_44 rfl (lv_at hl 2 rfl) ?_
          refine va_get (D := D) (ci := 9) (v := .ref (a 1)) (C := RX9) (T := TX9) (N := 2) hx hb hts in_X9 hown hK hP 0 rfl rfl 0 (by decide) k_7 (fun _ h9 => h9) rfl dX9_aTick_45 ?_
          refine lv_bipush (v := 20) hx hb dX9_aTick_48 (by decide) ?_
          refine x_ald hx hb hK hP 1 0 rfl rfl 20 rfl (by decide) (by decide) dX9_aTick_50 ?_
          refine lv_icmp_ne (tgt := 78) hx hb dX9_aTick_51 (by decide) (fun c_53 => ?_) (fun c_53 => ?_)
          · have hv := hv.1 c_53
            obtain ⟨x_54, ex_54⟩ : ∃ z : Int32, z = y_44 + 1 := ⟨_, rfl⟩
            have hv := hv x_54 ex_54
            refine lv_iinc (v := x_54) (lv' := [(1, .int x_54), (2, .int x_48), (0, .ref (a 0))]) hx hb dX9_aTick_78 hl (k := 1) rfl (by rw [ex_54]; rfl) (by decide) rfl (fun ls hl => ?_)
            refine lv_goto (tgt := 2) hx hb dX9_aTick_81 (by decide) ?_
            exact L_1_ih _ _ hv H locs hP hD hS ls (lv_sub hl [0, 2] rfl)
          · have hv := hv.2 c_53
            refine lv_aload_n hx hb dX9_aTick_54 rfl (lv_at hl 2 rfl) ?_
            refine va_get (D := D) (ci := 9) (v := .ref (a 1)) (C := RX9) (T := TX9) (N := 2) hx hb hts in_X9 hown hK hP 0 rfl rfl 0 (by decide) k_7 (fun _ h9 => h9) rfl dX9_aTick_55 ?_
            refine lv_bipush (v := 40) hx hb dX9_aTick_58 (by decide) ?_
            refine lv_aload_n hx hb dX9_aTick_60 rfl (lv_at hl 2 rfl) ?_
            refine va_get (D := D) (ci := 9) (v := .ref (a 1)) (C := RX9) (T := TX9) (N := 2) hx hb hts in_X9 hown hK hP 0 rfl rfl 0 (by decide) k_7 (fun _ h9 => h9) rfl dX9_aTick_61 ?_
            refine lv_iload_n hx hb dX9_aTick_64 rfl (lv_at hl 0 rfl) ?_
            refine lv_iconst (v := 2) hx hb dX9_aTick_65 (by decide) ?_
            refine lv_iadd hx hb dX9_aTick_66 ?_
            obtain ⟨k_55, hk_55, ik_55, hv⟩ := hv
            refine x_ald hx hb hK hP 1 0 rfl rfl k_55 ik_55 hk_55 (by decide) dX9_aTick_67 ?_
            refine lv_iadd hx hb dX9_aTick_68 ?_
            refine lv_aload_n hx hb dX9_aTick_69 rfl (lv_at hl 2 rfl) ?_
            refine va_get (D := D) (ci := 9) (v := .ref (a 1)) (C := RX9) (T := TX9) (N := 2) hx hb hts in_X9 hown hK hP 0 rfl rfl 0 (by decide) k_7 (fun _ h9 => h9) rfl dX9_aTick_70 ?_
            refine lv_iload_n hx hb dX9_aTick_73 rfl (lv_at hl 0 rfl) ?_
            refine lv_iconst (v := 3) hx hb dX9_aTick_74 (by decide) ?_
            refine lv_iadd hx hb dX9_aTick_75 ?_
            obtain ⟨k_56, hk_56, ik_56, hv⟩ := hv
            refine x_ald hx hb hK hP 1 0 rfl rfl k_56 ik_56 hk_56 (by decide) dX9_aTick_76 ?_
            obtain ⟨k_57, hk_57, ik_57, hv⟩ := hv
            refine x_ast hx hb hK hP hD hS 1 0 rfl rfl k_57 ik_57 hk_57 (by decide) dX9_aTick_77 (fun H locs hP hD hS => ?_)
            obtain ⟨M_58, eM_58⟩ : ∃ z : ST, z = x_st M_45 1 k_57 (M_45 1 k_56) := ⟨_, rfl⟩
            have hP : va_P D vwCl ((w_Model cT a M_58)) H := by rw [eM_58]; exact hP
            have hD : va_D A ((w_Model cT a M_58)) := by rw [eM_58]; exact hD
            have hv := hv M_58 eM_58
            obtain ⟨x_59, ex_59⟩ : ∃ z : Int32, z = y_44 + 1 := ⟨_, rfl⟩
            have hv := hv x_59 ex_59
            refine lv_iinc (v := x_59) (lv' := [(1, .int x_59), (2, .int x_48), (0, .ref (a 0))]) hx hb dX9_aTick_78 hl (k := 1) rfl (by rw [ex_59]; rfl) (by decide) rfl (fun ls hl => ?_)
            refine lv_goto (tgt := 2) hx hb dX9_aTick_81 (by decide) ?_
            exact L_1_ih _ _ hv H locs hP hD hS ls (lv_sub hl [0, 2] rfl)
  exact L_1 n_60 _ _ hv _ _ hP hD hS ls hl
def lp_X9_ticks_29 (p1 : Int32) (post : Int32 → ST → Prop) (K_ : Int32 → ST → Prop) : Nat → Int32 → ST → Prop
  | 0, _, _ => False
  | n_9 + 1, y_7, M_8 => (((p1 ≤ y_7) → K_ y_7 M_8) ∧ ((¬ (p1 ≤ y_7)) → v_X9_aTick M_8 (fun (u_11 : ST) => ∀ x_12 : Int32, x_12 = y_7 + 1 → lp_X9_ticks_29 p1 post K_ n_9 x_12 u_11)))
def v_X9_ticks (M : ST) (p1 : Int32) (post : Int32 → ST → Prop) : Prop := v_X9_isIn p1 1 4000 (fun r_1 => (((r_1 = 0) → post (-1) M) ∧ ((¬ (r_1 = 0)) → (((((M 1 23) + p1) ≤ 1000000) → (∃ n_13 : Nat, lp_X9_ticks_29 p1 post (fun (y_5 : Int32) (M_6 : ST) => post (M_6 1 23) M_6) n_13 0 M)) ∧ ((¬ (((M 1 23) + p1) ≤ 1000000)) → post (-1) M)))))
set_option maxHeartbeats 4000000 in
set_option maxRecDepth 100000 in
theorem c_X9_ticks (l : Launch) (D : va_G) (cT : Nat → ClassId) (a : Nat → Nat) (M : ST) (p1 : Int32) (sz : Nat) (post : Int32 → ST → Prop) (hv : v_X9_ticks M p1 post) : Met l yX9_ticks wsX9_ticks ({ frames := 4, cells := 0, slots := 0, locals := 96 }) (va_Pc [.ref (a 0), .int p1] (x_U D cT ((w_Model cT a M)) sz)) (va_Qi post (fun u t => x_B D cT ((w_Model cT a u)) (va_A ((w_Model cT a M)) sz) t) (va_A ((w_Model cT a M)) sz)) 0 0 (va_A ((w_Model cT a M)) sz) := by
  refine Met.ofW (cc := cX9_ticks) (maxL := 3) (ret := (some .int)) (by decide) rfl ?_
  intro p e s m args below meth c s₁ B hml hpre
  obtain ⟨rfl, hsz, hP, hK, hD0, hN⟩ := hpre
  have hx := B.exec
  have hb := B.bytes
  have hr := B.returns
  have hts := atoms_spec (ws := wsX9_ticks) B.pre
  have hown : s.vm.findClass RX9 = some m.cls := findClass_of_methodNamed B.named
  have hlocks := B.notSynchronized
  subst hsz
  have hD := hD0.self (sz := s.heap.size)
  generalize hAe : va_A ((w_Model cT a M)) s.heap.size = A at hD hN ⊢
  have hA : ∀ q : Nat, s.heap.size ≤ q → A q := fun q h => by rw [← hAe]; exact Or.inr h
  have hS : va_S A s.heap s.heap [] := va_S.rf
  have hl := lv_entry ([.ref (a 0), .int p1]) (n := 3) (Nat.le_of_ble_eq_true rfl)
  rw [lg_entry_eq]
  generalize (lg_sl ([.ref (a 0), .int p1]) ++ List.replicate (3 - (lg_sl ([.ref (a 0), .int p1])).length) Slot.unset).toArray = ls at hl ⊢
  have hl : lv_has ls 3 [(0, .ref (a 0)), (1, .int p1)] := hl
  have in_X9 : ∀ w ∈ wsX90, w ∈ wsX9_ticks := by decide +kernel
  have w_17 : CallB (headSpec wsX9_ticks ({ frames := 4, cells := 0, slots := 0, locals := 96 })).room s ([.ref (a 0), .int p1] : List Value).toArray RX9 17 yX9_isIn cX9_isIn 3 (some .boolean) wsX9_isIn ({ frames := 0, cells := 0, slots := 0, locals := 0 } : Room) 0 0 3 ∧ (Cond.static yX9_isIn).before ([.ref (a 0), .int p1] : List Value).toArray s = true := va_cwS 3 hts gX9_ticks_X9_isIn rfl rfl rfl (by decide +kernel) ⟨Nat.le_of_ble_eq_true rfl, Nat.le_of_ble_eq_true rfl⟩
  have k_7 : (Cond.fieldLink RX9 7 "PictureBeatsModel" "all" "[I").before ([.ref (a 0), .int p1] : List Value).toArray s = true := hts _ (by decide +kernel)
  have k_71 : (Cond.constant RX9 71 (1000000)).before ([.ref (a 0), .int p1] : List Value).toArray s = true := hts _ (by decide +kernel)
  have w_72 : CallW (headSpec wsX9_ticks ({ frames := 4, cells := 0, slots := 0, locals := 96 })).room s ([.ref (a 0), .int p1] : List Value).toArray RX9 RX9 72 yX9_aTick cX9_aTick 3 none wsX9_aTick ({ frames := 3, cells := 0, slots := 0, locals := 74 } : Room) 0 0 0 := cwV 0 hts gX9_ticks_X9_aTick rfl rfl rfl (by decide +kernel) ⟨Nat.le_of_ble_eq_true rfl, Nat.le_of_ble_eq_true rfl⟩
  refine lv_iload_n hx hb dX9_ticks_0 rfl (lv_at hl 1 rfl) ?_
  refine lv_iconst (v := 1) hx hb dX9_ticks_1 (by decide) ?_
  refine lv_sipush (v := 4000) hx hb dX9_ticks_2 (by decide) ?_
  refine x_rS (As := [.int p1, .int 1, .int 4000]) (rest := []) ⟨hx, hb, hml, hown, hts⟩ (c_X9_isIn l D cT p1 1 4000 _ hv) w_17 hK hS hN rfl hl.1 rfl (Nat.le_of_ble_eq_true rfl) dX9_ticks_5 ⟨Nat.le_of_ble_eq_true rfl, Nat.le_of_ble_eq_true rfl⟩ (fun r_1 hv => ?_)
  refine lv_if_eq (tgt := 25) hx hb dX9_ticks_8 (by decide) (fun c_2 => ?_) (fun c_2 => ?_)
  · have hv := hv.1 c_2
    refine lv_iconst (v := (-1)) hx hb dX9_ticks_25 (by decide) ?_
    exact W.iret (v := (-1)) hx hb hr (fun t ht hW => ⟨⟨_, M, rfl, hv, by rw [ht]; exact hP, va_K.moved hW.alike hK, hD⟩, hS.F ht⟩) hS.2.2 dX9_ticks_26
  · have hv := hv.2 c_2
    refine lv_aload_n hx hb dX9_ticks_11 rfl (lv_at hl 0 rfl) ?_
    refine va_get (D := D) (ci := 9) (v := .ref (a 1)) (C := RX9) (T := TX9) (N := 2) hx hb hts in_X9 hown hK hP 0 rfl rfl 0 (by decide) k_7 (fun _ h9 => h9) rfl dX9_ticks_12 ?_
    refine lv_bipush (v := 23) hx hb dX9_ticks_15 (by decide) ?_
    refine x_ald hx hb hK hP 1 0 rfl rfl 23 rfl (by decide) (by decide) dX9_ticks_17 ?_
    refine lv_iload_n hx hb dX9_ticks_18 rfl (lv_at hl 1 rfl) ?_
    refine lv_iadd hx hb dX9_ticks_19 ?_
    refine lv_ldc (v := 1000000) hx hb hown k_71 dX9_ticks_20 ?_
    refine lv_icmp_le (tgt := 27) hx hb dX9_ticks_22 (by decide) (fun c_3 => ?_) (fun c_3 => ?_)
    · have hv := hv.1 c_3
      refine lv_iconst (v := 0) hx hb dX9_ticks_27 (by decide) ?_
      refine lv_istore_n (lv' := [(2, .int 0), (0, .ref (a 0)), (1, .int p1)]) hx hb dX9_ticks_28 rfl hl (by decide) rfl (fun ls hl => ?_)
      obtain ⟨n_13, hv⟩ := hv
      have K_L_4 : ∀ (y_5 : Int32) (M_6 : ST), post (M_6 1 23) M_6 → ∀ (H : Heap) (locs : List Loc), va_P D vwCl ((w_Model cT a M_6)) H → va_D A ((w_Model cT a M_6)) → va_S A s.heap H locs → ∀ ls : Array Slot, lv_has ls 3 [(2, .int y_5), (0, .ref (a 0)), (1, .int p1)] → W p l e (headSpec wsX9_ticks ({ frames := 4, cells := 0, slots := 0, locals := 96 })).room s m ([.ref (a 0), .int p1] : List Value).toArray below meth c H locs 0 0 (MQ below (va_Qi post (fun u t => x_B D cT ((w_Model cT a u)) A t) A) ([.ref (a 0), .int p1] : List Value).toArray s 0 0 A) (F0 m 44 ls []) := by
        intro y_5 M_6 hv H locs hP hD hS ls hl
        refine lv_aload_n hx hb dX9_ticks_44 rfl (lv_at hl 1 rfl) ?_
        refine va_get (D := D) (ci := 9) (v := .ref (a 1)) (C := RX9) (T := TX9) (N := 2) hx hb hts in_X9 hown hK hP 0 rfl rfl 0 (by decide) k_7 (fun _ h9 => h9) rfl dX9_ticks_45 ?_
        refine lv_bipush (v := 23) hx hb dX9_ticks_48 (by decide) ?_
        refine x_ald hx hb hK hP 1 0 rfl rfl 23 rfl (by decide) (by decide) dX9_ticks_50 ?_
        exact W.iret (v := (M_6 1 23)) hx hb hr (fun t ht hW => ⟨⟨_, M_6, rfl, hv, by rw [ht]; exact hP, va_K.moved hW.alike hK, hD⟩, hS.F ht⟩) hS.2.2 dX9_ticks_51
      have L_4 : ∀ n_9 : Nat, ∀ (y_7 : Int32) (M_8 : ST), lp_X9_ticks_29 p1 post (fun (y_5 : Int32) (M_6 : ST) => post (M_6 1 23) M_6) n_9 y_7 M_8 → ∀ (H : Heap) (locs : List Loc), va_P D vwCl ((w_Model cT a M_8)) H → va_D A ((w_Model cT a M_8)) → va_S A s.heap H locs → ∀ ls : Array Slot, lv_has ls 3 [(2, .int y_7), (0, .ref (a 0)), (1, .int p1)] → W p l e (headSpec wsX9_ticks ({ frames := 4, cells := 0, slots := 0, locals := 96 })).room s m ([.ref (a 0), .int p1] : List Value).toArray below meth c H locs 0 0 (MQ below (va_Qi post (fun u t => x_B D cT ((w_Model cT a u)) A t) A) ([.ref (a 0), .int p1] : List Value).toArray s 0 0 A) (F0 m 29 ls []) := by
        intro n_9
        induction n_9 with
        | zero =>
          intro y_7 M_8 hv
          exact hv.elim
        | succ n_9 L_4_ih =>
          intro y_7 M_8 hv H locs hP hD hS ls hl
          refine lv_iload_n hx hb dX9_ticks_29 rfl (lv_at hl 0 rfl) ?_
          refine lv_iload_n hx hb dX9_ticks_30 rfl (lv_at hl 2 rfl) ?_
          refine lv_icmp_ge (tgt := 44) hx hb dX9_ticks_31 (by decide) (fun c_10 => ?_) (fun c_10 => ?_)
          · have hv := hv.1 c_10
            exact K_L_4 _ _ hv H locs hP hD hS ls (lv_sub hl [0, 1, 2] rfl)
          · have hv := hv.2 c_10
            refine lv_aload_n hx hb dX9_ticks_34 rfl (lv_at hl 1 rfl) ?_
            refine x_cVv (As := []) (rest := []) (wn := fun u_11 => (w_Model cT a u_11)) ⟨hx, hb, hml, hown, hts⟩ (c_X9_aTick l D cT a M_8 _ _ hv) w_72 hK hP hD hS hA hN [0, 1, 2] [] [0, 1, 2] rfl rfl (fun _ => rfl) (by decide) (by decide) (by decide) (by decide) 9 0 rfl rfl rfl hl.1 rfl (Nat.le_of_ble_eq_true rfl) dX9_ticks_35 ⟨Nat.le_of_ble_eq_true rfl, Nat.le_of_ble_eq_true rfl⟩ (fun u_11 H locs hv hP hD hS => ?_)
            obtain ⟨x_12, ex_12⟩ : ∃ z : Int32, z = y_7 + 1 := ⟨_, rfl⟩
            have hv := hv x_12 ex_12
            refine lv_iinc (v := x_12) (lv' := [(2, .int x_12), (0, .ref (a 0)), (1, .int p1)]) hx hb dX9_ticks_38 hl (k := 0) rfl (by rw [ex_12]; rfl) (by decide) rfl (fun ls hl => ?_)
            refine lv_goto (tgt := 29) hx hb dX9_ticks_41 (by decide) ?_
            exact L_4_ih _ _ hv H locs hP hD hS ls (lv_sub hl [0, 1, 2] rfl)
      exact L_4 n_13 _ _ hv _ _ hP hD hS ls hl
    · have hv := hv.2 c_3
      refine lv_iconst (v := (-1)) hx hb dX9_ticks_25 (by decide) ?_
      exact W.iret (v := (-1)) hx hb hr (fun t ht hW => ⟨⟨_, M, rfl, hv, by rw [ht]; exact hP, va_K.moved hW.alike hK, hD⟩, hS.F ht⟩) hS.2.2 dX9_ticks_26
