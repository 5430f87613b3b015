section
-- ===== PART A: goes FIRST, ahead of the names: the tables' words, and 'selects' of the private methods out of them =====
/-- a private method of a class that the tables say can be made, by its rows of tables_1 -/
def lw_okq (q : MethodName × Nat) : Prop := (q.1.cls ≠ "java/lang/invoke/MethodHandle" ∧ q.1.cls ≠ "java/lang/invoke/VarHandle") ∧ Cond.instantiable q.1.cls q.2 ∈ tables_1 ∧ Cond.privateMethod q.1 ∈ tables_1 ∧ Cond.instanceMethod q.1 ∈ tables_1
theorem lw_p0 : lw_okq (⟨"PictureBeats$Sprites", "turnPresence", "(I)V"⟩, 5) := ⟨⟨by decide +kernel, by decide +kernel⟩, List.mem_of_getElem? (i := 200) (by decide +kernel), List.mem_of_getElem? (i := 352) (by decide +kernel), List.mem_of_getElem? (i := 353) (by decide +kernel)⟩
theorem lw_p1 : lw_okq (⟨"PictureBeats$Machine", "turnToNextLine", "()V"⟩, 12) := ⟨⟨by decide +kernel, by decide +kernel⟩, List.mem_of_getElem? (i := 24) (by decide +kernel), List.mem_of_getElem? (i := 385) (by decide +kernel), List.mem_of_getElem? (i := 386) (by decide +kernel)⟩
theorem lw_p2 : lw_okq (⟨"PictureBeats$Machine", "startFeed", "(LPictureBeats$Mode;II)V"⟩, 12) := ⟨⟨by decide +kernel, by decide +kernel⟩, List.mem_of_getElem? (i := 24) (by decide +kernel), List.mem_of_getElem? (i := 406) (by decide +kernel), List.mem_of_getElem? (i := 407) (by decide +kernel)⟩
theorem lw_p3 : lw_okq (⟨"PictureBeats$Machine", "fetchByte", "()V"⟩, 12) := ⟨⟨by decide +kernel, by decide +kernel⟩, List.mem_of_getElem? (i := 24) (by decide +kernel), List.mem_of_getElem? (i := 433) (by decide +kernel), List.mem_of_getElem? (i := 434) (by decide +kernel)⟩
theorem lw_p4 : lw_okq (⟨"PictureBeats$Machine", "makeDot", "()V"⟩, 12) := ⟨⟨by decide +kernel, by decide +kernel⟩, List.mem_of_getElem? (i := 24) (by decide +kernel), List.mem_of_getElem? (i := 450) (by decide +kernel), List.mem_of_getElem? (i := 451) (by decide +kernel)⟩
theorem lw_p5 : lw_okq (⟨"PictureBeats$Machine", "takeScroll", "()V"⟩, 12) := ⟨⟨by decide +kernel, by decide +kernel⟩, List.mem_of_getElem? (i := 24) (by decide +kernel), List.mem_of_getElem? (i := 454) (by decide +kernel), List.mem_of_getElem? (i := 455) (by decide +kernel)⟩
theorem lw_p6 : lw_okq (⟨"PictureBeats$Sprites", "hasBit", "(III)Z"⟩, 5) := ⟨⟨by decide +kernel, by decide +kernel⟩, List.mem_of_getElem? (i := 200) (by decide +kernel), List.mem_of_getElem? (i := 478) (by decide +kernel), List.mem_of_getElem? (i := 479) (by decide +kernel)⟩
theorem lw_p7 : lw_okq (⟨"PictureBeats$Machine", "colourOf", "(I)I"⟩, 12) := ⟨⟨by decide +kernel, by decide +kernel⟩, List.mem_of_getElem? (i := 24) (by decide +kernel), List.mem_of_getElem? (i := 483) (by decide +kernel), List.mem_of_getElem? (i := 484) (by decide +kernel)⟩
theorem lw_p8 : lw_okq (⟨"PictureBeats", "fewestQueued", "(III)I"⟩, 2) := ⟨⟨by decide +kernel, by decide +kernel⟩, List.mem_of_getElem? (i := 16) (by decide +kernel), List.mem_of_getElem? (i := 540) (by decide +kernel), List.mem_of_getElem? (i := 541) (by decide +kernel)⟩
theorem lw_p9 : lw_okq (⟨"PictureBeatsModel", "aTick", "()V"⟩, 2) := ⟨⟨by decide +kernel, by decide +kernel⟩, List.mem_of_getElem? (i := 597) (by decide +kernel), List.mem_of_getElem? (i := 666) (by decide +kernel), List.mem_of_getElem? (i := 667) (by decide +kernel)⟩
theorem lw_p10 : lw_okq (⟨"PictureBeatsModel", "begins", "()V"⟩, 2) := ⟨⟨by decide +kernel, by decide +kernel⟩, List.mem_of_getElem? (i := 597) (by decide +kernel), List.mem_of_getElem? (i := 670) (by decide +kernel), List.mem_of_getElem? (i := 671) (by decide +kernel)⟩
theorem lw_p11 : lw_okq (⟨"PictureBeatsModel", "linesOf", "(I)I"⟩, 2) := ⟨⟨by decide +kernel, by decide +kernel⟩, List.mem_of_getElem? (i := 597) (by decide +kernel), List.mem_of_getElem? (i := 674) (by decide +kernel), List.mem_of_getElem? (i := 675) (by decide +kernel)⟩
theorem lw_p12 : lw_okq (⟨"PictureBeatsModel", "nextField", "()I"⟩, 2) := ⟨⟨by decide +kernel, by decide +kernel⟩, List.mem_of_getElem? (i := 597) (by decide +kernel), List.mem_of_getElem? (i := 678) (by decide +kernel), List.mem_of_getElem? (i := 679) (by decide +kernel)⟩
theorem lw_p13 : lw_okq (⟨"PictureBeatsModel", "fetches", "()V"⟩, 2) := ⟨⟨by decide +kernel, by decide +kernel⟩, List.mem_of_getElem? (i := 597) (by decide +kernel), List.mem_of_getElem? (i := 688) (by decide +kernel), List.mem_of_getElem? (i := 689) (by decide +kernel)⟩
theorem lw_p14 : lw_okq (⟨"PictureBeatsModel", "isTaken", "()Z"⟩, 2) := ⟨⟨by decide +kernel, by decide +kernel⟩, List.mem_of_getElem? (i := 597) (by decide +kernel), List.mem_of_getElem? (i := 692) (by decide +kernel), List.mem_of_getElem? (i := 693) (by decide +kernel)⟩
theorem lw_p15 : lw_okq (⟨"PictureBeatsModel", "dots", "()V"⟩, 2) := ⟨⟨by decide +kernel, by decide +kernel⟩, List.mem_of_getElem? (i := 597) (by decide +kernel), List.mem_of_getElem? (i := 696) (by decide +kernel), List.mem_of_getElem? (i := 697) (by decide +kernel)⟩
def lw_privs_1 : List (MethodName × Nat) := [(⟨"PictureBeats$Sprites", "turnPresence", "(I)V"⟩, 5), (⟨"PictureBeats$Machine", "turnToNextLine", "()V"⟩, 12), (⟨"PictureBeats$Machine", "startFeed", "(LPictureBeats$Mode;II)V"⟩, 12), (⟨"PictureBeats$Machine", "fetchByte", "()V"⟩, 12), (⟨"PictureBeats$Machine", "makeDot", "()V"⟩, 12), (⟨"PictureBeats$Machine", "takeScroll", "()V"⟩, 12), (⟨"PictureBeats$Sprites", "hasBit", "(III)Z"⟩, 5), (⟨"PictureBeats$Machine", "colourOf", "(I)I"⟩, 12), (⟨"PictureBeats", "fewestQueued", "(III)I"⟩, 2), (⟨"PictureBeatsModel", "aTick", "()V"⟩, 2), (⟨"PictureBeatsModel", "begins", "()V"⟩, 2), (⟨"PictureBeatsModel", "linesOf", "(I)I"⟩, 2), (⟨"PictureBeatsModel", "nextField", "()I"⟩, 2), (⟨"PictureBeatsModel", "fetches", "()V"⟩, 2), (⟨"PictureBeatsModel", "isTaken", "()Z"⟩, 2), (⟨"PictureBeatsModel", "dots", "()V"⟩, 2)]
theorem lw_r1 : ∀ q ∈ lw_privs_1, lw_okq q := List.forall_mem_cons.mpr ⟨lw_p0, List.forall_mem_cons.mpr ⟨lw_p1, List.forall_mem_cons.mpr ⟨lw_p2, List.forall_mem_cons.mpr ⟨lw_p3, List.forall_mem_cons.mpr ⟨lw_p4, List.forall_mem_cons.mpr ⟨lw_p5, List.forall_mem_cons.mpr ⟨lw_p6, List.forall_mem_cons.mpr ⟨lw_p7, List.forall_mem_cons.mpr ⟨lw_p8, List.forall_mem_cons.mpr ⟨lw_p9, List.forall_mem_cons.mpr ⟨lw_p10, List.forall_mem_cons.mpr ⟨lw_p11, List.forall_mem_cons.mpr ⟨lw_p12, List.forall_mem_cons.mpr ⟨lw_p13, List.forall_mem_cons.mpr ⟨lw_p14, List.forall_mem_cons.mpr ⟨lw_p15, fun _ h => absurd h List.not_mem_nil⟩⟩⟩⟩⟩⟩⟩⟩⟩⟩⟩⟩⟩⟩⟩⟩
theorem lw_p16 : lw_okq (⟨"PictureBeatsModel", "takes", "()I"⟩, 2) := ⟨⟨by decide +kernel, by decide +kernel⟩, List.mem_of_getElem? (i := 597) (by decide +kernel), List.mem_of_getElem? (i := 700) (by decide +kernel), List.mem_of_getElem? (i := 701) (by decide +kernel)⟩
theorem lw_p17 : lw_okq (⟨"PictureBeatsModel", "spritesOf", "(I)I"⟩, 2) := ⟨⟨by decide +kernel, by decide +kernel⟩, List.mem_of_getElem? (i := 597) (by decide +kernel), List.mem_of_getElem? (i := 704) (by decide +kernel), List.mem_of_getElem? (i := 705) (by decide +kernel)⟩
theorem lw_p18 : lw_okq (⟨"PictureBeatsModel", "hasRow", "(II)Z"⟩, 2) := ⟨⟨by decide +kernel, by decide +kernel⟩, List.mem_of_getElem? (i := 597) (by decide +kernel), List.mem_of_getElem? (i := 708) (by decide +kernel), List.mem_of_getElem? (i := 709) (by decide +kernel)⟩
theorem lw_p19 : lw_okq (⟨"PictureBeatsModel", "signalsNow", "()I"⟩, 2) := ⟨⟨by decide +kernel, by decide +kernel⟩, List.mem_of_getElem? (i := 597) (by decide +kernel), List.mem_of_getElem? (i := 712) (by decide +kernel), List.mem_of_getElem? (i := 713) (by decide +kernel)⟩
theorem lw_p20 : lw_okq (⟨"PictureBeatsModel", "goesOn", "()V"⟩, 2) := ⟨⟨by decide +kernel, by decide +kernel⟩, List.mem_of_getElem? (i := 597) (by decide +kernel), List.mem_of_getElem? (i := 716) (by decide +kernel), List.mem_of_getElem? (i := 717) (by decide +kernel)⟩
theorem lw_p21 : lw_okq (⟨"PictureBeatsModel", "ticksOf", "(I)I"⟩, 2) := ⟨⟨by decide +kernel, by decide +kernel⟩, List.mem_of_getElem? (i := 597) (by decide +kernel), List.mem_of_getElem? (i := 720) (by decide +kernel), List.mem_of_getElem? (i := 721) (by decide +kernel)⟩
theorem lw_p22 : lw_okq (⟨"PictureBeatsModel", "leastOf", "(II)I"⟩, 2) := ⟨⟨by decide +kernel, by decide +kernel⟩, List.mem_of_getElem? (i := 597) (by decide +kernel), List.mem_of_getElem? (i := 751) (by decide +kernel), List.mem_of_getElem? (i := 752) (by decide +kernel)⟩
def lw_privs_2 : List (MethodName × Nat) := [(⟨"PictureBeatsModel", "takes", "()I"⟩, 2), (⟨"PictureBeatsModel", "spritesOf", "(I)I"⟩, 2), (⟨"PictureBeatsModel", "hasRow", "(II)Z"⟩, 2), (⟨"PictureBeatsModel", "signalsNow", "()I"⟩, 2), (⟨"PictureBeatsModel", "goesOn", "()V"⟩, 2), (⟨"PictureBeatsModel", "ticksOf", "(I)I"⟩, 2), (⟨"PictureBeatsModel", "leastOf", "(II)I"⟩, 2)]
theorem lw_r2 : ∀ q ∈ lw_privs_2, lw_okq q := List.forall_mem_cons.mpr ⟨lw_p16, List.forall_mem_cons.mpr ⟨lw_p17, List.forall_mem_cons.mpr ⟨lw_p18, List.forall_mem_cons.mpr ⟨lw_p19, List.forall_mem_cons.mpr ⟨lw_p20, List.forall_mem_cons.mpr ⟨lw_p21, List.forall_mem_cons.mpr ⟨lw_p22, fun _ h => absurd h List.not_mem_nil⟩⟩⟩⟩⟩⟩⟩
def lw_privs : List (MethodName × Nat) := lw_privs_1 ++ (lw_privs_2)
def lw_tbl : List Cond := k2_sels lw_privs ++ tables_1
theorem lw_privs_ok : ∀ q ∈ lw_privs, lw_okq q := by
  show ∀ q ∈ lw_privs_1 ++ (lw_privs_2), lw_okq q
  exact List.forall_mem_append.mpr ⟨lw_r1, lw_r2⟩
-- ===== end of PART A; then your names; then what follows =====
end
section
/-! ===== BEGIN words of one list among another's, by their places ===== -/
theorem goodIn_r {big : List Cond} (ws : List Cond) (ps : List Nat) (hp : ws = ps.filterMap (fun i => big[i]?)) (h : ws.all goodWord = true) : GoodIn big ws := by
  intro w hw
  have h1 := List.all_eq_true.mp h w hw
  rw [hp] at hw
  obtain ⟨i, -, hi⟩ := List.mem_filterMap.mp hw
  have hm : w ∈ big := by first | exact List.mem_of_getElem? hi | exact List.getElem?_mem hi
  exact ⟨hm, good_of_word h1⟩
theorem goodIn_app {big a b : List Cond} (ha : GoodIn big a) (hb : GoodIn big b) : GoodIn big (a ++ b) := fun w h => (List.mem_append.mp h).elim (ha w) (hb w)
theorem goodIn_ca {big a b : List Cond} {c : Cond} (ha : GoodIn big (c :: a)) (hb : GoodIn big b) : GoodIn big (c :: (a ++ b)) := fun w h => (List.mem_cons.mp h).elim (fun e => ha w (List.mem_cons.mpr (Or.inl e))) (fun h => (List.mem_append.mp h).elim (fun h => ha w (List.mem_cons.mpr (Or.inr h))) (hb w))
theorem goodIn_sub {big ws : List Cond} (hm : ∀ w ∈ ws, w ∈ big) (h : ws.all goodWord = true) : GoodIn big ws := fun w hw => ⟨hm w hw, good_of_word (List.all_eq_true.mp h w hw)⟩
/-! ===== END ===== -/

/-! ===== BEGIN printed: names, fields, word lists, decode rows ===== -/
def RX0 : String := "PictureBeats$Beam"
def TX0 : u_T := fun k => match k with
  | 0 => ("PictureBeats$Beam", "holding", "LPictureBeats$Mode;", true)
  | 1 => ("PictureBeats$Beam", "takenUp", "LPictureBeats$Mode;", true)
  | 2 => ("PictureBeats$Beam", "told", "LPictureBeats$Mode;", true)
  | 3 => ("PictureBeats$Beam", "x", "I", false)
  | 4 => ("PictureBeats$Beam", "y", "I", false)
  | 5 => ("PictureBeats$Beam", "field", "I", false)
  | _ => ("PictureBeats$Beam", "nextField", "I", false)
def tyX0 : Nat → FieldType := fun k => match k with
  | 0 => .object "PictureBeats$Mode"
  | 1 => .object "PictureBeats$Mode"
  | 2 => .object "PictureBeats$Mode"
  | 3 => .int
  | 4 => .int
  | 5 => .int
  | _ => .int
abbrev wsX00 : List Cond := u_ws RX0 TX0 7
theorem nmX0 : ∀ a, a < 7 → ∀ b, b < 7 → a ≠ b → (TX0 a).2.1 ≠ (TX0 b).2.1 := by decide +kernel
theorem tyX0_ok : ∀ k, k < 7 → parseFieldDescriptor (TX0 k).2.2.1 = some (tyX0 k) := by decide +kernel
abbrev cX0_init : ByteArray := prog_2_method_1_code
def yX0_init : MethodName := ⟨RX0, "<init>", "()V"⟩
abbrev cX0_isBehindSeen : ByteArray := prog_2_method_2_code
def yX0_isBehindSeen : MethodName := ⟨RX0, "isBehindSeen", "()Z"⟩
abbrev cX0_isOnLastLine : ByteArray := prog_2_method_3_code
def yX0_isOnLastLine : MethodName := ⟨RX0, "isOnLastLine", "()Z"⟩
abbrev cX0_isOnDot : ByteArray := prog_2_method_4_code
def yX0_isOnDot : MethodName := ⟨RX0, "isOnDot", "()Z"⟩
abbrev cX0_rowHere : ByteArray := prog_2_method_5_code
def yX0_rowHere : MethodName := ⟨RX0, "rowHere", "()I"⟩
abbrev cX0_signalsHere : ByteArray := prog_2_method_6_code
def yX0_signalsHere : MethodName := ⟨RX0, "signalsHere", "()I"⟩
abbrev cX0_takeUp : ByteArray := prog_2_method_7_code
def yX0_takeUp : MethodName := ⟨RX0, "takeUp", "()V"⟩
abbrev cX0_goOn : ByteArray := prog_2_method_8_code
def yX0_goOn : MethodName := ⟨RX0, "goOn", "()V"⟩
abbrev cX0_copyFrom : ByteArray := prog_2_method_9_code
def yX0_copyFrom : MethodName := ⟨RX0, "copyFrom", "(LPictureBeats$Beam;)V"⟩
def RX1 : String := "PictureBeats$Changes"
def TX1 : u_T := fun k => match k with
  | 0 => ("PictureBeats$Changes", "ys", "[I", true)
  | 1 => ("PictureBeats$Changes", "xs", "[I", true)
  | 2 => ("PictureBeats$Changes", "registers", "[I", true)
  | 3 => ("PictureBeats$Changes", "values", "[I", true)
  | _ => ("PictureBeats$Changes", "count", "I", false)
def tyX1 : Nat → FieldType := fun k => match k with
  | 0 => .array .int
  | 1 => .array .int
  | 2 => .array .int
  | 3 => .array .int
  | _ => .int
abbrev wsX10 : List Cond := u_ws RX1 TX1 5
theorem nmX1 : ∀ a, a < 5 → ∀ b, b < 5 → a ≠ b → (TX1 a).2.1 ≠ (TX1 b).2.1 := by decide +kernel
theorem tyX1_ok : ∀ k, k < 5 → parseFieldDescriptor (TX1 k).2.2.1 = some (tyX1 k) := by decide +kernel
abbrev cX1_init : ByteArray := prog_3_method_1_code
def yX1_init : MethodName := ⟨RX1, "<init>", "()V"⟩
abbrev cX1_append : ByteArray := prog_3_method_2_code
def yX1_append : MethodName := ⟨RX1, "append", "(IIII)I"⟩
abbrev cX1_apply : ByteArray := prog_3_method_3_code
def yX1_apply : MethodName := ⟨RX1, "apply", "(IILPictureBeats$Registers;)V"⟩
abbrev cX1_copyFrom : ByteArray := prog_3_method_4_code
def yX1_copyFrom : MethodName := ⟨RX1, "copyFrom", "(LPictureBeats$Changes;)V"⟩
def RX2 : String := "PictureBeats$Feed"
def TX2 : u_T := fun k => match k with
  | 0 => ("PictureBeats$Feed", "queue", "[I", true)
  | 1 => ("PictureBeats$Feed", "first", "I", false)
  | 2 => ("PictureBeats$Feed", "count", "I", false)
  | 3 => ("PictureBeats$Feed", "depth", "I", false)
  | 4 => ("PictureBeats$Feed", "left", "I", false)
  | 5 => ("PictureBeats$Feed", "leftBits", "I", false)
  | 6 => ("PictureBeats$Feed", "row", "I", false)
  | 7 => ("PictureBeats$Feed", "nextByte", "I", false)
  | 8 => ("PictureBeats$Feed", "bytes", "I", false)
  | 9 => ("PictureBeats$Feed", "unders", "I", false)
  | _ => ("PictureBeats$Feed", "fetched", "I", false)
def tyX2 : Nat → FieldType := fun k => match k with
  | 0 => .array .int
  | 1 => .int
  | 2 => .int
  | 3 => .int
  | 4 => .int
  | 5 => .int
  | 6 => .int
  | 7 => .int
  | 8 => .int
  | 9 => .int
  | _ => .int
abbrev wsX20 : List Cond := u_ws RX2 TX2 11
theorem nmX2 : ∀ a, a < 11 → ∀ b, b < 11 → a ≠ b → (TX2 a).2.1 ≠ (TX2 b).2.1 := by decide +kernel
theorem tyX2_ok : ∀ k, k < 11 → parseFieldDescriptor (TX2 k).2.2.1 = some (tyX2 k) := by decide +kernel
abbrev cX2_init : ByteArray := prog_4_method_1_code
def yX2_init : MethodName := ⟨RX2, "<init>", "()V"⟩
abbrev cX2_startLine : ByteArray := prog_4_method_2_code
def yX2_startLine : MethodName := ⟨RX2, "startLine", "(II)V"⟩
abbrev cX2_wantsByte : ByteArray := prog_4_method_3_code
def yX2_wantsByte : MethodName := ⟨RX2, "wantsByte", "()Z"⟩
abbrev cX2_append : ByteArray := prog_4_method_4_code
def yX2_append : MethodName := ⟨RX2, "append", "(I)V"⟩
abbrev cX2_takeBit : ByteArray := prog_4_method_5_code
def yX2_takeBit : MethodName := ⟨RX2, "takeBit", "()I"⟩
abbrev cX2_copyFrom : ByteArray := prog_4_method_6_code
def yX2_copyFrom : MethodName := ⟨RX2, "copyFrom", "(LPictureBeats$Feed;)V"⟩
def RX3 : String := "PictureBeats$Machine"
def TX3 : u_T := fun k => match k with
  | 0 => ("PictureBeats$Machine", "beam", "LPictureBeats$Beam;", true)
  | 1 => ("PictureBeats$Machine", "feed", "LPictureBeats$Feed;", true)
  | 2 => ("PictureBeats$Machine", "registers", "LPictureBeats$Registers;", true)
  | 3 => ("PictureBeats$Machine", "changes", "LPictureBeats$Changes;", true)
  | 4 => ("PictureBeats$Machine", "sprites", "LPictureBeats$Sprites;", true)
  | 5 => ("PictureBeats$Machine", "memory", "[I", true)
  | 6 => ("PictureBeats$Machine", "shown", "[I", true)
  | 7 => ("PictureBeats$Machine", "signals", "[I", true)
  | 8 => ("PictureBeats$Machine", "period", "I", false)
  | 9 => ("PictureBeats$Machine", "pattern", "I", false)
  | 10 => ("PictureBeats$Machine", "ticks", "I", false)
  | _ => ("PictureBeats$Machine", "dots", "I", false)
def tyX3 : Nat → FieldType := fun k => match k with
  | 0 => .object "PictureBeats$Beam"
  | 1 => .object "PictureBeats$Feed"
  | 2 => .object "PictureBeats$Registers"
  | 3 => .object "PictureBeats$Changes"
  | 4 => .object "PictureBeats$Sprites"
  | 5 => .array .int
  | 6 => .array .int
  | 7 => .array .int
  | 8 => .int
  | 9 => .int
  | 10 => .int
  | _ => .int
abbrev wsX30 : List Cond := u_ws RX3 TX3 12
theorem nmX3 : ∀ a, a < 12 → ∀ b, b < 12 → a ≠ b → (TX3 a).2.1 ≠ (TX3 b).2.1 := by decide +kernel
theorem tyX3_ok : ∀ k, k < 12 → parseFieldDescriptor (TX3 k).2.2.1 = some (tyX3 k) := by decide +kernel
abbrev cX3_init : ByteArray := prog_5_method_1_code
def yX3_init : MethodName := ⟨RX3, "<init>", "()V"⟩
abbrev cX3_storeByte : ByteArray := prog_5_method_2_code
def yX3_storeByte : MethodName := ⟨RX3, "storeByte", "(II)V"⟩
abbrev cX3_isTaken : ByteArray := prog_5_method_3_code
def yX3_isTaken : MethodName := ⟨RX3, "isTaken", "()Z"⟩
abbrev cX3_tick : ByteArray := prog_5_method_4_code
def yX3_tick : MethodName := ⟨RX3, "tick", "()V"⟩
abbrev cX3_turnToNextLine : ByteArray := prog_5_method_5_code
def yX3_turnToNextLine : MethodName := ⟨RX3, "turnToNextLine", "()V"⟩
abbrev cX3_startFeed : ByteArray := prog_5_method_6_code
def yX3_startFeed : MethodName := ⟨RX3, "startFeed", "(LPictureBeats$Mode;II)V"⟩
abbrev cX3_fetchByte : ByteArray := prog_5_method_7_code
def yX3_fetchByte : MethodName := ⟨RX3, "fetchByte", "()V"⟩
abbrev cX3_makeDot : ByteArray := prog_5_method_8_code
def yX3_makeDot : MethodName := ⟨RX3, "makeDot", "()V"⟩
abbrev cX3_takeScroll : ByteArray := prog_5_method_9_code
def yX3_takeScroll : MethodName := ⟨RX3, "takeScroll", "()V"⟩
abbrev cX3_colourOf : ByteArray := prog_5_method_10_code
def yX3_colourOf : MethodName := ⟨RX3, "colourOf", "(I)I"⟩
abbrev cX3_copyFrom : ByteArray := prog_5_method_11_code
def yX3_copyFrom : MethodName := ⟨RX3, "copyFrom", "(LPictureBeats$Machine;)V"⟩
def RX4 : String := "PictureBeats$Mode"
def TX4 : u_T := fun k => match k with
  | 0 => ("PictureBeats$Mode", "across", "LPictureBeats$Span;", true)
  | 1 => ("PictureBeats$Mode", "down", "LPictureBeats$Span;", true)
  | _ => ("PictureBeats$Mode", "interlaced", "Z", false)
def tyX4 : Nat → FieldType := fun k => match k with
  | 0 => .object "PictureBeats$Span"
  | 1 => .object "PictureBeats$Span"
  | _ => .boolean
abbrev wsX40 : List Cond := u_ws RX4 TX4 3
theorem nmX4 : ∀ a, a < 3 → ∀ b, b < 3 → a ≠ b → (TX4 a).2.1 ≠ (TX4 b).2.1 := by decide +kernel
theorem tyX4_ok : ∀ k, k < 3 → parseFieldDescriptor (TX4 k).2.2.1 = some (tyX4 k) := by decide +kernel
abbrev cX4_init : ByteArray := prog_6_method_1_code
def yX4_init : MethodName := ⟨RX4, "<init>", "()V"⟩
abbrev cX4_rowOf : ByteArray := prog_6_method_2_code
def yX4_rowOf : MethodName := ⟨RX4, "rowOf", "(II)I"⟩
abbrev cX4_copyFrom : ByteArray := prog_6_method_3_code
def yX4_copyFrom : MethodName := ⟨RX4, "copyFrom", "(LPictureBeats$Mode;)V"⟩
def RX5 : String := "PictureBeats$Registers"
def TX5 : u_T := fun k => match k with
  | _ => ("PictureBeats$Registers", "values", "[I", true)
def tyX5 : Nat → FieldType := fun k => match k with
  | _ => .array .int
abbrev wsX50 : List Cond := u_ws RX5 TX5 1
theorem nmX5 : ∀ a, a < 1 → ∀ b, b < 1 → a ≠ b → (TX5 a).2.1 ≠ (TX5 b).2.1 := by decide +kernel
theorem tyX5_ok : ∀ k, k < 1 → parseFieldDescriptor (TX5 k).2.2.1 = some (tyX5 k) := by decide +kernel
abbrev cX5_init : ByteArray := prog_7_method_1_code
def yX5_init : MethodName := ⟨RX5, "<init>", "()V"⟩
abbrev cX5_takes : ByteArray := prog_7_method_2_code
def yX5_takes : MethodName := ⟨RX5, "takes", "(II)Z"⟩
abbrev cX5_change : ByteArray := prog_7_method_3_code
def yX5_change : MethodName := ⟨RX5, "change", "(II)Z"⟩
abbrev cX5_read : ByteArray := prog_7_method_4_code
def yX5_read : MethodName := ⟨RX5, "read", "(I)I"⟩
abbrev cX5_copyFrom : ByteArray := prog_7_method_5_code
def yX5_copyFrom : MethodName := ⟨RX5, "copyFrom", "(LPictureBeats$Registers;)V"⟩
def RX6 : String := "PictureBeats$Span"
def TX6 : u_T := fun k => match k with
  | 0 => ("PictureBeats$Span", "seen", "I", false)
  | 1 => ("PictureBeats$Span", "front", "I", false)
  | 2 => ("PictureBeats$Span", "sync", "I", false)
  | _ => ("PictureBeats$Span", "back", "I", false)
def tyX6 : Nat → FieldType := fun k => match k with
  | 0 => .int
  | 1 => .int
  | 2 => .int
  | _ => .int
abbrev wsX60 : List Cond := u_ws RX6 TX6 4
theorem nmX6 : ∀ a, a < 4 → ∀ b, b < 4 → a ≠ b → (TX6 a).2.1 ≠ (TX6 b).2.1 := by decide +kernel
theorem tyX6_ok : ∀ k, k < 4 → parseFieldDescriptor (TX6 k).2.2.1 = some (tyX6 k) := by decide +kernel
abbrev cX6_init : ByteArray := prog_8_method_1_code
def yX6_init : MethodName := ⟨RX6, "<init>", "(IIII)V"⟩
abbrev cX6_tell : ByteArray := prog_8_method_2_code
def yX6_tell : MethodName := ⟨RX6, "tell", "(IIII)V"⟩
abbrev cX6_whole : ByteArray := prog_8_method_3_code
def yX6_whole : MethodName := ⟨RX6, "whole", "()I"⟩
abbrev cX6_isSeen : ByteArray := prog_8_method_4_code
def yX6_isSeen : MethodName := ⟨RX6, "isSeen", "(I)Z"⟩
abbrev cX6_isSync : ByteArray := prog_8_method_5_code
def yX6_isSync : MethodName := ⟨RX6, "isSync", "(I)Z"⟩
abbrev cX6_copyFrom : ByteArray := prog_8_method_6_code
def yX6_copyFrom : MethodName := ⟨RX6, "copyFrom", "(LPictureBeats$Span;)V"⟩
def RX7 : String := "PictureBeats$Sprites"
def TX7 : u_T := fun k => match k with
  | 0 => ("PictureBeats$Sprites", "xs", "[I", true)
  | 1 => ("PictureBeats$Sprites", "rows", "[I", true)
  | 2 => ("PictureBeats$Sprites", "heights", "[I", true)
  | 3 => ("PictureBeats$Sprites", "drawn", "[I", true)
  | _ => ("PictureBeats$Sprites", "present", "[I", true)
def tyX7 : Nat → FieldType := fun k => match k with
  | 0 => .array .int
  | 1 => .array .int
  | 2 => .array .int
  | 3 => .array .int
  | _ => .array .int
abbrev wsX70 : List Cond := u_ws RX7 TX7 5
theorem nmX7 : ∀ a, a < 5 → ∀ b, b < 5 → a ≠ b → (TX7 a).2.1 ≠ (TX7 b).2.1 := by decide +kernel
theorem tyX7_ok : ∀ k, k < 5 → parseFieldDescriptor (TX7 k).2.2.1 = some (tyX7 k) := by decide +kernel
abbrev cX7_init : ByteArray := prog_9_method_1_code
def yX7_init : MethodName := ⟨RX7, "<init>", "()V"⟩
abbrev cX7_move : ByteArray := prog_9_method_2_code
def yX7_move : MethodName := ⟨RX7, "move", "(IIII)V"⟩
abbrev cX7_turnPresence : ByteArray := prog_9_method_3_code
def yX7_turnPresence : MethodName := ⟨RX7, "turnPresence", "(I)V"⟩
abbrev cX7_draw : ByteArray := prog_9_method_4_code
def yX7_draw : MethodName := ⟨RX7, "draw", "(III)V"⟩
abbrev cX7_membersOf : ByteArray := prog_9_method_5_code
def yX7_membersOf : MethodName := ⟨RX7, "membersOf", "(I)I"⟩
abbrev cX7_showing : ByteArray := prog_9_method_6_code
def yX7_showing : MethodName := ⟨RX7, "showing", "(II)I"⟩
abbrev cX7_hasBit : ByteArray := prog_9_method_7_code
def yX7_hasBit : MethodName := ⟨RX7, "hasBit", "(III)Z"⟩
abbrev cX7_copyFrom : ByteArray := prog_9_method_8_code
def yX7_copyFrom : MethodName := ⟨RX7, "copyFrom", "(LPictureBeats$Sprites;)V"⟩
def RX8 : String := "PictureBeats"
def TX8 : u_T := fun k => match k with
  | 0 => ("PictureBeats", "machine", "LPictureBeats$Machine;", true)
  | _ => ("PictureBeats", "images", "[LPictureBeats$Machine;", true)
def tyX8 : Nat → FieldType := fun k => match k with
  | 0 => .object "PictureBeats$Machine"
  | _ => .array (.object "PictureBeats$Machine")
abbrev wsX80 : List Cond := u_ws RX8 TX8 2
theorem nmX8 : ∀ a, a < 2 → ∀ b, b < 2 → a ≠ b → (TX8 a).2.1 ≠ (TX8 b).2.1 := by decide +kernel
theorem tyX8_ok : ∀ k, k < 2 → parseFieldDescriptor (TX8 k).2.2.1 = some (tyX8 k) := by decide +kernel
abbrev cX8_init : ByteArray := prog_1_method_1_code
def yX8_init : MethodName := ⟨RX8, "<init>", "()V"⟩
abbrev cX8_line : ByteArray := prog_1_method_2_code
def yX8_line : MethodName := ⟨RX8, "line", "(IIII)Z"⟩
abbrev cX8_field : ByteArray := prog_1_method_3_code
def yX8_field : MethodName := ⟨RX8, "field", "(IIIIZ)Z"⟩
abbrev cX8_put : ByteArray := prog_1_method_4_code
def yX8_put : MethodName := ⟨RX8, "put", "(II)Z"⟩
abbrev cX8_four : ByteArray := prog_1_method_5_code
def yX8_four : MethodName := ⟨RX8, "four", "(II)Z"⟩
abbrev cX8_register : ByteArray := prog_1_method_6_code
def yX8_register : MethodName := ⟨RX8, "register", "(II)Z"⟩
abbrev cX8_entry : ByteArray := prog_1_method_7_code
def yX8_entry : MethodName := ⟨RX8, "entry", "(IIII)I"⟩
abbrev cX8_clear : ByteArray := prog_1_method_8_code
def yX8_clear : MethodName := ⟨RX8, "clear", "()V"⟩
abbrev cX8_readers : ByteArray := prog_1_method_9_code
def yX8_readers : MethodName := ⟨RX8, "readers", "(II)Z"⟩
abbrev cX8_depth : ByteArray := prog_1_method_10_code
def yX8_depth : MethodName := ⟨RX8, "depth", "(I)Z"⟩
abbrev cX8_sprite : ByteArray := prog_1_method_11_code
def yX8_sprite : MethodName := ⟨RX8, "sprite", "(IIII)Z"⟩
abbrev cX8_bits : ByteArray := prog_1_method_12_code
def yX8_bits : MethodName := ⟨RX8, "bits", "(IZI)Z"⟩
abbrev cX8_ticks : ByteArray := prog_1_method_13_code
def yX8_ticks : MethodName := ⟨RX8, "ticks", "(I)I"⟩
abbrev cX8_shown : ByteArray := prog_1_method_14_code
def yX8_shown : MethodName := ⟨RX8, "shown", "(II)I"⟩
abbrev cX8_now : ByteArray := prog_1_method_15_code
def yX8_now : MethodName := ⟨RX8, "now", "(I)I"⟩
abbrev cX8_signals : ByteArray := prog_1_method_16_code
def yX8_signals : MethodName := ⟨RX8, "signals", "(I)I"⟩
abbrev cX8_value : ByteArray := prog_1_method_17_code
def yX8_value : MethodName := ⟨RX8, "value", "(I)I"⟩
abbrev cX8_row : ByteArray := prog_1_method_18_code
def yX8_row : MethodName := ⟨RX8, "row", "(II)I"⟩
abbrev cX8_least : ByteArray := prog_1_method_19_code
def yX8_least : MethodName := ⟨RX8, "least", "(II)I"⟩
abbrev cX8_fit : ByteArray := prog_1_method_20_code
def yX8_fit : MethodName := ⟨RX8, "fit", "(IIIIII)I"⟩
abbrev cX8_image : ByteArray := prog_1_method_21_code
def yX8_image : MethodName := ⟨RX8, "image", "(I)Z"⟩
abbrev cX8_again : ByteArray := prog_1_method_22_code
def yX8_again : MethodName := ⟨RX8, "again", "(I)Z"⟩
abbrev cX8_within : ByteArray := prog_1_method_23_code
def yX8_within : MethodName := ⟨RX8, "within", "(III)Z"⟩
abbrev cX8_placeOf : ByteArray := prog_1_method_24_code
def yX8_placeOf : MethodName := ⟨RX8, "placeOf", "(II)I"⟩
abbrev cX8_bytesOfLine : ByteArray := prog_1_method_25_code
def yX8_bytesOfLine : MethodName := ⟨RX8, "bytesOfLine", "(I)I"⟩
abbrev cX8_fewestQueued : ByteArray := prog_1_method_26_code
def yX8_fewestQueued : MethodName := ⟨RX8, "fewestQueued", "(III)I"⟩
abbrev cX8_areFitBounds : ByteArray := prog_1_method_27_code
def yX8_areFitBounds : MethodName := ⟨RX8, "areFitBounds", "(II)Z"⟩
abbrev cX8_isNearer : ByteArray := prog_1_method_28_code
def yX8_isNearer : MethodName := ⟨RX8, "isNearer", "(IIII)Z"⟩
def RX9 : String := "PictureBeatsModel"
def TX9 : u_T := fun k => match k with
  | 0 => ("PictureBeatsModel", "all", "[I", true)
  | _ => ("PictureBeatsModel", "has", "[Z", true)
def tyX9 : Nat → FieldType := fun k => match k with
  | 0 => .array .int
  | _ => .array .boolean
abbrev wsX90 : List Cond := u_ws RX9 TX9 2
theorem nmX9 : ∀ a, a < 2 → ∀ b, b < 2 → a ≠ b → (TX9 a).2.1 ≠ (TX9 b).2.1 := by decide +kernel
theorem tyX9_ok : ∀ k, k < 2 → parseFieldDescriptor (TX9 k).2.2.1 = some (tyX9 k) := by decide +kernel
abbrev cX9_init : ByteArray := prog_11_method_1_code
def yX9_init : MethodName := ⟨RX9, "<init>", "()V"⟩
abbrev cX9_isIn : ByteArray := prog_11_method_2_code
def yX9_isIn : MethodName := ⟨RX9, "isIn", "(III)Z"⟩
abbrev cX9_line : ByteArray := prog_11_method_3_code
def yX9_line : MethodName := ⟨RX9, "line", "(IIII)Z"⟩
abbrev cX9_field : ByteArray := prog_11_method_4_code
def yX9_field : MethodName := ⟨RX9, "field", "(IIIIZ)Z"⟩
abbrev cX9_ticksOf : ByteArray := prog_11_method_5_code
def yX9_ticksOf : MethodName := ⟨RX9, "ticksOf", "(I)I"⟩
abbrev cX9_linesOf : ByteArray := prog_11_method_6_code
def yX9_linesOf : MethodName := ⟨RX9, "linesOf", "(I)I"⟩
abbrev cX9_nextField : ByteArray := prog_11_method_7_code
def yX9_nextField : MethodName := ⟨RX9, "nextField", "()I"⟩
abbrev cX9_rowOf : ByteArray := prog_11_method_8_code
def yX9_rowOf : MethodName := ⟨RX9, "rowOf", "(III)I"⟩
abbrev cX9_put : ByteArray := prog_11_method_9_code
def yX9_put : MethodName := ⟨RX9, "put", "(II)Z"⟩
abbrev cX9_four : ByteArray := prog_11_method_10_code
def yX9_four : MethodName := ⟨RX9, "four", "(II)Z"⟩
abbrev cX9_isValue : ByteArray := prog_11_method_11_code
def yX9_isValue : MethodName := ⟨RX9, "isValue", "(II)Z"⟩
abbrev cX9_register : ByteArray := prog_11_method_12_code
def yX9_register : MethodName := ⟨RX9, "register", "(II)Z"⟩
abbrev cX9_entry : ByteArray := prog_11_method_13_code
def yX9_entry : MethodName := ⟨RX9, "entry", "(IIII)I"⟩
abbrev cX9_clear : ByteArray := prog_11_method_14_code
def yX9_clear : MethodName := ⟨RX9, "clear", "()V"⟩
abbrev cX9_readers : ByteArray := prog_11_method_15_code
def yX9_readers : MethodName := ⟨RX9, "readers", "(II)Z"⟩
abbrev cX9_depth : ByteArray := prog_11_method_16_code
def yX9_depth : MethodName := ⟨RX9, "depth", "(I)Z"⟩
abbrev cX9_sprite : ByteArray := prog_11_method_17_code
def yX9_sprite : MethodName := ⟨RX9, "sprite", "(IIII)Z"⟩
abbrev cX9_bits : ByteArray := prog_11_method_18_code
def yX9_bits : MethodName := ⟨RX9, "bits", "(IZI)Z"⟩
abbrev cX9_hasRow : ByteArray := prog_11_method_19_code
def yX9_hasRow : MethodName := ⟨RX9, "hasRow", "(II)Z"⟩
abbrev cX9_spritesOf : ByteArray := prog_11_method_20_code
def yX9_spritesOf : MethodName := ⟨RX9, "spritesOf", "(I)I"⟩
abbrev cX9_isTaken : ByteArray := prog_11_method_21_code
def yX9_isTaken : MethodName := ⟨RX9, "isTaken", "()Z"⟩
abbrev cX9_signalsNow : ByteArray := prog_11_method_22_code
def yX9_signalsNow : MethodName := ⟨RX9, "signalsNow", "()I"⟩
abbrev cX9_bytesOf : ByteArray := prog_11_method_23_code
def yX9_bytesOf : MethodName := ⟨RX9, "bytesOf", "(I)I"⟩
abbrev cX9_begins : ByteArray := prog_11_method_24_code
def yX9_begins : MethodName := ⟨RX9, "begins", "()V"⟩
abbrev cX9_fetches : ByteArray := prog_11_method_25_code
def yX9_fetches : MethodName := ⟨RX9, "fetches", "()V"⟩
abbrev cX9_takes : ByteArray := prog_11_method_26_code
def yX9_takes : MethodName := ⟨RX9, "takes", "()I"⟩
abbrev cX9_dots : ByteArray := prog_11_method_27_code
def yX9_dots : MethodName := ⟨RX9, "dots", "()V"⟩
abbrev cX9_goesOn : ByteArray := prog_11_method_28_code
def yX9_goesOn : MethodName := ⟨RX9, "goesOn", "()V"⟩
abbrev cX9_aTick : ByteArray := prog_11_method_29_code
def yX9_aTick : MethodName := ⟨RX9, "aTick", "()V"⟩
abbrev cX9_ticks : ByteArray := prog_11_method_30_code
def yX9_ticks : MethodName := ⟨RX9, "ticks", "(I)I"⟩
abbrev cX9_shown : ByteArray := prog_11_method_31_code
def yX9_shown : MethodName := ⟨RX9, "shown", "(II)I"⟩
abbrev cX9_now : ByteArray := prog_11_method_32_code
def yX9_now : MethodName := ⟨RX9, "now", "(I)I"⟩
abbrev cX9_signals : ByteArray := prog_11_method_33_code
def yX9_signals : MethodName := ⟨RX9, "signals", "(I)I"⟩
abbrev cX9_value : ByteArray := prog_11_method_34_code
def yX9_value : MethodName := ⟨RX9, "value", "(I)I"⟩
abbrev cX9_row : ByteArray := prog_11_method_35_code
def yX9_row : MethodName := ⟨RX9, "row", "(II)I"⟩
abbrev cX9_leastOf : ByteArray := prog_11_method_36_code
def yX9_leastOf : MethodName := ⟨RX9, "leastOf", "(II)I"⟩
abbrev cX9_bitsOf : ByteArray := prog_11_method_37_code
def yX9_bitsOf : MethodName := ⟨RX9, "bitsOf", "(I)I"⟩
abbrev cX9_least : ByteArray := prog_11_method_38_code
def yX9_least : MethodName := ⟨RX9, "least", "(II)I"⟩
abbrev cX9_fit : ByteArray := prog_11_method_39_code
def yX9_fit : MethodName := ⟨RX9, "fit", "(IIIIII)I"⟩
abbrev cX9_image : ByteArray := prog_11_method_40_code
def yX9_image : MethodName := ⟨RX9, "image", "(I)Z"⟩
abbrev cX9_again : ByteArray := prog_11_method_41_code
def yX9_again : MethodName := ⟨RX9, "again", "(I)Z"⟩
def RJ6 : String := "java/lang/Integer"
def TJ6 : u_T := fun k => match k with
  | _ => ("", "", "", false)
def tyJ6 : Nat → FieldType := fun k => match k with
  | _ => .int
abbrev wsJ60 : List Cond := u_ws RJ6 TJ6 0
theorem nmJ6 : ∀ a, a < 0 → ∀ b, b < 0 → a ≠ b → (TJ6 a).2.1 ≠ (TJ6 b).2.1 := by decide +kernel
theorem tyJ6_ok : ∀ k, k < 0 → parseFieldDescriptor (TJ6 k).2.2.1 = some (tyJ6 k) := by decide +kernel
abbrev cJ6_bitCount_0f7a4 : ByteArray := prog_12_method_49_code
def yJ6_bitCount_0f7a4 : MethodName := ⟨RJ6, "bitCount", "(I)I"⟩
def RJ9 : String := "java/lang/Math"
def TJ9 : u_T := fun k => match k with
  | _ => ("", "", "", false)
def tyJ9 : Nat → FieldType := fun k => match k with
  | _ => .int
abbrev wsJ90 : List Cond := u_ws RJ9 TJ9 0
theorem nmJ9 : ∀ a, a < 0 → ∀ b, b < 0 → a ≠ b → (TJ9 a).2.1 ≠ (TJ9 b).2.1 := by decide +kernel
theorem tyJ9_ok : ∀ k, k < 0 → parseFieldDescriptor (TJ9 k).2.2.1 = some (tyJ9 k) := by decide +kernel
abbrev cJ9_abs_067f4 : ByteArray := prog_13_method_61_code
def yJ9_abs_067f4 : MethodName := ⟨RJ9, "abs", "(J)J"⟩
abbrev cJ9_max_7cf53 : ByteArray := prog_13_method_65_code
def yJ9_max_7cf53 : MethodName := ⟨RJ9, "max", "(II)I"⟩
abbrev cJ9_min_7cf53 : ByteArray := prog_13_method_69_code
def yJ9_min_7cf53 : MethodName := ⟨RJ9, "min", "(II)I"⟩
def RJ10 : String := "java/lang/System"
def TJ10 : u_T := fun k => match k with
  | _ => ("", "", "", false)
def tyJ10 : Nat → FieldType := fun k => match k with
  | _ => .int
abbrev wsJ100 : List Cond := u_ws RJ10 TJ10 0
theorem nmJ10 : ∀ a, a < 0 → ∀ b, b < 0 → a ≠ b → (TJ10 a).2.1 ≠ (TJ10 b).2.1 := by decide +kernel
theorem tyJ10_ok : ∀ k, k < 0 → parseFieldDescriptor (TJ10 k).2.2.1 = some (tyJ10 k) := by decide +kernel
def RJ7 : String := "java/util/Arrays"
def TJ7 : u_T := fun k => match k with
  | _ => ("", "", "", false)
def tyJ7 : Nat → FieldType := fun k => match k with
  | _ => .int
abbrev wsJ70 : List Cond := u_ws RJ7 TJ7 0
theorem nmJ7 : ∀ a, a < 0 → ∀ b, b < 0 → a ≠ b → (TJ7 a).2.1 ≠ (TJ7 b).2.1 := by decide +kernel
theorem tyJ7_ok : ∀ k, k < 0 → parseFieldDescriptor (TJ7 k).2.2.1 = some (tyJ7 k) := by decide +kernel
abbrev cJ7_fill_53178 : ByteArray := prog_15_method_103_code
def yJ7_fill_53178 : MethodName := ⟨RJ7, "fill", "([II)V"⟩
def RL : String := "PictureBeatsLaw"
abbrev cL_law : ByteArray := code
def yL_law : MethodName := ⟨RL, "law", "([I)Z"⟩
def wsX6_init : List Cond := .code yX6_init cX6_init 5 none :: ([.methodLink RX6 1 objectInit, .instanceMethod objectInit, .code objectInit ⟨#[0xb1]⟩ 1 none, .fieldLink RX6 7 "PictureBeats$Span" "seen" "I", .fieldLink RX6 13 "PictureBeats$Span" "front" "I", .fieldLink RX6 16 "PictureBeats$Span" "sync" "I", .fieldLink RX6 19 "PictureBeats$Span" "back" "I"] ++ wsX60)
def wsX4_init : List Cond := .code yX4_init cX4_init 1 none :: ([.methodLink RX4 1 objectInit, .instanceMethod objectInit, .code objectInit ⟨#[0xb1]⟩ 1 none, .classLink RX4 7 RX6, .instantiable RX6 4, .initialized RX6, .fieldLink RX4 12 "PictureBeats$Mode" "across" "LPictureBeats$Span;", .fieldLink RX4 18 "PictureBeats$Mode" "down" "LPictureBeats$Span;", .methodLink RX4 9 yX6_init, .instanceMethod yX6_init, .code yX6_init cX6_init 5 none, .methodLink RX6 1 objectInit, .fieldLink RX6 7 "PictureBeats$Span" "seen" "I", .fieldLink RX6 13 "PictureBeats$Span" "front" "I", .fieldLink RX6 16 "PictureBeats$Span" "sync" "I", .fieldLink RX6 19 "PictureBeats$Span" "back" "I"] ++ wsX60 ++ wsX40)
def wsX6_whole : List Cond := .code yX6_whole cX6_whole 1 (some .int) :: ([.fieldLink RX6 7 "PictureBeats$Span" "seen" "I", .fieldLink RX6 13 "PictureBeats$Span" "front" "I", .fieldLink RX6 16 "PictureBeats$Span" "sync" "I", .fieldLink RX6 19 "PictureBeats$Span" "back" "I"] ++ wsX60)
def wsX0_init_r1 : List Cond := [Cond.methodLink RX0 3 objectInit, Cond.instanceMethod objectInit, Cond.code objectInit ⟨#[0xb1]⟩ 1 none, Cond.classLink RX0 9 RX4, Cond.instantiable RX4 3, Cond.initialized RX4, Cond.fieldLink RX0 12 "PictureBeats$Beam" "holding" "LPictureBeats$Mode;", Cond.fieldLink RX0 18 "PictureBeats$Beam" "takenUp" "LPictureBeats$Mode;", Cond.fieldLink RX0 21 "PictureBeats$Beam" "told" "LPictureBeats$Mode;", Cond.fieldLink RX0 24 "PictureBeats$Mode" "across" "LPictureBeats$Span;", Cond.fieldLink RX0 28 "PictureBeats$Span" "seen" "I", Cond.fieldLink RX0 34 "PictureBeats$Beam" "x" "I", Cond.fieldLink RX0 37 "PictureBeats$Mode" "down" "LPictureBeats$Span;", Cond.fieldLink RX0 44 "PictureBeats$Beam" "y" "I", Cond.instanceMethod yX4_init, Cond.code yX4_init cX4_init 1 none, Cond.methodLink RX4 1 objectInit, Cond.classLink RX4 7 RX6, Cond.instantiable RX6 4, Cond.initialized RX6, Cond.fieldLink RX4 12 "PictureBeats$Mode" "across" "LPictureBeats$Span;", Cond.fieldLink RX4 18 "PictureBeats$Mode" "down" "LPictureBeats$Span;", Cond.methodLink RX4 9 yX6_init, Cond.instanceMethod yX6_init]
def wsX0_init_r2 : List Cond := [Cond.code yX6_init cX6_init 5 none, Cond.methodLink RX6 1 objectInit, Cond.fieldLink RX6 7 "PictureBeats$Span" "seen" "I", Cond.fieldLink RX6 13 "PictureBeats$Span" "front" "I", Cond.fieldLink RX6 16 "PictureBeats$Span" "sync" "I", Cond.fieldLink RX6 19 "PictureBeats$Span" "back" "I", Cond.methodLink RX0 40 yX6_whole, Cond.instanceMethod yX6_whole, Cond.selects RX6 yX6_whole yX6_whole, Cond.code yX6_whole cX6_whole 1 (some .int)]
def wsX0_init : List Cond := .code yX0_init cX0_init 1 none :: ((wsX0_init_r1 ++ wsX0_init_r2) ++ wsX40 ++ wsX00 ++ wsX60)
def wsX0_isBehindSeen : List Cond := .code yX0_isBehindSeen cX0_isBehindSeen 1 (some .boolean) :: ([.fieldLink RX0 34 "PictureBeats$Beam" "x" "I", .fieldLink RX0 12 "PictureBeats$Beam" "holding" "LPictureBeats$Mode;", .fieldLink RX0 24 "PictureBeats$Mode" "across" "LPictureBeats$Span;", .fieldLink RX0 28 "PictureBeats$Span" "seen" "I"] ++ wsX00 ++ wsX40 ++ wsX60)
def wsX0_isOnLastLine : List Cond := .code yX0_isOnLastLine cX0_isOnLastLine 1 (some .boolean) :: ([.fieldLink RX0 44 "PictureBeats$Beam" "y" "I", .fieldLink RX0 12 "PictureBeats$Beam" "holding" "LPictureBeats$Mode;", .fieldLink RX0 37 "PictureBeats$Mode" "down" "LPictureBeats$Span;", .methodLink RX0 40 yX6_whole, .instanceMethod yX6_whole, .selects RX6 yX6_whole yX6_whole, .initialized RX6, .code yX6_whole cX6_whole 1 (some .int), .fieldLink RX6 7 "PictureBeats$Span" "seen" "I", .fieldLink RX6 13 "PictureBeats$Span" "front" "I", .fieldLink RX6 16 "PictureBeats$Span" "sync" "I", .fieldLink RX6 19 "PictureBeats$Span" "back" "I"] ++ wsX00 ++ wsX40 ++ wsX60)
def wsX6_isSeen : List Cond := .code yX6_isSeen cX6_isSeen 2 (some .boolean) :: ([.fieldLink RX6 7 "PictureBeats$Span" "seen" "I"] ++ wsX60)
def wsX0_isOnDot : List Cond := .code yX0_isOnDot cX0_isOnDot 1 (some .boolean) :: ([.fieldLink RX0 12 "PictureBeats$Beam" "holding" "LPictureBeats$Mode;", .fieldLink RX0 24 "PictureBeats$Mode" "across" "LPictureBeats$Span;", .fieldLink RX0 34 "PictureBeats$Beam" "x" "I", .fieldLink RX0 37 "PictureBeats$Mode" "down" "LPictureBeats$Span;", .fieldLink RX0 44 "PictureBeats$Beam" "y" "I", .methodLink RX0 47 yX6_isSeen, .instanceMethod yX6_isSeen, .selects RX6 yX6_isSeen yX6_isSeen, .initialized RX6, .code yX6_isSeen cX6_isSeen 2 (some .boolean), .fieldLink RX6 7 "PictureBeats$Span" "seen" "I"] ++ wsX00 ++ wsX40 ++ wsX60)
def wsX4_rowOf : List Cond := .code yX4_rowOf cX4_rowOf 3 (some .int) :: ([.fieldLink RX4 21 "PictureBeats$Mode" "interlaced" "Z"] ++ wsX40)
def wsX0_rowHere : List Cond := .code yX0_rowHere cX0_rowHere 1 (some .int) :: ([.fieldLink RX0 12 "PictureBeats$Beam" "holding" "LPictureBeats$Mode;", .fieldLink RX0 44 "PictureBeats$Beam" "y" "I", .fieldLink RX0 51 "PictureBeats$Beam" "field" "I", .methodLink RX0 54 yX4_rowOf, .instanceMethod yX4_rowOf, .selects RX4 yX4_rowOf yX4_rowOf, .initialized RX4, .code yX4_rowOf cX4_rowOf 3 (some .int), .fieldLink RX4 21 "PictureBeats$Mode" "interlaced" "Z"] ++ wsX00 ++ wsX40)
def wsX6_isSync : List Cond := .code yX6_isSync cX6_isSync 3 (some .boolean) :: ([.fieldLink RX6 7 "PictureBeats$Span" "seen" "I", .fieldLink RX6 13 "PictureBeats$Span" "front" "I", .fieldLink RX6 16 "PictureBeats$Span" "sync" "I"] ++ wsX60)
def wsX0_signalsHere : List Cond := .code yX0_signalsHere cX0_signalsHere 1 (some .int) :: ([.fieldLink RX0 12 "PictureBeats$Beam" "holding" "LPictureBeats$Mode;", .fieldLink RX0 24 "PictureBeats$Mode" "across" "LPictureBeats$Span;", .fieldLink RX0 34 "PictureBeats$Beam" "x" "I", .fieldLink RX0 37 "PictureBeats$Mode" "down" "LPictureBeats$Span;", .fieldLink RX0 44 "PictureBeats$Beam" "y" "I", .methodLink RX0 58 yX6_isSync, .instanceMethod yX6_isSync, .selects RX6 yX6_isSync yX6_isSync, .initialized RX6, .code yX6_isSync cX6_isSync 3 (some .boolean), .fieldLink RX6 7 "PictureBeats$Span" "seen" "I", .fieldLink RX6 13 "PictureBeats$Span" "front" "I", .fieldLink RX6 16 "PictureBeats$Span" "sync" "I", .methodLink RX0 61 yX0_isOnDot, .instanceMethod yX0_isOnDot, .selects RX0 yX0_isOnDot yX0_isOnDot, .initialized RX0, .code yX0_isOnDot cX0_isOnDot 1 (some .boolean), .methodLink RX0 47 yX6_isSeen, .instanceMethod yX6_isSeen, .selects RX6 yX6_isSeen yX6_isSeen, .code yX6_isSeen cX6_isSeen 2 (some .boolean)] ++ wsX00 ++ wsX40 ++ wsX60)
def wsX6_tell : List Cond := .code yX6_tell cX6_tell 5 none :: ([.fieldLink RX6 7 "PictureBeats$Span" "seen" "I", .fieldLink RX6 13 "PictureBeats$Span" "front" "I", .fieldLink RX6 16 "PictureBeats$Span" "sync" "I", .fieldLink RX6 19 "PictureBeats$Span" "back" "I"] ++ wsX60)
def wsX6_copyFrom : List Cond := .code yX6_copyFrom cX6_copyFrom 2 none :: ([.fieldLink RX6 7 "PictureBeats$Span" "seen" "I", .fieldLink RX6 13 "PictureBeats$Span" "front" "I", .fieldLink RX6 16 "PictureBeats$Span" "sync" "I", .fieldLink RX6 19 "PictureBeats$Span" "back" "I", .methodLink RX6 22 yX6_tell, .instanceMethod yX6_tell, .selects RX6 yX6_tell yX6_tell, .initialized RX6, .code yX6_tell cX6_tell 5 none] ++ wsX60)
def wsX4_copyFrom : List Cond := .code yX4_copyFrom cX4_copyFrom 2 none :: ([.fieldLink RX4 12 "PictureBeats$Mode" "across" "LPictureBeats$Span;", .fieldLink RX4 18 "PictureBeats$Mode" "down" "LPictureBeats$Span;", .fieldLink RX4 21 "PictureBeats$Mode" "interlaced" "Z", .methodLink RX4 25 yX6_copyFrom, .instanceMethod yX6_copyFrom, .selects RX6 yX6_copyFrom yX6_copyFrom, .initialized RX6, .code yX6_copyFrom cX6_copyFrom 2 none, .fieldLink RX6 7 "PictureBeats$Span" "seen" "I", .fieldLink RX6 13 "PictureBeats$Span" "front" "I", .fieldLink RX6 16 "PictureBeats$Span" "sync" "I", .fieldLink RX6 19 "PictureBeats$Span" "back" "I", .methodLink RX6 22 yX6_tell, .instanceMethod yX6_tell, .selects RX6 yX6_tell yX6_tell, .code yX6_tell cX6_tell 5 none] ++ wsX40 ++ wsX60)
def wsX0_takeUp_r1 : List Cond := [Cond.fieldLink RX0 18 "PictureBeats$Beam" "takenUp" "LPictureBeats$Mode;", Cond.fieldLink RX0 21 "PictureBeats$Beam" "told" "LPictureBeats$Mode;", Cond.fieldLink RX0 12 "PictureBeats$Beam" "holding" "LPictureBeats$Mode;", Cond.fieldLink RX0 69 "PictureBeats$Mode" "interlaced" "Z", Cond.fieldLink RX0 51 "PictureBeats$Beam" "field" "I", Cond.fieldLink RX0 73 "PictureBeats$Beam" "nextField" "I", Cond.methodLink RX0 65 yX4_copyFrom, Cond.instanceMethod yX4_copyFrom, Cond.selects RX4 yX4_copyFrom yX4_copyFrom, Cond.initialized RX4, Cond.code yX4_copyFrom cX4_copyFrom 2 none, Cond.fieldLink RX4 12 "PictureBeats$Mode" "across" "LPictureBeats$Span;", Cond.fieldLink RX4 18 "PictureBeats$Mode" "down" "LPictureBeats$Span;", Cond.fieldLink RX4 21 "PictureBeats$Mode" "interlaced" "Z", Cond.methodLink RX4 25 yX6_copyFrom, Cond.instanceMethod yX6_copyFrom, Cond.selects RX6 yX6_copyFrom yX6_copyFrom, Cond.initialized RX6, Cond.code yX6_copyFrom cX6_copyFrom 2 none, Cond.fieldLink RX6 7 "PictureBeats$Span" "seen" "I", Cond.fieldLink RX6 13 "PictureBeats$Span" "front" "I", Cond.fieldLink RX6 16 "PictureBeats$Span" "sync" "I", Cond.fieldLink RX6 19 "PictureBeats$Span" "back" "I", Cond.methodLink RX6 22 yX6_tell]
def wsX0_takeUp_r2 : List Cond := [Cond.instanceMethod yX6_tell, Cond.selects RX6 yX6_tell yX6_tell, Cond.code yX6_tell cX6_tell 5 none]
def wsX0_takeUp : List Cond := .code yX0_takeUp cX0_takeUp 1 none :: ((wsX0_takeUp_r1 ++ wsX0_takeUp_r2) ++ wsX00 ++ wsX40 ++ wsX60)
def wsX0_goOn_r1 : List Cond := [Cond.fieldLink RX0 34 "PictureBeats$Beam" "x" "I", Cond.fieldLink RX0 12 "PictureBeats$Beam" "holding" "LPictureBeats$Mode;", Cond.fieldLink RX0 24 "PictureBeats$Mode" "across" "LPictureBeats$Span;", Cond.fieldLink RX0 44 "PictureBeats$Beam" "y" "I", Cond.fieldLink RX0 37 "PictureBeats$Mode" "down" "LPictureBeats$Span;", Cond.fieldLink RX0 73 "PictureBeats$Beam" "nextField" "I", Cond.fieldLink RX0 51 "PictureBeats$Beam" "field" "I", Cond.fieldLink RX0 18 "PictureBeats$Beam" "takenUp" "LPictureBeats$Mode;", Cond.methodLink RX0 40 yX6_whole, Cond.instanceMethod yX6_whole, Cond.selects RX6 yX6_whole yX6_whole, Cond.initialized RX6, Cond.code yX6_whole cX6_whole 1 (some .int), Cond.fieldLink RX6 7 "PictureBeats$Span" "seen" "I", Cond.fieldLink RX6 13 "PictureBeats$Span" "front" "I", Cond.fieldLink RX6 16 "PictureBeats$Span" "sync" "I", Cond.fieldLink RX6 19 "PictureBeats$Span" "back" "I", Cond.methodLink RX0 65 yX4_copyFrom, Cond.instanceMethod yX4_copyFrom, Cond.selects RX4 yX4_copyFrom yX4_copyFrom, Cond.initialized RX4, Cond.code yX4_copyFrom cX4_copyFrom 2 none, Cond.fieldLink RX4 12 "PictureBeats$Mode" "across" "LPictureBeats$Span;", Cond.fieldLink RX4 18 "PictureBeats$Mode" "down" "LPictureBeats$Span;"]
def wsX0_goOn_r2 : List Cond := [Cond.fieldLink RX4 21 "PictureBeats$Mode" "interlaced" "Z", Cond.methodLink RX4 25 yX6_copyFrom, Cond.instanceMethod yX6_copyFrom, Cond.selects RX6 yX6_copyFrom yX6_copyFrom, Cond.code yX6_copyFrom cX6_copyFrom 2 none, Cond.methodLink RX6 22 yX6_tell, Cond.instanceMethod yX6_tell, Cond.selects RX6 yX6_tell yX6_tell, Cond.code yX6_tell cX6_tell 5 none]
def wsX0_goOn : List Cond := .code yX0_goOn cX0_goOn 1 none :: ((wsX0_goOn_r1 ++ wsX0_goOn_r2) ++ wsX00 ++ wsX40 ++ wsX60)
def wsX0_copyFrom_r1 : List Cond := [Cond.fieldLink RX0 12 "PictureBeats$Beam" "holding" "LPictureBeats$Mode;", Cond.fieldLink RX0 18 "PictureBeats$Beam" "takenUp" "LPictureBeats$Mode;", Cond.fieldLink RX0 21 "PictureBeats$Beam" "told" "LPictureBeats$Mode;", Cond.fieldLink RX0 34 "PictureBeats$Beam" "x" "I", Cond.fieldLink RX0 44 "PictureBeats$Beam" "y" "I", Cond.fieldLink RX0 51 "PictureBeats$Beam" "field" "I", Cond.fieldLink RX0 73 "PictureBeats$Beam" "nextField" "I", Cond.methodLink RX0 65 yX4_copyFrom, Cond.instanceMethod yX4_copyFrom, Cond.selects RX4 yX4_copyFrom yX4_copyFrom, Cond.initialized RX4, Cond.code yX4_copyFrom cX4_copyFrom 2 none, Cond.fieldLink RX4 12 "PictureBeats$Mode" "across" "LPictureBeats$Span;", Cond.fieldLink RX4 18 "PictureBeats$Mode" "down" "LPictureBeats$Span;", Cond.fieldLink RX4 21 "PictureBeats$Mode" "interlaced" "Z", Cond.methodLink RX4 25 yX6_copyFrom, Cond.instanceMethod yX6_copyFrom, Cond.selects RX6 yX6_copyFrom yX6_copyFrom, Cond.initialized RX6, Cond.code yX6_copyFrom cX6_copyFrom 2 none, Cond.fieldLink RX6 7 "PictureBeats$Span" "seen" "I", Cond.fieldLink RX6 13 "PictureBeats$Span" "front" "I", Cond.fieldLink RX6 16 "PictureBeats$Span" "sync" "I", Cond.fieldLink RX6 19 "PictureBeats$Span" "back" "I"]
def wsX0_copyFrom_r2 : List Cond := [Cond.methodLink RX6 22 yX6_tell, Cond.instanceMethod yX6_tell, Cond.selects RX6 yX6_tell yX6_tell, Cond.code yX6_tell cX6_tell 5 none]
def wsX0_copyFrom : List Cond := .code yX0_copyFrom cX0_copyFrom 2 none :: ((wsX0_copyFrom_r1 ++ wsX0_copyFrom_r2) ++ wsX00 ++ wsX40 ++ wsX60)
def wsX1_init : List Cond := .code yX1_init cX1_init 1 none :: ([.methodLink RX1 3 objectInit, .instanceMethod objectInit, .code objectInit ⟨#[0xb1]⟩ 1 none, .arrayClass .int, .fieldLink RX1 9 "PictureBeats$Changes" "ys" "[I", .fieldLink RX1 15 "PictureBeats$Changes" "xs" "[I", .fieldLink RX1 18 "PictureBeats$Changes" "registers" "[I", .fieldLink RX1 21 "PictureBeats$Changes" "values" "[I"] ++ wsX10)
def wsX1_append : List Cond := .code yX1_append cX1_append 5 (some .int) :: ([.fieldLink RX1 24 "PictureBeats$Changes" "count" "I", .fieldLink RX1 9 "PictureBeats$Changes" "ys" "[I", .fieldLink RX1 15 "PictureBeats$Changes" "xs" "[I", .fieldLink RX1 18 "PictureBeats$Changes" "registers" "[I", .fieldLink RX1 21 "PictureBeats$Changes" "values" "[I"] ++ wsX10)
def wsX8_within : List Cond := .code yX8_within cX8_within 3 (some .boolean) :: ([])
def wsX5_takes : List Cond := .code yX5_takes cX5_takes 2 (some .boolean) :: ([.static yX8_within, .initialized RX8, .code yX8_within cX8_within 3 (some .boolean)])
def wsX5_change : List Cond := .code yX5_change cX5_change 3 (some .boolean) :: ([.fieldLink RX5 9 "PictureBeats$Registers" "values" "[I", .methodLink RX5 22 yX5_takes, .static yX5_takes, .initialized RX5, .code yX5_takes cX5_takes 2 (some .boolean), .static yX8_within, .initialized RX8, .code yX8_within cX8_within 3 (some .boolean)] ++ wsX50)
def wsX1_apply : List Cond := .code yX1_apply cX1_apply 5 none :: ([.fieldLink RX1 24 "PictureBeats$Changes" "count" "I", .fieldLink RX1 15 "PictureBeats$Changes" "xs" "[I", .fieldLink RX1 9 "PictureBeats$Changes" "ys" "[I", .fieldLink RX1 18 "PictureBeats$Changes" "registers" "[I", .fieldLink RX1 21 "PictureBeats$Changes" "values" "[I", .methodLink RX1 28 yX5_change, .instanceMethod yX5_change, .selects RX5 yX5_change yX5_change, .initialized RX5, .code yX5_change cX5_change 3 (some .boolean), .fieldLink RX5 9 "PictureBeats$Registers" "values" "[I", .methodLink RX5 22 yX5_takes, .static yX5_takes, .code yX5_takes cX5_takes 2 (some .boolean), .static yX8_within, .initialized RX8, .code yX8_within cX8_within 3 (some .boolean)] ++ wsX10 ++ wsX50)
def wsX1_copyFrom : List Cond := .code yX1_copyFrom cX1_copyFrom 2 none :: ([.fieldLink RX1 9 "PictureBeats$Changes" "ys" "[I", .methodLink RX1 34 arraycopyName, .native arraycopyName, .static arraycopyName, .initialized "java/lang/System", .fieldLink RX1 15 "PictureBeats$Changes" "xs" "[I", .fieldLink RX1 18 "PictureBeats$Changes" "registers" "[I", .fieldLink RX1 21 "PictureBeats$Changes" "values" "[I", .fieldLink RX1 24 "PictureBeats$Changes" "count" "I"] ++ wsX10)
def wsX2_init : List Cond := .code yX2_init cX2_init 1 none :: ([.methodLink RX2 3 objectInit, .instanceMethod objectInit, .code objectInit ⟨#[0xb1]⟩ 1 none, .arrayClass .int, .fieldLink RX2 9 "PictureBeats$Feed" "queue" "[I", .fieldLink RX2 15 "PictureBeats$Feed" "depth" "I"] ++ wsX20)
def wsX2_startLine : List Cond := .code yX2_startLine cX2_startLine 3 none :: ([.fieldLink RX2 19 "PictureBeats$Feed" "count" "I", .fieldLink RX2 22 "PictureBeats$Feed" "leftBits" "I", .fieldLink RX2 25 "PictureBeats$Feed" "row" "I", .fieldLink RX2 28 "PictureBeats$Feed" "nextByte" "I", .fieldLink RX2 31 "PictureBeats$Feed" "bytes" "I"] ++ wsX20)
def wsX2_wantsByte : List Cond := .code yX2_wantsByte cX2_wantsByte 1 (some .boolean) :: ([.fieldLink RX2 19 "PictureBeats$Feed" "count" "I", .fieldLink RX2 15 "PictureBeats$Feed" "depth" "I", .fieldLink RX2 28 "PictureBeats$Feed" "nextByte" "I", .fieldLink RX2 31 "PictureBeats$Feed" "bytes" "I"] ++ wsX20)
def wsX2_append : List Cond := .code yX2_append cX2_append 2 none :: ([.fieldLink RX2 9 "PictureBeats$Feed" "queue" "[I", .fieldLink RX2 34 "PictureBeats$Feed" "first" "I", .fieldLink RX2 19 "PictureBeats$Feed" "count" "I", .fieldLink RX2 28 "PictureBeats$Feed" "nextByte" "I", .fieldLink RX2 37 "PictureBeats$Feed" "fetched" "I"] ++ wsX20)
def wsX2_takeBit : List Cond := .code yX2_takeBit cX2_takeBit 1 (some .int) :: ([.fieldLink RX2 22 "PictureBeats$Feed" "leftBits" "I", .fieldLink RX2 19 "PictureBeats$Feed" "count" "I", .fieldLink RX2 40 "PictureBeats$Feed" "unders" "I", .fieldLink RX2 9 "PictureBeats$Feed" "queue" "[I", .fieldLink RX2 34 "PictureBeats$Feed" "first" "I", .fieldLink RX2 43 "PictureBeats$Feed" "left" "I"] ++ wsX20)
def wsX2_copyFrom : List Cond := .code yX2_copyFrom cX2_copyFrom 2 none :: ([.fieldLink RX2 9 "PictureBeats$Feed" "queue" "[I", .methodLink RX2 46 arraycopyName, .native arraycopyName, .static arraycopyName, .initialized "java/lang/System", .fieldLink RX2 34 "PictureBeats$Feed" "first" "I", .fieldLink RX2 19 "PictureBeats$Feed" "count" "I", .fieldLink RX2 15 "PictureBeats$Feed" "depth" "I", .fieldLink RX2 43 "PictureBeats$Feed" "left" "I", .fieldLink RX2 22 "PictureBeats$Feed" "leftBits" "I", .fieldLink RX2 25 "PictureBeats$Feed" "row" "I", .fieldLink RX2 28 "PictureBeats$Feed" "nextByte" "I", .fieldLink RX2 31 "PictureBeats$Feed" "bytes" "I", .fieldLink RX2 40 "PictureBeats$Feed" "unders" "I", .fieldLink RX2 37 "PictureBeats$Feed" "fetched" "I"] ++ wsX20)
def wsX5_init : List Cond := .code yX5_init cX5_init 1 none :: ([.methodLink RX5 3 objectInit, .instanceMethod objectInit, .code objectInit ⟨#[0xb1]⟩ 1 none, .arrayClass .int, .fieldLink RX5 9 "PictureBeats$Registers" "values" "[I"] ++ wsX50)
def wsX7_init : List Cond := .code yX7_init cX7_init 1 none :: ([.methodLink RX7 3 objectInit, .instanceMethod objectInit, .code objectInit ⟨#[0xb1]⟩ 1 none, .arrayClass .int, .fieldLink RX7 9 "PictureBeats$Sprites" "xs" "[I", .fieldLink RX7 15 "PictureBeats$Sprites" "rows" "[I", .fieldLink RX7 18 "PictureBeats$Sprites" "heights" "[I", .fieldLink RX7 21 "PictureBeats$Sprites" "drawn" "[I", .fieldLink RX7 24 "PictureBeats$Sprites" "present" "[I"] ++ wsX70)
def wsJ7_fill_53178 : List Cond := .code yJ7_fill_53178 cJ7_fill_53178 4 none :: ([])
def wsX3_init_r1 : List Cond := [Cond.methodLink RX3 3 objectInit, Cond.instanceMethod objectInit, Cond.code objectInit ⟨#[0xb1]⟩ 1 none, Cond.classLink RX3 9 RX0, Cond.instantiable RX0 7, Cond.initialized RX0, Cond.fieldLink RX3 12 "PictureBeats$Machine" "beam" "LPictureBeats$Beam;", Cond.classLink RX3 18 RX2, Cond.instantiable RX2 11, Cond.initialized RX2, Cond.fieldLink RX3 21 "PictureBeats$Machine" "feed" "LPictureBeats$Feed;", Cond.classLink RX3 25 RX5, Cond.instantiable RX5 1, Cond.initialized RX5, Cond.fieldLink RX3 28 "PictureBeats$Machine" "registers" "LPictureBeats$Registers;", Cond.classLink RX3 32 RX1, Cond.instantiable RX1 5, Cond.initialized RX1, Cond.fieldLink RX3 35 "PictureBeats$Machine" "changes" "LPictureBeats$Changes;", Cond.classLink RX3 39 RX7, Cond.instantiable RX7 5, Cond.initialized RX7, Cond.fieldLink RX3 42 "PictureBeats$Machine" "sprites" "LPictureBeats$Sprites;", Cond.arrayClass .int]
def wsX3_init_r2 : List Cond := [Cond.fieldLink RX3 46 "PictureBeats$Machine" "memory" "[I", Cond.fieldLink RX3 50 "PictureBeats$Machine" "shown" "[I", Cond.fieldLink RX3 53 "PictureBeats$Machine" "signals" "[I", Cond.fieldLink RX3 56 "PictureBeats$Machine" "period" "I", Cond.instanceMethod yX0_init, Cond.code yX0_init cX0_init 1 none, Cond.methodLink RX0 3 objectInit, Cond.classLink RX0 9 RX4, Cond.instantiable RX4 3, Cond.initialized RX4, Cond.fieldLink RX0 12 "PictureBeats$Beam" "holding" "LPictureBeats$Mode;", Cond.fieldLink RX0 18 "PictureBeats$Beam" "takenUp" "LPictureBeats$Mode;", Cond.fieldLink RX0 21 "PictureBeats$Beam" "told" "LPictureBeats$Mode;", Cond.fieldLink RX0 24 "PictureBeats$Mode" "across" "LPictureBeats$Span;", Cond.fieldLink RX0 28 "PictureBeats$Span" "seen" "I", Cond.fieldLink RX0 34 "PictureBeats$Beam" "x" "I", Cond.fieldLink RX0 37 "PictureBeats$Mode" "down" "LPictureBeats$Span;", Cond.fieldLink RX0 44 "PictureBeats$Beam" "y" "I", Cond.instanceMethod yX4_init, Cond.code yX4_init cX4_init 1 none, Cond.methodLink RX4 1 objectInit, Cond.classLink RX4 7 RX6, Cond.instantiable RX6 4, Cond.initialized RX6]
def wsX3_init_r3 : List Cond := [Cond.fieldLink RX4 12 "PictureBeats$Mode" "across" "LPictureBeats$Span;", Cond.fieldLink RX4 18 "PictureBeats$Mode" "down" "LPictureBeats$Span;", Cond.methodLink RX4 9 yX6_init, Cond.instanceMethod yX6_init, Cond.code yX6_init cX6_init 5 none, Cond.methodLink RX6 1 objectInit, Cond.fieldLink RX6 7 "PictureBeats$Span" "seen" "I", Cond.fieldLink RX6 13 "PictureBeats$Span" "front" "I", Cond.fieldLink RX6 16 "PictureBeats$Span" "sync" "I", Cond.fieldLink RX6 19 "PictureBeats$Span" "back" "I", Cond.methodLink RX0 40 yX6_whole, Cond.instanceMethod yX6_whole, Cond.selects RX6 yX6_whole yX6_whole, Cond.code yX6_whole cX6_whole 1 (some .int), Cond.instanceMethod yX2_init, Cond.code yX2_init cX2_init 1 none, Cond.methodLink RX2 3 objectInit, Cond.fieldLink RX2 9 "PictureBeats$Feed" "queue" "[I", Cond.fieldLink RX2 15 "PictureBeats$Feed" "depth" "I", Cond.instanceMethod yX5_init, Cond.code yX5_init cX5_init 1 none, Cond.methodLink RX5 3 objectInit, Cond.fieldLink RX5 9 "PictureBeats$Registers" "values" "[I", Cond.instanceMethod yX1_init]
def wsX3_init_r4 : List Cond := [Cond.code yX1_init cX1_init 1 none, Cond.methodLink RX1 3 objectInit, Cond.fieldLink RX1 9 "PictureBeats$Changes" "ys" "[I", Cond.fieldLink RX1 15 "PictureBeats$Changes" "xs" "[I", Cond.fieldLink RX1 18 "PictureBeats$Changes" "registers" "[I", Cond.fieldLink RX1 21 "PictureBeats$Changes" "values" "[I", Cond.instanceMethod yX7_init, Cond.code yX7_init cX7_init 1 none, Cond.methodLink RX7 3 objectInit, Cond.fieldLink RX7 9 "PictureBeats$Sprites" "xs" "[I", Cond.fieldLink RX7 15 "PictureBeats$Sprites" "rows" "[I", Cond.fieldLink RX7 18 "PictureBeats$Sprites" "heights" "[I", Cond.fieldLink RX7 21 "PictureBeats$Sprites" "drawn" "[I", Cond.fieldLink RX7 24 "PictureBeats$Sprites" "present" "[I", Cond.methodLink RX3 60 yJ7_fill_53178, Cond.static yJ7_fill_53178, Cond.initialized RJ7, Cond.code yJ7_fill_53178 cJ7_fill_53178 4 none]
def wsX3_init : List Cond := .code yX3_init cX3_init 1 none :: ((wsX3_init_r1 ++ (wsX3_init_r2 ++ (wsX3_init_r3 ++ wsX3_init_r4))) ++ wsX00 ++ wsX30 ++ wsX20 ++ wsX50 ++ wsX10 ++ wsX70 ++ wsX40 ++ wsX60)
def wsX3_storeByte : List Cond := .code yX3_storeByte cX3_storeByte 3 none :: ([.fieldLink RX3 46 "PictureBeats$Machine" "memory" "[I"] ++ wsX30)
def wsX3_isTaken : List Cond := .code yX3_isTaken cX3_isTaken 1 (some .boolean) :: ([.fieldLink RX3 56 "PictureBeats$Machine" "period" "I", .fieldLink RX3 66 "PictureBeats$Machine" "pattern" "I", .fieldLink RX3 69 "PictureBeats$Machine" "ticks" "I"] ++ wsX30)
def wsX8_bytesOfLine : List Cond := .code yX8_bytesOfLine cX8_bytesOfLine 1 (some .int) :: ([])
def wsX3_startFeed_r1 : List Cond := [Cond.fieldLink RX3 134 "PictureBeats$Mode" "down" "LPictureBeats$Span;", Cond.fieldLink RX3 146 "PictureBeats$Mode" "across" "LPictureBeats$Span;", Cond.fieldLink RX3 149 "PictureBeats$Span" "seen" "I", Cond.fieldLink RX3 21 "PictureBeats$Machine" "feed" "LPictureBeats$Feed;", Cond.methodLink RX3 140 yX6_isSeen, Cond.instanceMethod yX6_isSeen, Cond.selects RX6 yX6_isSeen yX6_isSeen, Cond.initialized RX6, Cond.code yX6_isSeen cX6_isSeen 2 (some .boolean), Cond.fieldLink RX6 7 "PictureBeats$Span" "seen" "I", Cond.static yX8_bytesOfLine, Cond.initialized RX8, Cond.code yX8_bytesOfLine cX8_bytesOfLine 1 (some .int), Cond.methodLink RX3 156 yX4_rowOf, Cond.instanceMethod yX4_rowOf, Cond.selects RX4 yX4_rowOf yX4_rowOf, Cond.initialized RX4, Cond.code yX4_rowOf cX4_rowOf 3 (some .int), Cond.fieldLink RX4 21 "PictureBeats$Mode" "interlaced" "Z", Cond.methodLink RX3 160 yX2_startLine, Cond.instanceMethod yX2_startLine, Cond.selects RX2 yX2_startLine yX2_startLine, Cond.initialized RX2, Cond.code yX2_startLine cX2_startLine 3 none]
def wsX3_startFeed_r2 : List Cond := [Cond.fieldLink RX2 19 "PictureBeats$Feed" "count" "I", Cond.fieldLink RX2 22 "PictureBeats$Feed" "leftBits" "I", Cond.fieldLink RX2 25 "PictureBeats$Feed" "row" "I", Cond.fieldLink RX2 28 "PictureBeats$Feed" "nextByte" "I", Cond.fieldLink RX2 31 "PictureBeats$Feed" "bytes" "I"]
def wsX3_startFeed : List Cond := .code yX3_startFeed cX3_startFeed 5 none :: ((wsX3_startFeed_r1 ++ wsX3_startFeed_r2) ++ wsX40 ++ wsX60 ++ wsX30 ++ wsX20)
def wsX3_turnToNextLine_r1 : List Cond := [Cond.fieldLink RX3 12 "PictureBeats$Machine" "beam" "LPictureBeats$Beam;", Cond.fieldLink RX3 117 "PictureBeats$Beam" "takenUp" "LPictureBeats$Mode;", Cond.fieldLink RX3 121 "PictureBeats$Beam" "nextField" "I", Cond.fieldLink RX3 128 "PictureBeats$Beam" "holding" "LPictureBeats$Mode;", Cond.fieldLink RX3 72 "PictureBeats$Beam" "y" "I", Cond.fieldLink RX3 131 "PictureBeats$Beam" "field" "I", Cond.methodLink RX3 111 yX0_isOnLastLine, Cond.instanceMethod yX0_isOnLastLine, Cond.selects RX0 yX0_isOnLastLine yX0_isOnLastLine, Cond.initialized RX0, Cond.code yX0_isOnLastLine cX0_isOnLastLine 1 (some .boolean), Cond.fieldLink RX0 44 "PictureBeats$Beam" "y" "I", Cond.fieldLink RX0 12 "PictureBeats$Beam" "holding" "LPictureBeats$Mode;", Cond.fieldLink RX0 37 "PictureBeats$Mode" "down" "LPictureBeats$Span;", Cond.methodLink RX0 40 yX6_whole, Cond.instanceMethod yX6_whole, Cond.selects RX6 yX6_whole yX6_whole, Cond.initialized RX6, Cond.code yX6_whole cX6_whole 1 (some .int), Cond.fieldLink RX6 7 "PictureBeats$Span" "seen" "I", Cond.fieldLink RX6 13 "PictureBeats$Span" "front" "I", Cond.fieldLink RX6 16 "PictureBeats$Span" "sync" "I", Cond.fieldLink RX6 19 "PictureBeats$Span" "back" "I", Cond.methodLink RX3 114 yX0_takeUp]
def wsX3_turnToNextLine_r2 : List Cond := [Cond.instanceMethod yX0_takeUp, Cond.selects RX0 yX0_takeUp yX0_takeUp, Cond.code yX0_takeUp cX0_takeUp 1 none, Cond.fieldLink RX0 18 "PictureBeats$Beam" "takenUp" "LPictureBeats$Mode;", Cond.fieldLink RX0 21 "PictureBeats$Beam" "told" "LPictureBeats$Mode;", Cond.fieldLink RX0 69 "PictureBeats$Mode" "interlaced" "Z", Cond.fieldLink RX0 51 "PictureBeats$Beam" "field" "I", Cond.fieldLink RX0 73 "PictureBeats$Beam" "nextField" "I", Cond.methodLink RX0 65 yX4_copyFrom, Cond.instanceMethod yX4_copyFrom, Cond.selects RX4 yX4_copyFrom yX4_copyFrom, Cond.initialized RX4, Cond.code yX4_copyFrom cX4_copyFrom 2 none, Cond.fieldLink RX4 12 "PictureBeats$Mode" "across" "LPictureBeats$Span;", Cond.fieldLink RX4 18 "PictureBeats$Mode" "down" "LPictureBeats$Span;", Cond.fieldLink RX4 21 "PictureBeats$Mode" "interlaced" "Z", Cond.methodLink RX4 25 yX6_copyFrom, Cond.instanceMethod yX6_copyFrom, Cond.selects RX6 yX6_copyFrom yX6_copyFrom, Cond.code yX6_copyFrom cX6_copyFrom 2 none, Cond.methodLink RX6 22 yX6_tell, Cond.instanceMethod yX6_tell, Cond.selects RX6 yX6_tell yX6_tell, Cond.code yX6_tell cX6_tell 5 none]
def wsX3_turnToNextLine_r3 : List Cond := [Cond.methodLink RX3 124 yX3_startFeed, Cond.instanceMethod yX3_startFeed, Cond.selects RX3 yX3_startFeed yX3_startFeed, Cond.initialized RX3, Cond.code yX3_startFeed cX3_startFeed 5 none, Cond.fieldLink RX3 134 "PictureBeats$Mode" "down" "LPictureBeats$Span;", Cond.fieldLink RX3 146 "PictureBeats$Mode" "across" "LPictureBeats$Span;", Cond.fieldLink RX3 149 "PictureBeats$Span" "seen" "I", Cond.fieldLink RX3 21 "PictureBeats$Machine" "feed" "LPictureBeats$Feed;", Cond.methodLink RX3 140 yX6_isSeen, Cond.instanceMethod yX6_isSeen, Cond.selects RX6 yX6_isSeen yX6_isSeen, Cond.code yX6_isSeen cX6_isSeen 2 (some .boolean), Cond.static yX8_bytesOfLine, Cond.initialized RX8, Cond.code yX8_bytesOfLine cX8_bytesOfLine 1 (some .int), Cond.methodLink RX3 156 yX4_rowOf, Cond.instanceMethod yX4_rowOf, Cond.selects RX4 yX4_rowOf yX4_rowOf, Cond.code yX4_rowOf cX4_rowOf 3 (some .int), Cond.methodLink RX3 160 yX2_startLine, Cond.instanceMethod yX2_startLine, Cond.selects RX2 yX2_startLine yX2_startLine, Cond.initialized RX2]
def wsX3_turnToNextLine_r4 : List Cond := [Cond.code yX2_startLine cX2_startLine 3 none, Cond.fieldLink RX2 19 "PictureBeats$Feed" "count" "I", Cond.fieldLink RX2 22 "PictureBeats$Feed" "leftBits" "I", Cond.fieldLink RX2 25 "PictureBeats$Feed" "row" "I", Cond.fieldLink RX2 28 "PictureBeats$Feed" "nextByte" "I", Cond.fieldLink RX2 31 "PictureBeats$Feed" "bytes" "I"]
def wsX3_turnToNextLine : List Cond := .code yX3_turnToNextLine cX3_turnToNextLine 1 none :: ((wsX3_turnToNextLine_r1 ++ (wsX3_turnToNextLine_r2 ++ (wsX3_turnToNextLine_r3 ++ wsX3_turnToNextLine_r4))) ++ wsX30 ++ wsX00 ++ wsX40 ++ wsX60 ++ wsX20)
def wsX5_read : List Cond := .code yX5_read cX5_read 2 (some .int) :: ([.fieldLink RX5 9 "PictureBeats$Registers" "values" "[I", .static yX8_within, .initialized RX8, .code yX8_within cX8_within 3 (some .boolean)] ++ wsX50)
def wsX3_fetchByte : List Cond := .code yX3_fetchByte cX3_fetchByte 2 none :: ([.fieldLink RX3 28 "PictureBeats$Machine" "registers" "LPictureBeats$Registers;", .fieldLink RX3 21 "PictureBeats$Machine" "feed" "LPictureBeats$Feed;", .fieldLink RX3 167 "PictureBeats$Feed" "row" "I", .fieldLink RX3 170 "PictureBeats$Feed" "nextByte" "I", .fieldLink RX3 46 "PictureBeats$Machine" "memory" "[I", .methodLink RX3 164 yX5_read, .instanceMethod yX5_read, .selects RX5 yX5_read yX5_read, .initialized RX5, .code yX5_read cX5_read 2 (some .int), .fieldLink RX5 9 "PictureBeats$Registers" "values" "[I", .static yX8_within, .initialized RX8, .code yX8_within cX8_within 3 (some .boolean), .methodLink RX3 173 yX2_append, .instanceMethod yX2_append, .selects RX2 yX2_append yX2_append, .initialized RX2, .code yX2_append cX2_append 2 none, .fieldLink RX2 9 "PictureBeats$Feed" "queue" "[I", .fieldLink RX2 34 "PictureBeats$Feed" "first" "I", .fieldLink RX2 19 "PictureBeats$Feed" "count" "I", .fieldLink RX2 28 "PictureBeats$Feed" "nextByte" "I", .fieldLink RX2 37 "PictureBeats$Feed" "fetched" "I"] ++ wsX30 ++ wsX20 ++ wsX50)
def wsX3_takeScroll : List Cond := .code yX3_takeScroll cX3_takeScroll 3 none :: ([.fieldLink RX3 28 "PictureBeats$Machine" "registers" "LPictureBeats$Registers;", .fieldLink RX3 21 "PictureBeats$Machine" "feed" "LPictureBeats$Feed;", .methodLink RX3 164 yX5_read, .instanceMethod yX5_read, .selects RX5 yX5_read yX5_read, .initialized RX5, .code yX5_read cX5_read 2 (some .int), .fieldLink RX5 9 "PictureBeats$Registers" "values" "[I", .static yX8_within, .initialized RX8, .code yX8_within cX8_within 3 (some .boolean), .methodLink RX3 180 yX2_takeBit, .instanceMethod yX2_takeBit, .selects RX2 yX2_takeBit yX2_takeBit, .initialized RX2, .code yX2_takeBit cX2_takeBit 1 (some .int), .fieldLink RX2 22 "PictureBeats$Feed" "leftBits" "I", .fieldLink RX2 19 "PictureBeats$Feed" "count" "I", .fieldLink RX2 40 "PictureBeats$Feed" "unders" "I", .fieldLink RX2 9 "PictureBeats$Feed" "queue" "[I", .fieldLink RX2 34 "PictureBeats$Feed" "first" "I", .fieldLink RX2 43 "PictureBeats$Feed" "left" "I"] ++ wsX30 ++ wsX50 ++ wsX20)
def wsX8_placeOf : List Cond := .code yX8_placeOf cX8_placeOf 2 (some .int) :: ([.methodLink RX8 20 yX8_within, .static yX8_within, .initialized RX8, .code yX8_within cX8_within 3 (some .boolean)])
def wsX7_membersOf : List Cond := .code yX7_membersOf cX7_membersOf 6 (some .int) :: ([.fieldLink RX7 24 "PictureBeats$Sprites" "present" "[I"] ++ wsX70)
def wsX7_hasBit : List Cond := .code yX7_hasBit cX7_hasBit 6 (some .boolean) :: ([.fieldLink RX7 9 "PictureBeats$Sprites" "xs" "[I", .fieldLink RX7 15 "PictureBeats$Sprites" "rows" "[I", .fieldLink RX7 21 "PictureBeats$Sprites" "drawn" "[I", .static yX8_within, .initialized RX8, .code yX8_within cX8_within 3 (some .boolean)] ++ wsX70)
def wsX7_showing : List Cond := .code yX7_showing cX7_showing 5 (some .int) :: ([.methodLink RX7 37 yX7_membersOf, .instanceMethod yX7_membersOf, .selects RX7 yX7_membersOf yX7_membersOf, .initialized RX7, .code yX7_membersOf cX7_membersOf 6 (some .int), .fieldLink RX7 24 "PictureBeats$Sprites" "present" "[I", .methodLink RX7 41 yX7_hasBit, .instanceMethod yX7_hasBit, .selects RX7 yX7_hasBit yX7_hasBit, .code yX7_hasBit cX7_hasBit 6 (some .boolean), .fieldLink RX7 9 "PictureBeats$Sprites" "xs" "[I", .fieldLink RX7 15 "PictureBeats$Sprites" "rows" "[I", .fieldLink RX7 21 "PictureBeats$Sprites" "drawn" "[I", .static yX8_within, .initialized RX8, .code yX8_within cX8_within 3 (some .boolean)] ++ wsX70)
def wsX3_colourOf : List Cond := .code yX3_colourOf cX3_colourOf 2 (some .int) :: ([.fieldLink RX3 28 "PictureBeats$Machine" "registers" "LPictureBeats$Registers;", .methodLink RX3 164 yX5_read, .instanceMethod yX5_read, .selects RX5 yX5_read yX5_read, .initialized RX5, .code yX5_read cX5_read 2 (some .int), .fieldLink RX5 9 "PictureBeats$Registers" "values" "[I", .static yX8_within, .initialized RX8, .code yX8_within cX8_within 3 (some .boolean)] ++ wsX30 ++ wsX50)
def wsX3_makeDot_r1 : List Cond := [Cond.fieldLink RX3 12 "PictureBeats$Machine" "beam" "LPictureBeats$Beam;", Cond.fieldLink RX3 75 "PictureBeats$Beam" "x" "I", Cond.fieldLink RX3 21 "PictureBeats$Machine" "feed" "LPictureBeats$Feed;", Cond.fieldLink RX3 42 "PictureBeats$Machine" "sprites" "LPictureBeats$Sprites;", Cond.fieldLink RX3 50 "PictureBeats$Machine" "shown" "[I", Cond.fieldLink RX3 195 "PictureBeats$Machine" "dots" "I", Cond.methodLink RX3 177 yX3_takeScroll, Cond.instanceMethod yX3_takeScroll, Cond.selects RX3 yX3_takeScroll yX3_takeScroll, Cond.initialized RX3, Cond.code yX3_takeScroll cX3_takeScroll 3 none, Cond.fieldLink RX3 28 "PictureBeats$Machine" "registers" "LPictureBeats$Registers;", Cond.methodLink RX3 164 yX5_read, Cond.instanceMethod yX5_read, Cond.selects RX5 yX5_read yX5_read, Cond.initialized RX5, Cond.code yX5_read cX5_read 2 (some .int), Cond.fieldLink RX5 9 "PictureBeats$Registers" "values" "[I", Cond.static yX8_within, Cond.initialized RX8, Cond.code yX8_within cX8_within 3 (some .boolean), Cond.methodLink RX3 180 yX2_takeBit, Cond.instanceMethod yX2_takeBit, Cond.selects RX2 yX2_takeBit yX2_takeBit]
def wsX3_makeDot_r2 : List Cond := [Cond.initialized RX2, Cond.code yX2_takeBit cX2_takeBit 1 (some .int), Cond.fieldLink RX2 22 "PictureBeats$Feed" "leftBits" "I", Cond.fieldLink RX2 19 "PictureBeats$Feed" "count" "I", Cond.fieldLink RX2 40 "PictureBeats$Feed" "unders" "I", Cond.fieldLink RX2 9 "PictureBeats$Feed" "queue" "[I", Cond.fieldLink RX2 34 "PictureBeats$Feed" "first" "I", Cond.fieldLink RX2 43 "PictureBeats$Feed" "left" "I", Cond.methodLink RX3 183 yX0_rowHere, Cond.instanceMethod yX0_rowHere, Cond.selects RX0 yX0_rowHere yX0_rowHere, Cond.initialized RX0, Cond.code yX0_rowHere cX0_rowHere 1 (some .int), Cond.fieldLink RX0 12 "PictureBeats$Beam" "holding" "LPictureBeats$Mode;", Cond.fieldLink RX0 44 "PictureBeats$Beam" "y" "I", Cond.fieldLink RX0 51 "PictureBeats$Beam" "field" "I", Cond.methodLink RX0 54 yX4_rowOf, Cond.instanceMethod yX4_rowOf, Cond.selects RX4 yX4_rowOf yX4_rowOf, Cond.initialized RX4, Cond.code yX4_rowOf cX4_rowOf 3 (some .int), Cond.fieldLink RX4 21 "PictureBeats$Mode" "interlaced" "Z", Cond.static yX8_placeOf, Cond.code yX8_placeOf cX8_placeOf 2 (some .int)]
def wsX3_makeDot_r3 : List Cond := [Cond.methodLink RX8 20 yX8_within, Cond.methodLink RX3 189 yX7_showing, Cond.instanceMethod yX7_showing, Cond.selects RX7 yX7_showing yX7_showing, Cond.initialized RX7, Cond.code yX7_showing cX7_showing 5 (some .int), Cond.methodLink RX7 37 yX7_membersOf, Cond.instanceMethod yX7_membersOf, Cond.selects RX7 yX7_membersOf yX7_membersOf, Cond.code yX7_membersOf cX7_membersOf 6 (some .int), Cond.fieldLink RX7 24 "PictureBeats$Sprites" "present" "[I", Cond.methodLink RX7 41 yX7_hasBit, Cond.instanceMethod yX7_hasBit, Cond.selects RX7 yX7_hasBit yX7_hasBit, Cond.code yX7_hasBit cX7_hasBit 6 (some .boolean), Cond.fieldLink RX7 9 "PictureBeats$Sprites" "xs" "[I", Cond.fieldLink RX7 15 "PictureBeats$Sprites" "rows" "[I", Cond.fieldLink RX7 21 "PictureBeats$Sprites" "drawn" "[I", Cond.methodLink RX3 192 yX3_colourOf, Cond.instanceMethod yX3_colourOf, Cond.selects RX3 yX3_colourOf yX3_colourOf, Cond.code yX3_colourOf cX3_colourOf 2 (some .int)]
def wsX3_makeDot : List Cond := .code yX3_makeDot cX3_makeDot 5 none :: ((wsX3_makeDot_r1 ++ (wsX3_makeDot_r2 ++ wsX3_makeDot_r3)) ++ wsX30 ++ wsX00 ++ wsX50 ++ wsX20 ++ wsX40 ++ wsX70)
def wsX3_tick_r1 : List Cond := [Cond.fieldLink RX3 35 "PictureBeats$Machine" "changes" "LPictureBeats$Changes;", Cond.fieldLink RX3 12 "PictureBeats$Machine" "beam" "LPictureBeats$Beam;", Cond.fieldLink RX3 72 "PictureBeats$Beam" "y" "I", Cond.fieldLink RX3 75 "PictureBeats$Beam" "x" "I", Cond.fieldLink RX3 28 "PictureBeats$Machine" "registers" "LPictureBeats$Registers;", Cond.fieldLink RX3 21 "PictureBeats$Machine" "feed" "LPictureBeats$Feed;", Cond.fieldLink RX3 53 "PictureBeats$Machine" "signals" "[I", Cond.fieldLink RX3 69 "PictureBeats$Machine" "ticks" "I", Cond.methodLink RX3 78 yX1_apply, Cond.instanceMethod yX1_apply, Cond.selects RX1 yX1_apply yX1_apply, Cond.initialized RX1, Cond.code yX1_apply cX1_apply 5 none, Cond.fieldLink RX1 24 "PictureBeats$Changes" "count" "I", Cond.fieldLink RX1 15 "PictureBeats$Changes" "xs" "[I", Cond.fieldLink RX1 9 "PictureBeats$Changes" "ys" "[I", Cond.fieldLink RX1 18 "PictureBeats$Changes" "registers" "[I", Cond.fieldLink RX1 21 "PictureBeats$Changes" "values" "[I", Cond.methodLink RX1 28 yX5_change, Cond.instanceMethod yX5_change, Cond.selects RX5 yX5_change yX5_change, Cond.initialized RX5, Cond.code yX5_change cX5_change 3 (some .boolean), Cond.fieldLink RX5 9 "PictureBeats$Registers" "values" "[I"]
def wsX3_tick_r2 : List Cond := [Cond.methodLink RX5 22 yX5_takes, Cond.static yX5_takes, Cond.code yX5_takes cX5_takes 2 (some .boolean), Cond.static yX8_within, Cond.initialized RX8, Cond.code yX8_within cX8_within 3 (some .boolean), Cond.methodLink RX3 82 yX0_isBehindSeen, Cond.instanceMethod yX0_isBehindSeen, Cond.selects RX0 yX0_isBehindSeen yX0_isBehindSeen, Cond.initialized RX0, Cond.code yX0_isBehindSeen cX0_isBehindSeen 1 (some .boolean), Cond.fieldLink RX0 34 "PictureBeats$Beam" "x" "I", Cond.fieldLink RX0 12 "PictureBeats$Beam" "holding" "LPictureBeats$Mode;", Cond.fieldLink RX0 24 "PictureBeats$Mode" "across" "LPictureBeats$Span;", Cond.fieldLink RX0 28 "PictureBeats$Span" "seen" "I", Cond.methodLink RX3 86 yX3_turnToNextLine, Cond.instanceMethod yX3_turnToNextLine, Cond.selects RX3 yX3_turnToNextLine yX3_turnToNextLine, Cond.initialized RX3, Cond.code yX3_turnToNextLine cX3_turnToNextLine 1 none, Cond.fieldLink RX3 117 "PictureBeats$Beam" "takenUp" "LPictureBeats$Mode;", Cond.fieldLink RX3 121 "PictureBeats$Beam" "nextField" "I", Cond.fieldLink RX3 128 "PictureBeats$Beam" "holding" "LPictureBeats$Mode;", Cond.fieldLink RX3 131 "PictureBeats$Beam" "field" "I"]
def wsX3_tick_r3 : List Cond := [Cond.methodLink RX3 111 yX0_isOnLastLine, Cond.instanceMethod yX0_isOnLastLine, Cond.selects RX0 yX0_isOnLastLine yX0_isOnLastLine, Cond.code yX0_isOnLastLine cX0_isOnLastLine 1 (some .boolean), Cond.fieldLink RX0 44 "PictureBeats$Beam" "y" "I", Cond.fieldLink RX0 37 "PictureBeats$Mode" "down" "LPictureBeats$Span;", Cond.methodLink RX0 40 yX6_whole, Cond.instanceMethod yX6_whole, Cond.selects RX6 yX6_whole yX6_whole, Cond.initialized RX6, Cond.code yX6_whole cX6_whole 1 (some .int), Cond.fieldLink RX6 7 "PictureBeats$Span" "seen" "I", Cond.fieldLink RX6 13 "PictureBeats$Span" "front" "I", Cond.fieldLink RX6 16 "PictureBeats$Span" "sync" "I", Cond.fieldLink RX6 19 "PictureBeats$Span" "back" "I", Cond.methodLink RX3 114 yX0_takeUp, Cond.instanceMethod yX0_takeUp, Cond.selects RX0 yX0_takeUp yX0_takeUp, Cond.code yX0_takeUp cX0_takeUp 1 none, Cond.fieldLink RX0 18 "PictureBeats$Beam" "takenUp" "LPictureBeats$Mode;", Cond.fieldLink RX0 21 "PictureBeats$Beam" "told" "LPictureBeats$Mode;", Cond.fieldLink RX0 69 "PictureBeats$Mode" "interlaced" "Z", Cond.fieldLink RX0 51 "PictureBeats$Beam" "field" "I", Cond.fieldLink RX0 73 "PictureBeats$Beam" "nextField" "I"]
def wsX3_tick_r4 : List Cond := [Cond.methodLink RX0 65 yX4_copyFrom, Cond.instanceMethod yX4_copyFrom, Cond.selects RX4 yX4_copyFrom yX4_copyFrom, Cond.initialized RX4, Cond.code yX4_copyFrom cX4_copyFrom 2 none, Cond.fieldLink RX4 12 "PictureBeats$Mode" "across" "LPictureBeats$Span;", Cond.fieldLink RX4 18 "PictureBeats$Mode" "down" "LPictureBeats$Span;", Cond.fieldLink RX4 21 "PictureBeats$Mode" "interlaced" "Z", Cond.methodLink RX4 25 yX6_copyFrom, Cond.instanceMethod yX6_copyFrom, Cond.selects RX6 yX6_copyFrom yX6_copyFrom, Cond.code yX6_copyFrom cX6_copyFrom 2 none, Cond.methodLink RX6 22 yX6_tell, Cond.instanceMethod yX6_tell, Cond.selects RX6 yX6_tell yX6_tell, Cond.code yX6_tell cX6_tell 5 none, Cond.methodLink RX3 124 yX3_startFeed, Cond.instanceMethod yX3_startFeed, Cond.selects RX3 yX3_startFeed yX3_startFeed, Cond.code yX3_startFeed cX3_startFeed 5 none, Cond.fieldLink RX3 134 "PictureBeats$Mode" "down" "LPictureBeats$Span;", Cond.fieldLink RX3 146 "PictureBeats$Mode" "across" "LPictureBeats$Span;", Cond.fieldLink RX3 149 "PictureBeats$Span" "seen" "I", Cond.methodLink RX3 140 yX6_isSeen]
def wsX3_tick_r5 : List Cond := [Cond.instanceMethod yX6_isSeen, Cond.selects RX6 yX6_isSeen yX6_isSeen, Cond.code yX6_isSeen cX6_isSeen 2 (some .boolean), Cond.static yX8_bytesOfLine, Cond.code yX8_bytesOfLine cX8_bytesOfLine 1 (some .int), Cond.methodLink RX3 156 yX4_rowOf, Cond.instanceMethod yX4_rowOf, Cond.selects RX4 yX4_rowOf yX4_rowOf, Cond.code yX4_rowOf cX4_rowOf 3 (some .int), Cond.methodLink RX3 160 yX2_startLine, Cond.instanceMethod yX2_startLine, Cond.selects RX2 yX2_startLine yX2_startLine, Cond.initialized RX2, Cond.code yX2_startLine cX2_startLine 3 none, Cond.fieldLink RX2 19 "PictureBeats$Feed" "count" "I", Cond.fieldLink RX2 22 "PictureBeats$Feed" "leftBits" "I", Cond.fieldLink RX2 25 "PictureBeats$Feed" "row" "I", Cond.fieldLink RX2 28 "PictureBeats$Feed" "nextByte" "I", Cond.fieldLink RX2 31 "PictureBeats$Feed" "bytes" "I", Cond.methodLink RX3 89 yX2_wantsByte, Cond.instanceMethod yX2_wantsByte, Cond.selects RX2 yX2_wantsByte yX2_wantsByte, Cond.code yX2_wantsByte cX2_wantsByte 1 (some .boolean), Cond.fieldLink RX2 15 "PictureBeats$Feed" "depth" "I"]
def wsX3_tick_r6 : List Cond := [Cond.methodLink RX3 92 yX3_isTaken, Cond.instanceMethod yX3_isTaken, Cond.selects RX3 yX3_isTaken yX3_isTaken, Cond.code yX3_isTaken cX3_isTaken 1 (some .boolean), Cond.fieldLink RX3 56 "PictureBeats$Machine" "period" "I", Cond.fieldLink RX3 66 "PictureBeats$Machine" "pattern" "I", Cond.methodLink RX3 95 yX3_fetchByte, Cond.instanceMethod yX3_fetchByte, Cond.selects RX3 yX3_fetchByte yX3_fetchByte, Cond.code yX3_fetchByte cX3_fetchByte 2 none, Cond.fieldLink RX3 167 "PictureBeats$Feed" "row" "I", Cond.fieldLink RX3 170 "PictureBeats$Feed" "nextByte" "I", Cond.fieldLink RX3 46 "PictureBeats$Machine" "memory" "[I", Cond.methodLink RX3 164 yX5_read, Cond.instanceMethod yX5_read, Cond.selects RX5 yX5_read yX5_read, Cond.code yX5_read cX5_read 2 (some .int), Cond.methodLink RX3 173 yX2_append, Cond.instanceMethod yX2_append, Cond.selects RX2 yX2_append yX2_append, Cond.code yX2_append cX2_append 2 none, Cond.fieldLink RX2 9 "PictureBeats$Feed" "queue" "[I", Cond.fieldLink RX2 34 "PictureBeats$Feed" "first" "I", Cond.fieldLink RX2 37 "PictureBeats$Feed" "fetched" "I"]
def wsX3_tick_r7 : List Cond := [Cond.methodLink RX3 98 yX0_isOnDot, Cond.instanceMethod yX0_isOnDot, Cond.selects RX0 yX0_isOnDot yX0_isOnDot, Cond.code yX0_isOnDot cX0_isOnDot 1 (some .boolean), Cond.methodLink RX0 47 yX6_isSeen, Cond.methodLink RX3 101 yX3_makeDot, Cond.instanceMethod yX3_makeDot, Cond.selects RX3 yX3_makeDot yX3_makeDot, Cond.code yX3_makeDot cX3_makeDot 5 none, Cond.fieldLink RX3 42 "PictureBeats$Machine" "sprites" "LPictureBeats$Sprites;", Cond.fieldLink RX3 50 "PictureBeats$Machine" "shown" "[I", Cond.fieldLink RX3 195 "PictureBeats$Machine" "dots" "I", Cond.methodLink RX3 177 yX3_takeScroll, Cond.instanceMethod yX3_takeScroll, Cond.selects RX3 yX3_takeScroll yX3_takeScroll, Cond.code yX3_takeScroll cX3_takeScroll 3 none, Cond.methodLink RX3 180 yX2_takeBit, Cond.instanceMethod yX2_takeBit, Cond.selects RX2 yX2_takeBit yX2_takeBit, Cond.code yX2_takeBit cX2_takeBit 1 (some .int), Cond.fieldLink RX2 40 "PictureBeats$Feed" "unders" "I", Cond.fieldLink RX2 43 "PictureBeats$Feed" "left" "I", Cond.methodLink RX3 183 yX0_rowHere, Cond.instanceMethod yX0_rowHere]
def wsX3_tick_r8 : List Cond := [Cond.selects RX0 yX0_rowHere yX0_rowHere, Cond.code yX0_rowHere cX0_rowHere 1 (some .int), Cond.methodLink RX0 54 yX4_rowOf, Cond.static yX8_placeOf, Cond.code yX8_placeOf cX8_placeOf 2 (some .int), Cond.methodLink RX8 20 yX8_within, Cond.methodLink RX3 189 yX7_showing, Cond.instanceMethod yX7_showing, Cond.selects RX7 yX7_showing yX7_showing, Cond.initialized RX7, Cond.code yX7_showing cX7_showing 5 (some .int), Cond.methodLink RX7 37 yX7_membersOf, Cond.instanceMethod yX7_membersOf, Cond.selects RX7 yX7_membersOf yX7_membersOf, Cond.code yX7_membersOf cX7_membersOf 6 (some .int), Cond.fieldLink RX7 24 "PictureBeats$Sprites" "present" "[I", Cond.methodLink RX7 41 yX7_hasBit, Cond.instanceMethod yX7_hasBit, Cond.selects RX7 yX7_hasBit yX7_hasBit, Cond.code yX7_hasBit cX7_hasBit 6 (some .boolean), Cond.fieldLink RX7 9 "PictureBeats$Sprites" "xs" "[I", Cond.fieldLink RX7 15 "PictureBeats$Sprites" "rows" "[I", Cond.fieldLink RX7 21 "PictureBeats$Sprites" "drawn" "[I", Cond.methodLink RX3 192 yX3_colourOf]
def wsX3_tick_r9 : List Cond := [Cond.instanceMethod yX3_colourOf, Cond.selects RX3 yX3_colourOf yX3_colourOf, Cond.code yX3_colourOf cX3_colourOf 2 (some .int), Cond.methodLink RX3 104 yX0_signalsHere, Cond.instanceMethod yX0_signalsHere, Cond.selects RX0 yX0_signalsHere yX0_signalsHere, Cond.code yX0_signalsHere cX0_signalsHere 1 (some .int), Cond.methodLink RX0 58 yX6_isSync, Cond.instanceMethod yX6_isSync, Cond.selects RX6 yX6_isSync yX6_isSync, Cond.code yX6_isSync cX6_isSync 3 (some .boolean), Cond.methodLink RX0 61 yX0_isOnDot, Cond.methodLink RX3 108 yX0_goOn, Cond.instanceMethod yX0_goOn, Cond.selects RX0 yX0_goOn yX0_goOn, Cond.code yX0_goOn cX0_goOn 1 none]
def wsX3_tick : List Cond := .code yX3_tick cX3_tick 1 none :: ((wsX3_tick_r1 ++ (wsX3_tick_r2 ++ (wsX3_tick_r3 ++ (wsX3_tick_r4 ++ (wsX3_tick_r5 ++ (wsX3_tick_r6 ++ (wsX3_tick_r7 ++ (wsX3_tick_r8 ++ wsX3_tick_r9)))))))) ++ wsX30 ++ wsX00 ++ wsX10 ++ wsX50 ++ wsX40 ++ wsX60 ++ wsX20 ++ wsX70)
def wsX5_copyFrom : List Cond := .code yX5_copyFrom cX5_copyFrom 2 none :: ([.fieldLink RX5 9 "PictureBeats$Registers" "values" "[I", .methodLink RX5 26 arraycopyName, .native arraycopyName, .static arraycopyName, .initialized "java/lang/System"] ++ wsX50)
def wsX7_copyFrom : List Cond := .code yX7_copyFrom cX7_copyFrom 2 none :: ([.fieldLink RX7 9 "PictureBeats$Sprites" "xs" "[I", .methodLink RX7 48 arraycopyName, .native arraycopyName, .static arraycopyName, .initialized "java/lang/System", .fieldLink RX7 15 "PictureBeats$Sprites" "rows" "[I", .fieldLink RX7 18 "PictureBeats$Sprites" "heights" "[I", .fieldLink RX7 21 "PictureBeats$Sprites" "drawn" "[I", .fieldLink RX7 24 "PictureBeats$Sprites" "present" "[I"] ++ wsX70)
def wsX3_copyFrom_r1 : List Cond := [Cond.fieldLink RX3 12 "PictureBeats$Machine" "beam" "LPictureBeats$Beam;", Cond.fieldLink RX3 21 "PictureBeats$Machine" "feed" "LPictureBeats$Feed;", Cond.fieldLink RX3 28 "PictureBeats$Machine" "registers" "LPictureBeats$Registers;", Cond.fieldLink RX3 35 "PictureBeats$Machine" "changes" "LPictureBeats$Changes;", Cond.fieldLink RX3 42 "PictureBeats$Machine" "sprites" "LPictureBeats$Sprites;", Cond.fieldLink RX3 46 "PictureBeats$Machine" "memory" "[I", Cond.methodLink RX3 214 arraycopyName, Cond.native arraycopyName, Cond.static arraycopyName, Cond.initialized "java/lang/System", Cond.fieldLink RX3 50 "PictureBeats$Machine" "shown" "[I", Cond.fieldLink RX3 53 "PictureBeats$Machine" "signals" "[I", Cond.fieldLink RX3 56 "PictureBeats$Machine" "period" "I", Cond.fieldLink RX3 66 "PictureBeats$Machine" "pattern" "I", Cond.fieldLink RX3 69 "PictureBeats$Machine" "ticks" "I", Cond.fieldLink RX3 195 "PictureBeats$Machine" "dots" "I", Cond.methodLink RX3 198 yX0_copyFrom, Cond.instanceMethod yX0_copyFrom, Cond.selects RX0 yX0_copyFrom yX0_copyFrom, Cond.initialized RX0, Cond.code yX0_copyFrom cX0_copyFrom 2 none, Cond.fieldLink RX0 12 "PictureBeats$Beam" "holding" "LPictureBeats$Mode;", Cond.fieldLink RX0 18 "PictureBeats$Beam" "takenUp" "LPictureBeats$Mode;", Cond.fieldLink RX0 21 "PictureBeats$Beam" "told" "LPictureBeats$Mode;"]
def wsX3_copyFrom_r2 : List Cond := [Cond.fieldLink RX0 34 "PictureBeats$Beam" "x" "I", Cond.fieldLink RX0 44 "PictureBeats$Beam" "y" "I", Cond.fieldLink RX0 51 "PictureBeats$Beam" "field" "I", Cond.fieldLink RX0 73 "PictureBeats$Beam" "nextField" "I", Cond.methodLink RX0 65 yX4_copyFrom, Cond.instanceMethod yX4_copyFrom, Cond.selects RX4 yX4_copyFrom yX4_copyFrom, Cond.initialized RX4, Cond.code yX4_copyFrom cX4_copyFrom 2 none, Cond.fieldLink RX4 12 "PictureBeats$Mode" "across" "LPictureBeats$Span;", Cond.fieldLink RX4 18 "PictureBeats$Mode" "down" "LPictureBeats$Span;", Cond.fieldLink RX4 21 "PictureBeats$Mode" "interlaced" "Z", Cond.methodLink RX4 25 yX6_copyFrom, Cond.instanceMethod yX6_copyFrom, Cond.selects RX6 yX6_copyFrom yX6_copyFrom, Cond.initialized RX6, Cond.code yX6_copyFrom cX6_copyFrom 2 none, Cond.fieldLink RX6 7 "PictureBeats$Span" "seen" "I", Cond.fieldLink RX6 13 "PictureBeats$Span" "front" "I", Cond.fieldLink RX6 16 "PictureBeats$Span" "sync" "I", Cond.fieldLink RX6 19 "PictureBeats$Span" "back" "I", Cond.methodLink RX6 22 yX6_tell, Cond.instanceMethod yX6_tell, Cond.selects RX6 yX6_tell yX6_tell]
def wsX3_copyFrom_r3 : List Cond := [Cond.code yX6_tell cX6_tell 5 none, Cond.methodLink RX3 202 yX2_copyFrom, Cond.instanceMethod yX2_copyFrom, Cond.selects RX2 yX2_copyFrom yX2_copyFrom, Cond.initialized RX2, Cond.code yX2_copyFrom cX2_copyFrom 2 none, Cond.fieldLink RX2 9 "PictureBeats$Feed" "queue" "[I", Cond.methodLink RX2 46 arraycopyName, Cond.fieldLink RX2 34 "PictureBeats$Feed" "first" "I", Cond.fieldLink RX2 19 "PictureBeats$Feed" "count" "I", Cond.fieldLink RX2 15 "PictureBeats$Feed" "depth" "I", Cond.fieldLink RX2 43 "PictureBeats$Feed" "left" "I", Cond.fieldLink RX2 22 "PictureBeats$Feed" "leftBits" "I", Cond.fieldLink RX2 25 "PictureBeats$Feed" "row" "I", Cond.fieldLink RX2 28 "PictureBeats$Feed" "nextByte" "I", Cond.fieldLink RX2 31 "PictureBeats$Feed" "bytes" "I", Cond.fieldLink RX2 40 "PictureBeats$Feed" "unders" "I", Cond.fieldLink RX2 37 "PictureBeats$Feed" "fetched" "I", Cond.methodLink RX3 205 yX5_copyFrom, Cond.instanceMethod yX5_copyFrom, Cond.selects RX5 yX5_copyFrom yX5_copyFrom, Cond.initialized RX5, Cond.code yX5_copyFrom cX5_copyFrom 2 none, Cond.fieldLink RX5 9 "PictureBeats$Registers" "values" "[I"]
def wsX3_copyFrom_r4 : List Cond := [Cond.methodLink RX5 26 arraycopyName, Cond.methodLink RX3 208 yX1_copyFrom, Cond.instanceMethod yX1_copyFrom, Cond.selects RX1 yX1_copyFrom yX1_copyFrom, Cond.initialized RX1, Cond.code yX1_copyFrom cX1_copyFrom 2 none, Cond.fieldLink RX1 9 "PictureBeats$Changes" "ys" "[I", Cond.methodLink RX1 34 arraycopyName, Cond.fieldLink RX1 15 "PictureBeats$Changes" "xs" "[I", Cond.fieldLink RX1 18 "PictureBeats$Changes" "registers" "[I", Cond.fieldLink RX1 21 "PictureBeats$Changes" "values" "[I", Cond.fieldLink RX1 24 "PictureBeats$Changes" "count" "I", Cond.methodLink RX3 211 yX7_copyFrom, Cond.instanceMethod yX7_copyFrom, Cond.selects RX7 yX7_copyFrom yX7_copyFrom, Cond.initialized RX7, Cond.code yX7_copyFrom cX7_copyFrom 2 none, Cond.fieldLink RX7 9 "PictureBeats$Sprites" "xs" "[I", Cond.methodLink RX7 48 arraycopyName, Cond.fieldLink RX7 15 "PictureBeats$Sprites" "rows" "[I", Cond.fieldLink RX7 18 "PictureBeats$Sprites" "heights" "[I", Cond.fieldLink RX7 21 "PictureBeats$Sprites" "drawn" "[I", Cond.fieldLink RX7 24 "PictureBeats$Sprites" "present" "[I"]
def wsX3_copyFrom : List Cond := .code yX3_copyFrom cX3_copyFrom 2 none :: ((wsX3_copyFrom_r1 ++ (wsX3_copyFrom_r2 ++ (wsX3_copyFrom_r3 ++ wsX3_copyFrom_r4))) ++ wsX30 ++ wsX00 ++ wsX40 ++ wsX60 ++ wsX20 ++ wsX50 ++ wsX10 ++ wsX70)
def wsX7_turnPresence : List Cond := .code yX7_turnPresence cX7_turnPresence 4 none :: ([.fieldLink RX7 15 "PictureBeats$Sprites" "rows" "[I", .fieldLink RX7 18 "PictureBeats$Sprites" "heights" "[I", .methodLink RX7 31 Lib.Math.min.name, .static Lib.Math.min.name, .initialized "java/lang/Math", .code Lib.Math.min.name Lib.Math.min.code 2 (some .int), .fieldLink RX7 24 "PictureBeats$Sprites" "present" "[I"] ++ wsX70)
def wsX7_move : List Cond := .code yX7_move cX7_move 5 none :: ([.fieldLink RX7 9 "PictureBeats$Sprites" "xs" "[I", .fieldLink RX7 15 "PictureBeats$Sprites" "rows" "[I", .fieldLink RX7 18 "PictureBeats$Sprites" "heights" "[I", .methodLink RX7 27 yX7_turnPresence, .instanceMethod yX7_turnPresence, .selects RX7 yX7_turnPresence yX7_turnPresence, .initialized RX7, .code yX7_turnPresence cX7_turnPresence 4 none, .methodLink RX7 31 Lib.Math.min.name, .static Lib.Math.min.name, .initialized "java/lang/Math", .code Lib.Math.min.name Lib.Math.min.code 2 (some .int), .fieldLink RX7 24 "PictureBeats$Sprites" "present" "[I"] ++ wsX70)
def wsX7_draw : List Cond := .code yX7_draw cX7_draw 5 none :: ([.fieldLink RX7 21 "PictureBeats$Sprites" "drawn" "[I"] ++ wsX70)
def wsX8_init_r1 : List Cond := [Cond.methodLink RX8 1 objectInit, Cond.instanceMethod objectInit, Cond.code objectInit ⟨#[0xb1]⟩ 1 none, Cond.classLink RX8 7 RX3, Cond.instantiable RX3 12, Cond.initialized RX3, Cond.fieldLink RX8 10 "PictureBeats" "machine" "LPictureBeats$Machine;", Cond.fieldLink RX8 16 "PictureBeats" "images" "[LPictureBeats$Machine;", Cond.methodLink RX8 9 yX3_init, Cond.instanceMethod yX3_init, Cond.code yX3_init cX3_init 1 none, Cond.methodLink RX3 3 objectInit, Cond.classLink RX3 9 RX0, Cond.instantiable RX0 7, Cond.initialized RX0, Cond.fieldLink RX3 12 "PictureBeats$Machine" "beam" "LPictureBeats$Beam;", Cond.classLink RX3 18 RX2, Cond.instantiable RX2 11, Cond.initialized RX2, Cond.fieldLink RX3 21 "PictureBeats$Machine" "feed" "LPictureBeats$Feed;", Cond.classLink RX3 25 RX5, Cond.instantiable RX5 1, Cond.initialized RX5, Cond.fieldLink RX3 28 "PictureBeats$Machine" "registers" "LPictureBeats$Registers;"]
def wsX8_init_r2 : List Cond := [Cond.classLink RX3 32 RX1, Cond.instantiable RX1 5, Cond.initialized RX1, Cond.fieldLink RX3 35 "PictureBeats$Machine" "changes" "LPictureBeats$Changes;", Cond.classLink RX3 39 RX7, Cond.instantiable RX7 5, Cond.initialized RX7, Cond.fieldLink RX3 42 "PictureBeats$Machine" "sprites" "LPictureBeats$Sprites;", Cond.arrayClass .int, Cond.fieldLink RX3 46 "PictureBeats$Machine" "memory" "[I", Cond.fieldLink RX3 50 "PictureBeats$Machine" "shown" "[I", Cond.fieldLink RX3 53 "PictureBeats$Machine" "signals" "[I", Cond.fieldLink RX3 56 "PictureBeats$Machine" "period" "I", Cond.instanceMethod yX0_init, Cond.code yX0_init cX0_init 1 none, Cond.methodLink RX0 3 objectInit, Cond.classLink RX0 9 RX4, Cond.instantiable RX4 3, Cond.initialized RX4, Cond.fieldLink RX0 12 "PictureBeats$Beam" "holding" "LPictureBeats$Mode;", Cond.fieldLink RX0 18 "PictureBeats$Beam" "takenUp" "LPictureBeats$Mode;", Cond.fieldLink RX0 21 "PictureBeats$Beam" "told" "LPictureBeats$Mode;", Cond.fieldLink RX0 24 "PictureBeats$Mode" "across" "LPictureBeats$Span;", Cond.fieldLink RX0 28 "PictureBeats$Span" "seen" "I"]
def wsX8_init_r3 : List Cond := [Cond.fieldLink RX0 34 "PictureBeats$Beam" "x" "I", Cond.fieldLink RX0 37 "PictureBeats$Mode" "down" "LPictureBeats$Span;", Cond.fieldLink RX0 44 "PictureBeats$Beam" "y" "I", Cond.instanceMethod yX4_init, Cond.code yX4_init cX4_init 1 none, Cond.methodLink RX4 1 objectInit, Cond.classLink RX4 7 RX6, Cond.instantiable RX6 4, Cond.initialized RX6, Cond.fieldLink RX4 12 "PictureBeats$Mode" "across" "LPictureBeats$Span;", Cond.fieldLink RX4 18 "PictureBeats$Mode" "down" "LPictureBeats$Span;", Cond.methodLink RX4 9 yX6_init, Cond.instanceMethod yX6_init, Cond.code yX6_init cX6_init 5 none, Cond.methodLink RX6 1 objectInit, Cond.fieldLink RX6 7 "PictureBeats$Span" "seen" "I", Cond.fieldLink RX6 13 "PictureBeats$Span" "front" "I", Cond.fieldLink RX6 16 "PictureBeats$Span" "sync" "I", Cond.fieldLink RX6 19 "PictureBeats$Span" "back" "I", Cond.methodLink RX0 40 yX6_whole, Cond.instanceMethod yX6_whole, Cond.selects RX6 yX6_whole yX6_whole, Cond.code yX6_whole cX6_whole 1 (some .int), Cond.instanceMethod yX2_init]
def wsX8_init_r4 : List Cond := [Cond.code yX2_init cX2_init 1 none, Cond.methodLink RX2 3 objectInit, Cond.fieldLink RX2 9 "PictureBeats$Feed" "queue" "[I", Cond.fieldLink RX2 15 "PictureBeats$Feed" "depth" "I", Cond.instanceMethod yX5_init, Cond.code yX5_init cX5_init 1 none, Cond.methodLink RX5 3 objectInit, Cond.fieldLink RX5 9 "PictureBeats$Registers" "values" "[I", Cond.instanceMethod yX1_init, Cond.code yX1_init cX1_init 1 none, Cond.methodLink RX1 3 objectInit, Cond.fieldLink RX1 9 "PictureBeats$Changes" "ys" "[I", Cond.fieldLink RX1 15 "PictureBeats$Changes" "xs" "[I", Cond.fieldLink RX1 18 "PictureBeats$Changes" "registers" "[I", Cond.fieldLink RX1 21 "PictureBeats$Changes" "values" "[I", Cond.instanceMethod yX7_init, Cond.code yX7_init cX7_init 1 none, Cond.methodLink RX7 3 objectInit, Cond.fieldLink RX7 9 "PictureBeats$Sprites" "xs" "[I", Cond.fieldLink RX7 15 "PictureBeats$Sprites" "rows" "[I", Cond.fieldLink RX7 18 "PictureBeats$Sprites" "heights" "[I", Cond.fieldLink RX7 21 "PictureBeats$Sprites" "drawn" "[I", Cond.fieldLink RX7 24 "PictureBeats$Sprites" "present" "[I", Cond.methodLink RX3 60 yJ7_fill_53178]
def wsX8_init_r5 : List Cond := [Cond.static yJ7_fill_53178, Cond.initialized RJ7, Cond.code yJ7_fill_53178 cJ7_fill_53178 4 none]
def wsX8_init : List Cond := .code yX8_init cX8_init 1 none :: ((wsX8_init_r1 ++ (wsX8_init_r2 ++ (wsX8_init_r3 ++ (wsX8_init_r4 ++ wsX8_init_r5)))) ++ wsX30 ++ wsX80 ++ wsX00 ++ wsX20 ++ wsX50 ++ wsX10 ++ wsX70 ++ wsX40 ++ wsX60)
def wsX8_line : List Cond := .code yX8_line cX8_line 5 (some .boolean) :: ([.fieldLink RX8 10 "PictureBeats" "machine" "LPictureBeats$Machine;", .fieldLink RX8 24 "PictureBeats$Machine" "beam" "LPictureBeats$Beam;", .fieldLink RX8 28 "PictureBeats$Beam" "told" "LPictureBeats$Mode;", .fieldLink RX8 34 "PictureBeats$Mode" "across" "LPictureBeats$Span;", .methodLink RX8 20 yX8_within, .static yX8_within, .initialized RX8, .code yX8_within cX8_within 3 (some .boolean), .methodLink RX8 40 yX6_tell, .instanceMethod yX6_tell, .selects RX6 yX6_tell yX6_tell, .initialized RX6, .code yX6_tell cX6_tell 5 none, .fieldLink RX6 7 "PictureBeats$Span" "seen" "I", .fieldLink RX6 13 "PictureBeats$Span" "front" "I", .fieldLink RX6 16 "PictureBeats$Span" "sync" "I", .fieldLink RX6 19 "PictureBeats$Span" "back" "I"] ++ wsX80 ++ wsX30 ++ wsX00 ++ wsX40 ++ wsX60)
def wsX8_field : List Cond := .code yX8_field cX8_field 6 (some .boolean) :: ([.fieldLink RX8 10 "PictureBeats" "machine" "LPictureBeats$Machine;", .fieldLink RX8 24 "PictureBeats$Machine" "beam" "LPictureBeats$Beam;", .fieldLink RX8 28 "PictureBeats$Beam" "told" "LPictureBeats$Mode;", .fieldLink RX8 46 "PictureBeats$Mode" "down" "LPictureBeats$Span;", .fieldLink RX8 49 "PictureBeats$Mode" "interlaced" "Z", .methodLink RX8 20 yX8_within, .static yX8_within, .initialized RX8, .code yX8_within cX8_within 3 (some .boolean), .methodLink RX8 40 yX6_tell, .instanceMethod yX6_tell, .selects RX6 yX6_tell yX6_tell, .initialized RX6, .code yX6_tell cX6_tell 5 none, .fieldLink RX6 7 "PictureBeats$Span" "seen" "I", .fieldLink RX6 13 "PictureBeats$Span" "front" "I", .fieldLink RX6 16 "PictureBeats$Span" "sync" "I", .fieldLink RX6 19 "PictureBeats$Span" "back" "I"] ++ wsX80 ++ wsX30 ++ wsX00 ++ wsX40 ++ wsX60)
def wsX8_put : List Cond := .code yX8_put cX8_put 3 (some .boolean) :: ([.fieldLink RX8 10 "PictureBeats" "machine" "LPictureBeats$Machine;", .methodLink RX8 20 yX8_within, .static yX8_within, .initialized RX8, .code yX8_within cX8_within 3 (some .boolean), .methodLink RX8 53 yX3_storeByte, .instanceMethod yX3_storeByte, .selects RX3 yX3_storeByte yX3_storeByte, .initialized RX3, .code yX3_storeByte cX3_storeByte 3 none, .fieldLink RX3 46 "PictureBeats$Machine" "memory" "[I"] ++ wsX80 ++ wsX30)
def wsX8_four : List Cond := .code yX8_four cX8_four 4 (some .boolean) :: ([.fieldLink RX8 10 "PictureBeats" "machine" "LPictureBeats$Machine;", .methodLink RX8 20 yX8_within, .static yX8_within, .initialized RX8, .code yX8_within cX8_within 3 (some .boolean), .methodLink RX8 53 yX3_storeByte, .instanceMethod yX3_storeByte, .selects RX3 yX3_storeByte yX3_storeByte, .initialized RX3, .code yX3_storeByte cX3_storeByte 3 none, .fieldLink RX3 46 "PictureBeats$Machine" "memory" "[I"] ++ wsX80 ++ wsX30)
def wsX8_register : List Cond := .code yX8_register cX8_register 3 (some .boolean) :: ([.fieldLink RX8 10 "PictureBeats" "machine" "LPictureBeats$Machine;", .fieldLink RX8 57 "PictureBeats$Machine" "registers" "LPictureBeats$Registers;", .methodLink RX8 61 yX5_change, .instanceMethod yX5_change, .selects RX5 yX5_change yX5_change, .initialized RX5, .code yX5_change cX5_change 3 (some .boolean), .fieldLink RX5 9 "PictureBeats$Registers" "values" "[I", .methodLink RX5 22 yX5_takes, .static yX5_takes, .code yX5_takes cX5_takes 2 (some .boolean), .static yX8_within, .initialized RX8, .code yX8_within cX8_within 3 (some .boolean)] ++ wsX80 ++ wsX30 ++ wsX50)
def wsX8_entry : List Cond := .code yX8_entry cX8_entry 5 (some .int) :: ([.fieldLink RX8 10 "PictureBeats" "machine" "LPictureBeats$Machine;", .fieldLink RX8 70 "PictureBeats$Machine" "changes" "LPictureBeats$Changes;", .methodLink RX8 20 yX8_within, .static yX8_within, .initialized RX8, .code yX8_within cX8_within 3 (some .boolean), .methodLink RX8 67 yX5_takes, .static yX5_takes, .initialized RX5, .code yX5_takes cX5_takes 2 (some .boolean), .methodLink RX8 74 yX1_append, .instanceMethod yX1_append, .selects RX1 yX1_append yX1_append, .initialized RX1, .code yX1_append cX1_append 5 (some .int), .fieldLink RX1 24 "PictureBeats$Changes" "count" "I", .fieldLink RX1 9 "PictureBeats$Changes" "ys" "[I", .fieldLink RX1 15 "PictureBeats$Changes" "xs" "[I", .fieldLink RX1 18 "PictureBeats$Changes" "registers" "[I", .fieldLink RX1 21 "PictureBeats$Changes" "values" "[I"] ++ wsX80 ++ wsX30 ++ wsX10)
def wsX8_clear : List Cond := .code yX8_clear cX8_clear 1 none :: ([.fieldLink RX8 10 "PictureBeats" "machine" "LPictureBeats$Machine;", .fieldLink RX8 70 "PictureBeats$Machine" "changes" "LPictureBeats$Changes;", .fieldLink RX8 80 "PictureBeats$Changes" "count" "I"] ++ wsX80 ++ wsX30 ++ wsX10)
def wsX8_readers : List Cond := .code yX8_readers cX8_readers 3 (some .boolean) :: ([.fieldLink RX8 10 "PictureBeats" "machine" "LPictureBeats$Machine;", .fieldLink RX8 84 "PictureBeats$Machine" "period" "I", .fieldLink RX8 87 "PictureBeats$Machine" "pattern" "I", .methodLink RX8 20 yX8_within, .static yX8_within, .initialized RX8, .code yX8_within cX8_within 3 (some .boolean)] ++ wsX80 ++ wsX30)
def wsX8_depth : List Cond := .code yX8_depth cX8_depth 2 (some .boolean) :: ([.fieldLink RX8 10 "PictureBeats" "machine" "LPictureBeats$Machine;", .fieldLink RX8 90 "PictureBeats$Machine" "feed" "LPictureBeats$Feed;", .fieldLink RX8 94 "PictureBeats$Feed" "depth" "I", .methodLink RX8 20 yX8_within, .static yX8_within, .initialized RX8, .code yX8_within cX8_within 3 (some .boolean)] ++ wsX80 ++ wsX30 ++ wsX20)
def wsX8_sprite : List Cond := .code yX8_sprite cX8_sprite 5 (some .boolean) :: ([.fieldLink RX8 10 "PictureBeats" "machine" "LPictureBeats$Machine;", .fieldLink RX8 99 "PictureBeats$Machine" "sprites" "LPictureBeats$Sprites;", .methodLink RX8 20 yX8_within, .static yX8_within, .initialized RX8, .code yX8_within cX8_within 3 (some .boolean), .methodLink RX8 103 yX7_move, .instanceMethod yX7_move, .selects RX7 yX7_move yX7_move, .initialized RX7, .code yX7_move cX7_move 5 none, .fieldLink RX7 9 "PictureBeats$Sprites" "xs" "[I", .fieldLink RX7 15 "PictureBeats$Sprites" "rows" "[I", .fieldLink RX7 18 "PictureBeats$Sprites" "heights" "[I", .methodLink RX7 27 yX7_turnPresence, .instanceMethod yX7_turnPresence, .selects RX7 yX7_turnPresence yX7_turnPresence, .code yX7_turnPresence cX7_turnPresence 4 none, .methodLink RX7 31 Lib.Math.min.name, .static Lib.Math.min.name, .initialized "java/lang/Math", .code Lib.Math.min.name Lib.Math.min.code 2 (some .int), .fieldLink RX7 24 "PictureBeats$Sprites" "present" "[I"] ++ wsX80 ++ wsX30 ++ wsX70)
def wsX8_bits : List Cond := .code yX8_bits cX8_bits 4 (some .boolean) :: ([.fieldLink RX8 10 "PictureBeats" "machine" "LPictureBeats$Machine;", .fieldLink RX8 99 "PictureBeats$Machine" "sprites" "LPictureBeats$Sprites;", .methodLink RX8 20 yX8_within, .static yX8_within, .initialized RX8, .code yX8_within cX8_within 3 (some .boolean), .methodLink RX8 108 yX7_draw, .instanceMethod yX7_draw, .selects RX7 yX7_draw yX7_draw, .initialized RX7, .code yX7_draw cX7_draw 5 none, .fieldLink RX7 21 "PictureBeats$Sprites" "drawn" "[I"] ++ wsX80 ++ wsX30 ++ wsX70)
def wsX8_ticks_r1 : List Cond := [Cond.fieldLink RX8 10 "PictureBeats" "machine" "LPictureBeats$Machine;", Cond.fieldLink RX8 112 "PictureBeats$Machine" "ticks" "I", Cond.constant RX8 115 (1000000), Cond.methodLink RX8 20 yX8_within, Cond.static yX8_within, Cond.initialized RX8, Cond.code yX8_within cX8_within 3 (some .boolean), Cond.methodLink RX8 116 yX3_tick, Cond.instanceMethod yX3_tick, Cond.selects RX3 yX3_tick yX3_tick, Cond.initialized RX3, Cond.code yX3_tick cX3_tick 1 none, Cond.fieldLink RX3 35 "PictureBeats$Machine" "changes" "LPictureBeats$Changes;", Cond.fieldLink RX3 12 "PictureBeats$Machine" "beam" "LPictureBeats$Beam;", Cond.fieldLink RX3 72 "PictureBeats$Beam" "y" "I", Cond.fieldLink RX3 75 "PictureBeats$Beam" "x" "I", Cond.fieldLink RX3 28 "PictureBeats$Machine" "registers" "LPictureBeats$Registers;", Cond.fieldLink RX3 21 "PictureBeats$Machine" "feed" "LPictureBeats$Feed;", Cond.fieldLink RX3 53 "PictureBeats$Machine" "signals" "[I", Cond.fieldLink RX3 69 "PictureBeats$Machine" "ticks" "I", Cond.methodLink RX3 78 yX1_apply, Cond.instanceMethod yX1_apply, Cond.selects RX1 yX1_apply yX1_apply, Cond.initialized RX1]
def wsX8_ticks_r2 : List Cond := [Cond.code yX1_apply cX1_apply 5 none, Cond.fieldLink RX1 24 "PictureBeats$Changes" "count" "I", Cond.fieldLink RX1 15 "PictureBeats$Changes" "xs" "[I", Cond.fieldLink RX1 9 "PictureBeats$Changes" "ys" "[I", Cond.fieldLink RX1 18 "PictureBeats$Changes" "registers" "[I", Cond.fieldLink RX1 21 "PictureBeats$Changes" "values" "[I", Cond.methodLink RX1 28 yX5_change, Cond.instanceMethod yX5_change, Cond.selects RX5 yX5_change yX5_change, Cond.initialized RX5, Cond.code yX5_change cX5_change 3 (some .boolean), Cond.fieldLink RX5 9 "PictureBeats$Registers" "values" "[I", Cond.methodLink RX5 22 yX5_takes, Cond.static yX5_takes, Cond.code yX5_takes cX5_takes 2 (some .boolean), Cond.methodLink RX3 82 yX0_isBehindSeen, Cond.instanceMethod yX0_isBehindSeen, Cond.selects RX0 yX0_isBehindSeen yX0_isBehindSeen, Cond.initialized RX0, Cond.code yX0_isBehindSeen cX0_isBehindSeen 1 (some .boolean), Cond.fieldLink RX0 34 "PictureBeats$Beam" "x" "I", Cond.fieldLink RX0 12 "PictureBeats$Beam" "holding" "LPictureBeats$Mode;", Cond.fieldLink RX0 24 "PictureBeats$Mode" "across" "LPictureBeats$Span;", Cond.fieldLink RX0 28 "PictureBeats$Span" "seen" "I"]
def wsX8_ticks_r3 : List Cond := [Cond.methodLink RX3 86 yX3_turnToNextLine, Cond.instanceMethod yX3_turnToNextLine, Cond.selects RX3 yX3_turnToNextLine yX3_turnToNextLine, Cond.code yX3_turnToNextLine cX3_turnToNextLine 1 none, Cond.fieldLink RX3 117 "PictureBeats$Beam" "takenUp" "LPictureBeats$Mode;", Cond.fieldLink RX3 121 "PictureBeats$Beam" "nextField" "I", Cond.fieldLink RX3 128 "PictureBeats$Beam" "holding" "LPictureBeats$Mode;", Cond.fieldLink RX3 131 "PictureBeats$Beam" "field" "I", Cond.methodLink RX3 111 yX0_isOnLastLine, Cond.instanceMethod yX0_isOnLastLine, Cond.selects RX0 yX0_isOnLastLine yX0_isOnLastLine, Cond.code yX0_isOnLastLine cX0_isOnLastLine 1 (some .boolean), Cond.fieldLink RX0 44 "PictureBeats$Beam" "y" "I", Cond.fieldLink RX0 37 "PictureBeats$Mode" "down" "LPictureBeats$Span;", Cond.methodLink RX0 40 yX6_whole, Cond.instanceMethod yX6_whole, Cond.selects RX6 yX6_whole yX6_whole, Cond.initialized RX6, Cond.code yX6_whole cX6_whole 1 (some .int), Cond.fieldLink RX6 7 "PictureBeats$Span" "seen" "I", Cond.fieldLink RX6 13 "PictureBeats$Span" "front" "I", Cond.fieldLink RX6 16 "PictureBeats$Span" "sync" "I", Cond.fieldLink RX6 19 "PictureBeats$Span" "back" "I", Cond.methodLink RX3 114 yX0_takeUp]
def wsX8_ticks_r4 : List Cond := [Cond.instanceMethod yX0_takeUp, Cond.selects RX0 yX0_takeUp yX0_takeUp, Cond.code yX0_takeUp cX0_takeUp 1 none, Cond.fieldLink RX0 18 "PictureBeats$Beam" "takenUp" "LPictureBeats$Mode;", Cond.fieldLink RX0 21 "PictureBeats$Beam" "told" "LPictureBeats$Mode;", Cond.fieldLink RX0 69 "PictureBeats$Mode" "interlaced" "Z", Cond.fieldLink RX0 51 "PictureBeats$Beam" "field" "I", Cond.fieldLink RX0 73 "PictureBeats$Beam" "nextField" "I", Cond.methodLink RX0 65 yX4_copyFrom, Cond.instanceMethod yX4_copyFrom, Cond.selects RX4 yX4_copyFrom yX4_copyFrom, Cond.initialized RX4, Cond.code yX4_copyFrom cX4_copyFrom 2 none, Cond.fieldLink RX4 12 "PictureBeats$Mode" "across" "LPictureBeats$Span;", Cond.fieldLink RX4 18 "PictureBeats$Mode" "down" "LPictureBeats$Span;", Cond.fieldLink RX4 21 "PictureBeats$Mode" "interlaced" "Z", Cond.methodLink RX4 25 yX6_copyFrom, Cond.instanceMethod yX6_copyFrom, Cond.selects RX6 yX6_copyFrom yX6_copyFrom, Cond.code yX6_copyFrom cX6_copyFrom 2 none, Cond.methodLink RX6 22 yX6_tell, Cond.instanceMethod yX6_tell, Cond.selects RX6 yX6_tell yX6_tell, Cond.code yX6_tell cX6_tell 5 none]
def wsX8_ticks_r5 : List Cond := [Cond.methodLink RX3 124 yX3_startFeed, Cond.instanceMethod yX3_startFeed, Cond.selects RX3 yX3_startFeed yX3_startFeed, Cond.code yX3_startFeed cX3_startFeed 5 none, Cond.fieldLink RX3 134 "PictureBeats$Mode" "down" "LPictureBeats$Span;", Cond.fieldLink RX3 146 "PictureBeats$Mode" "across" "LPictureBeats$Span;", Cond.fieldLink RX3 149 "PictureBeats$Span" "seen" "I", Cond.methodLink RX3 140 yX6_isSeen, Cond.instanceMethod yX6_isSeen, Cond.selects RX6 yX6_isSeen yX6_isSeen, Cond.code yX6_isSeen cX6_isSeen 2 (some .boolean), Cond.static yX8_bytesOfLine, Cond.code yX8_bytesOfLine cX8_bytesOfLine 1 (some .int), Cond.methodLink RX3 156 yX4_rowOf, Cond.instanceMethod yX4_rowOf, Cond.selects RX4 yX4_rowOf yX4_rowOf, Cond.code yX4_rowOf cX4_rowOf 3 (some .int), Cond.methodLink RX3 160 yX2_startLine, Cond.instanceMethod yX2_startLine, Cond.selects RX2 yX2_startLine yX2_startLine, Cond.initialized RX2, Cond.code yX2_startLine cX2_startLine 3 none, Cond.fieldLink RX2 19 "PictureBeats$Feed" "count" "I", Cond.fieldLink RX2 22 "PictureBeats$Feed" "leftBits" "I"]
def wsX8_ticks_r6 : List Cond := [Cond.fieldLink RX2 25 "PictureBeats$Feed" "row" "I", Cond.fieldLink RX2 28 "PictureBeats$Feed" "nextByte" "I", Cond.fieldLink RX2 31 "PictureBeats$Feed" "bytes" "I", Cond.methodLink RX3 89 yX2_wantsByte, Cond.instanceMethod yX2_wantsByte, Cond.selects RX2 yX2_wantsByte yX2_wantsByte, Cond.code yX2_wantsByte cX2_wantsByte 1 (some .boolean), Cond.fieldLink RX2 15 "PictureBeats$Feed" "depth" "I", Cond.methodLink RX3 92 yX3_isTaken, Cond.instanceMethod yX3_isTaken, Cond.selects RX3 yX3_isTaken yX3_isTaken, Cond.code yX3_isTaken cX3_isTaken 1 (some .boolean), Cond.fieldLink RX3 56 "PictureBeats$Machine" "period" "I", Cond.fieldLink RX3 66 "PictureBeats$Machine" "pattern" "I", Cond.methodLink RX3 95 yX3_fetchByte, Cond.instanceMethod yX3_fetchByte, Cond.selects RX3 yX3_fetchByte yX3_fetchByte, Cond.code yX3_fetchByte cX3_fetchByte 2 none, Cond.fieldLink RX3 167 "PictureBeats$Feed" "row" "I", Cond.fieldLink RX3 170 "PictureBeats$Feed" "nextByte" "I", Cond.fieldLink RX3 46 "PictureBeats$Machine" "memory" "[I", Cond.methodLink RX3 164 yX5_read, Cond.instanceMethod yX5_read, Cond.selects RX5 yX5_read yX5_read]
def wsX8_ticks_r7 : List Cond := [Cond.code yX5_read cX5_read 2 (some .int), Cond.methodLink RX3 173 yX2_append, Cond.instanceMethod yX2_append, Cond.selects RX2 yX2_append yX2_append, Cond.code yX2_append cX2_append 2 none, Cond.fieldLink RX2 9 "PictureBeats$Feed" "queue" "[I", Cond.fieldLink RX2 34 "PictureBeats$Feed" "first" "I", Cond.fieldLink RX2 37 "PictureBeats$Feed" "fetched" "I", Cond.methodLink RX3 98 yX0_isOnDot, Cond.instanceMethod yX0_isOnDot, Cond.selects RX0 yX0_isOnDot yX0_isOnDot, Cond.code yX0_isOnDot cX0_isOnDot 1 (some .boolean), Cond.methodLink RX0 47 yX6_isSeen, Cond.methodLink RX3 101 yX3_makeDot, Cond.instanceMethod yX3_makeDot, Cond.selects RX3 yX3_makeDot yX3_makeDot, Cond.code yX3_makeDot cX3_makeDot 5 none, Cond.fieldLink RX3 42 "PictureBeats$Machine" "sprites" "LPictureBeats$Sprites;", Cond.fieldLink RX3 50 "PictureBeats$Machine" "shown" "[I", Cond.fieldLink RX3 195 "PictureBeats$Machine" "dots" "I", Cond.methodLink RX3 177 yX3_takeScroll, Cond.instanceMethod yX3_takeScroll, Cond.selects RX3 yX3_takeScroll yX3_takeScroll, Cond.code yX3_takeScroll cX3_takeScroll 3 none]
def wsX8_ticks_r8 : List Cond := [Cond.methodLink RX3 180 yX2_takeBit, Cond.instanceMethod yX2_takeBit, Cond.selects RX2 yX2_takeBit yX2_takeBit, Cond.code yX2_takeBit cX2_takeBit 1 (some .int), Cond.fieldLink RX2 40 "PictureBeats$Feed" "unders" "I", Cond.fieldLink RX2 43 "PictureBeats$Feed" "left" "I", Cond.methodLink RX3 183 yX0_rowHere, Cond.instanceMethod yX0_rowHere, Cond.selects RX0 yX0_rowHere yX0_rowHere, Cond.code yX0_rowHere cX0_rowHere 1 (some .int), Cond.methodLink RX0 54 yX4_rowOf, Cond.static yX8_placeOf, Cond.code yX8_placeOf cX8_placeOf 2 (some .int), Cond.methodLink RX3 189 yX7_showing, Cond.instanceMethod yX7_showing, Cond.selects RX7 yX7_showing yX7_showing, Cond.initialized RX7, Cond.code yX7_showing cX7_showing 5 (some .int), Cond.methodLink RX7 37 yX7_membersOf, Cond.instanceMethod yX7_membersOf, Cond.selects RX7 yX7_membersOf yX7_membersOf, Cond.code yX7_membersOf cX7_membersOf 6 (some .int), Cond.fieldLink RX7 24 "PictureBeats$Sprites" "present" "[I", Cond.methodLink RX7 41 yX7_hasBit]
def wsX8_ticks_r9 : List Cond := [Cond.instanceMethod yX7_hasBit, Cond.selects RX7 yX7_hasBit yX7_hasBit, Cond.code yX7_hasBit cX7_hasBit 6 (some .boolean), Cond.fieldLink RX7 9 "PictureBeats$Sprites" "xs" "[I", Cond.fieldLink RX7 15 "PictureBeats$Sprites" "rows" "[I", Cond.fieldLink RX7 21 "PictureBeats$Sprites" "drawn" "[I", Cond.methodLink RX3 192 yX3_colourOf, Cond.instanceMethod yX3_colourOf, Cond.selects RX3 yX3_colourOf yX3_colourOf, Cond.code yX3_colourOf cX3_colourOf 2 (some .int), Cond.methodLink RX3 104 yX0_signalsHere, Cond.instanceMethod yX0_signalsHere, Cond.selects RX0 yX0_signalsHere yX0_signalsHere, Cond.code yX0_signalsHere cX0_signalsHere 1 (some .int), Cond.methodLink RX0 58 yX6_isSync, Cond.instanceMethod yX6_isSync, Cond.selects RX6 yX6_isSync yX6_isSync, Cond.code yX6_isSync cX6_isSync 3 (some .boolean), Cond.methodLink RX0 61 yX0_isOnDot, Cond.methodLink RX3 108 yX0_goOn, Cond.instanceMethod yX0_goOn, Cond.selects RX0 yX0_goOn yX0_goOn, Cond.code yX0_goOn cX0_goOn 1 none]
def wsX8_ticks : List Cond := .code yX8_ticks cX8_ticks 3 (some .int) :: ((wsX8_ticks_r1 ++ (wsX8_ticks_r2 ++ (wsX8_ticks_r3 ++ (wsX8_ticks_r4 ++ (wsX8_ticks_r5 ++ (wsX8_ticks_r6 ++ (wsX8_ticks_r7 ++ (wsX8_ticks_r8 ++ wsX8_ticks_r9)))))))) ++ wsX80 ++ wsX30 ++ wsX00 ++ wsX10 ++ wsX50 ++ wsX40 ++ wsX60 ++ wsX20 ++ wsX70)
def wsX8_shown : List Cond := .code yX8_shown cX8_shown 4 (some .int) :: ([.fieldLink RX8 10 "PictureBeats" "machine" "LPictureBeats$Machine;", .fieldLink RX8 123 "PictureBeats$Machine" "shown" "[I", .methodLink RX8 119 yX8_placeOf, .static yX8_placeOf, .initialized RX8, .code yX8_placeOf cX8_placeOf 2 (some .int), .methodLink RX8 20 yX8_within, .static yX8_within, .code yX8_within cX8_within 3 (some .boolean)] ++ wsX80 ++ wsX30)
def wsX8_now_r1 : List Cond := [Cond.fieldLink RX8 10 "PictureBeats" "machine" "LPictureBeats$Machine;", Cond.fieldLink RX8 24 "PictureBeats$Machine" "beam" "LPictureBeats$Beam;", Cond.fieldLink RX8 127 "PictureBeats$Beam" "x" "I", Cond.fieldLink RX8 130 "PictureBeats$Beam" "y" "I", Cond.fieldLink RX8 133 "PictureBeats$Beam" "field" "I", Cond.fieldLink RX8 140 "PictureBeats$Beam" "holding" "LPictureBeats$Mode;", Cond.fieldLink RX8 34 "PictureBeats$Mode" "across" "LPictureBeats$Span;", Cond.fieldLink RX8 46 "PictureBeats$Mode" "down" "LPictureBeats$Span;", Cond.fieldLink RX8 90 "PictureBeats$Machine" "feed" "LPictureBeats$Feed;", Cond.fieldLink RX8 146 "PictureBeats$Feed" "count" "I", Cond.fieldLink RX8 147 "PictureBeats$Feed" "leftBits" "I", Cond.fieldLink RX8 150 "PictureBeats$Feed" "unders" "I", Cond.fieldLink RX8 153 "PictureBeats$Machine" "dots" "I", Cond.fieldLink RX8 156 "PictureBeats$Feed" "fetched" "I", Cond.methodLink RX8 136 yX0_signalsHere, Cond.instanceMethod yX0_signalsHere, Cond.selects RX0 yX0_signalsHere yX0_signalsHere, Cond.initialized RX0, Cond.code yX0_signalsHere cX0_signalsHere 1 (some .int), Cond.fieldLink RX0 12 "PictureBeats$Beam" "holding" "LPictureBeats$Mode;", Cond.fieldLink RX0 24 "PictureBeats$Mode" "across" "LPictureBeats$Span;", Cond.fieldLink RX0 34 "PictureBeats$Beam" "x" "I", Cond.fieldLink RX0 37 "PictureBeats$Mode" "down" "LPictureBeats$Span;", Cond.fieldLink RX0 44 "PictureBeats$Beam" "y" "I"]
def wsX8_now_r2 : List Cond := [Cond.methodLink RX0 58 yX6_isSync, Cond.instanceMethod yX6_isSync, Cond.selects RX6 yX6_isSync yX6_isSync, Cond.initialized RX6, Cond.code yX6_isSync cX6_isSync 3 (some .boolean), Cond.fieldLink RX6 7 "PictureBeats$Span" "seen" "I", Cond.fieldLink RX6 13 "PictureBeats$Span" "front" "I", Cond.fieldLink RX6 16 "PictureBeats$Span" "sync" "I", Cond.methodLink RX0 61 yX0_isOnDot, Cond.instanceMethod yX0_isOnDot, Cond.selects RX0 yX0_isOnDot yX0_isOnDot, Cond.code yX0_isOnDot cX0_isOnDot 1 (some .boolean), Cond.methodLink RX0 47 yX6_isSeen, Cond.instanceMethod yX6_isSeen, Cond.selects RX6 yX6_isSeen yX6_isSeen, Cond.code yX6_isSeen cX6_isSeen 2 (some .boolean), Cond.methodLink RX8 143 yX6_whole, Cond.instanceMethod yX6_whole, Cond.selects RX6 yX6_whole yX6_whole, Cond.code yX6_whole cX6_whole 1 (some .int), Cond.fieldLink RX6 19 "PictureBeats$Span" "back" "I", Cond.methodLink RX8 159 yX3_isTaken, Cond.instanceMethod yX3_isTaken, Cond.selects RX3 yX3_isTaken yX3_isTaken]
def wsX8_now_r3 : List Cond := [Cond.initialized RX3, Cond.code yX3_isTaken cX3_isTaken 1 (some .boolean), Cond.fieldLink RX3 56 "PictureBeats$Machine" "period" "I", Cond.fieldLink RX3 66 "PictureBeats$Machine" "pattern" "I", Cond.fieldLink RX3 69 "PictureBeats$Machine" "ticks" "I"]
def wsX8_now : List Cond := .code yX8_now cX8_now 3 (some .int) :: ((wsX8_now_r1 ++ (wsX8_now_r2 ++ wsX8_now_r3)) ++ wsX80 ++ wsX30 ++ wsX00 ++ wsX40 ++ wsX20 ++ wsX60)
def wsX8_signals : List Cond := .code yX8_signals cX8_signals 2 (some .int) :: ([.fieldLink RX8 10 "PictureBeats" "machine" "LPictureBeats$Machine;", .fieldLink RX8 112 "PictureBeats$Machine" "ticks" "I", .fieldLink RX8 163 "PictureBeats$Machine" "signals" "[I", .methodLink RX8 20 yX8_within, .static yX8_within, .initialized RX8, .code yX8_within cX8_within 3 (some .boolean)] ++ wsX80 ++ wsX30)
def wsX8_value : List Cond := .code yX8_value cX8_value 2 (some .int) :: ([.fieldLink RX8 10 "PictureBeats" "machine" "LPictureBeats$Machine;", .fieldLink RX8 57 "PictureBeats$Machine" "registers" "LPictureBeats$Registers;", .methodLink RX8 166 yX5_read, .instanceMethod yX5_read, .selects RX5 yX5_read yX5_read, .initialized RX5, .code yX5_read cX5_read 2 (some .int), .fieldLink RX5 9 "PictureBeats$Registers" "values" "[I", .static yX8_within, .initialized RX8, .code yX8_within cX8_within 3 (some .boolean)] ++ wsX80 ++ wsX30 ++ wsX50)
def wsJ6_bitCount_0f7a4 : List Cond := .code yJ6_bitCount_0f7a4 cJ6_bitCount_0f7a4 1 (some .int) :: ([.constant RJ6 265 (1431655765), .constant RJ6 266 (858993459), .constant RJ6 267 (252645135)])
def wsX8_row_r1 : List Cond := [Cond.fieldLink RX8 10 "PictureBeats" "machine" "LPictureBeats$Machine;", Cond.fieldLink RX8 99 "PictureBeats$Machine" "sprites" "LPictureBeats$Sprites;", Cond.fieldLink RX8 170 "PictureBeats$Sprites" "present" "[I", Cond.methodLink RX8 178 Lib.Math.max.name, Cond.static Lib.Math.max.name, Cond.initialized "java/lang/Math", Cond.code Lib.Math.max.name Lib.Math.max.code 2 (some .int), Cond.methodLink RX8 183 Lib.Math.min.name, Cond.static Lib.Math.min.name, Cond.code Lib.Math.min.name Lib.Math.min.code 2 (some .int), Cond.methodLink RX8 20 yX8_within, Cond.static yX8_within, Cond.initialized RX8, Cond.code yX8_within cX8_within 3 (some .boolean), Cond.methodLink RX8 173 yJ6_bitCount_0f7a4, Cond.static yJ6_bitCount_0f7a4, Cond.initialized RJ6, Cond.code yJ6_bitCount_0f7a4 cJ6_bitCount_0f7a4 1 (some .int), Cond.constant RJ6 265 (1431655765), Cond.constant RJ6 266 (858993459), Cond.constant RJ6 267 (252645135), Cond.methodLink RX8 186 yX7_membersOf, Cond.instanceMethod yX7_membersOf, Cond.selects RX7 yX7_membersOf yX7_membersOf]
def wsX8_row_r2 : List Cond := [Cond.initialized RX7, Cond.code yX7_membersOf cX7_membersOf 6 (some .int), Cond.fieldLink RX7 24 "PictureBeats$Sprites" "present" "[I"]
def wsX8_row : List Cond := .code yX8_row cX8_row 4 (some .int) :: ((wsX8_row_r1 ++ wsX8_row_r2) ++ wsX80 ++ wsX30 ++ wsX70)
def wsX8_fewestQueued : List Cond := .code yX8_fewestQueued cX8_fewestQueued 12 (some .int) :: ([.fieldLink RX8 10 "PictureBeats" "machine" "LPictureBeats$Machine;", .fieldLink RX8 24 "PictureBeats$Machine" "beam" "LPictureBeats$Beam;", .fieldLink RX8 140 "PictureBeats$Beam" "holding" "LPictureBeats$Mode;", .fieldLink RX8 34 "PictureBeats$Mode" "across" "LPictureBeats$Span;", .fieldLink RX8 90 "PictureBeats$Machine" "feed" "LPictureBeats$Feed;", .fieldLink RX8 94 "PictureBeats$Feed" "depth" "I", .fieldLink RX8 204 "PictureBeats$Span" "seen" "I", .methodLink RX8 183 Lib.Math.min.name, .static Lib.Math.min.name, .initialized "java/lang/Math", .code Lib.Math.min.name Lib.Math.min.code 2 (some .int), .methodLink RX8 207 yX8_bytesOfLine, .static yX8_bytesOfLine, .initialized RX8, .code yX8_bytesOfLine cX8_bytesOfLine 1 (some .int), .methodLink RX8 143 yX6_whole, .instanceMethod yX6_whole, .selects RX6 yX6_whole yX6_whole, .initialized RX6, .code yX6_whole cX6_whole 1 (some .int), .fieldLink RX6 7 "PictureBeats$Span" "seen" "I", .fieldLink RX6 13 "PictureBeats$Span" "front" "I", .fieldLink RX6 16 "PictureBeats$Span" "sync" "I", .fieldLink RX6 19 "PictureBeats$Span" "back" "I"] ++ wsX80 ++ wsX30 ++ wsX00 ++ wsX40 ++ wsX20 ++ wsX60)
def wsX8_least_r1 : List Cond := [Cond.fieldLink RX8 10 "PictureBeats" "machine" "LPictureBeats$Machine;", Cond.fieldLink RX8 90 "PictureBeats$Machine" "feed" "LPictureBeats$Feed;", Cond.fieldLink RX8 94 "PictureBeats$Feed" "depth" "I", Cond.methodLink RX8 183 Lib.Math.min.name, Cond.static Lib.Math.min.name, Cond.initialized "java/lang/Math", Cond.code Lib.Math.min.name Lib.Math.min.code 2 (some .int), Cond.methodLink RX8 20 yX8_within, Cond.static yX8_within, Cond.initialized RX8, Cond.code yX8_within cX8_within 3 (some .boolean), Cond.methodLink RX8 189 yX8_fewestQueued, Cond.instanceMethod yX8_fewestQueued, Cond.selects RX8 yX8_fewestQueued yX8_fewestQueued, Cond.code yX8_fewestQueued cX8_fewestQueued 12 (some .int), Cond.fieldLink RX8 24 "PictureBeats$Machine" "beam" "LPictureBeats$Beam;", Cond.fieldLink RX8 140 "PictureBeats$Beam" "holding" "LPictureBeats$Mode;", Cond.fieldLink RX8 34 "PictureBeats$Mode" "across" "LPictureBeats$Span;", Cond.fieldLink RX8 204 "PictureBeats$Span" "seen" "I", Cond.methodLink RX8 207 yX8_bytesOfLine, Cond.static yX8_bytesOfLine, Cond.code yX8_bytesOfLine cX8_bytesOfLine 1 (some .int), Cond.methodLink RX8 143 yX6_whole, Cond.instanceMethod yX6_whole]
def wsX8_least_r2 : List Cond := [Cond.selects RX6 yX6_whole yX6_whole, Cond.initialized RX6, Cond.code yX6_whole cX6_whole 1 (some .int), Cond.fieldLink RX6 7 "PictureBeats$Span" "seen" "I", Cond.fieldLink RX6 13 "PictureBeats$Span" "front" "I", Cond.fieldLink RX6 16 "PictureBeats$Span" "sync" "I", Cond.fieldLink RX6 19 "PictureBeats$Span" "back" "I"]
def wsX8_least : List Cond := .code yX8_least cX8_least 5 (some .int) :: ((wsX8_least_r1 ++ wsX8_least_r2) ++ wsX80 ++ wsX30 ++ wsX20 ++ wsX00 ++ wsX40 ++ wsX60)
def wsX8_areFitBounds : List Cond := .code yX8_areFitBounds cX8_areFitBounds 2 (some .boolean) :: ([.methodLink RX8 20 yX8_within, .static yX8_within, .initialized RX8, .code yX8_within cX8_within 3 (some .boolean)])
def wsX8_isNearer : List Cond := .code yX8_isNearer cX8_isNearer 8 (some .boolean) :: ([.methodLink RX8 210 Lib.MathLoose.abs_long.x, .static Lib.MathLoose.abs_long.x, .initialized "java/lang/Math", .code Lib.MathLoose.abs_long.x Lib.MathLoose.abs_long.code 2 (some .long)])
def wsX8_fit : List Cond := .code yX8_fit cX8_fit 14 (some .int) :: ([.constant RX8 115 (1000000), .methodLink RX8 183 Lib.Math.min.name, .static Lib.Math.min.name, .initialized "java/lang/Math", .code Lib.Math.min.name Lib.Math.min.code 2 (some .int), .methodLink RX8 178 Lib.Math.max.name, .static Lib.Math.max.name, .code Lib.Math.max.name Lib.Math.max.code 2 (some .int), .methodLink RX8 20 yX8_within, .static yX8_within, .initialized RX8, .code yX8_within cX8_within 3 (some .boolean), .methodLink RX8 193 yX8_areFitBounds, .static yX8_areFitBounds, .code yX8_areFitBounds cX8_areFitBounds 2 (some .boolean), .methodLink RX8 196 yX8_isNearer, .static yX8_isNearer, .code yX8_isNearer cX8_isNearer 8 (some .boolean), .methodLink RX8 210 Lib.MathLoose.abs_long.x, .static Lib.MathLoose.abs_long.x, .code Lib.MathLoose.abs_long.x Lib.MathLoose.abs_long.code 2 (some .long)])
def wsX8_image_r1 : List Cond := [Cond.fieldLink RX8 16 "PictureBeats" "images" "[LPictureBeats$Machine;", Cond.classLink RX8 7 RX3, Cond.instantiable RX3 12, Cond.initialized RX3, Cond.fieldLink RX8 10 "PictureBeats" "machine" "LPictureBeats$Machine;", Cond.methodLink RX8 20 yX8_within, Cond.static yX8_within, Cond.initialized RX8, Cond.code yX8_within cX8_within 3 (some .boolean), Cond.methodLink RX8 9 yX3_init, Cond.instanceMethod yX3_init, Cond.code yX3_init cX3_init 1 none, Cond.methodLink RX3 3 objectInit, Cond.instanceMethod objectInit, Cond.code objectInit ⟨#[0xb1]⟩ 1 none, Cond.classLink RX3 9 RX0, Cond.instantiable RX0 7, Cond.initialized RX0, Cond.fieldLink RX3 12 "PictureBeats$Machine" "beam" "LPictureBeats$Beam;", Cond.classLink RX3 18 RX2, Cond.instantiable RX2 11, Cond.initialized RX2, Cond.fieldLink RX3 21 "PictureBeats$Machine" "feed" "LPictureBeats$Feed;", Cond.classLink RX3 25 RX5]
def wsX8_image_r2 : List Cond := [Cond.instantiable RX5 1, Cond.initialized RX5, Cond.fieldLink RX3 28 "PictureBeats$Machine" "registers" "LPictureBeats$Registers;", Cond.classLink RX3 32 RX1, Cond.instantiable RX1 5, Cond.initialized RX1, Cond.fieldLink RX3 35 "PictureBeats$Machine" "changes" "LPictureBeats$Changes;", Cond.classLink RX3 39 RX7, Cond.instantiable RX7 5, Cond.initialized RX7, Cond.fieldLink RX3 42 "PictureBeats$Machine" "sprites" "LPictureBeats$Sprites;", Cond.arrayClass .int, Cond.fieldLink RX3 46 "PictureBeats$Machine" "memory" "[I", Cond.fieldLink RX3 50 "PictureBeats$Machine" "shown" "[I", Cond.fieldLink RX3 53 "PictureBeats$Machine" "signals" "[I", Cond.fieldLink RX3 56 "PictureBeats$Machine" "period" "I", Cond.instanceMethod yX0_init, Cond.code yX0_init cX0_init 1 none, Cond.methodLink RX0 3 objectInit, Cond.classLink RX0 9 RX4, Cond.instantiable RX4 3, Cond.initialized RX4, Cond.fieldLink RX0 12 "PictureBeats$Beam" "holding" "LPictureBeats$Mode;", Cond.fieldLink RX0 18 "PictureBeats$Beam" "takenUp" "LPictureBeats$Mode;"]
def wsX8_image_r3 : List Cond := [Cond.fieldLink RX0 21 "PictureBeats$Beam" "told" "LPictureBeats$Mode;", Cond.fieldLink RX0 24 "PictureBeats$Mode" "across" "LPictureBeats$Span;", Cond.fieldLink RX0 28 "PictureBeats$Span" "seen" "I", Cond.fieldLink RX0 34 "PictureBeats$Beam" "x" "I", Cond.fieldLink RX0 37 "PictureBeats$Mode" "down" "LPictureBeats$Span;", Cond.fieldLink RX0 44 "PictureBeats$Beam" "y" "I", Cond.instanceMethod yX4_init, Cond.code yX4_init cX4_init 1 none, Cond.methodLink RX4 1 objectInit, Cond.classLink RX4 7 RX6, Cond.instantiable RX6 4, Cond.initialized RX6, Cond.fieldLink RX4 12 "PictureBeats$Mode" "across" "LPictureBeats$Span;", Cond.fieldLink RX4 18 "PictureBeats$Mode" "down" "LPictureBeats$Span;", Cond.methodLink RX4 9 yX6_init, Cond.instanceMethod yX6_init, Cond.code yX6_init cX6_init 5 none, Cond.methodLink RX6 1 objectInit, Cond.fieldLink RX6 7 "PictureBeats$Span" "seen" "I", Cond.fieldLink RX6 13 "PictureBeats$Span" "front" "I", Cond.fieldLink RX6 16 "PictureBeats$Span" "sync" "I", Cond.fieldLink RX6 19 "PictureBeats$Span" "back" "I", Cond.methodLink RX0 40 yX6_whole, Cond.instanceMethod yX6_whole]
def wsX8_image_r4 : List Cond := [Cond.selects RX6 yX6_whole yX6_whole, Cond.code yX6_whole cX6_whole 1 (some .int), Cond.instanceMethod yX2_init, Cond.code yX2_init cX2_init 1 none, Cond.methodLink RX2 3 objectInit, Cond.fieldLink RX2 9 "PictureBeats$Feed" "queue" "[I", Cond.fieldLink RX2 15 "PictureBeats$Feed" "depth" "I", Cond.instanceMethod yX5_init, Cond.code yX5_init cX5_init 1 none, Cond.methodLink RX5 3 objectInit, Cond.fieldLink RX5 9 "PictureBeats$Registers" "values" "[I", Cond.instanceMethod yX1_init, Cond.code yX1_init cX1_init 1 none, Cond.methodLink RX1 3 objectInit, Cond.fieldLink RX1 9 "PictureBeats$Changes" "ys" "[I", Cond.fieldLink RX1 15 "PictureBeats$Changes" "xs" "[I", Cond.fieldLink RX1 18 "PictureBeats$Changes" "registers" "[I", Cond.fieldLink RX1 21 "PictureBeats$Changes" "values" "[I", Cond.instanceMethod yX7_init, Cond.code yX7_init cX7_init 1 none, Cond.methodLink RX7 3 objectInit, Cond.fieldLink RX7 9 "PictureBeats$Sprites" "xs" "[I", Cond.fieldLink RX7 15 "PictureBeats$Sprites" "rows" "[I", Cond.fieldLink RX7 18 "PictureBeats$Sprites" "heights" "[I"]
def wsX8_image_r5 : List Cond := [Cond.fieldLink RX7 21 "PictureBeats$Sprites" "drawn" "[I", Cond.fieldLink RX7 24 "PictureBeats$Sprites" "present" "[I", Cond.methodLink RX3 60 yJ7_fill_53178, Cond.static yJ7_fill_53178, Cond.initialized RJ7, Cond.code yJ7_fill_53178 cJ7_fill_53178 4 none, Cond.methodLink RX8 200 yX3_copyFrom, Cond.instanceMethod yX3_copyFrom, Cond.selects RX3 yX3_copyFrom yX3_copyFrom, Cond.code yX3_copyFrom cX3_copyFrom 2 none, Cond.methodLink RX3 214 arraycopyName, Cond.native arraycopyName, Cond.static arraycopyName, Cond.initialized "java/lang/System", Cond.fieldLink RX3 66 "PictureBeats$Machine" "pattern" "I", Cond.fieldLink RX3 69 "PictureBeats$Machine" "ticks" "I", Cond.fieldLink RX3 195 "PictureBeats$Machine" "dots" "I", Cond.methodLink RX3 198 yX0_copyFrom, Cond.instanceMethod yX0_copyFrom, Cond.selects RX0 yX0_copyFrom yX0_copyFrom, Cond.code yX0_copyFrom cX0_copyFrom 2 none, Cond.fieldLink RX0 51 "PictureBeats$Beam" "field" "I", Cond.fieldLink RX0 73 "PictureBeats$Beam" "nextField" "I", Cond.methodLink RX0 65 yX4_copyFrom]
def wsX8_image_r6 : List Cond := [Cond.instanceMethod yX4_copyFrom, Cond.selects RX4 yX4_copyFrom yX4_copyFrom, Cond.code yX4_copyFrom cX4_copyFrom 2 none, Cond.fieldLink RX4 21 "PictureBeats$Mode" "interlaced" "Z", Cond.methodLink RX4 25 yX6_copyFrom, Cond.instanceMethod yX6_copyFrom, Cond.selects RX6 yX6_copyFrom yX6_copyFrom, Cond.code yX6_copyFrom cX6_copyFrom 2 none, Cond.methodLink RX6 22 yX6_tell, Cond.instanceMethod yX6_tell, Cond.selects RX6 yX6_tell yX6_tell, Cond.code yX6_tell cX6_tell 5 none, Cond.methodLink RX3 202 yX2_copyFrom, Cond.instanceMethod yX2_copyFrom, Cond.selects RX2 yX2_copyFrom yX2_copyFrom, Cond.code yX2_copyFrom cX2_copyFrom 2 none, Cond.methodLink RX2 46 arraycopyName, Cond.fieldLink RX2 34 "PictureBeats$Feed" "first" "I", Cond.fieldLink RX2 19 "PictureBeats$Feed" "count" "I", Cond.fieldLink RX2 43 "PictureBeats$Feed" "left" "I", Cond.fieldLink RX2 22 "PictureBeats$Feed" "leftBits" "I", Cond.fieldLink RX2 25 "PictureBeats$Feed" "row" "I", Cond.fieldLink RX2 28 "PictureBeats$Feed" "nextByte" "I", Cond.fieldLink RX2 31 "PictureBeats$Feed" "bytes" "I"]
def wsX8_image_r7 : List Cond := [Cond.fieldLink RX2 40 "PictureBeats$Feed" "unders" "I", Cond.fieldLink RX2 37 "PictureBeats$Feed" "fetched" "I", Cond.methodLink RX3 205 yX5_copyFrom, Cond.instanceMethod yX5_copyFrom, Cond.selects RX5 yX5_copyFrom yX5_copyFrom, Cond.code yX5_copyFrom cX5_copyFrom 2 none, Cond.methodLink RX5 26 arraycopyName, Cond.methodLink RX3 208 yX1_copyFrom, Cond.instanceMethod yX1_copyFrom, Cond.selects RX1 yX1_copyFrom yX1_copyFrom, Cond.code yX1_copyFrom cX1_copyFrom 2 none, Cond.methodLink RX1 34 arraycopyName, Cond.fieldLink RX1 24 "PictureBeats$Changes" "count" "I", Cond.methodLink RX3 211 yX7_copyFrom, Cond.instanceMethod yX7_copyFrom, Cond.selects RX7 yX7_copyFrom yX7_copyFrom, Cond.code yX7_copyFrom cX7_copyFrom 2 none, Cond.methodLink RX7 48 arraycopyName]
def wsX8_image : List Cond := .code yX8_image cX8_image 2 (some .boolean) :: ((wsX8_image_r1 ++ (wsX8_image_r2 ++ (wsX8_image_r3 ++ (wsX8_image_r4 ++ (wsX8_image_r5 ++ (wsX8_image_r6 ++ wsX8_image_r7)))))) ++ wsX80 ++ wsX30 ++ wsX00 ++ wsX20 ++ wsX50 ++ wsX10 ++ wsX70 ++ wsX40 ++ wsX60)
def wsX8_again_r1 : List Cond := [Cond.fieldLink RX8 16 "PictureBeats" "images" "[LPictureBeats$Machine;", Cond.fieldLink RX8 10 "PictureBeats" "machine" "LPictureBeats$Machine;", Cond.methodLink RX8 20 yX8_within, Cond.static yX8_within, Cond.initialized RX8, Cond.code yX8_within cX8_within 3 (some .boolean), Cond.methodLink RX8 200 yX3_copyFrom, Cond.instanceMethod yX3_copyFrom, Cond.selects RX3 yX3_copyFrom yX3_copyFrom, Cond.initialized RX3, Cond.code yX3_copyFrom cX3_copyFrom 2 none, Cond.fieldLink RX3 12 "PictureBeats$Machine" "beam" "LPictureBeats$Beam;", Cond.fieldLink RX3 21 "PictureBeats$Machine" "feed" "LPictureBeats$Feed;", Cond.fieldLink RX3 28 "PictureBeats$Machine" "registers" "LPictureBeats$Registers;", Cond.fieldLink RX3 35 "PictureBeats$Machine" "changes" "LPictureBeats$Changes;", Cond.fieldLink RX3 42 "PictureBeats$Machine" "sprites" "LPictureBeats$Sprites;", Cond.fieldLink RX3 46 "PictureBeats$Machine" "memory" "[I", Cond.methodLink RX3 214 arraycopyName, Cond.native arraycopyName, Cond.static arraycopyName, Cond.initialized "java/lang/System", Cond.fieldLink RX3 50 "PictureBeats$Machine" "shown" "[I", Cond.fieldLink RX3 53 "PictureBeats$Machine" "signals" "[I", Cond.fieldLink RX3 56 "PictureBeats$Machine" "period" "I"]
def wsX8_again_r2 : List Cond := [Cond.fieldLink RX3 66 "PictureBeats$Machine" "pattern" "I", Cond.fieldLink RX3 69 "PictureBeats$Machine" "ticks" "I", Cond.fieldLink RX3 195 "PictureBeats$Machine" "dots" "I", Cond.methodLink RX3 198 yX0_copyFrom, Cond.instanceMethod yX0_copyFrom, Cond.selects RX0 yX0_copyFrom yX0_copyFrom, Cond.initialized RX0, Cond.code yX0_copyFrom cX0_copyFrom 2 none, Cond.fieldLink RX0 12 "PictureBeats$Beam" "holding" "LPictureBeats$Mode;", Cond.fieldLink RX0 18 "PictureBeats$Beam" "takenUp" "LPictureBeats$Mode;", Cond.fieldLink RX0 21 "PictureBeats$Beam" "told" "LPictureBeats$Mode;", Cond.fieldLink RX0 34 "PictureBeats$Beam" "x" "I", Cond.fieldLink RX0 44 "PictureBeats$Beam" "y" "I", Cond.fieldLink RX0 51 "PictureBeats$Beam" "field" "I", Cond.fieldLink RX0 73 "PictureBeats$Beam" "nextField" "I", Cond.methodLink RX0 65 yX4_copyFrom, Cond.instanceMethod yX4_copyFrom, Cond.selects RX4 yX4_copyFrom yX4_copyFrom, Cond.initialized RX4, Cond.code yX4_copyFrom cX4_copyFrom 2 none, Cond.fieldLink RX4 12 "PictureBeats$Mode" "across" "LPictureBeats$Span;", Cond.fieldLink RX4 18 "PictureBeats$Mode" "down" "LPictureBeats$Span;", Cond.fieldLink RX4 21 "PictureBeats$Mode" "interlaced" "Z", Cond.methodLink RX4 25 yX6_copyFrom]
def wsX8_again_r3 : List Cond := [Cond.instanceMethod yX6_copyFrom, Cond.selects RX6 yX6_copyFrom yX6_copyFrom, Cond.initialized RX6, Cond.code yX6_copyFrom cX6_copyFrom 2 none, Cond.fieldLink RX6 7 "PictureBeats$Span" "seen" "I", Cond.fieldLink RX6 13 "PictureBeats$Span" "front" "I", Cond.fieldLink RX6 16 "PictureBeats$Span" "sync" "I", Cond.fieldLink RX6 19 "PictureBeats$Span" "back" "I", Cond.methodLink RX6 22 yX6_tell, Cond.instanceMethod yX6_tell, Cond.selects RX6 yX6_tell yX6_tell, Cond.code yX6_tell cX6_tell 5 none, Cond.methodLink RX3 202 yX2_copyFrom, Cond.instanceMethod yX2_copyFrom, Cond.selects RX2 yX2_copyFrom yX2_copyFrom, Cond.initialized RX2, Cond.code yX2_copyFrom cX2_copyFrom 2 none, Cond.fieldLink RX2 9 "PictureBeats$Feed" "queue" "[I", Cond.methodLink RX2 46 arraycopyName, Cond.fieldLink RX2 34 "PictureBeats$Feed" "first" "I", Cond.fieldLink RX2 19 "PictureBeats$Feed" "count" "I", Cond.fieldLink RX2 15 "PictureBeats$Feed" "depth" "I", Cond.fieldLink RX2 43 "PictureBeats$Feed" "left" "I", Cond.fieldLink RX2 22 "PictureBeats$Feed" "leftBits" "I"]
def wsX8_again_r4 : List Cond := [Cond.fieldLink RX2 25 "PictureBeats$Feed" "row" "I", Cond.fieldLink RX2 28 "PictureBeats$Feed" "nextByte" "I", Cond.fieldLink RX2 31 "PictureBeats$Feed" "bytes" "I", Cond.fieldLink RX2 40 "PictureBeats$Feed" "unders" "I", Cond.fieldLink RX2 37 "PictureBeats$Feed" "fetched" "I", Cond.methodLink RX3 205 yX5_copyFrom, Cond.instanceMethod yX5_copyFrom, Cond.selects RX5 yX5_copyFrom yX5_copyFrom, Cond.initialized RX5, Cond.code yX5_copyFrom cX5_copyFrom 2 none, Cond.fieldLink RX5 9 "PictureBeats$Registers" "values" "[I", Cond.methodLink RX5 26 arraycopyName, Cond.methodLink RX3 208 yX1_copyFrom, Cond.instanceMethod yX1_copyFrom, Cond.selects RX1 yX1_copyFrom yX1_copyFrom, Cond.initialized RX1, Cond.code yX1_copyFrom cX1_copyFrom 2 none, Cond.fieldLink RX1 9 "PictureBeats$Changes" "ys" "[I", Cond.methodLink RX1 34 arraycopyName, Cond.fieldLink RX1 15 "PictureBeats$Changes" "xs" "[I", Cond.fieldLink RX1 18 "PictureBeats$Changes" "registers" "[I", Cond.fieldLink RX1 21 "PictureBeats$Changes" "values" "[I", Cond.fieldLink RX1 24 "PictureBeats$Changes" "count" "I", Cond.methodLink RX3 211 yX7_copyFrom]
def wsX8_again_r5 : List Cond := [Cond.instanceMethod yX7_copyFrom, Cond.selects RX7 yX7_copyFrom yX7_copyFrom, Cond.initialized RX7, Cond.code yX7_copyFrom cX7_copyFrom 2 none, Cond.fieldLink RX7 9 "PictureBeats$Sprites" "xs" "[I", Cond.methodLink RX7 48 arraycopyName, Cond.fieldLink RX7 15 "PictureBeats$Sprites" "rows" "[I", Cond.fieldLink RX7 18 "PictureBeats$Sprites" "heights" "[I", Cond.fieldLink RX7 21 "PictureBeats$Sprites" "drawn" "[I", Cond.fieldLink RX7 24 "PictureBeats$Sprites" "present" "[I"]
def wsX8_again : List Cond := .code yX8_again cX8_again 2 (some .boolean) :: ((wsX8_again_r1 ++ (wsX8_again_r2 ++ (wsX8_again_r3 ++ (wsX8_again_r4 ++ wsX8_again_r5)))) ++ wsX80 ++ wsX30 ++ wsX00 ++ wsX40 ++ wsX60 ++ wsX20 ++ wsX50 ++ wsX10 ++ wsX70)
def wsX9_init : List Cond := .code yX9_init cX9_init 2 none :: ([.methodLink RX9 1 objectInit, .instanceMethod objectInit, .code objectInit ⟨#[0xb1]⟩ 1 none, .arrayClass .int, .fieldLink RX9 7 "PictureBeatsModel" "all" "[I", .arrayClass .boolean, .fieldLink RX9 13 "PictureBeatsModel" "has" "[Z"] ++ wsX90)
def wsX9_isIn : List Cond := .code yX9_isIn cX9_isIn 3 (some .boolean) :: ([])
def wsX9_line : List Cond := .code yX9_line cX9_line 5 (some .boolean) :: ([.fieldLink RX9 7 "PictureBeatsModel" "all" "[I", .methodLink RX9 17 yX9_isIn, .static yX9_isIn, .initialized RX9, .code yX9_isIn cX9_isIn 3 (some .boolean)] ++ wsX90)
def wsX9_field : List Cond := .code yX9_field cX9_field 6 (some .boolean) :: ([.fieldLink RX9 7 "PictureBeatsModel" "all" "[I", .methodLink RX9 17 yX9_isIn, .static yX9_isIn, .initialized RX9, .code yX9_isIn cX9_isIn 3 (some .boolean)] ++ wsX90)
def wsX9_ticksOf : List Cond := .code yX9_ticksOf cX9_ticksOf 2 (some .int) :: ([.fieldLink RX9 7 "PictureBeatsModel" "all" "[I"] ++ wsX90)
def wsX9_linesOf : List Cond := .code yX9_linesOf cX9_linesOf 2 (some .int) :: ([.fieldLink RX9 7 "PictureBeatsModel" "all" "[I"] ++ wsX90)
def wsX9_nextField : List Cond := .code yX9_nextField cX9_nextField 1 (some .int) :: ([.fieldLink RX9 7 "PictureBeatsModel" "all" "[I"] ++ wsX90)
def wsX9_rowOf : List Cond := .code yX9_rowOf cX9_rowOf 3 (some .int) :: ([])
def wsX9_put : List Cond := .code yX9_put cX9_put 3 (some .boolean) :: ([.fieldLink RX9 7 "PictureBeatsModel" "all" "[I", .methodLink RX9 17 yX9_isIn, .static yX9_isIn, .initialized RX9, .code yX9_isIn cX9_isIn 3 (some .boolean)] ++ wsX90)
def wsX9_four : List Cond := .code yX9_four cX9_four 4 (some .boolean) :: ([.fieldLink RX9 7 "PictureBeatsModel" "all" "[I", .methodLink RX9 17 yX9_isIn, .static yX9_isIn, .initialized RX9, .code yX9_isIn cX9_isIn 3 (some .boolean)] ++ wsX90)
def wsX9_isValue : List Cond := .code yX9_isValue cX9_isValue 2 (some .boolean) :: ([.methodLink RX9 17 yX9_isIn, .static yX9_isIn, .initialized RX9, .code yX9_isIn cX9_isIn 3 (some .boolean)])
def wsX9_register : List Cond := .code yX9_register cX9_register 3 (some .boolean) :: ([.fieldLink RX9 7 "PictureBeatsModel" "all" "[I", .methodLink RX9 21 yX9_isValue, .static yX9_isValue, .initialized RX9, .code yX9_isValue cX9_isValue 2 (some .boolean), .methodLink RX9 17 yX9_isIn, .static yX9_isIn, .code yX9_isIn cX9_isIn 3 (some .boolean)] ++ wsX90)
def wsX9_entry : List Cond := .code yX9_entry cX9_entry 6 (some .int) :: ([.fieldLink RX9 7 "PictureBeatsModel" "all" "[I", .methodLink RX9 17 yX9_isIn, .static yX9_isIn, .initialized RX9, .code yX9_isIn cX9_isIn 3 (some .boolean), .methodLink RX9 21 yX9_isValue, .static yX9_isValue, .code yX9_isValue cX9_isValue 2 (some .boolean)] ++ wsX90)
def wsX9_clear : List Cond := .code yX9_clear cX9_clear 1 none :: ([.fieldLink RX9 7 "PictureBeatsModel" "all" "[I"] ++ wsX90)
def wsX9_readers : List Cond := .code yX9_readers cX9_readers 3 (some .boolean) :: ([.fieldLink RX9 7 "PictureBeatsModel" "all" "[I", .methodLink RX9 17 yX9_isIn, .static yX9_isIn, .initialized RX9, .code yX9_isIn cX9_isIn 3 (some .boolean)] ++ wsX90)
def wsX9_depth : List Cond := .code yX9_depth cX9_depth 2 (some .boolean) :: ([.fieldLink RX9 7 "PictureBeatsModel" "all" "[I", .methodLink RX9 17 yX9_isIn, .static yX9_isIn, .initialized RX9, .code yX9_isIn cX9_isIn 3 (some .boolean)] ++ wsX90)
def wsX9_sprite : List Cond := .code yX9_sprite cX9_sprite 5 (some .boolean) :: ([.fieldLink RX9 7 "PictureBeatsModel" "all" "[I", .methodLink RX9 17 yX9_isIn, .static yX9_isIn, .initialized RX9, .code yX9_isIn cX9_isIn 3 (some .boolean)] ++ wsX90)
def wsX9_bits : List Cond := .code yX9_bits cX9_bits 5 (some .boolean) :: ([.fieldLink RX9 7 "PictureBeatsModel" "all" "[I", .methodLink RX9 17 yX9_isIn, .static yX9_isIn, .initialized RX9, .code yX9_isIn cX9_isIn 3 (some .boolean)] ++ wsX90)
def wsX9_hasRow : List Cond := .code yX9_hasRow cX9_hasRow 4 (some .boolean) :: ([.fieldLink RX9 7 "PictureBeatsModel" "all" "[I"] ++ wsX90)
def wsX9_spritesOf : List Cond := .code yX9_spritesOf cX9_spritesOf 5 (some .int) :: ([.methodLink RX9 25 yX9_hasRow, .instanceMethod yX9_hasRow, .selects RX9 yX9_hasRow yX9_hasRow, .initialized RX9, .code yX9_hasRow cX9_hasRow 4 (some .boolean), .fieldLink RX9 7 "PictureBeatsModel" "all" "[I"] ++ wsX90)
def wsX9_isTaken : List Cond := .code yX9_isTaken cX9_isTaken 1 (some .boolean) :: ([.fieldLink RX9 7 "PictureBeatsModel" "all" "[I"] ++ wsX90)
def wsX9_signalsNow : List Cond := .code yX9_signalsNow cX9_signalsNow 4 (some .int) :: ([.fieldLink RX9 7 "PictureBeatsModel" "all" "[I", .methodLink RX9 17 yX9_isIn, .static yX9_isIn, .initialized RX9, .code yX9_isIn cX9_isIn 3 (some .boolean)] ++ wsX90)
def wsX9_bytesOf : List Cond := .code yX9_bytesOf cX9_bytesOf 1 (some .int) :: ([])
def wsX9_begins : List Cond := .code yX9_begins cX9_begins 4 none :: ([.fieldLink RX9 7 "PictureBeatsModel" "all" "[I", .methodLink RX9 28 yX9_linesOf, .instanceMethod yX9_linesOf, .selects RX9 yX9_linesOf yX9_linesOf, .initialized RX9, .code yX9_linesOf cX9_linesOf 2 (some .int), .methodLink RX9 32 yX9_nextField, .instanceMethod yX9_nextField, .selects RX9 yX9_nextField yX9_nextField, .code yX9_nextField cX9_nextField 1 (some .int), .methodLink RX9 36 yX9_rowOf, .static yX9_rowOf, .code yX9_rowOf cX9_rowOf 3 (some .int), .methodLink RX9 40 yX9_bytesOf, .static yX9_bytesOf, .code yX9_bytesOf cX9_bytesOf 1 (some .int)] ++ wsX90)
def wsX9_fetches : List Cond := .code yX9_fetches cX9_fetches 2 none :: ([.fieldLink RX9 7 "PictureBeatsModel" "all" "[I", .methodLink RX9 43 yX9_isTaken, .instanceMethod yX9_isTaken, .selects RX9 yX9_isTaken yX9_isTaken, .initialized RX9, .code yX9_isTaken cX9_isTaken 1 (some .boolean)] ++ wsX90)
def wsX9_takes : List Cond := .code yX9_takes cX9_takes 2 (some .int) :: ([.fieldLink RX9 7 "PictureBeatsModel" "all" "[I"] ++ wsX90)
def wsX9_dots : List Cond := .code yX9_dots cX9_dots 8 none :: ([.fieldLink RX9 7 "PictureBeatsModel" "all" "[I", .methodLink RX9 47 yX9_takes, .instanceMethod yX9_takes, .selects RX9 yX9_takes yX9_takes, .initialized RX9, .code yX9_takes cX9_takes 2 (some .int), .methodLink RX9 36 yX9_rowOf, .static yX9_rowOf, .code yX9_rowOf cX9_rowOf 3 (some .int), .methodLink RX9 50 yX9_spritesOf, .instanceMethod yX9_spritesOf, .selects RX9 yX9_spritesOf yX9_spritesOf, .code yX9_spritesOf cX9_spritesOf 5 (some .int), .methodLink RX9 25 yX9_hasRow, .instanceMethod yX9_hasRow, .selects RX9 yX9_hasRow yX9_hasRow, .code yX9_hasRow cX9_hasRow 4 (some .boolean), .methodLink RX9 17 yX9_isIn, .static yX9_isIn, .code yX9_isIn cX9_isIn 3 (some .boolean)] ++ wsX90)
def wsX9_goesOn : List Cond := .code yX9_goesOn cX9_goesOn 2 none :: ([.fieldLink RX9 7 "PictureBeatsModel" "all" "[I", .methodLink RX9 53 yX9_ticksOf, .instanceMethod yX9_ticksOf, .selects RX9 yX9_ticksOf yX9_ticksOf, .initialized RX9, .code yX9_ticksOf cX9_ticksOf 2 (some .int), .methodLink RX9 28 yX9_linesOf, .instanceMethod yX9_linesOf, .selects RX9 yX9_linesOf yX9_linesOf, .code yX9_linesOf cX9_linesOf 2 (some .int), .methodLink RX9 32 yX9_nextField, .instanceMethod yX9_nextField, .selects RX9 yX9_nextField yX9_nextField, .code yX9_nextField cX9_nextField 1 (some .int)] ++ wsX90)
def wsX9_aTick_r1 : List Cond := [Cond.fieldLink RX9 7 "PictureBeatsModel" "all" "[I", Cond.methodLink RX9 56 yX9_begins, Cond.instanceMethod yX9_begins, Cond.selects RX9 yX9_begins yX9_begins, Cond.initialized RX9, Cond.code yX9_begins cX9_begins 4 none, Cond.methodLink RX9 28 yX9_linesOf, Cond.instanceMethod yX9_linesOf, Cond.selects RX9 yX9_linesOf yX9_linesOf, Cond.code yX9_linesOf cX9_linesOf 2 (some .int), Cond.methodLink RX9 32 yX9_nextField, Cond.instanceMethod yX9_nextField, Cond.selects RX9 yX9_nextField yX9_nextField, Cond.code yX9_nextField cX9_nextField 1 (some .int), Cond.methodLink RX9 36 yX9_rowOf, Cond.static yX9_rowOf, Cond.code yX9_rowOf cX9_rowOf 3 (some .int), Cond.methodLink RX9 40 yX9_bytesOf, Cond.static yX9_bytesOf, Cond.code yX9_bytesOf cX9_bytesOf 1 (some .int), Cond.methodLink RX9 59 yX9_fetches, Cond.instanceMethod yX9_fetches, Cond.selects RX9 yX9_fetches yX9_fetches, Cond.code yX9_fetches cX9_fetches 2 none]
def wsX9_aTick_r2 : List Cond := [Cond.methodLink RX9 43 yX9_isTaken, Cond.instanceMethod yX9_isTaken, Cond.selects RX9 yX9_isTaken yX9_isTaken, Cond.code yX9_isTaken cX9_isTaken 1 (some .boolean), Cond.methodLink RX9 62 yX9_dots, Cond.instanceMethod yX9_dots, Cond.selects RX9 yX9_dots yX9_dots, Cond.code yX9_dots cX9_dots 8 none, Cond.methodLink RX9 47 yX9_takes, Cond.instanceMethod yX9_takes, Cond.selects RX9 yX9_takes yX9_takes, Cond.code yX9_takes cX9_takes 2 (some .int), Cond.methodLink RX9 50 yX9_spritesOf, Cond.instanceMethod yX9_spritesOf, Cond.selects RX9 yX9_spritesOf yX9_spritesOf, Cond.code yX9_spritesOf cX9_spritesOf 5 (some .int), Cond.methodLink RX9 25 yX9_hasRow, Cond.instanceMethod yX9_hasRow, Cond.selects RX9 yX9_hasRow yX9_hasRow, Cond.code yX9_hasRow cX9_hasRow 4 (some .boolean), Cond.methodLink RX9 17 yX9_isIn, Cond.static yX9_isIn, Cond.code yX9_isIn cX9_isIn 3 (some .boolean), Cond.methodLink RX9 65 yX9_signalsNow]
def wsX9_aTick_r3 : List Cond := [Cond.instanceMethod yX9_signalsNow, Cond.selects RX9 yX9_signalsNow yX9_signalsNow, Cond.code yX9_signalsNow cX9_signalsNow 4 (some .int), Cond.methodLink RX9 68 yX9_goesOn, Cond.instanceMethod yX9_goesOn, Cond.selects RX9 yX9_goesOn yX9_goesOn, Cond.code yX9_goesOn cX9_goesOn 2 none, Cond.methodLink RX9 53 yX9_ticksOf, Cond.instanceMethod yX9_ticksOf, Cond.selects RX9 yX9_ticksOf yX9_ticksOf, Cond.code yX9_ticksOf cX9_ticksOf 2 (some .int)]
def wsX9_aTick : List Cond := .code yX9_aTick cX9_aTick 3 none :: ((wsX9_aTick_r1 ++ (wsX9_aTick_r2 ++ wsX9_aTick_r3)) ++ wsX90)
def wsX9_ticks_r1 : List Cond := [Cond.fieldLink RX9 7 "PictureBeatsModel" "all" "[I", Cond.constant RX9 71 (1000000), Cond.methodLink RX9 17 yX9_isIn, Cond.static yX9_isIn, Cond.initialized RX9, Cond.code yX9_isIn cX9_isIn 3 (some .boolean), Cond.methodLink RX9 72 yX9_aTick, Cond.instanceMethod yX9_aTick, Cond.selects RX9 yX9_aTick yX9_aTick, Cond.code yX9_aTick cX9_aTick 3 none, Cond.methodLink RX9 56 yX9_begins, Cond.instanceMethod yX9_begins, Cond.selects RX9 yX9_begins yX9_begins, Cond.code yX9_begins cX9_begins 4 none, Cond.methodLink RX9 28 yX9_linesOf, Cond.instanceMethod yX9_linesOf, Cond.selects RX9 yX9_linesOf yX9_linesOf, Cond.code yX9_linesOf cX9_linesOf 2 (some .int), Cond.methodLink RX9 32 yX9_nextField, Cond.instanceMethod yX9_nextField, Cond.selects RX9 yX9_nextField yX9_nextField, Cond.code yX9_nextField cX9_nextField 1 (some .int), Cond.methodLink RX9 36 yX9_rowOf, Cond.static yX9_rowOf]
def wsX9_ticks_r2 : List Cond := [Cond.code yX9_rowOf cX9_rowOf 3 (some .int), Cond.methodLink RX9 40 yX9_bytesOf, Cond.static yX9_bytesOf, Cond.code yX9_bytesOf cX9_bytesOf 1 (some .int), Cond.methodLink RX9 59 yX9_fetches, Cond.instanceMethod yX9_fetches, Cond.selects RX9 yX9_fetches yX9_fetches, Cond.code yX9_fetches cX9_fetches 2 none, Cond.methodLink RX9 43 yX9_isTaken, Cond.instanceMethod yX9_isTaken, Cond.selects RX9 yX9_isTaken yX9_isTaken, Cond.code yX9_isTaken cX9_isTaken 1 (some .boolean), Cond.methodLink RX9 62 yX9_dots, Cond.instanceMethod yX9_dots, Cond.selects RX9 yX9_dots yX9_dots, Cond.code yX9_dots cX9_dots 8 none, Cond.methodLink RX9 47 yX9_takes, Cond.instanceMethod yX9_takes, Cond.selects RX9 yX9_takes yX9_takes, Cond.code yX9_takes cX9_takes 2 (some .int), Cond.methodLink RX9 50 yX9_spritesOf, Cond.instanceMethod yX9_spritesOf, Cond.selects RX9 yX9_spritesOf yX9_spritesOf, Cond.code yX9_spritesOf cX9_spritesOf 5 (some .int)]
def wsX9_ticks_r3 : List Cond := [Cond.methodLink RX9 25 yX9_hasRow, Cond.instanceMethod yX9_hasRow, Cond.selects RX9 yX9_hasRow yX9_hasRow, Cond.code yX9_hasRow cX9_hasRow 4 (some .boolean), Cond.methodLink RX9 65 yX9_signalsNow, Cond.instanceMethod yX9_signalsNow, Cond.selects RX9 yX9_signalsNow yX9_signalsNow, Cond.code yX9_signalsNow cX9_signalsNow 4 (some .int), Cond.methodLink RX9 68 yX9_goesOn, Cond.instanceMethod yX9_goesOn, Cond.selects RX9 yX9_goesOn yX9_goesOn, Cond.code yX9_goesOn cX9_goesOn 2 none, Cond.methodLink RX9 53 yX9_ticksOf, Cond.instanceMethod yX9_ticksOf, Cond.selects RX9 yX9_ticksOf yX9_ticksOf, Cond.code yX9_ticksOf cX9_ticksOf 2 (some .int)]
def wsX9_ticks : List Cond := .code yX9_ticks cX9_ticks 3 (some .int) :: ((wsX9_ticks_r1 ++ (wsX9_ticks_r2 ++ wsX9_ticks_r3)) ++ wsX90)
def wsX9_shown : List Cond := .code yX9_shown cX9_shown 3 (some .int) :: ([.fieldLink RX9 7 "PictureBeatsModel" "all" "[I", .methodLink RX9 17 yX9_isIn, .static yX9_isIn, .initialized RX9, .code yX9_isIn cX9_isIn 3 (some .boolean)] ++ wsX90)
def wsX9_now : List Cond := .code yX9_now cX9_now 2 (some .int) :: ([.fieldLink RX9 7 "PictureBeatsModel" "all" "[I", .methodLink RX9 65 yX9_signalsNow, .instanceMethod yX9_signalsNow, .selects RX9 yX9_signalsNow yX9_signalsNow, .initialized RX9, .code yX9_signalsNow cX9_signalsNow 4 (some .int), .methodLink RX9 17 yX9_isIn, .static yX9_isIn, .code yX9_isIn cX9_isIn 3 (some .boolean), .methodLink RX9 53 yX9_ticksOf, .instanceMethod yX9_ticksOf, .selects RX9 yX9_ticksOf yX9_ticksOf, .code yX9_ticksOf cX9_ticksOf 2 (some .int), .methodLink RX9 28 yX9_linesOf, .instanceMethod yX9_linesOf, .selects RX9 yX9_linesOf yX9_linesOf, .code yX9_linesOf cX9_linesOf 2 (some .int), .methodLink RX9 43 yX9_isTaken, .instanceMethod yX9_isTaken, .selects RX9 yX9_isTaken yX9_isTaken, .code yX9_isTaken cX9_isTaken 1 (some .boolean)] ++ wsX90)
def wsX9_signals : List Cond := .code yX9_signals cX9_signals 2 (some .int) :: ([.fieldLink RX9 7 "PictureBeatsModel" "all" "[I", .methodLink RX9 17 yX9_isIn, .static yX9_isIn, .initialized RX9, .code yX9_isIn cX9_isIn 3 (some .boolean)] ++ wsX90)
def wsX9_value : List Cond := .code yX9_value cX9_value 2 (some .int) :: ([.fieldLink RX9 7 "PictureBeatsModel" "all" "[I", .methodLink RX9 17 yX9_isIn, .static yX9_isIn, .initialized RX9, .code yX9_isIn cX9_isIn 3 (some .boolean)] ++ wsX90)
def wsX9_row : List Cond := .code yX9_row cX9_row 7 (some .int) :: ([.methodLink RX9 17 yX9_isIn, .static yX9_isIn, .initialized RX9, .code yX9_isIn cX9_isIn 3 (some .boolean), .methodLink RX9 50 yX9_spritesOf, .instanceMethod yX9_spritesOf, .selects RX9 yX9_spritesOf yX9_spritesOf, .code yX9_spritesOf cX9_spritesOf 5 (some .int), .methodLink RX9 25 yX9_hasRow, .instanceMethod yX9_hasRow, .selects RX9 yX9_hasRow yX9_hasRow, .code yX9_hasRow cX9_hasRow 4 (some .boolean), .fieldLink RX9 7 "PictureBeatsModel" "all" "[I"] ++ wsX90)
def wsX9_leastOf : List Cond := .code yX9_leastOf cX9_leastOf 10 (some .int) :: ([.fieldLink RX9 7 "PictureBeatsModel" "all" "[I", .methodLink RX9 53 yX9_ticksOf, .instanceMethod yX9_ticksOf, .selects RX9 yX9_ticksOf yX9_ticksOf, .initialized RX9, .code yX9_ticksOf cX9_ticksOf 2 (some .int), .methodLink RX9 40 yX9_bytesOf, .static yX9_bytesOf, .code yX9_bytesOf cX9_bytesOf 1 (some .int)] ++ wsX90)
def wsX9_bitsOf : List Cond := .code yX9_bitsOf cX9_bitsOf 3 (some .int) :: ([])
def wsX9_least : List Cond := .code yX9_least cX9_least 6 (some .int) :: ([.methodLink RX9 17 yX9_isIn, .static yX9_isIn, .initialized RX9, .code yX9_isIn cX9_isIn 3 (some .boolean), .methodLink RX9 75 yX9_bitsOf, .static yX9_bitsOf, .code yX9_bitsOf cX9_bitsOf 3 (some .int), .methodLink RX9 78 yX9_leastOf, .instanceMethod yX9_leastOf, .selects RX9 yX9_leastOf yX9_leastOf, .code yX9_leastOf cX9_leastOf 10 (some .int), .fieldLink RX9 7 "PictureBeatsModel" "all" "[I", .methodLink RX9 53 yX9_ticksOf, .instanceMethod yX9_ticksOf, .selects RX9 yX9_ticksOf yX9_ticksOf, .code yX9_ticksOf cX9_ticksOf 2 (some .int), .methodLink RX9 40 yX9_bytesOf, .static yX9_bytesOf, .code yX9_bytesOf cX9_bytesOf 1 (some .int)] ++ wsX90)
def wsX9_fit : List Cond := .code yX9_fit cX9_fit 16 (some .int) :: ([.constant RX9 71 (1000000), .methodLink RX9 17 yX9_isIn, .static yX9_isIn, .initialized RX9, .code yX9_isIn cX9_isIn 3 (some .boolean)])
def wsX9_image : List Cond := .code yX9_image cX9_image 3 (some .boolean) :: ([.fieldLink RX9 13 "PictureBeatsModel" "has" "[Z", .fieldLink RX9 7 "PictureBeatsModel" "all" "[I", .methodLink RX9 17 yX9_isIn, .static yX9_isIn, .initialized RX9, .code yX9_isIn cX9_isIn 3 (some .boolean)] ++ wsX90)
def wsX9_again : List Cond := .code yX9_again cX9_again 3 (some .boolean) :: ([.fieldLink RX9 13 "PictureBeatsModel" "has" "[Z", .fieldLink RX9 7 "PictureBeatsModel" "all" "[I", .methodLink RX9 17 yX9_isIn, .static yX9_isIn, .initialized RX9, .code yX9_isIn cX9_isIn 3 (some .boolean)] ++ wsX90)
def wsJ9_abs_067f4 : List Cond := .code yJ9_abs_067f4 cJ9_abs_067f4 2 (some .long) :: ([])
def wsJ9_max_7cf53 : List Cond := .code yJ9_max_7cf53 cJ9_max_7cf53 2 (some .int) :: ([])
def wsJ9_min_7cf53 : List Cond := .code yJ9_min_7cf53 cJ9_min_7cf53 2 (some .int) :: ([])
def wsL_law_r1 : List Cond := [Cond.classLink RL 7 RX8, Cond.instantiable RX8 2, Cond.initialized RX8, Cond.classLink RL 10 RX9, Cond.instantiable RX9 2, Cond.initialized RX9, Cond.methodLink RL 9 yX8_init, Cond.instanceMethod yX8_init, Cond.code yX8_init cX8_init 1 none, Cond.methodLink RX8 1 objectInit, Cond.instanceMethod objectInit, Cond.code objectInit ⟨#[0xb1]⟩ 1 none, Cond.classLink RX8 7 RX3, Cond.instantiable RX3 12, Cond.initialized RX3, Cond.fieldLink RX8 10 "PictureBeats" "machine" "LPictureBeats$Machine;", Cond.fieldLink RX8 16 "PictureBeats" "images" "[LPictureBeats$Machine;", Cond.methodLink RX8 9 yX3_init, Cond.instanceMethod yX3_init, Cond.code yX3_init cX3_init 1 none, Cond.methodLink RX3 3 objectInit, Cond.classLink RX3 9 RX0, Cond.instantiable RX0 7, Cond.initialized RX0]
def wsL_law_r2 : List Cond := [Cond.fieldLink RX3 12 "PictureBeats$Machine" "beam" "LPictureBeats$Beam;", Cond.classLink RX3 18 RX2, Cond.instantiable RX2 11, Cond.initialized RX2, Cond.fieldLink RX3 21 "PictureBeats$Machine" "feed" "LPictureBeats$Feed;", Cond.classLink RX3 25 RX5, Cond.instantiable RX5 1, Cond.initialized RX5, Cond.fieldLink RX3 28 "PictureBeats$Machine" "registers" "LPictureBeats$Registers;", Cond.classLink RX3 32 RX1, Cond.instantiable RX1 5, Cond.initialized RX1, Cond.fieldLink RX3 35 "PictureBeats$Machine" "changes" "LPictureBeats$Changes;", Cond.classLink RX3 39 RX7, Cond.instantiable RX7 5, Cond.initialized RX7, Cond.fieldLink RX3 42 "PictureBeats$Machine" "sprites" "LPictureBeats$Sprites;", Cond.arrayClass .int, Cond.fieldLink RX3 46 "PictureBeats$Machine" "memory" "[I", Cond.fieldLink RX3 50 "PictureBeats$Machine" "shown" "[I", Cond.fieldLink RX3 53 "PictureBeats$Machine" "signals" "[I", Cond.fieldLink RX3 56 "PictureBeats$Machine" "period" "I", Cond.instanceMethod yX0_init, Cond.code yX0_init cX0_init 1 none]
def wsL_law_r3 : List Cond := [Cond.methodLink RX0 3 objectInit, Cond.classLink RX0 9 RX4, Cond.instantiable RX4 3, Cond.initialized RX4, Cond.fieldLink RX0 12 "PictureBeats$Beam" "holding" "LPictureBeats$Mode;", Cond.fieldLink RX0 18 "PictureBeats$Beam" "takenUp" "LPictureBeats$Mode;", Cond.fieldLink RX0 21 "PictureBeats$Beam" "told" "LPictureBeats$Mode;", Cond.fieldLink RX0 24 "PictureBeats$Mode" "across" "LPictureBeats$Span;", Cond.fieldLink RX0 28 "PictureBeats$Span" "seen" "I", Cond.fieldLink RX0 34 "PictureBeats$Beam" "x" "I", Cond.fieldLink RX0 37 "PictureBeats$Mode" "down" "LPictureBeats$Span;", Cond.fieldLink RX0 44 "PictureBeats$Beam" "y" "I", Cond.instanceMethod yX4_init, Cond.code yX4_init cX4_init 1 none, Cond.methodLink RX4 1 objectInit, Cond.classLink RX4 7 RX6, Cond.instantiable RX6 4, Cond.initialized RX6, Cond.fieldLink RX4 12 "PictureBeats$Mode" "across" "LPictureBeats$Span;", Cond.fieldLink RX4 18 "PictureBeats$Mode" "down" "LPictureBeats$Span;", Cond.methodLink RX4 9 yX6_init, Cond.instanceMethod yX6_init, Cond.code yX6_init cX6_init 5 none, Cond.methodLink RX6 1 objectInit]
def wsL_law_r4 : List Cond := [Cond.fieldLink RX6 7 "PictureBeats$Span" "seen" "I", Cond.fieldLink RX6 13 "PictureBeats$Span" "front" "I", Cond.fieldLink RX6 16 "PictureBeats$Span" "sync" "I", Cond.fieldLink RX6 19 "PictureBeats$Span" "back" "I", Cond.methodLink RX0 40 yX6_whole, Cond.instanceMethod yX6_whole, Cond.selects RX6 yX6_whole yX6_whole, Cond.code yX6_whole cX6_whole 1 (some .int), Cond.instanceMethod yX2_init, Cond.code yX2_init cX2_init 1 none, Cond.methodLink RX2 3 objectInit, Cond.fieldLink RX2 9 "PictureBeats$Feed" "queue" "[I", Cond.fieldLink RX2 15 "PictureBeats$Feed" "depth" "I", Cond.instanceMethod yX5_init, Cond.code yX5_init cX5_init 1 none, Cond.methodLink RX5 3 objectInit, Cond.fieldLink RX5 9 "PictureBeats$Registers" "values" "[I", Cond.instanceMethod yX1_init, Cond.code yX1_init cX1_init 1 none, Cond.methodLink RX1 3 objectInit, Cond.fieldLink RX1 9 "PictureBeats$Changes" "ys" "[I", Cond.fieldLink RX1 15 "PictureBeats$Changes" "xs" "[I", Cond.fieldLink RX1 18 "PictureBeats$Changes" "registers" "[I", Cond.fieldLink RX1 21 "PictureBeats$Changes" "values" "[I"]
def wsL_law_r5 : List Cond := [Cond.instanceMethod yX7_init, Cond.code yX7_init cX7_init 1 none, Cond.methodLink RX7 3 objectInit, Cond.fieldLink RX7 9 "PictureBeats$Sprites" "xs" "[I", Cond.fieldLink RX7 15 "PictureBeats$Sprites" "rows" "[I", Cond.fieldLink RX7 18 "PictureBeats$Sprites" "heights" "[I", Cond.fieldLink RX7 21 "PictureBeats$Sprites" "drawn" "[I", Cond.fieldLink RX7 24 "PictureBeats$Sprites" "present" "[I", Cond.methodLink RX3 60 yJ7_fill_53178, Cond.static yJ7_fill_53178, Cond.initialized RJ7, Cond.code yJ7_fill_53178 cJ7_fill_53178 4 none, Cond.methodLink RL 12 yX9_init, Cond.instanceMethod yX9_init, Cond.code yX9_init cX9_init 2 none, Cond.methodLink RX9 1 objectInit, Cond.fieldLink RX9 7 "PictureBeatsModel" "all" "[I", Cond.arrayClass .boolean, Cond.fieldLink RX9 13 "PictureBeatsModel" "has" "[Z", Cond.methodLink RL 13 yX8_line, Cond.instanceMethod yX8_line, Cond.selects RX8 yX8_line yX8_line, Cond.code yX8_line cX8_line 5 (some .boolean), Cond.fieldLink RX8 24 "PictureBeats$Machine" "beam" "LPictureBeats$Beam;"]
def wsL_law_r6 : List Cond := [Cond.fieldLink RX8 28 "PictureBeats$Beam" "told" "LPictureBeats$Mode;", Cond.fieldLink RX8 34 "PictureBeats$Mode" "across" "LPictureBeats$Span;", Cond.methodLink RX8 20 yX8_within, Cond.static yX8_within, Cond.code yX8_within cX8_within 3 (some .boolean), Cond.methodLink RX8 40 yX6_tell, Cond.instanceMethod yX6_tell, Cond.selects RX6 yX6_tell yX6_tell, Cond.code yX6_tell cX6_tell 5 none, Cond.methodLink RL 17 yX9_line, Cond.instanceMethod yX9_line, Cond.selects RX9 yX9_line yX9_line, Cond.code yX9_line cX9_line 5 (some .boolean), Cond.methodLink RX9 17 yX9_isIn, Cond.static yX9_isIn, Cond.code yX9_isIn cX9_isIn 3 (some .boolean), Cond.methodLink RL 18 yX8_field, Cond.instanceMethod yX8_field, Cond.selects RX8 yX8_field yX8_field, Cond.code yX8_field cX8_field 6 (some .boolean), Cond.fieldLink RX8 46 "PictureBeats$Mode" "down" "LPictureBeats$Span;", Cond.fieldLink RX8 49 "PictureBeats$Mode" "interlaced" "Z", Cond.methodLink RL 22 yX9_field, Cond.instanceMethod yX9_field]
def wsL_law_r7 : List Cond := [Cond.selects RX9 yX9_field yX9_field, Cond.code yX9_field cX9_field 6 (some .boolean), Cond.methodLink RL 23 yX8_put, Cond.instanceMethod yX8_put, Cond.selects RX8 yX8_put yX8_put, Cond.code yX8_put cX8_put 3 (some .boolean), Cond.methodLink RX8 53 yX3_storeByte, Cond.instanceMethod yX3_storeByte, Cond.selects RX3 yX3_storeByte yX3_storeByte, Cond.code yX3_storeByte cX3_storeByte 3 none, Cond.methodLink RL 27 yX9_put, Cond.instanceMethod yX9_put, Cond.selects RX9 yX9_put yX9_put, Cond.code yX9_put cX9_put 3 (some .boolean), Cond.methodLink RL 28 yX8_four, Cond.instanceMethod yX8_four, Cond.selects RX8 yX8_four yX8_four, Cond.code yX8_four cX8_four 4 (some .boolean), Cond.methodLink RL 31 yX9_four, Cond.instanceMethod yX9_four, Cond.selects RX9 yX9_four yX9_four, Cond.code yX9_four cX9_four 4 (some .boolean), Cond.methodLink RL 32 yX8_register, Cond.instanceMethod yX8_register]
def wsL_law_r8 : List Cond := [Cond.selects RX8 yX8_register yX8_register, Cond.code yX8_register cX8_register 3 (some .boolean), Cond.fieldLink RX8 57 "PictureBeats$Machine" "registers" "LPictureBeats$Registers;", Cond.methodLink RX8 61 yX5_change, Cond.instanceMethod yX5_change, Cond.selects RX5 yX5_change yX5_change, Cond.code yX5_change cX5_change 3 (some .boolean), Cond.methodLink RX5 22 yX5_takes, Cond.static yX5_takes, Cond.code yX5_takes cX5_takes 2 (some .boolean), Cond.methodLink RL 35 yX9_register, Cond.instanceMethod yX9_register, Cond.selects RX9 yX9_register yX9_register, Cond.code yX9_register cX9_register 3 (some .boolean), Cond.methodLink RX9 21 yX9_isValue, Cond.static yX9_isValue, Cond.code yX9_isValue cX9_isValue 2 (some .boolean), Cond.methodLink RL 36 yX8_entry, Cond.instanceMethod yX8_entry, Cond.selects RX8 yX8_entry yX8_entry, Cond.code yX8_entry cX8_entry 5 (some .int), Cond.fieldLink RX8 70 "PictureBeats$Machine" "changes" "LPictureBeats$Changes;", Cond.methodLink RX8 67 yX5_takes, Cond.methodLink RX8 74 yX1_append]
def wsL_law_r9 : List Cond := [Cond.instanceMethod yX1_append, Cond.selects RX1 yX1_append yX1_append, Cond.code yX1_append cX1_append 5 (some .int), Cond.fieldLink RX1 24 "PictureBeats$Changes" "count" "I", Cond.methodLink RL 40 yX9_entry, Cond.instanceMethod yX9_entry, Cond.selects RX9 yX9_entry yX9_entry, Cond.code yX9_entry cX9_entry 6 (some .int), Cond.methodLink RL 41 yX8_clear, Cond.instanceMethod yX8_clear, Cond.selects RX8 yX8_clear yX8_clear, Cond.code yX8_clear cX8_clear 1 none, Cond.fieldLink RX8 80 "PictureBeats$Changes" "count" "I", Cond.methodLink RL 44 yX9_clear, Cond.instanceMethod yX9_clear, Cond.selects RX9 yX9_clear yX9_clear, Cond.code yX9_clear cX9_clear 1 none, Cond.methodLink RL 45 yX8_readers, Cond.instanceMethod yX8_readers, Cond.selects RX8 yX8_readers yX8_readers, Cond.code yX8_readers cX8_readers 3 (some .boolean), Cond.fieldLink RX8 84 "PictureBeats$Machine" "period" "I", Cond.fieldLink RX8 87 "PictureBeats$Machine" "pattern" "I", Cond.methodLink RL 48 yX9_readers]
def wsL_law_r10 : List Cond := [Cond.instanceMethod yX9_readers, Cond.selects RX9 yX9_readers yX9_readers, Cond.code yX9_readers cX9_readers 3 (some .boolean), Cond.methodLink RL 49 yX8_depth, Cond.instanceMethod yX8_depth, Cond.selects RX8 yX8_depth yX8_depth, Cond.code yX8_depth cX8_depth 2 (some .boolean), Cond.fieldLink RX8 90 "PictureBeats$Machine" "feed" "LPictureBeats$Feed;", Cond.fieldLink RX8 94 "PictureBeats$Feed" "depth" "I", Cond.methodLink RL 53 yX9_depth, Cond.instanceMethod yX9_depth, Cond.selects RX9 yX9_depth yX9_depth, Cond.code yX9_depth cX9_depth 2 (some .boolean), Cond.methodLink RL 54 yX8_sprite, Cond.instanceMethod yX8_sprite, Cond.selects RX8 yX8_sprite yX8_sprite, Cond.code yX8_sprite cX8_sprite 5 (some .boolean), Cond.fieldLink RX8 99 "PictureBeats$Machine" "sprites" "LPictureBeats$Sprites;", Cond.methodLink RX8 103 yX7_move, Cond.instanceMethod yX7_move, Cond.selects RX7 yX7_move yX7_move, Cond.code yX7_move cX7_move 5 none, Cond.methodLink RX7 27 yX7_turnPresence, Cond.instanceMethod yX7_turnPresence]
def wsL_law_r11 : List Cond := [Cond.selects RX7 yX7_turnPresence yX7_turnPresence, Cond.code yX7_turnPresence cX7_turnPresence 4 none, Cond.methodLink RX7 31 Lib.Math.min.name, Cond.static Lib.Math.min.name, Cond.initialized "java/lang/Math", Cond.code Lib.Math.min.name Lib.Math.min.code 2 (some .int), Cond.methodLink RL 57 yX9_sprite, Cond.instanceMethod yX9_sprite, Cond.selects RX9 yX9_sprite yX9_sprite, Cond.code yX9_sprite cX9_sprite 5 (some .boolean), Cond.methodLink RL 58 yX8_bits, Cond.instanceMethod yX8_bits, Cond.selects RX8 yX8_bits yX8_bits, Cond.code yX8_bits cX8_bits 4 (some .boolean), Cond.methodLink RX8 108 yX7_draw, Cond.instanceMethod yX7_draw, Cond.selects RX7 yX7_draw yX7_draw, Cond.code yX7_draw cX7_draw 5 none, Cond.methodLink RL 62 yX9_bits, Cond.instanceMethod yX9_bits, Cond.selects RX9 yX9_bits yX9_bits, Cond.code yX9_bits cX9_bits 5 (some .boolean), Cond.methodLink RL 63 yX8_ticks, Cond.instanceMethod yX8_ticks]
def wsL_law_r12 : List Cond := [Cond.selects RX8 yX8_ticks yX8_ticks, Cond.code yX8_ticks cX8_ticks 3 (some .int), Cond.fieldLink RX8 112 "PictureBeats$Machine" "ticks" "I", Cond.constant RX8 115 (1000000), Cond.methodLink RX8 116 yX3_tick, Cond.instanceMethod yX3_tick, Cond.selects RX3 yX3_tick yX3_tick, Cond.code yX3_tick cX3_tick 1 none, Cond.fieldLink RX3 72 "PictureBeats$Beam" "y" "I", Cond.fieldLink RX3 75 "PictureBeats$Beam" "x" "I", Cond.fieldLink RX3 69 "PictureBeats$Machine" "ticks" "I", Cond.methodLink RX3 78 yX1_apply, Cond.instanceMethod yX1_apply, Cond.selects RX1 yX1_apply yX1_apply, Cond.code yX1_apply cX1_apply 5 none, Cond.methodLink RX1 28 yX5_change, Cond.methodLink RX3 82 yX0_isBehindSeen, Cond.instanceMethod yX0_isBehindSeen, Cond.selects RX0 yX0_isBehindSeen yX0_isBehindSeen, Cond.code yX0_isBehindSeen cX0_isBehindSeen 1 (some .boolean), Cond.methodLink RX3 86 yX3_turnToNextLine, Cond.instanceMethod yX3_turnToNextLine, Cond.selects RX3 yX3_turnToNextLine yX3_turnToNextLine, Cond.code yX3_turnToNextLine cX3_turnToNextLine 1 none]
def wsL_law_r13 : List Cond := [Cond.fieldLink RX3 117 "PictureBeats$Beam" "takenUp" "LPictureBeats$Mode;", Cond.fieldLink RX3 121 "PictureBeats$Beam" "nextField" "I", Cond.fieldLink RX3 128 "PictureBeats$Beam" "holding" "LPictureBeats$Mode;", Cond.fieldLink RX3 131 "PictureBeats$Beam" "field" "I", Cond.methodLink RX3 111 yX0_isOnLastLine, Cond.instanceMethod yX0_isOnLastLine, Cond.selects RX0 yX0_isOnLastLine yX0_isOnLastLine, Cond.code yX0_isOnLastLine cX0_isOnLastLine 1 (some .boolean), Cond.methodLink RX3 114 yX0_takeUp, Cond.instanceMethod yX0_takeUp, Cond.selects RX0 yX0_takeUp yX0_takeUp, Cond.code yX0_takeUp cX0_takeUp 1 none, Cond.fieldLink RX0 69 "PictureBeats$Mode" "interlaced" "Z", Cond.fieldLink RX0 51 "PictureBeats$Beam" "field" "I", Cond.fieldLink RX0 73 "PictureBeats$Beam" "nextField" "I", Cond.methodLink RX0 65 yX4_copyFrom, Cond.instanceMethod yX4_copyFrom, Cond.selects RX4 yX4_copyFrom yX4_copyFrom, Cond.code yX4_copyFrom cX4_copyFrom 2 none, Cond.fieldLink RX4 21 "PictureBeats$Mode" "interlaced" "Z", Cond.methodLink RX4 25 yX6_copyFrom, Cond.instanceMethod yX6_copyFrom, Cond.selects RX6 yX6_copyFrom yX6_copyFrom, Cond.code yX6_copyFrom cX6_copyFrom 2 none]
def wsL_law_r14 : List Cond := [Cond.methodLink RX6 22 yX6_tell, Cond.methodLink RX3 124 yX3_startFeed, Cond.instanceMethod yX3_startFeed, Cond.selects RX3 yX3_startFeed yX3_startFeed, Cond.code yX3_startFeed cX3_startFeed 5 none, Cond.fieldLink RX3 134 "PictureBeats$Mode" "down" "LPictureBeats$Span;", Cond.fieldLink RX3 146 "PictureBeats$Mode" "across" "LPictureBeats$Span;", Cond.fieldLink RX3 149 "PictureBeats$Span" "seen" "I", Cond.methodLink RX3 140 yX6_isSeen, Cond.instanceMethod yX6_isSeen, Cond.selects RX6 yX6_isSeen yX6_isSeen, Cond.code yX6_isSeen cX6_isSeen 2 (some .boolean), Cond.static yX8_bytesOfLine, Cond.code yX8_bytesOfLine cX8_bytesOfLine 1 (some .int), Cond.methodLink RX3 156 yX4_rowOf, Cond.instanceMethod yX4_rowOf, Cond.selects RX4 yX4_rowOf yX4_rowOf, Cond.code yX4_rowOf cX4_rowOf 3 (some .int), Cond.methodLink RX3 160 yX2_startLine, Cond.instanceMethod yX2_startLine, Cond.selects RX2 yX2_startLine yX2_startLine, Cond.code yX2_startLine cX2_startLine 3 none, Cond.fieldLink RX2 19 "PictureBeats$Feed" "count" "I", Cond.fieldLink RX2 22 "PictureBeats$Feed" "leftBits" "I"]
def wsL_law_r15 : List Cond := [Cond.fieldLink RX2 25 "PictureBeats$Feed" "row" "I", Cond.fieldLink RX2 28 "PictureBeats$Feed" "nextByte" "I", Cond.fieldLink RX2 31 "PictureBeats$Feed" "bytes" "I", Cond.methodLink RX3 89 yX2_wantsByte, Cond.instanceMethod yX2_wantsByte, Cond.selects RX2 yX2_wantsByte yX2_wantsByte, Cond.code yX2_wantsByte cX2_wantsByte 1 (some .boolean), Cond.methodLink RX3 92 yX3_isTaken, Cond.instanceMethod yX3_isTaken, Cond.selects RX3 yX3_isTaken yX3_isTaken, Cond.code yX3_isTaken cX3_isTaken 1 (some .boolean), Cond.fieldLink RX3 66 "PictureBeats$Machine" "pattern" "I", Cond.methodLink RX3 95 yX3_fetchByte, Cond.instanceMethod yX3_fetchByte, Cond.selects RX3 yX3_fetchByte yX3_fetchByte, Cond.code yX3_fetchByte cX3_fetchByte 2 none, Cond.fieldLink RX3 167 "PictureBeats$Feed" "row" "I", Cond.fieldLink RX3 170 "PictureBeats$Feed" "nextByte" "I", Cond.methodLink RX3 164 yX5_read, Cond.instanceMethod yX5_read, Cond.selects RX5 yX5_read yX5_read, Cond.code yX5_read cX5_read 2 (some .int), Cond.methodLink RX3 173 yX2_append, Cond.instanceMethod yX2_append]
def wsL_law_r16 : List Cond := [Cond.selects RX2 yX2_append yX2_append, Cond.code yX2_append cX2_append 2 none, Cond.fieldLink RX2 34 "PictureBeats$Feed" "first" "I", Cond.fieldLink RX2 37 "PictureBeats$Feed" "fetched" "I", Cond.methodLink RX3 98 yX0_isOnDot, Cond.instanceMethod yX0_isOnDot, Cond.selects RX0 yX0_isOnDot yX0_isOnDot, Cond.code yX0_isOnDot cX0_isOnDot 1 (some .boolean), Cond.methodLink RX0 47 yX6_isSeen, Cond.methodLink RX3 101 yX3_makeDot, Cond.instanceMethod yX3_makeDot, Cond.selects RX3 yX3_makeDot yX3_makeDot, Cond.code yX3_makeDot cX3_makeDot 5 none, Cond.fieldLink RX3 195 "PictureBeats$Machine" "dots" "I", Cond.methodLink RX3 177 yX3_takeScroll, Cond.instanceMethod yX3_takeScroll, Cond.selects RX3 yX3_takeScroll yX3_takeScroll, Cond.code yX3_takeScroll cX3_takeScroll 3 none, Cond.methodLink RX3 180 yX2_takeBit, Cond.instanceMethod yX2_takeBit, Cond.selects RX2 yX2_takeBit yX2_takeBit, Cond.code yX2_takeBit cX2_takeBit 1 (some .int), Cond.fieldLink RX2 40 "PictureBeats$Feed" "unders" "I", Cond.fieldLink RX2 43 "PictureBeats$Feed" "left" "I"]
def wsL_law_r17 : List Cond := [Cond.methodLink RX3 183 yX0_rowHere, Cond.instanceMethod yX0_rowHere, Cond.selects RX0 yX0_rowHere yX0_rowHere, Cond.code yX0_rowHere cX0_rowHere 1 (some .int), Cond.methodLink RX0 54 yX4_rowOf, Cond.static yX8_placeOf, Cond.code yX8_placeOf cX8_placeOf 2 (some .int), Cond.methodLink RX3 189 yX7_showing, Cond.instanceMethod yX7_showing, Cond.selects RX7 yX7_showing yX7_showing, Cond.code yX7_showing cX7_showing 5 (some .int), Cond.methodLink RX7 37 yX7_membersOf, Cond.instanceMethod yX7_membersOf, Cond.selects RX7 yX7_membersOf yX7_membersOf, Cond.code yX7_membersOf cX7_membersOf 6 (some .int), Cond.methodLink RX7 41 yX7_hasBit, Cond.instanceMethod yX7_hasBit, Cond.selects RX7 yX7_hasBit yX7_hasBit, Cond.code yX7_hasBit cX7_hasBit 6 (some .boolean), Cond.methodLink RX3 192 yX3_colourOf, Cond.instanceMethod yX3_colourOf, Cond.selects RX3 yX3_colourOf yX3_colourOf, Cond.code yX3_colourOf cX3_colourOf 2 (some .int), Cond.methodLink RX3 104 yX0_signalsHere]
def wsL_law_r18 : List Cond := [Cond.instanceMethod yX0_signalsHere, Cond.selects RX0 yX0_signalsHere yX0_signalsHere, Cond.code yX0_signalsHere cX0_signalsHere 1 (some .int), Cond.methodLink RX0 58 yX6_isSync, Cond.instanceMethod yX6_isSync, Cond.selects RX6 yX6_isSync yX6_isSync, Cond.code yX6_isSync cX6_isSync 3 (some .boolean), Cond.methodLink RX0 61 yX0_isOnDot, Cond.methodLink RX3 108 yX0_goOn, Cond.instanceMethod yX0_goOn, Cond.selects RX0 yX0_goOn yX0_goOn, Cond.code yX0_goOn cX0_goOn 1 none, Cond.methodLink RL 67 yX9_ticks, Cond.instanceMethod yX9_ticks, Cond.selects RX9 yX9_ticks yX9_ticks, Cond.code yX9_ticks cX9_ticks 3 (some .int), Cond.constant RX9 71 (1000000), Cond.methodLink RX9 72 yX9_aTick, Cond.instanceMethod yX9_aTick, Cond.selects RX9 yX9_aTick yX9_aTick, Cond.code yX9_aTick cX9_aTick 3 none, Cond.methodLink RX9 56 yX9_begins, Cond.instanceMethod yX9_begins, Cond.selects RX9 yX9_begins yX9_begins]
def wsL_law_r19 : List Cond := [Cond.code yX9_begins cX9_begins 4 none, Cond.methodLink RX9 28 yX9_linesOf, Cond.instanceMethod yX9_linesOf, Cond.selects RX9 yX9_linesOf yX9_linesOf, Cond.code yX9_linesOf cX9_linesOf 2 (some .int), Cond.methodLink RX9 32 yX9_nextField, Cond.instanceMethod yX9_nextField, Cond.selects RX9 yX9_nextField yX9_nextField, Cond.code yX9_nextField cX9_nextField 1 (some .int), Cond.methodLink RX9 36 yX9_rowOf, Cond.static yX9_rowOf, Cond.code yX9_rowOf cX9_rowOf 3 (some .int), Cond.methodLink RX9 40 yX9_bytesOf, Cond.static yX9_bytesOf, Cond.code yX9_bytesOf cX9_bytesOf 1 (some .int), Cond.methodLink RX9 59 yX9_fetches, Cond.instanceMethod yX9_fetches, Cond.selects RX9 yX9_fetches yX9_fetches, Cond.code yX9_fetches cX9_fetches 2 none, Cond.methodLink RX9 43 yX9_isTaken, Cond.instanceMethod yX9_isTaken, Cond.selects RX9 yX9_isTaken yX9_isTaken, Cond.code yX9_isTaken cX9_isTaken 1 (some .boolean), Cond.methodLink RX9 62 yX9_dots]
def wsL_law_r20 : List Cond := [Cond.instanceMethod yX9_dots, Cond.selects RX9 yX9_dots yX9_dots, Cond.code yX9_dots cX9_dots 8 none, Cond.methodLink RX9 47 yX9_takes, Cond.instanceMethod yX9_takes, Cond.selects RX9 yX9_takes yX9_takes, Cond.code yX9_takes cX9_takes 2 (some .int), Cond.methodLink RX9 50 yX9_spritesOf, Cond.instanceMethod yX9_spritesOf, Cond.selects RX9 yX9_spritesOf yX9_spritesOf, Cond.code yX9_spritesOf cX9_spritesOf 5 (some .int), Cond.methodLink RX9 25 yX9_hasRow, Cond.instanceMethod yX9_hasRow, Cond.selects RX9 yX9_hasRow yX9_hasRow, Cond.code yX9_hasRow cX9_hasRow 4 (some .boolean), Cond.methodLink RX9 65 yX9_signalsNow, Cond.instanceMethod yX9_signalsNow, Cond.selects RX9 yX9_signalsNow yX9_signalsNow, Cond.code yX9_signalsNow cX9_signalsNow 4 (some .int), Cond.methodLink RX9 68 yX9_goesOn, Cond.instanceMethod yX9_goesOn, Cond.selects RX9 yX9_goesOn yX9_goesOn, Cond.code yX9_goesOn cX9_goesOn 2 none, Cond.methodLink RX9 53 yX9_ticksOf]
def wsL_law_r21 : List Cond := [Cond.instanceMethod yX9_ticksOf, Cond.selects RX9 yX9_ticksOf yX9_ticksOf, Cond.code yX9_ticksOf cX9_ticksOf 2 (some .int), Cond.methodLink RL 68 yX8_shown, Cond.instanceMethod yX8_shown, Cond.selects RX8 yX8_shown yX8_shown, Cond.code yX8_shown cX8_shown 4 (some .int), Cond.fieldLink RX8 123 "PictureBeats$Machine" "shown" "[I", Cond.methodLink RX8 119 yX8_placeOf, Cond.methodLink RL 72 yX9_shown, Cond.instanceMethod yX9_shown, Cond.selects RX9 yX9_shown yX9_shown, Cond.code yX9_shown cX9_shown 3 (some .int), Cond.methodLink RL 73 yX8_now, Cond.instanceMethod yX8_now, Cond.selects RX8 yX8_now yX8_now, Cond.code yX8_now cX8_now 3 (some .int), Cond.fieldLink RX8 127 "PictureBeats$Beam" "x" "I", Cond.fieldLink RX8 130 "PictureBeats$Beam" "y" "I", Cond.fieldLink RX8 133 "PictureBeats$Beam" "field" "I", Cond.fieldLink RX8 140 "PictureBeats$Beam" "holding" "LPictureBeats$Mode;", Cond.fieldLink RX8 146 "PictureBeats$Feed" "count" "I", Cond.fieldLink RX8 147 "PictureBeats$Feed" "leftBits" "I", Cond.fieldLink RX8 150 "PictureBeats$Feed" "unders" "I"]
def wsL_law_r22 : List Cond := [Cond.fieldLink RX8 153 "PictureBeats$Machine" "dots" "I", Cond.fieldLink RX8 156 "PictureBeats$Feed" "fetched" "I", Cond.methodLink RX8 136 yX0_signalsHere, Cond.methodLink RX8 143 yX6_whole, Cond.methodLink RX8 159 yX3_isTaken, Cond.methodLink RL 76 yX9_now, Cond.instanceMethod yX9_now, Cond.selects RX9 yX9_now yX9_now, Cond.code yX9_now cX9_now 2 (some .int), Cond.methodLink RL 77 yX8_signals, Cond.instanceMethod yX8_signals, Cond.selects RX8 yX8_signals yX8_signals, Cond.code yX8_signals cX8_signals 2 (some .int), Cond.fieldLink RX8 163 "PictureBeats$Machine" "signals" "[I", Cond.methodLink RL 80 yX9_signals, Cond.instanceMethod yX9_signals, Cond.selects RX9 yX9_signals yX9_signals, Cond.code yX9_signals cX9_signals 2 (some .int), Cond.methodLink RL 81 yX8_value, Cond.instanceMethod yX8_value, Cond.selects RX8 yX8_value yX8_value, Cond.code yX8_value cX8_value 2 (some .int), Cond.methodLink RX8 166 yX5_read, Cond.methodLink RL 84 yX9_value]
def wsL_law_r23 : List Cond := [Cond.instanceMethod yX9_value, Cond.selects RX9 yX9_value yX9_value, Cond.code yX9_value cX9_value 2 (some .int), Cond.methodLink RL 85 yX8_row, Cond.instanceMethod yX8_row, Cond.selects RX8 yX8_row yX8_row, Cond.code yX8_row cX8_row 4 (some .int), Cond.fieldLink RX8 170 "PictureBeats$Sprites" "present" "[I", Cond.methodLink RX8 178 Lib.Math.max.name, Cond.static Lib.Math.max.name, Cond.code Lib.Math.max.name Lib.Math.max.code 2 (some .int), Cond.methodLink RX8 183 Lib.Math.min.name, Cond.methodLink RX8 173 yJ6_bitCount_0f7a4, Cond.static yJ6_bitCount_0f7a4, Cond.initialized RJ6, Cond.code yJ6_bitCount_0f7a4 cJ6_bitCount_0f7a4 1 (some .int), Cond.constant RJ6 265 (1431655765), Cond.constant RJ6 266 (858993459), Cond.constant RJ6 267 (252645135), Cond.methodLink RX8 186 yX7_membersOf, Cond.methodLink RL 88 yX9_row, Cond.instanceMethod yX9_row, Cond.selects RX9 yX9_row yX9_row, Cond.code yX9_row cX9_row 7 (some .int)]
def wsL_law_r24 : List Cond := [Cond.methodLink RL 89 yX8_least, Cond.instanceMethod yX8_least, Cond.selects RX8 yX8_least yX8_least, Cond.code yX8_least cX8_least 5 (some .int), Cond.methodLink RX8 189 yX8_fewestQueued, Cond.instanceMethod yX8_fewestQueued, Cond.selects RX8 yX8_fewestQueued yX8_fewestQueued, Cond.code yX8_fewestQueued cX8_fewestQueued 12 (some .int), Cond.fieldLink RX8 204 "PictureBeats$Span" "seen" "I", Cond.methodLink RX8 207 yX8_bytesOfLine, Cond.methodLink RL 92 yX9_least, Cond.instanceMethod yX9_least, Cond.selects RX9 yX9_least yX9_least, Cond.code yX9_least cX9_least 6 (some .int), Cond.methodLink RX9 75 yX9_bitsOf, Cond.static yX9_bitsOf, Cond.code yX9_bitsOf cX9_bitsOf 3 (some .int), Cond.methodLink RX9 78 yX9_leastOf, Cond.instanceMethod yX9_leastOf, Cond.selects RX9 yX9_leastOf yX9_leastOf, Cond.code yX9_leastOf cX9_leastOf 10 (some .int), Cond.methodLink RL 93 yX8_fit, Cond.instanceMethod yX8_fit, Cond.selects RX8 yX8_fit yX8_fit]
def wsL_law_r25 : List Cond := [Cond.code yX8_fit cX8_fit 14 (some .int), Cond.methodLink RX8 193 yX8_areFitBounds, Cond.static yX8_areFitBounds, Cond.code yX8_areFitBounds cX8_areFitBounds 2 (some .boolean), Cond.methodLink RX8 196 yX8_isNearer, Cond.static yX8_isNearer, Cond.code yX8_isNearer cX8_isNearer 8 (some .boolean), Cond.methodLink RX8 210 Lib.MathLoose.abs_long.x, Cond.static Lib.MathLoose.abs_long.x, Cond.code Lib.MathLoose.abs_long.x Lib.MathLoose.abs_long.code 2 (some .long), Cond.methodLink RL 97 yX9_fit, Cond.instanceMethod yX9_fit, Cond.selects RX9 yX9_fit yX9_fit, Cond.code yX9_fit cX9_fit 16 (some .int), Cond.methodLink RL 98 yX8_image, Cond.instanceMethod yX8_image, Cond.selects RX8 yX8_image yX8_image, Cond.code yX8_image cX8_image 2 (some .boolean), Cond.methodLink RX8 200 yX3_copyFrom, Cond.instanceMethod yX3_copyFrom, Cond.selects RX3 yX3_copyFrom yX3_copyFrom, Cond.code yX3_copyFrom cX3_copyFrom 2 none, Cond.methodLink RX3 214 arraycopyName, Cond.native arraycopyName]
def wsL_law_r26 : List Cond := [Cond.static arraycopyName, Cond.initialized "java/lang/System", Cond.methodLink RX3 198 yX0_copyFrom, Cond.instanceMethod yX0_copyFrom, Cond.selects RX0 yX0_copyFrom yX0_copyFrom, Cond.code yX0_copyFrom cX0_copyFrom 2 none, Cond.methodLink RX3 202 yX2_copyFrom, Cond.instanceMethod yX2_copyFrom, Cond.selects RX2 yX2_copyFrom yX2_copyFrom, Cond.code yX2_copyFrom cX2_copyFrom 2 none, Cond.methodLink RX2 46 arraycopyName, Cond.methodLink RX3 205 yX5_copyFrom, Cond.instanceMethod yX5_copyFrom, Cond.selects RX5 yX5_copyFrom yX5_copyFrom, Cond.code yX5_copyFrom cX5_copyFrom 2 none, Cond.methodLink RX5 26 arraycopyName, Cond.methodLink RX3 208 yX1_copyFrom, Cond.instanceMethod yX1_copyFrom, Cond.selects RX1 yX1_copyFrom yX1_copyFrom, Cond.code yX1_copyFrom cX1_copyFrom 2 none, Cond.methodLink RX1 34 arraycopyName, Cond.methodLink RX3 211 yX7_copyFrom, Cond.instanceMethod yX7_copyFrom, Cond.selects RX7 yX7_copyFrom yX7_copyFrom]
def wsL_law_r27 : List Cond := [Cond.code yX7_copyFrom cX7_copyFrom 2 none, Cond.methodLink RX7 48 arraycopyName, Cond.methodLink RL 101 yX9_image, Cond.instanceMethod yX9_image, Cond.selects RX9 yX9_image yX9_image, Cond.code yX9_image cX9_image 3 (some .boolean), Cond.methodLink RL 102 yX8_again, Cond.instanceMethod yX8_again, Cond.selects RX8 yX8_again yX8_again, Cond.code yX8_again cX8_again 2 (some .boolean), Cond.methodLink RL 105 yX9_again, Cond.instanceMethod yX9_again, Cond.selects RX9 yX9_again yX9_again, Cond.code yX9_again cX9_again 3 (some .boolean)]
def wsL_law : List Cond := (wsL_law_r1 ++ (wsL_law_r2 ++ (wsL_law_r3 ++ (wsL_law_r4 ++ (wsL_law_r5 ++ (wsL_law_r6 ++ (wsL_law_r7 ++ (wsL_law_r8 ++ (wsL_law_r9 ++ (wsL_law_r10 ++ (wsL_law_r11 ++ (wsL_law_r12 ++ (wsL_law_r13 ++ (wsL_law_r14 ++ (wsL_law_r15 ++ (wsL_law_r16 ++ (wsL_law_r17 ++ (wsL_law_r18 ++ (wsL_law_r19 ++ (wsL_law_r20 ++ (wsL_law_r21 ++ (wsL_law_r22 ++ (wsL_law_r23 ++ (wsL_law_r24 ++ (wsL_law_r25 ++ (wsL_law_r26 ++ wsL_law_r27)))))))))))))))))))))))))) ++ wsX80 ++ wsX90 ++ wsX30 ++ wsX00 ++ wsX20 ++ wsX50 ++ wsX10 ++ wsX70 ++ wsX40 ++ wsX60 ++ ([] : List Cond)
end
section
theorem x_ap {a b c : List Cond} (ha : ∀ w ∈ a, w ∈ c) (hb : ∀ w ∈ b, w ∈ c) : ∀ w ∈ a ++ b, w ∈ c := fun w h => (List.mem_append.mp h).elim (ha w) (hb w)
set_option maxRecDepth 20000 in
theorem wsL_in_1 : ∀ w ∈ wsL_law_r1, w ∈ lw_tbl := by decide +kernel
set_option maxRecDepth 20000 in
theorem wsL_in_2 : ∀ w ∈ wsL_law_r2, w ∈ lw_tbl := by decide +kernel
set_option maxRecDepth 20000 in
theorem wsL_in_3 : ∀ w ∈ wsL_law_r3, w ∈ lw_tbl := by decide +kernel
set_option maxRecDepth 20000 in
theorem wsL_in_4 : ∀ w ∈ wsL_law_r4, w ∈ lw_tbl := by decide +kernel
set_option maxRecDepth 20000 in
theorem wsL_in_5 : ∀ w ∈ wsL_law_r5, w ∈ lw_tbl := by decide +kernel
set_option maxRecDepth 20000 in
theorem wsL_in_6 : ∀ w ∈ wsL_law_r6, w ∈ lw_tbl := by decide +kernel
set_option maxRecDepth 20000 in
theorem wsL_in_7 : ∀ w ∈ wsL_law_r7, w ∈ lw_tbl := by decide +kernel
set_option maxRecDepth 20000 in
theorem wsL_in_8 : ∀ w ∈ wsL_law_r8, w ∈ lw_tbl := by decide +kernel
set_option maxRecDepth 20000 in
theorem wsL_in_9 : ∀ w ∈ wsL_law_r9, w ∈ lw_tbl := by decide +kernel
set_option maxRecDepth 20000 in
theorem wsL_in_10 : ∀ w ∈ wsL_law_r10, w ∈ lw_tbl := by decide +kernel
set_option maxRecDepth 20000 in
theorem wsL_in_11 : ∀ w ∈ wsL_law_r11, w ∈ lw_tbl := by decide +kernel
set_option maxRecDepth 20000 in
theorem wsL_in_12 : ∀ w ∈ wsL_law_r12, w ∈ lw_tbl := by decide +kernel
set_option maxRecDepth 20000 in
theorem wsL_in_13 : ∀ w ∈ wsL_law_r13, w ∈ lw_tbl := by decide +kernel
set_option maxRecDepth 20000 in
theorem wsL_in_14 : ∀ w ∈ wsL_law_r14, w ∈ lw_tbl := by decide +kernel
set_option maxRecDepth 20000 in
theorem wsL_in_15 : ∀ w ∈ wsL_law_r15, w ∈ lw_tbl := by decide +kernel
set_option maxRecDepth 20000 in
theorem wsL_in_16 : ∀ w ∈ wsL_law_r16, w ∈ lw_tbl := by decide +kernel
set_option maxRecDepth 20000 in
theorem wsL_in_17 : ∀ w ∈ wsL_law_r17, w ∈ lw_tbl := by decide +kernel
set_option maxRecDepth 20000 in
theorem wsL_in_18 : ∀ w ∈ wsL_law_r18, w ∈ lw_tbl := by decide +kernel
set_option maxRecDepth 20000 in
theorem wsL_in_19 : ∀ w ∈ wsL_law_r19, w ∈ lw_tbl := by decide +kernel
set_option maxRecDepth 20000 in
theorem wsL_in_20 : ∀ w ∈ wsL_law_r20, w ∈ lw_tbl := by decide +kernel
set_option maxRecDepth 20000 in
theorem wsL_in_21 : ∀ w ∈ wsL_law_r21, w ∈ lw_tbl := by decide +kernel
set_option maxRecDepth 20000 in
theorem wsL_in_22 : ∀ w ∈ wsL_law_r22, w ∈ lw_tbl := by decide +kernel
set_option maxRecDepth 20000 in
theorem wsL_in_23 : ∀ w ∈ wsL_law_r23, w ∈ lw_tbl := by decide +kernel
set_option maxRecDepth 20000 in
theorem wsL_in_24 : ∀ w ∈ wsL_law_r24, w ∈ lw_tbl := by decide +kernel
set_option maxRecDepth 20000 in
theorem wsL_in_25 : ∀ w ∈ wsL_law_r25, w ∈ lw_tbl := by decide +kernel
set_option maxRecDepth 20000 in
theorem wsL_in_26 : ∀ w ∈ wsL_law_r26, w ∈ lw_tbl := by decide +kernel
set_option maxRecDepth 20000 in
theorem wsL_in_27 : ∀ w ∈ wsL_law_r27, w ∈ lw_tbl := by decide +kernel
set_option maxRecDepth 20000 in
theorem wsL_in_wsX80 : ∀ w ∈ wsX80, w ∈ lw_tbl := by decide +kernel
set_option maxRecDepth 20000 in
theorem wsL_in_wsX90 : ∀ w ∈ wsX90, w ∈ lw_tbl := by decide +kernel
set_option maxRecDepth 20000 in
theorem wsL_in_wsX30 : ∀ w ∈ wsX30, w ∈ lw_tbl := by decide +kernel
set_option maxRecDepth 20000 in
theorem wsL_in_wsX00 : ∀ w ∈ wsX00, w ∈ lw_tbl := by decide +kernel
set_option maxRecDepth 20000 in
theorem wsL_in_wsX20 : ∀ w ∈ wsX20, w ∈ lw_tbl := by decide +kernel
set_option maxRecDepth 20000 in
theorem wsL_in_wsX50 : ∀ w ∈ wsX50, w ∈ lw_tbl := by decide +kernel
set_option maxRecDepth 20000 in
theorem wsL_in_wsX10 : ∀ w ∈ wsX10, w ∈ lw_tbl := by decide +kernel
set_option maxRecDepth 20000 in
theorem wsL_in_wsX70 : ∀ w ∈ wsX70, w ∈ lw_tbl := by decide +kernel
set_option maxRecDepth 20000 in
theorem wsL_in_wsX40 : ∀ w ∈ wsX40, w ∈ lw_tbl := by decide +kernel
set_option maxRecDepth 20000 in
theorem wsL_in_wsX60 : ∀ w ∈ wsX60, w ∈ lw_tbl := by decide +kernel
theorem wsL_law_in : ∀ w ∈ wsL_law, w ∈ lw_tbl := x_ap (x_ap (x_ap (x_ap (x_ap (x_ap (x_ap (x_ap (x_ap (x_ap (x_ap (x_ap wsL_in_1 (x_ap wsL_in_2 (x_ap wsL_in_3 (x_ap wsL_in_4 (x_ap wsL_in_5 (x_ap wsL_in_6 (x_ap wsL_in_7 (x_ap wsL_in_8 (x_ap wsL_in_9 (x_ap wsL_in_10 (x_ap wsL_in_11 (x_ap wsL_in_12 (x_ap wsL_in_13 (x_ap wsL_in_14 (x_ap wsL_in_15 (x_ap wsL_in_16 (x_ap wsL_in_17 (x_ap wsL_in_18 (x_ap wsL_in_19 (x_ap wsL_in_20 (x_ap wsL_in_21 (x_ap wsL_in_22 (x_ap wsL_in_23 (x_ap wsL_in_24 (x_ap wsL_in_25 (x_ap wsL_in_26 wsL_in_27)))))))))))))))))))))))))) wsL_in_wsX80) wsL_in_wsX90) wsL_in_wsX30) wsL_in_wsX00) wsL_in_wsX20) wsL_in_wsX50) wsL_in_wsX10) wsL_in_wsX70) wsL_in_wsX40) wsL_in_wsX60) (fun _ h => absurd h List.not_mem_nil)
end
section
theorem inlX0 : ∀ w ∈ wsX00, w ∈ wsL_law := fun _ h => List.mem_append_left _ (List.mem_append_left _ (List.mem_append_left _ (List.mem_append_left _ (List.mem_append_left _ (List.mem_append_left _ (List.mem_append_left _ (List.mem_append_right _ h)))))))
theorem inX0 : ∀ w ∈ wsX00, w ∈ lw_tbl := fun w h => wsL_law_in w (inlX0 w h)
theorem inlX1 : ∀ w ∈ wsX10, w ∈ wsL_law := fun _ h => List.mem_append_left _ (List.mem_append_left _ (List.mem_append_left _ (List.mem_append_left _ (List.mem_append_right _ h))))
theorem inX1 : ∀ w ∈ wsX10, w ∈ lw_tbl := fun w h => wsL_law_in w (inlX1 w h)
theorem inlX2 : ∀ w ∈ wsX20, w ∈ wsL_law := fun _ h => List.mem_append_left _ (List.mem_append_left _ (List.mem_append_left _ (List.mem_append_left _ (List.mem_append_left _ (List.mem_append_left _ (List.mem_append_right _ h))))))
theorem inX2 : ∀ w ∈ wsX20, w ∈ lw_tbl := fun w h => wsL_law_in w (inlX2 w h)
theorem inlX3 : ∀ w ∈ wsX30, w ∈ wsL_law := fun _ h => List.mem_append_left _ (List.mem_append_left _ (List.mem_append_left _ (List.mem_append_left _ (List.mem_append_left _ (List.mem_append_left _ (List.mem_append_left _ (List.mem_append_left _ (List.mem_append_right _ h))))))))
theorem inX3 : ∀ w ∈ wsX30, w ∈ lw_tbl := fun w h => wsL_law_in w (inlX3 w h)
theorem inlX4 : ∀ w ∈ wsX40, w ∈ wsL_law := fun _ h => List.mem_append_left _ (List.mem_append_left _ (List.mem_append_right _ h))
theorem inX4 : ∀ w ∈ wsX40, w ∈ lw_tbl := fun w h => wsL_law_in w (inlX4 w h)
theorem inlX5 : ∀ w ∈ wsX50, w ∈ wsL_law := fun _ h => List.mem_append_left _ (List.mem_append_left _ (List.mem_append_left _ (List.mem_append_left _ (List.mem_append_left _ (List.mem_append_right _ h)))))
theorem inX5 : ∀ w ∈ wsX50, w ∈ lw_tbl := fun w h => wsL_law_in w (inlX5 w h)
theorem inlX6 : ∀ w ∈ wsX60, w ∈ wsL_law := fun _ h => List.mem_append_left _ (List.mem_append_right _ h)
theorem inX6 : ∀ w ∈ wsX60, w ∈ lw_tbl := fun w h => wsL_law_in w (inlX6 w h)
theorem inlX7 : ∀ w ∈ wsX70, w ∈ wsL_law := fun _ h => List.mem_append_left _ (List.mem_append_left _ (List.mem_append_left _ (List.mem_append_right _ h)))
theorem inX7 : ∀ w ∈ wsX70, w ∈ lw_tbl := fun w h => wsL_law_in w (inlX7 w h)
theorem inlX8 : ∀ w ∈ wsX80, w ∈ wsL_law := fun _ h => List.mem_append_left _ (List.mem_append_left _ (List.mem_append_left _ (List.mem_append_left _ (List.mem_append_left _ (List.mem_append_left _ (List.mem_append_left _ (List.mem_append_left _ (List.mem_append_left _ (List.mem_append_left _ (List.mem_append_right _ h))))))))))
theorem inX8 : ∀ w ∈ wsX80, w ∈ lw_tbl := fun w h => wsL_law_in w (inlX8 w h)
theorem inlX9 : ∀ w ∈ wsX90, w ∈ wsL_law := fun _ h => List.mem_append_left _ (List.mem_append_left _ (List.mem_append_left _ (List.mem_append_left _ (List.mem_append_left _ (List.mem_append_left _ (List.mem_append_left _ (List.mem_append_left _ (List.mem_append_left _ (List.mem_append_right _ h)))))))))
theorem inX9 : ∀ w ∈ wsX90, w ∈ lw_tbl := fun w h => wsL_law_in w (inlX9 w h)
theorem inJ6 : ∀ w ∈ wsJ60, w ∈ lw_tbl := by decide +kernel
theorem inJ9 : ∀ w ∈ wsJ90, w ∈ lw_tbl := by decide +kernel
theorem inJ10 : ∀ w ∈ wsJ100, w ∈ lw_tbl := by decide +kernel
theorem inJ7 : ∀ w ∈ wsJ70, w ∈ lw_tbl := by decide +kernel
end
section
set_option maxRecDepth 20000 in
theorem ggX0_init_X4_init : GoodIn wsX0_init wsX4_init := goodIn_r _ [16, 17, 2, 3, 18, 19, 20, 21, 22, 23, 24, 25, 26, 27, 28, 29, 30, 45, 46, 47, 48, 35, 36, 37] (by decide +kernel) (by decide +kernel)
set_option maxRecDepth 20000 in
theorem gX0_init_X4_init_n11 : GoodIn wsX0_init (wsX4_init) := ggX0_init_X4_init
set_option maxRecDepth 20000 in
theorem ggX0_init_X6_whole : GoodIn wsX0_init wsX6_whole := goodIn_r _ [34, 27, 28, 29, 30, 45, 46, 47, 48] (by decide +kernel) (by decide +kernel)
set_option maxRecDepth 20000 in
theorem gX0_init_X6_whole : GoodIn wsX0_init (wsV RX0 40 RX6 yX6_whole wsX6_whole) := goodIn_app (goodIn_of _ (by decide +kernel)) ggX0_init_X6_whole
theorem dX0_init_0 : decode cX0_init 0 = .ok (.aload_n 0, 1) := by decide +kernel
theorem dX0_init_1 : decode cX0_init 1 = .ok (.invokespecial 3, 3) := by decide +kernel
theorem dX0_init_4 : decode cX0_init 4 = .ok (.aload_n 0, 1) := by decide +kernel
theorem dX0_init_5 : decode cX0_init 5 = .ok (.new 9, 3) := by decide +kernel
theorem dX0_init_8 : decode cX0_init 8 = .ok (.dup, 1) := by decide +kernel
theorem dX0_init_9 : decode cX0_init 9 = .ok (.invokespecial 11, 3) := by decide +kernel
theorem dX0_init_12 : decode cX0_init 12 = .ok (.putfield 12, 3) := by decide +kernel
theorem dX0_init_15 : decode cX0_init 15 = .ok (.aload_n 0, 1) := by decide +kernel
theorem dX0_init_16 : decode cX0_init 16 = .ok (.new 9, 3) := by decide +kernel
theorem dX0_init_19 : decode cX0_init 19 = .ok (.dup, 1) := by decide +kernel
theorem dX0_init_20 : decode cX0_init 20 = .ok (.invokespecial 11, 3) := by decide +kernel
theorem dX0_init_23 : decode cX0_init 23 = .ok (.putfield 18, 3) := by decide +kernel
theorem dX0_init_26 : decode cX0_init 26 = .ok (.aload_n 0, 1) := by decide +kernel
theorem dX0_init_27 : decode cX0_init 27 = .ok (.new 9, 3) := by decide +kernel
theorem dX0_init_30 : decode cX0_init 30 = .ok (.dup, 1) := by decide +kernel
theorem dX0_init_31 : decode cX0_init 31 = .ok (.invokespecial 11, 3) := by decide +kernel
theorem dX0_init_34 : decode cX0_init 34 = .ok (.putfield 21, 3) := by decide +kernel
theorem dX0_init_37 : decode cX0_init 37 = .ok (.aload_n 0, 1) := by decide +kernel
theorem dX0_init_38 : decode cX0_init 38 = .ok (.aload_n 0, 1) := by decide +kernel
theorem dX0_init_39 : decode cX0_init 39 = .ok (.getfield 12, 3) := by decide +kernel
theorem dX0_init_42 : decode cX0_init 42 = .ok (.getfield 24, 3) := by decide +kernel
theorem dX0_init_45 : decode cX0_init 45 = .ok (.getfield 28, 3) := by decide +kernel
theorem dX0_init_48 : decode cX0_init 48 = .ok (.putfield 34, 3) := by decide +kernel
theorem dX0_init_51 : decode cX0_init 51 = .ok (.aload_n 0, 1) := by decide +kernel
theorem dX0_init_52 : decode cX0_init 52 = .ok (.aload_n 0, 1) := by decide +kernel
theorem dX0_init_53 : decode cX0_init 53 = .ok (.getfield 12, 3) := by decide +kernel
theorem dX0_init_56 : decode cX0_init 56 = .ok (.getfield 37, 3) := by decide +kernel
theorem dX0_init_59 : decode cX0_init 59 = .ok (.invokevirtual 40, 3) := by decide +kernel
theorem dX0_init_62 : decode cX0_init 62 = .ok (.iconst 1, 1) := by decide +kernel
theorem dX0_init_63 : decode cX0_init 63 = .ok (.isub, 1) := by decide +kernel
theorem dX0_init_64 : decode cX0_init 64 = .ok (.putfield 44, 3) := by decide +kernel
theorem dX0_init_67 : decode cX0_init 67 = .ok (.return_, 1) := by decide +kernel
theorem dX0_isBehindSeen_0 : decode cX0_isBehindSeen 0 = .ok (.aload_n 0, 1) := by decide +kernel
theorem dX0_isBehindSeen_1 : decode cX0_isBehindSeen 1 = .ok (.getfield 34, 3) := by decide +kernel
theorem dX0_isBehindSeen_4 : decode cX0_isBehindSeen 4 = .ok (.aload_n 0, 1) := by decide +kernel
theorem dX0_isBehindSeen_5 : decode cX0_isBehindSeen 5 = .ok (.getfield 12, 3) := by decide +kernel
theorem dX0_isBehindSeen_8 : decode cX0_isBehindSeen 8 = .ok (.getfield 24, 3) := by decide +kernel
theorem dX0_isBehindSeen_11 : decode cX0_isBehindSeen 11 = .ok (.getfield 28, 3) := by decide +kernel
theorem dX0_isBehindSeen_14 : decode cX0_isBehindSeen 14 = .ok (.if_icmp .ne 7, 3) := by decide +kernel
theorem dX0_isBehindSeen_17 : decode cX0_isBehindSeen 17 = .ok (.iconst 1, 1) := by decide +kernel
theorem dX0_isBehindSeen_18 : decode cX0_isBehindSeen 18 = .ok (.goto 4, 3) := by decide +kernel
theorem dX0_isBehindSeen_21 : decode cX0_isBehindSeen 21 = .ok (.iconst 0, 1) := by decide +kernel
theorem dX0_isBehindSeen_22 : decode cX0_isBehindSeen 22 = .ok (.ireturn, 1) := by decide +kernel
set_option maxRecDepth 20000 in
theorem ggX0_isOnLastLine_X6_whole : GoodIn wsX0_isOnLastLine wsX6_whole := goodIn_r _ [8, 9, 10, 11, 12, 23, 24, 25, 26] (by decide +kernel) (by decide +kernel)
set_option maxRecDepth 20000 in
theorem gX0_isOnLastLine_X6_whole : GoodIn wsX0_isOnLastLine (wsV RX0 40 RX6 yX6_whole wsX6_whole) := goodIn_app (goodIn_of _ (by decide +kernel)) ggX0_isOnLastLine_X6_whole
theorem dX0_isOnLastLine_0 : decode cX0_isOnLastLine 0 = .ok (.aload_n 0, 1) := by decide +kernel
theorem dX0_isOnLastLine_1 : decode cX0_isOnLastLine 1 = .ok (.getfield 44, 3) := by decide +kernel
theorem dX0_isOnLastLine_4 : decode cX0_isOnLastLine 4 = .ok (.aload_n 0, 1) := by decide +kernel
theorem dX0_isOnLastLine_5 : decode cX0_isOnLastLine 5 = .ok (.getfield 12, 3) := by decide +kernel
theorem dX0_isOnLastLine_8 : decode cX0_isOnLastLine 8 = .ok (.getfield 37, 3) := by decide +kernel
theorem dX0_isOnLastLine_11 : decode cX0_isOnLastLine 11 = .ok (.invokevirtual 40, 3) := by decide +kernel
theorem dX0_isOnLastLine_14 : decode cX0_isOnLastLine 14 = .ok (.iconst 1, 1) := by decide +kernel
theorem dX0_isOnLastLine_15 : decode cX0_isOnLastLine 15 = .ok (.isub, 1) := by decide +kernel
theorem dX0_isOnLastLine_16 : decode cX0_isOnLastLine 16 = .ok (.if_icmp .ne 7, 3) := by decide +kernel
theorem dX0_isOnLastLine_19 : decode cX0_isOnLastLine 19 = .ok (.iconst 1, 1) := by decide +kernel
theorem dX0_isOnLastLine_20 : decode cX0_isOnLastLine 20 = .ok (.goto 4, 3) := by decide +kernel
theorem dX0_isOnLastLine_23 : decode cX0_isOnLastLine 23 = .ok (.iconst 0, 1) := by decide +kernel
theorem dX0_isOnLastLine_24 : decode cX0_isOnLastLine 24 = .ok (.ireturn, 1) := by decide +kernel
set_option maxRecDepth 20000 in
theorem ggX0_isOnDot_X6_isSeen : GoodIn wsX0_isOnDot wsX6_isSeen := goodIn_r _ [10, 11, 22, 23, 24, 25] (by decide +kernel) (by decide +kernel)
set_option maxRecDepth 20000 in
theorem gX0_isOnDot_X6_isSeen : GoodIn wsX0_isOnDot (wsV RX0 47 RX6 yX6_isSeen wsX6_isSeen) := goodIn_app (goodIn_of _ (by decide +kernel)) ggX0_isOnDot_X6_isSeen
theorem dX0_isOnDot_0 : decode cX0_isOnDot 0 = .ok (.aload_n 0, 1) := by decide +kernel
theorem dX0_isOnDot_1 : decode cX0_isOnDot 1 = .ok (.getfield 12, 3) := by decide +kernel
theorem dX0_isOnDot_4 : decode cX0_isOnDot 4 = .ok (.getfield 24, 3) := by decide +kernel
theorem dX0_isOnDot_7 : decode cX0_isOnDot 7 = .ok (.aload_n 0, 1) := by decide +kernel
theorem dX0_isOnDot_8 : decode cX0_isOnDot 8 = .ok (.getfield 34, 3) := by decide +kernel
theorem dX0_isOnDot_11 : decode cX0_isOnDot 11 = .ok (.invokevirtual 47, 3) := by decide +kernel
theorem dX0_isOnDot_14 : decode cX0_isOnDot 14 = .ok (.ifCond .eq 24, 3) := by decide +kernel
theorem dX0_isOnDot_17 : decode cX0_isOnDot 17 = .ok (.aload_n 0, 1) := by decide +kernel
theorem dX0_isOnDot_18 : decode cX0_isOnDot 18 = .ok (.getfield 12, 3) := by decide +kernel
theorem dX0_isOnDot_21 : decode cX0_isOnDot 21 = .ok (.getfield 37, 3) := by decide +kernel
theorem dX0_isOnDot_24 : decode cX0_isOnDot 24 = .ok (.aload_n 0, 1) := by decide +kernel
theorem dX0_isOnDot_25 : decode cX0_isOnDot 25 = .ok (.getfield 44, 3) := by decide +kernel
theorem dX0_isOnDot_28 : decode cX0_isOnDot 28 = .ok (.invokevirtual 47, 3) := by decide +kernel
theorem dX0_isOnDot_31 : decode cX0_isOnDot 31 = .ok (.ifCond .eq 7, 3) := by decide +kernel
theorem dX0_isOnDot_34 : decode cX0_isOnDot 34 = .ok (.iconst 1, 1) := by decide +kernel
theorem dX0_isOnDot_35 : decode cX0_isOnDot 35 = .ok (.goto 4, 3) := by decide +kernel
theorem dX0_isOnDot_38 : decode cX0_isOnDot 38 = .ok (.iconst 0, 1) := by decide +kernel
theorem dX0_isOnDot_39 : decode cX0_isOnDot 39 = .ok (.ireturn, 1) := by decide +kernel
set_option maxRecDepth 20000 in
theorem ggX0_rowHere_X4_rowOf : GoodIn wsX0_rowHere wsX4_rowOf := goodIn_r _ [8, 9, 17, 18, 19] (by decide +kernel) (by decide +kernel)
set_option maxRecDepth 20000 in
theorem gX0_rowHere_X4_rowOf : GoodIn wsX0_rowHere (wsV RX0 54 RX4 yX4_rowOf wsX4_rowOf) := goodIn_app (goodIn_of _ (by decide +kernel)) ggX0_rowHere_X4_rowOf
theorem dX0_rowHere_0 : decode cX0_rowHere 0 = .ok (.aload_n 0, 1) := by decide +kernel
theorem dX0_rowHere_1 : decode cX0_rowHere 1 = .ok (.getfield 12, 3) := by decide +kernel
theorem dX0_rowHere_4 : decode cX0_rowHere 4 = .ok (.aload_n 0, 1) := by decide +kernel
theorem dX0_rowHere_5 : decode cX0_rowHere 5 = .ok (.getfield 44, 3) := by decide +kernel
theorem dX0_rowHere_8 : decode cX0_rowHere 8 = .ok (.aload_n 0, 1) := by decide +kernel
theorem dX0_rowHere_9 : decode cX0_rowHere 9 = .ok (.getfield 51, 3) := by decide +kernel
theorem dX0_rowHere_12 : decode cX0_rowHere 12 = .ok (.invokevirtual 54, 3) := by decide +kernel
theorem dX0_rowHere_15 : decode cX0_rowHere 15 = .ok (.ireturn, 1) := by decide +kernel
set_option maxRecDepth 20000 in
theorem ggX0_signalsHere_X6_isSync : GoodIn wsX0_signalsHere wsX6_isSync := goodIn_r _ [10, 11, 12, 13, 33, 34, 35, 36] (by decide +kernel) (by decide +kernel)
set_option maxRecDepth 20000 in
theorem gX0_signalsHere_X6_isSync : GoodIn wsX0_signalsHere (wsV RX0 58 RX6 yX6_isSync wsX6_isSync) := goodIn_app (goodIn_of _ (by decide +kernel)) ggX0_signalsHere_X6_isSync
set_option maxRecDepth 20000 in
theorem ggX0_signalsHere_X0_isOnDot : GoodIn wsX0_signalsHere wsX0_isOnDot := goodIn_r _ [18, 1, 2, 3, 4, 5, 19, 20, 21, 9, 22, 11, 23, 24, 25, 26, 27, 28, 29, 30, 31, 32, 33, 34, 35, 36] (by decide +kernel) (by decide +kernel)
set_option maxRecDepth 20000 in
theorem gX0_signalsHere_X0_isOnDot : GoodIn wsX0_signalsHere (wsV RX0 61 RX0 yX0_isOnDot wsX0_isOnDot) := goodIn_app (goodIn_of _ (by decide +kernel)) ggX0_signalsHere_X0_isOnDot
theorem dX0_signalsHere_0 : decode cX0_signalsHere 0 = .ok (.aload_n 0, 1) := by decide +kernel
theorem dX0_signalsHere_1 : decode cX0_signalsHere 1 = .ok (.getfield 12, 3) := by decide +kernel
theorem dX0_signalsHere_4 : decode cX0_signalsHere 4 = .ok (.getfield 24, 3) := by decide +kernel
theorem dX0_signalsHere_7 : decode cX0_signalsHere 7 = .ok (.aload_n 0, 1) := by decide +kernel
theorem dX0_signalsHere_8 : decode cX0_signalsHere 8 = .ok (.getfield 34, 3) := by decide +kernel
theorem dX0_signalsHere_11 : decode cX0_signalsHere 11 = .ok (.invokevirtual 58, 3) := by decide +kernel
theorem dX0_signalsHere_14 : decode cX0_signalsHere 14 = .ok (.ifCond .eq 7, 3) := by decide +kernel
theorem dX0_signalsHere_17 : decode cX0_signalsHere 17 = .ok (.iconst 1, 1) := by decide +kernel
theorem dX0_signalsHere_18 : decode cX0_signalsHere 18 = .ok (.goto 4, 3) := by decide +kernel
theorem dX0_signalsHere_21 : decode cX0_signalsHere 21 = .ok (.iconst 0, 1) := by decide +kernel
theorem dX0_signalsHere_22 : decode cX0_signalsHere 22 = .ok (.aload_n 0, 1) := by decide +kernel
theorem dX0_signalsHere_23 : decode cX0_signalsHere 23 = .ok (.getfield 12, 3) := by decide +kernel
theorem dX0_signalsHere_26 : decode cX0_signalsHere 26 = .ok (.getfield 37, 3) := by decide +kernel
theorem dX0_signalsHere_29 : decode cX0_signalsHere 29 = .ok (.aload_n 0, 1) := by decide +kernel
theorem dX0_signalsHere_30 : decode cX0_signalsHere 30 = .ok (.getfield 44, 3) := by decide +kernel
theorem dX0_signalsHere_33 : decode cX0_signalsHere 33 = .ok (.invokevirtual 58, 3) := by decide +kernel
theorem dX0_signalsHere_36 : decode cX0_signalsHere 36 = .ok (.ifCond .eq 7, 3) := by decide +kernel
theorem dX0_signalsHere_39 : decode cX0_signalsHere 39 = .ok (.iconst 2, 1) := by decide +kernel
theorem dX0_signalsHere_40 : decode cX0_signalsHere 40 = .ok (.goto 4, 3) := by decide +kernel
theorem dX0_signalsHere_43 : decode cX0_signalsHere 43 = .ok (.iconst 0, 1) := by decide +kernel
theorem dX0_signalsHere_44 : decode cX0_signalsHere 44 = .ok (.ior, 1) := by decide +kernel
theorem dX0_signalsHere_45 : decode cX0_signalsHere 45 = .ok (.aload_n 0, 1) := by decide +kernel
theorem dX0_signalsHere_46 : decode cX0_signalsHere 46 = .ok (.invokevirtual 61, 3) := by decide +kernel
theorem dX0_signalsHere_49 : decode cX0_signalsHere 49 = .ok (.ifCond .eq 7, 3) := by decide +kernel
theorem dX0_signalsHere_52 : decode cX0_signalsHere 52 = .ok (.iconst 0, 1) := by decide +kernel
theorem dX0_signalsHere_53 : decode cX0_signalsHere 53 = .ok (.goto 4, 3) := by decide +kernel
theorem dX0_signalsHere_56 : decode cX0_signalsHere 56 = .ok (.iconst 4, 1) := by decide +kernel
theorem dX0_signalsHere_57 : decode cX0_signalsHere 57 = .ok (.ior, 1) := by decide +kernel
theorem dX0_signalsHere_58 : decode cX0_signalsHere 58 = .ok (.ireturn, 1) := by decide +kernel
set_option maxRecDepth 20000 in
theorem ggX0_takeUp_X4_copyFrom : GoodIn wsX0_takeUp wsX4_copyFrom := goodIn_r _ [11, 12, 13, 14, 15, 16, 17, 18, 19, 20, 21, 22, 23, 24, 25, 26, 27, 35, 36, 37, 38, 39, 40, 41] (by decide +kernel) (by decide +kernel)
set_option maxRecDepth 20000 in
theorem gX0_takeUp_X4_copyFrom : GoodIn wsX0_takeUp (wsV RX0 65 RX4 yX4_copyFrom wsX4_copyFrom) := goodIn_app (goodIn_of _ (by decide +kernel)) ggX0_takeUp_X4_copyFrom
theorem dX0_takeUp_0 : decode cX0_takeUp 0 = .ok (.aload_n 0, 1) := by decide +kernel
theorem dX0_takeUp_1 : decode cX0_takeUp 1 = .ok (.getfield 18, 3) := by decide +kernel
theorem dX0_takeUp_4 : decode cX0_takeUp 4 = .ok (.aload_n 0, 1) := by decide +kernel
theorem dX0_takeUp_5 : decode cX0_takeUp 5 = .ok (.getfield 21, 3) := by decide +kernel
theorem dX0_takeUp_8 : decode cX0_takeUp 8 = .ok (.invokevirtual 65, 3) := by decide +kernel
theorem dX0_takeUp_11 : decode cX0_takeUp 11 = .ok (.aload_n 0, 1) := by decide +kernel
theorem dX0_takeUp_12 : decode cX0_takeUp 12 = .ok (.aload_n 0, 1) := by decide +kernel
theorem dX0_takeUp_13 : decode cX0_takeUp 13 = .ok (.getfield 12, 3) := by decide +kernel
theorem dX0_takeUp_16 : decode cX0_takeUp 16 = .ok (.getfield 69, 3) := by decide +kernel
theorem dX0_takeUp_19 : decode cX0_takeUp 19 = .ok (.ifCond .eq 22, 3) := by decide +kernel
theorem dX0_takeUp_22 : decode cX0_takeUp 22 = .ok (.aload_n 0, 1) := by decide +kernel
theorem dX0_takeUp_23 : decode cX0_takeUp 23 = .ok (.getfield 18, 3) := by decide +kernel
theorem dX0_takeUp_26 : decode cX0_takeUp 26 = .ok (.getfield 69, 3) := by decide +kernel
theorem dX0_takeUp_29 : decode cX0_takeUp 29 = .ok (.ifCond .eq 12, 3) := by decide +kernel
theorem dX0_takeUp_32 : decode cX0_takeUp 32 = .ok (.iconst 1, 1) := by decide +kernel
theorem dX0_takeUp_33 : decode cX0_takeUp 33 = .ok (.aload_n 0, 1) := by decide +kernel
theorem dX0_takeUp_34 : decode cX0_takeUp 34 = .ok (.getfield 51, 3) := by decide +kernel
theorem dX0_takeUp_37 : decode cX0_takeUp 37 = .ok (.isub, 1) := by decide +kernel
theorem dX0_takeUp_38 : decode cX0_takeUp 38 = .ok (.goto 4, 3) := by decide +kernel
theorem dX0_takeUp_41 : decode cX0_takeUp 41 = .ok (.iconst 0, 1) := by decide +kernel
theorem dX0_takeUp_42 : decode cX0_takeUp 42 = .ok (.putfield 73, 3) := by decide +kernel
theorem dX0_takeUp_45 : decode cX0_takeUp 45 = .ok (.return_, 1) := by decide +kernel
set_option maxRecDepth 20000 in
theorem ggX0_goOn_X6_whole : GoodIn wsX0_goOn wsX6_whole := goodIn_r _ [13, 14, 15, 16, 17, 44, 45, 46, 47] (by decide +kernel) (by decide +kernel)
set_option maxRecDepth 20000 in
theorem gX0_goOn_X6_whole : GoodIn wsX0_goOn (wsV RX0 40 RX6 yX6_whole wsX6_whole) := goodIn_app (goodIn_of _ (by decide +kernel)) ggX0_goOn_X6_whole
set_option maxRecDepth 20000 in
theorem ggX0_goOn_X4_copyFrom : GoodIn wsX0_goOn wsX4_copyFrom := goodIn_r _ [22, 23, 24, 25, 26, 27, 28, 12, 29, 14, 15, 16, 17, 30, 31, 32, 33, 41, 42, 43, 44, 45, 46, 47] (by decide +kernel) (by decide +kernel)
set_option maxRecDepth 20000 in
theorem gX0_goOn_X4_copyFrom : GoodIn wsX0_goOn (wsV RX0 65 RX4 yX4_copyFrom wsX4_copyFrom) := goodIn_app (goodIn_of _ (by decide +kernel)) ggX0_goOn_X4_copyFrom
theorem dX0_goOn_0 : decode cX0_goOn 0 = .ok (.aload_n 0, 1) := by decide +kernel
theorem dX0_goOn_1 : decode cX0_goOn 1 = .ok (.dup, 1) := by decide +kernel
theorem dX0_goOn_2 : decode cX0_goOn 2 = .ok (.getfield 34, 3) := by decide +kernel
theorem dX0_goOn_5 : decode cX0_goOn 5 = .ok (.iconst 1, 1) := by decide +kernel
theorem dX0_goOn_6 : decode cX0_goOn 6 = .ok (.iadd, 1) := by decide +kernel
theorem dX0_goOn_7 : decode cX0_goOn 7 = .ok (.putfield 34, 3) := by decide +kernel
theorem dX0_goOn_10 : decode cX0_goOn 10 = .ok (.aload_n 0, 1) := by decide +kernel
theorem dX0_goOn_11 : decode cX0_goOn 11 = .ok (.getfield 34, 3) := by decide +kernel
theorem dX0_goOn_14 : decode cX0_goOn 14 = .ok (.aload_n 0, 1) := by decide +kernel
theorem dX0_goOn_15 : decode cX0_goOn 15 = .ok (.getfield 12, 3) := by decide +kernel
theorem dX0_goOn_18 : decode cX0_goOn 18 = .ok (.getfield 24, 3) := by decide +kernel
theorem dX0_goOn_21 : decode cX0_goOn 21 = .ok (.invokevirtual 40, 3) := by decide +kernel
theorem dX0_goOn_24 : decode cX0_goOn 24 = .ok (.if_icmp .ge 4, 3) := by decide +kernel
theorem dX0_goOn_27 : decode cX0_goOn 27 = .ok (.return_, 1) := by decide +kernel
theorem dX0_goOn_28 : decode cX0_goOn 28 = .ok (.aload_n 0, 1) := by decide +kernel
theorem dX0_goOn_29 : decode cX0_goOn 29 = .ok (.iconst 0, 1) := by decide +kernel
theorem dX0_goOn_30 : decode cX0_goOn 30 = .ok (.putfield 34, 3) := by decide +kernel
theorem dX0_goOn_33 : decode cX0_goOn 33 = .ok (.aload_n 0, 1) := by decide +kernel
theorem dX0_goOn_34 : decode cX0_goOn 34 = .ok (.dup, 1) := by decide +kernel
theorem dX0_goOn_35 : decode cX0_goOn 35 = .ok (.getfield 44, 3) := by decide +kernel
theorem dX0_goOn_38 : decode cX0_goOn 38 = .ok (.iconst 1, 1) := by decide +kernel
theorem dX0_goOn_39 : decode cX0_goOn 39 = .ok (.iadd, 1) := by decide +kernel
theorem dX0_goOn_40 : decode cX0_goOn 40 = .ok (.putfield 44, 3) := by decide +kernel
theorem dX0_goOn_43 : decode cX0_goOn 43 = .ok (.aload_n 0, 1) := by decide +kernel
theorem dX0_goOn_44 : decode cX0_goOn 44 = .ok (.getfield 44, 3) := by decide +kernel
theorem dX0_goOn_47 : decode cX0_goOn 47 = .ok (.aload_n 0, 1) := by decide +kernel
theorem dX0_goOn_48 : decode cX0_goOn 48 = .ok (.getfield 12, 3) := by decide +kernel
theorem dX0_goOn_51 : decode cX0_goOn 51 = .ok (.getfield 37, 3) := by decide +kernel
theorem dX0_goOn_54 : decode cX0_goOn 54 = .ok (.invokevirtual 40, 3) := by decide +kernel
theorem dX0_goOn_57 : decode cX0_goOn 57 = .ok (.if_icmp .ge 4, 3) := by decide +kernel
theorem dX0_goOn_60 : decode cX0_goOn 60 = .ok (.return_, 1) := by decide +kernel
theorem dX0_goOn_61 : decode cX0_goOn 61 = .ok (.aload_n 0, 1) := by decide +kernel
theorem dX0_goOn_62 : decode cX0_goOn 62 = .ok (.iconst 0, 1) := by decide +kernel
theorem dX0_goOn_63 : decode cX0_goOn 63 = .ok (.putfield 44, 3) := by decide +kernel
theorem dX0_goOn_66 : decode cX0_goOn 66 = .ok (.aload_n 0, 1) := by decide +kernel
theorem dX0_goOn_67 : decode cX0_goOn 67 = .ok (.aload_n 0, 1) := by decide +kernel
theorem dX0_goOn_68 : decode cX0_goOn 68 = .ok (.getfield 73, 3) := by decide +kernel
theorem dX0_goOn_71 : decode cX0_goOn 71 = .ok (.putfield 51, 3) := by decide +kernel
theorem dX0_goOn_74 : decode cX0_goOn 74 = .ok (.aload_n 0, 1) := by decide +kernel
theorem dX0_goOn_75 : decode cX0_goOn 75 = .ok (.getfield 12, 3) := by decide +kernel
theorem dX0_goOn_78 : decode cX0_goOn 78 = .ok (.aload_n 0, 1) := by decide +kernel
theorem dX0_goOn_79 : decode cX0_goOn 79 = .ok (.getfield 18, 3) := by decide +kernel
theorem dX0_goOn_82 : decode cX0_goOn 82 = .ok (.invokevirtual 65, 3) := by decide +kernel
theorem dX0_goOn_85 : decode cX0_goOn 85 = .ok (.return_, 1) := by decide +kernel
set_option maxRecDepth 20000 in
theorem ggX0_copyFrom_X4_copyFrom : GoodIn wsX0_copyFrom wsX4_copyFrom := goodIn_r _ [12, 13, 14, 15, 16, 17, 18, 19, 20, 21, 22, 23, 24, 25, 26, 27, 28, 36, 37, 38, 39, 40, 41, 42] (by decide +kernel) (by decide +kernel)
set_option maxRecDepth 20000 in
theorem gX0_copyFrom_X4_copyFrom : GoodIn wsX0_copyFrom (wsV RX0 65 RX4 yX4_copyFrom wsX4_copyFrom) := goodIn_app (goodIn_of _ (by decide +kernel)) ggX0_copyFrom_X4_copyFrom
theorem dX0_copyFrom_0 : decode cX0_copyFrom 0 = .ok (.aload_n 0, 1) := by decide +kernel
theorem dX0_copyFrom_1 : decode cX0_copyFrom 1 = .ok (.getfield 12, 3) := by decide +kernel
theorem dX0_copyFrom_4 : decode cX0_copyFrom 4 = .ok (.aload_n 1, 1) := by decide +kernel
theorem dX0_copyFrom_5 : decode cX0_copyFrom 5 = .ok (.getfield 12, 3) := by decide +kernel
theorem dX0_copyFrom_8 : decode cX0_copyFrom 8 = .ok (.invokevirtual 65, 3) := by decide +kernel
theorem dX0_copyFrom_11 : decode cX0_copyFrom 11 = .ok (.aload_n 0, 1) := by decide +kernel
theorem dX0_copyFrom_12 : decode cX0_copyFrom 12 = .ok (.getfield 18, 3) := by decide +kernel
theorem dX0_copyFrom_15 : decode cX0_copyFrom 15 = .ok (.aload_n 1, 1) := by decide +kernel
theorem dX0_copyFrom_16 : decode cX0_copyFrom 16 = .ok (.getfield 18, 3) := by decide +kernel
theorem dX0_copyFrom_19 : decode cX0_copyFrom 19 = .ok (.invokevirtual 65, 3) := by decide +kernel
theorem dX0_copyFrom_22 : decode cX0_copyFrom 22 = .ok (.aload_n 0, 1) := by decide +kernel
theorem dX0_copyFrom_23 : decode cX0_copyFrom 23 = .ok (.getfield 21, 3) := by decide +kernel
theorem dX0_copyFrom_26 : decode cX0_copyFrom 26 = .ok (.aload_n 1, 1) := by decide +kernel
theorem dX0_copyFrom_27 : decode cX0_copyFrom 27 = .ok (.getfield 21, 3) := by decide +kernel
theorem dX0_copyFrom_30 : decode cX0_copyFrom 30 = .ok (.invokevirtual 65, 3) := by decide +kernel
theorem dX0_copyFrom_33 : decode cX0_copyFrom 33 = .ok (.aload_n 0, 1) := by decide +kernel
theorem dX0_copyFrom_34 : decode cX0_copyFrom 34 = .ok (.aload_n 1, 1) := by decide +kernel
theorem dX0_copyFrom_35 : decode cX0_copyFrom 35 = .ok (.getfield 34, 3) := by decide +kernel
theorem dX0_copyFrom_38 : decode cX0_copyFrom 38 = .ok (.putfield 34, 3) := by decide +kernel
theorem dX0_copyFrom_41 : decode cX0_copyFrom 41 = .ok (.aload_n 0, 1) := by decide +kernel
theorem dX0_copyFrom_42 : decode cX0_copyFrom 42 = .ok (.aload_n 1, 1) := by decide +kernel
theorem dX0_copyFrom_43 : decode cX0_copyFrom 43 = .ok (.getfield 44, 3) := by decide +kernel
theorem dX0_copyFrom_46 : decode cX0_copyFrom 46 = .ok (.putfield 44, 3) := by decide +kernel
theorem dX0_copyFrom_49 : decode cX0_copyFrom 49 = .ok (.aload_n 0, 1) := by decide +kernel
theorem dX0_copyFrom_50 : decode cX0_copyFrom 50 = .ok (.aload_n 1, 1) := by decide +kernel
theorem dX0_copyFrom_51 : decode cX0_copyFrom 51 = .ok (.getfield 51, 3) := by decide +kernel
theorem dX0_copyFrom_54 : decode cX0_copyFrom 54 = .ok (.putfield 51, 3) := by decide +kernel
theorem dX0_copyFrom_57 : decode cX0_copyFrom 57 = .ok (.aload_n 0, 1) := by decide +kernel
theorem dX0_copyFrom_58 : decode cX0_copyFrom 58 = .ok (.aload_n 1, 1) := by decide +kernel
theorem dX0_copyFrom_59 : decode cX0_copyFrom 59 = .ok (.getfield 73, 3) := by decide +kernel
theorem dX0_copyFrom_62 : decode cX0_copyFrom 62 = .ok (.putfield 73, 3) := by decide +kernel
theorem dX0_copyFrom_65 : decode cX0_copyFrom 65 = .ok (.return_, 1) := by decide +kernel
theorem dX1_init_0 : decode cX1_init 0 = .ok (.aload_n 0, 1) := by decide +kernel
theorem dX1_init_1 : decode cX1_init 1 = .ok (.invokespecial 3, 3) := by decide +kernel
theorem dX1_init_4 : decode cX1_init 4 = .ok (.aload_n 0, 1) := by decide +kernel
theorem dX1_init_5 : decode cX1_init 5 = .ok (.bipush 16, 2) := by decide +kernel
theorem dX1_init_7 : decode cX1_init 7 = .ok (.newarray .int, 2) := by decide +kernel
theorem dX1_init_9 : decode cX1_init 9 = .ok (.putfield 9, 3) := by decide +kernel
theorem dX1_init_12 : decode cX1_init 12 = .ok (.aload_n 0, 1) := by decide +kernel
theorem dX1_init_13 : decode cX1_init 13 = .ok (.bipush 16, 2) := by decide +kernel
theorem dX1_init_15 : decode cX1_init 15 = .ok (.newarray .int, 2) := by decide +kernel
theorem dX1_init_17 : decode cX1_init 17 = .ok (.putfield 15, 3) := by decide +kernel
theorem dX1_init_20 : decode cX1_init 20 = .ok (.aload_n 0, 1) := by decide +kernel
theorem dX1_init_21 : decode cX1_init 21 = .ok (.bipush 16, 2) := by decide +kernel
theorem dX1_init_23 : decode cX1_init 23 = .ok (.newarray .int, 2) := by decide +kernel
theorem dX1_init_25 : decode cX1_init 25 = .ok (.putfield 18, 3) := by decide +kernel
theorem dX1_init_28 : decode cX1_init 28 = .ok (.aload_n 0, 1) := by decide +kernel
theorem dX1_init_29 : decode cX1_init 29 = .ok (.bipush 16, 2) := by decide +kernel
theorem dX1_init_31 : decode cX1_init 31 = .ok (.newarray .int, 2) := by decide +kernel
theorem dX1_init_33 : decode cX1_init 33 = .ok (.putfield 21, 3) := by decide +kernel
theorem dX1_init_36 : decode cX1_init 36 = .ok (.return_, 1) := by decide +kernel
theorem dX1_append_0 : decode cX1_append 0 = .ok (.aload_n 0, 1) := by decide +kernel
theorem dX1_append_1 : decode cX1_append 1 = .ok (.getfield 24, 3) := by decide +kernel
theorem dX1_append_4 : decode cX1_append 4 = .ok (.bipush 16, 2) := by decide +kernel
theorem dX1_append_6 : decode cX1_append 6 = .ok (.if_icmp .lt 5, 3) := by decide +kernel
theorem dX1_append_9 : decode cX1_append 9 = .ok (.iconst (-1), 1) := by decide +kernel
theorem dX1_append_10 : decode cX1_append 10 = .ok (.ireturn, 1) := by decide +kernel
theorem dX1_append_11 : decode cX1_append 11 = .ok (.aload_n 0, 1) := by decide +kernel
theorem dX1_append_12 : decode cX1_append 12 = .ok (.getfield 9, 3) := by decide +kernel
theorem dX1_append_15 : decode cX1_append 15 = .ok (.aload_n 0, 1) := by decide +kernel
theorem dX1_append_16 : decode cX1_append 16 = .ok (.getfield 24, 3) := by decide +kernel
theorem dX1_append_19 : decode cX1_append 19 = .ok (.iload_n 1, 1) := by decide +kernel
theorem dX1_append_20 : decode cX1_append 20 = .ok (.iastore, 1) := by decide +kernel
theorem dX1_append_21 : decode cX1_append 21 = .ok (.aload_n 0, 1) := by decide +kernel
theorem dX1_append_22 : decode cX1_append 22 = .ok (.getfield 15, 3) := by decide +kernel
theorem dX1_append_25 : decode cX1_append 25 = .ok (.aload_n 0, 1) := by decide +kernel
theorem dX1_append_26 : decode cX1_append 26 = .ok (.getfield 24, 3) := by decide +kernel
theorem dX1_append_29 : decode cX1_append 29 = .ok (.iload_n 2, 1) := by decide +kernel
theorem dX1_append_30 : decode cX1_append 30 = .ok (.iastore, 1) := by decide +kernel
theorem dX1_append_31 : decode cX1_append 31 = .ok (.aload_n 0, 1) := by decide +kernel
theorem dX1_append_32 : decode cX1_append 32 = .ok (.getfield 18, 3) := by decide +kernel
theorem dX1_append_35 : decode cX1_append 35 = .ok (.aload_n 0, 1) := by decide +kernel
theorem dX1_append_36 : decode cX1_append 36 = .ok (.getfield 24, 3) := by decide +kernel
theorem dX1_append_39 : decode cX1_append 39 = .ok (.iload_n 3, 1) := by decide +kernel
theorem dX1_append_40 : decode cX1_append 40 = .ok (.iastore, 1) := by decide +kernel
theorem dX1_append_41 : decode cX1_append 41 = .ok (.aload_n 0, 1) := by decide +kernel
theorem dX1_append_42 : decode cX1_append 42 = .ok (.getfield 21, 3) := by decide +kernel
theorem dX1_append_45 : decode cX1_append 45 = .ok (.aload_n 0, 1) := by decide +kernel
theorem dX1_append_46 : decode cX1_append 46 = .ok (.getfield 24, 3) := by decide +kernel
theorem dX1_append_49 : decode cX1_append 49 = .ok (.iload 4, 2) := by decide +kernel
theorem dX1_append_51 : decode cX1_append 51 = .ok (.iastore, 1) := by decide +kernel
theorem dX1_append_52 : decode cX1_append 52 = .ok (.aload_n 0, 1) := by decide +kernel
theorem dX1_append_53 : decode cX1_append 53 = .ok (.dup, 1) := by decide +kernel
theorem dX1_append_54 : decode cX1_append 54 = .ok (.getfield 24, 3) := by decide +kernel
theorem dX1_append_57 : decode cX1_append 57 = .ok (.iconst 1, 1) := by decide +kernel
theorem dX1_append_58 : decode cX1_append 58 = .ok (.iadd, 1) := by decide +kernel
theorem dX1_append_59 : decode cX1_append 59 = .ok (.putfield 24, 3) := by decide +kernel
theorem dX1_append_62 : decode cX1_append 62 = .ok (.aload_n 0, 1) := by decide +kernel
theorem dX1_append_63 : decode cX1_append 63 = .ok (.getfield 24, 3) := by decide +kernel
theorem dX1_append_66 : decode cX1_append 66 = .ok (.ireturn, 1) := by decide +kernel
set_option maxRecDepth 20000 in
theorem ggX1_apply_X5_change : GoodIn wsX1_apply wsX5_change := goodIn_r _ [10, 11, 12, 13, 9, 14, 15, 16, 17, 23] (by decide +kernel) (by decide +kernel)
set_option maxRecDepth 20000 in
theorem gX1_apply_X5_change : GoodIn wsX1_apply (wsV RX1 28 RX5 yX5_change wsX5_change) := goodIn_app (goodIn_of _ (by decide +kernel)) ggX1_apply_X5_change
theorem dX1_apply_0 : decode cX1_apply 0 = .ok (.iconst 0, 1) := by decide +kernel
theorem dX1_apply_1 : decode cX1_apply 1 = .ok (.istore 4, 2) := by decide +kernel
theorem dX1_apply_3 : decode cX1_apply 3 = .ok (.iload 4, 2) := by decide +kernel
theorem dX1_apply_5 : decode cX1_apply 5 = .ok (.aload_n 0, 1) := by decide +kernel
theorem dX1_apply_6 : decode cX1_apply 6 = .ok (.getfield 24, 3) := by decide +kernel
theorem dX1_apply_9 : decode cX1_apply 9 = .ok (.if_icmp .ge 50, 3) := by decide +kernel
theorem dX1_apply_12 : decode cX1_apply 12 = .ok (.aload_n 0, 1) := by decide +kernel
theorem dX1_apply_13 : decode cX1_apply 13 = .ok (.getfield 15, 3) := by decide +kernel
theorem dX1_apply_16 : decode cX1_apply 16 = .ok (.iload 4, 2) := by decide +kernel
theorem dX1_apply_18 : decode cX1_apply 18 = .ok (.iaload, 1) := by decide +kernel
theorem dX1_apply_19 : decode cX1_apply 19 = .ok (.iload_n 2, 1) := by decide +kernel
theorem dX1_apply_20 : decode cX1_apply 20 = .ok (.if_icmp .ne 33, 3) := by decide +kernel
theorem dX1_apply_23 : decode cX1_apply 23 = .ok (.aload_n 0, 1) := by decide +kernel
theorem dX1_apply_24 : decode cX1_apply 24 = .ok (.getfield 9, 3) := by decide +kernel
theorem dX1_apply_27 : decode cX1_apply 27 = .ok (.iload 4, 2) := by decide +kernel
theorem dX1_apply_29 : decode cX1_apply 29 = .ok (.iaload, 1) := by decide +kernel
theorem dX1_apply_30 : decode cX1_apply 30 = .ok (.iload_n 1, 1) := by decide +kernel
theorem dX1_apply_31 : decode cX1_apply 31 = .ok (.if_icmp .ne 22, 3) := by decide +kernel
theorem dX1_apply_34 : decode cX1_apply 34 = .ok (.aload_n 3, 1) := by decide +kernel
theorem dX1_apply_35 : decode cX1_apply 35 = .ok (.aload_n 0, 1) := by decide +kernel
theorem dX1_apply_36 : decode cX1_apply 36 = .ok (.getfield 18, 3) := by decide +kernel
theorem dX1_apply_39 : decode cX1_apply 39 = .ok (.iload 4, 2) := by decide +kernel
theorem dX1_apply_41 : decode cX1_apply 41 = .ok (.iaload, 1) := by decide +kernel
theorem dX1_apply_42 : decode cX1_apply 42 = .ok (.aload_n 0, 1) := by decide +kernel
theorem dX1_apply_43 : decode cX1_apply 43 = .ok (.getfield 21, 3) := by decide +kernel
theorem dX1_apply_46 : decode cX1_apply 46 = .ok (.iload 4, 2) := by decide +kernel
theorem dX1_apply_48 : decode cX1_apply 48 = .ok (.iaload, 1) := by decide +kernel
theorem dX1_apply_49 : decode cX1_apply 49 = .ok (.invokevirtual 28, 3) := by decide +kernel
theorem dX1_apply_52 : decode cX1_apply 52 = .ok (.pop, 1) := by decide +kernel
theorem dX1_apply_53 : decode cX1_apply 53 = .ok (.iinc 4 1, 3) := by decide +kernel
theorem dX1_apply_56 : decode cX1_apply 56 = .ok (.goto (-53), 3) := by decide +kernel
theorem dX1_apply_59 : decode cX1_apply 59 = .ok (.return_, 1) := by decide +kernel
theorem dX1_copyFrom_0 : decode cX1_copyFrom 0 = .ok (.aload_n 1, 1) := by decide +kernel
theorem dX1_copyFrom_1 : decode cX1_copyFrom 1 = .ok (.getfield 9, 3) := by decide +kernel
theorem dX1_copyFrom_4 : decode cX1_copyFrom 4 = .ok (.iconst 0, 1) := by decide +kernel
theorem dX1_copyFrom_5 : decode cX1_copyFrom 5 = .ok (.aload_n 0, 1) := by decide +kernel
theorem dX1_copyFrom_6 : decode cX1_copyFrom 6 = .ok (.getfield 9, 3) := by decide +kernel
theorem dX1_copyFrom_9 : decode cX1_copyFrom 9 = .ok (.iconst 0, 1) := by decide +kernel
theorem dX1_copyFrom_10 : decode cX1_copyFrom 10 = .ok (.bipush 16, 2) := by decide +kernel
theorem dX1_copyFrom_12 : decode cX1_copyFrom 12 = .ok (.invokestatic 34, 3) := by decide +kernel
theorem dX1_copyFrom_15 : decode cX1_copyFrom 15 = .ok (.aload_n 1, 1) := by decide +kernel
theorem dX1_copyFrom_16 : decode cX1_copyFrom 16 = .ok (.getfield 15, 3) := by decide +kernel
theorem dX1_copyFrom_19 : decode cX1_copyFrom 19 = .ok (.iconst 0, 1) := by decide +kernel
theorem dX1_copyFrom_20 : decode cX1_copyFrom 20 = .ok (.aload_n 0, 1) := by decide +kernel
theorem dX1_copyFrom_21 : decode cX1_copyFrom 21 = .ok (.getfield 15, 3) := by decide +kernel
theorem dX1_copyFrom_24 : decode cX1_copyFrom 24 = .ok (.iconst 0, 1) := by decide +kernel
theorem dX1_copyFrom_25 : decode cX1_copyFrom 25 = .ok (.bipush 16, 2) := by decide +kernel
theorem dX1_copyFrom_27 : decode cX1_copyFrom 27 = .ok (.invokestatic 34, 3) := by decide +kernel
theorem dX1_copyFrom_30 : decode cX1_copyFrom 30 = .ok (.aload_n 1, 1) := by decide +kernel
theorem dX1_copyFrom_31 : decode cX1_copyFrom 31 = .ok (.getfield 18, 3) := by decide +kernel
theorem dX1_copyFrom_34 : decode cX1_copyFrom 34 = .ok (.iconst 0, 1) := by decide +kernel
theorem dX1_copyFrom_35 : decode cX1_copyFrom 35 = .ok (.aload_n 0, 1) := by decide +kernel
theorem dX1_copyFrom_36 : decode cX1_copyFrom 36 = .ok (.getfield 18, 3) := by decide +kernel
theorem dX1_copyFrom_39 : decode cX1_copyFrom 39 = .ok (.iconst 0, 1) := by decide +kernel
theorem dX1_copyFrom_40 : decode cX1_copyFrom 40 = .ok (.bipush 16, 2) := by decide +kernel
theorem dX1_copyFrom_42 : decode cX1_copyFrom 42 = .ok (.invokestatic 34, 3) := by decide +kernel
theorem dX1_copyFrom_45 : decode cX1_copyFrom 45 = .ok (.aload_n 1, 1) := by decide +kernel
theorem dX1_copyFrom_46 : decode cX1_copyFrom 46 = .ok (.getfield 21, 3) := by decide +kernel
theorem dX1_copyFrom_49 : decode cX1_copyFrom 49 = .ok (.iconst 0, 1) := by decide +kernel
theorem dX1_copyFrom_50 : decode cX1_copyFrom 50 = .ok (.aload_n 0, 1) := by decide +kernel
theorem dX1_copyFrom_51 : decode cX1_copyFrom 51 = .ok (.getfield 21, 3) := by decide +kernel
theorem dX1_copyFrom_54 : decode cX1_copyFrom 54 = .ok (.iconst 0, 1) := by decide +kernel
theorem dX1_copyFrom_55 : decode cX1_copyFrom 55 = .ok (.bipush 16, 2) := by decide +kernel
theorem dX1_copyFrom_57 : decode cX1_copyFrom 57 = .ok (.invokestatic 34, 3) := by decide +kernel
theorem dX1_copyFrom_60 : decode cX1_copyFrom 60 = .ok (.aload_n 0, 1) := by decide +kernel
theorem dX1_copyFrom_61 : decode cX1_copyFrom 61 = .ok (.aload_n 1, 1) := by decide +kernel
theorem dX1_copyFrom_62 : decode cX1_copyFrom 62 = .ok (.getfield 24, 3) := by decide +kernel
theorem dX1_copyFrom_65 : decode cX1_copyFrom 65 = .ok (.putfield 24, 3) := by decide +kernel
theorem dX1_copyFrom_68 : decode cX1_copyFrom 68 = .ok (.return_, 1) := by decide +kernel
theorem dX2_init_0 : decode cX2_init 0 = .ok (.aload_n 0, 1) := by decide +kernel
theorem dX2_init_1 : decode cX2_init 1 = .ok (.invokespecial 3, 3) := by decide +kernel
theorem dX2_init_4 : decode cX2_init 4 = .ok (.aload_n 0, 1) := by decide +kernel
theorem dX2_init_5 : decode cX2_init 5 = .ok (.bipush 8, 2) := by decide +kernel
theorem dX2_init_7 : decode cX2_init 7 = .ok (.newarray .int, 2) := by decide +kernel
theorem dX2_init_9 : decode cX2_init 9 = .ok (.putfield 9, 3) := by decide +kernel
theorem dX2_init_12 : decode cX2_init 12 = .ok (.aload_n 0, 1) := by decide +kernel
theorem dX2_init_13 : decode cX2_init 13 = .ok (.iconst 2, 1) := by decide +kernel
theorem dX2_init_14 : decode cX2_init 14 = .ok (.putfield 15, 3) := by decide +kernel
theorem dX2_init_17 : decode cX2_init 17 = .ok (.return_, 1) := by decide +kernel
theorem dX2_startLine_0 : decode cX2_startLine 0 = .ok (.aload_n 0, 1) := by decide +kernel
theorem dX2_startLine_1 : decode cX2_startLine 1 = .ok (.iconst 0, 1) := by decide +kernel
theorem dX2_startLine_2 : decode cX2_startLine 2 = .ok (.putfield 19, 3) := by decide +kernel
theorem dX2_startLine_5 : decode cX2_startLine 5 = .ok (.aload_n 0, 1) := by decide +kernel
theorem dX2_startLine_6 : decode cX2_startLine 6 = .ok (.iconst 0, 1) := by decide +kernel
theorem dX2_startLine_7 : decode cX2_startLine 7 = .ok (.putfield 22, 3) := by decide +kernel
theorem dX2_startLine_10 : decode cX2_startLine 10 = .ok (.aload_n 0, 1) := by decide +kernel
theorem dX2_startLine_11 : decode cX2_startLine 11 = .ok (.iload_n 1, 1) := by decide +kernel
theorem dX2_startLine_12 : decode cX2_startLine 12 = .ok (.putfield 25, 3) := by decide +kernel
theorem dX2_startLine_15 : decode cX2_startLine 15 = .ok (.aload_n 0, 1) := by decide +kernel
theorem dX2_startLine_16 : decode cX2_startLine 16 = .ok (.iconst 0, 1) := by decide +kernel
theorem dX2_startLine_17 : decode cX2_startLine 17 = .ok (.putfield 28, 3) := by decide +kernel
theorem dX2_startLine_20 : decode cX2_startLine 20 = .ok (.aload_n 0, 1) := by decide +kernel
theorem dX2_startLine_21 : decode cX2_startLine 21 = .ok (.iload_n 2, 1) := by decide +kernel
theorem dX2_startLine_22 : decode cX2_startLine 22 = .ok (.putfield 31, 3) := by decide +kernel
theorem dX2_startLine_25 : decode cX2_startLine 25 = .ok (.return_, 1) := by decide +kernel
theorem dX2_wantsByte_0 : decode cX2_wantsByte 0 = .ok (.aload_n 0, 1) := by decide +kernel
theorem dX2_wantsByte_1 : decode cX2_wantsByte 1 = .ok (.getfield 19, 3) := by decide +kernel
theorem dX2_wantsByte_4 : decode cX2_wantsByte 4 = .ok (.aload_n 0, 1) := by decide +kernel
theorem dX2_wantsByte_5 : decode cX2_wantsByte 5 = .ok (.getfield 15, 3) := by decide +kernel
theorem dX2_wantsByte_8 : decode cX2_wantsByte 8 = .ok (.if_icmp .ge 18, 3) := by decide +kernel
theorem dX2_wantsByte_11 : decode cX2_wantsByte 11 = .ok (.aload_n 0, 1) := by decide +kernel
theorem dX2_wantsByte_12 : decode cX2_wantsByte 12 = .ok (.getfield 28, 3) := by decide +kernel
theorem dX2_wantsByte_15 : decode cX2_wantsByte 15 = .ok (.aload_n 0, 1) := by decide +kernel
theorem dX2_wantsByte_16 : decode cX2_wantsByte 16 = .ok (.getfield 31, 3) := by decide +kernel
theorem dX2_wantsByte_19 : decode cX2_wantsByte 19 = .ok (.if_icmp .ge 7, 3) := by decide +kernel
theorem dX2_wantsByte_22 : decode cX2_wantsByte 22 = .ok (.iconst 1, 1) := by decide +kernel
theorem dX2_wantsByte_23 : decode cX2_wantsByte 23 = .ok (.goto 4, 3) := by decide +kernel
theorem dX2_wantsByte_26 : decode cX2_wantsByte 26 = .ok (.iconst 0, 1) := by decide +kernel
theorem dX2_wantsByte_27 : decode cX2_wantsByte 27 = .ok (.ireturn, 1) := by decide +kernel
theorem dX2_append_0 : decode cX2_append 0 = .ok (.aload_n 0, 1) := by decide +kernel
theorem dX2_append_1 : decode cX2_append 1 = .ok (.getfield 9, 3) := by decide +kernel
theorem dX2_append_4 : decode cX2_append 4 = .ok (.aload_n 0, 1) := by decide +kernel
theorem dX2_append_5 : decode cX2_append 5 = .ok (.getfield 34, 3) := by decide +kernel
theorem dX2_append_8 : decode cX2_append 8 = .ok (.aload_n 0, 1) := by decide +kernel
theorem dX2_append_9 : decode cX2_append 9 = .ok (.getfield 19, 3) := by decide +kernel
theorem dX2_append_12 : decode cX2_append 12 = .ok (.iadd, 1) := by decide +kernel
theorem dX2_append_13 : decode cX2_append 13 = .ok (.bipush 8, 2) := by decide +kernel
theorem dX2_append_15 : decode cX2_append 15 = .ok (.irem, 1) := by decide +kernel
theorem dX2_append_16 : decode cX2_append 16 = .ok (.iload_n 1, 1) := by decide +kernel
theorem dX2_append_17 : decode cX2_append 17 = .ok (.iastore, 1) := by decide +kernel
theorem dX2_append_18 : decode cX2_append 18 = .ok (.aload_n 0, 1) := by decide +kernel
theorem dX2_append_19 : decode cX2_append 19 = .ok (.dup, 1) := by decide +kernel
theorem dX2_append_20 : decode cX2_append 20 = .ok (.getfield 19, 3) := by decide +kernel
theorem dX2_append_23 : decode cX2_append 23 = .ok (.iconst 1, 1) := by decide +kernel
theorem dX2_append_24 : decode cX2_append 24 = .ok (.iadd, 1) := by decide +kernel
theorem dX2_append_25 : decode cX2_append 25 = .ok (.putfield 19, 3) := by decide +kernel
theorem dX2_append_28 : decode cX2_append 28 = .ok (.aload_n 0, 1) := by decide +kernel
theorem dX2_append_29 : decode cX2_append 29 = .ok (.dup, 1) := by decide +kernel
theorem dX2_append_30 : decode cX2_append 30 = .ok (.getfield 28, 3) := by decide +kernel
theorem dX2_append_33 : decode cX2_append 33 = .ok (.iconst 1, 1) := by decide +kernel
theorem dX2_append_34 : decode cX2_append 34 = .ok (.iadd, 1) := by decide +kernel
theorem dX2_append_35 : decode cX2_append 35 = .ok (.putfield 28, 3) := by decide +kernel
theorem dX2_append_38 : decode cX2_append 38 = .ok (.aload_n 0, 1) := by decide +kernel
theorem dX2_append_39 : decode cX2_append 39 = .ok (.dup, 1) := by decide +kernel
theorem dX2_append_40 : decode cX2_append 40 = .ok (.getfield 37, 3) := by decide +kernel
theorem dX2_append_43 : decode cX2_append 43 = .ok (.iconst 1, 1) := by decide +kernel
theorem dX2_append_44 : decode cX2_append 44 = .ok (.iadd, 1) := by decide +kernel
theorem dX2_append_45 : decode cX2_append 45 = .ok (.putfield 37, 3) := by decide +kernel
theorem dX2_append_48 : decode cX2_append 48 = .ok (.return_, 1) := by decide +kernel
theorem dX2_takeBit_0 : decode cX2_takeBit 0 = .ok (.aload_n 0, 1) := by decide +kernel
theorem dX2_takeBit_1 : decode cX2_takeBit 1 = .ok (.getfield 22, 3) := by decide +kernel
theorem dX2_takeBit_4 : decode cX2_takeBit 4 = .ok (.ifCond .ne 64, 3) := by decide +kernel
theorem dX2_takeBit_7 : decode cX2_takeBit 7 = .ok (.aload_n 0, 1) := by decide +kernel
theorem dX2_takeBit_8 : decode cX2_takeBit 8 = .ok (.getfield 19, 3) := by decide +kernel
theorem dX2_takeBit_11 : decode cX2_takeBit 11 = .ok (.ifCond .ne 15, 3) := by decide +kernel
theorem dX2_takeBit_14 : decode cX2_takeBit 14 = .ok (.aload_n 0, 1) := by decide +kernel
theorem dX2_takeBit_15 : decode cX2_takeBit 15 = .ok (.dup, 1) := by decide +kernel
theorem dX2_takeBit_16 : decode cX2_takeBit 16 = .ok (.getfield 40, 3) := by decide +kernel
theorem dX2_takeBit_19 : decode cX2_takeBit 19 = .ok (.iconst 1, 1) := by decide +kernel
theorem dX2_takeBit_20 : decode cX2_takeBit 20 = .ok (.iadd, 1) := by decide +kernel
theorem dX2_takeBit_21 : decode cX2_takeBit 21 = .ok (.putfield 40, 3) := by decide +kernel
theorem dX2_takeBit_24 : decode cX2_takeBit 24 = .ok (.iconst (-1), 1) := by decide +kernel
theorem dX2_takeBit_25 : decode cX2_takeBit 25 = .ok (.ireturn, 1) := by decide +kernel
theorem dX2_takeBit_26 : decode cX2_takeBit 26 = .ok (.aload_n 0, 1) := by decide +kernel
theorem dX2_takeBit_27 : decode cX2_takeBit 27 = .ok (.aload_n 0, 1) := by decide +kernel
theorem dX2_takeBit_28 : decode cX2_takeBit 28 = .ok (.getfield 9, 3) := by decide +kernel
theorem dX2_takeBit_31 : decode cX2_takeBit 31 = .ok (.aload_n 0, 1) := by decide +kernel
theorem dX2_takeBit_32 : decode cX2_takeBit 32 = .ok (.getfield 34, 3) := by decide +kernel
theorem dX2_takeBit_35 : decode cX2_takeBit 35 = .ok (.iaload, 1) := by decide +kernel
theorem dX2_takeBit_36 : decode cX2_takeBit 36 = .ok (.putfield 43, 3) := by decide +kernel
theorem dX2_takeBit_39 : decode cX2_takeBit 39 = .ok (.aload_n 0, 1) := by decide +kernel
theorem dX2_takeBit_40 : decode cX2_takeBit 40 = .ok (.bipush 8, 2) := by decide +kernel
theorem dX2_takeBit_42 : decode cX2_takeBit 42 = .ok (.putfield 22, 3) := by decide +kernel
theorem dX2_takeBit_45 : decode cX2_takeBit 45 = .ok (.aload_n 0, 1) := by decide +kernel
theorem dX2_takeBit_46 : decode cX2_takeBit 46 = .ok (.aload_n 0, 1) := by decide +kernel
theorem dX2_takeBit_47 : decode cX2_takeBit 47 = .ok (.getfield 34, 3) := by decide +kernel
theorem dX2_takeBit_50 : decode cX2_takeBit 50 = .ok (.iconst 1, 1) := by decide +kernel
theorem dX2_takeBit_51 : decode cX2_takeBit 51 = .ok (.iadd, 1) := by decide +kernel
theorem dX2_takeBit_52 : decode cX2_takeBit 52 = .ok (.bipush 8, 2) := by decide +kernel
theorem dX2_takeBit_54 : decode cX2_takeBit 54 = .ok (.irem, 1) := by decide +kernel
theorem dX2_takeBit_55 : decode cX2_takeBit 55 = .ok (.putfield 34, 3) := by decide +kernel
theorem dX2_takeBit_58 : decode cX2_takeBit 58 = .ok (.aload_n 0, 1) := by decide +kernel
theorem dX2_takeBit_59 : decode cX2_takeBit 59 = .ok (.dup, 1) := by decide +kernel
theorem dX2_takeBit_60 : decode cX2_takeBit 60 = .ok (.getfield 19, 3) := by decide +kernel
theorem dX2_takeBit_63 : decode cX2_takeBit 63 = .ok (.iconst 1, 1) := by decide +kernel
theorem dX2_takeBit_64 : decode cX2_takeBit 64 = .ok (.isub, 1) := by decide +kernel
theorem dX2_takeBit_65 : decode cX2_takeBit 65 = .ok (.putfield 19, 3) := by decide +kernel
theorem dX2_takeBit_68 : decode cX2_takeBit 68 = .ok (.aload_n 0, 1) := by decide +kernel
theorem dX2_takeBit_69 : decode cX2_takeBit 69 = .ok (.dup, 1) := by decide +kernel
theorem dX2_takeBit_70 : decode cX2_takeBit 70 = .ok (.getfield 22, 3) := by decide +kernel
theorem dX2_takeBit_73 : decode cX2_takeBit 73 = .ok (.iconst 1, 1) := by decide +kernel
theorem dX2_takeBit_74 : decode cX2_takeBit 74 = .ok (.isub, 1) := by decide +kernel
theorem dX2_takeBit_75 : decode cX2_takeBit 75 = .ok (.putfield 22, 3) := by decide +kernel
theorem dX2_takeBit_78 : decode cX2_takeBit 78 = .ok (.aload_n 0, 1) := by decide +kernel
theorem dX2_takeBit_79 : decode cX2_takeBit 79 = .ok (.getfield 43, 3) := by decide +kernel
theorem dX2_takeBit_82 : decode cX2_takeBit 82 = .ok (.aload_n 0, 1) := by decide +kernel
theorem dX2_takeBit_83 : decode cX2_takeBit 83 = .ok (.getfield 22, 3) := by decide +kernel
theorem dX2_takeBit_86 : decode cX2_takeBit 86 = .ok (.ishr, 1) := by decide +kernel
theorem dX2_takeBit_87 : decode cX2_takeBit 87 = .ok (.iconst 1, 1) := by decide +kernel
theorem dX2_takeBit_88 : decode cX2_takeBit 88 = .ok (.iand, 1) := by decide +kernel
theorem dX2_takeBit_89 : decode cX2_takeBit 89 = .ok (.ireturn, 1) := by decide +kernel
theorem dX2_copyFrom_0 : decode cX2_copyFrom 0 = .ok (.aload_n 1, 1) := by decide +kernel
theorem dX2_copyFrom_1 : decode cX2_copyFrom 1 = .ok (.getfield 9, 3) := by decide +kernel
theorem dX2_copyFrom_4 : decode cX2_copyFrom 4 = .ok (.iconst 0, 1) := by decide +kernel
theorem dX2_copyFrom_5 : decode cX2_copyFrom 5 = .ok (.aload_n 0, 1) := by decide +kernel
theorem dX2_copyFrom_6 : decode cX2_copyFrom 6 = .ok (.getfield 9, 3) := by decide +kernel
theorem dX2_copyFrom_9 : decode cX2_copyFrom 9 = .ok (.iconst 0, 1) := by decide +kernel
theorem dX2_copyFrom_10 : decode cX2_copyFrom 10 = .ok (.bipush 8, 2) := by decide +kernel
theorem dX2_copyFrom_12 : decode cX2_copyFrom 12 = .ok (.invokestatic 46, 3) := by decide +kernel
theorem dX2_copyFrom_15 : decode cX2_copyFrom 15 = .ok (.aload_n 0, 1) := by decide +kernel
theorem dX2_copyFrom_16 : decode cX2_copyFrom 16 = .ok (.aload_n 1, 1) := by decide +kernel
theorem dX2_copyFrom_17 : decode cX2_copyFrom 17 = .ok (.getfield 34, 3) := by decide +kernel
theorem dX2_copyFrom_20 : decode cX2_copyFrom 20 = .ok (.putfield 34, 3) := by decide +kernel
theorem dX2_copyFrom_23 : decode cX2_copyFrom 23 = .ok (.aload_n 0, 1) := by decide +kernel
theorem dX2_copyFrom_24 : decode cX2_copyFrom 24 = .ok (.aload_n 1, 1) := by decide +kernel
theorem dX2_copyFrom_25 : decode cX2_copyFrom 25 = .ok (.getfield 19, 3) := by decide +kernel
theorem dX2_copyFrom_28 : decode cX2_copyFrom 28 = .ok (.putfield 19, 3) := by decide +kernel
theorem dX2_copyFrom_31 : decode cX2_copyFrom 31 = .ok (.aload_n 0, 1) := by decide +kernel
theorem dX2_copyFrom_32 : decode cX2_copyFrom 32 = .ok (.aload_n 1, 1) := by decide +kernel
theorem dX2_copyFrom_33 : decode cX2_copyFrom 33 = .ok (.getfield 15, 3) := by decide +kernel
theorem dX2_copyFrom_36 : decode cX2_copyFrom 36 = .ok (.putfield 15, 3) := by decide +kernel
theorem dX2_copyFrom_39 : decode cX2_copyFrom 39 = .ok (.aload_n 0, 1) := by decide +kernel
theorem dX2_copyFrom_40 : decode cX2_copyFrom 40 = .ok (.aload_n 1, 1) := by decide +kernel
theorem dX2_copyFrom_41 : decode cX2_copyFrom 41 = .ok (.getfield 43, 3) := by decide +kernel
theorem dX2_copyFrom_44 : decode cX2_copyFrom 44 = .ok (.putfield 43, 3) := by decide +kernel
theorem dX2_copyFrom_47 : decode cX2_copyFrom 47 = .ok (.aload_n 0, 1) := by decide +kernel
theorem dX2_copyFrom_48 : decode cX2_copyFrom 48 = .ok (.aload_n 1, 1) := by decide +kernel
theorem dX2_copyFrom_49 : decode cX2_copyFrom 49 = .ok (.getfield 22, 3) := by decide +kernel
theorem dX2_copyFrom_52 : decode cX2_copyFrom 52 = .ok (.putfield 22, 3) := by decide +kernel
theorem dX2_copyFrom_55 : decode cX2_copyFrom 55 = .ok (.aload_n 0, 1) := by decide +kernel
theorem dX2_copyFrom_56 : decode cX2_copyFrom 56 = .ok (.aload_n 1, 1) := by decide +kernel
theorem dX2_copyFrom_57 : decode cX2_copyFrom 57 = .ok (.getfield 25, 3) := by decide +kernel
theorem dX2_copyFrom_60 : decode cX2_copyFrom 60 = .ok (.putfield 25, 3) := by decide +kernel
theorem dX2_copyFrom_63 : decode cX2_copyFrom 63 = .ok (.aload_n 0, 1) := by decide +kernel
theorem dX2_copyFrom_64 : decode cX2_copyFrom 64 = .ok (.aload_n 1, 1) := by decide +kernel
theorem dX2_copyFrom_65 : decode cX2_copyFrom 65 = .ok (.getfield 28, 3) := by decide +kernel
theorem dX2_copyFrom_68 : decode cX2_copyFrom 68 = .ok (.putfield 28, 3) := by decide +kernel
theorem dX2_copyFrom_71 : decode cX2_copyFrom 71 = .ok (.aload_n 0, 1) := by decide +kernel
theorem dX2_copyFrom_72 : decode cX2_copyFrom 72 = .ok (.aload_n 1, 1) := by decide +kernel
theorem dX2_copyFrom_73 : decode cX2_copyFrom 73 = .ok (.getfield 31, 3) := by decide +kernel
theorem dX2_copyFrom_76 : decode cX2_copyFrom 76 = .ok (.putfield 31, 3) := by decide +kernel
theorem dX2_copyFrom_79 : decode cX2_copyFrom 79 = .ok (.aload_n 0, 1) := by decide +kernel
theorem dX2_copyFrom_80 : decode cX2_copyFrom 80 = .ok (.aload_n 1, 1) := by decide +kernel
theorem dX2_copyFrom_81 : decode cX2_copyFrom 81 = .ok (.getfield 40, 3) := by decide +kernel
theorem dX2_copyFrom_84 : decode cX2_copyFrom 84 = .ok (.putfield 40, 3) := by decide +kernel
theorem dX2_copyFrom_87 : decode cX2_copyFrom 87 = .ok (.aload_n 0, 1) := by decide +kernel
theorem dX2_copyFrom_88 : decode cX2_copyFrom 88 = .ok (.aload_n 1, 1) := by decide +kernel
theorem dX2_copyFrom_89 : decode cX2_copyFrom 89 = .ok (.getfield 37, 3) := by decide +kernel
theorem dX2_copyFrom_92 : decode cX2_copyFrom 92 = .ok (.putfield 37, 3) := by decide +kernel
theorem dX2_copyFrom_95 : decode cX2_copyFrom 95 = .ok (.return_, 1) := by decide +kernel
set_option maxRecDepth 20000 in
theorem ggX3_init_X0_init : GoodIn wsX3_init wsX0_init := goodIn_r _ [30, 31, 2, 3, 32, 33, 34, 35, 36, 37, 38, 39, 40, 41, 42, 43, 44, 45, 46, 47, 48, 49, 50, 51, 52, 53, 54, 55, 56, 57, 58, 59, 60, 61, 62, 132, 133, 134, 91, 92, 93, 94, 95, 96, 97, 135, 136, 137, 138] (by decide +kernel) (by decide +kernel)
set_option maxRecDepth 20000 in
theorem gX3_init_X0_init_n11 : GoodIn wsX3_init (wsX0_init) := ggX3_init_X0_init
set_option maxRecDepth 20000 in
theorem ggX3_init_X2_init : GoodIn wsX3_init wsX2_init := goodIn_r _ [64, 65, 2, 3, 24, 66, 67, 110, 111, 112, 113, 114, 115, 116, 117, 118, 119, 120] (by decide +kernel) (by decide +kernel)
set_option maxRecDepth 20000 in
theorem gX3_init_X2_init_n20 : GoodIn wsX3_init (wsX2_init) := ggX3_init_X2_init
set_option maxRecDepth 20000 in
theorem ggX3_init_X5_init : GoodIn wsX3_init wsX5_init := goodIn_r _ [69, 70, 2, 3, 24, 71, 121] (by decide +kernel) (by decide +kernel)
set_option maxRecDepth 20000 in
theorem gX3_init_X5_init_n27 : GoodIn wsX3_init (wsX5_init) := ggX3_init_X5_init
set_option maxRecDepth 20000 in
theorem ggX3_init_X1_init : GoodIn wsX3_init wsX1_init := goodIn_r _ [73, 74, 2, 3, 24, 75, 76, 77, 78, 122, 123, 124, 125, 126] (by decide +kernel) (by decide +kernel)
set_option maxRecDepth 20000 in
theorem gX3_init_X1_init_n34 : GoodIn wsX3_init (wsX1_init) := ggX3_init_X1_init
set_option maxRecDepth 20000 in
theorem ggX3_init_X7_init : GoodIn wsX3_init wsX7_init := goodIn_r _ [80, 81, 2, 3, 24, 82, 83, 84, 85, 86, 127, 128, 129, 130, 131] (by decide +kernel) (by decide +kernel)
set_option maxRecDepth 20000 in
theorem gX3_init_X7_init_n41 : GoodIn wsX3_init (wsX7_init) := ggX3_init_X7_init
set_option maxRecDepth 20000 in
theorem ggX3_init_J7_fill_53178 : GoodIn wsX3_init wsJ7_fill_53178 := goodIn_r _ [90] (by decide +kernel) (by decide +kernel)
set_option maxRecDepth 20000 in
theorem gX3_init_J7_fill_53178 : GoodIn wsX3_init (va_wsS RX3 60 yJ7_fill_53178 wsJ7_fill_53178) := goodIn_app (goodIn_of _ (by decide +kernel)) ggX3_init_J7_fill_53178
theorem dX3_init_0 : decode cX3_init 0 = .ok (.aload_n 0, 1) := by decide +kernel
theorem dX3_init_1 : decode cX3_init 1 = .ok (.invokespecial 3, 3) := by decide +kernel
theorem dX3_init_4 : decode cX3_init 4 = .ok (.aload_n 0, 1) := by decide +kernel
theorem dX3_init_5 : decode cX3_init 5 = .ok (.new 9, 3) := by decide +kernel
theorem dX3_init_8 : decode cX3_init 8 = .ok (.dup, 1) := by decide +kernel
theorem dX3_init_9 : decode cX3_init 9 = .ok (.invokespecial 11, 3) := by decide +kernel
theorem dX3_init_12 : decode cX3_init 12 = .ok (.putfield 12, 3) := by decide +kernel
theorem dX3_init_15 : decode cX3_init 15 = .ok (.aload_n 0, 1) := by decide +kernel
theorem dX3_init_16 : decode cX3_init 16 = .ok (.new 18, 3) := by decide +kernel
theorem dX3_init_19 : decode cX3_init 19 = .ok (.dup, 1) := by decide +kernel
theorem dX3_init_20 : decode cX3_init 20 = .ok (.invokespecial 20, 3) := by decide +kernel
theorem dX3_init_23 : decode cX3_init 23 = .ok (.putfield 21, 3) := by decide +kernel
theorem dX3_init_26 : decode cX3_init 26 = .ok (.aload_n 0, 1) := by decide +kernel
theorem dX3_init_27 : decode cX3_init 27 = .ok (.new 25, 3) := by decide +kernel
theorem dX3_init_30 : decode cX3_init 30 = .ok (.dup, 1) := by decide +kernel
theorem dX3_init_31 : decode cX3_init 31 = .ok (.invokespecial 27, 3) := by decide +kernel
theorem dX3_init_34 : decode cX3_init 34 = .ok (.putfield 28, 3) := by decide +kernel
theorem dX3_init_37 : decode cX3_init 37 = .ok (.aload_n 0, 1) := by decide +kernel
theorem dX3_init_38 : decode cX3_init 38 = .ok (.new 32, 3) := by decide +kernel
theorem dX3_init_41 : decode cX3_init 41 = .ok (.dup, 1) := by decide +kernel
theorem dX3_init_42 : decode cX3_init 42 = .ok (.invokespecial 34, 3) := by decide +kernel
theorem dX3_init_45 : decode cX3_init 45 = .ok (.putfield 35, 3) := by decide +kernel
theorem dX3_init_48 : decode cX3_init 48 = .ok (.aload_n 0, 1) := by decide +kernel
theorem dX3_init_49 : decode cX3_init 49 = .ok (.new 39, 3) := by decide +kernel
theorem dX3_init_52 : decode cX3_init 52 = .ok (.dup, 1) := by decide +kernel
theorem dX3_init_53 : decode cX3_init 53 = .ok (.invokespecial 41, 3) := by decide +kernel
theorem dX3_init_56 : decode cX3_init 56 = .ok (.putfield 42, 3) := by decide +kernel
theorem dX3_init_59 : decode cX3_init 59 = .ok (.aload_n 0, 1) := by decide +kernel
theorem dX3_init_60 : decode cX3_init 60 = .ok (.sipush 1024, 3) := by decide +kernel
theorem dX3_init_63 : decode cX3_init 63 = .ok (.newarray .int, 2) := by decide +kernel
theorem dX3_init_65 : decode cX3_init 65 = .ok (.putfield 46, 3) := by decide +kernel
theorem dX3_init_68 : decode cX3_init 68 = .ok (.aload_n 0, 1) := by decide +kernel
theorem dX3_init_69 : decode cX3_init 69 = .ok (.sipush 4096, 3) := by decide +kernel
theorem dX3_init_72 : decode cX3_init 72 = .ok (.newarray .int, 2) := by decide +kernel
theorem dX3_init_74 : decode cX3_init 74 = .ok (.putfield 50, 3) := by decide +kernel
theorem dX3_init_77 : decode cX3_init 77 = .ok (.aload_n 0, 1) := by decide +kernel
theorem dX3_init_78 : decode cX3_init 78 = .ok (.sipush 512, 3) := by decide +kernel
theorem dX3_init_81 : decode cX3_init 81 = .ok (.newarray .int, 2) := by decide +kernel
theorem dX3_init_83 : decode cX3_init 83 = .ok (.putfield 53, 3) := by decide +kernel
theorem dX3_init_86 : decode cX3_init 86 = .ok (.aload_n 0, 1) := by decide +kernel
theorem dX3_init_87 : decode cX3_init 87 = .ok (.iconst 1, 1) := by decide +kernel
theorem dX3_init_88 : decode cX3_init 88 = .ok (.putfield 56, 3) := by decide +kernel
theorem dX3_init_91 : decode cX3_init 91 = .ok (.aload_n 0, 1) := by decide +kernel
theorem dX3_init_92 : decode cX3_init 92 = .ok (.getfield 50, 3) := by decide +kernel
theorem dX3_init_95 : decode cX3_init 95 = .ok (.iconst (-1), 1) := by decide +kernel
theorem dX3_init_96 : decode cX3_init 96 = .ok (.invokestatic 60, 3) := by decide +kernel
theorem dX3_init_99 : decode cX3_init 99 = .ok (.return_, 1) := by decide +kernel
theorem dX3_storeByte_0 : decode cX3_storeByte 0 = .ok (.aload_n 0, 1) := by decide +kernel
theorem dX3_storeByte_1 : decode cX3_storeByte 1 = .ok (.getfield 46, 3) := by decide +kernel
theorem dX3_storeByte_4 : decode cX3_storeByte 4 = .ok (.iload_n 1, 1) := by decide +kernel
theorem dX3_storeByte_5 : decode cX3_storeByte 5 = .ok (.sipush 1023, 3) := by decide +kernel
theorem dX3_storeByte_8 : decode cX3_storeByte 8 = .ok (.iand, 1) := by decide +kernel
theorem dX3_storeByte_9 : decode cX3_storeByte 9 = .ok (.iload_n 2, 1) := by decide +kernel
theorem dX3_storeByte_10 : decode cX3_storeByte 10 = .ok (.sipush 255, 3) := by decide +kernel
theorem dX3_storeByte_13 : decode cX3_storeByte 13 = .ok (.iand, 1) := by decide +kernel
theorem dX3_storeByte_14 : decode cX3_storeByte 14 = .ok (.iastore, 1) := by decide +kernel
theorem dX3_storeByte_15 : decode cX3_storeByte 15 = .ok (.return_, 1) := by decide +kernel
theorem dX3_isTaken_0 : decode cX3_isTaken 0 = .ok (.aload_n 0, 1) := by decide +kernel
theorem dX3_isTaken_1 : decode cX3_isTaken 1 = .ok (.getfield 56, 3) := by decide +kernel
theorem dX3_isTaken_4 : decode cX3_isTaken 4 = .ok (.ifCond .le 27, 3) := by decide +kernel
theorem dX3_isTaken_7 : decode cX3_isTaken 7 = .ok (.aload_n 0, 1) := by decide +kernel
theorem dX3_isTaken_8 : decode cX3_isTaken 8 = .ok (.getfield 66, 3) := by decide +kernel
theorem dX3_isTaken_11 : decode cX3_isTaken 11 = .ok (.aload_n 0, 1) := by decide +kernel
theorem dX3_isTaken_12 : decode cX3_isTaken 12 = .ok (.getfield 69, 3) := by decide +kernel
theorem dX3_isTaken_15 : decode cX3_isTaken 15 = .ok (.aload_n 0, 1) := by decide +kernel
theorem dX3_isTaken_16 : decode cX3_isTaken 16 = .ok (.getfield 56, 3) := by decide +kernel
theorem dX3_isTaken_19 : decode cX3_isTaken 19 = .ok (.irem, 1) := by decide +kernel
theorem dX3_isTaken_20 : decode cX3_isTaken 20 = .ok (.ishr, 1) := by decide +kernel
theorem dX3_isTaken_21 : decode cX3_isTaken 21 = .ok (.iconst 1, 1) := by decide +kernel
theorem dX3_isTaken_22 : decode cX3_isTaken 22 = .ok (.iand, 1) := by decide +kernel
theorem dX3_isTaken_23 : decode cX3_isTaken 23 = .ok (.iconst 1, 1) := by decide +kernel
theorem dX3_isTaken_24 : decode cX3_isTaken 24 = .ok (.if_icmp .ne 7, 3) := by decide +kernel
theorem dX3_isTaken_27 : decode cX3_isTaken 27 = .ok (.iconst 1, 1) := by decide +kernel
theorem dX3_isTaken_28 : decode cX3_isTaken 28 = .ok (.goto 4, 3) := by decide +kernel
theorem dX3_isTaken_31 : decode cX3_isTaken 31 = .ok (.iconst 0, 1) := by decide +kernel
theorem dX3_isTaken_32 : decode cX3_isTaken 32 = .ok (.ireturn, 1) := by decide +kernel
set_option maxRecDepth 20000 in
theorem ggX3_tick_X1_apply : GoodIn wsX3_tick wsX1_apply := goodIn_r _ [13, 14, 15, 16, 17, 18, 19, 20, 21, 22, 23, 24, 25, 26, 27, 28, 29, 30, 228, 229, 230, 231, 232, 233] (by decide +kernel) (by decide +kernel)
set_option maxRecDepth 20000 in
theorem gX3_tick_X1_apply : GoodIn wsX3_tick (wsV RX3 78 RX1 yX1_apply wsX1_apply) := goodIn_app (goodIn_of _ (by decide +kernel)) ggX3_tick_X1_apply
set_option maxRecDepth 20000 in
theorem ggX3_tick_X0_isBehindSeen : GoodIn wsX3_tick wsX0_isBehindSeen := goodIn_r _ [35, 36, 37, 38, 39, 221, 222, 223, 224, 225, 226, 227, 234, 235, 236, 237, 238, 239, 240] (by decide +kernel) (by decide +kernel)
set_option maxRecDepth 20000 in
theorem gX3_tick_X0_isBehindSeen : GoodIn wsX3_tick (wsV RX3 82 RX0 yX0_isBehindSeen wsX0_isBehindSeen) := goodIn_app (goodIn_of _ (by decide +kernel)) ggX3_tick_X0_isBehindSeen
set_option maxRecDepth 20000 in
theorem ggX3_tick_X3_turnToNextLine : GoodIn wsX3_tick wsX3_turnToNextLine := goodIn_r _ [44, 2, 45, 46, 47, 3, 48, 49, 50, 51, 34, 52, 53, 37, 54, 55, 56, 57, 58, 59, 60, 61, 62, 63, 64, 65, 66, 67, 68, 69, 70, 71, 72, 73, 74, 75, 76, 77, 78, 79, 80, 81, 82, 83, 84, 85, 86, 87, 88, 89, 90, 91, 43, 92, 93, 94, 95, 6, 96, 97, 98, 99, 100, 29, 101, 102, 103, 104, 105, 106, 107, 108, 109, 110, 111, 112, 113, 114, 115, 209, 210, 211, 212, 213, 214, 215, 216, 217, 218, 219, 220, 221, 222, 223, 224, 225, 226, 227, 234, 235, 236, 237, 238, 239, 240, 241, 242, 243, 244, 245, 246, 247, 248, 249, 250, 251] (by decide +kernel) (by decide +kernel)
set_option maxRecDepth 20000 in
theorem gX3_tick_X3_turnToNextLine : GoodIn wsX3_tick (wsV RX3 86 RX3 yX3_turnToNextLine wsX3_turnToNextLine) := goodIn_app (goodIn_of _ (by decide +kernel)) ggX3_tick_X3_turnToNextLine
set_option maxRecDepth 20000 in
theorem ggX3_tick_X2_wantsByte : GoodIn wsX3_tick wsX2_wantsByte := goodIn_r _ [119, 111, 120, 114, 115, 241, 242, 243, 244, 245, 246, 247, 248, 249, 250, 251] (by decide +kernel) (by decide +kernel)
set_option maxRecDepth 20000 in
theorem gX3_tick_X2_wantsByte : GoodIn wsX3_tick (wsV RX3 89 RX2 yX2_wantsByte wsX2_wantsByte) := goodIn_app (goodIn_of _ (by decide +kernel)) ggX3_tick_X2_wantsByte
set_option maxRecDepth 20000 in
theorem ggX3_tick_X3_isTaken : GoodIn wsX3_tick wsX3_isTaken := goodIn_r _ [124, 125, 126, 8, 209, 210, 211, 212, 213, 214, 215, 216, 217, 218, 219, 220] (by decide +kernel) (by decide +kernel)
set_option maxRecDepth 20000 in
theorem gX3_tick_X3_isTaken : GoodIn wsX3_tick (wsV RX3 92 RX3 yX3_isTaken wsX3_isTaken) := goodIn_app (goodIn_of _ (by decide +kernel)) ggX3_tick_X3_isTaken
set_option maxRecDepth 20000 in
theorem ggX3_tick_X3_fetchByte : GoodIn wsX3_tick wsX3_fetchByte := goodIn_r _ [130, 5, 6, 131, 132, 133, 134, 135, 136, 22, 137, 24, 28, 29, 30, 138, 139, 140, 109, 141, 142, 143, 111, 114, 144, 209, 210, 211, 212, 213, 214, 215, 216, 217, 218, 219, 220, 241, 242, 243, 244, 245, 246, 247, 248, 249, 250, 251, 233] (by decide +kernel) (by decide +kernel)
set_option maxRecDepth 20000 in
theorem gX3_tick_X3_fetchByte : GoodIn wsX3_tick (wsV RX3 95 RX3 yX3_fetchByte wsX3_fetchByte) := goodIn_app (goodIn_of _ (by decide +kernel)) ggX3_tick_X3_fetchByte
set_option maxRecDepth 20000 in
theorem ggX3_tick_X0_isOnDot : GoodIn wsX3_tick wsX0_isOnDot := goodIn_r _ [148, 37, 38, 36, 54, 53, 149, 97, 98, 58, 99, 60, 221, 222, 223, 224, 225, 226, 227, 234, 235, 236, 237, 238, 239, 240] (by decide +kernel) (by decide +kernel)
set_option maxRecDepth 20000 in
theorem gX3_tick_X0_isOnDot : GoodIn wsX3_tick (wsV RX3 98 RX0 yX0_isOnDot wsX0_isOnDot) := goodIn_app (goodIn_of _ (by decide +kernel)) ggX3_tick_X0_isOnDot
set_option maxRecDepth 20000 in
theorem ggX3_tick_X3_makeDot : GoodIn wsX3_tick wsX3_makeDot := goodIn_r _ [153, 2, 4, 6, 154, 155, 156, 157, 158, 159, 43, 160, 5, 134, 135, 136, 22, 137, 24, 28, 29, 30, 161, 162, 163, 109, 164, 112, 111, 165, 142, 143, 166, 167, 168, 169, 34, 170, 37, 53, 71, 171, 103, 104, 76, 105, 80, 172, 173, 174, 175, 176, 177, 178, 179, 180, 181, 182, 183, 184, 185, 186, 187, 188, 189, 190, 191, 192, 193, 194, 195, 209, 210, 211, 212, 213, 214, 215, 216, 217, 218, 219, 220, 221, 222, 223, 224, 225, 226, 227, 233, 241, 242, 243, 244, 245, 246, 247, 248, 249, 250, 251, 234, 235, 236, 252, 253, 254, 255, 256] (by decide +kernel) (by decide +kernel)
set_option maxRecDepth 20000 in
theorem gX3_tick_X3_makeDot : GoodIn wsX3_tick (wsV RX3 101 RX3 yX3_makeDot wsX3_makeDot) := goodIn_app (goodIn_of _ (by decide +kernel)) ggX3_tick_X3_makeDot
set_option maxRecDepth 20000 in
theorem ggX3_tick_X0_signalsHere : GoodIn wsX3_tick wsX0_signalsHere := goodIn_r _ [199, 37, 38, 36, 54, 53, 200, 201, 202, 58, 203, 60, 61, 62, 204, 146, 147, 34, 148, 149, 97, 98, 99, 221, 222, 223, 224, 225, 226, 227, 234, 235, 236, 237, 238, 239, 240] (by decide +kernel) (by decide +kernel)
set_option maxRecDepth 20000 in
theorem gX3_tick_X0_signalsHere : GoodIn wsX3_tick (wsV RX3 104 RX0 yX0_signalsHere wsX0_signalsHere) := goodIn_app (goodIn_of _ (by decide +kernel)) ggX3_tick_X0_signalsHere
set_option maxRecDepth 20000 in
theorem ggX3_tick_X0_goOn : GoodIn wsX3_tick wsX0_goOn := goodIn_r _ [208, 36, 37, 38, 53, 54, 72, 71, 68, 55, 56, 57, 58, 59, 60, 61, 62, 63, 73, 74, 75, 76, 77, 78, 79, 80, 81, 82, 83, 84, 85, 86, 87, 88, 221, 222, 223, 224, 225, 226, 227, 234, 235, 236, 237, 238, 239, 240] (by decide +kernel) (by decide +kernel)
set_option maxRecDepth 20000 in
theorem gX3_tick_X0_goOn : GoodIn wsX3_tick (wsV RX3 108 RX0 yX0_goOn wsX0_goOn) := goodIn_app (goodIn_of _ (by decide +kernel)) ggX3_tick_X0_goOn
theorem dX3_tick_0 : decode cX3_tick 0 = .ok (.aload_n 0, 1) := by decide +kernel
theorem dX3_tick_1 : decode cX3_tick 1 = .ok (.getfield 35, 3) := by decide +kernel
theorem dX3_tick_4 : decode cX3_tick 4 = .ok (.aload_n 0, 1) := by decide +kernel
theorem dX3_tick_5 : decode cX3_tick 5 = .ok (.getfield 12, 3) := by decide +kernel
theorem dX3_tick_8 : decode cX3_tick 8 = .ok (.getfield 72, 3) := by decide +kernel
theorem dX3_tick_11 : decode cX3_tick 11 = .ok (.aload_n 0, 1) := by decide +kernel
theorem dX3_tick_12 : decode cX3_tick 12 = .ok (.getfield 12, 3) := by decide +kernel
theorem dX3_tick_15 : decode cX3_tick 15 = .ok (.getfield 75, 3) := by decide +kernel
theorem dX3_tick_18 : decode cX3_tick 18 = .ok (.aload_n 0, 1) := by decide +kernel
theorem dX3_tick_19 : decode cX3_tick 19 = .ok (.getfield 28, 3) := by decide +kernel
theorem dX3_tick_22 : decode cX3_tick 22 = .ok (.invokevirtual 78, 3) := by decide +kernel
theorem dX3_tick_25 : decode cX3_tick 25 = .ok (.aload_n 0, 1) := by decide +kernel
theorem dX3_tick_26 : decode cX3_tick 26 = .ok (.getfield 12, 3) := by decide +kernel
theorem dX3_tick_29 : decode cX3_tick 29 = .ok (.invokevirtual 82, 3) := by decide +kernel
theorem dX3_tick_32 : decode cX3_tick 32 = .ok (.ifCond .eq 7, 3) := by decide +kernel
theorem dX3_tick_35 : decode cX3_tick 35 = .ok (.aload_n 0, 1) := by decide +kernel
theorem dX3_tick_36 : decode cX3_tick 36 = .ok (.invokevirtual 86, 3) := by decide +kernel
theorem dX3_tick_39 : decode cX3_tick 39 = .ok (.aload_n 0, 1) := by decide +kernel
theorem dX3_tick_40 : decode cX3_tick 40 = .ok (.getfield 21, 3) := by decide +kernel
theorem dX3_tick_43 : decode cX3_tick 43 = .ok (.invokevirtual 89, 3) := by decide +kernel
theorem dX3_tick_46 : decode cX3_tick 46 = .ok (.ifCond .eq 14, 3) := by decide +kernel
theorem dX3_tick_49 : decode cX3_tick 49 = .ok (.aload_n 0, 1) := by decide +kernel
theorem dX3_tick_50 : decode cX3_tick 50 = .ok (.invokevirtual 92, 3) := by decide +kernel
theorem dX3_tick_53 : decode cX3_tick 53 = .ok (.ifCond .ne 7, 3) := by decide +kernel
theorem dX3_tick_56 : decode cX3_tick 56 = .ok (.aload_n 0, 1) := by decide +kernel
theorem dX3_tick_57 : decode cX3_tick 57 = .ok (.invokevirtual 95, 3) := by decide +kernel
theorem dX3_tick_60 : decode cX3_tick 60 = .ok (.aload_n 0, 1) := by decide +kernel
theorem dX3_tick_61 : decode cX3_tick 61 = .ok (.getfield 12, 3) := by decide +kernel
theorem dX3_tick_64 : decode cX3_tick 64 = .ok (.invokevirtual 98, 3) := by decide +kernel
theorem dX3_tick_67 : decode cX3_tick 67 = .ok (.ifCond .eq 7, 3) := by decide +kernel
theorem dX3_tick_70 : decode cX3_tick 70 = .ok (.aload_n 0, 1) := by decide +kernel
theorem dX3_tick_71 : decode cX3_tick 71 = .ok (.invokevirtual 101, 3) := by decide +kernel
theorem dX3_tick_74 : decode cX3_tick 74 = .ok (.aload_n 0, 1) := by decide +kernel
theorem dX3_tick_75 : decode cX3_tick 75 = .ok (.getfield 53, 3) := by decide +kernel
theorem dX3_tick_78 : decode cX3_tick 78 = .ok (.aload_n 0, 1) := by decide +kernel
theorem dX3_tick_79 : decode cX3_tick 79 = .ok (.getfield 69, 3) := by decide +kernel
theorem dX3_tick_82 : decode cX3_tick 82 = .ok (.sipush 512, 3) := by decide +kernel
theorem dX3_tick_85 : decode cX3_tick 85 = .ok (.irem, 1) := by decide +kernel
theorem dX3_tick_86 : decode cX3_tick 86 = .ok (.aload_n 0, 1) := by decide +kernel
theorem dX3_tick_87 : decode cX3_tick 87 = .ok (.getfield 12, 3) := by decide +kernel
theorem dX3_tick_90 : decode cX3_tick 90 = .ok (.invokevirtual 104, 3) := by decide +kernel
theorem dX3_tick_93 : decode cX3_tick 93 = .ok (.iastore, 1) := by decide +kernel
theorem dX3_tick_94 : decode cX3_tick 94 = .ok (.aload_n 0, 1) := by decide +kernel
theorem dX3_tick_95 : decode cX3_tick 95 = .ok (.dup, 1) := by decide +kernel
theorem dX3_tick_96 : decode cX3_tick 96 = .ok (.getfield 69, 3) := by decide +kernel
theorem dX3_tick_99 : decode cX3_tick 99 = .ok (.iconst 1, 1) := by decide +kernel
theorem dX3_tick_100 : decode cX3_tick 100 = .ok (.iadd, 1) := by decide +kernel
theorem dX3_tick_101 : decode cX3_tick 101 = .ok (.putfield 69, 3) := by decide +kernel
theorem dX3_tick_104 : decode cX3_tick 104 = .ok (.aload_n 0, 1) := by decide +kernel
theorem dX3_tick_105 : decode cX3_tick 105 = .ok (.getfield 12, 3) := by decide +kernel
theorem dX3_tick_108 : decode cX3_tick 108 = .ok (.invokevirtual 108, 3) := by decide +kernel
theorem dX3_tick_111 : decode cX3_tick 111 = .ok (.return_, 1) := by decide +kernel
end
section
set_option maxRecDepth 20000 in
theorem ggX3_turnToNextLine_X0_isOnLastLine : GoodIn wsX3_turnToNextLine wsX0_isOnLastLine := goodIn_r _ [11, 12, 13, 14, 15, 16, 17, 18, 19, 20, 21, 22, 23, 91, 92, 93, 94, 95, 96, 97, 98, 99, 100, 101, 102, 103, 104] (by decide +kernel) (by decide +kernel)
set_option maxRecDepth 20000 in
theorem gX3_turnToNextLine_X0_isOnLastLine : GoodIn wsX3_turnToNextLine (wsV RX3 111 RX0 yX0_isOnLastLine wsX0_isOnLastLine) := goodIn_app (goodIn_of _ (by decide +kernel)) ggX3_turnToNextLine_X0_isOnLastLine
set_option maxRecDepth 20000 in
theorem ggX3_turnToNextLine_X0_takeUp : GoodIn wsX3_turnToNextLine wsX0_takeUp := goodIn_r _ [27, 28, 29, 13, 30, 31, 32, 33, 34, 35, 36, 37, 38, 39, 40, 41, 42, 43, 18, 44, 20, 21, 22, 23, 45, 46, 47, 48, 91, 92, 93, 94, 95, 96, 97, 98, 99, 100, 101, 102, 103, 104] (by decide +kernel) (by decide +kernel)
set_option maxRecDepth 20000 in
theorem gX3_turnToNextLine_X0_takeUp : GoodIn wsX3_turnToNextLine (wsV RX3 114 RX0 yX0_takeUp wsX0_takeUp) := goodIn_app (goodIn_of _ (by decide +kernel)) ggX3_turnToNextLine_X0_takeUp
set_option maxRecDepth 20000 in
theorem ggX3_turnToNextLine_X3_startFeed : GoodIn wsX3_turnToNextLine wsX3_startFeed := goodIn_r _ [53, 54, 55, 56, 57, 58, 59, 60, 18, 61, 20, 62, 63, 64, 65, 66, 67, 36, 68, 40, 69, 70, 71, 72, 73, 74, 75, 76, 77, 78, 98, 99, 100, 101, 102, 103, 104, 79, 80, 81, 82, 83, 84, 85, 86, 87, 88, 89, 90, 105, 106, 107, 108, 109, 110, 111, 112, 113, 114, 115] (by decide +kernel) (by decide +kernel)
set_option maxRecDepth 20000 in
theorem gX3_turnToNextLine_X3_startFeed : GoodIn wsX3_turnToNextLine (wsV RX3 124 RX3 yX3_startFeed wsX3_startFeed) := goodIn_app (goodIn_of _ (by decide +kernel)) ggX3_turnToNextLine_X3_startFeed
theorem dX3_turnToNextLine_0 : decode cX3_turnToNextLine 0 = .ok (.aload_n 0, 1) := by decide +kernel
theorem dX3_turnToNextLine_1 : decode cX3_turnToNextLine 1 = .ok (.getfield 12, 3) := by decide +kernel
theorem dX3_turnToNextLine_4 : decode cX3_turnToNextLine 4 = .ok (.invokevirtual 111, 3) := by decide +kernel
theorem dX3_turnToNextLine_7 : decode cX3_turnToNextLine 7 = .ok (.ifCond .eq 32, 3) := by decide +kernel
theorem dX3_turnToNextLine_10 : decode cX3_turnToNextLine 10 = .ok (.aload_n 0, 1) := by decide +kernel
theorem dX3_turnToNextLine_11 : decode cX3_turnToNextLine 11 = .ok (.getfield 12, 3) := by decide +kernel
theorem dX3_turnToNextLine_14 : decode cX3_turnToNextLine 14 = .ok (.invokevirtual 114, 3) := by decide +kernel
theorem dX3_turnToNextLine_17 : decode cX3_turnToNextLine 17 = .ok (.aload_n 0, 1) := by decide +kernel
theorem dX3_turnToNextLine_18 : decode cX3_turnToNextLine 18 = .ok (.aload_n 0, 1) := by decide +kernel
theorem dX3_turnToNextLine_19 : decode cX3_turnToNextLine 19 = .ok (.getfield 12, 3) := by decide +kernel
theorem dX3_turnToNextLine_22 : decode cX3_turnToNextLine 22 = .ok (.getfield 117, 3) := by decide +kernel
theorem dX3_turnToNextLine_25 : decode cX3_turnToNextLine 25 = .ok (.iconst 0, 1) := by decide +kernel
theorem dX3_turnToNextLine_26 : decode cX3_turnToNextLine 26 = .ok (.aload_n 0, 1) := by decide +kernel
theorem dX3_turnToNextLine_27 : decode cX3_turnToNextLine 27 = .ok (.getfield 12, 3) := by decide +kernel
theorem dX3_turnToNextLine_30 : decode cX3_turnToNextLine 30 = .ok (.getfield 121, 3) := by decide +kernel
theorem dX3_turnToNextLine_33 : decode cX3_turnToNextLine 33 = .ok (.invokevirtual 124, 3) := by decide +kernel
theorem dX3_turnToNextLine_36 : decode cX3_turnToNextLine 36 = .ok (.goto 30, 3) := by decide +kernel
theorem dX3_turnToNextLine_39 : decode cX3_turnToNextLine 39 = .ok (.aload_n 0, 1) := by decide +kernel
theorem dX3_turnToNextLine_40 : decode cX3_turnToNextLine 40 = .ok (.aload_n 0, 1) := by decide +kernel
theorem dX3_turnToNextLine_41 : decode cX3_turnToNextLine 41 = .ok (.getfield 12, 3) := by decide +kernel
theorem dX3_turnToNextLine_44 : decode cX3_turnToNextLine 44 = .ok (.getfield 128, 3) := by decide +kernel
theorem dX3_turnToNextLine_47 : decode cX3_turnToNextLine 47 = .ok (.aload_n 0, 1) := by decide +kernel
theorem dX3_turnToNextLine_48 : decode cX3_turnToNextLine 48 = .ok (.getfield 12, 3) := by decide +kernel
theorem dX3_turnToNextLine_51 : decode cX3_turnToNextLine 51 = .ok (.getfield 72, 3) := by decide +kernel
theorem dX3_turnToNextLine_54 : decode cX3_turnToNextLine 54 = .ok (.iconst 1, 1) := by decide +kernel
theorem dX3_turnToNextLine_55 : decode cX3_turnToNextLine 55 = .ok (.iadd, 1) := by decide +kernel
theorem dX3_turnToNextLine_56 : decode cX3_turnToNextLine 56 = .ok (.aload_n 0, 1) := by decide +kernel
theorem dX3_turnToNextLine_57 : decode cX3_turnToNextLine 57 = .ok (.getfield 12, 3) := by decide +kernel
theorem dX3_turnToNextLine_60 : decode cX3_turnToNextLine 60 = .ok (.getfield 131, 3) := by decide +kernel
theorem dX3_turnToNextLine_63 : decode cX3_turnToNextLine 63 = .ok (.invokevirtual 124, 3) := by decide +kernel
theorem dX3_turnToNextLine_66 : decode cX3_turnToNextLine 66 = .ok (.return_, 1) := by decide +kernel
set_option maxRecDepth 20000 in
theorem ggX3_startFeed_X6_isSeen : GoodIn wsX3_startFeed wsX6_isSeen := goodIn_r _ [9, 10, 33, 34, 35, 36] (by decide +kernel) (by decide +kernel)
set_option maxRecDepth 20000 in
theorem gX3_startFeed_X6_isSeen : GoodIn wsX3_startFeed (wsV RX3 140 RX6 yX6_isSeen wsX6_isSeen) := goodIn_app (goodIn_of _ (by decide +kernel)) ggX3_startFeed_X6_isSeen
set_option maxRecDepth 20000 in
theorem ggX3_startFeed_X8_bytesOfLine : GoodIn wsX3_startFeed wsX8_bytesOfLine := goodIn_r _ [13] (by decide +kernel) (by decide +kernel)
set_option maxRecDepth 20000 in
theorem gX3_startFeed_X8_bytesOfLine_n152 : GoodIn wsX3_startFeed (wsX8_bytesOfLine) := ggX3_startFeed_X8_bytesOfLine
set_option maxRecDepth 20000 in
theorem ggX3_startFeed_X4_rowOf : GoodIn wsX3_startFeed wsX4_rowOf := goodIn_r _ [18, 19, 30, 31, 32] (by decide +kernel) (by decide +kernel)
set_option maxRecDepth 20000 in
theorem gX3_startFeed_X4_rowOf : GoodIn wsX3_startFeed (wsV RX3 156 RX4 yX4_rowOf wsX4_rowOf) := goodIn_app (goodIn_of _ (by decide +kernel)) ggX3_startFeed_X4_rowOf
set_option maxRecDepth 20000 in
theorem ggX3_startFeed_X2_startLine : GoodIn wsX3_startFeed wsX2_startLine := goodIn_r _ [24, 25, 26, 27, 28, 29, 49, 50, 51, 52, 53, 54, 55, 56, 57, 58, 59] (by decide +kernel) (by decide +kernel)
set_option maxRecDepth 20000 in
theorem gX3_startFeed_X2_startLine : GoodIn wsX3_startFeed (wsV RX3 160 RX2 yX2_startLine wsX2_startLine) := goodIn_app (goodIn_of _ (by decide +kernel)) ggX3_startFeed_X2_startLine
theorem dX3_startFeed_0 : decode cX3_startFeed 0 = .ok (.aload_n 1, 1) := by decide +kernel
theorem dX3_startFeed_1 : decode cX3_startFeed 1 = .ok (.getfield 134, 3) := by decide +kernel
theorem dX3_startFeed_4 : decode cX3_startFeed 4 = .ok (.iload_n 2, 1) := by decide +kernel
theorem dX3_startFeed_5 : decode cX3_startFeed 5 = .ok (.invokevirtual 140, 3) := by decide +kernel
theorem dX3_startFeed_8 : decode cX3_startFeed 8 = .ok (.ifCond .eq 16, 3) := by decide +kernel
theorem dX3_startFeed_11 : decode cX3_startFeed 11 = .ok (.aload_n 1, 1) := by decide +kernel
theorem dX3_startFeed_12 : decode cX3_startFeed 12 = .ok (.getfield 146, 3) := by decide +kernel
theorem dX3_startFeed_15 : decode cX3_startFeed 15 = .ok (.getfield 149, 3) := by decide +kernel
theorem dX3_startFeed_18 : decode cX3_startFeed 18 = .ok (.invokestatic 152, 3) := by decide +kernel
theorem dX3_startFeed_21 : decode cX3_startFeed 21 = .ok (.goto 4, 3) := by decide +kernel
theorem dX3_startFeed_24 : decode cX3_startFeed 24 = .ok (.iconst 0, 1) := by decide +kernel
theorem dX3_startFeed_25 : decode cX3_startFeed 25 = .ok (.istore 4, 2) := by decide +kernel
theorem dX3_startFeed_27 : decode cX3_startFeed 27 = .ok (.aload_n 0, 1) := by decide +kernel
theorem dX3_startFeed_28 : decode cX3_startFeed 28 = .ok (.getfield 21, 3) := by decide +kernel
theorem dX3_startFeed_31 : decode cX3_startFeed 31 = .ok (.aload_n 1, 1) := by decide +kernel
theorem dX3_startFeed_32 : decode cX3_startFeed 32 = .ok (.iload_n 2, 1) := by decide +kernel
theorem dX3_startFeed_33 : decode cX3_startFeed 33 = .ok (.iload_n 3, 1) := by decide +kernel
theorem dX3_startFeed_34 : decode cX3_startFeed 34 = .ok (.invokevirtual 156, 3) := by decide +kernel
theorem dX3_startFeed_37 : decode cX3_startFeed 37 = .ok (.iload 4, 2) := by decide +kernel
theorem dX3_startFeed_39 : decode cX3_startFeed 39 = .ok (.invokevirtual 160, 3) := by decide +kernel
theorem dX3_startFeed_42 : decode cX3_startFeed 42 = .ok (.return_, 1) := by decide +kernel
set_option maxRecDepth 20000 in
theorem ggX3_fetchByte_X5_read : GoodIn wsX3_fetchByte wsX5_read := goodIn_r _ [10, 11, 12, 13, 14, 48] (by decide +kernel) (by decide +kernel)
set_option maxRecDepth 20000 in
theorem gX3_fetchByte_X5_read : GoodIn wsX3_fetchByte (wsV RX3 164 RX5 yX5_read wsX5_read) := goodIn_app (goodIn_of _ (by decide +kernel)) ggX3_fetchByte_X5_read
set_option maxRecDepth 20000 in
theorem ggX3_fetchByte_X2_append : GoodIn wsX3_fetchByte wsX2_append := goodIn_r _ [19, 20, 21, 22, 23, 24, 37, 38, 39, 40, 41, 42, 43, 44, 45, 46, 47] (by decide +kernel) (by decide +kernel)
set_option maxRecDepth 20000 in
theorem gX3_fetchByte_X2_append : GoodIn wsX3_fetchByte (wsV RX3 173 RX2 yX2_append wsX2_append) := goodIn_app (goodIn_of _ (by decide +kernel)) ggX3_fetchByte_X2_append
theorem dX3_fetchByte_0 : decode cX3_fetchByte 0 = .ok (.aload_n 0, 1) := by decide +kernel
theorem dX3_fetchByte_1 : decode cX3_fetchByte 1 = .ok (.getfield 28, 3) := by decide +kernel
theorem dX3_fetchByte_4 : decode cX3_fetchByte 4 = .ok (.iconst 0, 1) := by decide +kernel
theorem dX3_fetchByte_5 : decode cX3_fetchByte 5 = .ok (.invokevirtual 164, 3) := by decide +kernel
theorem dX3_fetchByte_8 : decode cX3_fetchByte 8 = .ok (.aload_n 0, 1) := by decide +kernel
theorem dX3_fetchByte_9 : decode cX3_fetchByte 9 = .ok (.getfield 28, 3) := by decide +kernel
theorem dX3_fetchByte_12 : decode cX3_fetchByte 12 = .ok (.iconst 1, 1) := by decide +kernel
theorem dX3_fetchByte_13 : decode cX3_fetchByte 13 = .ok (.invokevirtual 164, 3) := by decide +kernel
theorem dX3_fetchByte_16 : decode cX3_fetchByte 16 = .ok (.aload_n 0, 1) := by decide +kernel
theorem dX3_fetchByte_17 : decode cX3_fetchByte 17 = .ok (.getfield 21, 3) := by decide +kernel
theorem dX3_fetchByte_20 : decode cX3_fetchByte 20 = .ok (.getfield 167, 3) := by decide +kernel
theorem dX3_fetchByte_23 : decode cX3_fetchByte 23 = .ok (.imul, 1) := by decide +kernel
theorem dX3_fetchByte_24 : decode cX3_fetchByte 24 = .ok (.iadd, 1) := by decide +kernel
theorem dX3_fetchByte_25 : decode cX3_fetchByte 25 = .ok (.aload_n 0, 1) := by decide +kernel
theorem dX3_fetchByte_26 : decode cX3_fetchByte 26 = .ok (.getfield 21, 3) := by decide +kernel
theorem dX3_fetchByte_29 : decode cX3_fetchByte 29 = .ok (.getfield 170, 3) := by decide +kernel
theorem dX3_fetchByte_32 : decode cX3_fetchByte 32 = .ok (.iadd, 1) := by decide +kernel
theorem dX3_fetchByte_33 : decode cX3_fetchByte 33 = .ok (.istore_n 1, 1) := by decide +kernel
theorem dX3_fetchByte_34 : decode cX3_fetchByte 34 = .ok (.aload_n 0, 1) := by decide +kernel
theorem dX3_fetchByte_35 : decode cX3_fetchByte 35 = .ok (.getfield 21, 3) := by decide +kernel
theorem dX3_fetchByte_38 : decode cX3_fetchByte 38 = .ok (.aload_n 0, 1) := by decide +kernel
theorem dX3_fetchByte_39 : decode cX3_fetchByte 39 = .ok (.getfield 46, 3) := by decide +kernel
theorem dX3_fetchByte_42 : decode cX3_fetchByte 42 = .ok (.iload_n 1, 1) := by decide +kernel
theorem dX3_fetchByte_43 : decode cX3_fetchByte 43 = .ok (.sipush 1023, 3) := by decide +kernel
theorem dX3_fetchByte_46 : decode cX3_fetchByte 46 = .ok (.iand, 1) := by decide +kernel
theorem dX3_fetchByte_47 : decode cX3_fetchByte 47 = .ok (.iaload, 1) := by decide +kernel
theorem dX3_fetchByte_48 : decode cX3_fetchByte 48 = .ok (.invokevirtual 173, 3) := by decide +kernel
theorem dX3_fetchByte_51 : decode cX3_fetchByte 51 = .ok (.return_, 1) := by decide +kernel
set_option maxRecDepth 20000 in
theorem ggX3_makeDot_X3_takeScroll : GoodIn wsX3_makeDot wsX3_takeScroll := goodIn_r _ [11, 12, 3, 13, 14, 15, 16, 17, 18, 19, 20, 21, 22, 23, 24, 25, 26, 27, 28, 29, 30, 31, 32, 71, 72, 73, 74, 75, 76, 77, 78, 79, 80, 81, 82, 90, 91, 92, 93, 94, 95, 96, 97, 98, 99, 100, 101] (by decide +kernel) (by decide +kernel)
set_option maxRecDepth 20000 in
theorem gX3_makeDot_X3_takeScroll : GoodIn wsX3_makeDot (wsV RX3 177 RX3 yX3_takeScroll wsX3_takeScroll) := goodIn_app (goodIn_of _ (by decide +kernel)) ggX3_makeDot_X3_takeScroll
set_option maxRecDepth 20000 in
theorem ggX3_makeDot_X2_takeBit : GoodIn wsX3_makeDot wsX2_takeBit := goodIn_r _ [26, 27, 28, 29, 30, 31, 32, 91, 92, 93, 94, 95, 96, 97, 98, 99, 100, 101] (by decide +kernel) (by decide +kernel)
set_option maxRecDepth 20000 in
theorem gX3_makeDot_X2_takeBit : GoodIn wsX3_makeDot (wsV RX3 180 RX2 yX2_takeBit wsX2_takeBit) := goodIn_app (goodIn_of _ (by decide +kernel)) ggX3_makeDot_X2_takeBit
set_option maxRecDepth 20000 in
theorem ggX3_makeDot_X0_rowHere : GoodIn wsX3_makeDot wsX0_rowHere := goodIn_r _ [37, 38, 39, 40, 41, 42, 43, 44, 45, 46, 83, 84, 85, 86, 87, 88, 89, 102, 103, 104] (by decide +kernel) (by decide +kernel)
set_option maxRecDepth 20000 in
theorem gX3_makeDot_X0_rowHere : GoodIn wsX3_makeDot (wsV RX3 183 RX0 yX0_rowHere wsX0_rowHere) := goodIn_app (goodIn_of _ (by decide +kernel)) ggX3_makeDot_X0_rowHere
set_option maxRecDepth 20000 in
theorem ggX3_makeDot_X8_placeOf : GoodIn wsX3_makeDot wsX8_placeOf := goodIn_r _ [48, 49, 19, 20, 21] (by decide +kernel) (by decide +kernel)
set_option maxRecDepth 20000 in
theorem gX3_makeDot_X8_placeOf_n186 : GoodIn wsX3_makeDot (wsX8_placeOf) := ggX3_makeDot_X8_placeOf
set_option maxRecDepth 20000 in
theorem ggX3_makeDot_X7_showing : GoodIn wsX3_makeDot wsX7_showing := goodIn_r _ [54, 55, 56, 57, 53, 58, 59, 60, 61, 62, 63, 64, 65, 66, 19, 20, 21, 105, 106, 107, 108, 109] (by decide +kernel) (by decide +kernel)
set_option maxRecDepth 20000 in
theorem gX3_makeDot_X7_showing : GoodIn wsX3_makeDot (wsV RX3 189 RX7 yX7_showing wsX7_showing) := goodIn_app (goodIn_of _ (by decide +kernel)) ggX3_makeDot_X7_showing
set_option maxRecDepth 20000 in
theorem ggX3_makeDot_X3_colourOf : GoodIn wsX3_makeDot wsX3_colourOf := goodIn_r _ [70, 12, 13, 14, 15, 16, 17, 18, 19, 20, 21, 71, 72, 73, 74, 75, 76, 77, 78, 79, 80, 81, 82, 90] (by decide +kernel) (by decide +kernel)
set_option maxRecDepth 20000 in
theorem gX3_makeDot_X3_colourOf : GoodIn wsX3_makeDot (wsV RX3 192 RX3 yX3_colourOf wsX3_colourOf) := goodIn_app (goodIn_of _ (by decide +kernel)) ggX3_makeDot_X3_colourOf
theorem dX3_makeDot_0 : decode cX3_makeDot 0 = .ok (.aload_n 0, 1) := by decide +kernel
theorem dX3_makeDot_1 : decode cX3_makeDot 1 = .ok (.getfield 12, 3) := by decide +kernel
theorem dX3_makeDot_4 : decode cX3_makeDot 4 = .ok (.getfield 75, 3) := by decide +kernel
theorem dX3_makeDot_7 : decode cX3_makeDot 7 = .ok (.ifCond .ne 7, 3) := by decide +kernel
theorem dX3_makeDot_10 : decode cX3_makeDot 10 = .ok (.aload_n 0, 1) := by decide +kernel
theorem dX3_makeDot_11 : decode cX3_makeDot 11 = .ok (.invokevirtual 177, 3) := by decide +kernel
theorem dX3_makeDot_14 : decode cX3_makeDot 14 = .ok (.aload_n 0, 1) := by decide +kernel
theorem dX3_makeDot_15 : decode cX3_makeDot 15 = .ok (.getfield 21, 3) := by decide +kernel
theorem dX3_makeDot_18 : decode cX3_makeDot 18 = .ok (.invokevirtual 180, 3) := by decide +kernel
theorem dX3_makeDot_21 : decode cX3_makeDot 21 = .ok (.istore_n 1, 1) := by decide +kernel
theorem dX3_makeDot_22 : decode cX3_makeDot 22 = .ok (.aload_n 0, 1) := by decide +kernel
theorem dX3_makeDot_23 : decode cX3_makeDot 23 = .ok (.getfield 12, 3) := by decide +kernel
theorem dX3_makeDot_26 : decode cX3_makeDot 26 = .ok (.invokevirtual 183, 3) := by decide +kernel
theorem dX3_makeDot_29 : decode cX3_makeDot 29 = .ok (.istore_n 2, 1) := by decide +kernel
theorem dX3_makeDot_30 : decode cX3_makeDot 30 = .ok (.aload_n 0, 1) := by decide +kernel
theorem dX3_makeDot_31 : decode cX3_makeDot 31 = .ok (.getfield 12, 3) := by decide +kernel
theorem dX3_makeDot_34 : decode cX3_makeDot 34 = .ok (.getfield 75, 3) := by decide +kernel
theorem dX3_makeDot_37 : decode cX3_makeDot 37 = .ok (.iload_n 2, 1) := by decide +kernel
theorem dX3_makeDot_38 : decode cX3_makeDot 38 = .ok (.invokestatic 186, 3) := by decide +kernel
theorem dX3_makeDot_41 : decode cX3_makeDot 41 = .ok (.istore_n 3, 1) := by decide +kernel
theorem dX3_makeDot_42 : decode cX3_makeDot 42 = .ok (.iload_n 3, 1) := by decide +kernel
theorem dX3_makeDot_43 : decode cX3_makeDot 43 = .ok (.iconst (-1), 1) := by decide +kernel
theorem dX3_makeDot_44 : decode cX3_makeDot 44 = .ok (.if_icmp .eq 46, 3) := by decide +kernel
theorem dX3_makeDot_47 : decode cX3_makeDot 47 = .ok (.aload_n 0, 1) := by decide +kernel
theorem dX3_makeDot_48 : decode cX3_makeDot 48 = .ok (.getfield 42, 3) := by decide +kernel
theorem dX3_makeDot_51 : decode cX3_makeDot 51 = .ok (.aload_n 0, 1) := by decide +kernel
theorem dX3_makeDot_52 : decode cX3_makeDot 52 = .ok (.getfield 12, 3) := by decide +kernel
theorem dX3_makeDot_55 : decode cX3_makeDot 55 = .ok (.getfield 75, 3) := by decide +kernel
theorem dX3_makeDot_58 : decode cX3_makeDot 58 = .ok (.iload_n 2, 1) := by decide +kernel
theorem dX3_makeDot_59 : decode cX3_makeDot 59 = .ok (.invokevirtual 189, 3) := by decide +kernel
theorem dX3_makeDot_62 : decode cX3_makeDot 62 = .ok (.istore 4, 2) := by decide +kernel
theorem dX3_makeDot_64 : decode cX3_makeDot 64 = .ok (.aload_n 0, 1) := by decide +kernel
theorem dX3_makeDot_65 : decode cX3_makeDot 65 = .ok (.getfield 50, 3) := by decide +kernel
theorem dX3_makeDot_68 : decode cX3_makeDot 68 = .ok (.iload_n 3, 1) := by decide +kernel
theorem dX3_makeDot_69 : decode cX3_makeDot 69 = .ok (.iload 4, 2) := by decide +kernel
theorem dX3_makeDot_71 : decode cX3_makeDot 71 = .ok (.iconst (-1), 1) := by decide +kernel
theorem dX3_makeDot_72 : decode cX3_makeDot 72 = .ok (.if_icmp .ne 11, 3) := by decide +kernel
theorem dX3_makeDot_75 : decode cX3_makeDot 75 = .ok (.aload_n 0, 1) := by decide +kernel
theorem dX3_makeDot_76 : decode cX3_makeDot 76 = .ok (.iload_n 1, 1) := by decide +kernel
theorem dX3_makeDot_77 : decode cX3_makeDot 77 = .ok (.invokevirtual 192, 3) := by decide +kernel
theorem dX3_makeDot_80 : decode cX3_makeDot 80 = .ok (.goto 9, 3) := by decide +kernel
theorem dX3_makeDot_83 : decode cX3_makeDot 83 = .ok (.sipush 256, 3) := by decide +kernel
theorem dX3_makeDot_86 : decode cX3_makeDot 86 = .ok (.iload 4, 2) := by decide +kernel
theorem dX3_makeDot_88 : decode cX3_makeDot 88 = .ok (.iadd, 1) := by decide +kernel
theorem dX3_makeDot_89 : decode cX3_makeDot 89 = .ok (.iastore, 1) := by decide +kernel
theorem dX3_makeDot_90 : decode cX3_makeDot 90 = .ok (.aload_n 0, 1) := by decide +kernel
theorem dX3_makeDot_91 : decode cX3_makeDot 91 = .ok (.dup, 1) := by decide +kernel
theorem dX3_makeDot_92 : decode cX3_makeDot 92 = .ok (.getfield 195, 3) := by decide +kernel
theorem dX3_makeDot_95 : decode cX3_makeDot 95 = .ok (.iconst 1, 1) := by decide +kernel
theorem dX3_makeDot_96 : decode cX3_makeDot 96 = .ok (.iadd, 1) := by decide +kernel
theorem dX3_makeDot_97 : decode cX3_makeDot 97 = .ok (.putfield 195, 3) := by decide +kernel
theorem dX3_makeDot_100 : decode cX3_makeDot 100 = .ok (.return_, 1) := by decide +kernel
set_option maxRecDepth 20000 in
theorem ggX3_takeScroll_X5_read : GoodIn wsX3_takeScroll wsX5_read := goodIn_r _ [7, 8, 9, 10, 11, 35] (by decide +kernel) (by decide +kernel)
set_option maxRecDepth 20000 in
theorem gX3_takeScroll_X5_read : GoodIn wsX3_takeScroll (wsV RX3 164 RX5 yX5_read wsX5_read) := goodIn_app (goodIn_of _ (by decide +kernel)) ggX3_takeScroll_X5_read
set_option maxRecDepth 20000 in
theorem ggX3_takeScroll_X2_takeBit : GoodIn wsX3_takeScroll wsX2_takeBit := goodIn_r _ [16, 17, 18, 19, 20, 21, 22, 36, 37, 38, 39, 40, 41, 42, 43, 44, 45, 46] (by decide +kernel) (by decide +kernel)
set_option maxRecDepth 20000 in
theorem gX3_takeScroll_X2_takeBit : GoodIn wsX3_takeScroll (wsV RX3 180 RX2 yX2_takeBit wsX2_takeBit) := goodIn_app (goodIn_of _ (by decide +kernel)) ggX3_takeScroll_X2_takeBit
theorem dX3_takeScroll_0 : decode cX3_takeScroll 0 = .ok (.aload_n 0, 1) := by decide +kernel
theorem dX3_takeScroll_1 : decode cX3_takeScroll 1 = .ok (.getfield 28, 3) := by decide +kernel
theorem dX3_takeScroll_4 : decode cX3_takeScroll 4 = .ok (.iconst 2, 1) := by decide +kernel
theorem dX3_takeScroll_5 : decode cX3_takeScroll 5 = .ok (.invokevirtual 164, 3) := by decide +kernel
theorem dX3_takeScroll_8 : decode cX3_takeScroll 8 = .ok (.istore_n 1, 1) := by decide +kernel
theorem dX3_takeScroll_9 : decode cX3_takeScroll 9 = .ok (.iconst 0, 1) := by decide +kernel
theorem dX3_takeScroll_10 : decode cX3_takeScroll 10 = .ok (.istore_n 2, 1) := by decide +kernel
theorem dX3_takeScroll_11 : decode cX3_takeScroll 11 = .ok (.iload_n 2, 1) := by decide +kernel
theorem dX3_takeScroll_12 : decode cX3_takeScroll 12 = .ok (.iload_n 1, 1) := by decide +kernel
theorem dX3_takeScroll_13 : decode cX3_takeScroll 13 = .ok (.if_icmp .ge 21, 3) := by decide +kernel
theorem dX3_takeScroll_16 : decode cX3_takeScroll 16 = .ok (.aload_n 0, 1) := by decide +kernel
theorem dX3_takeScroll_17 : decode cX3_takeScroll 17 = .ok (.getfield 21, 3) := by decide +kernel
theorem dX3_takeScroll_20 : decode cX3_takeScroll 20 = .ok (.invokevirtual 180, 3) := by decide +kernel
theorem dX3_takeScroll_23 : decode cX3_takeScroll 23 = .ok (.iconst (-1), 1) := by decide +kernel
theorem dX3_takeScroll_24 : decode cX3_takeScroll 24 = .ok (.if_icmp .ne 4, 3) := by decide +kernel
theorem dX3_takeScroll_27 : decode cX3_takeScroll 27 = .ok (.return_, 1) := by decide +kernel
theorem dX3_takeScroll_28 : decode cX3_takeScroll 28 = .ok (.iinc 2 1, 3) := by decide +kernel
theorem dX3_takeScroll_31 : decode cX3_takeScroll 31 = .ok (.goto (-20), 3) := by decide +kernel
theorem dX3_takeScroll_34 : decode cX3_takeScroll 34 = .ok (.return_, 1) := by decide +kernel
set_option maxRecDepth 20000 in
theorem ggX3_colourOf_X5_read : GoodIn wsX3_colourOf wsX5_read := goodIn_r _ [6, 7, 8, 9, 10, 23] (by decide +kernel) (by decide +kernel)
set_option maxRecDepth 20000 in
theorem gX3_colourOf_X5_read : GoodIn wsX3_colourOf (wsV RX3 164 RX5 yX5_read wsX5_read) := goodIn_app (goodIn_of _ (by decide +kernel)) ggX3_colourOf_X5_read
theorem dX3_colourOf_0 : decode cX3_colourOf 0 = .ok (.iload_n 1, 1) := by decide +kernel
theorem dX3_colourOf_1 : decode cX3_colourOf 1 = .ok (.iconst (-1), 1) := by decide +kernel
theorem dX3_colourOf_2 : decode cX3_colourOf 2 = .ok (.if_icmp .ne 7, 3) := by decide +kernel
theorem dX3_colourOf_5 : decode cX3_colourOf 5 = .ok (.sipush 512, 3) := by decide +kernel
theorem dX3_colourOf_8 : decode cX3_colourOf 8 = .ok (.ireturn, 1) := by decide +kernel
theorem dX3_colourOf_9 : decode cX3_colourOf 9 = .ok (.aload_n 0, 1) := by decide +kernel
theorem dX3_colourOf_10 : decode cX3_colourOf 10 = .ok (.getfield 28, 3) := by decide +kernel
theorem dX3_colourOf_13 : decode cX3_colourOf 13 = .ok (.iload_n 1, 1) := by decide +kernel
theorem dX3_colourOf_14 : decode cX3_colourOf 14 = .ok (.iconst 1, 1) := by decide +kernel
theorem dX3_colourOf_15 : decode cX3_colourOf 15 = .ok (.if_icmp .ne 7, 3) := by decide +kernel
theorem dX3_colourOf_18 : decode cX3_colourOf 18 = .ok (.iconst 3, 1) := by decide +kernel
theorem dX3_colourOf_19 : decode cX3_colourOf 19 = .ok (.goto 4, 3) := by decide +kernel
theorem dX3_colourOf_22 : decode cX3_colourOf 22 = .ok (.iconst 4, 1) := by decide +kernel
theorem dX3_colourOf_23 : decode cX3_colourOf 23 = .ok (.invokevirtual 164, 3) := by decide +kernel
theorem dX3_colourOf_26 : decode cX3_colourOf 26 = .ok (.ireturn, 1) := by decide +kernel
set_option maxRecDepth 20000 in
theorem ggX3_copyFrom_X0_copyFrom : GoodIn wsX3_copyFrom wsX0_copyFrom := goodIn_r _ [21, 22, 23, 24, 25, 26, 27, 28, 29, 30, 31, 32, 33, 34, 35, 36, 37, 38, 39, 40, 41, 42, 43, 44, 45, 46, 47, 48, 49, 108, 109, 110, 111, 112, 113, 114, 115, 116, 117, 118, 119, 120, 121] (by decide +kernel) (by decide +kernel)
set_option maxRecDepth 20000 in
theorem gX3_copyFrom_X0_copyFrom : GoodIn wsX3_copyFrom (wsV RX3 198 RX0 yX0_copyFrom wsX0_copyFrom) := goodIn_app (goodIn_of _ (by decide +kernel)) ggX3_copyFrom_X0_copyFrom
set_option maxRecDepth 20000 in
theorem ggX3_copyFrom_X2_copyFrom : GoodIn wsX3_copyFrom wsX2_copyFrom := goodIn_r _ [54, 55, 56, 8, 9, 10, 57, 58, 59, 60, 61, 62, 63, 64, 65, 66, 122, 123, 124, 125, 126, 127, 128, 129, 130, 131, 132] (by decide +kernel) (by decide +kernel)
set_option maxRecDepth 20000 in
theorem gX3_copyFrom_X2_copyFrom : GoodIn wsX3_copyFrom (wsV RX3 202 RX2 yX2_copyFrom wsX2_copyFrom) := goodIn_app (goodIn_of _ (by decide +kernel)) ggX3_copyFrom_X2_copyFrom
set_option maxRecDepth 20000 in
theorem ggX3_copyFrom_X5_copyFrom : GoodIn wsX3_copyFrom wsX5_copyFrom := goodIn_r _ [71, 72, 73, 8, 9, 10, 133] (by decide +kernel) (by decide +kernel)
set_option maxRecDepth 20000 in
theorem gX3_copyFrom_X5_copyFrom : GoodIn wsX3_copyFrom (wsV RX3 205 RX5 yX5_copyFrom wsX5_copyFrom) := goodIn_app (goodIn_of _ (by decide +kernel)) ggX3_copyFrom_X5_copyFrom
set_option maxRecDepth 20000 in
theorem ggX3_copyFrom_X1_copyFrom : GoodIn wsX3_copyFrom wsX1_copyFrom := goodIn_r _ [78, 79, 80, 8, 9, 10, 81, 82, 83, 84, 134, 135, 136, 137, 138] (by decide +kernel) (by decide +kernel)
set_option maxRecDepth 20000 in
theorem gX3_copyFrom_X1_copyFrom : GoodIn wsX3_copyFrom (wsV RX3 208 RX1 yX1_copyFrom wsX1_copyFrom) := goodIn_app (goodIn_of _ (by decide +kernel)) ggX3_copyFrom_X1_copyFrom
set_option maxRecDepth 20000 in
theorem ggX3_copyFrom_X7_copyFrom : GoodIn wsX3_copyFrom wsX7_copyFrom := goodIn_r _ [89, 90, 91, 8, 9, 10, 92, 93, 94, 95, 139, 140, 141, 142, 143] (by decide +kernel) (by decide +kernel)
set_option maxRecDepth 20000 in
theorem gX3_copyFrom_X7_copyFrom : GoodIn wsX3_copyFrom (wsV RX3 211 RX7 yX7_copyFrom wsX7_copyFrom) := goodIn_app (goodIn_of _ (by decide +kernel)) ggX3_copyFrom_X7_copyFrom
theorem dX3_copyFrom_0 : decode cX3_copyFrom 0 = .ok (.aload_n 0, 1) := by decide +kernel
theorem dX3_copyFrom_1 : decode cX3_copyFrom 1 = .ok (.getfield 12, 3) := by decide +kernel
theorem dX3_copyFrom_4 : decode cX3_copyFrom 4 = .ok (.aload_n 1, 1) := by decide +kernel
theorem dX3_copyFrom_5 : decode cX3_copyFrom 5 = .ok (.getfield 12, 3) := by decide +kernel
theorem dX3_copyFrom_8 : decode cX3_copyFrom 8 = .ok (.invokevirtual 198, 3) := by decide +kernel
theorem dX3_copyFrom_11 : decode cX3_copyFrom 11 = .ok (.aload_n 0, 1) := by decide +kernel
theorem dX3_copyFrom_12 : decode cX3_copyFrom 12 = .ok (.getfield 21, 3) := by decide +kernel
theorem dX3_copyFrom_15 : decode cX3_copyFrom 15 = .ok (.aload_n 1, 1) := by decide +kernel
theorem dX3_copyFrom_16 : decode cX3_copyFrom 16 = .ok (.getfield 21, 3) := by decide +kernel
theorem dX3_copyFrom_19 : decode cX3_copyFrom 19 = .ok (.invokevirtual 202, 3) := by decide +kernel
theorem dX3_copyFrom_22 : decode cX3_copyFrom 22 = .ok (.aload_n 0, 1) := by decide +kernel
theorem dX3_copyFrom_23 : decode cX3_copyFrom 23 = .ok (.getfield 28, 3) := by decide +kernel
theorem dX3_copyFrom_26 : decode cX3_copyFrom 26 = .ok (.aload_n 1, 1) := by decide +kernel
theorem dX3_copyFrom_27 : decode cX3_copyFrom 27 = .ok (.getfield 28, 3) := by decide +kernel
theorem dX3_copyFrom_30 : decode cX3_copyFrom 30 = .ok (.invokevirtual 205, 3) := by decide +kernel
theorem dX3_copyFrom_33 : decode cX3_copyFrom 33 = .ok (.aload_n 0, 1) := by decide +kernel
theorem dX3_copyFrom_34 : decode cX3_copyFrom 34 = .ok (.getfield 35, 3) := by decide +kernel
theorem dX3_copyFrom_37 : decode cX3_copyFrom 37 = .ok (.aload_n 1, 1) := by decide +kernel
theorem dX3_copyFrom_38 : decode cX3_copyFrom 38 = .ok (.getfield 35, 3) := by decide +kernel
theorem dX3_copyFrom_41 : decode cX3_copyFrom 41 = .ok (.invokevirtual 208, 3) := by decide +kernel
theorem dX3_copyFrom_44 : decode cX3_copyFrom 44 = .ok (.aload_n 0, 1) := by decide +kernel
theorem dX3_copyFrom_45 : decode cX3_copyFrom 45 = .ok (.getfield 42, 3) := by decide +kernel
theorem dX3_copyFrom_48 : decode cX3_copyFrom 48 = .ok (.aload_n 1, 1) := by decide +kernel
theorem dX3_copyFrom_49 : decode cX3_copyFrom 49 = .ok (.getfield 42, 3) := by decide +kernel
theorem dX3_copyFrom_52 : decode cX3_copyFrom 52 = .ok (.invokevirtual 211, 3) := by decide +kernel
theorem dX3_copyFrom_55 : decode cX3_copyFrom 55 = .ok (.aload_n 1, 1) := by decide +kernel
theorem dX3_copyFrom_56 : decode cX3_copyFrom 56 = .ok (.getfield 46, 3) := by decide +kernel
theorem dX3_copyFrom_59 : decode cX3_copyFrom 59 = .ok (.iconst 0, 1) := by decide +kernel
theorem dX3_copyFrom_60 : decode cX3_copyFrom 60 = .ok (.aload_n 0, 1) := by decide +kernel
theorem dX3_copyFrom_61 : decode cX3_copyFrom 61 = .ok (.getfield 46, 3) := by decide +kernel
theorem dX3_copyFrom_64 : decode cX3_copyFrom 64 = .ok (.iconst 0, 1) := by decide +kernel
theorem dX3_copyFrom_65 : decode cX3_copyFrom 65 = .ok (.sipush 1024, 3) := by decide +kernel
theorem dX3_copyFrom_68 : decode cX3_copyFrom 68 = .ok (.invokestatic 214, 3) := by decide +kernel
theorem dX3_copyFrom_71 : decode cX3_copyFrom 71 = .ok (.aload_n 1, 1) := by decide +kernel
theorem dX3_copyFrom_72 : decode cX3_copyFrom 72 = .ok (.getfield 50, 3) := by decide +kernel
theorem dX3_copyFrom_75 : decode cX3_copyFrom 75 = .ok (.iconst 0, 1) := by decide +kernel
theorem dX3_copyFrom_76 : decode cX3_copyFrom 76 = .ok (.aload_n 0, 1) := by decide +kernel
theorem dX3_copyFrom_77 : decode cX3_copyFrom 77 = .ok (.getfield 50, 3) := by decide +kernel
theorem dX3_copyFrom_80 : decode cX3_copyFrom 80 = .ok (.iconst 0, 1) := by decide +kernel
theorem dX3_copyFrom_81 : decode cX3_copyFrom 81 = .ok (.aload_n 0, 1) := by decide +kernel
theorem dX3_copyFrom_82 : decode cX3_copyFrom 82 = .ok (.getfield 50, 3) := by decide +kernel
theorem dX3_copyFrom_85 : decode cX3_copyFrom 85 = .ok (.arraylength, 1) := by decide +kernel
theorem dX3_copyFrom_86 : decode cX3_copyFrom 86 = .ok (.invokestatic 214, 3) := by decide +kernel
theorem dX3_copyFrom_89 : decode cX3_copyFrom 89 = .ok (.aload_n 1, 1) := by decide +kernel
theorem dX3_copyFrom_90 : decode cX3_copyFrom 90 = .ok (.getfield 53, 3) := by decide +kernel
theorem dX3_copyFrom_93 : decode cX3_copyFrom 93 = .ok (.iconst 0, 1) := by decide +kernel
theorem dX3_copyFrom_94 : decode cX3_copyFrom 94 = .ok (.aload_n 0, 1) := by decide +kernel
theorem dX3_copyFrom_95 : decode cX3_copyFrom 95 = .ok (.getfield 53, 3) := by decide +kernel
theorem dX3_copyFrom_98 : decode cX3_copyFrom 98 = .ok (.iconst 0, 1) := by decide +kernel
theorem dX3_copyFrom_99 : decode cX3_copyFrom 99 = .ok (.sipush 512, 3) := by decide +kernel
theorem dX3_copyFrom_102 : decode cX3_copyFrom 102 = .ok (.invokestatic 214, 3) := by decide +kernel
theorem dX3_copyFrom_105 : decode cX3_copyFrom 105 = .ok (.aload_n 0, 1) := by decide +kernel
theorem dX3_copyFrom_106 : decode cX3_copyFrom 106 = .ok (.aload_n 1, 1) := by decide +kernel
theorem dX3_copyFrom_107 : decode cX3_copyFrom 107 = .ok (.getfield 56, 3) := by decide +kernel
theorem dX3_copyFrom_110 : decode cX3_copyFrom 110 = .ok (.putfield 56, 3) := by decide +kernel
theorem dX3_copyFrom_113 : decode cX3_copyFrom 113 = .ok (.aload_n 0, 1) := by decide +kernel
theorem dX3_copyFrom_114 : decode cX3_copyFrom 114 = .ok (.aload_n 1, 1) := by decide +kernel
theorem dX3_copyFrom_115 : decode cX3_copyFrom 115 = .ok (.getfield 66, 3) := by decide +kernel
theorem dX3_copyFrom_118 : decode cX3_copyFrom 118 = .ok (.putfield 66, 3) := by decide +kernel
theorem dX3_copyFrom_121 : decode cX3_copyFrom 121 = .ok (.aload_n 0, 1) := by decide +kernel
theorem dX3_copyFrom_122 : decode cX3_copyFrom 122 = .ok (.aload_n 1, 1) := by decide +kernel
theorem dX3_copyFrom_123 : decode cX3_copyFrom 123 = .ok (.getfield 69, 3) := by decide +kernel
theorem dX3_copyFrom_126 : decode cX3_copyFrom 126 = .ok (.putfield 69, 3) := by decide +kernel
theorem dX3_copyFrom_129 : decode cX3_copyFrom 129 = .ok (.aload_n 0, 1) := by decide +kernel
theorem dX3_copyFrom_130 : decode cX3_copyFrom 130 = .ok (.aload_n 1, 1) := by decide +kernel
theorem dX3_copyFrom_131 : decode cX3_copyFrom 131 = .ok (.getfield 195, 3) := by decide +kernel
theorem dX3_copyFrom_134 : decode cX3_copyFrom 134 = .ok (.putfield 195, 3) := by decide +kernel
theorem dX3_copyFrom_137 : decode cX3_copyFrom 137 = .ok (.return_, 1) := by decide +kernel
set_option maxRecDepth 20000 in
theorem ggX4_init_X6_init : GoodIn wsX4_init wsX6_init := goodIn_r _ [11, 12, 2, 3, 13, 14, 15, 16, 17, 18, 19, 20] (by decide +kernel) (by decide +kernel)
set_option maxRecDepth 20000 in
theorem gX4_init_X6_init : GoodIn wsX4_init (wsX6_init) := ggX4_init_X6_init
theorem dX4_init_0 : decode cX4_init 0 = .ok (.aload_n 0, 1) := by decide +kernel
theorem dX4_init_1 : decode cX4_init 1 = .ok (.invokespecial 1, 3) := by decide +kernel
theorem dX4_init_4 : decode cX4_init 4 = .ok (.aload_n 0, 1) := by decide +kernel
theorem dX4_init_5 : decode cX4_init 5 = .ok (.new 7, 3) := by decide +kernel
theorem dX4_init_8 : decode cX4_init 8 = .ok (.dup, 1) := by decide +kernel
theorem dX4_init_9 : decode cX4_init 9 = .ok (.bipush 16, 2) := by decide +kernel
theorem dX4_init_11 : decode cX4_init 11 = .ok (.iconst 2, 1) := by decide +kernel
theorem dX4_init_12 : decode cX4_init 12 = .ok (.iconst 3, 1) := by decide +kernel
theorem dX4_init_13 : decode cX4_init 13 = .ok (.iconst 3, 1) := by decide +kernel
theorem dX4_init_14 : decode cX4_init 14 = .ok (.invokespecial 9, 3) := by decide +kernel
theorem dX4_init_17 : decode cX4_init 17 = .ok (.putfield 12, 3) := by decide +kernel
theorem dX4_init_20 : decode cX4_init 20 = .ok (.aload_n 0, 1) := by decide +kernel
theorem dX4_init_21 : decode cX4_init 21 = .ok (.new 7, 3) := by decide +kernel
theorem dX4_init_24 : decode cX4_init 24 = .ok (.dup, 1) := by decide +kernel
theorem dX4_init_25 : decode cX4_init 25 = .ok (.bipush 8, 2) := by decide +kernel
theorem dX4_init_27 : decode cX4_init 27 = .ok (.iconst 1, 1) := by decide +kernel
theorem dX4_init_28 : decode cX4_init 28 = .ok (.iconst 1, 1) := by decide +kernel
theorem dX4_init_29 : decode cX4_init 29 = .ok (.iconst 1, 1) := by decide +kernel
theorem dX4_init_30 : decode cX4_init 30 = .ok (.invokespecial 9, 3) := by decide +kernel
theorem dX4_init_33 : decode cX4_init 33 = .ok (.putfield 18, 3) := by decide +kernel
theorem dX4_init_36 : decode cX4_init 36 = .ok (.return_, 1) := by decide +kernel
theorem dX4_rowOf_0 : decode cX4_rowOf 0 = .ok (.aload_n 0, 1) := by decide +kernel
theorem dX4_rowOf_1 : decode cX4_rowOf 1 = .ok (.getfield 21, 3) := by decide +kernel
theorem dX4_rowOf_4 : decode cX4_rowOf 4 = .ok (.ifCond .eq 11, 3) := by decide +kernel
theorem dX4_rowOf_7 : decode cX4_rowOf 7 = .ok (.iconst 2, 1) := by decide +kernel
theorem dX4_rowOf_8 : decode cX4_rowOf 8 = .ok (.iload_n 1, 1) := by decide +kernel
theorem dX4_rowOf_9 : decode cX4_rowOf 9 = .ok (.imul, 1) := by decide +kernel
theorem dX4_rowOf_10 : decode cX4_rowOf 10 = .ok (.iload_n 2, 1) := by decide +kernel
theorem dX4_rowOf_11 : decode cX4_rowOf 11 = .ok (.iadd, 1) := by decide +kernel
theorem dX4_rowOf_12 : decode cX4_rowOf 12 = .ok (.goto 4, 3) := by decide +kernel
theorem dX4_rowOf_15 : decode cX4_rowOf 15 = .ok (.iload_n 1, 1) := by decide +kernel
theorem dX4_rowOf_16 : decode cX4_rowOf 16 = .ok (.ireturn, 1) := by decide +kernel
set_option maxRecDepth 20000 in
theorem ggX4_copyFrom_X6_copyFrom : GoodIn wsX4_copyFrom wsX6_copyFrom := goodIn_r _ [8, 9, 10, 11, 12, 13, 14, 15, 7, 16, 20, 21, 22, 23] (by decide +kernel) (by decide +kernel)
set_option maxRecDepth 20000 in
theorem gX4_copyFrom_X6_copyFrom : GoodIn wsX4_copyFrom (wsV RX4 25 RX6 yX6_copyFrom wsX6_copyFrom) := goodIn_app (goodIn_of _ (by decide +kernel)) ggX4_copyFrom_X6_copyFrom
theorem dX4_copyFrom_0 : decode cX4_copyFrom 0 = .ok (.aload_n 0, 1) := by decide +kernel
theorem dX4_copyFrom_1 : decode cX4_copyFrom 1 = .ok (.getfield 12, 3) := by decide +kernel
theorem dX4_copyFrom_4 : decode cX4_copyFrom 4 = .ok (.aload_n 1, 1) := by decide +kernel
theorem dX4_copyFrom_5 : decode cX4_copyFrom 5 = .ok (.getfield 12, 3) := by decide +kernel
theorem dX4_copyFrom_8 : decode cX4_copyFrom 8 = .ok (.invokevirtual 25, 3) := by decide +kernel
theorem dX4_copyFrom_11 : decode cX4_copyFrom 11 = .ok (.aload_n 0, 1) := by decide +kernel
theorem dX4_copyFrom_12 : decode cX4_copyFrom 12 = .ok (.getfield 18, 3) := by decide +kernel
theorem dX4_copyFrom_15 : decode cX4_copyFrom 15 = .ok (.aload_n 1, 1) := by decide +kernel
theorem dX4_copyFrom_16 : decode cX4_copyFrom 16 = .ok (.getfield 18, 3) := by decide +kernel
theorem dX4_copyFrom_19 : decode cX4_copyFrom 19 = .ok (.invokevirtual 25, 3) := by decide +kernel
theorem dX4_copyFrom_22 : decode cX4_copyFrom 22 = .ok (.aload_n 0, 1) := by decide +kernel
theorem dX4_copyFrom_23 : decode cX4_copyFrom 23 = .ok (.aload_n 1, 1) := by decide +kernel
theorem dX4_copyFrom_24 : decode cX4_copyFrom 24 = .ok (.getfield 21, 3) := by decide +kernel
theorem dX4_copyFrom_27 : decode cX4_copyFrom 27 = .ok (.putfield 21, 3) := by decide +kernel
theorem dX4_copyFrom_30 : decode cX4_copyFrom 30 = .ok (.return_, 1) := by decide +kernel
theorem dX5_init_0 : decode cX5_init 0 = .ok (.aload_n 0, 1) := by decide +kernel
theorem dX5_init_1 : decode cX5_init 1 = .ok (.invokespecial 3, 3) := by decide +kernel
theorem dX5_init_4 : decode cX5_init 4 = .ok (.aload_n 0, 1) := by decide +kernel
theorem dX5_init_5 : decode cX5_init 5 = .ok (.iconst 5, 1) := by decide +kernel
theorem dX5_init_6 : decode cX5_init 6 = .ok (.newarray .int, 2) := by decide +kernel
theorem dX5_init_8 : decode cX5_init 8 = .ok (.dup, 1) := by decide +kernel
theorem dX5_init_9 : decode cX5_init 9 = .ok (.iconst 0, 1) := by decide +kernel
theorem dX5_init_10 : decode cX5_init 10 = .ok (.iconst 0, 1) := by decide +kernel
theorem dX5_init_11 : decode cX5_init 11 = .ok (.iastore, 1) := by decide +kernel
theorem dX5_init_12 : decode cX5_init 12 = .ok (.dup, 1) := by decide +kernel
theorem dX5_init_13 : decode cX5_init 13 = .ok (.iconst 1, 1) := by decide +kernel
theorem dX5_init_14 : decode cX5_init 14 = .ok (.bipush 8, 2) := by decide +kernel
theorem dX5_init_16 : decode cX5_init 16 = .ok (.iastore, 1) := by decide +kernel
theorem dX5_init_17 : decode cX5_init 17 = .ok (.dup, 1) := by decide +kernel
theorem dX5_init_18 : decode cX5_init 18 = .ok (.iconst 2, 1) := by decide +kernel
theorem dX5_init_19 : decode cX5_init 19 = .ok (.iconst 0, 1) := by decide +kernel
theorem dX5_init_20 : decode cX5_init 20 = .ok (.iastore, 1) := by decide +kernel
theorem dX5_init_21 : decode cX5_init 21 = .ok (.dup, 1) := by decide +kernel
theorem dX5_init_22 : decode cX5_init 22 = .ok (.iconst 3, 1) := by decide +kernel
theorem dX5_init_23 : decode cX5_init 23 = .ok (.iconst 1, 1) := by decide +kernel
theorem dX5_init_24 : decode cX5_init 24 = .ok (.iastore, 1) := by decide +kernel
theorem dX5_init_25 : decode cX5_init 25 = .ok (.dup, 1) := by decide +kernel
theorem dX5_init_26 : decode cX5_init 26 = .ok (.iconst 4, 1) := by decide +kernel
theorem dX5_init_27 : decode cX5_init 27 = .ok (.iconst 0, 1) := by decide +kernel
theorem dX5_init_28 : decode cX5_init 28 = .ok (.iastore, 1) := by decide +kernel
theorem dX5_init_29 : decode cX5_init 29 = .ok (.putfield 9, 3) := by decide +kernel
theorem dX5_init_32 : decode cX5_init 32 = .ok (.return_, 1) := by decide +kernel
set_option maxRecDepth 20000 in
theorem ggX5_takes_X8_within : GoodIn wsX5_takes wsX8_within := goodIn_r _ [3] (by decide +kernel) (by decide +kernel)
set_option maxRecDepth 20000 in
theorem gX5_takes_X8_within_n18 : GoodIn wsX5_takes (wsX8_within) := ggX5_takes_X8_within
theorem dX5_takes_0 : decode cX5_takes 0 = .ok (.iload_n 0, 1) := by decide +kernel
theorem dX5_takes_1 : decode cX5_takes 1 = .ok (.iconst 0, 1) := by decide +kernel
theorem dX5_takes_2 : decode cX5_takes 2 = .ok (.getstatic 15, 3) := by decide +kernel
theorem dX5_takes_5 : decode cX5_takes 5 = .ok (.arraylength, 1) := by decide +kernel
theorem dX5_takes_6 : decode cX5_takes 6 = .ok (.iconst 1, 1) := by decide +kernel
theorem dX5_takes_7 : decode cX5_takes 7 = .ok (.isub, 1) := by decide +kernel
theorem dX5_takes_8 : decode cX5_takes 8 = .ok (.invokestatic 18, 3) := by decide +kernel
theorem dX5_takes_11 : decode cX5_takes 11 = .ok (.ifCond .eq 20, 3) := by decide +kernel
theorem dX5_takes_14 : decode cX5_takes 14 = .ok (.iload_n 1, 1) := by decide +kernel
theorem dX5_takes_15 : decode cX5_takes 15 = .ok (.iconst 0, 1) := by decide +kernel
theorem dX5_takes_16 : decode cX5_takes 16 = .ok (.getstatic 15, 3) := by decide +kernel
theorem dX5_takes_19 : decode cX5_takes 19 = .ok (.iload_n 0, 1) := by decide +kernel
theorem dX5_takes_20 : decode cX5_takes 20 = .ok (.iaload, 1) := by decide +kernel
theorem dX5_takes_21 : decode cX5_takes 21 = .ok (.invokestatic 18, 3) := by decide +kernel
theorem dX5_takes_24 : decode cX5_takes 24 = .ok (.ifCond .eq 7, 3) := by decide +kernel
theorem dX5_takes_27 : decode cX5_takes 27 = .ok (.iconst 1, 1) := by decide +kernel
theorem dX5_takes_28 : decode cX5_takes 28 = .ok (.goto 4, 3) := by decide +kernel
theorem dX5_takes_31 : decode cX5_takes 31 = .ok (.iconst 0, 1) := by decide +kernel
theorem dX5_takes_32 : decode cX5_takes 32 = .ok (.ireturn, 1) := by decide +kernel
set_option maxRecDepth 20000 in
theorem ggX5_change_X5_takes : GoodIn wsX5_change wsX5_takes := goodIn_r _ [5, 6, 7, 8] (by decide +kernel) (by decide +kernel)
set_option maxRecDepth 20000 in
theorem gX5_change_X5_takes : GoodIn wsX5_change (va_wsS RX5 22 yX5_takes wsX5_takes) := goodIn_app (goodIn_of _ (by decide +kernel)) ggX5_change_X5_takes
theorem dX5_change_0 : decode cX5_change 0 = .ok (.iload_n 1, 1) := by decide +kernel
theorem dX5_change_1 : decode cX5_change 1 = .ok (.iload_n 2, 1) := by decide +kernel
theorem dX5_change_2 : decode cX5_change 2 = .ok (.invokestatic 22, 3) := by decide +kernel
theorem dX5_change_5 : decode cX5_change 5 = .ok (.ifCond .ne 5, 3) := by decide +kernel
theorem dX5_change_8 : decode cX5_change 8 = .ok (.iconst 0, 1) := by decide +kernel
theorem dX5_change_9 : decode cX5_change 9 = .ok (.ireturn, 1) := by decide +kernel
theorem dX5_change_10 : decode cX5_change 10 = .ok (.aload_n 0, 1) := by decide +kernel
theorem dX5_change_11 : decode cX5_change 11 = .ok (.getfield 9, 3) := by decide +kernel
theorem dX5_change_14 : decode cX5_change 14 = .ok (.iload_n 1, 1) := by decide +kernel
theorem dX5_change_15 : decode cX5_change 15 = .ok (.iload_n 2, 1) := by decide +kernel
theorem dX5_change_16 : decode cX5_change 16 = .ok (.iastore, 1) := by decide +kernel
theorem dX5_change_17 : decode cX5_change 17 = .ok (.iconst 1, 1) := by decide +kernel
theorem dX5_change_18 : decode cX5_change 18 = .ok (.ireturn, 1) := by decide +kernel
set_option maxRecDepth 20000 in
theorem ggX5_read_X8_within : GoodIn wsX5_read wsX8_within := goodIn_r _ [4] (by decide +kernel) (by decide +kernel)
set_option maxRecDepth 20000 in
theorem gX5_read_X8_within_n18 : GoodIn wsX5_read (wsX8_within) := ggX5_read_X8_within
theorem dX5_read_0 : decode cX5_read 0 = .ok (.iload_n 1, 1) := by decide +kernel
theorem dX5_read_1 : decode cX5_read 1 = .ok (.iconst 0, 1) := by decide +kernel
theorem dX5_read_2 : decode cX5_read 2 = .ok (.aload_n 0, 1) := by decide +kernel
theorem dX5_read_3 : decode cX5_read 3 = .ok (.getfield 9, 3) := by decide +kernel
theorem dX5_read_6 : decode cX5_read 6 = .ok (.arraylength, 1) := by decide +kernel
theorem dX5_read_7 : decode cX5_read 7 = .ok (.iconst 1, 1) := by decide +kernel
theorem dX5_read_8 : decode cX5_read 8 = .ok (.isub, 1) := by decide +kernel
theorem dX5_read_9 : decode cX5_read 9 = .ok (.invokestatic 18, 3) := by decide +kernel
theorem dX5_read_12 : decode cX5_read 12 = .ok (.ifCond .eq 12, 3) := by decide +kernel
theorem dX5_read_15 : decode cX5_read 15 = .ok (.aload_n 0, 1) := by decide +kernel
theorem dX5_read_16 : decode cX5_read 16 = .ok (.getfield 9, 3) := by decide +kernel
theorem dX5_read_19 : decode cX5_read 19 = .ok (.iload_n 1, 1) := by decide +kernel
theorem dX5_read_20 : decode cX5_read 20 = .ok (.iaload, 1) := by decide +kernel
theorem dX5_read_21 : decode cX5_read 21 = .ok (.goto 4, 3) := by decide +kernel
theorem dX5_read_24 : decode cX5_read 24 = .ok (.iconst (-1), 1) := by decide +kernel
theorem dX5_read_25 : decode cX5_read 25 = .ok (.ireturn, 1) := by decide +kernel
theorem dX5_copyFrom_0 : decode cX5_copyFrom 0 = .ok (.aload_n 1, 1) := by decide +kernel
theorem dX5_copyFrom_1 : decode cX5_copyFrom 1 = .ok (.getfield 9, 3) := by decide +kernel
theorem dX5_copyFrom_4 : decode cX5_copyFrom 4 = .ok (.iconst 0, 1) := by decide +kernel
theorem dX5_copyFrom_5 : decode cX5_copyFrom 5 = .ok (.aload_n 0, 1) := by decide +kernel
theorem dX5_copyFrom_6 : decode cX5_copyFrom 6 = .ok (.getfield 9, 3) := by decide +kernel
theorem dX5_copyFrom_9 : decode cX5_copyFrom 9 = .ok (.iconst 0, 1) := by decide +kernel
theorem dX5_copyFrom_10 : decode cX5_copyFrom 10 = .ok (.aload_n 0, 1) := by decide +kernel
theorem dX5_copyFrom_11 : decode cX5_copyFrom 11 = .ok (.getfield 9, 3) := by decide +kernel
theorem dX5_copyFrom_14 : decode cX5_copyFrom 14 = .ok (.arraylength, 1) := by decide +kernel
theorem dX5_copyFrom_15 : decode cX5_copyFrom 15 = .ok (.invokestatic 26, 3) := by decide +kernel
theorem dX5_copyFrom_18 : decode cX5_copyFrom 18 = .ok (.return_, 1) := by decide +kernel
theorem dX6_init_0 : decode cX6_init 0 = .ok (.aload_n 0, 1) := by decide +kernel
theorem dX6_init_1 : decode cX6_init 1 = .ok (.invokespecial 1, 3) := by decide +kernel
theorem dX6_init_4 : decode cX6_init 4 = .ok (.aload_n 0, 1) := by decide +kernel
theorem dX6_init_5 : decode cX6_init 5 = .ok (.iload_n 1, 1) := by decide +kernel
theorem dX6_init_6 : decode cX6_init 6 = .ok (.putfield 7, 3) := by decide +kernel
theorem dX6_init_9 : decode cX6_init 9 = .ok (.aload_n 0, 1) := by decide +kernel
theorem dX6_init_10 : decode cX6_init 10 = .ok (.iload_n 2, 1) := by decide +kernel
theorem dX6_init_11 : decode cX6_init 11 = .ok (.putfield 13, 3) := by decide +kernel
theorem dX6_init_14 : decode cX6_init 14 = .ok (.aload_n 0, 1) := by decide +kernel
theorem dX6_init_15 : decode cX6_init 15 = .ok (.iload_n 3, 1) := by decide +kernel
theorem dX6_init_16 : decode cX6_init 16 = .ok (.putfield 16, 3) := by decide +kernel
theorem dX6_init_19 : decode cX6_init 19 = .ok (.aload_n 0, 1) := by decide +kernel
theorem dX6_init_20 : decode cX6_init 20 = .ok (.iload 4, 2) := by decide +kernel
theorem dX6_init_22 : decode cX6_init 22 = .ok (.putfield 19, 3) := by decide +kernel
theorem dX6_init_25 : decode cX6_init 25 = .ok (.return_, 1) := by decide +kernel
theorem dX6_tell_0 : decode cX6_tell 0 = .ok (.aload_n 0, 1) := by decide +kernel
theorem dX6_tell_1 : decode cX6_tell 1 = .ok (.iload_n 1, 1) := by decide +kernel
theorem dX6_tell_2 : decode cX6_tell 2 = .ok (.putfield 7, 3) := by decide +kernel
theorem dX6_tell_5 : decode cX6_tell 5 = .ok (.aload_n 0, 1) := by decide +kernel
theorem dX6_tell_6 : decode cX6_tell 6 = .ok (.iload_n 2, 1) := by decide +kernel
theorem dX6_tell_7 : decode cX6_tell 7 = .ok (.putfield 13, 3) := by decide +kernel
theorem dX6_tell_10 : decode cX6_tell 10 = .ok (.aload_n 0, 1) := by decide +kernel
theorem dX6_tell_11 : decode cX6_tell 11 = .ok (.iload_n 3, 1) := by decide +kernel
theorem dX6_tell_12 : decode cX6_tell 12 = .ok (.putfield 16, 3) := by decide +kernel
theorem dX6_tell_15 : decode cX6_tell 15 = .ok (.aload_n 0, 1) := by decide +kernel
theorem dX6_tell_16 : decode cX6_tell 16 = .ok (.iload 4, 2) := by decide +kernel
theorem dX6_tell_18 : decode cX6_tell 18 = .ok (.putfield 19, 3) := by decide +kernel
theorem dX6_tell_21 : decode cX6_tell 21 = .ok (.return_, 1) := by decide +kernel
theorem dX6_whole_0 : decode cX6_whole 0 = .ok (.aload_n 0, 1) := by decide +kernel
theorem dX6_whole_1 : decode cX6_whole 1 = .ok (.getfield 7, 3) := by decide +kernel
theorem dX6_whole_4 : decode cX6_whole 4 = .ok (.aload_n 0, 1) := by decide +kernel
theorem dX6_whole_5 : decode cX6_whole 5 = .ok (.getfield 13, 3) := by decide +kernel
theorem dX6_whole_8 : decode cX6_whole 8 = .ok (.iadd, 1) := by decide +kernel
theorem dX6_whole_9 : decode cX6_whole 9 = .ok (.aload_n 0, 1) := by decide +kernel
theorem dX6_whole_10 : decode cX6_whole 10 = .ok (.getfield 16, 3) := by decide +kernel
theorem dX6_whole_13 : decode cX6_whole 13 = .ok (.iadd, 1) := by decide +kernel
theorem dX6_whole_14 : decode cX6_whole 14 = .ok (.aload_n 0, 1) := by decide +kernel
theorem dX6_whole_15 : decode cX6_whole 15 = .ok (.getfield 19, 3) := by decide +kernel
theorem dX6_whole_18 : decode cX6_whole 18 = .ok (.iadd, 1) := by decide +kernel
theorem dX6_whole_19 : decode cX6_whole 19 = .ok (.ireturn, 1) := by decide +kernel
theorem dX6_isSeen_0 : decode cX6_isSeen 0 = .ok (.iload_n 1, 1) := by decide +kernel
theorem dX6_isSeen_1 : decode cX6_isSeen 1 = .ok (.aload_n 0, 1) := by decide +kernel
theorem dX6_isSeen_2 : decode cX6_isSeen 2 = .ok (.getfield 7, 3) := by decide +kernel
theorem dX6_isSeen_5 : decode cX6_isSeen 5 = .ok (.if_icmp .ge 7, 3) := by decide +kernel
theorem dX6_isSeen_8 : decode cX6_isSeen 8 = .ok (.iconst 1, 1) := by decide +kernel
theorem dX6_isSeen_9 : decode cX6_isSeen 9 = .ok (.goto 4, 3) := by decide +kernel
theorem dX6_isSeen_12 : decode cX6_isSeen 12 = .ok (.iconst 0, 1) := by decide +kernel
theorem dX6_isSeen_13 : decode cX6_isSeen 13 = .ok (.ireturn, 1) := by decide +kernel
theorem dX6_isSync_0 : decode cX6_isSync 0 = .ok (.aload_n 0, 1) := by decide +kernel
theorem dX6_isSync_1 : decode cX6_isSync 1 = .ok (.getfield 7, 3) := by decide +kernel
theorem dX6_isSync_4 : decode cX6_isSync 4 = .ok (.aload_n 0, 1) := by decide +kernel
theorem dX6_isSync_5 : decode cX6_isSync 5 = .ok (.getfield 13, 3) := by decide +kernel
theorem dX6_isSync_8 : decode cX6_isSync 8 = .ok (.iadd, 1) := by decide +kernel
theorem dX6_isSync_9 : decode cX6_isSync 9 = .ok (.istore_n 2, 1) := by decide +kernel
theorem dX6_isSync_10 : decode cX6_isSync 10 = .ok (.iload_n 1, 1) := by decide +kernel
theorem dX6_isSync_11 : decode cX6_isSync 11 = .ok (.iload_n 2, 1) := by decide +kernel
theorem dX6_isSync_12 : decode cX6_isSync 12 = .ok (.if_icmp .lt 17, 3) := by decide +kernel
theorem dX6_isSync_15 : decode cX6_isSync 15 = .ok (.iload_n 1, 1) := by decide +kernel
theorem dX6_isSync_16 : decode cX6_isSync 16 = .ok (.iload_n 2, 1) := by decide +kernel
theorem dX6_isSync_17 : decode cX6_isSync 17 = .ok (.aload_n 0, 1) := by decide +kernel
theorem dX6_isSync_18 : decode cX6_isSync 18 = .ok (.getfield 16, 3) := by decide +kernel
theorem dX6_isSync_21 : decode cX6_isSync 21 = .ok (.iadd, 1) := by decide +kernel
theorem dX6_isSync_22 : decode cX6_isSync 22 = .ok (.if_icmp .ge 7, 3) := by decide +kernel
theorem dX6_isSync_25 : decode cX6_isSync 25 = .ok (.iconst 1, 1) := by decide +kernel
theorem dX6_isSync_26 : decode cX6_isSync 26 = .ok (.goto 4, 3) := by decide +kernel
theorem dX6_isSync_29 : decode cX6_isSync 29 = .ok (.iconst 0, 1) := by decide +kernel
theorem dX6_isSync_30 : decode cX6_isSync 30 = .ok (.ireturn, 1) := by decide +kernel
set_option maxRecDepth 20000 in
theorem ggX6_copyFrom_X6_tell : GoodIn wsX6_copyFrom wsX6_tell := goodIn_r _ [9, 1, 2, 3, 4, 10, 11, 12, 13] (by decide +kernel) (by decide +kernel)
set_option maxRecDepth 20000 in
theorem gX6_copyFrom_X6_tell : GoodIn wsX6_copyFrom (wsV RX6 22 RX6 yX6_tell wsX6_tell) := goodIn_app (goodIn_of _ (by decide +kernel)) ggX6_copyFrom_X6_tell
theorem dX6_copyFrom_0 : decode cX6_copyFrom 0 = .ok (.aload_n 0, 1) := by decide +kernel
theorem dX6_copyFrom_1 : decode cX6_copyFrom 1 = .ok (.aload_n 1, 1) := by decide +kernel
theorem dX6_copyFrom_2 : decode cX6_copyFrom 2 = .ok (.getfield 7, 3) := by decide +kernel
theorem dX6_copyFrom_5 : decode cX6_copyFrom 5 = .ok (.aload_n 1, 1) := by decide +kernel
theorem dX6_copyFrom_6 : decode cX6_copyFrom 6 = .ok (.getfield 13, 3) := by decide +kernel
theorem dX6_copyFrom_9 : decode cX6_copyFrom 9 = .ok (.aload_n 1, 1) := by decide +kernel
theorem dX6_copyFrom_10 : decode cX6_copyFrom 10 = .ok (.getfield 16, 3) := by decide +kernel
theorem dX6_copyFrom_13 : decode cX6_copyFrom 13 = .ok (.aload_n 1, 1) := by decide +kernel
theorem dX6_copyFrom_14 : decode cX6_copyFrom 14 = .ok (.getfield 19, 3) := by decide +kernel
theorem dX6_copyFrom_17 : decode cX6_copyFrom 17 = .ok (.invokevirtual 22, 3) := by decide +kernel
theorem dX6_copyFrom_20 : decode cX6_copyFrom 20 = .ok (.return_, 1) := by decide +kernel
theorem dX7_init_0 : decode cX7_init 0 = .ok (.aload_n 0, 1) := by decide +kernel
theorem dX7_init_1 : decode cX7_init 1 = .ok (.invokespecial 3, 3) := by decide +kernel
theorem dX7_init_4 : decode cX7_init 4 = .ok (.aload_n 0, 1) := by decide +kernel
theorem dX7_init_5 : decode cX7_init 5 = .ok (.bipush 8, 2) := by decide +kernel
theorem dX7_init_7 : decode cX7_init 7 = .ok (.newarray .int, 2) := by decide +kernel
theorem dX7_init_9 : decode cX7_init 9 = .ok (.putfield 9, 3) := by decide +kernel
theorem dX7_init_12 : decode cX7_init 12 = .ok (.aload_n 0, 1) := by decide +kernel
theorem dX7_init_13 : decode cX7_init 13 = .ok (.bipush 8, 2) := by decide +kernel
theorem dX7_init_15 : decode cX7_init 15 = .ok (.newarray .int, 2) := by decide +kernel
theorem dX7_init_17 : decode cX7_init 17 = .ok (.putfield 15, 3) := by decide +kernel
theorem dX7_init_20 : decode cX7_init 20 = .ok (.aload_n 0, 1) := by decide +kernel
theorem dX7_init_21 : decode cX7_init 21 = .ok (.bipush 8, 2) := by decide +kernel
theorem dX7_init_23 : decode cX7_init 23 = .ok (.newarray .int, 2) := by decide +kernel
theorem dX7_init_25 : decode cX7_init 25 = .ok (.putfield 18, 3) := by decide +kernel
theorem dX7_init_28 : decode cX7_init 28 = .ok (.aload_n 0, 1) := by decide +kernel
theorem dX7_init_29 : decode cX7_init 29 = .ok (.bipush 64, 2) := by decide +kernel
theorem dX7_init_31 : decode cX7_init 31 = .ok (.newarray .int, 2) := by decide +kernel
theorem dX7_init_33 : decode cX7_init 33 = .ok (.putfield 21, 3) := by decide +kernel
theorem dX7_init_36 : decode cX7_init 36 = .ok (.aload_n 0, 1) := by decide +kernel
theorem dX7_init_37 : decode cX7_init 37 = .ok (.bipush 64, 2) := by decide +kernel
theorem dX7_init_39 : decode cX7_init 39 = .ok (.newarray .int, 2) := by decide +kernel
theorem dX7_init_41 : decode cX7_init 41 = .ok (.putfield 24, 3) := by decide +kernel
theorem dX7_init_44 : decode cX7_init 44 = .ok (.return_, 1) := by decide +kernel
set_option maxRecDepth 20000 in
theorem ggX7_move_X7_turnPresence : GoodIn wsX7_move wsX7_turnPresence := goodIn_r _ [8, 2, 3, 9, 10, 11, 12, 13, 14, 15, 16, 17, 18] (by decide +kernel) (by decide +kernel)
set_option maxRecDepth 20000 in
theorem gX7_move_X7_turnPresence : GoodIn wsX7_move (wsV RX7 27 RX7 yX7_turnPresence wsX7_turnPresence) := goodIn_app (goodIn_of _ (by decide +kernel)) ggX7_move_X7_turnPresence
theorem dX7_move_0 : decode cX7_move 0 = .ok (.aload_n 0, 1) := by decide +kernel
theorem dX7_move_1 : decode cX7_move 1 = .ok (.iload_n 1, 1) := by decide +kernel
theorem dX7_move_2 : decode cX7_move 2 = .ok (.invokevirtual 27, 3) := by decide +kernel
theorem dX7_move_5 : decode cX7_move 5 = .ok (.aload_n 0, 1) := by decide +kernel
theorem dX7_move_6 : decode cX7_move 6 = .ok (.getfield 9, 3) := by decide +kernel
theorem dX7_move_9 : decode cX7_move 9 = .ok (.iload_n 1, 1) := by decide +kernel
theorem dX7_move_10 : decode cX7_move 10 = .ok (.iload_n 2, 1) := by decide +kernel
theorem dX7_move_11 : decode cX7_move 11 = .ok (.iastore, 1) := by decide +kernel
theorem dX7_move_12 : decode cX7_move 12 = .ok (.aload_n 0, 1) := by decide +kernel
theorem dX7_move_13 : decode cX7_move 13 = .ok (.getfield 15, 3) := by decide +kernel
theorem dX7_move_16 : decode cX7_move 16 = .ok (.iload_n 1, 1) := by decide +kernel
theorem dX7_move_17 : decode cX7_move 17 = .ok (.iload_n 3, 1) := by decide +kernel
theorem dX7_move_18 : decode cX7_move 18 = .ok (.iastore, 1) := by decide +kernel
theorem dX7_move_19 : decode cX7_move 19 = .ok (.aload_n 0, 1) := by decide +kernel
theorem dX7_move_20 : decode cX7_move 20 = .ok (.getfield 18, 3) := by decide +kernel
theorem dX7_move_23 : decode cX7_move 23 = .ok (.iload_n 1, 1) := by decide +kernel
theorem dX7_move_24 : decode cX7_move 24 = .ok (.iload 4, 2) := by decide +kernel
theorem dX7_move_26 : decode cX7_move 26 = .ok (.iastore, 1) := by decide +kernel
theorem dX7_move_27 : decode cX7_move 27 = .ok (.aload_n 0, 1) := by decide +kernel
theorem dX7_move_28 : decode cX7_move 28 = .ok (.iload_n 1, 1) := by decide +kernel
theorem dX7_move_29 : decode cX7_move 29 = .ok (.invokevirtual 27, 3) := by decide +kernel
theorem dX7_move_32 : decode cX7_move 32 = .ok (.return_, 1) := by decide +kernel
theorem dX7_turnPresence_0 : decode cX7_turnPresence 0 = .ok (.aload_n 0, 1) := by decide +kernel
theorem dX7_turnPresence_1 : decode cX7_turnPresence 1 = .ok (.getfield 15, 3) := by decide +kernel
theorem dX7_turnPresence_4 : decode cX7_turnPresence 4 = .ok (.iload_n 1, 1) := by decide +kernel
theorem dX7_turnPresence_5 : decode cX7_turnPresence 5 = .ok (.iaload, 1) := by decide +kernel
theorem dX7_turnPresence_6 : decode cX7_turnPresence 6 = .ok (.aload_n 0, 1) := by decide +kernel
theorem dX7_turnPresence_7 : decode cX7_turnPresence 7 = .ok (.getfield 18, 3) := by decide +kernel
theorem dX7_turnPresence_10 : decode cX7_turnPresence 10 = .ok (.iload_n 1, 1) := by decide +kernel
theorem dX7_turnPresence_11 : decode cX7_turnPresence 11 = .ok (.iaload, 1) := by decide +kernel
theorem dX7_turnPresence_12 : decode cX7_turnPresence 12 = .ok (.iadd, 1) := by decide +kernel
theorem dX7_turnPresence_13 : decode cX7_turnPresence 13 = .ok (.bipush 64, 2) := by decide +kernel
theorem dX7_turnPresence_15 : decode cX7_turnPresence 15 = .ok (.invokestatic 31, 3) := by decide +kernel
theorem dX7_turnPresence_18 : decode cX7_turnPresence 18 = .ok (.istore_n 2, 1) := by decide +kernel
theorem dX7_turnPresence_19 : decode cX7_turnPresence 19 = .ok (.aload_n 0, 1) := by decide +kernel
theorem dX7_turnPresence_20 : decode cX7_turnPresence 20 = .ok (.getfield 15, 3) := by decide +kernel
theorem dX7_turnPresence_23 : decode cX7_turnPresence 23 = .ok (.iload_n 1, 1) := by decide +kernel
theorem dX7_turnPresence_24 : decode cX7_turnPresence 24 = .ok (.iaload, 1) := by decide +kernel
theorem dX7_turnPresence_25 : decode cX7_turnPresence 25 = .ok (.istore_n 3, 1) := by decide +kernel
theorem dX7_turnPresence_26 : decode cX7_turnPresence 26 = .ok (.iload_n 3, 1) := by decide +kernel
theorem dX7_turnPresence_27 : decode cX7_turnPresence 27 = .ok (.iload_n 2, 1) := by decide +kernel
theorem dX7_turnPresence_28 : decode cX7_turnPresence 28 = .ok (.if_icmp .ge 21, 3) := by decide +kernel
theorem dX7_turnPresence_31 : decode cX7_turnPresence 31 = .ok (.aload_n 0, 1) := by decide +kernel
theorem dX7_turnPresence_32 : decode cX7_turnPresence 32 = .ok (.getfield 24, 3) := by decide +kernel
theorem dX7_turnPresence_35 : decode cX7_turnPresence 35 = .ok (.iload_n 3, 1) := by decide +kernel
theorem dX7_turnPresence_36 : decode cX7_turnPresence 36 = .ok (.dup2, 1) := by decide +kernel
theorem dX7_turnPresence_37 : decode cX7_turnPresence 37 = .ok (.iaload, 1) := by decide +kernel
theorem dX7_turnPresence_38 : decode cX7_turnPresence 38 = .ok (.iconst 1, 1) := by decide +kernel
theorem dX7_turnPresence_39 : decode cX7_turnPresence 39 = .ok (.iload_n 1, 1) := by decide +kernel
theorem dX7_turnPresence_40 : decode cX7_turnPresence 40 = .ok (.ishl, 1) := by decide +kernel
theorem dX7_turnPresence_41 : decode cX7_turnPresence 41 = .ok (.ixor, 1) := by decide +kernel
theorem dX7_turnPresence_42 : decode cX7_turnPresence 42 = .ok (.iastore, 1) := by decide +kernel
theorem dX7_turnPresence_43 : decode cX7_turnPresence 43 = .ok (.iinc 3 1, 3) := by decide +kernel
theorem dX7_turnPresence_46 : decode cX7_turnPresence 46 = .ok (.goto (-20), 3) := by decide +kernel
theorem dX7_turnPresence_49 : decode cX7_turnPresence 49 = .ok (.return_, 1) := by decide +kernel
theorem dX7_draw_0 : decode cX7_draw 0 = .ok (.iconst 0, 1) := by decide +kernel
theorem dX7_draw_1 : decode cX7_draw 1 = .ok (.istore 4, 2) := by decide +kernel
theorem dX7_draw_3 : decode cX7_draw 3 = .ok (.iload 4, 2) := by decide +kernel
theorem dX7_draw_5 : decode cX7_draw 5 = .ok (.iconst 4, 1) := by decide +kernel
theorem dX7_draw_6 : decode cX7_draw 6 = .ok (.if_icmp .ge 37, 3) := by decide +kernel
theorem dX7_draw_9 : decode cX7_draw 9 = .ok (.aload_n 0, 1) := by decide +kernel
theorem dX7_draw_10 : decode cX7_draw 10 = .ok (.getfield 21, 3) := by decide +kernel
theorem dX7_draw_13 : decode cX7_draw 13 = .ok (.iload_n 1, 1) := by decide +kernel
theorem dX7_draw_14 : decode cX7_draw 14 = .ok (.bipush 8, 2) := by decide +kernel
theorem dX7_draw_16 : decode cX7_draw 16 = .ok (.imul, 1) := by decide +kernel
theorem dX7_draw_17 : decode cX7_draw 17 = .ok (.iload_n 2, 1) := by decide +kernel
theorem dX7_draw_18 : decode cX7_draw 18 = .ok (.iadd, 1) := by decide +kernel
theorem dX7_draw_19 : decode cX7_draw 19 = .ok (.iload 4, 2) := by decide +kernel
theorem dX7_draw_21 : decode cX7_draw 21 = .ok (.iadd, 1) := by decide +kernel
theorem dX7_draw_22 : decode cX7_draw 22 = .ok (.iload_n 3, 1) := by decide +kernel
theorem dX7_draw_23 : decode cX7_draw 23 = .ok (.bipush 24, 2) := by decide +kernel
theorem dX7_draw_25 : decode cX7_draw 25 = .ok (.bipush 8, 2) := by decide +kernel
theorem dX7_draw_27 : decode cX7_draw 27 = .ok (.iload 4, 2) := by decide +kernel
theorem dX7_draw_29 : decode cX7_draw 29 = .ok (.imul, 1) := by decide +kernel
theorem dX7_draw_30 : decode cX7_draw 30 = .ok (.isub, 1) := by decide +kernel
theorem dX7_draw_31 : decode cX7_draw 31 = .ok (.iushr, 1) := by decide +kernel
theorem dX7_draw_32 : decode cX7_draw 32 = .ok (.sipush 255, 3) := by decide +kernel
theorem dX7_draw_35 : decode cX7_draw 35 = .ok (.iand, 1) := by decide +kernel
theorem dX7_draw_36 : decode cX7_draw 36 = .ok (.iastore, 1) := by decide +kernel
theorem dX7_draw_37 : decode cX7_draw 37 = .ok (.iinc 4 1, 3) := by decide +kernel
theorem dX7_draw_40 : decode cX7_draw 40 = .ok (.goto (-37), 3) := by decide +kernel
theorem dX7_draw_43 : decode cX7_draw 43 = .ok (.return_, 1) := by decide +kernel
theorem dX7_membersOf_0 : decode cX7_membersOf 0 = .ok (.aload_n 0, 1) := by decide +kernel
theorem dX7_membersOf_1 : decode cX7_membersOf 1 = .ok (.getfield 24, 3) := by decide +kernel
theorem dX7_membersOf_4 : decode cX7_membersOf 4 = .ok (.iload_n 1, 1) := by decide +kernel
theorem dX7_membersOf_5 : decode cX7_membersOf 5 = .ok (.iaload, 1) := by decide +kernel
theorem dX7_membersOf_6 : decode cX7_membersOf 6 = .ok (.istore_n 2, 1) := by decide +kernel
theorem dX7_membersOf_7 : decode cX7_membersOf 7 = .ok (.iconst 0, 1) := by decide +kernel
theorem dX7_membersOf_8 : decode cX7_membersOf 8 = .ok (.istore_n 3, 1) := by decide +kernel
theorem dX7_membersOf_9 : decode cX7_membersOf 9 = .ok (.iconst 0, 1) := by decide +kernel
theorem dX7_membersOf_10 : decode cX7_membersOf 10 = .ok (.istore 4, 2) := by decide +kernel
theorem dX7_membersOf_12 : decode cX7_membersOf 12 = .ok (.iload 4, 2) := by decide +kernel
theorem dX7_membersOf_14 : decode cX7_membersOf 14 = .ok (.iconst 3, 1) := by decide +kernel
theorem dX7_membersOf_15 : decode cX7_membersOf 15 = .ok (.if_icmp .ge 25, 3) := by decide +kernel
theorem dX7_membersOf_18 : decode cX7_membersOf 18 = .ok (.iload_n 2, 1) := by decide +kernel
theorem dX7_membersOf_19 : decode cX7_membersOf 19 = .ok (.iload_n 2, 1) := by decide +kernel
theorem dX7_membersOf_20 : decode cX7_membersOf 20 = .ok (.ineg, 1) := by decide +kernel
theorem dX7_membersOf_21 : decode cX7_membersOf 21 = .ok (.iand, 1) := by decide +kernel
theorem dX7_membersOf_22 : decode cX7_membersOf 22 = .ok (.istore 5, 2) := by decide +kernel
theorem dX7_membersOf_24 : decode cX7_membersOf 24 = .ok (.iload_n 3, 1) := by decide +kernel
theorem dX7_membersOf_25 : decode cX7_membersOf 25 = .ok (.iload 5, 2) := by decide +kernel
theorem dX7_membersOf_27 : decode cX7_membersOf 27 = .ok (.ior, 1) := by decide +kernel
theorem dX7_membersOf_28 : decode cX7_membersOf 28 = .ok (.istore_n 3, 1) := by decide +kernel
theorem dX7_membersOf_29 : decode cX7_membersOf 29 = .ok (.iload_n 2, 1) := by decide +kernel
theorem dX7_membersOf_30 : decode cX7_membersOf 30 = .ok (.iload 5, 2) := by decide +kernel
theorem dX7_membersOf_32 : decode cX7_membersOf 32 = .ok (.ixor, 1) := by decide +kernel
theorem dX7_membersOf_33 : decode cX7_membersOf 33 = .ok (.istore_n 2, 1) := by decide +kernel
theorem dX7_membersOf_34 : decode cX7_membersOf 34 = .ok (.iinc 4 1, 3) := by decide +kernel
theorem dX7_membersOf_37 : decode cX7_membersOf 37 = .ok (.goto (-25), 3) := by decide +kernel
theorem dX7_membersOf_40 : decode cX7_membersOf 40 = .ok (.iload_n 3, 1) := by decide +kernel
theorem dX7_membersOf_41 : decode cX7_membersOf 41 = .ok (.ireturn, 1) := by decide +kernel
set_option maxRecDepth 20000 in
theorem ggX7_showing_X7_membersOf : GoodIn wsX7_showing wsX7_membersOf := goodIn_r _ [5, 6, 17, 18, 19, 20, 21] (by decide +kernel) (by decide +kernel)
set_option maxRecDepth 20000 in
theorem gX7_showing_X7_membersOf : GoodIn wsX7_showing (wsV RX7 37 RX7 yX7_membersOf wsX7_membersOf) := goodIn_app (goodIn_of _ (by decide +kernel)) ggX7_showing_X7_membersOf
set_option maxRecDepth 20000 in
theorem ggX7_showing_X7_hasBit : GoodIn wsX7_showing wsX7_hasBit := goodIn_r _ [10, 11, 12, 13, 14, 15, 16, 17, 18, 19, 20, 21] (by decide +kernel) (by decide +kernel)
set_option maxRecDepth 20000 in
theorem gX7_showing_X7_hasBit : GoodIn wsX7_showing (wsV RX7 41 RX7 yX7_hasBit wsX7_hasBit) := goodIn_app (goodIn_of _ (by decide +kernel)) ggX7_showing_X7_hasBit
theorem dX7_showing_0 : decode cX7_showing 0 = .ok (.aload_n 0, 1) := by decide +kernel
theorem dX7_showing_1 : decode cX7_showing 1 = .ok (.iload_n 2, 1) := by decide +kernel
theorem dX7_showing_2 : decode cX7_showing 2 = .ok (.invokevirtual 37, 3) := by decide +kernel
theorem dX7_showing_5 : decode cX7_showing 5 = .ok (.istore_n 3, 1) := by decide +kernel
theorem dX7_showing_6 : decode cX7_showing 6 = .ok (.iconst 0, 1) := by decide +kernel
theorem dX7_showing_7 : decode cX7_showing 7 = .ok (.istore 4, 2) := by decide +kernel
theorem dX7_showing_9 : decode cX7_showing 9 = .ok (.iload 4, 2) := by decide +kernel
theorem dX7_showing_11 : decode cX7_showing 11 = .ok (.bipush 8, 2) := by decide +kernel
theorem dX7_showing_13 : decode cX7_showing 13 = .ok (.if_icmp .ge 40, 3) := by decide +kernel
theorem dX7_showing_16 : decode cX7_showing 16 = .ok (.iload_n 3, 1) := by decide +kernel
theorem dX7_showing_17 : decode cX7_showing 17 = .ok (.iload 4, 2) := by decide +kernel
theorem dX7_showing_19 : decode cX7_showing 19 = .ok (.ishr, 1) := by decide +kernel
theorem dX7_showing_20 : decode cX7_showing 20 = .ok (.ifCond .eq 33, 3) := by decide +kernel
theorem dX7_showing_23 : decode cX7_showing 23 = .ok (.iload_n 3, 1) := by decide +kernel
theorem dX7_showing_24 : decode cX7_showing 24 = .ok (.iload 4, 2) := by decide +kernel
theorem dX7_showing_26 : decode cX7_showing 26 = .ok (.ishr, 1) := by decide +kernel
theorem dX7_showing_27 : decode cX7_showing 27 = .ok (.iconst 1, 1) := by decide +kernel
theorem dX7_showing_28 : decode cX7_showing 28 = .ok (.iand, 1) := by decide +kernel
theorem dX7_showing_29 : decode cX7_showing 29 = .ok (.iconst 1, 1) := by decide +kernel
theorem dX7_showing_30 : decode cX7_showing 30 = .ok (.if_icmp .ne 17, 3) := by decide +kernel
theorem dX7_showing_33 : decode cX7_showing 33 = .ok (.aload_n 0, 1) := by decide +kernel
theorem dX7_showing_34 : decode cX7_showing 34 = .ok (.iload 4, 2) := by decide +kernel
theorem dX7_showing_36 : decode cX7_showing 36 = .ok (.iload_n 1, 1) := by decide +kernel
theorem dX7_showing_37 : decode cX7_showing 37 = .ok (.iload_n 2, 1) := by decide +kernel
theorem dX7_showing_38 : decode cX7_showing 38 = .ok (.invokevirtual 41, 3) := by decide +kernel
theorem dX7_showing_41 : decode cX7_showing 41 = .ok (.ifCond .eq 6, 3) := by decide +kernel
theorem dX7_showing_44 : decode cX7_showing 44 = .ok (.iload 4, 2) := by decide +kernel
theorem dX7_showing_46 : decode cX7_showing 46 = .ok (.ireturn, 1) := by decide +kernel
theorem dX7_showing_47 : decode cX7_showing 47 = .ok (.iinc 4 1, 3) := by decide +kernel
theorem dX7_showing_50 : decode cX7_showing 50 = .ok (.goto (-41), 3) := by decide +kernel
theorem dX7_showing_53 : decode cX7_showing 53 = .ok (.iconst (-1), 1) := by decide +kernel
theorem dX7_showing_54 : decode cX7_showing 54 = .ok (.ireturn, 1) := by decide +kernel
end
section
set_option maxRecDepth 20000 in
theorem ggX7_hasBit_X8_within : GoodIn wsX7_hasBit wsX8_within := goodIn_r _ [6] (by decide +kernel) (by decide +kernel)
set_option maxRecDepth 20000 in
theorem gX7_hasBit_X8_within_n45 : GoodIn wsX7_hasBit (wsX8_within) := ggX7_hasBit_X8_within
theorem dX7_hasBit_0 : decode cX7_hasBit 0 = .ok (.iload_n 2, 1) := by decide +kernel
theorem dX7_hasBit_1 : decode cX7_hasBit 1 = .ok (.aload_n 0, 1) := by decide +kernel
theorem dX7_hasBit_2 : decode cX7_hasBit 2 = .ok (.getfield 9, 3) := by decide +kernel
theorem dX7_hasBit_5 : decode cX7_hasBit 5 = .ok (.iload_n 1, 1) := by decide +kernel
theorem dX7_hasBit_6 : decode cX7_hasBit 6 = .ok (.iaload, 1) := by decide +kernel
theorem dX7_hasBit_7 : decode cX7_hasBit 7 = .ok (.isub, 1) := by decide +kernel
theorem dX7_hasBit_8 : decode cX7_hasBit 8 = .ok (.istore 4, 2) := by decide +kernel
theorem dX7_hasBit_10 : decode cX7_hasBit 10 = .ok (.iload_n 3, 1) := by decide +kernel
theorem dX7_hasBit_11 : decode cX7_hasBit 11 = .ok (.aload_n 0, 1) := by decide +kernel
theorem dX7_hasBit_12 : decode cX7_hasBit 12 = .ok (.getfield 15, 3) := by decide +kernel
theorem dX7_hasBit_15 : decode cX7_hasBit 15 = .ok (.iload_n 1, 1) := by decide +kernel
theorem dX7_hasBit_16 : decode cX7_hasBit 16 = .ok (.iaload, 1) := by decide +kernel
theorem dX7_hasBit_17 : decode cX7_hasBit 17 = .ok (.isub, 1) := by decide +kernel
theorem dX7_hasBit_18 : decode cX7_hasBit 18 = .ok (.istore 5, 2) := by decide +kernel
theorem dX7_hasBit_20 : decode cX7_hasBit 20 = .ok (.iload 4, 2) := by decide +kernel
theorem dX7_hasBit_22 : decode cX7_hasBit 22 = .ok (.iconst 0, 1) := by decide +kernel
theorem dX7_hasBit_23 : decode cX7_hasBit 23 = .ok (.bipush 7, 2) := by decide +kernel
theorem dX7_hasBit_25 : decode cX7_hasBit 25 = .ok (.invokestatic 45, 3) := by decide +kernel
theorem dX7_hasBit_28 : decode cX7_hasBit 28 = .ok (.ifCond .eq 14, 3) := by decide +kernel
theorem dX7_hasBit_31 : decode cX7_hasBit 31 = .ok (.iload 5, 2) := by decide +kernel
theorem dX7_hasBit_33 : decode cX7_hasBit 33 = .ok (.iconst 0, 1) := by decide +kernel
theorem dX7_hasBit_34 : decode cX7_hasBit 34 = .ok (.bipush 7, 2) := by decide +kernel
theorem dX7_hasBit_36 : decode cX7_hasBit 36 = .ok (.invokestatic 45, 3) := by decide +kernel
theorem dX7_hasBit_39 : decode cX7_hasBit 39 = .ok (.ifCond .ne 5, 3) := by decide +kernel
theorem dX7_hasBit_42 : decode cX7_hasBit 42 = .ok (.iconst 0, 1) := by decide +kernel
theorem dX7_hasBit_43 : decode cX7_hasBit 43 = .ok (.ireturn, 1) := by decide +kernel
theorem dX7_hasBit_44 : decode cX7_hasBit 44 = .ok (.aload_n 0, 1) := by decide +kernel
theorem dX7_hasBit_45 : decode cX7_hasBit 45 = .ok (.getfield 21, 3) := by decide +kernel
theorem dX7_hasBit_48 : decode cX7_hasBit 48 = .ok (.iload_n 1, 1) := by decide +kernel
theorem dX7_hasBit_49 : decode cX7_hasBit 49 = .ok (.bipush 8, 2) := by decide +kernel
theorem dX7_hasBit_51 : decode cX7_hasBit 51 = .ok (.imul, 1) := by decide +kernel
theorem dX7_hasBit_52 : decode cX7_hasBit 52 = .ok (.iload 5, 2) := by decide +kernel
theorem dX7_hasBit_54 : decode cX7_hasBit 54 = .ok (.iadd, 1) := by decide +kernel
theorem dX7_hasBit_55 : decode cX7_hasBit 55 = .ok (.iaload, 1) := by decide +kernel
theorem dX7_hasBit_56 : decode cX7_hasBit 56 = .ok (.bipush 7, 2) := by decide +kernel
theorem dX7_hasBit_58 : decode cX7_hasBit 58 = .ok (.iload 4, 2) := by decide +kernel
theorem dX7_hasBit_60 : decode cX7_hasBit 60 = .ok (.isub, 1) := by decide +kernel
theorem dX7_hasBit_61 : decode cX7_hasBit 61 = .ok (.ishr, 1) := by decide +kernel
theorem dX7_hasBit_62 : decode cX7_hasBit 62 = .ok (.iconst 1, 1) := by decide +kernel
theorem dX7_hasBit_63 : decode cX7_hasBit 63 = .ok (.iand, 1) := by decide +kernel
theorem dX7_hasBit_64 : decode cX7_hasBit 64 = .ok (.iconst 1, 1) := by decide +kernel
theorem dX7_hasBit_65 : decode cX7_hasBit 65 = .ok (.if_icmp .ne 7, 3) := by decide +kernel
theorem dX7_hasBit_68 : decode cX7_hasBit 68 = .ok (.iconst 1, 1) := by decide +kernel
theorem dX7_hasBit_69 : decode cX7_hasBit 69 = .ok (.goto 4, 3) := by decide +kernel
theorem dX7_hasBit_72 : decode cX7_hasBit 72 = .ok (.iconst 0, 1) := by decide +kernel
theorem dX7_hasBit_73 : decode cX7_hasBit 73 = .ok (.ireturn, 1) := by decide +kernel
theorem dX7_copyFrom_0 : decode cX7_copyFrom 0 = .ok (.aload_n 1, 1) := by decide +kernel
theorem dX7_copyFrom_1 : decode cX7_copyFrom 1 = .ok (.getfield 9, 3) := by decide +kernel
theorem dX7_copyFrom_4 : decode cX7_copyFrom 4 = .ok (.iconst 0, 1) := by decide +kernel
theorem dX7_copyFrom_5 : decode cX7_copyFrom 5 = .ok (.aload_n 0, 1) := by decide +kernel
theorem dX7_copyFrom_6 : decode cX7_copyFrom 6 = .ok (.getfield 9, 3) := by decide +kernel
theorem dX7_copyFrom_9 : decode cX7_copyFrom 9 = .ok (.iconst 0, 1) := by decide +kernel
theorem dX7_copyFrom_10 : decode cX7_copyFrom 10 = .ok (.bipush 8, 2) := by decide +kernel
theorem dX7_copyFrom_12 : decode cX7_copyFrom 12 = .ok (.invokestatic 48, 3) := by decide +kernel
theorem dX7_copyFrom_15 : decode cX7_copyFrom 15 = .ok (.aload_n 1, 1) := by decide +kernel
theorem dX7_copyFrom_16 : decode cX7_copyFrom 16 = .ok (.getfield 15, 3) := by decide +kernel
theorem dX7_copyFrom_19 : decode cX7_copyFrom 19 = .ok (.iconst 0, 1) := by decide +kernel
theorem dX7_copyFrom_20 : decode cX7_copyFrom 20 = .ok (.aload_n 0, 1) := by decide +kernel
theorem dX7_copyFrom_21 : decode cX7_copyFrom 21 = .ok (.getfield 15, 3) := by decide +kernel
theorem dX7_copyFrom_24 : decode cX7_copyFrom 24 = .ok (.iconst 0, 1) := by decide +kernel
theorem dX7_copyFrom_25 : decode cX7_copyFrom 25 = .ok (.bipush 8, 2) := by decide +kernel
theorem dX7_copyFrom_27 : decode cX7_copyFrom 27 = .ok (.invokestatic 48, 3) := by decide +kernel
theorem dX7_copyFrom_30 : decode cX7_copyFrom 30 = .ok (.aload_n 1, 1) := by decide +kernel
theorem dX7_copyFrom_31 : decode cX7_copyFrom 31 = .ok (.getfield 18, 3) := by decide +kernel
theorem dX7_copyFrom_34 : decode cX7_copyFrom 34 = .ok (.iconst 0, 1) := by decide +kernel
theorem dX7_copyFrom_35 : decode cX7_copyFrom 35 = .ok (.aload_n 0, 1) := by decide +kernel
theorem dX7_copyFrom_36 : decode cX7_copyFrom 36 = .ok (.getfield 18, 3) := by decide +kernel
theorem dX7_copyFrom_39 : decode cX7_copyFrom 39 = .ok (.iconst 0, 1) := by decide +kernel
theorem dX7_copyFrom_40 : decode cX7_copyFrom 40 = .ok (.bipush 8, 2) := by decide +kernel
theorem dX7_copyFrom_42 : decode cX7_copyFrom 42 = .ok (.invokestatic 48, 3) := by decide +kernel
theorem dX7_copyFrom_45 : decode cX7_copyFrom 45 = .ok (.aload_n 1, 1) := by decide +kernel
theorem dX7_copyFrom_46 : decode cX7_copyFrom 46 = .ok (.getfield 21, 3) := by decide +kernel
theorem dX7_copyFrom_49 : decode cX7_copyFrom 49 = .ok (.iconst 0, 1) := by decide +kernel
theorem dX7_copyFrom_50 : decode cX7_copyFrom 50 = .ok (.aload_n 0, 1) := by decide +kernel
theorem dX7_copyFrom_51 : decode cX7_copyFrom 51 = .ok (.getfield 21, 3) := by decide +kernel
theorem dX7_copyFrom_54 : decode cX7_copyFrom 54 = .ok (.iconst 0, 1) := by decide +kernel
theorem dX7_copyFrom_55 : decode cX7_copyFrom 55 = .ok (.aload_n 0, 1) := by decide +kernel
theorem dX7_copyFrom_56 : decode cX7_copyFrom 56 = .ok (.getfield 21, 3) := by decide +kernel
theorem dX7_copyFrom_59 : decode cX7_copyFrom 59 = .ok (.arraylength, 1) := by decide +kernel
theorem dX7_copyFrom_60 : decode cX7_copyFrom 60 = .ok (.invokestatic 48, 3) := by decide +kernel
theorem dX7_copyFrom_63 : decode cX7_copyFrom 63 = .ok (.aload_n 1, 1) := by decide +kernel
theorem dX7_copyFrom_64 : decode cX7_copyFrom 64 = .ok (.getfield 24, 3) := by decide +kernel
theorem dX7_copyFrom_67 : decode cX7_copyFrom 67 = .ok (.iconst 0, 1) := by decide +kernel
theorem dX7_copyFrom_68 : decode cX7_copyFrom 68 = .ok (.aload_n 0, 1) := by decide +kernel
theorem dX7_copyFrom_69 : decode cX7_copyFrom 69 = .ok (.getfield 24, 3) := by decide +kernel
theorem dX7_copyFrom_72 : decode cX7_copyFrom 72 = .ok (.iconst 0, 1) := by decide +kernel
theorem dX7_copyFrom_73 : decode cX7_copyFrom 73 = .ok (.bipush 64, 2) := by decide +kernel
theorem dX7_copyFrom_75 : decode cX7_copyFrom 75 = .ok (.invokestatic 48, 3) := by decide +kernel
theorem dX7_copyFrom_78 : decode cX7_copyFrom 78 = .ok (.return_, 1) := by decide +kernel
set_option maxRecDepth 20000 in
theorem ggX8_init_X3_init : GoodIn wsX8_init wsX3_init := goodIn_r _ [11, 12, 2, 3, 13, 14, 15, 16, 17, 18, 19, 20, 21, 22, 23, 24, 25, 26, 27, 28, 29, 30, 31, 32, 33, 34, 35, 36, 37, 38, 39, 40, 41, 42, 43, 44, 45, 46, 47, 48, 49, 50, 51, 52, 53, 54, 55, 56, 57, 58, 59, 60, 61, 62, 63, 64, 65, 66, 67, 68, 69, 70, 71, 72, 73, 74, 75, 76, 77, 78, 79, 80, 81, 82, 83, 84, 85, 86, 87, 88, 89, 90, 91, 92, 93, 94, 95, 96, 97, 98, 99, 114, 115, 116, 117, 118, 119, 120, 100, 101, 102, 103, 104, 105, 106, 107, 108, 109, 110, 111, 121, 122, 123, 124, 125, 126, 127, 128, 129, 130, 131, 132, 133, 134, 135, 136, 137, 138, 139, 140, 141, 142, 143, 144, 145, 146, 147, 148, 149] (by decide +kernel) (by decide +kernel)
set_option maxRecDepth 20000 in
theorem gX8_init_X3_init : GoodIn wsX8_init (wsX3_init) := ggX8_init_X3_init
theorem dX8_init_0 : decode cX8_init 0 = .ok (.aload_n 0, 1) := by decide +kernel
theorem dX8_init_1 : decode cX8_init 1 = .ok (.invokespecial 1, 3) := by decide +kernel
theorem dX8_init_4 : decode cX8_init 4 = .ok (.aload_n 0, 1) := by decide +kernel
theorem dX8_init_5 : decode cX8_init 5 = .ok (.new 7, 3) := by decide +kernel
theorem dX8_init_8 : decode cX8_init 8 = .ok (.dup, 1) := by decide +kernel
theorem dX8_init_9 : decode cX8_init 9 = .ok (.invokespecial 9, 3) := by decide +kernel
theorem dX8_init_12 : decode cX8_init 12 = .ok (.putfield 10, 3) := by decide +kernel
theorem dX8_init_15 : decode cX8_init 15 = .ok (.aload_n 0, 1) := by decide +kernel
theorem dX8_init_16 : decode cX8_init 16 = .ok (.iconst 3, 1) := by decide +kernel
theorem dX8_init_17 : decode cX8_init 17 = .ok (.anewarray 7, 3) := by decide +kernel
theorem dX8_init_20 : decode cX8_init 20 = .ok (.putfield 16, 3) := by decide +kernel
theorem dX8_init_23 : decode cX8_init 23 = .ok (.return_, 1) := by decide +kernel
set_option maxRecDepth 20000 in
theorem ggX8_line_X8_within : GoodIn wsX8_line wsX8_within := goodIn_r _ [8] (by decide +kernel) (by decide +kernel)
set_option maxRecDepth 20000 in
theorem gX8_line_X8_within : GoodIn wsX8_line (va_wsS RX8 20 yX8_within wsX8_within) := goodIn_app (goodIn_of _ (by decide +kernel)) ggX8_line_X8_within
set_option maxRecDepth 20000 in
theorem ggX8_line_X6_tell : GoodIn wsX8_line wsX6_tell := goodIn_r _ [13, 14, 15, 16, 17, 42, 43, 44, 45] (by decide +kernel) (by decide +kernel)
set_option maxRecDepth 20000 in
theorem gX8_line_X6_tell : GoodIn wsX8_line (wsV RX8 40 RX6 yX6_tell wsX6_tell) := goodIn_app (goodIn_of _ (by decide +kernel)) ggX8_line_X6_tell
theorem dX8_line_0 : decode cX8_line 0 = .ok (.iload_n 1, 1) := by decide +kernel
theorem dX8_line_1 : decode cX8_line 1 = .ok (.bipush 8, 2) := by decide +kernel
theorem dX8_line_3 : decode cX8_line 3 = .ok (.bipush 64, 2) := by decide +kernel
theorem dX8_line_5 : decode cX8_line 5 = .ok (.invokestatic 20, 3) := by decide +kernel
theorem dX8_line_8 : decode cX8_line 8 = .ok (.ifCond .eq 34, 3) := by decide +kernel
theorem dX8_line_11 : decode cX8_line 11 = .ok (.iload_n 2, 1) := by decide +kernel
theorem dX8_line_12 : decode cX8_line 12 = .ok (.iconst 1, 1) := by decide +kernel
theorem dX8_line_13 : decode cX8_line 13 = .ok (.bipush 32, 2) := by decide +kernel
theorem dX8_line_15 : decode cX8_line 15 = .ok (.invokestatic 20, 3) := by decide +kernel
theorem dX8_line_18 : decode cX8_line 18 = .ok (.ifCond .eq 24, 3) := by decide +kernel
theorem dX8_line_21 : decode cX8_line 21 = .ok (.iload_n 3, 1) := by decide +kernel
theorem dX8_line_22 : decode cX8_line 22 = .ok (.iconst 1, 1) := by decide +kernel
theorem dX8_line_23 : decode cX8_line 23 = .ok (.bipush 32, 2) := by decide +kernel
theorem dX8_line_25 : decode cX8_line 25 = .ok (.invokestatic 20, 3) := by decide +kernel
theorem dX8_line_28 : decode cX8_line 28 = .ok (.ifCond .eq 14, 3) := by decide +kernel
theorem dX8_line_31 : decode cX8_line 31 = .ok (.iload 4, 2) := by decide +kernel
theorem dX8_line_33 : decode cX8_line 33 = .ok (.iconst 1, 1) := by decide +kernel
theorem dX8_line_34 : decode cX8_line 34 = .ok (.bipush 32, 2) := by decide +kernel
theorem dX8_line_36 : decode cX8_line 36 = .ok (.invokestatic 20, 3) := by decide +kernel
theorem dX8_line_39 : decode cX8_line 39 = .ok (.ifCond .ne 5, 3) := by decide +kernel
theorem dX8_line_42 : decode cX8_line 42 = .ok (.iconst 0, 1) := by decide +kernel
theorem dX8_line_43 : decode cX8_line 43 = .ok (.ireturn, 1) := by decide +kernel
theorem dX8_line_44 : decode cX8_line 44 = .ok (.aload_n 0, 1) := by decide +kernel
theorem dX8_line_45 : decode cX8_line 45 = .ok (.getfield 10, 3) := by decide +kernel
theorem dX8_line_48 : decode cX8_line 48 = .ok (.getfield 24, 3) := by decide +kernel
theorem dX8_line_51 : decode cX8_line 51 = .ok (.getfield 28, 3) := by decide +kernel
theorem dX8_line_54 : decode cX8_line 54 = .ok (.getfield 34, 3) := by decide +kernel
theorem dX8_line_57 : decode cX8_line 57 = .ok (.iload_n 1, 1) := by decide +kernel
theorem dX8_line_58 : decode cX8_line 58 = .ok (.iload_n 2, 1) := by decide +kernel
theorem dX8_line_59 : decode cX8_line 59 = .ok (.iload_n 3, 1) := by decide +kernel
theorem dX8_line_60 : decode cX8_line 60 = .ok (.iload 4, 2) := by decide +kernel
theorem dX8_line_62 : decode cX8_line 62 = .ok (.invokevirtual 40, 3) := by decide +kernel
theorem dX8_line_65 : decode cX8_line 65 = .ok (.iconst 1, 1) := by decide +kernel
theorem dX8_line_66 : decode cX8_line 66 = .ok (.ireturn, 1) := by decide +kernel
set_option maxRecDepth 20000 in
theorem ggX8_field_X8_within : GoodIn wsX8_field wsX8_within := goodIn_r _ [9] (by decide +kernel) (by decide +kernel)
set_option maxRecDepth 20000 in
theorem gX8_field_X8_within : GoodIn wsX8_field (va_wsS RX8 20 yX8_within wsX8_within) := goodIn_app (goodIn_of _ (by decide +kernel)) ggX8_field_X8_within
set_option maxRecDepth 20000 in
theorem ggX8_field_X6_tell : GoodIn wsX8_field wsX6_tell := goodIn_r _ [14, 15, 16, 17, 18, 43, 44, 45, 46] (by decide +kernel) (by decide +kernel)
set_option maxRecDepth 20000 in
theorem gX8_field_X6_tell : GoodIn wsX8_field (wsV RX8 40 RX6 yX6_tell wsX6_tell) := goodIn_app (goodIn_of _ (by decide +kernel)) ggX8_field_X6_tell
theorem dX8_field_0 : decode cX8_field 0 = .ok (.iload_n 1, 1) := by decide +kernel
theorem dX8_field_1 : decode cX8_field 1 = .ok (.iconst 1, 1) := by decide +kernel
theorem dX8_field_2 : decode cX8_field 2 = .ok (.bipush 32, 2) := by decide +kernel
theorem dX8_field_4 : decode cX8_field 4 = .ok (.invokestatic 20, 3) := by decide +kernel
theorem dX8_field_7 : decode cX8_field 7 = .ok (.ifCond .eq 34, 3) := by decide +kernel
theorem dX8_field_10 : decode cX8_field 10 = .ok (.iload_n 2, 1) := by decide +kernel
theorem dX8_field_11 : decode cX8_field 11 = .ok (.iconst 1, 1) := by decide +kernel
theorem dX8_field_12 : decode cX8_field 12 = .ok (.bipush 8, 2) := by decide +kernel
theorem dX8_field_14 : decode cX8_field 14 = .ok (.invokestatic 20, 3) := by decide +kernel
theorem dX8_field_17 : decode cX8_field 17 = .ok (.ifCond .eq 24, 3) := by decide +kernel
theorem dX8_field_20 : decode cX8_field 20 = .ok (.iload_n 3, 1) := by decide +kernel
theorem dX8_field_21 : decode cX8_field 21 = .ok (.iconst 1, 1) := by decide +kernel
theorem dX8_field_22 : decode cX8_field 22 = .ok (.bipush 8, 2) := by decide +kernel
theorem dX8_field_24 : decode cX8_field 24 = .ok (.invokestatic 20, 3) := by decide +kernel
theorem dX8_field_27 : decode cX8_field 27 = .ok (.ifCond .eq 14, 3) := by decide +kernel
theorem dX8_field_30 : decode cX8_field 30 = .ok (.iload 4, 2) := by decide +kernel
theorem dX8_field_32 : decode cX8_field 32 = .ok (.iconst 1, 1) := by decide +kernel
theorem dX8_field_33 : decode cX8_field 33 = .ok (.bipush 8, 2) := by decide +kernel
theorem dX8_field_35 : decode cX8_field 35 = .ok (.invokestatic 20, 3) := by decide +kernel
theorem dX8_field_38 : decode cX8_field 38 = .ok (.ifCond .ne 5, 3) := by decide +kernel
theorem dX8_field_41 : decode cX8_field 41 = .ok (.iconst 0, 1) := by decide +kernel
theorem dX8_field_42 : decode cX8_field 42 = .ok (.ireturn, 1) := by decide +kernel
theorem dX8_field_43 : decode cX8_field 43 = .ok (.aload_n 0, 1) := by decide +kernel
theorem dX8_field_44 : decode cX8_field 44 = .ok (.getfield 10, 3) := by decide +kernel
theorem dX8_field_47 : decode cX8_field 47 = .ok (.getfield 24, 3) := by decide +kernel
theorem dX8_field_50 : decode cX8_field 50 = .ok (.getfield 28, 3) := by decide +kernel
theorem dX8_field_53 : decode cX8_field 53 = .ok (.getfield 46, 3) := by decide +kernel
theorem dX8_field_56 : decode cX8_field 56 = .ok (.iload_n 1, 1) := by decide +kernel
theorem dX8_field_57 : decode cX8_field 57 = .ok (.iload_n 2, 1) := by decide +kernel
theorem dX8_field_58 : decode cX8_field 58 = .ok (.iload_n 3, 1) := by decide +kernel
theorem dX8_field_59 : decode cX8_field 59 = .ok (.iload 4, 2) := by decide +kernel
theorem dX8_field_61 : decode cX8_field 61 = .ok (.invokevirtual 40, 3) := by decide +kernel
theorem dX8_field_64 : decode cX8_field 64 = .ok (.aload_n 0, 1) := by decide +kernel
theorem dX8_field_65 : decode cX8_field 65 = .ok (.getfield 10, 3) := by decide +kernel
theorem dX8_field_68 : decode cX8_field 68 = .ok (.getfield 24, 3) := by decide +kernel
theorem dX8_field_71 : decode cX8_field 71 = .ok (.getfield 28, 3) := by decide +kernel
theorem dX8_field_74 : decode cX8_field 74 = .ok (.iload 5, 2) := by decide +kernel
theorem dX8_field_76 : decode cX8_field 76 = .ok (.putfield 49, 3) := by decide +kernel
theorem dX8_field_79 : decode cX8_field 79 = .ok (.iconst 1, 1) := by decide +kernel
theorem dX8_field_80 : decode cX8_field 80 = .ok (.ireturn, 1) := by decide +kernel
set_option maxRecDepth 20000 in
theorem ggX8_put_X8_within : GoodIn wsX8_put wsX8_within := goodIn_r _ [5] (by decide +kernel) (by decide +kernel)
set_option maxRecDepth 20000 in
theorem gX8_put_X8_within : GoodIn wsX8_put (va_wsS RX8 20 yX8_within wsX8_within) := goodIn_app (goodIn_of _ (by decide +kernel)) ggX8_put_X8_within
set_option maxRecDepth 20000 in
theorem ggX8_put_X3_storeByte : GoodIn wsX8_put wsX3_storeByte := goodIn_r _ [10, 11, 14, 15, 16, 17, 18, 19, 20, 21, 22, 23, 24, 25] (by decide +kernel) (by decide +kernel)
set_option maxRecDepth 20000 in
theorem gX8_put_X3_storeByte : GoodIn wsX8_put (wsV RX8 53 RX3 yX3_storeByte wsX3_storeByte) := goodIn_app (goodIn_of _ (by decide +kernel)) ggX8_put_X3_storeByte
theorem dX8_put_0 : decode cX8_put 0 = .ok (.iload_n 1, 1) := by decide +kernel
theorem dX8_put_1 : decode cX8_put 1 = .ok (.iconst 0, 1) := by decide +kernel
theorem dX8_put_2 : decode cX8_put 2 = .ok (.sipush 1023, 3) := by decide +kernel
theorem dX8_put_5 : decode cX8_put 5 = .ok (.invokestatic 20, 3) := by decide +kernel
theorem dX8_put_8 : decode cX8_put 8 = .ok (.ifCond .ne 5, 3) := by decide +kernel
theorem dX8_put_11 : decode cX8_put 11 = .ok (.iconst 0, 1) := by decide +kernel
theorem dX8_put_12 : decode cX8_put 12 = .ok (.ireturn, 1) := by decide +kernel
theorem dX8_put_13 : decode cX8_put 13 = .ok (.aload_n 0, 1) := by decide +kernel
theorem dX8_put_14 : decode cX8_put 14 = .ok (.getfield 10, 3) := by decide +kernel
theorem dX8_put_17 : decode cX8_put 17 = .ok (.iload_n 1, 1) := by decide +kernel
theorem dX8_put_18 : decode cX8_put 18 = .ok (.iload_n 2, 1) := by decide +kernel
theorem dX8_put_19 : decode cX8_put 19 = .ok (.invokevirtual 53, 3) := by decide +kernel
theorem dX8_put_22 : decode cX8_put 22 = .ok (.iconst 1, 1) := by decide +kernel
theorem dX8_put_23 : decode cX8_put 23 = .ok (.ireturn, 1) := by decide +kernel
set_option maxRecDepth 20000 in
theorem ggX8_four_X8_within : GoodIn wsX8_four wsX8_within := goodIn_r _ [5] (by decide +kernel) (by decide +kernel)
set_option maxRecDepth 20000 in
theorem gX8_four_X8_within : GoodIn wsX8_four (va_wsS RX8 20 yX8_within wsX8_within) := goodIn_app (goodIn_of _ (by decide +kernel)) ggX8_four_X8_within
set_option maxRecDepth 20000 in
theorem ggX8_four_X3_storeByte : GoodIn wsX8_four wsX3_storeByte := goodIn_r _ [10, 11, 14, 15, 16, 17, 18, 19, 20, 21, 22, 23, 24, 25] (by decide +kernel) (by decide +kernel)
set_option maxRecDepth 20000 in
theorem gX8_four_X3_storeByte : GoodIn wsX8_four (wsV RX8 53 RX3 yX3_storeByte wsX3_storeByte) := goodIn_app (goodIn_of _ (by decide +kernel)) ggX8_four_X3_storeByte
theorem dX8_four_0 : decode cX8_four 0 = .ok (.iload_n 1, 1) := by decide +kernel
theorem dX8_four_1 : decode cX8_four 1 = .ok (.iconst 0, 1) := by decide +kernel
theorem dX8_four_2 : decode cX8_four 2 = .ok (.sipush 1023, 3) := by decide +kernel
theorem dX8_four_5 : decode cX8_four 5 = .ok (.invokestatic 20, 3) := by decide +kernel
theorem dX8_four_8 : decode cX8_four 8 = .ok (.ifCond .ne 5, 3) := by decide +kernel
theorem dX8_four_11 : decode cX8_four 11 = .ok (.iconst 0, 1) := by decide +kernel
theorem dX8_four_12 : decode cX8_four 12 = .ok (.ireturn, 1) := by decide +kernel
theorem dX8_four_13 : decode cX8_four 13 = .ok (.iconst 0, 1) := by decide +kernel
theorem dX8_four_14 : decode cX8_four 14 = .ok (.istore_n 3, 1) := by decide +kernel
theorem dX8_four_15 : decode cX8_four 15 = .ok (.iload_n 3, 1) := by decide +kernel
theorem dX8_four_16 : decode cX8_four 16 = .ok (.iconst 4, 1) := by decide +kernel
theorem dX8_four_17 : decode cX8_four 17 = .ok (.if_icmp .ge 28, 3) := by decide +kernel
theorem dX8_four_20 : decode cX8_four 20 = .ok (.aload_n 0, 1) := by decide +kernel
theorem dX8_four_21 : decode cX8_four 21 = .ok (.getfield 10, 3) := by decide +kernel
theorem dX8_four_24 : decode cX8_four 24 = .ok (.iload_n 1, 1) := by decide +kernel
theorem dX8_four_25 : decode cX8_four 25 = .ok (.iload_n 3, 1) := by decide +kernel
theorem dX8_four_26 : decode cX8_four 26 = .ok (.iadd, 1) := by decide +kernel
theorem dX8_four_27 : decode cX8_four 27 = .ok (.iload_n 2, 1) := by decide +kernel
theorem dX8_four_28 : decode cX8_four 28 = .ok (.bipush 24, 2) := by decide +kernel
theorem dX8_four_30 : decode cX8_four 30 = .ok (.bipush 8, 2) := by decide +kernel
theorem dX8_four_32 : decode cX8_four 32 = .ok (.iload_n 3, 1) := by decide +kernel
theorem dX8_four_33 : decode cX8_four 33 = .ok (.imul, 1) := by decide +kernel
theorem dX8_four_34 : decode cX8_four 34 = .ok (.isub, 1) := by decide +kernel
theorem dX8_four_35 : decode cX8_four 35 = .ok (.iushr, 1) := by decide +kernel
theorem dX8_four_36 : decode cX8_four 36 = .ok (.invokevirtual 53, 3) := by decide +kernel
theorem dX8_four_39 : decode cX8_four 39 = .ok (.iinc 3 1, 3) := by decide +kernel
theorem dX8_four_42 : decode cX8_four 42 = .ok (.goto (-27), 3) := by decide +kernel
theorem dX8_four_45 : decode cX8_four 45 = .ok (.iconst 1, 1) := by decide +kernel
theorem dX8_four_46 : decode cX8_four 46 = .ok (.ireturn, 1) := by decide +kernel
set_option maxRecDepth 20000 in
theorem ggX8_register_X5_change : GoodIn wsX8_register wsX5_change := goodIn_r _ [7, 8, 9, 10, 6, 11, 12, 13, 14, 29] (by decide +kernel) (by decide +kernel)
set_option maxRecDepth 20000 in
theorem gX8_register_X5_change : GoodIn wsX8_register (wsV RX8 61 RX5 yX5_change wsX5_change) := goodIn_app (goodIn_of _ (by decide +kernel)) ggX8_register_X5_change
theorem dX8_register_0 : decode cX8_register 0 = .ok (.aload_n 0, 1) := by decide +kernel
theorem dX8_register_1 : decode cX8_register 1 = .ok (.getfield 10, 3) := by decide +kernel
theorem dX8_register_4 : decode cX8_register 4 = .ok (.getfield 57, 3) := by decide +kernel
theorem dX8_register_7 : decode cX8_register 7 = .ok (.iload_n 1, 1) := by decide +kernel
theorem dX8_register_8 : decode cX8_register 8 = .ok (.iload_n 2, 1) := by decide +kernel
theorem dX8_register_9 : decode cX8_register 9 = .ok (.invokevirtual 61, 3) := by decide +kernel
theorem dX8_register_12 : decode cX8_register 12 = .ok (.ireturn, 1) := by decide +kernel
set_option maxRecDepth 20000 in
theorem ggX8_entry_X8_within : GoodIn wsX8_entry wsX8_within := goodIn_r _ [6] (by decide +kernel) (by decide +kernel)
set_option maxRecDepth 20000 in
theorem gX8_entry_X8_within : GoodIn wsX8_entry (va_wsS RX8 20 yX8_within wsX8_within) := goodIn_app (goodIn_of _ (by decide +kernel)) ggX8_entry_X8_within
set_option maxRecDepth 20000 in
theorem ggX8_entry_X5_takes : GoodIn wsX8_entry wsX5_takes := goodIn_r _ [10, 4, 5, 6] (by decide +kernel) (by decide +kernel)
set_option maxRecDepth 20000 in
theorem gX8_entry_X5_takes : GoodIn wsX8_entry (va_wsS RX8 67 yX5_takes wsX5_takes) := goodIn_app (goodIn_of _ (by decide +kernel)) ggX8_entry_X5_takes
set_option maxRecDepth 20000 in
theorem ggX8_entry_X1_append : GoodIn wsX8_entry wsX1_append := goodIn_r _ [15, 16, 17, 18, 19, 20, 35, 36, 37, 38, 39] (by decide +kernel) (by decide +kernel)
set_option maxRecDepth 20000 in
theorem gX8_entry_X1_append : GoodIn wsX8_entry (wsV RX8 74 RX1 yX1_append wsX1_append) := goodIn_app (goodIn_of _ (by decide +kernel)) ggX8_entry_X1_append
theorem dX8_entry_0 : decode cX8_entry 0 = .ok (.iload_n 1, 1) := by decide +kernel
theorem dX8_entry_1 : decode cX8_entry 1 = .ok (.iconst 0, 1) := by decide +kernel
theorem dX8_entry_2 : decode cX8_entry 2 = .ok (.bipush 63, 2) := by decide +kernel
theorem dX8_entry_4 : decode cX8_entry 4 = .ok (.invokestatic 20, 3) := by decide +kernel
theorem dX8_entry_7 : decode cX8_entry 7 = .ok (.ifCond .eq 23, 3) := by decide +kernel
theorem dX8_entry_10 : decode cX8_entry 10 = .ok (.iload_n 2, 1) := by decide +kernel
theorem dX8_entry_11 : decode cX8_entry 11 = .ok (.iconst 0, 1) := by decide +kernel
theorem dX8_entry_12 : decode cX8_entry 12 = .ok (.sipush 159, 3) := by decide +kernel
theorem dX8_entry_15 : decode cX8_entry 15 = .ok (.invokestatic 20, 3) := by decide +kernel
theorem dX8_entry_18 : decode cX8_entry 18 = .ok (.ifCond .eq 12, 3) := by decide +kernel
theorem dX8_entry_21 : decode cX8_entry 21 = .ok (.iload_n 3, 1) := by decide +kernel
theorem dX8_entry_22 : decode cX8_entry 22 = .ok (.iload 4, 2) := by decide +kernel
theorem dX8_entry_24 : decode cX8_entry 24 = .ok (.invokestatic 67, 3) := by decide +kernel
theorem dX8_entry_27 : decode cX8_entry 27 = .ok (.ifCond .ne 5, 3) := by decide +kernel
theorem dX8_entry_30 : decode cX8_entry 30 = .ok (.iconst (-1), 1) := by decide +kernel
theorem dX8_entry_31 : decode cX8_entry 31 = .ok (.ireturn, 1) := by decide +kernel
theorem dX8_entry_32 : decode cX8_entry 32 = .ok (.aload_n 0, 1) := by decide +kernel
theorem dX8_entry_33 : decode cX8_entry 33 = .ok (.getfield 10, 3) := by decide +kernel
theorem dX8_entry_36 : decode cX8_entry 36 = .ok (.getfield 70, 3) := by decide +kernel
theorem dX8_entry_39 : decode cX8_entry 39 = .ok (.iload_n 1, 1) := by decide +kernel
theorem dX8_entry_40 : decode cX8_entry 40 = .ok (.iload_n 2, 1) := by decide +kernel
theorem dX8_entry_41 : decode cX8_entry 41 = .ok (.iload_n 3, 1) := by decide +kernel
theorem dX8_entry_42 : decode cX8_entry 42 = .ok (.iload 4, 2) := by decide +kernel
theorem dX8_entry_44 : decode cX8_entry 44 = .ok (.invokevirtual 74, 3) := by decide +kernel
theorem dX8_entry_47 : decode cX8_entry 47 = .ok (.ireturn, 1) := by decide +kernel
theorem dX8_clear_0 : decode cX8_clear 0 = .ok (.aload_n 0, 1) := by decide +kernel
theorem dX8_clear_1 : decode cX8_clear 1 = .ok (.getfield 10, 3) := by decide +kernel
theorem dX8_clear_4 : decode cX8_clear 4 = .ok (.getfield 70, 3) := by decide +kernel
theorem dX8_clear_7 : decode cX8_clear 7 = .ok (.iconst 0, 1) := by decide +kernel
theorem dX8_clear_8 : decode cX8_clear 8 = .ok (.putfield 80, 3) := by decide +kernel
theorem dX8_clear_11 : decode cX8_clear 11 = .ok (.return_, 1) := by decide +kernel
set_option maxRecDepth 20000 in
theorem ggX8_readers_X8_within : GoodIn wsX8_readers wsX8_within := goodIn_r _ [7] (by decide +kernel) (by decide +kernel)
set_option maxRecDepth 20000 in
theorem gX8_readers_X8_within : GoodIn wsX8_readers (va_wsS RX8 20 yX8_within wsX8_within) := goodIn_app (goodIn_of _ (by decide +kernel)) ggX8_readers_X8_within
theorem dX8_readers_0 : decode cX8_readers 0 = .ok (.iload_n 1, 1) := by decide +kernel
theorem dX8_readers_1 : decode cX8_readers 1 = .ok (.iconst 1, 1) := by decide +kernel
theorem dX8_readers_2 : decode cX8_readers 2 = .ok (.bipush 16, 2) := by decide +kernel
theorem dX8_readers_4 : decode cX8_readers 4 = .ok (.invokestatic 20, 3) := by decide +kernel
theorem dX8_readers_7 : decode cX8_readers 7 = .ok (.ifCond .ne 5, 3) := by decide +kernel
theorem dX8_readers_10 : decode cX8_readers 10 = .ok (.iconst 0, 1) := by decide +kernel
theorem dX8_readers_11 : decode cX8_readers 11 = .ok (.ireturn, 1) := by decide +kernel
theorem dX8_readers_12 : decode cX8_readers 12 = .ok (.aload_n 0, 1) := by decide +kernel
theorem dX8_readers_13 : decode cX8_readers 13 = .ok (.getfield 10, 3) := by decide +kernel
theorem dX8_readers_16 : decode cX8_readers 16 = .ok (.iload_n 1, 1) := by decide +kernel
theorem dX8_readers_17 : decode cX8_readers 17 = .ok (.putfield 84, 3) := by decide +kernel
theorem dX8_readers_20 : decode cX8_readers 20 = .ok (.aload_n 0, 1) := by decide +kernel
theorem dX8_readers_21 : decode cX8_readers 21 = .ok (.getfield 10, 3) := by decide +kernel
theorem dX8_readers_24 : decode cX8_readers 24 = .ok (.iload_n 2, 1) := by decide +kernel
theorem dX8_readers_25 : decode cX8_readers 25 = .ok (.putfield 87, 3) := by decide +kernel
theorem dX8_readers_28 : decode cX8_readers 28 = .ok (.iconst 1, 1) := by decide +kernel
theorem dX8_readers_29 : decode cX8_readers 29 = .ok (.ireturn, 1) := by decide +kernel
set_option maxRecDepth 20000 in
theorem ggX8_depth_X8_within : GoodIn wsX8_depth wsX8_within := goodIn_r _ [7] (by decide +kernel) (by decide +kernel)
set_option maxRecDepth 20000 in
theorem gX8_depth_X8_within : GoodIn wsX8_depth (va_wsS RX8 20 yX8_within wsX8_within) := goodIn_app (goodIn_of _ (by decide +kernel)) ggX8_depth_X8_within
theorem dX8_depth_0 : decode cX8_depth 0 = .ok (.iload_n 1, 1) := by decide +kernel
theorem dX8_depth_1 : decode cX8_depth 1 = .ok (.iconst 1, 1) := by decide +kernel
theorem dX8_depth_2 : decode cX8_depth 2 = .ok (.bipush 8, 2) := by decide +kernel
theorem dX8_depth_4 : decode cX8_depth 4 = .ok (.invokestatic 20, 3) := by decide +kernel
theorem dX8_depth_7 : decode cX8_depth 7 = .ok (.ifCond .ne 5, 3) := by decide +kernel
theorem dX8_depth_10 : decode cX8_depth 10 = .ok (.iconst 0, 1) := by decide +kernel
theorem dX8_depth_11 : decode cX8_depth 11 = .ok (.ireturn, 1) := by decide +kernel
theorem dX8_depth_12 : decode cX8_depth 12 = .ok (.aload_n 0, 1) := by decide +kernel
theorem dX8_depth_13 : decode cX8_depth 13 = .ok (.getfield 10, 3) := by decide +kernel
theorem dX8_depth_16 : decode cX8_depth 16 = .ok (.getfield 90, 3) := by decide +kernel
theorem dX8_depth_19 : decode cX8_depth 19 = .ok (.iload_n 1, 1) := by decide +kernel
theorem dX8_depth_20 : decode cX8_depth 20 = .ok (.putfield 94, 3) := by decide +kernel
theorem dX8_depth_23 : decode cX8_depth 23 = .ok (.iconst 1, 1) := by decide +kernel
theorem dX8_depth_24 : decode cX8_depth 24 = .ok (.ireturn, 1) := by decide +kernel
set_option maxRecDepth 20000 in
theorem ggX8_sprite_X8_within : GoodIn wsX8_sprite wsX8_within := goodIn_r _ [6] (by decide +kernel) (by decide +kernel)
set_option maxRecDepth 20000 in
theorem gX8_sprite_X8_within : GoodIn wsX8_sprite (va_wsS RX8 20 yX8_within wsX8_within) := goodIn_app (goodIn_of _ (by decide +kernel)) ggX8_sprite_X8_within
set_option maxRecDepth 20000 in
theorem ggX8_sprite_X7_move : GoodIn wsX8_sprite wsX7_move := goodIn_r _ [11, 12, 13, 14, 15, 16, 17, 10, 18, 19, 20, 21, 22, 23, 38, 39, 40, 41, 42] (by decide +kernel) (by decide +kernel)
set_option maxRecDepth 20000 in
theorem gX8_sprite_X7_move : GoodIn wsX8_sprite (wsV RX8 103 RX7 yX7_move wsX7_move) := goodIn_app (goodIn_of _ (by decide +kernel)) ggX8_sprite_X7_move
theorem dX8_sprite_0 : decode cX8_sprite 0 = .ok (.iload_n 1, 1) := by decide +kernel
theorem dX8_sprite_1 : decode cX8_sprite 1 = .ok (.iconst 0, 1) := by decide +kernel
theorem dX8_sprite_2 : decode cX8_sprite 2 = .ok (.bipush 7, 2) := by decide +kernel
theorem dX8_sprite_4 : decode cX8_sprite 4 = .ok (.invokestatic 20, 3) := by decide +kernel
theorem dX8_sprite_7 : decode cX8_sprite 7 = .ok (.ifCond .eq 35, 3) := by decide +kernel
theorem dX8_sprite_10 : decode cX8_sprite 10 = .ok (.iload_n 2, 1) := by decide +kernel
theorem dX8_sprite_11 : decode cX8_sprite 11 = .ok (.bipush (-8), 2) := by decide +kernel
theorem dX8_sprite_13 : decode cX8_sprite 13 = .ok (.bipush 63, 2) := by decide +kernel
theorem dX8_sprite_15 : decode cX8_sprite 15 = .ok (.invokestatic 20, 3) := by decide +kernel
theorem dX8_sprite_18 : decode cX8_sprite 18 = .ok (.ifCond .eq 24, 3) := by decide +kernel
theorem dX8_sprite_21 : decode cX8_sprite 21 = .ok (.iload_n 3, 1) := by decide +kernel
theorem dX8_sprite_22 : decode cX8_sprite 22 = .ok (.iconst 0, 1) := by decide +kernel
theorem dX8_sprite_23 : decode cX8_sprite 23 = .ok (.bipush 63, 2) := by decide +kernel
theorem dX8_sprite_25 : decode cX8_sprite 25 = .ok (.invokestatic 20, 3) := by decide +kernel
theorem dX8_sprite_28 : decode cX8_sprite 28 = .ok (.ifCond .eq 14, 3) := by decide +kernel
theorem dX8_sprite_31 : decode cX8_sprite 31 = .ok (.iload 4, 2) := by decide +kernel
theorem dX8_sprite_33 : decode cX8_sprite 33 = .ok (.iconst 0, 1) := by decide +kernel
theorem dX8_sprite_34 : decode cX8_sprite 34 = .ok (.bipush 8, 2) := by decide +kernel
theorem dX8_sprite_36 : decode cX8_sprite 36 = .ok (.invokestatic 20, 3) := by decide +kernel
theorem dX8_sprite_39 : decode cX8_sprite 39 = .ok (.ifCond .ne 5, 3) := by decide +kernel
theorem dX8_sprite_42 : decode cX8_sprite 42 = .ok (.iconst 0, 1) := by decide +kernel
theorem dX8_sprite_43 : decode cX8_sprite 43 = .ok (.ireturn, 1) := by decide +kernel
theorem dX8_sprite_44 : decode cX8_sprite 44 = .ok (.aload_n 0, 1) := by decide +kernel
theorem dX8_sprite_45 : decode cX8_sprite 45 = .ok (.getfield 10, 3) := by decide +kernel
theorem dX8_sprite_48 : decode cX8_sprite 48 = .ok (.getfield 99, 3) := by decide +kernel
theorem dX8_sprite_51 : decode cX8_sprite 51 = .ok (.iload_n 1, 1) := by decide +kernel
theorem dX8_sprite_52 : decode cX8_sprite 52 = .ok (.iload_n 2, 1) := by decide +kernel
theorem dX8_sprite_53 : decode cX8_sprite 53 = .ok (.iload_n 3, 1) := by decide +kernel
theorem dX8_sprite_54 : decode cX8_sprite 54 = .ok (.iload 4, 2) := by decide +kernel
theorem dX8_sprite_56 : decode cX8_sprite 56 = .ok (.invokevirtual 103, 3) := by decide +kernel
theorem dX8_sprite_59 : decode cX8_sprite 59 = .ok (.iconst 1, 1) := by decide +kernel
theorem dX8_sprite_60 : decode cX8_sprite 60 = .ok (.ireturn, 1) := by decide +kernel
set_option maxRecDepth 20000 in
theorem ggX8_bits_X8_within : GoodIn wsX8_bits wsX8_within := goodIn_r _ [6] (by decide +kernel) (by decide +kernel)
set_option maxRecDepth 20000 in
theorem gX8_bits_X8_within : GoodIn wsX8_bits (va_wsS RX8 20 yX8_within wsX8_within) := goodIn_app (goodIn_of _ (by decide +kernel)) ggX8_bits_X8_within
set_option maxRecDepth 20000 in
theorem ggX8_bits_X7_draw : GoodIn wsX8_bits wsX7_draw := goodIn_r _ [11, 12, 27, 28, 29, 30, 31] (by decide +kernel) (by decide +kernel)
set_option maxRecDepth 20000 in
theorem gX8_bits_X7_draw : GoodIn wsX8_bits (wsV RX8 108 RX7 yX7_draw wsX7_draw) := goodIn_app (goodIn_of _ (by decide +kernel)) ggX8_bits_X7_draw
theorem dX8_bits_0 : decode cX8_bits 0 = .ok (.iload_n 1, 1) := by decide +kernel
theorem dX8_bits_1 : decode cX8_bits 1 = .ok (.iconst 0, 1) := by decide +kernel
theorem dX8_bits_2 : decode cX8_bits 2 = .ok (.bipush 7, 2) := by decide +kernel
theorem dX8_bits_4 : decode cX8_bits 4 = .ok (.invokestatic 20, 3) := by decide +kernel
theorem dX8_bits_7 : decode cX8_bits 7 = .ok (.ifCond .ne 5, 3) := by decide +kernel
theorem dX8_bits_10 : decode cX8_bits 10 = .ok (.iconst 0, 1) := by decide +kernel
theorem dX8_bits_11 : decode cX8_bits 11 = .ok (.ireturn, 1) := by decide +kernel
theorem dX8_bits_12 : decode cX8_bits 12 = .ok (.aload_n 0, 1) := by decide +kernel
theorem dX8_bits_13 : decode cX8_bits 13 = .ok (.getfield 10, 3) := by decide +kernel
theorem dX8_bits_16 : decode cX8_bits 16 = .ok (.getfield 99, 3) := by decide +kernel
theorem dX8_bits_19 : decode cX8_bits 19 = .ok (.iload_n 1, 1) := by decide +kernel
theorem dX8_bits_20 : decode cX8_bits 20 = .ok (.iload_n 2, 1) := by decide +kernel
theorem dX8_bits_21 : decode cX8_bits 21 = .ok (.ifCond .eq 7, 3) := by decide +kernel
theorem dX8_bits_24 : decode cX8_bits 24 = .ok (.iconst 0, 1) := by decide +kernel
theorem dX8_bits_25 : decode cX8_bits 25 = .ok (.goto 4, 3) := by decide +kernel
theorem dX8_bits_28 : decode cX8_bits 28 = .ok (.iconst 4, 1) := by decide +kernel
theorem dX8_bits_29 : decode cX8_bits 29 = .ok (.iload_n 3, 1) := by decide +kernel
theorem dX8_bits_30 : decode cX8_bits 30 = .ok (.invokevirtual 108, 3) := by decide +kernel
theorem dX8_bits_33 : decode cX8_bits 33 = .ok (.iconst 1, 1) := by decide +kernel
theorem dX8_bits_34 : decode cX8_bits 34 = .ok (.ireturn, 1) := by decide +kernel
set_option maxRecDepth 20000 in
theorem ggX8_ticks_X8_within : GoodIn wsX8_ticks wsX8_within := goodIn_r _ [7] (by decide +kernel) (by decide +kernel)
set_option maxRecDepth 20000 in
theorem gX8_ticks_X8_within : GoodIn wsX8_ticks (va_wsS RX8 20 yX8_within wsX8_within) := goodIn_app (goodIn_of _ (by decide +kernel)) ggX8_ticks_X8_within
set_option maxRecDepth 20000 in
theorem ggX8_ticks_X3_tick : GoodIn wsX8_ticks wsX3_tick := goodIn_r _ [12, 13, 14, 15, 16, 17, 18, 19, 20, 21, 22, 23, 24, 25, 26, 27, 28, 29, 30, 31, 32, 33, 34, 35, 36, 37, 38, 39, 5, 6, 7, 40, 41, 42, 43, 44, 45, 46, 47, 48, 49, 50, 51, 11, 52, 53, 54, 55, 56, 57, 58, 59, 60, 61, 62, 63, 64, 65, 66, 67, 68, 69, 70, 71, 72, 73, 74, 75, 76, 77, 78, 79, 80, 81, 82, 83, 84, 85, 86, 87, 88, 89, 90, 91, 92, 93, 94, 95, 96, 97, 98, 99, 100, 101, 102, 103, 104, 105, 106, 107, 108, 109, 110, 111, 112, 113, 114, 115, 116, 117, 118, 119, 120, 121, 122, 123, 124, 125, 126, 127, 128, 129, 130, 131, 132, 133, 134, 135, 136, 137, 138, 139, 140, 141, 142, 143, 144, 145, 146, 147, 148, 149, 150, 151, 152, 153, 154, 155, 156, 157, 158, 159, 160, 161, 162, 163, 164, 165, 166, 167, 168, 169, 170, 171, 172, 173, 174, 175, 176, 177, 178, 179, 180, 181, 4, 182, 183, 184, 185, 186, 187, 188, 189, 190, 191, 192, 193, 194, 195, 196, 197, 198, 199, 200, 201, 202, 203, 204, 205, 206, 207, 208, 209, 210, 211, 212, 213, 214, 215, 218, 219, 220, 221, 222, 223, 224, 225, 226, 227, 228, 229, 230, 231, 232, 233, 234, 235, 236, 237, 238, 239, 240, 241, 242, 243, 244, 245, 246, 247, 248, 249, 250, 251, 252, 253, 254, 255, 256, 257, 258, 259, 260, 261, 262, 263, 264, 265] (by decide +kernel) (by decide +kernel)
set_option maxRecDepth 20000 in
theorem gX8_ticks_X3_tick : GoodIn wsX8_ticks (wsV RX8 116 RX3 yX3_tick wsX3_tick) := goodIn_app (goodIn_of _ (by decide +kernel)) ggX8_ticks_X3_tick
theorem dX8_ticks_0 : decode cX8_ticks 0 = .ok (.iload_n 1, 1) := by decide +kernel
theorem dX8_ticks_1 : decode cX8_ticks 1 = .ok (.iconst 1, 1) := by decide +kernel
theorem dX8_ticks_2 : decode cX8_ticks 2 = .ok (.sipush 4000, 3) := by decide +kernel
theorem dX8_ticks_5 : decode cX8_ticks 5 = .ok (.invokestatic 20, 3) := by decide +kernel
theorem dX8_ticks_8 : decode cX8_ticks 8 = .ok (.ifCond .eq 17, 3) := by decide +kernel
theorem dX8_ticks_11 : decode cX8_ticks 11 = .ok (.aload_n 0, 1) := by decide +kernel
theorem dX8_ticks_12 : decode cX8_ticks 12 = .ok (.getfield 10, 3) := by decide +kernel
theorem dX8_ticks_15 : decode cX8_ticks 15 = .ok (.getfield 112, 3) := by decide +kernel
theorem dX8_ticks_18 : decode cX8_ticks 18 = .ok (.ldc 115, 2) := by decide +kernel
theorem dX8_ticks_20 : decode cX8_ticks 20 = .ok (.iload_n 1, 1) := by decide +kernel
theorem dX8_ticks_21 : decode cX8_ticks 21 = .ok (.isub, 1) := by decide +kernel
theorem dX8_ticks_22 : decode cX8_ticks 22 = .ok (.if_icmp .le 5, 3) := by decide +kernel
theorem dX8_ticks_25 : decode cX8_ticks 25 = .ok (.iconst (-1), 1) := by decide +kernel
theorem dX8_ticks_26 : decode cX8_ticks 26 = .ok (.ireturn, 1) := by decide +kernel
theorem dX8_ticks_27 : decode cX8_ticks 27 = .ok (.iconst 0, 1) := by decide +kernel
theorem dX8_ticks_28 : decode cX8_ticks 28 = .ok (.istore_n 2, 1) := by decide +kernel
theorem dX8_ticks_29 : decode cX8_ticks 29 = .ok (.iload_n 2, 1) := by decide +kernel
theorem dX8_ticks_30 : decode cX8_ticks 30 = .ok (.iload_n 1, 1) := by decide +kernel
theorem dX8_ticks_31 : decode cX8_ticks 31 = .ok (.if_icmp .ge 16, 3) := by decide +kernel
theorem dX8_ticks_34 : decode cX8_ticks 34 = .ok (.aload_n 0, 1) := by decide +kernel
theorem dX8_ticks_35 : decode cX8_ticks 35 = .ok (.getfield 10, 3) := by decide +kernel
theorem dX8_ticks_38 : decode cX8_ticks 38 = .ok (.invokevirtual 116, 3) := by decide +kernel
theorem dX8_ticks_41 : decode cX8_ticks 41 = .ok (.iinc 2 1, 3) := by decide +kernel
theorem dX8_ticks_44 : decode cX8_ticks 44 = .ok (.goto (-15), 3) := by decide +kernel
theorem dX8_ticks_47 : decode cX8_ticks 47 = .ok (.aload_n 0, 1) := by decide +kernel
theorem dX8_ticks_48 : decode cX8_ticks 48 = .ok (.getfield 10, 3) := by decide +kernel
theorem dX8_ticks_51 : decode cX8_ticks 51 = .ok (.getfield 112, 3) := by decide +kernel
theorem dX8_ticks_54 : decode cX8_ticks 54 = .ok (.ireturn, 1) := by decide +kernel
set_option maxRecDepth 20000 in
theorem ggX8_shown_X8_placeOf : GoodIn wsX8_shown wsX8_placeOf := goodIn_r _ [6, 7, 8, 5, 9] (by decide +kernel) (by decide +kernel)
set_option maxRecDepth 20000 in
theorem gX8_shown_X8_placeOf : GoodIn wsX8_shown (va_wsS RX8 119 yX8_placeOf wsX8_placeOf) := goodIn_app (goodIn_of _ (by decide +kernel)) ggX8_shown_X8_placeOf
theorem dX8_shown_0 : decode cX8_shown 0 = .ok (.iload_n 1, 1) := by decide +kernel
theorem dX8_shown_1 : decode cX8_shown 1 = .ok (.iload_n 2, 1) := by decide +kernel
theorem dX8_shown_2 : decode cX8_shown 2 = .ok (.invokestatic 119, 3) := by decide +kernel
theorem dX8_shown_5 : decode cX8_shown 5 = .ok (.istore_n 3, 1) := by decide +kernel
theorem dX8_shown_6 : decode cX8_shown 6 = .ok (.iload_n 3, 1) := by decide +kernel
theorem dX8_shown_7 : decode cX8_shown 7 = .ok (.iconst (-1), 1) := by decide +kernel
theorem dX8_shown_8 : decode cX8_shown 8 = .ok (.if_icmp .ne 8, 3) := by decide +kernel
theorem dX8_shown_11 : decode cX8_shown 11 = .ok (.bipush (-2), 2) := by decide +kernel
theorem dX8_shown_13 : decode cX8_shown 13 = .ok (.goto 12, 3) := by decide +kernel
theorem dX8_shown_16 : decode cX8_shown 16 = .ok (.aload_n 0, 1) := by decide +kernel
theorem dX8_shown_17 : decode cX8_shown 17 = .ok (.getfield 10, 3) := by decide +kernel
theorem dX8_shown_20 : decode cX8_shown 20 = .ok (.getfield 123, 3) := by decide +kernel
theorem dX8_shown_23 : decode cX8_shown 23 = .ok (.iload_n 3, 1) := by decide +kernel
theorem dX8_shown_24 : decode cX8_shown 24 = .ok (.iaload, 1) := by decide +kernel
theorem dX8_shown_25 : decode cX8_shown 25 = .ok (.ireturn, 1) := by decide +kernel
set_option maxRecDepth 20000 in
theorem ggX8_now_X0_signalsHere : GoodIn wsX8_now wsX0_signalsHere := goodIn_r _ [19, 20, 21, 22, 23, 24, 25, 26, 27, 28, 29, 30, 31, 32, 33, 34, 35, 18, 36, 37, 38, 39, 40, 68, 69, 70, 71, 72, 73, 74, 75, 76, 77, 89, 90, 91, 92] (by decide +kernel) (by decide +kernel)
set_option maxRecDepth 20000 in
theorem gX8_now_X0_signalsHere : GoodIn wsX8_now (wsV RX8 136 RX0 yX0_signalsHere wsX0_signalsHere) := goodIn_app (goodIn_of _ (by decide +kernel)) ggX8_now_X0_signalsHere
set_option maxRecDepth 20000 in
theorem ggX8_now_X6_whole : GoodIn wsX8_now wsX6_whole := goodIn_r _ [44, 30, 31, 32, 45, 89, 90, 91, 92] (by decide +kernel) (by decide +kernel)
set_option maxRecDepth 20000 in
theorem gX8_now_X6_whole : GoodIn wsX8_now (wsV RX8 143 RX6 yX6_whole wsX6_whole) := goodIn_app (goodIn_of _ (by decide +kernel)) ggX8_now_X6_whole
set_option maxRecDepth 20000 in
theorem ggX8_now_X3_isTaken : GoodIn wsX8_now wsX3_isTaken := goodIn_r _ [50, 51, 52, 53, 56, 57, 58, 59, 60, 61, 62, 63, 64, 65, 66, 67] (by decide +kernel) (by decide +kernel)
set_option maxRecDepth 20000 in
theorem gX8_now_X3_isTaken : GoodIn wsX8_now (wsV RX8 159 RX3 yX3_isTaken wsX3_isTaken) := goodIn_app (goodIn_of _ (by decide +kernel)) ggX8_now_X3_isTaken
theorem dX8_now_0 : decode cX8_now 0 = .ok (.aload_n 0, 1) := by decide +kernel
theorem dX8_now_1 : decode cX8_now 1 = .ok (.getfield 10, 3) := by decide +kernel
theorem dX8_now_4 : decode cX8_now 4 = .ok (.getfield 24, 3) := by decide +kernel
theorem dX8_now_7 : decode cX8_now 7 = .ok (.astore_n 2, 1) := by decide +kernel
theorem dX8_now_8 : decode cX8_now 8 = .ok (.iload_n 1, 1) := by decide +kernel
theorem dX8_now_9 : decode cX8_now 9 = .ok (.tableswitch 173 0 11 #[63, 68, 73, 78, 83, 94, 105, 116, 127, 138, 146, 157], 63) := by decide +kernel
theorem dX8_now_72 : decode cX8_now 72 = .ok (.aload_n 2, 1) := by decide +kernel
theorem dX8_now_73 : decode cX8_now 73 = .ok (.getfield 127, 3) := by decide +kernel
theorem dX8_now_76 : decode cX8_now 76 = .ok (.ireturn, 1) := by decide +kernel
theorem dX8_now_77 : decode cX8_now 77 = .ok (.aload_n 2, 1) := by decide +kernel
theorem dX8_now_78 : decode cX8_now 78 = .ok (.getfield 130, 3) := by decide +kernel
theorem dX8_now_81 : decode cX8_now 81 = .ok (.ireturn, 1) := by decide +kernel
theorem dX8_now_82 : decode cX8_now 82 = .ok (.aload_n 2, 1) := by decide +kernel
theorem dX8_now_83 : decode cX8_now 83 = .ok (.getfield 133, 3) := by decide +kernel
theorem dX8_now_86 : decode cX8_now 86 = .ok (.ireturn, 1) := by decide +kernel
theorem dX8_now_87 : decode cX8_now 87 = .ok (.aload_n 2, 1) := by decide +kernel
theorem dX8_now_88 : decode cX8_now 88 = .ok (.invokevirtual 136, 3) := by decide +kernel
theorem dX8_now_91 : decode cX8_now 91 = .ok (.ireturn, 1) := by decide +kernel
theorem dX8_now_92 : decode cX8_now 92 = .ok (.aload_n 2, 1) := by decide +kernel
theorem dX8_now_93 : decode cX8_now 93 = .ok (.getfield 140, 3) := by decide +kernel
theorem dX8_now_96 : decode cX8_now 96 = .ok (.getfield 34, 3) := by decide +kernel
theorem dX8_now_99 : decode cX8_now 99 = .ok (.invokevirtual 143, 3) := by decide +kernel
theorem dX8_now_102 : decode cX8_now 102 = .ok (.ireturn, 1) := by decide +kernel
theorem dX8_now_103 : decode cX8_now 103 = .ok (.aload_n 2, 1) := by decide +kernel
theorem dX8_now_104 : decode cX8_now 104 = .ok (.getfield 140, 3) := by decide +kernel
theorem dX8_now_107 : decode cX8_now 107 = .ok (.getfield 46, 3) := by decide +kernel
theorem dX8_now_110 : decode cX8_now 110 = .ok (.invokevirtual 143, 3) := by decide +kernel
theorem dX8_now_113 : decode cX8_now 113 = .ok (.ireturn, 1) := by decide +kernel
theorem dX8_now_114 : decode cX8_now 114 = .ok (.aload_n 0, 1) := by decide +kernel
theorem dX8_now_115 : decode cX8_now 115 = .ok (.getfield 10, 3) := by decide +kernel
theorem dX8_now_118 : decode cX8_now 118 = .ok (.getfield 90, 3) := by decide +kernel
theorem dX8_now_121 : decode cX8_now 121 = .ok (.getfield 146, 3) := by decide +kernel
theorem dX8_now_124 : decode cX8_now 124 = .ok (.ireturn, 1) := by decide +kernel
theorem dX8_now_125 : decode cX8_now 125 = .ok (.aload_n 0, 1) := by decide +kernel
theorem dX8_now_126 : decode cX8_now 126 = .ok (.getfield 10, 3) := by decide +kernel
theorem dX8_now_129 : decode cX8_now 129 = .ok (.getfield 90, 3) := by decide +kernel
theorem dX8_now_132 : decode cX8_now 132 = .ok (.getfield 147, 3) := by decide +kernel
theorem dX8_now_135 : decode cX8_now 135 = .ok (.ireturn, 1) := by decide +kernel
theorem dX8_now_136 : decode cX8_now 136 = .ok (.aload_n 0, 1) := by decide +kernel
theorem dX8_now_137 : decode cX8_now 137 = .ok (.getfield 10, 3) := by decide +kernel
theorem dX8_now_140 : decode cX8_now 140 = .ok (.getfield 90, 3) := by decide +kernel
theorem dX8_now_143 : decode cX8_now 143 = .ok (.getfield 150, 3) := by decide +kernel
theorem dX8_now_146 : decode cX8_now 146 = .ok (.ireturn, 1) := by decide +kernel
theorem dX8_now_147 : decode cX8_now 147 = .ok (.aload_n 0, 1) := by decide +kernel
theorem dX8_now_148 : decode cX8_now 148 = .ok (.getfield 10, 3) := by decide +kernel
theorem dX8_now_151 : decode cX8_now 151 = .ok (.getfield 153, 3) := by decide +kernel
theorem dX8_now_154 : decode cX8_now 154 = .ok (.ireturn, 1) := by decide +kernel
theorem dX8_now_155 : decode cX8_now 155 = .ok (.aload_n 0, 1) := by decide +kernel
theorem dX8_now_156 : decode cX8_now 156 = .ok (.getfield 10, 3) := by decide +kernel
theorem dX8_now_159 : decode cX8_now 159 = .ok (.getfield 90, 3) := by decide +kernel
theorem dX8_now_162 : decode cX8_now 162 = .ok (.getfield 156, 3) := by decide +kernel
theorem dX8_now_165 : decode cX8_now 165 = .ok (.ireturn, 1) := by decide +kernel
theorem dX8_now_166 : decode cX8_now 166 = .ok (.aload_n 0, 1) := by decide +kernel
theorem dX8_now_167 : decode cX8_now 167 = .ok (.getfield 10, 3) := by decide +kernel
theorem dX8_now_170 : decode cX8_now 170 = .ok (.invokevirtual 159, 3) := by decide +kernel
theorem dX8_now_173 : decode cX8_now 173 = .ok (.ifCond .eq 7, 3) := by decide +kernel
theorem dX8_now_176 : decode cX8_now 176 = .ok (.iconst 1, 1) := by decide +kernel
theorem dX8_now_177 : decode cX8_now 177 = .ok (.goto 4, 3) := by decide +kernel
theorem dX8_now_180 : decode cX8_now 180 = .ok (.iconst 0, 1) := by decide +kernel
theorem dX8_now_181 : decode cX8_now 181 = .ok (.ireturn, 1) := by decide +kernel
theorem dX8_now_182 : decode cX8_now 182 = .ok (.iconst (-1), 1) := by decide +kernel
theorem dX8_now_183 : decode cX8_now 183 = .ok (.ireturn, 1) := by decide +kernel
set_option maxRecDepth 20000 in
theorem ggX8_signals_X8_within : GoodIn wsX8_signals wsX8_within := goodIn_r _ [7] (by decide +kernel) (by decide +kernel)
set_option maxRecDepth 20000 in
theorem gX8_signals_X8_within : GoodIn wsX8_signals (va_wsS RX8 20 yX8_within wsX8_within) := goodIn_app (goodIn_of _ (by decide +kernel)) ggX8_signals_X8_within
theorem dX8_signals_0 : decode cX8_signals 0 = .ok (.iload_n 1, 1) := by decide +kernel
theorem dX8_signals_1 : decode cX8_signals 1 = .ok (.iconst 1, 1) := by decide +kernel
theorem dX8_signals_2 : decode cX8_signals 2 = .ok (.sipush 512, 3) := by decide +kernel
theorem dX8_signals_5 : decode cX8_signals 5 = .ok (.invokestatic 20, 3) := by decide +kernel
theorem dX8_signals_8 : decode cX8_signals 8 = .ok (.ifCond .eq 14, 3) := by decide +kernel
theorem dX8_signals_11 : decode cX8_signals 11 = .ok (.iload_n 1, 1) := by decide +kernel
theorem dX8_signals_12 : decode cX8_signals 12 = .ok (.aload_n 0, 1) := by decide +kernel
theorem dX8_signals_13 : decode cX8_signals 13 = .ok (.getfield 10, 3) := by decide +kernel
theorem dX8_signals_16 : decode cX8_signals 16 = .ok (.getfield 112, 3) := by decide +kernel
theorem dX8_signals_19 : decode cX8_signals 19 = .ok (.if_icmp .le 5, 3) := by decide +kernel
theorem dX8_signals_22 : decode cX8_signals 22 = .ok (.iconst (-1), 1) := by decide +kernel
theorem dX8_signals_23 : decode cX8_signals 23 = .ok (.ireturn, 1) := by decide +kernel
theorem dX8_signals_24 : decode cX8_signals 24 = .ok (.aload_n 0, 1) := by decide +kernel
theorem dX8_signals_25 : decode cX8_signals 25 = .ok (.getfield 10, 3) := by decide +kernel
theorem dX8_signals_28 : decode cX8_signals 28 = .ok (.getfield 163, 3) := by decide +kernel
theorem dX8_signals_31 : decode cX8_signals 31 = .ok (.aload_n 0, 1) := by decide +kernel
theorem dX8_signals_32 : decode cX8_signals 32 = .ok (.getfield 10, 3) := by decide +kernel
theorem dX8_signals_35 : decode cX8_signals 35 = .ok (.getfield 112, 3) := by decide +kernel
theorem dX8_signals_38 : decode cX8_signals 38 = .ok (.iload_n 1, 1) := by decide +kernel
theorem dX8_signals_39 : decode cX8_signals 39 = .ok (.isub, 1) := by decide +kernel
theorem dX8_signals_40 : decode cX8_signals 40 = .ok (.sipush 512, 3) := by decide +kernel
theorem dX8_signals_43 : decode cX8_signals 43 = .ok (.irem, 1) := by decide +kernel
theorem dX8_signals_44 : decode cX8_signals 44 = .ok (.iaload, 1) := by decide +kernel
theorem dX8_signals_45 : decode cX8_signals 45 = .ok (.ireturn, 1) := by decide +kernel
set_option maxRecDepth 20000 in
theorem ggX8_value_X5_read : GoodIn wsX8_value wsX5_read := goodIn_r _ [7, 8, 9, 10, 11, 26] (by decide +kernel) (by decide +kernel)
set_option maxRecDepth 20000 in
theorem gX8_value_X5_read : GoodIn wsX8_value (wsV RX8 166 RX5 yX5_read wsX5_read) := goodIn_app (goodIn_of _ (by decide +kernel)) ggX8_value_X5_read
theorem dX8_value_0 : decode cX8_value 0 = .ok (.aload_n 0, 1) := by decide +kernel
theorem dX8_value_1 : decode cX8_value 1 = .ok (.getfield 10, 3) := by decide +kernel
theorem dX8_value_4 : decode cX8_value 4 = .ok (.getfield 57, 3) := by decide +kernel
theorem dX8_value_7 : decode cX8_value 7 = .ok (.iload_n 1, 1) := by decide +kernel
theorem dX8_value_8 : decode cX8_value 8 = .ok (.invokevirtual 166, 3) := by decide +kernel
theorem dX8_value_11 : decode cX8_value 11 = .ok (.ireturn, 1) := by decide +kernel
set_option maxRecDepth 20000 in
theorem ggX8_row_X8_within : GoodIn wsX8_row wsX8_within := goodIn_r _ [14] (by decide +kernel) (by decide +kernel)
set_option maxRecDepth 20000 in
theorem gX8_row_X8_within : GoodIn wsX8_row (va_wsS RX8 20 yX8_within wsX8_within) := goodIn_app (goodIn_of _ (by decide +kernel)) ggX8_row_X8_within
set_option maxRecDepth 20000 in
theorem ggX8_row_J6_bitCount_0f7a4 : GoodIn wsX8_row wsJ6_bitCount_0f7a4 := goodIn_r _ [18, 19, 20, 21] (by decide +kernel) (by decide +kernel)
set_option maxRecDepth 20000 in
theorem gX8_row_J6_bitCount_0f7a4 : GoodIn wsX8_row (va_wsS RX8 173 yJ6_bitCount_0f7a4 wsJ6_bitCount_0f7a4) := goodIn_app (goodIn_of _ (by decide +kernel)) ggX8_row_J6_bitCount_0f7a4
set_option maxRecDepth 20000 in
theorem ggX8_row_X7_membersOf : GoodIn wsX8_row wsX7_membersOf := goodIn_r _ [26, 27, 42, 43, 44, 45, 46] (by decide +kernel) (by decide +kernel)
set_option maxRecDepth 20000 in
theorem gX8_row_X7_membersOf : GoodIn wsX8_row (wsV RX8 186 RX7 yX7_membersOf wsX7_membersOf) := goodIn_app (goodIn_of _ (by decide +kernel)) ggX8_row_X7_membersOf
theorem dX8_row_0 : decode cX8_row 0 = .ok (.iload_n 1, 1) := by decide +kernel
theorem dX8_row_1 : decode cX8_row 1 = .ok (.iconst 0, 1) := by decide +kernel
theorem dX8_row_2 : decode cX8_row 2 = .ok (.bipush 63, 2) := by decide +kernel
theorem dX8_row_4 : decode cX8_row 4 = .ok (.invokestatic 20, 3) := by decide +kernel
theorem dX8_row_7 : decode cX8_row 7 = .ok (.ifCond .ne 5, 3) := by decide +kernel
theorem dX8_row_10 : decode cX8_row 10 = .ok (.iconst (-1), 1) := by decide +kernel
theorem dX8_row_11 : decode cX8_row 11 = .ok (.ireturn, 1) := by decide +kernel
theorem dX8_row_12 : decode cX8_row 12 = .ok (.aload_n 0, 1) := by decide +kernel
theorem dX8_row_13 : decode cX8_row 13 = .ok (.getfield 10, 3) := by decide +kernel
theorem dX8_row_16 : decode cX8_row 16 = .ok (.getfield 99, 3) := by decide +kernel
theorem dX8_row_19 : decode cX8_row 19 = .ok (.getfield 170, 3) := by decide +kernel
theorem dX8_row_22 : decode cX8_row 22 = .ok (.iload_n 1, 1) := by decide +kernel
theorem dX8_row_23 : decode cX8_row 23 = .ok (.iaload, 1) := by decide +kernel
theorem dX8_row_24 : decode cX8_row 24 = .ok (.invokestatic 173, 3) := by decide +kernel
theorem dX8_row_27 : decode cX8_row 27 = .ok (.istore_n 3, 1) := by decide +kernel
theorem dX8_row_28 : decode cX8_row 28 = .ok (.iload_n 2, 1) := by decide +kernel
theorem dX8_row_29 : decode cX8_row 29 = .ok (.tableswitch 53 0 2 #[27, 35, 41], 27) := by decide +kernel
theorem dX8_row_56 : decode cX8_row 56 = .ok (.iload_n 3, 1) := by decide +kernel
theorem dX8_row_57 : decode cX8_row 57 = .ok (.iconst 3, 1) := by decide +kernel
theorem dX8_row_58 : decode cX8_row 58 = .ok (.isub, 1) := by decide +kernel
theorem dX8_row_59 : decode cX8_row 59 = .ok (.iconst 0, 1) := by decide +kernel
theorem dX8_row_60 : decode cX8_row 60 = .ok (.invokestatic 178, 3) := by decide +kernel
theorem dX8_row_63 : decode cX8_row 63 = .ok (.ireturn, 1) := by decide +kernel
theorem dX8_row_64 : decode cX8_row 64 = .ok (.iload_n 3, 1) := by decide +kernel
theorem dX8_row_65 : decode cX8_row 65 = .ok (.iconst 3, 1) := by decide +kernel
theorem dX8_row_66 : decode cX8_row 66 = .ok (.invokestatic 183, 3) := by decide +kernel
theorem dX8_row_69 : decode cX8_row 69 = .ok (.ireturn, 1) := by decide +kernel
theorem dX8_row_70 : decode cX8_row 70 = .ok (.aload_n 0, 1) := by decide +kernel
theorem dX8_row_71 : decode cX8_row 71 = .ok (.getfield 10, 3) := by decide +kernel
theorem dX8_row_74 : decode cX8_row 74 = .ok (.getfield 99, 3) := by decide +kernel
theorem dX8_row_77 : decode cX8_row 77 = .ok (.iload_n 1, 1) := by decide +kernel
theorem dX8_row_78 : decode cX8_row 78 = .ok (.invokevirtual 186, 3) := by decide +kernel
theorem dX8_row_81 : decode cX8_row 81 = .ok (.ireturn, 1) := by decide +kernel
theorem dX8_row_82 : decode cX8_row 82 = .ok (.iconst (-1), 1) := by decide +kernel
theorem dX8_row_83 : decode cX8_row 83 = .ok (.ireturn, 1) := by decide +kernel
set_option maxRecDepth 20000 in
theorem ggX8_least_X8_within : GoodIn wsX8_least wsX8_within := goodIn_r _ [11] (by decide +kernel) (by decide +kernel)
set_option maxRecDepth 20000 in
theorem gX8_least_X8_within : GoodIn wsX8_least (va_wsS RX8 20 yX8_within wsX8_within) := goodIn_app (goodIn_of _ (by decide +kernel)) ggX8_least_X8_within
set_option maxRecDepth 20000 in
theorem ggX8_least_X8_fewestQueued : GoodIn wsX8_least wsX8_fewestQueued := goodIn_r _ [15, 1, 16, 17, 18, 2, 3, 19, 4, 5, 6, 7, 20, 21, 10, 22, 23, 24, 25, 26, 27, 28, 29, 30, 31, 32, 33, 34, 35, 36, 37, 38, 39, 40, 41, 42, 43, 44, 45, 57, 58, 59, 60, 61, 62, 63, 64, 65, 66, 46, 47, 48, 49, 50, 51, 52, 53, 54, 55, 56, 67, 68, 69, 70] (by decide +kernel) (by decide +kernel)
set_option maxRecDepth 20000 in
theorem gX8_least_X8_fewestQueued : GoodIn wsX8_least (wsV RX8 189 RX8 yX8_fewestQueued wsX8_fewestQueued) := goodIn_app (goodIn_of _ (by decide +kernel)) ggX8_least_X8_fewestQueued
theorem dX8_least_0 : decode cX8_least 0 = .ok (.iload_n 1, 1) := by decide +kernel
theorem dX8_least_1 : decode cX8_least 1 = .ok (.iconst 1, 1) := by decide +kernel
theorem dX8_least_2 : decode cX8_least 2 = .ok (.bipush 10, 2) := by decide +kernel
theorem dX8_least_4 : decode cX8_least 4 = .ok (.invokestatic 20, 3) := by decide +kernel
theorem dX8_least_7 : decode cX8_least 7 = .ok (.ifCond .eq 12, 3) := by decide +kernel
theorem dX8_least_10 : decode cX8_least 10 = .ok (.iload_n 2, 1) := by decide +kernel
theorem dX8_least_11 : decode cX8_least 11 = .ok (.iconst 0, 1) := by decide +kernel
theorem dX8_least_12 : decode cX8_least 12 = .ok (.iload_n 1, 1) := by decide +kernel
theorem dX8_least_13 : decode cX8_least 13 = .ok (.invokestatic 20, 3) := by decide +kernel
theorem dX8_least_16 : decode cX8_least 16 = .ok (.ifCond .ne 5, 3) := by decide +kernel
theorem dX8_least_19 : decode cX8_least 19 = .ok (.iconst (-1), 1) := by decide +kernel
theorem dX8_least_20 : decode cX8_least 20 = .ok (.ireturn, 1) := by decide +kernel
theorem dX8_least_21 : decode cX8_least 21 = .ok (.aload_n 0, 1) := by decide +kernel
theorem dX8_least_22 : decode cX8_least 22 = .ok (.getfield 10, 3) := by decide +kernel
theorem dX8_least_25 : decode cX8_least 25 = .ok (.getfield 90, 3) := by decide +kernel
theorem dX8_least_28 : decode cX8_least 28 = .ok (.getfield 94, 3) := by decide +kernel
theorem dX8_least_31 : decode cX8_least 31 = .ok (.istore_n 3, 1) := by decide +kernel
theorem dX8_least_32 : decode cX8_least 32 = .ok (.iconst 0, 1) := by decide +kernel
theorem dX8_least_33 : decode cX8_least 33 = .ok (.istore 4, 2) := by decide +kernel
theorem dX8_least_35 : decode cX8_least 35 = .ok (.iload 4, 2) := by decide +kernel
theorem dX8_least_37 : decode cX8_least 37 = .ok (.iload_n 1, 1) := by decide +kernel
theorem dX8_least_38 : decode cX8_least 38 = .ok (.if_icmp .ge 22, 3) := by decide +kernel
theorem dX8_least_41 : decode cX8_least 41 = .ok (.iload_n 3, 1) := by decide +kernel
theorem dX8_least_42 : decode cX8_least 42 = .ok (.aload_n 0, 1) := by decide +kernel
theorem dX8_least_43 : decode cX8_least 43 = .ok (.iload_n 1, 1) := by decide +kernel
theorem dX8_least_44 : decode cX8_least 44 = .ok (.iload_n 2, 1) := by decide +kernel
theorem dX8_least_45 : decode cX8_least 45 = .ok (.iload 4, 2) := by decide +kernel
theorem dX8_least_47 : decode cX8_least 47 = .ok (.invokevirtual 189, 3) := by decide +kernel
theorem dX8_least_50 : decode cX8_least 50 = .ok (.invokestatic 183, 3) := by decide +kernel
theorem dX8_least_53 : decode cX8_least 53 = .ok (.istore_n 3, 1) := by decide +kernel
theorem dX8_least_54 : decode cX8_least 54 = .ok (.iinc 4 1, 3) := by decide +kernel
theorem dX8_least_57 : decode cX8_least 57 = .ok (.goto (-22), 3) := by decide +kernel
theorem dX8_least_60 : decode cX8_least 60 = .ok (.iload_n 3, 1) := by decide +kernel
theorem dX8_least_61 : decode cX8_least 61 = .ok (.ireturn, 1) := by decide +kernel
set_option maxRecDepth 20000 in
theorem ggX8_fit_X8_within : GoodIn wsX8_fit wsX8_within := goodIn_r _ [12] (by decide +kernel) (by decide +kernel)
set_option maxRecDepth 20000 in
theorem gX8_fit_X8_within : GoodIn wsX8_fit (va_wsS RX8 20 yX8_within wsX8_within) := goodIn_app (goodIn_of _ (by decide +kernel)) ggX8_fit_X8_within
set_option maxRecDepth 20000 in
theorem ggX8_fit_X8_areFitBounds : GoodIn wsX8_fit wsX8_areFitBounds := goodIn_r _ [15, 9, 10, 11, 12] (by decide +kernel) (by decide +kernel)
set_option maxRecDepth 20000 in
theorem gX8_fit_X8_areFitBounds : GoodIn wsX8_fit (va_wsS RX8 193 yX8_areFitBounds wsX8_areFitBounds) := goodIn_app (goodIn_of _ (by decide +kernel)) ggX8_fit_X8_areFitBounds
set_option maxRecDepth 20000 in
theorem ggX8_fit_X8_isNearer : GoodIn wsX8_fit wsX8_isNearer := goodIn_r _ [18, 19, 20, 4, 21] (by decide +kernel) (by decide +kernel)
set_option maxRecDepth 20000 in
theorem gX8_fit_X8_isNearer : GoodIn wsX8_fit (va_wsS RX8 196 yX8_isNearer wsX8_isNearer) := goodIn_app (goodIn_of _ (by decide +kernel)) ggX8_fit_X8_isNearer
theorem dX8_fit_0 : decode cX8_fit 0 = .ok (.iload_n 1, 1) := by decide +kernel
theorem dX8_fit_1 : decode cX8_fit 1 = .ok (.iconst 1, 1) := by decide +kernel
theorem dX8_fit_2 : decode cX8_fit 2 = .ok (.ldc 115, 2) := by decide +kernel
theorem dX8_fit_4 : decode cX8_fit 4 = .ok (.invokestatic 20, 3) := by decide +kernel
theorem dX8_fit_7 : decode cX8_fit 7 = .ok (.ifCond .eq 33, 3) := by decide +kernel
theorem dX8_fit_10 : decode cX8_fit 10 = .ok (.iload_n 2, 1) := by decide +kernel
theorem dX8_fit_11 : decode cX8_fit 11 = .ok (.iconst 1, 1) := by decide +kernel
theorem dX8_fit_12 : decode cX8_fit 12 = .ok (.sipush 1000, 3) := by decide +kernel
theorem dX8_fit_15 : decode cX8_fit 15 = .ok (.invokestatic 20, 3) := by decide +kernel
theorem dX8_fit_18 : decode cX8_fit 18 = .ok (.ifCond .eq 22, 3) := by decide +kernel
theorem dX8_fit_21 : decode cX8_fit 21 = .ok (.iload_n 3, 1) := by decide +kernel
theorem dX8_fit_22 : decode cX8_fit 22 = .ok (.iload 4, 2) := by decide +kernel
theorem dX8_fit_24 : decode cX8_fit 24 = .ok (.invokestatic 193, 3) := by decide +kernel
theorem dX8_fit_27 : decode cX8_fit 27 = .ok (.ifCond .eq 13, 3) := by decide +kernel
theorem dX8_fit_30 : decode cX8_fit 30 = .ok (.iload 5, 2) := by decide +kernel
theorem dX8_fit_32 : decode cX8_fit 32 = .ok (.iload 6, 2) := by decide +kernel
theorem dX8_fit_34 : decode cX8_fit 34 = .ok (.invokestatic 193, 3) := by decide +kernel
theorem dX8_fit_37 : decode cX8_fit 37 = .ok (.ifCond .ne 5, 3) := by decide +kernel
theorem dX8_fit_40 : decode cX8_fit 40 = .ok (.iconst (-1), 1) := by decide +kernel
theorem dX8_fit_41 : decode cX8_fit 41 = .ok (.ireturn, 1) := by decide +kernel
theorem dX8_fit_42 : decode cX8_fit 42 = .ok (.iload_n 3, 1) := by decide +kernel
theorem dX8_fit_43 : decode cX8_fit 43 = .ok (.istore 7, 2) := by decide +kernel
theorem dX8_fit_45 : decode cX8_fit 45 = .ok (.iload 5, 2) := by decide +kernel
theorem dX8_fit_47 : decode cX8_fit 47 = .ok (.istore 8, 2) := by decide +kernel
theorem dX8_fit_49 : decode cX8_fit 49 = .ok (.iload_n 3, 1) := by decide +kernel
theorem dX8_fit_50 : decode cX8_fit 50 = .ok (.istore 9, 2) := by decide +kernel
theorem dX8_fit_52 : decode cX8_fit 52 = .ok (.iload 9, 2) := by decide +kernel
theorem dX8_fit_54 : decode cX8_fit 54 = .ok (.iload 4, 2) := by decide +kernel
theorem dX8_fit_56 : decode cX8_fit 56 = .ok (.if_icmp .gt 90, 3) := by decide +kernel
theorem dX8_fit_59 : decode cX8_fit 59 = .ok (.iload_n 1, 1) := by decide +kernel
theorem dX8_fit_60 : decode cX8_fit 60 = .ok (.iload_n 2, 1) := by decide +kernel
theorem dX8_fit_61 : decode cX8_fit 61 = .ok (.iload 9, 2) := by decide +kernel
theorem dX8_fit_63 : decode cX8_fit 63 = .ok (.imul, 1) := by decide +kernel
theorem dX8_fit_64 : decode cX8_fit 64 = .ok (.idiv, 1) := by decide +kernel
theorem dX8_fit_65 : decode cX8_fit 65 = .ok (.istore 10, 2) := by decide +kernel
theorem dX8_fit_67 : decode cX8_fit 67 = .ok (.iload 5, 2) := by decide +kernel
theorem dX8_fit_69 : decode cX8_fit 69 = .ok (.iload 10, 2) := by decide +kernel
theorem dX8_fit_71 : decode cX8_fit 71 = .ok (.iload 6, 2) := by decide +kernel
theorem dX8_fit_73 : decode cX8_fit 73 = .ok (.invokestatic 183, 3) := by decide +kernel
theorem dX8_fit_76 : decode cX8_fit 76 = .ok (.invokestatic 178, 3) := by decide +kernel
theorem dX8_fit_79 : decode cX8_fit 79 = .ok (.istore 11, 2) := by decide +kernel
theorem dX8_fit_81 : decode cX8_fit 81 = .ok (.iload 5, 2) := by decide +kernel
theorem dX8_fit_83 : decode cX8_fit 83 = .ok (.iload 10, 2) := by decide +kernel
theorem dX8_fit_85 : decode cX8_fit 85 = .ok (.iconst 1, 1) := by decide +kernel
theorem dX8_fit_86 : decode cX8_fit 86 = .ok (.iadd, 1) := by decide +kernel
theorem dX8_fit_87 : decode cX8_fit 87 = .ok (.iload 6, 2) := by decide +kernel
theorem dX8_fit_89 : decode cX8_fit 89 = .ok (.invokestatic 183, 3) := by decide +kernel
theorem dX8_fit_92 : decode cX8_fit 92 = .ok (.invokestatic 178, 3) := by decide +kernel
theorem dX8_fit_95 : decode cX8_fit 95 = .ok (.istore 12, 2) := by decide +kernel
theorem dX8_fit_97 : decode cX8_fit 97 = .ok (.iload 11, 2) := by decide +kernel
theorem dX8_fit_99 : decode cX8_fit 99 = .ok (.istore 13, 2) := by decide +kernel
theorem dX8_fit_101 : decode cX8_fit 101 = .ok (.iload 13, 2) := by decide +kernel
theorem dX8_fit_103 : decode cX8_fit 103 = .ok (.iload 12, 2) := by decide +kernel
theorem dX8_fit_105 : decode cX8_fit 105 = .ok (.if_icmp .gt 35, 3) := by decide +kernel
theorem dX8_fit_108 : decode cX8_fit 108 = .ok (.iload_n 1, 1) := by decide +kernel
theorem dX8_fit_109 : decode cX8_fit 109 = .ok (.iload_n 2, 1) := by decide +kernel
theorem dX8_fit_110 : decode cX8_fit 110 = .ok (.iload 9, 2) := by decide +kernel
theorem dX8_fit_112 : decode cX8_fit 112 = .ok (.iload 13, 2) := by decide +kernel
theorem dX8_fit_114 : decode cX8_fit 114 = .ok (.imul, 1) := by decide +kernel
theorem dX8_fit_115 : decode cX8_fit 115 = .ok (.iload 7, 2) := by decide +kernel
theorem dX8_fit_117 : decode cX8_fit 117 = .ok (.iload 8, 2) := by decide +kernel
theorem dX8_fit_119 : decode cX8_fit 119 = .ok (.imul, 1) := by decide +kernel
theorem dX8_fit_120 : decode cX8_fit 120 = .ok (.invokestatic 196, 3) := by decide +kernel
theorem dX8_fit_123 : decode cX8_fit 123 = .ok (.ifCond .eq 11, 3) := by decide +kernel
theorem dX8_fit_126 : decode cX8_fit 126 = .ok (.iload 9, 2) := by decide +kernel
theorem dX8_fit_128 : decode cX8_fit 128 = .ok (.istore 7, 2) := by decide +kernel
theorem dX8_fit_130 : decode cX8_fit 130 = .ok (.iload 13, 2) := by decide +kernel
theorem dX8_fit_132 : decode cX8_fit 132 = .ok (.istore 8, 2) := by decide +kernel
theorem dX8_fit_134 : decode cX8_fit 134 = .ok (.iinc 13 1, 3) := by decide +kernel
theorem dX8_fit_137 : decode cX8_fit 137 = .ok (.goto (-36), 3) := by decide +kernel
theorem dX8_fit_140 : decode cX8_fit 140 = .ok (.iinc 9 1, 3) := by decide +kernel
theorem dX8_fit_143 : decode cX8_fit 143 = .ok (.goto (-91), 3) := by decide +kernel
theorem dX8_fit_146 : decode cX8_fit 146 = .ok (.iload 7, 2) := by decide +kernel
theorem dX8_fit_148 : decode cX8_fit 148 = .ok (.sipush 1000, 3) := by decide +kernel
theorem dX8_fit_151 : decode cX8_fit 151 = .ok (.imul, 1) := by decide +kernel
theorem dX8_fit_152 : decode cX8_fit 152 = .ok (.iload 8, 2) := by decide +kernel
theorem dX8_fit_154 : decode cX8_fit 154 = .ok (.iadd, 1) := by decide +kernel
theorem dX8_fit_155 : decode cX8_fit 155 = .ok (.ireturn, 1) := by decide +kernel
end
section
set_option maxRecDepth 20000 in
theorem ggX8_image_X8_within : GoodIn wsX8_image wsX8_within := goodIn_r _ [9] (by decide +kernel) (by decide +kernel)
set_option maxRecDepth 20000 in
theorem gX8_image_X8_within : GoodIn wsX8_image (va_wsS RX8 20 yX8_within wsX8_within) := goodIn_app (goodIn_of _ (by decide +kernel)) ggX8_image_X8_within
set_option maxRecDepth 20000 in
theorem ggX8_image_X3_init : GoodIn wsX8_image wsX3_init := goodIn_r _ [12, 13, 14, 15, 16, 17, 18, 19, 20, 21, 22, 23, 24, 25, 26, 27, 28, 29, 30, 31, 32, 33, 34, 35, 36, 37, 38, 39, 40, 41, 42, 43, 44, 45, 46, 47, 48, 49, 50, 51, 52, 53, 54, 55, 56, 57, 58, 59, 60, 61, 62, 63, 64, 65, 66, 67, 68, 69, 70, 71, 72, 73, 74, 75, 76, 77, 78, 79, 80, 81, 82, 83, 84, 85, 86, 87, 88, 89, 90, 91, 92, 93, 94, 95, 96, 97, 98, 99, 100, 101, 102, 177, 178, 179, 180, 181, 182, 183, 165, 166, 167, 168, 169, 170, 171, 172, 173, 174, 175, 176, 184, 185, 186, 187, 188, 189, 190, 191, 192, 193, 194, 195, 196, 197, 198, 199, 200, 201, 202, 203, 204, 205, 206, 207, 208, 209, 210, 211, 212] (by decide +kernel) (by decide +kernel)
set_option maxRecDepth 20000 in
theorem gX8_image_X3_init : GoodIn wsX8_image (wsX3_init) := ggX8_image_X3_init
set_option maxRecDepth 20000 in
theorem ggX8_image_X3_copyFrom : GoodIn wsX8_image wsX3_copyFrom := goodIn_r _ [106, 19, 23, 27, 31, 35, 37, 107, 108, 109, 110, 38, 39, 40, 111, 112, 113, 114, 115, 116, 18, 117, 47, 48, 49, 52, 54, 118, 119, 120, 121, 122, 46, 123, 61, 62, 124, 125, 126, 127, 60, 128, 67, 68, 69, 70, 129, 130, 131, 132, 133, 134, 135, 22, 136, 78, 137, 138, 139, 79, 140, 141, 142, 143, 144, 145, 146, 147, 148, 149, 26, 150, 83, 151, 152, 153, 154, 30, 155, 87, 156, 88, 89, 90, 157, 158, 159, 160, 34, 161, 94, 162, 95, 96, 97, 98, 165, 166, 167, 168, 169, 170, 171, 172, 173, 174, 175, 176, 177, 178, 179, 180, 181, 182, 183, 206, 207, 208, 209, 210, 211, 212, 184, 185, 186, 187, 188, 189, 190, 191, 192, 193, 194, 195, 196, 197, 198, 199, 200, 201, 202, 203, 204, 205] (by decide +kernel) (by decide +kernel)
set_option maxRecDepth 20000 in
theorem gX8_image_X3_copyFrom : GoodIn wsX8_image (wsV RX8 200 RX3 yX3_copyFrom wsX3_copyFrom) := goodIn_app (goodIn_of _ (by decide +kernel)) ggX8_image_X3_copyFrom
theorem dX8_image_0 : decode cX8_image 0 = .ok (.iload_n 1, 1) := by decide +kernel
theorem dX8_image_1 : decode cX8_image 1 = .ok (.iconst 0, 1) := by decide +kernel
theorem dX8_image_2 : decode cX8_image 2 = .ok (.iconst 2, 1) := by decide +kernel
theorem dX8_image_3 : decode cX8_image 3 = .ok (.invokestatic 20, 3) := by decide +kernel
theorem dX8_image_6 : decode cX8_image 6 = .ok (.ifCond .ne 5, 3) := by decide +kernel
theorem dX8_image_9 : decode cX8_image 9 = .ok (.iconst 0, 1) := by decide +kernel
theorem dX8_image_10 : decode cX8_image 10 = .ok (.ireturn, 1) := by decide +kernel
theorem dX8_image_11 : decode cX8_image 11 = .ok (.aload_n 0, 1) := by decide +kernel
theorem dX8_image_12 : decode cX8_image 12 = .ok (.getfield 16, 3) := by decide +kernel
theorem dX8_image_15 : decode cX8_image 15 = .ok (.iload_n 1, 1) := by decide +kernel
theorem dX8_image_16 : decode cX8_image 16 = .ok (.aaload, 1) := by decide +kernel
theorem dX8_image_17 : decode cX8_image 17 = .ok (.ifnonnull 16, 3) := by decide +kernel
theorem dX8_image_20 : decode cX8_image 20 = .ok (.aload_n 0, 1) := by decide +kernel
theorem dX8_image_21 : decode cX8_image 21 = .ok (.getfield 16, 3) := by decide +kernel
theorem dX8_image_24 : decode cX8_image 24 = .ok (.iload_n 1, 1) := by decide +kernel
theorem dX8_image_25 : decode cX8_image 25 = .ok (.new 7, 3) := by decide +kernel
theorem dX8_image_28 : decode cX8_image 28 = .ok (.dup, 1) := by decide +kernel
theorem dX8_image_29 : decode cX8_image 29 = .ok (.invokespecial 9, 3) := by decide +kernel
theorem dX8_image_32 : decode cX8_image 32 = .ok (.aastore, 1) := by decide +kernel
theorem dX8_image_33 : decode cX8_image 33 = .ok (.aload_n 0, 1) := by decide +kernel
theorem dX8_image_34 : decode cX8_image 34 = .ok (.getfield 16, 3) := by decide +kernel
theorem dX8_image_37 : decode cX8_image 37 = .ok (.iload_n 1, 1) := by decide +kernel
theorem dX8_image_38 : decode cX8_image 38 = .ok (.aaload, 1) := by decide +kernel
theorem dX8_image_39 : decode cX8_image 39 = .ok (.aload_n 0, 1) := by decide +kernel
theorem dX8_image_40 : decode cX8_image 40 = .ok (.getfield 10, 3) := by decide +kernel
theorem dX8_image_43 : decode cX8_image 43 = .ok (.invokevirtual 200, 3) := by decide +kernel
theorem dX8_image_46 : decode cX8_image 46 = .ok (.iconst 1, 1) := by decide +kernel
theorem dX8_image_47 : decode cX8_image 47 = .ok (.ireturn, 1) := by decide +kernel
set_option maxRecDepth 20000 in
theorem ggX8_again_X8_within : GoodIn wsX8_again wsX8_within := goodIn_r _ [6] (by decide +kernel) (by decide +kernel)
set_option maxRecDepth 20000 in
theorem gX8_again_X8_within : GoodIn wsX8_again (va_wsS RX8 20 yX8_within wsX8_within) := goodIn_app (goodIn_of _ (by decide +kernel)) ggX8_again_X8_within
set_option maxRecDepth 20000 in
theorem ggX8_again_X3_copyFrom : GoodIn wsX8_again wsX3_copyFrom := goodIn_r _ [11, 12, 13, 14, 15, 16, 17, 18, 19, 20, 21, 22, 23, 24, 25, 26, 27, 28, 29, 30, 31, 32, 33, 34, 35, 36, 37, 38, 39, 40, 41, 42, 43, 44, 45, 46, 47, 48, 49, 50, 51, 52, 53, 54, 55, 56, 57, 58, 59, 60, 61, 62, 63, 64, 65, 66, 67, 68, 69, 70, 71, 72, 73, 74, 75, 76, 77, 78, 79, 80, 81, 82, 83, 84, 85, 86, 87, 88, 89, 90, 91, 92, 93, 94, 95, 96, 97, 98, 99, 100, 101, 102, 103, 104, 105, 106, 109, 110, 111, 112, 113, 114, 115, 116, 117, 118, 119, 120, 121, 122, 123, 124, 125, 126, 127, 128, 129, 130, 131, 132, 133, 134, 135, 136, 137, 138, 139, 140, 141, 142, 143, 144, 145, 146, 147, 148, 149, 150, 151, 152, 153, 154, 155, 156] (by decide +kernel) (by decide +kernel)
set_option maxRecDepth 20000 in
theorem gX8_again_X3_copyFrom : GoodIn wsX8_again (wsV RX8 200 RX3 yX3_copyFrom wsX3_copyFrom) := goodIn_app (goodIn_of _ (by decide +kernel)) ggX8_again_X3_copyFrom
theorem dX8_again_0 : decode cX8_again 0 = .ok (.iload_n 1, 1) := by decide +kernel
theorem dX8_again_1 : decode cX8_again 1 = .ok (.iconst 0, 1) := by decide +kernel
theorem dX8_again_2 : decode cX8_again 2 = .ok (.iconst 2, 1) := by decide +kernel
theorem dX8_again_3 : decode cX8_again 3 = .ok (.invokestatic 20, 3) := by decide +kernel
theorem dX8_again_6 : decode cX8_again 6 = .ok (.ifCond .eq 12, 3) := by decide +kernel
theorem dX8_again_9 : decode cX8_again 9 = .ok (.aload_n 0, 1) := by decide +kernel
theorem dX8_again_10 : decode cX8_again 10 = .ok (.getfield 16, 3) := by decide +kernel
theorem dX8_again_13 : decode cX8_again 13 = .ok (.iload_n 1, 1) := by decide +kernel
theorem dX8_again_14 : decode cX8_again 14 = .ok (.aaload, 1) := by decide +kernel
theorem dX8_again_15 : decode cX8_again 15 = .ok (.ifnonnull 5, 3) := by decide +kernel
theorem dX8_again_18 : decode cX8_again 18 = .ok (.iconst 0, 1) := by decide +kernel
theorem dX8_again_19 : decode cX8_again 19 = .ok (.ireturn, 1) := by decide +kernel
theorem dX8_again_20 : decode cX8_again 20 = .ok (.aload_n 0, 1) := by decide +kernel
theorem dX8_again_21 : decode cX8_again 21 = .ok (.getfield 10, 3) := by decide +kernel
theorem dX8_again_24 : decode cX8_again 24 = .ok (.aload_n 0, 1) := by decide +kernel
theorem dX8_again_25 : decode cX8_again 25 = .ok (.getfield 16, 3) := by decide +kernel
theorem dX8_again_28 : decode cX8_again 28 = .ok (.iload_n 1, 1) := by decide +kernel
theorem dX8_again_29 : decode cX8_again 29 = .ok (.aaload, 1) := by decide +kernel
theorem dX8_again_30 : decode cX8_again 30 = .ok (.invokevirtual 200, 3) := by decide +kernel
theorem dX8_again_33 : decode cX8_again 33 = .ok (.iconst 1, 1) := by decide +kernel
theorem dX8_again_34 : decode cX8_again 34 = .ok (.ireturn, 1) := by decide +kernel
theorem dX8_within_0 : decode cX8_within 0 = .ok (.iload_n 0, 1) := by decide +kernel
theorem dX8_within_1 : decode cX8_within 1 = .ok (.iload_n 1, 1) := by decide +kernel
theorem dX8_within_2 : decode cX8_within 2 = .ok (.if_icmp .lt 12, 3) := by decide +kernel
theorem dX8_within_5 : decode cX8_within 5 = .ok (.iload_n 0, 1) := by decide +kernel
theorem dX8_within_6 : decode cX8_within 6 = .ok (.iload_n 2, 1) := by decide +kernel
theorem dX8_within_7 : decode cX8_within 7 = .ok (.if_icmp .gt 7, 3) := by decide +kernel
theorem dX8_within_10 : decode cX8_within 10 = .ok (.iconst 1, 1) := by decide +kernel
theorem dX8_within_11 : decode cX8_within 11 = .ok (.goto 4, 3) := by decide +kernel
theorem dX8_within_14 : decode cX8_within 14 = .ok (.iconst 0, 1) := by decide +kernel
theorem dX8_within_15 : decode cX8_within 15 = .ok (.ireturn, 1) := by decide +kernel
set_option maxRecDepth 20000 in
theorem ggX8_placeOf_X8_within : GoodIn wsX8_placeOf wsX8_within := goodIn_r _ [4] (by decide +kernel) (by decide +kernel)
set_option maxRecDepth 20000 in
theorem gX8_placeOf_X8_within : GoodIn wsX8_placeOf (va_wsS RX8 20 yX8_within wsX8_within) := goodIn_app (goodIn_of _ (by decide +kernel)) ggX8_placeOf_X8_within
theorem dX8_placeOf_0 : decode cX8_placeOf 0 = .ok (.iload_n 0, 1) := by decide +kernel
theorem dX8_placeOf_1 : decode cX8_placeOf 1 = .ok (.iconst 0, 1) := by decide +kernel
theorem dX8_placeOf_2 : decode cX8_placeOf 2 = .ok (.bipush 63, 2) := by decide +kernel
theorem dX8_placeOf_4 : decode cX8_placeOf 4 = .ok (.invokestatic 20, 3) := by decide +kernel
theorem dX8_placeOf_7 : decode cX8_placeOf 7 = .ok (.ifCond .eq 13, 3) := by decide +kernel
theorem dX8_placeOf_10 : decode cX8_placeOf 10 = .ok (.iload_n 1, 1) := by decide +kernel
theorem dX8_placeOf_11 : decode cX8_placeOf 11 = .ok (.iconst 0, 1) := by decide +kernel
theorem dX8_placeOf_12 : decode cX8_placeOf 12 = .ok (.bipush 63, 2) := by decide +kernel
theorem dX8_placeOf_14 : decode cX8_placeOf 14 = .ok (.invokestatic 20, 3) := by decide +kernel
theorem dX8_placeOf_17 : decode cX8_placeOf 17 = .ok (.ifCond .ne 5, 3) := by decide +kernel
theorem dX8_placeOf_20 : decode cX8_placeOf 20 = .ok (.iconst (-1), 1) := by decide +kernel
theorem dX8_placeOf_21 : decode cX8_placeOf 21 = .ok (.ireturn, 1) := by decide +kernel
theorem dX8_placeOf_22 : decode cX8_placeOf 22 = .ok (.iload_n 1, 1) := by decide +kernel
theorem dX8_placeOf_23 : decode cX8_placeOf 23 = .ok (.bipush 64, 2) := by decide +kernel
theorem dX8_placeOf_25 : decode cX8_placeOf 25 = .ok (.imul, 1) := by decide +kernel
theorem dX8_placeOf_26 : decode cX8_placeOf 26 = .ok (.iload_n 0, 1) := by decide +kernel
theorem dX8_placeOf_27 : decode cX8_placeOf 27 = .ok (.iadd, 1) := by decide +kernel
theorem dX8_placeOf_28 : decode cX8_placeOf 28 = .ok (.ireturn, 1) := by decide +kernel
theorem dX8_bytesOfLine_0 : decode cX8_bytesOfLine 0 = .ok (.iload_n 0, 1) := by decide +kernel
theorem dX8_bytesOfLine_1 : decode cX8_bytesOfLine 1 = .ok (.bipush 7, 2) := by decide +kernel
theorem dX8_bytesOfLine_3 : decode cX8_bytesOfLine 3 = .ok (.iadd, 1) := by decide +kernel
theorem dX8_bytesOfLine_4 : decode cX8_bytesOfLine 4 = .ok (.bipush 8, 2) := by decide +kernel
theorem dX8_bytesOfLine_6 : decode cX8_bytesOfLine 6 = .ok (.idiv, 1) := by decide +kernel
theorem dX8_bytesOfLine_7 : decode cX8_bytesOfLine 7 = .ok (.iconst 1, 1) := by decide +kernel
theorem dX8_bytesOfLine_8 : decode cX8_bytesOfLine 8 = .ok (.iadd, 1) := by decide +kernel
theorem dX8_bytesOfLine_9 : decode cX8_bytesOfLine 9 = .ok (.ireturn, 1) := by decide +kernel
set_option maxRecDepth 20000 in
theorem ggX8_fewestQueued_X8_bytesOfLine : GoodIn wsX8_fewestQueued wsX8_bytesOfLine := goodIn_r _ [15] (by decide +kernel) (by decide +kernel)
set_option maxRecDepth 20000 in
theorem gX8_fewestQueued_X8_bytesOfLine : GoodIn wsX8_fewestQueued (va_wsS RX8 207 yX8_bytesOfLine wsX8_bytesOfLine) := goodIn_app (goodIn_of _ (by decide +kernel)) ggX8_fewestQueued_X8_bytesOfLine
set_option maxRecDepth 20000 in
theorem ggX8_fewestQueued_X6_whole : GoodIn wsX8_fewestQueued wsX6_whole := goodIn_r _ [20, 21, 22, 23, 24, 60, 61, 62, 63] (by decide +kernel) (by decide +kernel)
set_option maxRecDepth 20000 in
theorem gX8_fewestQueued_X6_whole : GoodIn wsX8_fewestQueued (wsV RX8 143 RX6 yX6_whole wsX6_whole) := goodIn_app (goodIn_of _ (by decide +kernel)) ggX8_fewestQueued_X6_whole
theorem dX8_fewestQueued_0 : decode cX8_fewestQueued 0 = .ok (.aload_n 0, 1) := by decide +kernel
theorem dX8_fewestQueued_1 : decode cX8_fewestQueued 1 = .ok (.getfield 10, 3) := by decide +kernel
theorem dX8_fewestQueued_4 : decode cX8_fewestQueued 4 = .ok (.getfield 24, 3) := by decide +kernel
theorem dX8_fewestQueued_7 : decode cX8_fewestQueued 7 = .ok (.getfield 140, 3) := by decide +kernel
theorem dX8_fewestQueued_10 : decode cX8_fewestQueued 10 = .ok (.getfield 34, 3) := by decide +kernel
theorem dX8_fewestQueued_13 : decode cX8_fewestQueued 13 = .ok (.astore 4, 2) := by decide +kernel
theorem dX8_fewestQueued_15 : decode cX8_fewestQueued 15 = .ok (.aload_n 0, 1) := by decide +kernel
theorem dX8_fewestQueued_16 : decode cX8_fewestQueued 16 = .ok (.getfield 10, 3) := by decide +kernel
theorem dX8_fewestQueued_19 : decode cX8_fewestQueued 19 = .ok (.getfield 90, 3) := by decide +kernel
theorem dX8_fewestQueued_22 : decode cX8_fewestQueued 22 = .ok (.getfield 94, 3) := by decide +kernel
theorem dX8_fewestQueued_25 : decode cX8_fewestQueued 25 = .ok (.istore 5, 2) := by decide +kernel
theorem dX8_fewestQueued_27 : decode cX8_fewestQueued 27 = .ok (.aload 4, 2) := by decide +kernel
theorem dX8_fewestQueued_29 : decode cX8_fewestQueued 29 = .ok (.getfield 204, 3) := by decide +kernel
theorem dX8_fewestQueued_32 : decode cX8_fewestQueued 32 = .ok (.invokestatic 207, 3) := by decide +kernel
theorem dX8_fewestQueued_35 : decode cX8_fewestQueued 35 = .ok (.istore 6, 2) := by decide +kernel
theorem dX8_fewestQueued_37 : decode cX8_fewestQueued 37 = .ok (.aload 4, 2) := by decide +kernel
theorem dX8_fewestQueued_39 : decode cX8_fewestQueued 39 = .ok (.invokevirtual 143, 3) := by decide +kernel
theorem dX8_fewestQueued_42 : decode cX8_fewestQueued 42 = .ok (.aload 4, 2) := by decide +kernel
theorem dX8_fewestQueued_44 : decode cX8_fewestQueued 44 = .ok (.getfield 204, 3) := by decide +kernel
theorem dX8_fewestQueued_47 : decode cX8_fewestQueued 47 = .ok (.isub, 1) := by decide +kernel
theorem dX8_fewestQueued_48 : decode cX8_fewestQueued 48 = .ok (.istore 7, 2) := by decide +kernel
theorem dX8_fewestQueued_50 : decode cX8_fewestQueued 50 = .ok (.iload 5, 2) := by decide +kernel
theorem dX8_fewestQueued_52 : decode cX8_fewestQueued 52 = .ok (.istore 8, 2) := by decide +kernel
theorem dX8_fewestQueued_54 : decode cX8_fewestQueued 54 = .ok (.iconst 0, 1) := by decide +kernel
theorem dX8_fewestQueued_55 : decode cX8_fewestQueued 55 = .ok (.istore 9, 2) := by decide +kernel
theorem dX8_fewestQueued_57 : decode cX8_fewestQueued 57 = .ok (.iload_n 3, 1) := by decide +kernel
theorem dX8_fewestQueued_58 : decode cX8_fewestQueued 58 = .ok (.istore 10, 2) := by decide +kernel
theorem dX8_fewestQueued_60 : decode cX8_fewestQueued 60 = .ok (.iconst 0, 1) := by decide +kernel
theorem dX8_fewestQueued_61 : decode cX8_fewestQueued 61 = .ok (.istore 11, 2) := by decide +kernel
theorem dX8_fewestQueued_63 : decode cX8_fewestQueued 63 = .ok (.iload 11, 2) := by decide +kernel
theorem dX8_fewestQueued_65 : decode cX8_fewestQueued 65 = .ok (.aload 4, 2) := by decide +kernel
theorem dX8_fewestQueued_67 : decode cX8_fewestQueued 67 = .ok (.invokevirtual 143, 3) := by decide +kernel
theorem dX8_fewestQueued_70 : decode cX8_fewestQueued 70 = .ok (.if_icmp .ge 88, 3) := by decide +kernel
theorem dX8_fewestQueued_73 : decode cX8_fewestQueued 73 = .ok (.iload 10, 2) := by decide +kernel
theorem dX8_fewestQueued_75 : decode cX8_fewestQueued 75 = .ok (.iload_n 2, 1) := by decide +kernel
theorem dX8_fewestQueued_76 : decode cX8_fewestQueued 76 = .ok (.if_icmp .lt 21, 3) := by decide +kernel
theorem dX8_fewestQueued_79 : decode cX8_fewestQueued 79 = .ok (.iload 9, 2) := by decide +kernel
theorem dX8_fewestQueued_81 : decode cX8_fewestQueued 81 = .ok (.iload 5, 2) := by decide +kernel
theorem dX8_fewestQueued_83 : decode cX8_fewestQueued 83 = .ok (.if_icmp .ge 14, 3) := by decide +kernel
theorem dX8_fewestQueued_86 : decode cX8_fewestQueued 86 = .ok (.iload 6, 2) := by decide +kernel
theorem dX8_fewestQueued_88 : decode cX8_fewestQueued 88 = .ok (.ifCond .le 9, 3) := by decide +kernel
theorem dX8_fewestQueued_91 : decode cX8_fewestQueued 91 = .ok (.iinc 9 1, 3) := by decide +kernel
theorem dX8_fewestQueued_94 : decode cX8_fewestQueued 94 = .ok (.iinc 6 (-1), 3) := by decide +kernel
theorem dX8_fewestQueued_97 : decode cX8_fewestQueued 97 = .ok (.iload 10, 2) := by decide +kernel
theorem dX8_fewestQueued_99 : decode cX8_fewestQueued 99 = .ok (.iconst 1, 1) := by decide +kernel
theorem dX8_fewestQueued_100 : decode cX8_fewestQueued 100 = .ok (.iadd, 1) := by decide +kernel
theorem dX8_fewestQueued_101 : decode cX8_fewestQueued 101 = .ok (.iload_n 1, 1) := by decide +kernel
theorem dX8_fewestQueued_102 : decode cX8_fewestQueued 102 = .ok (.if_icmp .ge 10, 3) := by decide +kernel
theorem dX8_fewestQueued_105 : decode cX8_fewestQueued 105 = .ok (.iload 10, 2) := by decide +kernel
theorem dX8_fewestQueued_107 : decode cX8_fewestQueued 107 = .ok (.iconst 1, 1) := by decide +kernel
theorem dX8_fewestQueued_108 : decode cX8_fewestQueued 108 = .ok (.iadd, 1) := by decide +kernel
theorem dX8_fewestQueued_109 : decode cX8_fewestQueued 109 = .ok (.goto 4, 3) := by decide +kernel
theorem dX8_fewestQueued_112 : decode cX8_fewestQueued 112 = .ok (.iconst 0, 1) := by decide +kernel
theorem dX8_fewestQueued_113 : decode cX8_fewestQueued 113 = .ok (.istore 10, 2) := by decide +kernel
theorem dX8_fewestQueued_115 : decode cX8_fewestQueued 115 = .ok (.iload 11, 2) := by decide +kernel
theorem dX8_fewestQueued_117 : decode cX8_fewestQueued 117 = .ok (.iload 7, 2) := by decide +kernel
theorem dX8_fewestQueued_119 : decode cX8_fewestQueued 119 = .ok (.if_icmp .lt 33, 3) := by decide +kernel
theorem dX8_fewestQueued_122 : decode cX8_fewestQueued 122 = .ok (.iload 11, 2) := by decide +kernel
theorem dX8_fewestQueued_124 : decode cX8_fewestQueued 124 = .ok (.iload 7, 2) := by decide +kernel
theorem dX8_fewestQueued_126 : decode cX8_fewestQueued 126 = .ok (.isub, 1) := by decide +kernel
theorem dX8_fewestQueued_127 : decode cX8_fewestQueued 127 = .ok (.bipush 8, 2) := by decide +kernel
theorem dX8_fewestQueued_129 : decode cX8_fewestQueued 129 = .ok (.irem, 1) := by decide +kernel
theorem dX8_fewestQueued_130 : decode cX8_fewestQueued 130 = .ok (.ifCond .ne 22, 3) := by decide +kernel
theorem dX8_fewestQueued_133 : decode cX8_fewestQueued 133 = .ok (.iload 9, 2) := by decide +kernel
theorem dX8_fewestQueued_135 : decode cX8_fewestQueued 135 = .ok (.ifCond .ne 5, 3) := by decide +kernel
theorem dX8_fewestQueued_138 : decode cX8_fewestQueued 138 = .ok (.iconst 0, 1) := by decide +kernel
theorem dX8_fewestQueued_139 : decode cX8_fewestQueued 139 = .ok (.ireturn, 1) := by decide +kernel
theorem dX8_fewestQueued_140 : decode cX8_fewestQueued 140 = .ok (.iload 8, 2) := by decide +kernel
theorem dX8_fewestQueued_142 : decode cX8_fewestQueued 142 = .ok (.iload 9, 2) := by decide +kernel
theorem dX8_fewestQueued_144 : decode cX8_fewestQueued 144 = .ok (.invokestatic 183, 3) := by decide +kernel
theorem dX8_fewestQueued_147 : decode cX8_fewestQueued 147 = .ok (.istore 8, 2) := by decide +kernel
theorem dX8_fewestQueued_149 : decode cX8_fewestQueued 149 = .ok (.iinc 9 (-1), 3) := by decide +kernel
theorem dX8_fewestQueued_152 : decode cX8_fewestQueued 152 = .ok (.iinc 11 1, 3) := by decide +kernel
theorem dX8_fewestQueued_155 : decode cX8_fewestQueued 155 = .ok (.goto (-92), 3) := by decide +kernel
theorem dX8_fewestQueued_158 : decode cX8_fewestQueued 158 = .ok (.iload 8, 2) := by decide +kernel
theorem dX8_fewestQueued_160 : decode cX8_fewestQueued 160 = .ok (.ireturn, 1) := by decide +kernel
set_option maxRecDepth 20000 in
theorem ggX8_areFitBounds_X8_within : GoodIn wsX8_areFitBounds wsX8_within := goodIn_r _ [4] (by decide +kernel) (by decide +kernel)
set_option maxRecDepth 20000 in
theorem gX8_areFitBounds_X8_within : GoodIn wsX8_areFitBounds (va_wsS RX8 20 yX8_within wsX8_within) := goodIn_app (goodIn_of _ (by decide +kernel)) ggX8_areFitBounds_X8_within
theorem dX8_areFitBounds_0 : decode cX8_areFitBounds 0 = .ok (.iload_n 0, 1) := by decide +kernel
theorem dX8_areFitBounds_1 : decode cX8_areFitBounds 1 = .ok (.iconst 1, 1) := by decide +kernel
theorem dX8_areFitBounds_2 : decode cX8_areFitBounds 2 = .ok (.sipush 200, 3) := by decide +kernel
theorem dX8_areFitBounds_5 : decode cX8_areFitBounds 5 = .ok (.invokestatic 20, 3) := by decide +kernel
theorem dX8_areFitBounds_8 : decode cX8_areFitBounds 8 = .ok (.ifCond .eq 18, 3) := by decide +kernel
theorem dX8_areFitBounds_11 : decode cX8_areFitBounds 11 = .ok (.iload_n 1, 1) := by decide +kernel
theorem dX8_areFitBounds_12 : decode cX8_areFitBounds 12 = .ok (.iload_n 0, 1) := by decide +kernel
theorem dX8_areFitBounds_13 : decode cX8_areFitBounds 13 = .ok (.sipush 200, 3) := by decide +kernel
theorem dX8_areFitBounds_16 : decode cX8_areFitBounds 16 = .ok (.invokestatic 20, 3) := by decide +kernel
theorem dX8_areFitBounds_19 : decode cX8_areFitBounds 19 = .ok (.ifCond .eq 7, 3) := by decide +kernel
theorem dX8_areFitBounds_22 : decode cX8_areFitBounds 22 = .ok (.iconst 1, 1) := by decide +kernel
theorem dX8_areFitBounds_23 : decode cX8_areFitBounds 23 = .ok (.goto 4, 3) := by decide +kernel
theorem dX8_areFitBounds_26 : decode cX8_areFitBounds 26 = .ok (.iconst 0, 1) := by decide +kernel
theorem dX8_areFitBounds_27 : decode cX8_areFitBounds 27 = .ok (.ireturn, 1) := by decide +kernel
theorem dX8_isNearer_0 : decode cX8_isNearer 0 = .ok (.iload_n 0, 1) := by decide +kernel
theorem dX8_isNearer_1 : decode cX8_isNearer 1 = .ok (.i2l, 1) := by decide +kernel
theorem dX8_isNearer_2 : decode cX8_isNearer 2 = .ok (.iload_n 1, 1) := by decide +kernel
theorem dX8_isNearer_3 : decode cX8_isNearer 3 = .ok (.i2l, 1) := by decide +kernel
theorem dX8_isNearer_4 : decode cX8_isNearer 4 = .ok (.iload_n 2, 1) := by decide +kernel
theorem dX8_isNearer_5 : decode cX8_isNearer 5 = .ok (.i2l, 1) := by decide +kernel
theorem dX8_isNearer_6 : decode cX8_isNearer 6 = .ok (.lmul, 1) := by decide +kernel
theorem dX8_isNearer_7 : decode cX8_isNearer 7 = .ok (.lsub, 1) := by decide +kernel
theorem dX8_isNearer_8 : decode cX8_isNearer 8 = .ok (.invokestatic 210, 3) := by decide +kernel
theorem dX8_isNearer_11 : decode cX8_isNearer 11 = .ok (.lstore 4, 2) := by decide +kernel
theorem dX8_isNearer_13 : decode cX8_isNearer 13 = .ok (.iload_n 0, 1) := by decide +kernel
theorem dX8_isNearer_14 : decode cX8_isNearer 14 = .ok (.i2l, 1) := by decide +kernel
theorem dX8_isNearer_15 : decode cX8_isNearer 15 = .ok (.iload_n 1, 1) := by decide +kernel
theorem dX8_isNearer_16 : decode cX8_isNearer 16 = .ok (.i2l, 1) := by decide +kernel
theorem dX8_isNearer_17 : decode cX8_isNearer 17 = .ok (.iload_n 3, 1) := by decide +kernel
theorem dX8_isNearer_18 : decode cX8_isNearer 18 = .ok (.i2l, 1) := by decide +kernel
theorem dX8_isNearer_19 : decode cX8_isNearer 19 = .ok (.lmul, 1) := by decide +kernel
theorem dX8_isNearer_20 : decode cX8_isNearer 20 = .ok (.lsub, 1) := by decide +kernel
theorem dX8_isNearer_21 : decode cX8_isNearer 21 = .ok (.invokestatic 210, 3) := by decide +kernel
theorem dX8_isNearer_24 : decode cX8_isNearer 24 = .ok (.lstore 6, 2) := by decide +kernel
theorem dX8_isNearer_26 : decode cX8_isNearer 26 = .ok (.lload 4, 2) := by decide +kernel
theorem dX8_isNearer_28 : decode cX8_isNearer 28 = .ok (.iload_n 3, 1) := by decide +kernel
theorem dX8_isNearer_29 : decode cX8_isNearer 29 = .ok (.i2l, 1) := by decide +kernel
theorem dX8_isNearer_30 : decode cX8_isNearer 30 = .ok (.lmul, 1) := by decide +kernel
theorem dX8_isNearer_31 : decode cX8_isNearer 31 = .ok (.lload 6, 2) := by decide +kernel
theorem dX8_isNearer_33 : decode cX8_isNearer 33 = .ok (.iload_n 2, 1) := by decide +kernel
theorem dX8_isNearer_34 : decode cX8_isNearer 34 = .ok (.i2l, 1) := by decide +kernel
theorem dX8_isNearer_35 : decode cX8_isNearer 35 = .ok (.lmul, 1) := by decide +kernel
theorem dX8_isNearer_36 : decode cX8_isNearer 36 = .ok (.lcmp, 1) := by decide +kernel
theorem dX8_isNearer_37 : decode cX8_isNearer 37 = .ok (.ifCond .ge 7, 3) := by decide +kernel
theorem dX8_isNearer_40 : decode cX8_isNearer 40 = .ok (.iconst 1, 1) := by decide +kernel
theorem dX8_isNearer_41 : decode cX8_isNearer 41 = .ok (.goto 4, 3) := by decide +kernel
theorem dX8_isNearer_44 : decode cX8_isNearer 44 = .ok (.iconst 0, 1) := by decide +kernel
theorem dX8_isNearer_45 : decode cX8_isNearer 45 = .ok (.ireturn, 1) := by decide +kernel
theorem dX9_init_0 : decode cX9_init 0 = .ok (.aload_n 0, 1) := by decide +kernel
theorem dX9_init_1 : decode cX9_init 1 = .ok (.invokespecial 1, 3) := by decide +kernel
theorem dX9_init_4 : decode cX9_init 4 = .ok (.aload_n 0, 1) := by decide +kernel
theorem dX9_init_5 : decode cX9_init 5 = .ok (.sipush 23520, 3) := by decide +kernel
theorem dX9_init_8 : decode cX9_init 8 = .ok (.newarray .int, 2) := by decide +kernel
theorem dX9_init_10 : decode cX9_init 10 = .ok (.putfield 7, 3) := by decide +kernel
theorem dX9_init_13 : decode cX9_init 13 = .ok (.aload_n 0, 1) := by decide +kernel
theorem dX9_init_14 : decode cX9_init 14 = .ok (.iconst 3, 1) := by decide +kernel
theorem dX9_init_15 : decode cX9_init 15 = .ok (.newarray .boolean, 2) := by decide +kernel
theorem dX9_init_17 : decode cX9_init 17 = .ok (.putfield 13, 3) := by decide +kernel
theorem dX9_init_20 : decode cX9_init 20 = .ok (.iconst 0, 1) := by decide +kernel
theorem dX9_init_21 : decode cX9_init 21 = .ok (.istore_n 1, 1) := by decide +kernel
theorem dX9_init_22 : decode cX9_init 22 = .ok (.iload_n 1, 1) := by decide +kernel
theorem dX9_init_23 : decode cX9_init 23 = .ok (.bipush 20, 2) := by decide +kernel
theorem dX9_init_25 : decode cX9_init 25 = .ok (.if_icmp .ge 83, 3) := by decide +kernel
theorem dX9_init_28 : decode cX9_init 28 = .ok (.aload_n 0, 1) := by decide +kernel
theorem dX9_init_29 : decode cX9_init 29 = .ok (.getfield 7, 3) := by decide +kernel
theorem dX9_init_32 : decode cX9_init 32 = .ok (.iload_n 1, 1) := by decide +kernel
theorem dX9_init_33 : decode cX9_init 33 = .ok (.bipush 16, 2) := by decide +kernel
theorem dX9_init_35 : decode cX9_init 35 = .ok (.iastore, 1) := by decide +kernel
theorem dX9_init_36 : decode cX9_init 36 = .ok (.aload_n 0, 1) := by decide +kernel
theorem dX9_init_37 : decode cX9_init 37 = .ok (.getfield 7, 3) := by decide +kernel
theorem dX9_init_40 : decode cX9_init 40 = .ok (.iload_n 1, 1) := by decide +kernel
theorem dX9_init_41 : decode cX9_init 41 = .ok (.iconst 1, 1) := by decide +kernel
theorem dX9_init_42 : decode cX9_init 42 = .ok (.iadd, 1) := by decide +kernel
theorem dX9_init_43 : decode cX9_init 43 = .ok (.iconst 2, 1) := by decide +kernel
theorem dX9_init_44 : decode cX9_init 44 = .ok (.iastore, 1) := by decide +kernel
theorem dX9_init_45 : decode cX9_init 45 = .ok (.aload_n 0, 1) := by decide +kernel
theorem dX9_init_46 : decode cX9_init 46 = .ok (.getfield 7, 3) := by decide +kernel
theorem dX9_init_49 : decode cX9_init 49 = .ok (.iload_n 1, 1) := by decide +kernel
theorem dX9_init_50 : decode cX9_init 50 = .ok (.iconst 2, 1) := by decide +kernel
theorem dX9_init_51 : decode cX9_init 51 = .ok (.iadd, 1) := by decide +kernel
theorem dX9_init_52 : decode cX9_init 52 = .ok (.iconst 3, 1) := by decide +kernel
theorem dX9_init_53 : decode cX9_init 53 = .ok (.iastore, 1) := by decide +kernel
theorem dX9_init_54 : decode cX9_init 54 = .ok (.aload_n 0, 1) := by decide +kernel
theorem dX9_init_55 : decode cX9_init 55 = .ok (.getfield 7, 3) := by decide +kernel
theorem dX9_init_58 : decode cX9_init 58 = .ok (.iload_n 1, 1) := by decide +kernel
theorem dX9_init_59 : decode cX9_init 59 = .ok (.iconst 3, 1) := by decide +kernel
theorem dX9_init_60 : decode cX9_init 60 = .ok (.iadd, 1) := by decide +kernel
theorem dX9_init_61 : decode cX9_init 61 = .ok (.iconst 3, 1) := by decide +kernel
theorem dX9_init_62 : decode cX9_init 62 = .ok (.iastore, 1) := by decide +kernel
theorem dX9_init_63 : decode cX9_init 63 = .ok (.aload_n 0, 1) := by decide +kernel
theorem dX9_init_64 : decode cX9_init 64 = .ok (.getfield 7, 3) := by decide +kernel
theorem dX9_init_67 : decode cX9_init 67 = .ok (.iload_n 1, 1) := by decide +kernel
theorem dX9_init_68 : decode cX9_init 68 = .ok (.iconst 4, 1) := by decide +kernel
theorem dX9_init_69 : decode cX9_init 69 = .ok (.iadd, 1) := by decide +kernel
theorem dX9_init_70 : decode cX9_init 70 = .ok (.bipush 8, 2) := by decide +kernel
theorem dX9_init_72 : decode cX9_init 72 = .ok (.iastore, 1) := by decide +kernel
theorem dX9_init_73 : decode cX9_init 73 = .ok (.aload_n 0, 1) := by decide +kernel
theorem dX9_init_74 : decode cX9_init 74 = .ok (.getfield 7, 3) := by decide +kernel
theorem dX9_init_77 : decode cX9_init 77 = .ok (.iload_n 1, 1) := by decide +kernel
theorem dX9_init_78 : decode cX9_init 78 = .ok (.iconst 5, 1) := by decide +kernel
theorem dX9_init_79 : decode cX9_init 79 = .ok (.iadd, 1) := by decide +kernel
theorem dX9_init_80 : decode cX9_init 80 = .ok (.iconst 1, 1) := by decide +kernel
theorem dX9_init_81 : decode cX9_init 81 = .ok (.iastore, 1) := by decide +kernel
theorem dX9_init_82 : decode cX9_init 82 = .ok (.aload_n 0, 1) := by decide +kernel
theorem dX9_init_83 : decode cX9_init 83 = .ok (.getfield 7, 3) := by decide +kernel
theorem dX9_init_86 : decode cX9_init 86 = .ok (.iload_n 1, 1) := by decide +kernel
theorem dX9_init_87 : decode cX9_init 87 = .ok (.bipush 6, 2) := by decide +kernel
theorem dX9_init_89 : decode cX9_init 89 = .ok (.iadd, 1) := by decide +kernel
theorem dX9_init_90 : decode cX9_init 90 = .ok (.iconst 1, 1) := by decide +kernel
theorem dX9_init_91 : decode cX9_init 91 = .ok (.iastore, 1) := by decide +kernel
theorem dX9_init_92 : decode cX9_init 92 = .ok (.aload_n 0, 1) := by decide +kernel
theorem dX9_init_93 : decode cX9_init 93 = .ok (.getfield 7, 3) := by decide +kernel
theorem dX9_init_96 : decode cX9_init 96 = .ok (.iload_n 1, 1) := by decide +kernel
theorem dX9_init_97 : decode cX9_init 97 = .ok (.bipush 7, 2) := by decide +kernel
theorem dX9_init_99 : decode cX9_init 99 = .ok (.iadd, 1) := by decide +kernel
theorem dX9_init_100 : decode cX9_init 100 = .ok (.iconst 1, 1) := by decide +kernel
theorem dX9_init_101 : decode cX9_init 101 = .ok (.iastore, 1) := by decide +kernel
theorem dX9_init_102 : decode cX9_init 102 = .ok (.iinc 1 10, 3) := by decide +kernel
theorem dX9_init_105 : decode cX9_init 105 = .ok (.goto (-83), 3) := by decide +kernel
theorem dX9_init_108 : decode cX9_init 108 = .ok (.aload_n 0, 1) := by decide +kernel
theorem dX9_init_109 : decode cX9_init 109 = .ok (.getfield 7, 3) := by decide +kernel
theorem dX9_init_112 : decode cX9_init 112 = .ok (.bipush 20, 2) := by decide +kernel
theorem dX9_init_114 : decode cX9_init 114 = .ok (.bipush 16, 2) := by decide +kernel
theorem dX9_init_116 : decode cX9_init 116 = .ok (.iastore, 1) := by decide +kernel
theorem dX9_init_117 : decode cX9_init 117 = .ok (.aload_n 0, 1) := by decide +kernel
theorem dX9_init_118 : decode cX9_init 118 = .ok (.getfield 7, 3) := by decide +kernel
theorem dX9_init_121 : decode cX9_init 121 = .ok (.bipush 21, 2) := by decide +kernel
theorem dX9_init_123 : decode cX9_init 123 = .ok (.bipush 10, 2) := by decide +kernel
theorem dX9_init_125 : decode cX9_init 125 = .ok (.iastore, 1) := by decide +kernel
theorem dX9_init_126 : decode cX9_init 126 = .ok (.aload_n 0, 1) := by decide +kernel
theorem dX9_init_127 : decode cX9_init 127 = .ok (.getfield 7, 3) := by decide +kernel
theorem dX9_init_130 : decode cX9_init 130 = .ok (.bipush 27, 2) := by decide +kernel
theorem dX9_init_132 : decode cX9_init 132 = .ok (.iconst 1, 1) := by decide +kernel
theorem dX9_init_133 : decode cX9_init 133 = .ok (.iastore, 1) := by decide +kernel
theorem dX9_init_134 : decode cX9_init 134 = .ok (.aload_n 0, 1) := by decide +kernel
theorem dX9_init_135 : decode cX9_init 135 = .ok (.getfield 7, 3) := by decide +kernel
theorem dX9_init_138 : decode cX9_init 138 = .ok (.bipush 29, 2) := by decide +kernel
theorem dX9_init_140 : decode cX9_init 140 = .ok (.iconst 2, 1) := by decide +kernel
theorem dX9_init_141 : decode cX9_init 141 = .ok (.iastore, 1) := by decide +kernel
theorem dX9_init_142 : decode cX9_init 142 = .ok (.aload_n 0, 1) := by decide +kernel
theorem dX9_init_143 : decode cX9_init 143 = .ok (.getfield 7, 3) := by decide +kernel
theorem dX9_init_146 : decode cX9_init 146 = .ok (.bipush 41, 2) := by decide +kernel
theorem dX9_init_148 : decode cX9_init 148 = .ok (.bipush 8, 2) := by decide +kernel
theorem dX9_init_150 : decode cX9_init 150 = .ok (.iastore, 1) := by decide +kernel
theorem dX9_init_151 : decode cX9_init 151 = .ok (.aload_n 0, 1) := by decide +kernel
theorem dX9_init_152 : decode cX9_init 152 = .ok (.getfield 7, 3) := by decide +kernel
theorem dX9_init_155 : decode cX9_init 155 = .ok (.bipush 43, 2) := by decide +kernel
theorem dX9_init_157 : decode cX9_init 157 = .ok (.iconst 1, 1) := by decide +kernel
theorem dX9_init_158 : decode cX9_init 158 = .ok (.iastore, 1) := by decide +kernel
theorem dX9_init_159 : decode cX9_init 159 = .ok (.return_, 1) := by decide +kernel
theorem dX9_isIn_0 : decode cX9_isIn 0 = .ok (.iload_n 0, 1) := by decide +kernel
theorem dX9_isIn_1 : decode cX9_isIn 1 = .ok (.iload_n 1, 1) := by decide +kernel
theorem dX9_isIn_2 : decode cX9_isIn 2 = .ok (.if_icmp .lt 12, 3) := by decide +kernel
theorem dX9_isIn_5 : decode cX9_isIn 5 = .ok (.iload_n 0, 1) := by decide +kernel
theorem dX9_isIn_6 : decode cX9_isIn 6 = .ok (.iload_n 2, 1) := by decide +kernel
theorem dX9_isIn_7 : decode cX9_isIn 7 = .ok (.if_icmp .gt 7, 3) := by decide +kernel
theorem dX9_isIn_10 : decode cX9_isIn 10 = .ok (.iconst 1, 1) := by decide +kernel
theorem dX9_isIn_11 : decode cX9_isIn 11 = .ok (.goto 4, 3) := by decide +kernel
theorem dX9_isIn_14 : decode cX9_isIn 14 = .ok (.iconst 0, 1) := by decide +kernel
theorem dX9_isIn_15 : decode cX9_isIn 15 = .ok (.ireturn, 1) := by decide +kernel
set_option maxRecDepth 20000 in
theorem ggX9_line_X9_isIn : GoodIn wsX9_line wsX9_isIn := goodIn_r _ [5] (by decide +kernel) (by decide +kernel)
set_option maxRecDepth 20000 in
theorem gX9_line_X9_isIn : GoodIn wsX9_line (va_wsS RX9 17 yX9_isIn wsX9_isIn) := goodIn_app (goodIn_of _ (by decide +kernel)) ggX9_line_X9_isIn
theorem dX9_line_0 : decode cX9_line 0 = .ok (.iload_n 1, 1) := by decide +kernel
theorem dX9_line_1 : decode cX9_line 1 = .ok (.bipush 8, 2) := by decide +kernel
theorem dX9_line_3 : decode cX9_line 3 = .ok (.bipush 64, 2) := by decide +kernel
theorem dX9_line_5 : decode cX9_line 5 = .ok (.invokestatic 17, 3) := by decide +kernel
theorem dX9_line_8 : decode cX9_line 8 = .ok (.ifCond .eq 34, 3) := by decide +kernel
theorem dX9_line_11 : decode cX9_line 11 = .ok (.iload_n 2, 1) := by decide +kernel
theorem dX9_line_12 : decode cX9_line 12 = .ok (.iconst 1, 1) := by decide +kernel
theorem dX9_line_13 : decode cX9_line 13 = .ok (.bipush 32, 2) := by decide +kernel
theorem dX9_line_15 : decode cX9_line 15 = .ok (.invokestatic 17, 3) := by decide +kernel
theorem dX9_line_18 : decode cX9_line 18 = .ok (.ifCond .eq 24, 3) := by decide +kernel
theorem dX9_line_21 : decode cX9_line 21 = .ok (.iload_n 3, 1) := by decide +kernel
theorem dX9_line_22 : decode cX9_line 22 = .ok (.iconst 1, 1) := by decide +kernel
theorem dX9_line_23 : decode cX9_line 23 = .ok (.bipush 32, 2) := by decide +kernel
theorem dX9_line_25 : decode cX9_line 25 = .ok (.invokestatic 17, 3) := by decide +kernel
theorem dX9_line_28 : decode cX9_line 28 = .ok (.ifCond .eq 14, 3) := by decide +kernel
theorem dX9_line_31 : decode cX9_line 31 = .ok (.iload 4, 2) := by decide +kernel
theorem dX9_line_33 : decode cX9_line 33 = .ok (.iconst 1, 1) := by decide +kernel
theorem dX9_line_34 : decode cX9_line 34 = .ok (.bipush 32, 2) := by decide +kernel
theorem dX9_line_36 : decode cX9_line 36 = .ok (.invokestatic 17, 3) := by decide +kernel
theorem dX9_line_39 : decode cX9_line 39 = .ok (.ifCond .ne 5, 3) := by decide +kernel
theorem dX9_line_42 : decode cX9_line 42 = .ok (.iconst 0, 1) := by decide +kernel
theorem dX9_line_43 : decode cX9_line 43 = .ok (.ireturn, 1) := by decide +kernel
theorem dX9_line_44 : decode cX9_line 44 = .ok (.aload_n 0, 1) := by decide +kernel
theorem dX9_line_45 : decode cX9_line 45 = .ok (.getfield 7, 3) := by decide +kernel
theorem dX9_line_48 : decode cX9_line 48 = .ok (.bipush 10, 2) := by decide +kernel
theorem dX9_line_50 : decode cX9_line 50 = .ok (.iload_n 1, 1) := by decide +kernel
theorem dX9_line_51 : decode cX9_line 51 = .ok (.iastore, 1) := by decide +kernel
theorem dX9_line_52 : decode cX9_line 52 = .ok (.aload_n 0, 1) := by decide +kernel
theorem dX9_line_53 : decode cX9_line 53 = .ok (.getfield 7, 3) := by decide +kernel
theorem dX9_line_56 : decode cX9_line 56 = .ok (.bipush 11, 2) := by decide +kernel
theorem dX9_line_58 : decode cX9_line 58 = .ok (.iload_n 2, 1) := by decide +kernel
theorem dX9_line_59 : decode cX9_line 59 = .ok (.iastore, 1) := by decide +kernel
theorem dX9_line_60 : decode cX9_line 60 = .ok (.aload_n 0, 1) := by decide +kernel
theorem dX9_line_61 : decode cX9_line 61 = .ok (.getfield 7, 3) := by decide +kernel
theorem dX9_line_64 : decode cX9_line 64 = .ok (.bipush 12, 2) := by decide +kernel
theorem dX9_line_66 : decode cX9_line 66 = .ok (.iload_n 3, 1) := by decide +kernel
theorem dX9_line_67 : decode cX9_line 67 = .ok (.iastore, 1) := by decide +kernel
theorem dX9_line_68 : decode cX9_line 68 = .ok (.aload_n 0, 1) := by decide +kernel
theorem dX9_line_69 : decode cX9_line 69 = .ok (.getfield 7, 3) := by decide +kernel
theorem dX9_line_72 : decode cX9_line 72 = .ok (.bipush 13, 2) := by decide +kernel
theorem dX9_line_74 : decode cX9_line 74 = .ok (.iload 4, 2) := by decide +kernel
theorem dX9_line_76 : decode cX9_line 76 = .ok (.iastore, 1) := by decide +kernel
theorem dX9_line_77 : decode cX9_line 77 = .ok (.iconst 1, 1) := by decide +kernel
theorem dX9_line_78 : decode cX9_line 78 = .ok (.ireturn, 1) := by decide +kernel
set_option maxRecDepth 20000 in
theorem ggX9_field_X9_isIn : GoodIn wsX9_field wsX9_isIn := goodIn_r _ [5] (by decide +kernel) (by decide +kernel)
set_option maxRecDepth 20000 in
theorem gX9_field_X9_isIn : GoodIn wsX9_field (va_wsS RX9 17 yX9_isIn wsX9_isIn) := goodIn_app (goodIn_of _ (by decide +kernel)) ggX9_field_X9_isIn
theorem dX9_field_0 : decode cX9_field 0 = .ok (.iload_n 1, 1) := by decide +kernel
theorem dX9_field_1 : decode cX9_field 1 = .ok (.iconst 1, 1) := by decide +kernel
theorem dX9_field_2 : decode cX9_field 2 = .ok (.bipush 32, 2) := by decide +kernel
theorem dX9_field_4 : decode cX9_field 4 = .ok (.invokestatic 17, 3) := by decide +kernel
theorem dX9_field_7 : decode cX9_field 7 = .ok (.ifCond .eq 34, 3) := by decide +kernel
theorem dX9_field_10 : decode cX9_field 10 = .ok (.iload_n 2, 1) := by decide +kernel
theorem dX9_field_11 : decode cX9_field 11 = .ok (.iconst 1, 1) := by decide +kernel
theorem dX9_field_12 : decode cX9_field 12 = .ok (.bipush 8, 2) := by decide +kernel
theorem dX9_field_14 : decode cX9_field 14 = .ok (.invokestatic 17, 3) := by decide +kernel
theorem dX9_field_17 : decode cX9_field 17 = .ok (.ifCond .eq 24, 3) := by decide +kernel
theorem dX9_field_20 : decode cX9_field 20 = .ok (.iload_n 3, 1) := by decide +kernel
theorem dX9_field_21 : decode cX9_field 21 = .ok (.iconst 1, 1) := by decide +kernel
theorem dX9_field_22 : decode cX9_field 22 = .ok (.bipush 8, 2) := by decide +kernel
theorem dX9_field_24 : decode cX9_field 24 = .ok (.invokestatic 17, 3) := by decide +kernel
theorem dX9_field_27 : decode cX9_field 27 = .ok (.ifCond .eq 14, 3) := by decide +kernel
theorem dX9_field_30 : decode cX9_field 30 = .ok (.iload 4, 2) := by decide +kernel
theorem dX9_field_32 : decode cX9_field 32 = .ok (.iconst 1, 1) := by decide +kernel
theorem dX9_field_33 : decode cX9_field 33 = .ok (.bipush 8, 2) := by decide +kernel
theorem dX9_field_35 : decode cX9_field 35 = .ok (.invokestatic 17, 3) := by decide +kernel
theorem dX9_field_38 : decode cX9_field 38 = .ok (.ifCond .ne 5, 3) := by decide +kernel
theorem dX9_field_41 : decode cX9_field 41 = .ok (.iconst 0, 1) := by decide +kernel
theorem dX9_field_42 : decode cX9_field 42 = .ok (.ireturn, 1) := by decide +kernel
theorem dX9_field_43 : decode cX9_field 43 = .ok (.aload_n 0, 1) := by decide +kernel
theorem dX9_field_44 : decode cX9_field 44 = .ok (.getfield 7, 3) := by decide +kernel
theorem dX9_field_47 : decode cX9_field 47 = .ok (.bipush 14, 2) := by decide +kernel
theorem dX9_field_49 : decode cX9_field 49 = .ok (.iload_n 1, 1) := by decide +kernel
theorem dX9_field_50 : decode cX9_field 50 = .ok (.iastore, 1) := by decide +kernel
theorem dX9_field_51 : decode cX9_field 51 = .ok (.aload_n 0, 1) := by decide +kernel
theorem dX9_field_52 : decode cX9_field 52 = .ok (.getfield 7, 3) := by decide +kernel
theorem dX9_field_55 : decode cX9_field 55 = .ok (.bipush 15, 2) := by decide +kernel
theorem dX9_field_57 : decode cX9_field 57 = .ok (.iload_n 2, 1) := by decide +kernel
theorem dX9_field_58 : decode cX9_field 58 = .ok (.iastore, 1) := by decide +kernel
theorem dX9_field_59 : decode cX9_field 59 = .ok (.aload_n 0, 1) := by decide +kernel
theorem dX9_field_60 : decode cX9_field 60 = .ok (.getfield 7, 3) := by decide +kernel
theorem dX9_field_63 : decode cX9_field 63 = .ok (.bipush 16, 2) := by decide +kernel
theorem dX9_field_65 : decode cX9_field 65 = .ok (.iload_n 3, 1) := by decide +kernel
theorem dX9_field_66 : decode cX9_field 66 = .ok (.iastore, 1) := by decide +kernel
theorem dX9_field_67 : decode cX9_field 67 = .ok (.aload_n 0, 1) := by decide +kernel
theorem dX9_field_68 : decode cX9_field 68 = .ok (.getfield 7, 3) := by decide +kernel
theorem dX9_field_71 : decode cX9_field 71 = .ok (.bipush 17, 2) := by decide +kernel
theorem dX9_field_73 : decode cX9_field 73 = .ok (.iload 4, 2) := by decide +kernel
theorem dX9_field_75 : decode cX9_field 75 = .ok (.iastore, 1) := by decide +kernel
theorem dX9_field_76 : decode cX9_field 76 = .ok (.aload_n 0, 1) := by decide +kernel
theorem dX9_field_77 : decode cX9_field 77 = .ok (.getfield 7, 3) := by decide +kernel
theorem dX9_field_80 : decode cX9_field 80 = .ok (.bipush 18, 2) := by decide +kernel
theorem dX9_field_82 : decode cX9_field 82 = .ok (.iload 5, 2) := by decide +kernel
theorem dX9_field_84 : decode cX9_field 84 = .ok (.ifCond .eq 7, 3) := by decide +kernel
theorem dX9_field_87 : decode cX9_field 87 = .ok (.iconst 1, 1) := by decide +kernel
theorem dX9_field_88 : decode cX9_field 88 = .ok (.goto 4, 3) := by decide +kernel
theorem dX9_field_91 : decode cX9_field 91 = .ok (.iconst 0, 1) := by decide +kernel
theorem dX9_field_92 : decode cX9_field 92 = .ok (.iastore, 1) := by decide +kernel
theorem dX9_field_93 : decode cX9_field 93 = .ok (.iconst 1, 1) := by decide +kernel
theorem dX9_field_94 : decode cX9_field 94 = .ok (.ireturn, 1) := by decide +kernel
theorem dX9_ticksOf_0 : decode cX9_ticksOf 0 = .ok (.aload_n 0, 1) := by decide +kernel
theorem dX9_ticksOf_1 : decode cX9_ticksOf 1 = .ok (.getfield 7, 3) := by decide +kernel
theorem dX9_ticksOf_4 : decode cX9_ticksOf 4 = .ok (.iload_n 1, 1) := by decide +kernel
theorem dX9_ticksOf_5 : decode cX9_ticksOf 5 = .ok (.iaload, 1) := by decide +kernel
theorem dX9_ticksOf_6 : decode cX9_ticksOf 6 = .ok (.aload_n 0, 1) := by decide +kernel
theorem dX9_ticksOf_7 : decode cX9_ticksOf 7 = .ok (.getfield 7, 3) := by decide +kernel
theorem dX9_ticksOf_10 : decode cX9_ticksOf 10 = .ok (.iload_n 1, 1) := by decide +kernel
theorem dX9_ticksOf_11 : decode cX9_ticksOf 11 = .ok (.iconst 1, 1) := by decide +kernel
theorem dX9_ticksOf_12 : decode cX9_ticksOf 12 = .ok (.iadd, 1) := by decide +kernel
theorem dX9_ticksOf_13 : decode cX9_ticksOf 13 = .ok (.iaload, 1) := by decide +kernel
theorem dX9_ticksOf_14 : decode cX9_ticksOf 14 = .ok (.iadd, 1) := by decide +kernel
theorem dX9_ticksOf_15 : decode cX9_ticksOf 15 = .ok (.aload_n 0, 1) := by decide +kernel
theorem dX9_ticksOf_16 : decode cX9_ticksOf 16 = .ok (.getfield 7, 3) := by decide +kernel
theorem dX9_ticksOf_19 : decode cX9_ticksOf 19 = .ok (.iload_n 1, 1) := by decide +kernel
theorem dX9_ticksOf_20 : decode cX9_ticksOf 20 = .ok (.iconst 2, 1) := by decide +kernel
theorem dX9_ticksOf_21 : decode cX9_ticksOf 21 = .ok (.iadd, 1) := by decide +kernel
theorem dX9_ticksOf_22 : decode cX9_ticksOf 22 = .ok (.iaload, 1) := by decide +kernel
theorem dX9_ticksOf_23 : decode cX9_ticksOf 23 = .ok (.iadd, 1) := by decide +kernel
theorem dX9_ticksOf_24 : decode cX9_ticksOf 24 = .ok (.aload_n 0, 1) := by decide +kernel
theorem dX9_ticksOf_25 : decode cX9_ticksOf 25 = .ok (.getfield 7, 3) := by decide +kernel
theorem dX9_ticksOf_28 : decode cX9_ticksOf 28 = .ok (.iload_n 1, 1) := by decide +kernel
theorem dX9_ticksOf_29 : decode cX9_ticksOf 29 = .ok (.iconst 3, 1) := by decide +kernel
theorem dX9_ticksOf_30 : decode cX9_ticksOf 30 = .ok (.iadd, 1) := by decide +kernel
theorem dX9_ticksOf_31 : decode cX9_ticksOf 31 = .ok (.iaload, 1) := by decide +kernel
theorem dX9_ticksOf_32 : decode cX9_ticksOf 32 = .ok (.iadd, 1) := by decide +kernel
theorem dX9_ticksOf_33 : decode cX9_ticksOf 33 = .ok (.ireturn, 1) := by decide +kernel
theorem dX9_linesOf_0 : decode cX9_linesOf 0 = .ok (.aload_n 0, 1) := by decide +kernel
theorem dX9_linesOf_1 : decode cX9_linesOf 1 = .ok (.getfield 7, 3) := by decide +kernel
theorem dX9_linesOf_4 : decode cX9_linesOf 4 = .ok (.iload_n 1, 1) := by decide +kernel
theorem dX9_linesOf_5 : decode cX9_linesOf 5 = .ok (.iconst 4, 1) := by decide +kernel
theorem dX9_linesOf_6 : decode cX9_linesOf 6 = .ok (.iadd, 1) := by decide +kernel
theorem dX9_linesOf_7 : decode cX9_linesOf 7 = .ok (.iaload, 1) := by decide +kernel
theorem dX9_linesOf_8 : decode cX9_linesOf 8 = .ok (.aload_n 0, 1) := by decide +kernel
theorem dX9_linesOf_9 : decode cX9_linesOf 9 = .ok (.getfield 7, 3) := by decide +kernel
theorem dX9_linesOf_12 : decode cX9_linesOf 12 = .ok (.iload_n 1, 1) := by decide +kernel
theorem dX9_linesOf_13 : decode cX9_linesOf 13 = .ok (.iconst 5, 1) := by decide +kernel
theorem dX9_linesOf_14 : decode cX9_linesOf 14 = .ok (.iadd, 1) := by decide +kernel
theorem dX9_linesOf_15 : decode cX9_linesOf 15 = .ok (.iaload, 1) := by decide +kernel
theorem dX9_linesOf_16 : decode cX9_linesOf 16 = .ok (.iadd, 1) := by decide +kernel
theorem dX9_linesOf_17 : decode cX9_linesOf 17 = .ok (.aload_n 0, 1) := by decide +kernel
theorem dX9_linesOf_18 : decode cX9_linesOf 18 = .ok (.getfield 7, 3) := by decide +kernel
theorem dX9_linesOf_21 : decode cX9_linesOf 21 = .ok (.iload_n 1, 1) := by decide +kernel
theorem dX9_linesOf_22 : decode cX9_linesOf 22 = .ok (.bipush 6, 2) := by decide +kernel
theorem dX9_linesOf_24 : decode cX9_linesOf 24 = .ok (.iadd, 1) := by decide +kernel
theorem dX9_linesOf_25 : decode cX9_linesOf 25 = .ok (.iaload, 1) := by decide +kernel
theorem dX9_linesOf_26 : decode cX9_linesOf 26 = .ok (.iadd, 1) := by decide +kernel
theorem dX9_linesOf_27 : decode cX9_linesOf 27 = .ok (.aload_n 0, 1) := by decide +kernel
theorem dX9_linesOf_28 : decode cX9_linesOf 28 = .ok (.getfield 7, 3) := by decide +kernel
theorem dX9_linesOf_31 : decode cX9_linesOf 31 = .ok (.iload_n 1, 1) := by decide +kernel
theorem dX9_linesOf_32 : decode cX9_linesOf 32 = .ok (.bipush 7, 2) := by decide +kernel
theorem dX9_linesOf_34 : decode cX9_linesOf 34 = .ok (.iadd, 1) := by decide +kernel
theorem dX9_linesOf_35 : decode cX9_linesOf 35 = .ok (.iaload, 1) := by decide +kernel
theorem dX9_linesOf_36 : decode cX9_linesOf 36 = .ok (.iadd, 1) := by decide +kernel
theorem dX9_linesOf_37 : decode cX9_linesOf 37 = .ok (.ireturn, 1) := by decide +kernel
theorem dX9_nextField_0 : decode cX9_nextField 0 = .ok (.aload_n 0, 1) := by decide +kernel
theorem dX9_nextField_1 : decode cX9_nextField 1 = .ok (.getfield 7, 3) := by decide +kernel
theorem dX9_nextField_4 : decode cX9_nextField 4 = .ok (.bipush 8, 2) := by decide +kernel
theorem dX9_nextField_6 : decode cX9_nextField 6 = .ok (.iaload, 1) := by decide +kernel
theorem dX9_nextField_7 : decode cX9_nextField 7 = .ok (.iconst 1, 1) := by decide +kernel
theorem dX9_nextField_8 : decode cX9_nextField 8 = .ok (.if_icmp .ne 27, 3) := by decide +kernel
theorem dX9_nextField_11 : decode cX9_nextField 11 = .ok (.aload_n 0, 1) := by decide +kernel
theorem dX9_nextField_12 : decode cX9_nextField 12 = .ok (.getfield 7, 3) := by decide +kernel
theorem dX9_nextField_15 : decode cX9_nextField 15 = .ok (.sipush 5878, 3) := by decide +kernel
theorem dX9_nextField_18 : decode cX9_nextField 18 = .ok (.iaload, 1) := by decide +kernel
theorem dX9_nextField_19 : decode cX9_nextField 19 = .ok (.iconst 1, 1) := by decide +kernel
theorem dX9_nextField_20 : decode cX9_nextField 20 = .ok (.if_icmp .ne 15, 3) := by decide +kernel
theorem dX9_nextField_23 : decode cX9_nextField 23 = .ok (.iconst 1, 1) := by decide +kernel
theorem dX9_nextField_24 : decode cX9_nextField 24 = .ok (.aload_n 0, 1) := by decide +kernel
theorem dX9_nextField_25 : decode cX9_nextField 25 = .ok (.getfield 7, 3) := by decide +kernel
theorem dX9_nextField_28 : decode cX9_nextField 28 = .ok (.bipush 22, 2) := by decide +kernel
theorem dX9_nextField_30 : decode cX9_nextField 30 = .ok (.iaload, 1) := by decide +kernel
theorem dX9_nextField_31 : decode cX9_nextField 31 = .ok (.isub, 1) := by decide +kernel
theorem dX9_nextField_32 : decode cX9_nextField 32 = .ok (.goto 4, 3) := by decide +kernel
theorem dX9_nextField_35 : decode cX9_nextField 35 = .ok (.iconst 0, 1) := by decide +kernel
theorem dX9_nextField_36 : decode cX9_nextField 36 = .ok (.ireturn, 1) := by decide +kernel
theorem dX9_rowOf_0 : decode cX9_rowOf 0 = .ok (.iload_n 2, 1) := by decide +kernel
theorem dX9_rowOf_1 : decode cX9_rowOf 1 = .ok (.iconst 1, 1) := by decide +kernel
theorem dX9_rowOf_2 : decode cX9_rowOf 2 = .ok (.if_icmp .ne 11, 3) := by decide +kernel
theorem dX9_rowOf_5 : decode cX9_rowOf 5 = .ok (.iconst 2, 1) := by decide +kernel
theorem dX9_rowOf_6 : decode cX9_rowOf 6 = .ok (.iload_n 0, 1) := by decide +kernel
theorem dX9_rowOf_7 : decode cX9_rowOf 7 = .ok (.imul, 1) := by decide +kernel
theorem dX9_rowOf_8 : decode cX9_rowOf 8 = .ok (.iload_n 1, 1) := by decide +kernel
theorem dX9_rowOf_9 : decode cX9_rowOf 9 = .ok (.iadd, 1) := by decide +kernel
theorem dX9_rowOf_10 : decode cX9_rowOf 10 = .ok (.goto 4, 3) := by decide +kernel
theorem dX9_rowOf_13 : decode cX9_rowOf 13 = .ok (.iload_n 0, 1) := by decide +kernel
theorem dX9_rowOf_14 : decode cX9_rowOf 14 = .ok (.ireturn, 1) := by decide +kernel
set_option maxRecDepth 20000 in
theorem ggX9_put_X9_isIn : GoodIn wsX9_put wsX9_isIn := goodIn_r _ [5] (by decide +kernel) (by decide +kernel)
set_option maxRecDepth 20000 in
theorem gX9_put_X9_isIn : GoodIn wsX9_put (va_wsS RX9 17 yX9_isIn wsX9_isIn) := goodIn_app (goodIn_of _ (by decide +kernel)) ggX9_put_X9_isIn
theorem dX9_put_0 : decode cX9_put 0 = .ok (.iload_n 1, 1) := by decide +kernel
theorem dX9_put_1 : decode cX9_put 1 = .ok (.iconst 0, 1) := by decide +kernel
theorem dX9_put_2 : decode cX9_put 2 = .ok (.sipush 1023, 3) := by decide +kernel
theorem dX9_put_5 : decode cX9_put 5 = .ok (.invokestatic 17, 3) := by decide +kernel
theorem dX9_put_8 : decode cX9_put 8 = .ok (.ifCond .ne 5, 3) := by decide +kernel
theorem dX9_put_11 : decode cX9_put 11 = .ok (.iconst 0, 1) := by decide +kernel
theorem dX9_put_12 : decode cX9_put 12 = .ok (.ireturn, 1) := by decide +kernel
theorem dX9_put_13 : decode cX9_put 13 = .ok (.aload_n 0, 1) := by decide +kernel
theorem dX9_put_14 : decode cX9_put 14 = .ok (.getfield 7, 3) := by decide +kernel
theorem dX9_put_17 : decode cX9_put 17 = .ok (.sipush 740, 3) := by decide +kernel
theorem dX9_put_20 : decode cX9_put 20 = .ok (.iload_n 1, 1) := by decide +kernel
theorem dX9_put_21 : decode cX9_put 21 = .ok (.iadd, 1) := by decide +kernel
theorem dX9_put_22 : decode cX9_put 22 = .ok (.iload_n 2, 1) := by decide +kernel
theorem dX9_put_23 : decode cX9_put 23 = .ok (.sipush 255, 3) := by decide +kernel
theorem dX9_put_26 : decode cX9_put 26 = .ok (.iand, 1) := by decide +kernel
theorem dX9_put_27 : decode cX9_put 27 = .ok (.iastore, 1) := by decide +kernel
theorem dX9_put_28 : decode cX9_put 28 = .ok (.iconst 1, 1) := by decide +kernel
theorem dX9_put_29 : decode cX9_put 29 = .ok (.ireturn, 1) := by decide +kernel
set_option maxRecDepth 20000 in
theorem ggX9_four_X9_isIn : GoodIn wsX9_four wsX9_isIn := goodIn_r _ [5] (by decide +kernel) (by decide +kernel)
set_option maxRecDepth 20000 in
theorem gX9_four_X9_isIn : GoodIn wsX9_four (va_wsS RX9 17 yX9_isIn wsX9_isIn) := goodIn_app (goodIn_of _ (by decide +kernel)) ggX9_four_X9_isIn
theorem dX9_four_0 : decode cX9_four 0 = .ok (.iload_n 1, 1) := by decide +kernel
theorem dX9_four_1 : decode cX9_four 1 = .ok (.iconst 0, 1) := by decide +kernel
theorem dX9_four_2 : decode cX9_four 2 = .ok (.sipush 1023, 3) := by decide +kernel
theorem dX9_four_5 : decode cX9_four 5 = .ok (.invokestatic 17, 3) := by decide +kernel
theorem dX9_four_8 : decode cX9_four 8 = .ok (.ifCond .ne 5, 3) := by decide +kernel
theorem dX9_four_11 : decode cX9_four 11 = .ok (.iconst 0, 1) := by decide +kernel
theorem dX9_four_12 : decode cX9_four 12 = .ok (.ireturn, 1) := by decide +kernel
theorem dX9_four_13 : decode cX9_four 13 = .ok (.iconst 0, 1) := by decide +kernel
theorem dX9_four_14 : decode cX9_four 14 = .ok (.istore_n 3, 1) := by decide +kernel
theorem dX9_four_15 : decode cX9_four 15 = .ok (.iload_n 3, 1) := by decide +kernel
theorem dX9_four_16 : decode cX9_four 16 = .ok (.iconst 4, 1) := by decide +kernel
theorem dX9_four_17 : decode cX9_four 17 = .ok (.if_icmp .ge 38, 3) := by decide +kernel
theorem dX9_four_20 : decode cX9_four 20 = .ok (.aload_n 0, 1) := by decide +kernel
theorem dX9_four_21 : decode cX9_four 21 = .ok (.getfield 7, 3) := by decide +kernel
theorem dX9_four_24 : decode cX9_four 24 = .ok (.sipush 740, 3) := by decide +kernel
theorem dX9_four_27 : decode cX9_four 27 = .ok (.iload_n 1, 1) := by decide +kernel
theorem dX9_four_28 : decode cX9_four 28 = .ok (.iload_n 3, 1) := by decide +kernel
theorem dX9_four_29 : decode cX9_four 29 = .ok (.iadd, 1) := by decide +kernel
theorem dX9_four_30 : decode cX9_four 30 = .ok (.sipush 1024, 3) := by decide +kernel
theorem dX9_four_33 : decode cX9_four 33 = .ok (.irem, 1) := by decide +kernel
theorem dX9_four_34 : decode cX9_four 34 = .ok (.iadd, 1) := by decide +kernel
theorem dX9_four_35 : decode cX9_four 35 = .ok (.iload_n 2, 1) := by decide +kernel
theorem dX9_four_36 : decode cX9_four 36 = .ok (.bipush 24, 2) := by decide +kernel
theorem dX9_four_38 : decode cX9_four 38 = .ok (.bipush 8, 2) := by decide +kernel
theorem dX9_four_40 : decode cX9_four 40 = .ok (.iload_n 3, 1) := by decide +kernel
theorem dX9_four_41 : decode cX9_four 41 = .ok (.imul, 1) := by decide +kernel
theorem dX9_four_42 : decode cX9_four 42 = .ok (.isub, 1) := by decide +kernel
theorem dX9_four_43 : decode cX9_four 43 = .ok (.ishr, 1) := by decide +kernel
theorem dX9_four_44 : decode cX9_four 44 = .ok (.sipush 255, 3) := by decide +kernel
theorem dX9_four_47 : decode cX9_four 47 = .ok (.iand, 1) := by decide +kernel
theorem dX9_four_48 : decode cX9_four 48 = .ok (.iastore, 1) := by decide +kernel
theorem dX9_four_49 : decode cX9_four 49 = .ok (.iinc 3 1, 3) := by decide +kernel
theorem dX9_four_52 : decode cX9_four 52 = .ok (.goto (-37), 3) := by decide +kernel
theorem dX9_four_55 : decode cX9_four 55 = .ok (.iconst 1, 1) := by decide +kernel
theorem dX9_four_56 : decode cX9_four 56 = .ok (.ireturn, 1) := by decide +kernel
set_option maxRecDepth 20000 in
theorem ggX9_isValue_X9_isIn : GoodIn wsX9_isValue wsX9_isIn := goodIn_r _ [4] (by decide +kernel) (by decide +kernel)
set_option maxRecDepth 20000 in
theorem gX9_isValue_X9_isIn : GoodIn wsX9_isValue (va_wsS RX9 17 yX9_isIn wsX9_isIn) := goodIn_app (goodIn_of _ (by decide +kernel)) ggX9_isValue_X9_isIn
theorem dX9_isValue_0 : decode cX9_isValue 0 = .ok (.iload_n 0, 1) := by decide +kernel
theorem dX9_isValue_1 : decode cX9_isValue 1 = .ok (.tableswitch 69 0 4 #[35, 44, 52, 60, 60], 35) := by decide +kernel
theorem dX9_isValue_36 : decode cX9_isValue 36 = .ok (.iload_n 1, 1) := by decide +kernel
theorem dX9_isValue_37 : decode cX9_isValue 37 = .ok (.iconst 0, 1) := by decide +kernel
theorem dX9_isValue_38 : decode cX9_isValue 38 = .ok (.sipush 1023, 3) := by decide +kernel
theorem dX9_isValue_41 : decode cX9_isValue 41 = .ok (.invokestatic 17, 3) := by decide +kernel
theorem dX9_isValue_44 : decode cX9_isValue 44 = .ok (.ireturn, 1) := by decide +kernel
theorem dX9_isValue_45 : decode cX9_isValue 45 = .ok (.iload_n 1, 1) := by decide +kernel
theorem dX9_isValue_46 : decode cX9_isValue 46 = .ok (.iconst 0, 1) := by decide +kernel
theorem dX9_isValue_47 : decode cX9_isValue 47 = .ok (.bipush 64, 2) := by decide +kernel
theorem dX9_isValue_49 : decode cX9_isValue 49 = .ok (.invokestatic 17, 3) := by decide +kernel
theorem dX9_isValue_52 : decode cX9_isValue 52 = .ok (.ireturn, 1) := by decide +kernel
theorem dX9_isValue_53 : decode cX9_isValue 53 = .ok (.iload_n 1, 1) := by decide +kernel
theorem dX9_isValue_54 : decode cX9_isValue 54 = .ok (.iconst 0, 1) := by decide +kernel
theorem dX9_isValue_55 : decode cX9_isValue 55 = .ok (.bipush 7, 2) := by decide +kernel
theorem dX9_isValue_57 : decode cX9_isValue 57 = .ok (.invokestatic 17, 3) := by decide +kernel
theorem dX9_isValue_60 : decode cX9_isValue 60 = .ok (.ireturn, 1) := by decide +kernel
theorem dX9_isValue_61 : decode cX9_isValue 61 = .ok (.iload_n 1, 1) := by decide +kernel
theorem dX9_isValue_62 : decode cX9_isValue 62 = .ok (.iconst 0, 1) := by decide +kernel
theorem dX9_isValue_63 : decode cX9_isValue 63 = .ok (.sipush 255, 3) := by decide +kernel
theorem dX9_isValue_66 : decode cX9_isValue 66 = .ok (.invokestatic 17, 3) := by decide +kernel
theorem dX9_isValue_69 : decode cX9_isValue 69 = .ok (.ireturn, 1) := by decide +kernel
theorem dX9_isValue_70 : decode cX9_isValue 70 = .ok (.iconst 0, 1) := by decide +kernel
theorem dX9_isValue_71 : decode cX9_isValue 71 = .ok (.ireturn, 1) := by decide +kernel
set_option maxRecDepth 20000 in
theorem ggX9_register_X9_isValue : GoodIn wsX9_register wsX9_isValue := goodIn_r _ [5, 6, 7, 4, 8] (by decide +kernel) (by decide +kernel)
set_option maxRecDepth 20000 in
theorem gX9_register_X9_isValue : GoodIn wsX9_register (va_wsS RX9 21 yX9_isValue wsX9_isValue) := goodIn_app (goodIn_of _ (by decide +kernel)) ggX9_register_X9_isValue
theorem dX9_register_0 : decode cX9_register 0 = .ok (.iload_n 1, 1) := by decide +kernel
theorem dX9_register_1 : decode cX9_register 1 = .ok (.iload_n 2, 1) := by decide +kernel
theorem dX9_register_2 : decode cX9_register 2 = .ok (.invokestatic 21, 3) := by decide +kernel
theorem dX9_register_5 : decode cX9_register 5 = .ok (.ifCond .ne 5, 3) := by decide +kernel
theorem dX9_register_8 : decode cX9_register 8 = .ok (.iconst 0, 1) := by decide +kernel
theorem dX9_register_9 : decode cX9_register 9 = .ok (.ireturn, 1) := by decide +kernel
theorem dX9_register_10 : decode cX9_register 10 = .ok (.aload_n 0, 1) := by decide +kernel
theorem dX9_register_11 : decode cX9_register 11 = .ok (.getfield 7, 3) := by decide +kernel
theorem dX9_register_14 : decode cX9_register 14 = .ok (.bipush 40, 2) := by decide +kernel
theorem dX9_register_16 : decode cX9_register 16 = .ok (.iload_n 1, 1) := by decide +kernel
theorem dX9_register_17 : decode cX9_register 17 = .ok (.iadd, 1) := by decide +kernel
theorem dX9_register_18 : decode cX9_register 18 = .ok (.iload_n 2, 1) := by decide +kernel
theorem dX9_register_19 : decode cX9_register 19 = .ok (.iastore, 1) := by decide +kernel
theorem dX9_register_20 : decode cX9_register 20 = .ok (.iconst 1, 1) := by decide +kernel
theorem dX9_register_21 : decode cX9_register 21 = .ok (.ireturn, 1) := by decide +kernel
set_option maxRecDepth 20000 in
theorem ggX9_entry_X9_isIn : GoodIn wsX9_entry wsX9_isIn := goodIn_r _ [5] (by decide +kernel) (by decide +kernel)
set_option maxRecDepth 20000 in
theorem gX9_entry_X9_isIn : GoodIn wsX9_entry (va_wsS RX9 17 yX9_isIn wsX9_isIn) := goodIn_app (goodIn_of _ (by decide +kernel)) ggX9_entry_X9_isIn
set_option maxRecDepth 20000 in
theorem ggX9_entry_X9_isValue : GoodIn wsX9_entry wsX9_isValue := goodIn_r _ [8, 2, 3, 4, 5] (by decide +kernel) (by decide +kernel)
set_option maxRecDepth 20000 in
theorem gX9_entry_X9_isValue : GoodIn wsX9_entry (va_wsS RX9 21 yX9_isValue wsX9_isValue) := goodIn_app (goodIn_of _ (by decide +kernel)) ggX9_entry_X9_isValue
theorem dX9_entry_0 : decode cX9_entry 0 = .ok (.aload_n 0, 1) := by decide +kernel
theorem dX9_entry_1 : decode cX9_entry 1 = .ok (.getfield 7, 3) := by decide +kernel
theorem dX9_entry_4 : decode cX9_entry 4 = .ok (.bipush 36, 2) := by decide +kernel
theorem dX9_entry_6 : decode cX9_entry 6 = .ok (.iaload, 1) := by decide +kernel
theorem dX9_entry_7 : decode cX9_entry 7 = .ok (.bipush 16, 2) := by decide +kernel
theorem dX9_entry_9 : decode cX9_entry 9 = .ok (.if_icmp .eq 33, 3) := by decide +kernel
theorem dX9_entry_12 : decode cX9_entry 12 = .ok (.iload_n 1, 1) := by decide +kernel
theorem dX9_entry_13 : decode cX9_entry 13 = .ok (.iconst 0, 1) := by decide +kernel
theorem dX9_entry_14 : decode cX9_entry 14 = .ok (.bipush 63, 2) := by decide +kernel
theorem dX9_entry_16 : decode cX9_entry 16 = .ok (.invokestatic 17, 3) := by decide +kernel
theorem dX9_entry_19 : decode cX9_entry 19 = .ok (.ifCond .eq 23, 3) := by decide +kernel
theorem dX9_entry_22 : decode cX9_entry 22 = .ok (.iload_n 2, 1) := by decide +kernel
theorem dX9_entry_23 : decode cX9_entry 23 = .ok (.iconst 0, 1) := by decide +kernel
theorem dX9_entry_24 : decode cX9_entry 24 = .ok (.sipush 159, 3) := by decide +kernel
theorem dX9_entry_27 : decode cX9_entry 27 = .ok (.invokestatic 17, 3) := by decide +kernel
theorem dX9_entry_30 : decode cX9_entry 30 = .ok (.ifCond .eq 12, 3) := by decide +kernel
theorem dX9_entry_33 : decode cX9_entry 33 = .ok (.iload_n 3, 1) := by decide +kernel
theorem dX9_entry_34 : decode cX9_entry 34 = .ok (.iload 4, 2) := by decide +kernel
theorem dX9_entry_36 : decode cX9_entry 36 = .ok (.invokestatic 21, 3) := by decide +kernel
theorem dX9_entry_39 : decode cX9_entry 39 = .ok (.ifCond .ne 5, 3) := by decide +kernel
theorem dX9_entry_42 : decode cX9_entry 42 = .ok (.iconst (-1), 1) := by decide +kernel
theorem dX9_entry_43 : decode cX9_entry 43 = .ok (.ireturn, 1) := by decide +kernel
theorem dX9_entry_44 : decode cX9_entry 44 = .ok (.bipush 60, 2) := by decide +kernel
theorem dX9_entry_46 : decode cX9_entry 46 = .ok (.iconst 4, 1) := by decide +kernel
theorem dX9_entry_47 : decode cX9_entry 47 = .ok (.aload_n 0, 1) := by decide +kernel
theorem dX9_entry_48 : decode cX9_entry 48 = .ok (.getfield 7, 3) := by decide +kernel
theorem dX9_entry_51 : decode cX9_entry 51 = .ok (.bipush 36, 2) := by decide +kernel
theorem dX9_entry_53 : decode cX9_entry 53 = .ok (.iaload, 1) := by decide +kernel
theorem dX9_entry_54 : decode cX9_entry 54 = .ok (.imul, 1) := by decide +kernel
theorem dX9_entry_55 : decode cX9_entry 55 = .ok (.iadd, 1) := by decide +kernel
theorem dX9_entry_56 : decode cX9_entry 56 = .ok (.istore 5, 2) := by decide +kernel
theorem dX9_entry_58 : decode cX9_entry 58 = .ok (.aload_n 0, 1) := by decide +kernel
theorem dX9_entry_59 : decode cX9_entry 59 = .ok (.getfield 7, 3) := by decide +kernel
theorem dX9_entry_62 : decode cX9_entry 62 = .ok (.iload 5, 2) := by decide +kernel
theorem dX9_entry_64 : decode cX9_entry 64 = .ok (.iload_n 1, 1) := by decide +kernel
theorem dX9_entry_65 : decode cX9_entry 65 = .ok (.iastore, 1) := by decide +kernel
theorem dX9_entry_66 : decode cX9_entry 66 = .ok (.aload_n 0, 1) := by decide +kernel
theorem dX9_entry_67 : decode cX9_entry 67 = .ok (.getfield 7, 3) := by decide +kernel
theorem dX9_entry_70 : decode cX9_entry 70 = .ok (.iload 5, 2) := by decide +kernel
theorem dX9_entry_72 : decode cX9_entry 72 = .ok (.iconst 1, 1) := by decide +kernel
theorem dX9_entry_73 : decode cX9_entry 73 = .ok (.iadd, 1) := by decide +kernel
theorem dX9_entry_74 : decode cX9_entry 74 = .ok (.iload_n 2, 1) := by decide +kernel
theorem dX9_entry_75 : decode cX9_entry 75 = .ok (.iastore, 1) := by decide +kernel
theorem dX9_entry_76 : decode cX9_entry 76 = .ok (.aload_n 0, 1) := by decide +kernel
theorem dX9_entry_77 : decode cX9_entry 77 = .ok (.getfield 7, 3) := by decide +kernel
theorem dX9_entry_80 : decode cX9_entry 80 = .ok (.iload 5, 2) := by decide +kernel
theorem dX9_entry_82 : decode cX9_entry 82 = .ok (.iconst 2, 1) := by decide +kernel
theorem dX9_entry_83 : decode cX9_entry 83 = .ok (.iadd, 1) := by decide +kernel
theorem dX9_entry_84 : decode cX9_entry 84 = .ok (.iload_n 3, 1) := by decide +kernel
theorem dX9_entry_85 : decode cX9_entry 85 = .ok (.iastore, 1) := by decide +kernel
theorem dX9_entry_86 : decode cX9_entry 86 = .ok (.aload_n 0, 1) := by decide +kernel
theorem dX9_entry_87 : decode cX9_entry 87 = .ok (.getfield 7, 3) := by decide +kernel
theorem dX9_entry_90 : decode cX9_entry 90 = .ok (.iload 5, 2) := by decide +kernel
theorem dX9_entry_92 : decode cX9_entry 92 = .ok (.iconst 3, 1) := by decide +kernel
theorem dX9_entry_93 : decode cX9_entry 93 = .ok (.iadd, 1) := by decide +kernel
theorem dX9_entry_94 : decode cX9_entry 94 = .ok (.iload 4, 2) := by decide +kernel
theorem dX9_entry_96 : decode cX9_entry 96 = .ok (.iastore, 1) := by decide +kernel
theorem dX9_entry_97 : decode cX9_entry 97 = .ok (.aload_n 0, 1) := by decide +kernel
theorem dX9_entry_98 : decode cX9_entry 98 = .ok (.getfield 7, 3) := by decide +kernel
theorem dX9_entry_101 : decode cX9_entry 101 = .ok (.bipush 36, 2) := by decide +kernel
theorem dX9_entry_103 : decode cX9_entry 103 = .ok (.dup2, 1) := by decide +kernel
theorem dX9_entry_104 : decode cX9_entry 104 = .ok (.iaload, 1) := by decide +kernel
theorem dX9_entry_105 : decode cX9_entry 105 = .ok (.iconst 1, 1) := by decide +kernel
theorem dX9_entry_106 : decode cX9_entry 106 = .ok (.iadd, 1) := by decide +kernel
theorem dX9_entry_107 : decode cX9_entry 107 = .ok (.iastore, 1) := by decide +kernel
theorem dX9_entry_108 : decode cX9_entry 108 = .ok (.aload_n 0, 1) := by decide +kernel
theorem dX9_entry_109 : decode cX9_entry 109 = .ok (.getfield 7, 3) := by decide +kernel
theorem dX9_entry_112 : decode cX9_entry 112 = .ok (.bipush 36, 2) := by decide +kernel
theorem dX9_entry_114 : decode cX9_entry 114 = .ok (.iaload, 1) := by decide +kernel
theorem dX9_entry_115 : decode cX9_entry 115 = .ok (.ireturn, 1) := by decide +kernel
theorem dX9_clear_0 : decode cX9_clear 0 = .ok (.aload_n 0, 1) := by decide +kernel
theorem dX9_clear_1 : decode cX9_clear 1 = .ok (.getfield 7, 3) := by decide +kernel
theorem dX9_clear_4 : decode cX9_clear 4 = .ok (.bipush 36, 2) := by decide +kernel
theorem dX9_clear_6 : decode cX9_clear 6 = .ok (.iconst 0, 1) := by decide +kernel
theorem dX9_clear_7 : decode cX9_clear 7 = .ok (.iastore, 1) := by decide +kernel
theorem dX9_clear_8 : decode cX9_clear 8 = .ok (.return_, 1) := by decide +kernel
end
section
set_option maxRecDepth 20000 in
theorem ggX9_readers_X9_isIn : GoodIn wsX9_readers wsX9_isIn := goodIn_r _ [5] (by decide +kernel) (by decide +kernel)
set_option maxRecDepth 20000 in
theorem gX9_readers_X9_isIn : GoodIn wsX9_readers (va_wsS RX9 17 yX9_isIn wsX9_isIn) := goodIn_app (goodIn_of _ (by decide +kernel)) ggX9_readers_X9_isIn
theorem dX9_readers_0 : decode cX9_readers 0 = .ok (.iload_n 1, 1) := by decide +kernel
theorem dX9_readers_1 : decode cX9_readers 1 = .ok (.iconst 1, 1) := by decide +kernel
theorem dX9_readers_2 : decode cX9_readers 2 = .ok (.bipush 16, 2) := by decide +kernel
theorem dX9_readers_4 : decode cX9_readers 4 = .ok (.invokestatic 17, 3) := by decide +kernel
theorem dX9_readers_7 : decode cX9_readers 7 = .ok (.ifCond .ne 5, 3) := by decide +kernel
theorem dX9_readers_10 : decode cX9_readers 10 = .ok (.iconst 0, 1) := by decide +kernel
theorem dX9_readers_11 : decode cX9_readers 11 = .ok (.ireturn, 1) := by decide +kernel
theorem dX9_readers_12 : decode cX9_readers 12 = .ok (.aload_n 0, 1) := by decide +kernel
theorem dX9_readers_13 : decode cX9_readers 13 = .ok (.getfield 7, 3) := by decide +kernel
theorem dX9_readers_16 : decode cX9_readers 16 = .ok (.bipush 27, 2) := by decide +kernel
theorem dX9_readers_18 : decode cX9_readers 18 = .ok (.iload_n 1, 1) := by decide +kernel
theorem dX9_readers_19 : decode cX9_readers 19 = .ok (.iastore, 1) := by decide +kernel
theorem dX9_readers_20 : decode cX9_readers 20 = .ok (.aload_n 0, 1) := by decide +kernel
theorem dX9_readers_21 : decode cX9_readers 21 = .ok (.getfield 7, 3) := by decide +kernel
theorem dX9_readers_24 : decode cX9_readers 24 = .ok (.bipush 28, 2) := by decide +kernel
theorem dX9_readers_26 : decode cX9_readers 26 = .ok (.iload_n 2, 1) := by decide +kernel
theorem dX9_readers_27 : decode cX9_readers 27 = .ok (.iastore, 1) := by decide +kernel
theorem dX9_readers_28 : decode cX9_readers 28 = .ok (.iconst 1, 1) := by decide +kernel
theorem dX9_readers_29 : decode cX9_readers 29 = .ok (.ireturn, 1) := by decide +kernel
set_option maxRecDepth 20000 in
theorem ggX9_depth_X9_isIn : GoodIn wsX9_depth wsX9_isIn := goodIn_r _ [5] (by decide +kernel) (by decide +kernel)
set_option maxRecDepth 20000 in
theorem gX9_depth_X9_isIn : GoodIn wsX9_depth (va_wsS RX9 17 yX9_isIn wsX9_isIn) := goodIn_app (goodIn_of _ (by decide +kernel)) ggX9_depth_X9_isIn
theorem dX9_depth_0 : decode cX9_depth 0 = .ok (.iload_n 1, 1) := by decide +kernel
theorem dX9_depth_1 : decode cX9_depth 1 = .ok (.iconst 1, 1) := by decide +kernel
theorem dX9_depth_2 : decode cX9_depth 2 = .ok (.bipush 8, 2) := by decide +kernel
theorem dX9_depth_4 : decode cX9_depth 4 = .ok (.invokestatic 17, 3) := by decide +kernel
theorem dX9_depth_7 : decode cX9_depth 7 = .ok (.ifCond .ne 5, 3) := by decide +kernel
theorem dX9_depth_10 : decode cX9_depth 10 = .ok (.iconst 0, 1) := by decide +kernel
theorem dX9_depth_11 : decode cX9_depth 11 = .ok (.ireturn, 1) := by decide +kernel
theorem dX9_depth_12 : decode cX9_depth 12 = .ok (.aload_n 0, 1) := by decide +kernel
theorem dX9_depth_13 : decode cX9_depth 13 = .ok (.getfield 7, 3) := by decide +kernel
theorem dX9_depth_16 : decode cX9_depth 16 = .ok (.bipush 29, 2) := by decide +kernel
theorem dX9_depth_18 : decode cX9_depth 18 = .ok (.iload_n 1, 1) := by decide +kernel
theorem dX9_depth_19 : decode cX9_depth 19 = .ok (.iastore, 1) := by decide +kernel
theorem dX9_depth_20 : decode cX9_depth 20 = .ok (.iconst 1, 1) := by decide +kernel
theorem dX9_depth_21 : decode cX9_depth 21 = .ok (.ireturn, 1) := by decide +kernel
set_option maxRecDepth 20000 in
theorem ggX9_sprite_X9_isIn : GoodIn wsX9_sprite wsX9_isIn := goodIn_r _ [5] (by decide +kernel) (by decide +kernel)
set_option maxRecDepth 20000 in
theorem gX9_sprite_X9_isIn : GoodIn wsX9_sprite (va_wsS RX9 17 yX9_isIn wsX9_isIn) := goodIn_app (goodIn_of _ (by decide +kernel)) ggX9_sprite_X9_isIn
theorem dX9_sprite_0 : decode cX9_sprite 0 = .ok (.iload_n 1, 1) := by decide +kernel
theorem dX9_sprite_1 : decode cX9_sprite 1 = .ok (.iconst 0, 1) := by decide +kernel
theorem dX9_sprite_2 : decode cX9_sprite 2 = .ok (.bipush 7, 2) := by decide +kernel
theorem dX9_sprite_4 : decode cX9_sprite 4 = .ok (.invokestatic 17, 3) := by decide +kernel
theorem dX9_sprite_7 : decode cX9_sprite 7 = .ok (.ifCond .eq 35, 3) := by decide +kernel
theorem dX9_sprite_10 : decode cX9_sprite 10 = .ok (.iload_n 2, 1) := by decide +kernel
theorem dX9_sprite_11 : decode cX9_sprite 11 = .ok (.bipush (-8), 2) := by decide +kernel
theorem dX9_sprite_13 : decode cX9_sprite 13 = .ok (.bipush 63, 2) := by decide +kernel
theorem dX9_sprite_15 : decode cX9_sprite 15 = .ok (.invokestatic 17, 3) := by decide +kernel
theorem dX9_sprite_18 : decode cX9_sprite 18 = .ok (.ifCond .eq 24, 3) := by decide +kernel
theorem dX9_sprite_21 : decode cX9_sprite 21 = .ok (.iload_n 3, 1) := by decide +kernel
theorem dX9_sprite_22 : decode cX9_sprite 22 = .ok (.iconst 0, 1) := by decide +kernel
theorem dX9_sprite_23 : decode cX9_sprite 23 = .ok (.bipush 63, 2) := by decide +kernel
theorem dX9_sprite_25 : decode cX9_sprite 25 = .ok (.invokestatic 17, 3) := by decide +kernel
theorem dX9_sprite_28 : decode cX9_sprite 28 = .ok (.ifCond .eq 14, 3) := by decide +kernel
theorem dX9_sprite_31 : decode cX9_sprite 31 = .ok (.iload 4, 2) := by decide +kernel
theorem dX9_sprite_33 : decode cX9_sprite 33 = .ok (.iconst 0, 1) := by decide +kernel
theorem dX9_sprite_34 : decode cX9_sprite 34 = .ok (.bipush 8, 2) := by decide +kernel
theorem dX9_sprite_36 : decode cX9_sprite 36 = .ok (.invokestatic 17, 3) := by decide +kernel
theorem dX9_sprite_39 : decode cX9_sprite 39 = .ok (.ifCond .ne 5, 3) := by decide +kernel
theorem dX9_sprite_42 : decode cX9_sprite 42 = .ok (.iconst 0, 1) := by decide +kernel
theorem dX9_sprite_43 : decode cX9_sprite 43 = .ok (.ireturn, 1) := by decide +kernel
theorem dX9_sprite_44 : decode cX9_sprite 44 = .ok (.aload_n 0, 1) := by decide +kernel
theorem dX9_sprite_45 : decode cX9_sprite 45 = .ok (.getfield 7, 3) := by decide +kernel
theorem dX9_sprite_48 : decode cX9_sprite 48 = .ok (.sipush 130, 3) := by decide +kernel
theorem dX9_sprite_51 : decode cX9_sprite 51 = .ok (.bipush 11, 2) := by decide +kernel
theorem dX9_sprite_53 : decode cX9_sprite 53 = .ok (.iload_n 1, 1) := by decide +kernel
theorem dX9_sprite_54 : decode cX9_sprite 54 = .ok (.imul, 1) := by decide +kernel
theorem dX9_sprite_55 : decode cX9_sprite 55 = .ok (.iadd, 1) := by decide +kernel
theorem dX9_sprite_56 : decode cX9_sprite 56 = .ok (.iload_n 2, 1) := by decide +kernel
theorem dX9_sprite_57 : decode cX9_sprite 57 = .ok (.iastore, 1) := by decide +kernel
theorem dX9_sprite_58 : decode cX9_sprite 58 = .ok (.aload_n 0, 1) := by decide +kernel
theorem dX9_sprite_59 : decode cX9_sprite 59 = .ok (.getfield 7, 3) := by decide +kernel
theorem dX9_sprite_62 : decode cX9_sprite 62 = .ok (.sipush 130, 3) := by decide +kernel
theorem dX9_sprite_65 : decode cX9_sprite 65 = .ok (.bipush 11, 2) := by decide +kernel
theorem dX9_sprite_67 : decode cX9_sprite 67 = .ok (.iload_n 1, 1) := by decide +kernel
theorem dX9_sprite_68 : decode cX9_sprite 68 = .ok (.imul, 1) := by decide +kernel
theorem dX9_sprite_69 : decode cX9_sprite 69 = .ok (.iadd, 1) := by decide +kernel
theorem dX9_sprite_70 : decode cX9_sprite 70 = .ok (.iconst 1, 1) := by decide +kernel
theorem dX9_sprite_71 : decode cX9_sprite 71 = .ok (.iadd, 1) := by decide +kernel
theorem dX9_sprite_72 : decode cX9_sprite 72 = .ok (.iload_n 3, 1) := by decide +kernel
theorem dX9_sprite_73 : decode cX9_sprite 73 = .ok (.iastore, 1) := by decide +kernel
theorem dX9_sprite_74 : decode cX9_sprite 74 = .ok (.aload_n 0, 1) := by decide +kernel
theorem dX9_sprite_75 : decode cX9_sprite 75 = .ok (.getfield 7, 3) := by decide +kernel
theorem dX9_sprite_78 : decode cX9_sprite 78 = .ok (.sipush 130, 3) := by decide +kernel
theorem dX9_sprite_81 : decode cX9_sprite 81 = .ok (.bipush 11, 2) := by decide +kernel
theorem dX9_sprite_83 : decode cX9_sprite 83 = .ok (.iload_n 1, 1) := by decide +kernel
theorem dX9_sprite_84 : decode cX9_sprite 84 = .ok (.imul, 1) := by decide +kernel
theorem dX9_sprite_85 : decode cX9_sprite 85 = .ok (.iadd, 1) := by decide +kernel
theorem dX9_sprite_86 : decode cX9_sprite 86 = .ok (.iconst 2, 1) := by decide +kernel
theorem dX9_sprite_87 : decode cX9_sprite 87 = .ok (.iadd, 1) := by decide +kernel
theorem dX9_sprite_88 : decode cX9_sprite 88 = .ok (.iload 4, 2) := by decide +kernel
theorem dX9_sprite_90 : decode cX9_sprite 90 = .ok (.iastore, 1) := by decide +kernel
theorem dX9_sprite_91 : decode cX9_sprite 91 = .ok (.iconst 1, 1) := by decide +kernel
theorem dX9_sprite_92 : decode cX9_sprite 92 = .ok (.ireturn, 1) := by decide +kernel
set_option maxRecDepth 20000 in
theorem ggX9_bits_X9_isIn : GoodIn wsX9_bits wsX9_isIn := goodIn_r _ [5] (by decide +kernel) (by decide +kernel)
set_option maxRecDepth 20000 in
theorem gX9_bits_X9_isIn : GoodIn wsX9_bits (va_wsS RX9 17 yX9_isIn wsX9_isIn) := goodIn_app (goodIn_of _ (by decide +kernel)) ggX9_bits_X9_isIn
theorem dX9_bits_0 : decode cX9_bits 0 = .ok (.iload_n 1, 1) := by decide +kernel
theorem dX9_bits_1 : decode cX9_bits 1 = .ok (.iconst 0, 1) := by decide +kernel
theorem dX9_bits_2 : decode cX9_bits 2 = .ok (.bipush 7, 2) := by decide +kernel
theorem dX9_bits_4 : decode cX9_bits 4 = .ok (.invokestatic 17, 3) := by decide +kernel
theorem dX9_bits_7 : decode cX9_bits 7 = .ok (.ifCond .ne 5, 3) := by decide +kernel
theorem dX9_bits_10 : decode cX9_bits 10 = .ok (.iconst 0, 1) := by decide +kernel
theorem dX9_bits_11 : decode cX9_bits 11 = .ok (.ireturn, 1) := by decide +kernel
theorem dX9_bits_12 : decode cX9_bits 12 = .ok (.iconst 0, 1) := by decide +kernel
theorem dX9_bits_13 : decode cX9_bits 13 = .ok (.istore 4, 2) := by decide +kernel
theorem dX9_bits_15 : decode cX9_bits 15 = .ok (.iload 4, 2) := by decide +kernel
theorem dX9_bits_17 : decode cX9_bits 17 = .ok (.iconst 4, 1) := by decide +kernel
theorem dX9_bits_18 : decode cX9_bits 18 = .ok (.if_icmp .ge 50, 3) := by decide +kernel
theorem dX9_bits_21 : decode cX9_bits 21 = .ok (.aload_n 0, 1) := by decide +kernel
theorem dX9_bits_22 : decode cX9_bits 22 = .ok (.getfield 7, 3) := by decide +kernel
theorem dX9_bits_25 : decode cX9_bits 25 = .ok (.sipush 130, 3) := by decide +kernel
theorem dX9_bits_28 : decode cX9_bits 28 = .ok (.bipush 11, 2) := by decide +kernel
theorem dX9_bits_30 : decode cX9_bits 30 = .ok (.iload_n 1, 1) := by decide +kernel
theorem dX9_bits_31 : decode cX9_bits 31 = .ok (.imul, 1) := by decide +kernel
theorem dX9_bits_32 : decode cX9_bits 32 = .ok (.iadd, 1) := by decide +kernel
theorem dX9_bits_33 : decode cX9_bits 33 = .ok (.iload_n 2, 1) := by decide +kernel
theorem dX9_bits_34 : decode cX9_bits 34 = .ok (.ifCond .eq 7, 3) := by decide +kernel
theorem dX9_bits_37 : decode cX9_bits 37 = .ok (.iconst 3, 1) := by decide +kernel
theorem dX9_bits_38 : decode cX9_bits 38 = .ok (.goto 5, 3) := by decide +kernel
theorem dX9_bits_41 : decode cX9_bits 41 = .ok (.bipush 7, 2) := by decide +kernel
theorem dX9_bits_43 : decode cX9_bits 43 = .ok (.iadd, 1) := by decide +kernel
theorem dX9_bits_44 : decode cX9_bits 44 = .ok (.iload 4, 2) := by decide +kernel
theorem dX9_bits_46 : decode cX9_bits 46 = .ok (.iadd, 1) := by decide +kernel
theorem dX9_bits_47 : decode cX9_bits 47 = .ok (.iload_n 3, 1) := by decide +kernel
theorem dX9_bits_48 : decode cX9_bits 48 = .ok (.bipush 24, 2) := by decide +kernel
theorem dX9_bits_50 : decode cX9_bits 50 = .ok (.bipush 8, 2) := by decide +kernel
theorem dX9_bits_52 : decode cX9_bits 52 = .ok (.iload 4, 2) := by decide +kernel
theorem dX9_bits_54 : decode cX9_bits 54 = .ok (.imul, 1) := by decide +kernel
theorem dX9_bits_55 : decode cX9_bits 55 = .ok (.isub, 1) := by decide +kernel
theorem dX9_bits_56 : decode cX9_bits 56 = .ok (.ishr, 1) := by decide +kernel
theorem dX9_bits_57 : decode cX9_bits 57 = .ok (.sipush 255, 3) := by decide +kernel
theorem dX9_bits_60 : decode cX9_bits 60 = .ok (.iand, 1) := by decide +kernel
theorem dX9_bits_61 : decode cX9_bits 61 = .ok (.iastore, 1) := by decide +kernel
theorem dX9_bits_62 : decode cX9_bits 62 = .ok (.iinc 4 1, 3) := by decide +kernel
theorem dX9_bits_65 : decode cX9_bits 65 = .ok (.goto (-50), 3) := by decide +kernel
theorem dX9_bits_68 : decode cX9_bits 68 = .ok (.iconst 1, 1) := by decide +kernel
theorem dX9_bits_69 : decode cX9_bits 69 = .ok (.ireturn, 1) := by decide +kernel
theorem dX9_hasRow_0 : decode cX9_hasRow 0 = .ok (.iload_n 2, 1) := by decide +kernel
theorem dX9_hasRow_1 : decode cX9_hasRow 1 = .ok (.aload_n 0, 1) := by decide +kernel
theorem dX9_hasRow_2 : decode cX9_hasRow 2 = .ok (.getfield 7, 3) := by decide +kernel
theorem dX9_hasRow_5 : decode cX9_hasRow 5 = .ok (.sipush 130, 3) := by decide +kernel
theorem dX9_hasRow_8 : decode cX9_hasRow 8 = .ok (.bipush 11, 2) := by decide +kernel
theorem dX9_hasRow_10 : decode cX9_hasRow 10 = .ok (.iload_n 1, 1) := by decide +kernel
theorem dX9_hasRow_11 : decode cX9_hasRow 11 = .ok (.imul, 1) := by decide +kernel
theorem dX9_hasRow_12 : decode cX9_hasRow 12 = .ok (.iadd, 1) := by decide +kernel
theorem dX9_hasRow_13 : decode cX9_hasRow 13 = .ok (.iconst 1, 1) := by decide +kernel
theorem dX9_hasRow_14 : decode cX9_hasRow 14 = .ok (.iadd, 1) := by decide +kernel
theorem dX9_hasRow_15 : decode cX9_hasRow 15 = .ok (.iaload, 1) := by decide +kernel
theorem dX9_hasRow_16 : decode cX9_hasRow 16 = .ok (.isub, 1) := by decide +kernel
theorem dX9_hasRow_17 : decode cX9_hasRow 17 = .ok (.istore_n 3, 1) := by decide +kernel
theorem dX9_hasRow_18 : decode cX9_hasRow 18 = .ok (.iload_n 3, 1) := by decide +kernel
theorem dX9_hasRow_19 : decode cX9_hasRow 19 = .ok (.ifCond .lt 26, 3) := by decide +kernel
theorem dX9_hasRow_22 : decode cX9_hasRow 22 = .ok (.iload_n 3, 1) := by decide +kernel
theorem dX9_hasRow_23 : decode cX9_hasRow 23 = .ok (.aload_n 0, 1) := by decide +kernel
theorem dX9_hasRow_24 : decode cX9_hasRow 24 = .ok (.getfield 7, 3) := by decide +kernel
theorem dX9_hasRow_27 : decode cX9_hasRow 27 = .ok (.sipush 130, 3) := by decide +kernel
theorem dX9_hasRow_30 : decode cX9_hasRow 30 = .ok (.bipush 11, 2) := by decide +kernel
theorem dX9_hasRow_32 : decode cX9_hasRow 32 = .ok (.iload_n 1, 1) := by decide +kernel
theorem dX9_hasRow_33 : decode cX9_hasRow 33 = .ok (.imul, 1) := by decide +kernel
theorem dX9_hasRow_34 : decode cX9_hasRow 34 = .ok (.iadd, 1) := by decide +kernel
theorem dX9_hasRow_35 : decode cX9_hasRow 35 = .ok (.iconst 2, 1) := by decide +kernel
theorem dX9_hasRow_36 : decode cX9_hasRow 36 = .ok (.iadd, 1) := by decide +kernel
theorem dX9_hasRow_37 : decode cX9_hasRow 37 = .ok (.iaload, 1) := by decide +kernel
theorem dX9_hasRow_38 : decode cX9_hasRow 38 = .ok (.if_icmp .ge 7, 3) := by decide +kernel
theorem dX9_hasRow_41 : decode cX9_hasRow 41 = .ok (.iconst 1, 1) := by decide +kernel
theorem dX9_hasRow_42 : decode cX9_hasRow 42 = .ok (.goto 4, 3) := by decide +kernel
theorem dX9_hasRow_45 : decode cX9_hasRow 45 = .ok (.iconst 0, 1) := by decide +kernel
theorem dX9_hasRow_46 : decode cX9_hasRow 46 = .ok (.ireturn, 1) := by decide +kernel
set_option maxRecDepth 20000 in
theorem ggX9_spritesOf_X9_hasRow : GoodIn wsX9_spritesOf wsX9_hasRow := goodIn_r _ [5, 6, 7, 8] (by decide +kernel) (by decide +kernel)
set_option maxRecDepth 20000 in
theorem gX9_spritesOf_X9_hasRow : GoodIn wsX9_spritesOf (wsV RX9 25 RX9 yX9_hasRow wsX9_hasRow) := goodIn_app (goodIn_of _ (by decide +kernel)) ggX9_spritesOf_X9_hasRow
theorem dX9_spritesOf_0 : decode cX9_spritesOf 0 = .ok (.iconst 0, 1) := by decide +kernel
theorem dX9_spritesOf_1 : decode cX9_spritesOf 1 = .ok (.istore_n 2, 1) := by decide +kernel
theorem dX9_spritesOf_2 : decode cX9_spritesOf 2 = .ok (.iconst 0, 1) := by decide +kernel
theorem dX9_spritesOf_3 : decode cX9_spritesOf 3 = .ok (.istore_n 3, 1) := by decide +kernel
theorem dX9_spritesOf_4 : decode cX9_spritesOf 4 = .ok (.iconst 0, 1) := by decide +kernel
theorem dX9_spritesOf_5 : decode cX9_spritesOf 5 = .ok (.istore 4, 2) := by decide +kernel
theorem dX9_spritesOf_7 : decode cX9_spritesOf 7 = .ok (.iload 4, 2) := by decide +kernel
theorem dX9_spritesOf_9 : decode cX9_spritesOf 9 = .ok (.bipush 8, 2) := by decide +kernel
theorem dX9_spritesOf_11 : decode cX9_spritesOf 11 = .ok (.if_icmp .ge 37, 3) := by decide +kernel
theorem dX9_spritesOf_14 : decode cX9_spritesOf 14 = .ok (.aload_n 0, 1) := by decide +kernel
theorem dX9_spritesOf_15 : decode cX9_spritesOf 15 = .ok (.iload 4, 2) := by decide +kernel
theorem dX9_spritesOf_17 : decode cX9_spritesOf 17 = .ok (.iload_n 1, 1) := by decide +kernel
theorem dX9_spritesOf_18 : decode cX9_spritesOf 18 = .ok (.invokevirtual 25, 3) := by decide +kernel
theorem dX9_spritesOf_21 : decode cX9_spritesOf 21 = .ok (.ifCond .eq 21, 3) := by decide +kernel
theorem dX9_spritesOf_24 : decode cX9_spritesOf 24 = .ok (.iload_n 3, 1) := by decide +kernel
theorem dX9_spritesOf_25 : decode cX9_spritesOf 25 = .ok (.iconst 3, 1) := by decide +kernel
theorem dX9_spritesOf_26 : decode cX9_spritesOf 26 = .ok (.if_icmp .ne 6, 3) := by decide +kernel
theorem dX9_spritesOf_29 : decode cX9_spritesOf 29 = .ok (.goto 13, 3) := by decide +kernel
theorem dX9_spritesOf_32 : decode cX9_spritesOf 32 = .ok (.iload_n 2, 1) := by decide +kernel
theorem dX9_spritesOf_33 : decode cX9_spritesOf 33 = .ok (.iconst 1, 1) := by decide +kernel
theorem dX9_spritesOf_34 : decode cX9_spritesOf 34 = .ok (.iload 4, 2) := by decide +kernel
theorem dX9_spritesOf_36 : decode cX9_spritesOf 36 = .ok (.ishl, 1) := by decide +kernel
theorem dX9_spritesOf_37 : decode cX9_spritesOf 37 = .ok (.ior, 1) := by decide +kernel
theorem dX9_spritesOf_38 : decode cX9_spritesOf 38 = .ok (.istore_n 2, 1) := by decide +kernel
theorem dX9_spritesOf_39 : decode cX9_spritesOf 39 = .ok (.iinc 3 1, 3) := by decide +kernel
theorem dX9_spritesOf_42 : decode cX9_spritesOf 42 = .ok (.iinc 4 1, 3) := by decide +kernel
theorem dX9_spritesOf_45 : decode cX9_spritesOf 45 = .ok (.goto (-38), 3) := by decide +kernel
theorem dX9_spritesOf_48 : decode cX9_spritesOf 48 = .ok (.iload_n 2, 1) := by decide +kernel
theorem dX9_spritesOf_49 : decode cX9_spritesOf 49 = .ok (.ireturn, 1) := by decide +kernel
theorem dX9_isTaken_0 : decode cX9_isTaken 0 = .ok (.aload_n 0, 1) := by decide +kernel
theorem dX9_isTaken_1 : decode cX9_isTaken 1 = .ok (.getfield 7, 3) := by decide +kernel
theorem dX9_isTaken_4 : decode cX9_isTaken 4 = .ok (.bipush 28, 2) := by decide +kernel
theorem dX9_isTaken_6 : decode cX9_isTaken 6 = .ok (.iaload, 1) := by decide +kernel
theorem dX9_isTaken_7 : decode cX9_isTaken 7 = .ok (.aload_n 0, 1) := by decide +kernel
theorem dX9_isTaken_8 : decode cX9_isTaken 8 = .ok (.getfield 7, 3) := by decide +kernel
theorem dX9_isTaken_11 : decode cX9_isTaken 11 = .ok (.bipush 23, 2) := by decide +kernel
theorem dX9_isTaken_13 : decode cX9_isTaken 13 = .ok (.iaload, 1) := by decide +kernel
theorem dX9_isTaken_14 : decode cX9_isTaken 14 = .ok (.aload_n 0, 1) := by decide +kernel
theorem dX9_isTaken_15 : decode cX9_isTaken 15 = .ok (.getfield 7, 3) := by decide +kernel
theorem dX9_isTaken_18 : decode cX9_isTaken 18 = .ok (.bipush 27, 2) := by decide +kernel
theorem dX9_isTaken_20 : decode cX9_isTaken 20 = .ok (.iaload, 1) := by decide +kernel
theorem dX9_isTaken_21 : decode cX9_isTaken 21 = .ok (.irem, 1) := by decide +kernel
theorem dX9_isTaken_22 : decode cX9_isTaken 22 = .ok (.ishr, 1) := by decide +kernel
theorem dX9_isTaken_23 : decode cX9_isTaken 23 = .ok (.iconst 1, 1) := by decide +kernel
theorem dX9_isTaken_24 : decode cX9_isTaken 24 = .ok (.iand, 1) := by decide +kernel
theorem dX9_isTaken_25 : decode cX9_isTaken 25 = .ok (.iconst 1, 1) := by decide +kernel
theorem dX9_isTaken_26 : decode cX9_isTaken 26 = .ok (.if_icmp .ne 7, 3) := by decide +kernel
theorem dX9_isTaken_29 : decode cX9_isTaken 29 = .ok (.iconst 1, 1) := by decide +kernel
theorem dX9_isTaken_30 : decode cX9_isTaken 30 = .ok (.goto 4, 3) := by decide +kernel
theorem dX9_isTaken_33 : decode cX9_isTaken 33 = .ok (.iconst 0, 1) := by decide +kernel
theorem dX9_isTaken_34 : decode cX9_isTaken 34 = .ok (.ireturn, 1) := by decide +kernel
set_option maxRecDepth 20000 in
theorem ggX9_signalsNow_X9_isIn : GoodIn wsX9_signalsNow wsX9_isIn := goodIn_r _ [5] (by decide +kernel) (by decide +kernel)
set_option maxRecDepth 20000 in
theorem gX9_signalsNow_X9_isIn : GoodIn wsX9_signalsNow (va_wsS RX9 17 yX9_isIn wsX9_isIn) := goodIn_app (goodIn_of _ (by decide +kernel)) ggX9_signalsNow_X9_isIn
theorem dX9_signalsNow_0 : decode cX9_signalsNow 0 = .ok (.aload_n 0, 1) := by decide +kernel
theorem dX9_signalsNow_1 : decode cX9_signalsNow 1 = .ok (.getfield 7, 3) := by decide +kernel
theorem dX9_signalsNow_4 : decode cX9_signalsNow 4 = .ok (.bipush 20, 2) := by decide +kernel
theorem dX9_signalsNow_6 : decode cX9_signalsNow 6 = .ok (.iaload, 1) := by decide +kernel
theorem dX9_signalsNow_7 : decode cX9_signalsNow 7 = .ok (.aload_n 0, 1) := by decide +kernel
theorem dX9_signalsNow_8 : decode cX9_signalsNow 8 = .ok (.getfield 7, 3) := by decide +kernel
theorem dX9_signalsNow_11 : decode cX9_signalsNow 11 = .ok (.iconst 0, 1) := by decide +kernel
theorem dX9_signalsNow_12 : decode cX9_signalsNow 12 = .ok (.iaload, 1) := by decide +kernel
theorem dX9_signalsNow_13 : decode cX9_signalsNow 13 = .ok (.isub, 1) := by decide +kernel
theorem dX9_signalsNow_14 : decode cX9_signalsNow 14 = .ok (.aload_n 0, 1) := by decide +kernel
theorem dX9_signalsNow_15 : decode cX9_signalsNow 15 = .ok (.getfield 7, 3) := by decide +kernel
theorem dX9_signalsNow_18 : decode cX9_signalsNow 18 = .ok (.iconst 1, 1) := by decide +kernel
theorem dX9_signalsNow_19 : decode cX9_signalsNow 19 = .ok (.iaload, 1) := by decide +kernel
theorem dX9_signalsNow_20 : decode cX9_signalsNow 20 = .ok (.isub, 1) := by decide +kernel
theorem dX9_signalsNow_21 : decode cX9_signalsNow 21 = .ok (.istore_n 1, 1) := by decide +kernel
theorem dX9_signalsNow_22 : decode cX9_signalsNow 22 = .ok (.aload_n 0, 1) := by decide +kernel
theorem dX9_signalsNow_23 : decode cX9_signalsNow 23 = .ok (.getfield 7, 3) := by decide +kernel
theorem dX9_signalsNow_26 : decode cX9_signalsNow 26 = .ok (.bipush 21, 2) := by decide +kernel
theorem dX9_signalsNow_28 : decode cX9_signalsNow 28 = .ok (.iaload, 1) := by decide +kernel
theorem dX9_signalsNow_29 : decode cX9_signalsNow 29 = .ok (.aload_n 0, 1) := by decide +kernel
theorem dX9_signalsNow_30 : decode cX9_signalsNow 30 = .ok (.getfield 7, 3) := by decide +kernel
theorem dX9_signalsNow_33 : decode cX9_signalsNow 33 = .ok (.iconst 4, 1) := by decide +kernel
theorem dX9_signalsNow_34 : decode cX9_signalsNow 34 = .ok (.iaload, 1) := by decide +kernel
theorem dX9_signalsNow_35 : decode cX9_signalsNow 35 = .ok (.isub, 1) := by decide +kernel
theorem dX9_signalsNow_36 : decode cX9_signalsNow 36 = .ok (.aload_n 0, 1) := by decide +kernel
theorem dX9_signalsNow_37 : decode cX9_signalsNow 37 = .ok (.getfield 7, 3) := by decide +kernel
theorem dX9_signalsNow_40 : decode cX9_signalsNow 40 = .ok (.iconst 5, 1) := by decide +kernel
theorem dX9_signalsNow_41 : decode cX9_signalsNow 41 = .ok (.iaload, 1) := by decide +kernel
theorem dX9_signalsNow_42 : decode cX9_signalsNow 42 = .ok (.isub, 1) := by decide +kernel
theorem dX9_signalsNow_43 : decode cX9_signalsNow 43 = .ok (.istore_n 2, 1) := by decide +kernel
theorem dX9_signalsNow_44 : decode cX9_signalsNow 44 = .ok (.iload_n 1, 1) := by decide +kernel
theorem dX9_signalsNow_45 : decode cX9_signalsNow 45 = .ok (.iconst 0, 1) := by decide +kernel
theorem dX9_signalsNow_46 : decode cX9_signalsNow 46 = .ok (.aload_n 0, 1) := by decide +kernel
theorem dX9_signalsNow_47 : decode cX9_signalsNow 47 = .ok (.getfield 7, 3) := by decide +kernel
theorem dX9_signalsNow_50 : decode cX9_signalsNow 50 = .ok (.iconst 2, 1) := by decide +kernel
theorem dX9_signalsNow_51 : decode cX9_signalsNow 51 = .ok (.iaload, 1) := by decide +kernel
theorem dX9_signalsNow_52 : decode cX9_signalsNow 52 = .ok (.iconst 1, 1) := by decide +kernel
theorem dX9_signalsNow_53 : decode cX9_signalsNow 53 = .ok (.isub, 1) := by decide +kernel
theorem dX9_signalsNow_54 : decode cX9_signalsNow 54 = .ok (.invokestatic 17, 3) := by decide +kernel
theorem dX9_signalsNow_57 : decode cX9_signalsNow 57 = .ok (.ifCond .eq 7, 3) := by decide +kernel
theorem dX9_signalsNow_60 : decode cX9_signalsNow 60 = .ok (.iconst 1, 1) := by decide +kernel
theorem dX9_signalsNow_61 : decode cX9_signalsNow 61 = .ok (.goto 4, 3) := by decide +kernel
theorem dX9_signalsNow_64 : decode cX9_signalsNow 64 = .ok (.iconst 0, 1) := by decide +kernel
theorem dX9_signalsNow_65 : decode cX9_signalsNow 65 = .ok (.istore_n 3, 1) := by decide +kernel
theorem dX9_signalsNow_66 : decode cX9_signalsNow 66 = .ok (.iload_n 2, 1) := by decide +kernel
theorem dX9_signalsNow_67 : decode cX9_signalsNow 67 = .ok (.iconst 0, 1) := by decide +kernel
theorem dX9_signalsNow_68 : decode cX9_signalsNow 68 = .ok (.aload_n 0, 1) := by decide +kernel
theorem dX9_signalsNow_69 : decode cX9_signalsNow 69 = .ok (.getfield 7, 3) := by decide +kernel
theorem dX9_signalsNow_72 : decode cX9_signalsNow 72 = .ok (.bipush 6, 2) := by decide +kernel
theorem dX9_signalsNow_74 : decode cX9_signalsNow 74 = .ok (.iaload, 1) := by decide +kernel
theorem dX9_signalsNow_75 : decode cX9_signalsNow 75 = .ok (.iconst 1, 1) := by decide +kernel
theorem dX9_signalsNow_76 : decode cX9_signalsNow 76 = .ok (.isub, 1) := by decide +kernel
theorem dX9_signalsNow_77 : decode cX9_signalsNow 77 = .ok (.invokestatic 17, 3) := by decide +kernel
theorem dX9_signalsNow_80 : decode cX9_signalsNow 80 = .ok (.ifCond .eq 6, 3) := by decide +kernel
theorem dX9_signalsNow_83 : decode cX9_signalsNow 83 = .ok (.iinc 3 2, 3) := by decide +kernel
theorem dX9_signalsNow_86 : decode cX9_signalsNow 86 = .ok (.aload_n 0, 1) := by decide +kernel
theorem dX9_signalsNow_87 : decode cX9_signalsNow 87 = .ok (.getfield 7, 3) := by decide +kernel
theorem dX9_signalsNow_90 : decode cX9_signalsNow 90 = .ok (.bipush 20, 2) := by decide +kernel
theorem dX9_signalsNow_92 : decode cX9_signalsNow 92 = .ok (.iaload, 1) := by decide +kernel
theorem dX9_signalsNow_93 : decode cX9_signalsNow 93 = .ok (.aload_n 0, 1) := by decide +kernel
theorem dX9_signalsNow_94 : decode cX9_signalsNow 94 = .ok (.getfield 7, 3) := by decide +kernel
theorem dX9_signalsNow_97 : decode cX9_signalsNow 97 = .ok (.iconst 0, 1) := by decide +kernel
theorem dX9_signalsNow_98 : decode cX9_signalsNow 98 = .ok (.iaload, 1) := by decide +kernel
theorem dX9_signalsNow_99 : decode cX9_signalsNow 99 = .ok (.if_icmp .ge 19, 3) := by decide +kernel
theorem dX9_signalsNow_102 : decode cX9_signalsNow 102 = .ok (.aload_n 0, 1) := by decide +kernel
theorem dX9_signalsNow_103 : decode cX9_signalsNow 103 = .ok (.getfield 7, 3) := by decide +kernel
theorem dX9_signalsNow_106 : decode cX9_signalsNow 106 = .ok (.bipush 21, 2) := by decide +kernel
theorem dX9_signalsNow_108 : decode cX9_signalsNow 108 = .ok (.iaload, 1) := by decide +kernel
theorem dX9_signalsNow_109 : decode cX9_signalsNow 109 = .ok (.aload_n 0, 1) := by decide +kernel
theorem dX9_signalsNow_110 : decode cX9_signalsNow 110 = .ok (.getfield 7, 3) := by decide +kernel
theorem dX9_signalsNow_113 : decode cX9_signalsNow 113 = .ok (.iconst 4, 1) := by decide +kernel
theorem dX9_signalsNow_114 : decode cX9_signalsNow 114 = .ok (.iaload, 1) := by decide +kernel
theorem dX9_signalsNow_115 : decode cX9_signalsNow 115 = .ok (.if_icmp .lt 9, 3) := by decide +kernel
theorem dX9_signalsNow_118 : decode cX9_signalsNow 118 = .ok (.iload_n 3, 1) := by decide +kernel
theorem dX9_signalsNow_119 : decode cX9_signalsNow 119 = .ok (.iconst 4, 1) := by decide +kernel
theorem dX9_signalsNow_120 : decode cX9_signalsNow 120 = .ok (.iadd, 1) := by decide +kernel
theorem dX9_signalsNow_121 : decode cX9_signalsNow 121 = .ok (.goto 4, 3) := by decide +kernel
theorem dX9_signalsNow_124 : decode cX9_signalsNow 124 = .ok (.iload_n 3, 1) := by decide +kernel
theorem dX9_signalsNow_125 : decode cX9_signalsNow 125 = .ok (.ireturn, 1) := by decide +kernel
theorem dX9_bytesOf_0 : decode cX9_bytesOf 0 = .ok (.iload_n 0, 1) := by decide +kernel
theorem dX9_bytesOf_1 : decode cX9_bytesOf 1 = .ok (.bipush 7, 2) := by decide +kernel
theorem dX9_bytesOf_3 : decode cX9_bytesOf 3 = .ok (.iadd, 1) := by decide +kernel
theorem dX9_bytesOf_4 : decode cX9_bytesOf 4 = .ok (.bipush 8, 2) := by decide +kernel
theorem dX9_bytesOf_6 : decode cX9_bytesOf 6 = .ok (.idiv, 1) := by decide +kernel
theorem dX9_bytesOf_7 : decode cX9_bytesOf 7 = .ok (.iconst 1, 1) := by decide +kernel
theorem dX9_bytesOf_8 : decode cX9_bytesOf 8 = .ok (.iadd, 1) := by decide +kernel
theorem dX9_bytesOf_9 : decode cX9_bytesOf 9 = .ok (.ireturn, 1) := by decide +kernel
set_option maxRecDepth 20000 in
theorem ggX9_begins_X9_linesOf : GoodIn wsX9_begins wsX9_linesOf := goodIn_r _ [6, 1, 17, 18] (by decide +kernel) (by decide +kernel)
set_option maxRecDepth 20000 in
theorem gX9_begins_X9_linesOf : GoodIn wsX9_begins (wsV RX9 28 RX9 yX9_linesOf wsX9_linesOf) := goodIn_app (goodIn_of _ (by decide +kernel)) ggX9_begins_X9_linesOf
set_option maxRecDepth 20000 in
theorem ggX9_begins_X9_nextField : GoodIn wsX9_begins wsX9_nextField := goodIn_r _ [10, 1, 17, 18] (by decide +kernel) (by decide +kernel)
set_option maxRecDepth 20000 in
theorem gX9_begins_X9_nextField : GoodIn wsX9_begins (wsV RX9 32 RX9 yX9_nextField wsX9_nextField) := goodIn_app (goodIn_of _ (by decide +kernel)) ggX9_begins_X9_nextField
set_option maxRecDepth 20000 in
theorem ggX9_begins_X9_rowOf : GoodIn wsX9_begins wsX9_rowOf := goodIn_r _ [13] (by decide +kernel) (by decide +kernel)
set_option maxRecDepth 20000 in
theorem gX9_begins_X9_rowOf : GoodIn wsX9_begins (va_wsS RX9 36 yX9_rowOf wsX9_rowOf) := goodIn_app (goodIn_of _ (by decide +kernel)) ggX9_begins_X9_rowOf
set_option maxRecDepth 20000 in
theorem ggX9_begins_X9_bytesOf : GoodIn wsX9_begins wsX9_bytesOf := goodIn_r _ [16] (by decide +kernel) (by decide +kernel)
set_option maxRecDepth 20000 in
theorem gX9_begins_X9_bytesOf : GoodIn wsX9_begins (va_wsS RX9 40 yX9_bytesOf wsX9_bytesOf) := goodIn_app (goodIn_of _ (by decide +kernel)) ggX9_begins_X9_bytesOf
theorem dX9_begins_0 : decode cX9_begins 0 = .ok (.aload_n 0, 1) := by decide +kernel
theorem dX9_begins_1 : decode cX9_begins 1 = .ok (.getfield 7, 3) := by decide +kernel
theorem dX9_begins_4 : decode cX9_begins 4 = .ok (.bipush 33, 2) := by decide +kernel
theorem dX9_begins_6 : decode cX9_begins 6 = .ok (.iconst 0, 1) := by decide +kernel
theorem dX9_begins_7 : decode cX9_begins 7 = .ok (.iastore, 1) := by decide +kernel
theorem dX9_begins_8 : decode cX9_begins 8 = .ok (.aload_n 0, 1) := by decide +kernel
theorem dX9_begins_9 : decode cX9_begins 9 = .ok (.getfield 7, 3) := by decide +kernel
theorem dX9_begins_12 : decode cX9_begins 12 = .ok (.bipush 35, 2) := by decide +kernel
theorem dX9_begins_14 : decode cX9_begins 14 = .ok (.iconst 0, 1) := by decide +kernel
theorem dX9_begins_15 : decode cX9_begins 15 = .ok (.iastore, 1) := by decide +kernel
theorem dX9_begins_16 : decode cX9_begins 16 = .ok (.aload_n 0, 1) := by decide +kernel
theorem dX9_begins_17 : decode cX9_begins 17 = .ok (.getfield 7, 3) := by decide +kernel
theorem dX9_begins_20 : decode cX9_begins 20 = .ok (.bipush 34, 2) := by decide +kernel
theorem dX9_begins_22 : decode cX9_begins 22 = .ok (.iconst 0, 1) := by decide +kernel
theorem dX9_begins_23 : decode cX9_begins 23 = .ok (.iastore, 1) := by decide +kernel
theorem dX9_begins_24 : decode cX9_begins 24 = .ok (.aload_n 0, 1) := by decide +kernel
theorem dX9_begins_25 : decode cX9_begins 25 = .ok (.getfield 7, 3) := by decide +kernel
theorem dX9_begins_28 : decode cX9_begins 28 = .ok (.bipush 21, 2) := by decide +kernel
theorem dX9_begins_30 : decode cX9_begins 30 = .ok (.iaload, 1) := by decide +kernel
theorem dX9_begins_31 : decode cX9_begins 31 = .ok (.aload_n 0, 1) := by decide +kernel
theorem dX9_begins_32 : decode cX9_begins 32 = .ok (.iconst 0, 1) := by decide +kernel
theorem dX9_begins_33 : decode cX9_begins 33 = .ok (.invokevirtual 28, 3) := by decide +kernel
theorem dX9_begins_36 : decode cX9_begins 36 = .ok (.iconst 1, 1) := by decide +kernel
theorem dX9_begins_37 : decode cX9_begins 37 = .ok (.isub, 1) := by decide +kernel
theorem dX9_begins_38 : decode cX9_begins 38 = .ok (.if_icmp .ne 7, 3) := by decide +kernel
theorem dX9_begins_41 : decode cX9_begins 41 = .ok (.iconst 1, 1) := by decide +kernel
theorem dX9_begins_42 : decode cX9_begins 42 = .ok (.goto 4, 3) := by decide +kernel
theorem dX9_begins_45 : decode cX9_begins 45 = .ok (.iconst 0, 1) := by decide +kernel
theorem dX9_begins_46 : decode cX9_begins 46 = .ok (.istore_n 1, 1) := by decide +kernel
theorem dX9_begins_47 : decode cX9_begins 47 = .ok (.iload_n 1, 1) := by decide +kernel
theorem dX9_begins_48 : decode cX9_begins 48 = .ok (.ifCond .eq 36, 3) := by decide +kernel
theorem dX9_begins_51 : decode cX9_begins 51 = .ok (.iconst 0, 1) := by decide +kernel
theorem dX9_begins_52 : decode cX9_begins 52 = .ok (.istore_n 2, 1) := by decide +kernel
theorem dX9_begins_53 : decode cX9_begins 53 = .ok (.iload_n 2, 1) := by decide +kernel
theorem dX9_begins_54 : decode cX9_begins 54 = .ok (.bipush 10, 2) := by decide +kernel
theorem dX9_begins_56 : decode cX9_begins 56 = .ok (.if_icmp .ge 28, 3) := by decide +kernel
theorem dX9_begins_59 : decode cX9_begins 59 = .ok (.aload_n 0, 1) := by decide +kernel
theorem dX9_begins_60 : decode cX9_begins 60 = .ok (.getfield 7, 3) := by decide +kernel
theorem dX9_begins_63 : decode cX9_begins 63 = .ok (.sipush 5870, 3) := by decide +kernel
theorem dX9_begins_66 : decode cX9_begins 66 = .ok (.iload_n 2, 1) := by decide +kernel
theorem dX9_begins_67 : decode cX9_begins 67 = .ok (.iadd, 1) := by decide +kernel
theorem dX9_begins_68 : decode cX9_begins 68 = .ok (.aload_n 0, 1) := by decide +kernel
theorem dX9_begins_69 : decode cX9_begins 69 = .ok (.getfield 7, 3) := by decide +kernel
theorem dX9_begins_72 : decode cX9_begins 72 = .ok (.bipush 10, 2) := by decide +kernel
theorem dX9_begins_74 : decode cX9_begins 74 = .ok (.iload_n 2, 1) := by decide +kernel
theorem dX9_begins_75 : decode cX9_begins 75 = .ok (.iadd, 1) := by decide +kernel
theorem dX9_begins_76 : decode cX9_begins 76 = .ok (.iaload, 1) := by decide +kernel
theorem dX9_begins_77 : decode cX9_begins 77 = .ok (.iastore, 1) := by decide +kernel
theorem dX9_begins_78 : decode cX9_begins 78 = .ok (.iinc 2 1, 3) := by decide +kernel
theorem dX9_begins_81 : decode cX9_begins 81 = .ok (.goto (-28), 3) := by decide +kernel
theorem dX9_begins_84 : decode cX9_begins 84 = .ok (.iload_n 1, 1) := by decide +kernel
theorem dX9_begins_85 : decode cX9_begins 85 = .ok (.ifCond .eq 9, 3) := by decide +kernel
theorem dX9_begins_88 : decode cX9_begins 88 = .ok (.sipush 5870, 3) := by decide +kernel
theorem dX9_begins_91 : decode cX9_begins 91 = .ok (.goto 4, 3) := by decide +kernel
theorem dX9_begins_94 : decode cX9_begins 94 = .ok (.iconst 0, 1) := by decide +kernel
theorem dX9_begins_95 : decode cX9_begins 95 = .ok (.istore_n 2, 1) := by decide +kernel
theorem dX9_begins_96 : decode cX9_begins 96 = .ok (.iload_n 1, 1) := by decide +kernel
theorem dX9_begins_97 : decode cX9_begins 97 = .ok (.ifCond .eq 7, 3) := by decide +kernel
theorem dX9_begins_100 : decode cX9_begins 100 = .ok (.iconst 0, 1) := by decide +kernel
theorem dX9_begins_101 : decode cX9_begins 101 = .ok (.goto 12, 3) := by decide +kernel
theorem dX9_begins_104 : decode cX9_begins 104 = .ok (.aload_n 0, 1) := by decide +kernel
theorem dX9_begins_105 : decode cX9_begins 105 = .ok (.getfield 7, 3) := by decide +kernel
theorem dX9_begins_108 : decode cX9_begins 108 = .ok (.bipush 21, 2) := by decide +kernel
theorem dX9_begins_110 : decode cX9_begins 110 = .ok (.iaload, 1) := by decide +kernel
theorem dX9_begins_111 : decode cX9_begins 111 = .ok (.iconst 1, 1) := by decide +kernel
theorem dX9_begins_112 : decode cX9_begins 112 = .ok (.iadd, 1) := by decide +kernel
theorem dX9_begins_113 : decode cX9_begins 113 = .ok (.istore_n 3, 1) := by decide +kernel
theorem dX9_begins_114 : decode cX9_begins 114 = .ok (.aload_n 0, 1) := by decide +kernel
theorem dX9_begins_115 : decode cX9_begins 115 = .ok (.getfield 7, 3) := by decide +kernel
theorem dX9_begins_118 : decode cX9_begins 118 = .ok (.bipush 30, 2) := by decide +kernel
theorem dX9_begins_120 : decode cX9_begins 120 = .ok (.iload_n 3, 1) := by decide +kernel
theorem dX9_begins_121 : decode cX9_begins 121 = .ok (.iload_n 1, 1) := by decide +kernel
theorem dX9_begins_122 : decode cX9_begins 122 = .ok (.ifCond .eq 10, 3) := by decide +kernel
theorem dX9_begins_125 : decode cX9_begins 125 = .ok (.aload_n 0, 1) := by decide +kernel
theorem dX9_begins_126 : decode cX9_begins 126 = .ok (.invokevirtual 32, 3) := by decide +kernel
theorem dX9_begins_129 : decode cX9_begins 129 = .ok (.goto 10, 3) := by decide +kernel
theorem dX9_begins_132 : decode cX9_begins 132 = .ok (.aload_n 0, 1) := by decide +kernel
theorem dX9_begins_133 : decode cX9_begins 133 = .ok (.getfield 7, 3) := by decide +kernel
theorem dX9_begins_136 : decode cX9_begins 136 = .ok (.bipush 22, 2) := by decide +kernel
theorem dX9_begins_138 : decode cX9_begins 138 = .ok (.iaload, 1) := by decide +kernel
theorem dX9_begins_139 : decode cX9_begins 139 = .ok (.aload_n 0, 1) := by decide +kernel
theorem dX9_begins_140 : decode cX9_begins 140 = .ok (.getfield 7, 3) := by decide +kernel
theorem dX9_begins_143 : decode cX9_begins 143 = .ok (.iload_n 2, 1) := by decide +kernel
theorem dX9_begins_144 : decode cX9_begins 144 = .ok (.bipush 8, 2) := by decide +kernel
theorem dX9_begins_146 : decode cX9_begins 146 = .ok (.iadd, 1) := by decide +kernel
theorem dX9_begins_147 : decode cX9_begins 147 = .ok (.iaload, 1) := by decide +kernel
theorem dX9_begins_148 : decode cX9_begins 148 = .ok (.invokestatic 36, 3) := by decide +kernel
theorem dX9_begins_151 : decode cX9_begins 151 = .ok (.iastore, 1) := by decide +kernel
theorem dX9_begins_152 : decode cX9_begins 152 = .ok (.aload_n 0, 1) := by decide +kernel
theorem dX9_begins_153 : decode cX9_begins 153 = .ok (.getfield 7, 3) := by decide +kernel
theorem dX9_begins_156 : decode cX9_begins 156 = .ok (.bipush 31, 2) := by decide +kernel
theorem dX9_begins_158 : decode cX9_begins 158 = .ok (.iload_n 3, 1) := by decide +kernel
theorem dX9_begins_159 : decode cX9_begins 159 = .ok (.aload_n 0, 1) := by decide +kernel
theorem dX9_begins_160 : decode cX9_begins 160 = .ok (.getfield 7, 3) := by decide +kernel
theorem dX9_begins_163 : decode cX9_begins 163 = .ok (.iload_n 2, 1) := by decide +kernel
theorem dX9_begins_164 : decode cX9_begins 164 = .ok (.iconst 4, 1) := by decide +kernel
theorem dX9_begins_165 : decode cX9_begins 165 = .ok (.iadd, 1) := by decide +kernel
theorem dX9_begins_166 : decode cX9_begins 166 = .ok (.iaload, 1) := by decide +kernel
theorem dX9_begins_167 : decode cX9_begins 167 = .ok (.if_icmp .ge 15, 3) := by decide +kernel
theorem dX9_begins_170 : decode cX9_begins 170 = .ok (.aload_n 0, 1) := by decide +kernel
theorem dX9_begins_171 : decode cX9_begins 171 = .ok (.getfield 7, 3) := by decide +kernel
theorem dX9_begins_174 : decode cX9_begins 174 = .ok (.iload_n 2, 1) := by decide +kernel
theorem dX9_begins_175 : decode cX9_begins 175 = .ok (.iaload, 1) := by decide +kernel
theorem dX9_begins_176 : decode cX9_begins 176 = .ok (.invokestatic 40, 3) := by decide +kernel
theorem dX9_begins_179 : decode cX9_begins 179 = .ok (.goto 4, 3) := by decide +kernel
theorem dX9_begins_182 : decode cX9_begins 182 = .ok (.iconst 0, 1) := by decide +kernel
theorem dX9_begins_183 : decode cX9_begins 183 = .ok (.iastore, 1) := by decide +kernel
theorem dX9_begins_184 : decode cX9_begins 184 = .ok (.aload_n 0, 1) := by decide +kernel
theorem dX9_begins_185 : decode cX9_begins 185 = .ok (.getfield 7, 3) := by decide +kernel
theorem dX9_begins_188 : decode cX9_begins 188 = .ok (.bipush 32, 2) := by decide +kernel
theorem dX9_begins_190 : decode cX9_begins 190 = .ok (.iconst 0, 1) := by decide +kernel
theorem dX9_begins_191 : decode cX9_begins 191 = .ok (.iastore, 1) := by decide +kernel
theorem dX9_begins_192 : decode cX9_begins 192 = .ok (.return_, 1) := by decide +kernel
set_option maxRecDepth 20000 in
theorem ggX9_fetches_X9_isTaken : GoodIn wsX9_fetches wsX9_isTaken := goodIn_r _ [6, 1, 7, 8] (by decide +kernel) (by decide +kernel)
set_option maxRecDepth 20000 in
theorem gX9_fetches_X9_isTaken : GoodIn wsX9_fetches (wsV RX9 43 RX9 yX9_isTaken wsX9_isTaken) := goodIn_app (goodIn_of _ (by decide +kernel)) ggX9_fetches_X9_isTaken
theorem dX9_fetches_0 : decode cX9_fetches 0 = .ok (.aload_n 0, 1) := by decide +kernel
theorem dX9_fetches_1 : decode cX9_fetches 1 = .ok (.invokevirtual 43, 3) := by decide +kernel
theorem dX9_fetches_4 : decode cX9_fetches 4 = .ok (.ifCond .ne 37, 3) := by decide +kernel
theorem dX9_fetches_7 : decode cX9_fetches 7 = .ok (.aload_n 0, 1) := by decide +kernel
theorem dX9_fetches_8 : decode cX9_fetches 8 = .ok (.getfield 7, 3) := by decide +kernel
theorem dX9_fetches_11 : decode cX9_fetches 11 = .ok (.bipush 33, 2) := by decide +kernel
theorem dX9_fetches_13 : decode cX9_fetches 13 = .ok (.iaload, 1) := by decide +kernel
theorem dX9_fetches_14 : decode cX9_fetches 14 = .ok (.aload_n 0, 1) := by decide +kernel
theorem dX9_fetches_15 : decode cX9_fetches 15 = .ok (.getfield 7, 3) := by decide +kernel
theorem dX9_fetches_18 : decode cX9_fetches 18 = .ok (.bipush 29, 2) := by decide +kernel
theorem dX9_fetches_20 : decode cX9_fetches 20 = .ok (.iaload, 1) := by decide +kernel
theorem dX9_fetches_21 : decode cX9_fetches 21 = .ok (.if_icmp .ge 20, 3) := by decide +kernel
theorem dX9_fetches_24 : decode cX9_fetches 24 = .ok (.aload_n 0, 1) := by decide +kernel
theorem dX9_fetches_25 : decode cX9_fetches 25 = .ok (.getfield 7, 3) := by decide +kernel
theorem dX9_fetches_28 : decode cX9_fetches 28 = .ok (.bipush 32, 2) := by decide +kernel
theorem dX9_fetches_30 : decode cX9_fetches 30 = .ok (.iaload, 1) := by decide +kernel
theorem dX9_fetches_31 : decode cX9_fetches 31 = .ok (.aload_n 0, 1) := by decide +kernel
theorem dX9_fetches_32 : decode cX9_fetches 32 = .ok (.getfield 7, 3) := by decide +kernel
theorem dX9_fetches_35 : decode cX9_fetches 35 = .ok (.bipush 31, 2) := by decide +kernel
theorem dX9_fetches_37 : decode cX9_fetches 37 = .ok (.iaload, 1) := by decide +kernel
theorem dX9_fetches_38 : decode cX9_fetches 38 = .ok (.if_icmp .lt 4, 3) := by decide +kernel
theorem dX9_fetches_41 : decode cX9_fetches 41 = .ok (.return_, 1) := by decide +kernel
theorem dX9_fetches_42 : decode cX9_fetches 42 = .ok (.aload_n 0, 1) := by decide +kernel
theorem dX9_fetches_43 : decode cX9_fetches 43 = .ok (.getfield 7, 3) := by decide +kernel
theorem dX9_fetches_46 : decode cX9_fetches 46 = .ok (.bipush 40, 2) := by decide +kernel
theorem dX9_fetches_48 : decode cX9_fetches 48 = .ok (.iaload, 1) := by decide +kernel
theorem dX9_fetches_49 : decode cX9_fetches 49 = .ok (.aload_n 0, 1) := by decide +kernel
theorem dX9_fetches_50 : decode cX9_fetches 50 = .ok (.getfield 7, 3) := by decide +kernel
theorem dX9_fetches_53 : decode cX9_fetches 53 = .ok (.bipush 41, 2) := by decide +kernel
theorem dX9_fetches_55 : decode cX9_fetches 55 = .ok (.iaload, 1) := by decide +kernel
theorem dX9_fetches_56 : decode cX9_fetches 56 = .ok (.aload_n 0, 1) := by decide +kernel
theorem dX9_fetches_57 : decode cX9_fetches 57 = .ok (.getfield 7, 3) := by decide +kernel
theorem dX9_fetches_60 : decode cX9_fetches 60 = .ok (.bipush 30, 2) := by decide +kernel
theorem dX9_fetches_62 : decode cX9_fetches 62 = .ok (.iaload, 1) := by decide +kernel
theorem dX9_fetches_63 : decode cX9_fetches 63 = .ok (.imul, 1) := by decide +kernel
theorem dX9_fetches_64 : decode cX9_fetches 64 = .ok (.iadd, 1) := by decide +kernel
theorem dX9_fetches_65 : decode cX9_fetches 65 = .ok (.aload_n 0, 1) := by decide +kernel
theorem dX9_fetches_66 : decode cX9_fetches 66 = .ok (.getfield 7, 3) := by decide +kernel
theorem dX9_fetches_69 : decode cX9_fetches 69 = .ok (.bipush 32, 2) := by decide +kernel
theorem dX9_fetches_71 : decode cX9_fetches 71 = .ok (.iaload, 1) := by decide +kernel
theorem dX9_fetches_72 : decode cX9_fetches 72 = .ok (.iadd, 1) := by decide +kernel
theorem dX9_fetches_73 : decode cX9_fetches 73 = .ok (.sipush 1024, 3) := by decide +kernel
theorem dX9_fetches_76 : decode cX9_fetches 76 = .ok (.irem, 1) := by decide +kernel
theorem dX9_fetches_77 : decode cX9_fetches 77 = .ok (.istore_n 1, 1) := by decide +kernel
theorem dX9_fetches_78 : decode cX9_fetches 78 = .ok (.aload_n 0, 1) := by decide +kernel
theorem dX9_fetches_79 : decode cX9_fetches 79 = .ok (.getfield 7, 3) := by decide +kernel
theorem dX9_fetches_82 : decode cX9_fetches 82 = .ok (.bipush 50, 2) := by decide +kernel
theorem dX9_fetches_84 : decode cX9_fetches 84 = .ok (.aload_n 0, 1) := by decide +kernel
theorem dX9_fetches_85 : decode cX9_fetches 85 = .ok (.getfield 7, 3) := by decide +kernel
theorem dX9_fetches_88 : decode cX9_fetches 88 = .ok (.bipush 33, 2) := by decide +kernel
theorem dX9_fetches_90 : decode cX9_fetches 90 = .ok (.iaload, 1) := by decide +kernel
theorem dX9_fetches_91 : decode cX9_fetches 91 = .ok (.iadd, 1) := by decide +kernel
theorem dX9_fetches_92 : decode cX9_fetches 92 = .ok (.aload_n 0, 1) := by decide +kernel
theorem dX9_fetches_93 : decode cX9_fetches 93 = .ok (.getfield 7, 3) := by decide +kernel
theorem dX9_fetches_96 : decode cX9_fetches 96 = .ok (.sipush 740, 3) := by decide +kernel
theorem dX9_fetches_99 : decode cX9_fetches 99 = .ok (.iload_n 1, 1) := by decide +kernel
theorem dX9_fetches_100 : decode cX9_fetches 100 = .ok (.iadd, 1) := by decide +kernel
theorem dX9_fetches_101 : decode cX9_fetches 101 = .ok (.iaload, 1) := by decide +kernel
theorem dX9_fetches_102 : decode cX9_fetches 102 = .ok (.iastore, 1) := by decide +kernel
theorem dX9_fetches_103 : decode cX9_fetches 103 = .ok (.aload_n 0, 1) := by decide +kernel
theorem dX9_fetches_104 : decode cX9_fetches 104 = .ok (.getfield 7, 3) := by decide +kernel
theorem dX9_fetches_107 : decode cX9_fetches 107 = .ok (.bipush 33, 2) := by decide +kernel
theorem dX9_fetches_109 : decode cX9_fetches 109 = .ok (.dup2, 1) := by decide +kernel
theorem dX9_fetches_110 : decode cX9_fetches 110 = .ok (.iaload, 1) := by decide +kernel
theorem dX9_fetches_111 : decode cX9_fetches 111 = .ok (.iconst 1, 1) := by decide +kernel
theorem dX9_fetches_112 : decode cX9_fetches 112 = .ok (.iadd, 1) := by decide +kernel
theorem dX9_fetches_113 : decode cX9_fetches 113 = .ok (.iastore, 1) := by decide +kernel
theorem dX9_fetches_114 : decode cX9_fetches 114 = .ok (.aload_n 0, 1) := by decide +kernel
theorem dX9_fetches_115 : decode cX9_fetches 115 = .ok (.getfield 7, 3) := by decide +kernel
theorem dX9_fetches_118 : decode cX9_fetches 118 = .ok (.bipush 32, 2) := by decide +kernel
theorem dX9_fetches_120 : decode cX9_fetches 120 = .ok (.dup2, 1) := by decide +kernel
theorem dX9_fetches_121 : decode cX9_fetches 121 = .ok (.iaload, 1) := by decide +kernel
theorem dX9_fetches_122 : decode cX9_fetches 122 = .ok (.iconst 1, 1) := by decide +kernel
theorem dX9_fetches_123 : decode cX9_fetches 123 = .ok (.iadd, 1) := by decide +kernel
theorem dX9_fetches_124 : decode cX9_fetches 124 = .ok (.iastore, 1) := by decide +kernel
theorem dX9_fetches_125 : decode cX9_fetches 125 = .ok (.aload_n 0, 1) := by decide +kernel
theorem dX9_fetches_126 : decode cX9_fetches 126 = .ok (.getfield 7, 3) := by decide +kernel
theorem dX9_fetches_129 : decode cX9_fetches 129 = .ok (.bipush 26, 2) := by decide +kernel
theorem dX9_fetches_131 : decode cX9_fetches 131 = .ok (.dup2, 1) := by decide +kernel
theorem dX9_fetches_132 : decode cX9_fetches 132 = .ok (.iaload, 1) := by decide +kernel
theorem dX9_fetches_133 : decode cX9_fetches 133 = .ok (.iconst 1, 1) := by decide +kernel
theorem dX9_fetches_134 : decode cX9_fetches 134 = .ok (.iadd, 1) := by decide +kernel
theorem dX9_fetches_135 : decode cX9_fetches 135 = .ok (.iastore, 1) := by decide +kernel
theorem dX9_fetches_136 : decode cX9_fetches 136 = .ok (.return_, 1) := by decide +kernel
theorem dX9_takes_0 : decode cX9_takes 0 = .ok (.aload_n 0, 1) := by decide +kernel
theorem dX9_takes_1 : decode cX9_takes 1 = .ok (.getfield 7, 3) := by decide +kernel
theorem dX9_takes_4 : decode cX9_takes 4 = .ok (.bipush 35, 2) := by decide +kernel
theorem dX9_takes_6 : decode cX9_takes 6 = .ok (.iaload, 1) := by decide +kernel
theorem dX9_takes_7 : decode cX9_takes 7 = .ok (.ifCond .ne 99, 3) := by decide +kernel
theorem dX9_takes_10 : decode cX9_takes 10 = .ok (.aload_n 0, 1) := by decide +kernel
theorem dX9_takes_11 : decode cX9_takes 11 = .ok (.getfield 7, 3) := by decide +kernel
theorem dX9_takes_14 : decode cX9_takes 14 = .ok (.bipush 33, 2) := by decide +kernel
theorem dX9_takes_16 : decode cX9_takes 16 = .ok (.iaload, 1) := by decide +kernel
theorem dX9_takes_17 : decode cX9_takes 17 = .ok (.ifCond .ne 16, 3) := by decide +kernel
theorem dX9_takes_20 : decode cX9_takes 20 = .ok (.aload_n 0, 1) := by decide +kernel
theorem dX9_takes_21 : decode cX9_takes 21 = .ok (.getfield 7, 3) := by decide +kernel
theorem dX9_takes_24 : decode cX9_takes 24 = .ok (.bipush 24, 2) := by decide +kernel
theorem dX9_takes_26 : decode cX9_takes 26 = .ok (.dup2, 1) := by decide +kernel
theorem dX9_takes_27 : decode cX9_takes 27 = .ok (.iaload, 1) := by decide +kernel
theorem dX9_takes_28 : decode cX9_takes 28 = .ok (.iconst 1, 1) := by decide +kernel
theorem dX9_takes_29 : decode cX9_takes 29 = .ok (.iadd, 1) := by decide +kernel
theorem dX9_takes_30 : decode cX9_takes 30 = .ok (.iastore, 1) := by decide +kernel
theorem dX9_takes_31 : decode cX9_takes 31 = .ok (.iconst (-1), 1) := by decide +kernel
theorem dX9_takes_32 : decode cX9_takes 32 = .ok (.ireturn, 1) := by decide +kernel
theorem dX9_takes_33 : decode cX9_takes 33 = .ok (.aload_n 0, 1) := by decide +kernel
theorem dX9_takes_34 : decode cX9_takes 34 = .ok (.getfield 7, 3) := by decide +kernel
theorem dX9_takes_37 : decode cX9_takes 37 = .ok (.bipush 34, 2) := by decide +kernel
theorem dX9_takes_39 : decode cX9_takes 39 = .ok (.aload_n 0, 1) := by decide +kernel
theorem dX9_takes_40 : decode cX9_takes 40 = .ok (.getfield 7, 3) := by decide +kernel
theorem dX9_takes_43 : decode cX9_takes 43 = .ok (.bipush 50, 2) := by decide +kernel
theorem dX9_takes_45 : decode cX9_takes 45 = .ok (.iaload, 1) := by decide +kernel
theorem dX9_takes_46 : decode cX9_takes 46 = .ok (.iastore, 1) := by decide +kernel
theorem dX9_takes_47 : decode cX9_takes 47 = .ok (.aload_n 0, 1) := by decide +kernel
theorem dX9_takes_48 : decode cX9_takes 48 = .ok (.getfield 7, 3) := by decide +kernel
theorem dX9_takes_51 : decode cX9_takes 51 = .ok (.bipush 35, 2) := by decide +kernel
theorem dX9_takes_53 : decode cX9_takes 53 = .ok (.bipush 8, 2) := by decide +kernel
theorem dX9_takes_55 : decode cX9_takes 55 = .ok (.iastore, 1) := by decide +kernel
theorem dX9_takes_56 : decode cX9_takes 56 = .ok (.iconst 1, 1) := by decide +kernel
theorem dX9_takes_57 : decode cX9_takes 57 = .ok (.istore_n 1, 1) := by decide +kernel
theorem dX9_takes_58 : decode cX9_takes 58 = .ok (.iload_n 1, 1) := by decide +kernel
theorem dX9_takes_59 : decode cX9_takes 59 = .ok (.aload_n 0, 1) := by decide +kernel
theorem dX9_takes_60 : decode cX9_takes 60 = .ok (.getfield 7, 3) := by decide +kernel
theorem dX9_takes_63 : decode cX9_takes 63 = .ok (.bipush 33, 2) := by decide +kernel
theorem dX9_takes_65 : decode cX9_takes 65 = .ok (.iaload, 1) := by decide +kernel
theorem dX9_takes_66 : decode cX9_takes 66 = .ok (.if_icmp .ge 29, 3) := by decide +kernel
theorem dX9_takes_69 : decode cX9_takes 69 = .ok (.aload_n 0, 1) := by decide +kernel
theorem dX9_takes_70 : decode cX9_takes 70 = .ok (.getfield 7, 3) := by decide +kernel
theorem dX9_takes_73 : decode cX9_takes 73 = .ok (.bipush 50, 2) := by decide +kernel
theorem dX9_takes_75 : decode cX9_takes 75 = .ok (.iload_n 1, 1) := by decide +kernel
theorem dX9_takes_76 : decode cX9_takes 76 = .ok (.iadd, 1) := by decide +kernel
theorem dX9_takes_77 : decode cX9_takes 77 = .ok (.iconst 1, 1) := by decide +kernel
theorem dX9_takes_78 : decode cX9_takes 78 = .ok (.isub, 1) := by decide +kernel
theorem dX9_takes_79 : decode cX9_takes 79 = .ok (.aload_n 0, 1) := by decide +kernel
theorem dX9_takes_80 : decode cX9_takes 80 = .ok (.getfield 7, 3) := by decide +kernel
theorem dX9_takes_83 : decode cX9_takes 83 = .ok (.bipush 50, 2) := by decide +kernel
theorem dX9_takes_85 : decode cX9_takes 85 = .ok (.iload_n 1, 1) := by decide +kernel
theorem dX9_takes_86 : decode cX9_takes 86 = .ok (.iadd, 1) := by decide +kernel
theorem dX9_takes_87 : decode cX9_takes 87 = .ok (.iaload, 1) := by decide +kernel
theorem dX9_takes_88 : decode cX9_takes 88 = .ok (.iastore, 1) := by decide +kernel
theorem dX9_takes_89 : decode cX9_takes 89 = .ok (.iinc 1 1, 3) := by decide +kernel
theorem dX9_takes_92 : decode cX9_takes 92 = .ok (.goto (-34), 3) := by decide +kernel
theorem dX9_takes_95 : decode cX9_takes 95 = .ok (.aload_n 0, 1) := by decide +kernel
theorem dX9_takes_96 : decode cX9_takes 96 = .ok (.getfield 7, 3) := by decide +kernel
theorem dX9_takes_99 : decode cX9_takes 99 = .ok (.bipush 33, 2) := by decide +kernel
theorem dX9_takes_101 : decode cX9_takes 101 = .ok (.dup2, 1) := by decide +kernel
theorem dX9_takes_102 : decode cX9_takes 102 = .ok (.iaload, 1) := by decide +kernel
theorem dX9_takes_103 : decode cX9_takes 103 = .ok (.iconst 1, 1) := by decide +kernel
theorem dX9_takes_104 : decode cX9_takes 104 = .ok (.isub, 1) := by decide +kernel
theorem dX9_takes_105 : decode cX9_takes 105 = .ok (.iastore, 1) := by decide +kernel
theorem dX9_takes_106 : decode cX9_takes 106 = .ok (.aload_n 0, 1) := by decide +kernel
theorem dX9_takes_107 : decode cX9_takes 107 = .ok (.getfield 7, 3) := by decide +kernel
theorem dX9_takes_110 : decode cX9_takes 110 = .ok (.bipush 35, 2) := by decide +kernel
theorem dX9_takes_112 : decode cX9_takes 112 = .ok (.dup2, 1) := by decide +kernel
theorem dX9_takes_113 : decode cX9_takes 113 = .ok (.iaload, 1) := by decide +kernel
theorem dX9_takes_114 : decode cX9_takes 114 = .ok (.iconst 1, 1) := by decide +kernel
theorem dX9_takes_115 : decode cX9_takes 115 = .ok (.isub, 1) := by decide +kernel
theorem dX9_takes_116 : decode cX9_takes 116 = .ok (.iastore, 1) := by decide +kernel
theorem dX9_takes_117 : decode cX9_takes 117 = .ok (.aload_n 0, 1) := by decide +kernel
theorem dX9_takes_118 : decode cX9_takes 118 = .ok (.getfield 7, 3) := by decide +kernel
theorem dX9_takes_121 : decode cX9_takes 121 = .ok (.bipush 34, 2) := by decide +kernel
theorem dX9_takes_123 : decode cX9_takes 123 = .ok (.iaload, 1) := by decide +kernel
theorem dX9_takes_124 : decode cX9_takes 124 = .ok (.aload_n 0, 1) := by decide +kernel
theorem dX9_takes_125 : decode cX9_takes 125 = .ok (.getfield 7, 3) := by decide +kernel
theorem dX9_takes_128 : decode cX9_takes 128 = .ok (.bipush 35, 2) := by decide +kernel
theorem dX9_takes_130 : decode cX9_takes 130 = .ok (.iaload, 1) := by decide +kernel
theorem dX9_takes_131 : decode cX9_takes 131 = .ok (.ishr, 1) := by decide +kernel
theorem dX9_takes_132 : decode cX9_takes 132 = .ok (.iconst 1, 1) := by decide +kernel
theorem dX9_takes_133 : decode cX9_takes 133 = .ok (.iand, 1) := by decide +kernel
theorem dX9_takes_134 : decode cX9_takes 134 = .ok (.ireturn, 1) := by decide +kernel
set_option maxRecDepth 20000 in
theorem ggX9_dots_X9_takes : GoodIn wsX9_dots wsX9_takes := goodIn_r _ [6, 1, 21, 22] (by decide +kernel) (by decide +kernel)
set_option maxRecDepth 20000 in
theorem gX9_dots_X9_takes : GoodIn wsX9_dots (wsV RX9 47 RX9 yX9_takes wsX9_takes) := goodIn_app (goodIn_of _ (by decide +kernel)) ggX9_dots_X9_takes
set_option maxRecDepth 20000 in
theorem ggX9_dots_X9_rowOf : GoodIn wsX9_dots wsX9_rowOf := goodIn_r _ [9] (by decide +kernel) (by decide +kernel)
set_option maxRecDepth 20000 in
theorem gX9_dots_X9_rowOf : GoodIn wsX9_dots (va_wsS RX9 36 yX9_rowOf wsX9_rowOf) := goodIn_app (goodIn_of _ (by decide +kernel)) ggX9_dots_X9_rowOf
set_option maxRecDepth 20000 in
theorem ggX9_dots_X9_spritesOf : GoodIn wsX9_dots wsX9_spritesOf := goodIn_r _ [13, 14, 15, 16, 5, 17, 1, 21, 22] (by decide +kernel) (by decide +kernel)
set_option maxRecDepth 20000 in
theorem gX9_dots_X9_spritesOf : GoodIn wsX9_dots (wsV RX9 50 RX9 yX9_spritesOf wsX9_spritesOf) := goodIn_app (goodIn_of _ (by decide +kernel)) ggX9_dots_X9_spritesOf
set_option maxRecDepth 20000 in
theorem ggX9_dots_X9_isIn : GoodIn wsX9_dots wsX9_isIn := goodIn_r _ [20] (by decide +kernel) (by decide +kernel)
set_option maxRecDepth 20000 in
theorem gX9_dots_X9_isIn : GoodIn wsX9_dots (va_wsS RX9 17 yX9_isIn wsX9_isIn) := goodIn_app (goodIn_of _ (by decide +kernel)) ggX9_dots_X9_isIn
theorem dX9_dots_0 : decode cX9_dots 0 = .ok (.aload_n 0, 1) := by decide +kernel
theorem dX9_dots_1 : decode cX9_dots 1 = .ok (.getfield 7, 3) := by decide +kernel
theorem dX9_dots_4 : decode cX9_dots 4 = .ok (.bipush 20, 2) := by decide +kernel
theorem dX9_dots_6 : decode cX9_dots 6 = .ok (.iaload, 1) := by decide +kernel
theorem dX9_dots_7 : decode cX9_dots 7 = .ok (.ifCond .ne 33, 3) := by decide +kernel
theorem dX9_dots_10 : decode cX9_dots 10 = .ok (.iconst 0, 1) := by decide +kernel
theorem dX9_dots_11 : decode cX9_dots 11 = .ok (.istore_n 1, 1) := by decide +kernel
theorem dX9_dots_12 : decode cX9_dots 12 = .ok (.iconst 0, 1) := by decide +kernel
theorem dX9_dots_13 : decode cX9_dots 13 = .ok (.istore_n 2, 1) := by decide +kernel
theorem dX9_dots_14 : decode cX9_dots 14 = .ok (.iload_n 2, 1) := by decide +kernel
theorem dX9_dots_15 : decode cX9_dots 15 = .ok (.aload_n 0, 1) := by decide +kernel
theorem dX9_dots_16 : decode cX9_dots 16 = .ok (.getfield 7, 3) := by decide +kernel
theorem dX9_dots_19 : decode cX9_dots 19 = .ok (.bipush 42, 2) := by decide +kernel
theorem dX9_dots_21 : decode cX9_dots 21 = .ok (.iaload, 1) := by decide +kernel
theorem dX9_dots_22 : decode cX9_dots 22 = .ok (.if_icmp .ge 18, 3) := by decide +kernel
theorem dX9_dots_25 : decode cX9_dots 25 = .ok (.iload_n 1, 1) := by decide +kernel
theorem dX9_dots_26 : decode cX9_dots 26 = .ok (.ifCond .lt 14, 3) := by decide +kernel
theorem dX9_dots_29 : decode cX9_dots 29 = .ok (.aload_n 0, 1) := by decide +kernel
theorem dX9_dots_30 : decode cX9_dots 30 = .ok (.invokevirtual 47, 3) := by decide +kernel
theorem dX9_dots_33 : decode cX9_dots 33 = .ok (.istore_n 1, 1) := by decide +kernel
theorem dX9_dots_34 : decode cX9_dots 34 = .ok (.iinc 2 1, 3) := by decide +kernel
theorem dX9_dots_37 : decode cX9_dots 37 = .ok (.goto (-23), 3) := by decide +kernel
theorem dX9_dots_40 : decode cX9_dots 40 = .ok (.aload_n 0, 1) := by decide +kernel
theorem dX9_dots_41 : decode cX9_dots 41 = .ok (.invokevirtual 47, 3) := by decide +kernel
theorem dX9_dots_44 : decode cX9_dots 44 = .ok (.istore_n 1, 1) := by decide +kernel
theorem dX9_dots_45 : decode cX9_dots 45 = .ok (.aload_n 0, 1) := by decide +kernel
theorem dX9_dots_46 : decode cX9_dots 46 = .ok (.getfield 7, 3) := by decide +kernel
theorem dX9_dots_49 : decode cX9_dots 49 = .ok (.bipush 21, 2) := by decide +kernel
theorem dX9_dots_51 : decode cX9_dots 51 = .ok (.iaload, 1) := by decide +kernel
theorem dX9_dots_52 : decode cX9_dots 52 = .ok (.aload_n 0, 1) := by decide +kernel
theorem dX9_dots_53 : decode cX9_dots 53 = .ok (.getfield 7, 3) := by decide +kernel
theorem dX9_dots_56 : decode cX9_dots 56 = .ok (.bipush 22, 2) := by decide +kernel
theorem dX9_dots_58 : decode cX9_dots 58 = .ok (.iaload, 1) := by decide +kernel
theorem dX9_dots_59 : decode cX9_dots 59 = .ok (.aload_n 0, 1) := by decide +kernel
theorem dX9_dots_60 : decode cX9_dots 60 = .ok (.getfield 7, 3) := by decide +kernel
theorem dX9_dots_63 : decode cX9_dots 63 = .ok (.bipush 8, 2) := by decide +kernel
theorem dX9_dots_65 : decode cX9_dots 65 = .ok (.iaload, 1) := by decide +kernel
theorem dX9_dots_66 : decode cX9_dots 66 = .ok (.invokestatic 36, 3) := by decide +kernel
theorem dX9_dots_69 : decode cX9_dots 69 = .ok (.istore_n 2, 1) := by decide +kernel
theorem dX9_dots_70 : decode cX9_dots 70 = .ok (.aload_n 0, 1) := by decide +kernel
theorem dX9_dots_71 : decode cX9_dots 71 = .ok (.iload_n 2, 1) := by decide +kernel
theorem dX9_dots_72 : decode cX9_dots 72 = .ok (.invokevirtual 50, 3) := by decide +kernel
theorem dX9_dots_75 : decode cX9_dots 75 = .ok (.istore_n 3, 1) := by decide +kernel
theorem dX9_dots_76 : decode cX9_dots 76 = .ok (.iload_n 1, 1) := by decide +kernel
theorem dX9_dots_77 : decode cX9_dots 77 = .ok (.ifCond .ge 9, 3) := by decide +kernel
theorem dX9_dots_80 : decode cX9_dots 80 = .ok (.sipush 512, 3) := by decide +kernel
theorem dX9_dots_83 : decode cX9_dots 83 = .ok (.goto 21, 3) := by decide +kernel
theorem dX9_dots_86 : decode cX9_dots 86 = .ok (.aload_n 0, 1) := by decide +kernel
theorem dX9_dots_87 : decode cX9_dots 87 = .ok (.getfield 7, 3) := by decide +kernel
theorem dX9_dots_90 : decode cX9_dots 90 = .ok (.bipush 40, 2) := by decide +kernel
theorem dX9_dots_92 : decode cX9_dots 92 = .ok (.iload_n 1, 1) := by decide +kernel
theorem dX9_dots_93 : decode cX9_dots 93 = .ok (.iconst 1, 1) := by decide +kernel
theorem dX9_dots_94 : decode cX9_dots 94 = .ok (.if_icmp .ne 7, 3) := by decide +kernel
theorem dX9_dots_97 : decode cX9_dots 97 = .ok (.iconst 3, 1) := by decide +kernel
theorem dX9_dots_98 : decode cX9_dots 98 = .ok (.goto 4, 3) := by decide +kernel
theorem dX9_dots_101 : decode cX9_dots 101 = .ok (.iconst 4, 1) := by decide +kernel
theorem dX9_dots_102 : decode cX9_dots 102 = .ok (.iadd, 1) := by decide +kernel
theorem dX9_dots_103 : decode cX9_dots 103 = .ok (.iaload, 1) := by decide +kernel
theorem dX9_dots_104 : decode cX9_dots 104 = .ok (.istore 4, 2) := by decide +kernel
theorem dX9_dots_106 : decode cX9_dots 106 = .ok (.bipush 7, 2) := by decide +kernel
theorem dX9_dots_108 : decode cX9_dots 108 = .ok (.istore 5, 2) := by decide +kernel
theorem dX9_dots_110 : decode cX9_dots 110 = .ok (.iload 5, 2) := by decide +kernel
theorem dX9_dots_112 : decode cX9_dots 112 = .ok (.ifCond .lt 115, 3) := by decide +kernel
theorem dX9_dots_115 : decode cX9_dots 115 = .ok (.aload_n 0, 1) := by decide +kernel
theorem dX9_dots_116 : decode cX9_dots 116 = .ok (.getfield 7, 3) := by decide +kernel
theorem dX9_dots_119 : decode cX9_dots 119 = .ok (.bipush 20, 2) := by decide +kernel
theorem dX9_dots_121 : decode cX9_dots 121 = .ok (.iaload, 1) := by decide +kernel
theorem dX9_dots_122 : decode cX9_dots 122 = .ok (.aload_n 0, 1) := by decide +kernel
theorem dX9_dots_123 : decode cX9_dots 123 = .ok (.getfield 7, 3) := by decide +kernel
theorem dX9_dots_126 : decode cX9_dots 126 = .ok (.sipush 130, 3) := by decide +kernel
theorem dX9_dots_129 : decode cX9_dots 129 = .ok (.bipush 11, 2) := by decide +kernel
theorem dX9_dots_131 : decode cX9_dots 131 = .ok (.iload 5, 2) := by decide +kernel
theorem dX9_dots_133 : decode cX9_dots 133 = .ok (.imul, 1) := by decide +kernel
theorem dX9_dots_134 : decode cX9_dots 134 = .ok (.iadd, 1) := by decide +kernel
theorem dX9_dots_135 : decode cX9_dots 135 = .ok (.iaload, 1) := by decide +kernel
theorem dX9_dots_136 : decode cX9_dots 136 = .ok (.isub, 1) := by decide +kernel
theorem dX9_dots_137 : decode cX9_dots 137 = .ok (.istore 6, 2) := by decide +kernel
theorem dX9_dots_139 : decode cX9_dots 139 = .ok (.iload_n 3, 1) := by decide +kernel
theorem dX9_dots_140 : decode cX9_dots 140 = .ok (.iload 5, 2) := by decide +kernel
theorem dX9_dots_142 : decode cX9_dots 142 = .ok (.ishr, 1) := by decide +kernel
theorem dX9_dots_143 : decode cX9_dots 143 = .ok (.iconst 1, 1) := by decide +kernel
theorem dX9_dots_144 : decode cX9_dots 144 = .ok (.iand, 1) := by decide +kernel
theorem dX9_dots_145 : decode cX9_dots 145 = .ok (.ifCond .eq 76, 3) := by decide +kernel
theorem dX9_dots_148 : decode cX9_dots 148 = .ok (.iload 6, 2) := by decide +kernel
theorem dX9_dots_150 : decode cX9_dots 150 = .ok (.iconst 0, 1) := by decide +kernel
theorem dX9_dots_151 : decode cX9_dots 151 = .ok (.bipush 7, 2) := by decide +kernel
theorem dX9_dots_153 : decode cX9_dots 153 = .ok (.invokestatic 17, 3) := by decide +kernel
theorem dX9_dots_156 : decode cX9_dots 156 = .ok (.ifCond .ne 6, 3) := by decide +kernel
theorem dX9_dots_159 : decode cX9_dots 159 = .ok (.goto 62, 3) := by decide +kernel
theorem dX9_dots_162 : decode cX9_dots 162 = .ok (.aload_n 0, 1) := by decide +kernel
theorem dX9_dots_163 : decode cX9_dots 163 = .ok (.getfield 7, 3) := by decide +kernel
theorem dX9_dots_166 : decode cX9_dots 166 = .ok (.sipush 130, 3) := by decide +kernel
theorem dX9_dots_169 : decode cX9_dots 169 = .ok (.bipush 11, 2) := by decide +kernel
theorem dX9_dots_171 : decode cX9_dots 171 = .ok (.iload 5, 2) := by decide +kernel
theorem dX9_dots_173 : decode cX9_dots 173 = .ok (.imul, 1) := by decide +kernel
theorem dX9_dots_174 : decode cX9_dots 174 = .ok (.iadd, 1) := by decide +kernel
theorem dX9_dots_175 : decode cX9_dots 175 = .ok (.iconst 3, 1) := by decide +kernel
theorem dX9_dots_176 : decode cX9_dots 176 = .ok (.iadd, 1) := by decide +kernel
theorem dX9_dots_177 : decode cX9_dots 177 = .ok (.iload_n 2, 1) := by decide +kernel
theorem dX9_dots_178 : decode cX9_dots 178 = .ok (.iadd, 1) := by decide +kernel
theorem dX9_dots_179 : decode cX9_dots 179 = .ok (.aload_n 0, 1) := by decide +kernel
theorem dX9_dots_180 : decode cX9_dots 180 = .ok (.getfield 7, 3) := by decide +kernel
theorem dX9_dots_183 : decode cX9_dots 183 = .ok (.sipush 130, 3) := by decide +kernel
theorem dX9_dots_186 : decode cX9_dots 186 = .ok (.bipush 11, 2) := by decide +kernel
theorem dX9_dots_188 : decode cX9_dots 188 = .ok (.iload 5, 2) := by decide +kernel
theorem dX9_dots_190 : decode cX9_dots 190 = .ok (.imul, 1) := by decide +kernel
theorem dX9_dots_191 : decode cX9_dots 191 = .ok (.iadd, 1) := by decide +kernel
theorem dX9_dots_192 : decode cX9_dots 192 = .ok (.iconst 1, 1) := by decide +kernel
theorem dX9_dots_193 : decode cX9_dots 193 = .ok (.iadd, 1) := by decide +kernel
theorem dX9_dots_194 : decode cX9_dots 194 = .ok (.iaload, 1) := by decide +kernel
theorem dX9_dots_195 : decode cX9_dots 195 = .ok (.isub, 1) := by decide +kernel
theorem dX9_dots_196 : decode cX9_dots 196 = .ok (.iaload, 1) := by decide +kernel
theorem dX9_dots_197 : decode cX9_dots 197 = .ok (.istore 7, 2) := by decide +kernel
theorem dX9_dots_199 : decode cX9_dots 199 = .ok (.iload 7, 2) := by decide +kernel
theorem dX9_dots_201 : decode cX9_dots 201 = .ok (.bipush 7, 2) := by decide +kernel
theorem dX9_dots_203 : decode cX9_dots 203 = .ok (.iload 6, 2) := by decide +kernel
theorem dX9_dots_205 : decode cX9_dots 205 = .ok (.isub, 1) := by decide +kernel
theorem dX9_dots_206 : decode cX9_dots 206 = .ok (.ishr, 1) := by decide +kernel
theorem dX9_dots_207 : decode cX9_dots 207 = .ok (.iconst 1, 1) := by decide +kernel
theorem dX9_dots_208 : decode cX9_dots 208 = .ok (.iand, 1) := by decide +kernel
theorem dX9_dots_209 : decode cX9_dots 209 = .ok (.iconst 1, 1) := by decide +kernel
theorem dX9_dots_210 : decode cX9_dots 210 = .ok (.if_icmp .ne 11, 3) := by decide +kernel
theorem dX9_dots_213 : decode cX9_dots 213 = .ok (.sipush 256, 3) := by decide +kernel
theorem dX9_dots_216 : decode cX9_dots 216 = .ok (.iload 5, 2) := by decide +kernel
theorem dX9_dots_218 : decode cX9_dots 218 = .ok (.iadd, 1) := by decide +kernel
theorem dX9_dots_219 : decode cX9_dots 219 = .ok (.istore 4, 2) := by decide +kernel
theorem dX9_dots_221 : decode cX9_dots 221 = .ok (.iinc 5 (-1), 3) := by decide +kernel
theorem dX9_dots_224 : decode cX9_dots 224 = .ok (.goto (-114), 3) := by decide +kernel
theorem dX9_dots_227 : decode cX9_dots 227 = .ok (.aload_n 0, 1) := by decide +kernel
theorem dX9_dots_228 : decode cX9_dots 228 = .ok (.getfield 7, 3) := by decide +kernel
theorem dX9_dots_231 : decode cX9_dots 231 = .ok (.sipush 1770, 3) := by decide +kernel
theorem dX9_dots_234 : decode cX9_dots 234 = .ok (.bipush 64, 2) := by decide +kernel
theorem dX9_dots_236 : decode cX9_dots 236 = .ok (.iload_n 2, 1) := by decide +kernel
theorem dX9_dots_237 : decode cX9_dots 237 = .ok (.imul, 1) := by decide +kernel
theorem dX9_dots_238 : decode cX9_dots 238 = .ok (.iadd, 1) := by decide +kernel
theorem dX9_dots_239 : decode cX9_dots 239 = .ok (.aload_n 0, 1) := by decide +kernel
theorem dX9_dots_240 : decode cX9_dots 240 = .ok (.getfield 7, 3) := by decide +kernel
theorem dX9_dots_243 : decode cX9_dots 243 = .ok (.bipush 20, 2) := by decide +kernel
theorem dX9_dots_245 : decode cX9_dots 245 = .ok (.iaload, 1) := by decide +kernel
theorem dX9_dots_246 : decode cX9_dots 246 = .ok (.iadd, 1) := by decide +kernel
theorem dX9_dots_247 : decode cX9_dots 247 = .ok (.iload 4, 2) := by decide +kernel
theorem dX9_dots_249 : decode cX9_dots 249 = .ok (.iconst 1, 1) := by decide +kernel
theorem dX9_dots_250 : decode cX9_dots 250 = .ok (.iadd, 1) := by decide +kernel
theorem dX9_dots_251 : decode cX9_dots 251 = .ok (.iastore, 1) := by decide +kernel
theorem dX9_dots_252 : decode cX9_dots 252 = .ok (.aload_n 0, 1) := by decide +kernel
theorem dX9_dots_253 : decode cX9_dots 253 = .ok (.getfield 7, 3) := by decide +kernel
theorem dX9_dots_256 : decode cX9_dots 256 = .ok (.bipush 25, 2) := by decide +kernel
theorem dX9_dots_258 : decode cX9_dots 258 = .ok (.dup2, 1) := by decide +kernel
theorem dX9_dots_259 : decode cX9_dots 259 = .ok (.iaload, 1) := by decide +kernel
theorem dX9_dots_260 : decode cX9_dots 260 = .ok (.iconst 1, 1) := by decide +kernel
theorem dX9_dots_261 : decode cX9_dots 261 = .ok (.iadd, 1) := by decide +kernel
theorem dX9_dots_262 : decode cX9_dots 262 = .ok (.iastore, 1) := by decide +kernel
theorem dX9_dots_263 : decode cX9_dots 263 = .ok (.return_, 1) := by decide +kernel
end
section
set_option maxRecDepth 20000 in
theorem ggX9_goesOn_X9_ticksOf : GoodIn wsX9_goesOn wsX9_ticksOf := goodIn_r _ [6, 1, 15, 16] (by decide +kernel) (by decide +kernel)
set_option maxRecDepth 20000 in
theorem gX9_goesOn_X9_ticksOf : GoodIn wsX9_goesOn (wsV RX9 53 RX9 yX9_ticksOf wsX9_ticksOf) := goodIn_app (goodIn_of _ (by decide +kernel)) ggX9_goesOn_X9_ticksOf
set_option maxRecDepth 20000 in
theorem ggX9_goesOn_X9_linesOf : GoodIn wsX9_goesOn wsX9_linesOf := goodIn_r _ [10, 1, 15, 16] (by decide +kernel) (by decide +kernel)
set_option maxRecDepth 20000 in
theorem gX9_goesOn_X9_linesOf : GoodIn wsX9_goesOn (wsV RX9 28 RX9 yX9_linesOf wsX9_linesOf) := goodIn_app (goodIn_of _ (by decide +kernel)) ggX9_goesOn_X9_linesOf
set_option maxRecDepth 20000 in
theorem ggX9_goesOn_X9_nextField : GoodIn wsX9_goesOn wsX9_nextField := goodIn_r _ [14, 1, 15, 16] (by decide +kernel) (by decide +kernel)
set_option maxRecDepth 20000 in
theorem gX9_goesOn_X9_nextField : GoodIn wsX9_goesOn (wsV RX9 32 RX9 yX9_nextField wsX9_nextField) := goodIn_app (goodIn_of _ (by decide +kernel)) ggX9_goesOn_X9_nextField
theorem dX9_goesOn_0 : decode cX9_goesOn 0 = .ok (.aload_n 0, 1) := by decide +kernel
theorem dX9_goesOn_1 : decode cX9_goesOn 1 = .ok (.getfield 7, 3) := by decide +kernel
theorem dX9_goesOn_4 : decode cX9_goesOn 4 = .ok (.bipush 20, 2) := by decide +kernel
theorem dX9_goesOn_6 : decode cX9_goesOn 6 = .ok (.dup2, 1) := by decide +kernel
theorem dX9_goesOn_7 : decode cX9_goesOn 7 = .ok (.iaload, 1) := by decide +kernel
theorem dX9_goesOn_8 : decode cX9_goesOn 8 = .ok (.iconst 1, 1) := by decide +kernel
theorem dX9_goesOn_9 : decode cX9_goesOn 9 = .ok (.iadd, 1) := by decide +kernel
theorem dX9_goesOn_10 : decode cX9_goesOn 10 = .ok (.iastore, 1) := by decide +kernel
theorem dX9_goesOn_11 : decode cX9_goesOn 11 = .ok (.aload_n 0, 1) := by decide +kernel
theorem dX9_goesOn_12 : decode cX9_goesOn 12 = .ok (.getfield 7, 3) := by decide +kernel
theorem dX9_goesOn_15 : decode cX9_goesOn 15 = .ok (.bipush 20, 2) := by decide +kernel
theorem dX9_goesOn_17 : decode cX9_goesOn 17 = .ok (.iaload, 1) := by decide +kernel
theorem dX9_goesOn_18 : decode cX9_goesOn 18 = .ok (.aload_n 0, 1) := by decide +kernel
theorem dX9_goesOn_19 : decode cX9_goesOn 19 = .ok (.iconst 0, 1) := by decide +kernel
theorem dX9_goesOn_20 : decode cX9_goesOn 20 = .ok (.invokevirtual 53, 3) := by decide +kernel
theorem dX9_goesOn_23 : decode cX9_goesOn 23 = .ok (.if_icmp .ge 4, 3) := by decide +kernel
theorem dX9_goesOn_26 : decode cX9_goesOn 26 = .ok (.return_, 1) := by decide +kernel
theorem dX9_goesOn_27 : decode cX9_goesOn 27 = .ok (.aload_n 0, 1) := by decide +kernel
theorem dX9_goesOn_28 : decode cX9_goesOn 28 = .ok (.getfield 7, 3) := by decide +kernel
theorem dX9_goesOn_31 : decode cX9_goesOn 31 = .ok (.bipush 20, 2) := by decide +kernel
theorem dX9_goesOn_33 : decode cX9_goesOn 33 = .ok (.iconst 0, 1) := by decide +kernel
theorem dX9_goesOn_34 : decode cX9_goesOn 34 = .ok (.iastore, 1) := by decide +kernel
theorem dX9_goesOn_35 : decode cX9_goesOn 35 = .ok (.aload_n 0, 1) := by decide +kernel
theorem dX9_goesOn_36 : decode cX9_goesOn 36 = .ok (.getfield 7, 3) := by decide +kernel
theorem dX9_goesOn_39 : decode cX9_goesOn 39 = .ok (.bipush 21, 2) := by decide +kernel
theorem dX9_goesOn_41 : decode cX9_goesOn 41 = .ok (.dup2, 1) := by decide +kernel
theorem dX9_goesOn_42 : decode cX9_goesOn 42 = .ok (.iaload, 1) := by decide +kernel
theorem dX9_goesOn_43 : decode cX9_goesOn 43 = .ok (.iconst 1, 1) := by decide +kernel
theorem dX9_goesOn_44 : decode cX9_goesOn 44 = .ok (.iadd, 1) := by decide +kernel
theorem dX9_goesOn_45 : decode cX9_goesOn 45 = .ok (.iastore, 1) := by decide +kernel
theorem dX9_goesOn_46 : decode cX9_goesOn 46 = .ok (.aload_n 0, 1) := by decide +kernel
theorem dX9_goesOn_47 : decode cX9_goesOn 47 = .ok (.getfield 7, 3) := by decide +kernel
theorem dX9_goesOn_50 : decode cX9_goesOn 50 = .ok (.bipush 21, 2) := by decide +kernel
theorem dX9_goesOn_52 : decode cX9_goesOn 52 = .ok (.iaload, 1) := by decide +kernel
theorem dX9_goesOn_53 : decode cX9_goesOn 53 = .ok (.aload_n 0, 1) := by decide +kernel
theorem dX9_goesOn_54 : decode cX9_goesOn 54 = .ok (.iconst 0, 1) := by decide +kernel
theorem dX9_goesOn_55 : decode cX9_goesOn 55 = .ok (.invokevirtual 28, 3) := by decide +kernel
theorem dX9_goesOn_58 : decode cX9_goesOn 58 = .ok (.if_icmp .ge 4, 3) := by decide +kernel
theorem dX9_goesOn_61 : decode cX9_goesOn 61 = .ok (.return_, 1) := by decide +kernel
theorem dX9_goesOn_62 : decode cX9_goesOn 62 = .ok (.aload_n 0, 1) := by decide +kernel
theorem dX9_goesOn_63 : decode cX9_goesOn 63 = .ok (.getfield 7, 3) := by decide +kernel
theorem dX9_goesOn_66 : decode cX9_goesOn 66 = .ok (.bipush 21, 2) := by decide +kernel
theorem dX9_goesOn_68 : decode cX9_goesOn 68 = .ok (.iconst 0, 1) := by decide +kernel
theorem dX9_goesOn_69 : decode cX9_goesOn 69 = .ok (.iastore, 1) := by decide +kernel
theorem dX9_goesOn_70 : decode cX9_goesOn 70 = .ok (.aload_n 0, 1) := by decide +kernel
theorem dX9_goesOn_71 : decode cX9_goesOn 71 = .ok (.getfield 7, 3) := by decide +kernel
theorem dX9_goesOn_74 : decode cX9_goesOn 74 = .ok (.bipush 22, 2) := by decide +kernel
theorem dX9_goesOn_76 : decode cX9_goesOn 76 = .ok (.aload_n 0, 1) := by decide +kernel
theorem dX9_goesOn_77 : decode cX9_goesOn 77 = .ok (.invokevirtual 32, 3) := by decide +kernel
theorem dX9_goesOn_80 : decode cX9_goesOn 80 = .ok (.iastore, 1) := by decide +kernel
theorem dX9_goesOn_81 : decode cX9_goesOn 81 = .ok (.iconst 0, 1) := by decide +kernel
theorem dX9_goesOn_82 : decode cX9_goesOn 82 = .ok (.istore_n 1, 1) := by decide +kernel
theorem dX9_goesOn_83 : decode cX9_goesOn 83 = .ok (.iload_n 1, 1) := by decide +kernel
theorem dX9_goesOn_84 : decode cX9_goesOn 84 = .ok (.bipush 10, 2) := by decide +kernel
theorem dX9_goesOn_86 : decode cX9_goesOn 86 = .ok (.if_icmp .ge 27, 3) := by decide +kernel
theorem dX9_goesOn_89 : decode cX9_goesOn 89 = .ok (.aload_n 0, 1) := by decide +kernel
theorem dX9_goesOn_90 : decode cX9_goesOn 90 = .ok (.getfield 7, 3) := by decide +kernel
theorem dX9_goesOn_93 : decode cX9_goesOn 93 = .ok (.iconst 0, 1) := by decide +kernel
theorem dX9_goesOn_94 : decode cX9_goesOn 94 = .ok (.iload_n 1, 1) := by decide +kernel
theorem dX9_goesOn_95 : decode cX9_goesOn 95 = .ok (.iadd, 1) := by decide +kernel
theorem dX9_goesOn_96 : decode cX9_goesOn 96 = .ok (.aload_n 0, 1) := by decide +kernel
theorem dX9_goesOn_97 : decode cX9_goesOn 97 = .ok (.getfield 7, 3) := by decide +kernel
theorem dX9_goesOn_100 : decode cX9_goesOn 100 = .ok (.sipush 5870, 3) := by decide +kernel
theorem dX9_goesOn_103 : decode cX9_goesOn 103 = .ok (.iload_n 1, 1) := by decide +kernel
theorem dX9_goesOn_104 : decode cX9_goesOn 104 = .ok (.iadd, 1) := by decide +kernel
theorem dX9_goesOn_105 : decode cX9_goesOn 105 = .ok (.iaload, 1) := by decide +kernel
theorem dX9_goesOn_106 : decode cX9_goesOn 106 = .ok (.iastore, 1) := by decide +kernel
theorem dX9_goesOn_107 : decode cX9_goesOn 107 = .ok (.iinc 1 1, 3) := by decide +kernel
theorem dX9_goesOn_110 : decode cX9_goesOn 110 = .ok (.goto (-27), 3) := by decide +kernel
theorem dX9_goesOn_113 : decode cX9_goesOn 113 = .ok (.return_, 1) := by decide +kernel
set_option maxRecDepth 20000 in
theorem ggX9_aTick_X9_begins : GoodIn wsX9_aTick wsX9_begins := goodIn_r _ [6, 1, 7, 8, 9, 5, 10, 11, 12, 13, 14, 15, 16, 17, 18, 19, 20, 60, 61] (by decide +kernel) (by decide +kernel)
set_option maxRecDepth 20000 in
theorem gX9_aTick_X9_begins : GoodIn wsX9_aTick (wsV RX9 56 RX9 yX9_begins wsX9_begins) := goodIn_app (goodIn_of _ (by decide +kernel)) ggX9_aTick_X9_begins
set_option maxRecDepth 20000 in
theorem ggX9_aTick_X9_fetches : GoodIn wsX9_aTick wsX9_fetches := goodIn_r _ [24, 1, 25, 26, 27, 5, 28, 60, 61] (by decide +kernel) (by decide +kernel)
set_option maxRecDepth 20000 in
theorem gX9_aTick_X9_fetches : GoodIn wsX9_aTick (wsV RX9 59 RX9 yX9_fetches wsX9_fetches) := goodIn_app (goodIn_of _ (by decide +kernel)) ggX9_aTick_X9_fetches
set_option maxRecDepth 20000 in
theorem ggX9_aTick_X9_dots : GoodIn wsX9_aTick wsX9_dots := goodIn_r _ [32, 1, 33, 34, 35, 5, 36, 15, 16, 17, 37, 38, 39, 40, 41, 42, 43, 44, 45, 46, 47, 60, 61] (by decide +kernel) (by decide +kernel)
set_option maxRecDepth 20000 in
theorem gX9_aTick_X9_dots : GoodIn wsX9_aTick (wsV RX9 62 RX9 yX9_dots wsX9_dots) := goodIn_app (goodIn_of _ (by decide +kernel)) ggX9_aTick_X9_dots
set_option maxRecDepth 20000 in
theorem ggX9_aTick_X9_signalsNow : GoodIn wsX9_aTick wsX9_signalsNow := goodIn_r _ [51, 1, 45, 46, 5, 47, 60, 61] (by decide +kernel) (by decide +kernel)
set_option maxRecDepth 20000 in
theorem gX9_aTick_X9_signalsNow : GoodIn wsX9_aTick (wsV RX9 65 RX9 yX9_signalsNow wsX9_signalsNow) := goodIn_app (goodIn_of _ (by decide +kernel)) ggX9_aTick_X9_signalsNow
set_option maxRecDepth 20000 in
theorem ggX9_aTick_X9_goesOn : GoodIn wsX9_aTick wsX9_goesOn := goodIn_r _ [55, 1, 56, 57, 58, 5, 59, 7, 8, 9, 10, 11, 12, 13, 14, 60, 61] (by decide +kernel) (by decide +kernel)
set_option maxRecDepth 20000 in
theorem gX9_aTick_X9_goesOn : GoodIn wsX9_aTick (wsV RX9 68 RX9 yX9_goesOn wsX9_goesOn) := goodIn_app (goodIn_of _ (by decide +kernel)) ggX9_aTick_X9_goesOn
theorem dX9_aTick_0 : decode cX9_aTick 0 = .ok (.iconst 0, 1) := by decide +kernel
theorem dX9_aTick_1 : decode cX9_aTick 1 = .ok (.istore_n 1, 1) := by decide +kernel
theorem dX9_aTick_2 : decode cX9_aTick 2 = .ok (.iload_n 1, 1) := by decide +kernel
theorem dX9_aTick_3 : decode cX9_aTick 3 = .ok (.aload_n 0, 1) := by decide +kernel
theorem dX9_aTick_4 : decode cX9_aTick 4 = .ok (.getfield 7, 3) := by decide +kernel
theorem dX9_aTick_7 : decode cX9_aTick 7 = .ok (.bipush 36, 2) := by decide +kernel
theorem dX9_aTick_9 : decode cX9_aTick 9 = .ok (.iaload, 1) := by decide +kernel
theorem dX9_aTick_10 : decode cX9_aTick 10 = .ok (.if_icmp .ge 74, 3) := by decide +kernel
theorem dX9_aTick_13 : decode cX9_aTick 13 = .ok (.bipush 60, 2) := by decide +kernel
theorem dX9_aTick_15 : decode cX9_aTick 15 = .ok (.iconst 4, 1) := by decide +kernel
theorem dX9_aTick_16 : decode cX9_aTick 16 = .ok (.iload_n 1, 1) := by decide +kernel
theorem dX9_aTick_17 : decode cX9_aTick 17 = .ok (.imul, 1) := by decide +kernel
theorem dX9_aTick_18 : decode cX9_aTick 18 = .ok (.iadd, 1) := by decide +kernel
theorem dX9_aTick_19 : decode cX9_aTick 19 = .ok (.istore_n 2, 1) := by decide +kernel
theorem dX9_aTick_20 : decode cX9_aTick 20 = .ok (.aload_n 0, 1) := by decide +kernel
theorem dX9_aTick_21 : decode cX9_aTick 21 = .ok (.getfield 7, 3) := by decide +kernel
theorem dX9_aTick_24 : decode cX9_aTick 24 = .ok (.iload_n 2, 1) := by decide +kernel
theorem dX9_aTick_25 : decode cX9_aTick 25 = .ok (.iaload, 1) := by decide +kernel
theorem dX9_aTick_26 : decode cX9_aTick 26 = .ok (.aload_n 0, 1) := by decide +kernel
theorem dX9_aTick_27 : decode cX9_aTick 27 = .ok (.getfield 7, 3) := by decide +kernel
theorem dX9_aTick_30 : decode cX9_aTick 30 = .ok (.bipush 21, 2) := by decide +kernel
theorem dX9_aTick_32 : decode cX9_aTick 32 = .ok (.iaload, 1) := by decide +kernel
theorem dX9_aTick_33 : decode cX9_aTick 33 = .ok (.if_icmp .ne 45, 3) := by decide +kernel
theorem dX9_aTick_36 : decode cX9_aTick 36 = .ok (.aload_n 0, 1) := by decide +kernel
theorem dX9_aTick_37 : decode cX9_aTick 37 = .ok (.getfield 7, 3) := by decide +kernel
theorem dX9_aTick_40 : decode cX9_aTick 40 = .ok (.iload_n 2, 1) := by decide +kernel
theorem dX9_aTick_41 : decode cX9_aTick 41 = .ok (.iconst 1, 1) := by decide +kernel
theorem dX9_aTick_42 : decode cX9_aTick 42 = .ok (.iadd, 1) := by decide +kernel
theorem dX9_aTick_43 : decode cX9_aTick 43 = .ok (.iaload, 1) := by decide +kernel
theorem dX9_aTick_44 : decode cX9_aTick 44 = .ok (.aload_n 0, 1) := by decide +kernel
theorem dX9_aTick_45 : decode cX9_aTick 45 = .ok (.getfield 7, 3) := by decide +kernel
theorem dX9_aTick_48 : decode cX9_aTick 48 = .ok (.bipush 20, 2) := by decide +kernel
theorem dX9_aTick_50 : decode cX9_aTick 50 = .ok (.iaload, 1) := by decide +kernel
theorem dX9_aTick_51 : decode cX9_aTick 51 = .ok (.if_icmp .ne 27, 3) := by decide +kernel
theorem dX9_aTick_54 : decode cX9_aTick 54 = .ok (.aload_n 0, 1) := by decide +kernel
theorem dX9_aTick_55 : decode cX9_aTick 55 = .ok (.getfield 7, 3) := by decide +kernel
theorem dX9_aTick_58 : decode cX9_aTick 58 = .ok (.bipush 40, 2) := by decide +kernel
theorem dX9_aTick_60 : decode cX9_aTick 60 = .ok (.aload_n 0, 1) := by decide +kernel
theorem dX9_aTick_61 : decode cX9_aTick 61 = .ok (.getfield 7, 3) := by decide +kernel
theorem dX9_aTick_64 : decode cX9_aTick 64 = .ok (.iload_n 2, 1) := by decide +kernel
theorem dX9_aTick_65 : decode cX9_aTick 65 = .ok (.iconst 2, 1) := by decide +kernel
theorem dX9_aTick_66 : decode cX9_aTick 66 = .ok (.iadd, 1) := by decide +kernel
theorem dX9_aTick_67 : decode cX9_aTick 67 = .ok (.iaload, 1) := by decide +kernel
theorem dX9_aTick_68 : decode cX9_aTick 68 = .ok (.iadd, 1) := by decide +kernel
theorem dX9_aTick_69 : decode cX9_aTick 69 = .ok (.aload_n 0, 1) := by decide +kernel
theorem dX9_aTick_70 : decode cX9_aTick 70 = .ok (.getfield 7, 3) := by decide +kernel
theorem dX9_aTick_73 : decode cX9_aTick 73 = .ok (.iload_n 2, 1) := by decide +kernel
theorem dX9_aTick_74 : decode cX9_aTick 74 = .ok (.iconst 3, 1) := by decide +kernel
theorem dX9_aTick_75 : decode cX9_aTick 75 = .ok (.iadd, 1) := by decide +kernel
theorem dX9_aTick_76 : decode cX9_aTick 76 = .ok (.iaload, 1) := by decide +kernel
theorem dX9_aTick_77 : decode cX9_aTick 77 = .ok (.iastore, 1) := by decide +kernel
theorem dX9_aTick_78 : decode cX9_aTick 78 = .ok (.iinc 1 1, 3) := by decide +kernel
theorem dX9_aTick_81 : decode cX9_aTick 81 = .ok (.goto (-79), 3) := by decide +kernel
theorem dX9_aTick_84 : decode cX9_aTick 84 = .ok (.aload_n 0, 1) := by decide +kernel
theorem dX9_aTick_85 : decode cX9_aTick 85 = .ok (.getfield 7, 3) := by decide +kernel
theorem dX9_aTick_88 : decode cX9_aTick 88 = .ok (.bipush 20, 2) := by decide +kernel
theorem dX9_aTick_90 : decode cX9_aTick 90 = .ok (.iaload, 1) := by decide +kernel
theorem dX9_aTick_91 : decode cX9_aTick 91 = .ok (.aload_n 0, 1) := by decide +kernel
theorem dX9_aTick_92 : decode cX9_aTick 92 = .ok (.getfield 7, 3) := by decide +kernel
theorem dX9_aTick_95 : decode cX9_aTick 95 = .ok (.iconst 0, 1) := by decide +kernel
theorem dX9_aTick_96 : decode cX9_aTick 96 = .ok (.iaload, 1) := by decide +kernel
theorem dX9_aTick_97 : decode cX9_aTick 97 = .ok (.if_icmp .ne 7, 3) := by decide +kernel
theorem dX9_aTick_100 : decode cX9_aTick 100 = .ok (.aload_n 0, 1) := by decide +kernel
theorem dX9_aTick_101 : decode cX9_aTick 101 = .ok (.invokevirtual 56, 3) := by decide +kernel
theorem dX9_aTick_104 : decode cX9_aTick 104 = .ok (.aload_n 0, 1) := by decide +kernel
theorem dX9_aTick_105 : decode cX9_aTick 105 = .ok (.invokevirtual 59, 3) := by decide +kernel
theorem dX9_aTick_108 : decode cX9_aTick 108 = .ok (.aload_n 0, 1) := by decide +kernel
theorem dX9_aTick_109 : decode cX9_aTick 109 = .ok (.getfield 7, 3) := by decide +kernel
theorem dX9_aTick_112 : decode cX9_aTick 112 = .ok (.bipush 20, 2) := by decide +kernel
theorem dX9_aTick_114 : decode cX9_aTick 114 = .ok (.iaload, 1) := by decide +kernel
theorem dX9_aTick_115 : decode cX9_aTick 115 = .ok (.aload_n 0, 1) := by decide +kernel
theorem dX9_aTick_116 : decode cX9_aTick 116 = .ok (.getfield 7, 3) := by decide +kernel
theorem dX9_aTick_119 : decode cX9_aTick 119 = .ok (.iconst 0, 1) := by decide +kernel
theorem dX9_aTick_120 : decode cX9_aTick 120 = .ok (.iaload, 1) := by decide +kernel
theorem dX9_aTick_121 : decode cX9_aTick 121 = .ok (.if_icmp .ge 23, 3) := by decide +kernel
theorem dX9_aTick_124 : decode cX9_aTick 124 = .ok (.aload_n 0, 1) := by decide +kernel
theorem dX9_aTick_125 : decode cX9_aTick 125 = .ok (.getfield 7, 3) := by decide +kernel
theorem dX9_aTick_128 : decode cX9_aTick 128 = .ok (.bipush 21, 2) := by decide +kernel
theorem dX9_aTick_130 : decode cX9_aTick 130 = .ok (.iaload, 1) := by decide +kernel
theorem dX9_aTick_131 : decode cX9_aTick 131 = .ok (.aload_n 0, 1) := by decide +kernel
theorem dX9_aTick_132 : decode cX9_aTick 132 = .ok (.getfield 7, 3) := by decide +kernel
theorem dX9_aTick_135 : decode cX9_aTick 135 = .ok (.iconst 4, 1) := by decide +kernel
theorem dX9_aTick_136 : decode cX9_aTick 136 = .ok (.iaload, 1) := by decide +kernel
theorem dX9_aTick_137 : decode cX9_aTick 137 = .ok (.if_icmp .ge 7, 3) := by decide +kernel
theorem dX9_aTick_140 : decode cX9_aTick 140 = .ok (.aload_n 0, 1) := by decide +kernel
theorem dX9_aTick_141 : decode cX9_aTick 141 = .ok (.invokevirtual 62, 3) := by decide +kernel
theorem dX9_aTick_144 : decode cX9_aTick 144 = .ok (.aload_n 0, 1) := by decide +kernel
theorem dX9_aTick_145 : decode cX9_aTick 145 = .ok (.getfield 7, 3) := by decide +kernel
theorem dX9_aTick_148 : decode cX9_aTick 148 = .ok (.sipush 220, 3) := by decide +kernel
theorem dX9_aTick_151 : decode cX9_aTick 151 = .ok (.aload_n 0, 1) := by decide +kernel
theorem dX9_aTick_152 : decode cX9_aTick 152 = .ok (.getfield 7, 3) := by decide +kernel
theorem dX9_aTick_155 : decode cX9_aTick 155 = .ok (.bipush 23, 2) := by decide +kernel
theorem dX9_aTick_157 : decode cX9_aTick 157 = .ok (.iaload, 1) := by decide +kernel
theorem dX9_aTick_158 : decode cX9_aTick 158 = .ok (.sipush 512, 3) := by decide +kernel
theorem dX9_aTick_161 : decode cX9_aTick 161 = .ok (.irem, 1) := by decide +kernel
theorem dX9_aTick_162 : decode cX9_aTick 162 = .ok (.iadd, 1) := by decide +kernel
theorem dX9_aTick_163 : decode cX9_aTick 163 = .ok (.aload_n 0, 1) := by decide +kernel
theorem dX9_aTick_164 : decode cX9_aTick 164 = .ok (.invokevirtual 65, 3) := by decide +kernel
theorem dX9_aTick_167 : decode cX9_aTick 167 = .ok (.iastore, 1) := by decide +kernel
theorem dX9_aTick_168 : decode cX9_aTick 168 = .ok (.aload_n 0, 1) := by decide +kernel
theorem dX9_aTick_169 : decode cX9_aTick 169 = .ok (.invokevirtual 68, 3) := by decide +kernel
theorem dX9_aTick_172 : decode cX9_aTick 172 = .ok (.aload_n 0, 1) := by decide +kernel
theorem dX9_aTick_173 : decode cX9_aTick 173 = .ok (.getfield 7, 3) := by decide +kernel
theorem dX9_aTick_176 : decode cX9_aTick 176 = .ok (.bipush 23, 2) := by decide +kernel
theorem dX9_aTick_178 : decode cX9_aTick 178 = .ok (.dup2, 1) := by decide +kernel
theorem dX9_aTick_179 : decode cX9_aTick 179 = .ok (.iaload, 1) := by decide +kernel
theorem dX9_aTick_180 : decode cX9_aTick 180 = .ok (.iconst 1, 1) := by decide +kernel
theorem dX9_aTick_181 : decode cX9_aTick 181 = .ok (.iadd, 1) := by decide +kernel
theorem dX9_aTick_182 : decode cX9_aTick 182 = .ok (.iastore, 1) := by decide +kernel
theorem dX9_aTick_183 : decode cX9_aTick 183 = .ok (.return_, 1) := by decide +kernel
set_option maxRecDepth 20000 in
theorem ggX9_ticks_X9_isIn : GoodIn wsX9_ticks wsX9_isIn := goodIn_r _ [6] (by decide +kernel) (by decide +kernel)
set_option maxRecDepth 20000 in
theorem gX9_ticks_X9_isIn : GoodIn wsX9_ticks (va_wsS RX9 17 yX9_isIn wsX9_isIn) := goodIn_app (goodIn_of _ (by decide +kernel)) ggX9_ticks_X9_isIn
set_option maxRecDepth 20000 in
theorem ggX9_ticks_X9_aTick : GoodIn wsX9_ticks wsX9_aTick := goodIn_r _ [10, 1, 11, 12, 13, 5, 14, 15, 16, 17, 18, 19, 20, 21, 22, 23, 24, 25, 26, 27, 28, 29, 30, 31, 32, 33, 34, 35, 36, 37, 38, 39, 40, 41, 42, 43, 44, 45, 46, 47, 48, 49, 50, 51, 52, 3, 4, 6, 53, 54, 55, 56, 57, 58, 59, 60, 61, 62, 63, 64, 65, 66] (by decide +kernel) (by decide +kernel)
set_option maxRecDepth 20000 in
theorem gX9_ticks_X9_aTick : GoodIn wsX9_ticks (wsV RX9 72 RX9 yX9_aTick wsX9_aTick) := goodIn_app (goodIn_of _ (by decide +kernel)) ggX9_ticks_X9_aTick
theorem dX9_ticks_0 : decode cX9_ticks 0 = .ok (.iload_n 1, 1) := by decide +kernel
theorem dX9_ticks_1 : decode cX9_ticks 1 = .ok (.iconst 1, 1) := by decide +kernel
theorem dX9_ticks_2 : decode cX9_ticks 2 = .ok (.sipush 4000, 3) := by decide +kernel
theorem dX9_ticks_5 : decode cX9_ticks 5 = .ok (.invokestatic 17, 3) := by decide +kernel
theorem dX9_ticks_8 : decode cX9_ticks 8 = .ok (.ifCond .eq 17, 3) := by decide +kernel
theorem dX9_ticks_11 : decode cX9_ticks 11 = .ok (.aload_n 0, 1) := by decide +kernel
theorem dX9_ticks_12 : decode cX9_ticks 12 = .ok (.getfield 7, 3) := by decide +kernel
theorem dX9_ticks_15 : decode cX9_ticks 15 = .ok (.bipush 23, 2) := by decide +kernel
theorem dX9_ticks_17 : decode cX9_ticks 17 = .ok (.iaload, 1) := by decide +kernel
theorem dX9_ticks_18 : decode cX9_ticks 18 = .ok (.iload_n 1, 1) := by decide +kernel
theorem dX9_ticks_19 : decode cX9_ticks 19 = .ok (.iadd, 1) := by decide +kernel
theorem dX9_ticks_20 : decode cX9_ticks 20 = .ok (.ldc 71, 2) := by decide +kernel
theorem dX9_ticks_22 : decode cX9_ticks 22 = .ok (.if_icmp .le 5, 3) := by decide +kernel
theorem dX9_ticks_25 : decode cX9_ticks 25 = .ok (.iconst (-1), 1) := by decide +kernel
theorem dX9_ticks_26 : decode cX9_ticks 26 = .ok (.ireturn, 1) := by decide +kernel
theorem dX9_ticks_27 : decode cX9_ticks 27 = .ok (.iconst 0, 1) := by decide +kernel
theorem dX9_ticks_28 : decode cX9_ticks 28 = .ok (.istore_n 2, 1) := by decide +kernel
theorem dX9_ticks_29 : decode cX9_ticks 29 = .ok (.iload_n 2, 1) := by decide +kernel
theorem dX9_ticks_30 : decode cX9_ticks 30 = .ok (.iload_n 1, 1) := by decide +kernel
theorem dX9_ticks_31 : decode cX9_ticks 31 = .ok (.if_icmp .ge 13, 3) := by decide +kernel
theorem dX9_ticks_34 : decode cX9_ticks 34 = .ok (.aload_n 0, 1) := by decide +kernel
theorem dX9_ticks_35 : decode cX9_ticks 35 = .ok (.invokevirtual 72, 3) := by decide +kernel
theorem dX9_ticks_38 : decode cX9_ticks 38 = .ok (.iinc 2 1, 3) := by decide +kernel
theorem dX9_ticks_41 : decode cX9_ticks 41 = .ok (.goto (-12), 3) := by decide +kernel
theorem dX9_ticks_44 : decode cX9_ticks 44 = .ok (.aload_n 0, 1) := by decide +kernel
theorem dX9_ticks_45 : decode cX9_ticks 45 = .ok (.getfield 7, 3) := by decide +kernel
theorem dX9_ticks_48 : decode cX9_ticks 48 = .ok (.bipush 23, 2) := by decide +kernel
theorem dX9_ticks_50 : decode cX9_ticks 50 = .ok (.iaload, 1) := by decide +kernel
theorem dX9_ticks_51 : decode cX9_ticks 51 = .ok (.ireturn, 1) := by decide +kernel
set_option maxRecDepth 20000 in
theorem ggX9_shown_X9_isIn : GoodIn wsX9_shown wsX9_isIn := goodIn_r _ [5] (by decide +kernel) (by decide +kernel)
set_option maxRecDepth 20000 in
theorem gX9_shown_X9_isIn : GoodIn wsX9_shown (va_wsS RX9 17 yX9_isIn wsX9_isIn) := goodIn_app (goodIn_of _ (by decide +kernel)) ggX9_shown_X9_isIn
theorem dX9_shown_0 : decode cX9_shown 0 = .ok (.iload_n 1, 1) := by decide +kernel
theorem dX9_shown_1 : decode cX9_shown 1 = .ok (.iconst 0, 1) := by decide +kernel
theorem dX9_shown_2 : decode cX9_shown 2 = .ok (.bipush 63, 2) := by decide +kernel
theorem dX9_shown_4 : decode cX9_shown 4 = .ok (.invokestatic 17, 3) := by decide +kernel
theorem dX9_shown_7 : decode cX9_shown 7 = .ok (.ifCond .eq 33, 3) := by decide +kernel
theorem dX9_shown_10 : decode cX9_shown 10 = .ok (.iload_n 2, 1) := by decide +kernel
theorem dX9_shown_11 : decode cX9_shown 11 = .ok (.iconst 0, 1) := by decide +kernel
theorem dX9_shown_12 : decode cX9_shown 12 = .ok (.bipush 63, 2) := by decide +kernel
theorem dX9_shown_14 : decode cX9_shown 14 = .ok (.invokestatic 17, 3) := by decide +kernel
theorem dX9_shown_17 : decode cX9_shown 17 = .ok (.ifCond .eq 23, 3) := by decide +kernel
theorem dX9_shown_20 : decode cX9_shown 20 = .ok (.aload_n 0, 1) := by decide +kernel
theorem dX9_shown_21 : decode cX9_shown 21 = .ok (.getfield 7, 3) := by decide +kernel
theorem dX9_shown_24 : decode cX9_shown 24 = .ok (.sipush 1770, 3) := by decide +kernel
theorem dX9_shown_27 : decode cX9_shown 27 = .ok (.bipush 64, 2) := by decide +kernel
theorem dX9_shown_29 : decode cX9_shown 29 = .ok (.iload_n 2, 1) := by decide +kernel
theorem dX9_shown_30 : decode cX9_shown 30 = .ok (.imul, 1) := by decide +kernel
theorem dX9_shown_31 : decode cX9_shown 31 = .ok (.iadd, 1) := by decide +kernel
theorem dX9_shown_32 : decode cX9_shown 32 = .ok (.iload_n 1, 1) := by decide +kernel
theorem dX9_shown_33 : decode cX9_shown 33 = .ok (.iadd, 1) := by decide +kernel
theorem dX9_shown_34 : decode cX9_shown 34 = .ok (.iaload, 1) := by decide +kernel
theorem dX9_shown_35 : decode cX9_shown 35 = .ok (.iconst 1, 1) := by decide +kernel
theorem dX9_shown_36 : decode cX9_shown 36 = .ok (.isub, 1) := by decide +kernel
theorem dX9_shown_37 : decode cX9_shown 37 = .ok (.goto 5, 3) := by decide +kernel
theorem dX9_shown_40 : decode cX9_shown 40 = .ok (.bipush (-2), 2) := by decide +kernel
theorem dX9_shown_42 : decode cX9_shown 42 = .ok (.ireturn, 1) := by decide +kernel
set_option maxRecDepth 20000 in
theorem ggX9_now_X9_signalsNow : GoodIn wsX9_now wsX9_signalsNow := goodIn_r _ [6, 1, 7, 8, 5, 9, 22, 23] (by decide +kernel) (by decide +kernel)
set_option maxRecDepth 20000 in
theorem gX9_now_X9_signalsNow : GoodIn wsX9_now (wsV RX9 65 RX9 yX9_signalsNow wsX9_signalsNow) := goodIn_app (goodIn_of _ (by decide +kernel)) ggX9_now_X9_signalsNow
set_option maxRecDepth 20000 in
theorem ggX9_now_X9_ticksOf : GoodIn wsX9_now wsX9_ticksOf := goodIn_r _ [13, 1, 22, 23] (by decide +kernel) (by decide +kernel)
set_option maxRecDepth 20000 in
theorem gX9_now_X9_ticksOf : GoodIn wsX9_now (wsV RX9 53 RX9 yX9_ticksOf wsX9_ticksOf) := goodIn_app (goodIn_of _ (by decide +kernel)) ggX9_now_X9_ticksOf
set_option maxRecDepth 20000 in
theorem ggX9_now_X9_linesOf : GoodIn wsX9_now wsX9_linesOf := goodIn_r _ [17, 1, 22, 23] (by decide +kernel) (by decide +kernel)
set_option maxRecDepth 20000 in
theorem gX9_now_X9_linesOf : GoodIn wsX9_now (wsV RX9 28 RX9 yX9_linesOf wsX9_linesOf) := goodIn_app (goodIn_of _ (by decide +kernel)) ggX9_now_X9_linesOf
set_option maxRecDepth 20000 in
theorem ggX9_now_X9_isTaken : GoodIn wsX9_now wsX9_isTaken := goodIn_r _ [21, 1, 22, 23] (by decide +kernel) (by decide +kernel)
set_option maxRecDepth 20000 in
theorem gX9_now_X9_isTaken : GoodIn wsX9_now (wsV RX9 43 RX9 yX9_isTaken wsX9_isTaken) := goodIn_app (goodIn_of _ (by decide +kernel)) ggX9_now_X9_isTaken
theorem dX9_now_0 : decode cX9_now 0 = .ok (.iload_n 1, 1) := by decide +kernel
theorem dX9_now_1 : decode cX9_now 1 = .ok (.tableswitch 157 0 11 #[63, 71, 79, 87, 92, 98, 104, 112, 120, 128, 136, 144], 63) := by decide +kernel
theorem dX9_now_64 : decode cX9_now 64 = .ok (.aload_n 0, 1) := by decide +kernel
theorem dX9_now_65 : decode cX9_now 65 = .ok (.getfield 7, 3) := by decide +kernel
theorem dX9_now_68 : decode cX9_now 68 = .ok (.bipush 20, 2) := by decide +kernel
theorem dX9_now_70 : decode cX9_now 70 = .ok (.iaload, 1) := by decide +kernel
theorem dX9_now_71 : decode cX9_now 71 = .ok (.ireturn, 1) := by decide +kernel
theorem dX9_now_72 : decode cX9_now 72 = .ok (.aload_n 0, 1) := by decide +kernel
theorem dX9_now_73 : decode cX9_now 73 = .ok (.getfield 7, 3) := by decide +kernel
theorem dX9_now_76 : decode cX9_now 76 = .ok (.bipush 21, 2) := by decide +kernel
theorem dX9_now_78 : decode cX9_now 78 = .ok (.iaload, 1) := by decide +kernel
theorem dX9_now_79 : decode cX9_now 79 = .ok (.ireturn, 1) := by decide +kernel
theorem dX9_now_80 : decode cX9_now 80 = .ok (.aload_n 0, 1) := by decide +kernel
theorem dX9_now_81 : decode cX9_now 81 = .ok (.getfield 7, 3) := by decide +kernel
theorem dX9_now_84 : decode cX9_now 84 = .ok (.bipush 22, 2) := by decide +kernel
theorem dX9_now_86 : decode cX9_now 86 = .ok (.iaload, 1) := by decide +kernel
theorem dX9_now_87 : decode cX9_now 87 = .ok (.ireturn, 1) := by decide +kernel
theorem dX9_now_88 : decode cX9_now 88 = .ok (.aload_n 0, 1) := by decide +kernel
theorem dX9_now_89 : decode cX9_now 89 = .ok (.invokevirtual 65, 3) := by decide +kernel
theorem dX9_now_92 : decode cX9_now 92 = .ok (.ireturn, 1) := by decide +kernel
theorem dX9_now_93 : decode cX9_now 93 = .ok (.aload_n 0, 1) := by decide +kernel
theorem dX9_now_94 : decode cX9_now 94 = .ok (.iconst 0, 1) := by decide +kernel
theorem dX9_now_95 : decode cX9_now 95 = .ok (.invokevirtual 53, 3) := by decide +kernel
theorem dX9_now_98 : decode cX9_now 98 = .ok (.ireturn, 1) := by decide +kernel
theorem dX9_now_99 : decode cX9_now 99 = .ok (.aload_n 0, 1) := by decide +kernel
theorem dX9_now_100 : decode cX9_now 100 = .ok (.iconst 0, 1) := by decide +kernel
theorem dX9_now_101 : decode cX9_now 101 = .ok (.invokevirtual 28, 3) := by decide +kernel
theorem dX9_now_104 : decode cX9_now 104 = .ok (.ireturn, 1) := by decide +kernel
theorem dX9_now_105 : decode cX9_now 105 = .ok (.aload_n 0, 1) := by decide +kernel
theorem dX9_now_106 : decode cX9_now 106 = .ok (.getfield 7, 3) := by decide +kernel
theorem dX9_now_109 : decode cX9_now 109 = .ok (.bipush 33, 2) := by decide +kernel
theorem dX9_now_111 : decode cX9_now 111 = .ok (.iaload, 1) := by decide +kernel
theorem dX9_now_112 : decode cX9_now 112 = .ok (.ireturn, 1) := by decide +kernel
theorem dX9_now_113 : decode cX9_now 113 = .ok (.aload_n 0, 1) := by decide +kernel
theorem dX9_now_114 : decode cX9_now 114 = .ok (.getfield 7, 3) := by decide +kernel
theorem dX9_now_117 : decode cX9_now 117 = .ok (.bipush 35, 2) := by decide +kernel
theorem dX9_now_119 : decode cX9_now 119 = .ok (.iaload, 1) := by decide +kernel
theorem dX9_now_120 : decode cX9_now 120 = .ok (.ireturn, 1) := by decide +kernel
theorem dX9_now_121 : decode cX9_now 121 = .ok (.aload_n 0, 1) := by decide +kernel
theorem dX9_now_122 : decode cX9_now 122 = .ok (.getfield 7, 3) := by decide +kernel
theorem dX9_now_125 : decode cX9_now 125 = .ok (.bipush 24, 2) := by decide +kernel
theorem dX9_now_127 : decode cX9_now 127 = .ok (.iaload, 1) := by decide +kernel
theorem dX9_now_128 : decode cX9_now 128 = .ok (.ireturn, 1) := by decide +kernel
theorem dX9_now_129 : decode cX9_now 129 = .ok (.aload_n 0, 1) := by decide +kernel
theorem dX9_now_130 : decode cX9_now 130 = .ok (.getfield 7, 3) := by decide +kernel
theorem dX9_now_133 : decode cX9_now 133 = .ok (.bipush 25, 2) := by decide +kernel
theorem dX9_now_135 : decode cX9_now 135 = .ok (.iaload, 1) := by decide +kernel
theorem dX9_now_136 : decode cX9_now 136 = .ok (.ireturn, 1) := by decide +kernel
theorem dX9_now_137 : decode cX9_now 137 = .ok (.aload_n 0, 1) := by decide +kernel
theorem dX9_now_138 : decode cX9_now 138 = .ok (.getfield 7, 3) := by decide +kernel
theorem dX9_now_141 : decode cX9_now 141 = .ok (.bipush 26, 2) := by decide +kernel
theorem dX9_now_143 : decode cX9_now 143 = .ok (.iaload, 1) := by decide +kernel
theorem dX9_now_144 : decode cX9_now 144 = .ok (.ireturn, 1) := by decide +kernel
theorem dX9_now_145 : decode cX9_now 145 = .ok (.aload_n 0, 1) := by decide +kernel
theorem dX9_now_146 : decode cX9_now 146 = .ok (.invokevirtual 43, 3) := by decide +kernel
theorem dX9_now_149 : decode cX9_now 149 = .ok (.ifCond .eq 7, 3) := by decide +kernel
theorem dX9_now_152 : decode cX9_now 152 = .ok (.iconst 1, 1) := by decide +kernel
theorem dX9_now_153 : decode cX9_now 153 = .ok (.goto 4, 3) := by decide +kernel
theorem dX9_now_156 : decode cX9_now 156 = .ok (.iconst 0, 1) := by decide +kernel
theorem dX9_now_157 : decode cX9_now 157 = .ok (.ireturn, 1) := by decide +kernel
theorem dX9_now_158 : decode cX9_now 158 = .ok (.iconst (-1), 1) := by decide +kernel
theorem dX9_now_159 : decode cX9_now 159 = .ok (.ireturn, 1) := by decide +kernel
set_option maxRecDepth 20000 in
theorem ggX9_signals_X9_isIn : GoodIn wsX9_signals wsX9_isIn := goodIn_r _ [5] (by decide +kernel) (by decide +kernel)
set_option maxRecDepth 20000 in
theorem gX9_signals_X9_isIn : GoodIn wsX9_signals (va_wsS RX9 17 yX9_isIn wsX9_isIn) := goodIn_app (goodIn_of _ (by decide +kernel)) ggX9_signals_X9_isIn
theorem dX9_signals_0 : decode cX9_signals 0 = .ok (.iload_n 1, 1) := by decide +kernel
theorem dX9_signals_1 : decode cX9_signals 1 = .ok (.iconst 1, 1) := by decide +kernel
theorem dX9_signals_2 : decode cX9_signals 2 = .ok (.aload_n 0, 1) := by decide +kernel
theorem dX9_signals_3 : decode cX9_signals 3 = .ok (.getfield 7, 3) := by decide +kernel
theorem dX9_signals_6 : decode cX9_signals 6 = .ok (.bipush 23, 2) := by decide +kernel
theorem dX9_signals_8 : decode cX9_signals 8 = .ok (.iaload, 1) := by decide +kernel
theorem dX9_signals_9 : decode cX9_signals 9 = .ok (.sipush 512, 3) := by decide +kernel
theorem dX9_signals_12 : decode cX9_signals 12 = .ok (.if_icmp .le 9, 3) := by decide +kernel
theorem dX9_signals_15 : decode cX9_signals 15 = .ok (.sipush 512, 3) := by decide +kernel
theorem dX9_signals_18 : decode cX9_signals 18 = .ok (.goto 10, 3) := by decide +kernel
theorem dX9_signals_21 : decode cX9_signals 21 = .ok (.aload_n 0, 1) := by decide +kernel
theorem dX9_signals_22 : decode cX9_signals 22 = .ok (.getfield 7, 3) := by decide +kernel
theorem dX9_signals_25 : decode cX9_signals 25 = .ok (.bipush 23, 2) := by decide +kernel
theorem dX9_signals_27 : decode cX9_signals 27 = .ok (.iaload, 1) := by decide +kernel
theorem dX9_signals_28 : decode cX9_signals 28 = .ok (.invokestatic 17, 3) := by decide +kernel
theorem dX9_signals_31 : decode cX9_signals 31 = .ok (.ifCond .eq 28, 3) := by decide +kernel
theorem dX9_signals_34 : decode cX9_signals 34 = .ok (.aload_n 0, 1) := by decide +kernel
theorem dX9_signals_35 : decode cX9_signals 35 = .ok (.getfield 7, 3) := by decide +kernel
theorem dX9_signals_38 : decode cX9_signals 38 = .ok (.sipush 220, 3) := by decide +kernel
theorem dX9_signals_41 : decode cX9_signals 41 = .ok (.aload_n 0, 1) := by decide +kernel
theorem dX9_signals_42 : decode cX9_signals 42 = .ok (.getfield 7, 3) := by decide +kernel
theorem dX9_signals_45 : decode cX9_signals 45 = .ok (.bipush 23, 2) := by decide +kernel
theorem dX9_signals_47 : decode cX9_signals 47 = .ok (.iaload, 1) := by decide +kernel
theorem dX9_signals_48 : decode cX9_signals 48 = .ok (.iload_n 1, 1) := by decide +kernel
theorem dX9_signals_49 : decode cX9_signals 49 = .ok (.isub, 1) := by decide +kernel
theorem dX9_signals_50 : decode cX9_signals 50 = .ok (.sipush 512, 3) := by decide +kernel
theorem dX9_signals_53 : decode cX9_signals 53 = .ok (.irem, 1) := by decide +kernel
theorem dX9_signals_54 : decode cX9_signals 54 = .ok (.iadd, 1) := by decide +kernel
theorem dX9_signals_55 : decode cX9_signals 55 = .ok (.iaload, 1) := by decide +kernel
theorem dX9_signals_56 : decode cX9_signals 56 = .ok (.goto 4, 3) := by decide +kernel
theorem dX9_signals_59 : decode cX9_signals 59 = .ok (.iconst (-1), 1) := by decide +kernel
theorem dX9_signals_60 : decode cX9_signals 60 = .ok (.ireturn, 1) := by decide +kernel
set_option maxRecDepth 20000 in
theorem ggX9_value_X9_isIn : GoodIn wsX9_value wsX9_isIn := goodIn_r _ [5] (by decide +kernel) (by decide +kernel)
set_option maxRecDepth 20000 in
theorem gX9_value_X9_isIn : GoodIn wsX9_value (va_wsS RX9 17 yX9_isIn wsX9_isIn) := goodIn_app (goodIn_of _ (by decide +kernel)) ggX9_value_X9_isIn
theorem dX9_value_0 : decode cX9_value 0 = .ok (.iload_n 1, 1) := by decide +kernel
theorem dX9_value_1 : decode cX9_value 1 = .ok (.iconst 0, 1) := by decide +kernel
theorem dX9_value_2 : decode cX9_value 2 = .ok (.iconst 4, 1) := by decide +kernel
theorem dX9_value_3 : decode cX9_value 3 = .ok (.invokestatic 17, 3) := by decide +kernel
theorem dX9_value_6 : decode cX9_value 6 = .ok (.ifCond .eq 15, 3) := by decide +kernel
theorem dX9_value_9 : decode cX9_value 9 = .ok (.aload_n 0, 1) := by decide +kernel
theorem dX9_value_10 : decode cX9_value 10 = .ok (.getfield 7, 3) := by decide +kernel
theorem dX9_value_13 : decode cX9_value 13 = .ok (.bipush 40, 2) := by decide +kernel
theorem dX9_value_15 : decode cX9_value 15 = .ok (.iload_n 1, 1) := by decide +kernel
theorem dX9_value_16 : decode cX9_value 16 = .ok (.iadd, 1) := by decide +kernel
theorem dX9_value_17 : decode cX9_value 17 = .ok (.iaload, 1) := by decide +kernel
theorem dX9_value_18 : decode cX9_value 18 = .ok (.goto 4, 3) := by decide +kernel
theorem dX9_value_21 : decode cX9_value 21 = .ok (.iconst (-1), 1) := by decide +kernel
theorem dX9_value_22 : decode cX9_value 22 = .ok (.ireturn, 1) := by decide +kernel
set_option maxRecDepth 20000 in
theorem ggX9_row_X9_isIn : GoodIn wsX9_row wsX9_isIn := goodIn_r _ [4] (by decide +kernel) (by decide +kernel)
set_option maxRecDepth 20000 in
theorem gX9_row_X9_isIn : GoodIn wsX9_row (va_wsS RX9 17 yX9_isIn wsX9_isIn) := goodIn_app (goodIn_of _ (by decide +kernel)) ggX9_row_X9_isIn
set_option maxRecDepth 20000 in
theorem ggX9_row_X9_spritesOf : GoodIn wsX9_row wsX9_spritesOf := goodIn_r _ [8, 9, 10, 11, 3, 12, 13, 14, 15] (by decide +kernel) (by decide +kernel)
set_option maxRecDepth 20000 in
theorem gX9_row_X9_spritesOf : GoodIn wsX9_row (wsV RX9 50 RX9 yX9_spritesOf wsX9_spritesOf) := goodIn_app (goodIn_of _ (by decide +kernel)) ggX9_row_X9_spritesOf
set_option maxRecDepth 20000 in
theorem ggX9_row_X9_hasRow : GoodIn wsX9_row wsX9_hasRow := goodIn_r _ [12, 13, 14, 15] (by decide +kernel) (by decide +kernel)
set_option maxRecDepth 20000 in
theorem gX9_row_X9_hasRow : GoodIn wsX9_row (wsV RX9 25 RX9 yX9_hasRow wsX9_hasRow) := goodIn_app (goodIn_of _ (by decide +kernel)) ggX9_row_X9_hasRow
theorem dX9_row_0 : decode cX9_row 0 = .ok (.iload_n 1, 1) := by decide +kernel
theorem dX9_row_1 : decode cX9_row 1 = .ok (.iconst 0, 1) := by decide +kernel
theorem dX9_row_2 : decode cX9_row 2 = .ok (.bipush 63, 2) := by decide +kernel
theorem dX9_row_4 : decode cX9_row 4 = .ok (.invokestatic 17, 3) := by decide +kernel
theorem dX9_row_7 : decode cX9_row 7 = .ok (.ifCond .eq 12, 3) := by decide +kernel
theorem dX9_row_10 : decode cX9_row 10 = .ok (.iload_n 2, 1) := by decide +kernel
theorem dX9_row_11 : decode cX9_row 11 = .ok (.iconst 0, 1) := by decide +kernel
theorem dX9_row_12 : decode cX9_row 12 = .ok (.iconst 2, 1) := by decide +kernel
theorem dX9_row_13 : decode cX9_row 13 = .ok (.invokestatic 17, 3) := by decide +kernel
theorem dX9_row_16 : decode cX9_row 16 = .ok (.ifCond .ne 5, 3) := by decide +kernel
theorem dX9_row_19 : decode cX9_row 19 = .ok (.iconst (-1), 1) := by decide +kernel
theorem dX9_row_20 : decode cX9_row 20 = .ok (.ireturn, 1) := by decide +kernel
theorem dX9_row_21 : decode cX9_row 21 = .ok (.aload_n 0, 1) := by decide +kernel
theorem dX9_row_22 : decode cX9_row 22 = .ok (.iload_n 1, 1) := by decide +kernel
theorem dX9_row_23 : decode cX9_row 23 = .ok (.invokevirtual 50, 3) := by decide +kernel
theorem dX9_row_26 : decode cX9_row 26 = .ok (.istore_n 3, 1) := by decide +kernel
theorem dX9_row_27 : decode cX9_row 27 = .ok (.iconst 0, 1) := by decide +kernel
theorem dX9_row_28 : decode cX9_row 28 = .ok (.istore 4, 2) := by decide +kernel
theorem dX9_row_30 : decode cX9_row 30 = .ok (.iconst 0, 1) := by decide +kernel
theorem dX9_row_31 : decode cX9_row 31 = .ok (.istore 5, 2) := by decide +kernel
theorem dX9_row_33 : decode cX9_row 33 = .ok (.iconst 0, 1) := by decide +kernel
theorem dX9_row_34 : decode cX9_row 34 = .ok (.istore 6, 2) := by decide +kernel
theorem dX9_row_36 : decode cX9_row 36 = .ok (.iload 6, 2) := by decide +kernel
theorem dX9_row_38 : decode cX9_row 38 = .ok (.bipush 8, 2) := by decide +kernel
theorem dX9_row_40 : decode cX9_row 40 = .ok (.if_icmp .ge 40, 3) := by decide +kernel
theorem dX9_row_43 : decode cX9_row 43 = .ok (.iload 4, 2) := by decide +kernel
theorem dX9_row_45 : decode cX9_row 45 = .ok (.iload_n 3, 1) := by decide +kernel
theorem dX9_row_46 : decode cX9_row 46 = .ok (.iload 6, 2) := by decide +kernel
theorem dX9_row_48 : decode cX9_row 48 = .ok (.ishr, 1) := by decide +kernel
theorem dX9_row_49 : decode cX9_row 49 = .ok (.iconst 1, 1) := by decide +kernel
theorem dX9_row_50 : decode cX9_row 50 = .ok (.iand, 1) := by decide +kernel
theorem dX9_row_51 : decode cX9_row 51 = .ok (.iadd, 1) := by decide +kernel
theorem dX9_row_52 : decode cX9_row 52 = .ok (.istore 4, 2) := by decide +kernel
theorem dX9_row_54 : decode cX9_row 54 = .ok (.iload 5, 2) := by decide +kernel
theorem dX9_row_56 : decode cX9_row 56 = .ok (.aload_n 0, 1) := by decide +kernel
theorem dX9_row_57 : decode cX9_row 57 = .ok (.iload 6, 2) := by decide +kernel
theorem dX9_row_59 : decode cX9_row 59 = .ok (.iload_n 1, 1) := by decide +kernel
theorem dX9_row_60 : decode cX9_row 60 = .ok (.invokevirtual 25, 3) := by decide +kernel
theorem dX9_row_63 : decode cX9_row 63 = .ok (.ifCond .eq 7, 3) := by decide +kernel
theorem dX9_row_66 : decode cX9_row 66 = .ok (.iconst 1, 1) := by decide +kernel
theorem dX9_row_67 : decode cX9_row 67 = .ok (.goto 4, 3) := by decide +kernel
theorem dX9_row_70 : decode cX9_row 70 = .ok (.iconst 0, 1) := by decide +kernel
theorem dX9_row_71 : decode cX9_row 71 = .ok (.iadd, 1) := by decide +kernel
theorem dX9_row_72 : decode cX9_row 72 = .ok (.istore 5, 2) := by decide +kernel
theorem dX9_row_74 : decode cX9_row 74 = .ok (.iinc 6 1, 3) := by decide +kernel
theorem dX9_row_77 : decode cX9_row 77 = .ok (.goto (-41), 3) := by decide +kernel
theorem dX9_row_80 : decode cX9_row 80 = .ok (.iload_n 2, 1) := by decide +kernel
theorem dX9_row_81 : decode cX9_row 81 = .ok (.ifCond .ne 11, 3) := by decide +kernel
theorem dX9_row_84 : decode cX9_row 84 = .ok (.iload 5, 2) := by decide +kernel
theorem dX9_row_86 : decode cX9_row 86 = .ok (.iload 4, 2) := by decide +kernel
theorem dX9_row_88 : decode cX9_row 88 = .ok (.isub, 1) := by decide +kernel
theorem dX9_row_89 : decode cX9_row 89 = .ok (.goto 14, 3) := by decide +kernel
theorem dX9_row_92 : decode cX9_row 92 = .ok (.iload_n 2, 1) := by decide +kernel
theorem dX9_row_93 : decode cX9_row 93 = .ok (.iconst 1, 1) := by decide +kernel
theorem dX9_row_94 : decode cX9_row 94 = .ok (.if_icmp .ne 8, 3) := by decide +kernel
theorem dX9_row_97 : decode cX9_row 97 = .ok (.iload 4, 2) := by decide +kernel
theorem dX9_row_99 : decode cX9_row 99 = .ok (.goto 4, 3) := by decide +kernel
theorem dX9_row_102 : decode cX9_row 102 = .ok (.iload_n 3, 1) := by decide +kernel
theorem dX9_row_103 : decode cX9_row 103 = .ok (.ireturn, 1) := by decide +kernel
set_option maxRecDepth 20000 in
theorem ggX9_leastOf_X9_ticksOf : GoodIn wsX9_leastOf wsX9_ticksOf := goodIn_r _ [6, 1, 10, 11] (by decide +kernel) (by decide +kernel)
set_option maxRecDepth 20000 in
theorem gX9_leastOf_X9_ticksOf : GoodIn wsX9_leastOf (wsV RX9 53 RX9 yX9_ticksOf wsX9_ticksOf) := goodIn_app (goodIn_of _ (by decide +kernel)) ggX9_leastOf_X9_ticksOf
set_option maxRecDepth 20000 in
theorem ggX9_leastOf_X9_bytesOf : GoodIn wsX9_leastOf wsX9_bytesOf := goodIn_r _ [9] (by decide +kernel) (by decide +kernel)
set_option maxRecDepth 20000 in
theorem gX9_leastOf_X9_bytesOf : GoodIn wsX9_leastOf (va_wsS RX9 40 yX9_bytesOf wsX9_bytesOf) := goodIn_app (goodIn_of _ (by decide +kernel)) ggX9_leastOf_X9_bytesOf
theorem dX9_leastOf_0 : decode cX9_leastOf 0 = .ok (.aload_n 0, 1) := by decide +kernel
theorem dX9_leastOf_1 : decode cX9_leastOf 1 = .ok (.getfield 7, 3) := by decide +kernel
theorem dX9_leastOf_4 : decode cX9_leastOf 4 = .ok (.iconst 0, 1) := by decide +kernel
theorem dX9_leastOf_5 : decode cX9_leastOf 5 = .ok (.iaload, 1) := by decide +kernel
theorem dX9_leastOf_6 : decode cX9_leastOf 6 = .ok (.istore_n 3, 1) := by decide +kernel
theorem dX9_leastOf_7 : decode cX9_leastOf 7 = .ok (.aload_n 0, 1) := by decide +kernel
theorem dX9_leastOf_8 : decode cX9_leastOf 8 = .ok (.iconst 0, 1) := by decide +kernel
theorem dX9_leastOf_9 : decode cX9_leastOf 9 = .ok (.invokevirtual 53, 3) := by decide +kernel
theorem dX9_leastOf_12 : decode cX9_leastOf 12 = .ok (.iload_n 3, 1) := by decide +kernel
theorem dX9_leastOf_13 : decode cX9_leastOf 13 = .ok (.isub, 1) := by decide +kernel
theorem dX9_leastOf_14 : decode cX9_leastOf 14 = .ok (.istore 4, 2) := by decide +kernel
theorem dX9_leastOf_16 : decode cX9_leastOf 16 = .ok (.iload_n 3, 1) := by decide +kernel
theorem dX9_leastOf_17 : decode cX9_leastOf 17 = .ok (.invokestatic 40, 3) := by decide +kernel
theorem dX9_leastOf_20 : decode cX9_leastOf 20 = .ok (.istore 5, 2) := by decide +kernel
theorem dX9_leastOf_22 : decode cX9_leastOf 22 = .ok (.iconst 0, 1) := by decide +kernel
theorem dX9_leastOf_23 : decode cX9_leastOf 23 = .ok (.istore 6, 2) := by decide +kernel
theorem dX9_leastOf_25 : decode cX9_leastOf 25 = .ok (.iconst 0, 1) := by decide +kernel
theorem dX9_leastOf_26 : decode cX9_leastOf 26 = .ok (.istore 7, 2) := by decide +kernel
theorem dX9_leastOf_28 : decode cX9_leastOf 28 = .ok (.bipush 9, 2) := by decide +kernel
theorem dX9_leastOf_30 : decode cX9_leastOf 30 = .ok (.istore 8, 2) := by decide +kernel
theorem dX9_leastOf_32 : decode cX9_leastOf 32 = .ok (.iconst 0, 1) := by decide +kernel
theorem dX9_leastOf_33 : decode cX9_leastOf 33 = .ok (.istore 9, 2) := by decide +kernel
theorem dX9_leastOf_35 : decode cX9_leastOf 35 = .ok (.iload 9, 2) := by decide +kernel
theorem dX9_leastOf_37 : decode cX9_leastOf 37 = .ok (.iload 4, 2) := by decide +kernel
theorem dX9_leastOf_39 : decode cX9_leastOf 39 = .ok (.iload_n 3, 1) := by decide +kernel
theorem dX9_leastOf_40 : decode cX9_leastOf 40 = .ok (.iadd, 1) := by decide +kernel
theorem dX9_leastOf_41 : decode cX9_leastOf 41 = .ok (.if_icmp .ge 87, 3) := by decide +kernel
theorem dX9_leastOf_44 : decode cX9_leastOf 44 = .ok (.iload_n 2, 1) := by decide +kernel
theorem dX9_leastOf_45 : decode cX9_leastOf 45 = .ok (.iload 9, 2) := by decide +kernel
theorem dX9_leastOf_47 : decode cX9_leastOf 47 = .ok (.iload_n 1, 1) := by decide +kernel
theorem dX9_leastOf_48 : decode cX9_leastOf 48 = .ok (.irem, 1) := by decide +kernel
theorem dX9_leastOf_49 : decode cX9_leastOf 49 = .ok (.ishr, 1) := by decide +kernel
theorem dX9_leastOf_50 : decode cX9_leastOf 50 = .ok (.iconst 1, 1) := by decide +kernel
theorem dX9_leastOf_51 : decode cX9_leastOf 51 = .ok (.iand, 1) := by decide +kernel
theorem dX9_leastOf_52 : decode cX9_leastOf 52 = .ok (.ifCond .ne 26, 3) := by decide +kernel
theorem dX9_leastOf_55 : decode cX9_leastOf 55 = .ok (.iload 6, 2) := by decide +kernel
theorem dX9_leastOf_57 : decode cX9_leastOf 57 = .ok (.aload_n 0, 1) := by decide +kernel
theorem dX9_leastOf_58 : decode cX9_leastOf 58 = .ok (.getfield 7, 3) := by decide +kernel
theorem dX9_leastOf_61 : decode cX9_leastOf 61 = .ok (.bipush 29, 2) := by decide +kernel
theorem dX9_leastOf_63 : decode cX9_leastOf 63 = .ok (.iaload, 1) := by decide +kernel
theorem dX9_leastOf_64 : decode cX9_leastOf 64 = .ok (.if_icmp .ge 14, 3) := by decide +kernel
theorem dX9_leastOf_67 : decode cX9_leastOf 67 = .ok (.iload 5, 2) := by decide +kernel
theorem dX9_leastOf_69 : decode cX9_leastOf 69 = .ok (.ifCond .le 9, 3) := by decide +kernel
theorem dX9_leastOf_72 : decode cX9_leastOf 72 = .ok (.iinc 6 1, 3) := by decide +kernel
theorem dX9_leastOf_75 : decode cX9_leastOf 75 = .ok (.iinc 5 (-1), 3) := by decide +kernel
theorem dX9_leastOf_78 : decode cX9_leastOf 78 = .ok (.iload 9, 2) := by decide +kernel
theorem dX9_leastOf_80 : decode cX9_leastOf 80 = .ok (.iload 4, 2) := by decide +kernel
theorem dX9_leastOf_82 : decode cX9_leastOf 82 = .ok (.if_icmp .ge 6, 3) := by decide +kernel
theorem dX9_leastOf_85 : decode cX9_leastOf 85 = .ok (.goto 37, 3) := by decide +kernel
theorem dX9_leastOf_88 : decode cX9_leastOf 88 = .ok (.iload 7, 2) := by decide +kernel
theorem dX9_leastOf_90 : decode cX9_leastOf 90 = .ok (.ifCond .ne 29, 3) := by decide +kernel
theorem dX9_leastOf_93 : decode cX9_leastOf 93 = .ok (.iload 6, 2) := by decide +kernel
theorem dX9_leastOf_95 : decode cX9_leastOf 95 = .ok (.iload 8, 2) := by decide +kernel
theorem dX9_leastOf_97 : decode cX9_leastOf 97 = .ok (.if_icmp .ge 7, 3) := by decide +kernel
theorem dX9_leastOf_100 : decode cX9_leastOf 100 = .ok (.iload 6, 2) := by decide +kernel
theorem dX9_leastOf_102 : decode cX9_leastOf 102 = .ok (.istore 8, 2) := by decide +kernel
theorem dX9_leastOf_104 : decode cX9_leastOf 104 = .ok (.iload 6, 2) := by decide +kernel
theorem dX9_leastOf_106 : decode cX9_leastOf 106 = .ok (.ifCond .ne 6, 3) := by decide +kernel
theorem dX9_leastOf_109 : decode cX9_leastOf 109 = .ok (.goto 13, 3) := by decide +kernel
theorem dX9_leastOf_112 : decode cX9_leastOf 112 = .ok (.iinc 6 (-1), 3) := by decide +kernel
theorem dX9_leastOf_115 : decode cX9_leastOf 115 = .ok (.bipush 8, 2) := by decide +kernel
theorem dX9_leastOf_117 : decode cX9_leastOf 117 = .ok (.istore 7, 2) := by decide +kernel
theorem dX9_leastOf_119 : decode cX9_leastOf 119 = .ok (.iinc 7 (-1), 3) := by decide +kernel
theorem dX9_leastOf_122 : decode cX9_leastOf 122 = .ok (.iinc 9 1, 3) := by decide +kernel
theorem dX9_leastOf_125 : decode cX9_leastOf 125 = .ok (.goto (-90), 3) := by decide +kernel
theorem dX9_leastOf_128 : decode cX9_leastOf 128 = .ok (.iload 8, 2) := by decide +kernel
theorem dX9_leastOf_130 : decode cX9_leastOf 130 = .ok (.ireturn, 1) := by decide +kernel
theorem dX9_bitsOf_0 : decode cX9_bitsOf 0 = .ok (.iconst 0, 1) := by decide +kernel
theorem dX9_bitsOf_1 : decode cX9_bitsOf 1 = .ok (.istore_n 1, 1) := by decide +kernel
theorem dX9_bitsOf_2 : decode cX9_bitsOf 2 = .ok (.iconst 0, 1) := by decide +kernel
theorem dX9_bitsOf_3 : decode cX9_bitsOf 3 = .ok (.istore_n 2, 1) := by decide +kernel
theorem dX9_bitsOf_4 : decode cX9_bitsOf 4 = .ok (.iload_n 2, 1) := by decide +kernel
theorem dX9_bitsOf_5 : decode cX9_bitsOf 5 = .ok (.bipush 10, 2) := by decide +kernel
theorem dX9_bitsOf_7 : decode cX9_bitsOf 7 = .ok (.if_icmp .ge 17, 3) := by decide +kernel
theorem dX9_bitsOf_10 : decode cX9_bitsOf 10 = .ok (.iload_n 1, 1) := by decide +kernel
theorem dX9_bitsOf_11 : decode cX9_bitsOf 11 = .ok (.iload_n 0, 1) := by decide +kernel
theorem dX9_bitsOf_12 : decode cX9_bitsOf 12 = .ok (.iload_n 2, 1) := by decide +kernel
theorem dX9_bitsOf_13 : decode cX9_bitsOf 13 = .ok (.ishr, 1) := by decide +kernel
theorem dX9_bitsOf_14 : decode cX9_bitsOf 14 = .ok (.iconst 1, 1) := by decide +kernel
theorem dX9_bitsOf_15 : decode cX9_bitsOf 15 = .ok (.iand, 1) := by decide +kernel
theorem dX9_bitsOf_16 : decode cX9_bitsOf 16 = .ok (.iadd, 1) := by decide +kernel
theorem dX9_bitsOf_17 : decode cX9_bitsOf 17 = .ok (.istore_n 1, 1) := by decide +kernel
theorem dX9_bitsOf_18 : decode cX9_bitsOf 18 = .ok (.iinc 2 1, 3) := by decide +kernel
theorem dX9_bitsOf_21 : decode cX9_bitsOf 21 = .ok (.goto (-17), 3) := by decide +kernel
theorem dX9_bitsOf_24 : decode cX9_bitsOf 24 = .ok (.iload_n 1, 1) := by decide +kernel
theorem dX9_bitsOf_25 : decode cX9_bitsOf 25 = .ok (.ireturn, 1) := by decide +kernel
set_option maxRecDepth 20000 in
theorem ggX9_least_X9_isIn : GoodIn wsX9_least wsX9_isIn := goodIn_r _ [4] (by decide +kernel) (by decide +kernel)
set_option maxRecDepth 20000 in
theorem gX9_least_X9_isIn : GoodIn wsX9_least (va_wsS RX9 17 yX9_isIn wsX9_isIn) := goodIn_app (goodIn_of _ (by decide +kernel)) ggX9_least_X9_isIn
set_option maxRecDepth 20000 in
theorem ggX9_least_X9_bitsOf : GoodIn wsX9_least wsX9_bitsOf := goodIn_r _ [7] (by decide +kernel) (by decide +kernel)
set_option maxRecDepth 20000 in
theorem gX9_least_X9_bitsOf : GoodIn wsX9_least (va_wsS RX9 75 yX9_bitsOf wsX9_bitsOf) := goodIn_app (goodIn_of _ (by decide +kernel)) ggX9_least_X9_bitsOf
set_option maxRecDepth 20000 in
theorem ggX9_least_X9_leastOf : GoodIn wsX9_least wsX9_leastOf := goodIn_r _ [11, 12, 13, 14, 15, 3, 16, 17, 18, 19, 20, 21] (by decide +kernel) (by decide +kernel)
set_option maxRecDepth 20000 in
theorem gX9_least_X9_leastOf : GoodIn wsX9_least (wsV RX9 78 RX9 yX9_leastOf wsX9_leastOf) := goodIn_app (goodIn_of _ (by decide +kernel)) ggX9_least_X9_leastOf
theorem dX9_least_0 : decode cX9_least 0 = .ok (.iload_n 1, 1) := by decide +kernel
theorem dX9_least_1 : decode cX9_least 1 = .ok (.iconst 1, 1) := by decide +kernel
theorem dX9_least_2 : decode cX9_least 2 = .ok (.bipush 10, 2) := by decide +kernel
theorem dX9_least_4 : decode cX9_least 4 = .ok (.invokestatic 17, 3) := by decide +kernel
theorem dX9_least_7 : decode cX9_least 7 = .ok (.ifCond .eq 12, 3) := by decide +kernel
theorem dX9_least_10 : decode cX9_least 10 = .ok (.iload_n 2, 1) := by decide +kernel
theorem dX9_least_11 : decode cX9_least 11 = .ok (.iconst 0, 1) := by decide +kernel
theorem dX9_least_12 : decode cX9_least 12 = .ok (.iload_n 1, 1) := by decide +kernel
theorem dX9_least_13 : decode cX9_least 13 = .ok (.invokestatic 17, 3) := by decide +kernel
theorem dX9_least_16 : decode cX9_least 16 = .ok (.ifCond .ne 5, 3) := by decide +kernel
theorem dX9_least_19 : decode cX9_least 19 = .ok (.iconst (-1), 1) := by decide +kernel
theorem dX9_least_20 : decode cX9_least 20 = .ok (.ireturn, 1) := by decide +kernel
theorem dX9_least_21 : decode cX9_least 21 = .ok (.bipush 9, 2) := by decide +kernel
theorem dX9_least_23 : decode cX9_least 23 = .ok (.istore_n 3, 1) := by decide +kernel
theorem dX9_least_24 : decode cX9_least 24 = .ok (.iconst 0, 1) := by decide +kernel
theorem dX9_least_25 : decode cX9_least 25 = .ok (.istore 4, 2) := by decide +kernel
theorem dX9_least_27 : decode cX9_least 27 = .ok (.iload 4, 2) := by decide +kernel
theorem dX9_least_29 : decode cX9_least 29 = .ok (.iconst 1, 1) := by decide +kernel
theorem dX9_least_30 : decode cX9_least 30 = .ok (.iload_n 1, 1) := by decide +kernel
theorem dX9_least_31 : decode cX9_least 31 = .ok (.ishl, 1) := by decide +kernel
theorem dX9_least_32 : decode cX9_least 32 = .ok (.if_icmp .ge 41, 3) := by decide +kernel
theorem dX9_least_35 : decode cX9_least 35 = .ok (.iload 4, 2) := by decide +kernel
theorem dX9_least_37 : decode cX9_least 37 = .ok (.invokestatic 75, 3) := by decide +kernel
theorem dX9_least_40 : decode cX9_least 40 = .ok (.iload_n 2, 1) := by decide +kernel
theorem dX9_least_41 : decode cX9_least 41 = .ok (.if_icmp .gt 13, 3) := by decide +kernel
theorem dX9_least_44 : decode cX9_least 44 = .ok (.aload_n 0, 1) := by decide +kernel
theorem dX9_least_45 : decode cX9_least 45 = .ok (.iload_n 1, 1) := by decide +kernel
theorem dX9_least_46 : decode cX9_least 46 = .ok (.iload 4, 2) := by decide +kernel
theorem dX9_least_48 : decode cX9_least 48 = .ok (.invokevirtual 78, 3) := by decide +kernel
theorem dX9_least_51 : decode cX9_least 51 = .ok (.goto 5, 3) := by decide +kernel
theorem dX9_least_54 : decode cX9_least 54 = .ok (.bipush 9, 2) := by decide +kernel
theorem dX9_least_56 : decode cX9_least 56 = .ok (.istore 5, 2) := by decide +kernel
theorem dX9_least_58 : decode cX9_least 58 = .ok (.iload 5, 2) := by decide +kernel
theorem dX9_least_60 : decode cX9_least 60 = .ok (.iload_n 3, 1) := by decide +kernel
theorem dX9_least_61 : decode cX9_least 61 = .ok (.if_icmp .ge 6, 3) := by decide +kernel
theorem dX9_least_64 : decode cX9_least 64 = .ok (.iload 5, 2) := by decide +kernel
theorem dX9_least_66 : decode cX9_least 66 = .ok (.istore_n 3, 1) := by decide +kernel
theorem dX9_least_67 : decode cX9_least 67 = .ok (.iinc 4 1, 3) := by decide +kernel
theorem dX9_least_70 : decode cX9_least 70 = .ok (.goto (-43), 3) := by decide +kernel
theorem dX9_least_73 : decode cX9_least 73 = .ok (.iload_n 3, 1) := by decide +kernel
theorem dX9_least_74 : decode cX9_least 74 = .ok (.ireturn, 1) := by decide +kernel
set_option maxRecDepth 20000 in
theorem ggX9_fit_X9_isIn : GoodIn wsX9_fit wsX9_isIn := goodIn_r _ [5] (by decide +kernel) (by decide +kernel)
set_option maxRecDepth 20000 in
theorem gX9_fit_X9_isIn : GoodIn wsX9_fit (va_wsS RX9 17 yX9_isIn wsX9_isIn) := goodIn_app (goodIn_of _ (by decide +kernel)) ggX9_fit_X9_isIn
theorem dX9_fit_0 : decode cX9_fit 0 = .ok (.iload_n 1, 1) := by decide +kernel
theorem dX9_fit_1 : decode cX9_fit 1 = .ok (.iconst 1, 1) := by decide +kernel
theorem dX9_fit_2 : decode cX9_fit 2 = .ok (.ldc 71, 2) := by decide +kernel
theorem dX9_fit_4 : decode cX9_fit 4 = .ok (.invokestatic 17, 3) := by decide +kernel
theorem dX9_fit_7 : decode cX9_fit 7 = .ok (.ifCond .eq 62, 3) := by decide +kernel
theorem dX9_fit_10 : decode cX9_fit 10 = .ok (.iload_n 2, 1) := by decide +kernel
theorem dX9_fit_11 : decode cX9_fit 11 = .ok (.iconst 1, 1) := by decide +kernel
theorem dX9_fit_12 : decode cX9_fit 12 = .ok (.sipush 1000, 3) := by decide +kernel
theorem dX9_fit_15 : decode cX9_fit 15 = .ok (.invokestatic 17, 3) := by decide +kernel
theorem dX9_fit_18 : decode cX9_fit 18 = .ok (.ifCond .eq 51, 3) := by decide +kernel
theorem dX9_fit_21 : decode cX9_fit 21 = .ok (.iload_n 3, 1) := by decide +kernel
theorem dX9_fit_22 : decode cX9_fit 22 = .ok (.iconst 1, 1) := by decide +kernel
theorem dX9_fit_23 : decode cX9_fit 23 = .ok (.sipush 200, 3) := by decide +kernel
theorem dX9_fit_26 : decode cX9_fit 26 = .ok (.invokestatic 17, 3) := by decide +kernel
theorem dX9_fit_29 : decode cX9_fit 29 = .ok (.ifCond .eq 40, 3) := by decide +kernel
theorem dX9_fit_32 : decode cX9_fit 32 = .ok (.iload 4, 2) := by decide +kernel
theorem dX9_fit_34 : decode cX9_fit 34 = .ok (.iload_n 3, 1) := by decide +kernel
theorem dX9_fit_35 : decode cX9_fit 35 = .ok (.sipush 200, 3) := by decide +kernel
theorem dX9_fit_38 : decode cX9_fit 38 = .ok (.invokestatic 17, 3) := by decide +kernel
theorem dX9_fit_41 : decode cX9_fit 41 = .ok (.ifCond .eq 28, 3) := by decide +kernel
theorem dX9_fit_44 : decode cX9_fit 44 = .ok (.iload 5, 2) := by decide +kernel
theorem dX9_fit_46 : decode cX9_fit 46 = .ok (.iconst 1, 1) := by decide +kernel
theorem dX9_fit_47 : decode cX9_fit 47 = .ok (.sipush 200, 3) := by decide +kernel
theorem dX9_fit_50 : decode cX9_fit 50 = .ok (.invokestatic 17, 3) := by decide +kernel
theorem dX9_fit_53 : decode cX9_fit 53 = .ok (.ifCond .eq 16, 3) := by decide +kernel
theorem dX9_fit_56 : decode cX9_fit 56 = .ok (.iload 6, 2) := by decide +kernel
theorem dX9_fit_58 : decode cX9_fit 58 = .ok (.iload 5, 2) := by decide +kernel
theorem dX9_fit_60 : decode cX9_fit 60 = .ok (.sipush 200, 3) := by decide +kernel
theorem dX9_fit_63 : decode cX9_fit 63 = .ok (.invokestatic 17, 3) := by decide +kernel
theorem dX9_fit_66 : decode cX9_fit 66 = .ok (.ifCond .ne 5, 3) := by decide +kernel
theorem dX9_fit_69 : decode cX9_fit 69 = .ok (.iconst (-1), 1) := by decide +kernel
theorem dX9_fit_70 : decode cX9_fit 70 = .ok (.ireturn, 1) := by decide +kernel
theorem dX9_fit_71 : decode cX9_fit 71 = .ok (.iconst (-1), 1) := by decide +kernel
theorem dX9_fit_72 : decode cX9_fit 72 = .ok (.istore 7, 2) := by decide +kernel
theorem dX9_fit_74 : decode cX9_fit 74 = .ok (.lconst 0, 1) := by decide +kernel
theorem dX9_fit_75 : decode cX9_fit 75 = .ok (.lstore 8, 2) := by decide +kernel
theorem dX9_fit_77 : decode cX9_fit 77 = .ok (.lconst 1, 1) := by decide +kernel
theorem dX9_fit_78 : decode cX9_fit 78 = .ok (.lstore 10, 2) := by decide +kernel
theorem dX9_fit_80 : decode cX9_fit 80 = .ok (.iload_n 3, 1) := by decide +kernel
theorem dX9_fit_81 : decode cX9_fit 81 = .ok (.istore 12, 2) := by decide +kernel
theorem dX9_fit_83 : decode cX9_fit 83 = .ok (.iload 12, 2) := by decide +kernel
theorem dX9_fit_85 : decode cX9_fit 85 = .ok (.iload 4, 2) := by decide +kernel
theorem dX9_fit_87 : decode cX9_fit 87 = .ok (.if_icmp .gt 103, 3) := by decide +kernel
theorem dX9_fit_90 : decode cX9_fit 90 = .ok (.iload 5, 2) := by decide +kernel
theorem dX9_fit_92 : decode cX9_fit 92 = .ok (.istore 13, 2) := by decide +kernel
theorem dX9_fit_94 : decode cX9_fit 94 = .ok (.iload 13, 2) := by decide +kernel
theorem dX9_fit_96 : decode cX9_fit 96 = .ok (.iload 6, 2) := by decide +kernel
theorem dX9_fit_98 : decode cX9_fit 98 = .ok (.if_icmp .gt 86, 3) := by decide +kernel
theorem dX9_fit_101 : decode cX9_fit 101 = .ok (.iload_n 1, 1) := by decide +kernel
theorem dX9_fit_102 : decode cX9_fit 102 = .ok (.i2l, 1) := by decide +kernel
theorem dX9_fit_103 : decode cX9_fit 103 = .ok (.iload_n 2, 1) := by decide +kernel
theorem dX9_fit_104 : decode cX9_fit 104 = .ok (.i2l, 1) := by decide +kernel
theorem dX9_fit_105 : decode cX9_fit 105 = .ok (.iload 12, 2) := by decide +kernel
theorem dX9_fit_107 : decode cX9_fit 107 = .ok (.i2l, 1) := by decide +kernel
theorem dX9_fit_108 : decode cX9_fit 108 = .ok (.lmul, 1) := by decide +kernel
theorem dX9_fit_109 : decode cX9_fit 109 = .ok (.iload 13, 2) := by decide +kernel
theorem dX9_fit_111 : decode cX9_fit 111 = .ok (.i2l, 1) := by decide +kernel
theorem dX9_fit_112 : decode cX9_fit 112 = .ok (.lmul, 1) := by decide +kernel
theorem dX9_fit_113 : decode cX9_fit 113 = .ok (.lsub, 1) := by decide +kernel
theorem dX9_fit_114 : decode cX9_fit 114 = .ok (.lstore 14, 2) := by decide +kernel
theorem dX9_fit_116 : decode cX9_fit 116 = .ok (.lload 14, 2) := by decide +kernel
theorem dX9_fit_118 : decode cX9_fit 118 = .ok (.lconst 0, 1) := by decide +kernel
theorem dX9_fit_119 : decode cX9_fit 119 = .ok (.lcmp, 1) := by decide +kernel
theorem dX9_fit_120 : decode cX9_fit 120 = .ok (.ifCond .ge 8, 3) := by decide +kernel
theorem dX9_fit_123 : decode cX9_fit 123 = .ok (.lload 14, 2) := by decide +kernel
theorem dX9_fit_125 : decode cX9_fit 125 = .ok (.lneg, 1) := by decide +kernel
theorem dX9_fit_126 : decode cX9_fit 126 = .ok (.lstore 14, 2) := by decide +kernel
theorem dX9_fit_128 : decode cX9_fit 128 = .ok (.iload 7, 2) := by decide +kernel
theorem dX9_fit_130 : decode cX9_fit 130 = .ok (.ifCond .lt 25, 3) := by decide +kernel
theorem dX9_fit_133 : decode cX9_fit 133 = .ok (.lload 14, 2) := by decide +kernel
theorem dX9_fit_135 : decode cX9_fit 135 = .ok (.lload 10, 2) := by decide +kernel
theorem dX9_fit_137 : decode cX9_fit 137 = .ok (.lmul, 1) := by decide +kernel
theorem dX9_fit_138 : decode cX9_fit 138 = .ok (.lload 8, 2) := by decide +kernel
theorem dX9_fit_140 : decode cX9_fit 140 = .ok (.iload 12, 2) := by decide +kernel
theorem dX9_fit_142 : decode cX9_fit 142 = .ok (.i2l, 1) := by decide +kernel
theorem dX9_fit_143 : decode cX9_fit 143 = .ok (.lmul, 1) := by decide +kernel
theorem dX9_fit_144 : decode cX9_fit 144 = .ok (.iload 13, 2) := by decide +kernel
theorem dX9_fit_146 : decode cX9_fit 146 = .ok (.i2l, 1) := by decide +kernel
theorem dX9_fit_147 : decode cX9_fit 147 = .ok (.lmul, 1) := by decide +kernel
theorem dX9_fit_148 : decode cX9_fit 148 = .ok (.lcmp, 1) := by decide +kernel
theorem dX9_fit_149 : decode cX9_fit 149 = .ok (.ifCond .lt 6, 3) := by decide +kernel
theorem dX9_fit_152 : decode cX9_fit 152 = .ok (.goto 26, 3) := by decide +kernel
theorem dX9_fit_155 : decode cX9_fit 155 = .ok (.sipush 1000, 3) := by decide +kernel
theorem dX9_fit_158 : decode cX9_fit 158 = .ok (.iload 12, 2) := by decide +kernel
theorem dX9_fit_160 : decode cX9_fit 160 = .ok (.imul, 1) := by decide +kernel
theorem dX9_fit_161 : decode cX9_fit 161 = .ok (.iload 13, 2) := by decide +kernel
theorem dX9_fit_163 : decode cX9_fit 163 = .ok (.iadd, 1) := by decide +kernel
theorem dX9_fit_164 : decode cX9_fit 164 = .ok (.istore 7, 2) := by decide +kernel
theorem dX9_fit_166 : decode cX9_fit 166 = .ok (.lload 14, 2) := by decide +kernel
theorem dX9_fit_168 : decode cX9_fit 168 = .ok (.lstore 8, 2) := by decide +kernel
theorem dX9_fit_170 : decode cX9_fit 170 = .ok (.iload 12, 2) := by decide +kernel
theorem dX9_fit_172 : decode cX9_fit 172 = .ok (.iload 13, 2) := by decide +kernel
theorem dX9_fit_174 : decode cX9_fit 174 = .ok (.imul, 1) := by decide +kernel
theorem dX9_fit_175 : decode cX9_fit 175 = .ok (.i2l, 1) := by decide +kernel
theorem dX9_fit_176 : decode cX9_fit 176 = .ok (.lstore 10, 2) := by decide +kernel
theorem dX9_fit_178 : decode cX9_fit 178 = .ok (.iinc 13 1, 3) := by decide +kernel
theorem dX9_fit_181 : decode cX9_fit 181 = .ok (.goto (-87), 3) := by decide +kernel
theorem dX9_fit_184 : decode cX9_fit 184 = .ok (.iinc 12 1, 3) := by decide +kernel
theorem dX9_fit_187 : decode cX9_fit 187 = .ok (.goto (-104), 3) := by decide +kernel
theorem dX9_fit_190 : decode cX9_fit 190 = .ok (.iload 7, 2) := by decide +kernel
theorem dX9_fit_192 : decode cX9_fit 192 = .ok (.ireturn, 1) := by decide +kernel
end
section
set_option maxRecDepth 20000 in
theorem ggX9_image_X9_isIn : GoodIn wsX9_image wsX9_isIn := goodIn_r _ [6] (by decide +kernel) (by decide +kernel)
set_option maxRecDepth 20000 in
theorem gX9_image_X9_isIn : GoodIn wsX9_image (va_wsS RX9 17 yX9_isIn wsX9_isIn) := goodIn_app (goodIn_of _ (by decide +kernel)) ggX9_image_X9_isIn
theorem dX9_image_0 : decode cX9_image 0 = .ok (.iload_n 1, 1) := by decide +kernel
theorem dX9_image_1 : decode cX9_image 1 = .ok (.iconst 0, 1) := by decide +kernel
theorem dX9_image_2 : decode cX9_image 2 = .ok (.iconst 2, 1) := by decide +kernel
theorem dX9_image_3 : decode cX9_image 3 = .ok (.invokestatic 17, 3) := by decide +kernel
theorem dX9_image_6 : decode cX9_image 6 = .ok (.ifCond .ne 5, 3) := by decide +kernel
theorem dX9_image_9 : decode cX9_image 9 = .ok (.iconst 0, 1) := by decide +kernel
theorem dX9_image_10 : decode cX9_image 10 = .ok (.ireturn, 1) := by decide +kernel
theorem dX9_image_11 : decode cX9_image 11 = .ok (.aload_n 0, 1) := by decide +kernel
theorem dX9_image_12 : decode cX9_image 12 = .ok (.getfield 13, 3) := by decide +kernel
theorem dX9_image_15 : decode cX9_image 15 = .ok (.iload_n 1, 1) := by decide +kernel
theorem dX9_image_16 : decode cX9_image 16 = .ok (.iconst 1, 1) := by decide +kernel
theorem dX9_image_17 : decode cX9_image 17 = .ok (.bastore, 1) := by decide +kernel
theorem dX9_image_18 : decode cX9_image 18 = .ok (.iconst 0, 1) := by decide +kernel
theorem dX9_image_19 : decode cX9_image 19 = .ok (.istore_n 2, 1) := by decide +kernel
theorem dX9_image_20 : decode cX9_image 20 = .ok (.iload_n 2, 1) := by decide +kernel
theorem dX9_image_21 : decode cX9_image 21 = .ok (.sipush 5880, 3) := by decide +kernel
theorem dX9_image_24 : decode cX9_image 24 = .ok (.if_icmp .ge 29, 3) := by decide +kernel
theorem dX9_image_27 : decode cX9_image 27 = .ok (.aload_n 0, 1) := by decide +kernel
theorem dX9_image_28 : decode cX9_image 28 = .ok (.getfield 7, 3) := by decide +kernel
theorem dX9_image_31 : decode cX9_image 31 = .ok (.sipush 5880, 3) := by decide +kernel
theorem dX9_image_34 : decode cX9_image 34 = .ok (.iload_n 1, 1) := by decide +kernel
theorem dX9_image_35 : decode cX9_image 35 = .ok (.iconst 1, 1) := by decide +kernel
theorem dX9_image_36 : decode cX9_image 36 = .ok (.iadd, 1) := by decide +kernel
theorem dX9_image_37 : decode cX9_image 37 = .ok (.imul, 1) := by decide +kernel
theorem dX9_image_38 : decode cX9_image 38 = .ok (.iload_n 2, 1) := by decide +kernel
theorem dX9_image_39 : decode cX9_image 39 = .ok (.iadd, 1) := by decide +kernel
theorem dX9_image_40 : decode cX9_image 40 = .ok (.aload_n 0, 1) := by decide +kernel
theorem dX9_image_41 : decode cX9_image 41 = .ok (.getfield 7, 3) := by decide +kernel
theorem dX9_image_44 : decode cX9_image 44 = .ok (.iload_n 2, 1) := by decide +kernel
theorem dX9_image_45 : decode cX9_image 45 = .ok (.iaload, 1) := by decide +kernel
theorem dX9_image_46 : decode cX9_image 46 = .ok (.iastore, 1) := by decide +kernel
theorem dX9_image_47 : decode cX9_image 47 = .ok (.iinc 2 1, 3) := by decide +kernel
theorem dX9_image_50 : decode cX9_image 50 = .ok (.goto (-30), 3) := by decide +kernel
theorem dX9_image_53 : decode cX9_image 53 = .ok (.iconst 1, 1) := by decide +kernel
theorem dX9_image_54 : decode cX9_image 54 = .ok (.ireturn, 1) := by decide +kernel
set_option maxRecDepth 20000 in
theorem ggX9_again_X9_isIn : GoodIn wsX9_again wsX9_isIn := goodIn_r _ [6] (by decide +kernel) (by decide +kernel)
set_option maxRecDepth 20000 in
theorem gX9_again_X9_isIn : GoodIn wsX9_again (va_wsS RX9 17 yX9_isIn wsX9_isIn) := goodIn_app (goodIn_of _ (by decide +kernel)) ggX9_again_X9_isIn
theorem dX9_again_0 : decode cX9_again 0 = .ok (.iload_n 1, 1) := by decide +kernel
theorem dX9_again_1 : decode cX9_again 1 = .ok (.iconst 0, 1) := by decide +kernel
theorem dX9_again_2 : decode cX9_again 2 = .ok (.iconst 2, 1) := by decide +kernel
theorem dX9_again_3 : decode cX9_again 3 = .ok (.invokestatic 17, 3) := by decide +kernel
theorem dX9_again_6 : decode cX9_again 6 = .ok (.ifCond .eq 12, 3) := by decide +kernel
theorem dX9_again_9 : decode cX9_again 9 = .ok (.aload_n 0, 1) := by decide +kernel
theorem dX9_again_10 : decode cX9_again 10 = .ok (.getfield 13, 3) := by decide +kernel
theorem dX9_again_13 : decode cX9_again 13 = .ok (.iload_n 1, 1) := by decide +kernel
theorem dX9_again_14 : decode cX9_again 14 = .ok (.baload, 1) := by decide +kernel
theorem dX9_again_15 : decode cX9_again 15 = .ok (.ifCond .ne 5, 3) := by decide +kernel
theorem dX9_again_18 : decode cX9_again 18 = .ok (.iconst 0, 1) := by decide +kernel
theorem dX9_again_19 : decode cX9_again 19 = .ok (.ireturn, 1) := by decide +kernel
theorem dX9_again_20 : decode cX9_again 20 = .ok (.iconst 0, 1) := by decide +kernel
theorem dX9_again_21 : decode cX9_again 21 = .ok (.istore_n 2, 1) := by decide +kernel
theorem dX9_again_22 : decode cX9_again 22 = .ok (.iload_n 2, 1) := by decide +kernel
theorem dX9_again_23 : decode cX9_again 23 = .ok (.sipush 5880, 3) := by decide +kernel
theorem dX9_again_26 : decode cX9_again 26 = .ok (.if_icmp .ge 29, 3) := by decide +kernel
theorem dX9_again_29 : decode cX9_again 29 = .ok (.aload_n 0, 1) := by decide +kernel
theorem dX9_again_30 : decode cX9_again 30 = .ok (.getfield 7, 3) := by decide +kernel
theorem dX9_again_33 : decode cX9_again 33 = .ok (.iload_n 2, 1) := by decide +kernel
theorem dX9_again_34 : decode cX9_again 34 = .ok (.aload_n 0, 1) := by decide +kernel
theorem dX9_again_35 : decode cX9_again 35 = .ok (.getfield 7, 3) := by decide +kernel
theorem dX9_again_38 : decode cX9_again 38 = .ok (.sipush 5880, 3) := by decide +kernel
theorem dX9_again_41 : decode cX9_again 41 = .ok (.iload_n 1, 1) := by decide +kernel
theorem dX9_again_42 : decode cX9_again 42 = .ok (.iconst 1, 1) := by decide +kernel
theorem dX9_again_43 : decode cX9_again 43 = .ok (.iadd, 1) := by decide +kernel
theorem dX9_again_44 : decode cX9_again 44 = .ok (.imul, 1) := by decide +kernel
theorem dX9_again_45 : decode cX9_again 45 = .ok (.iload_n 2, 1) := by decide +kernel
theorem dX9_again_46 : decode cX9_again 46 = .ok (.iadd, 1) := by decide +kernel
theorem dX9_again_47 : decode cX9_again 47 = .ok (.iaload, 1) := by decide +kernel
theorem dX9_again_48 : decode cX9_again 48 = .ok (.iastore, 1) := by decide +kernel
theorem dX9_again_49 : decode cX9_again 49 = .ok (.iinc 2 1, 3) := by decide +kernel
theorem dX9_again_52 : decode cX9_again 52 = .ok (.goto (-30), 3) := by decide +kernel
theorem dX9_again_55 : decode cX9_again 55 = .ok (.iconst 1, 1) := by decide +kernel
theorem dX9_again_56 : decode cX9_again 56 = .ok (.ireturn, 1) := by decide +kernel
theorem dJ6_bitCount_0f7a4_0 : decode cJ6_bitCount_0f7a4 0 = .ok (.iload_n 0, 1) := by decide +kernel
theorem dJ6_bitCount_0f7a4_1 : decode cJ6_bitCount_0f7a4 1 = .ok (.iload_n 0, 1) := by decide +kernel
theorem dJ6_bitCount_0f7a4_2 : decode cJ6_bitCount_0f7a4 2 = .ok (.iconst 1, 1) := by decide +kernel
theorem dJ6_bitCount_0f7a4_3 : decode cJ6_bitCount_0f7a4 3 = .ok (.iushr, 1) := by decide +kernel
theorem dJ6_bitCount_0f7a4_4 : decode cJ6_bitCount_0f7a4 4 = .ok (.ldc_w 265, 3) := by decide +kernel
theorem dJ6_bitCount_0f7a4_7 : decode cJ6_bitCount_0f7a4 7 = .ok (.iand, 1) := by decide +kernel
theorem dJ6_bitCount_0f7a4_8 : decode cJ6_bitCount_0f7a4 8 = .ok (.isub, 1) := by decide +kernel
theorem dJ6_bitCount_0f7a4_9 : decode cJ6_bitCount_0f7a4 9 = .ok (.istore_n 0, 1) := by decide +kernel
theorem dJ6_bitCount_0f7a4_10 : decode cJ6_bitCount_0f7a4 10 = .ok (.iload_n 0, 1) := by decide +kernel
theorem dJ6_bitCount_0f7a4_11 : decode cJ6_bitCount_0f7a4 11 = .ok (.ldc_w 266, 3) := by decide +kernel
theorem dJ6_bitCount_0f7a4_14 : decode cJ6_bitCount_0f7a4 14 = .ok (.iand, 1) := by decide +kernel
theorem dJ6_bitCount_0f7a4_15 : decode cJ6_bitCount_0f7a4 15 = .ok (.iload_n 0, 1) := by decide +kernel
theorem dJ6_bitCount_0f7a4_16 : decode cJ6_bitCount_0f7a4 16 = .ok (.iconst 2, 1) := by decide +kernel
theorem dJ6_bitCount_0f7a4_17 : decode cJ6_bitCount_0f7a4 17 = .ok (.iushr, 1) := by decide +kernel
theorem dJ6_bitCount_0f7a4_18 : decode cJ6_bitCount_0f7a4 18 = .ok (.ldc_w 266, 3) := by decide +kernel
theorem dJ6_bitCount_0f7a4_21 : decode cJ6_bitCount_0f7a4 21 = .ok (.iand, 1) := by decide +kernel
theorem dJ6_bitCount_0f7a4_22 : decode cJ6_bitCount_0f7a4 22 = .ok (.iadd, 1) := by decide +kernel
theorem dJ6_bitCount_0f7a4_23 : decode cJ6_bitCount_0f7a4 23 = .ok (.istore_n 0, 1) := by decide +kernel
theorem dJ6_bitCount_0f7a4_24 : decode cJ6_bitCount_0f7a4 24 = .ok (.iload_n 0, 1) := by decide +kernel
theorem dJ6_bitCount_0f7a4_25 : decode cJ6_bitCount_0f7a4 25 = .ok (.iload_n 0, 1) := by decide +kernel
theorem dJ6_bitCount_0f7a4_26 : decode cJ6_bitCount_0f7a4 26 = .ok (.iconst 4, 1) := by decide +kernel
theorem dJ6_bitCount_0f7a4_27 : decode cJ6_bitCount_0f7a4 27 = .ok (.iushr, 1) := by decide +kernel
theorem dJ6_bitCount_0f7a4_28 : decode cJ6_bitCount_0f7a4 28 = .ok (.iadd, 1) := by decide +kernel
theorem dJ6_bitCount_0f7a4_29 : decode cJ6_bitCount_0f7a4 29 = .ok (.ldc_w 267, 3) := by decide +kernel
theorem dJ6_bitCount_0f7a4_32 : decode cJ6_bitCount_0f7a4 32 = .ok (.iand, 1) := by decide +kernel
theorem dJ6_bitCount_0f7a4_33 : decode cJ6_bitCount_0f7a4 33 = .ok (.istore_n 0, 1) := by decide +kernel
theorem dJ6_bitCount_0f7a4_34 : decode cJ6_bitCount_0f7a4 34 = .ok (.iload_n 0, 1) := by decide +kernel
theorem dJ6_bitCount_0f7a4_35 : decode cJ6_bitCount_0f7a4 35 = .ok (.iload_n 0, 1) := by decide +kernel
theorem dJ6_bitCount_0f7a4_36 : decode cJ6_bitCount_0f7a4 36 = .ok (.bipush 8, 2) := by decide +kernel
theorem dJ6_bitCount_0f7a4_38 : decode cJ6_bitCount_0f7a4 38 = .ok (.iushr, 1) := by decide +kernel
theorem dJ6_bitCount_0f7a4_39 : decode cJ6_bitCount_0f7a4 39 = .ok (.iadd, 1) := by decide +kernel
theorem dJ6_bitCount_0f7a4_40 : decode cJ6_bitCount_0f7a4 40 = .ok (.istore_n 0, 1) := by decide +kernel
theorem dJ6_bitCount_0f7a4_41 : decode cJ6_bitCount_0f7a4 41 = .ok (.iload_n 0, 1) := by decide +kernel
theorem dJ6_bitCount_0f7a4_42 : decode cJ6_bitCount_0f7a4 42 = .ok (.iload_n 0, 1) := by decide +kernel
theorem dJ6_bitCount_0f7a4_43 : decode cJ6_bitCount_0f7a4 43 = .ok (.bipush 16, 2) := by decide +kernel
theorem dJ6_bitCount_0f7a4_45 : decode cJ6_bitCount_0f7a4 45 = .ok (.iushr, 1) := by decide +kernel
theorem dJ6_bitCount_0f7a4_46 : decode cJ6_bitCount_0f7a4 46 = .ok (.iadd, 1) := by decide +kernel
theorem dJ6_bitCount_0f7a4_47 : decode cJ6_bitCount_0f7a4 47 = .ok (.istore_n 0, 1) := by decide +kernel
theorem dJ6_bitCount_0f7a4_48 : decode cJ6_bitCount_0f7a4 48 = .ok (.iload_n 0, 1) := by decide +kernel
theorem dJ6_bitCount_0f7a4_49 : decode cJ6_bitCount_0f7a4 49 = .ok (.bipush 63, 2) := by decide +kernel
theorem dJ6_bitCount_0f7a4_51 : decode cJ6_bitCount_0f7a4 51 = .ok (.iand, 1) := by decide +kernel
theorem dJ6_bitCount_0f7a4_52 : decode cJ6_bitCount_0f7a4 52 = .ok (.ireturn, 1) := by decide +kernel
theorem dJ9_abs_067f4_0 : decode cJ9_abs_067f4 0 = .ok (.lload_n 0, 1) := by decide +kernel
theorem dJ9_abs_067f4_1 : decode cJ9_abs_067f4 1 = .ok (.lconst 0, 1) := by decide +kernel
theorem dJ9_abs_067f4_2 : decode cJ9_abs_067f4 2 = .ok (.lcmp, 1) := by decide +kernel
theorem dJ9_abs_067f4_3 : decode cJ9_abs_067f4 3 = .ok (.ifCond .ge 8, 3) := by decide +kernel
theorem dJ9_abs_067f4_6 : decode cJ9_abs_067f4 6 = .ok (.lload_n 0, 1) := by decide +kernel
theorem dJ9_abs_067f4_7 : decode cJ9_abs_067f4 7 = .ok (.lneg, 1) := by decide +kernel
theorem dJ9_abs_067f4_8 : decode cJ9_abs_067f4 8 = .ok (.goto 4, 3) := by decide +kernel
theorem dJ9_abs_067f4_11 : decode cJ9_abs_067f4 11 = .ok (.lload_n 0, 1) := by decide +kernel
theorem dJ9_abs_067f4_12 : decode cJ9_abs_067f4 12 = .ok (.lreturn, 1) := by decide +kernel
theorem dJ9_max_7cf53_0 : decode cJ9_max_7cf53 0 = .ok (.iload_n 0, 1) := by decide +kernel
theorem dJ9_max_7cf53_1 : decode cJ9_max_7cf53 1 = .ok (.iload_n 1, 1) := by decide +kernel
theorem dJ9_max_7cf53_2 : decode cJ9_max_7cf53 2 = .ok (.if_icmp .lt 7, 3) := by decide +kernel
theorem dJ9_max_7cf53_5 : decode cJ9_max_7cf53 5 = .ok (.iload_n 0, 1) := by decide +kernel
theorem dJ9_max_7cf53_6 : decode cJ9_max_7cf53 6 = .ok (.goto 4, 3) := by decide +kernel
theorem dJ9_max_7cf53_9 : decode cJ9_max_7cf53 9 = .ok (.iload_n 1, 1) := by decide +kernel
theorem dJ9_max_7cf53_10 : decode cJ9_max_7cf53 10 = .ok (.ireturn, 1) := by decide +kernel
theorem dJ9_min_7cf53_0 : decode cJ9_min_7cf53 0 = .ok (.iload_n 0, 1) := by decide +kernel
theorem dJ9_min_7cf53_1 : decode cJ9_min_7cf53 1 = .ok (.iload_n 1, 1) := by decide +kernel
theorem dJ9_min_7cf53_2 : decode cJ9_min_7cf53 2 = .ok (.if_icmp .gt 7, 3) := by decide +kernel
theorem dJ9_min_7cf53_5 : decode cJ9_min_7cf53 5 = .ok (.iload_n 0, 1) := by decide +kernel
theorem dJ9_min_7cf53_6 : decode cJ9_min_7cf53 6 = .ok (.goto 4, 3) := by decide +kernel
theorem dJ9_min_7cf53_9 : decode cJ9_min_7cf53 9 = .ok (.iload_n 1, 1) := by decide +kernel
theorem dJ9_min_7cf53_10 : decode cJ9_min_7cf53 10 = .ok (.ireturn, 1) := by decide +kernel
theorem dJ7_fill_53178_0 : decode cJ7_fill_53178 0 = .ok (.iconst 0, 1) := by decide +kernel
theorem dJ7_fill_53178_1 : decode cJ7_fill_53178 1 = .ok (.istore_n 2, 1) := by decide +kernel
theorem dJ7_fill_53178_2 : decode cJ7_fill_53178 2 = .ok (.aload_n 0, 1) := by decide +kernel
theorem dJ7_fill_53178_3 : decode cJ7_fill_53178 3 = .ok (.arraylength, 1) := by decide +kernel
theorem dJ7_fill_53178_4 : decode cJ7_fill_53178 4 = .ok (.istore_n 3, 1) := by decide +kernel
theorem dJ7_fill_53178_5 : decode cJ7_fill_53178 5 = .ok (.iload_n 2, 1) := by decide +kernel
theorem dJ7_fill_53178_6 : decode cJ7_fill_53178 6 = .ok (.iload_n 3, 1) := by decide +kernel
theorem dJ7_fill_53178_7 : decode cJ7_fill_53178 7 = .ok (.if_icmp .ge 13, 3) := by decide +kernel
theorem dJ7_fill_53178_10 : decode cJ7_fill_53178 10 = .ok (.aload_n 0, 1) := by decide +kernel
theorem dJ7_fill_53178_11 : decode cJ7_fill_53178 11 = .ok (.iload_n 2, 1) := by decide +kernel
theorem dJ7_fill_53178_12 : decode cJ7_fill_53178 12 = .ok (.iload_n 1, 1) := by decide +kernel
theorem dJ7_fill_53178_13 : decode cJ7_fill_53178 13 = .ok (.iastore, 1) := by decide +kernel
theorem dJ7_fill_53178_14 : decode cJ7_fill_53178 14 = .ok (.iinc 2 1, 3) := by decide +kernel
theorem dJ7_fill_53178_17 : decode cJ7_fill_53178 17 = .ok (.goto (-12), 3) := by decide +kernel
theorem dJ7_fill_53178_20 : decode cJ7_fill_53178 20 = .ok (.return_, 1) := by decide +kernel
abbrev vwCl : List vw_C := [(RX0, TX0, 7), (RX1, TX1, 5), (RX2, TX2, 11), (RX3, TX3, 12), (RX4, TX4, 3), (RX5, TX5, 1), (RX6, TX6, 4), (RX7, TX7, 5), (RX8, TX8, 2), (RX9, TX9, 2)]
end
section
abbrev ST : Type := Nat → Nat → Int32
def x_sh {α : Type} (f : Nat → α) (k : Nat) : Nat → α := fun i => f (k + i)
def x_wb (M : ST) (k n : Nat) (u : ST) : ST := fun i => if i < k then M i else if i < k + n then u (i - k) else M i
def x_st (M : ST) (i k : Nat) (v : Int32) : ST := fun j => if j = i then upd (M i) k v else M j
def x_hi (j : Nat) : Int32 := if j = 0 then 1023 else if j = 1 then 64 else if j = 2 then 7 else 255
abbrev x_ty (cT : Nat → ClassId) : List (ClassId × FieldType) := [(cT 0, .int), (cT 1, .boolean), (cT 2, .object RX3)]
/-- the tables' words on nest mates, and the static row of highest values: where it lies nothing is written -/
def x_N (A : Nat → Prop) (U : State) : Prop :=
  (va_Nw (.methodLinkNest RX3 11 yX0_init RX8) U ∧ va_Nw (.methodLinkNest RX0 11 yX4_init RX8) U ∧ va_Nw (.methodLinkNest RX3 20 yX2_init RX8) U ∧ va_Nw (.methodLinkNest RX3 27 yX5_init RX8) U ∧ va_Nw (.methodLinkNest RX3 34 yX1_init RX8) U ∧ va_Nw (.methodLinkNest RX3 41 yX7_init RX8) U ∧ va_Nw (.fieldLinkNest RX5 15 RX8 "HIGHEST_OF_REGISTER" "[I" RX8) U ∧ va_Nw (.methodLinkNest RX5 18 yX8_within RX8) U ∧ va_Nw (.methodLinkNest RX3 152 yX8_bytesOfLine RX8) U ∧ va_Nw (.methodLinkNest RX3 186 yX8_placeOf RX8) U ∧ va_Nw (.methodLinkNest RX7 45 yX8_within RX8) U) ∧ va_AO RX3 U ∧
  ∃ tb : Nat, va_Z RX8 "HIGHEST_OF_REGISTER" "[I" (.ref tb) A U U.heap ∧ va_T .int tb 5 (fun j => .int (x_hi j)) A U U.heap
/-- at another state that the same tables hold, whose heap is the same where nothing is written -/
theorem x_N.at {A B : Nat → Prop} {s U : State} (h : x_N A s) (hW : s.WarmedH U.vm) (hk : ∀ q : Nat, q < s.heap.size → ¬ A q → U.heap[q]? = s.heap[q]?) (hAB : ∀ q, B q → A q) : x_N B U := by
  obtain ⟨⟨h1, h2, h3, h4, h5, h6, h7, h8, h9, h10, h11⟩, hO, tb, hz, ht⟩ := h
  exact ⟨⟨va_Nw.warmM hW h1, va_Nw.warmM hW h2, va_Nw.warmM hW h3, va_Nw.warmM hW h4, va_Nw.warmM hW h5, va_Nw.warmM hW h6, va_Nw.warmF hW h7, va_Nw.warmM hW h8, va_Nw.warmM hW h9, va_Nw.warmM hW h10, va_Nw.warmM hW h11⟩, hO.moved hW.alike, tb, ((hz.kept hk).narrow hAB).moved hW.alike, ((ht.kept hk).narrow hAB).moved hW.alike⟩
theorem x_N.blind {A : Nat → Prop} {U : State} {g : JFrame} {mk : MethodId} {a : Array Value} (h : x_N A U) : x_N A (U.calling g mk a) := by
  obtain ⟨⟨h1, h2, h3, h4, h5, h6, h7, h8, h9, h10, h11⟩, hO, tb, hz, ht⟩ := h
  have e : U.vm = (U.calling g mk a).vm := rfl
  exact ⟨⟨va_Nw.same rfl e h1, va_Nw.same rfl e h2, va_Nw.same rfl e h3, va_Nw.same rfl e h4, va_Nw.same rfl e h5, va_Nw.same rfl e h6, va_Nw.same rfl e h7, va_Nw.same rfl e h8, va_Nw.same rfl e h9, va_Nw.same rfl e h10, va_Nw.same rfl e h11⟩, hO.moved (Vm.Alike.refl U.vm), tb, hz.moved (U := U.calling g mk a) (Vm.Alike.refl U.vm), ht.moved (U := U.calling g mk a) (Vm.Alike.refl U.vm)⟩
/-- a contract's start: of a method that writes; of one that reads -/
def x_U (D : va_G) (cT : Nat → ClassId) (ws : va_W) (sz : Nat) (U : State) : Prop := U.heap.size = sz ∧ va_P D vwCl ws U.heap ∧ va_K D vwCl (x_ty cT) U ∧ va_D (fun _ => True) ws ∧ x_N (va_A ws sz) U
def x_R (D : va_G) (cT : Nat → ClassId) (ws : va_W) (U : State) : Prop := va_P D vwCl ws U.heap ∧ va_K D vwCl (x_ty cT) U ∧ x_N (fun _ => False) U
def x_B (D : va_G) (cT : Nat → ClassId) (ws : va_W) (A : Nat → Prop) (t : State) : Prop := va_P D vwCl ws t.heap ∧ va_K D vwCl (x_ty cT) t ∧ va_D A ws
theorem x_U.blind {av : List Value} {D : va_G} {cT : Nat → ClassId} {ws : va_W} {sz : Nat} : FrameBlind (va_Pc av (x_U D cT ws sz)) := fun a U g mk q => by
  obtain ⟨q0, q1, qP, qK, qD, qN⟩ := q
  exact ⟨q0, q1, qP, va_K.moved (u := U) (U := U.calling g mk a) (Vm.Alike.refl U.vm) qK, qD, qN.blind⟩
theorem x_R.blind {av : List Value} {D : va_G} {cT : Nat → ClassId} {ws : va_W} : FrameBlind (va_Pc av (x_R D cT ws)) := fun a U g mk q => by
  obtain ⟨q0, qP, qK, qN⟩ := q
  exact ⟨q0, qP, va_K.moved (u := U) (U := U.calling g mk a) (Vm.Alike.refl U.vm) qK, qN.blind⟩
def x_pk (ws : va_W) (is : List Nat) : va_W := is.filterMap (fun i => ws[i]?)
theorem x_P_D_sub {A : Nat → Prop} {D : va_G} {ws wn : va_W} {H : Heap} (hP : va_P D vwCl ws H) (hD : va_D A ws) (is : List Nat) (hn : va_nd is = true) (hs : is.map (fun i => ws[i]?) = wn.map some) : va_P D vwCl wn H ∧ va_D A wn := by
  refine ⟨fun k q hk => ?_, hD.sub is hn hs⟩
  have h1 : (is.map (fun i => ws[i]?))[k]? = some (some q) := by rw [hs, List.getElem?_map, hk]; rfl
  rw [List.getElem?_map] at h1
  cases hi : is[k]? with
  | none => rw [hi] at h1; cases h1
  | some i => rw [hi] at h1; exact hP i q (Option.some.inj h1)
section XC
variable {p : Program} {l : Launch} {e : Env} {R : Room} {s : State} {m : MethodId} {args : Array Value} {below : List Frame} {meth : Method} {c : Code} {H : Heap} {locs : List Loc} {cells slots : Nat} {Q : State → Prop}
variable {y : MethodName} {bytes cc : ByteArray} {maxL nL n index : Nat} {ret : Option FieldType} {wsy : List Cond} {rm : Room} {Ts : List Cond} {own C : String} {b : Addr} {As rest st0 : List Value} {pc : Nat} {ls : Array Slot}
variable {D : va_G} {cT : Nat → ClassId} {ws wc : va_W} {wf wn : ST → va_W} {A : Nat → Prop} {T : u_T} {N : Nat} {fs : List Value} {host : String}
/-- a call of a reader of an object -/
theorem x_rV {post : Int32 → Prop} (S : CallFix p m c cc nL s args Ts own) (hM : Met l y wsy rm (va_Pc (.ref b :: As) (x_R D cT wc)) (vp_Si post) 0 0 (fun _ => False)) (cw : CallW R s args own C index y bytes maxL ret wsy rm 0 0 n)
    (hK : va_K D vwCl (x_ty cT) s) (hP : va_P D vwCl ws H) (hS : va_S A s.heap H locs) (hN : x_N A s) (isC : List Nat) (hC : isC.filterMap (fun i => ws[i]?) = wc) (ci q0 : Nat) (hc : vwCl[ci]? = some (C, T, N)) (he : wc[q0]? = some (b, .inr (ci, fs)))
    (hn : As.length = n) (hsize : ls.size = nL) (hstack : st0 = As.reverse ++ .ref b :: rest) (hW : (rest.map fun v => v.category).sum ≤ 8) (hdg : decode cc pc = .ok (.invokevirtual index, 3)) (hf : cells ≤ R.cells ∧ slots ≤ R.slots)
    (kk : ∀ r : Int32, post r → W p l e R s m args below meth c H locs cells slots Q (F0 m (pc + 3) ls (.int r :: rest))) : W p l e R s m args below meth c H locs cells slots Q (F0 m pc ls st0) := by
  have hPc : va_P D vwCl wc H := hP.sub isC hC
  exact vp_callSi (va_Run.run (va_runV S hM cw ⟨x_R.blind, va_recv hK hPc (q := (C, T, N)) (ci := ci) (q0 := q0) hc he, fun U hU hW2 => ⟨rfl, by rw [hU]; exact hPc, va_K.moved hW2.alike hK, hN.at hW2 (fun q h1 h2 => by rw [hU]; exact hS.2.1 q h1 h2) (fun _ h => h.elim)⟩⟩ rfl hn hsize hstack (lv_room (m := m) (pc := pc) (ls := ls) (rest := st0) hW) hdg hf)) kk
/-- a call of a static reader -/
theorem x_rS {post : Int32 → Prop} (S : CallFix p m c cc nL s args Ts own) (hM : Met l y wsy rm (va_Pc As (x_R D cT [])) (vp_Si post) 0 0 (fun _ => False)) (cw : CallB R s args own index y bytes maxL ret wsy rm 0 0 n ∧ (Cond.static y).before args s = true)
    (hK : va_K D vwCl (x_ty cT) s) (hS : va_S A s.heap H locs) (hN : x_N A s)
    (hn : As.length = n) (hsize : ls.size = nL) (hstack : st0 = As.reverse ++ rest) (hW : (rest.map fun v => v.category).sum ≤ 8) (hdg : decode cc pc = .ok (.invokestatic index, 3)) (hf : cells ≤ R.cells ∧ slots ≤ R.slots)
    (kk : ∀ r : Int32, post r → W p l e R s m args below meth c H locs cells slots Q (F0 m (pc + 3) ls (.int r :: rest))) : W p l e R s m args below meth c H locs cells slots Q (F0 m pc ls st0) := by
  exact vp_callSi (va_Run.run (va_runS S hM cw ⟨x_R.blind, fun U hU hW2 => ⟨rfl, fun k q h => by simp at h, va_K.moved hW2.alike hK, hN.at hW2 (fun q h1 h2 => by rw [hU]; exact hS.2.1 q h1 h2) (fun _ h => h.elim)⟩⟩ rfl hn hsize hstack (lv_room (m := m) (pc := pc) (ls := ls) (rest := st0) hW) hdg hf)) kk
/-- a call of a static reader of a nest mate -/
theorem x_rN {post : Int32 → Prop} (S : CallFix p m c cc nL s args Ts own) (hM : Met l y wsy rm (va_Pc As (x_R D cT [])) (vp_Si post) 0 0 (fun _ => False)) (cw : va_CN R s args own index y host bytes maxL ret wsy rm 0 0 n ∧ (Cond.static y).before args s = true ∧ True)
    (hK : va_K D vwCl (x_ty cT) s) (hS : va_S A s.heap H locs) (hN : x_N A s)
    (hn : As.length = n) (hsize : ls.size = nL) (hstack : st0 = As.reverse ++ rest) (hW : (rest.map fun v => v.category).sum ≤ 8) (hdg : decode cc pc = .ok (.invokestatic index, 3)) (hf : cells ≤ R.cells ∧ slots ≤ R.slots)
    (kk : ∀ r : Int32, post r → W p l e R s m args below meth c H locs cells slots Q (F0 m (pc + 3) ls (.int r :: rest))) : W p l e R s m args below meth c H locs cells slots Q (F0 m pc ls st0) := by
  exact vp_callSi (va_Run.run (va_runSN S hM cw ⟨x_R.blind, fun U hU hW2 => ⟨rfl, fun k q h => by simp at h, va_K.moved hW2.alike hK, hN.at hW2 (fun q h1 h2 => by rw [hU]; exact hS.2.1 q h1 h2) (fun _ h => h.elim)⟩⟩ rfl hn hsize hstack (lv_room (m := m) (pc := pc) (ls := ls) (rest := st0) hW) hdg hf)) kk
/-- a call of a method that writes, and answers an int -/
theorem x_cVi {post : Int32 → ST → Prop} (S : CallFix p m c cc nL s args Ts own) (hM : Met l y wsy rm (va_Pc (.ref b :: As) (x_U D cT wc H.size)) (va_Qi post (fun u t => x_B D cT (wf u) (va_A wc H.size) t) (va_A wc H.size)) 0 0 (va_A wc H.size)) (cw : CallW R s args own C index y bytes maxL ret wsy rm 0 0 n)
    (hK : va_K D vwCl (x_ty cT) s) (hP : va_P D vwCl ws H) (hD : va_D A ws) (hS : va_S A s.heap H locs) (hA : ∀ q, s.heap.size ≤ q → A q) (hN : x_N A s) (isC isR isF : List Nat) (hC : isC.map (fun i => ws[i]?) = wc.map some) (hR : isR.map (fun i => ws[i]?) = (x_pk ws isR).map some) (hF : ∀ u, isF.map (fun i => (x_pk ws isR ++ wf u)[i]?) = (wn u).map some) (hnC : va_nd isC = true) (hnR : va_nd isR = true) (hnF : va_nd isF = true) (hdis : ∀ i ∈ isR, i ∉ isC)
    (ci q0 : Nat) (hc : vwCl[ci]? = some (C, T, N)) (he : wc[q0]? = some (b, .inr (ci, fs)))
    (hn : As.length = n) (hsize : ls.size = nL) (hstack : st0 = As.reverse ++ .ref b :: rest) (hW : (rest.map fun v => v.category).sum ≤ 8) (hdg : decode cc pc = .ok (.invokevirtual index, 3)) (hf : cells ≤ R.cells ∧ slots ≤ R.slots)
    (kk : ∀ (r : Int32) (u : ST) (H1 : Heap) (locs1 : List Loc), post r u → va_P D vwCl (wn u) H1 → va_D A (wn u) → va_S A s.heap H1 locs1 → W p l e R s m args below meth c H1 locs1 cells slots Q (F0 m (pc + 3) ls (.int r :: rest))) : W p l e R s m args below meth c H locs cells slots Q (F0 m pc ls st0) := by
  obtain ⟨hPc, hDc⟩ := x_P_D_sub hP hD isC hnC hC
  have hFc := va_free (wc := wc) hD hS hA isC hC
  refine va_calli (va_runV S hM cw ⟨x_U.blind, va_recv hK hPc (q := (C, T, N)) (ci := ci) (q0 := q0) hc he, fun U hU hW2 => ⟨rfl, by rw [hU], by rw [hU]; exact hPc, va_K.moved hW2.alike hK, hDc.weaken (fun _ _ _ _ => trivial), hN.at hW2 (fun q h1 h2 => by rw [hU]; exact hS.2.1 q h1 h2) hFc⟩⟩ rfl hn hsize hstack (lv_room (m := m) (pc := pc) (ls := ls) (rest := st0) hW) hdg hf) hS (fun q _ h => hFc q h) hFc (fun r u t H1 locs1 ht hvm hw hB hz hk1 hS1 => ?_)
  obtain ⟨hP1, hK1, hD1⟩ := hB
  rw [ht] at hP1
  obtain ⟨hP2, hD2⟩ := va_join (wr := x_pk ws isR) (w1 := wf u) hP hD isC isR hC hR hnR hdis hk1 hFc hP1 hD1
  obtain ⟨hP3, hD3⟩ := x_P_D_sub hP2 hD2 isF hnF (hF u)
  exact kk r u H1 locs1 hw hP3 hD3 hS1
/-- a call of a method that writes, and answers nothing -/
theorem x_cVv {post : ST → Prop} (S : CallFix p m c cc nL s args Ts own) (hM : Met l y wsy rm (va_Pc (.ref b :: As) (x_U D cT wc H.size)) (va_Qv post (fun u t => x_B D cT (wf u) (va_A wc H.size) t) (va_A wc H.size)) 0 0 (va_A wc H.size)) (cw : CallW R s args own C index y bytes maxL ret wsy rm 0 0 n)
    (hK : va_K D vwCl (x_ty cT) s) (hP : va_P D vwCl ws H) (hD : va_D A ws) (hS : va_S A s.heap H locs) (hA : ∀ q, s.heap.size ≤ q → A q) (hN : x_N A s) (isC isR isF : List Nat) (hC : isC.map (fun i => ws[i]?) = wc.map some) (hR : isR.map (fun i => ws[i]?) = (x_pk ws isR).map some) (hF : ∀ u, isF.map (fun i => (x_pk ws isR ++ wf u)[i]?) = (wn u).map some) (hnC : va_nd isC = true) (hnR : va_nd isR = true) (hnF : va_nd isF = true) (hdis : ∀ i ∈ isR, i ∉ isC)
    (ci q0 : Nat) (hc : vwCl[ci]? = some (C, T, N)) (he : wc[q0]? = some (b, .inr (ci, fs)))
    (hn : As.length = n) (hsize : ls.size = nL) (hstack : st0 = As.reverse ++ .ref b :: rest) (hW : (rest.map fun v => v.category).sum ≤ 8) (hdg : decode cc pc = .ok (.invokevirtual index, 3)) (hf : cells ≤ R.cells ∧ slots ≤ R.slots)
    (kk : ∀ (u : ST) (H1 : Heap) (locs1 : List Loc), post u → va_P D vwCl (wn u) H1 → va_D A (wn u) → va_S A s.heap H1 locs1 → W p l e R s m args below meth c H1 locs1 cells slots Q (F0 m (pc + 3) ls rest)) : W p l e R s m args below meth c H locs cells slots Q (F0 m pc ls st0) := by
  obtain ⟨hPc, hDc⟩ := x_P_D_sub hP hD isC hnC hC
  have hFc := va_free (wc := wc) hD hS hA isC hC
  refine va_callv (va_runV S hM cw ⟨x_U.blind, va_recv hK hPc (q := (C, T, N)) (ci := ci) (q0 := q0) hc he, fun U hU hW2 => ⟨rfl, by rw [hU], by rw [hU]; exact hPc, va_K.moved hW2.alike hK, hDc.weaken (fun _ _ _ _ => trivial), hN.at hW2 (fun q h1 h2 => by rw [hU]; exact hS.2.1 q h1 h2) hFc⟩⟩ rfl hn hsize hstack (lv_room (m := m) (pc := pc) (ls := ls) (rest := st0) hW) hdg hf) hS (fun q _ h => hFc q h) hFc (fun u t H1 locs1 ht hvm hw hB hz hk1 hS1 => ?_)
  obtain ⟨hP1, hK1, hD1⟩ := hB
  rw [ht] at hP1
  obtain ⟨hP2, hD2⟩ := va_join (wr := x_pk ws isR) (w1 := wf u) hP hD isC isR hC hR hnR hdis hk1 hFc hP1 hD1
  obtain ⟨hP3, hD3⟩ := x_P_D_sub hP2 hD2 isF hnF (hF u)
  exact kk u H1 locs1 hw hP3 hD3 hS1
end XC
end
section
def x_ushr (x y : Int32) : Int32 := (x.toUInt32 >>> (y.toUInt32 &&& Int32.toUInt32 31)).toInt32
def x_bool (v : Int32) : Prop := v = 0 ∨ v = 1
theorem x_bool_n {v : Int32} (h : x_bool v) : narrow .boolean (.int v) = .int v := by rcases h with rfl | rfl <;> rfl
theorem x_bool_f {v : Int32} (h : x_bool v) : fits .boolean (.int v) = true := by rcases h with rfl | rfl <;> rfl
theorem x_sw (x : Int32) (n : Nat) (hn : n < 2 ^ 31) : (∃ k : Nat, k < n ∧ x = nI k) ∨ (x.toInt < 0 ∨ ((n : Int) - 1) < x.toInt) := by
  rcases pk_ix x hn with h | h | ⟨j, hj, h⟩
  · exact Or.inr (Or.inl (by have := Int32.lt_iff_toInt_lt.mp h; simpa using this))
  · refine Or.inr (Or.inr ?_)
    have h1 := Int32.le_iff_toInt_le.mp h
    rw [nI_toInt hn] at h1
    omega
  · exact Or.inl ⟨j, hj, h⟩
def x_cp (M : ST) (i n : Nat) (f : Nat → Int32) : ST := fun j => if j = i then va_cpy f (M i) 0 0 n else M j
section XA
variable {p : Program} {l : Launch} {e : Env} {R : Room} {s : State} {m : MethodId} {args : Array Value} {below : List Frame} {meth : Method} {c : Code} {H : Heap} {locs : List Loc} {cells slots : Nat} {Q : State → Prop}
variable {cc : ByteArray} {pc : Nat} {ls : Array Slot} {rest : List Value} {D : va_G} {cl : List vw_C} {A : Nat → Prop} {a : Nat} {tys : List (ClassId × FieldType)} {ws : va_W} {H0 : Heap}
theorem x_ald (hexec : p.tables.exec = Jvm.exec) (hb : c.code = cc) (hK : va_K D cl tys s) (hP : va_P D cl ws H) (q0 t0 : Nat) {cA : ClassId} {n : Nat} {f : Nat → Int32} (ha : ws[q0]? = some (a, .inl (cA, n, .inl f))) (ht : tys[t0]? = some (cA, .int)) {i : Int32} (k : Nat) (hi : i = nI k) (hk : k < n) (hn : n < 2 ^ 31) (hdg : decode cc pc = .ok (.iaload, 1))
    (kk : W p l e R s m args below meth c H locs cells slots Q (F0 m (pc + 1) ls (.int (f k) :: rest))) : W p l e R s m args below meth c H locs cells slots Q (F0 m pc ls (.int i :: .ref a :: rest)) := by
  subst hi
  refine va_iald hexec hb hK hP q0 t0 ha ht (vp_in_nI hk hn) hdg ?_
  rw [nI_clamp (by omega)]
  exact kk
theorem x_zald (hexec : p.tables.exec = Jvm.exec) (hb : c.code = cc) (hK : va_K D cl tys s) (hP : va_P D cl ws H) (q0 t0 : Nat) {cA : ClassId} {n : Nat} {f : Nat → Int32} (ha : ws[q0]? = some (a, .inl (cA, n, .inl f))) (ht : tys[t0]? = some (cA, .boolean)) {i : Int32} (k : Nat) (hi : i = nI k) (hk : k < n) (hn : n < 2 ^ 31) (hdg : decode cc pc = .ok (.baload, 1))
    (kk : W p l e R s m args below meth c H locs cells slots Q (F0 m (pc + 1) ls (.int (f k) :: rest))) : W p l e R s m args below meth c H locs cells slots Q (F0 m pc ls (.int i :: .ref a :: rest)) := by
  subst hi
  refine va_zald hexec hb hK hP q0 t0 ha ht (vp_in_nI hk hn) hdg ?_
  rw [nI_clamp (by omega)]
  exact kk
theorem x_ast (hexec : p.tables.exec = Jvm.exec) (hb : c.code = cc) (hK : va_K D cl tys s) (hP : va_P D cl ws H) (hD : va_D A ws) (hS : va_S A H0 H locs) (q0 t0 : Nat) {cA : ClassId} {n : Nat} {f : Nat → Int32} (ha : ws[q0]? = some (a, .inl (cA, n, .inl f))) (ht : tys[t0]? = some (cA, .int)) {i : Int32} {x : Int32} (k : Nat) (hi : i = nI k) (hk : k < n) (hn : n < 2 ^ 31) (hdg : decode cc pc = .ok (.iastore, 1))
    (kk : ∀ (H1 : Heap) (locs1 : List Loc), va_P D cl (ws.set q0 (a, .inl (cA, n, .inl (upd f k x)))) H1 → va_D A (ws.set q0 (a, .inl (cA, n, .inl (upd f k x)))) → va_S A H0 H1 locs1 → W p l e R s m args below meth c H1 locs1 cells slots Q (F0 m (pc + 1) ls rest)) : W p l e R s m args below meth c H locs cells slots Q (F0 m pc ls (.int x :: .int i :: .ref a :: rest)) := by
  subst hi
  refine va_iast hexec hb hK hP hD hS q0 t0 ha ht (vp_in_nI hk hn) hdg ?_
  rw [nI_clamp (by omega)]
  exact kk
theorem x_zast (hexec : p.tables.exec = Jvm.exec) (hb : c.code = cc) (hK : va_K D cl tys s) (hP : va_P D cl ws H) (hD : va_D A ws) (hS : va_S A H0 H locs) (q0 t0 : Nat) {cA : ClassId} {n : Nat} {f : Nat → Int32} (ha : ws[q0]? = some (a, .inl (cA, n, .inl f))) (ht : tys[t0]? = some (cA, .boolean)) {i : Int32} {x : Int32} (k : Nat) (hi : i = nI k) (hk : k < n) (hn : n < 2 ^ 31) (hdg : decode cc pc = .ok (.bastore, 1))
    (kk : ∀ (H1 : Heap) (locs1 : List Loc), va_P D cl (ws.set q0 (a, .inl (cA, n, .inl (upd f k (vp_nar .boolean x))))) H1 → va_D A (ws.set q0 (a, .inl (cA, n, .inl (upd f k (vp_nar .boolean x))))) → va_S A H0 H1 locs1 → W p l e R s m args below meth c H1 locs1 cells slots Q (F0 m (pc + 1) ls rest)) : W p l e R s m args below meth c H locs cells slots Q (F0 m pc ls (.int x :: .int i :: .ref a :: rest)) := by
  subst hi
  refine va_zast hexec hb hK hP hD hS q0 t0 ha ht (vp_in_nI hk hn) hdg ?_
  rw [nI_clamp (by omega)]
  exact kk
theorem x_tld (hexec : p.tables.exec = Jvm.exec) (hb : c.code = cc) {t N : Nat} {f : Nat → Int32} (hT : va_T .int t N (fun j => .int (f j)) A s s.heap) (hS : va_S A s.heap H locs) {i : Int32} (k : Nat) (hi : i = nI k) (hk : k < N) (hn : N < 2 ^ 31) (hdg : decode cc pc = .ok (.iaload, 1))
    (kk : W p l e R s m args below meth c H locs cells slots Q (F0 m (pc + 1) ls (.int (f k) :: rest))) : W p l e R s m args below meth c H locs cells slots Q (F0 m pc ls (.int i :: .ref t :: rest)) := by
  subst hi
  exact va_ti hexec hb hT hS (vp_in_nI hk hn) (by rw [nI_clamp (by omega)]) hdg kk
theorem x_cpy (hexec : p.tables.exec = Jvm.exec) (hb : c.code = cc) (hml : c.maxLocals = ls.size) {own : String} {index : Nat} (hown : s.vm.findClass own = some m.cls) (hlink : (Cond.methodLink own index arraycopyName).before args s = true) (hnat : (Cond.native arraycopyName).before args s = true) (hstat : (Cond.static arraycopyName).before args s = true) (hini : (Cond.initialized "java/lang/System").before args s = true)
    {cT : Nat → ClassId} (hK : va_K D cl (x_ty cT) s) (hP : va_P D cl ws H) (hD : va_D A ws) (hS : va_S A H0 H locs) (q0 q1 : Nat) {a0 : Nat} {N n0 n1 : Nat} {f g : Nat → Int32} {nn : Int32} (ha0 : ws[q0]? = some (a0, .inl (cT 0, n0, .inl f))) (ha1 : ws[q1]? = some (a, .inl (cT 0, n1, .inl g))) (hnn : nn = nI N) (hN : N < 2 ^ 31) (h4 : N ≤ n0) (h5 : N ≤ n1)
    (hframes : 1 ≤ R.frames) (hlocals : (rest.map fun v => v.category).sum + (nativeFrameWords "java/lang/System" "arraycopy" 5 + 11) ≤ R.locals) (hdg : decode cc pc = .ok (.invokestatic index, 3))
    (kk : ∀ (H1 : Heap) (locs1 : List Loc), va_P D cl (ws.set q1 (a, .inl (cT 0, n1, .inl (va_cpy f g 0 0 N)))) H1 → va_D A (ws.set q1 (a, .inl (cT 0, n1, .inl (va_cpy f g 0 0 N)))) → va_S A H0 H1 locs1 → W p l e R s m args below meth c H1 locs1 cells slots Q (F0 m (pc + 3) ls rest)) : W p l e R s m args below meth c H locs cells slots Q (F0 m pc ls (.int nn :: .int 0 :: .ref a :: .int 0 :: .ref a0 :: rest)) := by
  subst hnn
  have z : (0 : Int32).toNatClampNeg = 0 := rfl
  have zN : (nI N).toNatClampNeg = N := nI_clamp hN
  refine va_copyi hexec hb hml hown hlink hnat hstat hini hK hP hD hS q0 q1 0 0 ha0 ha1 rfl rfl rfl (by decide) (by decide) (nI_pos hN) (by rw [z, zN]; omega) (by rw [z, zN]; omega) (fun _ _ => rfl) hframes hlocals hdg ?_
  rw [z, zN]
  exact kk
end XA
end
section
def w_Span (cT : Nat → ClassId) (a : Nat → Nat) (M : ST) : va_W := [(a 0, .inr (6, [.int (M 0 0), .int (M 0 1), .int (M 0 2), .int (M 0 3)]))]
def w_Mode (cT : Nat → ClassId) (a : Nat → Nat) (M : ST) : va_W := [(a 0, .inr (4, [.ref (a 1), .ref (a 2), .int (M 0 2)])), (a 1, .inr (6, [.int (M 1 0), .int (M 1 1), .int (M 1 2), .int (M 1 3)])), (a 2, .inr (6, [.int (M 2 0), .int (M 2 1), .int (M 2 2), .int (M 2 3)]))]
def w_Beam (cT : Nat → ClassId) (a : Nat → Nat) (M : ST) : va_W := [(a 0, .inr (0, [.ref (a 1), .ref (a 4), .ref (a 7), .int (M 0 3), .int (M 0 4), .int (M 0 5), .int (M 0 6)])), (a 1, .inr (4, [.ref (a 2), .ref (a 3), .int (M 1 2)])), (a 2, .inr (6, [.int (M 2 0), .int (M 2 1), .int (M 2 2), .int (M 2 3)])), (a 3, .inr (6, [.int (M 3 0), .int (M 3 1), .int (M 3 2), .int (M 3 3)])), (a 4, .inr (4, [.ref (a 5), .ref (a 6), .int (M 4 2)])), (a 5, .inr (6, [.int (M 5 0), .int (M 5 1), .int (M 5 2), .int (M 5 3)])), (a 6, .inr (6, [.int (M 6 0), .int (M 6 1), .int (M 6 2), .int (M 6 3)])), (a 7, .inr (4, [.ref (a 8), .ref (a 9), .int (M 7 2)])), (a 8, .inr (6, [.int (M 8 0), .int (M 8 1), .int (M 8 2), .int (M 8 3)])), (a 9, .inr (6, [.int (M 9 0), .int (M 9 1), .int (M 9 2), .int (M 9 3)]))]
def w_Feed (cT : Nat → ClassId) (a : Nat → Nat) (M : ST) : va_W := [(a 0, .inr (2, [.ref (a 1), .int (M 0 1), .int (M 0 2), .int (M 0 3), .int (M 0 4), .int (M 0 5), .int (M 0 6), .int (M 0 7), .int (M 0 8), .int (M 0 9), .int (M 0 10)])), (a 1, .inl (cT 0, 8, .inl (M 1)))]
def w_Registers (cT : Nat → ClassId) (a : Nat → Nat) (M : ST) : va_W := [(a 0, .inr (5, [.ref (a 1)])), (a 1, .inl (cT 0, 5, .inl (M 1)))]
def w_Changes (cT : Nat → ClassId) (a : Nat → Nat) (M : ST) : va_W := [(a 0, .inr (1, [.ref (a 1), .ref (a 2), .ref (a 3), .ref (a 4), .int (M 0 4)])), (a 1, .inl (cT 0, 16, .inl (M 1))), (a 2, .inl (cT 0, 16, .inl (M 2))), (a 3, .inl (cT 0, 16, .inl (M 3))), (a 4, .inl (cT 0, 16, .inl (M 4)))]
def w_Sprites (cT : Nat → ClassId) (a : Nat → Nat) (M : ST) : va_W := [(a 0, .inr (7, [.ref (a 1), .ref (a 2), .ref (a 3), .ref (a 4), .ref (a 5)])), (a 1, .inl (cT 0, 8, .inl (M 1))), (a 2, .inl (cT 0, 8, .inl (M 2))), (a 3, .inl (cT 0, 8, .inl (M 3))), (a 4, .inl (cT 0, 64, .inl (M 4))), (a 5, .inl (cT 0, 64, .inl (M 5)))]
def w_Machine (cT : Nat → ClassId) (a : Nat → Nat) (M : ST) : va_W := [(a 0, .inr (3, [.ref (a 1), .ref (a 11), .ref (a 13), .ref (a 15), .ref (a 20), .ref (a 26), .ref (a 27), .ref (a 28), .int (M 0 8), .int (M 0 9), .int (M 0 10), .int (M 0 11)])), (a 1, .inr (0, [.ref (a 2), .ref (a 5), .ref (a 8), .int (M 1 3), .int (M 1 4), .int (M 1 5), .int (M 1 6)])), (a 2, .inr (4, [.ref (a 3), .ref (a 4), .int (M 2 2)])), (a 3, .inr (6, [.int (M 3 0), .int (M 3 1), .int (M 3 2), .int (M 3 3)])), (a 4, .inr (6, [.int (M 4 0), .int (M 4 1), .int (M 4 2), .int (M 4 3)])), (a 5, .inr (4, [.ref (a 6), .ref (a 7), .int (M 5 2)])), (a 6, .inr (6, [.int (M 6 0), .int (M 6 1), .int (M 6 2), .int (M 6 3)])), (a 7, .inr (6, [.int (M 7 0), .int (M 7 1), .int (M 7 2), .int (M 7 3)])), (a 8, .inr (4, [.ref (a 9), .ref (a 10), .int (M 8 2)])), (a 9, .inr (6, [.int (M 9 0), .int (M 9 1), .int (M 9 2), .int (M 9 3)])), (a 10, .inr (6, [.int (M 10 0), .int (M 10 1), .int (M 10 2), .int (M 10 3)])), (a 11, .inr (2, [.ref (a 12), .int (M 11 1), .int (M 11 2), .int (M 11 3), .int (M 11 4), .int (M 11 5), .int (M 11 6), .int (M 11 7), .int (M 11 8), .int (M 11 9), .int (M 11 10)])), (a 12, .inl (cT 0, 8, .inl (M 12))), (a 13, .inr (5, [.ref (a 14)])), (a 14, .inl (cT 0, 5, .inl (M 14))), (a 15, .inr (1, [.ref (a 16), .ref (a 17), .ref (a 18), .ref (a 19), .int (M 15 4)])), (a 16, .inl (cT 0, 16, .inl (M 16))), (a 17, .inl (cT 0, 16, .inl (M 17))), (a 18, .inl (cT 0, 16, .inl (M 18))), (a 19, .inl (cT 0, 16, .inl (M 19))), (a 20, .inr (7, [.ref (a 21), .ref (a 22), .ref (a 23), .ref (a 24), .ref (a 25)])), (a 21, .inl (cT 0, 8, .inl (M 21))), (a 22, .inl (cT 0, 8, .inl (M 22))), (a 23, .inl (cT 0, 8, .inl (M 23))), (a 24, .inl (cT 0, 64, .inl (M 24))), (a 25, .inl (cT 0, 64, .inl (M 25))), (a 26, .inl (cT 0, 1024, .inl (M 26))), (a 27, .inl (cT 0, 4096, .inl (M 27))), (a 28, .inl (cT 0, 512, .inl (M 28)))]
def w_PB (cT : Nat → ClassId) (a : Nat → Nat) (M : ST) (im : Nat → Option Nat) : va_W := [(a 0, .inr (8, [.ref (a 2), .ref (a 1)])), (a 1, .inl (cT 2, 3, .inr (.inr (.inr (.inr im))))), (a 2, .inr (3, [.ref (a 3), .ref (a 13), .ref (a 15), .ref (a 17), .ref (a 22), .ref (a 28), .ref (a 29), .ref (a 30), .int (M 2 8), .int (M 2 9), .int (M 2 10), .int (M 2 11)])), (a 3, .inr (0, [.ref (a 4), .ref (a 7), .ref (a 10), .int (M 3 3), .int (M 3 4), .int (M 3 5), .int (M 3 6)])), (a 4, .inr (4, [.ref (a 5), .ref (a 6), .int (M 4 2)])), (a 5, .inr (6, [.int (M 5 0), .int (M 5 1), .int (M 5 2), .int (M 5 3)])), (a 6, .inr (6, [.int (M 6 0), .int (M 6 1), .int (M 6 2), .int (M 6 3)])), (a 7, .inr (4, [.ref (a 8), .ref (a 9), .int (M 7 2)])), (a 8, .inr (6, [.int (M 8 0), .int (M 8 1), .int (M 8 2), .int (M 8 3)])), (a 9, .inr (6, [.int (M 9 0), .int (M 9 1), .int (M 9 2), .int (M 9 3)])), (a 10, .inr (4, [.ref (a 11), .ref (a 12), .int (M 10 2)])), (a 11, .inr (6, [.int (M 11 0), .int (M 11 1), .int (M 11 2), .int (M 11 3)])), (a 12, .inr (6, [.int (M 12 0), .int (M 12 1), .int (M 12 2), .int (M 12 3)])), (a 13, .inr (2, [.ref (a 14), .int (M 13 1), .int (M 13 2), .int (M 13 3), .int (M 13 4), .int (M 13 5), .int (M 13 6), .int (M 13 7), .int (M 13 8), .int (M 13 9), .int (M 13 10)])), (a 14, .inl (cT 0, 8, .inl (M 14))), (a 15, .inr (5, [.ref (a 16)])), (a 16, .inl (cT 0, 5, .inl (M 16))), (a 17, .inr (1, [.ref (a 18), .ref (a 19), .ref (a 20), .ref (a 21), .int (M 17 4)])), (a 18, .inl (cT 0, 16, .inl (M 18))), (a 19, .inl (cT 0, 16, .inl (M 19))), (a 20, .inl (cT 0, 16, .inl (M 20))), (a 21, .inl (cT 0, 16, .inl (M 21))), (a 22, .inr (7, [.ref (a 23), .ref (a 24), .ref (a 25), .ref (a 26), .ref (a 27)])), (a 23, .inl (cT 0, 8, .inl (M 23))), (a 24, .inl (cT 0, 8, .inl (M 24))), (a 25, .inl (cT 0, 8, .inl (M 25))), (a 26, .inl (cT 0, 64, .inl (M 26))), (a 27, .inl (cT 0, 64, .inl (M 27))), (a 28, .inl (cT 0, 1024, .inl (M 28))), (a 29, .inl (cT 0, 4096, .inl (M 29))), (a 30, .inl (cT 0, 512, .inl (M 30)))]
def w_Model (cT : Nat → ClassId) (a : Nat → Nat) (M : ST) : va_W := [(a 0, .inr (9, [.ref (a 1), .ref (a 2)])), (a 1, .inl (cT 0, 23520, .inl (M 1))), (a 2, .inl (cT 1, 3, .inl (M 2)))]
def w_Arr4096 (cT : Nat → ClassId) (a : Nat → Nat) (M : ST) : va_W := [(a 0, .inl (cT 0, 4096, .inl (M 0)))]
end
section
def v_X6_whole (M : ST) (post : Int32 → Prop) : Prop := post ((((M 0 0) + (M 0 1)) + (M 0 2)) + (M 0 3))
set_option maxHeartbeats 4000000 in
set_option maxRecDepth 100000 in
theorem c_X6_whole (l : Launch) (D : va_G) (cT : Nat → ClassId) (a : Nat → Nat) (M : ST) (post : Int32 → Prop) (hv : v_X6_whole M post) : Met l yX6_whole wsX6_whole ({ frames := 0, cells := 0, slots := 0, locals := 0 }) (va_Pc [.ref (a 0)] (x_R D cT ((w_Span cT a M)))) (vp_Si post) 0 0 (fun _ => False) := by
  refine Met.ofW (cc := cX6_whole) (maxL := 1) (ret := (some .int)) (by decide) rfl ?_
  intro p e s m args below meth c s₁ B hml hpre
  obtain ⟨rfl, hP, hK, hN⟩ := hpre
  have hx := B.exec
  have hb := B.bytes
  have hr := B.returns
  have hts := atoms_spec (ws := wsX6_whole) B.pre
  have hown : s.vm.findClass RX6 = some m.cls := findClass_of_methodNamed B.named
  have hlocks := B.notSynchronized
  generalize hAe : (fun _ : Nat => False) = A at hN
  have hS : va_S A s.heap s.heap [] := va_S.rf
  have hl := lv_entry ([.ref (a 0)]) (n := 1) (Nat.le_of_ble_eq_true rfl)
  rw [lg_entry_eq]
  generalize (lg_sl ([.ref (a 0)]) ++ List.replicate (1 - (lg_sl ([.ref (a 0)])).length) Slot.unset).toArray = ls at hl ⊢
  have hl : lv_has ls 1 [(0, .ref (a 0))] := hl
  have in_X6 : ∀ w ∈ wsX60, w ∈ wsX6_whole := by decide +kernel
  have k_7 : (Cond.fieldLink RX6 7 "PictureBeats$Span" "seen" "I").before ([.ref (a 0)] : List Value).toArray s = true := hts _ (by decide +kernel)
  have k_13 : (Cond.fieldLink RX6 13 "PictureBeats$Span" "front" "I").before ([.ref (a 0)] : List Value).toArray s = true := hts _ (by decide +kernel)
  have k_16 : (Cond.fieldLink RX6 16 "PictureBeats$Span" "sync" "I").before ([.ref (a 0)] : List Value).toArray s = true := hts _ (by decide +kernel)
  have k_19 : (Cond.fieldLink RX6 19 "PictureBeats$Span" "back" "I").before ([.ref (a 0)] : List Value).toArray s = true := hts _ (by decide +kernel)
  refine lv_aload_n hx hb dX6_whole_0 rfl (lv_at hl 0 rfl) ?_
  refine va_get (D := D) (ci := 6) (v := .int (M 0 0)) (C := RX6) (T := TX6) (N := 4) hx hb hts in_X6 hown hK hP 0 rfl rfl 0 (by decide) k_7 (fun _ h9 => h9) rfl dX6_whole_1 ?_
  refine lv_aload_n hx hb dX6_whole_4 rfl (lv_at hl 0 rfl) ?_
  refine va_get (D := D) (ci := 6) (v := .int (M 0 1)) (C := RX6) (T := TX6) (N := 4) hx hb hts in_X6 hown hK hP 0 rfl rfl 1 (by decide) k_13 (fun _ h9 => h9) rfl dX6_whole_5 ?_
  refine lv_iadd hx hb dX6_whole_8 ?_
  refine lv_aload_n hx hb dX6_whole_9 rfl (lv_at hl 0 rfl) ?_
  refine va_get (D := D) (ci := 6) (v := .int (M 0 2)) (C := RX6) (T := TX6) (N := 4) hx hb hts in_X6 hown hK hP 0 rfl rfl 2 (by decide) k_16 (fun _ h9 => h9) rfl dX6_whole_10 ?_
  refine lv_iadd hx hb dX6_whole_13 ?_
  refine lv_aload_n hx hb dX6_whole_14 rfl (lv_at hl 0 rfl) ?_
  refine va_get (D := D) (ci := 6) (v := .int (M 0 3)) (C := RX6) (T := TX6) (N := 4) hx hb hts in_X6 hown hK hP 0 rfl rfl 3 (by decide) k_19 (fun _ h9 => h9) rfl dX6_whole_15 ?_
  refine lv_iadd hx hb dX6_whole_18 ?_
  exact W.iret (v := ((((M 0 0) + (M 0 1)) + (M 0 2)) + (M 0 3))) hx hb hr (fun t ht hW => ⟨_, rfl, hv, ht⟩) (fun q h => absurd h List.not_mem_nil) dX6_whole_19
def v_X6_isSeen (M : ST) (p1 : Int32) (post : Int32 → Prop) : Prop := ((((M 0 0) ≤ p1) → post 0) ∧ ((¬ ((M 0 0) ≤ p1)) → post 1))
set_option maxHeartbeats 4000000 in
set_option maxRecDepth 100000 in
theorem c_X6_isSeen (l : Launch) (D : va_G) (cT : Nat → ClassId) (a : Nat → Nat) (M : ST) (p1 : Int32) (post : Int32 → Prop) (hv : v_X6_isSeen M p1 post) : Met l yX6_isSeen wsX6_isSeen ({ frames := 0, cells := 0, slots := 0, locals := 0 }) (va_Pc [.ref (a 0), .int p1] (x_R D cT ((w_Span cT a M)))) (vp_Si post) 0 0 (fun _ => False) := by
  refine Met.ofW (cc := cX6_isSeen) (maxL := 2) (ret := (some .boolean)) (by decide) rfl ?_
  intro p e s m args below meth c s₁ B hml hpre
  obtain ⟨rfl, hP, hK, hN⟩ := hpre
  have hx := B.exec
  have hb := B.bytes
  have hr := B.returns
  have hts := atoms_spec (ws := wsX6_isSeen) B.pre
  have hown : s.vm.findClass RX6 = some m.cls := findClass_of_methodNamed B.named
  have hlocks := B.notSynchronized
  generalize hAe : (fun _ : Nat => False) = A at hN
  have hS : va_S A s.heap s.heap [] := va_S.rf
  have hl := lv_entry ([.ref (a 0), .int p1]) (n := 2) (Nat.le_of_ble_eq_true rfl)
  rw [lg_entry_eq]
  generalize (lg_sl ([.ref (a 0), .int p1]) ++ List.replicate (2 - (lg_sl ([.ref (a 0), .int p1])).length) Slot.unset).toArray = ls at hl ⊢
  have hl : lv_has ls 2 [(0, .ref (a 0)), (1, .int p1)] := hl
  have in_X6 : ∀ w ∈ wsX60, w ∈ wsX6_isSeen := by decide +kernel
  have k_7 : (Cond.fieldLink RX6 7 "PictureBeats$Span" "seen" "I").before ([.ref (a 0), .int p1] : List Value).toArray s = true := hts _ (by decide +kernel)
  refine lv_iload_n hx hb dX6_isSeen_0 rfl (lv_at hl 1 rfl) ?_
  refine lv_aload_n hx hb dX6_isSeen_1 rfl (lv_at hl 0 rfl) ?_
  refine va_get (D := D) (ci := 6) (v := .int (M 0 0)) (C := RX6) (T := TX6) (N := 4) hx hb hts in_X6 hown hK hP 0 rfl rfl 0 (by decide) k_7 (fun _ h9 => h9) rfl dX6_isSeen_2 ?_
  refine lv_icmp_ge (tgt := 12) hx hb dX6_isSeen_5 (by decide) (fun c_1 => ?_) (fun c_1 => ?_)
  · have hv := hv.1 c_1
    refine lv_iconst (v := 0) hx hb dX6_isSeen_12 (by decide) ?_
    exact W.zret (v := 0) hx hb hr rfl (fun t ht hW => ⟨_, rfl, hv, ht⟩) (fun q h => absurd h List.not_mem_nil) dX6_isSeen_13
  · have hv := hv.2 c_1
    refine lv_iconst (v := 1) hx hb dX6_isSeen_8 (by decide) ?_
    refine lv_goto (tgt := 13) hx hb dX6_isSeen_9 (by decide) ?_
    exact W.zret (v := 1) hx hb hr rfl (fun t ht hW => ⟨_, rfl, hv, ht⟩) (fun q h => absurd h List.not_mem_nil) dX6_isSeen_13
def v_X6_isSync (M : ST) (p1 : Int32) (post : Int32 → Prop) : Prop := ∀ x_1 : Int32, x_1 = ((M 0 0) + (M 0 1)) → (((p1 < x_1) → post 0) ∧ ((¬ (p1 < x_1)) → ((((x_1 + (M 0 2)) ≤ p1) → post 0) ∧ ((¬ ((x_1 + (M 0 2)) ≤ p1)) → post 1))))
set_option maxHeartbeats 4000000 in
set_option maxRecDepth 100000 in
theorem c_X6_isSync (l : Launch) (D : va_G) (cT : Nat → ClassId) (a : Nat → Nat) (M : ST) (p1 : Int32) (post : Int32 → Prop) (hv : v_X6_isSync M p1 post) : Met l yX6_isSync wsX6_isSync ({ frames := 0, cells := 0, slots := 0, locals := 0 }) (va_Pc [.ref (a 0), .int p1] (x_R D cT ((w_Span cT a M)))) (vp_Si post) 0 0 (fun _ => False) := by
  refine Met.ofW (cc := cX6_isSync) (maxL := 3) (ret := (some .boolean)) (by decide) rfl ?_
  intro p e s m args below meth c s₁ B hml hpre
  obtain ⟨rfl, hP, hK, hN⟩ := hpre
  have hx := B.exec
  have hb := B.bytes
  have hr := B.returns
  have hts := atoms_spec (ws := wsX6_isSync) B.pre
  have hown : s.vm.findClass RX6 = some m.cls := findClass_of_methodNamed B.named
  have hlocks := B.notSynchronized
  generalize hAe : (fun _ : Nat => False) = A at hN
  have hS : va_S A s.heap s.heap [] := va_S.rf
  have hl := lv_entry ([.ref (a 0), .int p1]) (n := 3) (Nat.le_of_ble_eq_true rfl)
  rw [lg_entry_eq]
  generalize (lg_sl ([.ref (a 0), .int p1]) ++ List.replicate (3 - (lg_sl ([.ref (a 0), .int p1])).length) Slot.unset).toArray = ls at hl ⊢
  have hl : lv_has ls 3 [(0, .ref (a 0)), (1, .int p1)] := hl
  have in_X6 : ∀ w ∈ wsX60, w ∈ wsX6_isSync := by decide +kernel
  have k_7 : (Cond.fieldLink RX6 7 "PictureBeats$Span" "seen" "I").before ([.ref (a 0), .int p1] : List Value).toArray s = true := hts _ (by decide +kernel)
  have k_13 : (Cond.fieldLink RX6 13 "PictureBeats$Span" "front" "I").before ([.ref (a 0), .int p1] : List Value).toArray s = true := hts _ (by decide +kernel)
  have k_16 : (Cond.fieldLink RX6 16 "PictureBeats$Span" "sync" "I").before ([.ref (a 0), .int p1] : List Value).toArray s = true := hts _ (by decide +kernel)
  refine lv_aload_n hx hb dX6_isSync_0 rfl (lv_at hl 0 rfl) ?_
  refine va_get (D := D) (ci := 6) (v := .int (M 0 0)) (C := RX6) (T := TX6) (N := 4) hx hb hts in_X6 hown hK hP 0 rfl rfl 0 (by decide) k_7 (fun _ h9 => h9) rfl dX6_isSync_1 ?_
  refine lv_aload_n hx hb dX6_isSync_4 rfl (lv_at hl 0 rfl) ?_
  refine va_get (D := D) (ci := 6) (v := .int (M 0 1)) (C := RX6) (T := TX6) (N := 4) hx hb hts in_X6 hown hK hP 0 rfl rfl 1 (by decide) k_13 (fun _ h9 => h9) rfl dX6_isSync_5 ?_
  refine lv_iadd hx hb dX6_isSync_8 ?_
  refine lv_topi (fun x_1 ex_1 => ?_)
  have hv := hv x_1 ex_1
  refine lv_istore_n (lv' := [(2, .int x_1), (0, .ref (a 0)), (1, .int p1)]) hx hb dX6_isSync_9 rfl hl (by decide) rfl (fun ls hl => ?_)
  refine lv_iload_n hx hb dX6_isSync_10 rfl (lv_at hl 2 rfl) ?_
  refine lv_iload_n hx hb dX6_isSync_11 rfl (lv_at hl 0 rfl) ?_
  refine lv_icmp_lt (tgt := 29) hx hb dX6_isSync_12 (by decide) (fun c_2 => ?_) (fun c_2 => ?_)
  · have hv := hv.1 c_2
    refine lv_iconst (v := 0) hx hb dX6_isSync_29 (by decide) ?_
    exact W.zret (v := 0) hx hb hr rfl (fun t ht hW => ⟨_, rfl, hv, ht⟩) (fun q h => absurd h List.not_mem_nil) dX6_isSync_30
  · have hv := hv.2 c_2
    refine lv_iload_n hx hb dX6_isSync_15 rfl (lv_at hl 2 rfl) ?_
    refine lv_iload_n hx hb dX6_isSync_16 rfl (lv_at hl 0 rfl) ?_
    refine lv_aload_n hx hb dX6_isSync_17 rfl (lv_at hl 1 rfl) ?_
    refine va_get (D := D) (ci := 6) (v := .int (M 0 2)) (C := RX6) (T := TX6) (N := 4) hx hb hts in_X6 hown hK hP 0 rfl rfl 2 (by decide) k_16 (fun _ h9 => h9) rfl dX6_isSync_18 ?_
    refine lv_iadd hx hb dX6_isSync_21 ?_
    refine lv_icmp_ge (tgt := 29) hx hb dX6_isSync_22 (by decide) (fun c_3 => ?_) (fun c_3 => ?_)
    · have hv := hv.1 c_3
      refine lv_iconst (v := 0) hx hb dX6_isSync_29 (by decide) ?_
      exact W.zret (v := 0) hx hb hr rfl (fun t ht hW => ⟨_, rfl, hv, ht⟩) (fun q h => absurd h List.not_mem_nil) dX6_isSync_30
    · have hv := hv.2 c_3
      refine lv_iconst (v := 1) hx hb dX6_isSync_25 (by decide) ?_
      refine lv_goto (tgt := 30) hx hb dX6_isSync_26 (by decide) ?_
      exact W.zret (v := 1) hx hb hr rfl (fun t ht hW => ⟨_, rfl, hv, ht⟩) (fun q h => absurd h List.not_mem_nil) dX6_isSync_30
def v_X6_tell (M : ST) (p1 : Int32) (p2 : Int32) (p3 : Int32) (p4 : Int32) (post : ST → Prop) : Prop := ∀ M_1 : ST, M_1 = x_st M 0 0 p1 → ∀ M_2 : ST, M_2 = x_st M_1 0 1 p2 → ∀ M_3 : ST, M_3 = x_st M_2 0 2 p3 → ∀ M_4 : ST, M_4 = x_st M_3 0 3 p4 → post M_4
set_option maxHeartbeats 4000000 in
set_option maxRecDepth 100000 in
theorem c_X6_tell (l : Launch) (D : va_G) (cT : Nat → ClassId) (a : Nat → Nat) (M : ST) (p1 : Int32) (p2 : Int32) (p3 : Int32) (p4 : Int32) (sz : Nat) (post : ST → Prop) (hv : v_X6_tell M p1 p2 p3 p4 post) : Met l yX6_tell wsX6_tell ({ frames := 0, cells := 0, slots := 0, locals := 0 }) (va_Pc [.ref (a 0), .int p1, .int p2, .int p3, .int p4] (x_U D cT ((w_Span cT a M)) sz)) (va_Qv post (fun u t => x_B D cT ((w_Span cT a u)) (va_A ((w_Span cT a M)) sz) t) (va_A ((w_Span cT a M)) sz)) 0 0 (va_A ((w_Span cT a M)) sz) := by
  refine Met.ofW (cc := cX6_tell) (maxL := 5) (ret := none) (by decide) rfl ?_
  intro p e s m args below meth c s₁ B hml hpre
  obtain ⟨rfl, hsz, hP, hK, hD0, hN⟩ := hpre
  have hx := B.exec
  have hb := B.bytes
  have hr := B.returns
  have hts := atoms_spec (ws := wsX6_tell) B.pre
  have hown : s.vm.findClass RX6 = some m.cls := findClass_of_methodNamed B.named
  have hlocks := B.notSynchronized
  subst hsz
  have hD := hD0.self (sz := s.heap.size)
  generalize hAe : va_A ((w_Span cT a M)) s.heap.size = A at hD hN ⊢
  have hA : ∀ q : Nat, s.heap.size ≤ q → A q := fun q h => by rw [← hAe]; exact Or.inr h
  have hS : va_S A s.heap s.heap [] := va_S.rf
  have hl := lv_entry ([.ref (a 0), .int p1, .int p2, .int p3, .int p4]) (n := 5) (Nat.le_of_ble_eq_true rfl)
  rw [lg_entry_eq]
  generalize (lg_sl ([.ref (a 0), .int p1, .int p2, .int p3, .int p4]) ++ List.replicate (5 - (lg_sl ([.ref (a 0), .int p1, .int p2, .int p3, .int p4])).length) Slot.unset).toArray = ls at hl ⊢
  have hl : lv_has ls 5 [(0, .ref (a 0)), (1, .int p1), (2, .int p2), (3, .int p3), (4, .int p4)] := hl
  have in_X6 : ∀ w ∈ wsX60, w ∈ wsX6_tell := by decide +kernel
  have k_7 : (Cond.fieldLink RX6 7 "PictureBeats$Span" "seen" "I").before ([.ref (a 0), .int p1, .int p2, .int p3, .int p4] : List Value).toArray s = true := hts _ (by decide +kernel)
  have k_13 : (Cond.fieldLink RX6 13 "PictureBeats$Span" "front" "I").before ([.ref (a 0), .int p1, .int p2, .int p3, .int p4] : List Value).toArray s = true := hts _ (by decide +kernel)
  have k_16 : (Cond.fieldLink RX6 16 "PictureBeats$Span" "sync" "I").before ([.ref (a 0), .int p1, .int p2, .int p3, .int p4] : List Value).toArray s = true := hts _ (by decide +kernel)
  have k_19 : (Cond.fieldLink RX6 19 "PictureBeats$Span" "back" "I").before ([.ref (a 0), .int p1, .int p2, .int p3, .int p4] : List Value).toArray s = true := hts _ (by decide +kernel)
  refine lv_aload_n hx hb dX6_tell_0 rfl (lv_at hl 0 rfl) ?_
  refine lv_iload_n hx hb dX6_tell_1 rfl (lv_at hl 1 rfl) ?_
  refine va_put (D := D) (ci := 6) (v := .int p1) (ty := .int) (C := RX6) (T := TX6) (N := 4) hx hb hts in_X6 tyX6 tyX6_ok nmX6 hown hK hP hD hS 0 rfl rfl 0 (by decide) k_7 (fun _ h9 => h9) rfl (by decide +kernel) rfl rfl (Nat.le_of_ble_eq_true rfl) dX6_tell_2 (fun H locs hP hD hS => ?_)
  obtain ⟨M_1, eM_1⟩ : ∃ z : ST, z = x_st M 0 0 p1 := ⟨_, rfl⟩
  have hP : va_P D vwCl ((w_Span cT a M_1)) H := by rw [eM_1]; exact hP
  have hD : va_D A ((w_Span cT a M_1)) := by rw [eM_1]; exact hD
  have hv := hv M_1 eM_1
  refine lv_aload_n hx hb dX6_tell_5 rfl (lv_at hl 0 rfl) ?_
  refine lv_iload_n hx hb dX6_tell_6 rfl (lv_at hl 2 rfl) ?_
  refine va_put (D := D) (ci := 6) (v := .int p2) (ty := .int) (C := RX6) (T := TX6) (N := 4) hx hb hts in_X6 tyX6 tyX6_ok nmX6 hown hK hP hD hS 0 rfl rfl 1 (by decide) k_13 (fun _ h9 => h9) rfl (by decide +kernel) rfl rfl (Nat.le_of_ble_eq_true rfl) dX6_tell_7 (fun H locs hP hD hS => ?_)
  obtain ⟨M_2, eM_2⟩ : ∃ z : ST, z = x_st M_1 0 1 p2 := ⟨_, rfl⟩
  have hP : va_P D vwCl ((w_Span cT a M_2)) H := by rw [eM_2]; exact hP
  have hD : va_D A ((w_Span cT a M_2)) := by rw [eM_2]; exact hD
  have hv := hv M_2 eM_2
  refine lv_aload_n hx hb dX6_tell_10 rfl (lv_at hl 0 rfl) ?_
  refine lv_iload_n hx hb dX6_tell_11 rfl (lv_at hl 3 rfl) ?_
  refine va_put (D := D) (ci := 6) (v := .int p3) (ty := .int) (C := RX6) (T := TX6) (N := 4) hx hb hts in_X6 tyX6 tyX6_ok nmX6 hown hK hP hD hS 0 rfl rfl 2 (by decide) k_16 (fun _ h9 => h9) rfl (by decide +kernel) rfl rfl (Nat.le_of_ble_eq_true rfl) dX6_tell_12 (fun H locs hP hD hS => ?_)
  obtain ⟨M_3, eM_3⟩ : ∃ z : ST, z = x_st M_2 0 2 p3 := ⟨_, rfl⟩
  have hP : va_P D vwCl ((w_Span cT a M_3)) H := by rw [eM_3]; exact hP
  have hD : va_D A ((w_Span cT a M_3)) := by rw [eM_3]; exact hD
  have hv := hv M_3 eM_3
  refine lv_aload_n hx hb dX6_tell_15 rfl (lv_at hl 0 rfl) ?_
  refine lv_iload hx hb dX6_tell_16 (lv_at hl 4 rfl) ?_
  refine va_put (D := D) (ci := 6) (v := .int p4) (ty := .int) (C := RX6) (T := TX6) (N := 4) hx hb hts in_X6 tyX6 tyX6_ok nmX6 hown hK hP hD hS 0 rfl rfl 3 (by decide) k_19 (fun _ h9 => h9) rfl (by decide +kernel) rfl rfl (Nat.le_of_ble_eq_true rfl) dX6_tell_18 (fun H locs hP hD hS => ?_)
  obtain ⟨M_4, eM_4⟩ : ∃ z : ST, z = x_st M_3 0 3 p4 := ⟨_, rfl⟩
  have hP : va_P D vwCl ((w_Span cT a M_4)) H := by rw [eM_4]; exact hP
  have hD : va_D A ((w_Span cT a M_4)) := by rw [eM_4]; exact hD
  have hv := hv M_4 eM_4
  exact W.vret hx hb hr (fun t ht hW => ⟨⟨M_4, rfl, hv, by rw [ht]; exact hP, va_K.moved hW.alike hK, hD⟩, hS.F ht⟩) hS.2.2 dX6_tell_21
def v_X6_copyFrom (M : ST) (N : ST) (post : ST → Prop) : Prop := v_X6_tell M (N 0 0) (N 0 1) (N 0 2) (N 0 3) (fun (u_1 : ST) => post u_1)
set_option maxHeartbeats 4000000 in
set_option maxRecDepth 100000 in
theorem c_X6_copyFrom (l : Launch) (D : va_G) (cT : Nat → ClassId) (a : Nat → Nat) (M : ST) (b : Nat → Nat) (N : ST) (sz : Nat) (post : ST → Prop) (hv : v_X6_copyFrom M N post) : Met l yX6_copyFrom wsX6_copyFrom ({ frames := 1, cells := 0, slots := 0, locals := 24 }) (va_Pc [.ref (a 0), .ref (b 0)] (x_U D cT ((w_Span cT a M) ++ (w_Span cT b N)) sz)) (va_Qv post (fun u t => x_B D cT ((w_Span cT a u) ++ (w_Span cT b N)) (va_A ((w_Span cT a M) ++ (w_Span cT b N)) sz) t) (va_A ((w_Span cT a M) ++ (w_Span cT b N)) sz)) 0 0 (va_A ((w_Span cT a M) ++ (w_Span cT b N)) sz) := by
  refine Met.ofW (cc := cX6_copyFrom) (maxL := 2) (ret := none) (by decide) rfl ?_
  intro p e s m args below meth c s₁ B hml hpre
  obtain ⟨rfl, hsz, hP, hK, hD0, hN⟩ := hpre
  have hx := B.exec
  have hb := B.bytes
  have hr := B.returns
  have hts := atoms_spec (ws := wsX6_copyFrom) B.pre
  have hown : s.vm.findClass RX6 = some m.cls := findClass_of_methodNamed B.named
  have hlocks := B.notSynchronized
  subst hsz
  have hD := hD0.self (sz := s.heap.size)
  generalize hAe : va_A ((w_Span cT a M) ++ (w_Span cT b N)) s.heap.size = A at hD hN ⊢
  have hA : ∀ q : Nat, s.heap.size ≤ q → A q := fun q h => by rw [← hAe]; exact Or.inr h
  have hS : va_S A s.heap s.heap [] := va_S.rf
  have hl := lv_entry ([.ref (a 0), .ref (b 0)]) (n := 2) (Nat.le_of_ble_eq_true rfl)
  rw [lg_entry_eq]
  generalize (lg_sl ([.ref (a 0), .ref (b 0)]) ++ List.replicate (2 - (lg_sl ([.ref (a 0), .ref (b 0)])).length) Slot.unset).toArray = ls at hl ⊢
  have hl : lv_has ls 2 [(0, .ref (a 0)), (1, .ref (b 0))] := hl
  have in_X6 : ∀ w ∈ wsX60, w ∈ wsX6_copyFrom := by decide +kernel
  have k_7 : (Cond.fieldLink RX6 7 "PictureBeats$Span" "seen" "I").before ([.ref (a 0), .ref (b 0)] : List Value).toArray s = true := hts _ (by decide +kernel)
  have k_13 : (Cond.fieldLink RX6 13 "PictureBeats$Span" "front" "I").before ([.ref (a 0), .ref (b 0)] : List Value).toArray s = true := hts _ (by decide +kernel)
  have k_16 : (Cond.fieldLink RX6 16 "PictureBeats$Span" "sync" "I").before ([.ref (a 0), .ref (b 0)] : List Value).toArray s = true := hts _ (by decide +kernel)
  have k_19 : (Cond.fieldLink RX6 19 "PictureBeats$Span" "back" "I").before ([.ref (a 0), .ref (b 0)] : List Value).toArray s = true := hts _ (by decide +kernel)
  have w_22 : CallW (headSpec wsX6_copyFrom ({ frames := 1, cells := 0, slots := 0, locals := 24 })).room s ([.ref (a 0), .ref (b 0)] : List Value).toArray RX6 RX6 22 yX6_tell cX6_tell 5 none wsX6_tell ({ frames := 0, cells := 0, slots := 0, locals := 0 } : Room) 0 0 4 := cwV 4 hts gX6_copyFrom_X6_tell rfl rfl rfl (by decide +kernel) ⟨Nat.le_of_ble_eq_true rfl, Nat.le_of_ble_eq_true rfl⟩
  refine lv_aload_n hx hb dX6_copyFrom_0 rfl (lv_at hl 0 rfl) ?_
  refine lv_aload_n hx hb dX6_copyFrom_1 rfl (lv_at hl 1 rfl) ?_
  refine va_get (D := D) (ci := 6) (v := .int (N 0 0)) (C := RX6) (T := TX6) (N := 4) hx hb hts in_X6 hown hK hP 1 rfl rfl 0 (by decide) k_7 (fun _ h9 => h9) rfl dX6_copyFrom_2 ?_
  refine lv_aload_n hx hb dX6_copyFrom_5 rfl (lv_at hl 1 rfl) ?_
  refine va_get (D := D) (ci := 6) (v := .int (N 0 1)) (C := RX6) (T := TX6) (N := 4) hx hb hts in_X6 hown hK hP 1 rfl rfl 1 (by decide) k_13 (fun _ h9 => h9) rfl dX6_copyFrom_6 ?_
  refine lv_aload_n hx hb dX6_copyFrom_9 rfl (lv_at hl 1 rfl) ?_
  refine va_get (D := D) (ci := 6) (v := .int (N 0 2)) (C := RX6) (T := TX6) (N := 4) hx hb hts in_X6 hown hK hP 1 rfl rfl 2 (by decide) k_16 (fun _ h9 => h9) rfl dX6_copyFrom_10 ?_
  refine lv_aload_n hx hb dX6_copyFrom_13 rfl (lv_at hl 1 rfl) ?_
  refine va_get (D := D) (ci := 6) (v := .int (N 0 3)) (C := RX6) (T := TX6) (N := 4) hx hb hts in_X6 hown hK hP 1 rfl rfl 3 (by decide) k_19 (fun _ h9 => h9) rfl dX6_copyFrom_14 ?_
  refine x_cVv (As := [.int (N 0 0), .int (N 0 1), .int (N 0 2), .int (N 0 3)]) (rest := []) (wn := fun u_1 => (w_Span cT a u_1) ++ (w_Span cT b N)) ⟨hx, hb, hml, hown, hts⟩ (c_X6_tell l D cT a M (N 0 0) (N 0 1) (N 0 2) (N 0 3) _ _ hv) w_22 hK hP hD hS hA hN [0] [1] [1, 0] rfl rfl (fun _ => rfl) (by decide) (by decide) (by decide) (by decide) 6 0 rfl rfl rfl hl.1 rfl (Nat.le_of_ble_eq_true rfl) dX6_copyFrom_17 ⟨Nat.le_of_ble_eq_true rfl, Nat.le_of_ble_eq_true rfl⟩ (fun u_1 H locs hv hP hD hS => ?_)
  exact W.vret hx hb hr (fun t ht hW => ⟨⟨u_1, rfl, hv, by rw [ht]; exact hP, va_K.moved hW.alike hK, hD⟩, hS.F ht⟩) hS.2.2 dX6_copyFrom_20
end
section
def v_X8_within (p1 : Int32) (p2 : Int32) (p3 : Int32) (post : Int32 → Prop) : Prop := (((p1 < p2) → post 0) ∧ ((¬ (p1 < p2)) → (((p3 < p1) → post 0) ∧ ((¬ (p3 < p1)) → post 1))))
set_option maxHeartbeats 4000000 in
set_option maxRecDepth 100000 in
theorem c_X8_within (l : Launch) (D : va_G) (cT : Nat → ClassId) (p1 : Int32) (p2 : Int32) (p3 : Int32) (post : Int32 → Prop) (hv : v_X8_within p1 p2 p3 post) : Met l yX8_within wsX8_within ({ frames := 0, cells := 0, slots := 0, locals := 0 }) (va_Pc [.int p1, .int p2, .int p3] (x_R D cT (([] : va_W)))) (vp_Si post) 0 0 (fun _ => False) := by
  refine Met.ofW (cc := cX8_within) (maxL := 3) (ret := (some .boolean)) (by decide) rfl ?_
  intro p e s m args below meth c s₁ B hml hpre
  obtain ⟨rfl, hP, hK, hN⟩ := hpre
  have hx := B.exec
  have hb := B.bytes
  have hr := B.returns
  have hts := atoms_spec (ws := wsX8_within) B.pre
  have hown : s.vm.findClass RX8 = some m.cls := findClass_of_methodNamed B.named
  have hlocks := B.notSynchronized
  generalize hAe : (fun _ : Nat => False) = A at hN
  have hS : va_S A s.heap s.heap [] := va_S.rf
  have hl := lv_entry ([.int p1, .int p2, .int p3]) (n := 3) (Nat.le_of_ble_eq_true rfl)
  rw [lg_entry_eq]
  generalize (lg_sl ([.int p1, .int p2, .int p3]) ++ List.replicate (3 - (lg_sl ([.int p1, .int p2, .int p3])).length) Slot.unset).toArray = ls at hl ⊢
  have hl : lv_has ls 3 [(0, .int p1), (1, .int p2), (2, .int p3)] := hl
  refine lv_iload_n hx hb dX8_within_0 rfl (lv_at hl 0 rfl) ?_
  refine lv_iload_n hx hb dX8_within_1 rfl (lv_at hl 1 rfl) ?_
  refine lv_icmp_lt (tgt := 14) hx hb dX8_within_2 (by decide) (fun c_1 => ?_) (fun c_1 => ?_)
  · have hv := hv.1 c_1
    refine lv_iconst (v := 0) hx hb dX8_within_14 (by decide) ?_
    exact W.zret (v := 0) hx hb hr rfl (fun t ht hW => ⟨_, rfl, hv, ht⟩) (fun q h => absurd h List.not_mem_nil) dX8_within_15
  · have hv := hv.2 c_1
    refine lv_iload_n hx hb dX8_within_5 rfl (lv_at hl 0 rfl) ?_
    refine lv_iload_n hx hb dX8_within_6 rfl (lv_at hl 2 rfl) ?_
    refine lv_icmp_gt (tgt := 14) hx hb dX8_within_7 (by decide) (fun c_2 => ?_) (fun c_2 => ?_)
    · have hv := hv.1 c_2
      refine lv_iconst (v := 0) hx hb dX8_within_14 (by decide) ?_
      exact W.zret (v := 0) hx hb hr rfl (fun t ht hW => ⟨_, rfl, hv, ht⟩) (fun q h => absurd h List.not_mem_nil) dX8_within_15
    · have hv := hv.2 c_2
      refine lv_iconst (v := 1) hx hb dX8_within_10 (by decide) ?_
      refine lv_goto (tgt := 15) hx hb dX8_within_11 (by decide) ?_
      exact W.zret (v := 1) hx hb hr rfl (fun t ht hW => ⟨_, rfl, hv, ht⟩) (fun q h => absurd h List.not_mem_nil) dX8_within_15
def v_X8_placeOf (p1 : Int32) (p2 : Int32) (post : Int32 → Prop) : Prop := v_X8_within p1 0 63 (fun r_1 => (((r_1 = 0) → post (-1)) ∧ ((¬ (r_1 = 0)) → v_X8_within p2 0 63 (fun r_3 => (((¬ (r_3 = 0)) → post ((p2 * 64) + p1)) ∧ ((r_3 = 0) → post (-1)))))))
set_option maxHeartbeats 4000000 in
set_option maxRecDepth 100000 in
theorem c_X8_placeOf (l : Launch) (D : va_G) (cT : Nat → ClassId) (p1 : Int32) (p2 : Int32) (post : Int32 → Prop) (hv : v_X8_placeOf p1 p2 post) : Met l yX8_placeOf wsX8_placeOf ({ frames := 1, cells := 0, slots := 0, locals := 22 }) (va_Pc [.int p1, .int p2] (x_R D cT (([] : va_W)))) (vp_Si post) 0 0 (fun _ => False) := by
  refine Met.ofW (cc := cX8_placeOf) (maxL := 2) (ret := (some .int)) (by decide) rfl ?_
  intro p e s m args below meth c s₁ B hml hpre
  obtain ⟨rfl, hP, hK, hN⟩ := hpre
  have hx := B.exec
  have hb := B.bytes
  have hr := B.returns
  have hts := atoms_spec (ws := wsX8_placeOf) B.pre
  have hown : s.vm.findClass RX8 = some m.cls := findClass_of_methodNamed B.named
  have hlocks := B.notSynchronized
  generalize hAe : (fun _ : Nat => False) = A at hN
  have hS : va_S A s.heap s.heap [] := va_S.rf
  have hl := lv_entry ([.int p1, .int p2]) (n := 2) (Nat.le_of_ble_eq_true rfl)
  rw [lg_entry_eq]
  generalize (lg_sl ([.int p1, .int p2]) ++ List.replicate (2 - (lg_sl ([.int p1, .int p2])).length) Slot.unset).toArray = ls at hl ⊢
  have hl : lv_has ls 2 [(0, .int p1), (1, .int p2)] := hl
  have w_20 : CallB (headSpec wsX8_placeOf ({ frames := 1, cells := 0, slots := 0, locals := 22 })).room s ([.int p1, .int p2] : List Value).toArray RX8 20 yX8_within cX8_within 3 (some .boolean) wsX8_within ({ frames := 0, cells := 0, slots := 0, locals := 0 } : Room) 0 0 3 ∧ (Cond.static yX8_within).before ([.int p1, .int p2] : List Value).toArray s = true := va_cwS 3 hts gX8_placeOf_X8_within rfl rfl rfl (by decide +kernel) ⟨Nat.le_of_ble_eq_true rfl, Nat.le_of_ble_eq_true rfl⟩
  refine lv_iload_n hx hb dX8_placeOf_0 rfl (lv_at hl 0 rfl) ?_
  refine lv_iconst (v := 0) hx hb dX8_placeOf_1 (by decide) ?_
  refine lv_bipush (v := 63) hx hb dX8_placeOf_2 (by decide) ?_
  refine x_rS (As := [.int p1, .int 0, .int 63]) (rest := []) ⟨hx, hb, hml, hown, hts⟩ (c_X8_within l D cT p1 0 63 _ hv) w_20 hK hS hN rfl hl.1 rfl (Nat.le_of_ble_eq_true rfl) dX8_placeOf_4 ⟨Nat.le_of_ble_eq_true rfl, Nat.le_of_ble_eq_true rfl⟩ (fun r_1 hv => ?_)
  refine lv_if_eq (tgt := 20) hx hb dX8_placeOf_7 (by decide) (fun c_2 => ?_) (fun c_2 => ?_)
  · have hv := hv.1 c_2
    refine lv_iconst (v := (-1)) hx hb dX8_placeOf_20 (by decide) ?_
    exact W.iret (v := (-1)) hx hb hr (fun t ht hW => ⟨_, rfl, hv, ht⟩) (fun q h => absurd h List.not_mem_nil) dX8_placeOf_21
  · have hv := hv.2 c_2
    refine lv_iload_n hx hb dX8_placeOf_10 rfl (lv_at hl 1 rfl) ?_
    refine lv_iconst (v := 0) hx hb dX8_placeOf_11 (by decide) ?_
    refine lv_bipush (v := 63) hx hb dX8_placeOf_12 (by decide) ?_
    refine x_rS (As := [.int p2, .int 0, .int 63]) (rest := []) ⟨hx, hb, hml, hown, hts⟩ (c_X8_within l D cT p2 0 63 _ hv) w_20 hK hS hN rfl hl.1 rfl (Nat.le_of_ble_eq_true rfl) dX8_placeOf_14 ⟨Nat.le_of_ble_eq_true rfl, Nat.le_of_ble_eq_true rfl⟩ (fun r_3 hv => ?_)
    refine lv_if_ne (tgt := 22) hx hb dX8_placeOf_17 (by decide) (fun c_4 => ?_) (fun c_4 => ?_)
    · have hv := hv.1 c_4
      refine lv_iload_n hx hb dX8_placeOf_22 rfl (lv_at hl 1 rfl) ?_
      refine lv_bipush (v := 64) hx hb dX8_placeOf_23 (by decide) ?_
      refine lv_imul hx hb dX8_placeOf_25 ?_
      refine lv_iload_n hx hb dX8_placeOf_26 rfl (lv_at hl 0 rfl) ?_
      refine lv_iadd hx hb dX8_placeOf_27 ?_
      exact W.iret (v := ((p2 * 64) + p1)) hx hb hr (fun t ht hW => ⟨_, rfl, hv, ht⟩) (fun q h => absurd h List.not_mem_nil) dX8_placeOf_28
    · have hv := hv.2 c_4
      refine lv_iconst (v := (-1)) hx hb dX8_placeOf_20 (by decide) ?_
      exact W.iret (v := (-1)) hx hb hr (fun t ht hW => ⟨_, rfl, hv, ht⟩) (fun q h => absurd h List.not_mem_nil) dX8_placeOf_21
def v_X8_bytesOfLine (p1 : Int32) (post : Int32 → Prop) : Prop := post (((p1 + 7) / 8) + 1)
set_option maxHeartbeats 4000000 in
set_option maxRecDepth 100000 in
theorem c_X8_bytesOfLine (l : Launch) (D : va_G) (cT : Nat → ClassId) (p1 : Int32) (post : Int32 → Prop) (hv : v_X8_bytesOfLine p1 post) : Met l yX8_bytesOfLine wsX8_bytesOfLine ({ frames := 0, cells := 0, slots := 0, locals := 0 }) (va_Pc [.int p1] (x_R D cT (([] : va_W)))) (vp_Si post) 0 0 (fun _ => False) := by
  refine Met.ofW (cc := cX8_bytesOfLine) (maxL := 1) (ret := (some .int)) (by decide) rfl ?_
  intro p e s m args below meth c s₁ B hml hpre
  obtain ⟨rfl, hP, hK, hN⟩ := hpre
  have hx := B.exec
  have hb := B.bytes
  have hr := B.returns
  have hts := atoms_spec (ws := wsX8_bytesOfLine) B.pre
  have hown : s.vm.findClass RX8 = some m.cls := findClass_of_methodNamed B.named
  have hlocks := B.notSynchronized
  generalize hAe : (fun _ : Nat => False) = A at hN
  have hS : va_S A s.heap s.heap [] := va_S.rf
  have hl := lv_entry ([.int p1]) (n := 1) (Nat.le_of_ble_eq_true rfl)
  rw [lg_entry_eq]
  generalize (lg_sl ([.int p1]) ++ List.replicate (1 - (lg_sl ([.int p1])).length) Slot.unset).toArray = ls at hl ⊢
  have hl : lv_has ls 1 [(0, .int p1)] := hl
  refine lv_iload_n hx hb dX8_bytesOfLine_0 rfl (lv_at hl 0 rfl) ?_
  refine lv_bipush (v := 7) hx hb dX8_bytesOfLine_1 (by decide) ?_
  refine lv_iadd hx hb dX8_bytesOfLine_3 ?_
  refine lv_bipush (v := 8) hx hb dX8_bytesOfLine_4 (by decide) ?_
  refine lv_idiv hx hb dX8_bytesOfLine_6 (by decide) ?_
  refine lv_iconst (v := 1) hx hb dX8_bytesOfLine_7 (by decide) ?_
  refine lv_iadd hx hb dX8_bytesOfLine_8 ?_
  exact W.iret (v := (((p1 + 7) / 8) + 1)) hx hb hr (fun t ht hW => ⟨_, rfl, hv, ht⟩) (fun q h => absurd h List.not_mem_nil) dX8_bytesOfLine_9
def v_X8_areFitBounds (p1 : Int32) (p2 : Int32) (post : Int32 → Prop) : Prop := v_X8_within p1 1 200 (fun r_1 => (((r_1 = 0) → post 0) ∧ ((¬ (r_1 = 0)) → v_X8_within p2 p1 200 (fun r_3 => (((r_3 = 0) → post 0) ∧ ((¬ (r_3 = 0)) → post 1))))))
set_option maxHeartbeats 4000000 in
set_option maxRecDepth 100000 in
theorem c_X8_areFitBounds (l : Launch) (D : va_G) (cT : Nat → ClassId) (p1 : Int32) (p2 : Int32) (post : Int32 → Prop) (hv : v_X8_areFitBounds p1 p2 post) : Met l yX8_areFitBounds wsX8_areFitBounds ({ frames := 1, cells := 0, slots := 0, locals := 22 }) (va_Pc [.int p1, .int p2] (x_R D cT (([] : va_W)))) (vp_Si post) 0 0 (fun _ => False) := by
  refine Met.ofW (cc := cX8_areFitBounds) (maxL := 2) (ret := (some .boolean)) (by decide) rfl ?_
  intro p e s m args below meth c s₁ B hml hpre
  obtain ⟨rfl, hP, hK, hN⟩ := hpre
  have hx := B.exec
  have hb := B.bytes
  have hr := B.returns
  have hts := atoms_spec (ws := wsX8_areFitBounds) B.pre
  have hown : s.vm.findClass RX8 = some m.cls := findClass_of_methodNamed B.named
  have hlocks := B.notSynchronized
  generalize hAe : (fun _ : Nat => False) = A at hN
  have hS : va_S A s.heap s.heap [] := va_S.rf
  have hl := lv_entry ([.int p1, .int p2]) (n := 2) (Nat.le_of_ble_eq_true rfl)
  rw [lg_entry_eq]
  generalize (lg_sl ([.int p1, .int p2]) ++ List.replicate (2 - (lg_sl ([.int p1, .int p2])).length) Slot.unset).toArray = ls at hl ⊢
  have hl : lv_has ls 2 [(0, .int p1), (1, .int p2)] := hl
  have w_20 : CallB (headSpec wsX8_areFitBounds ({ frames := 1, cells := 0, slots := 0, locals := 22 })).room s ([.int p1, .int p2] : List Value).toArray RX8 20 yX8_within cX8_within 3 (some .boolean) wsX8_within ({ frames := 0, cells := 0, slots := 0, locals := 0 } : Room) 0 0 3 ∧ (Cond.static yX8_within).before ([.int p1, .int p2] : List Value).toArray s = true := va_cwS 3 hts gX8_areFitBounds_X8_within rfl rfl rfl (by decide +kernel) ⟨Nat.le_of_ble_eq_true rfl, Nat.le_of_ble_eq_true rfl⟩
  refine lv_iload_n hx hb dX8_areFitBounds_0 rfl (lv_at hl 0 rfl) ?_
  refine lv_iconst (v := 1) hx hb dX8_areFitBounds_1 (by decide) ?_
  refine lv_sipush (v := 200) hx hb dX8_areFitBounds_2 (by decide) ?_
  refine x_rS (As := [.int p1, .int 1, .int 200]) (rest := []) ⟨hx, hb, hml, hown, hts⟩ (c_X8_within l D cT p1 1 200 _ hv) w_20 hK hS hN rfl hl.1 rfl (Nat.le_of_ble_eq_true rfl) dX8_areFitBounds_5 ⟨Nat.le_of_ble_eq_true rfl, Nat.le_of_ble_eq_true rfl⟩ (fun r_1 hv => ?_)
  refine lv_if_eq (tgt := 26) hx hb dX8_areFitBounds_8 (by decide) (fun c_2 => ?_) (fun c_2 => ?_)
  · have hv := hv.1 c_2
    refine lv_iconst (v := 0) hx hb dX8_areFitBounds_26 (by decide) ?_
    exact W.zret (v := 0) hx hb hr rfl (fun t ht hW => ⟨_, rfl, hv, ht⟩) (fun q h => absurd h List.not_mem_nil) dX8_areFitBounds_27
  · have hv := hv.2 c_2
    refine lv_iload_n hx hb dX8_areFitBounds_11 rfl (lv_at hl 1 rfl) ?_
    refine lv_iload_n hx hb dX8_areFitBounds_12 rfl (lv_at hl 0 rfl) ?_
    refine lv_sipush (v := 200) hx hb dX8_areFitBounds_13 (by decide) ?_
    refine x_rS (As := [.int p2, .int p1, .int 200]) (rest := []) ⟨hx, hb, hml, hown, hts⟩ (c_X8_within l D cT p2 p1 200 _ hv) w_20 hK hS hN rfl hl.1 rfl (Nat.le_of_ble_eq_true rfl) dX8_areFitBounds_16 ⟨Nat.le_of_ble_eq_true rfl, Nat.le_of_ble_eq_true rfl⟩ (fun r_3 hv => ?_)
    refine lv_if_eq (tgt := 26) hx hb dX8_areFitBounds_19 (by decide) (fun c_4 => ?_) (fun c_4 => ?_)
    · have hv := hv.1 c_4
      refine lv_iconst (v := 0) hx hb dX8_areFitBounds_26 (by decide) ?_
      exact W.zret (v := 0) hx hb hr rfl (fun t ht hW => ⟨_, rfl, hv, ht⟩) (fun q h => absurd h List.not_mem_nil) dX8_areFitBounds_27
    · have hv := hv.2 c_4
      refine lv_iconst (v := 1) hx hb dX8_areFitBounds_22 (by decide) ?_
      refine lv_goto (tgt := 27) hx hb dX8_areFitBounds_23 (by decide) ?_
      exact W.zret (v := 1) hx hb hr rfl (fun t ht hW => ⟨_, rfl, hv, ht⟩) (fun q h => absurd h List.not_mem_nil) dX8_areFitBounds_27
def v_X8_isNearer (p1 : Int32) (p2 : Int32) (p3 : Int32) (p4 : Int32) (post : Int32 → Prop) : Prop := ∀ x_1 : Int64, x_1 = (if 0 < ((Int32.toInt64 p1) - ((Int32.toInt64 p2) * (Int32.toInt64 p3))) then ((Int32.toInt64 p1) - ((Int32.toInt64 p2) * (Int32.toInt64 p3))) else -((Int32.toInt64 p1) - ((Int32.toInt64 p2) * (Int32.toInt64 p3)))) → ∀ x_2 : Int64, x_2 = (if 0 < ((Int32.toInt64 p1) - ((Int32.toInt64 p2) * (Int32.toInt64 p4))) then ((Int32.toInt64 p1) - ((Int32.toInt64 p2) * (Int32.toInt64 p4))) else -((Int32.toInt64 p1) - ((Int32.toInt64 p2) * (Int32.toInt64 p4)))) → (((0 ≤ (lg_cmp (x_1 * (Int32.toInt64 p4)) (x_2 * (Int32.toInt64 p3)))) → post 0) ∧ ((¬ (0 ≤ (lg_cmp (x_1 * (Int32.toInt64 p4)) (x_2 * (Int32.toInt64 p3))))) → post 1))
set_option maxHeartbeats 4000000 in
set_option maxRecDepth 100000 in
theorem c_X8_isNearer (l : Launch) (D : va_G) (cT : Nat → ClassId) (p1 : Int32) (p2 : Int32) (p3 : Int32) (p4 : Int32) (post : Int32 → Prop) (hv : v_X8_isNearer p1 p2 p3 p4 post) : Met l yX8_isNearer wsX8_isNearer ({ frames := 1, cells := 0, slots := 0, locals := 21 }) (va_Pc [.int p1, .int p2, .int p3, .int p4] (x_R D cT (([] : va_W)))) (vp_Si post) 0 0 (fun _ => False) := by
  refine Met.ofW (cc := cX8_isNearer) (maxL := 8) (ret := (some .boolean)) (by decide) rfl ?_
  intro p e s m args below meth c s₁ B hml hpre
  obtain ⟨rfl, hP, hK, hN⟩ := hpre
  have hx := B.exec
  have hb := B.bytes
  have hr := B.returns
  have hts := atoms_spec (ws := wsX8_isNearer) B.pre
  have hown : s.vm.findClass RX8 = some m.cls := findClass_of_methodNamed B.named
  have hlocks := B.notSynchronized
  generalize hAe : (fun _ : Nat => False) = A at hN
  have hS : va_S A s.heap s.heap [] := va_S.rf
  have hl := lv_entry ([.int p1, .int p2, .int p3, .int p4]) (n := 8) (Nat.le_of_ble_eq_true rfl)
  rw [lg_entry_eq]
  generalize (lg_sl ([.int p1, .int p2, .int p3, .int p4]) ++ List.replicate (8 - (lg_sl ([.int p1, .int p2, .int p3, .int p4])).length) Slot.unset).toArray = ls at hl ⊢
  have hl : lv_has ls 8 [(0, .int p1), (1, .int p2), (2, .int p3), (3, .int p4)] := hl
  have k_absl : (Cond.methodLink RX8 210 Lib.MathLoose.abs_long.x).before ([.int p1, .int p2, .int p3, .int p4] : List Value).toArray s = true := hts _ (by decide +kernel)
  have k_abss : (Cond.static Lib.MathLoose.abs_long.x).before ([.int p1, .int p2, .int p3, .int p4] : List Value).toArray s = true := hts _ (by decide +kernel)
  have k_absi : (Cond.initialized "java/lang/Math").before ([.int p1, .int p2, .int p3, .int p4] : List Value).toArray s = true := hts _ (by decide +kernel)
  have k_absc : (Cond.code Lib.MathLoose.abs_long.x Lib.MathLoose.abs_long.code 2 (some .long)).before ([.int p1, .int p2, .int p3, .int p4] : List Value).toArray s = true := hts _ (by decide +kernel)
  refine lv_iload_n hx hb dX8_isNearer_0 rfl (lv_at hl 0 rfl) ?_
  refine lv_i2l hx hb dX8_isNearer_1 rfl ?_
  refine lv_iload_n hx hb dX8_isNearer_2 rfl (lv_at hl 1 rfl) ?_
  refine lv_i2l hx hb dX8_isNearer_3 rfl ?_
  refine lv_iload_n hx hb dX8_isNearer_4 rfl (lv_at hl 2 rfl) ?_
  refine lv_i2l hx hb dX8_isNearer_5 rfl ?_
  refine lv_lmul hx hb dX8_isNearer_6 ?_
  refine lv_lsub hx hb dX8_isNearer_7 ?_
  refine va_mabs_long hx hb (hml.trans hl.1.symm) hown k_absl k_abss k_absi k_absc (Nat.le_of_ble_eq_true rfl) (Nat.le_of_ble_eq_true rfl) (Nat.zero_le _) (Nat.zero_le _) dX8_isNearer_8 ?_
  refine lv_topl (fun x_1 ex_1 => ?_)
  have hv := hv x_1 ex_1
  refine lv_lstore (lv' := [(4, .long x_1), (0, .int p1), (1, .int p2), (2, .int p3), (3, .int p4)]) hx hb dX8_isNearer_11 hl (by decide) rfl (fun ls hl => ?_)
  refine lv_iload_n hx hb dX8_isNearer_13 rfl (lv_at hl 1 rfl) ?_
  refine lv_i2l hx hb dX8_isNearer_14 rfl ?_
  refine lv_iload_n hx hb dX8_isNearer_15 rfl (lv_at hl 2 rfl) ?_
  refine lv_i2l hx hb dX8_isNearer_16 rfl ?_
  refine lv_iload_n hx hb dX8_isNearer_17 rfl (lv_at hl 4 rfl) ?_
  refine lv_i2l hx hb dX8_isNearer_18 rfl ?_
  refine lv_lmul hx hb dX8_isNearer_19 ?_
  refine lv_lsub hx hb dX8_isNearer_20 ?_
  refine va_mabs_long hx hb (hml.trans hl.1.symm) hown k_absl k_abss k_absi k_absc (Nat.le_of_ble_eq_true rfl) (Nat.le_of_ble_eq_true rfl) (Nat.zero_le _) (Nat.zero_le _) dX8_isNearer_21 ?_
  refine lv_topl (fun x_2 ex_2 => ?_)
  have hv := hv x_2 ex_2
  refine lv_lstore (lv' := [(6, .long x_2), (4, .long x_1), (0, .int p1), (1, .int p2), (2, .int p3), (3, .int p4)]) hx hb dX8_isNearer_24 hl (by decide) rfl (fun ls hl => ?_)
  refine lv_lload hx hb dX8_isNearer_26 (lv_at hl 1 rfl) ?_
  refine lv_iload_n hx hb dX8_isNearer_28 rfl (lv_at hl 5 rfl) ?_
  refine lv_i2l hx hb dX8_isNearer_29 rfl ?_
  refine lv_lmul hx hb dX8_isNearer_30 ?_
  refine lv_lload hx hb dX8_isNearer_31 (lv_at hl 0 rfl) ?_
  refine lv_iload_n hx hb dX8_isNearer_33 rfl (lv_at hl 4 rfl) ?_
  refine lv_i2l hx hb dX8_isNearer_34 rfl ?_
  refine lv_lmul hx hb dX8_isNearer_35 ?_
  refine W.lcmp hx hb dX8_isNearer_36 ?_
  refine lv_if_ge (tgt := 44) hx hb dX8_isNearer_37 (by decide) (fun c_3 => ?_) (fun c_3 => ?_)
  · have hv := hv.1 c_3
    refine lv_iconst (v := 0) hx hb dX8_isNearer_44 (by decide) ?_
    exact W.zret (v := 0) hx hb hr rfl (fun t ht hW => ⟨_, rfl, hv, ht⟩) (fun q h => absurd h List.not_mem_nil) dX8_isNearer_45
  · have hv := hv.2 c_3
    refine lv_iconst (v := 1) hx hb dX8_isNearer_40 (by decide) ?_
    refine lv_goto (tgt := 45) hx hb dX8_isNearer_41 (by decide) ?_
    exact W.zret (v := 1) hx hb hr rfl (fun t ht hW => ⟨_, rfl, hv, ht⟩) (fun q h => absurd h List.not_mem_nil) dX8_isNearer_45
def v_X5_takes (p1 : Int32) (p2 : Int32) (post : Int32 → Prop) : Prop := v_X8_within p1 0 (5 - 1) (fun r_1 => (((r_1 = 0) → post 0) ∧ ((¬ (r_1 = 0)) → ∃ k_3 : Nat, k_3 < 5 ∧ p1 = nI k_3 ∧ v_X8_within p2 0 (x_hi k_3) (fun r_4 => (((r_4 = 0) → post 0) ∧ ((¬ (r_4 = 0)) → post 1))))))
set_option maxHeartbeats 4000000 in
set_option maxRecDepth 100000 in
theorem c_X5_takes (l : Launch) (D : va_G) (cT : Nat → ClassId) (p1 : Int32) (p2 : Int32) (post : Int32 → Prop) (hv : v_X5_takes p1 p2 post) : Met l yX5_takes wsX5_takes ({ frames := 1, cells := 0, slots := 0, locals := 22 }) (va_Pc [.int p1, .int p2] (x_R D cT (([] : va_W)))) (vp_Si post) 0 0 (fun _ => False) := by
  refine Met.ofW (cc := cX5_takes) (maxL := 2) (ret := (some .boolean)) (by decide) rfl ?_
  intro p e s m args below meth c s₁ B hml hpre
  obtain ⟨rfl, hP, hK, hN⟩ := hpre
  have hx := B.exec
  have hb := B.bytes
  have hr := B.returns
  have hts := atoms_spec (ws := wsX5_takes) B.pre
  have hown : s.vm.findClass RX5 = some m.cls := findClass_of_methodNamed B.named
  have hlocks := B.notSynchronized
  generalize hAe : (fun _ : Nat => False) = A at hN
  have hS : va_S A s.heap s.heap [] := va_S.rf
  have hl := lv_entry ([.int p1, .int p2]) (n := 2) (Nat.le_of_ble_eq_true rfl)
  rw [lg_entry_eq]
  generalize (lg_sl ([.int p1, .int p2]) ++ List.replicate (2 - (lg_sl ([.int p1, .int p2])).length) Slot.unset).toArray = ls at hl ⊢
  have hl : lv_has ls 2 [(0, .int p1), (1, .int p2)] := hl
  obtain ⟨⟨-, -, -, -, -, -, nF, -⟩, -, tb, hZ, hT⟩ := id hN
  have w_18 : va_CN (headSpec wsX5_takes ({ frames := 1, cells := 0, slots := 0, locals := 22 })).room s ([.int p1, .int p2] : List Value).toArray RX5 18 yX8_within RX8 cX8_within 3 (some .boolean) wsX8_within ({ frames := 0, cells := 0, slots := 0, locals := 0 } : Room) 0 0 3 ∧ (Cond.static yX8_within).before ([.int p1, .int p2] : List Value).toArray s = true ∧ True := ⟨va_cnB 3 hts gX5_takes_X8_within_n18 rfl rfl rfl (hN.1.2.2.2.2.2.2.2.1) (hts (.initialized RX8) (by decide +kernel)) (by decide +kernel) ⟨Nat.le_of_ble_eq_true rfl, Nat.le_of_ble_eq_true rfl⟩, hts _ (by decide +kernel), trivial⟩
  refine lv_iload_n hx hb dX5_takes_0 rfl (lv_at hl 0 rfl) ?_
  refine lv_iconst (v := 0) hx hb dX5_takes_1 (by decide) ?_
  refine va_getsN hx hb hZ hS hown (va_Nw.use rfl nF) (fun _ h9 => h9) dX5_takes_2 ?_
  refine va_tlen hx hb hT hS (v := 5) rfl dX5_takes_5 ?_
  refine lv_iconst (v := 1) hx hb dX5_takes_6 (by decide) ?_
  refine lv_isub hx hb dX5_takes_7 ?_
  refine x_rN (As := [.int p1, .int 0, .int (5 - 1)]) (rest := []) ⟨hx, hb, hml, hown, hts⟩ (c_X8_within l D cT p1 0 (5 - 1) _ hv) w_18 hK hS hN rfl hl.1 rfl (Nat.le_of_ble_eq_true rfl) dX5_takes_8 ⟨Nat.le_of_ble_eq_true rfl, Nat.le_of_ble_eq_true rfl⟩ (fun r_1 hv => ?_)
  refine lv_if_eq (tgt := 31) hx hb dX5_takes_11 (by decide) (fun c_2 => ?_) (fun c_2 => ?_)
  · have hv := hv.1 c_2
    refine lv_iconst (v := 0) hx hb dX5_takes_31 (by decide) ?_
    exact W.zret (v := 0) hx hb hr rfl (fun t ht hW => ⟨_, rfl, hv, ht⟩) (fun q h => absurd h List.not_mem_nil) dX5_takes_32
  · have hv := hv.2 c_2
    refine lv_iload_n hx hb dX5_takes_14 rfl (lv_at hl 1 rfl) ?_
    refine lv_iconst (v := 0) hx hb dX5_takes_15 (by decide) ?_
    refine va_getsN hx hb hZ hS hown (va_Nw.use rfl nF) (fun _ h9 => h9) dX5_takes_16 ?_
    refine lv_iload_n hx hb dX5_takes_19 rfl (lv_at hl 0 rfl) ?_
    obtain ⟨k_3, hk_3, ik_3, hv⟩ := hv
    refine x_tld hx hb hT hS k_3 ik_3 hk_3 (by decide) dX5_takes_20 ?_
    refine x_rN (As := [.int p2, .int 0, .int (x_hi k_3)]) (rest := []) ⟨hx, hb, hml, hown, hts⟩ (c_X8_within l D cT p2 0 (x_hi k_3) _ hv) w_18 hK hS hN rfl hl.1 rfl (Nat.le_of_ble_eq_true rfl) dX5_takes_21 ⟨Nat.le_of_ble_eq_true rfl, Nat.le_of_ble_eq_true rfl⟩ (fun r_4 hv => ?_)
    refine lv_if_eq (tgt := 31) hx hb dX5_takes_24 (by decide) (fun c_5 => ?_) (fun c_5 => ?_)
    · have hv := hv.1 c_5
      refine lv_iconst (v := 0) hx hb dX5_takes_31 (by decide) ?_
      exact W.zret (v := 0) hx hb hr rfl (fun t ht hW => ⟨_, rfl, hv, ht⟩) (fun q h => absurd h List.not_mem_nil) dX5_takes_32
    · have hv := hv.2 c_5
      refine lv_iconst (v := 1) hx hb dX5_takes_27 (by decide) ?_
      refine lv_goto (tgt := 32) hx hb dX5_takes_28 (by decide) ?_
      exact W.zret (v := 1) hx hb hr rfl (fun t ht hW => ⟨_, rfl, hv, ht⟩) (fun q h => absurd h List.not_mem_nil) dX5_takes_32
def v_J6_bitCount_0f7a4 (p1 : Int32) (post : Int32 → Prop) : Prop := ∀ x_1 : Int32, x_1 = (p1 - ((x_ushr p1 1) &&& 1431655765)) → ∀ x_2 : Int32, x_2 = ((x_1 &&& 858993459) + ((x_ushr x_1 2) &&& 858993459)) → ∀ x_3 : Int32, x_3 = ((x_2 + (x_ushr x_2 4)) &&& 252645135) → ∀ x_4 : Int32, x_4 = (x_3 + (x_ushr x_3 8)) → ∀ x_5 : Int32, x_5 = (x_4 + (x_ushr x_4 16)) → post (x_5 &&& 63)
set_option maxHeartbeats 4000000 in
set_option maxRecDepth 100000 in
theorem c_J6_bitCount_0f7a4 (l : Launch) (D : va_G) (cT : Nat → ClassId) (p1 : Int32) (post : Int32 → Prop) (hv : v_J6_bitCount_0f7a4 p1 post) : Met l yJ6_bitCount_0f7a4 wsJ6_bitCount_0f7a4 ({ frames := 0, cells := 0, slots := 0, locals := 0 }) (va_Pc [.int p1] (x_R D cT (([] : va_W)))) (vp_Si post) 0 0 (fun _ => False) := by
  refine Met.ofW (cc := cJ6_bitCount_0f7a4) (maxL := 1) (ret := (some .int)) (by decide) rfl ?_
  intro p e s m args below meth c s₁ B hml hpre
  obtain ⟨rfl, hP, hK, hN⟩ := hpre
  have hx := B.exec
  have hb := B.bytes
  have hr := B.returns
  have hts := atoms_spec (ws := wsJ6_bitCount_0f7a4) B.pre
  have hown : s.vm.findClass RJ6 = some m.cls := findClass_of_methodNamed B.named
  have hlocks := B.notSynchronized
  generalize hAe : (fun _ : Nat => False) = A at hN
  have hS : va_S A s.heap s.heap [] := va_S.rf
  have hl := lv_entry ([.int p1]) (n := 1) (Nat.le_of_ble_eq_true rfl)
  rw [lg_entry_eq]
  generalize (lg_sl ([.int p1]) ++ List.replicate (1 - (lg_sl ([.int p1])).length) Slot.unset).toArray = ls at hl ⊢
  have hl : lv_has ls 1 [(0, .int p1)] := hl
  have k_265 : (Cond.constant RJ6 265 (1431655765)).before ([.int p1] : List Value).toArray s = true := hts _ (by decide +kernel)
  have k_266 : (Cond.constant RJ6 266 (858993459)).before ([.int p1] : List Value).toArray s = true := hts _ (by decide +kernel)
  have k_267 : (Cond.constant RJ6 267 (252645135)).before ([.int p1] : List Value).toArray s = true := hts _ (by decide +kernel)
  refine lv_iload_n hx hb dJ6_bitCount_0f7a4_0 rfl (lv_at hl 0 rfl) ?_
  refine lv_iload_n hx hb dJ6_bitCount_0f7a4_1 rfl (lv_at hl 0 rfl) ?_
  refine lv_iconst (v := 1) hx hb dJ6_bitCount_0f7a4_2 (by decide) ?_
  refine lv_iushr (v := x_ushr p1 1) hx hb dJ6_bitCount_0f7a4_3 rfl ?_
  refine lv_ldcw (v := 1431655765) hx hb hown k_265 dJ6_bitCount_0f7a4_4 ?_
  refine lv_iand hx hb dJ6_bitCount_0f7a4_7 ?_
  refine lv_isub hx hb dJ6_bitCount_0f7a4_8 ?_
  refine lv_topi (fun x_1 ex_1 => ?_)
  have hv := hv x_1 ex_1
  refine lv_istore_n (lv' := [(0, .int x_1)]) hx hb dJ6_bitCount_0f7a4_9 rfl hl (by decide) rfl (fun ls hl => ?_)
  refine lv_iload_n hx hb dJ6_bitCount_0f7a4_10 rfl (lv_at hl 0 rfl) ?_
  refine lv_ldcw (v := 858993459) hx hb hown k_266 dJ6_bitCount_0f7a4_11 ?_
  refine lv_iand hx hb dJ6_bitCount_0f7a4_14 ?_
  refine lv_iload_n hx hb dJ6_bitCount_0f7a4_15 rfl (lv_at hl 0 rfl) ?_
  refine lv_iconst (v := 2) hx hb dJ6_bitCount_0f7a4_16 (by decide) ?_
  refine lv_iushr (v := x_ushr x_1 2) hx hb dJ6_bitCount_0f7a4_17 rfl ?_
  refine lv_ldcw (v := 858993459) hx hb hown k_266 dJ6_bitCount_0f7a4_18 ?_
  refine lv_iand hx hb dJ6_bitCount_0f7a4_21 ?_
  refine lv_iadd hx hb dJ6_bitCount_0f7a4_22 ?_
  refine lv_topi (fun x_2 ex_2 => ?_)
  have hv := hv x_2 ex_2
  refine lv_istore_n (lv' := [(0, .int x_2)]) hx hb dJ6_bitCount_0f7a4_23 rfl hl (by decide) rfl (fun ls hl => ?_)
  refine lv_iload_n hx hb dJ6_bitCount_0f7a4_24 rfl (lv_at hl 0 rfl) ?_
  refine lv_iload_n hx hb dJ6_bitCount_0f7a4_25 rfl (lv_at hl 0 rfl) ?_
  refine lv_iconst (v := 4) hx hb dJ6_bitCount_0f7a4_26 (by decide) ?_
  refine lv_iushr (v := x_ushr x_2 4) hx hb dJ6_bitCount_0f7a4_27 rfl ?_
  refine lv_iadd hx hb dJ6_bitCount_0f7a4_28 ?_
  refine lv_ldcw (v := 252645135) hx hb hown k_267 dJ6_bitCount_0f7a4_29 ?_
  refine lv_iand hx hb dJ6_bitCount_0f7a4_32 ?_
  refine lv_topi (fun x_3 ex_3 => ?_)
  have hv := hv x_3 ex_3
  refine lv_istore_n (lv' := [(0, .int x_3)]) hx hb dJ6_bitCount_0f7a4_33 rfl hl (by decide) rfl (fun ls hl => ?_)
  refine lv_iload_n hx hb dJ6_bitCount_0f7a4_34 rfl (lv_at hl 0 rfl) ?_
  refine lv_iload_n hx hb dJ6_bitCount_0f7a4_35 rfl (lv_at hl 0 rfl) ?_
  refine lv_bipush (v := 8) hx hb dJ6_bitCount_0f7a4_36 (by decide) ?_
  refine lv_iushr (v := x_ushr x_3 8) hx hb dJ6_bitCount_0f7a4_38 rfl ?_
  refine lv_iadd hx hb dJ6_bitCount_0f7a4_39 ?_
  refine lv_topi (fun x_4 ex_4 => ?_)
  have hv := hv x_4 ex_4
  refine lv_istore_n (lv' := [(0, .int x_4)]) hx hb dJ6_bitCount_0f7a4_40 rfl hl (by decide) rfl (fun ls hl => ?_)
  refine lv_iload_n hx hb dJ6_bitCount_0f7a4_41 rfl (lv_at hl 0 rfl) ?_
  refine lv_iload_n hx hb dJ6_bitCount_0f7a4_42 rfl (lv_at hl 0 rfl) ?_
  refine lv_bipush (v := 16) hx hb dJ6_bitCount_0f7a4_43 (by decide) ?_
  refine lv_iushr (v := x_ushr x_4 16) hx hb dJ6_bitCount_0f7a4_45 rfl ?_
  refine lv_iadd hx hb dJ6_bitCount_0f7a4_46 ?_
  refine lv_topi (fun x_5 ex_5 => ?_)
  have hv := hv x_5 ex_5
  refine lv_istore_n (lv' := [(0, .int x_5)]) hx hb dJ6_bitCount_0f7a4_47 rfl hl (by decide) rfl (fun ls hl => ?_)
  refine lv_iload_n hx hb dJ6_bitCount_0f7a4_48 rfl (lv_at hl 0 rfl) ?_
  refine lv_bipush (v := 63) hx hb dJ6_bitCount_0f7a4_49 (by decide) ?_
  refine lv_iand hx hb dJ6_bitCount_0f7a4_51 ?_
  exact W.iret (v := (x_5 &&& 63)) hx hb hr (fun t ht hW => ⟨_, rfl, hv, ht⟩) (fun q h => absurd h List.not_mem_nil) dJ6_bitCount_0f7a4_52
def v_X9_isIn (p1 : Int32) (p2 : Int32) (p3 : Int32) (post : Int32 → Prop) : Prop := (((p1 < p2) → post 0) ∧ ((¬ (p1 < p2)) → (((p3 < p1) → post 0) ∧ ((¬ (p3 < p1)) → post 1))))
set_option maxHeartbeats 4000000 in
set_option maxRecDepth 100000 in
theorem c_X9_isIn (l : Launch) (D : va_G) (cT : Nat → ClassId) (p1 : Int32) (p2 : Int32) (p3 : Int32) (post : Int32 → Prop) (hv : v_X9_isIn p1 p2 p3 post) : Met l yX9_isIn wsX9_isIn ({ frames := 0, cells := 0, slots := 0, locals := 0 }) (va_Pc [.int p1, .int p2, .int p3] (x_R D cT (([] : va_W)))) (vp_Si post) 0 0 (fun _ => False) := by
  refine Met.ofW (cc := cX9_isIn) (maxL := 3) (ret := (some .boolean)) (by decide) rfl ?_
  intro p e s m args below meth c s₁ B hml hpre
  obtain ⟨rfl, hP, hK, hN⟩ := hpre
  have hx := B.exec
  have hb := B.bytes
  have hr := B.returns
  have hts := atoms_spec (ws := wsX9_isIn) B.pre
  have hown : s.vm.findClass RX9 = some m.cls := findClass_of_methodNamed B.named
  have hlocks := B.notSynchronized
  generalize hAe : (fun _ : Nat => False) = A at hN
  have hS : va_S A s.heap s.heap [] := va_S.rf
  have hl := lv_entry ([.int p1, .int p2, .int p3]) (n := 3) (Nat.le_of_ble_eq_true rfl)
  rw [lg_entry_eq]
  generalize (lg_sl ([.int p1, .int p2, .int p3]) ++ List.replicate (3 - (lg_sl ([.int p1, .int p2, .int p3])).length) Slot.unset).toArray = ls at hl ⊢
  have hl : lv_has ls 3 [(0, .int p1), (1, .int p2), (2, .int p3)] := hl
  refine lv_iload_n hx hb dX9_isIn_0 rfl (lv_at hl 0 rfl) ?_
  refine lv_iload_n hx hb dX9_isIn_1 rfl (lv_at hl 1 rfl) ?_
  refine lv_icmp_lt (tgt := 14) hx hb dX9_isIn_2 (by decide) (fun c_1 => ?_) (fun c_1 => ?_)
  · have hv := hv.1 c_1
    refine lv_iconst (v := 0) hx hb dX9_isIn_14 (by decide) ?_
    exact W.zret (v := 0) hx hb hr rfl (fun t ht hW => ⟨_, rfl, hv, ht⟩) (fun q h => absurd h List.not_mem_nil) dX9_isIn_15
  · have hv := hv.2 c_1
    refine lv_iload_n hx hb dX9_isIn_5 rfl (lv_at hl 0 rfl) ?_
    refine lv_iload_n hx hb dX9_isIn_6 rfl (lv_at hl 2 rfl) ?_
    refine lv_icmp_gt (tgt := 14) hx hb dX9_isIn_7 (by decide) (fun c_2 => ?_) (fun c_2 => ?_)
    · have hv := hv.1 c_2
      refine lv_iconst (v := 0) hx hb dX9_isIn_14 (by decide) ?_
      exact W.zret (v := 0) hx hb hr rfl (fun t ht hW => ⟨_, rfl, hv, ht⟩) (fun q h => absurd h List.not_mem_nil) dX9_isIn_15
    · have hv := hv.2 c_2
      refine lv_iconst (v := 1) hx hb dX9_isIn_10 (by decide) ?_
      refine lv_goto (tgt := 15) hx hb dX9_isIn_11 (by decide) ?_
      exact W.zret (v := 1) hx hb hr rfl (fun t ht hW => ⟨_, rfl, hv, ht⟩) (fun q h => absurd h List.not_mem_nil) dX9_isIn_15
def v_X9_rowOf (p1 : Int32) (p2 : Int32) (p3 : Int32) (post : Int32 → Prop) : Prop := (((¬ (p3 = 1)) → post p1) ∧ ((p3 = 1) → post ((2 * p1) + p2)))
set_option maxHeartbeats 4000000 in
set_option maxRecDepth 100000 in
theorem c_X9_rowOf (l : Launch) (D : va_G) (cT : Nat → ClassId) (p1 : Int32) (p2 : Int32) (p3 : Int32) (post : Int32 → Prop) (hv : v_X9_rowOf p1 p2 p3 post) : Met l yX9_rowOf wsX9_rowOf ({ frames := 0, cells := 0, slots := 0, locals := 0 }) (va_Pc [.int p1, .int p2, .int p3] (x_R D cT (([] : va_W)))) (vp_Si post) 0 0 (fun _ => False) := by
  refine Met.ofW (cc := cX9_rowOf) (maxL := 3) (ret := (some .int)) (by decide) rfl ?_
  intro p e s m args below meth c s₁ B hml hpre
  obtain ⟨rfl, hP, hK, hN⟩ := hpre
  have hx := B.exec
  have hb := B.bytes
  have hr := B.returns
  have hts := atoms_spec (ws := wsX9_rowOf) B.pre
  have hown : s.vm.findClass RX9 = some m.cls := findClass_of_methodNamed B.named
  have hlocks := B.notSynchronized
  generalize hAe : (fun _ : Nat => False) = A at hN
  have hS : va_S A s.heap s.heap [] := va_S.rf
  have hl := lv_entry ([.int p1, .int p2, .int p3]) (n := 3) (Nat.le_of_ble_eq_true rfl)
  rw [lg_entry_eq]
  generalize (lg_sl ([.int p1, .int p2, .int p3]) ++ List.replicate (3 - (lg_sl ([.int p1, .int p2, .int p3])).length) Slot.unset).toArray = ls at hl ⊢
  have hl : lv_has ls 3 [(0, .int p1), (1, .int p2), (2, .int p3)] := hl
  refine lv_iload_n hx hb dX9_rowOf_0 rfl (lv_at hl 2 rfl) ?_
  refine lv_iconst (v := 1) hx hb dX9_rowOf_1 (by decide) ?_
  refine lv_icmp_ne (tgt := 13) hx hb dX9_rowOf_2 (by decide) (fun c_1 => ?_) (fun c_1 => ?_)
  · have hv := hv.1 c_1
    refine lv_iload_n hx hb dX9_rowOf_13 rfl (lv_at hl 0 rfl) ?_
    exact W.iret (v := p1) hx hb hr (fun t ht hW => ⟨_, rfl, hv, ht⟩) (fun q h => absurd h List.not_mem_nil) dX9_rowOf_14
  · have hv := hv.2 c_1
    refine lv_iconst (v := 2) hx hb dX9_rowOf_5 (by decide) ?_
    refine lv_iload_n hx hb dX9_rowOf_6 rfl (lv_at hl 0 rfl) ?_
    refine lv_imul hx hb dX9_rowOf_7 ?_
    refine lv_iload_n hx hb dX9_rowOf_8 rfl (lv_at hl 1 rfl) ?_
    refine lv_iadd hx hb dX9_rowOf_9 ?_
    refine lv_goto (tgt := 14) hx hb dX9_rowOf_10 (by decide) ?_
    exact W.iret (v := ((2 * p1) + p2)) hx hb hr (fun t ht hW => ⟨_, rfl, hv, ht⟩) (fun q h => absurd h List.not_mem_nil) dX9_rowOf_14
def v_X9_isValue (p1 : Int32) (p2 : Int32) (post : Int32 → Prop) : Prop := (((p1 = 0) → v_X9_isIn p2 0 1023 (fun r_3 => x_bool r_3 ∧ post r_3)) ∧ ((p1 = 1) → v_X9_isIn p2 0 64 (fun r_5 => x_bool r_5 ∧ post r_5)) ∧ ((p1 = 2) → v_X9_isIn p2 0 7 (fun r_7 => x_bool r_7 ∧ post r_7)) ∧ ((p1 = 3) → v_X9_isIn p2 0 255 (fun r_9 => x_bool r_9 ∧ post r_9)) ∧ ((p1 = 4) → v_X9_isIn p2 0 255 (fun r_11 => x_bool r_11 ∧ post r_11)) ∧ ((Int32.toInt p1 < 0 ∨ 4 < Int32.toInt p1) → post 0))
set_option maxHeartbeats 4000000 in
set_option maxRecDepth 100000 in
theorem c_X9_isValue (l : Launch) (D : va_G) (cT : Nat → ClassId) (p1 : Int32) (p2 : Int32) (post : Int32 → Prop) (hv : v_X9_isValue p1 p2 post) : Met l yX9_isValue wsX9_isValue ({ frames := 1, cells := 0, slots := 0, locals := 22 }) (va_Pc [.int p1, .int p2] (x_R D cT (([] : va_W)))) (vp_Si post) 0 0 (fun _ => False) := by
  refine Met.ofW (cc := cX9_isValue) (maxL := 2) (ret := (some .boolean)) (by decide) rfl ?_
  intro p e s m args below meth c s₁ B hml hpre
  obtain ⟨rfl, hP, hK, hN⟩ := hpre
  have hx := B.exec
  have hb := B.bytes
  have hr := B.returns
  have hts := atoms_spec (ws := wsX9_isValue) B.pre
  have hown : s.vm.findClass RX9 = some m.cls := findClass_of_methodNamed B.named
  have hlocks := B.notSynchronized
  generalize hAe : (fun _ : Nat => False) = A at hN
  have hS : va_S A s.heap s.heap [] := va_S.rf
  have hl := lv_entry ([.int p1, .int p2]) (n := 2) (Nat.le_of_ble_eq_true rfl)
  rw [lg_entry_eq]
  generalize (lg_sl ([.int p1, .int p2]) ++ List.replicate (2 - (lg_sl ([.int p1, .int p2])).length) Slot.unset).toArray = ls at hl ⊢
  have hl : lv_has ls 2 [(0, .int p1), (1, .int p2)] := hl
  have w_17 : CallB (headSpec wsX9_isValue ({ frames := 1, cells := 0, slots := 0, locals := 22 })).room s ([.int p1, .int p2] : List Value).toArray RX9 17 yX9_isIn cX9_isIn 3 (some .boolean) wsX9_isIn ({ frames := 0, cells := 0, slots := 0, locals := 0 } : Room) 0 0 3 ∧ (Cond.static yX9_isIn).before ([.int p1, .int p2] : List Value).toArray s = true := va_cwS 3 hts gX9_isValue_X9_isIn rfl rfl rfl (by decide +kernel) ⟨Nat.le_of_ble_eq_true rfl, Nat.le_of_ble_eq_true rfl⟩
  refine lv_iload_n hx hb dX9_isValue_0 rfl (lv_at hl 0 rfl) ?_
  rcases x_sw p1 5 (by decide) with ⟨k_1, hk_1, c_2⟩ | c_2
  · match k_1, hk_1, c_2 with
    | 0, _, c_2 =>
      have hv := hv.1 c_2
      refine lv_tableIn (off := 35) (tgt := 36) hx hb dX9_isValue_1 (by rw [c_2]; decide) (by rw [c_2]; decide) (by rw [c_2]; rfl) (by decide) ?_
      refine lv_iload_n hx hb dX9_isValue_36 rfl (lv_at hl 1 rfl) ?_
      refine lv_iconst (v := 0) hx hb dX9_isValue_37 (by decide) ?_
      refine lv_sipush (v := 1023) hx hb dX9_isValue_38 (by decide) ?_
      refine x_rS (As := [.int p2, .int 0, .int 1023]) (rest := []) ⟨hx, hb, hml, hown, hts⟩ (c_X9_isIn l D cT p2 0 1023 _ hv) w_17 hK hS hN rfl hl.1 rfl (Nat.le_of_ble_eq_true rfl) dX9_isValue_41 ⟨Nat.le_of_ble_eq_true rfl, Nat.le_of_ble_eq_true rfl⟩ (fun r_3 hv => ?_)
      obtain ⟨h_4, hv⟩ := hv
      exact W.zret (v := r_3) hx hb hr (x_bool_n h_4) (fun t ht hW => ⟨_, rfl, hv, ht⟩) (fun q h => absurd h List.not_mem_nil) dX9_isValue_44
    | 1, _, c_2 =>
      have hv := hv.2.1 c_2
      refine lv_tableIn (off := 44) (tgt := 45) hx hb dX9_isValue_1 (by rw [c_2]; decide) (by rw [c_2]; decide) (by rw [c_2]; rfl) (by decide) ?_
      refine lv_iload_n hx hb dX9_isValue_45 rfl (lv_at hl 1 rfl) ?_
      refine lv_iconst (v := 0) hx hb dX9_isValue_46 (by decide) ?_
      refine lv_bipush (v := 64) hx hb dX9_isValue_47 (by decide) ?_
      refine x_rS (As := [.int p2, .int 0, .int 64]) (rest := []) ⟨hx, hb, hml, hown, hts⟩ (c_X9_isIn l D cT p2 0 64 _ hv) w_17 hK hS hN rfl hl.1 rfl (Nat.le_of_ble_eq_true rfl) dX9_isValue_49 ⟨Nat.le_of_ble_eq_true rfl, Nat.le_of_ble_eq_true rfl⟩ (fun r_5 hv => ?_)
      obtain ⟨h_6, hv⟩ := hv
      exact W.zret (v := r_5) hx hb hr (x_bool_n h_6) (fun t ht hW => ⟨_, rfl, hv, ht⟩) (fun q h => absurd h List.not_mem_nil) dX9_isValue_52
    | 2, _, c_2 =>
      have hv := hv.2.2.1 c_2
      refine lv_tableIn (off := 52) (tgt := 53) hx hb dX9_isValue_1 (by rw [c_2]; decide) (by rw [c_2]; decide) (by rw [c_2]; rfl) (by decide) ?_
      refine lv_iload_n hx hb dX9_isValue_53 rfl (lv_at hl 1 rfl) ?_
      refine lv_iconst (v := 0) hx hb dX9_isValue_54 (by decide) ?_
      refine lv_bipush (v := 7) hx hb dX9_isValue_55 (by decide) ?_
      refine x_rS (As := [.int p2, .int 0, .int 7]) (rest := []) ⟨hx, hb, hml, hown, hts⟩ (c_X9_isIn l D cT p2 0 7 _ hv) w_17 hK hS hN rfl hl.1 rfl (Nat.le_of_ble_eq_true rfl) dX9_isValue_57 ⟨Nat.le_of_ble_eq_true rfl, Nat.le_of_ble_eq_true rfl⟩ (fun r_7 hv => ?_)
      obtain ⟨h_8, hv⟩ := hv
      exact W.zret (v := r_7) hx hb hr (x_bool_n h_8) (fun t ht hW => ⟨_, rfl, hv, ht⟩) (fun q h => absurd h List.not_mem_nil) dX9_isValue_60
    | 3, _, c_2 =>
      have hv := hv.2.2.2.1 c_2
      refine lv_tableIn (off := 60) (tgt := 61) hx hb dX9_isValue_1 (by rw [c_2]; decide) (by rw [c_2]; decide) (by rw [c_2]; rfl) (by decide) ?_
      refine lv_iload_n hx hb dX9_isValue_61 rfl (lv_at hl 1 rfl) ?_
      refine lv_iconst (v := 0) hx hb dX9_isValue_62 (by decide) ?_
      refine lv_sipush (v := 255) hx hb dX9_isValue_63 (by decide) ?_
      refine x_rS (As := [.int p2, .int 0, .int 255]) (rest := []) ⟨hx, hb, hml, hown, hts⟩ (c_X9_isIn l D cT p2 0 255 _ hv) w_17 hK hS hN rfl hl.1 rfl (Nat.le_of_ble_eq_true rfl) dX9_isValue_66 ⟨Nat.le_of_ble_eq_true rfl, Nat.le_of_ble_eq_true rfl⟩ (fun r_9 hv => ?_)
      obtain ⟨h_10, hv⟩ := hv
      exact W.zret (v := r_9) hx hb hr (x_bool_n h_10) (fun t ht hW => ⟨_, rfl, hv, ht⟩) (fun q h => absurd h List.not_mem_nil) dX9_isValue_69
    | 4, _, c_2 =>
      have hv := hv.2.2.2.2.1 c_2
      refine lv_tableIn (off := 60) (tgt := 61) hx hb dX9_isValue_1 (by rw [c_2]; decide) (by rw [c_2]; decide) (by rw [c_2]; rfl) (by decide) ?_
      refine lv_iload_n hx hb dX9_isValue_61 rfl (lv_at hl 1 rfl) ?_
      refine lv_iconst (v := 0) hx hb dX9_isValue_62 (by decide) ?_
      refine lv_sipush (v := 255) hx hb dX9_isValue_63 (by decide) ?_
      refine x_rS (As := [.int p2, .int 0, .int 255]) (rest := []) ⟨hx, hb, hml, hown, hts⟩ (c_X9_isIn l D cT p2 0 255 _ hv) w_17 hK hS hN rfl hl.1 rfl (Nat.le_of_ble_eq_true rfl) dX9_isValue_66 ⟨Nat.le_of_ble_eq_true rfl, Nat.le_of_ble_eq_true rfl⟩ (fun r_11 hv => ?_)
      obtain ⟨h_12, hv⟩ := hv
      exact W.zret (v := r_11) hx hb hr (x_bool_n h_12) (fun t ht hW => ⟨_, rfl, hv, ht⟩) (fun q h => absurd h List.not_mem_nil) dX9_isValue_69
    | (k + 5), hk, _ => exact absurd hk (by omega)
  · have hv := hv.2.2.2.2.2 c_2
    refine lv_tableOut (tgt := 70) hx hb dX9_isValue_1 c_2 (by decide) ?_
    refine lv_iconst (v := 0) hx hb dX9_isValue_70 (by decide) ?_
    exact W.zret (v := 0) hx hb hr rfl (fun t ht hW => ⟨_, rfl, hv, ht⟩) (fun q h => absurd h List.not_mem_nil) dX9_isValue_71
def v_X9_bytesOf (p1 : Int32) (post : Int32 → Prop) : Prop := post (((p1 + 7) / 8) + 1)
set_option maxHeartbeats 4000000 in
set_option maxRecDepth 100000 in
theorem c_X9_bytesOf (l : Launch) (D : va_G) (cT : Nat → ClassId) (p1 : Int32) (post : Int32 → Prop) (hv : v_X9_bytesOf p1 post) : Met l yX9_bytesOf wsX9_bytesOf ({ frames := 0, cells := 0, slots := 0, locals := 0 }) (va_Pc [.int p1] (x_R D cT (([] : va_W)))) (vp_Si post) 0 0 (fun _ => False) := by
  refine Met.ofW (cc := cX9_bytesOf) (maxL := 1) (ret := (some .int)) (by decide) rfl ?_
  intro p e s m args below meth c s₁ B hml hpre
  obtain ⟨rfl, hP, hK, hN⟩ := hpre
  have hx := B.exec
  have hb := B.bytes
  have hr := B.returns
  have hts := atoms_spec (ws := wsX9_bytesOf) B.pre
  have hown : s.vm.findClass RX9 = some m.cls := findClass_of_methodNamed B.named
  have hlocks := B.notSynchronized
  generalize hAe : (fun _ : Nat => False) = A at hN
  have hS : va_S A s.heap s.heap [] := va_S.rf
  have hl := lv_entry ([.int p1]) (n := 1) (Nat.le_of_ble_eq_true rfl)
  rw [lg_entry_eq]
  generalize (lg_sl ([.int p1]) ++ List.replicate (1 - (lg_sl ([.int p1])).length) Slot.unset).toArray = ls at hl ⊢
  have hl : lv_has ls 1 [(0, .int p1)] := hl
  refine lv_iload_n hx hb dX9_bytesOf_0 rfl (lv_at hl 0 rfl) ?_
  refine lv_bipush (v := 7) hx hb dX9_bytesOf_1 (by decide) ?_
  refine lv_iadd hx hb dX9_bytesOf_3 ?_
  refine lv_bipush (v := 8) hx hb dX9_bytesOf_4 (by decide) ?_
  refine lv_idiv hx hb dX9_bytesOf_6 (by decide) ?_
  refine lv_iconst (v := 1) hx hb dX9_bytesOf_7 (by decide) ?_
  refine lv_iadd hx hb dX9_bytesOf_8 ?_
  exact W.iret (v := (((p1 + 7) / 8) + 1)) hx hb hr (fun t ht hW => ⟨_, rfl, hv, ht⟩) (fun q h => absurd h List.not_mem_nil) dX9_bytesOf_9
def lp_X9_bitsOf_4 (p1 : Int32) (post : Int32 → Prop) (K_ : Int32 → Int32 → Prop) : Nat → Int32 → Int32 → Prop
  | 0, _, _ => False
  | n_6 + 1, y_4, y_5 => (((10 ≤ y_4) → K_ y_4 y_5) ∧ ((¬ (10 ≤ y_4)) → ∀ x_8 : Int32, x_8 = (y_5 + ((p1 >>> (y_4 &&& 31)) &&& 1)) → ∀ x_9 : Int32, x_9 = y_4 + 1 → lp_X9_bitsOf_4 p1 post K_ n_6 x_9 x_8))
def v_X9_bitsOf (p1 : Int32) (post : Int32 → Prop) : Prop := (∃ n_10 : Nat, lp_X9_bitsOf_4 p1 post (fun (y_2 : Int32) (y_3 : Int32) => post y_3) n_10 0 0)
set_option maxHeartbeats 4000000 in
set_option maxRecDepth 100000 in
theorem c_X9_bitsOf (l : Launch) (D : va_G) (cT : Nat → ClassId) (p1 : Int32) (post : Int32 → Prop) (hv : v_X9_bitsOf p1 post) : Met l yX9_bitsOf wsX9_bitsOf ({ frames := 0, cells := 0, slots := 0, locals := 0 }) (va_Pc [.int p1] (x_R D cT (([] : va_W)))) (vp_Si post) 0 0 (fun _ => False) := by
  refine Met.ofW (cc := cX9_bitsOf) (maxL := 3) (ret := (some .int)) (by decide) rfl ?_
  intro p e s m args below meth c s₁ B hml hpre
  obtain ⟨rfl, hP, hK, hN⟩ := hpre
  have hx := B.exec
  have hb := B.bytes
  have hr := B.returns
  have hts := atoms_spec (ws := wsX9_bitsOf) B.pre
  have hown : s.vm.findClass RX9 = some m.cls := findClass_of_methodNamed B.named
  have hlocks := B.notSynchronized
  generalize hAe : (fun _ : Nat => False) = A at hN
  have hS : va_S A s.heap s.heap [] := va_S.rf
  have hl := lv_entry ([.int p1]) (n := 3) (Nat.le_of_ble_eq_true rfl)
  rw [lg_entry_eq]
  generalize (lg_sl ([.int p1]) ++ List.replicate (3 - (lg_sl ([.int p1])).length) Slot.unset).toArray = ls at hl ⊢
  have hl : lv_has ls 3 [(0, .int p1)] := hl
  refine lv_iconst (v := 0) hx hb dX9_bitsOf_0 (by decide) ?_
  refine lv_istore_n (lv' := [(1, .int 0), (0, .int p1)]) hx hb dX9_bitsOf_1 rfl hl (by decide) rfl (fun ls hl => ?_)
  refine lv_iconst (v := 0) hx hb dX9_bitsOf_2 (by decide) ?_
  refine lv_istore_n (lv' := [(2, .int 0), (1, .int 0), (0, .int p1)]) hx hb dX9_bitsOf_3 rfl hl (by decide) rfl (fun ls hl => ?_)
  obtain ⟨n_10, hv⟩ := hv
  have K_L_1 : ∀ (y_2 : Int32) (y_3 : Int32), post y_3 → ∀ ls : Array Slot, lv_has ls 3 [(2, .int y_2), (1, .int y_3), (0, .int p1)] → W p l e (headSpec wsX9_bitsOf ({ frames := 0, cells := 0, slots := 0, locals := 0 })).room s m ([.int p1] : List Value).toArray below meth c s.heap [] 0 0 (MQ below (vp_Si post) ([.int p1] : List Value).toArray s 0 0 (fun _ => False)) (F0 m 24 ls []) := by
    intro y_2 y_3 hv ls hl
    refine lv_iload_n hx hb dX9_bitsOf_24 rfl (lv_at hl 1 rfl) ?_
    exact W.iret (v := y_3) hx hb hr (fun t ht hW => ⟨_, rfl, hv, ht⟩) (fun q h => absurd h List.not_mem_nil) dX9_bitsOf_25
  have L_1 : ∀ n_6 : Nat, ∀ (y_4 : Int32) (y_5 : Int32), lp_X9_bitsOf_4 p1 post (fun (y_2 : Int32) (y_3 : Int32) => post y_3) n_6 y_4 y_5 → ∀ ls : Array Slot, lv_has ls 3 [(2, .int y_4), (1, .int y_5), (0, .int p1)] → W p l e (headSpec wsX9_bitsOf ({ frames := 0, cells := 0, slots := 0, locals := 0 })).room s m ([.int p1] : List Value).toArray below meth c s.heap [] 0 0 (MQ below (vp_Si post) ([.int p1] : List Value).toArray s 0 0 (fun _ => False)) (F0 m 4 ls []) := by
    intro n_6
    induction n_6 with
    | zero =>
      intro y_4 y_5 hv
      exact hv.elim
    | succ n_6 L_1_ih =>
      intro y_4 y_5 hv ls hl
      refine lv_iload_n hx hb dX9_bitsOf_4 rfl (lv_at hl 0 rfl) ?_
      refine lv_bipush (v := 10) hx hb dX9_bitsOf_5 (by decide) ?_
      refine lv_icmp_ge (tgt := 24) hx hb dX9_bitsOf_7 (by decide) (fun c_7 => ?_) (fun c_7 => ?_)
      · have hv := hv.1 c_7
        exact K_L_1 _ _ hv ls (lv_sub hl [0, 1, 2] rfl)
      · have hv := hv.2 c_7
        refine lv_iload_n hx hb dX9_bitsOf_10 rfl (lv_at hl 1 rfl) ?_
        refine lv_iload_n hx hb dX9_bitsOf_11 rfl (lv_at hl 2 rfl) ?_
        refine lv_iload_n hx hb dX9_bitsOf_12 rfl (lv_at hl 0 rfl) ?_
        refine lv_ishr hx hb dX9_bitsOf_13 ?_
        refine lv_iconst (v := 1) hx hb dX9_bitsOf_14 (by decide) ?_
        refine lv_iand hx hb dX9_bitsOf_15 ?_
        refine lv_iadd hx hb dX9_bitsOf_16 ?_
        refine lv_topi (fun x_8 ex_8 => ?_)
        have hv := hv x_8 ex_8
        refine lv_istore_n (lv' := [(1, .int x_8), (2, .int y_4), (0, .int p1)]) hx hb dX9_bitsOf_17 rfl hl (by decide) rfl (fun ls hl => ?_)
        obtain ⟨x_9, ex_9⟩ : ∃ z : Int32, z = y_4 + 1 := ⟨_, rfl⟩
        have hv := hv x_9 ex_9
        refine lv_iinc (v := x_9) (lv' := [(2, .int x_9), (1, .int x_8), (0, .int p1)]) hx hb dX9_bitsOf_18 hl (k := 1) rfl (by rw [ex_9]; rfl) (by decide) rfl (fun ls hl => ?_)
        refine lv_goto (tgt := 4) hx hb dX9_bitsOf_21 (by decide) ?_
        exact L_1_ih _ _ hv ls (lv_sub hl [0, 1, 2] rfl)
  exact L_1 n_10 _ _ hv ls hl
end
