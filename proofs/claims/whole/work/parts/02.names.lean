def RX0 : String := "WriteBackTier"
def TX0 : u_T := fun k => match k with
  | 0 => ("WriteBackTier", "slotCount", "I", true)
  | 1 => ("WriteBackTier", "originValues", "[J", true)
  | 2 => ("WriteBackTier", "slotValues", "[J", true)
  | 3 => ("WriteBackTier", "contents", "[I", true)
  | 4 => ("WriteBackTier", "notes", "[I", true)
  | 5 => ("WriteBackTier", "lastUses", "[I", true)
  | 6 => ("WriteBackTier", "uses", "I", false)
  | 7 => ("WriteBackTier", "currentMode", "I", false)
  | 8 => ("WriteBackTier", "hand", "I", false)
  | 9 => ("WriteBackTier", "hits", "I", false)
  | 10 => ("WriteBackTier", "misses", "I", false)
  | 11 => ("WriteBackTier", "originWrites", "I", false)
  | _ => ("WriteBackTier", "notings", "I", false)
def tyX0 : Nat → FieldType := fun k => match k with
  | 0 => .int
  | 1 => .array .long
  | 2 => .array .long
  | 3 => .array .int
  | 4 => .array .int
  | 5 => .array .int
  | 6 => .int
  | 7 => .int
  | 8 => .int
  | 9 => .int
  | 10 => .int
  | 11 => .int
  | _ => .int
theorem nmX0 : ∀ a, a < 13 → ∀ b, b < 13 → a ≠ b → (TX0 a).2.1 ≠ (TX0 b).2.1 := by decide +kernel
theorem tyX0_ok : ∀ k, k < 13 → parseFieldDescriptor (TX0 k).2.2.1 = some (tyX0 k) := by decide +kernel
def RX1 : String := "WriteBackTierModel"
def TX1 : u_T := fun k => match k with
  | 0 => ("WriteBackTierModel", "code", "I", false)
  | 1 => ("WriteBackTierModel", "slots", "I", false)
  | 2 => ("WriteBackTierModel", "origin", "[J", true)
  | 3 => ("WriteBackTierModel", "block", "[I", true)
  | 4 => ("WriteBackTierModel", "value", "[J", true)
  | 5 => ("WriteBackTierModel", "dirty", "[Z", true)
  | 6 => ("WriteBackTierModel", "note", "[I", true)
  | 7 => ("WriteBackTierModel", "used", "[J", true)
  | 8 => ("WriteBackTierModel", "clock", "J", false)
  | 9 => ("WriteBackTierModel", "mode", "I", false)
  | 10 => ("WriteBackTierModel", "hand", "I", false)
  | 11 => ("WriteBackTierModel", "hits", "I", false)
  | 12 => ("WriteBackTierModel", "misses", "I", false)
  | 13 => ("WriteBackTierModel", "gets", "I", false)
  | _ => ("WriteBackTierModel", "notes", "I", false)
def tyX1 : Nat → FieldType := fun k => match k with
  | 0 => .int
  | 1 => .int
  | 2 => .array .long
  | 3 => .array .int
  | 4 => .array .long
  | 5 => .array .boolean
  | 6 => .array .int
  | 7 => .array .long
  | 8 => .long
  | 9 => .int
  | 10 => .int
  | 11 => .int
  | 12 => .int
  | 13 => .int
  | _ => .int
theorem nmX1 : ∀ a, a < 15 → ∀ b, b < 15 → a ≠ b → (TX1 a).2.1 ≠ (TX1 b).2.1 := by decide +kernel
theorem tyX1_ok : ∀ k, k < 15 → parseFieldDescriptor (TX1 k).2.2.1 = some (tyX1 k) := by decide +kernel
def RJ7 : String := "java/util/Arrays"
def RL : String := "WriteBackTierLaw"
abbrev vwCl : List vw_C := [(RX0, TX0, 13), (RX1, TX1, 15)]
def wsG : List Cond := lw_tbl.filter goodWord
theorem zw_in {w : Cond} {i : Nat} (h : tables_1[i]? = some w) (g : goodWord w = true) : w ∈ wsG := List.mem_filter.mpr ⟨List.mem_append_right _ (List.mem_of_getElem? h), g⟩
theorem zw_sel {w : Cond} (h : w ∈ k2_sels lw_privs) (g : goodWord w = true) : w ∈ wsG := List.mem_filter.mpr ⟨List.mem_append_left _ h, g⟩
theorem zw_all {c c2 : Cond} {l : List Cond} (h : ∀ w ∈ l, w ∈ wsG) (h2 : c2 ∈ wsG) : GoodIn (c :: wsG) (l ++ c2 :: wsG) := by
  intro w hw
  have hm : w ∈ wsG := by
    rcases List.mem_append.mp hw with q | q
    · exact h w q
    · rcases List.mem_cons.mp q with rfl | q
      · exact h2
      · exact q
  exact ⟨List.mem_cons_of_mem _ hm, good_of_word (List.mem_filter.mp hm).2⟩
theorem zw_V {c c2 : Cond} {own C : String} {idx : Nat} {y : MethodName} (h1 : Cond.methodLink own idx y ∈ wsG) (h2 : Cond.instanceMethod y ∈ wsG) (h3 : Cond.selects C y y ∈ wsG) (h4 : Cond.initialized C ∈ wsG) (h5 : c2 ∈ wsG) : GoodIn (c :: wsG) (wsV own idx C y (c2 :: wsG)) :=
  zw_all (l := [.methodLink own idx y, .instanceMethod y, .selects C y y, .initialized C]) (fun w hw => by simp only [List.mem_cons, List.not_mem_nil, or_false] at hw; rcases hw with rfl | rfl | rfl | rfl <;> assumption) h5
theorem zw_S {c c2 : Cond} {own : String} {idx : Nat} {y : MethodName} (h1 : Cond.methodLink own idx y ∈ wsG) (h2 : Cond.static y ∈ wsG) (h4 : Cond.initialized y.cls ∈ wsG) (h5 : c2 ∈ wsG) : GoodIn (c :: wsG) (va_wsS own idx y (c2 :: wsG)) :=
  zw_all (l := [.methodLink own idx y, .static y, .initialized y.cls]) (fun w hw => by simp only [List.mem_cons, List.not_mem_nil, or_false] at hw; rcases hw with rfl | rfl | rfl <;> assumption) h5
theorem zw_I {c c2 : Cond} (h5 : c2 ∈ wsG) : GoodIn (c :: wsG) (c2 :: wsG) := zw_all (l := []) (fun w hw => nomatch hw) h5
theorem zw_all0 {c2 : Cond} {l : List Cond} (h : ∀ w ∈ l, w ∈ wsG) (h2 : c2 ∈ wsG) : GoodIn wsG (l ++ c2 :: wsG) := by
  intro w hw
  have hm : w ∈ wsG := by
    rcases List.mem_append.mp hw with q | q
    · exact h w q
    · rcases List.mem_cons.mp q with rfl | q
      · exact h2
      · exact q
  exact ⟨hm, good_of_word (List.mem_filter.mp hm).2⟩
theorem zw_V0 {c2 : Cond} {own C : String} {idx : Nat} {y : MethodName} (h1 : Cond.methodLink own idx y ∈ wsG) (h2 : Cond.instanceMethod y ∈ wsG) (h3 : Cond.selects C y y ∈ wsG) (h4 : Cond.initialized C ∈ wsG) (h5 : c2 ∈ wsG) : GoodIn wsG (wsV own idx C y (c2 :: wsG)) :=
  zw_all0 (l := [.methodLink own idx y, .instanceMethod y, .selects C y y, .initialized C]) (fun w hw => by simp only [List.mem_cons, List.not_mem_nil, or_false] at hw; rcases hw with rfl | rfl | rfl | rfl <;> assumption) h5
theorem zw_S0 {c2 : Cond} {own : String} {idx : Nat} {y : MethodName} (h1 : Cond.methodLink own idx y ∈ wsG) (h2 : Cond.static y ∈ wsG) (h4 : Cond.initialized y.cls ∈ wsG) (h5 : c2 ∈ wsG) : GoodIn wsG (va_wsS own idx y (c2 :: wsG)) :=
  zw_all0 (l := [.methodLink own idx y, .static y, .initialized y.cls]) (fun w hw => by simp only [List.mem_cons, List.not_mem_nil, or_false] at hw; rcases hw with rfl | rfl | rfl <;> assumption) h5
theorem zw_I0 {c2 : Cond} (h5 : c2 ∈ wsG) : GoodIn wsG (c2 :: wsG) := zw_all0 (l := []) (fun w hw => nomatch hw) h5
theorem hinX0 : ∀ w ∈ u_ws RX0 TX0 13, w ∈ wsG := by decide +kernel
theorem hinX1 : ∀ w ∈ u_ws RX1 TX1 15, w ∈ wsG := by decide +kernel
abbrev cX0_init : ByteArray := prog_1_method_1_code
def yX0_init : MethodName := ⟨RX0, "<init>", "(I)V"⟩
def wsX0_init : List Cond := .code yX0_init cX0_init 2 none :: wsG
abbrev cJ7_fill : ByteArray := prog_11_method_103_code
def yJ7_fill : MethodName := ⟨RJ7, "fill", "([II)V"⟩
def wsJ7_fill : List Cond := .code yJ7_fill cJ7_fill 4 none :: wsG
abbrev cX0_check : ByteArray := prog_1_method_7_code
def yX0_check : MethodName := ⟨RX0, "check", "()I"⟩
def wsX0_check : List Cond := .code yX0_check cX0_check 3 (some .int) :: wsG
abbrev cX0_noteSlot : ByteArray := prog_1_method_23_code
def yX0_noteSlot : MethodName := ⟨RX0, "noteSlot", "(I)V"⟩
def wsX0_noteSlot : List Cond := .code yX0_noteSlot cX0_noteSlot 2 none :: wsG
abbrev cX0_crash : ByteArray := prog_1_method_8_code
def yX0_crash : MethodName := ⟨RX0, "crash", "()I"⟩
def wsX0_crash : List Cond := .code yX0_crash cX0_crash 1 (some .int) :: wsG
abbrev cX0_stopMachine : ByteArray := prog_1_method_37_code
def yX0_stopMachine : MethodName := ⟨RX0, "stopMachine", "()V"⟩
def wsX0_stopMachine : List Cond := .code yX0_stopMachine cX0_stopMachine 2 none :: wsG
abbrev cX0_countFull : ByteArray := prog_1_method_41_code
def yX0_countFull : MethodName := ⟨RX0, "countFull", "()I"⟩
def wsX0_countFull : List Cond := .code yX0_countFull cX0_countFull 3 (some .int) :: wsG
abbrev cX0_lose : ByteArray := prog_1_method_9_code
def yX0_lose : MethodName := ⟨RX0, "lose", "()I"⟩
def wsX0_lose : List Cond := .code yX0_lose cX0_lose 2 (some .int) :: wsG
abbrev cX0_countDirty : ByteArray := prog_1_method_42_code
def yX0_countDirty : MethodName := ⟨RX0, "countDirty", "()I"⟩
def wsX0_countDirty : List Cond := .code yX0_countDirty cX0_countDirty 3 (some .int) :: wsG
abbrev cX0_isDirty : ByteArray := prog_1_method_20_code
def yX0_isDirty : MethodName := ⟨RX0, "isDirty", "(I)Z"⟩
def wsX0_isDirty : List Cond := .code yX0_isDirty cX0_isDirty 1 (some .boolean) :: wsG
abbrev cL_cell : ByteArray := method_2_code
def yL_cell : MethodName := ⟨RL, "cell", "([II)I"⟩
def wsL_cell : List Cond := .code yL_cell cL_cell 2 (some .int) :: wsG
abbrev cL_read : ByteArray := method_3_code
def yL_read : MethodName := ⟨RL, "read", "(LWriteBackTier;I[J)I"⟩
def wsL_read : List Cond := .codeWith yL_read cL_read 4 (some .int) [(0, 8, 11, 13)] :: wsG
abbrev cX0_read : ByteArray := prog_1_method_2_code
def yX0_read : MethodName := ⟨RX0, "read", "(I)J"⟩
def wsX0_read : List Cond := .code yX0_read cX0_read 3 (some .long) :: wsG
abbrev cX0_requireBlock : ByteArray := prog_1_method_16_code
def yX0_requireBlock : MethodName := ⟨RX0, "requireBlock", "(I)V"⟩
def wsX0_requireBlock : List Cond := .code yX0_requireBlock cX0_requireBlock 1 none :: wsG
abbrev cX0_slotWith : ByteArray := prog_1_method_21_code
def yX0_slotWith : MethodName := ⟨RX0, "slotWith", "(I)I"⟩
def wsX0_slotWith : List Cond := .code yX0_slotWith cX0_slotWith 3 (some .int) :: wsG
abbrev cX0_blockOf : ByteArray := prog_1_method_19_code
def yX0_blockOf : MethodName := ⟨RX0, "blockOf", "(I)I"⟩
def wsX0_blockOf : List Cond := .code yX0_blockOf cX0_blockOf 1 (some .int) :: wsG
abbrev cX0_useSlot : ByteArray := prog_1_method_22_code
def yX0_useSlot : MethodName := ⟨RX0, "useSlot", "(I)V"⟩
def wsX0_useSlot : List Cond := .code yX0_useSlot cX0_useSlot 2 none :: wsG
abbrev cX0_findRoom : ByteArray := prog_1_method_29_code
def yX0_findRoom : MethodName := ⟨RX0, "findRoom", "()I"⟩
def wsX0_findRoom : List Cond := .code yX0_findRoom cX0_findRoom 3 (some .int) :: wsG
abbrev cX0_writeBackIfDirty : ByteArray := prog_1_method_27_code
def yX0_writeBackIfDirty : MethodName := ⟨RX0, "writeBackIfDirty", "(I)Z"⟩
def wsX0_writeBackIfDirty : List Cond := .code yX0_writeBackIfDirty cX0_writeBackIfDirty 2 (some .boolean) :: wsG
abbrev cX0_giveOrigin : ByteArray := prog_1_method_24_code
def yX0_giveOrigin : MethodName := ⟨RX0, "giveOrigin", "(IJ)V"⟩
def wsX0_giveOrigin : List Cond := .code yX0_giveOrigin cX0_giveOrigin 4 none :: wsG
abbrev cX0_makeClean : ByteArray := prog_1_method_25_code
def yX0_makeClean : MethodName := ⟨RX0, "makeClean", "(I)V"⟩
def wsX0_makeClean : List Cond := .code yX0_makeClean cX0_makeClean 2 none :: wsG
abbrev cX0_cleanForm : ByteArray := prog_1_method_17_code
def yX0_cleanForm : MethodName := ⟨RX0, "cleanForm", "(I)I"⟩
def wsX0_cleanForm : List Cond := .code yX0_cleanForm cX0_cleanForm 1 (some .int) :: wsG
abbrev cX0_makeEmpty : ByteArray := prog_1_method_26_code
def yX0_makeEmpty : MethodName := ⟨RX0, "makeEmpty", "(I)V"⟩
def wsX0_makeEmpty : List Cond := .code yX0_makeEmpty cX0_makeEmpty 2 none :: wsG
abbrev cX0_keepClean : ByteArray := prog_1_method_30_code
def yX0_keepClean : MethodName := ⟨RX0, "keepClean", "(II)V"⟩
def wsX0_keepClean : List Cond := .code yX0_keepClean cX0_keepClean 3 none :: wsG
abbrev cL_write : ByteArray := method_4_code
def yL_write : MethodName := ⟨RL, "write", "(LWriteBackTier;IJ)I"⟩
def wsL_write : List Cond := .codeWith yL_write cL_write 5 (some .int) [(0, 6, 9, 13)] :: wsG
abbrev cX0_write : ByteArray := prog_1_method_3_code
def yX0_write : MethodName := ⟨RX0, "write", "(IJ)V"⟩
def wsX0_write : List Cond := .code yX0_write cX0_write 4 none :: wsG
abbrev cX0_writeThrough : ByteArray := prog_1_method_31_code
def yX0_writeThrough : MethodName := ⟨RX0, "writeThrough", "(IJ)V"⟩
def wsX0_writeThrough : List Cond := .code yX0_writeThrough cX0_writeThrough 5 none :: wsG
abbrev cX0_writePast : ByteArray := prog_1_method_32_code
def yX0_writePast : MethodName := ⟨RX0, "writePast", "(IJ)V"⟩
def wsX0_writePast : List Cond := .code yX0_writePast cX0_writePast 5 none :: wsG
abbrev cX0_writeInSteps : ByteArray := prog_1_method_33_code
def yX0_writeInSteps : MethodName := ⟨RX0, "writeInSteps", "(IJI)I"⟩
def wsX0_writeInSteps : List Cond := .code yX0_writeInSteps cX0_writeInSteps 7 (some .int) :: wsG
abbrev cX0_fillInSteps : ByteArray := prog_1_method_34_code
def yX0_fillInSteps : MethodName := ⟨RX0, "fillInSteps", "(IIJI)I"⟩
def wsX0_fillInSteps : List Cond := .code yX0_fillInSteps cX0_fillInSteps 6 (some .int) :: wsG
abbrev cX0_dirtyForm : ByteArray := prog_1_method_18_code
def yX0_dirtyForm : MethodName := ⟨RX0, "dirtyForm", "(I)I"⟩
def wsX0_dirtyForm : List Cond := .code yX0_dirtyForm cX0_dirtyForm 1 (some .int) :: wsG
abbrev cX0_overwriteDirty : ByteArray := prog_1_method_35_code
def yX0_overwriteDirty : MethodName := ⟨RX0, "overwriteDirty", "(IIJI)I"⟩
def wsX0_overwriteDirty : List Cond := .code yX0_overwriteDirty cX0_overwriteDirty 6 (some .int) :: wsG
abbrev cX0_overwriteClean : ByteArray := prog_1_method_36_code
def yX0_overwriteClean : MethodName := ⟨RX0, "overwriteClean", "(IIJI)I"⟩
def wsX0_overwriteClean : List Cond := .code yX0_overwriteClean cX0_overwriteClean 6 (some .int) :: wsG
abbrev cL_cut : ByteArray := method_5_code
def yL_cut : MethodName := ⟨RL, "cut", "(LWriteBackTier;IJI[J)I"⟩
def wsL_cut : List Cond := .codeWith yL_cut cL_cut 7 (some .int) [(0, 13, 16, 13), (0, 13, 20, 23)] :: wsG
abbrev cX0_cut : ByteArray := prog_1_method_4_code
def yX0_cut : MethodName := ⟨RX0, "cut", "(IJI)I"⟩
def wsX0_cut : List Cond := .code yX0_cut cX0_cut 6 (some .int) :: wsG
abbrev cL_mode : ByteArray := method_6_code
def yL_mode : MethodName := ⟨RL, "mode", "(LWriteBackTier;I[J)I"⟩
def wsL_mode : List Cond := .codeWith yL_mode cL_mode 4 (some .int) [(0, 9, 12, 13)] :: wsG
abbrev cX0_mode : ByteArray := prog_1_method_5_code
def yX0_mode : MethodName := ⟨RX0, "mode", "(I)I"⟩
def wsX0_mode : List Cond := .code yX0_mode cX0_mode 2 (some .int) :: wsG
abbrev cX0_writeAllBack : ByteArray := prog_1_method_28_code
def yX0_writeAllBack : MethodName := ⟨RX0, "writeAllBack", "()I"⟩
def wsX0_writeAllBack : List Cond := .code yX0_writeAllBack cX0_writeAllBack 3 (some .int) :: wsG
abbrev cL_back : ByteArray := method_7_code
def yL_back : MethodName := ⟨RL, "back", "(LWriteBackTier;I[J)I"⟩
def wsL_back : List Cond := .codeWith yL_back cL_back 4 (some .int) [(0, 9, 12, 13)] :: wsG
abbrev cX0_back : ByteArray := prog_1_method_6_code
def yX0_back : MethodName := ⟨RX0, "back", "(I)I"⟩
def wsX0_back : List Cond := .code yX0_back cX0_back 4 (some .int) :: wsG
abbrev cX0_nextForHand : ByteArray := prog_1_method_38_code
def yX0_nextForHand : MethodName := ⟨RX0, "nextForHand", "()I"⟩
def wsX0_nextForHand : List Cond := .code yX0_nextForHand cX0_nextForHand 2 (some .int) :: wsG
abbrev cX0_leastDirtyFrom : ByteArray := prog_1_method_39_code
def yX0_leastDirtyFrom : MethodName := ⟨RX0, "leastDirtyFrom", "(I)I"⟩
def wsX0_leastDirtyFrom : List Cond := .code yX0_leastDirtyFrom cX0_leastDirtyFrom 6 (some .int) :: wsG
abbrev cL_slot : ByteArray := method_8_code
def yL_slot : MethodName := ⟨RL, "slot", "(LWriteBackTier;I[J)I"⟩
def wsL_slot : List Cond := .codeWith yL_slot cL_slot 4 (some .int) [(0, 9, 12, 13)] :: wsG
abbrev cX0_slot : ByteArray := prog_1_method_10_code
def yX0_slot : MethodName := ⟨RX0, "slot", "(I)I"⟩
def wsX0_slot : List Cond := .code yX0_slot cX0_slot 2 (some .int) :: wsG
abbrev cL_dirty : ByteArray := method_9_code
def yL_dirty : MethodName := ⟨RL, "dirty", "(LWriteBackTier;I[J)I"⟩
def wsL_dirty : List Cond := .codeWith yL_dirty cL_dirty 4 (some .int) [(0, 16, 19, 13), (0, 16, 22, 39)] :: wsG
abbrev cX0_dirty : ByteArray := prog_1_method_11_code
def yX0_dirty : MethodName := ⟨RX0, "dirty", "(I)Z"⟩
def wsX0_dirty : List Cond := .code yX0_dirty cX0_dirty 3 (some .boolean) :: wsG
abbrev cL_origin : ByteArray := method_10_code
def yL_origin : MethodName := ⟨RL, "origin", "(LWriteBackTier;I[J)I"⟩
def wsL_origin : List Cond := .codeWith yL_origin cL_origin 4 (some .int) [(0, 8, 11, 13)] :: wsG
abbrev cX0_origin : ByteArray := prog_1_method_12_code
def yX0_origin : MethodName := ⟨RX0, "origin", "(I)J"⟩
def wsX0_origin : List Cond := .code yX0_origin cX0_origin 2 (some .long) :: wsG
abbrev cL_order : ByteArray := method_11_code
def yL_order : MethodName := ⟨RL, "order", "(LWriteBackTier;I[J)I"⟩
def wsL_order : List Cond := .codeWith yL_order cL_order 4 (some .int) [(0, 9, 12, 47)] :: wsG
abbrev cX0_order : ByteArray := prog_1_method_13_code
def yX0_order : MethodName := ⟨RX0, "order", "(I)I"⟩
def wsX0_order : List Cond := .code yX0_order cX0_order 3 (some .int) :: wsG
abbrev cX0_countUsedAfter : ByteArray := prog_1_method_40_code
def yX0_countUsedAfter : MethodName := ⟨RX0, "countUsedAfter", "(I)I"⟩
def wsX0_countUsedAfter : List Cond := .code yX0_countUsedAfter cX0_countUsedAfter 4 (some .int) :: wsG
abbrev cL_noted : ByteArray := method_12_code
def yL_noted : MethodName := ⟨RL, "noted", "(LWriteBackTier;I[J)I"⟩
def wsL_noted : List Cond := .codeWith yL_noted cL_noted 4 (some .int) [(0, 9, 12, 47)] :: wsG
abbrev cX0_noted : ByteArray := prog_1_method_14_code
def yX0_noted : MethodName := ⟨RX0, "noted", "(I)I"⟩
def wsX0_noted : List Cond := .code yX0_noted cX0_noted 2 (some .int) :: wsG
abbrev cL_figure : ByteArray := method_13_code
def yL_figure : MethodName := ⟨RL, "figure", "(LWriteBackTier;I[J)I"⟩
def wsL_figure : List Cond := .codeWith yL_figure cL_figure 4 (some .int) [(0, 9, 12, 13)] :: wsG
abbrev cX0_figure : ByteArray := prog_1_method_15_code
def yX0_figure : MethodName := ⟨RX0, "figure", "(I)I"⟩
def wsX0_figure : List Cond := .code yX0_figure cX0_figure 2 (some .int) :: wsG
abbrev cX1_init : ByteArray := prog_3_method_1_code
def yX1_init : MethodName := ⟨RX1, "<init>", "(I)V"⟩
def wsX1_init : List Cond := .code yX1_init cX1_init 3 none :: wsG
abbrev cX1_thrown : ByteArray := prog_3_method_2_code
def yX1_thrown : MethodName := ⟨RX1, "thrown", "()I"⟩
def wsX1_thrown : List Cond := .code yX1_thrown cX1_thrown 1 (some .int) :: wsG
abbrev cX1_read : ByteArray := prog_3_method_14_code
def yX1_read : MethodName := ⟨RX1, "read", "(I)J"⟩
def wsX1_read : List Cond := .code yX1_read cX1_read 3 (some .long) :: wsG
abbrev cX1_isBlock : ByteArray := prog_3_method_3_code
def yX1_isBlock : MethodName := ⟨RX1, "isBlock", "(I)Z"⟩
def wsX1_isBlock : List Cond := .code yX1_isBlock cX1_isBlock 1 (some .boolean) :: wsG
abbrev cX1_find : ByteArray := prog_3_method_8_code
def yX1_find : MethodName := ⟨RX1, "find", "(I)I"⟩
def wsX1_find : List Cond := .code yX1_find cX1_find 4 (some .int) :: wsG
abbrev cX1_use : ByteArray := prog_3_method_7_code
def yX1_use : MethodName := ⟨RX1, "use", "(I)V"⟩
def wsX1_use : List Cond := .code yX1_use cX1_use 2 none :: wsG
abbrev cX1_room : ByteArray := prog_3_method_13_code
def yX1_room : MethodName := ⟨RX1, "room", "()I"⟩
def wsX1_room : List Cond := .code yX1_room cX1_room 3 (some .int) :: wsG
abbrev cX1_writeBack : ByteArray := prog_3_method_11_code
def yX1_writeBack : MethodName := ⟨RX1, "writeBack", "(I)V"⟩
def wsX1_writeBack : List Cond := .code yX1_writeBack cX1_writeBack 2 none :: wsG
abbrev cX1_give : ByteArray := prog_3_method_9_code
def yX1_give : MethodName := ⟨RX1, "give", "(IJ)V"⟩
def wsX1_give : List Cond := .code yX1_give cX1_give 4 none :: wsG
abbrev cX1_clean : ByteArray := prog_3_method_10_code
def yX1_clean : MethodName := ⟨RX1, "clean", "(I)V"⟩
def wsX1_clean : List Cond := .code yX1_clean cX1_clean 3 none :: wsG
abbrev cX1_isNotedDirty : ByteArray := prog_3_method_6_code
def yX1_isNotedDirty : MethodName := ⟨RX1, "isNotedDirty", "(I)Z"⟩
def wsX1_isNotedDirty : List Cond := .code yX1_isNotedDirty cX1_isNotedDirty 2 (some .boolean) :: wsG
abbrev cX1_noteSlot : ByteArray := prog_3_method_5_code
def yX1_noteSlot : MethodName := ⟨RX1, "noteSlot", "(I)V"⟩
def wsX1_noteSlot : List Cond := .code yX1_noteSlot cX1_noteSlot 2 none :: wsG
abbrev cX1_soOf : ByteArray := prog_3_method_4_code
def yX1_soOf : MethodName := ⟨RX1, "soOf", "(I)I"⟩
def wsX1_soOf : List Cond := .code yX1_soOf cX1_soOf 2 (some .int) :: wsG
abbrev cX1_empty : ByteArray := prog_3_method_12_code
def yX1_empty : MethodName := ⟨RX1, "empty", "(I)V"⟩
def wsX1_empty : List Cond := .code yX1_empty cX1_empty 2 none :: wsG
abbrev cX1_write : ByteArray := prog_3_method_16_code
def yX1_write : MethodName := ⟨RX1, "write", "(IJ)V"⟩
def wsX1_write : List Cond := .code yX1_write cX1_write 5 none :: wsG
abbrev cX1_steps : ByteArray := prog_3_method_15_code
def yX1_steps : MethodName := ⟨RX1, "steps", "(IJI)I"⟩
def wsX1_steps : List Cond := .code yX1_steps cX1_steps 8 (some .int) :: wsG
abbrev cX1_cut : ByteArray := prog_3_method_18_code
def yX1_cut : MethodName := ⟨RX1, "cut", "(IJI)I"⟩
def wsX1_cut : List Cond := .code yX1_cut cX1_cut 6 (some .int) :: wsG
abbrev cX1_stop : ByteArray := prog_3_method_17_code
def yX1_stop : MethodName := ⟨RX1, "stop", "()V"⟩
def wsX1_stop : List Cond := .code yX1_stop cX1_stop 2 none :: wsG
abbrev cX1_mode : ByteArray := prog_3_method_19_code
def yX1_mode : MethodName := ⟨RX1, "mode", "(I)I"⟩
def wsX1_mode : List Cond := .code yX1_mode cX1_mode 4 (some .int) :: wsG
abbrev cX1_back : ByteArray := prog_3_method_21_code
def yX1_back : MethodName := ⟨RX1, "back", "(I)I"⟩
def wsX1_back : List Cond := .code yX1_back cX1_back 5 (some .int) :: wsG
abbrev cX1_nextDirty : ByteArray := prog_3_method_20_code
def yX1_nextDirty : MethodName := ⟨RX1, "nextDirty", "(I)I"⟩
def wsX1_nextDirty : List Cond := .code yX1_nextDirty cX1_nextDirty 5 (some .int) :: wsG
abbrev cX1_check : ByteArray := prog_3_method_22_code
def yX1_check : MethodName := ⟨RX1, "check", "()I"⟩
def wsX1_check : List Cond := .code yX1_check cX1_check 3 (some .int) :: wsG
abbrev cX1_crash : ByteArray := prog_3_method_25_code
def yX1_crash : MethodName := ⟨RX1, "crash", "()I"⟩
def wsX1_crash : List Cond := .code yX1_crash cX1_crash 1 (some .int) :: wsG
abbrev cX1_full : ByteArray := prog_3_method_23_code
def yX1_full : MethodName := ⟨RX1, "full", "()I"⟩
def wsX1_full : List Cond := .code yX1_full cX1_full 3 (some .int) :: wsG
abbrev cX1_lose : ByteArray := prog_3_method_26_code
def yX1_lose : MethodName := ⟨RX1, "lose", "()I"⟩
def wsX1_lose : List Cond := .code yX1_lose cX1_lose 3 (some .int) :: wsG
abbrev cX1_dirties : ByteArray := prog_3_method_24_code
def yX1_dirties : MethodName := ⟨RX1, "dirties", "()I"⟩
def wsX1_dirties : List Cond := .code yX1_dirties cX1_dirties 3 (some .int) :: wsG
abbrev cX1_slot : ByteArray := prog_3_method_27_code
def yX1_slot : MethodName := ⟨RX1, "slot", "(I)I"⟩
def wsX1_slot : List Cond := .code yX1_slot cX1_slot 2 (some .int) :: wsG
abbrev cX1_dirty : ByteArray := prog_3_method_28_code
def yX1_dirty : MethodName := ⟨RX1, "dirty", "(I)Z"⟩
def wsX1_dirty : List Cond := .code yX1_dirty cX1_dirty 2 (some .boolean) :: wsG
abbrev cX1_origin : ByteArray := prog_3_method_29_code
def yX1_origin : MethodName := ⟨RX1, "origin", "(I)J"⟩
def wsX1_origin : List Cond := .code yX1_origin cX1_origin 2 (some .long) :: wsG
abbrev cX1_order : ByteArray := prog_3_method_30_code
def yX1_order : MethodName := ⟨RX1, "order", "(I)I"⟩
def wsX1_order : List Cond := .code yX1_order cX1_order 5 (some .int) :: wsG
abbrev cX1_noted : ByteArray := prog_3_method_31_code
def yX1_noted : MethodName := ⟨RX1, "noted", "(I)I"⟩
def wsX1_noted : List Cond := .code yX1_noted cX1_noted 2 (some .int) :: wsG
abbrev cX1_figure : ByteArray := prog_3_method_32_code
def yX1_figure : MethodName := ⟨RX1, "figure", "(I)I"⟩
def wsX1_figure : List Cond := .code yX1_figure cX1_figure 2 (some .int) :: wsG
abbrev cL_law : ByteArray := code
def yL_law : MethodName := ⟨RL, "law", "([I)Z"⟩
def wsL_law : List Cond := wsG
theorem ml_X0_30 : Cond.methodLink RX0 30 yJ7_fill ∈ wsG := zw_in (i := 19) (by decide +kernel) rfl
theorem mt_J7_fill : Cond.static yJ7_fill ∈ wsG := zw_in (i := 20) (by decide +kernel) rfl
theorem mi_J7 : Cond.initialized RJ7 ∈ wsG := zw_in (i := 2) (by decide +kernel) rfl
theorem mc_J7_fill : Cond.code yJ7_fill cJ7_fill 4 none ∈ wsG := zw_in (i := 21) (by decide +kernel) rfl
theorem mf_X0_9 : Cond.fieldLink RX0 9 "WriteBackTier" "slotCount" "I" ∈ wsG := zw_in (i := 22) (by decide +kernel) rfl
theorem mf_X0_13 : Cond.fieldLink RX0 13 "WriteBackTier" "originValues" "[J" ∈ wsG := zw_in (i := 23) (by decide +kernel) rfl
theorem mf_X0_17 : Cond.fieldLink RX0 17 "WriteBackTier" "slotValues" "[J" ∈ wsG := zw_in (i := 24) (by decide +kernel) rfl
theorem mf_X0_20 : Cond.fieldLink RX0 20 "WriteBackTier" "contents" "[I" ∈ wsG := zw_in (i := 25) (by decide +kernel) rfl
theorem mf_X0_24 : Cond.fieldLink RX0 24 "WriteBackTier" "notes" "[I" ∈ wsG := zw_in (i := 26) (by decide +kernel) rfl
theorem mf_X0_27 : Cond.fieldLink RX0 27 "WriteBackTier" "lastUses" "[I" ∈ wsG := zw_in (i := 27) (by decide +kernel) rfl
theorem ml_X0_110 : Cond.methodLink RX0 110 yX0_noteSlot ∈ wsG := zw_in (i := 68) (by decide +kernel) rfl
theorem mm_X0_noteSlot : Cond.instanceMethod yX0_noteSlot ∈ wsG := zw_in (i := 70) (by decide +kernel) rfl
theorem ms_X0_noteSlot : Cond.selects RX0 yX0_noteSlot yX0_noteSlot ∈ wsG := zw_sel (by decide +kernel) rfl
theorem mi_X0 : Cond.initialized RX0 ∈ wsG := zw_in (i := 1) (by decide +kernel) rfl
theorem mc_X0_noteSlot : Cond.code yX0_noteSlot cX0_noteSlot 2 none ∈ wsG := zw_in (i := 71) (by decide +kernel) rfl
theorem mf_X0_140 : Cond.fieldLink RX0 140 "WriteBackTier" "notings" "I" ∈ wsG := zw_in (i := 34) (by decide +kernel) rfl
theorem ml_X0_87 : Cond.methodLink RX0 87 yX0_stopMachine ∈ wsG := zw_in (i := 76) (by decide +kernel) rfl
theorem mm_X0_stopMachine : Cond.instanceMethod yX0_stopMachine ∈ wsG := zw_in (i := 78) (by decide +kernel) rfl
theorem ms_X0_stopMachine : Cond.selects RX0 yX0_stopMachine yX0_stopMachine ∈ wsG := zw_sel (by decide +kernel) rfl
theorem mc_X0_stopMachine : Cond.code yX0_stopMachine cX0_stopMachine 2 none ∈ wsG := zw_in (i := 79) (by decide +kernel) rfl
theorem ml_X0_113 : Cond.methodLink RX0 113 yX0_countFull ∈ wsG := zw_in (i := 80) (by decide +kernel) rfl
theorem mm_X0_countFull : Cond.instanceMethod yX0_countFull ∈ wsG := zw_in (i := 82) (by decide +kernel) rfl
theorem ms_X0_countFull : Cond.selects RX0 yX0_countFull yX0_countFull ∈ wsG := zw_sel (by decide +kernel) rfl
theorem mc_X0_countFull : Cond.code yX0_countFull cX0_countFull 3 (some .int) ∈ wsG := zw_in (i := 83) (by decide +kernel) rfl
theorem mf_X0_53 : Cond.fieldLink RX0 53 "WriteBackTier" "currentMode" "I" ∈ wsG := zw_in (i := 29) (by decide +kernel) rfl
theorem mf_X0_107 : Cond.fieldLink RX0 107 "WriteBackTier" "hand" "I" ∈ wsG := zw_in (i := 30) (by decide +kernel) rfl
theorem ml_X0_116 : Cond.methodLink RX0 116 yX0_countDirty ∈ wsG := zw_in (i := 88) (by decide +kernel) rfl
theorem mm_X0_countDirty : Cond.instanceMethod yX0_countDirty ∈ wsG := zw_in (i := 90) (by decide +kernel) rfl
theorem ms_X0_countDirty : Cond.selects RX0 yX0_countDirty yX0_countDirty ∈ wsG := zw_sel (by decide +kernel) rfl
theorem mc_X0_countDirty : Cond.code yX0_countDirty cX0_countDirty 3 (some .int) ∈ wsG := zw_in (i := 91) (by decide +kernel) rfl
theorem ml_X0_124 : Cond.methodLink RX0 124 yX0_isDirty ∈ wsG := zw_in (i := 92) (by decide +kernel) rfl
theorem mt_X0_isDirty : Cond.static yX0_isDirty ∈ wsG := zw_in (i := 93) (by decide +kernel) rfl
theorem mc_X0_isDirty : Cond.code yX0_isDirty cX0_isDirty 1 (some .boolean) ∈ wsG := zw_in (i := 94) (by decide +kernel) rfl
theorem ml_L_7 : Cond.methodLink RL 7 yX0_read ∈ wsG := zw_in (i := 102) (by decide +kernel) rfl
theorem mm_X0_read : Cond.instanceMethod yX0_read ∈ wsG := zw_in (i := 103) (by decide +kernel) rfl
theorem ms_X0_read : Cond.selects RX0 yX0_read yX0_read ∈ wsG := zw_in (i := 104) (by decide +kernel) rfl
theorem mc_X0_read : Cond.code yX0_read cX0_read 3 (some .long) ∈ wsG := zw_in (i := 105) (by decide +kernel) rfl
theorem ml_X0_36 : Cond.methodLink RX0 36 yX0_requireBlock ∈ wsG := zw_in (i := 106) (by decide +kernel) rfl
theorem mt_X0_requireBlock : Cond.static yX0_requireBlock ∈ wsG := zw_in (i := 107) (by decide +kernel) rfl
theorem mc_X0_requireBlock : Cond.code yX0_requireBlock cX0_requireBlock 1 none ∈ wsG := zw_in (i := 108) (by decide +kernel) rfl
theorem ml_X0_40 : Cond.methodLink RX0 40 yX0_slotWith ∈ wsG := zw_in (i := 178) (by decide +kernel) rfl
theorem mm_X0_slotWith : Cond.instanceMethod yX0_slotWith ∈ wsG := zw_in (i := 180) (by decide +kernel) rfl
theorem ms_X0_slotWith : Cond.selects RX0 yX0_slotWith yX0_slotWith ∈ wsG := zw_sel (by decide +kernel) rfl
theorem mc_X0_slotWith : Cond.code yX0_slotWith cX0_slotWith 3 (some .int) ∈ wsG := zw_in (i := 181) (by decide +kernel) rfl
theorem ml_X0_47 : Cond.methodLink RX0 47 yX0_useSlot ∈ wsG := zw_in (i := 185) (by decide +kernel) rfl
theorem mm_X0_useSlot : Cond.instanceMethod yX0_useSlot ∈ wsG := zw_in (i := 187) (by decide +kernel) rfl
theorem ms_X0_useSlot : Cond.selects RX0 yX0_useSlot yX0_useSlot ∈ wsG := zw_sel (by decide +kernel) rfl
theorem mc_X0_useSlot : Cond.code yX0_useSlot cX0_useSlot 2 none ∈ wsG := zw_in (i := 188) (by decide +kernel) rfl
theorem ml_X0_56 : Cond.methodLink RX0 56 yX0_findRoom ∈ wsG := zw_in (i := 189) (by decide +kernel) rfl
theorem mm_X0_findRoom : Cond.instanceMethod yX0_findRoom ∈ wsG := zw_in (i := 191) (by decide +kernel) rfl
theorem ms_X0_findRoom : Cond.selects RX0 yX0_findRoom yX0_findRoom ∈ wsG := zw_sel (by decide +kernel) rfl
theorem mc_X0_findRoom : Cond.code yX0_findRoom cX0_findRoom 3 (some .int) ∈ wsG := zw_in (i := 192) (by decide +kernel) rfl
theorem ml_X0_60 : Cond.methodLink RX0 60 yX0_keepClean ∈ wsG := zw_in (i := 212) (by decide +kernel) rfl
theorem mm_X0_keepClean : Cond.instanceMethod yX0_keepClean ∈ wsG := zw_in (i := 214) (by decide +kernel) rfl
theorem ms_X0_keepClean : Cond.selects RX0 yX0_keepClean yX0_keepClean ∈ wsG := zw_sel (by decide +kernel) rfl
theorem mc_X0_keepClean : Cond.code yX0_keepClean cX0_keepClean 3 none ∈ wsG := zw_in (i := 215) (by decide +kernel) rfl
theorem mf_X0_44 : Cond.fieldLink RX0 44 "WriteBackTier" "hits" "I" ∈ wsG := zw_in (i := 31) (by decide +kernel) rfl
theorem mf_X0_50 : Cond.fieldLink RX0 50 "WriteBackTier" "misses" "I" ∈ wsG := zw_in (i := 32) (by decide +kernel) rfl
theorem ml_X0_104 : Cond.methodLink RX0 104 yX0_blockOf ∈ wsG := zw_in (i := 182) (by decide +kernel) rfl
theorem mt_X0_blockOf : Cond.static yX0_blockOf ∈ wsG := zw_in (i := 183) (by decide +kernel) rfl
theorem mc_X0_blockOf : Cond.code yX0_blockOf cX0_blockOf 1 (some .int) ∈ wsG := zw_in (i := 184) (by decide +kernel) rfl
theorem mf_X0_147 : Cond.fieldLink RX0 147 "WriteBackTier" "uses" "I" ∈ wsG := zw_in (i := 28) (by decide +kernel) rfl
theorem ml_X0_100 : Cond.methodLink RX0 100 yX0_writeBackIfDirty ∈ wsG := zw_in (i := 193) (by decide +kernel) rfl
theorem mm_X0_writeBackIfDirty : Cond.instanceMethod yX0_writeBackIfDirty ∈ wsG := zw_in (i := 195) (by decide +kernel) rfl
theorem ms_X0_writeBackIfDirty : Cond.selects RX0 yX0_writeBackIfDirty yX0_writeBackIfDirty ∈ wsG := zw_sel (by decide +kernel) rfl
theorem mc_X0_writeBackIfDirty : Cond.code yX0_writeBackIfDirty cX0_writeBackIfDirty 2 (some .boolean) ∈ wsG := zw_in (i := 196) (by decide +kernel) rfl
theorem ml_X0_159 : Cond.methodLink RX0 159 yX0_makeEmpty ∈ wsG := zw_in (i := 208) (by decide +kernel) rfl
theorem mm_X0_makeEmpty : Cond.instanceMethod yX0_makeEmpty ∈ wsG := zw_in (i := 210) (by decide +kernel) rfl
theorem ms_X0_makeEmpty : Cond.selects RX0 yX0_makeEmpty yX0_makeEmpty ∈ wsG := zw_sel (by decide +kernel) rfl
theorem mc_X0_makeEmpty : Cond.code yX0_makeEmpty cX0_makeEmpty 2 none ∈ wsG := zw_in (i := 211) (by decide +kernel) rfl
theorem ml_X0_153 : Cond.methodLink RX0 153 yX0_giveOrigin ∈ wsG := zw_in (i := 197) (by decide +kernel) rfl
theorem mm_X0_giveOrigin : Cond.instanceMethod yX0_giveOrigin ∈ wsG := zw_in (i := 199) (by decide +kernel) rfl
theorem ms_X0_giveOrigin : Cond.selects RX0 yX0_giveOrigin yX0_giveOrigin ∈ wsG := zw_sel (by decide +kernel) rfl
theorem mc_X0_giveOrigin : Cond.code yX0_giveOrigin cX0_giveOrigin 4 none ∈ wsG := zw_in (i := 200) (by decide +kernel) rfl
theorem ml_X0_156 : Cond.methodLink RX0 156 yX0_makeClean ∈ wsG := zw_in (i := 201) (by decide +kernel) rfl
theorem mm_X0_makeClean : Cond.instanceMethod yX0_makeClean ∈ wsG := zw_in (i := 203) (by decide +kernel) rfl
theorem ms_X0_makeClean : Cond.selects RX0 yX0_makeClean yX0_makeClean ∈ wsG := zw_sel (by decide +kernel) rfl
theorem mc_X0_makeClean : Cond.code yX0_makeClean cX0_makeClean 2 none ∈ wsG := zw_in (i := 204) (by decide +kernel) rfl
theorem mf_X0_137 : Cond.fieldLink RX0 137 "WriteBackTier" "originWrites" "I" ∈ wsG := zw_in (i := 33) (by decide +kernel) rfl
theorem ml_X0_150 : Cond.methodLink RX0 150 yX0_cleanForm ∈ wsG := zw_in (i := 205) (by decide +kernel) rfl
theorem mt_X0_cleanForm : Cond.static yX0_cleanForm ∈ wsG := zw_in (i := 206) (by decide +kernel) rfl
theorem mc_X0_cleanForm : Cond.code yX0_cleanForm cX0_cleanForm 1 (some .int) ∈ wsG := zw_in (i := 207) (by decide +kernel) rfl
theorem ml_L_15 : Cond.methodLink RL 15 yX0_write ∈ wsG := zw_in (i := 219) (by decide +kernel) rfl
theorem mm_X0_write : Cond.instanceMethod yX0_write ∈ wsG := zw_in (i := 220) (by decide +kernel) rfl
theorem ms_X0_write : Cond.selects RX0 yX0_write yX0_write ∈ wsG := zw_in (i := 221) (by decide +kernel) rfl
theorem mc_X0_write : Cond.code yX0_write cX0_write 4 none ∈ wsG := zw_in (i := 222) (by decide +kernel) rfl
theorem ml_X0_64 : Cond.methodLink RX0 64 yX0_writeThrough ∈ wsG := zw_in (i := 223) (by decide +kernel) rfl
theorem mm_X0_writeThrough : Cond.instanceMethod yX0_writeThrough ∈ wsG := zw_in (i := 225) (by decide +kernel) rfl
theorem ms_X0_writeThrough : Cond.selects RX0 yX0_writeThrough yX0_writeThrough ∈ wsG := zw_sel (by decide +kernel) rfl
theorem mc_X0_writeThrough : Cond.code yX0_writeThrough cX0_writeThrough 5 none ∈ wsG := zw_in (i := 226) (by decide +kernel) rfl
theorem ml_X0_68 : Cond.methodLink RX0 68 yX0_writePast ∈ wsG := zw_in (i := 227) (by decide +kernel) rfl
theorem mm_X0_writePast : Cond.instanceMethod yX0_writePast ∈ wsG := zw_in (i := 229) (by decide +kernel) rfl
theorem ms_X0_writePast : Cond.selects RX0 yX0_writePast yX0_writePast ∈ wsG := zw_sel (by decide +kernel) rfl
theorem mc_X0_writePast : Cond.code yX0_writePast cX0_writePast 5 none ∈ wsG := zw_in (i := 230) (by decide +kernel) rfl
theorem ml_X0_71 : Cond.methodLink RX0 71 yX0_writeInSteps ∈ wsG := zw_in (i := 231) (by decide +kernel) rfl
theorem mm_X0_writeInSteps : Cond.instanceMethod yX0_writeInSteps ∈ wsG := zw_in (i := 233) (by decide +kernel) rfl
theorem ms_X0_writeInSteps : Cond.selects RX0 yX0_writeInSteps yX0_writeInSteps ∈ wsG := zw_sel (by decide +kernel) rfl
theorem mc_X0_writeInSteps : Cond.code yX0_writeInSteps cX0_writeInSteps 7 (some .int) ∈ wsG := zw_in (i := 234) (by decide +kernel) rfl
theorem ml_X0_162 : Cond.methodLink RX0 162 yX0_fillInSteps ∈ wsG := zw_in (i := 235) (by decide +kernel) rfl
theorem mm_X0_fillInSteps : Cond.instanceMethod yX0_fillInSteps ∈ wsG := zw_in (i := 237) (by decide +kernel) rfl
theorem ms_X0_fillInSteps : Cond.selects RX0 yX0_fillInSteps yX0_fillInSteps ∈ wsG := zw_sel (by decide +kernel) rfl
theorem mc_X0_fillInSteps : Cond.code yX0_fillInSteps cX0_fillInSteps 6 (some .int) ∈ wsG := zw_in (i := 238) (by decide +kernel) rfl
theorem ml_X0_166 : Cond.methodLink RX0 166 yX0_dirtyForm ∈ wsG := zw_in (i := 239) (by decide +kernel) rfl
theorem mt_X0_dirtyForm : Cond.static yX0_dirtyForm ∈ wsG := zw_in (i := 240) (by decide +kernel) rfl
theorem mc_X0_dirtyForm : Cond.code yX0_dirtyForm cX0_dirtyForm 1 (some .int) ∈ wsG := zw_in (i := 241) (by decide +kernel) rfl
theorem ml_X0_169 : Cond.methodLink RX0 169 yX0_overwriteDirty ∈ wsG := zw_in (i := 242) (by decide +kernel) rfl
theorem mm_X0_overwriteDirty : Cond.instanceMethod yX0_overwriteDirty ∈ wsG := zw_in (i := 244) (by decide +kernel) rfl
theorem ms_X0_overwriteDirty : Cond.selects RX0 yX0_overwriteDirty yX0_overwriteDirty ∈ wsG := zw_sel (by decide +kernel) rfl
theorem mc_X0_overwriteDirty : Cond.code yX0_overwriteDirty cX0_overwriteDirty 6 (some .int) ∈ wsG := zw_in (i := 245) (by decide +kernel) rfl
theorem ml_X0_172 : Cond.methodLink RX0 172 yX0_overwriteClean ∈ wsG := zw_in (i := 246) (by decide +kernel) rfl
theorem mm_X0_overwriteClean : Cond.instanceMethod yX0_overwriteClean ∈ wsG := zw_in (i := 248) (by decide +kernel) rfl
theorem ms_X0_overwriteClean : Cond.selects RX0 yX0_overwriteClean yX0_overwriteClean ∈ wsG := zw_sel (by decide +kernel) rfl
theorem mc_X0_overwriteClean : Cond.code yX0_overwriteClean cX0_overwriteClean 6 (some .int) ∈ wsG := zw_in (i := 249) (by decide +kernel) rfl
theorem ml_L_19 : Cond.methodLink RL 19 yX0_cut ∈ wsG := zw_in (i := 254) (by decide +kernel) rfl
theorem mm_X0_cut : Cond.instanceMethod yX0_cut ∈ wsG := zw_in (i := 255) (by decide +kernel) rfl
theorem ms_X0_cut : Cond.selects RX0 yX0_cut yX0_cut ∈ wsG := zw_in (i := 256) (by decide +kernel) rfl
theorem mc_X0_cut : Cond.code yX0_cut cX0_cut 6 (some .int) ∈ wsG := zw_in (i := 257) (by decide +kernel) rfl
theorem ml_L_25 : Cond.methodLink RL 25 yX0_mode ∈ wsG := zw_in (i := 278) (by decide +kernel) rfl
theorem mm_X0_mode : Cond.instanceMethod yX0_mode ∈ wsG := zw_in (i := 279) (by decide +kernel) rfl
theorem ms_X0_mode : Cond.selects RX0 yX0_mode yX0_mode ∈ wsG := zw_in (i := 280) (by decide +kernel) rfl
theorem mc_X0_mode : Cond.code yX0_mode cX0_mode 2 (some .int) ∈ wsG := zw_in (i := 281) (by decide +kernel) rfl
theorem ml_X0_92 : Cond.methodLink RX0 92 yX0_writeAllBack ∈ wsG := zw_in (i := 283) (by decide +kernel) rfl
theorem mm_X0_writeAllBack : Cond.instanceMethod yX0_writeAllBack ∈ wsG := zw_in (i := 285) (by decide +kernel) rfl
theorem ms_X0_writeAllBack : Cond.selects RX0 yX0_writeAllBack yX0_writeAllBack ∈ wsG := zw_sel (by decide +kernel) rfl
theorem mc_X0_writeAllBack : Cond.code yX0_writeAllBack cX0_writeAllBack 3 (some .int) ∈ wsG := zw_in (i := 286) (by decide +kernel) rfl
theorem ml_L_29 : Cond.methodLink RL 29 yX0_back ∈ wsG := zw_in (i := 290) (by decide +kernel) rfl
theorem mm_X0_back : Cond.instanceMethod yX0_back ∈ wsG := zw_in (i := 291) (by decide +kernel) rfl
theorem ms_X0_back : Cond.selects RX0 yX0_back yX0_back ∈ wsG := zw_in (i := 292) (by decide +kernel) rfl
theorem mc_X0_back : Cond.code yX0_back cX0_back 4 (some .int) ∈ wsG := zw_in (i := 293) (by decide +kernel) rfl
theorem ml_X0_97 : Cond.methodLink RX0 97 yX0_nextForHand ∈ wsG := zw_in (i := 295) (by decide +kernel) rfl
theorem mm_X0_nextForHand : Cond.instanceMethod yX0_nextForHand ∈ wsG := zw_in (i := 297) (by decide +kernel) rfl
theorem ms_X0_nextForHand : Cond.selects RX0 yX0_nextForHand yX0_nextForHand ∈ wsG := zw_sel (by decide +kernel) rfl
theorem mc_X0_nextForHand : Cond.code yX0_nextForHand cX0_nextForHand 2 (some .int) ∈ wsG := zw_in (i := 298) (by decide +kernel) rfl
theorem ml_X0_175 : Cond.methodLink RX0 175 yX0_leastDirtyFrom ∈ wsG := zw_in (i := 299) (by decide +kernel) rfl
theorem mm_X0_leastDirtyFrom : Cond.instanceMethod yX0_leastDirtyFrom ∈ wsG := zw_in (i := 301) (by decide +kernel) rfl
theorem ms_X0_leastDirtyFrom : Cond.selects RX0 yX0_leastDirtyFrom yX0_leastDirtyFrom ∈ wsG := zw_sel (by decide +kernel) rfl
theorem mc_X0_leastDirtyFrom : Cond.code yX0_leastDirtyFrom cX0_leastDirtyFrom 6 (some .int) ∈ wsG := zw_in (i := 302) (by decide +kernel) rfl
theorem ml_L_32 : Cond.methodLink RL 32 yX0_slot ∈ wsG := zw_in (i := 306) (by decide +kernel) rfl
theorem mm_X0_slot : Cond.instanceMethod yX0_slot ∈ wsG := zw_in (i := 307) (by decide +kernel) rfl
theorem ms_X0_slot : Cond.selects RX0 yX0_slot yX0_slot ∈ wsG := zw_in (i := 308) (by decide +kernel) rfl
theorem mc_X0_slot : Cond.code yX0_slot cX0_slot 2 (some .int) ∈ wsG := zw_in (i := 309) (by decide +kernel) rfl
theorem ml_L_35 : Cond.methodLink RL 35 yX0_dirty ∈ wsG := zw_in (i := 314) (by decide +kernel) rfl
theorem mm_X0_dirty : Cond.instanceMethod yX0_dirty ∈ wsG := zw_in (i := 315) (by decide +kernel) rfl
theorem ms_X0_dirty : Cond.selects RX0 yX0_dirty yX0_dirty ∈ wsG := zw_in (i := 316) (by decide +kernel) rfl
theorem mc_X0_dirty : Cond.code yX0_dirty cX0_dirty 3 (some .boolean) ∈ wsG := zw_in (i := 317) (by decide +kernel) rfl
theorem ml_L_41 : Cond.methodLink RL 41 yX0_origin ∈ wsG := zw_in (i := 337) (by decide +kernel) rfl
theorem mm_X0_origin : Cond.instanceMethod yX0_origin ∈ wsG := zw_in (i := 338) (by decide +kernel) rfl
theorem ms_X0_origin : Cond.selects RX0 yX0_origin yX0_origin ∈ wsG := zw_in (i := 339) (by decide +kernel) rfl
theorem mc_X0_origin : Cond.code yX0_origin cX0_origin 2 (some .long) ∈ wsG := zw_in (i := 340) (by decide +kernel) rfl
theorem ml_L_44 : Cond.methodLink RL 44 yX0_order ∈ wsG := zw_in (i := 345) (by decide +kernel) rfl
theorem mm_X0_order : Cond.instanceMethod yX0_order ∈ wsG := zw_in (i := 346) (by decide +kernel) rfl
theorem ms_X0_order : Cond.selects RX0 yX0_order yX0_order ∈ wsG := zw_in (i := 347) (by decide +kernel) rfl
theorem mc_X0_order : Cond.code yX0_order cX0_order 3 (some .int) ∈ wsG := zw_in (i := 348) (by decide +kernel) rfl
theorem ml_X0_127 : Cond.methodLink RX0 127 yX0_countUsedAfter ∈ wsG := zw_in (i := 349) (by decide +kernel) rfl
theorem mm_X0_countUsedAfter : Cond.instanceMethod yX0_countUsedAfter ∈ wsG := zw_in (i := 351) (by decide +kernel) rfl
theorem ms_X0_countUsedAfter : Cond.selects RX0 yX0_countUsedAfter yX0_countUsedAfter ∈ wsG := zw_sel (by decide +kernel) rfl
theorem mc_X0_countUsedAfter : Cond.code yX0_countUsedAfter cX0_countUsedAfter 4 (some .int) ∈ wsG := zw_in (i := 352) (by decide +kernel) rfl
theorem ml_L_49 : Cond.methodLink RL 49 yX0_noted ∈ wsG := zw_in (i := 372) (by decide +kernel) rfl
theorem mm_X0_noted : Cond.instanceMethod yX0_noted ∈ wsG := zw_in (i := 373) (by decide +kernel) rfl
theorem ms_X0_noted : Cond.selects RX0 yX0_noted yX0_noted ∈ wsG := zw_in (i := 374) (by decide +kernel) rfl
theorem mc_X0_noted : Cond.code yX0_noted cX0_noted 2 (some .int) ∈ wsG := zw_in (i := 375) (by decide +kernel) rfl
theorem ml_L_52 : Cond.methodLink RL 52 yX0_figure ∈ wsG := zw_in (i := 380) (by decide +kernel) rfl
theorem mm_X0_figure : Cond.instanceMethod yX0_figure ∈ wsG := zw_in (i := 381) (by decide +kernel) rfl
theorem ms_X0_figure : Cond.selects RX0 yX0_figure yX0_figure ∈ wsG := zw_in (i := 382) (by decide +kernel) rfl
theorem mc_X0_figure : Cond.code yX0_figure cX0_figure 2 (some .int) ∈ wsG := zw_in (i := 383) (by decide +kernel) rfl
theorem mf_X1_7 : Cond.fieldLink RX1 7 "WriteBackTierModel" "origin" "[J" ∈ wsG := zw_in (i := 393) (by decide +kernel) rfl
theorem mf_X1_13 : Cond.fieldLink RX1 13 "WriteBackTierModel" "block" "[I" ∈ wsG := zw_in (i := 394) (by decide +kernel) rfl
theorem mf_X1_17 : Cond.fieldLink RX1 17 "WriteBackTierModel" "value" "[J" ∈ wsG := zw_in (i := 395) (by decide +kernel) rfl
theorem mf_X1_20 : Cond.fieldLink RX1 20 "WriteBackTierModel" "dirty" "[Z" ∈ wsG := zw_in (i := 396) (by decide +kernel) rfl
theorem mf_X1_24 : Cond.fieldLink RX1 24 "WriteBackTierModel" "note" "[I" ∈ wsG := zw_in (i := 397) (by decide +kernel) rfl
theorem mf_X1_27 : Cond.fieldLink RX1 27 "WriteBackTierModel" "used" "[J" ∈ wsG := zw_in (i := 398) (by decide +kernel) rfl
theorem mf_X1_30 : Cond.fieldLink RX1 30 "WriteBackTierModel" "slots" "I" ∈ wsG := zw_in (i := 392) (by decide +kernel) rfl
theorem mf_X1_34 : Cond.fieldLink RX1 34 "WriteBackTierModel" "code" "I" ∈ wsG := zw_in (i := 391) (by decide +kernel) rfl
theorem ml_X1_72 : Cond.methodLink RX1 72 yX1_isBlock ∈ wsG := zw_in (i := 446) (by decide +kernel) rfl
theorem mt_X1_isBlock : Cond.static yX1_isBlock ∈ wsG := zw_in (i := 447) (by decide +kernel) rfl
theorem mi_X1 : Cond.initialized RX1 ∈ wsG := zw_in (i := 3) (by decide +kernel) rfl
theorem mc_X1_isBlock : Cond.code yX1_isBlock cX1_isBlock 1 (some .boolean) ∈ wsG := zw_in (i := 448) (by decide +kernel) rfl
theorem ml_X1_75 : Cond.methodLink RX1 75 yX1_find ∈ wsG := zw_in (i := 449) (by decide +kernel) rfl
theorem mm_X1_find : Cond.instanceMethod yX1_find ∈ wsG := zw_in (i := 451) (by decide +kernel) rfl
theorem ms_X1_find : Cond.selects RX1 yX1_find yX1_find ∈ wsG := zw_sel (by decide +kernel) rfl
theorem mc_X1_find : Cond.code yX1_find cX1_find 4 (some .int) ∈ wsG := zw_in (i := 452) (by decide +kernel) rfl
theorem ml_X1_81 : Cond.methodLink RX1 81 yX1_use ∈ wsG := zw_in (i := 453) (by decide +kernel) rfl
theorem mm_X1_use : Cond.instanceMethod yX1_use ∈ wsG := zw_in (i := 455) (by decide +kernel) rfl
theorem ms_X1_use : Cond.selects RX1 yX1_use yX1_use ∈ wsG := zw_sel (by decide +kernel) rfl
theorem mc_X1_use : Cond.code yX1_use cX1_use 2 none ∈ wsG := zw_in (i := 456) (by decide +kernel) rfl
theorem ml_X1_90 : Cond.methodLink RX1 90 yX1_room ∈ wsG := zw_in (i := 457) (by decide +kernel) rfl
theorem mm_X1_room : Cond.instanceMethod yX1_room ∈ wsG := zw_in (i := 459) (by decide +kernel) rfl
theorem ms_X1_room : Cond.selects RX1 yX1_room yX1_room ∈ wsG := zw_sel (by decide +kernel) rfl
theorem mc_X1_room : Cond.code yX1_room cX1_room 3 (some .int) ∈ wsG := zw_in (i := 460) (by decide +kernel) rfl
theorem mf_X1_78 : Cond.fieldLink RX1 78 "WriteBackTierModel" "hits" "I" ∈ wsG := zw_in (i := 402) (by decide +kernel) rfl
theorem mf_X1_84 : Cond.fieldLink RX1 84 "WriteBackTierModel" "misses" "I" ∈ wsG := zw_in (i := 403) (by decide +kernel) rfl
theorem mf_X1_87 : Cond.fieldLink RX1 87 "WriteBackTierModel" "mode" "I" ∈ wsG := zw_in (i := 400) (by decide +kernel) rfl
theorem mf_X1_44 : Cond.fieldLink RX1 44 "WriteBackTierModel" "clock" "J" ∈ wsG := zw_in (i := 399) (by decide +kernel) rfl
theorem ml_X1_66 : Cond.methodLink RX1 66 yX1_writeBack ∈ wsG := zw_in (i := 461) (by decide +kernel) rfl
theorem mm_X1_writeBack : Cond.instanceMethod yX1_writeBack ∈ wsG := zw_in (i := 463) (by decide +kernel) rfl
theorem ms_X1_writeBack : Cond.selects RX1 yX1_writeBack yX1_writeBack ∈ wsG := zw_sel (by decide +kernel) rfl
theorem mc_X1_writeBack : Cond.code yX1_writeBack cX1_writeBack 2 none ∈ wsG := zw_in (i := 464) (by decide +kernel) rfl
theorem ml_X1_69 : Cond.methodLink RX1 69 yX1_empty ∈ wsG := zw_in (i := 485) (by decide +kernel) rfl
theorem mm_X1_empty : Cond.instanceMethod yX1_empty ∈ wsG := zw_in (i := 487) (by decide +kernel) rfl
theorem ms_X1_empty : Cond.selects RX1 yX1_empty yX1_empty ∈ wsG := zw_sel (by decide +kernel) rfl
theorem mc_X1_empty : Cond.code yX1_empty cX1_empty 2 none ∈ wsG := zw_in (i := 488) (by decide +kernel) rfl
theorem ml_X1_59 : Cond.methodLink RX1 59 yX1_give ∈ wsG := zw_in (i := 465) (by decide +kernel) rfl
theorem mm_X1_give : Cond.instanceMethod yX1_give ∈ wsG := zw_in (i := 467) (by decide +kernel) rfl
theorem ms_X1_give : Cond.selects RX1 yX1_give yX1_give ∈ wsG := zw_sel (by decide +kernel) rfl
theorem mc_X1_give : Cond.code yX1_give cX1_give 4 none ∈ wsG := zw_in (i := 468) (by decide +kernel) rfl
theorem ml_X1_63 : Cond.methodLink RX1 63 yX1_clean ∈ wsG := zw_in (i := 469) (by decide +kernel) rfl
theorem mm_X1_clean : Cond.instanceMethod yX1_clean ∈ wsG := zw_in (i := 471) (by decide +kernel) rfl
theorem ms_X1_clean : Cond.selects RX1 yX1_clean yX1_clean ∈ wsG := zw_sel (by decide +kernel) rfl
theorem mc_X1_clean : Cond.code yX1_clean cX1_clean 3 none ∈ wsG := zw_in (i := 472) (by decide +kernel) rfl
theorem mf_X1_48 : Cond.fieldLink RX1 48 "WriteBackTierModel" "gets" "I" ∈ wsG := zw_in (i := 404) (by decide +kernel) rfl
theorem ml_X1_51 : Cond.methodLink RX1 51 yX1_isNotedDirty ∈ wsG := zw_in (i := 473) (by decide +kernel) rfl
theorem mm_X1_isNotedDirty : Cond.instanceMethod yX1_isNotedDirty ∈ wsG := zw_in (i := 475) (by decide +kernel) rfl
theorem ms_X1_isNotedDirty : Cond.selects RX1 yX1_isNotedDirty yX1_isNotedDirty ∈ wsG := zw_sel (by decide +kernel) rfl
theorem mc_X1_isNotedDirty : Cond.code yX1_isNotedDirty cX1_isNotedDirty 2 (some .boolean) ∈ wsG := zw_in (i := 476) (by decide +kernel) rfl
theorem ml_X1_55 : Cond.methodLink RX1 55 yX1_noteSlot ∈ wsG := zw_in (i := 477) (by decide +kernel) rfl
theorem mm_X1_noteSlot : Cond.instanceMethod yX1_noteSlot ∈ wsG := zw_in (i := 479) (by decide +kernel) rfl
theorem ms_X1_noteSlot : Cond.selects RX1 yX1_noteSlot yX1_noteSlot ∈ wsG := zw_sel (by decide +kernel) rfl
theorem mc_X1_noteSlot : Cond.code yX1_noteSlot cX1_noteSlot 2 none ∈ wsG := zw_in (i := 480) (by decide +kernel) rfl
theorem ml_X1_37 : Cond.methodLink RX1 37 yX1_soOf ∈ wsG := zw_in (i := 481) (by decide +kernel) rfl
theorem mm_X1_soOf : Cond.instanceMethod yX1_soOf ∈ wsG := zw_in (i := 483) (by decide +kernel) rfl
theorem ms_X1_soOf : Cond.selects RX1 yX1_soOf yX1_soOf ∈ wsG := zw_sel (by decide +kernel) rfl
theorem mc_X1_soOf : Cond.code yX1_soOf cX1_soOf 2 (some .int) ∈ wsG := zw_in (i := 484) (by decide +kernel) rfl
theorem mf_X1_41 : Cond.fieldLink RX1 41 "WriteBackTierModel" "notes" "I" ∈ wsG := zw_in (i := 405) (by decide +kernel) rfl
theorem ml_X1_94 : Cond.methodLink RX1 94 yX1_steps ∈ wsG := zw_in (i := 493) (by decide +kernel) rfl
theorem mm_X1_steps : Cond.instanceMethod yX1_steps ∈ wsG := zw_in (i := 495) (by decide +kernel) rfl
theorem ms_X1_steps : Cond.selects RX1 yX1_steps yX1_steps ∈ wsG := zw_sel (by decide +kernel) rfl
theorem mc_X1_steps : Cond.code yX1_steps cX1_steps 8 (some .int) ∈ wsG := zw_in (i := 496) (by decide +kernel) rfl
theorem ml_X1_101 : Cond.methodLink RX1 101 yX1_stop ∈ wsG := zw_in (i := 501) (by decide +kernel) rfl
theorem mm_X1_stop : Cond.instanceMethod yX1_stop ∈ wsG := zw_in (i := 503) (by decide +kernel) rfl
theorem ms_X1_stop : Cond.selects RX1 yX1_stop yX1_stop ∈ wsG := zw_sel (by decide +kernel) rfl
theorem mc_X1_stop : Cond.code yX1_stop cX1_stop 2 none ∈ wsG := zw_in (i := 504) (by decide +kernel) rfl
theorem mf_X1_98 : Cond.fieldLink RX1 98 "WriteBackTierModel" "hand" "I" ∈ wsG := zw_in (i := 401) (by decide +kernel) rfl
theorem ml_X1_104 : Cond.methodLink RX1 104 yX1_nextDirty ∈ wsG := zw_in (i := 513) (by decide +kernel) rfl
theorem mm_X1_nextDirty : Cond.instanceMethod yX1_nextDirty ∈ wsG := zw_in (i := 515) (by decide +kernel) rfl
theorem ms_X1_nextDirty : Cond.selects RX1 yX1_nextDirty yX1_nextDirty ∈ wsG := zw_sel (by decide +kernel) rfl
theorem mc_X1_nextDirty : Cond.code yX1_nextDirty cX1_nextDirty 5 (some .int) ∈ wsG := zw_in (i := 516) (by decide +kernel) rfl
theorem ml_X1_107 : Cond.methodLink RX1 107 yX1_full ∈ wsG := zw_in (i := 525) (by decide +kernel) rfl
theorem mm_X1_full : Cond.instanceMethod yX1_full ∈ wsG := zw_in (i := 527) (by decide +kernel) rfl
theorem ms_X1_full : Cond.selects RX1 yX1_full yX1_full ∈ wsG := zw_sel (by decide +kernel) rfl
theorem mc_X1_full : Cond.code yX1_full cX1_full 3 (some .int) ∈ wsG := zw_in (i := 528) (by decide +kernel) rfl
theorem ml_X1_110 : Cond.methodLink RX1 110 yX1_dirties ∈ wsG := zw_in (i := 533) (by decide +kernel) rfl
theorem mm_X1_dirties : Cond.instanceMethod yX1_dirties ∈ wsG := zw_in (i := 535) (by decide +kernel) rfl
theorem ms_X1_dirties : Cond.selects RX1 yX1_dirties yX1_dirties ∈ wsG := zw_sel (by decide +kernel) rfl
theorem mc_X1_dirties : Cond.code yX1_dirties cX1_dirties 3 (some .int) ∈ wsG := zw_in (i := 536) (by decide +kernel) rfl
theorem ml_L_55 : Cond.methodLink RL 55 yL_cell ∈ wsG := zw_in (i := 95) (by decide +kernel) rfl
theorem mt_L_cell : Cond.static yL_cell ∈ wsG := zw_in (i := 96) (by decide +kernel) rfl
theorem mi_L : Cond.initialized RL ∈ wsG := zw_in (i := 0) (by decide +kernel) rfl
theorem mc_L_cell : Cond.code yL_cell cL_cell 2 (some .int) ∈ wsG := zw_in (i := 97) (by decide +kernel) rfl
theorem mc_X0_init : Cond.code yX0_init cX0_init 2 none ∈ wsG := zw_in (i := 15) (by decide +kernel) rfl
theorem ml_L_61 : Cond.methodLink RL 61 yX0_init ∈ wsG := zw_in (i := 13) (by decide +kernel) rfl
theorem mm_X0_init : Cond.instanceMethod yX0_init ∈ wsG := zw_in (i := 14) (by decide +kernel) rfl
theorem mc_X1_init : Cond.code yX1_init cX1_init 3 none ∈ wsG := zw_in (i := 389) (by decide +kernel) rfl
theorem ml_L_66 : Cond.methodLink RL 66 yX1_init ∈ wsG := zw_in (i := 387) (by decide +kernel) rfl
theorem mm_X1_init : Cond.instanceMethod yX1_init ∈ wsG := zw_in (i := 388) (by decide +kernel) rfl
theorem ml_L_67 : Cond.methodLink RL 67 yL_read ∈ wsG := zw_in (i := 98) (by decide +kernel) rfl
theorem mt_L_read : Cond.static yL_read ∈ wsG := zw_in (i := 99) (by decide +kernel) rfl
theorem mc_L_read : Cond.codeWith yL_read cL_read 4 (some .int) [(0, 8, 11, 13)] ∈ wsG := zw_in (i := 100) (by decide +kernel) rfl
theorem ml_L_70 : Cond.methodLink RL 70 yX1_read ∈ wsG := zw_in (i := 442) (by decide +kernel) rfl
theorem mm_X1_read : Cond.instanceMethod yX1_read ∈ wsG := zw_in (i := 443) (by decide +kernel) rfl
theorem ms_X1_read : Cond.selects RX1 yX1_read yX1_read ∈ wsG := zw_in (i := 444) (by decide +kernel) rfl
theorem mc_X1_read : Cond.code yX1_read cX1_read 3 (some .long) ∈ wsG := zw_in (i := 445) (by decide +kernel) rfl
theorem ml_L_71 : Cond.methodLink RL 71 yX1_thrown ∈ wsG := zw_in (i := 438) (by decide +kernel) rfl
theorem mm_X1_thrown : Cond.instanceMethod yX1_thrown ∈ wsG := zw_in (i := 439) (by decide +kernel) rfl
theorem ms_X1_thrown : Cond.selects RX1 yX1_thrown yX1_thrown ∈ wsG := zw_in (i := 440) (by decide +kernel) rfl
theorem mc_X1_thrown : Cond.code yX1_thrown cX1_thrown 1 (some .int) ∈ wsG := zw_in (i := 441) (by decide +kernel) rfl
theorem ml_L_77 : Cond.methodLink RL 77 yL_write ∈ wsG := zw_in (i := 216) (by decide +kernel) rfl
theorem mt_L_write : Cond.static yL_write ∈ wsG := zw_in (i := 217) (by decide +kernel) rfl
theorem mc_L_write : Cond.codeWith yL_write cL_write 5 (some .int) [(0, 6, 9, 13)] ∈ wsG := zw_in (i := 218) (by decide +kernel) rfl
theorem ml_L_80 : Cond.methodLink RL 80 yX1_write ∈ wsG := zw_in (i := 489) (by decide +kernel) rfl
theorem mm_X1_write : Cond.instanceMethod yX1_write ∈ wsG := zw_in (i := 490) (by decide +kernel) rfl
theorem ms_X1_write : Cond.selects RX1 yX1_write yX1_write ∈ wsG := zw_in (i := 491) (by decide +kernel) rfl
theorem mc_X1_write : Cond.code yX1_write cX1_write 5 none ∈ wsG := zw_in (i := 492) (by decide +kernel) rfl
theorem ml_L_81 : Cond.methodLink RL 81 yL_cut ∈ wsG := zw_in (i := 250) (by decide +kernel) rfl
theorem mt_L_cut : Cond.static yL_cut ∈ wsG := zw_in (i := 251) (by decide +kernel) rfl
theorem mc_L_cut : Cond.codeWith yL_cut cL_cut 7 (some .int) [(0, 13, 16, 13), (0, 13, 20, 23)] ∈ wsG := zw_in (i := 252) (by decide +kernel) rfl
theorem ml_L_84 : Cond.methodLink RL 84 yX1_cut ∈ wsG := zw_in (i := 497) (by decide +kernel) rfl
theorem mm_X1_cut : Cond.instanceMethod yX1_cut ∈ wsG := zw_in (i := 498) (by decide +kernel) rfl
theorem ms_X1_cut : Cond.selects RX1 yX1_cut yX1_cut ∈ wsG := zw_in (i := 499) (by decide +kernel) rfl
theorem mc_X1_cut : Cond.code yX1_cut cX1_cut 6 (some .int) ∈ wsG := zw_in (i := 500) (by decide +kernel) rfl
theorem ml_L_85 : Cond.methodLink RL 85 yL_mode ∈ wsG := zw_in (i := 275) (by decide +kernel) rfl
theorem mt_L_mode : Cond.static yL_mode ∈ wsG := zw_in (i := 276) (by decide +kernel) rfl
theorem mc_L_mode : Cond.codeWith yL_mode cL_mode 4 (some .int) [(0, 9, 12, 13)] ∈ wsG := zw_in (i := 277) (by decide +kernel) rfl
theorem ml_L_87 : Cond.methodLink RL 87 yX1_mode ∈ wsG := zw_in (i := 505) (by decide +kernel) rfl
theorem mm_X1_mode : Cond.instanceMethod yX1_mode ∈ wsG := zw_in (i := 506) (by decide +kernel) rfl
theorem ms_X1_mode : Cond.selects RX1 yX1_mode yX1_mode ∈ wsG := zw_in (i := 507) (by decide +kernel) rfl
theorem mc_X1_mode : Cond.code yX1_mode cX1_mode 4 (some .int) ∈ wsG := zw_in (i := 508) (by decide +kernel) rfl
theorem ml_L_88 : Cond.methodLink RL 88 yL_back ∈ wsG := zw_in (i := 287) (by decide +kernel) rfl
theorem mt_L_back : Cond.static yL_back ∈ wsG := zw_in (i := 288) (by decide +kernel) rfl
theorem mc_L_back : Cond.codeWith yL_back cL_back 4 (some .int) [(0, 9, 12, 13)] ∈ wsG := zw_in (i := 289) (by decide +kernel) rfl
theorem ml_L_90 : Cond.methodLink RL 90 yX1_back ∈ wsG := zw_in (i := 509) (by decide +kernel) rfl
theorem mm_X1_back : Cond.instanceMethod yX1_back ∈ wsG := zw_in (i := 510) (by decide +kernel) rfl
theorem ms_X1_back : Cond.selects RX1 yX1_back yX1_back ∈ wsG := zw_in (i := 511) (by decide +kernel) rfl
theorem mc_X1_back : Cond.code yX1_back cX1_back 5 (some .int) ∈ wsG := zw_in (i := 512) (by decide +kernel) rfl
theorem ml_L_91 : Cond.methodLink RL 91 yX0_check ∈ wsG := zw_in (i := 64) (by decide +kernel) rfl
theorem mm_X0_check : Cond.instanceMethod yX0_check ∈ wsG := zw_in (i := 65) (by decide +kernel) rfl
theorem ms_X0_check : Cond.selects RX0 yX0_check yX0_check ∈ wsG := zw_in (i := 66) (by decide +kernel) rfl
theorem mc_X0_check : Cond.code yX0_check cX0_check 3 (some .int) ∈ wsG := zw_in (i := 67) (by decide +kernel) rfl
theorem ml_L_94 : Cond.methodLink RL 94 yX1_check ∈ wsG := zw_in (i := 517) (by decide +kernel) rfl
theorem mm_X1_check : Cond.instanceMethod yX1_check ∈ wsG := zw_in (i := 518) (by decide +kernel) rfl
theorem ms_X1_check : Cond.selects RX1 yX1_check yX1_check ∈ wsG := zw_in (i := 519) (by decide +kernel) rfl
theorem mc_X1_check : Cond.code yX1_check cX1_check 3 (some .int) ∈ wsG := zw_in (i := 520) (by decide +kernel) rfl
theorem ml_L_95 : Cond.methodLink RL 95 yX0_crash ∈ wsG := zw_in (i := 72) (by decide +kernel) rfl
theorem mm_X0_crash : Cond.instanceMethod yX0_crash ∈ wsG := zw_in (i := 73) (by decide +kernel) rfl
theorem ms_X0_crash : Cond.selects RX0 yX0_crash yX0_crash ∈ wsG := zw_in (i := 74) (by decide +kernel) rfl
theorem mc_X0_crash : Cond.code yX0_crash cX0_crash 1 (some .int) ∈ wsG := zw_in (i := 75) (by decide +kernel) rfl
theorem ml_L_98 : Cond.methodLink RL 98 yX1_crash ∈ wsG := zw_in (i := 521) (by decide +kernel) rfl
theorem mm_X1_crash : Cond.instanceMethod yX1_crash ∈ wsG := zw_in (i := 522) (by decide +kernel) rfl
theorem ms_X1_crash : Cond.selects RX1 yX1_crash yX1_crash ∈ wsG := zw_in (i := 523) (by decide +kernel) rfl
theorem mc_X1_crash : Cond.code yX1_crash cX1_crash 1 (some .int) ∈ wsG := zw_in (i := 524) (by decide +kernel) rfl
theorem ml_L_99 : Cond.methodLink RL 99 yX0_lose ∈ wsG := zw_in (i := 84) (by decide +kernel) rfl
theorem mm_X0_lose : Cond.instanceMethod yX0_lose ∈ wsG := zw_in (i := 85) (by decide +kernel) rfl
theorem ms_X0_lose : Cond.selects RX0 yX0_lose yX0_lose ∈ wsG := zw_in (i := 86) (by decide +kernel) rfl
theorem mc_X0_lose : Cond.code yX0_lose cX0_lose 2 (some .int) ∈ wsG := zw_in (i := 87) (by decide +kernel) rfl
theorem ml_L_102 : Cond.methodLink RL 102 yX1_lose ∈ wsG := zw_in (i := 529) (by decide +kernel) rfl
theorem mm_X1_lose : Cond.instanceMethod yX1_lose ∈ wsG := zw_in (i := 530) (by decide +kernel) rfl
theorem ms_X1_lose : Cond.selects RX1 yX1_lose yX1_lose ∈ wsG := zw_in (i := 531) (by decide +kernel) rfl
theorem mc_X1_lose : Cond.code yX1_lose cX1_lose 3 (some .int) ∈ wsG := zw_in (i := 532) (by decide +kernel) rfl
theorem ml_L_103 : Cond.methodLink RL 103 yL_slot ∈ wsG := zw_in (i := 303) (by decide +kernel) rfl
theorem mt_L_slot : Cond.static yL_slot ∈ wsG := zw_in (i := 304) (by decide +kernel) rfl
theorem mc_L_slot : Cond.codeWith yL_slot cL_slot 4 (some .int) [(0, 9, 12, 13)] ∈ wsG := zw_in (i := 305) (by decide +kernel) rfl
theorem ml_L_105 : Cond.methodLink RL 105 yX1_slot ∈ wsG := zw_in (i := 537) (by decide +kernel) rfl
theorem mm_X1_slot : Cond.instanceMethod yX1_slot ∈ wsG := zw_in (i := 538) (by decide +kernel) rfl
theorem ms_X1_slot : Cond.selects RX1 yX1_slot yX1_slot ∈ wsG := zw_in (i := 539) (by decide +kernel) rfl
theorem mc_X1_slot : Cond.code yX1_slot cX1_slot 2 (some .int) ∈ wsG := zw_in (i := 540) (by decide +kernel) rfl
theorem ml_L_106 : Cond.methodLink RL 106 yL_dirty ∈ wsG := zw_in (i := 310) (by decide +kernel) rfl
theorem mt_L_dirty : Cond.static yL_dirty ∈ wsG := zw_in (i := 311) (by decide +kernel) rfl
theorem mc_L_dirty : Cond.codeWith yL_dirty cL_dirty 4 (some .int) [(0, 16, 19, 13), (0, 16, 22, 39)] ∈ wsG := zw_in (i := 312) (by decide +kernel) rfl
theorem ml_L_108 : Cond.methodLink RL 108 yX1_dirty ∈ wsG := zw_in (i := 541) (by decide +kernel) rfl
theorem mm_X1_dirty : Cond.instanceMethod yX1_dirty ∈ wsG := zw_in (i := 542) (by decide +kernel) rfl
theorem ms_X1_dirty : Cond.selects RX1 yX1_dirty yX1_dirty ∈ wsG := zw_in (i := 543) (by decide +kernel) rfl
theorem mc_X1_dirty : Cond.code yX1_dirty cX1_dirty 2 (some .boolean) ∈ wsG := zw_in (i := 544) (by decide +kernel) rfl
theorem ml_L_109 : Cond.methodLink RL 109 yL_origin ∈ wsG := zw_in (i := 334) (by decide +kernel) rfl
theorem mt_L_origin : Cond.static yL_origin ∈ wsG := zw_in (i := 335) (by decide +kernel) rfl
theorem mc_L_origin : Cond.codeWith yL_origin cL_origin 4 (some .int) [(0, 8, 11, 13)] ∈ wsG := zw_in (i := 336) (by decide +kernel) rfl
theorem ml_L_111 : Cond.methodLink RL 111 yX1_origin ∈ wsG := zw_in (i := 545) (by decide +kernel) rfl
theorem mm_X1_origin : Cond.instanceMethod yX1_origin ∈ wsG := zw_in (i := 546) (by decide +kernel) rfl
theorem ms_X1_origin : Cond.selects RX1 yX1_origin yX1_origin ∈ wsG := zw_in (i := 547) (by decide +kernel) rfl
theorem mc_X1_origin : Cond.code yX1_origin cX1_origin 2 (some .long) ∈ wsG := zw_in (i := 548) (by decide +kernel) rfl
theorem ml_L_112 : Cond.methodLink RL 112 yL_order ∈ wsG := zw_in (i := 341) (by decide +kernel) rfl
theorem mt_L_order : Cond.static yL_order ∈ wsG := zw_in (i := 342) (by decide +kernel) rfl
theorem mc_L_order : Cond.codeWith yL_order cL_order 4 (some .int) [(0, 9, 12, 47)] ∈ wsG := zw_in (i := 343) (by decide +kernel) rfl
theorem ml_L_114 : Cond.methodLink RL 114 yX1_order ∈ wsG := zw_in (i := 549) (by decide +kernel) rfl
theorem mm_X1_order : Cond.instanceMethod yX1_order ∈ wsG := zw_in (i := 550) (by decide +kernel) rfl
theorem ms_X1_order : Cond.selects RX1 yX1_order yX1_order ∈ wsG := zw_in (i := 551) (by decide +kernel) rfl
theorem mc_X1_order : Cond.code yX1_order cX1_order 5 (some .int) ∈ wsG := zw_in (i := 552) (by decide +kernel) rfl
theorem ml_L_115 : Cond.methodLink RL 115 yL_noted ∈ wsG := zw_in (i := 369) (by decide +kernel) rfl
theorem mt_L_noted : Cond.static yL_noted ∈ wsG := zw_in (i := 370) (by decide +kernel) rfl
theorem mc_L_noted : Cond.codeWith yL_noted cL_noted 4 (some .int) [(0, 9, 12, 47)] ∈ wsG := zw_in (i := 371) (by decide +kernel) rfl
theorem ml_L_117 : Cond.methodLink RL 117 yX1_noted ∈ wsG := zw_in (i := 553) (by decide +kernel) rfl
theorem mm_X1_noted : Cond.instanceMethod yX1_noted ∈ wsG := zw_in (i := 554) (by decide +kernel) rfl
theorem ms_X1_noted : Cond.selects RX1 yX1_noted yX1_noted ∈ wsG := zw_in (i := 555) (by decide +kernel) rfl
theorem mc_X1_noted : Cond.code yX1_noted cX1_noted 2 (some .int) ∈ wsG := zw_in (i := 556) (by decide +kernel) rfl
theorem ml_L_118 : Cond.methodLink RL 118 yL_figure ∈ wsG := zw_in (i := 377) (by decide +kernel) rfl
theorem mt_L_figure : Cond.static yL_figure ∈ wsG := zw_in (i := 378) (by decide +kernel) rfl
theorem mc_L_figure : Cond.codeWith yL_figure cL_figure 4 (some .int) [(0, 9, 12, 13)] ∈ wsG := zw_in (i := 379) (by decide +kernel) rfl
theorem ml_L_120 : Cond.methodLink RL 120 yX1_figure ∈ wsG := zw_in (i := 557) (by decide +kernel) rfl
theorem mm_X1_figure : Cond.instanceMethod yX1_figure ∈ wsG := zw_in (i := 558) (by decide +kernel) rfl
theorem ms_X1_figure : Cond.selects RX1 yX1_figure yX1_figure ∈ wsG := zw_in (i := 559) (by decide +kernel) rfl
theorem mc_X1_figure : Cond.code yX1_figure cX1_figure 2 (some .int) ∈ wsG := zw_in (i := 560) (by decide +kernel) rfl
theorem mn_X0 : Cond.instantiable RX0 13 ∈ wsG := zw_in (i := 12) (by decide +kernel) rfl
theorem mn_X1 : Cond.instantiable RX1 15 ∈ wsG := zw_in (i := 386) (by decide +kernel) rfl
theorem mk_LX0 : Cond.classLink RL 8 RX0 ∈ wsG := zw_in (i := 11) (by decide +kernel) rfl
theorem mk_LX1 : Cond.classLink RL 64 RX1 ∈ wsG := zw_in (i := 385) (by decide +kernel) rfl
theorem mcl_75 : Cond.constantLong RL 75 4294967295 ∈ wsG := zw_in (i := 561) (by decide +kernel) rfl
theorem ma_long : Cond.arrayClass .long ∈ wsG := zw_in (i := 62) (by decide +kernel) rfl
theorem ma_int : Cond.arrayClass .int ∈ wsG := zw_in (i := 63) (by decide +kernel) rfl
theorem ma_boolean : Cond.arrayClass .boolean ∈ wsG := zw_in (i := 437) (by decide +kernel) rfl
theorem gX0_init_J7_fill : GoodIn wsX0_init (va_wsS RX0 30 yJ7_fill wsJ7_fill) := zw_S ml_X0_30 mt_J7_fill mi_J7 mc_J7_fill
theorem gX0_check_X0_noteSlot : GoodIn wsX0_check (wsV RX0 110 RX0 yX0_noteSlot wsX0_noteSlot) := zw_V ml_X0_110 mm_X0_noteSlot ms_X0_noteSlot mi_X0 mc_X0_noteSlot
theorem gX0_crash_X0_stopMachine : GoodIn wsX0_crash (wsV RX0 87 RX0 yX0_stopMachine wsX0_stopMachine) := zw_V ml_X0_87 mm_X0_stopMachine ms_X0_stopMachine mi_X0 mc_X0_stopMachine
theorem gX0_crash_X0_countFull : GoodIn wsX0_crash (wsV RX0 113 RX0 yX0_countFull wsX0_countFull) := zw_V ml_X0_113 mm_X0_countFull ms_X0_countFull mi_X0 mc_X0_countFull
theorem gX0_lose_X0_countDirty : GoodIn wsX0_lose (wsV RX0 116 RX0 yX0_countDirty wsX0_countDirty) := zw_V ml_X0_116 mm_X0_countDirty ms_X0_countDirty mi_X0 mc_X0_countDirty
theorem gX0_lose_J7_fill : GoodIn wsX0_lose (va_wsS RX0 30 yJ7_fill wsJ7_fill) := zw_S ml_X0_30 mt_J7_fill mi_J7 mc_J7_fill
theorem gX0_lose_X0_stopMachine : GoodIn wsX0_lose (wsV RX0 87 RX0 yX0_stopMachine wsX0_stopMachine) := zw_V ml_X0_87 mm_X0_stopMachine ms_X0_stopMachine mi_X0 mc_X0_stopMachine
theorem gX0_countDirty_X0_isDirty : GoodIn wsX0_countDirty (va_wsS RX0 124 yX0_isDirty wsX0_isDirty) := zw_S ml_X0_124 mt_X0_isDirty mi_X0 mc_X0_isDirty
theorem gL_read_X0_read : GoodIn wsL_read (wsV RL 7 RX0 yX0_read wsX0_read) := zw_V ml_L_7 mm_X0_read ms_X0_read mi_X0 mc_X0_read
theorem gX0_read_X0_requireBlock : GoodIn wsX0_read (va_wsS RX0 36 yX0_requireBlock wsX0_requireBlock) := zw_S ml_X0_36 mt_X0_requireBlock mi_X0 mc_X0_requireBlock
theorem gX0_read_X0_slotWith : GoodIn wsX0_read (wsV RX0 40 RX0 yX0_slotWith wsX0_slotWith) := zw_V ml_X0_40 mm_X0_slotWith ms_X0_slotWith mi_X0 mc_X0_slotWith
theorem gX0_read_X0_useSlot : GoodIn wsX0_read (wsV RX0 47 RX0 yX0_useSlot wsX0_useSlot) := zw_V ml_X0_47 mm_X0_useSlot ms_X0_useSlot mi_X0 mc_X0_useSlot
theorem gX0_read_X0_findRoom : GoodIn wsX0_read (wsV RX0 56 RX0 yX0_findRoom wsX0_findRoom) := zw_V ml_X0_56 mm_X0_findRoom ms_X0_findRoom mi_X0 mc_X0_findRoom
theorem gX0_read_X0_keepClean : GoodIn wsX0_read (wsV RX0 60 RX0 yX0_keepClean wsX0_keepClean) := zw_V ml_X0_60 mm_X0_keepClean ms_X0_keepClean mi_X0 mc_X0_keepClean
theorem gX0_slotWith_X0_blockOf : GoodIn wsX0_slotWith (va_wsS RX0 104 yX0_blockOf wsX0_blockOf) := zw_S ml_X0_104 mt_X0_blockOf mi_X0 mc_X0_blockOf
theorem gX0_findRoom_X0_writeBackIfDirty : GoodIn wsX0_findRoom (wsV RX0 100 RX0 yX0_writeBackIfDirty wsX0_writeBackIfDirty) := zw_V ml_X0_100 mm_X0_writeBackIfDirty ms_X0_writeBackIfDirty mi_X0 mc_X0_writeBackIfDirty
theorem gX0_findRoom_X0_makeEmpty : GoodIn wsX0_findRoom (wsV RX0 159 RX0 yX0_makeEmpty wsX0_makeEmpty) := zw_V ml_X0_159 mm_X0_makeEmpty ms_X0_makeEmpty mi_X0 mc_X0_makeEmpty
theorem gX0_writeBackIfDirty_X0_isDirty : GoodIn wsX0_writeBackIfDirty (va_wsS RX0 124 yX0_isDirty wsX0_isDirty) := zw_S ml_X0_124 mt_X0_isDirty mi_X0 mc_X0_isDirty
theorem gX0_writeBackIfDirty_X0_blockOf : GoodIn wsX0_writeBackIfDirty (va_wsS RX0 104 yX0_blockOf wsX0_blockOf) := zw_S ml_X0_104 mt_X0_blockOf mi_X0 mc_X0_blockOf
theorem gX0_writeBackIfDirty_X0_giveOrigin : GoodIn wsX0_writeBackIfDirty (wsV RX0 153 RX0 yX0_giveOrigin wsX0_giveOrigin) := zw_V ml_X0_153 mm_X0_giveOrigin ms_X0_giveOrigin mi_X0 mc_X0_giveOrigin
theorem gX0_writeBackIfDirty_X0_makeClean : GoodIn wsX0_writeBackIfDirty (wsV RX0 156 RX0 yX0_makeClean wsX0_makeClean) := zw_V ml_X0_156 mm_X0_makeClean ms_X0_makeClean mi_X0 mc_X0_makeClean
theorem gX0_makeClean_X0_blockOf : GoodIn wsX0_makeClean (va_wsS RX0 104 yX0_blockOf wsX0_blockOf) := zw_S ml_X0_104 mt_X0_blockOf mi_X0 mc_X0_blockOf
theorem gX0_makeClean_X0_cleanForm : GoodIn wsX0_makeClean (va_wsS RX0 150 yX0_cleanForm wsX0_cleanForm) := zw_S ml_X0_150 mt_X0_cleanForm mi_X0 mc_X0_cleanForm
theorem gX0_makeClean_X0_isDirty : GoodIn wsX0_makeClean (va_wsS RX0 124 yX0_isDirty wsX0_isDirty) := zw_S ml_X0_124 mt_X0_isDirty mi_X0 mc_X0_isDirty
theorem gX0_makeClean_X0_noteSlot : GoodIn wsX0_makeClean (wsV RX0 110 RX0 yX0_noteSlot wsX0_noteSlot) := zw_V ml_X0_110 mm_X0_noteSlot ms_X0_noteSlot mi_X0 mc_X0_noteSlot
theorem gX0_makeEmpty_X0_noteSlot : GoodIn wsX0_makeEmpty (wsV RX0 110 RX0 yX0_noteSlot wsX0_noteSlot) := zw_V ml_X0_110 mm_X0_noteSlot ms_X0_noteSlot mi_X0 mc_X0_noteSlot
theorem gX0_keepClean_X0_cleanForm : GoodIn wsX0_keepClean (va_wsS RX0 150 yX0_cleanForm wsX0_cleanForm) := zw_S ml_X0_150 mt_X0_cleanForm mi_X0 mc_X0_cleanForm
theorem gX0_keepClean_X0_useSlot : GoodIn wsX0_keepClean (wsV RX0 47 RX0 yX0_useSlot wsX0_useSlot) := zw_V ml_X0_47 mm_X0_useSlot ms_X0_useSlot mi_X0 mc_X0_useSlot
theorem gL_write_X0_write : GoodIn wsL_write (wsV RL 15 RX0 yX0_write wsX0_write) := zw_V ml_L_15 mm_X0_write ms_X0_write mi_X0 mc_X0_write
theorem gX0_write_X0_requireBlock : GoodIn wsX0_write (va_wsS RX0 36 yX0_requireBlock wsX0_requireBlock) := zw_S ml_X0_36 mt_X0_requireBlock mi_X0 mc_X0_requireBlock
theorem gX0_write_X0_writeThrough : GoodIn wsX0_write (wsV RX0 64 RX0 yX0_writeThrough wsX0_writeThrough) := zw_V ml_X0_64 mm_X0_writeThrough ms_X0_writeThrough mi_X0 mc_X0_writeThrough
theorem gX0_write_X0_writePast : GoodIn wsX0_write (wsV RX0 68 RX0 yX0_writePast wsX0_writePast) := zw_V ml_X0_68 mm_X0_writePast ms_X0_writePast mi_X0 mc_X0_writePast
theorem gX0_write_X0_writeInSteps : GoodIn wsX0_write (wsV RX0 71 RX0 yX0_writeInSteps wsX0_writeInSteps) := zw_V ml_X0_71 mm_X0_writeInSteps ms_X0_writeInSteps mi_X0 mc_X0_writeInSteps
theorem gX0_writeThrough_X0_giveOrigin : GoodIn wsX0_writeThrough (wsV RX0 153 RX0 yX0_giveOrigin wsX0_giveOrigin) := zw_V ml_X0_153 mm_X0_giveOrigin ms_X0_giveOrigin mi_X0 mc_X0_giveOrigin
theorem gX0_writeThrough_X0_slotWith : GoodIn wsX0_writeThrough (wsV RX0 40 RX0 yX0_slotWith wsX0_slotWith) := zw_V ml_X0_40 mm_X0_slotWith ms_X0_slotWith mi_X0 mc_X0_slotWith
theorem gX0_writeThrough_X0_makeClean : GoodIn wsX0_writeThrough (wsV RX0 156 RX0 yX0_makeClean wsX0_makeClean) := zw_V ml_X0_156 mm_X0_makeClean ms_X0_makeClean mi_X0 mc_X0_makeClean
theorem gX0_writeThrough_X0_useSlot : GoodIn wsX0_writeThrough (wsV RX0 47 RX0 yX0_useSlot wsX0_useSlot) := zw_V ml_X0_47 mm_X0_useSlot ms_X0_useSlot mi_X0 mc_X0_useSlot
theorem gX0_writePast_X0_giveOrigin : GoodIn wsX0_writePast (wsV RX0 153 RX0 yX0_giveOrigin wsX0_giveOrigin) := zw_V ml_X0_153 mm_X0_giveOrigin ms_X0_giveOrigin mi_X0 mc_X0_giveOrigin
theorem gX0_writePast_X0_slotWith : GoodIn wsX0_writePast (wsV RX0 40 RX0 yX0_slotWith wsX0_slotWith) := zw_V ml_X0_40 mm_X0_slotWith ms_X0_slotWith mi_X0 mc_X0_slotWith
theorem gX0_writePast_X0_makeEmpty : GoodIn wsX0_writePast (wsV RX0 159 RX0 yX0_makeEmpty wsX0_makeEmpty) := zw_V ml_X0_159 mm_X0_makeEmpty ms_X0_makeEmpty mi_X0 mc_X0_makeEmpty
theorem gX0_writeInSteps_X0_slotWith : GoodIn wsX0_writeInSteps (wsV RX0 40 RX0 yX0_slotWith wsX0_slotWith) := zw_V ml_X0_40 mm_X0_slotWith ms_X0_slotWith mi_X0 mc_X0_slotWith
theorem gX0_writeInSteps_X0_findRoom : GoodIn wsX0_writeInSteps (wsV RX0 56 RX0 yX0_findRoom wsX0_findRoom) := zw_V ml_X0_56 mm_X0_findRoom ms_X0_findRoom mi_X0 mc_X0_findRoom
theorem gX0_writeInSteps_X0_fillInSteps : GoodIn wsX0_writeInSteps (wsV RX0 162 RX0 yX0_fillInSteps wsX0_fillInSteps) := zw_V ml_X0_162 mm_X0_fillInSteps ms_X0_fillInSteps mi_X0 mc_X0_fillInSteps
theorem gX0_writeInSteps_X0_dirtyForm : GoodIn wsX0_writeInSteps (va_wsS RX0 166 yX0_dirtyForm wsX0_dirtyForm) := zw_S ml_X0_166 mt_X0_dirtyForm mi_X0 mc_X0_dirtyForm
theorem gX0_writeInSteps_X0_overwriteDirty : GoodIn wsX0_writeInSteps (wsV RX0 169 RX0 yX0_overwriteDirty wsX0_overwriteDirty) := zw_V ml_X0_169 mm_X0_overwriteDirty ms_X0_overwriteDirty mi_X0 mc_X0_overwriteDirty
theorem gX0_writeInSteps_X0_overwriteClean : GoodIn wsX0_writeInSteps (wsV RX0 172 RX0 yX0_overwriteClean wsX0_overwriteClean) := zw_V ml_X0_172 mm_X0_overwriteClean ms_X0_overwriteClean mi_X0 mc_X0_overwriteClean
theorem gX0_writeInSteps_X0_useSlot : GoodIn wsX0_writeInSteps (wsV RX0 47 RX0 yX0_useSlot wsX0_useSlot) := zw_V ml_X0_47 mm_X0_useSlot ms_X0_useSlot mi_X0 mc_X0_useSlot
theorem gX0_fillInSteps_X0_dirtyForm : GoodIn wsX0_fillInSteps (va_wsS RX0 166 yX0_dirtyForm wsX0_dirtyForm) := zw_S ml_X0_166 mt_X0_dirtyForm mi_X0 mc_X0_dirtyForm
theorem gX0_fillInSteps_X0_noteSlot : GoodIn wsX0_fillInSteps (wsV RX0 110 RX0 yX0_noteSlot wsX0_noteSlot) := zw_V ml_X0_110 mm_X0_noteSlot ms_X0_noteSlot mi_X0 mc_X0_noteSlot
theorem gX0_overwriteDirty_X0_dirtyForm : GoodIn wsX0_overwriteDirty (va_wsS RX0 166 yX0_dirtyForm wsX0_dirtyForm) := zw_S ml_X0_166 mt_X0_dirtyForm mi_X0 mc_X0_dirtyForm
theorem gX0_overwriteClean_X0_dirtyForm : GoodIn wsX0_overwriteClean (va_wsS RX0 166 yX0_dirtyForm wsX0_dirtyForm) := zw_S ml_X0_166 mt_X0_dirtyForm mi_X0 mc_X0_dirtyForm
theorem gX0_overwriteClean_X0_noteSlot : GoodIn wsX0_overwriteClean (wsV RX0 110 RX0 yX0_noteSlot wsX0_noteSlot) := zw_V ml_X0_110 mm_X0_noteSlot ms_X0_noteSlot mi_X0 mc_X0_noteSlot
theorem gL_cut_X0_cut : GoodIn wsL_cut (wsV RL 19 RX0 yX0_cut wsX0_cut) := zw_V ml_L_19 mm_X0_cut ms_X0_cut mi_X0 mc_X0_cut
theorem gX0_cut_X0_requireBlock : GoodIn wsX0_cut (va_wsS RX0 36 yX0_requireBlock wsX0_requireBlock) := zw_S ml_X0_36 mt_X0_requireBlock mi_X0 mc_X0_requireBlock
theorem gX0_cut_X0_writeInSteps : GoodIn wsX0_cut (wsV RX0 71 RX0 yX0_writeInSteps wsX0_writeInSteps) := zw_V ml_X0_71 mm_X0_writeInSteps ms_X0_writeInSteps mi_X0 mc_X0_writeInSteps
theorem gX0_cut_X0_stopMachine : GoodIn wsX0_cut (wsV RX0 87 RX0 yX0_stopMachine wsX0_stopMachine) := zw_V ml_X0_87 mm_X0_stopMachine ms_X0_stopMachine mi_X0 mc_X0_stopMachine
theorem gL_mode_X0_mode : GoodIn wsL_mode (wsV RL 25 RX0 yX0_mode wsX0_mode) := zw_V ml_L_25 mm_X0_mode ms_X0_mode mi_X0 mc_X0_mode
theorem gX0_mode_X0_writeAllBack : GoodIn wsX0_mode (wsV RX0 92 RX0 yX0_writeAllBack wsX0_writeAllBack) := zw_V ml_X0_92 mm_X0_writeAllBack ms_X0_writeAllBack mi_X0 mc_X0_writeAllBack
theorem gX0_writeAllBack_X0_writeBackIfDirty : GoodIn wsX0_writeAllBack (wsV RX0 100 RX0 yX0_writeBackIfDirty wsX0_writeBackIfDirty) := zw_V ml_X0_100 mm_X0_writeBackIfDirty ms_X0_writeBackIfDirty mi_X0 mc_X0_writeBackIfDirty
theorem gL_back_X0_back : GoodIn wsL_back (wsV RL 29 RX0 yX0_back wsX0_back) := zw_V ml_L_29 mm_X0_back ms_X0_back mi_X0 mc_X0_back
theorem gX0_back_X0_nextForHand : GoodIn wsX0_back (wsV RX0 97 RX0 yX0_nextForHand wsX0_nextForHand) := zw_V ml_X0_97 mm_X0_nextForHand ms_X0_nextForHand mi_X0 mc_X0_nextForHand
theorem gX0_back_X0_writeBackIfDirty : GoodIn wsX0_back (wsV RX0 100 RX0 yX0_writeBackIfDirty wsX0_writeBackIfDirty) := zw_V ml_X0_100 mm_X0_writeBackIfDirty ms_X0_writeBackIfDirty mi_X0 mc_X0_writeBackIfDirty
theorem gX0_back_X0_blockOf : GoodIn wsX0_back (va_wsS RX0 104 yX0_blockOf wsX0_blockOf) := zw_S ml_X0_104 mt_X0_blockOf mi_X0 mc_X0_blockOf
theorem gX0_nextForHand_X0_leastDirtyFrom : GoodIn wsX0_nextForHand (wsV RX0 175 RX0 yX0_leastDirtyFrom wsX0_leastDirtyFrom) := zw_V ml_X0_175 mm_X0_leastDirtyFrom ms_X0_leastDirtyFrom mi_X0 mc_X0_leastDirtyFrom
theorem gX0_leastDirtyFrom_X0_blockOf : GoodIn wsX0_leastDirtyFrom (va_wsS RX0 104 yX0_blockOf wsX0_blockOf) := zw_S ml_X0_104 mt_X0_blockOf mi_X0 mc_X0_blockOf
theorem gX0_leastDirtyFrom_X0_isDirty : GoodIn wsX0_leastDirtyFrom (va_wsS RX0 124 yX0_isDirty wsX0_isDirty) := zw_S ml_X0_124 mt_X0_isDirty mi_X0 mc_X0_isDirty
theorem gL_slot_X0_slot : GoodIn wsL_slot (wsV RL 32 RX0 yX0_slot wsX0_slot) := zw_V ml_L_32 mm_X0_slot ms_X0_slot mi_X0 mc_X0_slot
theorem gX0_slot_X0_requireBlock : GoodIn wsX0_slot (va_wsS RX0 36 yX0_requireBlock wsX0_requireBlock) := zw_S ml_X0_36 mt_X0_requireBlock mi_X0 mc_X0_requireBlock
theorem gX0_slot_X0_slotWith : GoodIn wsX0_slot (wsV RX0 40 RX0 yX0_slotWith wsX0_slotWith) := zw_V ml_X0_40 mm_X0_slotWith ms_X0_slotWith mi_X0 mc_X0_slotWith
theorem gL_dirty_X0_dirty : GoodIn wsL_dirty (wsV RL 35 RX0 yX0_dirty wsX0_dirty) := zw_V ml_L_35 mm_X0_dirty ms_X0_dirty mi_X0 mc_X0_dirty
theorem gX0_dirty_X0_requireBlock : GoodIn wsX0_dirty (va_wsS RX0 36 yX0_requireBlock wsX0_requireBlock) := zw_S ml_X0_36 mt_X0_requireBlock mi_X0 mc_X0_requireBlock
theorem gX0_dirty_X0_slotWith : GoodIn wsX0_dirty (wsV RX0 40 RX0 yX0_slotWith wsX0_slotWith) := zw_V ml_X0_40 mm_X0_slotWith ms_X0_slotWith mi_X0 mc_X0_slotWith
theorem gX0_dirty_X0_isDirty : GoodIn wsX0_dirty (va_wsS RX0 124 yX0_isDirty wsX0_isDirty) := zw_S ml_X0_124 mt_X0_isDirty mi_X0 mc_X0_isDirty
theorem gL_origin_X0_origin : GoodIn wsL_origin (wsV RL 41 RX0 yX0_origin wsX0_origin) := zw_V ml_L_41 mm_X0_origin ms_X0_origin mi_X0 mc_X0_origin
theorem gX0_origin_X0_requireBlock : GoodIn wsX0_origin (va_wsS RX0 36 yX0_requireBlock wsX0_requireBlock) := zw_S ml_X0_36 mt_X0_requireBlock mi_X0 mc_X0_requireBlock
theorem gL_order_X0_order : GoodIn wsL_order (wsV RL 44 RX0 yX0_order wsX0_order) := zw_V ml_L_44 mm_X0_order ms_X0_order mi_X0 mc_X0_order
theorem gX0_order_X0_countUsedAfter : GoodIn wsX0_order (wsV RX0 127 RX0 yX0_countUsedAfter wsX0_countUsedAfter) := zw_V ml_X0_127 mm_X0_countUsedAfter ms_X0_countUsedAfter mi_X0 mc_X0_countUsedAfter
theorem gX0_order_X0_blockOf : GoodIn wsX0_order (va_wsS RX0 104 yX0_blockOf wsX0_blockOf) := zw_S ml_X0_104 mt_X0_blockOf mi_X0 mc_X0_blockOf
theorem gL_noted_X0_noted : GoodIn wsL_noted (wsV RL 49 RX0 yX0_noted wsX0_noted) := zw_V ml_L_49 mm_X0_noted ms_X0_noted mi_X0 mc_X0_noted
theorem gL_figure_X0_figure : GoodIn wsL_figure (wsV RL 52 RX0 yX0_figure wsX0_figure) := zw_V ml_L_52 mm_X0_figure ms_X0_figure mi_X0 mc_X0_figure
theorem gX0_figure_X0_countFull : GoodIn wsX0_figure (wsV RX0 113 RX0 yX0_countFull wsX0_countFull) := zw_V ml_X0_113 mm_X0_countFull ms_X0_countFull mi_X0 mc_X0_countFull
theorem gX0_figure_X0_countDirty : GoodIn wsX0_figure (wsV RX0 116 RX0 yX0_countDirty wsX0_countDirty) := zw_V ml_X0_116 mm_X0_countDirty ms_X0_countDirty mi_X0 mc_X0_countDirty
theorem gX1_read_X1_isBlock : GoodIn wsX1_read (va_wsS RX1 72 yX1_isBlock wsX1_isBlock) := zw_S ml_X1_72 mt_X1_isBlock mi_X1 mc_X1_isBlock
theorem gX1_read_X1_find : GoodIn wsX1_read (wsV RX1 75 RX1 yX1_find wsX1_find) := zw_V ml_X1_75 mm_X1_find ms_X1_find mi_X1 mc_X1_find
theorem gX1_read_X1_use : GoodIn wsX1_read (wsV RX1 81 RX1 yX1_use wsX1_use) := zw_V ml_X1_81 mm_X1_use ms_X1_use mi_X1 mc_X1_use
theorem gX1_read_X1_room : GoodIn wsX1_read (wsV RX1 90 RX1 yX1_room wsX1_room) := zw_V ml_X1_90 mm_X1_room ms_X1_room mi_X1 mc_X1_room
theorem gX1_room_X1_writeBack : GoodIn wsX1_room (wsV RX1 66 RX1 yX1_writeBack wsX1_writeBack) := zw_V ml_X1_66 mm_X1_writeBack ms_X1_writeBack mi_X1 mc_X1_writeBack
theorem gX1_room_X1_empty : GoodIn wsX1_room (wsV RX1 69 RX1 yX1_empty wsX1_empty) := zw_V ml_X1_69 mm_X1_empty ms_X1_empty mi_X1 mc_X1_empty
theorem gX1_writeBack_X1_give : GoodIn wsX1_writeBack (wsV RX1 59 RX1 yX1_give wsX1_give) := zw_V ml_X1_59 mm_X1_give ms_X1_give mi_X1 mc_X1_give
theorem gX1_writeBack_X1_clean : GoodIn wsX1_writeBack (wsV RX1 63 RX1 yX1_clean wsX1_clean) := zw_V ml_X1_63 mm_X1_clean ms_X1_clean mi_X1 mc_X1_clean
theorem gX1_clean_X1_isNotedDirty : GoodIn wsX1_clean (wsV RX1 51 RX1 yX1_isNotedDirty wsX1_isNotedDirty) := zw_V ml_X1_51 mm_X1_isNotedDirty ms_X1_isNotedDirty mi_X1 mc_X1_isNotedDirty
theorem gX1_clean_X1_noteSlot : GoodIn wsX1_clean (wsV RX1 55 RX1 yX1_noteSlot wsX1_noteSlot) := zw_V ml_X1_55 mm_X1_noteSlot ms_X1_noteSlot mi_X1 mc_X1_noteSlot
theorem gX1_noteSlot_X1_soOf : GoodIn wsX1_noteSlot (wsV RX1 37 RX1 yX1_soOf wsX1_soOf) := zw_V ml_X1_37 mm_X1_soOf ms_X1_soOf mi_X1 mc_X1_soOf
theorem gX1_empty_X1_noteSlot : GoodIn wsX1_empty (wsV RX1 55 RX1 yX1_noteSlot wsX1_noteSlot) := zw_V ml_X1_55 mm_X1_noteSlot ms_X1_noteSlot mi_X1 mc_X1_noteSlot
theorem gX1_write_X1_isBlock : GoodIn wsX1_write (va_wsS RX1 72 yX1_isBlock wsX1_isBlock) := zw_S ml_X1_72 mt_X1_isBlock mi_X1 mc_X1_isBlock
theorem gX1_write_X1_find : GoodIn wsX1_write (wsV RX1 75 RX1 yX1_find wsX1_find) := zw_V ml_X1_75 mm_X1_find ms_X1_find mi_X1 mc_X1_find
theorem gX1_write_X1_steps : GoodIn wsX1_write (wsV RX1 94 RX1 yX1_steps wsX1_steps) := zw_V ml_X1_94 mm_X1_steps ms_X1_steps mi_X1 mc_X1_steps
theorem gX1_write_X1_give : GoodIn wsX1_write (wsV RX1 59 RX1 yX1_give wsX1_give) := zw_V ml_X1_59 mm_X1_give ms_X1_give mi_X1 mc_X1_give
theorem gX1_write_X1_clean : GoodIn wsX1_write (wsV RX1 63 RX1 yX1_clean wsX1_clean) := zw_V ml_X1_63 mm_X1_clean ms_X1_clean mi_X1 mc_X1_clean
theorem gX1_write_X1_use : GoodIn wsX1_write (wsV RX1 81 RX1 yX1_use wsX1_use) := zw_V ml_X1_81 mm_X1_use ms_X1_use mi_X1 mc_X1_use
theorem gX1_write_X1_empty : GoodIn wsX1_write (wsV RX1 69 RX1 yX1_empty wsX1_empty) := zw_V ml_X1_69 mm_X1_empty ms_X1_empty mi_X1 mc_X1_empty
theorem gX1_steps_X1_find : GoodIn wsX1_steps (wsV RX1 75 RX1 yX1_find wsX1_find) := zw_V ml_X1_75 mm_X1_find ms_X1_find mi_X1 mc_X1_find
theorem gX1_steps_X1_room : GoodIn wsX1_steps (wsV RX1 90 RX1 yX1_room wsX1_room) := zw_V ml_X1_90 mm_X1_room ms_X1_room mi_X1 mc_X1_room
theorem gX1_steps_X1_noteSlot : GoodIn wsX1_steps (wsV RX1 55 RX1 yX1_noteSlot wsX1_noteSlot) := zw_V ml_X1_55 mm_X1_noteSlot ms_X1_noteSlot mi_X1 mc_X1_noteSlot
theorem gX1_steps_X1_use : GoodIn wsX1_steps (wsV RX1 81 RX1 yX1_use wsX1_use) := zw_V ml_X1_81 mm_X1_use ms_X1_use mi_X1 mc_X1_use
theorem gX1_cut_X1_isBlock : GoodIn wsX1_cut (va_wsS RX1 72 yX1_isBlock wsX1_isBlock) := zw_S ml_X1_72 mt_X1_isBlock mi_X1 mc_X1_isBlock
theorem gX1_cut_X1_steps : GoodIn wsX1_cut (wsV RX1 94 RX1 yX1_steps wsX1_steps) := zw_V ml_X1_94 mm_X1_steps ms_X1_steps mi_X1 mc_X1_steps
theorem gX1_cut_X1_stop : GoodIn wsX1_cut (wsV RX1 101 RX1 yX1_stop wsX1_stop) := zw_V ml_X1_101 mm_X1_stop ms_X1_stop mi_X1 mc_X1_stop
theorem gX1_stop_X1_isNotedDirty : GoodIn wsX1_stop (wsV RX1 51 RX1 yX1_isNotedDirty wsX1_isNotedDirty) := zw_V ml_X1_51 mm_X1_isNotedDirty ms_X1_isNotedDirty mi_X1 mc_X1_isNotedDirty
theorem gX1_mode_X1_writeBack : GoodIn wsX1_mode (wsV RX1 66 RX1 yX1_writeBack wsX1_writeBack) := zw_V ml_X1_66 mm_X1_writeBack ms_X1_writeBack mi_X1 mc_X1_writeBack
theorem gX1_back_X1_nextDirty : GoodIn wsX1_back (wsV RX1 104 RX1 yX1_nextDirty wsX1_nextDirty) := zw_V ml_X1_104 mm_X1_nextDirty ms_X1_nextDirty mi_X1 mc_X1_nextDirty
theorem gX1_back_X1_writeBack : GoodIn wsX1_back (wsV RX1 66 RX1 yX1_writeBack wsX1_writeBack) := zw_V ml_X1_66 mm_X1_writeBack ms_X1_writeBack mi_X1 mc_X1_writeBack
theorem gX1_check_X1_soOf : GoodIn wsX1_check (wsV RX1 37 RX1 yX1_soOf wsX1_soOf) := zw_V ml_X1_37 mm_X1_soOf ms_X1_soOf mi_X1 mc_X1_soOf
theorem gX1_check_X1_noteSlot : GoodIn wsX1_check (wsV RX1 55 RX1 yX1_noteSlot wsX1_noteSlot) := zw_V ml_X1_55 mm_X1_noteSlot ms_X1_noteSlot mi_X1 mc_X1_noteSlot
theorem gX1_crash_X1_stop : GoodIn wsX1_crash (wsV RX1 101 RX1 yX1_stop wsX1_stop) := zw_V ml_X1_101 mm_X1_stop ms_X1_stop mi_X1 mc_X1_stop
theorem gX1_crash_X1_full : GoodIn wsX1_crash (wsV RX1 107 RX1 yX1_full wsX1_full) := zw_V ml_X1_107 mm_X1_full ms_X1_full mi_X1 mc_X1_full
theorem gX1_lose_X1_dirties : GoodIn wsX1_lose (wsV RX1 110 RX1 yX1_dirties wsX1_dirties) := zw_V ml_X1_110 mm_X1_dirties ms_X1_dirties mi_X1 mc_X1_dirties
theorem gX1_lose_X1_stop : GoodIn wsX1_lose (wsV RX1 101 RX1 yX1_stop wsX1_stop) := zw_V ml_X1_101 mm_X1_stop ms_X1_stop mi_X1 mc_X1_stop
theorem gX1_slot_X1_isBlock : GoodIn wsX1_slot (va_wsS RX1 72 yX1_isBlock wsX1_isBlock) := zw_S ml_X1_72 mt_X1_isBlock mi_X1 mc_X1_isBlock
theorem gX1_slot_X1_find : GoodIn wsX1_slot (wsV RX1 75 RX1 yX1_find wsX1_find) := zw_V ml_X1_75 mm_X1_find ms_X1_find mi_X1 mc_X1_find
theorem gX1_dirty_X1_isBlock : GoodIn wsX1_dirty (va_wsS RX1 72 yX1_isBlock wsX1_isBlock) := zw_S ml_X1_72 mt_X1_isBlock mi_X1 mc_X1_isBlock
theorem gX1_dirty_X1_find : GoodIn wsX1_dirty (wsV RX1 75 RX1 yX1_find wsX1_find) := zw_V ml_X1_75 mm_X1_find ms_X1_find mi_X1 mc_X1_find
theorem gX1_origin_X1_isBlock : GoodIn wsX1_origin (va_wsS RX1 72 yX1_isBlock wsX1_isBlock) := zw_S ml_X1_72 mt_X1_isBlock mi_X1 mc_X1_isBlock
theorem gX1_figure_X1_full : GoodIn wsX1_figure (wsV RX1 107 RX1 yX1_full wsX1_full) := zw_V ml_X1_107 mm_X1_full ms_X1_full mi_X1 mc_X1_full
theorem gX1_figure_X1_dirties : GoodIn wsX1_figure (wsV RX1 110 RX1 yX1_dirties wsX1_dirties) := zw_V ml_X1_110 mm_X1_dirties ms_X1_dirties mi_X1 mc_X1_dirties
theorem gL_law_L_cell : GoodIn wsL_law (va_wsS RL 55 yL_cell wsL_cell) := zw_S0 ml_L_55 mt_L_cell mi_L mc_L_cell
theorem gL_law_X0_init : GoodIn wsL_law wsX0_init := zw_I0 mc_X0_init
theorem gL_law_X1_init : GoodIn wsL_law wsX1_init := zw_I0 mc_X1_init
theorem gL_law_L_read : GoodIn wsL_law (va_wsS RL 67 yL_read wsL_read) := zw_S0 ml_L_67 mt_L_read mi_L mc_L_read
theorem gL_law_X1_read : GoodIn wsL_law (wsV RL 70 RX1 yX1_read wsX1_read) := zw_V0 ml_L_70 mm_X1_read ms_X1_read mi_X1 mc_X1_read
theorem gL_law_X1_thrown : GoodIn wsL_law (wsV RL 71 RX1 yX1_thrown wsX1_thrown) := zw_V0 ml_L_71 mm_X1_thrown ms_X1_thrown mi_X1 mc_X1_thrown
theorem gL_law_L_write : GoodIn wsL_law (va_wsS RL 77 yL_write wsL_write) := zw_S0 ml_L_77 mt_L_write mi_L mc_L_write
theorem gL_law_X1_write : GoodIn wsL_law (wsV RL 80 RX1 yX1_write wsX1_write) := zw_V0 ml_L_80 mm_X1_write ms_X1_write mi_X1 mc_X1_write
theorem gL_law_L_cut : GoodIn wsL_law (va_wsS RL 81 yL_cut wsL_cut) := zw_S0 ml_L_81 mt_L_cut mi_L mc_L_cut
theorem gL_law_X1_cut : GoodIn wsL_law (wsV RL 84 RX1 yX1_cut wsX1_cut) := zw_V0 ml_L_84 mm_X1_cut ms_X1_cut mi_X1 mc_X1_cut
theorem gL_law_L_mode : GoodIn wsL_law (va_wsS RL 85 yL_mode wsL_mode) := zw_S0 ml_L_85 mt_L_mode mi_L mc_L_mode
theorem gL_law_X1_mode : GoodIn wsL_law (wsV RL 87 RX1 yX1_mode wsX1_mode) := zw_V0 ml_L_87 mm_X1_mode ms_X1_mode mi_X1 mc_X1_mode
theorem gL_law_L_back : GoodIn wsL_law (va_wsS RL 88 yL_back wsL_back) := zw_S0 ml_L_88 mt_L_back mi_L mc_L_back
theorem gL_law_X1_back : GoodIn wsL_law (wsV RL 90 RX1 yX1_back wsX1_back) := zw_V0 ml_L_90 mm_X1_back ms_X1_back mi_X1 mc_X1_back
theorem gL_law_X0_check : GoodIn wsL_law (wsV RL 91 RX0 yX0_check wsX0_check) := zw_V0 ml_L_91 mm_X0_check ms_X0_check mi_X0 mc_X0_check
theorem gL_law_X1_check : GoodIn wsL_law (wsV RL 94 RX1 yX1_check wsX1_check) := zw_V0 ml_L_94 mm_X1_check ms_X1_check mi_X1 mc_X1_check
theorem gL_law_X0_crash : GoodIn wsL_law (wsV RL 95 RX0 yX0_crash wsX0_crash) := zw_V0 ml_L_95 mm_X0_crash ms_X0_crash mi_X0 mc_X0_crash
theorem gL_law_X1_crash : GoodIn wsL_law (wsV RL 98 RX1 yX1_crash wsX1_crash) := zw_V0 ml_L_98 mm_X1_crash ms_X1_crash mi_X1 mc_X1_crash
theorem gL_law_X0_lose : GoodIn wsL_law (wsV RL 99 RX0 yX0_lose wsX0_lose) := zw_V0 ml_L_99 mm_X0_lose ms_X0_lose mi_X0 mc_X0_lose
theorem gL_law_X1_lose : GoodIn wsL_law (wsV RL 102 RX1 yX1_lose wsX1_lose) := zw_V0 ml_L_102 mm_X1_lose ms_X1_lose mi_X1 mc_X1_lose
theorem gL_law_L_slot : GoodIn wsL_law (va_wsS RL 103 yL_slot wsL_slot) := zw_S0 ml_L_103 mt_L_slot mi_L mc_L_slot
theorem gL_law_X1_slot : GoodIn wsL_law (wsV RL 105 RX1 yX1_slot wsX1_slot) := zw_V0 ml_L_105 mm_X1_slot ms_X1_slot mi_X1 mc_X1_slot
theorem gL_law_L_dirty : GoodIn wsL_law (va_wsS RL 106 yL_dirty wsL_dirty) := zw_S0 ml_L_106 mt_L_dirty mi_L mc_L_dirty
theorem gL_law_X1_dirty : GoodIn wsL_law (wsV RL 108 RX1 yX1_dirty wsX1_dirty) := zw_V0 ml_L_108 mm_X1_dirty ms_X1_dirty mi_X1 mc_X1_dirty
theorem gL_law_L_origin : GoodIn wsL_law (va_wsS RL 109 yL_origin wsL_origin) := zw_S0 ml_L_109 mt_L_origin mi_L mc_L_origin
theorem gL_law_X1_origin : GoodIn wsL_law (wsV RL 111 RX1 yX1_origin wsX1_origin) := zw_V0 ml_L_111 mm_X1_origin ms_X1_origin mi_X1 mc_X1_origin
theorem gL_law_L_order : GoodIn wsL_law (va_wsS RL 112 yL_order wsL_order) := zw_S0 ml_L_112 mt_L_order mi_L mc_L_order
theorem gL_law_X1_order : GoodIn wsL_law (wsV RL 114 RX1 yX1_order wsX1_order) := zw_V0 ml_L_114 mm_X1_order ms_X1_order mi_X1 mc_X1_order
theorem gL_law_L_noted : GoodIn wsL_law (va_wsS RL 115 yL_noted wsL_noted) := zw_S0 ml_L_115 mt_L_noted mi_L mc_L_noted
theorem gL_law_X1_noted : GoodIn wsL_law (wsV RL 117 RX1 yX1_noted wsX1_noted) := zw_V0 ml_L_117 mm_X1_noted ms_X1_noted mi_X1 mc_X1_noted
theorem gL_law_L_figure : GoodIn wsL_law (va_wsS RL 118 yL_figure wsL_figure) := zw_S0 ml_L_118 mt_L_figure mi_L mc_L_figure
theorem gL_law_X1_figure : GoodIn wsL_law (wsV RL 120 RX1 yX1_figure wsX1_figure) := zw_V0 ml_L_120 mm_X1_figure ms_X1_figure mi_X1 mc_X1_figure
